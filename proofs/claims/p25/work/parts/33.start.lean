/-! MY ROWS 33: what the start gives -/
theorem CX.keep {T : ClassId × ClassId × ClassId} {L L' : List Nat} {f f' : Nat → va_E} {hx g ln : Nat} {rw : Nat → Nat} {b : Nat → Nat} {mk : Int32} {wd : Nat → List Nat} (h : CX T L f hx g ln rw b mk wd) (hk : ∀ a, a ∈ L → a ∈ L' ∧ f' a = f a) : CX T L' f' hx g ln rw b mk wd := by
  obtain ⟨⟨a1, a2⟩, ⟨c1, G, c2, c3⟩, ⟨k1, N, k2, k3⟩, i, r⟩ := h
  refine ⟨⟨(hk _ a1).1, (hk _ a1).2.trans a2⟩, ⟨(hk _ c1).1, G, (hk _ c1).2.trans c2, c3⟩, ⟨(hk _ k1).1, N, (hk _ k1).2.trans k2, k3⟩, fun w hw => ?_, r⟩
  obtain ⟨d1, g, d2, d3⟩ := i w hw
  exact ⟨(hk _ d1).1, g, (hk _ d1).2.trans d2, d3⟩
section ZS
variable {p : Program} {l : Launch} {e : Env} {R : Room} {s : State} {m : MethodId} {args : Array Value} {below : List Frame} {meth : Method} {c : Code} {H : Heap} {locs : List Loc} {cells slots : Nat} {Q : State → Prop}
variable {Ts : List Cond} {own : String} {nL : Nat} {cc : ByteArray} {pc : Nat} {ls : Array Slot} {rest : List Value} {D : va_G} {T : ClassId × ClassId × ClassId} {z0 : Nat} {L : List Nat} {f : Nat → va_E}
/-- a constructor's call -/
theorem p_ciH {y : MethodName} {n : Nat} {ws ws' : List Cond} {d maxL mc ms index : Nat} {b : Nat} {av st : List Value} {post : Option Value → List Nat → (Nat → va_E) → Prop} {bytes : ByteArray}
    (hM : HV l y ws d mc ms D z0 (zPre0 D T z0 L f) (.ref b :: av) post) (hC : CallFix p m c cc nL s args Ts own) (hE : zE D T z0 s) (hAO : va_AOA .int s) (hP : va_P D vwCl (va_pl L f) H) (hD : va_D (zA z0) (va_pl L f)) (hS : va_S (zA z0) s.heap H locs) (hg : GoodIn Ts ws) (hw : ws = Cond.code y bytes maxL none :: ws') (hini : Cond.initialized y.cls ∈ Ts) (hl : Cond.methodLink own index y ∈ Ts) (hin : Cond.instanceMethod y ∈ Ts) (hy1 : y.name = "<init>") (hd : y.cls ≠ "java/lang/invoke/MethodHandle" ∧ y.cls ≠ "java/lang/invoke/VarHandle" ∧ (parseMethodDescriptor y.desc).map (fun d => d.parameters.length) = some n) (hn : av.length = n)
    (hR : d + 1 ≤ R.frames ∧ 8 + (maxL + 11) + 60 * d ≤ R.locals) (hf : cells + mc ≤ R.cells ∧ slots + ms ≤ R.slots) (hsz : ls.size = nL) (hW : (rest.map fun v => v.category).sum ≤ 8) (hdg : decode cc pc = .ok (.invokespecial index, 3)) (hst : st = av.reverse ++ .ref b :: rest)
    (kk : ∀ (o : Option Value) (L1 : List Nat) (f1 : Nat → va_E) (H1 : Heap) (locs1 : List Loc), post o L1 f1 → va_P D vwCl (va_pl L1 f1) H1 → va_D (zA z0) (va_pl L1 f1) → va_S (zA z0) s.heap H1 locs1 → W p l e R s m args below meth c H1 locs1 (cells + mc) (slots + ms) Q (F0 m (pc + 3) ls (o.toList ++ rest))) : W p l e R s m args below meth c H locs cells slots Q (F0 m pc ls st) := by
  subst hst
  exact p_goH (va_runI (As := av) (rest := rest) hC hM (cwI n hC.2.2.2.2 hg hw rfl rfl (hC.2.2.2.2 _ hini) (hC.2.2.2.2 _ hl) (hC.2.2.2.2 _ hin) hy1 hd hR) ⟨zPre0.blind, fun U hU hW => ⟨rfl, (zPre.pass (av := .ref b :: av) hE hP hD hS U hU hW).2, AOA_moved hW.alike hAO⟩⟩ rfl hn hsz rfl (lv_room hW) hdg hf) hS kk
/-- a new object in the pool -/
theorem p_newO {Cn : String} {TT : u_T} {N ci index : Nat} {ty0 : Nat → FieldType} {fs : List Value} (hC : CallFix p m c cc nL s args Ts own) (hE : zE D T z0 s) (hP : va_P D vwCl (va_pl L f) H) (hD : va_D (zA z0) (va_pl L f)) (hS : va_S (zA z0) s.heap H locs) (hin : ∀ w ∈ u_ws Cn TT N, w ∈ Ts) (hty : ∀ k, k < N → parseFieldDescriptor (TT k).2.2.1 = some (ty0 k)) (hcl : Cond.classLink own index Cn ∈ Ts) (hinst : Cond.instantiable Cn N ∈ Ts) (hini : Cond.initialized Cn ∈ Ts) (hc : vwCl[ci]? = some (Cn, TT, N)) (hfs : ∀ j, j < N → defaultValue (ty0 j) = vp_V fs j) (hcells : cells + 1 ≤ R.cells) (hslots : slots + N ≤ R.slots) (hdg : decode cc pc = .ok (.new index, 3))
    (kk : ∀ (q : Nat) (H1 : Heap), q ∉ L → va_P D vwCl (va_pl (L ++ [q]) (va_up f q (eO ci fs))) H1 → va_D (zA z0) (va_pl (L ++ [q]) (va_up f q (eO ci fs))) → va_S (zA z0) s.heap H1 locs → W p l e R s m args below meth c H1 locs (cells + 1) (slots + N) Q (F0 m (pc + 3) ls (.ref q :: rest))) : W p l e R s m args below meth c H locs cells slots Q (F0 m pc ls rest) := by
  refine va_new (fs := fs) hC.1 hC.2.1 hC.2.2.2.2 hin ty0 hty hC.2.2.2.1 (hC.2.2.2.2 _ hcl) (hC.2.2.2.2 _ hinst) (hC.2.2.2.2 _ hini) hE.2.2 hP hD hS (zA_hA hE) hc hfs hcells hslots hdg (fun q H1 hP1 hD1 hS1 => ?_)
  have hq := pl_new hD1
  rw [va_pl_push hq] at hP1 hD1
  exact kk q H1 hq hP1 hD1 hS1
end ZS
