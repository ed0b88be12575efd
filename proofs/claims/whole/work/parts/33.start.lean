/-! MY ROWS 33: what the start gives -/
theorem str_of {args : Array Value} {s : State} {own tx : String} {k : Nat} (h1 : (Cond.exactly (.string own k) "java/lang/String").before args s = true) (h2 : (Cond.stringRef own k tx).before args s = true) : ∃ a, vk_R own k tx a s := by
  obtain ⟨a, c, cell, kk, h, -⟩ := Cond.exactly_spec h1
  exact ⟨a, vk_R.of h2 h⟩
theorem zSt_of {n : String} {V : Nat → Nat → Nat} {args : Array Value} {s : State} {z0 : Nat} (hl : (Cond.laysStatic RX1 n "[[I").before args s = true) (hini : (Cond.initialized RX1).before args s = true) (ho : (Cond.arrayOf (.static RX1 n "[[I") (.array .int)).before args s = true) (hlen : (Cond.eq (.length (.static RX1 n "[[I")) (.int (Int32.ofNat 3))).before args s = true)
    (hr : ∀ i, i < 3 → (Cond.arrayOf (.elem (.static RX1 n "[[I") (.int (Int32.ofNat i))) .int).before args s = true ∧ (Cond.eq (.length (.elem (.static RX1 n "[[I") (.int (Int32.ofNat i)))) (.int (Int32.ofNat 4))).before args s = true ∧ ∀ k, k < 4 → (Cond.eq (.elem (.elem (.static RX1 n "[[I") (.int (Int32.ofNat i))) (.int (Int32.ofNat k))) (.int (nI (V i k)))).before args s = true) (hA : ∀ a : Nat, a < s.heap.size → ¬ zA z0 a) : zSt n V z0 s s.heap := by
  have hrow : ∀ i, i < 3 → ∃ t : Nat, (Term.elem (.static RX1 n "[[I") (.int (Int32.ofNat i))).eval args s none [] s = some (.ref t) ∧ va_T .int t 4 (fun k => .int (nI (V i k))) (zA z0) s s.heap := fun i hi => by
    obtain ⟨h1, h2, h3⟩ := hr i hi
    exact va_Tof (by decide) h1 (va_eqt h2) (fun j hj => va_eqt (h3 j hj)) hA
  have hex : ∃ r : Nat → Nat, ∀ i, i < 3 → (Term.elem (.static RX1 n "[[I") (.int (Int32.ofNat i))).eval args s none [] s = some (.ref (r i)) ∧ va_T .int (r i) 4 (fun k => .int (nI (V i k))) (zA z0) s s.heap :=
    ⟨fun i => if h : i < 3 then (hrow i h).choose else 0, fun i hi => by simp only [dif_pos hi]; exact (hrow i hi).choose_spec⟩
  obtain ⟨r, hr2⟩ := hex
  obtain ⟨t, h4, h5⟩ := va_Tof (tm := .static RX1 n "[[I") (ty := .array .int) (N := 3) (f := fun i => .ref (r i)) (A := zA z0) (by decide) ho (va_eqt hlen) (fun j hj => (hr2 j hj).1) hA
  exact ⟨t, r, va_Zref hl hini h4 hA, h5, fun i hi => (hr2 i hi).2⟩
theorem CX.keep {T : ClassId × ClassId × ClassId} {L L' : List Nat} {f f' : Nat → va_E} {hx g ln : Nat} {rw : Nat → Nat} {b : Nat → Nat} {mk : Int32} {wd : Nat → List Nat} (h : CX T L f hx g ln rw b mk wd) (hk : ∀ a, a ∈ L → a ∈ L' ∧ f' a = f a) : CX T L' f' hx g ln rw b mk wd := by
  obtain ⟨⟨a1, a2⟩, ⟨c1, G, c2, c3⟩, ⟨k1, N, k2, k3⟩, i, r⟩ := h
  refine ⟨⟨(hk _ a1).1, (hk _ a1).2.trans a2⟩, ⟨(hk _ c1).1, G, (hk _ c1).2.trans c2, c3⟩, ⟨(hk _ k1).1, N, (hk _ k1).2.trans k2, k3⟩, fun w hw => ?_, r⟩
  obtain ⟨d1, g, d2, d3⟩ := i w hw
  exact ⟨(hk _ d1).1, g, (hk _ d1).2.trans d2, d3⟩
theorem MZ.keep {T : ClassId × ClassId × ClassId} {L L' : List Nat} {f f' : Nat → va_E} {hm rs td sz wo : Nat} {rr tr : Nat → Nat} {cu : Nat} {th mk : Int32} {b : Nat → Nat} {wd : Nat → List Nat} (h : MZ T L f hm rs td sz wo rr tr cu th mk b wd) (hk : ∀ a, a ∈ L → a ∈ L' ∧ f' a = f a) : MZ T L' f' hm rs td sz wo rr tr cu th mk b wd := by
  obtain ⟨Nn, V, hY, h2⟩ := h
  exact ⟨Nn, V, hY.keep hk, h2⟩
theorem and_31 (x : Int32) : ∃ c, c < 32 ∧ x &&& nI 31 = nI c := by
  refine ⟨x.toBitVec.toNat % 32, Nat.mod_lt _ (by decide), ?_⟩
  apply Int32.toBitVec_inj.mp
  rw [Int32.toBitVec_and]
  apply BitVec.eq_of_toNat_eq
  have e1 : (nI 31).toBitVec.toNat = 31 := by decide
  have e2 : ∀ c, c < 32 → (nI c).toBitVec.toNat = c := by decide
  rw [BitVec.toNat_and, e1, e2 _ (Nat.mod_lt _ (by decide))]
  exact Nat.and_two_pow_sub_one_eq_mod _ 5
theorem m4_lt {n i : Nat} (hn : n < 2 ^ 30) (hi : i < 2 ^ 30) : nI n - nI 4 < nI i ↔ n < i + 4 := by
  rw [Int32.lt_iff_toInt_lt, pk_sub_toInt hn (by decide), nI_toInt (by omega)]
  omega
section ZS
variable {p : Program} {l : Launch} {e : Env} {R : Room} {s : State} {m : MethodId} {args : Array Value} {below : List Frame} {meth : Method} {c : Code} {H : Heap} {locs : List Loc} {cells slots : Nat} {Q : State → Prop}
variable {Ts : List Cond} {own : String} {nL : Nat} {cc : ByteArray} {pc : Nat} {ls : Array Slot} {rest : List Value} {D : va_G} {T : ClassId × ClassId × ClassId} {z0 : Nat} {L : List Nat} {f : Nat → va_E}
/-- a constructor's call -/
theorem p_ciH {y : MethodName} {n : Nat} {ws ws' : List Cond} {d maxL mc ms index : Nat} {b : Nat} {av st : List Value} {post : Option Value → List Nat → (Nat → va_E) → Prop} {bytes : ByteArray}
    (hM : HV l y ws d mc ms D z0 (zPre0 D T z0 L f) (.ref b :: av) post) (hC : CallFix p m c cc nL s args Ts own) (hE : zE D T z0 s) (hAO : va_AOA .int s) (hP : va_P D vwCl (va_pl L f) H) (hD : va_D (zA z0) (va_pl L f)) (hS : va_S (zA z0) s.heap H locs) (hg : GoodIn Ts ws) (hw : ws = Cond.code y bytes maxL none :: ws') (hini : Cond.initialized y.cls ∈ Ts) (hl : Cond.methodLink own index y ∈ Ts) (hin : Cond.instanceMethod y ∈ Ts) (hy1 : y.name = "<init>") (hd : y.cls ≠ "java/lang/invoke/MethodHandle" ∧ y.cls ≠ "java/lang/invoke/VarHandle" ∧ (parseMethodDescriptor y.desc).map (fun d => d.parameters.length) = some n) (hn : av.length = n)
    (hR : d + 1 ≤ R.frames ∧ 8 + (maxL + 11) + 60 * d ≤ R.locals) (hf : cells + mc ≤ R.cells ∧ slots + ms ≤ R.slots) (hsz : ls.size = nL) (hW : (rest.map fun v => v.category).sum ≤ 8) (hdg : decode cc pc = .ok (.invokespecial index, 3)) (hst : st = av.reverse ++ .ref b :: rest)
    (kk : ∀ (o : Option Value) (L1 : List Nat) (f1 : Nat → va_E) (H1 : Heap) (locs1 : List Loc), post o L1 f1 → va_P D vwCl (va_pl L1 f1) H1 → va_D (zA z0) (va_pl L1 f1) → va_S (zA z0) s.heap H1 locs1 → W p l e R s m args below meth c H1 locs1 (cells + mc) (slots + ms) Q (F0 m (pc + 3) ls (o.toList ++ rest))) : W p l e R s m args below meth c H locs cells slots Q (F0 m pc ls st) := by
  subst hst
  exact p_goH (va_runI (As := av) (rest := rest) hC hM (cwI n hC.2.2.2.2 hg hw rfl rfl (hC.2.2.2.2 _ hini) (hC.2.2.2.2 _ hl) (hC.2.2.2.2 _ hin) hy1 hd hR) ⟨zPre0.blind, fun U hU hW => ⟨rfl, (zPre.pass (av := .ref b :: av) hE hP hD hS U hU hW).2, AOA_moved hW.alike hAO⟩⟩ rfl hn hsz rfl (lv_room hW) hdg hf) hS kk
/-- a new object in the pool -/
theorem p_newO {Cn : String} {TT : u_T} {N ci index : Nat} {ty0 : Nat → FieldType} {fs : List Value} (hC : CallFix p m c cc nL s args Ts own) (hE : zE D T z0 s) (hP : va_P D vwCl (va_pl L f) H) (hD : va_D (zA z0) (va_pl L f)) (hS : va_S (zA z0) s.heap H locs) (hin : ∀ w ∈ u_ws Cn TT N, w ∈ Ts) (hty : ∀ k, k < N → parseFieldDescriptor (TT k).2.2.1 = some (ty0 k)) (hcl : Cond.classLink own index Cn ∈ Ts) (hinst : Cond.instantiable Cn N ∈ Ts) (hini : Cond.initialized Cn ∈ Ts) (hc : vwCl[ci]? = some (Cn, TT, N)) (hfs : ∀ j, j < N → defaultValue (ty0 j) = vp_V fs j) (hcells : cells + 1 ≤ R.cells) (hslots : slots + N ≤ R.slots) (hdg : decode cc pc = .ok (.new index, 3))
    (kk : ∀ (q : Nat) (H1 : Heap), q ∉ L → va_P D vwCl (va_pl (L ++ [q]) (va_up f q (eO ci fs))) H1 → va_D (zA z0) (va_pl (L ++ [q]) (va_up f q (eO ci fs))) → va_S (zA z0) s.heap H1 locs → W p l e R s m args below meth c H1 locs (cells + 1) (slots + N) Q (F0 m (pc + 3) ls (.ref q :: rest))) : W p l e R s m args below meth c H locs cells slots Q (F0 m pc ls rest) := by
  refine va_new (fs := fs) hC.1 hC.2.1 hC.2.2.2.2 hin ty0 hty hC.2.2.2.1 (hC.2.2.2.2 _ hcl) (hC.2.2.2.2 _ hinst) (hC.2.2.2.2 _ hini) hE.2.2 hP hD hS (zA_hA hE) hc hfs hcells hslots hdg (fun q H1 hP1 hD1 hS1 => ?_)
  have hq := pl_new hD1
  rw [va_pl_push hq] at hP1 hD1
  exact kk q H1 hq hP1 hD1 hS1
end ZS
