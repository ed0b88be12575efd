/-! MY ROWS 14: what throws -/
def exI : String := "java/lang/IndexOutOfBoundsException"
def exA : String := "java/lang/IllegalArgumentException"
def exS : String := "java/lang/IllegalStateException"
abbrev exN : List String := ["java/lang/RuntimeException", "java/lang/Exception"]
/-- the tables' words that the kit's lists leave out -/
def xW (U : State) : Prop := va_Nw (.castable exI exI) U ∧ va_Nw (.castable exA exA) U ∧ va_Nw (.castable exS exS) U ∧ va_Nw (.declares (Bundle.initS "java/lang/RuntimeException")) U ∧ va_Nw (.declares (Bundle.initS "java/lang/Exception")) U ∧ va_Nw (.declares (Bundle.initS "java/lang/Throwable")) U
theorem xW.pass {s U : State} (hW : s.WarmedH U.vm) (h : xW s) : xW U := ⟨va_Nw.warmC hW h.1, va_Nw.warmC hW h.2.1, va_Nw.warmC hW h.2.2.1, va_Nw.warmD hW h.2.2.2.1, va_Nw.warmD hW h.2.2.2.2.1, va_Nw.warmD hW h.2.2.2.2.2⟩
def zPreX (D : va_G) (T : ClassId × ClassId × ClassId) (z0 : Nat) (L : List Nat) (f : Nat → va_E) (U : State) : Prop := zPre D T z0 L f U ∧ xW U
theorem zPreX.blind {D : va_G} {T : ClassId × ClassId × ClassId} {z0 : Nat} {L : List Nat} {f : Nat → va_E} {av : List Value} : FrameBlind (va_Pc av (zPreX D T z0 L f)) := by
  intro a U g mk h
  exact ⟨h.1, (zPre.blind (av := av) a U g mk ⟨h.1, h.2.1⟩).2, xW.pass (s := U) (U := U.calling g mk a) (State.WarmedH.refl U) h.2.2⟩
section ZX
variable {p : Program} {l : Launch} {e : Env} {R : Room} {s : State} {m : MethodId} {args : Array Value} {below : List Frame} {meth : Method} {c : Code} {H : Heap} {locs : List Loc} {cells slots : Nat} {Q : State → Prop}
variable {Ts : List Cond} {own : String} {nL : Nat} {cc : ByteArray} {pc : Nat} {ls : Array Slot} {rest st0 : List Value} {D : va_G} {T : ClassId × ClassId × ClassId} {z0 : Nat} {L : List Nat} {f : Nat → va_E}
theorem MX.of {y : MethodName} {ws ws' : List Cond} {d maxL : Nat} {B : State → Prop} {av : List Value} {E : String} {ret : Option FieldType} (hy : plainName y.cls = true) (hw : ws = Cond.code y cc maxL ret :: ws') (hsz : (lg_sl av).length ≤ maxL)
    (body : ∀ (p : Program) (e : Env) (s : State) (m : MethodId) (args : Array Value) (below : List Frame) (meth : Method) (c : Code), CallFix p m c cc maxL s args ws y.cls → meth.locks = false → (∀ x ∈ c.exceptionTable.toList, False) → B s → ∀ ls : Array Slot, lv_has ls maxL (lv_args 0 av) →
      W p l e (rD d 1 6) s m args below meth c s.heap [] 0 0 (vx_MQ below (fun _ _ _ _ => False) (MXQ D z0 L f E) args s 1 6 (zA z0)) (F0 m 0 ls [])) : MX l y ws d D z0 B L f av E := by
  refine vx_ofW (cc := cc) (maxL := maxL) (ret := ret) hy hw ?_
  intro p e s m args below meth c s₁ Bd hml hno hv
  obtain ⟨rfl, hB⟩ := hv
  have h := body p e s m av.toArray below meth c ⟨Bd.exec, Bd.bytes, hml, findClass_of_methodNamed Bd.named, atoms_spec (ws := ws) Bd.pre⟩ Bd.notSynchronized hno hB _ (lv_entry av hsz)
  rw [lg_entry_eq]
  exact h
theorem MXQ.post {E : String} (hP : va_P D vwCl (va_pl L f) H) (hD : va_D (zA z0) (va_pl L f)) (hS : va_S (zA z0) s.heap H locs) (t : State) (h1 : H.size ≤ t.heap.size) (h2 : ∀ q : Nat, q < H.size → t.heap[q]? = H[q]?) : MXQ D z0 L f E E s t :=
  ⟨(), trivial, ⟨rfl, hP.kept (fun k x hx => h2 x.1 ((hP k x hx).lt)), hD⟩, Nat.le_trans hS.1 h1, fun q h3 h4 => (h2 q (Nat.lt_of_lt_of_le h3 hS.1)).trans (hS.2.1 q h3 h4)⟩
theorem x_words {cls : String} {ic : Nat} {B : List Cond} (hhat : ∀ w ∈ (vx_atS RX0 ic cls exN).filter goodWord, w.before args s = true) (hbad : ∀ w ∈ (vx_atS RX0 ic cls exN).filter (fun w => !goodWord w), w ∈ B) (hB : ∀ w ∈ B, w.before args s = true) : ∀ w ∈ vx_atS RX0 ic cls exN, w.before args s = true := vx_hat hhat hbad hB
theorem x_B {cls : String} (hc : va_Nw (.castable cls cls) s) (hX : xW s) : ∀ w ∈ [Cond.castable cls cls, .declares (Bundle.initS "java/lang/RuntimeException"), .declares (Bundle.initS "java/lang/Exception"), .declares (Bundle.initS "java/lang/Throwable")], w.before args s = true :=
  vx_c (va_Nw.use rfl hc) (vx_c (va_Nw.use rfl hX.2.2.2.1) (vx_c (va_Nw.use rfl hX.2.2.2.2.1) (vx_c (va_Nw.use rfl hX.2.2.2.2.2) vx_n)))
/-- throw new X(text) in the class -/
theorem x_throw {cls text : String} {ik is ic d : Nat} (hC : CallFix p m c cc nL s args Ts RX0) (hl : l.stackTraces = false) (hE : zE D T z0 s) (hX : xW s) (hP : va_P D vwCl (va_pl L f) H) (hD : va_D (zA z0) (va_pl L f)) (hS : va_S (zA z0) s.heap H locs) (hlk : meth.locks = false) (hno : ∀ x ∈ c.exceptionTable.toList, False)
    (hcast : va_Nw (.castable cls cls) s) (hfit : Bundle.fit cls = true) (hk : Cond.classLink RX0 ik cls ∈ Ts) (hini : Cond.initialized cls ∈ Ts) (hgood : ∀ w ∈ (vx_atS RX0 ic cls exN).filter goodWord, w ∈ Ts) (hbad : ∀ w ∈ (vx_atS RX0 ic cls exN).filter (fun w => !goodWord w), w ∈ [Cond.castable cls cls, .declares (Bundle.initS "java/lang/RuntimeException"), .declares (Bundle.initS "java/lang/Exception"), .declares (Bundle.initS "java/lang/Throwable")])
    (hot : ∀ w ∈ Cond.classLink RX0 ik cls :: Cond.initialized cls :: vx_atS RX0 ic cls exN, vx_ot w = true) (htext : (is, text) ∈ zStr) (hsz : ls.size = nL)
    (d0 : decode cc pc = .ok (.new ik, 3)) (d3 : decode cc (pc + 3) = .ok (.dup, 1)) (d4 : decode cc (pc + 4) = .ok (.ldc is, 2)) (d6 : decode cc (pc + 6) = .ok (.invokespecial ic, 3)) (d9 : decode cc (pc + 9) = .ok (.athrow, 1)) (hd : 6 ≤ d) :
    W p l e (rD d 1 6) s m args below meth c H locs 0 0 (vx_MQ below (fun _ _ _ _ => False) (MXQ D z0 L f cls) args s 1 6 (zA z0)) (F0 m pc ls []) := by
  obtain ⟨sa, hsa⟩ := hE.2.1.2.2.1 _ htext
  exact vx_throwS (names := exN) (A := zA z0) hC.1 hC.2.1 hl hC.2.2.2.1 hfit (by decide +kernel) (hC.2.2.2.2 _ hk) (hC.2.2.2.2 _ hini) hsa (x_words (fun w h => hC.2.2.2.2 _ (hgood w h)) hbad (x_B hcast hX)) hot hE.2.1.1 hE.2.1.2.1 hS (by rw [hC.2.2.1]; exact hsz) d0 d3 d4 d6 d9 (fun x hx => (hno x hx).elim) (by show 2 + 3 < d; omega) (by show 0 + (13 * (2 + 1) + 43) ≤ 60 * d; omega) (Nat.le_refl _) (Nat.le_refl _) hlk (fun t _ h1 h2 => MXQ.post hP hD hS t h1 h2) hS.2.2 (Nat.le_refl _) (Nat.le_refl _)
theorem x_go {E : String} (hr : vx_Run p l e R s m args below meth c H locs cells slots 1 6 (F0 m pc ls st0) rest (fun _ _ _ => False) (MXQ D z0 L f E) (zA z0)) (hS : va_S (zA z0) s.heap H locs)
    (kx : ∀ (ce : Cell) (q9 : Addr) (H1 : Heap) (locs1 : List Loc), va_P D vwCl (va_pl L f) H1 → va_D (zA z0) (va_pl L f) → va_S (zA z0) s.heap H1 locs1 → H1[q9]? = some ce → ce.vm = .none → s.vm.findClass E = some ce.cls → vx_W p l e R s m args below meth c H1 locs1 (cells + 1) (slots + 6) Q (F0 m pc ls rest) q9) : W p l e R s m args below meth c H locs cells slots Q (F0 m pc ls st0) := by
  intro S hT X
  rcases hr S hT X with ⟨v, st₀, t, T', L, h0, X', hL, e1, e2, hF, st⟩ | ⟨q, st₀, t, T', L, E', ce, h0, X', hL, e1, e2, ⟨u, hp, ⟨he, hb1, hb2⟩, hF⟩, hce, hcv, hcl, st⟩
  · exact hF.elim
  · subst he
    obtain ⟨k1, k2, k3⟩ := vx_keep h0 e1 hS (fun q _ h => h) (fun q h => h) hL hF
    obtain ⟨t2, a1, b1⟩ := kx ce q T'.heap (locs ++ L) (by rw [e1]; exact hb1) hb2 k3 (by rw [e1]; exact hce) hcv hcl T' rfl X'
    exact ⟨t2, st.trans a1, b1⟩
theorem zPreX.pass {av : List Value} (hE : zE D T z0 s) (hX : xW s) (hP : va_P D vwCl (va_pl L f) H) (hD : va_D (zA z0) (va_pl L f)) (hS : va_S (zA z0) s.heap H locs) (U : State) (hU : U.heap = H) (hW : s.WarmedH U.vm) : va_Pc av (zPreX D T z0 L f) av.toArray U :=
  ⟨rfl, (zPre.pass (av := av) hE hP hD hS U hU hW).2, hX.pass hW⟩
/-- a static call that throws, and it goes on out of this method -/
theorem x_cs {y : MethodName} {n d d0 : Nat} {ws ws' : List Cond} {maxL index : Nat} {av st : List Value} {E : String} {ret : Option FieldType} {bytes : ByteArray}
    (hM : MX l y ws d0 D z0 (zPreX D T z0 L f) L f av E) (hC : CallFix p m c cc nL s args Ts own) (hE : zE D T z0 s) (hX : xW s) (hP : va_P D vwCl (va_pl L f) H) (hD : va_D (zA z0) (va_pl L f)) (hS : va_S (zA z0) s.heap H locs) (hlk : meth.locks = false) (hno : ∀ x ∈ c.exceptionTable.toList, False) (hg : GoodIn Ts (va_wsS own index y ws)) (hw : ws = Cond.code y bytes maxL ret :: ws') (hd : y.cls ≠ "java/lang/invoke/MethodHandle" ∧ y.cls ≠ "java/lang/invoke/VarHandle" ∧ (parseMethodDescriptor y.desc).map (fun d => d.parameters.length) = some n) (hn : av.length = n)
    (hR : d0 + 1 ≤ d ∧ 8 + (maxL + 11) + 60 * d0 ≤ 60 * d) (hsz : ls.size = nL) (hW : (rest.map fun v => v.category).sum ≤ 8) (hdg : decode cc pc = .ok (.invokestatic index, 3)) (hst : st = av.reverse ++ rest) :
    W p l e (rD d 1 6) s m args below meth c H locs 0 0 (vx_MQ below (fun _ _ _ _ => False) (MXQ D z0 L f E) args s 1 6 (zA z0)) (F0 m pc ls st) := by
  subst hst
  refine x_go (D := D) (z0 := z0) (L := L) (f := f) (E := E) (vx_runS (As := av) (rest := rest) hC hM (va_cwS n hC.2.2.2.2 hg hw rfl rfl hd hR) ⟨zPreX.blind, fun U hU hW => zPreX.pass hE hX hP hD hS U hU hW⟩ rfl hn hsz rfl (lv_room hW) hdg ⟨Nat.le_refl _, Nat.le_refl _⟩) hS ?_
  intro ce q9 H1 locs1 hP1 hD1 hS1 hce hcv hcl
  exact vx_out (fun x hx => (hno x hx).elim) hlk hce hcv hcl (fun t ht _ => MXQ.post hP1 hD1 hS1 t (Nat.le_of_eq (by rw [ht])) (fun q _ => by rw [ht])) hS1.2.2 (Nat.le_refl _) (Nat.le_refl _)
end ZX
