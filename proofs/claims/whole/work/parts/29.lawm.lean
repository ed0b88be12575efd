/-! MY ROWS 29: the law's methods with tables of exceptions (laid by a program of mine) -/
def yW (U : State) : Prop := va_Nc exA exI U ∧ va_Nc exS exI U ∧ va_Nc exS exA U
theorem yW.pass {s U : State} (hvm : s.vm.Alike U.vm) (h : yW s) : yW U := ⟨h.1.moved hvm, h.2.1.moved hvm, h.2.2.moved hvm⟩
def zPreY (D : va_G) (T : ClassId × ClassId × ClassId) (z0 : Nat) (L : List Nat) (f : Nat → va_E) (U : State) : Prop := zPre D T z0 L f U ∧ xW U ∧ yW U
theorem zPreY.blind {D : va_G} {T : ClassId × ClassId × ClassId} {z0 : Nat} {L : List Nat} {f : Nat → va_E} {av : List Value} : FrameBlind (va_Pc av (zPreY D T z0 L f)) := by
  intro a U g mk h
  exact ⟨h.1, (zPre.blind (av := av) a U g mk ⟨h.1, h.2.1⟩).2, xW.pass (s := U) (U := U.calling g mk a) (State.WarmedH.refl U) h.2.2.1, yW.pass (s := U) (U := U.calling g mk a) (Vm.Alike.refl U.vm) h.2.2.2⟩
def LPo (T : ClassId × ClassId × ClassId) (L : List Nat) (f : Nat → va_E) (hx g ln : Nat) (rw : Nat → Nat) (o9 : Nat) (v : Int64) (b' : Nat → Nat) (mk' : Int32) (wd' : Nat → List Nat) : Option Value → List Nat → (Nat → va_E) → Prop := fun o L' f' => o = some (.int (nI 0)) ∧ L' = L ∧ ∃ (f1 : Nat → va_E) (gO : Nat → Int64), CX T L f1 hx g ln rw b' mk' wd' ∧ FRX hx ln rw f f1 ∧ f1 o9 = eJ T.2.1 1 gO ∧ f' = va_up f1 o9 (eJ T.2.1 1 (vp_updL gO 0 v))
def LX (L : List Nat) (f : Nat → va_E) (k : Nat) : Option Value → List Nat → (Nat → va_E) → Prop := fun o L' f' => o = some (.int (nI k)) ∧ L' = L ∧ f' = f
theorem eJ_ne {c c2 : ClassId} {n n2 : Nat} {u : Nat → Int64} {v : Nat → Int32} : eJ c n u ≠ eI c2 n2 v := fun e => by
  injection e with e
  injection e with _ e
  injection e with _ e
  cases e
theorem eJ_nO {c : ClassId} {n ci : Nat} {u : Nat → Int64} {fs : List Value} : eJ c n u ≠ eO ci fs := fun e => by injection e
theorem eJ_nQ {c c2 : ClassId} {n n2 : Nat} {u : Nat → Int64} {v : Nat → Option Nat} : eJ c n u ≠ eQ c2 n2 v := fun e => by
  injection e with e
  injection e with _ e
  injection e with _ e
  cases e
theorem CX.nout {T : ClassId × ClassId × ClassId} {L : List Nat} {f : Nat → va_E} {hx g ln : Nat} {rw : Nat → Nat} {b : Nat → Nat} {mk : Int32} {wd : Nat → List Nat} {o9 : Nat} {c : ClassId} {n : Nat} {gO : Nat → Int64} (hX : CX T L f hx g ln rw b mk wd) (heo : f o9 = eJ c n gO) : o9 ≠ hx ∧ o9 ≠ ln ∧ (∀ w, w < 5 → o9 ≠ rw w) ∧ o9 ≠ g := by
  obtain ⟨⟨-, h1⟩, ⟨-, G, h2, -⟩, ⟨-, N, h3, -⟩, h4, -⟩ := hX
  refine ⟨fun e => eJ_nO (heo.symm.trans (e ▸ h1)), fun e => eJ_ne (heo.symm.trans (e ▸ h3)), fun w hw e => ?_, fun e => eJ_nQ (heo.symm.trans (e ▸ h2))⟩
  obtain ⟨-, h, hh, -⟩ := h4 w hw
  exact eJ_ne (heo.symm.trans (e ▸ hh))
section ZL
variable {p : Program} {l : Launch} {e : Env} {R : Room} {s : State} {m : MethodId} {args : Array Value} {below : List Frame} {meth : Method} {c : Code} {H : Heap} {locs : List Loc} {cells slots : Nat} {Q : State → Prop}
variable {Ts : List Cond} {own : String} {nL : Nat} {cc : ByteArray} {pc : Nat} {ls : Array Slot} {rest : List Value} {D : va_G} {T : ClassId × ClassId × ClassId} {z0 : Nat} {L : List Nat} {f : Nat → va_E}
theorem HV.ofH {y : MethodName} {ws ws' : List Cond} {d maxL mc ms : Nat} {B : State → Prop} {av : List Value} {post : Option Value → List Nat → (Nat → va_E) → Prop} {ret : Option FieldType} {hh : List (Nat × Nat × Nat × Nat)} (hy : plainName y.cls = true) (hw : ws = Cond.codeWith y cc maxL ret hh :: ws') (hsz : (lg_sl av).length ≤ maxL)
    (body : ∀ (p : Program) (e : Env) (s : State) (m : MethodId) (args : Array Value) (below : List Frame) (meth : Method) (c : Code), CallFix p m c cc maxL s args ws y.cls → meth.sig.returnType = ret → meth.locks = false → c.exceptionTable.toList = tableOf hh → B s → ∀ ls : Array Slot, lv_has ls maxL (lv_args 0 av) →
      W p l e (rD d mc ms) s m args below meth c s.heap [] 0 0 (MQ below (HVQ D z0 post) args s mc ms (zA z0)) (F0 m 0 ls [])) : HV l y ws d mc ms D z0 B av post := by
  show Met l y ws (rD d mc ms) (va_Pc av B) (HVQ D z0 post) mc ms (zA z0)
  refine MetFree.of_bodyS (code := cc) (maxLocals := maxL) (ret := ret) hy ?_ ?_
  · intro args s m h hn
    obtain ⟨m9, meth, c, hn9, h1, h2, h3, h4, -, h5, h6, -⟩ := Cond.codeWith_spec (atoms_spec (ws := ws) h _ (by rw [hw]; exact List.mem_cons_self))
    cases hn.symm.trans hn9
    exact ⟨meth, c, h1, h2, h3, h4, h5, h6⟩
  · intro p e s m args below meth c s₁ Bd hml hP _
    obtain ⟨rfl, hB⟩ := hP
    have hh0 : s₁.heap = s.heap := by rw [Bd.state]; rfl
    have htab := vx_table (x := y) Bd (atoms_spec (ws := ws) Bd.pre _ (by rw [hw]; exact List.mem_cons_self))
    have h := body p e s m av.toArray below meth c ⟨Bd.exec, Bd.bytes, hml, findClass_of_methodNamed Bd.named, atoms_spec (ws := ws) Bd.pre⟩ Bd.returns Bd.notSynchronized htab hB _ (lv_entry av hsz)
    rw [← lg_entry_eq] at h
    obtain ⟨t, a1, o, b1, b2, b3⟩ := h s₁ hh0 (Stand.of_body Bd)
    exact ⟨t, o, a1, b1, b2, ⟨b3.1, b3.2⟩⟩
theorem zPreY.pass {av : List Value} (hE : zE D T z0 s) (hX : xW s) (hY : yW s) (hP : va_P D vwCl (va_pl L f) H) (hD : va_D (zA z0) (va_pl L f)) (hS : va_S (zA z0) s.heap H locs) (U : State) (hU : U.heap = H) (hW : s.WarmedH U.vm) : va_Pc av (zPreY D T z0 L f) av.toArray U :=
  ⟨rfl, (zPre.pass (av := av) hE hP hD hS U hU hW).2, hX.pass hW, hY.pass hW.alike⟩
/-- a static call of a method with a table -/
theorem p_csHW {y : MethodName} {n : Nat} {ws ws' : List Cond} {d maxL mc ms index : Nat} {av st : List Value} {post : Option Value → List Nat → (Nat → va_E) → Prop} {ret : Option FieldType} {bytes : ByteArray} {hh : List (Nat × Nat × Nat × Nat)}
    (hM : HV l y ws d mc ms D z0 (zPreY D T z0 L f) av post) (hC : CallFix p m c cc nL s args Ts own) (hE : zE D T z0 s) (hX : xW s) (hY : yW s) (hP : va_P D vwCl (va_pl L f) H) (hD : va_D (zA z0) (va_pl L f)) (hS : va_S (zA z0) s.heap H locs) (hg : GoodIn Ts (va_wsS own index y ws)) (hw : ws = Cond.codeWith y bytes maxL ret hh :: ws') (hd : y.cls ≠ "java/lang/invoke/MethodHandle" ∧ y.cls ≠ "java/lang/invoke/VarHandle" ∧ (parseMethodDescriptor y.desc).map (fun d => d.parameters.length) = some n) (hn : av.length = n)
    (hR : d + 1 ≤ R.frames ∧ 8 + (maxL + 11) + 60 * d ≤ R.locals) (hf : cells + mc ≤ R.cells ∧ slots + ms ≤ R.slots) (hsz : ls.size = nL) (hW : (rest.map fun v => v.category).sum ≤ 8) (hdg : decode cc pc = .ok (.invokestatic index, 3)) (hst : st = av.reverse ++ rest)
    (kk : ∀ (o : Option Value) (L1 : List Nat) (f1 : Nat → va_E) (H1 : Heap) (locs1 : List Loc), post o L1 f1 → va_P D vwCl (va_pl L1 f1) H1 → va_D (zA z0) (va_pl L1 f1) → va_S (zA z0) s.heap H1 locs1 → W p l e R s m args below meth c H1 locs1 (cells + mc) (slots + ms) Q (F0 m (pc + 3) ls (o.toList ++ rest))) : W p l e R s m args below meth c H locs cells slots Q (F0 m pc ls st) := by
  subst hst
  exact p_goH (vx_runSW (As := av) (rest := rest) hC hM (vx_cwSW n hC.2.2.2.2 hg hw rfl rfl hd hR) ⟨zPreY.blind, fun U hU hW => zPreY.pass hE hX hY hP hD hS U hU hW⟩ rfl hn hsz rfl (lv_room hW) hdg hf) hS kk
/-- a call of the class's method that throws, seen from the law's method that catches -/
theorem x_cvL {y : MethodName} {n d0 : Nat} {ws ws' : List Cond} {maxL index ci N : Nat} {C : String} {TT : u_T} {b : Nat} {fs : List Value} {av st : List Value} {E : String} {ret : Option FieldType} {bytes : ByteArray}
    (hM : MX l y ws d0 D z0 (zPreX D T z0 L f) L f (.ref b :: av) E) (hC : CallFix p m c cc nL s args Ts own) (hE : zE D T z0 s) (hX : xW s) (hP : va_P D vwCl (va_pl L f) H) (hD : va_D (zA z0) (va_pl L f)) (hS : va_S (zA z0) s.heap H locs) (hm : b ∈ L) (he : f b = .inr (ci, fs)) (hc : vwCl[ci]? = some (C, TT, N)) (hg : GoodIn Ts (wsV own index C y ws)) (hw : ws = Cond.code y bytes maxL ret :: ws') (hd : y.cls = C ∧ y.cls ≠ "java/lang/invoke/MethodHandle" ∧ y.cls ≠ "java/lang/invoke/VarHandle" ∧ (parseMethodDescriptor y.desc).map (fun d => d.parameters.length) = some n) (hn : av.length = n)
    (hR : d0 + 1 ≤ R.frames ∧ 8 + (maxL + 11) + 60 * d0 ≤ R.locals) (hf : cells + 1 ≤ R.cells ∧ slots + 6 ≤ R.slots) (hsz : ls.size = nL) (hW : (rest.map fun v => v.category).sum ≤ 8) (hdg : decode cc pc = .ok (.invokevirtual index, 3)) (hst : st = av.reverse ++ .ref b :: rest)
    (kx : ∀ (ce : Cell) (q9 : Addr) (H1 : Heap) (locs1 : List Loc), va_P D vwCl (va_pl L f) H1 → va_D (zA z0) (va_pl L f) → va_S (zA z0) s.heap H1 locs1 → H1[q9]? = some ce → ce.vm = .none → s.vm.findClass E = some ce.cls → vx_W p l e R s m args below meth c H1 locs1 (cells + 1) (slots + 6) Q (F0 m pc ls rest) q9) : W p l e R s m args below meth c H locs cells slots Q (F0 m pc ls st) := by
  subst hst
  obtain ⟨k, hk⟩ := va_pl_get (X := []) (f := f) hm
  rw [List.nil_append, he] at hk
  exact x_go (vx_runV (As := av) (rest := rest) hC hM (cwV n hC.2.2.2.2 hg hw rfl rfl hd hR) ⟨zPreX.blind, va_recv hE.2.2 hP hc hk, fun U hU hW => zPreX.pass hE hX hP hD hS U hU hW⟩ rfl hn hsz rfl (lv_room hW) hdg hf) hS kx
end ZL

set_option maxHeartbeats 4000000 in
set_option maxRecDepth 100000 in
theorem l_turn (l : Launch) {D : va_G} {T : ClassId × ClassId × ClassId} {z0 : Nat} {L : List Nat} {f : Nat → va_E} {hx g ln : Nat} {rw : Nat → Nat} {b : Nat → Nat} {mk : Int32} {wd : Nat → List Nat} {o9 : Nat} {gO : Nat → Int64} (hX : CX T L f hx g ln rw b mk wd) (hmo : o9 ∈ L) (heo : f o9 = eJ T.2.1 1 gO) {x y r mk2 : Int32} {b2 : Nat → Nat} {wd2 : Nat → List Nat} (hM : HV l yX0_turn wsX0_turn 6 0 0 D z0 (zPre D T z0 L f) [.ref hx, .int x, .int y] (XP T L f hx g ln rw r b2 mk2 wd2)) : HV l yL_turn wsL_turn (24) 1 6 D z0 (zPreY D T z0 L f) [.ref hx, .int x, .int y, .ref o9] (LPo T L f hx g ln rw o9 r.toInt64 b2 mk2 wd2) := by
  refine HV.ofH (cc := cL_turn) (maxL := 5) (ret := some .int) (by decide) rfl (Nat.le_of_ble_eq_true rfl) ?_
  intro p e s m args below meth c hC hr hlk htab hB ls hl
  have hl : lv_has ls 5 [(0, .ref hx), (1, .int x), (2, .int y), (3, .ref o9)] := hl
  obtain ⟨⟨hE, hP, hD⟩, hXw, hYw⟩ := hB
  have hS : va_S (zA z0) s.heap s.heap [] := va_S.rf
  refine lv_aload_n hC.1 hC.2.1 dL_turn_0 rfl (lv_at hl 3 rfl) ?_
  refine lv_iconst (v := (nI 0)) hC.1 hC.2.1 dL_turn_1 (by decide) ?_
  refine lv_aload_n hC.1 hC.2.1 dL_turn_2 rfl (lv_at hl 0 rfl) ?_
  refine lv_iload_n hC.1 hC.2.1 dL_turn_3 rfl (lv_at hl 1 rfl) ?_
  refine lv_iload_n hC.1 hC.2.1 dL_turn_4 rfl (lv_at hl 2 rfl) ?_
  refine p_cvH (n := 2) (hM) hC hE hP hD hS (hX.1.1) (hX.1.2) rfl gL_turn_X0_turn rfl (by decide +kernel) rfl ⟨by decide, by decide⟩ ⟨by simp only [rD]; omega, by simp only [rD]; omega⟩ hl.1 (Nat.le_of_ble_eq_true rfl) dL_turn_5 rfl (fun o L2 f2 H locs hpost hP hD hS => ?_)
  obtain ⟨rfl, hLe, hX2, hFR⟩ := hpost
  rw [hLe] at hP hD
  obtain ⟨n1, n2, n3, n4⟩ := hX.nout heo
  have heo2 : f2 o9 = eJ T.2.1 1 gO := (hFR o9 n1 n2 n3).trans heo
  refine lv_i2l hC.1 hC.2.1 dL_turn_8 rfl ?_
  refine p_last hC hE hP hD hS hmo heo2 (by decide) (by decide) dL_turn_9 (fun H locs hP hD hS => ?_)
  refine lv_goto (tgt := 21) hC.1 hC.2.1 dL_turn_10 (by decide) ?_
  refine lv_iconst (v := (nI 0)) hC.1 hC.2.1 dL_turn_21 (by decide) ?_
  exact HV.iret hC hr hlk hP hD hS (by omega) (by omega) dL_turn_22 (⟨rfl, rfl, f2, gO, hX2, hFR, heo2, rfl⟩)

set_option maxHeartbeats 4000000 in
set_option maxRecDepth 100000 in
theorem l_turnX1 (l : Launch) {D : va_G} {T : ClassId × ClassId × ClassId} {z0 : Nat} {L : List Nat} {f : Nat → va_E} {hx g ln : Nat} {rw : Nat → Nat} {b : Nat → Nat} {mk : Int32} {wd : Nat → List Nat} {o9 : Nat} {gO : Nat → Int64} (hX : CX T L f hx g ln rw b mk wd) (hmo : o9 ∈ L) (heo : f o9 = eJ T.2.1 1 gO) {x y : Int32} (hM : MX l yX0_turn wsX0_turn 8 D z0 (zPreX D T z0 L f) L f [.ref hx, .int x, .int y] exI) : HV l yL_turn wsL_turn (24) 1 6 D z0 (zPreY D T z0 L f) [.ref hx, .int x, .int y, .ref o9] (LX L f 1) := by
  refine HV.ofH (cc := cL_turn) (maxL := 5) (ret := some .int) (by decide) rfl (Nat.le_of_ble_eq_true rfl) ?_
  intro p e s m args below meth c hC hr hlk htab hB ls hl
  have hl : lv_has ls 5 [(0, .ref hx), (1, .int x), (2, .int y), (3, .ref o9)] := hl
  obtain ⟨⟨hE, hP, hD⟩, hXw, hYw⟩ := hB
  have hS : va_S (zA z0) s.heap s.heap [] := va_S.rf
  refine lv_aload_n hC.1 hC.2.1 dL_turn_0 rfl (lv_at hl 3 rfl) ?_
  refine lv_iconst (v := (nI 0)) hC.1 hC.2.1 dL_turn_1 (by decide) ?_
  refine lv_aload_n hC.1 hC.2.1 dL_turn_2 rfl (lv_at hl 0 rfl) ?_
  refine lv_iload_n hC.1 hC.2.1 dL_turn_3 rfl (lv_at hl 1 rfl) ?_
  refine lv_iload_n hC.1 hC.2.1 dL_turn_4 rfl (lv_at hl 2 rfl) ?_
  refine x_cvL (n := 2) hM hC hE hXw hP hD hS hX.1.1 hX.1.2 rfl gL_turn_X0_turn rfl (by decide +kernel) rfl (by simp only [rD]; omega) ⟨by simp only [rD]; omega, by simp only [rD]; omega⟩ hl.1 (Nat.le_of_ble_eq_true rfl) dL_turn_5 rfl (fun ce q9 H locs hP hD hS hce hcv hcl => ?_)
  refine vx_catch (own := RL) (name := "java/lang/IndexOutOfBoundsException") (E := exI) hC.2.2.2.1 [] ⟨0, 10, 13, 13⟩ [⟨0, 10, 17, 15⟩] htab (fun z hz => absurd hz List.not_mem_nil) (by decide) (by decide) (hC.2.2.2.2 _ (by decide +kernel : Cond.classLink RL 13 "java/lang/IndexOutOfBoundsException" ∈ wsL_turn)) (va_Nw.use rfl hXw.1) hce hcv hcl ?_
  refine lv_astore (lv' := [(4, .ref q9), (0, .ref hx), (1, .int x), (2, .int y), (3, .ref o9)]) hC.1 hC.2.1 dL_turn_13 hl (by decide) rfl (fun ls hl => ?_)
  refine lv_iconst (v := (nI 1)) hC.1 hC.2.1 dL_turn_15 (by decide) ?_
  exact HV.iret hC hr hlk hP hD hS (by omega) (by omega) dL_turn_16 (⟨rfl, rfl, rfl⟩)

set_option maxHeartbeats 4000000 in
set_option maxRecDepth 100000 in
theorem l_turnX2 (l : Launch) {D : va_G} {T : ClassId × ClassId × ClassId} {z0 : Nat} {L : List Nat} {f : Nat → va_E} {hx g ln : Nat} {rw : Nat → Nat} {b : Nat → Nat} {mk : Int32} {wd : Nat → List Nat} {o9 : Nat} {gO : Nat → Int64} (hX : CX T L f hx g ln rw b mk wd) (hmo : o9 ∈ L) (heo : f o9 = eJ T.2.1 1 gO) {x y : Int32} (hM : MX l yX0_turn wsX0_turn 8 D z0 (zPreX D T z0 L f) L f [.ref hx, .int x, .int y] exA) : HV l yL_turn wsL_turn (24) 1 6 D z0 (zPreY D T z0 L f) [.ref hx, .int x, .int y, .ref o9] (LX L f 2) := by
  refine HV.ofH (cc := cL_turn) (maxL := 5) (ret := some .int) (by decide) rfl (Nat.le_of_ble_eq_true rfl) ?_
  intro p e s m args below meth c hC hr hlk htab hB ls hl
  have hl : lv_has ls 5 [(0, .ref hx), (1, .int x), (2, .int y), (3, .ref o9)] := hl
  obtain ⟨⟨hE, hP, hD⟩, hXw, hYw⟩ := hB
  have hS : va_S (zA z0) s.heap s.heap [] := va_S.rf
  refine lv_aload_n hC.1 hC.2.1 dL_turn_0 rfl (lv_at hl 3 rfl) ?_
  refine lv_iconst (v := (nI 0)) hC.1 hC.2.1 dL_turn_1 (by decide) ?_
  refine lv_aload_n hC.1 hC.2.1 dL_turn_2 rfl (lv_at hl 0 rfl) ?_
  refine lv_iload_n hC.1 hC.2.1 dL_turn_3 rfl (lv_at hl 1 rfl) ?_
  refine lv_iload_n hC.1 hC.2.1 dL_turn_4 rfl (lv_at hl 2 rfl) ?_
  refine x_cvL (n := 2) hM hC hE hXw hP hD hS hX.1.1 hX.1.2 rfl gL_turn_X0_turn rfl (by decide +kernel) rfl (by simp only [rD]; omega) ⟨by simp only [rD]; omega, by simp only [rD]; omega⟩ hl.1 (Nat.le_of_ble_eq_true rfl) dL_turn_5 rfl (fun ce q9 H locs hP hD hS hce hcv hcl => ?_)
  have hpass : ∀ z ∈ ([⟨0, 10, 13, 13⟩] : List ExceptionTableEntry), covers z 5 = false ∨ (z.catchType ≠ 0 ∧ ∃ nm : String, (Cond.classLink RL z.catchType nm).before args s = true ∧ va_Nc exA nm s) := by
    intro z hz
    simp only [List.mem_cons, List.not_mem_nil, or_false] at hz
    rcases hz with rfl
    · exact Or.inr ⟨by decide, "java/lang/IndexOutOfBoundsException", hC.2.2.2.2 _ (by decide +kernel : Cond.classLink RL 13 "java/lang/IndexOutOfBoundsException" ∈ wsL_turn), hYw.1⟩
  refine vx_catch (own := RL) (name := "java/lang/IllegalArgumentException") (E := exA) hC.2.2.2.1 [⟨0, 10, 13, 13⟩] ⟨0, 10, 17, 15⟩ [] htab (hpass) (by decide) (by decide) (hC.2.2.2.2 _ (by decide +kernel : Cond.classLink RL 15 "java/lang/IllegalArgumentException" ∈ wsL_turn)) (va_Nw.use rfl hXw.2.1) hce hcv hcl ?_
  refine lv_astore (lv' := [(4, .ref q9), (0, .ref hx), (1, .int x), (2, .int y), (3, .ref o9)]) hC.1 hC.2.1 dL_turn_17 hl (by decide) rfl (fun ls hl => ?_)
  refine lv_iconst (v := (nI 2)) hC.1 hC.2.1 dL_turn_19 (by decide) ?_
  exact HV.iret hC hr hlk hP hD hS (by omega) (by omega) dL_turn_20 (⟨rfl, rfl, rfl⟩)

set_option maxHeartbeats 4000000 in
set_option maxRecDepth 100000 in
theorem l_play (l : Launch) {D : va_G} {T : ClassId × ClassId × ClassId} {z0 : Nat} {L : List Nat} {f : Nat → va_E} {hx g ln : Nat} {rw : Nat → Nat} {b : Nat → Nat} {mk : Int32} {wd : Nat → List Nat} {o9 : Nat} {gO : Nat → Int64} (hX : CX T L f hx g ln rw b mk wd) (hmo : o9 ∈ L) (heo : f o9 = eJ T.2.1 1 gO) {x y r mk2 : Int32} {b2 : Nat → Nat} {wd2 : Nat → List Nat} (hM : HV l yX0_play wsX0_play 6 0 0 D z0 (zPre D T z0 L f) [.ref hx, .int x, .int y] (XP T L f hx g ln rw r b2 mk2 wd2)) : HV l yL_play wsL_play (24) 1 6 D z0 (zPreY D T z0 L f) [.ref hx, .int x, .int y, .ref o9] (LPo T L f hx g ln rw o9 r.toInt64 b2 mk2 wd2) := by
  refine HV.ofH (cc := cL_play) (maxL := 5) (ret := some .int) (by decide) rfl (Nat.le_of_ble_eq_true rfl) ?_
  intro p e s m args below meth c hC hr hlk htab hB ls hl
  have hl : lv_has ls 5 [(0, .ref hx), (1, .int x), (2, .int y), (3, .ref o9)] := hl
  obtain ⟨⟨hE, hP, hD⟩, hXw, hYw⟩ := hB
  have hS : va_S (zA z0) s.heap s.heap [] := va_S.rf
  refine lv_aload_n hC.1 hC.2.1 dL_play_0 rfl (lv_at hl 3 rfl) ?_
  refine lv_iconst (v := (nI 0)) hC.1 hC.2.1 dL_play_1 (by decide) ?_
  refine lv_aload_n hC.1 hC.2.1 dL_play_2 rfl (lv_at hl 0 rfl) ?_
  refine lv_iload_n hC.1 hC.2.1 dL_play_3 rfl (lv_at hl 1 rfl) ?_
  refine lv_iload_n hC.1 hC.2.1 dL_play_4 rfl (lv_at hl 2 rfl) ?_
  refine p_cvH (n := 2) (hM) hC hE hP hD hS (hX.1.1) (hX.1.2) rfl gL_play_X0_play rfl (by decide +kernel) rfl ⟨by decide, by decide⟩ ⟨by simp only [rD]; omega, by simp only [rD]; omega⟩ hl.1 (Nat.le_of_ble_eq_true rfl) dL_play_5 rfl (fun o L2 f2 H locs hpost hP hD hS => ?_)
  obtain ⟨rfl, hLe, hX2, hFR⟩ := hpost
  rw [hLe] at hP hD
  obtain ⟨n1, n2, n3, n4⟩ := hX.nout heo
  have heo2 : f2 o9 = eJ T.2.1 1 gO := (hFR o9 n1 n2 n3).trans heo
  refine lv_i2l hC.1 hC.2.1 dL_play_8 rfl ?_
  refine p_last hC hE hP hD hS hmo heo2 (by decide) (by decide) dL_play_9 (fun H locs hP hD hS => ?_)
  refine lv_goto (tgt := 25) hC.1 hC.2.1 dL_play_10 (by decide) ?_
  refine lv_iconst (v := (nI 0)) hC.1 hC.2.1 dL_play_25 (by decide) ?_
  exact HV.iret hC hr hlk hP hD hS (by omega) (by omega) dL_play_26 (⟨rfl, rfl, f2, gO, hX2, hFR, heo2, rfl⟩)

set_option maxHeartbeats 4000000 in
set_option maxRecDepth 100000 in
theorem l_playX1 (l : Launch) {D : va_G} {T : ClassId × ClassId × ClassId} {z0 : Nat} {L : List Nat} {f : Nat → va_E} {hx g ln : Nat} {rw : Nat → Nat} {b : Nat → Nat} {mk : Int32} {wd : Nat → List Nat} {o9 : Nat} {gO : Nat → Int64} (hX : CX T L f hx g ln rw b mk wd) (hmo : o9 ∈ L) (heo : f o9 = eJ T.2.1 1 gO) {x y : Int32} (hM : MX l yX0_play wsX0_play 8 D z0 (zPreX D T z0 L f) L f [.ref hx, .int x, .int y] exI) : HV l yL_play wsL_play (24) 1 6 D z0 (zPreY D T z0 L f) [.ref hx, .int x, .int y, .ref o9] (LX L f 1) := by
  refine HV.ofH (cc := cL_play) (maxL := 5) (ret := some .int) (by decide) rfl (Nat.le_of_ble_eq_true rfl) ?_
  intro p e s m args below meth c hC hr hlk htab hB ls hl
  have hl : lv_has ls 5 [(0, .ref hx), (1, .int x), (2, .int y), (3, .ref o9)] := hl
  obtain ⟨⟨hE, hP, hD⟩, hXw, hYw⟩ := hB
  have hS : va_S (zA z0) s.heap s.heap [] := va_S.rf
  refine lv_aload_n hC.1 hC.2.1 dL_play_0 rfl (lv_at hl 3 rfl) ?_
  refine lv_iconst (v := (nI 0)) hC.1 hC.2.1 dL_play_1 (by decide) ?_
  refine lv_aload_n hC.1 hC.2.1 dL_play_2 rfl (lv_at hl 0 rfl) ?_
  refine lv_iload_n hC.1 hC.2.1 dL_play_3 rfl (lv_at hl 1 rfl) ?_
  refine lv_iload_n hC.1 hC.2.1 dL_play_4 rfl (lv_at hl 2 rfl) ?_
  refine x_cvL (n := 2) hM hC hE hXw hP hD hS hX.1.1 hX.1.2 rfl gL_play_X0_play rfl (by decide +kernel) rfl (by simp only [rD]; omega) ⟨by simp only [rD]; omega, by simp only [rD]; omega⟩ hl.1 (Nat.le_of_ble_eq_true rfl) dL_play_5 rfl (fun ce q9 H locs hP hD hS hce hcv hcl => ?_)
  refine vx_catch (own := RL) (name := "java/lang/IndexOutOfBoundsException") (E := exI) hC.2.2.2.1 [] ⟨0, 10, 13, 13⟩ [⟨0, 10, 17, 15⟩, ⟨0, 10, 21, 20⟩] htab (fun z hz => absurd hz List.not_mem_nil) (by decide) (by decide) (hC.2.2.2.2 _ (by decide +kernel : Cond.classLink RL 13 "java/lang/IndexOutOfBoundsException" ∈ wsL_play)) (va_Nw.use rfl hXw.1) hce hcv hcl ?_
  refine lv_astore (lv' := [(4, .ref q9), (0, .ref hx), (1, .int x), (2, .int y), (3, .ref o9)]) hC.1 hC.2.1 dL_play_13 hl (by decide) rfl (fun ls hl => ?_)
  refine lv_iconst (v := (nI 1)) hC.1 hC.2.1 dL_play_15 (by decide) ?_
  exact HV.iret hC hr hlk hP hD hS (by omega) (by omega) dL_play_16 (⟨rfl, rfl, rfl⟩)

set_option maxHeartbeats 4000000 in
set_option maxRecDepth 100000 in
theorem l_playX2 (l : Launch) {D : va_G} {T : ClassId × ClassId × ClassId} {z0 : Nat} {L : List Nat} {f : Nat → va_E} {hx g ln : Nat} {rw : Nat → Nat} {b : Nat → Nat} {mk : Int32} {wd : Nat → List Nat} {o9 : Nat} {gO : Nat → Int64} (hX : CX T L f hx g ln rw b mk wd) (hmo : o9 ∈ L) (heo : f o9 = eJ T.2.1 1 gO) {x y : Int32} (hM : MX l yX0_play wsX0_play 8 D z0 (zPreX D T z0 L f) L f [.ref hx, .int x, .int y] exA) : HV l yL_play wsL_play (24) 1 6 D z0 (zPreY D T z0 L f) [.ref hx, .int x, .int y, .ref o9] (LX L f 2) := by
  refine HV.ofH (cc := cL_play) (maxL := 5) (ret := some .int) (by decide) rfl (Nat.le_of_ble_eq_true rfl) ?_
  intro p e s m args below meth c hC hr hlk htab hB ls hl
  have hl : lv_has ls 5 [(0, .ref hx), (1, .int x), (2, .int y), (3, .ref o9)] := hl
  obtain ⟨⟨hE, hP, hD⟩, hXw, hYw⟩ := hB
  have hS : va_S (zA z0) s.heap s.heap [] := va_S.rf
  refine lv_aload_n hC.1 hC.2.1 dL_play_0 rfl (lv_at hl 3 rfl) ?_
  refine lv_iconst (v := (nI 0)) hC.1 hC.2.1 dL_play_1 (by decide) ?_
  refine lv_aload_n hC.1 hC.2.1 dL_play_2 rfl (lv_at hl 0 rfl) ?_
  refine lv_iload_n hC.1 hC.2.1 dL_play_3 rfl (lv_at hl 1 rfl) ?_
  refine lv_iload_n hC.1 hC.2.1 dL_play_4 rfl (lv_at hl 2 rfl) ?_
  refine x_cvL (n := 2) hM hC hE hXw hP hD hS hX.1.1 hX.1.2 rfl gL_play_X0_play rfl (by decide +kernel) rfl (by simp only [rD]; omega) ⟨by simp only [rD]; omega, by simp only [rD]; omega⟩ hl.1 (Nat.le_of_ble_eq_true rfl) dL_play_5 rfl (fun ce q9 H locs hP hD hS hce hcv hcl => ?_)
  have hpass : ∀ z ∈ ([⟨0, 10, 13, 13⟩] : List ExceptionTableEntry), covers z 5 = false ∨ (z.catchType ≠ 0 ∧ ∃ nm : String, (Cond.classLink RL z.catchType nm).before args s = true ∧ va_Nc exA nm s) := by
    intro z hz
    simp only [List.mem_cons, List.not_mem_nil, or_false] at hz
    rcases hz with rfl
    · exact Or.inr ⟨by decide, "java/lang/IndexOutOfBoundsException", hC.2.2.2.2 _ (by decide +kernel : Cond.classLink RL 13 "java/lang/IndexOutOfBoundsException" ∈ wsL_play), hYw.1⟩
  refine vx_catch (own := RL) (name := "java/lang/IllegalArgumentException") (E := exA) hC.2.2.2.1 [⟨0, 10, 13, 13⟩] ⟨0, 10, 17, 15⟩ [⟨0, 10, 21, 20⟩] htab (hpass) (by decide) (by decide) (hC.2.2.2.2 _ (by decide +kernel : Cond.classLink RL 15 "java/lang/IllegalArgumentException" ∈ wsL_play)) (va_Nw.use rfl hXw.2.1) hce hcv hcl ?_
  refine lv_astore (lv' := [(4, .ref q9), (0, .ref hx), (1, .int x), (2, .int y), (3, .ref o9)]) hC.1 hC.2.1 dL_play_17 hl (by decide) rfl (fun ls hl => ?_)
  refine lv_iconst (v := (nI 2)) hC.1 hC.2.1 dL_play_19 (by decide) ?_
  exact HV.iret hC hr hlk hP hD hS (by omega) (by omega) dL_play_20 (⟨rfl, rfl, rfl⟩)

set_option maxHeartbeats 4000000 in
set_option maxRecDepth 100000 in
theorem l_playX3 (l : Launch) {D : va_G} {T : ClassId × ClassId × ClassId} {z0 : Nat} {L : List Nat} {f : Nat → va_E} {hx g ln : Nat} {rw : Nat → Nat} {b : Nat → Nat} {mk : Int32} {wd : Nat → List Nat} {o9 : Nat} {gO : Nat → Int64} (hX : CX T L f hx g ln rw b mk wd) (hmo : o9 ∈ L) (heo : f o9 = eJ T.2.1 1 gO) {x y : Int32} (hM : MX l yX0_play wsX0_play 8 D z0 (zPreX D T z0 L f) L f [.ref hx, .int x, .int y] exS) : HV l yL_play wsL_play (24) 1 6 D z0 (zPreY D T z0 L f) [.ref hx, .int x, .int y, .ref o9] (LX L f 3) := by
  refine HV.ofH (cc := cL_play) (maxL := 5) (ret := some .int) (by decide) rfl (Nat.le_of_ble_eq_true rfl) ?_
  intro p e s m args below meth c hC hr hlk htab hB ls hl
  have hl : lv_has ls 5 [(0, .ref hx), (1, .int x), (2, .int y), (3, .ref o9)] := hl
  obtain ⟨⟨hE, hP, hD⟩, hXw, hYw⟩ := hB
  have hS : va_S (zA z0) s.heap s.heap [] := va_S.rf
  refine lv_aload_n hC.1 hC.2.1 dL_play_0 rfl (lv_at hl 3 rfl) ?_
  refine lv_iconst (v := (nI 0)) hC.1 hC.2.1 dL_play_1 (by decide) ?_
  refine lv_aload_n hC.1 hC.2.1 dL_play_2 rfl (lv_at hl 0 rfl) ?_
  refine lv_iload_n hC.1 hC.2.1 dL_play_3 rfl (lv_at hl 1 rfl) ?_
  refine lv_iload_n hC.1 hC.2.1 dL_play_4 rfl (lv_at hl 2 rfl) ?_
  refine x_cvL (n := 2) hM hC hE hXw hP hD hS hX.1.1 hX.1.2 rfl gL_play_X0_play rfl (by decide +kernel) rfl (by simp only [rD]; omega) ⟨by simp only [rD]; omega, by simp only [rD]; omega⟩ hl.1 (Nat.le_of_ble_eq_true rfl) dL_play_5 rfl (fun ce q9 H locs hP hD hS hce hcv hcl => ?_)
  have hpass : ∀ z ∈ ([⟨0, 10, 13, 13⟩, ⟨0, 10, 17, 15⟩] : List ExceptionTableEntry), covers z 5 = false ∨ (z.catchType ≠ 0 ∧ ∃ nm : String, (Cond.classLink RL z.catchType nm).before args s = true ∧ va_Nc exS nm s) := by
    intro z hz
    simp only [List.mem_cons, List.not_mem_nil, or_false] at hz
    rcases hz with rfl | rfl
    · exact Or.inr ⟨by decide, "java/lang/IndexOutOfBoundsException", hC.2.2.2.2 _ (by decide +kernel : Cond.classLink RL 13 "java/lang/IndexOutOfBoundsException" ∈ wsL_play), hYw.2.1⟩
    · exact Or.inr ⟨by decide, "java/lang/IllegalArgumentException", hC.2.2.2.2 _ (by decide +kernel : Cond.classLink RL 15 "java/lang/IllegalArgumentException" ∈ wsL_play), hYw.2.2⟩
  refine vx_catch (own := RL) (name := "java/lang/IllegalStateException") (E := exS) hC.2.2.2.1 [⟨0, 10, 13, 13⟩, ⟨0, 10, 17, 15⟩] ⟨0, 10, 21, 20⟩ [] htab (hpass) (by decide) (by decide) (hC.2.2.2.2 _ (by decide +kernel : Cond.classLink RL 20 "java/lang/IllegalStateException" ∈ wsL_play)) (va_Nw.use rfl hXw.2.2.1) hce hcv hcl ?_
  refine lv_astore (lv' := [(4, .ref q9), (0, .ref hx), (1, .int x), (2, .int y), (3, .ref o9)]) hC.1 hC.2.1 dL_play_21 hl (by decide) rfl (fun ls hl => ?_)
  refine lv_iconst (v := (nI 3)) hC.1 hC.2.1 dL_play_23 (by decide) ?_
  exact HV.iret hC hr hlk hP hD hS (by omega) (by omega) dL_play_24 (⟨rfl, rfl, rfl⟩)

set_option maxHeartbeats 4000000 in
set_option maxRecDepth 100000 in
theorem l_say (l : Launch) {D : va_G} {T : ClassId × ClassId × ClassId} {z0 : Nat} {L : List Nat} {f : Nat → va_E} {hx g ln : Nat} {rw : Nat → Nat} {b : Nat → Nat} {mk : Int32} {wd : Nat → List Nat} {o9 : Nat} {gO : Nat → Int64} (hX : CX T L f hx g ln rw b mk wd) (hmo : o9 ∈ L) (heo : f o9 = eJ T.2.1 1 gO) {x y z r mk2 : Int32} {b2 : Nat → Nat} {wd2 : Nat → List Nat} (hM : HV l yX0_say wsX0_say 6 0 0 D z0 (zPre D T z0 L f) [.ref hx, .int x, .int y, .int z] (XP T L f hx g ln rw r b2 mk2 wd2)) : HV l yL_say wsL_say (24) 1 6 D z0 (zPreY D T z0 L f) [.ref hx, .int x, .int y, .int z, .ref o9] (LPo T L f hx g ln rw o9 r.toInt64 b2 mk2 wd2) := by
  refine HV.ofH (cc := cL_say) (maxL := 6) (ret := some .int) (by decide) rfl (Nat.le_of_ble_eq_true rfl) ?_
  intro p e s m args below meth c hC hr hlk htab hB ls hl
  have hl : lv_has ls 6 [(0, .ref hx), (1, .int x), (2, .int y), (3, .int z), (4, .ref o9)] := hl
  obtain ⟨⟨hE, hP, hD⟩, hXw, hYw⟩ := hB
  have hS : va_S (zA z0) s.heap s.heap [] := va_S.rf
  refine lv_aload hC.1 hC.2.1 dL_say_0 (lv_at hl 4 rfl) ?_
  refine lv_iconst (v := (nI 0)) hC.1 hC.2.1 dL_say_2 (by decide) ?_
  refine lv_aload_n hC.1 hC.2.1 dL_say_3 rfl (lv_at hl 0 rfl) ?_
  refine lv_iload_n hC.1 hC.2.1 dL_say_4 rfl (lv_at hl 1 rfl) ?_
  refine lv_iload_n hC.1 hC.2.1 dL_say_5 rfl (lv_at hl 2 rfl) ?_
  refine lv_iload_n hC.1 hC.2.1 dL_say_6 rfl (lv_at hl 3 rfl) ?_
  refine p_cvH (n := 3) (hM) hC hE hP hD hS (hX.1.1) (hX.1.2) rfl gL_say_X0_say rfl (by decide +kernel) rfl ⟨by decide, by decide⟩ ⟨by simp only [rD]; omega, by simp only [rD]; omega⟩ hl.1 (Nat.le_of_ble_eq_true rfl) dL_say_7 rfl (fun o L2 f2 H locs hpost hP hD hS => ?_)
  obtain ⟨rfl, hLe, hX2, hFR⟩ := hpost
  rw [hLe] at hP hD
  obtain ⟨n1, n2, n3, n4⟩ := hX.nout heo
  have heo2 : f2 o9 = eJ T.2.1 1 gO := (hFR o9 n1 n2 n3).trans heo
  refine lv_i2l hC.1 hC.2.1 dL_say_10 rfl ?_
  refine p_last hC hE hP hD hS hmo heo2 (by decide) (by decide) dL_say_11 (fun H locs hP hD hS => ?_)
  refine lv_goto (tgt := 27) hC.1 hC.2.1 dL_say_12 (by decide) ?_
  refine lv_iconst (v := (nI 0)) hC.1 hC.2.1 dL_say_27 (by decide) ?_
  exact HV.iret hC hr hlk hP hD hS (by omega) (by omega) dL_say_28 (⟨rfl, rfl, f2, gO, hX2, hFR, heo2, rfl⟩)

set_option maxHeartbeats 4000000 in
set_option maxRecDepth 100000 in
theorem l_sayX1 (l : Launch) {D : va_G} {T : ClassId × ClassId × ClassId} {z0 : Nat} {L : List Nat} {f : Nat → va_E} {hx g ln : Nat} {rw : Nat → Nat} {b : Nat → Nat} {mk : Int32} {wd : Nat → List Nat} {o9 : Nat} {gO : Nat → Int64} (hX : CX T L f hx g ln rw b mk wd) (hmo : o9 ∈ L) (heo : f o9 = eJ T.2.1 1 gO) {x y z : Int32} (hM : MX l yX0_say wsX0_say 8 D z0 (zPreX D T z0 L f) L f [.ref hx, .int x, .int y, .int z] exI) : HV l yL_say wsL_say (24) 1 6 D z0 (zPreY D T z0 L f) [.ref hx, .int x, .int y, .int z, .ref o9] (LX L f 1) := by
  refine HV.ofH (cc := cL_say) (maxL := 6) (ret := some .int) (by decide) rfl (Nat.le_of_ble_eq_true rfl) ?_
  intro p e s m args below meth c hC hr hlk htab hB ls hl
  have hl : lv_has ls 6 [(0, .ref hx), (1, .int x), (2, .int y), (3, .int z), (4, .ref o9)] := hl
  obtain ⟨⟨hE, hP, hD⟩, hXw, hYw⟩ := hB
  have hS : va_S (zA z0) s.heap s.heap [] := va_S.rf
  refine lv_aload hC.1 hC.2.1 dL_say_0 (lv_at hl 4 rfl) ?_
  refine lv_iconst (v := (nI 0)) hC.1 hC.2.1 dL_say_2 (by decide) ?_
  refine lv_aload_n hC.1 hC.2.1 dL_say_3 rfl (lv_at hl 0 rfl) ?_
  refine lv_iload_n hC.1 hC.2.1 dL_say_4 rfl (lv_at hl 1 rfl) ?_
  refine lv_iload_n hC.1 hC.2.1 dL_say_5 rfl (lv_at hl 2 rfl) ?_
  refine lv_iload_n hC.1 hC.2.1 dL_say_6 rfl (lv_at hl 3 rfl) ?_
  refine x_cvL (n := 3) hM hC hE hXw hP hD hS hX.1.1 hX.1.2 rfl gL_say_X0_say rfl (by decide +kernel) rfl (by simp only [rD]; omega) ⟨by simp only [rD]; omega, by simp only [rD]; omega⟩ hl.1 (Nat.le_of_ble_eq_true rfl) dL_say_7 rfl (fun ce q9 H locs hP hD hS hce hcv hcl => ?_)
  refine vx_catch (own := RL) (name := "java/lang/IndexOutOfBoundsException") (E := exI) hC.2.2.2.1 [] ⟨0, 12, 15, 13⟩ [⟨0, 12, 19, 15⟩, ⟨0, 12, 23, 20⟩] htab (fun z hz => absurd hz List.not_mem_nil) (by decide) (by decide) (hC.2.2.2.2 _ (by decide +kernel : Cond.classLink RL 13 "java/lang/IndexOutOfBoundsException" ∈ wsL_say)) (va_Nw.use rfl hXw.1) hce hcv hcl ?_
  refine lv_astore (lv' := [(5, .ref q9), (0, .ref hx), (1, .int x), (2, .int y), (3, .int z), (4, .ref o9)]) hC.1 hC.2.1 dL_say_15 hl (by decide) rfl (fun ls hl => ?_)
  refine lv_iconst (v := (nI 1)) hC.1 hC.2.1 dL_say_17 (by decide) ?_
  exact HV.iret hC hr hlk hP hD hS (by omega) (by omega) dL_say_18 (⟨rfl, rfl, rfl⟩)

set_option maxHeartbeats 4000000 in
set_option maxRecDepth 100000 in
theorem l_sayX2 (l : Launch) {D : va_G} {T : ClassId × ClassId × ClassId} {z0 : Nat} {L : List Nat} {f : Nat → va_E} {hx g ln : Nat} {rw : Nat → Nat} {b : Nat → Nat} {mk : Int32} {wd : Nat → List Nat} {o9 : Nat} {gO : Nat → Int64} (hX : CX T L f hx g ln rw b mk wd) (hmo : o9 ∈ L) (heo : f o9 = eJ T.2.1 1 gO) {x y z : Int32} (hM : MX l yX0_say wsX0_say 8 D z0 (zPreX D T z0 L f) L f [.ref hx, .int x, .int y, .int z] exA) : HV l yL_say wsL_say (24) 1 6 D z0 (zPreY D T z0 L f) [.ref hx, .int x, .int y, .int z, .ref o9] (LX L f 2) := by
  refine HV.ofH (cc := cL_say) (maxL := 6) (ret := some .int) (by decide) rfl (Nat.le_of_ble_eq_true rfl) ?_
  intro p e s m args below meth c hC hr hlk htab hB ls hl
  have hl : lv_has ls 6 [(0, .ref hx), (1, .int x), (2, .int y), (3, .int z), (4, .ref o9)] := hl
  obtain ⟨⟨hE, hP, hD⟩, hXw, hYw⟩ := hB
  have hS : va_S (zA z0) s.heap s.heap [] := va_S.rf
  refine lv_aload hC.1 hC.2.1 dL_say_0 (lv_at hl 4 rfl) ?_
  refine lv_iconst (v := (nI 0)) hC.1 hC.2.1 dL_say_2 (by decide) ?_
  refine lv_aload_n hC.1 hC.2.1 dL_say_3 rfl (lv_at hl 0 rfl) ?_
  refine lv_iload_n hC.1 hC.2.1 dL_say_4 rfl (lv_at hl 1 rfl) ?_
  refine lv_iload_n hC.1 hC.2.1 dL_say_5 rfl (lv_at hl 2 rfl) ?_
  refine lv_iload_n hC.1 hC.2.1 dL_say_6 rfl (lv_at hl 3 rfl) ?_
  refine x_cvL (n := 3) hM hC hE hXw hP hD hS hX.1.1 hX.1.2 rfl gL_say_X0_say rfl (by decide +kernel) rfl (by simp only [rD]; omega) ⟨by simp only [rD]; omega, by simp only [rD]; omega⟩ hl.1 (Nat.le_of_ble_eq_true rfl) dL_say_7 rfl (fun ce q9 H locs hP hD hS hce hcv hcl => ?_)
  have hpass : ∀ z ∈ ([⟨0, 12, 15, 13⟩] : List ExceptionTableEntry), covers z 7 = false ∨ (z.catchType ≠ 0 ∧ ∃ nm : String, (Cond.classLink RL z.catchType nm).before args s = true ∧ va_Nc exA nm s) := by
    intro z hz
    simp only [List.mem_cons, List.not_mem_nil, or_false] at hz
    rcases hz with rfl
    · exact Or.inr ⟨by decide, "java/lang/IndexOutOfBoundsException", hC.2.2.2.2 _ (by decide +kernel : Cond.classLink RL 13 "java/lang/IndexOutOfBoundsException" ∈ wsL_say), hYw.1⟩
  refine vx_catch (own := RL) (name := "java/lang/IllegalArgumentException") (E := exA) hC.2.2.2.1 [⟨0, 12, 15, 13⟩] ⟨0, 12, 19, 15⟩ [⟨0, 12, 23, 20⟩] htab (hpass) (by decide) (by decide) (hC.2.2.2.2 _ (by decide +kernel : Cond.classLink RL 15 "java/lang/IllegalArgumentException" ∈ wsL_say)) (va_Nw.use rfl hXw.2.1) hce hcv hcl ?_
  refine lv_astore (lv' := [(5, .ref q9), (0, .ref hx), (1, .int x), (2, .int y), (3, .int z), (4, .ref o9)]) hC.1 hC.2.1 dL_say_19 hl (by decide) rfl (fun ls hl => ?_)
  refine lv_iconst (v := (nI 2)) hC.1 hC.2.1 dL_say_21 (by decide) ?_
  exact HV.iret hC hr hlk hP hD hS (by omega) (by omega) dL_say_22 (⟨rfl, rfl, rfl⟩)

set_option maxHeartbeats 4000000 in
set_option maxRecDepth 100000 in
theorem l_sayX3 (l : Launch) {D : va_G} {T : ClassId × ClassId × ClassId} {z0 : Nat} {L : List Nat} {f : Nat → va_E} {hx g ln : Nat} {rw : Nat → Nat} {b : Nat → Nat} {mk : Int32} {wd : Nat → List Nat} {o9 : Nat} {gO : Nat → Int64} (hX : CX T L f hx g ln rw b mk wd) (hmo : o9 ∈ L) (heo : f o9 = eJ T.2.1 1 gO) {x y z : Int32} (hM : MX l yX0_say wsX0_say 8 D z0 (zPreX D T z0 L f) L f [.ref hx, .int x, .int y, .int z] exS) : HV l yL_say wsL_say (24) 1 6 D z0 (zPreY D T z0 L f) [.ref hx, .int x, .int y, .int z, .ref o9] (LX L f 3) := by
  refine HV.ofH (cc := cL_say) (maxL := 6) (ret := some .int) (by decide) rfl (Nat.le_of_ble_eq_true rfl) ?_
  intro p e s m args below meth c hC hr hlk htab hB ls hl
  have hl : lv_has ls 6 [(0, .ref hx), (1, .int x), (2, .int y), (3, .int z), (4, .ref o9)] := hl
  obtain ⟨⟨hE, hP, hD⟩, hXw, hYw⟩ := hB
  have hS : va_S (zA z0) s.heap s.heap [] := va_S.rf
  refine lv_aload hC.1 hC.2.1 dL_say_0 (lv_at hl 4 rfl) ?_
  refine lv_iconst (v := (nI 0)) hC.1 hC.2.1 dL_say_2 (by decide) ?_
  refine lv_aload_n hC.1 hC.2.1 dL_say_3 rfl (lv_at hl 0 rfl) ?_
  refine lv_iload_n hC.1 hC.2.1 dL_say_4 rfl (lv_at hl 1 rfl) ?_
  refine lv_iload_n hC.1 hC.2.1 dL_say_5 rfl (lv_at hl 2 rfl) ?_
  refine lv_iload_n hC.1 hC.2.1 dL_say_6 rfl (lv_at hl 3 rfl) ?_
  refine x_cvL (n := 3) hM hC hE hXw hP hD hS hX.1.1 hX.1.2 rfl gL_say_X0_say rfl (by decide +kernel) rfl (by simp only [rD]; omega) ⟨by simp only [rD]; omega, by simp only [rD]; omega⟩ hl.1 (Nat.le_of_ble_eq_true rfl) dL_say_7 rfl (fun ce q9 H locs hP hD hS hce hcv hcl => ?_)
  have hpass : ∀ z ∈ ([⟨0, 12, 15, 13⟩, ⟨0, 12, 19, 15⟩] : List ExceptionTableEntry), covers z 7 = false ∨ (z.catchType ≠ 0 ∧ ∃ nm : String, (Cond.classLink RL z.catchType nm).before args s = true ∧ va_Nc exS nm s) := by
    intro z hz
    simp only [List.mem_cons, List.not_mem_nil, or_false] at hz
    rcases hz with rfl | rfl
    · exact Or.inr ⟨by decide, "java/lang/IndexOutOfBoundsException", hC.2.2.2.2 _ (by decide +kernel : Cond.classLink RL 13 "java/lang/IndexOutOfBoundsException" ∈ wsL_say), hYw.2.1⟩
    · exact Or.inr ⟨by decide, "java/lang/IllegalArgumentException", hC.2.2.2.2 _ (by decide +kernel : Cond.classLink RL 15 "java/lang/IllegalArgumentException" ∈ wsL_say), hYw.2.2⟩
  refine vx_catch (own := RL) (name := "java/lang/IllegalStateException") (E := exS) hC.2.2.2.1 [⟨0, 12, 15, 13⟩, ⟨0, 12, 19, 15⟩] ⟨0, 12, 23, 20⟩ [] htab (hpass) (by decide) (by decide) (hC.2.2.2.2 _ (by decide +kernel : Cond.classLink RL 20 "java/lang/IllegalStateException" ∈ wsL_say)) (va_Nw.use rfl hXw.2.2.1) hce hcv hcl ?_
  refine lv_astore (lv' := [(5, .ref q9), (0, .ref hx), (1, .int x), (2, .int y), (3, .int z), (4, .ref o9)]) hC.1 hC.2.1 dL_say_23 hl (by decide) rfl (fun ls hl => ?_)
  refine lv_iconst (v := (nI 3)) hC.1 hC.2.1 dL_say_25 (by decide) ?_
  exact HV.iret hC hr hlk hP hD hS (by omega) (by omega) dL_say_26 (⟨rfl, rfl, rfl⟩)

set_option maxHeartbeats 4000000 in
set_option maxRecDepth 100000 in
theorem l_wipe (l : Launch) {D : va_G} {T : ClassId × ClassId × ClassId} {z0 : Nat} {L : List Nat} {f : Nat → va_E} {hx g ln : Nat} {rw : Nat → Nat} {b : Nat → Nat} {mk : Int32} {wd : Nat → List Nat} {o9 : Nat} {gO : Nat → Int64} (hX : CX T L f hx g ln rw b mk wd) (hmo : o9 ∈ L) (heo : f o9 = eJ T.2.1 1 gO) {x r mk2 : Int32} {b2 : Nat → Nat} {wd2 : Nat → List Nat} (hM : HV l yX0_wipe wsX0_wipe 5 0 0 D z0 (zPre D T z0 L f) [.ref hx, .int x] (XP T L f hx g ln rw r b2 mk2 wd2)) : HV l yL_wipe wsL_wipe (24) 1 6 D z0 (zPreY D T z0 L f) [.ref hx, .int x, .ref o9] (LPo T L f hx g ln rw o9 r.toInt64 b2 mk2 wd2) := by
  refine HV.ofH (cc := cL_wipe) (maxL := 4) (ret := some .int) (by decide) rfl (Nat.le_of_ble_eq_true rfl) ?_
  intro p e s m args below meth c hC hr hlk htab hB ls hl
  have hl : lv_has ls 4 [(0, .ref hx), (1, .int x), (2, .ref o9)] := hl
  obtain ⟨⟨hE, hP, hD⟩, hXw, hYw⟩ := hB
  have hS : va_S (zA z0) s.heap s.heap [] := va_S.rf
  refine lv_aload_n hC.1 hC.2.1 dL_wipe_0 rfl (lv_at hl 2 rfl) ?_
  refine lv_iconst (v := (nI 0)) hC.1 hC.2.1 dL_wipe_1 (by decide) ?_
  refine lv_aload_n hC.1 hC.2.1 dL_wipe_2 rfl (lv_at hl 0 rfl) ?_
  refine lv_iload_n hC.1 hC.2.1 dL_wipe_3 rfl (lv_at hl 1 rfl) ?_
  refine p_cvH (n := 1) (hM) hC hE hP hD hS (hX.1.1) (hX.1.2) rfl gL_wipe_X0_wipe rfl (by decide +kernel) rfl ⟨by decide, by decide⟩ ⟨by simp only [rD]; omega, by simp only [rD]; omega⟩ hl.1 (Nat.le_of_ble_eq_true rfl) dL_wipe_4 rfl (fun o L2 f2 H locs hpost hP hD hS => ?_)
  obtain ⟨rfl, hLe, hX2, hFR⟩ := hpost
  rw [hLe] at hP hD
  obtain ⟨n1, n2, n3, n4⟩ := hX.nout heo
  have heo2 : f2 o9 = eJ T.2.1 1 gO := (hFR o9 n1 n2 n3).trans heo
  refine lv_i2l hC.1 hC.2.1 dL_wipe_7 rfl ?_
  refine p_last hC hE hP hD hS hmo heo2 (by decide) (by decide) dL_wipe_8 (fun H locs hP hD hS => ?_)
  refine lv_goto (tgt := 15) hC.1 hC.2.1 dL_wipe_9 (by decide) ?_
  refine lv_iconst (v := (nI 0)) hC.1 hC.2.1 dL_wipe_15 (by decide) ?_
  exact HV.iret hC hr hlk hP hD hS (by omega) (by omega) dL_wipe_16 (⟨rfl, rfl, f2, gO, hX2, hFR, heo2, rfl⟩)

set_option maxHeartbeats 4000000 in
set_option maxRecDepth 100000 in
theorem l_wipeX1 (l : Launch) {D : va_G} {T : ClassId × ClassId × ClassId} {z0 : Nat} {L : List Nat} {f : Nat → va_E} {hx g ln : Nat} {rw : Nat → Nat} {b : Nat → Nat} {mk : Int32} {wd : Nat → List Nat} {o9 : Nat} {gO : Nat → Int64} (hX : CX T L f hx g ln rw b mk wd) (hmo : o9 ∈ L) (heo : f o9 = eJ T.2.1 1 gO) {x : Int32} (hM : MX l yX0_wipe wsX0_wipe 8 D z0 (zPreX D T z0 L f) L f [.ref hx, .int x] exI) : HV l yL_wipe wsL_wipe (24) 1 6 D z0 (zPreY D T z0 L f) [.ref hx, .int x, .ref o9] (LX L f 1) := by
  refine HV.ofH (cc := cL_wipe) (maxL := 4) (ret := some .int) (by decide) rfl (Nat.le_of_ble_eq_true rfl) ?_
  intro p e s m args below meth c hC hr hlk htab hB ls hl
  have hl : lv_has ls 4 [(0, .ref hx), (1, .int x), (2, .ref o9)] := hl
  obtain ⟨⟨hE, hP, hD⟩, hXw, hYw⟩ := hB
  have hS : va_S (zA z0) s.heap s.heap [] := va_S.rf
  refine lv_aload_n hC.1 hC.2.1 dL_wipe_0 rfl (lv_at hl 2 rfl) ?_
  refine lv_iconst (v := (nI 0)) hC.1 hC.2.1 dL_wipe_1 (by decide) ?_
  refine lv_aload_n hC.1 hC.2.1 dL_wipe_2 rfl (lv_at hl 0 rfl) ?_
  refine lv_iload_n hC.1 hC.2.1 dL_wipe_3 rfl (lv_at hl 1 rfl) ?_
  refine x_cvL (n := 1) hM hC hE hXw hP hD hS hX.1.1 hX.1.2 rfl gL_wipe_X0_wipe rfl (by decide +kernel) rfl (by simp only [rD]; omega) ⟨by simp only [rD]; omega, by simp only [rD]; omega⟩ hl.1 (Nat.le_of_ble_eq_true rfl) dL_wipe_4 rfl (fun ce q9 H locs hP hD hS hce hcv hcl => ?_)
  refine vx_catch (own := RL) (name := "java/lang/IndexOutOfBoundsException") (E := exI) hC.2.2.2.1 [] ⟨0, 9, 12, 13⟩ [] htab (fun z hz => absurd hz List.not_mem_nil) (by decide) (by decide) (hC.2.2.2.2 _ (by decide +kernel : Cond.classLink RL 13 "java/lang/IndexOutOfBoundsException" ∈ wsL_wipe)) (va_Nw.use rfl hXw.1) hce hcv hcl ?_
  refine lv_astore_n (lv' := [(3, .ref q9), (0, .ref hx), (1, .int x), (2, .ref o9)]) hC.1 hC.2.1 dL_wipe_12 rfl hl (by decide) rfl (fun ls hl => ?_)
  refine lv_iconst (v := (nI 1)) hC.1 hC.2.1 dL_wipe_13 (by decide) ?_
  exact HV.iret hC hr hlk hP hD hS (by omega) (by omega) dL_wipe_14 (⟨rfl, rfl, rfl⟩)

set_option maxHeartbeats 4000000 in
set_option maxRecDepth 100000 in
theorem l_round (l : Launch) {D : va_G} {T : ClassId × ClassId × ClassId} {z0 : Nat} {L : List Nat} {f : Nat → va_E} {hx g ln : Nat} {rw : Nat → Nat} {b : Nat → Nat} {mk : Int32} {wd : Nat → List Nat} {o9 : Nat} {gO : Nat → Int64} (hX : CX T L f hx g ln rw b mk wd) (hmo : o9 ∈ L) (heo : f o9 = eJ T.2.1 1 gO) {x r mk2 : Int32} {b2 : Nat → Nat} {wd2 : Nat → List Nat} (hM : HV l yX0_round wsX0_round 6 0 0 D z0 (zPre D T z0 L f) [.ref hx, .int x] (XP T L f hx g ln rw r b2 mk2 wd2)) : HV l yL_round wsL_round (24) 1 6 D z0 (zPreY D T z0 L f) [.ref hx, .int x, .ref o9] (LPo T L f hx g ln rw o9 r.toInt64 b2 mk2 wd2) := by
  refine HV.ofH (cc := cL_round) (maxL := 4) (ret := some .int) (by decide) rfl (Nat.le_of_ble_eq_true rfl) ?_
  intro p e s m args below meth c hC hr hlk htab hB ls hl
  have hl : lv_has ls 4 [(0, .ref hx), (1, .int x), (2, .ref o9)] := hl
  obtain ⟨⟨hE, hP, hD⟩, hXw, hYw⟩ := hB
  have hS : va_S (zA z0) s.heap s.heap [] := va_S.rf
  refine lv_aload_n hC.1 hC.2.1 dL_round_0 rfl (lv_at hl 2 rfl) ?_
  refine lv_iconst (v := (nI 0)) hC.1 hC.2.1 dL_round_1 (by decide) ?_
  refine lv_aload_n hC.1 hC.2.1 dL_round_2 rfl (lv_at hl 0 rfl) ?_
  refine lv_iload_n hC.1 hC.2.1 dL_round_3 rfl (lv_at hl 1 rfl) ?_
  refine p_cvH (n := 1) (hM) hC hE hP hD hS (hX.1.1) (hX.1.2) rfl gL_round_X0_round rfl (by decide +kernel) rfl ⟨by decide, by decide⟩ ⟨by simp only [rD]; omega, by simp only [rD]; omega⟩ hl.1 (Nat.le_of_ble_eq_true rfl) dL_round_4 rfl (fun o L2 f2 H locs hpost hP hD hS => ?_)
  obtain ⟨rfl, hLe, hX2, hFR⟩ := hpost
  rw [hLe] at hP hD
  obtain ⟨n1, n2, n3, n4⟩ := hX.nout heo
  have heo2 : f2 o9 = eJ T.2.1 1 gO := (hFR o9 n1 n2 n3).trans heo
  refine lv_i2l hC.1 hC.2.1 dL_round_7 rfl ?_
  refine p_last hC hE hP hD hS hmo heo2 (by decide) (by decide) dL_round_8 (fun H locs hP hD hS => ?_)
  refine lv_goto (tgt := 15) hC.1 hC.2.1 dL_round_9 (by decide) ?_
  refine lv_iconst (v := (nI 0)) hC.1 hC.2.1 dL_round_15 (by decide) ?_
  exact HV.iret hC hr hlk hP hD hS (by omega) (by omega) dL_round_16 (⟨rfl, rfl, f2, gO, hX2, hFR, heo2, rfl⟩)

set_option maxHeartbeats 4000000 in
set_option maxRecDepth 100000 in
theorem l_roundX1 (l : Launch) {D : va_G} {T : ClassId × ClassId × ClassId} {z0 : Nat} {L : List Nat} {f : Nat → va_E} {hx g ln : Nat} {rw : Nat → Nat} {b : Nat → Nat} {mk : Int32} {wd : Nat → List Nat} {o9 : Nat} {gO : Nat → Int64} (hX : CX T L f hx g ln rw b mk wd) (hmo : o9 ∈ L) (heo : f o9 = eJ T.2.1 1 gO) {x : Int32} (hM : MX l yX0_round wsX0_round 8 D z0 (zPreX D T z0 L f) L f [.ref hx, .int x] exI) : HV l yL_round wsL_round (24) 1 6 D z0 (zPreY D T z0 L f) [.ref hx, .int x, .ref o9] (LX L f 1) := by
  refine HV.ofH (cc := cL_round) (maxL := 4) (ret := some .int) (by decide) rfl (Nat.le_of_ble_eq_true rfl) ?_
  intro p e s m args below meth c hC hr hlk htab hB ls hl
  have hl : lv_has ls 4 [(0, .ref hx), (1, .int x), (2, .ref o9)] := hl
  obtain ⟨⟨hE, hP, hD⟩, hXw, hYw⟩ := hB
  have hS : va_S (zA z0) s.heap s.heap [] := va_S.rf
  refine lv_aload_n hC.1 hC.2.1 dL_round_0 rfl (lv_at hl 2 rfl) ?_
  refine lv_iconst (v := (nI 0)) hC.1 hC.2.1 dL_round_1 (by decide) ?_
  refine lv_aload_n hC.1 hC.2.1 dL_round_2 rfl (lv_at hl 0 rfl) ?_
  refine lv_iload_n hC.1 hC.2.1 dL_round_3 rfl (lv_at hl 1 rfl) ?_
  refine x_cvL (n := 1) hM hC hE hXw hP hD hS hX.1.1 hX.1.2 rfl gL_round_X0_round rfl (by decide +kernel) rfl (by simp only [rD]; omega) ⟨by simp only [rD]; omega, by simp only [rD]; omega⟩ hl.1 (Nat.le_of_ble_eq_true rfl) dL_round_4 rfl (fun ce q9 H locs hP hD hS hce hcv hcl => ?_)
  refine vx_catch (own := RL) (name := "java/lang/IndexOutOfBoundsException") (E := exI) hC.2.2.2.1 [] ⟨0, 9, 12, 13⟩ [] htab (fun z hz => absurd hz List.not_mem_nil) (by decide) (by decide) (hC.2.2.2.2 _ (by decide +kernel : Cond.classLink RL 13 "java/lang/IndexOutOfBoundsException" ∈ wsL_round)) (va_Nw.use rfl hXw.1) hce hcv hcl ?_
  refine lv_astore_n (lv' := [(3, .ref q9), (0, .ref hx), (1, .int x), (2, .ref o9)]) hC.1 hC.2.1 dL_round_12 rfl hl (by decide) rfl (fun ls hl => ?_)
  refine lv_iconst (v := (nI 1)) hC.1 hC.2.1 dL_round_13 (by decide) ?_
  exact HV.iret hC hr hlk hP hD hS (by omega) (by omega) dL_round_14 (⟨rfl, rfl, rfl⟩)

set_option maxHeartbeats 4000000 in
set_option maxRecDepth 100000 in
theorem l_join (l : Launch) {D : va_G} {T : ClassId × ClassId × ClassId} {z0 : Nat} {L : List Nat} {f : Nat → va_E} {hx g ln : Nat} {rw : Nat → Nat} {b : Nat → Nat} {mk : Int32} {wd : Nat → List Nat} {o9 : Nat} {gO : Nat → Int64} (hX : CX T L f hx g ln rw b mk wd) (hmo : o9 ∈ L) (heo : f o9 = eJ T.2.1 1 gO) {x y r mk2 : Int32} {b2 : Nat → Nat} {wd2 : Nat → List Nat} (hM : HV l yX0_join wsX0_join 6 0 0 D z0 (zPre D T z0 L f) [.ref hx, .int x, .int y] (XP T L f hx g ln rw r b2 mk2 wd2)) : HV l yL_join wsL_join (24) 1 6 D z0 (zPreY D T z0 L f) [.ref hx, .int x, .int y, .ref o9] (LPo T L f hx g ln rw o9 r.toInt64 b2 mk2 wd2) := by
  refine HV.ofH (cc := cL_join) (maxL := 5) (ret := some .int) (by decide) rfl (Nat.le_of_ble_eq_true rfl) ?_
  intro p e s m args below meth c hC hr hlk htab hB ls hl
  have hl : lv_has ls 5 [(0, .ref hx), (1, .int x), (2, .int y), (3, .ref o9)] := hl
  obtain ⟨⟨hE, hP, hD⟩, hXw, hYw⟩ := hB
  have hS : va_S (zA z0) s.heap s.heap [] := va_S.rf
  refine lv_aload_n hC.1 hC.2.1 dL_join_0 rfl (lv_at hl 3 rfl) ?_
  refine lv_iconst (v := (nI 0)) hC.1 hC.2.1 dL_join_1 (by decide) ?_
  refine lv_aload_n hC.1 hC.2.1 dL_join_2 rfl (lv_at hl 0 rfl) ?_
  refine lv_iload_n hC.1 hC.2.1 dL_join_3 rfl (lv_at hl 1 rfl) ?_
  refine lv_iload_n hC.1 hC.2.1 dL_join_4 rfl (lv_at hl 2 rfl) ?_
  refine p_cvH (n := 2) (hM) hC hE hP hD hS (hX.1.1) (hX.1.2) rfl gL_join_X0_join rfl (by decide +kernel) rfl ⟨by decide, by decide⟩ ⟨by simp only [rD]; omega, by simp only [rD]; omega⟩ hl.1 (Nat.le_of_ble_eq_true rfl) dL_join_5 rfl (fun o L2 f2 H locs hpost hP hD hS => ?_)
  obtain ⟨rfl, hLe, hX2, hFR⟩ := hpost
  rw [hLe] at hP hD
  obtain ⟨n1, n2, n3, n4⟩ := hX.nout heo
  have heo2 : f2 o9 = eJ T.2.1 1 gO := (hFR o9 n1 n2 n3).trans heo
  refine lv_i2l hC.1 hC.2.1 dL_join_8 rfl ?_
  refine p_last hC hE hP hD hS hmo heo2 (by decide) (by decide) dL_join_9 (fun H locs hP hD hS => ?_)
  refine lv_goto (tgt := 21) hC.1 hC.2.1 dL_join_10 (by decide) ?_
  refine lv_iconst (v := (nI 0)) hC.1 hC.2.1 dL_join_21 (by decide) ?_
  exact HV.iret hC hr hlk hP hD hS (by omega) (by omega) dL_join_22 (⟨rfl, rfl, f2, gO, hX2, hFR, heo2, rfl⟩)

set_option maxHeartbeats 4000000 in
set_option maxRecDepth 100000 in
theorem l_joinX1 (l : Launch) {D : va_G} {T : ClassId × ClassId × ClassId} {z0 : Nat} {L : List Nat} {f : Nat → va_E} {hx g ln : Nat} {rw : Nat → Nat} {b : Nat → Nat} {mk : Int32} {wd : Nat → List Nat} {o9 : Nat} {gO : Nat → Int64} (hX : CX T L f hx g ln rw b mk wd) (hmo : o9 ∈ L) (heo : f o9 = eJ T.2.1 1 gO) {x y : Int32} (hM : MX l yX0_join wsX0_join 8 D z0 (zPreX D T z0 L f) L f [.ref hx, .int x, .int y] exI) : HV l yL_join wsL_join (24) 1 6 D z0 (zPreY D T z0 L f) [.ref hx, .int x, .int y, .ref o9] (LX L f 1) := by
  refine HV.ofH (cc := cL_join) (maxL := 5) (ret := some .int) (by decide) rfl (Nat.le_of_ble_eq_true rfl) ?_
  intro p e s m args below meth c hC hr hlk htab hB ls hl
  have hl : lv_has ls 5 [(0, .ref hx), (1, .int x), (2, .int y), (3, .ref o9)] := hl
  obtain ⟨⟨hE, hP, hD⟩, hXw, hYw⟩ := hB
  have hS : va_S (zA z0) s.heap s.heap [] := va_S.rf
  refine lv_aload_n hC.1 hC.2.1 dL_join_0 rfl (lv_at hl 3 rfl) ?_
  refine lv_iconst (v := (nI 0)) hC.1 hC.2.1 dL_join_1 (by decide) ?_
  refine lv_aload_n hC.1 hC.2.1 dL_join_2 rfl (lv_at hl 0 rfl) ?_
  refine lv_iload_n hC.1 hC.2.1 dL_join_3 rfl (lv_at hl 1 rfl) ?_
  refine lv_iload_n hC.1 hC.2.1 dL_join_4 rfl (lv_at hl 2 rfl) ?_
  refine x_cvL (n := 2) hM hC hE hXw hP hD hS hX.1.1 hX.1.2 rfl gL_join_X0_join rfl (by decide +kernel) rfl (by simp only [rD]; omega) ⟨by simp only [rD]; omega, by simp only [rD]; omega⟩ hl.1 (Nat.le_of_ble_eq_true rfl) dL_join_5 rfl (fun ce q9 H locs hP hD hS hce hcv hcl => ?_)
  refine vx_catch (own := RL) (name := "java/lang/IndexOutOfBoundsException") (E := exI) hC.2.2.2.1 [] ⟨0, 10, 13, 13⟩ [⟨0, 10, 17, 20⟩] htab (fun z hz => absurd hz List.not_mem_nil) (by decide) (by decide) (hC.2.2.2.2 _ (by decide +kernel : Cond.classLink RL 13 "java/lang/IndexOutOfBoundsException" ∈ wsL_join)) (va_Nw.use rfl hXw.1) hce hcv hcl ?_
  refine lv_astore (lv' := [(4, .ref q9), (0, .ref hx), (1, .int x), (2, .int y), (3, .ref o9)]) hC.1 hC.2.1 dL_join_13 hl (by decide) rfl (fun ls hl => ?_)
  refine lv_iconst (v := (nI 1)) hC.1 hC.2.1 dL_join_15 (by decide) ?_
  exact HV.iret hC hr hlk hP hD hS (by omega) (by omega) dL_join_16 (⟨rfl, rfl, rfl⟩)

set_option maxHeartbeats 4000000 in
set_option maxRecDepth 100000 in
theorem l_joinX2 (l : Launch) {D : va_G} {T : ClassId × ClassId × ClassId} {z0 : Nat} {L : List Nat} {f : Nat → va_E} {hx g ln : Nat} {rw : Nat → Nat} {b : Nat → Nat} {mk : Int32} {wd : Nat → List Nat} {o9 : Nat} {gO : Nat → Int64} (hX : CX T L f hx g ln rw b mk wd) (hmo : o9 ∈ L) (heo : f o9 = eJ T.2.1 1 gO) {x y : Int32} (hM : MX l yX0_join wsX0_join 8 D z0 (zPreX D T z0 L f) L f [.ref hx, .int x, .int y] exS) : HV l yL_join wsL_join (24) 1 6 D z0 (zPreY D T z0 L f) [.ref hx, .int x, .int y, .ref o9] (LX L f 2) := by
  refine HV.ofH (cc := cL_join) (maxL := 5) (ret := some .int) (by decide) rfl (Nat.le_of_ble_eq_true rfl) ?_
  intro p e s m args below meth c hC hr hlk htab hB ls hl
  have hl : lv_has ls 5 [(0, .ref hx), (1, .int x), (2, .int y), (3, .ref o9)] := hl
  obtain ⟨⟨hE, hP, hD⟩, hXw, hYw⟩ := hB
  have hS : va_S (zA z0) s.heap s.heap [] := va_S.rf
  refine lv_aload_n hC.1 hC.2.1 dL_join_0 rfl (lv_at hl 3 rfl) ?_
  refine lv_iconst (v := (nI 0)) hC.1 hC.2.1 dL_join_1 (by decide) ?_
  refine lv_aload_n hC.1 hC.2.1 dL_join_2 rfl (lv_at hl 0 rfl) ?_
  refine lv_iload_n hC.1 hC.2.1 dL_join_3 rfl (lv_at hl 1 rfl) ?_
  refine lv_iload_n hC.1 hC.2.1 dL_join_4 rfl (lv_at hl 2 rfl) ?_
  refine x_cvL (n := 2) hM hC hE hXw hP hD hS hX.1.1 hX.1.2 rfl gL_join_X0_join rfl (by decide +kernel) rfl (by simp only [rD]; omega) ⟨by simp only [rD]; omega, by simp only [rD]; omega⟩ hl.1 (Nat.le_of_ble_eq_true rfl) dL_join_5 rfl (fun ce q9 H locs hP hD hS hce hcv hcl => ?_)
  have hpass : ∀ z ∈ ([⟨0, 10, 13, 13⟩] : List ExceptionTableEntry), covers z 5 = false ∨ (z.catchType ≠ 0 ∧ ∃ nm : String, (Cond.classLink RL z.catchType nm).before args s = true ∧ va_Nc exS nm s) := by
    intro z hz
    simp only [List.mem_cons, List.not_mem_nil, or_false] at hz
    rcases hz with rfl
    · exact Or.inr ⟨by decide, "java/lang/IndexOutOfBoundsException", hC.2.2.2.2 _ (by decide +kernel : Cond.classLink RL 13 "java/lang/IndexOutOfBoundsException" ∈ wsL_join), hYw.2.1⟩
  refine vx_catch (own := RL) (name := "java/lang/IllegalStateException") (E := exS) hC.2.2.2.1 [⟨0, 10, 13, 13⟩] ⟨0, 10, 17, 20⟩ [] htab (hpass) (by decide) (by decide) (hC.2.2.2.2 _ (by decide +kernel : Cond.classLink RL 20 "java/lang/IllegalStateException" ∈ wsL_join)) (va_Nw.use rfl hXw.2.2.1) hce hcv hcl ?_
  refine lv_astore (lv' := [(4, .ref q9), (0, .ref hx), (1, .int x), (2, .int y), (3, .ref o9)]) hC.1 hC.2.1 dL_join_17 hl (by decide) rfl (fun ls hl => ?_)
  refine lv_iconst (v := (nI 2)) hC.1 hC.2.1 dL_join_19 (by decide) ?_
  exact HV.iret hC hr hlk hP hD hS (by omega) (by omega) dL_join_20 (⟨rfl, rfl, rfl⟩)

set_option maxHeartbeats 4000000 in
set_option maxRecDepth 100000 in
theorem l_tidy (l : Launch) {D : va_G} {T : ClassId × ClassId × ClassId} {z0 : Nat} {L : List Nat} {f : Nat → va_E} {hx g ln : Nat} {rw : Nat → Nat} {b : Nat → Nat} {mk : Int32} {wd : Nat → List Nat} {o9 : Nat} {gO : Nat → Int64} (hX : CX T L f hx g ln rw b mk wd) (hmo : o9 ∈ L) (heo : f o9 = eJ T.2.1 1 gO) {x r mk2 : Int32} {b2 : Nat → Nat} {wd2 : Nat → List Nat} (hM : HV l yX0_tidy wsX0_tidy 6 0 0 D z0 (zPre D T z0 L f) [.ref hx, .int x] (XP T L f hx g ln rw r b2 mk2 wd2)) : HV l yL_tidy wsL_tidy (24) 1 6 D z0 (zPreY D T z0 L f) [.ref hx, .int x, .ref o9] (LPo T L f hx g ln rw o9 r.toInt64 b2 mk2 wd2) := by
  refine HV.ofH (cc := cL_tidy) (maxL := 4) (ret := some .int) (by decide) rfl (Nat.le_of_ble_eq_true rfl) ?_
  intro p e s m args below meth c hC hr hlk htab hB ls hl
  have hl : lv_has ls 4 [(0, .ref hx), (1, .int x), (2, .ref o9)] := hl
  obtain ⟨⟨hE, hP, hD⟩, hXw, hYw⟩ := hB
  have hS : va_S (zA z0) s.heap s.heap [] := va_S.rf
  refine lv_aload_n hC.1 hC.2.1 dL_tidy_0 rfl (lv_at hl 2 rfl) ?_
  refine lv_iconst (v := (nI 0)) hC.1 hC.2.1 dL_tidy_1 (by decide) ?_
  refine lv_aload_n hC.1 hC.2.1 dL_tidy_2 rfl (lv_at hl 0 rfl) ?_
  refine lv_iload_n hC.1 hC.2.1 dL_tidy_3 rfl (lv_at hl 1 rfl) ?_
  refine p_cvH (n := 1) (hM) hC hE hP hD hS (hX.1.1) (hX.1.2) rfl gL_tidy_X0_tidy rfl (by decide +kernel) rfl ⟨by decide, by decide⟩ ⟨by simp only [rD]; omega, by simp only [rD]; omega⟩ hl.1 (Nat.le_of_ble_eq_true rfl) dL_tidy_4 rfl (fun o L2 f2 H locs hpost hP hD hS => ?_)
  obtain ⟨rfl, hLe, hX2, hFR⟩ := hpost
  rw [hLe] at hP hD
  obtain ⟨n1, n2, n3, n4⟩ := hX.nout heo
  have heo2 : f2 o9 = eJ T.2.1 1 gO := (hFR o9 n1 n2 n3).trans heo
  refine lv_i2l hC.1 hC.2.1 dL_tidy_7 rfl ?_
  refine p_last hC hE hP hD hS hmo heo2 (by decide) (by decide) dL_tidy_8 (fun H locs hP hD hS => ?_)
  refine lv_goto (tgt := 15) hC.1 hC.2.1 dL_tidy_9 (by decide) ?_
  refine lv_iconst (v := (nI 0)) hC.1 hC.2.1 dL_tidy_15 (by decide) ?_
  exact HV.iret hC hr hlk hP hD hS (by omega) (by omega) dL_tidy_16 (⟨rfl, rfl, f2, gO, hX2, hFR, heo2, rfl⟩)

set_option maxHeartbeats 4000000 in
set_option maxRecDepth 100000 in
theorem l_tidyX1 (l : Launch) {D : va_G} {T : ClassId × ClassId × ClassId} {z0 : Nat} {L : List Nat} {f : Nat → va_E} {hx g ln : Nat} {rw : Nat → Nat} {b : Nat → Nat} {mk : Int32} {wd : Nat → List Nat} {o9 : Nat} {gO : Nat → Int64} (hX : CX T L f hx g ln rw b mk wd) (hmo : o9 ∈ L) (heo : f o9 = eJ T.2.1 1 gO) {x : Int32} (hM : MX l yX0_tidy wsX0_tidy 8 D z0 (zPreX D T z0 L f) L f [.ref hx, .int x] exI) : HV l yL_tidy wsL_tidy (24) 1 6 D z0 (zPreY D T z0 L f) [.ref hx, .int x, .ref o9] (LX L f 1) := by
  refine HV.ofH (cc := cL_tidy) (maxL := 4) (ret := some .int) (by decide) rfl (Nat.le_of_ble_eq_true rfl) ?_
  intro p e s m args below meth c hC hr hlk htab hB ls hl
  have hl : lv_has ls 4 [(0, .ref hx), (1, .int x), (2, .ref o9)] := hl
  obtain ⟨⟨hE, hP, hD⟩, hXw, hYw⟩ := hB
  have hS : va_S (zA z0) s.heap s.heap [] := va_S.rf
  refine lv_aload_n hC.1 hC.2.1 dL_tidy_0 rfl (lv_at hl 2 rfl) ?_
  refine lv_iconst (v := (nI 0)) hC.1 hC.2.1 dL_tidy_1 (by decide) ?_
  refine lv_aload_n hC.1 hC.2.1 dL_tidy_2 rfl (lv_at hl 0 rfl) ?_
  refine lv_iload_n hC.1 hC.2.1 dL_tidy_3 rfl (lv_at hl 1 rfl) ?_
  refine x_cvL (n := 1) hM hC hE hXw hP hD hS hX.1.1 hX.1.2 rfl gL_tidy_X0_tidy rfl (by decide +kernel) rfl (by simp only [rD]; omega) ⟨by simp only [rD]; omega, by simp only [rD]; omega⟩ hl.1 (Nat.le_of_ble_eq_true rfl) dL_tidy_4 rfl (fun ce q9 H locs hP hD hS hce hcv hcl => ?_)
  refine vx_catch (own := RL) (name := "java/lang/IndexOutOfBoundsException") (E := exI) hC.2.2.2.1 [] ⟨0, 9, 12, 13⟩ [] htab (fun z hz => absurd hz List.not_mem_nil) (by decide) (by decide) (hC.2.2.2.2 _ (by decide +kernel : Cond.classLink RL 13 "java/lang/IndexOutOfBoundsException" ∈ wsL_tidy)) (va_Nw.use rfl hXw.1) hce hcv hcl ?_
  refine lv_astore_n (lv' := [(3, .ref q9), (0, .ref hx), (1, .int x), (2, .ref o9)]) hC.1 hC.2.1 dL_tidy_12 rfl hl (by decide) rfl (fun ls hl => ?_)
  refine lv_iconst (v := (nI 1)) hC.1 hC.2.1 dL_tidy_13 (by decide) ?_
  exact HV.iret hC hr hlk hP hD hS (by omega) (by omega) dL_tidy_14 (⟨rfl, rfl, rfl⟩)

set_option maxHeartbeats 4000000 in
set_option maxRecDepth 100000 in
theorem l_told (l : Launch) {D : va_G} {T : ClassId × ClassId × ClassId} {z0 : Nat} {L : List Nat} {f : Nat → va_E} {hx g ln : Nat} {rw : Nat → Nat} {b : Nat → Nat} {mk : Int32} {wd : Nat → List Nat} {o9 : Nat} {gO : Nat → Int64} (hX : CX T L f hx g ln rw b mk wd) (hmo : o9 ∈ L) (heo : f o9 = eJ T.2.1 1 gO) {x y : Int32} {r : Int32} (hM : RV l yX0_told wsX0_told 5 (zPre D T z0 L f) [.ref hx, .int x, .int y] (some (.int (r)))) : HV l yL_told wsL_told (24) 1 6 D z0 (zPreY D T z0 L f) [.ref hx, .int x, .int y, .ref o9] (LPo T L f hx g ln rw o9 (r.toInt64) b mk wd) := by
  refine HV.ofH (cc := cL_told) (maxL := 5) (ret := some .int) (by decide) rfl (Nat.le_of_ble_eq_true rfl) ?_
  intro p e s m args below meth c hC hr hlk htab hB ls hl
  have hl : lv_has ls 5 [(0, .ref hx), (1, .int x), (2, .int y), (3, .ref o9)] := hl
  obtain ⟨⟨hE, hP, hD⟩, hXw, hYw⟩ := hB
  have hS : va_S (zA z0) s.heap s.heap [] := va_S.rf
  refine lv_aload_n hC.1 hC.2.1 dL_told_0 rfl (lv_at hl 3 rfl) ?_
  refine lv_iconst (v := (nI 0)) hC.1 hC.2.1 dL_told_1 (by decide) ?_
  refine lv_aload_n hC.1 hC.2.1 dL_told_2 rfl (lv_at hl 0 rfl) ?_
  refine lv_iload_n hC.1 hC.2.1 dL_told_3 rfl (lv_at hl 1 rfl) ?_
  refine lv_iload_n hC.1 hC.2.1 dL_told_4 rfl (lv_at hl 2 rfl) ?_
  refine p_cvB (n := 2) (hM) hC hE hP hD hS (hX.1.1) (hX.1.2) rfl gL_told_X0_told rfl (by decide +kernel) rfl ⟨by decide, by decide⟩ ⟨by simp only [rD]; omega, by simp only [rD]; omega⟩ hl.1 (Nat.le_of_ble_eq_true rfl) dL_told_5 rfl ?_
  refine lv_i2l hC.1 hC.2.1 dL_told_8 rfl ?_
  refine p_last hC hE hP hD hS hmo heo (by decide) (by decide) dL_told_9 (fun H locs hP hD hS => ?_)
  refine lv_goto (tgt := 17) hC.1 hC.2.1 dL_told_10 (by decide) ?_
  refine lv_iconst (v := (nI 0)) hC.1 hC.2.1 dL_told_17 (by decide) ?_
  exact HV.iret hC hr hlk hP hD hS (by omega) (by omega) dL_told_18 (⟨rfl, rfl, f, gO, hX, FRX.rf, heo, rfl⟩)

set_option maxHeartbeats 4000000 in
set_option maxRecDepth 100000 in
theorem l_toldX1 (l : Launch) {D : va_G} {T : ClassId × ClassId × ClassId} {z0 : Nat} {L : List Nat} {f : Nat → va_E} {hx g ln : Nat} {rw : Nat → Nat} {b : Nat → Nat} {mk : Int32} {wd : Nat → List Nat} {o9 : Nat} {gO : Nat → Int64} (hX : CX T L f hx g ln rw b mk wd) (hmo : o9 ∈ L) (heo : f o9 = eJ T.2.1 1 gO) {x y : Int32} (hM : MX l yX0_told wsX0_told 8 D z0 (zPreX D T z0 L f) L f [.ref hx, .int x, .int y] exI) : HV l yL_told wsL_told (24) 1 6 D z0 (zPreY D T z0 L f) [.ref hx, .int x, .int y, .ref o9] (LX L f 1) := by
  refine HV.ofH (cc := cL_told) (maxL := 5) (ret := some .int) (by decide) rfl (Nat.le_of_ble_eq_true rfl) ?_
  intro p e s m args below meth c hC hr hlk htab hB ls hl
  have hl : lv_has ls 5 [(0, .ref hx), (1, .int x), (2, .int y), (3, .ref o9)] := hl
  obtain ⟨⟨hE, hP, hD⟩, hXw, hYw⟩ := hB
  have hS : va_S (zA z0) s.heap s.heap [] := va_S.rf
  refine lv_aload_n hC.1 hC.2.1 dL_told_0 rfl (lv_at hl 3 rfl) ?_
  refine lv_iconst (v := (nI 0)) hC.1 hC.2.1 dL_told_1 (by decide) ?_
  refine lv_aload_n hC.1 hC.2.1 dL_told_2 rfl (lv_at hl 0 rfl) ?_
  refine lv_iload_n hC.1 hC.2.1 dL_told_3 rfl (lv_at hl 1 rfl) ?_
  refine lv_iload_n hC.1 hC.2.1 dL_told_4 rfl (lv_at hl 2 rfl) ?_
  refine x_cvL (n := 2) hM hC hE hXw hP hD hS hX.1.1 hX.1.2 rfl gL_told_X0_told rfl (by decide +kernel) rfl (by simp only [rD]; omega) ⟨by simp only [rD]; omega, by simp only [rD]; omega⟩ hl.1 (Nat.le_of_ble_eq_true rfl) dL_told_5 rfl (fun ce q9 H locs hP hD hS hce hcv hcl => ?_)
  refine vx_catch (own := RL) (name := "java/lang/IndexOutOfBoundsException") (E := exI) hC.2.2.2.1 [] ⟨0, 10, 13, 13⟩ [] htab (fun z hz => absurd hz List.not_mem_nil) (by decide) (by decide) (hC.2.2.2.2 _ (by decide +kernel : Cond.classLink RL 13 "java/lang/IndexOutOfBoundsException" ∈ wsL_told)) (va_Nw.use rfl hXw.1) hce hcv hcl ?_
  refine lv_astore (lv' := [(4, .ref q9), (0, .ref hx), (1, .int x), (2, .int y), (3, .ref o9)]) hC.1 hC.2.1 dL_told_13 hl (by decide) rfl (fun ls hl => ?_)
  refine lv_iconst (v := (nI 1)) hC.1 hC.2.1 dL_told_15 (by decide) ?_
  exact HV.iret hC hr hlk hP hD hS (by omega) (by omega) dL_told_16 (⟨rfl, rfl, rfl⟩)

set_option maxHeartbeats 4000000 in
set_option maxRecDepth 100000 in
theorem l_where (l : Launch) {D : va_G} {T : ClassId × ClassId × ClassId} {z0 : Nat} {L : List Nat} {f : Nat → va_E} {hx g ln : Nat} {rw : Nat → Nat} {b : Nat → Nat} {mk : Int32} {wd : Nat → List Nat} {o9 : Nat} {gO : Nat → Int64} (hX : CX T L f hx g ln rw b mk wd) (hmo : o9 ∈ L) (heo : f o9 = eJ T.2.1 1 gO) {x : Int32} {r : Int32} (hM : RV l yX0_where wsX0_where 5 (zPre D T z0 L f) [.ref hx, .int x] (some (.int (r)))) : HV l yL_where wsL_where (24) 1 6 D z0 (zPreY D T z0 L f) [.ref hx, .int x, .ref o9] (LPo T L f hx g ln rw o9 (r.toInt64) b mk wd) := by
  refine HV.ofH (cc := cL_where) (maxL := 4) (ret := some .int) (by decide) rfl (Nat.le_of_ble_eq_true rfl) ?_
  intro p e s m args below meth c hC hr hlk htab hB ls hl
  have hl : lv_has ls 4 [(0, .ref hx), (1, .int x), (2, .ref o9)] := hl
  obtain ⟨⟨hE, hP, hD⟩, hXw, hYw⟩ := hB
  have hS : va_S (zA z0) s.heap s.heap [] := va_S.rf
  refine lv_aload_n hC.1 hC.2.1 dL_where_0 rfl (lv_at hl 2 rfl) ?_
  refine lv_iconst (v := (nI 0)) hC.1 hC.2.1 dL_where_1 (by decide) ?_
  refine lv_aload_n hC.1 hC.2.1 dL_where_2 rfl (lv_at hl 0 rfl) ?_
  refine lv_iload_n hC.1 hC.2.1 dL_where_3 rfl (lv_at hl 1 rfl) ?_
  refine p_cvB (n := 1) (hM) hC hE hP hD hS (hX.1.1) (hX.1.2) rfl gL_where_X0_where rfl (by decide +kernel) rfl ⟨by decide, by decide⟩ ⟨by simp only [rD]; omega, by simp only [rD]; omega⟩ hl.1 (Nat.le_of_ble_eq_true rfl) dL_where_4 rfl ?_
  refine lv_i2l hC.1 hC.2.1 dL_where_7 rfl ?_
  refine p_last hC hE hP hD hS hmo heo (by decide) (by decide) dL_where_8 (fun H locs hP hD hS => ?_)
  refine lv_goto (tgt := 15) hC.1 hC.2.1 dL_where_9 (by decide) ?_
  refine lv_iconst (v := (nI 0)) hC.1 hC.2.1 dL_where_15 (by decide) ?_
  exact HV.iret hC hr hlk hP hD hS (by omega) (by omega) dL_where_16 (⟨rfl, rfl, f, gO, hX, FRX.rf, heo, rfl⟩)

set_option maxHeartbeats 4000000 in
set_option maxRecDepth 100000 in
theorem l_whereX1 (l : Launch) {D : va_G} {T : ClassId × ClassId × ClassId} {z0 : Nat} {L : List Nat} {f : Nat → va_E} {hx g ln : Nat} {rw : Nat → Nat} {b : Nat → Nat} {mk : Int32} {wd : Nat → List Nat} {o9 : Nat} {gO : Nat → Int64} (hX : CX T L f hx g ln rw b mk wd) (hmo : o9 ∈ L) (heo : f o9 = eJ T.2.1 1 gO) {x : Int32} (hM : MX l yX0_where wsX0_where 8 D z0 (zPreX D T z0 L f) L f [.ref hx, .int x] exI) : HV l yL_where wsL_where (24) 1 6 D z0 (zPreY D T z0 L f) [.ref hx, .int x, .ref o9] (LX L f 1) := by
  refine HV.ofH (cc := cL_where) (maxL := 4) (ret := some .int) (by decide) rfl (Nat.le_of_ble_eq_true rfl) ?_
  intro p e s m args below meth c hC hr hlk htab hB ls hl
  have hl : lv_has ls 4 [(0, .ref hx), (1, .int x), (2, .ref o9)] := hl
  obtain ⟨⟨hE, hP, hD⟩, hXw, hYw⟩ := hB
  have hS : va_S (zA z0) s.heap s.heap [] := va_S.rf
  refine lv_aload_n hC.1 hC.2.1 dL_where_0 rfl (lv_at hl 2 rfl) ?_
  refine lv_iconst (v := (nI 0)) hC.1 hC.2.1 dL_where_1 (by decide) ?_
  refine lv_aload_n hC.1 hC.2.1 dL_where_2 rfl (lv_at hl 0 rfl) ?_
  refine lv_iload_n hC.1 hC.2.1 dL_where_3 rfl (lv_at hl 1 rfl) ?_
  refine x_cvL (n := 1) hM hC hE hXw hP hD hS hX.1.1 hX.1.2 rfl gL_where_X0_where rfl (by decide +kernel) rfl (by simp only [rD]; omega) ⟨by simp only [rD]; omega, by simp only [rD]; omega⟩ hl.1 (Nat.le_of_ble_eq_true rfl) dL_where_4 rfl (fun ce q9 H locs hP hD hS hce hcv hcl => ?_)
  refine vx_catch (own := RL) (name := "java/lang/IndexOutOfBoundsException") (E := exI) hC.2.2.2.1 [] ⟨0, 9, 12, 13⟩ [] htab (fun z hz => absurd hz List.not_mem_nil) (by decide) (by decide) (hC.2.2.2.2 _ (by decide +kernel : Cond.classLink RL 13 "java/lang/IndexOutOfBoundsException" ∈ wsL_where)) (va_Nw.use rfl hXw.1) hce hcv hcl ?_
  refine lv_astore_n (lv' := [(3, .ref q9), (0, .ref hx), (1, .int x), (2, .ref o9)]) hC.1 hC.2.1 dL_where_12 rfl hl (by decide) rfl (fun ls hl => ?_)
  refine lv_iconst (v := (nI 1)) hC.1 hC.2.1 dL_where_13 (by decide) ?_
  exact HV.iret hC hr hlk hP hD hS (by omega) (by omega) dL_where_14 (⟨rfl, rfl, rfl⟩)

set_option maxHeartbeats 4000000 in
set_option maxRecDepth 100000 in
theorem l_count (l : Launch) {D : va_G} {T : ClassId × ClassId × ClassId} {z0 : Nat} {L : List Nat} {f : Nat → va_E} {hx g ln : Nat} {rw : Nat → Nat} {b : Nat → Nat} {mk : Int32} {wd : Nat → List Nat} {o9 : Nat} {gO : Nat → Int64} (hX : CX T L f hx g ln rw b mk wd) (hmo : o9 ∈ L) (heo : f o9 = eJ T.2.1 1 gO) {x : Int32} {r : Int32} (hM : RV l yX0_count wsX0_count 5 (zPre D T z0 L f) [.ref hx, .int x] (some (.int (r)))) : HV l yL_count wsL_count (24) 1 6 D z0 (zPreY D T z0 L f) [.ref hx, .int x, .ref o9] (LPo T L f hx g ln rw o9 (r.toInt64) b mk wd) := by
  refine HV.ofH (cc := cL_count) (maxL := 4) (ret := some .int) (by decide) rfl (Nat.le_of_ble_eq_true rfl) ?_
  intro p e s m args below meth c hC hr hlk htab hB ls hl
  have hl : lv_has ls 4 [(0, .ref hx), (1, .int x), (2, .ref o9)] := hl
  obtain ⟨⟨hE, hP, hD⟩, hXw, hYw⟩ := hB
  have hS : va_S (zA z0) s.heap s.heap [] := va_S.rf
  refine lv_aload_n hC.1 hC.2.1 dL_count_0 rfl (lv_at hl 2 rfl) ?_
  refine lv_iconst (v := (nI 0)) hC.1 hC.2.1 dL_count_1 (by decide) ?_
  refine lv_aload_n hC.1 hC.2.1 dL_count_2 rfl (lv_at hl 0 rfl) ?_
  refine lv_iload_n hC.1 hC.2.1 dL_count_3 rfl (lv_at hl 1 rfl) ?_
  refine p_cvB (n := 1) (hM) hC hE hP hD hS (hX.1.1) (hX.1.2) rfl gL_count_X0_count rfl (by decide +kernel) rfl ⟨by decide, by decide⟩ ⟨by simp only [rD]; omega, by simp only [rD]; omega⟩ hl.1 (Nat.le_of_ble_eq_true rfl) dL_count_4 rfl ?_
  refine lv_i2l hC.1 hC.2.1 dL_count_7 rfl ?_
  refine p_last hC hE hP hD hS hmo heo (by decide) (by decide) dL_count_8 (fun H locs hP hD hS => ?_)
  refine lv_goto (tgt := 15) hC.1 hC.2.1 dL_count_9 (by decide) ?_
  refine lv_iconst (v := (nI 0)) hC.1 hC.2.1 dL_count_15 (by decide) ?_
  exact HV.iret hC hr hlk hP hD hS (by omega) (by omega) dL_count_16 (⟨rfl, rfl, f, gO, hX, FRX.rf, heo, rfl⟩)

set_option maxHeartbeats 4000000 in
set_option maxRecDepth 100000 in
theorem l_countX1 (l : Launch) {D : va_G} {T : ClassId × ClassId × ClassId} {z0 : Nat} {L : List Nat} {f : Nat → va_E} {hx g ln : Nat} {rw : Nat → Nat} {b : Nat → Nat} {mk : Int32} {wd : Nat → List Nat} {o9 : Nat} {gO : Nat → Int64} (hX : CX T L f hx g ln rw b mk wd) (hmo : o9 ∈ L) (heo : f o9 = eJ T.2.1 1 gO) {x : Int32} (hM : MX l yX0_count wsX0_count 8 D z0 (zPreX D T z0 L f) L f [.ref hx, .int x] exI) : HV l yL_count wsL_count (24) 1 6 D z0 (zPreY D T z0 L f) [.ref hx, .int x, .ref o9] (LX L f 1) := by
  refine HV.ofH (cc := cL_count) (maxL := 4) (ret := some .int) (by decide) rfl (Nat.le_of_ble_eq_true rfl) ?_
  intro p e s m args below meth c hC hr hlk htab hB ls hl
  have hl : lv_has ls 4 [(0, .ref hx), (1, .int x), (2, .ref o9)] := hl
  obtain ⟨⟨hE, hP, hD⟩, hXw, hYw⟩ := hB
  have hS : va_S (zA z0) s.heap s.heap [] := va_S.rf
  refine lv_aload_n hC.1 hC.2.1 dL_count_0 rfl (lv_at hl 2 rfl) ?_
  refine lv_iconst (v := (nI 0)) hC.1 hC.2.1 dL_count_1 (by decide) ?_
  refine lv_aload_n hC.1 hC.2.1 dL_count_2 rfl (lv_at hl 0 rfl) ?_
  refine lv_iload_n hC.1 hC.2.1 dL_count_3 rfl (lv_at hl 1 rfl) ?_
  refine x_cvL (n := 1) hM hC hE hXw hP hD hS hX.1.1 hX.1.2 rfl gL_count_X0_count rfl (by decide +kernel) rfl (by simp only [rD]; omega) ⟨by simp only [rD]; omega, by simp only [rD]; omega⟩ hl.1 (Nat.le_of_ble_eq_true rfl) dL_count_4 rfl (fun ce q9 H locs hP hD hS hce hcv hcl => ?_)
  refine vx_catch (own := RL) (name := "java/lang/IndexOutOfBoundsException") (E := exI) hC.2.2.2.1 [] ⟨0, 9, 12, 13⟩ [] htab (fun z hz => absurd hz List.not_mem_nil) (by decide) (by decide) (hC.2.2.2.2 _ (by decide +kernel : Cond.classLink RL 13 "java/lang/IndexOutOfBoundsException" ∈ wsL_count)) (va_Nw.use rfl hXw.1) hce hcv hcl ?_
  refine lv_astore_n (lv' := [(3, .ref q9), (0, .ref hx), (1, .int x), (2, .ref o9)]) hC.1 hC.2.1 dL_count_12 rfl hl (by decide) rfl (fun ls hl => ?_)
  refine lv_iconst (v := (nI 1)) hC.1 hC.2.1 dL_count_13 (by decide) ?_
  exact HV.iret hC hr hlk hP hD hS (by omega) (by omega) dL_count_14 (⟨rfl, rfl, rfl⟩)

set_option maxHeartbeats 4000000 in
set_option maxRecDepth 100000 in
theorem l_word (l : Launch) {D : va_G} {T : ClassId × ClassId × ClassId} {z0 : Nat} {L : List Nat} {f : Nat → va_E} {hx g ln : Nat} {rw : Nat → Nat} {b : Nat → Nat} {mk : Int32} {wd : Nat → List Nat} {o9 : Nat} {gO : Nat → Int64} (hX : CX T L f hx g ln rw b mk wd) (hmo : o9 ∈ L) (heo : f o9 = eJ T.2.1 1 gO) {x y : Int32} {r : Int32} (hM : RV l yX0_word wsX0_word 7 (zPre D T z0 L f) [.ref hx, .int x, .int y] (some (.int (r)))) : HV l yL_word wsL_word (24) 1 6 D z0 (zPreY D T z0 L f) [.ref hx, .int x, .int y, .ref o9] (LPo T L f hx g ln rw o9 (r.toInt64) b mk wd) := by
  refine HV.ofH (cc := cL_word) (maxL := 5) (ret := some .int) (by decide) rfl (Nat.le_of_ble_eq_true rfl) ?_
  intro p e s m args below meth c hC hr hlk htab hB ls hl
  have hl : lv_has ls 5 [(0, .ref hx), (1, .int x), (2, .int y), (3, .ref o9)] := hl
  obtain ⟨⟨hE, hP, hD⟩, hXw, hYw⟩ := hB
  have hS : va_S (zA z0) s.heap s.heap [] := va_S.rf
  refine lv_aload_n hC.1 hC.2.1 dL_word_0 rfl (lv_at hl 3 rfl) ?_
  refine lv_iconst (v := (nI 0)) hC.1 hC.2.1 dL_word_1 (by decide) ?_
  refine lv_aload_n hC.1 hC.2.1 dL_word_2 rfl (lv_at hl 0 rfl) ?_
  refine lv_iload_n hC.1 hC.2.1 dL_word_3 rfl (lv_at hl 1 rfl) ?_
  refine lv_iload_n hC.1 hC.2.1 dL_word_4 rfl (lv_at hl 2 rfl) ?_
  refine p_cvB (n := 2) (hM) hC hE hP hD hS (hX.1.1) (hX.1.2) rfl gL_word_X0_word rfl (by decide +kernel) rfl ⟨by decide, by decide⟩ ⟨by simp only [rD]; omega, by simp only [rD]; omega⟩ hl.1 (Nat.le_of_ble_eq_true rfl) dL_word_5 rfl ?_
  refine lv_i2l hC.1 hC.2.1 dL_word_8 rfl ?_
  refine p_last hC hE hP hD hS hmo heo (by decide) (by decide) dL_word_9 (fun H locs hP hD hS => ?_)
  refine lv_goto (tgt := 17) hC.1 hC.2.1 dL_word_10 (by decide) ?_
  refine lv_iconst (v := (nI 0)) hC.1 hC.2.1 dL_word_17 (by decide) ?_
  exact HV.iret hC hr hlk hP hD hS (by omega) (by omega) dL_word_18 (⟨rfl, rfl, f, gO, hX, FRX.rf, heo, rfl⟩)

set_option maxHeartbeats 4000000 in
set_option maxRecDepth 100000 in
theorem l_wordX1 (l : Launch) {D : va_G} {T : ClassId × ClassId × ClassId} {z0 : Nat} {L : List Nat} {f : Nat → va_E} {hx g ln : Nat} {rw : Nat → Nat} {b : Nat → Nat} {mk : Int32} {wd : Nat → List Nat} {o9 : Nat} {gO : Nat → Int64} (hX : CX T L f hx g ln rw b mk wd) (hmo : o9 ∈ L) (heo : f o9 = eJ T.2.1 1 gO) {x y : Int32} (hM : MX l yX0_word wsX0_word 8 D z0 (zPreX D T z0 L f) L f [.ref hx, .int x, .int y] exI) : HV l yL_word wsL_word (24) 1 6 D z0 (zPreY D T z0 L f) [.ref hx, .int x, .int y, .ref o9] (LX L f 1) := by
  refine HV.ofH (cc := cL_word) (maxL := 5) (ret := some .int) (by decide) rfl (Nat.le_of_ble_eq_true rfl) ?_
  intro p e s m args below meth c hC hr hlk htab hB ls hl
  have hl : lv_has ls 5 [(0, .ref hx), (1, .int x), (2, .int y), (3, .ref o9)] := hl
  obtain ⟨⟨hE, hP, hD⟩, hXw, hYw⟩ := hB
  have hS : va_S (zA z0) s.heap s.heap [] := va_S.rf
  refine lv_aload_n hC.1 hC.2.1 dL_word_0 rfl (lv_at hl 3 rfl) ?_
  refine lv_iconst (v := (nI 0)) hC.1 hC.2.1 dL_word_1 (by decide) ?_
  refine lv_aload_n hC.1 hC.2.1 dL_word_2 rfl (lv_at hl 0 rfl) ?_
  refine lv_iload_n hC.1 hC.2.1 dL_word_3 rfl (lv_at hl 1 rfl) ?_
  refine lv_iload_n hC.1 hC.2.1 dL_word_4 rfl (lv_at hl 2 rfl) ?_
  refine x_cvL (n := 2) hM hC hE hXw hP hD hS hX.1.1 hX.1.2 rfl gL_word_X0_word rfl (by decide +kernel) rfl (by simp only [rD]; omega) ⟨by simp only [rD]; omega, by simp only [rD]; omega⟩ hl.1 (Nat.le_of_ble_eq_true rfl) dL_word_5 rfl (fun ce q9 H locs hP hD hS hce hcv hcl => ?_)
  refine vx_catch (own := RL) (name := "java/lang/IndexOutOfBoundsException") (E := exI) hC.2.2.2.1 [] ⟨0, 10, 13, 13⟩ [] htab (fun z hz => absurd hz List.not_mem_nil) (by decide) (by decide) (hC.2.2.2.2 _ (by decide +kernel : Cond.classLink RL 13 "java/lang/IndexOutOfBoundsException" ∈ wsL_word)) (va_Nw.use rfl hXw.1) hce hcv hcl ?_
  refine lv_astore (lv' := [(4, .ref q9), (0, .ref hx), (1, .int x), (2, .int y), (3, .ref o9)]) hC.1 hC.2.1 dL_word_13 hl (by decide) rfl (fun ls hl => ?_)
  refine lv_iconst (v := (nI 1)) hC.1 hC.2.1 dL_word_15 (by decide) ?_
  exact HV.iret hC hr hlk hP hD hS (by omega) (by omega) dL_word_16 (⟨rfl, rfl, rfl⟩)

set_option maxHeartbeats 4000000 in
set_option maxRecDepth 100000 in
theorem l_at (l : Launch) {D : va_G} {T : ClassId × ClassId × ClassId} {z0 : Nat} {L : List Nat} {f : Nat → va_E} {hx g ln : Nat} {rw : Nat → Nat} {b : Nat → Nat} {mk : Int32} {wd : Nat → List Nat} {o9 : Nat} {gO : Nat → Int64} (hX : CX T L f hx g ln rw b mk wd) (hmo : o9 ∈ L) (heo : f o9 = eJ T.2.1 1 gO) {x y : Int32} {r : Int32} (hM : RV l yX0_at wsX0_at 5 (zPre D T z0 L f) [.ref hx, .int x, .int y] (some (.int (r)))) : HV l yL_at wsL_at (24) 1 6 D z0 (zPreY D T z0 L f) [.ref hx, .int x, .int y, .ref o9] (LPo T L f hx g ln rw o9 (r.toInt64) b mk wd) := by
  refine HV.ofH (cc := cL_at) (maxL := 5) (ret := some .int) (by decide) rfl (Nat.le_of_ble_eq_true rfl) ?_
  intro p e s m args below meth c hC hr hlk htab hB ls hl
  have hl : lv_has ls 5 [(0, .ref hx), (1, .int x), (2, .int y), (3, .ref o9)] := hl
  obtain ⟨⟨hE, hP, hD⟩, hXw, hYw⟩ := hB
  have hS : va_S (zA z0) s.heap s.heap [] := va_S.rf
  refine lv_aload_n hC.1 hC.2.1 dL_at_0 rfl (lv_at hl 3 rfl) ?_
  refine lv_iconst (v := (nI 0)) hC.1 hC.2.1 dL_at_1 (by decide) ?_
  refine lv_aload_n hC.1 hC.2.1 dL_at_2 rfl (lv_at hl 0 rfl) ?_
  refine lv_iload_n hC.1 hC.2.1 dL_at_3 rfl (lv_at hl 1 rfl) ?_
  refine lv_iload_n hC.1 hC.2.1 dL_at_4 rfl (lv_at hl 2 rfl) ?_
  refine p_cvB (n := 2) (hM) hC hE hP hD hS (hX.1.1) (hX.1.2) rfl gL_at_X0_at rfl (by decide +kernel) rfl ⟨by decide, by decide⟩ ⟨by simp only [rD]; omega, by simp only [rD]; omega⟩ hl.1 (Nat.le_of_ble_eq_true rfl) dL_at_5 rfl ?_
  refine lv_i2l hC.1 hC.2.1 dL_at_8 rfl ?_
  refine p_last hC hE hP hD hS hmo heo (by decide) (by decide) dL_at_9 (fun H locs hP hD hS => ?_)
  refine lv_goto (tgt := 17) hC.1 hC.2.1 dL_at_10 (by decide) ?_
  refine lv_iconst (v := (nI 0)) hC.1 hC.2.1 dL_at_17 (by decide) ?_
  exact HV.iret hC hr hlk hP hD hS (by omega) (by omega) dL_at_18 (⟨rfl, rfl, f, gO, hX, FRX.rf, heo, rfl⟩)

set_option maxHeartbeats 4000000 in
set_option maxRecDepth 100000 in
theorem l_atX1 (l : Launch) {D : va_G} {T : ClassId × ClassId × ClassId} {z0 : Nat} {L : List Nat} {f : Nat → va_E} {hx g ln : Nat} {rw : Nat → Nat} {b : Nat → Nat} {mk : Int32} {wd : Nat → List Nat} {o9 : Nat} {gO : Nat → Int64} (hX : CX T L f hx g ln rw b mk wd) (hmo : o9 ∈ L) (heo : f o9 = eJ T.2.1 1 gO) {x y : Int32} (hM : MX l yX0_at wsX0_at 8 D z0 (zPreX D T z0 L f) L f [.ref hx, .int x, .int y] exI) : HV l yL_at wsL_at (24) 1 6 D z0 (zPreY D T z0 L f) [.ref hx, .int x, .int y, .ref o9] (LX L f 1) := by
  refine HV.ofH (cc := cL_at) (maxL := 5) (ret := some .int) (by decide) rfl (Nat.le_of_ble_eq_true rfl) ?_
  intro p e s m args below meth c hC hr hlk htab hB ls hl
  have hl : lv_has ls 5 [(0, .ref hx), (1, .int x), (2, .int y), (3, .ref o9)] := hl
  obtain ⟨⟨hE, hP, hD⟩, hXw, hYw⟩ := hB
  have hS : va_S (zA z0) s.heap s.heap [] := va_S.rf
  refine lv_aload_n hC.1 hC.2.1 dL_at_0 rfl (lv_at hl 3 rfl) ?_
  refine lv_iconst (v := (nI 0)) hC.1 hC.2.1 dL_at_1 (by decide) ?_
  refine lv_aload_n hC.1 hC.2.1 dL_at_2 rfl (lv_at hl 0 rfl) ?_
  refine lv_iload_n hC.1 hC.2.1 dL_at_3 rfl (lv_at hl 1 rfl) ?_
  refine lv_iload_n hC.1 hC.2.1 dL_at_4 rfl (lv_at hl 2 rfl) ?_
  refine x_cvL (n := 2) hM hC hE hXw hP hD hS hX.1.1 hX.1.2 rfl gL_at_X0_at rfl (by decide +kernel) rfl (by simp only [rD]; omega) ⟨by simp only [rD]; omega, by simp only [rD]; omega⟩ hl.1 (Nat.le_of_ble_eq_true rfl) dL_at_5 rfl (fun ce q9 H locs hP hD hS hce hcv hcl => ?_)
  refine vx_catch (own := RL) (name := "java/lang/IndexOutOfBoundsException") (E := exI) hC.2.2.2.1 [] ⟨0, 10, 13, 13⟩ [] htab (fun z hz => absurd hz List.not_mem_nil) (by decide) (by decide) (hC.2.2.2.2 _ (by decide +kernel : Cond.classLink RL 13 "java/lang/IndexOutOfBoundsException" ∈ wsL_at)) (va_Nw.use rfl hXw.1) hce hcv hcl ?_
  refine lv_astore (lv' := [(4, .ref q9), (0, .ref hx), (1, .int x), (2, .int y), (3, .ref o9)]) hC.1 hC.2.1 dL_at_13 hl (by decide) rfl (fun ls hl => ?_)
  refine lv_iconst (v := (nI 1)) hC.1 hC.2.1 dL_at_15 (by decide) ?_
  exact HV.iret hC hr hlk hP hD hS (by omega) (by omega) dL_at_16 (⟨rfl, rfl, rfl⟩)

set_option maxHeartbeats 4000000 in
set_option maxRecDepth 100000 in
theorem l_same (l : Launch) {D : va_G} {T : ClassId × ClassId × ClassId} {z0 : Nat} {L : List Nat} {f : Nat → va_E} {hx g ln : Nat} {rw : Nat → Nat} {b : Nat → Nat} {mk : Int32} {wd : Nat → List Nat} {o9 : Nat} {gO : Nat → Int64} (hX : CX T L f hx g ln rw b mk wd) (hmo : o9 ∈ L) (heo : f o9 = eJ T.2.1 1 gO) {x y : Int32} {v : Nat} (hv : v < 2) (hM : RV l yX0_same wsX0_same 7 (zPre D T z0 L f) [.ref hx, .int x, .int y] (some (.int (nI v)))) : HV l yL_same wsL_same (24) 1 6 D z0 (zPreY D T z0 L f) [.ref hx, .int x, .int y, .ref o9] (LPo T L f hx g ln rw o9 (if v = 0 then 0 else 1) b mk wd) := by
  refine HV.ofH (cc := cL_same) (maxL := 5) (ret := some .int) (by decide) rfl (Nat.le_of_ble_eq_true rfl) ?_
  intro p e s m args below meth c hC hr hlk htab hB ls hl
  have hl : lv_has ls 5 [(0, .ref hx), (1, .int x), (2, .int y), (3, .ref o9)] := hl
  obtain ⟨⟨hE, hP, hD⟩, hXw, hYw⟩ := hB
  have hS : va_S (zA z0) s.heap s.heap [] := va_S.rf
  refine lv_aload_n hC.1 hC.2.1 dL_same_0 rfl (lv_at hl 3 rfl) ?_
  refine lv_iconst (v := (nI 0)) hC.1 hC.2.1 dL_same_1 (by decide) ?_
  refine lv_aload_n hC.1 hC.2.1 dL_same_2 rfl (lv_at hl 0 rfl) ?_
  refine lv_iload_n hC.1 hC.2.1 dL_same_3 rfl (lv_at hl 1 rfl) ?_
  refine lv_iload_n hC.1 hC.2.1 dL_same_4 rfl (lv_at hl 2 rfl) ?_
  refine p_cvB (n := 2) (hM) hC hE hP hD hS (hX.1.1) (hX.1.2) rfl gL_same_X0_same rfl (by decide +kernel) rfl ⟨by decide, by decide⟩ ⟨by simp only [rD]; omega, by simp only [rD]; omega⟩ hl.1 (Nat.le_of_ble_eq_true rfl) dL_same_5 rfl ?_
  refine z_if_eq (tgt := 15) hC dL_same_8 (by decide) (by omega) (fun h0 => ?_) (fun h0 => ?_)
  · rw [show (if v = 0 then 0 else 1 : Int64) = 0 from if_pos h0]
    refine lv_lconst (v := 0) hC.1 hC.2.1 dL_same_15 (by decide) ?_
    refine p_last hC hE hP hD hS hmo heo (by decide) (by decide) dL_same_16 (fun H locs hP hD hS => ?_)
    refine lv_goto (tgt := 24) hC.1 hC.2.1 dL_same_17 (by decide) ?_
    refine lv_iconst (v := (nI 0)) hC.1 hC.2.1 dL_same_24 (by decide) ?_
    exact HV.iret hC hr hlk hP hD hS (by omega) (by omega) dL_same_25 (⟨rfl, rfl, f, gO, hX, FRX.rf, heo, rfl⟩)
  · rw [show (if v = 0 then 0 else 1 : Int64) = 1 from if_neg h0]
    refine lv_lconst (v := 1) hC.1 hC.2.1 dL_same_11 (by decide) ?_
    refine lv_goto (tgt := 16) hC.1 hC.2.1 dL_same_12 (by decide) ?_
    refine p_last hC hE hP hD hS hmo heo (by decide) (by decide) dL_same_16 (fun H locs hP hD hS => ?_)
    refine lv_goto (tgt := 24) hC.1 hC.2.1 dL_same_17 (by decide) ?_
    refine lv_iconst (v := (nI 0)) hC.1 hC.2.1 dL_same_24 (by decide) ?_
    exact HV.iret hC hr hlk hP hD hS (by omega) (by omega) dL_same_25 (⟨rfl, rfl, f, gO, hX, FRX.rf, heo, rfl⟩)

set_option maxHeartbeats 4000000 in
set_option maxRecDepth 100000 in
theorem l_sameX1 (l : Launch) {D : va_G} {T : ClassId × ClassId × ClassId} {z0 : Nat} {L : List Nat} {f : Nat → va_E} {hx g ln : Nat} {rw : Nat → Nat} {b : Nat → Nat} {mk : Int32} {wd : Nat → List Nat} {o9 : Nat} {gO : Nat → Int64} (hX : CX T L f hx g ln rw b mk wd) (hmo : o9 ∈ L) (heo : f o9 = eJ T.2.1 1 gO) {x y : Int32} (hM : MX l yX0_same wsX0_same 8 D z0 (zPreX D T z0 L f) L f [.ref hx, .int x, .int y] exI) : HV l yL_same wsL_same (24) 1 6 D z0 (zPreY D T z0 L f) [.ref hx, .int x, .int y, .ref o9] (LX L f 1) := by
  refine HV.ofH (cc := cL_same) (maxL := 5) (ret := some .int) (by decide) rfl (Nat.le_of_ble_eq_true rfl) ?_
  intro p e s m args below meth c hC hr hlk htab hB ls hl
  have hl : lv_has ls 5 [(0, .ref hx), (1, .int x), (2, .int y), (3, .ref o9)] := hl
  obtain ⟨⟨hE, hP, hD⟩, hXw, hYw⟩ := hB
  have hS : va_S (zA z0) s.heap s.heap [] := va_S.rf
  refine lv_aload_n hC.1 hC.2.1 dL_same_0 rfl (lv_at hl 3 rfl) ?_
  refine lv_iconst (v := (nI 0)) hC.1 hC.2.1 dL_same_1 (by decide) ?_
  refine lv_aload_n hC.1 hC.2.1 dL_same_2 rfl (lv_at hl 0 rfl) ?_
  refine lv_iload_n hC.1 hC.2.1 dL_same_3 rfl (lv_at hl 1 rfl) ?_
  refine lv_iload_n hC.1 hC.2.1 dL_same_4 rfl (lv_at hl 2 rfl) ?_
  refine x_cvL (n := 2) hM hC hE hXw hP hD hS hX.1.1 hX.1.2 rfl gL_same_X0_same rfl (by decide +kernel) rfl (by simp only [rD]; omega) ⟨by simp only [rD]; omega, by simp only [rD]; omega⟩ hl.1 (Nat.le_of_ble_eq_true rfl) dL_same_5 rfl (fun ce q9 H locs hP hD hS hce hcv hcl => ?_)
  refine vx_catch (own := RL) (name := "java/lang/IndexOutOfBoundsException") (E := exI) hC.2.2.2.1 [] ⟨0, 17, 20, 13⟩ [] htab (fun z hz => absurd hz List.not_mem_nil) (by decide) (by decide) (hC.2.2.2.2 _ (by decide +kernel : Cond.classLink RL 13 "java/lang/IndexOutOfBoundsException" ∈ wsL_same)) (va_Nw.use rfl hXw.1) hce hcv hcl ?_
  refine lv_astore (lv' := [(4, .ref q9), (0, .ref hx), (1, .int x), (2, .int y), (3, .ref o9)]) hC.1 hC.2.1 dL_same_20 hl (by decide) rfl (fun ls hl => ?_)
  refine lv_iconst (v := (nI 1)) hC.1 hC.2.1 dL_same_22 (by decide) ?_
  exact HV.iret hC hr hlk hP hD hS (by omega) (by omega) dL_same_23 (⟨rfl, rfl, rfl⟩)

set_option maxHeartbeats 4000000 in
set_option maxRecDepth 100000 in
theorem l_mixed (l : Launch) {D : va_G} {T : ClassId × ClassId × ClassId} {z0 : Nat} {L : List Nat} {f : Nat → va_E} {hx g ln : Nat} {rw : Nat → Nat} {b : Nat → Nat} {mk : Int32} {wd : Nat → List Nat} {o9 : Nat} {gO : Nat → Int64} (hX : CX T L f hx g ln rw b mk wd) (hmo : o9 ∈ L) (heo : f o9 = eJ T.2.1 1 gO) {x y : Int32} {r : Int32} (hM : RV l yX0_mixed wsX0_mixed 7 (zPre D T z0 L f) [.ref hx, .int x, .int y] (some (.int (r)))) : HV l yL_mixed wsL_mixed (24) 1 6 D z0 (zPreY D T z0 L f) [.ref hx, .int x, .int y, .ref o9] (LPo T L f hx g ln rw o9 (r.toInt64) b mk wd) := by
  refine HV.ofH (cc := cL_mixed) (maxL := 5) (ret := some .int) (by decide) rfl (Nat.le_of_ble_eq_true rfl) ?_
  intro p e s m args below meth c hC hr hlk htab hB ls hl
  have hl : lv_has ls 5 [(0, .ref hx), (1, .int x), (2, .int y), (3, .ref o9)] := hl
  obtain ⟨⟨hE, hP, hD⟩, hXw, hYw⟩ := hB
  have hS : va_S (zA z0) s.heap s.heap [] := va_S.rf
  refine lv_aload_n hC.1 hC.2.1 dL_mixed_0 rfl (lv_at hl 3 rfl) ?_
  refine lv_iconst (v := (nI 0)) hC.1 hC.2.1 dL_mixed_1 (by decide) ?_
  refine lv_aload_n hC.1 hC.2.1 dL_mixed_2 rfl (lv_at hl 0 rfl) ?_
  refine lv_iload_n hC.1 hC.2.1 dL_mixed_3 rfl (lv_at hl 1 rfl) ?_
  refine lv_iload_n hC.1 hC.2.1 dL_mixed_4 rfl (lv_at hl 2 rfl) ?_
  refine p_cvB (n := 2) (hM) hC hE hP hD hS (hX.1.1) (hX.1.2) rfl gL_mixed_X0_mixed rfl (by decide +kernel) rfl ⟨by decide, by decide⟩ ⟨by simp only [rD]; omega, by simp only [rD]; omega⟩ hl.1 (Nat.le_of_ble_eq_true rfl) dL_mixed_5 rfl ?_
  refine lv_i2l hC.1 hC.2.1 dL_mixed_8 rfl ?_
  refine p_last hC hE hP hD hS hmo heo (by decide) (by decide) dL_mixed_9 (fun H locs hP hD hS => ?_)
  refine lv_goto (tgt := 17) hC.1 hC.2.1 dL_mixed_10 (by decide) ?_
  refine lv_iconst (v := (nI 0)) hC.1 hC.2.1 dL_mixed_17 (by decide) ?_
  exact HV.iret hC hr hlk hP hD hS (by omega) (by omega) dL_mixed_18 (⟨rfl, rfl, f, gO, hX, FRX.rf, heo, rfl⟩)

set_option maxHeartbeats 4000000 in
set_option maxRecDepth 100000 in
theorem l_mixedX1 (l : Launch) {D : va_G} {T : ClassId × ClassId × ClassId} {z0 : Nat} {L : List Nat} {f : Nat → va_E} {hx g ln : Nat} {rw : Nat → Nat} {b : Nat → Nat} {mk : Int32} {wd : Nat → List Nat} {o9 : Nat} {gO : Nat → Int64} (hX : CX T L f hx g ln rw b mk wd) (hmo : o9 ∈ L) (heo : f o9 = eJ T.2.1 1 gO) {x y : Int32} (hM : MX l yX0_mixed wsX0_mixed 8 D z0 (zPreX D T z0 L f) L f [.ref hx, .int x, .int y] exI) : HV l yL_mixed wsL_mixed (24) 1 6 D z0 (zPreY D T z0 L f) [.ref hx, .int x, .int y, .ref o9] (LX L f 1) := by
  refine HV.ofH (cc := cL_mixed) (maxL := 5) (ret := some .int) (by decide) rfl (Nat.le_of_ble_eq_true rfl) ?_
  intro p e s m args below meth c hC hr hlk htab hB ls hl
  have hl : lv_has ls 5 [(0, .ref hx), (1, .int x), (2, .int y), (3, .ref o9)] := hl
  obtain ⟨⟨hE, hP, hD⟩, hXw, hYw⟩ := hB
  have hS : va_S (zA z0) s.heap s.heap [] := va_S.rf
  refine lv_aload_n hC.1 hC.2.1 dL_mixed_0 rfl (lv_at hl 3 rfl) ?_
  refine lv_iconst (v := (nI 0)) hC.1 hC.2.1 dL_mixed_1 (by decide) ?_
  refine lv_aload_n hC.1 hC.2.1 dL_mixed_2 rfl (lv_at hl 0 rfl) ?_
  refine lv_iload_n hC.1 hC.2.1 dL_mixed_3 rfl (lv_at hl 1 rfl) ?_
  refine lv_iload_n hC.1 hC.2.1 dL_mixed_4 rfl (lv_at hl 2 rfl) ?_
  refine x_cvL (n := 2) hM hC hE hXw hP hD hS hX.1.1 hX.1.2 rfl gL_mixed_X0_mixed rfl (by decide +kernel) rfl (by simp only [rD]; omega) ⟨by simp only [rD]; omega, by simp only [rD]; omega⟩ hl.1 (Nat.le_of_ble_eq_true rfl) dL_mixed_5 rfl (fun ce q9 H locs hP hD hS hce hcv hcl => ?_)
  refine vx_catch (own := RL) (name := "java/lang/IndexOutOfBoundsException") (E := exI) hC.2.2.2.1 [] ⟨0, 10, 13, 13⟩ [] htab (fun z hz => absurd hz List.not_mem_nil) (by decide) (by decide) (hC.2.2.2.2 _ (by decide +kernel : Cond.classLink RL 13 "java/lang/IndexOutOfBoundsException" ∈ wsL_mixed)) (va_Nw.use rfl hXw.1) hce hcv hcl ?_
  refine lv_astore (lv' := [(4, .ref q9), (0, .ref hx), (1, .int x), (2, .int y), (3, .ref o9)]) hC.1 hC.2.1 dL_mixed_13 hl (by decide) rfl (fun ls hl => ?_)
  refine lv_iconst (v := (nI 1)) hC.1 hC.2.1 dL_mixed_15 (by decide) ?_
  exact HV.iret hC hr hlk hP hD hS (by omega) (by omega) dL_mixed_16 (⟨rfl, rfl, rfl⟩)

set_option maxHeartbeats 4000000 in
set_option maxRecDepth 100000 in
theorem l_would (l : Launch) {D : va_G} {T : ClassId × ClassId × ClassId} {z0 : Nat} {L : List Nat} {f : Nat → va_E} {hx g ln : Nat} {rw : Nat → Nat} {b : Nat → Nat} {mk : Int32} {wd : Nat → List Nat} {o9 : Nat} {gO : Nat → Int64} (hX : CX T L f hx g ln rw b mk wd) (hmo : o9 ∈ L) (heo : f o9 = eJ T.2.1 1 gO) {x y : Int32} {r : Int32} (hM : RV l yX0_would wsX0_would 6 (zPre D T z0 L f) [.ref hx, .int x, .int y] (some (.int (r)))) : HV l yL_would wsL_would (24) 1 6 D z0 (zPreY D T z0 L f) [.ref hx, .int x, .int y, .ref o9] (LPo T L f hx g ln rw o9 (r.toInt64) b mk wd) := by
  refine HV.ofH (cc := cL_would) (maxL := 5) (ret := some .int) (by decide) rfl (Nat.le_of_ble_eq_true rfl) ?_
  intro p e s m args below meth c hC hr hlk htab hB ls hl
  have hl : lv_has ls 5 [(0, .ref hx), (1, .int x), (2, .int y), (3, .ref o9)] := hl
  obtain ⟨⟨hE, hP, hD⟩, hXw, hYw⟩ := hB
  have hS : va_S (zA z0) s.heap s.heap [] := va_S.rf
  refine lv_aload_n hC.1 hC.2.1 dL_would_0 rfl (lv_at hl 3 rfl) ?_
  refine lv_iconst (v := (nI 0)) hC.1 hC.2.1 dL_would_1 (by decide) ?_
  refine lv_aload_n hC.1 hC.2.1 dL_would_2 rfl (lv_at hl 0 rfl) ?_
  refine lv_iload_n hC.1 hC.2.1 dL_would_3 rfl (lv_at hl 1 rfl) ?_
  refine lv_iload_n hC.1 hC.2.1 dL_would_4 rfl (lv_at hl 2 rfl) ?_
  refine p_cvB (n := 2) (hM) hC hE hP hD hS (hX.1.1) (hX.1.2) rfl gL_would_X0_would rfl (by decide +kernel) rfl ⟨by decide, by decide⟩ ⟨by simp only [rD]; omega, by simp only [rD]; omega⟩ hl.1 (Nat.le_of_ble_eq_true rfl) dL_would_5 rfl ?_
  refine lv_i2l hC.1 hC.2.1 dL_would_8 rfl ?_
  refine p_last hC hE hP hD hS hmo heo (by decide) (by decide) dL_would_9 (fun H locs hP hD hS => ?_)
  refine lv_goto (tgt := 21) hC.1 hC.2.1 dL_would_10 (by decide) ?_
  refine lv_iconst (v := (nI 0)) hC.1 hC.2.1 dL_would_21 (by decide) ?_
  exact HV.iret hC hr hlk hP hD hS (by omega) (by omega) dL_would_22 (⟨rfl, rfl, f, gO, hX, FRX.rf, heo, rfl⟩)

set_option maxHeartbeats 4000000 in
set_option maxRecDepth 100000 in
theorem l_wouldX1 (l : Launch) {D : va_G} {T : ClassId × ClassId × ClassId} {z0 : Nat} {L : List Nat} {f : Nat → va_E} {hx g ln : Nat} {rw : Nat → Nat} {b : Nat → Nat} {mk : Int32} {wd : Nat → List Nat} {o9 : Nat} {gO : Nat → Int64} (hX : CX T L f hx g ln rw b mk wd) (hmo : o9 ∈ L) (heo : f o9 = eJ T.2.1 1 gO) {x y : Int32} (hM : MX l yX0_would wsX0_would 8 D z0 (zPreX D T z0 L f) L f [.ref hx, .int x, .int y] exI) : HV l yL_would wsL_would (24) 1 6 D z0 (zPreY D T z0 L f) [.ref hx, .int x, .int y, .ref o9] (LX L f 1) := by
  refine HV.ofH (cc := cL_would) (maxL := 5) (ret := some .int) (by decide) rfl (Nat.le_of_ble_eq_true rfl) ?_
  intro p e s m args below meth c hC hr hlk htab hB ls hl
  have hl : lv_has ls 5 [(0, .ref hx), (1, .int x), (2, .int y), (3, .ref o9)] := hl
  obtain ⟨⟨hE, hP, hD⟩, hXw, hYw⟩ := hB
  have hS : va_S (zA z0) s.heap s.heap [] := va_S.rf
  refine lv_aload_n hC.1 hC.2.1 dL_would_0 rfl (lv_at hl 3 rfl) ?_
  refine lv_iconst (v := (nI 0)) hC.1 hC.2.1 dL_would_1 (by decide) ?_
  refine lv_aload_n hC.1 hC.2.1 dL_would_2 rfl (lv_at hl 0 rfl) ?_
  refine lv_iload_n hC.1 hC.2.1 dL_would_3 rfl (lv_at hl 1 rfl) ?_
  refine lv_iload_n hC.1 hC.2.1 dL_would_4 rfl (lv_at hl 2 rfl) ?_
  refine x_cvL (n := 2) hM hC hE hXw hP hD hS hX.1.1 hX.1.2 rfl gL_would_X0_would rfl (by decide +kernel) rfl (by simp only [rD]; omega) ⟨by simp only [rD]; omega, by simp only [rD]; omega⟩ hl.1 (Nat.le_of_ble_eq_true rfl) dL_would_5 rfl (fun ce q9 H locs hP hD hS hce hcv hcl => ?_)
  refine vx_catch (own := RL) (name := "java/lang/IndexOutOfBoundsException") (E := exI) hC.2.2.2.1 [] ⟨0, 10, 13, 13⟩ [⟨0, 10, 17, 15⟩] htab (fun z hz => absurd hz List.not_mem_nil) (by decide) (by decide) (hC.2.2.2.2 _ (by decide +kernel : Cond.classLink RL 13 "java/lang/IndexOutOfBoundsException" ∈ wsL_would)) (va_Nw.use rfl hXw.1) hce hcv hcl ?_
  refine lv_astore (lv' := [(4, .ref q9), (0, .ref hx), (1, .int x), (2, .int y), (3, .ref o9)]) hC.1 hC.2.1 dL_would_13 hl (by decide) rfl (fun ls hl => ?_)
  refine lv_iconst (v := (nI 1)) hC.1 hC.2.1 dL_would_15 (by decide) ?_
  exact HV.iret hC hr hlk hP hD hS (by omega) (by omega) dL_would_16 (⟨rfl, rfl, rfl⟩)

set_option maxHeartbeats 4000000 in
set_option maxRecDepth 100000 in
theorem l_wouldX2 (l : Launch) {D : va_G} {T : ClassId × ClassId × ClassId} {z0 : Nat} {L : List Nat} {f : Nat → va_E} {hx g ln : Nat} {rw : Nat → Nat} {b : Nat → Nat} {mk : Int32} {wd : Nat → List Nat} {o9 : Nat} {gO : Nat → Int64} (hX : CX T L f hx g ln rw b mk wd) (hmo : o9 ∈ L) (heo : f o9 = eJ T.2.1 1 gO) {x y : Int32} (hM : MX l yX0_would wsX0_would 8 D z0 (zPreX D T z0 L f) L f [.ref hx, .int x, .int y] exA) : HV l yL_would wsL_would (24) 1 6 D z0 (zPreY D T z0 L f) [.ref hx, .int x, .int y, .ref o9] (LX L f 2) := by
  refine HV.ofH (cc := cL_would) (maxL := 5) (ret := some .int) (by decide) rfl (Nat.le_of_ble_eq_true rfl) ?_
  intro p e s m args below meth c hC hr hlk htab hB ls hl
  have hl : lv_has ls 5 [(0, .ref hx), (1, .int x), (2, .int y), (3, .ref o9)] := hl
  obtain ⟨⟨hE, hP, hD⟩, hXw, hYw⟩ := hB
  have hS : va_S (zA z0) s.heap s.heap [] := va_S.rf
  refine lv_aload_n hC.1 hC.2.1 dL_would_0 rfl (lv_at hl 3 rfl) ?_
  refine lv_iconst (v := (nI 0)) hC.1 hC.2.1 dL_would_1 (by decide) ?_
  refine lv_aload_n hC.1 hC.2.1 dL_would_2 rfl (lv_at hl 0 rfl) ?_
  refine lv_iload_n hC.1 hC.2.1 dL_would_3 rfl (lv_at hl 1 rfl) ?_
  refine lv_iload_n hC.1 hC.2.1 dL_would_4 rfl (lv_at hl 2 rfl) ?_
  refine x_cvL (n := 2) hM hC hE hXw hP hD hS hX.1.1 hX.1.2 rfl gL_would_X0_would rfl (by decide +kernel) rfl (by simp only [rD]; omega) ⟨by simp only [rD]; omega, by simp only [rD]; omega⟩ hl.1 (Nat.le_of_ble_eq_true rfl) dL_would_5 rfl (fun ce q9 H locs hP hD hS hce hcv hcl => ?_)
  have hpass : ∀ z ∈ ([⟨0, 10, 13, 13⟩] : List ExceptionTableEntry), covers z 5 = false ∨ (z.catchType ≠ 0 ∧ ∃ nm : String, (Cond.classLink RL z.catchType nm).before args s = true ∧ va_Nc exA nm s) := by
    intro z hz
    simp only [List.mem_cons, List.not_mem_nil, or_false] at hz
    rcases hz with rfl
    · exact Or.inr ⟨by decide, "java/lang/IndexOutOfBoundsException", hC.2.2.2.2 _ (by decide +kernel : Cond.classLink RL 13 "java/lang/IndexOutOfBoundsException" ∈ wsL_would), hYw.1⟩
  refine vx_catch (own := RL) (name := "java/lang/IllegalArgumentException") (E := exA) hC.2.2.2.1 [⟨0, 10, 13, 13⟩] ⟨0, 10, 17, 15⟩ [] htab (hpass) (by decide) (by decide) (hC.2.2.2.2 _ (by decide +kernel : Cond.classLink RL 15 "java/lang/IllegalArgumentException" ∈ wsL_would)) (va_Nw.use rfl hXw.2.1) hce hcv hcl ?_
  refine lv_astore (lv' := [(4, .ref q9), (0, .ref hx), (1, .int x), (2, .int y), (3, .ref o9)]) hC.1 hC.2.1 dL_would_17 hl (by decide) rfl (fun ls hl => ?_)
  refine lv_iconst (v := (nI 2)) hC.1 hC.2.1 dL_would_19 (by decide) ?_
  exact HV.iret hC hr hlk hP hD hS (by omega) (by omega) dL_would_20 (⟨rfl, rfl, rfl⟩)

set_option maxHeartbeats 4000000 in
set_option maxRecDepth 100000 in
theorem l_far (l : Launch) {D : va_G} {T : ClassId × ClassId × ClassId} {z0 : Nat} {L : List Nat} {f : Nat → va_E} {hx g ln : Nat} {rw : Nat → Nat} {b : Nat → Nat} {mk : Int32} {wd : Nat → List Nat} {o9 : Nat} {gO : Nat → Int64} (hX : CX T L f hx g ln rw b mk wd) (hmo : o9 ∈ L) (heo : f o9 = eJ T.2.1 1 gO) {x : Int32} {r : Int32} (hM : RV l yX0_far wsX0_far 21 (zPre D T z0 L f) [.ref hx, .int x] (some (.int (r)))) : HV l yL_far wsL_far (24) 1 6 D z0 (zPreY D T z0 L f) [.ref hx, .int x, .ref o9] (LPo T L f hx g ln rw o9 (r.toInt64) b mk wd) := by
  refine HV.ofH (cc := cL_far) (maxL := 4) (ret := some .int) (by decide) rfl (Nat.le_of_ble_eq_true rfl) ?_
  intro p e s m args below meth c hC hr hlk htab hB ls hl
  have hl : lv_has ls 4 [(0, .ref hx), (1, .int x), (2, .ref o9)] := hl
  obtain ⟨⟨hE, hP, hD⟩, hXw, hYw⟩ := hB
  have hS : va_S (zA z0) s.heap s.heap [] := va_S.rf
  refine lv_aload_n hC.1 hC.2.1 dL_far_0 rfl (lv_at hl 2 rfl) ?_
  refine lv_iconst (v := (nI 0)) hC.1 hC.2.1 dL_far_1 (by decide) ?_
  refine lv_aload_n hC.1 hC.2.1 dL_far_2 rfl (lv_at hl 0 rfl) ?_
  refine lv_iload_n hC.1 hC.2.1 dL_far_3 rfl (lv_at hl 1 rfl) ?_
  refine p_cvB (n := 1) (hM) hC hE hP hD hS (hX.1.1) (hX.1.2) rfl gL_far_X0_far rfl (by decide +kernel) rfl ⟨by decide, by decide⟩ ⟨by simp only [rD]; omega, by simp only [rD]; omega⟩ hl.1 (Nat.le_of_ble_eq_true rfl) dL_far_4 rfl ?_
  refine lv_i2l hC.1 hC.2.1 dL_far_7 rfl ?_
  refine p_last hC hE hP hD hS hmo heo (by decide) (by decide) dL_far_8 (fun H locs hP hD hS => ?_)
  refine lv_goto (tgt := 15) hC.1 hC.2.1 dL_far_9 (by decide) ?_
  refine lv_iconst (v := (nI 0)) hC.1 hC.2.1 dL_far_15 (by decide) ?_
  exact HV.iret hC hr hlk hP hD hS (by omega) (by omega) dL_far_16 (⟨rfl, rfl, f, gO, hX, FRX.rf, heo, rfl⟩)

set_option maxHeartbeats 4000000 in
set_option maxRecDepth 100000 in
theorem l_farX1 (l : Launch) {D : va_G} {T : ClassId × ClassId × ClassId} {z0 : Nat} {L : List Nat} {f : Nat → va_E} {hx g ln : Nat} {rw : Nat → Nat} {b : Nat → Nat} {mk : Int32} {wd : Nat → List Nat} {o9 : Nat} {gO : Nat → Int64} (hX : CX T L f hx g ln rw b mk wd) (hmo : o9 ∈ L) (heo : f o9 = eJ T.2.1 1 gO) {x : Int32} (hM : MX l yX0_far wsX0_far 8 D z0 (zPreX D T z0 L f) L f [.ref hx, .int x] exA) : HV l yL_far wsL_far (24) 1 6 D z0 (zPreY D T z0 L f) [.ref hx, .int x, .ref o9] (LX L f 1) := by
  refine HV.ofH (cc := cL_far) (maxL := 4) (ret := some .int) (by decide) rfl (Nat.le_of_ble_eq_true rfl) ?_
  intro p e s m args below meth c hC hr hlk htab hB ls hl
  have hl : lv_has ls 4 [(0, .ref hx), (1, .int x), (2, .ref o9)] := hl
  obtain ⟨⟨hE, hP, hD⟩, hXw, hYw⟩ := hB
  have hS : va_S (zA z0) s.heap s.heap [] := va_S.rf
  refine lv_aload_n hC.1 hC.2.1 dL_far_0 rfl (lv_at hl 2 rfl) ?_
  refine lv_iconst (v := (nI 0)) hC.1 hC.2.1 dL_far_1 (by decide) ?_
  refine lv_aload_n hC.1 hC.2.1 dL_far_2 rfl (lv_at hl 0 rfl) ?_
  refine lv_iload_n hC.1 hC.2.1 dL_far_3 rfl (lv_at hl 1 rfl) ?_
  refine x_cvL (n := 1) hM hC hE hXw hP hD hS hX.1.1 hX.1.2 rfl gL_far_X0_far rfl (by decide +kernel) rfl (by simp only [rD]; omega) ⟨by simp only [rD]; omega, by simp only [rD]; omega⟩ hl.1 (Nat.le_of_ble_eq_true rfl) dL_far_4 rfl (fun ce q9 H locs hP hD hS hce hcv hcl => ?_)
  refine vx_catch (own := RL) (name := "java/lang/IllegalArgumentException") (E := exA) hC.2.2.2.1 [] ⟨0, 9, 12, 15⟩ [] htab (fun z hz => absurd hz List.not_mem_nil) (by decide) (by decide) (hC.2.2.2.2 _ (by decide +kernel : Cond.classLink RL 15 "java/lang/IllegalArgumentException" ∈ wsL_far)) (va_Nw.use rfl hXw.2.1) hce hcv hcl ?_
  refine lv_astore_n (lv' := [(3, .ref q9), (0, .ref hx), (1, .int x), (2, .ref o9)]) hC.1 hC.2.1 dL_far_12 rfl hl (by decide) rfl (fun ls hl => ?_)
  refine lv_iconst (v := (nI 1)) hC.1 hC.2.1 dL_far_13 (by decide) ?_
  exact HV.iret hC hr hlk hP hD hS (by omega) (by omega) dL_far_14 (⟨rfl, rfl, rfl⟩)

set_option maxHeartbeats 4000000 in
set_option maxRecDepth 100000 in
theorem l_first (l : Launch) {D : va_G} {T : ClassId × ClassId × ClassId} {z0 : Nat} {L : List Nat} {f : Nat → va_E} {hx g ln : Nat} {rw : Nat → Nat} {b : Nat → Nat} {mk : Int32} {wd : Nat → List Nat} {o9 : Nat} {gO : Nat → Int64} (hX : CX T L f hx g ln rw b mk wd) (hmo : o9 ∈ L) (heo : f o9 = eJ T.2.1 1 gO) {x : Int32} {r : Int32} (hM : RV l yX0_first wsX0_first 21 (zPre D T z0 L f) [.ref hx, .int x] (some (.int (r)))) : HV l yL_first wsL_first (24) 1 6 D z0 (zPreY D T z0 L f) [.ref hx, .int x, .ref o9] (LPo T L f hx g ln rw o9 (r.toInt64) b mk wd) := by
  refine HV.ofH (cc := cL_first) (maxL := 4) (ret := some .int) (by decide) rfl (Nat.le_of_ble_eq_true rfl) ?_
  intro p e s m args below meth c hC hr hlk htab hB ls hl
  have hl : lv_has ls 4 [(0, .ref hx), (1, .int x), (2, .ref o9)] := hl
  obtain ⟨⟨hE, hP, hD⟩, hXw, hYw⟩ := hB
  have hS : va_S (zA z0) s.heap s.heap [] := va_S.rf
  refine lv_aload_n hC.1 hC.2.1 dL_first_0 rfl (lv_at hl 2 rfl) ?_
  refine lv_iconst (v := (nI 0)) hC.1 hC.2.1 dL_first_1 (by decide) ?_
  refine lv_aload_n hC.1 hC.2.1 dL_first_2 rfl (lv_at hl 0 rfl) ?_
  refine lv_iload_n hC.1 hC.2.1 dL_first_3 rfl (lv_at hl 1 rfl) ?_
  refine p_cvB (n := 1) (hM) hC hE hP hD hS (hX.1.1) (hX.1.2) rfl gL_first_X0_first rfl (by decide +kernel) rfl ⟨by decide, by decide⟩ ⟨by simp only [rD]; omega, by simp only [rD]; omega⟩ hl.1 (Nat.le_of_ble_eq_true rfl) dL_first_4 rfl ?_
  refine lv_i2l hC.1 hC.2.1 dL_first_7 rfl ?_
  refine p_last hC hE hP hD hS hmo heo (by decide) (by decide) dL_first_8 (fun H locs hP hD hS => ?_)
  refine lv_goto (tgt := 15) hC.1 hC.2.1 dL_first_9 (by decide) ?_
  refine lv_iconst (v := (nI 0)) hC.1 hC.2.1 dL_first_15 (by decide) ?_
  exact HV.iret hC hr hlk hP hD hS (by omega) (by omega) dL_first_16 (⟨rfl, rfl, f, gO, hX, FRX.rf, heo, rfl⟩)

set_option maxHeartbeats 4000000 in
set_option maxRecDepth 100000 in
theorem l_firstX1 (l : Launch) {D : va_G} {T : ClassId × ClassId × ClassId} {z0 : Nat} {L : List Nat} {f : Nat → va_E} {hx g ln : Nat} {rw : Nat → Nat} {b : Nat → Nat} {mk : Int32} {wd : Nat → List Nat} {o9 : Nat} {gO : Nat → Int64} (hX : CX T L f hx g ln rw b mk wd) (hmo : o9 ∈ L) (heo : f o9 = eJ T.2.1 1 gO) {x : Int32} (hM : MX l yX0_first wsX0_first 8 D z0 (zPreX D T z0 L f) L f [.ref hx, .int x] exA) : HV l yL_first wsL_first (24) 1 6 D z0 (zPreY D T z0 L f) [.ref hx, .int x, .ref o9] (LX L f 1) := by
  refine HV.ofH (cc := cL_first) (maxL := 4) (ret := some .int) (by decide) rfl (Nat.le_of_ble_eq_true rfl) ?_
  intro p e s m args below meth c hC hr hlk htab hB ls hl
  have hl : lv_has ls 4 [(0, .ref hx), (1, .int x), (2, .ref o9)] := hl
  obtain ⟨⟨hE, hP, hD⟩, hXw, hYw⟩ := hB
  have hS : va_S (zA z0) s.heap s.heap [] := va_S.rf
  refine lv_aload_n hC.1 hC.2.1 dL_first_0 rfl (lv_at hl 2 rfl) ?_
  refine lv_iconst (v := (nI 0)) hC.1 hC.2.1 dL_first_1 (by decide) ?_
  refine lv_aload_n hC.1 hC.2.1 dL_first_2 rfl (lv_at hl 0 rfl) ?_
  refine lv_iload_n hC.1 hC.2.1 dL_first_3 rfl (lv_at hl 1 rfl) ?_
  refine x_cvL (n := 1) hM hC hE hXw hP hD hS hX.1.1 hX.1.2 rfl gL_first_X0_first rfl (by decide +kernel) rfl (by simp only [rD]; omega) ⟨by simp only [rD]; omega, by simp only [rD]; omega⟩ hl.1 (Nat.le_of_ble_eq_true rfl) dL_first_4 rfl (fun ce q9 H locs hP hD hS hce hcv hcl => ?_)
  refine vx_catch (own := RL) (name := "java/lang/IllegalArgumentException") (E := exA) hC.2.2.2.1 [] ⟨0, 9, 12, 15⟩ [] htab (fun z hz => absurd hz List.not_mem_nil) (by decide) (by decide) (hC.2.2.2.2 _ (by decide +kernel : Cond.classLink RL 15 "java/lang/IllegalArgumentException" ∈ wsL_first)) (va_Nw.use rfl hXw.2.1) hce hcv hcl ?_
  refine lv_astore_n (lv' := [(3, .ref q9), (0, .ref hx), (1, .int x), (2, .ref o9)]) hC.1 hC.2.1 dL_first_12 rfl hl (by decide) rfl (fun ls hl => ?_)
  refine lv_iconst (v := (nI 1)) hC.1 hC.2.1 dL_first_13 (by decide) ?_
  exact HV.iret hC hr hlk hP hD hS (by omega) (by omega) dL_first_14 (⟨rfl, rfl, rfl⟩)

set_option maxHeartbeats 4000000 in
set_option maxRecDepth 100000 in
theorem l_shortest (l : Launch) {D : va_G} {T : ClassId × ClassId × ClassId} {z0 : Nat} {L : List Nat} {f : Nat → va_E} {hx g ln : Nat} {rw : Nat → Nat} {b : Nat → Nat} {mk : Int32} {wd : Nat → List Nat} {o9 : Nat} {gO : Nat → Int64} (hX : CX T L f hx g ln rw b mk wd) (hmo : o9 ∈ L) (heo : f o9 = eJ T.2.1 1 gO) {x y : Int32} {r : Int32} (hM : RV l yX0_shortest wsX0_shortest 21 (zPre D T z0 L f) [.ref hx, .int x, .int y] (some (.int (r)))) : HV l yL_shortest wsL_shortest (24) 1 6 D z0 (zPreY D T z0 L f) [.ref hx, .int x, .int y, .ref o9] (LPo T L f hx g ln rw o9 (r.toInt64) b mk wd) := by
  refine HV.ofH (cc := cL_shortest) (maxL := 5) (ret := some .int) (by decide) rfl (Nat.le_of_ble_eq_true rfl) ?_
  intro p e s m args below meth c hC hr hlk htab hB ls hl
  have hl : lv_has ls 5 [(0, .ref hx), (1, .int x), (2, .int y), (3, .ref o9)] := hl
  obtain ⟨⟨hE, hP, hD⟩, hXw, hYw⟩ := hB
  have hS : va_S (zA z0) s.heap s.heap [] := va_S.rf
  refine lv_aload_n hC.1 hC.2.1 dL_shortest_0 rfl (lv_at hl 3 rfl) ?_
  refine lv_iconst (v := (nI 0)) hC.1 hC.2.1 dL_shortest_1 (by decide) ?_
  refine lv_aload_n hC.1 hC.2.1 dL_shortest_2 rfl (lv_at hl 0 rfl) ?_
  refine lv_iload_n hC.1 hC.2.1 dL_shortest_3 rfl (lv_at hl 1 rfl) ?_
  refine lv_iload_n hC.1 hC.2.1 dL_shortest_4 rfl (lv_at hl 2 rfl) ?_
  refine p_cvB (n := 2) (hM) hC hE hP hD hS (hX.1.1) (hX.1.2) rfl gL_shortest_X0_shortest rfl (by decide +kernel) rfl ⟨by decide, by decide⟩ ⟨by simp only [rD]; omega, by simp only [rD]; omega⟩ hl.1 (Nat.le_of_ble_eq_true rfl) dL_shortest_5 rfl ?_
  refine lv_i2l hC.1 hC.2.1 dL_shortest_8 rfl ?_
  refine p_last hC hE hP hD hS hmo heo (by decide) (by decide) dL_shortest_9 (fun H locs hP hD hS => ?_)
  refine lv_goto (tgt := 21) hC.1 hC.2.1 dL_shortest_10 (by decide) ?_
  refine lv_iconst (v := (nI 0)) hC.1 hC.2.1 dL_shortest_21 (by decide) ?_
  exact HV.iret hC hr hlk hP hD hS (by omega) (by omega) dL_shortest_22 (⟨rfl, rfl, f, gO, hX, FRX.rf, heo, rfl⟩)

set_option maxHeartbeats 4000000 in
set_option maxRecDepth 100000 in
theorem l_shortestX1 (l : Launch) {D : va_G} {T : ClassId × ClassId × ClassId} {z0 : Nat} {L : List Nat} {f : Nat → va_E} {hx g ln : Nat} {rw : Nat → Nat} {b : Nat → Nat} {mk : Int32} {wd : Nat → List Nat} {o9 : Nat} {gO : Nat → Int64} (hX : CX T L f hx g ln rw b mk wd) (hmo : o9 ∈ L) (heo : f o9 = eJ T.2.1 1 gO) {x y : Int32} (hM : MX l yX0_shortest wsX0_shortest 8 D z0 (zPreX D T z0 L f) L f [.ref hx, .int x, .int y] exI) : HV l yL_shortest wsL_shortest (24) 1 6 D z0 (zPreY D T z0 L f) [.ref hx, .int x, .int y, .ref o9] (LX L f 1) := by
  refine HV.ofH (cc := cL_shortest) (maxL := 5) (ret := some .int) (by decide) rfl (Nat.le_of_ble_eq_true rfl) ?_
  intro p e s m args below meth c hC hr hlk htab hB ls hl
  have hl : lv_has ls 5 [(0, .ref hx), (1, .int x), (2, .int y), (3, .ref o9)] := hl
  obtain ⟨⟨hE, hP, hD⟩, hXw, hYw⟩ := hB
  have hS : va_S (zA z0) s.heap s.heap [] := va_S.rf
  refine lv_aload_n hC.1 hC.2.1 dL_shortest_0 rfl (lv_at hl 3 rfl) ?_
  refine lv_iconst (v := (nI 0)) hC.1 hC.2.1 dL_shortest_1 (by decide) ?_
  refine lv_aload_n hC.1 hC.2.1 dL_shortest_2 rfl (lv_at hl 0 rfl) ?_
  refine lv_iload_n hC.1 hC.2.1 dL_shortest_3 rfl (lv_at hl 1 rfl) ?_
  refine lv_iload_n hC.1 hC.2.1 dL_shortest_4 rfl (lv_at hl 2 rfl) ?_
  refine x_cvL (n := 2) hM hC hE hXw hP hD hS hX.1.1 hX.1.2 rfl gL_shortest_X0_shortest rfl (by decide +kernel) rfl (by simp only [rD]; omega) ⟨by simp only [rD]; omega, by simp only [rD]; omega⟩ hl.1 (Nat.le_of_ble_eq_true rfl) dL_shortest_5 rfl (fun ce q9 H locs hP hD hS hce hcv hcl => ?_)
  refine vx_catch (own := RL) (name := "java/lang/IndexOutOfBoundsException") (E := exI) hC.2.2.2.1 [] ⟨0, 10, 13, 13⟩ [⟨0, 10, 17, 15⟩] htab (fun z hz => absurd hz List.not_mem_nil) (by decide) (by decide) (hC.2.2.2.2 _ (by decide +kernel : Cond.classLink RL 13 "java/lang/IndexOutOfBoundsException" ∈ wsL_shortest)) (va_Nw.use rfl hXw.1) hce hcv hcl ?_
  refine lv_astore (lv' := [(4, .ref q9), (0, .ref hx), (1, .int x), (2, .int y), (3, .ref o9)]) hC.1 hC.2.1 dL_shortest_13 hl (by decide) rfl (fun ls hl => ?_)
  refine lv_iconst (v := (nI 1)) hC.1 hC.2.1 dL_shortest_15 (by decide) ?_
  exact HV.iret hC hr hlk hP hD hS (by omega) (by omega) dL_shortest_16 (⟨rfl, rfl, rfl⟩)

set_option maxHeartbeats 4000000 in
set_option maxRecDepth 100000 in
theorem l_shortestX2 (l : Launch) {D : va_G} {T : ClassId × ClassId × ClassId} {z0 : Nat} {L : List Nat} {f : Nat → va_E} {hx g ln : Nat} {rw : Nat → Nat} {b : Nat → Nat} {mk : Int32} {wd : Nat → List Nat} {o9 : Nat} {gO : Nat → Int64} (hX : CX T L f hx g ln rw b mk wd) (hmo : o9 ∈ L) (heo : f o9 = eJ T.2.1 1 gO) {x y : Int32} (hM : MX l yX0_shortest wsX0_shortest 8 D z0 (zPreX D T z0 L f) L f [.ref hx, .int x, .int y] exA) : HV l yL_shortest wsL_shortest (24) 1 6 D z0 (zPreY D T z0 L f) [.ref hx, .int x, .int y, .ref o9] (LX L f 2) := by
  refine HV.ofH (cc := cL_shortest) (maxL := 5) (ret := some .int) (by decide) rfl (Nat.le_of_ble_eq_true rfl) ?_
  intro p e s m args below meth c hC hr hlk htab hB ls hl
  have hl : lv_has ls 5 [(0, .ref hx), (1, .int x), (2, .int y), (3, .ref o9)] := hl
  obtain ⟨⟨hE, hP, hD⟩, hXw, hYw⟩ := hB
  have hS : va_S (zA z0) s.heap s.heap [] := va_S.rf
  refine lv_aload_n hC.1 hC.2.1 dL_shortest_0 rfl (lv_at hl 3 rfl) ?_
  refine lv_iconst (v := (nI 0)) hC.1 hC.2.1 dL_shortest_1 (by decide) ?_
  refine lv_aload_n hC.1 hC.2.1 dL_shortest_2 rfl (lv_at hl 0 rfl) ?_
  refine lv_iload_n hC.1 hC.2.1 dL_shortest_3 rfl (lv_at hl 1 rfl) ?_
  refine lv_iload_n hC.1 hC.2.1 dL_shortest_4 rfl (lv_at hl 2 rfl) ?_
  refine x_cvL (n := 2) hM hC hE hXw hP hD hS hX.1.1 hX.1.2 rfl gL_shortest_X0_shortest rfl (by decide +kernel) rfl (by simp only [rD]; omega) ⟨by simp only [rD]; omega, by simp only [rD]; omega⟩ hl.1 (Nat.le_of_ble_eq_true rfl) dL_shortest_5 rfl (fun ce q9 H locs hP hD hS hce hcv hcl => ?_)
  have hpass : ∀ z ∈ ([⟨0, 10, 13, 13⟩] : List ExceptionTableEntry), covers z 5 = false ∨ (z.catchType ≠ 0 ∧ ∃ nm : String, (Cond.classLink RL z.catchType nm).before args s = true ∧ va_Nc exA nm s) := by
    intro z hz
    simp only [List.mem_cons, List.not_mem_nil, or_false] at hz
    rcases hz with rfl
    · exact Or.inr ⟨by decide, "java/lang/IndexOutOfBoundsException", hC.2.2.2.2 _ (by decide +kernel : Cond.classLink RL 13 "java/lang/IndexOutOfBoundsException" ∈ wsL_shortest), hYw.1⟩
  refine vx_catch (own := RL) (name := "java/lang/IllegalArgumentException") (E := exA) hC.2.2.2.1 [⟨0, 10, 13, 13⟩] ⟨0, 10, 17, 15⟩ [] htab (hpass) (by decide) (by decide) (hC.2.2.2.2 _ (by decide +kernel : Cond.classLink RL 15 "java/lang/IllegalArgumentException" ∈ wsL_shortest)) (va_Nw.use rfl hXw.2.1) hce hcv hcl ?_
  refine lv_astore (lv' := [(4, .ref q9), (0, .ref hx), (1, .int x), (2, .int y), (3, .ref o9)]) hC.1 hC.2.1 dL_shortest_17 hl (by decide) rfl (fun ls hl => ?_)
  refine lv_iconst (v := (nI 2)) hC.1 hC.2.1 dL_shortest_19 (by decide) ?_
  exact HV.iret hC hr hlk hP hD hS (by omega) (by omega) dL_shortest_20 (⟨rfl, rfl, rfl⟩)
