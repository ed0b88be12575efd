/-! MY ROWS 03: how a method begins and ends, and calls -/
section ZA
variable {p : Program} {l : Launch} {e : Env} {R : Room} {s : State} {m : MethodId} {args : Array Value} {below : List Frame} {meth : Method} {c : Code} {H : Heap} {locs : List Loc} {cells slots : Nat} {Q : State → Prop}
variable {Ts : List Cond} {own : String} {nL : Nat} {cc : ByteArray} {pc : Nat} {ls : Array Slot} {rest : List Value} {D : va_G} {T : ClassId × ClassId × ClassId} {z0 : Nat} {L : List Nat} {f : Nat → va_E}
abbrev RVQ (o : Option Value) : Array Value → State → Outcome → State → Prop := fun _ st oc t => oc = .returned o ∧ t.heap = st.heap
abbrev HVQ (D : va_G) (z0 : Nat) (post : Option Value → List Nat → (Nat → va_E) → Prop) : Array Value → State → Outcome → State → Prop := fun _ st oc t => (∃ (o : Option Value) (L : List Nat) (f : Nat → va_E), oc = .returned o ∧ post o L f ∧ zPool D z0 L f t.heap) ∧ va_F (zA z0) st t
theorem RV.of {y : MethodName} {ws ws' : List Cond} {d maxL : Nat} {B : State → Prop} {av : List Value} {o : Option Value} {ret : Option FieldType} (hy : plainName y.cls = true) (hw : ws = Cond.code y cc maxL ret :: ws') (hsz : (lg_sl av).length ≤ maxL)
    (body : ∀ (p : Program) (e : Env) (s : State) (m : MethodId) (args : Array Value) (below : List Frame) (meth : Method) (c : Code), CallFix p m c cc maxL s args ws y.cls → meth.sig.returnType = ret → meth.locks = false → B s → ∀ ls : Array Slot, lv_has ls maxL (lv_args 0 av) →
      W p l e (rD d 0 0) s m args below meth c s.heap [] 0 0 (MQ below (RVQ o) args s 0 0 (fun _ => False)) (F0 m 0 ls [])) : RV l y ws d B av o := by
  refine Met.ofW (cc := cc) (maxL := maxL) (ret := ret) hy hw ?_
  intro p e s m args below meth c s₁ Bd hml hv
  obtain ⟨rfl, hB⟩ := hv
  have h := body p e s m av.toArray below meth c ⟨Bd.exec, Bd.bytes, hml, findClass_of_methodNamed Bd.named, atoms_spec (ws := ws) Bd.pre⟩ Bd.returns Bd.notSynchronized hB _ (lv_entry av hsz)
  rw [lg_entry_eq]
  exact h
theorem HV.of {y : MethodName} {ws ws' : List Cond} {d maxL mc ms : Nat} {B : State → Prop} {av : List Value} {post : Option Value → List Nat → (Nat → va_E) → Prop} {ret : Option FieldType} (hy : plainName y.cls = true) (hw : ws = Cond.code y cc maxL ret :: ws') (hsz : (lg_sl av).length ≤ maxL)
    (body : ∀ (p : Program) (e : Env) (s : State) (m : MethodId) (args : Array Value) (below : List Frame) (meth : Method) (c : Code), CallFix p m c cc maxL s args ws y.cls → meth.sig.returnType = ret → meth.locks = false → (y.name = "<init>" → meth.name = "<init>") → B s → ∀ ls : Array Slot, lv_has ls maxL (lv_args 0 av) →
      W p l e (rD d mc ms) s m args below meth c s.heap [] 0 0 (MQ below (HVQ D z0 post) args s mc ms (zA z0)) (F0 m 0 ls [])) : HV l y ws d mc ms D z0 B av post := by
  refine Met.ofW (cc := cc) (maxL := maxL) (ret := ret) hy hw ?_
  intro p e s m args below meth c s₁ Bd hml hv
  obtain ⟨rfl, hB⟩ := hv
  have h := body p e s m av.toArray below meth c ⟨Bd.exec, Bd.bytes, hml, findClass_of_methodNamed Bd.named, atoms_spec (ws := ws) Bd.pre⟩ Bd.returns Bd.notSynchronized (fun hy => (name_of_methodNamed Bd.named Bd.method).1.trans hy) hB _ (lv_entry av hsz)
  rw [lg_entry_eq]
  exact h
/-! ends -/
theorem RV.iret {v x : Int32} (hC : CallFix p m c cc nL s args Ts own) (hr : meth.sig.returnType = some .int) (hlk : meth.locks = false) (hdg : decode cc pc = .ok (.ireturn, 1)) (hv : x = v) :
    W p l e R s m args below meth c s.heap [] 0 0 (MQ below (RVQ (some (.int v))) args s 0 0 (fun _ => False)) (F0 m pc ls [.int x]) := by
  subst hv
  exact W.iret hC.1 hC.2.1 hr (fun t ht _ => ⟨rfl, ht⟩) (fun q h => by cases h) hdg hlk
theorem RV.zret {v x : Int32} (hC : CallFix p m c cc nL s args Ts own) (hr : meth.sig.returnType = some .boolean) (hlk : meth.locks = false) (hdg : decode cc pc = .ok (.ireturn, 1)) (hv : x = v) (hn : x = 0 ∨ x = 1) :
    W p l e R s m args below meth c s.heap [] 0 0 (MQ below (RVQ (some (.int v))) args s 0 0 (fun _ => False)) (F0 m pc ls [.int x]) := by
  subst hv
  exact W.zret hC.1 hC.2.1 hr (by rcases hn with h | h <;> (subst h; decide)) (fun t ht _ => ⟨rfl, ht⟩) (fun q h => by cases h) hdg hlk
theorem RV.lret {v x : Int64} (hC : CallFix p m c cc nL s args Ts own) (hr : meth.sig.returnType = some .long) (hlk : meth.locks = false) (hdg : decode cc pc = .ok (.lreturn, 1)) (hv : x = v) :
    W p l e R s m args below meth c s.heap [] 0 0 (MQ below (RVQ (some (.long v))) args s 0 0 (fun _ => False)) (F0 m pc ls [.long x]) := by
  subst hv
  exact W.lret hC.1 hC.2.1 hr (fun t ht _ => ⟨rfl, ht⟩) (fun q h => by cases h) hdg hlk
theorem RV.vret (hC : CallFix p m c cc nL s args Ts own) (hr : meth.sig.returnType = none) (hlk : meth.locks = false) (hdg : decode cc pc = .ok (.return_, 1)) :
    W p l e R s m args below meth c s.heap [] 0 0 (MQ below (RVQ none) args s 0 0 (fun _ => False)) (F0 m pc ls []) :=
  W.vret hC.1 hC.2.1 hr (fun t ht _ => ⟨rfl, ht⟩) (fun q h => by cases h) hdg hlk
theorem HV.post {o : Option Value} {post : Option Value → List Nat → (Nat → va_E) → Prop} (hP : va_P D vwCl (va_pl L f) H) (hD : va_D (zA z0) (va_pl L f)) (hS : va_S (zA z0) s.heap H locs) (hp : post o L f) (t : State) (ht : t.heap = H) : HVQ D z0 post args s (.returned o) t := by
  refine ⟨⟨o, L, f, rfl, hp, by rw [ht]; exact hP, hD⟩, by rw [ht]; exact hS.1, fun q h1 h2 => by rw [ht]; exact hS.2.1 q h1 h2⟩
theorem HV.iret {x : Int32} {mc ms : Nat} {post : Option Value → List Nat → (Nat → va_E) → Prop} (hC : CallFix p m c cc nL s args Ts own) (hr : meth.sig.returnType = some .int) (hlk : meth.locks = false) (hP : va_P D vwCl (va_pl L f) H) (hD : va_D (zA z0) (va_pl L f)) (hS : va_S (zA z0) s.heap H locs) (hc : cells ≤ mc) (hs : slots ≤ ms) (hdg : decode cc pc = .ok (.ireturn, 1)) (hp : post (some (.int x)) L f) :
    W p l e R s m args below meth c H locs cells slots (MQ below (HVQ D z0 post) args s mc ms (zA z0)) (F0 m pc ls [.int x]) :=
  W.widen hc hs (W.iret hC.1 hC.2.1 hr (fun t ht _ => HV.post hP hD hS hp t ht) hS.2.2 hdg hlk)
theorem HV.zret {x : Int32} {mc ms : Nat} {post : Option Value → List Nat → (Nat → va_E) → Prop} (hC : CallFix p m c cc nL s args Ts own) (hr : meth.sig.returnType = some .boolean) (hlk : meth.locks = false) (hP : va_P D vwCl (va_pl L f) H) (hD : va_D (zA z0) (va_pl L f)) (hS : va_S (zA z0) s.heap H locs) (hc : cells ≤ mc) (hs : slots ≤ ms) (hdg : decode cc pc = .ok (.ireturn, 1)) (hn : x = 0 ∨ x = 1) (hp : post (some (.int x)) L f) :
    W p l e R s m args below meth c H locs cells slots (MQ below (HVQ D z0 post) args s mc ms (zA z0)) (F0 m pc ls [.int x]) :=
  W.widen hc hs (W.zret hC.1 hC.2.1 hr (by rcases hn with h | h <;> (subst h; decide)) (fun t ht _ => HV.post hP hD hS hp t ht) hS.2.2 hdg hlk)
theorem HV.lret {x : Int64} {mc ms : Nat} {post : Option Value → List Nat → (Nat → va_E) → Prop} (hC : CallFix p m c cc nL s args Ts own) (hr : meth.sig.returnType = some .long) (hlk : meth.locks = false) (hP : va_P D vwCl (va_pl L f) H) (hD : va_D (zA z0) (va_pl L f)) (hS : va_S (zA z0) s.heap H locs) (hc : cells ≤ mc) (hs : slots ≤ ms) (hdg : decode cc pc = .ok (.lreturn, 1)) (hp : post (some (.long x)) L f) :
    W p l e R s m args below meth c H locs cells slots (MQ below (HVQ D z0 post) args s mc ms (zA z0)) (F0 m pc ls [.long x]) :=
  W.widen hc hs (W.lret hC.1 hC.2.1 hr (fun t ht _ => HV.post hP hD hS hp t ht) hS.2.2 hdg hlk)
theorem HV.vret {mc ms : Nat} {post : Option Value → List Nat → (Nat → va_E) → Prop} (hC : CallFix p m c cc nL s args Ts own) (hr : meth.sig.returnType = none) (hlk : meth.locks = false) (hP : va_P D vwCl (va_pl L f) H) (hD : va_D (zA z0) (va_pl L f)) (hS : va_S (zA z0) s.heap H locs) (hc : cells ≤ mc) (hs : slots ≤ ms) (hdg : decode cc pc = .ok (.return_, 1)) (hp : post none L f) :
    W p l e R s m args below meth c H locs cells slots (MQ below (HVQ D z0 post) args s mc ms (zA z0)) (F0 m pc ls []) :=
  W.widen hc hs (W.vret hC.1 hC.2.1 hr (fun t ht _ => HV.post hP hD hS hp t ht) hS.2.2 hdg hlk)
theorem HV.aret {x : Nat} {mc ms : Nat} {post : Option Value → List Nat → (Nat → va_E) → Prop} (hC : CallFix p m c cc nL s args Ts own) (hr : meth.sig.returnType = some (.array .int)) (hlk : meth.locks = false) (hP : va_P D vwCl (va_pl L f) H) (hD : va_D (zA z0) (va_pl L f)) (hS : va_S (zA z0) s.heap H locs) (hc : cells ≤ mc) (hs : slots ≤ ms) (hdg : decode cc pc = .ok (.areturn, 1)) (hp : post (some (.ref x)) L f) :
    W p l e R s m args below meth c H locs cells slots (MQ below (HVQ D z0 post) args s mc ms (zA z0)) (F0 m pc ls [.ref x]) :=
  W.widen hc hs (W.aret hC.1 hC.2.1 hr (Or.inr ⟨_, rfl⟩) (Or.inr ⟨_, rfl⟩) (fun t ht _ => HV.post hP hD hS hp t ht) hS.2.2 hdg hlk)
/-! calls -/
theorem zPre.pass {av : List Value} (hE : zE D T z0 s) (hP : va_P D vwCl (va_pl L f) H) (hD : va_D (zA z0) (va_pl L f)) (hS : va_S (zA z0) s.heap H locs) (U : State) (hU : U.heap = H) (hW : s.WarmedH U.vm) : va_Pc av (zPre D T z0 L f) av.toArray U := by
  obtain ⟨h1, h2, h3⟩ := hE
  refine ⟨rfl, ⟨by rw [hU]; exact Nat.le_trans h1 hS.1, by rw [hU]; exact h2.pass hW (fun a ha hn => hS.2.1 a ha hn), va_K.moved hW.alike h3⟩, by rw [hU]; exact hP, hD⟩
theorem p_go {y : MethodName} {mc ms : Nat} {o : Option Value} {a : Array Value} {st0 : List Value} (hr : CallRun p l e R s m args below meth c H locs cells slots 0 0 (F0 m pc ls st0) rest (RVQ o a) (fun _ => False))
    (kk : W p l e R s m args below meth c H locs cells slots Q (F0 m (pc + 3) ls (o.toList ++ rest))) : W p l e R s m args below meth c H locs cells slots Q (F0 m pc ls st0) := by
  intro S hT X
  obtain ⟨v, st₀, t, T', L, h0, X', hL, e1, ⟨hv, hh⟩, st⟩ := hr S hT X
  cases hv
  obtain ⟨t2, a1, b1⟩ := kk T' (by rw [e1, hh, h0]) (Stand.forget X' (fun q h => (hL q h).elim))
  exact ⟨t2, st t2 a1, b1⟩
/-- a static call that reads: pure -/
theorem p_cs {y : MethodName} {n : Nat} {ws ws' : List Cond} {d maxL index : Nat} {av st : List Value} {o : Option Value} {ret : Option FieldType} {bytes : ByteArray} {Ts : List Cond} {own : String} {nL : Nat}
    (hM : RV l y ws d zNo av o) (hC : CallFix p m c cc nL s args Ts own) (hg : GoodIn Ts (va_wsS own index y ws)) (hw : ws = Cond.code y bytes maxL ret :: ws') (hd : y.cls ≠ "java/lang/invoke/MethodHandle" ∧ y.cls ≠ "java/lang/invoke/VarHandle" ∧ (parseMethodDescriptor y.desc).map (fun d => d.parameters.length) = some n) (hn : av.length = n)
    (hR : d + 1 ≤ R.frames ∧ 8 + (maxL + 11) + 60 * d ≤ R.locals) (hf : cells ≤ R.cells ∧ slots ≤ R.slots) (hsz : ls.size = nL) (hW : (rest.map fun v => v.category).sum ≤ 8) (hdg : decode cc pc = .ok (.invokestatic index, 3)) (hst : st = av.reverse ++ rest)
    (kk : W p l e R s m args below meth c H locs cells slots Q (F0 m (pc + 3) ls (o.toList ++ rest))) : W p l e R s m args below meth c H locs cells slots Q (F0 m pc ls st) := by
  subst hst
  exact p_go (y := y) (mc := 0) (ms := 0) (W.runS (As := av) (rest := rest) hC hM (va_cwS n hC.2.2.2.2 hg hw rfl rfl hd hR) ⟨zNo.blind, fun U _ _ => ⟨rfl, trivial⟩⟩ rfl hn hsz rfl (lv_room hW) hdg ⟨hf.1, hf.2⟩) kk
/-- a static call that reads, with the pool -/
theorem p_csB {y : MethodName} {n : Nat} {ws ws' : List Cond} {d maxL index : Nat} {av st : List Value} {o : Option Value} {ret : Option FieldType} {bytes : ByteArray} {Ts : List Cond} {own : String} {nL : Nat}
    (hM : RV l y ws d (zPre D T z0 L f) av o) (hC : CallFix p m c cc nL s args Ts own) (hE : zE D T z0 s) (hP : va_P D vwCl (va_pl L f) H) (hD : va_D (zA z0) (va_pl L f)) (hS : va_S (zA z0) s.heap H locs) (hg : GoodIn Ts (va_wsS own index y ws)) (hw : ws = Cond.code y bytes maxL ret :: ws') (hd : y.cls ≠ "java/lang/invoke/MethodHandle" ∧ y.cls ≠ "java/lang/invoke/VarHandle" ∧ (parseMethodDescriptor y.desc).map (fun d => d.parameters.length) = some n) (hn : av.length = n)
    (hR : d + 1 ≤ R.frames ∧ 8 + (maxL + 11) + 60 * d ≤ R.locals) (hf : cells ≤ R.cells ∧ slots ≤ R.slots) (hsz : ls.size = nL) (hW : (rest.map fun v => v.category).sum ≤ 8) (hdg : decode cc pc = .ok (.invokestatic index, 3)) (hst : st = av.reverse ++ rest)
    (kk : W p l e R s m args below meth c H locs cells slots Q (F0 m (pc + 3) ls (o.toList ++ rest))) : W p l e R s m args below meth c H locs cells slots Q (F0 m pc ls st) := by
  subst hst
  exact p_go (y := y) (mc := 0) (ms := 0) (W.runS (As := av) (rest := rest) hC hM (va_cwS n hC.2.2.2.2 hg hw rfl rfl hd hR) ⟨zPre.blind, fun U hU hW => zPre.pass hE hP hD hS U hU hW⟩ rfl hn hsz rfl (lv_room hW) hdg ⟨hf.1, hf.2⟩) kk
/-- a virtual call that reads, with the pool -/
theorem p_cvB {y : MethodName} {n : Nat} {ws ws' : List Cond} {d maxL index ci N : Nat} {C : String} {TT : u_T} {b : Nat} {fs : List Value} {av st : List Value} {o : Option Value} {ret : Option FieldType} {bytes : ByteArray} {Ts : List Cond} {own : String} {nL : Nat}
    (hM : RV l y ws d (zPre D T z0 L f) (.ref b :: av) o) (hC : CallFix p m c cc nL s args Ts own) (hE : zE D T z0 s) (hP : va_P D vwCl (va_pl L f) H) (hD : va_D (zA z0) (va_pl L f)) (hS : va_S (zA z0) s.heap H locs) (hm : b ∈ L) (he : f b = .inr (ci, fs)) (hc : vwCl[ci]? = some (C, TT, N)) (hg : GoodIn Ts (wsV own index C y ws)) (hw : ws = Cond.code y bytes maxL ret :: ws') (hd : y.cls = C ∧ y.cls ≠ "java/lang/invoke/MethodHandle" ∧ y.cls ≠ "java/lang/invoke/VarHandle" ∧ (parseMethodDescriptor y.desc).map (fun d => d.parameters.length) = some n) (hn : av.length = n)
    (hR : d + 1 ≤ R.frames ∧ 8 + (maxL + 11) + 60 * d ≤ R.locals) (hf : cells ≤ R.cells ∧ slots ≤ R.slots) (hsz : ls.size = nL) (hW : (rest.map fun v => v.category).sum ≤ 8) (hdg : decode cc pc = .ok (.invokevirtual index, 3)) (hst : st = av.reverse ++ .ref b :: rest)
    (kk : W p l e R s m args below meth c H locs cells slots Q (F0 m (pc + 3) ls (o.toList ++ rest))) : W p l e R s m args below meth c H locs cells slots Q (F0 m pc ls st) := by
  subst hst
  obtain ⟨k, hk⟩ := va_pl_get (X := []) (f := f) hm
  rw [List.nil_append, he] at hk
  exact p_go (y := y) (mc := 0) (ms := 0) (W.runV (As := av) (rest := rest) hC hM (cwV n hC.2.2.2.2 hg hw rfl rfl hd hR) ⟨zPre.blind, va_recv hE.2.2 hP hc hk, fun U hU hW => zPre.pass hE hP hD hS U hU hW⟩ rfl hn hsz rfl (lv_room hW) hdg ⟨hf.1, hf.2⟩) kk
theorem p_goH {mc ms : Nat} {post : Option Value → List Nat → (Nat → va_E) → Prop} {a : Array Value} {st0 : List Value} (hr : va_Run p l e R s m args below meth c H locs cells slots mc ms (F0 m pc ls st0) rest (HVQ D z0 post a) (zA z0)) (hS : va_S (zA z0) s.heap H locs)
    (kk : ∀ (o : Option Value) (L1 : List Nat) (f1 : Nat → va_E) (H1 : Heap) (locs1 : List Loc), post o L1 f1 → va_P D vwCl (va_pl L1 f1) H1 → va_D (zA z0) (va_pl L1 f1) → va_S (zA z0) s.heap H1 locs1 → W p l e R s m args below meth c H1 locs1 (cells + mc) (slots + ms) Q (F0 m (pc + 3) ls (o.toList ++ rest))) : W p l e R s m args below meth c H locs cells slots Q (F0 m pc ls st0) := by
  intro S hT X
  obtain ⟨v, st₀, t, T', Ls, h0, X', hL, e1, e2, ⟨⟨o, L1, f1, hv, hp, hb1, hb2⟩, hz, hk⟩, st⟩ := hr S hT X
  cases hv
  rw [h0] at hz hk
  obtain ⟨t2, a1, b1⟩ := kk v L1 f1 T'.heap (locs ++ Ls) hp (by rw [e1]; exact hb1) hb2
    ⟨Nat.le_trans hS.1 (by rw [e1]; exact hz), fun q h1 h2 => by rw [e1, hk q (Nat.lt_of_lt_of_le h1 hS.1) h2]; exact hS.2.1 q h1 h2, fun q hq => by
      rcases List.mem_append.mp hq with h | h
      · exact hS.2.2 q h
      · exact hL q h⟩ T' rfl X'
  exact ⟨t2, st t2 a1, b1⟩
/-- a static call that leaves another pool -/
theorem p_csH {y : MethodName} {n : Nat} {ws ws' : List Cond} {d maxL mc ms index : Nat} {av st : List Value} {post : Option Value → List Nat → (Nat → va_E) → Prop} {ret : Option FieldType} {bytes : ByteArray} {Ts : List Cond} {own : String} {nL : Nat}
    (hM : HV l y ws d mc ms D z0 (zPre D T z0 L f) av post) (hC : CallFix p m c cc nL s args Ts own) (hE : zE D T z0 s) (hP : va_P D vwCl (va_pl L f) H) (hD : va_D (zA z0) (va_pl L f)) (hS : va_S (zA z0) s.heap H locs) (hg : GoodIn Ts (va_wsS own index y ws)) (hw : ws = Cond.code y bytes maxL ret :: ws') (hd : y.cls ≠ "java/lang/invoke/MethodHandle" ∧ y.cls ≠ "java/lang/invoke/VarHandle" ∧ (parseMethodDescriptor y.desc).map (fun d => d.parameters.length) = some n) (hn : av.length = n)
    (hR : d + 1 ≤ R.frames ∧ 8 + (maxL + 11) + 60 * d ≤ R.locals) (hf : cells + mc ≤ R.cells ∧ slots + ms ≤ R.slots) (hsz : ls.size = nL) (hW : (rest.map fun v => v.category).sum ≤ 8) (hdg : decode cc pc = .ok (.invokestatic index, 3)) (hst : st = av.reverse ++ rest)
    (kk : ∀ (o : Option Value) (L1 : List Nat) (f1 : Nat → va_E) (H1 : Heap) (locs1 : List Loc), post o L1 f1 → va_P D vwCl (va_pl L1 f1) H1 → va_D (zA z0) (va_pl L1 f1) → va_S (zA z0) s.heap H1 locs1 → W p l e R s m args below meth c H1 locs1 (cells + mc) (slots + ms) Q (F0 m (pc + 3) ls (o.toList ++ rest))) : W p l e R s m args below meth c H locs cells slots Q (F0 m pc ls st) := by
  subst hst
  exact p_goH (va_runS (As := av) (rest := rest) hC hM (va_cwS n hC.2.2.2.2 hg hw rfl rfl hd hR) ⟨zPre.blind, fun U hU hW => zPre.pass hE hP hD hS U hU hW⟩ rfl hn hsz rfl (lv_room hW) hdg hf) hS kk
theorem p_cvH {y : MethodName} {n : Nat} {ws ws' : List Cond} {d maxL mc ms index ci N : Nat} {C : String} {TT : u_T} {b : Nat} {fs : List Value} {av st : List Value} {post : Option Value → List Nat → (Nat → va_E) → Prop} {ret : Option FieldType} {bytes : ByteArray} {Ts : List Cond} {own : String} {nL : Nat}
    (hM : HV l y ws d mc ms D z0 (zPre D T z0 L f) (.ref b :: av) post) (hC : CallFix p m c cc nL s args Ts own) (hE : zE D T z0 s) (hP : va_P D vwCl (va_pl L f) H) (hD : va_D (zA z0) (va_pl L f)) (hS : va_S (zA z0) s.heap H locs) (hm : b ∈ L) (he : f b = .inr (ci, fs)) (hc : vwCl[ci]? = some (C, TT, N)) (hg : GoodIn Ts (wsV own index C y ws)) (hw : ws = Cond.code y bytes maxL ret :: ws') (hd : y.cls = C ∧ y.cls ≠ "java/lang/invoke/MethodHandle" ∧ y.cls ≠ "java/lang/invoke/VarHandle" ∧ (parseMethodDescriptor y.desc).map (fun d => d.parameters.length) = some n) (hn : av.length = n)
    (hR : d + 1 ≤ R.frames ∧ 8 + (maxL + 11) + 60 * d ≤ R.locals) (hf : cells + mc ≤ R.cells ∧ slots + ms ≤ R.slots) (hsz : ls.size = nL) (hW : (rest.map fun v => v.category).sum ≤ 8) (hdg : decode cc pc = .ok (.invokevirtual index, 3)) (hst : st = av.reverse ++ .ref b :: rest)
    (kk : ∀ (o : Option Value) (L1 : List Nat) (f1 : Nat → va_E) (H1 : Heap) (locs1 : List Loc), post o L1 f1 → va_P D vwCl (va_pl L1 f1) H1 → va_D (zA z0) (va_pl L1 f1) → va_S (zA z0) s.heap H1 locs1 → W p l e R s m args below meth c H1 locs1 (cells + mc) (slots + ms) Q (F0 m (pc + 3) ls (o.toList ++ rest))) : W p l e R s m args below meth c H locs cells slots Q (F0 m pc ls st) := by
  subst hst
  obtain ⟨k, hk⟩ := va_pl_get (X := []) (f := f) hm
  rw [List.nil_append, he] at hk
  exact p_goH (va_runV (As := av) (rest := rest) hC hM (cwV n hC.2.2.2.2 hg hw rfl rfl hd hR) ⟨zPre.blind, va_recv hE.2.2 hP hc hk, fun U hU hW => zPre.pass hE hP hD hS U hU hW⟩ rfl hn hsz rfl (lv_room hW) hdg hf) hS kk
end ZA
