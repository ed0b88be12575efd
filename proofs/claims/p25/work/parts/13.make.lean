/-! MY ROWS 13: what is made: rows of rows; the class's beginning; its mean -/
theorem AOA_spec {U : State} {t : FieldType} (h : va_AOA t U) :
    ∃ comp c k, U.vm.findClass (FieldType.array t).toString = some comp ∧ (U.vm.classes.findIdx? fun (x : Class) => match x.kind with | .array component _ => component == comp | _ => false) = some c ∧ U.vm.classes[c]? = some k ∧ k.kind = .array comp (.array t) ∧ U.vm.findClass ("[" ++ (FieldType.array t).toString) = some c := by
  unfold va_AOA Cond.before at h
  simp only [Cond.holds, Cond.value, beq_iff_eq] at h
  cases hc : U.vm.findClass (FieldType.array t).toString with
  | none => simp [hc] at h
  | some comp =>
    simp only [hc, Option.bind_some, Option.bind_eq_some_iff, Option.map_eq_some_iff] at h
    obtain ⟨c, hi, k, hk, hb⟩ := h
    obtain ⟨hlt, hp, -⟩ := Array.findIdx?_eq_some_iff_getElem.mp hi
    have hkk : U.vm.classes[c] = k := (Array.getElem?_eq_some_iff.mp hk).2
    rw [hkk] at hp
    cases hkind : k.kind with
    | array component ty =>
      rw [hkind] at hb hp
      simp at hb hp
      exact ⟨comp, c, k, rfl, hi, hk, by rw [hkind, hp, hb.1], hb.2⟩
    | _ => rw [hkind] at hb; simp at hb
theorem AOA_moved {t : FieldType} {u U : State} (hvm : u.vm.Alike U.vm) (h : va_AOA t u) : va_AOA t U := by
  obtain ⟨comp, c, k, h1, h2, h3, h4, h5⟩ := AOA_spec h
  obtain ⟨k', hk', he⟩ := hvm.2.2 _ _ h3
  have hi : (U.vm.classes.findIdx? fun (x : Class) => match x.kind with | .array component _ => component == comp | _ => false) = some c := by
    exact (hvm.findIdx?_eqK _ (fun _ => rfl)).trans h2
  have hkind : k'.kind = .array comp (.array t) := by rw [he]; exact h4
  have f1 : U.vm.findClass (FieldType.array t).toString = some comp := by rw [hvm.findClass]; exact h1
  have f2 : U.vm.findClass ("[" ++ (FieldType.array t).toString) = some c := by rw [hvm.findClass]; exact h5
  unfold va_AOA Cond.before Cond.holds
  simp only [Cond.value]
  rw [f1, Option.bind_some]
  refine (congrArg (fun o : Option Nat => (o.bind (fun c => (U.vm.classes[c]?).map fun (k : Class) => match k.kind with | .array _ ty => decide (ty = FieldType.array t) && decide (U.vm.findClass ("[" ++ (FieldType.array t).toString) = some c) | _ => false) == some true)) hi).trans ?_
  simp [hk', hkind, f2]
/-- what the two beginnings find -/
def zPre0 (D : va_G) (T : ClassId × ClassId × ClassId) (z0 : Nat) (L : List Nat) (f : Nat → va_E) (U : State) : Prop := zPre D T z0 L f U ∧ va_AOA .int U
theorem zPre0.blind {D : va_G} {T : ClassId × ClassId × ClassId} {z0 : Nat} {L : List Nat} {f : Nat → va_E} {av : List Value} : FrameBlind (va_Pc av (zPre0 D T z0 L f)) := by
  intro a U g mk h
  exact ⟨h.1, (zPre.blind (av := av) a U g mk ⟨h.1, h.2.1⟩).2, AOA_moved (u := U) (U := U.calling g mk a) (Vm.Alike.refl U.vm) h.2.2⟩
theorem vr_lo {r : Nat → Nat} {n i : Nat} (h : i < n) : r i ∈ (List.range n).map r := List.mem_map.mpr ⟨i, List.mem_range.mpr h, rfl⟩
section ZM
variable {p : Program} {l : Launch} {e : Env} {R : Room} {s : State} {m : MethodId} {args : Array Value} {below : List Frame} {meth : Method} {c : Code} {H : Heap} {locs : List Loc} {cells slots : Nat} {Q : State → Prop}
variable {Ts : List Cond} {own : String} {nL : Nat} {cc : ByteArray} {pc : Nat} {ls : Array Slot} {rest : List Value} {D : va_G} {T : ClassId × ClassId × ClassId} {z0 : Nat} {L : List Nat} {f : Nat → va_E}
/-- new int[n][k] -/
theorem p_mna {n k index : Nat} (hC : CallFix p m c cc nL s args Ts own) (hE : zE D T z0 s) (hAO : va_AOA .int s) (hP : va_P D vwCl (va_pl L f) H) (hD : va_D (zA z0) (va_pl L f)) (hS : va_S (zA z0) s.heap H locs) (hcl : Cond.classLink own index "[[I" ∈ Ts) (harr : Cond.arrayClass .int ∈ Ts) (hn : n ≤ 100) (hk : k ≤ 100) (hcells : cells + (1 + n) ≤ R.cells) (hslots : slots + (n + n * k) ≤ R.slots) (hdg : decode cc pc = .ok (.multianewarray index 2, 4))
    (kk : ∀ (q : Nat) (r : Nat → Nat) (L1 : List Nat) (f1 : Nat → va_E) (H1 : Heap), (∀ i j : Nat, i < n → j < n → r i = r j → i = j) → q ∉ L → (∀ i, i < n → r i ∉ L) → q ∈ L1 → (∀ i, i < n → r i ∈ L1) → (∀ a, a ∈ L → a ∈ L1) → (∀ a, a ∈ L → f1 a = f a) → (∃ G : Nat → Option Nat, f1 q = eQ T.2.2 n G ∧ ∀ i, i < n → G i = some (r i)) → (∀ i, i < n → f1 (r i) = eI T.1 k (fun _ => 0)) → va_P D vwCl (va_pl L1 f1) H1 → va_D (zA z0) (va_pl L1 f1) → va_S (zA z0) s.heap H1 locs → W p l e R s m args below meth c H1 locs (cells + 1 + n) (slots + n + n * k) Q (F0 m (pc + 4) ls (.ref q :: rest))) : W p l e R s m args below meth c H locs cells slots Q (F0 m pc ls (.int (nI k) :: .int (nI n) :: rest)) := by
  have hn31 : n < 2 ^ 31 := Nat.lt_of_le_of_lt hn (by decide)
  have hk31 : k < 2 ^ 31 := Nat.lt_of_le_of_lt hk (by decide)
  have hI : s.vm.findClass "[I" = some T.1 := (hE.2.2.2 0 _ rfl).2
  refine va_mna (X := []) (L := L) (f := f) (ty := .int) (cy := T.1) (N' := n) (K' := k) (z := (k, .inl (fun _ => 0))) hC.1 hC.2.1 hC.2.2.2.1 (hC.2.2.2.2 _ hcl) hAO (hC.2.2.2.2 _ harr) hI hE.2.2 (by rw [List.nil_append]; exact hP) (by rw [List.nil_append]; exact hD) hS (zA_hA hE) (nI_pos hn31) (nI_pos hk31) (nI_clamp hn31) (nI_clamp hk31) (by omega) (by show k * 4 ≤ 536870912; omega) (by omega) rfl rfl hcells hslots (fun c => by show ({ cls := c, slots := Array.replicate k (defaultValue .int), vm := .none } : Cell) = arrV c k (fun j => .int 0); exact arrV_new c k (.int 0)) hdg ?_
  intro q r cA H1 hr hrL hK1 hP1 hD1 hS1
  have h1 : s.vm.findClass "[[I" = some T.2.2 := (hE.2.2.2 2 _ rfl).2
  have h2 : s.vm.findClass "[[I" = some cA := (hK1.2 3 _ rfl).2
  have h3 : T.2.2 = cA := Option.some.inj (h1.symm.trans h2)
  subst h3
  generalize hL2 : L ++ (List.range n).map r = L2 at hP1 hD1
  generalize hf2 : vr_up f ((List.range n).map r) (.inl (T.1, (k, .inl (fun _ => 0)))) = f2 at hP1 hD1
  generalize hG : (fun i => if i < n then some (r i) else none) = G at hP1 hD1
  have hq2 : q ∉ L2 := fun hq => by
    obtain ⟨j, hj⟩ := pl_get (f := f2) hq
    have e0 : (([] ++ [(q, Sum.inl (T.2.2, n, Sum.inr (Sum.inr (Sum.inr (Sum.inr G)))))]) ++ va_pl L2 f2)[0]? = some (q, Sum.inl (T.2.2, n, Sum.inr (Sum.inr (Sum.inr (Sum.inr G))))) := rfl
    have e1 : (([] ++ [(q, Sum.inl (T.2.2, n, Sum.inr (Sum.inr (Sum.inr (Sum.inr G)))))]) ++ va_pl L2 f2)[j + 1]? = some (q, f2 q) := hj
    exact absurd (hD1.1 0 (j + 1) _ _ e0 e1 rfl) (by omega)
  have hw : (([] ++ [(q, Sum.inl (T.2.2, n, Sum.inr (Sum.inr (Sum.inr (Sum.inr G)))))]) ++ va_pl L2 f2) = va_pl (q :: L2) (va_up f2 q (eQ T.2.2 n G)) := by
    show (q, _) :: va_pl L2 f2 = (q, va_up f2 q _ q) :: va_pl L2 (va_up f2 q _)
    rw [va_up_self]
    congr 1
    unfold va_pl
    apply List.map_congr_left
    intro a ha
    rw [va_up_ne _ _ (fun e : a = q => hq2 (e ▸ ha))]
  rw [hw] at hP1 hD1
  have hqL : q ∉ L := fun h => hq2 (by rw [← hL2]; exact List.mem_append_left _ h)
  have hr2 : ∀ i, i < n → r i ∈ L2 := fun i hi => by rw [← hL2]; exact List.mem_append_right _ (vr_lo hi)
  have hrq : ∀ i, i < n → r i ≠ q := fun i hi h => hq2 (h ▸ hr2 i hi)
  refine kk q r (q :: L2) _ H1 hr hqL hrL List.mem_cons_self (fun i hi => List.mem_cons_of_mem _ (hr2 i hi)) (fun a ha => List.mem_cons_of_mem _ (by rw [← hL2]; exact List.mem_append_left _ ha)) (fun a ha => ?_) ⟨G, va_up_self _ _ _, fun i hi => by rw [← hG]; exact if_pos hi⟩ (fun i hi => ?_) hP1 hD1 hS1
  · rw [va_up_ne _ _ (fun e : a = q => hqL (e ▸ ha)), ← hf2]
    exact vr_up_ne (fun h => by
      obtain ⟨i, hi, rfl⟩ := List.mem_map.mp h
      exact hrL i (List.mem_range.mp hi) ha)
  · rw [va_up_ne _ _ (hrq i hi), ← hf2]
    exact vr_up_in (vr_lo hi)
theorem z_objInit {index : Nat} {Cn : String} {a : Nat} (hC : CallFix p m c cc nL s args Ts Cn) (hlink : Cond.methodLink Cn index objectInit ∈ Ts) (hinst : Cond.instanceMethod objectInit ∈ Ts) (hcode : Cond.code objectInit ⟨#[0xb1]⟩ 1 none ∈ Ts) (hsz : ls.size = nL) (hfr : 1 ≤ R.frames) (hlo : 12 ≤ R.locals) (hdg : decode cc pc = .ok (.invokespecial index, 3))
    (kk : W p l e R s m args below meth c H locs cells slots Q (F0 m (pc + 3) ls [])) : W p l e R s m args below meth c H locs cells slots Q (F0 m pc ls [.ref a]) :=
  W.objInit (a := a) (rest := []) hC.1 hC.2.1 hC.2.2.2.1 (hC.2.2.2.2 _ hlink) (hC.2.2.2.2 _ hinst) (hC.2.2.2.2 _ hcode) rfl (by rw [hC.2.2.1]; exact hsz) rfl hdg hfr (by simpa [JFrame.monitorRoom] using hlo) kk
theorem RV.dret {v x : UInt64} (hC : CallFix p m c cc nL s args Ts own) (hr : meth.sig.returnType = some .double) (hlk : meth.locks = false) (hdg : decode cc pc = .ok (.dreturn, 1)) (hv : x = v) :
    W p l e R s m args below meth c s.heap [] 0 0 (MQ below (RVQ (some (.double v))) args s 0 0 (fun _ => False)) (F0 m pc ls [.double x]) := by
  subst hv
  exact W.dret hC.1 hC.2.1 hr (fun t ht _ => ⟨rfl, ht⟩) (fun q h => by cases h) hdg hlk
theorem HV.dret {x : UInt64} {mc ms : Nat} {post : Option Value → List Nat → (Nat → va_E) → Prop} (hC : CallFix p m c cc nL s args Ts own) (hr : meth.sig.returnType = some .double) (hlk : meth.locks = false) (hP : va_P D vwCl (va_pl L f) H) (hD : va_D (zA z0) (va_pl L f)) (hS : va_S (zA z0) s.heap H locs) (hc : cells ≤ mc) (hs : slots ≤ ms) (hdg : decode cc pc = .ok (.dreturn, 1)) (hp : post (some (.double x)) L f) :
    W p l e R s m args below meth c H locs cells slots (MQ below (HVQ D z0 post) args s mc ms (zA z0)) (F0 m pc ls [.double x]) :=
  W.widen hc hs (W.dret hC.1 hC.2.1 hr (fun t ht _ => HV.post hP hD hS hp t ht) hS.2.2 hdg hlk)
end ZM
set_option maxHeartbeats 4000000 in
set_option maxRecDepth 100000 in
theorem k_X0init (l : Launch) {D : va_G} {T : ClassId × ClassId × ClassId} {z0 : Nat} {L : List Nat} {f : Nat → va_E} {hx : Nat} (hmx : hx ∈ L) (hex : f hx = eO 0 [.long 0, .int 0, .null, .null]) : HV l yX0_init wsX0_init 2 7 70 D z0 (zPre0 D T z0 L f) [.ref hx] (fun o L1 f1 => o = none ∧ ∃ (g ln : Nat) (rw : Nat → Nat), CX T L1 f1 hx g ln rw one (nI 0) (fun _ => []) ∧ (∀ a, a ∈ L → a ∈ L1) ∧ (∀ a, a ∈ L → a ≠ hx → f1 a = f a) ∧ g ∉ L ∧ ln ∉ L ∧ ∀ w, w < 5 → rw w ∉ L) := by
  refine HV.of (cc := cX0_init) (maxL := 1) (ret := none) (by decide) rfl (Nat.le_of_ble_eq_true rfl) ?_
  intro p e s m args below meth c hC hr hlk hin hB ls hl
  have hin := hin rfl
  have hl : lv_has ls 1 [(0, .ref hx)] := hl
  obtain ⟨⟨hE, hP, hD⟩, hAO⟩ := hB
  have hS : va_S (zA z0) s.heap s.heap [] := va_S.rf
  refine lv_aload_n hC.1 hC.2.1 dX0_init_0 rfl (lv_at hl 0 rfl) ?_
  refine z_objInit hC (by decide +kernel) (by decide +kernel) (by decide +kernel) hl.1 (by decide) (by decide) dX0_init_1 ?_
  refine lv_aload_n hC.1 hC.2.1 dX0_init_4 rfl (lv_at hl 0 rfl) ?_
  refine lv_ldc2 (v := 506097522914230528) hC.1 hC.2.1 hC.2.2.2.1 (hC.2.2.2.2 (.constantLong RX0 9 (506097522914230528)) (by decide +kernel)) dX0_init_5 ?_
  refine q_l (enc one) (enc_one) ?_
  refine p_put (ref := "CornerCube") (ty0 := tyX0) hC hE hP hD hS hmx hex rfl (by decide +kernel) tyX0_ok nmX0 0 (by decide) (by decide +kernel) rfl rfl rfl rfl (Nat.le_of_ble_eq_true rfl) dX0_init_8 (fun H locs hP hD hS => ?_)
  have hex := va_up_self f hx (eO 0 [.long (enc one), .int 0, .null, .null])
  refine lv_aload_n hC.1 hC.2.1 dX0_init_11 rfl (lv_at hl 0 rfl) ?_
  refine lv_iconst (v := (nI 0)) hC.1 hC.2.1 dX0_init_12 (by decide) ?_
  refine p_put (ref := "CornerCube") (ty0 := tyX0) hC hE hP hD hS hmx hex rfl (by decide +kernel) tyX0_ok nmX0 1 (by decide) (by decide +kernel) rfl rfl rfl rfl (Nat.le_of_ble_eq_true rfl) dX0_init_13 (fun H locs hP hD hS => ?_)
  have hf0 : ∀ a, a ≠ hx → va_up (va_up f hx (eO 0 [.long (enc one), .int 0, .null, .null])) hx (eO 0 [.long (enc one), .int (nI 0), .null, .null]) a = f a := fun a h => (va_up_ne _ _ h).trans (va_up_ne _ _ h)
  have hex := va_up_self (va_up f hx (eO 0 [.long (enc one), .int 0, .null, .null])) hx (eO 0 [.long (enc one), .int (nI 0), .null, .null])
  refine lv_aload_n hC.1 hC.2.1 dX0_init_16 rfl (lv_at hl 0 rfl) ?_
  refine lv_iconst (v := (nI 5)) hC.1 hC.2.1 dX0_init_17 (by decide) ?_
  refine lv_bipush (v := (nI 12)) hC.1 hC.2.1 dX0_init_18 (by decide) ?_
  refine p_mna hC hE hAO hP hD hS (by decide +kernel) (by decide +kernel) (by decide) (by decide) (by decide) (by decide) dX0_init_20 (fun q r L1 f1 H hri hq0 hr0 hq1 hr1 hL1 hf1 hfq hfr hP hD hS => ?_)
  have hex : f1 hx = eO 0 [.long (enc one), .int (nI 0), .null, .null] := (hf1 hx hmx).trans hex
  have hmx0 := hmx
  have hmx := hL1 hx hmx
  refine p_putF (ref := "CornerCube") (ty0 := tyX0) hC hE hP hD hS hmx hex rfl (by decide +kernel) tyX0_ok nmX0 2 (by decide) (by decide +kernel) rfl rfl hin rfl rfl rfl (Nat.le_of_ble_eq_true rfl) dX0_init_24 (fun H locs hP hD hS => ?_)
  refine lv_aload_n hC.1 hC.2.1 dX0_init_27 rfl (lv_at hl 0 rfl) ?_
  refine lv_iconst (v := (nI 5)) hC.1 hC.2.1 dX0_init_28 (by decide) ?_
  refine p_newI hC hE hP hD hS (by decide +kernel) (by decide) (by decide) (by decide) dX0_init_29 (fun y H hy hP hD hS => ?_)
  have hyx : hx ≠ y := fun e => hy (e ▸ hmx)
  have hex2 := (va_up_ne (va_up f1 hx (eO 0 [.long (enc one), .int (nI 0), .ref q, .null])) (eI T.1 5 (fun _ => 0)) hyx).trans (va_up_self f1 hx (eO 0 [.long (enc one), .int (nI 0), .ref q, .null]))
  have hmx2 : hx ∈ L1 ++ [y] := List.mem_append_left _ hmx
  refine p_putF (ref := "CornerCube") (ty0 := tyX0) hC hE hP hD hS hmx2 hex2 rfl (by decide +kernel) tyX0_ok nmX0 3 (by decide) (by decide +kernel) rfl rfl hin rfl rfl rfl (Nat.le_of_ble_eq_true rfl) dX0_init_31 (fun H locs hP hD hS => ?_)
  obtain ⟨G, hfq, hG⟩ := hfq
  have hqx : q ≠ hx := fun e => hq0 (e ▸ hmx0)
  have hqy : q ≠ y := fun e => hy (e ▸ hq1)
  have hrx : ∀ w, w < 5 → r w ≠ hx := fun w hw e => hr0 w hw (e ▸ hmx0)
  have hry : ∀ w, w < 5 → r w ≠ y := fun w hw e => hy (e ▸ hr1 w hw)
  have hup : ∀ a, a ≠ hx → a ≠ y → va_up (va_up (va_up f1 hx (eO 0 [.long (enc one), .int (nI 0), .ref q, .null])) y (eI T.1 5 (fun _ => 0))) hx (eO 0 [.long (enc one), .int (nI 0), .ref q, .ref y]) a = f1 a := fun a h1 h2 => (va_up_ne _ _ h1).trans ((va_up_ne _ _ h2).trans (va_up_ne _ _ h1))
  exact HV.vret hC hr hlk hP hD hS (by decide) (by decide) dX0_init_34 (⟨rfl, q, y, r, ⟨⟨hmx2, va_up_self _ _ _⟩, ⟨List.mem_append_left _ hq1, G, (hup q hqx hqy).trans hfq, hG⟩, ⟨List.mem_append_right _ (List.mem_singleton.mpr rfl), _, (va_up_ne _ _ hyx.symm).trans (va_up_self _ _ _), fun w hw => rfl⟩, fun w hw => ⟨List.mem_append_left _ (hr1 w hw), _, (hup _ (hrx w hw) (hry w hw)).trans (hfr w hw), fun k hk => absurd hk (by simp)⟩, hri, one_Va, fun w hw => ⟨Nat.zero_le _, fun k hk => absurd hk (by simp)⟩⟩, fun a ha => List.mem_append_left _ (hL1 a ha), fun a ha hax => (hup a hax (fun e => hy (e ▸ hL1 a ha))).trans ((hf1 a ha).trans (hf0 a hax)), hq0, fun h => hy (hL1 y h), hr0⟩)
