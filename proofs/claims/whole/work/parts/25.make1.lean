/-! MY ROWS 25: rows of references made and written; the reference's beginning -/
theorem assign_self (vm : Vm) (c : ClassId) : vm.assignable c c = true := by
  show (c == c || _) = true
  simp
section ZN
variable {p : Program} {l : Launch} {e : Env} {R : Room} {s : State} {m : MethodId} {args : Array Value} {below : List Frame} {meth : Method} {c : Code} {H : Heap} {locs : List Loc} {cells slots : Nat} {Q : State → Prop}
variable {Ts : List Cond} {own : String} {nL : Nat} {cc : ByteArray} {pc : Nat} {ls : Array Slot} {rest : List Value} {D : va_G} {T : ClassId × ClassId × ClassId} {z0 : Nat} {L : List Nat} {f : Nat → va_E}
theorem p_newA {n index : Nat} (hC : CallFix p m c cc nL s args Ts own) (hE : zE D T z0 s) (hAO : va_AOA .int s) (hP : va_P D vwCl (va_pl L f) H) (hD : va_D (zA z0) (va_pl L f)) (hS : va_S (zA z0) s.heap H locs) (hcl : Cond.classLink own index "[I" ∈ Ts) (hn : n ≤ 100) (hcells : cells + 1 ≤ R.cells) (hslots : slots + n ≤ R.slots) (hdg : decode cc pc = .ok (.anewarray index, 3))
    (kk : ∀ (q : Nat) (H1 : Heap), q ∉ L → va_P D vwCl (va_pl (L ++ [q]) (va_up f q (eQ T.2.2 n (fun _ => none)))) H1 → va_D (zA z0) (va_pl (L ++ [q]) (va_up f q (eQ T.2.2 n (fun _ => none)))) → va_S (zA z0) s.heap H1 locs → W p l e R s m args below meth c H1 locs (cells + 1) (slots + n) Q (F0 m (pc + 3) ls (.ref q :: rest))) : W p l e R s m args below meth c H locs cells slots Q (F0 m pc ls (.int (nI n) :: rest)) := by
  have h31 : n < 2 ^ 31 := Nat.lt_of_le_of_lt hn (by decide)
  have hcN : (nI n).toNatClampNeg = n := nI_clamp h31
  refine W.anewA (t := .int) (g := F0 m pc ls (.int (nI n) :: rest)) hC.1 hC.2.1 hC.2.2.2.1 (hC.2.2.2.2 _ hcl) (va_AOA.use hAO) rfl hdg rfl (nI_pos h31) (by rw [hcN]; omega) hcells (by rw [hcN]; exact hslots) (fun cA kA comp g1 g2 g3 g4 => ?_)
  have h1 : s.vm.findClass "[[I" = some T.2.2 := (hE.2.2.2 2 _ rfl).2
  have h3 : T.2.2 = cA := Option.some.inj (h1.symm.trans g1)
  subst h3
  have hcell : ({ cls := T.2.2, slots := Array.replicate (nI n).toNatClampNeg .null, vm := .none } : Cell) = vp_cell T.2.2 (n, .inr (.inr (.inr (.inr (fun _ => none))))) := by
    rw [hcN]
    show _ = arrV T.2.2 n (fun j => .null)
    exact arrV_new T.2.2 n .null
  rw [hcell, hcN]
  generalize hH1 : H.push (vp_cell T.2.2 (n, .inr (.inr (.inr (.inr (fun _ => none)))))) = H1
  have o1 : ∀ x : Nat, x < H.size → H1[x]? = H[x]? := fun x hx => by rw [← hH1, Array.getElem?_push, if_neg (Nat.ne_of_lt hx)]
  have e1 : H1[H.size]? = some (vp_cell T.2.2 (n, .inr (.inr (.inr (.inr (fun _ => none)))))) := by rw [← hH1]; simp
  have z1 : H1.size = H.size + 1 := by rw [← hH1]; simp
  have hk : ∀ (k : Nat) (x : Nat × va_E), (va_pl L f)[k]? = some x → H1[x.1]? = H[x.1]? := fun k x hx => o1 x.1 ((hP k x hx).lt)
  have hD1 : va_D (zA z0) (va_pl L f ++ [(H.size, eQ T.2.2 n (fun _ => none))]) := hD.push hP rfl (zA_hA hE _ hS.1)
  have hP1 : va_P D vwCl (va_pl L f ++ [(H.size, eQ T.2.2 n (fun _ => none))]) H1 := (hP.kept hk).app (fun k x hx => by
    have hz : k < 1 := (List.getElem?_eq_some_iff.mp hx).1
    rw [show k = 0 by omega] at hx
    cases hx
    exact e1)
  have hq := pl_new hD1
  rw [va_pl_push hq] at hP1 hD1
  exact kk H.size H1 hq hP1 hD1 ⟨Nat.le_trans hS.1 (by omega), fun x h1 h2 => (o1 x (Nat.lt_of_lt_of_le h1 hS.1)).trans (hS.2.1 x h1 h2), hS.2.2⟩
def updO (g : Nat → Option Nat) (j : Nat) (y : Nat) : Nat → Option Nat := fun i => if i = j then some y else g i
theorem p_aast {a n j y k : Nat} {g : Nat → Option Nat} {g2 : Nat → Int32} (hC : CallFix p m c cc nL s args Ts own) (hE : zE D T z0 s) (hAO : va_AOA .int s) (hP : va_P D vwCl (va_pl L f) H) (hD : va_D (zA z0) (va_pl L f)) (hS : va_S (zA z0) s.heap H locs) (hm : a ∈ L) (he : f a = eQ T.2.2 n g) (hy : y ∈ L) (hey : f y = eI T.1 k g2) (hj : j < n) (hn : n < 2 ^ 31) (hdg : decode cc pc = .ok (.aastore, 1))
    (kk : ∀ (H1 : Heap) (locs1 : List Loc), va_P D vwCl (va_pl L (va_up f a (eQ T.2.2 n (updO g j y)))) H1 → va_D (zA z0) (va_pl L (va_up f a (eQ T.2.2 n (updO g j y)))) → va_S (zA z0) s.heap H1 locs1 → W p l e R s m args below meth c H1 locs1 cells slots Q (F0 m (pc + 1) ls rest)) : W p l e R s m args below meth c H locs cells slots Q (F0 m pc ls (.ref y :: .int (nI j) :: .ref a :: rest)) := by
  obtain ⟨i, hi⟩ := pl_get (f := f) hm
  obtain ⟨i2, hi2⟩ := pl_get (f := f) hy
  have e9 := fun e => pl_set (e := e) hD hm hi
  rw [he] at hi
  rw [hey] at hi2
  obtain ⟨comp, cA, kA, f1, -, f3, f4, f5⟩ := AOA_spec hAO
  have hI : s.vm.findClass "[I" = some T.1 := (hE.2.2.2 0 _ rfl).2
  have h1 : s.vm.findClass "[[I" = some T.2.2 := (hE.2.2.2 2 _ rfl).2
  have h3 : T.2.2 = cA := Option.some.inj (h1.symm.trans f5)
  have h4 : T.1 = comp := Option.some.inj (hI.symm.trans f1)
  obtain ⟨kI, hkI, -⟩ := Vm.findClass_spec hI
  have hcN : (nI j).toNatClampNeg = j := nI_clamp (Nat.lt_trans hj hn)
  refine W.aast (t := .array .int) (comp := T.1) (k := kA) (kv := kI) (kcomp := kI) (g := F0 m pc ls (.ref y :: .int (nI j) :: .ref a :: rest)) hC.1 hC.2.1 (hP i _ hi) (fun q => by intro h; cases h) (fun q => by cases q) (by show s.vm.classes[T.2.2]? = some kA; rw [h3]; exact f3) (by rw [h4]; exact f4) rfl hkI ⟨nI_pos (Nat.lt_trans hj hn), by show _ < (arrV _ _ _).slots.size; rw [arrV_size, hcN]; exact hj⟩ (hP i2 _ hi2) (fun q => by intro h; cases h) (by show s.vm.classes[T.1]? = some kI; exact hkI) (assign_self _ _) rfl rfl hdg (fun H1 e z oq => ?_)
  rw [hcN] at e
  have hcell : (vp_cell T.2.2 (n, .inr (.inr (.inr (.inr g))))).setSlot j (.ref y) = vp_cell T.2.2 (n, .inr (.inr (.inr (.inr (updO g j y))))) := by
    show (arrV T.2.2 n (fun j => va_rf (g j))).setSlot j (.ref y) = arrV T.2.2 n (fun i => va_rf (updO g j y i))
    rw [arrV_store]
    congr 1
    funext i
    unfold updV updO
    by_cases h : i = j
    · rw [if_pos h, if_pos h]; rfl
    · rw [if_neg h, if_neg h]
  refine kk H1 _ ?_ ?_ (hS.put z oq (hD.2 i _ hi))
  · rw [← e9]
    refine hP.set hD hi ?_ oq
    show H1[a]? = some _
    exact e.trans (congrArg some hcell)
  · rw [← e9]
    exact hD.set hi
end ZN
/-- the reference's cells where only the first n of its rows of turns are written -/
def MYk (n : Nat) (T : ClassId × ClassId × ClassId) (L : List Nat) (f : Nat → va_E) (hm rs td sz wo : Nat) (rr tr : Nat → Nat) (cu : Nat) : Prop :=
  (hm ∈ L ∧ f hm = eO 1 [.int 0, .int 0, .ref cu, .ref rs, .ref td, .ref sz, .ref wo]) ∧ (cu ∈ L ∧ ∃ g, f cu = eI T.1 16 g ∧ Rp g one) ∧
  (rs ∈ L ∧ ∃ G : Nat → Option Nat, f rs = eQ T.2.2 9 G ∧ ∀ t, t < n → G t = some (rr t)) ∧ (∀ t, t < n → rr t ∈ L ∧ ∃ g, f (rr t) = eI T.1 16 g ∧ Rp g (tq t)) ∧
  (td ∈ L ∧ ∃ G : Nat → Option Nat, f td = eQ T.2.2 6 G ∧ ∀ k, k < 6 → G k = some (tr k)) ∧ (∀ k, k < 6 → tr k ∈ L ∧ ∃ g, f (tr k) = eI T.1 16 g) ∧
  (∀ k, k < 6 → tr k ≠ cu ∧ (∀ t, t < n → tr k ≠ rr t) ∧ ∀ j, j < 6 → tr k = tr j → k = j) ∧ (sz ∈ L ∧ f sz = eI T.1 5 (fun _ => 0)) ∧ (wo ∈ L ∧ f wo = eI T.1 60 (fun _ => 0))
def MYn (n : Nat) (T : ClassId × ClassId × ClassId) (L0 : List Nat) (f0 : Nat → va_E) (L : List Nat) (f : Nat → va_E) (hm rs td sz wo : Nat) (rr tr : Nat → Nat) (cu : Nat) : Prop :=
  MYk n T L f hm rs td sz wo rr tr cu ∧ (∀ a, a ∈ L0 → a ∈ L) ∧ (∀ a, a ∈ L0 → a ≠ hm → f a = f0 a) ∧ (cu ∉ L0 ∧ rs ∉ L0 ∧ td ∉ L0 ∧ sz ∉ L0 ∧ wo ∉ L0) ∧ (∀ t, t < n → rr t ∉ L0) ∧ ∀ k, k < 6 → tr k ∉ L0
theorem MYn.step {n : Nat} {T : ClassId × ClassId × ClassId} {L0 L L2 : List Nat} {f0 f f2 : Nat → va_E} {hm rs td sz wo : Nat} {rr tr : Nat → Nat} {cu y : Nat} {G : Nat → Option Nat} (h : MYn n T L0 f0 L f hm rs td sz wo rr tr cu) (hG0 : f rs = eQ T.2.2 9 G) (hq : AQ T L f (tq n) y L2 f2) {r2 : Nat → Nat} (hr1 : r2 n = y) (hr2 : ∀ t, t < n → r2 t = rr t) :
    MYn (n + 1) T L0 f0 L2 (va_up f2 rs (eQ T.2.2 9 (updO G n y))) hm rs td sz wo r2 tr cu := by
  obtain ⟨⟨⟨a1, a2⟩, ⟨b1, g, b2, b3⟩, ⟨c1, G', c2, c3⟩, d, ⟨e1, G2, e2, e3⟩, i, j, ⟨k1, k2⟩, ⟨l1, l2⟩⟩, n1, n2, n3, n4, n5⟩ := h
  obtain ⟨q1, q2, hk, g9, q3, q4⟩ := hq
  have hGG : G' = G := by
    have := c2.symm.trans hG0
    injection this with h1; injection h1 with h2 h3; injection h3 with h4 h5; injection h5 with h6; injection h6 with h7; injection h7 with h8; injection h8 with h9
  subst hGG
  have kp : ∀ x, x ∈ L → x ≠ rs → va_up f2 rs (eQ T.2.2 9 (updO G' n y)) x = f x := fun x hx hn => (va_up_ne _ _ hn).trans (hk x hx).2
  have ni : ∀ {x n : Nat} {u : Nat → Int32}, f x = eI T.1 n u → x ≠ rs := fun hx e => eQ_eI (c2.symm.trans (e ▸ hx))
  have no : hm ≠ rs := fun e => eO_eQ (a2.symm.trans (e ▸ c2))
  have nt : td ≠ rs := fun e => by
    have := e2.symm.trans (e ▸ c2)
    injection this with h1; injection h1 with h2 h3; injection h3 with h4 h5; exact absurd h4 (by decide)
  have yr : y ≠ rs := fun e => q1 (e ▸ c1)
  refine ⟨⟨⟨(hk _ a1).1, (kp _ a1 no).trans a2⟩, ⟨(hk _ b1).1, g, (kp _ b1 (ni b2)).trans b2, b3⟩, ⟨(hk _ c1).1, _, va_up_self _ _ _, fun t ht => ?_⟩, fun t ht => ?_, ⟨(hk _ e1).1, G2, (kp _ e1 nt).trans e2, e3⟩, fun t ht => ?_, fun k h6 => ⟨(j k h6).1, fun t ht => ?_, (j k h6).2.2⟩, ⟨(hk _ k1).1, (kp _ k1 (ni k2)).trans k2⟩, ⟨(hk _ l1).1, (kp _ l1 (ni l2)).trans l2⟩⟩, fun a ha => (hk a (n1 a ha)).1, fun a ha hn => (kp a (n1 a ha) (fun e => n3.2.1 (e ▸ ha))).trans (n2 a ha hn), n3, fun t ht => ?_, n5⟩
  · unfold updO
    by_cases e : t = n
    · rw [if_pos e, e, hr1]
    · rw [if_neg e, hr2 t (by omega)]; exact c3 t (by omega)
  · by_cases e : t = n
    · subst e
      rw [hr1]
      exact ⟨q2, g9, (va_up_ne _ _ yr).trans q3, q4⟩
    · rw [hr2 t (by omega)]
      obtain ⟨d1, g, d2, d3⟩ := d t (by omega)
      exact ⟨(hk _ d1).1, g, (kp _ d1 (ni d2)).trans d2, d3⟩
  · obtain ⟨d1, g, d2⟩ := i t ht
    exact ⟨(hk _ d1).1, g, (kp _ d1 (ni d2)).trans d2⟩
  · by_cases e : t = n
    · rw [e, hr1]; exact fun h => q1 (h ▸ (i k h6).1)
    · rw [hr2 t (by omega)]; exact (j k h6).2.1 t (by omega)
  · by_cases e : t = n
    · rw [e, hr1]; exact fun h => q1 (n1 _ h)
    · rw [hr2 t (by omega)]; exact n4 t (by omega)
theorem MYn.toMY {T : ClassId × ClassId × ClassId} {L0 L : List Nat} {f0 f : Nat → va_E} {hm rs td sz wo : Nat} {rr tr : Nat → Nat} {cu : Nat} (h : MYn 9 T L0 f0 L f hm rs td sz wo rr tr cu) : MZ T L f hm rs td sz wo rr tr cu (nI 0) (nI 0) one (fun _ => []) := ⟨_, _, h.1, one_Va, fun w hw => ⟨rfl, Nat.zero_le _, fun k hk => absurd hk (by simp)⟩⟩
def MIp (T : ClassId × ClassId × ClassId) (L : List Nat) (f : Nat → va_E) (hm : Nat) : Option Value → List Nat → (Nat → va_E) → Prop := fun o L1 f1 => o = none ∧ ∃ (rs td sz wo : Nat) (rr tr : Nat → Nat) (cu : Nat), MYn 9 T L f L1 f1 hm rs td sz wo rr tr cu

set_option maxHeartbeats 4000000 in
set_option maxRecDepth 100000 in
theorem m_X1init (l : Launch) {D : va_G} {T : ClassId × ClassId × ClassId} {z0 : Nat} {L : List Nat} {f : Nat → va_E} {hm : Nat} (hmm : hm ∈ L) (hem : f hm = eO 1 [.int 0, .int 0, .null, .null, .null, .null, .null]) : HV l yX1_init wsX1_init 8 56 912 D z0 (zPre0 D T z0 L f) [.ref hm] (MIp T L f hm) := by
  refine HV.of (cc := cX1_init) (maxL := 2) (ret := none) (by decide) rfl (Nat.le_of_ble_eq_true rfl) ?_
  intro p e s m args below meth c hC hr hlk hin hB ls hl
  have hin := hin rfl
  have hl : lv_has ls 2 [(0, .ref hm)] := hl
  obtain ⟨⟨hE, hP, hD⟩, hAO⟩ := hB
  have hS : va_S (zA z0) s.heap s.heap [] := va_S.rf
  have hnw : (∀ a, a ∈ L → a ∈ L) ∧ ∀ a, a ∈ L → a ≠ hm → f a = f a := ⟨fun _ h => h, fun _ _ _ => rfl⟩
  have hmm0 := hmm
  refine lv_aload_n hC.1 hC.2.1 dX1_init_0 rfl (lv_at hl 0 rfl) ?_
  refine z_objInit hC (by decide +kernel) (by decide +kernel) (by decide +kernel) hl.1 (by decide) (by decide) dX1_init_1 ?_
  refine lv_aload_n hC.1 hC.2.1 dX1_init_4 rfl (lv_at hl 0 rfl) ?_
  refine p_csH (n := 0) (m_right l) hC hE hP hD hS gX1_init_X1_right rfl (by decide +kernel) rfl ⟨by decide, by decide⟩ ⟨by simp only [rD]; omega, by simp only [rD]; omega⟩ hl.1 (Nat.le_of_ble_eq_true rfl) dX1_init_5 rfl (fun o L1 f1 H locs hpost hP hD hS => ?_)
  obtain ⟨cu, rfl, hq⟩ := hpost.get
  have hkp := hq.2.2.1
  have hem := (hkp _ hmm).2.trans hem
  have hmm := (hkp _ hmm).1
  have hnw : (∀ a, a ∈ L → a ∈ L1) ∧ ∀ a, a ∈ L → a ≠ hm → f1 a = f a := ⟨fun a ha => (hkp _ (hnw.1 a ha)).1, fun a ha hn => (hkp _ (hnw.1 a ha)).2.trans (hnw.2 a ha hn)⟩
  obtain ⟨gc, hcue, hcuR⟩ := hq.2.2.2
  have hcum := hq.2.1
  have hcun : cu ≠ hm := fun e => hq.1 (e ▸ hmm0)
  have hcu0 := hq.1
  refine p_put (ref := "CornerCubeModel") (ty0 := tyX1) hC hE hP hD hS hmm hem rfl (by decide +kernel) tyX1_ok nmX1 2 (by decide) (by decide +kernel) rfl rfl rfl rfl (Nat.le_of_ble_eq_true rfl) dX1_init_8 (fun H locs hP hD hS => ?_)
  have hP : va_P D vwCl (va_pl L1 (va_up f1 hm (eO 1 [.int 0, .int 0, .ref cu, .null, .null, .null, .null]))) H := hP
  have hD : va_D (zA z0) (va_pl L1 (va_up f1 hm (eO 1 [.int 0, .int 0, .ref cu, .null, .null, .null, .null]))) := hD
  generalize hfg1 : va_up f1 hm (eO 1 [.int 0, .int 0, .ref cu, .null, .null, .null, .null]) = v1 at hP hD
  have hkq : ∀ a, a ≠ hm → v1 a = f1 a := fun a h => by rw [← hfg1]; exact va_up_ne _ _ h
  have hcue := (hkq _ hcun).trans hcue
  have hnw : (∀ a, a ∈ L → a ∈ L1) ∧ ∀ a, a ∈ L → a ≠ hm → v1 a = f a := ⟨hnw.1, fun a ha hn => (hkq _ hn).trans (hnw.2 a ha hn)⟩
  have hem : v1 hm = eO 1 [.int 0, .int 0, .ref cu, .null, .null, .null, .null] := by rw [← hfg1]; exact va_up_self _ _ _
  refine lv_aload_n hC.1 hC.2.1 dX1_init_11 rfl (lv_at hl 0 rfl) ?_
  refine lv_bipush (v := (nI 9)) hC.1 hC.2.1 dX1_init_12 (by decide) ?_
  refine p_newA hC hE hAO hP hD hS (by decide +kernel) (by decide) (by decide) (by decide) dX1_init_14 (fun rs H hfr hP hD hS => ?_)
  generalize hfg2 : va_up v1 rs (eQ T.2.2 9 (fun _ => none)) = v2 at hP hD
  generalize hLg2 : L1 ++ [rs] = K2 at hP hD
  have hkp : ∀ a, a ∈ L1 → a ∈ K2 ∧ v2 a = v1 a := fun a ha => ⟨by rw [← hLg2]; exact List.mem_append_left _ ha, by rw [← hfg2]; exact va_up_ne _ _ (fun h : a = rs => hfr (h ▸ ha))⟩
  have hrsn : rs ≠ hm := fun h => hfr (h ▸ hmm)
  have hrs0 : rs ∉ L := fun h => hfr (hnw.1 _ h)
  have hcue := (hkp _ hcum).2.trans hcue
  have hcum := (hkp _ hcum).1
  have hem := (hkp _ hmm).2.trans hem
  have hmm := (hkp _ hmm).1
  have hnw : (∀ a, a ∈ L → a ∈ K2) ∧ ∀ a, a ∈ L → a ≠ hm → v2 a = f a := ⟨fun a ha => (hkp _ (hnw.1 a ha)).1, fun a ha hn => (hkp _ (hnw.1 a ha)).2.trans (hnw.2 a ha hn)⟩
  have hrse : v2 rs = eQ T.2.2 9 (fun _ => none) := by rw [← hfg2]; exact va_up_self _ _ _
  have hrsm : rs ∈ K2 := by rw [← hLg2]; exact List.mem_append_right _ (List.mem_singleton.mpr rfl)
  refine p_putF (ref := "CornerCubeModel") (ty0 := tyX1) hC hE hP hD hS hmm hem rfl (by decide +kernel) tyX1_ok nmX1 3 (by decide) (by decide +kernel) rfl rfl hin rfl rfl rfl (Nat.le_of_ble_eq_true rfl) dX1_init_17 (fun H locs hP hD hS => ?_)
  have hP : va_P D vwCl (va_pl K2 (va_up v2 hm (eO 1 [.int 0, .int 0, .ref cu, .ref rs, .null, .null, .null]))) H := hP
  have hD : va_D (zA z0) (va_pl K2 (va_up v2 hm (eO 1 [.int 0, .int 0, .ref cu, .ref rs, .null, .null, .null]))) := hD
  generalize hfg3 : va_up v2 hm (eO 1 [.int 0, .int 0, .ref cu, .ref rs, .null, .null, .null]) = v3 at hP hD
  have hkq : ∀ a, a ≠ hm → v3 a = v2 a := fun a h => by rw [← hfg3]; exact va_up_ne _ _ h
  have hcue := (hkq _ hcun).trans hcue
  have hrse := (hkq _ hrsn).trans hrse
  have hnw : (∀ a, a ∈ L → a ∈ K2) ∧ ∀ a, a ∈ L → a ≠ hm → v3 a = f a := ⟨hnw.1, fun a ha hn => (hkq _ hn).trans (hnw.2 a ha hn)⟩
  have hem : v3 hm = eO 1 [.int 0, .int 0, .ref cu, .ref rs, .null, .null, .null] := by rw [← hfg3]; exact va_up_self _ _ _
  refine lv_aload_n hC.1 hC.2.1 dX1_init_20 rfl (lv_at hl 0 rfl) ?_
  refine lv_bipush (v := (nI 6)) hC.1 hC.2.1 dX1_init_21 (by decide) ?_
  refine lv_bipush (v := (nI 16)) hC.1 hC.2.1 dX1_init_23 (by decide) ?_
  refine p_mna hC hE hAO hP hD hS (by decide +kernel) (by decide +kernel) (by decide) (by decide) (by decide) (by decide) dX1_init_25 (fun td tr L3 f3 H hri htd0 htr0 htdm htrm hL3 hf3 hfq hfr hP hD hS => ?_)
  have hkp : ∀ a, a ∈ K2 → a ∈ L3 ∧ f3 a = v3 a := fun a ha => ⟨hL3 a ha, hf3 a ha⟩
  have htdn : td ≠ hm := fun h => htd0 (h ▸ hmm)
  have htrn : ∀ k, k < 6 → tr k ≠ hm := fun k hk h => htr0 k hk (h ▸ hmm)
  have htrc : ∀ k, k < 6 → tr k ≠ cu := fun k hk h => htr0 k hk (h ▸ hcum)
  have htd0 : td ∉ L := fun h => htd0 (hnw.1 _ h)
  have htr0 : ∀ k, k < 6 → tr k ∉ L := fun k hk h => htr0 k hk (hnw.1 _ h)
  have hcue := (hkp _ hcum).2.trans hcue
  have hcum := (hkp _ hcum).1
  have hrse := (hkp _ hrsm).2.trans hrse
  have hrsm := (hkp _ hrsm).1
  have hem := (hkp _ hmm).2.trans hem
  have hmm := (hkp _ hmm).1
  have hnw : (∀ a, a ∈ L → a ∈ L3) ∧ ∀ a, a ∈ L → a ≠ hm → f3 a = f a := ⟨fun a ha => (hkp _ (hnw.1 a ha)).1, fun a ha hn => (hkp _ (hnw.1 a ha)).2.trans (hnw.2 a ha hn)⟩
  obtain ⟨G, htde, hG⟩ := hfq
  have htr : ∀ k, k < 6 → tr k ∈ L3 ∧ f3 (tr k) = eI T.1 16 (fun _ => 0) := fun k hk => ⟨htrm k hk, hfr k hk⟩
  refine p_putF (ref := "CornerCubeModel") (ty0 := tyX1) hC hE hP hD hS hmm hem rfl (by decide +kernel) tyX1_ok nmX1 4 (by decide) (by decide +kernel) rfl rfl hin rfl rfl rfl (Nat.le_of_ble_eq_true rfl) dX1_init_29 (fun H locs hP hD hS => ?_)
  have hP : va_P D vwCl (va_pl L3 (va_up f3 hm (eO 1 [.int 0, .int 0, .ref cu, .ref rs, .ref td, .null, .null]))) H := hP
  have hD : va_D (zA z0) (va_pl L3 (va_up f3 hm (eO 1 [.int 0, .int 0, .ref cu, .ref rs, .ref td, .null, .null]))) := hD
  generalize hfg4 : va_up f3 hm (eO 1 [.int 0, .int 0, .ref cu, .ref rs, .ref td, .null, .null]) = v4 at hP hD
  have hkq : ∀ a, a ≠ hm → v4 a = f3 a := fun a h => by rw [← hfg4]; exact va_up_ne _ _ h
  have hcue := (hkq _ hcun).trans hcue
  have hrse := (hkq _ hrsn).trans hrse
  have htde := (hkq _ htdn).trans htde
  have htr := fun k hk => (⟨(htr k hk).1, (hkq _ (htrn k hk)).trans (htr k hk).2⟩ : _ ∧ _)
  have hnw : (∀ a, a ∈ L → a ∈ L3) ∧ ∀ a, a ∈ L → a ≠ hm → v4 a = f a := ⟨hnw.1, fun a ha hn => (hkq _ hn).trans (hnw.2 a ha hn)⟩
  have hem : v4 hm = eO 1 [.int 0, .int 0, .ref cu, .ref rs, .ref td, .null, .null] := by rw [← hfg4]; exact va_up_self _ _ _
  refine lv_aload_n hC.1 hC.2.1 dX1_init_32 rfl (lv_at hl 0 rfl) ?_
  refine lv_iconst (v := (nI 5)) hC.1 hC.2.1 dX1_init_33 (by decide) ?_
  refine p_newI hC hE hP hD hS (by decide +kernel) (by decide) (by decide) (by decide) dX1_init_34 (fun sz H hfr hP hD hS => ?_)
  generalize hfg5 : va_up v4 sz (eI T.1 5 (fun _ => 0)) = v5 at hP hD
  generalize hLg5 : L3 ++ [sz] = K5 at hP hD
  have hkp : ∀ a, a ∈ L3 → a ∈ K5 ∧ v5 a = v4 a := fun a ha => ⟨by rw [← hLg5]; exact List.mem_append_left _ ha, by rw [← hfg5]; exact va_up_ne _ _ (fun h : a = sz => hfr (h ▸ ha))⟩
  have hszn : sz ≠ hm := fun h => hfr (h ▸ hmm)
  have hsz0 : sz ∉ L := fun h => hfr (hnw.1 _ h)
  have hcue := (hkp _ hcum).2.trans hcue
  have hcum := (hkp _ hcum).1
  have hrse := (hkp _ hrsm).2.trans hrse
  have hrsm := (hkp _ hrsm).1
  have htde := (hkp _ htdm).2.trans htde
  have htdm := (hkp _ htdm).1
  have htr := fun k hk => (⟨(hkp _ (htr k hk).1).1, (hkp _ (htr k hk).1).2.trans (htr k hk).2⟩ : _ ∧ _)
  have hem := (hkp _ hmm).2.trans hem
  have hmm := (hkp _ hmm).1
  have hnw : (∀ a, a ∈ L → a ∈ K5) ∧ ∀ a, a ∈ L → a ≠ hm → v5 a = f a := ⟨fun a ha => (hkp _ (hnw.1 a ha)).1, fun a ha hn => (hkp _ (hnw.1 a ha)).2.trans (hnw.2 a ha hn)⟩
  have hsze : v5 sz = eI T.1 5 (fun _ => 0) := by rw [← hfg5]; exact va_up_self _ _ _
  have hszm : sz ∈ K5 := by rw [← hLg5]; exact List.mem_append_right _ (List.mem_singleton.mpr rfl)
  refine p_putF (ref := "CornerCubeModel") (ty0 := tyX1) hC hE hP hD hS hmm hem rfl (by decide +kernel) tyX1_ok nmX1 5 (by decide) (by decide +kernel) rfl rfl hin rfl rfl rfl (Nat.le_of_ble_eq_true rfl) dX1_init_36 (fun H locs hP hD hS => ?_)
  have hP : va_P D vwCl (va_pl K5 (va_up v5 hm (eO 1 [.int 0, .int 0, .ref cu, .ref rs, .ref td, .ref sz, .null]))) H := hP
  have hD : va_D (zA z0) (va_pl K5 (va_up v5 hm (eO 1 [.int 0, .int 0, .ref cu, .ref rs, .ref td, .ref sz, .null]))) := hD
  generalize hfg6 : va_up v5 hm (eO 1 [.int 0, .int 0, .ref cu, .ref rs, .ref td, .ref sz, .null]) = v6 at hP hD
  have hkq : ∀ a, a ≠ hm → v6 a = v5 a := fun a h => by rw [← hfg6]; exact va_up_ne _ _ h
  have hcue := (hkq _ hcun).trans hcue
  have hrse := (hkq _ hrsn).trans hrse
  have htde := (hkq _ htdn).trans htde
  have htr := fun k hk => (⟨(htr k hk).1, (hkq _ (htrn k hk)).trans (htr k hk).2⟩ : _ ∧ _)
  have hsze := (hkq _ hszn).trans hsze
  have hnw : (∀ a, a ∈ L → a ∈ K5) ∧ ∀ a, a ∈ L → a ≠ hm → v6 a = f a := ⟨hnw.1, fun a ha hn => (hkq _ hn).trans (hnw.2 a ha hn)⟩
  have hem : v6 hm = eO 1 [.int 0, .int 0, .ref cu, .ref rs, .ref td, .ref sz, .null] := by rw [← hfg6]; exact va_up_self _ _ _
  refine lv_aload_n hC.1 hC.2.1 dX1_init_39 rfl (lv_at hl 0 rfl) ?_
  refine lv_bipush (v := (nI 60)) hC.1 hC.2.1 dX1_init_40 (by decide) ?_
  refine p_newI hC hE hP hD hS (by decide +kernel) (by decide) (by decide) (by decide) dX1_init_42 (fun wo H hfr hP hD hS => ?_)
  generalize hfg7 : va_up v6 wo (eI T.1 60 (fun _ => 0)) = v7 at hP hD
  generalize hLg7 : K5 ++ [wo] = K7 at hP hD
  have hkp : ∀ a, a ∈ K5 → a ∈ K7 ∧ v7 a = v6 a := fun a ha => ⟨by rw [← hLg7]; exact List.mem_append_left _ ha, by rw [← hfg7]; exact va_up_ne _ _ (fun h : a = wo => hfr (h ▸ ha))⟩
  have hwon : wo ≠ hm := fun h => hfr (h ▸ hmm)
  have hwo0 : wo ∉ L := fun h => hfr (hnw.1 _ h)
  have hcue := (hkp _ hcum).2.trans hcue
  have hcum := (hkp _ hcum).1
  have hrse := (hkp _ hrsm).2.trans hrse
  have hrsm := (hkp _ hrsm).1
  have htde := (hkp _ htdm).2.trans htde
  have htdm := (hkp _ htdm).1
  have htr := fun k hk => (⟨(hkp _ (htr k hk).1).1, (hkp _ (htr k hk).1).2.trans (htr k hk).2⟩ : _ ∧ _)
  have hsze := (hkp _ hszm).2.trans hsze
  have hszm := (hkp _ hszm).1
  have hem := (hkp _ hmm).2.trans hem
  have hmm := (hkp _ hmm).1
  have hnw : (∀ a, a ∈ L → a ∈ K7) ∧ ∀ a, a ∈ L → a ≠ hm → v7 a = f a := ⟨fun a ha => (hkp _ (hnw.1 a ha)).1, fun a ha hn => (hkp _ (hnw.1 a ha)).2.trans (hnw.2 a ha hn)⟩
  have hwoe : v7 wo = eI T.1 60 (fun _ => 0) := by rw [← hfg7]; exact va_up_self _ _ _
  have hwom : wo ∈ K7 := by rw [← hLg7]; exact List.mem_append_right _ (List.mem_singleton.mpr rfl)
  refine p_putF (ref := "CornerCubeModel") (ty0 := tyX1) hC hE hP hD hS hmm hem rfl (by decide +kernel) tyX1_ok nmX1 6 (by decide) (by decide +kernel) rfl rfl hin rfl rfl rfl (Nat.le_of_ble_eq_true rfl) dX1_init_44 (fun H locs hP hD hS => ?_)
  have hP : va_P D vwCl (va_pl K7 (va_up v7 hm (eO 1 [.int 0, .int 0, .ref cu, .ref rs, .ref td, .ref sz, .ref wo]))) H := hP
  have hD : va_D (zA z0) (va_pl K7 (va_up v7 hm (eO 1 [.int 0, .int 0, .ref cu, .ref rs, .ref td, .ref sz, .ref wo]))) := hD
  generalize hfg8 : va_up v7 hm (eO 1 [.int 0, .int 0, .ref cu, .ref rs, .ref td, .ref sz, .ref wo]) = v8 at hP hD
  have hkq : ∀ a, a ≠ hm → v8 a = v7 a := fun a h => by rw [← hfg8]; exact va_up_ne _ _ h
  have hcue := (hkq _ hcun).trans hcue
  have hrse := (hkq _ hrsn).trans hrse
  have htde := (hkq _ htdn).trans htde
  have htr := fun k hk => (⟨(htr k hk).1, (hkq _ (htrn k hk)).trans (htr k hk).2⟩ : _ ∧ _)
  have hsze := (hkq _ hszn).trans hsze
  have hwoe := (hkq _ hwon).trans hwoe
  have hnw : (∀ a, a ∈ L → a ∈ K7) ∧ ∀ a, a ∈ L → a ≠ hm → v8 a = f a := ⟨hnw.1, fun a ha hn => (hkq _ hn).trans (hnw.2 a ha hn)⟩
  have hem : v8 hm = eO 1 [.int 0, .int 0, .ref cu, .ref rs, .ref td, .ref sz, .ref wo] := by rw [← hfg8]; exact va_up_self _ _ _
  have hN : MYn 0 T L f _ _ hm rs td sz wo (fun _ => 0) tr cu := ⟨⟨⟨hmm, hem⟩, ⟨hcum, gc, hcue, hcuR⟩, ⟨hrsm, _, hrse, fun t h => absurd h (Nat.not_lt_zero t)⟩, fun t h => absurd h (Nat.not_lt_zero t), ⟨htdm, G, htde, hG⟩, fun k hk => ⟨(htr k hk).1, _, (htr k hk).2⟩, fun k hk => ⟨htrc k hk, fun t h => absurd h (Nat.not_lt_zero t), fun j hj e => hri k j hk hj e⟩, ⟨hszm, hsze⟩, ⟨hwom, hwoe⟩⟩, hnw.1, hnw.2, ⟨hcu0, hrs0, htd0, hsz0, hwo0⟩, fun t h => absurd h (Nat.not_lt_zero t), htr0⟩
  have loop : ∀ (n : Nat) (k : Nat) (rr : Nat → Nat) (L1 : List Nat) (f1 : Nat → va_E) (H : Heap) (locs : List Loc), k + n = 9 → MYn k T L f L1 f1 hm rs td sz wo rr tr cu → va_P D vwCl (va_pl L1 f1) H → va_D (zA z0) (va_pl L1 f1) → va_S (zA z0) s.heap H locs → ∀ ls : Array Slot, lv_has ls 2 [(0, .ref hm), (1, .int (nI k))] → W p l e (rD (8) 56 912) s m args below meth c H locs (11 + 5 * k) (192 + 80 * k) (MQ below (HVQ D z0 (MIp T L f hm)) args s 56 912 (zA z0)) (F0 m 49 ls []) := by
    intro n
    induction n with
    | zero =>
      intro k rr L1 f1 H locs hk hN hP hD hS ls hl
      obtain rfl : k = 9 := by omega
      refine lv_iload_n hC.1 hC.2.1 dX1_init_49 rfl (lv_at hl 1 rfl) ?_
      refine lv_bipush (v := (nI 9)) hC.1 hC.2.1 dX1_init_50 (by decide) ?_
      refine z_icmp_ge (tgt := 71) hC dX1_init_52 (by decide) (by omega) (by omega) (fun h_52 => ?_) (fun h_52 => by omega)
      exact HV.vret hC hr hlk hP hD hS (by omega) (by omega) dX1_init_71 (⟨rfl, rs, td, sz, wo, rr, tr, cu, hN⟩)
    | succ n ih =>
      intro k rr L1 f1 H locs hk hN hP hD hS ls hl
      refine lv_iload_n hC.1 hC.2.1 dX1_init_49 rfl (lv_at hl 1 rfl) ?_
      refine lv_bipush (v := (nI 9)) hC.1 hC.2.1 dX1_init_50 (by decide) ?_
      refine z_icmp_ge (tgt := 71) hC dX1_init_52 (by decide) (by omega) (by omega) (fun h_52 => by omega) (fun h_52 => ?_)
      refine lv_aload_n hC.1 hC.2.1 dX1_init_55 rfl (lv_at hl 0 rfl) ?_
      refine p_get (ref := "CornerCubeModel") hC hE hP hN.1.1.1 hN.1.1.2 rfl (by decide +kernel) 3 (by decide) (by decide +kernel) rfl rfl dX1_init_56 ?_
      refine lv_iload_n hC.1 hC.2.1 dX1_init_59 rfl (lv_at hl 1 rfl) ?_
      refine lv_iload_n hC.1 hC.2.1 dX1_init_60 rfl (lv_at hl 1 rfl) ?_
      refine p_csH (n := 1) (m_turnRow l (t := k) (by omega)) hC hE hP hD hS gX1_init_X1_turnRow rfl (by decide +kernel) rfl ⟨by decide, by decide⟩ ⟨by simp only [rD]; omega, by simp only [rD]; omega⟩ hl.1 (Nat.le_of_ble_eq_true rfl) dX1_init_61 rfl (fun o L2 f2 H locs hpost hP hD hS => ?_)
      obtain ⟨y, rfl, hq⟩ := hpost.get
      obtain ⟨hrm, G9, hrG, -⟩ := hN.1.2.2.1
      obtain ⟨g8, hg8, hR8⟩ := hq.2.2.2
      refine p_aast hC hE hAO hP hD hS (hq.2.2.1 _ hrm).1 ((hq.2.2.1 _ hrm).2.trans hrG) hq.2.1 hg8 (by omega : k < 9) (by decide) dX1_init_64 (fun H locs hP hD hS => ?_)
      have hN := hN.step (r2 := fun t => if t = k then y else rr t) hrG hq (if_pos rfl) (fun t ht => if_neg (Nat.ne_of_lt ht))
      refine lv_iinc (v := nI (k + 1)) (lv' := [(1, .int (nI (k + 1))), (0, .ref hm)]) hC.1 hC.2.1 dX1_init_65 hl (k := 1) rfl (z_inc _) (by decide) rfl (fun ls hl => ?_)
      refine lv_goto (tgt := 49) hC.1 hC.2.1 dX1_init_68 (by decide) ?_
      refine W.widen (k := 11 + 5 * (k + 1)) (n := 192 + 80 * (k + 1)) (by omega) (by omega) ?_
      exact ih (k + 1) _ _ _ _ _ (by omega) hN hP hD hS ls (lv_sub hl [1, 0] rfl)
  refine lv_iconst (v := (nI 0)) hC.1 hC.2.1 dX1_init_47 (by decide) ?_
  refine lv_istore_n (lv' := [(1, .int (nI 0)), (0, .ref hm)]) hC.1 hC.2.1 dX1_init_48 rfl hl (by decide) rfl (fun ls hl => ?_)
  refine W.widen (k := 11 + 5 * 0) (n := 192 + 80 * 0) (by omega) (by omega) ?_
  exact loop 9 0 _ _ _ _ _ (Nat.zero_add _) hN hP hD hS ls (lv_sub hl [1, 0] rfl)
