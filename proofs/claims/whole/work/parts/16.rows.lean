/-! MY ROWS 16: the reference's methods over rows of sixteen (laid by a program of mine) -/
def Rp (g : Nat → Int32) (b : Nat → Nat) : Prop := ∀ i, i < 8 → g i = nI (b i % 8) ∧ g (8 + i) = nI (b i / 8)
/-- only the row y is another, and it is g -/
def UPD (T : ClassId × ClassId × ClassId) (f f1 : Nat → va_E) (y : Nat) (g : Nat → Int32) : Prop := f1 y = eI T.1 16 g ∧ ∀ a, a ≠ y → f1 a = f a
theorem UPD.put {T : ClassId × ClassId × ClassId} {f f1 : Nat → va_E} {y : Nat} {g : Nat → Int32} (h : UPD T f f1 y g) (g2 : Nat → Int32) : UPD T f (va_up f1 y (eI T.1 16 g2)) y g2 := ⟨va_up_self _ _ _, fun a ha => (va_up_ne _ _ ha).trans (h.2 a ha)⟩
/-- a new row that holds b -/
def AP (T : ClassId × ClassId × ClassId) (L : List Nat) (f : Nat → va_E) (b : Nat → Nat) : Option Value → List Nat → (Nat → va_E) → Prop := fun o L' f' => ∃ q, o = some (.ref q) ∧ q ∉ L ∧ q ∈ L' ∧ (∀ a, a ∈ L → a ∈ L' ∧ f' a = f a) ∧ ∃ g, f' q = eI T.1 16 g ∧ Rp g b
theorem AP.of {T : ClassId × ClassId × ClassId} {L : List Nat} {f f1 : Nat → va_E} {b : Nat → Nat} {y : Nat} {g : Nat → Int32} (hy : y ∉ L) (hU : UPD T f f1 y g) (hg : Rp g b) : AP T L f b (some (.ref y)) (L ++ [y]) f1 :=
  ⟨y, rfl, hy, List.mem_append_right _ (List.mem_singleton.mpr rfl), fun a ha => ⟨List.mem_append_left _ ha, hU.2 a (fun e => hy (e ▸ ha))⟩, g, hU.1, hg⟩
def IPt (T : ClassId × ClassId × ClassId) (L : List Nat) (f : Nat → va_E) (y : Nat) (b : Nat → Nat) : Option Value → List Nat → (Nat → va_E) → Prop := fun o L' f' => o = some (.ref y) ∧ L' = L ∧ ∃ g, UPD T f f' y g ∧ Rp g b
theorem comp_lo (a d : Nat → Nat) (i : Nat) : comp a d i % 8 = a (d i % 8) % 8 := by unfold comp; omega
theorem comp_hi (a d : Nat → Nat) (i : Nat) : comp a d i / 8 = (a (d i % 8) / 8 + d i / 8) % 3 := by unfold comp; omega

theorem lohi {v lo hi : Int32} : (if lo ≤ v ∧ v ≤ hi then (1 : Nat) else 0) < 2 ^ 31 := ite_bd
set_option maxHeartbeats 4000000 in
set_option maxRecDepth 100000 in
theorem m_isIn_t (l : Launch) {v lo hi : Int32} (h1 : lo ≤ v) (h2 : v ≤ hi) : RV l yX1_isIn wsX1_isIn 1 zNo [.int v, .int lo, .int hi] (some (.int (nI 1))) := by
  refine RV.of (cc := cX1_isIn) (maxL := 3) (ret := (some .boolean)) (by decide) rfl (Nat.le_of_ble_eq_true rfl) ?_
  intro p e s m args below meth c hC hr hlk hB ls hl
  have hl : lv_has ls 3 [(0, .int v), (1, .int lo), (2, .int hi)] := hl
  refine lv_iload_n hC.1 hC.2.1 dX1_isIn_0 rfl (lv_at hl 0 rfl) ?_
  refine lv_iload_n hC.1 hC.2.1 dX1_isIn_1 rfl (lv_at hl 1 rfl) ?_
  refine lv_icmp_lt (tgt := 14) hC.1 hC.2.1 dX1_isIn_2 (by decide) (fun h_2 => absurd h_2 (Int32.not_lt.mpr h1)) (fun h_2 => ?_)
  refine lv_iload_n hC.1 hC.2.1 dX1_isIn_5 rfl (lv_at hl 0 rfl) ?_
  refine lv_iload_n hC.1 hC.2.1 dX1_isIn_6 rfl (lv_at hl 2 rfl) ?_
  refine lv_icmp_gt (tgt := 14) hC.1 hC.2.1 dX1_isIn_7 (by decide) (fun h_7 => absurd h_7 (Int32.not_lt.mpr h2)) (fun h_7 => ?_)
  refine lv_iconst (v := (nI 1)) hC.1 hC.2.1 dX1_isIn_10 (by decide) ?_
  refine lv_goto (tgt := 15) hC.1 hC.2.1 dX1_isIn_11 (by decide) ?_
  exact RV.zret hC hr hlk dX1_isIn_15 (rfl) (by decide)

set_option maxHeartbeats 4000000 in
set_option maxRecDepth 100000 in
theorem m_isWord_t (l : Launch) {v : Int32} (h1 : (nI 0) ≤ v) (h2 : v ≤ (nI 4)) : RV l yX1_isWord wsX1_isWord 2 zNo [.int v] (some (.int (nI 1))) := by
  refine RV.of (cc := cX1_isWord) (maxL := 1) (ret := (some .boolean)) (by decide) rfl (Nat.le_of_ble_eq_true rfl) ?_
  intro p e s m args below meth c hC hr hlk hB ls hl
  have hl : lv_has ls 1 [(0, .int v)] := hl
  refine lv_iload_n hC.1 hC.2.1 dX1_isWord_0 rfl (lv_at hl 0 rfl) ?_
  refine lv_iconst (v := (nI 0)) hC.1 hC.2.1 dX1_isWord_1 (by decide) ?_
  refine lv_iconst (v := (nI 4)) hC.1 hC.2.1 dX1_isWord_2 (by decide) ?_
  refine p_cs (n := 3) (m_isIn_t l h1 h2) hC gX1_isWord_X1_isIn rfl (by decide +kernel) rfl ⟨by decide, by decide⟩ ⟨Nat.zero_le _, Nat.zero_le _⟩ hl.1 (Nat.le_of_ble_eq_true rfl) dX1_isWord_3 rfl ?_
  exact RV.zret hC hr hlk dX1_isWord_6 (rfl) (by decide)

set_option maxHeartbeats 4000000 in
set_option maxRecDepth 100000 in
theorem m_isIn_f (l : Launch) {v lo hi : Int32} (h : v < lo ∨ hi < v) : RV l yX1_isIn wsX1_isIn 1 zNo [.int v, .int lo, .int hi] (some (.int (nI 0))) := by
  refine RV.of (cc := cX1_isIn) (maxL := 3) (ret := (some .boolean)) (by decide) rfl (Nat.le_of_ble_eq_true rfl) ?_
  intro p e s m args below meth c hC hr hlk hB ls hl
  have hl : lv_has ls 3 [(0, .int v), (1, .int lo), (2, .int hi)] := hl
  refine lv_iload_n hC.1 hC.2.1 dX1_isIn_0 rfl (lv_at hl 0 rfl) ?_
  refine lv_iload_n hC.1 hC.2.1 dX1_isIn_1 rfl (lv_at hl 1 rfl) ?_
  refine lv_icmp_lt (tgt := 14) hC.1 hC.2.1 dX1_isIn_2 (by decide) (fun h_2 => ?_) (fun h_2 => ?_)
  · refine lv_iconst (v := (nI 0)) hC.1 hC.2.1 dX1_isIn_14 (by decide) ?_
    exact RV.zret hC hr hlk dX1_isIn_15 (rfl) (by decide)
  · refine lv_iload_n hC.1 hC.2.1 dX1_isIn_5 rfl (lv_at hl 0 rfl) ?_
    refine lv_iload_n hC.1 hC.2.1 dX1_isIn_6 rfl (lv_at hl 2 rfl) ?_
    refine lv_icmp_gt (tgt := 14) hC.1 hC.2.1 dX1_isIn_7 (by decide) (fun h_7 => ?_) (fun h_7 => (h.elim h_2 h_7).elim)
    refine lv_iconst (v := (nI 0)) hC.1 hC.2.1 dX1_isIn_14 (by decide) ?_
    exact RV.zret hC hr hlk dX1_isIn_15 (rfl) (by decide)

set_option maxHeartbeats 4000000 in
set_option maxRecDepth 100000 in
theorem m_isWord_f (l : Launch) {v : Int32} (h : v < (nI 0) ∨ (nI 4) < v) : RV l yX1_isWord wsX1_isWord 2 zNo [.int v] (some (.int (nI 0))) := by
  refine RV.of (cc := cX1_isWord) (maxL := 1) (ret := (some .boolean)) (by decide) rfl (Nat.le_of_ble_eq_true rfl) ?_
  intro p e s m args below meth c hC hr hlk hB ls hl
  have hl : lv_has ls 1 [(0, .int v)] := hl
  refine lv_iload_n hC.1 hC.2.1 dX1_isWord_0 rfl (lv_at hl 0 rfl) ?_
  refine lv_iconst (v := (nI 0)) hC.1 hC.2.1 dX1_isWord_1 (by decide) ?_
  refine lv_iconst (v := (nI 4)) hC.1 hC.2.1 dX1_isWord_2 (by decide) ?_
  refine p_cs (n := 3) (m_isIn_f l h) hC gX1_isWord_X1_isIn rfl (by decide +kernel) rfl ⟨by decide, by decide⟩ ⟨Nat.zero_le _, Nat.zero_le _⟩ hl.1 (Nat.le_of_ble_eq_true rfl) dX1_isWord_3 rfl ?_
  exact RV.zret hC hr hlk dX1_isWord_6 (rfl) (by decide)

set_option maxHeartbeats 4000000 in
set_option maxRecDepth 100000 in
theorem m_right (l : Launch) {D : va_G} {T : ClassId × ClassId × ClassId} {z0 : Nat} {L : List Nat} {f : Nat → va_E}  : HV l yX1_right wsX1_right (1) 1 16 D z0 (zPre D T z0 L f) [] (AP T L f one) := by
  refine HV.of (cc := cX1_right) (maxL := 2) (ret := (some (.array .int))) (by decide) rfl (Nat.le_of_ble_eq_true rfl) ?_
  intro p e s m args below meth c hC hr hlk hin hB ls hl
  have hl : lv_has ls 2 [] := hl
  obtain ⟨hE, hP, hD⟩ := hB
  have hS : va_S (zA z0) s.heap s.heap [] := va_S.rf
  refine lv_bipush (v := (nI 16)) hC.1 hC.2.1 dX1_right_0 (by decide) ?_
  refine p_newI hC hE hP hD hS (by decide +kernel) (by omega) (by simp only [rD]; omega) (by simp only [rD]; omega) dX1_right_2 (fun y H hy hP hD hS => ?_)
  have hU : UPD T f (va_up f y (eI T.1 16 (fun _ => 0))) y (fun _ => 0) := ⟨va_up_self _ _ _, fun a ha => va_up_ne _ _ ha⟩
  have loop : ∀ (n : Nat) (k : Nat) (g1 : Nat → Int32) (f1 : Nat → va_E) (H : Heap) (locs : List Loc), k + n = 8 → (∀ j, g1 j = if j < k then nI j else 0) → UPD T f f1 y g1 → va_P D vwCl (va_pl (L ++ [y]) f1) H → va_D (zA z0) (va_pl (L ++ [y]) f1) → va_S (zA z0) s.heap H locs → ∀ ls : Array Slot, lv_has ls 2 [(0, .ref y), (1, .int (nI k))] → W p l e (rD (1) 1 16) s m args below meth c H locs (0 + 1) (0 + 16) (MQ below (HVQ D z0 (AP T L f one)) args s 1 16 (zA z0)) (F0 m 7 ls []) := by
    intro n
    induction n with
    | zero =>
      intro k g1 f1 H locs hk hg hU hP hD hS ls hl
      obtain rfl : k = 8 := by omega
      refine lv_iload_n hC.1 hC.2.1 dX1_right_7 rfl (lv_at hl 1 rfl) ?_
      refine lv_bipush (v := (nI 8)) hC.1 hC.2.1 dX1_right_8 (by decide) ?_
      refine z_icmp_ge (tgt := 23) hC dX1_right_10 (by decide) (by omega) (by omega) (fun h_10 => ?_) (fun h_10 => by omega)
      refine lv_aload_n hC.1 hC.2.1 dX1_right_23 rfl (lv_at hl 0 rfl) ?_
      exact HV.aret hC hr hlk hP hD hS (by omega) (by omega) dX1_right_24 (AP.of hy hU (fun i hi => ⟨by rw [hg i, if_pos hi]; show nI i = nI (i % 8); rw [Nat.mod_eq_of_lt hi], by rw [hg, if_neg (by omega)]; show (0 : Int32) = nI (i / 8); rw [Nat.div_eq_of_lt hi]; rfl⟩))
    | succ n ih =>
      intro k g1 f1 H locs hk hg hU hP hD hS ls hl
      refine lv_iload_n hC.1 hC.2.1 dX1_right_7 rfl (lv_at hl 1 rfl) ?_
      refine lv_bipush (v := (nI 8)) hC.1 hC.2.1 dX1_right_8 (by decide) ?_
      refine z_icmp_ge (tgt := 23) hC dX1_right_10 (by decide) (by omega) (by omega) (fun h_10 => by omega) (fun h_10 => ?_)
      refine lv_aload_n hC.1 hC.2.1 dX1_right_13 rfl (lv_at hl 0 rfl) ?_
      refine lv_iload_n hC.1 hC.2.1 dX1_right_14 rfl (lv_at hl 1 rfl) ?_
      refine lv_iload_n hC.1 hC.2.1 dX1_right_15 rfl (lv_at hl 1 rfl) ?_
      refine p_iast hC hE hP hD hS (List.mem_append_right _ (List.mem_singleton.mpr rfl)) hU.1 (by omega) (by decide) dX1_right_16 (fun H locs hP hD hS => ?_)
      have hU := hU.put (upd g1 k (nI k))
      have hg2 : ∀ j, upd g1 k (nI k) j = if j < k + 1 then nI j else 0 := by
        intro j
        by_cases e : j = k
        · subst e; rw [upd_s, if_pos (by omega)]
        · rw [upd_n e, hg j]
          by_cases e2 : j < k
          · rw [if_pos e2, if_pos (by omega)]
          · rw [if_neg e2, if_neg (by omega)]
      refine lv_iinc (v := nI (k + 1)) (lv' := [(1, .int (nI (k + 1))), (0, .ref y)]) hC.1 hC.2.1 dX1_right_17 hl (k := 1) rfl (z_inc _) (by decide) rfl (fun ls hl => ?_)
      refine lv_goto (tgt := 7) hC.1 hC.2.1 dX1_right_20 (by decide) ?_
      exact ih (k + 1) _ _ _ _ (by omega) hg2 hU hP hD hS ls (lv_sub hl [1, 0] rfl)
  refine lv_astore_n (lv' := [(0, .ref y)]) hC.1 hC.2.1 dX1_right_4 rfl hl (by decide) rfl (fun ls hl => ?_)
  refine lv_iconst (v := (nI 0)) hC.1 hC.2.1 dX1_right_5 (by decide) ?_
  refine lv_istore_n (lv' := [(1, .int (nI 0)), (0, .ref y)]) hC.1 hC.2.1 dX1_right_6 rfl hl (by decide) rfl (fun ls hl => ?_)
  exact loop 8 0 _ _ _ _ rfl (fun j => by rw [if_neg (by omega)]) hU hP hD hS ls (lv_sub hl [1, 0] rfl)

set_option maxHeartbeats 4000000 in
set_option maxRecDepth 100000 in
theorem m_into (l : Launch) {D : va_G} {T : ClassId × ClassId × ClassId} {z0 : Nat} {L : List Nat} {f : Nat → va_E} {a d : Nat → Nat} {x1 x2 y : Nat} {g1 g2 g0 : Nat → Int32} (hm1 : x1 ∈ L) (hm2 : x2 ∈ L) (hmy : y ∈ L) (he1 : f x1 = eI T.1 16 g1) (he2 : f x2 = eI T.1 16 g2) (hey : f y = eI T.1 16 g0) (hr1 : Rp g1 a) (hr2 : Rp g2 d) (hn1 : y ≠ x1) (hn2 : y ≠ x2) (ha : Va a) (hd : Va d)  : HV l yX1_into wsX1_into (1) 0 0 D z0 (zPre D T z0 L f) [.ref x1, .ref x2, .ref y] (IPt T L f y (comp a d)) := by
  refine HV.of (cc := cX1_into) (maxL := 5) (ret := (some (.array .int))) (by decide) rfl (Nat.le_of_ble_eq_true rfl) ?_
  intro p e s m args below meth c hC hr hlk hin hB ls hl
  have hl : lv_has ls 5 [(0, .ref x1), (1, .ref x2), (2, .ref y)] := hl
  obtain ⟨hE, hP, hD⟩ := hB
  have hS : va_S (zA z0) s.heap s.heap [] := va_S.rf
  have hU : UPD T f f y g0 := ⟨hey, fun _ _ => rfl⟩
  have loop : ∀ (n : Nat) (k : Nat) (gk : Nat → Int32) (f1 : Nat → va_E) (H : Heap) (locs : List Loc), k + n = 8 → (∀ i, i < k → gk i = nI (comp a d i % 8) ∧ gk (8 + i) = nI (comp a d i / 8)) → UPD T f f1 y gk → va_P D vwCl (va_pl L f1) H → va_D (zA z0) (va_pl L f1) → va_S (zA z0) s.heap H locs → ∀ ls : Array Slot, lv_has ls 5 [(0, .ref x1), (1, .ref x2), (2, .ref y), (3, .int (nI k))] → W p l e (rD (1) 0 0) s m args below meth c H locs (0) (0) (MQ below (HVQ D z0 (IPt T L f y (comp a d))) args s 0 0 (zA z0)) (F0 m 2 ls []) := by
    intro n
    induction n with
    | zero =>
      intro k gk f1 H locs hk hg hU hP hD hS ls hl
      obtain rfl : k = 8 := by omega
      refine lv_iload_n hC.1 hC.2.1 dX1_into_2 rfl (lv_at hl 3 rfl) ?_
      refine lv_bipush (v := (nI 8)) hC.1 hC.2.1 dX1_into_3 (by decide) ?_
      refine z_icmp_ge (tgt := 48) hC dX1_into_5 (by decide) (by omega) (by omega) (fun h_5 => ?_) (fun h_5 => by omega)
      refine lv_aload_n hC.1 hC.2.1 dX1_into_48 rfl (lv_at hl 2 rfl) ?_
      exact HV.aret hC hr hlk hP hD hS (by omega) (by omega) dX1_into_49 (⟨rfl, rfl, _, hU, hg⟩)
    | succ n ih =>
      intro k gk f1 H locs hk hg hU hP hD hS ls hl
      have hdk := hd k (by omega)
      have hak := ha (d k % 8) (Nat.mod_lt _ (by decide))
      refine lv_iload_n hC.1 hC.2.1 dX1_into_2 rfl (lv_at hl 3 rfl) ?_
      refine lv_bipush (v := (nI 8)) hC.1 hC.2.1 dX1_into_3 (by decide) ?_
      refine z_icmp_ge (tgt := 48) hC dX1_into_5 (by decide) (by omega) (by omega) (fun h_5 => by omega) (fun h_5 => ?_)
      refine lv_aload_n hC.1 hC.2.1 dX1_into_8 rfl (lv_at hl 1 rfl) ?_
      refine lv_iload_n hC.1 hC.2.1 dX1_into_9 rfl (lv_at hl 3 rfl) ?_
      refine p_iald hC hE hP hm2 ((hU.2 x2 hn2.symm).trans he2) (by omega) (by decide) dX1_into_10 ?_
      refine q_i (nI (d k % 8)) ((hr2 _ (by omega)).1) ?_
      refine lv_istore (lv' := [(4, .int (nI (d k % 8))), (0, .ref x1), (1, .ref x2), (2, .ref y), (3, .int (nI k))]) hC.1 hC.2.1 dX1_into_11 hl (by decide) rfl (fun ls hl => ?_)
      refine lv_aload_n hC.1 hC.2.1 dX1_into_13 rfl (lv_at hl 3 rfl) ?_
      refine lv_iload_n hC.1 hC.2.1 dX1_into_14 rfl (lv_at hl 4 rfl) ?_
      refine lv_aload_n hC.1 hC.2.1 dX1_into_15 rfl (lv_at hl 1 rfl) ?_
      refine lv_iload hC.1 hC.2.1 dX1_into_16 (lv_at hl 0 rfl) ?_
      refine p_iald hC hE hP hm1 ((hU.2 x1 hn1.symm).trans he1) (by omega) (by decide) dX1_into_18 ?_
      refine q_i (nI (a (d k % 8) % 8)) ((hr1 _ (by omega)).1) ?_
      refine p_iast hC hE hP hD hS hmy hU.1 (by omega) (by decide) dX1_into_19 (fun H locs hP hD hS => ?_)
      have hU := hU.put (upd gk k (nI (a (d k % 8) % 8)))
      refine lv_aload_n hC.1 hC.2.1 dX1_into_20 rfl (lv_at hl 3 rfl) ?_
      refine lv_bipush (v := (nI 8)) hC.1 hC.2.1 dX1_into_21 (by decide) ?_
      refine lv_iload_n hC.1 hC.2.1 dX1_into_23 rfl (lv_at hl 4 rfl) ?_
      refine z_iadd hC dX1_into_24 ?_
      refine lv_aload_n hC.1 hC.2.1 dX1_into_25 rfl (lv_at hl 1 rfl) ?_
      refine lv_bipush (v := (nI 8)) hC.1 hC.2.1 dX1_into_26 (by decide) ?_
      refine lv_iload hC.1 hC.2.1 dX1_into_28 (lv_at hl 0 rfl) ?_
      refine z_iadd hC dX1_into_30 ?_
      refine p_iald hC hE hP hm1 ((hU.2 x1 hn1.symm).trans he1) (by omega) (by decide) dX1_into_31 ?_
      refine q_i (nI (a (d k % 8) / 8)) ((hr1 _ (by omega)).2) ?_
      refine lv_aload_n hC.1 hC.2.1 dX1_into_32 rfl (lv_at hl 2 rfl) ?_
      refine lv_bipush (v := (nI 8)) hC.1 hC.2.1 dX1_into_33 (by decide) ?_
      refine lv_iload_n hC.1 hC.2.1 dX1_into_35 rfl (lv_at hl 4 rfl) ?_
      refine z_iadd hC dX1_into_36 ?_
      refine p_iald hC hE hP hm2 ((hU.2 x2 hn2.symm).trans he2) (by omega) (by decide) dX1_into_37 ?_
      refine q_i (nI (d k / 8)) ((hr2 _ (by omega)).2) ?_
      refine z_iadd hC dX1_into_38 ?_
      refine lv_iconst (v := (nI 3)) hC.1 hC.2.1 dX1_into_39 (by decide) ?_
      refine z_irem hC dX1_into_40 (by omega) (by decide) (by decide) ?_
      refine p_iast hC hE hP hD hS hmy hU.1 (by omega) (by decide) dX1_into_41 (fun H locs hP hD hS => ?_)
      have hU := hU.put (upd (upd gk k (nI (a (d k % 8) % 8))) (8 + k) (nI ((a (d k % 8) / 8 + d k / 8) % 3)))
      have hg2 : ∀ i, i < k + 1 → upd (upd gk k (nI (a (d k % 8) % 8))) (8 + k) (nI ((a (d k % 8) / 8 + d k / 8) % 3)) i = nI (comp a d i % 8) ∧ upd (upd gk k (nI (a (d k % 8) % 8))) (8 + k) (nI ((a (d k % 8) / 8 + d k / 8) % 3)) (8 + i) = nI (comp a d i / 8) := by
        intro i hi
        by_cases e : i = k
        · subst e; rw [upd_n (by omega), upd_s, upd_s, comp_lo, comp_hi]; exact ⟨rfl, rfl⟩
        · rw [upd_n (by omega), upd_n e, upd_n (by omega), upd_n (by omega)]; exact hg i (by omega)
      refine lv_iinc (v := nI (k + 1)) (lv' := [(3, .int (nI (k + 1))), (4, .int (nI (d k % 8))), (0, .ref x1), (1, .ref x2), (2, .ref y)]) hC.1 hC.2.1 dX1_into_42 hl (k := 4) rfl (z_inc _) (by decide) rfl (fun ls hl => ?_)
      refine lv_goto (tgt := 2) hC.1 hC.2.1 dX1_into_45 (by decide) ?_
      exact ih (k + 1) _ _ _ _ (by omega) hg2 hU hP hD hS ls (lv_sub hl [2, 3, 4, 0] rfl)
  refine lv_iconst (v := (nI 0)) hC.1 hC.2.1 dX1_into_0 (by decide) ?_
  refine lv_istore_n (lv' := [(3, .int (nI 0)), (0, .ref x1), (1, .ref x2), (2, .ref y)]) hC.1 hC.2.1 dX1_into_1 rfl hl (by decide) rfl (fun ls hl => ?_)
  exact loop 8 0 _ _ _ _ rfl (fun i hi => absurd hi (by omega)) hU hP hD hS ls (lv_sub hl [1, 2, 3, 0] rfl)

set_option maxHeartbeats 4000000 in
set_option maxRecDepth 100000 in
theorem m_then (l : Launch) {D : va_G} {T : ClassId × ClassId × ClassId} {z0 : Nat} {L : List Nat} {f : Nat → va_E} {a d : Nat → Nat} {x1 x2 : Nat} {g1 g2 : Nat → Int32} (hm1 : x1 ∈ L) (hm2 : x2 ∈ L) (he1 : f x1 = eI T.1 16 g1) (he2 : f x2 = eI T.1 16 g2) (hr1 : Rp g1 a) (hr2 : Rp g2 d) (ha : Va a) (hd : Va d)  : HV l yX1_then wsX1_then (2) 1 16 D z0 (zPre D T z0 L f) [.ref x1, .ref x2] (AP T L f (comp a d)) := by
  refine HV.of (cc := cX1_then) (maxL := 2) (ret := (some (.array .int))) (by decide) rfl (Nat.le_of_ble_eq_true rfl) ?_
  intro p e s m args below meth c hC hr hlk hin hB ls hl
  have hl : lv_has ls 2 [(0, .ref x1), (1, .ref x2)] := hl
  obtain ⟨hE, hP, hD⟩ := hB
  have hS : va_S (zA z0) s.heap s.heap [] := va_S.rf
  refine lv_aload_n hC.1 hC.2.1 dX1_then_0 rfl (lv_at hl 0 rfl) ?_
  refine lv_aload_n hC.1 hC.2.1 dX1_then_1 rfl (lv_at hl 1 rfl) ?_
  refine lv_bipush (v := (nI 16)) hC.1 hC.2.1 dX1_then_2 (by decide) ?_
  refine p_newI hC hE hP hD hS (by decide +kernel) (by omega) (by simp only [rD]; omega) (by simp only [rD]; omega) dX1_then_4 (fun y H hy hP hD hS => ?_)
  have hm1y := List.mem_append_left [y] hm1
  have hm2y := List.mem_append_left [y] hm2
  have hn1 : y ≠ x1 := fun e => hy (e ▸ hm1)
  have hn2 : y ≠ x2 := fun e => hy (e ▸ hm2)
  have hU0 : UPD T f (va_up f y (eI T.1 16 (fun _ => 0))) y (fun _ => 0) := ⟨va_up_self _ _ _, fun a ha => va_up_ne _ _ ha⟩
  refine p_csH (n := 3) (m_into l hm1y hm2y (List.mem_append_right L (List.mem_singleton.mpr rfl)) ((hU0.2 x1 hn1.symm).trans he1) ((hU0.2 x2 hn2.symm).trans he2) hU0.1 hr1 hr2 hn1 hn2 ha hd) hC hE hP hD hS gX1_then_X1_into rfl (by decide +kernel) rfl ⟨by decide, by decide⟩ ⟨by simp only [rD]; omega, by simp only [rD]; omega⟩ hl.1 (Nat.le_of_ble_eq_true rfl) dX1_then_6 rfl (fun o L1 f2 H locs hpost hP hD hS => ?_)
  obtain ⟨rfl, rfl, g3, hU, hg3⟩ := hpost
  have hU2 : UPD T f f2 y g3 := ⟨hU.1, fun b hb => (hU.2 b hb).trans (hU0.2 b hb)⟩
  exact HV.aret hC hr hlk hP hD hS (by omega) (by omega) dX1_then_9 (AP.of hy hU2 hg3)
