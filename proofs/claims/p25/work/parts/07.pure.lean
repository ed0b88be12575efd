/-! MY ROWS 07: the class's methods over one long (laid by a program of mine) -/
theorem zsub_add {a b : Nat} (h : b ≤ a) : nI a - nI b = nI (a - b) := pk_sub h
set_option maxHeartbeats 4000000 in
set_option maxRecDepth 100000 in
theorem k_turnNumber (l : Launch) {f q : Nat} (hf : f < 3) (hq1 : 1 ≤ q) (hq : q < 4) : RV l yX0_turnNumber wsX0_turnNumber (1) zNo [.int (nI f), .int (nI q)] (some (.int (nI (3 * f + q - 1)))) := by
  refine RV.of (cc := cX0_turnNumber) (maxL := 2) (ret := (some .int)) (by decide) rfl (Nat.le_of_ble_eq_true rfl) ?_
  intro p e s m args below meth c hC hr hlk hB ls hl
  have hl : lv_has ls 2 [(0, .int (nI f)), (1, .int (nI q))] := hl
  refine lv_iconst (v := (nI 3)) hC.1 hC.2.1 dX0_turnNumber_0 (by decide) ?_
  refine lv_iload_n hC.1 hC.2.1 dX0_turnNumber_1 rfl (lv_at hl 0 rfl) ?_
  refine z_imul hC dX0_turnNumber_2 ?_
  refine lv_iload_n hC.1 hC.2.1 dX0_turnNumber_3 rfl (lv_at hl 1 rfl) ?_
  refine z_iadd hC dX0_turnNumber_4 ?_
  refine lv_iconst (v := (nI 1)) hC.1 hC.2.1 dX0_turnNumber_5 (by decide) ?_
  refine z_isub hC dX0_turnNumber_6 (by omega) ?_
  exact RV.iret hC hr hlk dX0_turnNumber_7 (rfl)

set_option maxHeartbeats 4000000 in
set_option maxRecDepth 100000 in
theorem k_faceOf (l : Launch) {t : Nat} (ht : t < 9) : RV l yX0_faceOf wsX0_faceOf (1) zNo [.int (nI t)] (some (.int (nI (t / 3)))) := by
  refine RV.of (cc := cX0_faceOf) (maxL := 1) (ret := (some .int)) (by decide) rfl (Nat.le_of_ble_eq_true rfl) ?_
  intro p e s m args below meth c hC hr hlk hB ls hl
  have hl : lv_has ls 1 [(0, .int (nI t))] := hl
  refine lv_iload_n hC.1 hC.2.1 dX0_faceOf_0 rfl (lv_at hl 0 rfl) ?_
  refine lv_iconst (v := (nI 3)) hC.1 hC.2.1 dX0_faceOf_1 (by decide) ?_
  refine z_idiv hC dX0_faceOf_2 (by omega) (by decide) (by decide) ?_
  exact RV.iret hC hr hlk dX0_faceOf_3 (rfl)

set_option maxHeartbeats 4000000 in
set_option maxRecDepth 100000 in
theorem k_quartersOf (l : Launch) {t : Nat} (ht : t < 9) : RV l yX0_quartersOf wsX0_quartersOf (1) zNo [.int (nI t)] (some (.int (nI (t % 3 + 1)))) := by
  refine RV.of (cc := cX0_quartersOf) (maxL := 1) (ret := (some .int)) (by decide) rfl (Nat.le_of_ble_eq_true rfl) ?_
  intro p e s m args below meth c hC hr hlk hB ls hl
  have hl : lv_has ls 1 [(0, .int (nI t))] := hl
  refine lv_iload_n hC.1 hC.2.1 dX0_quartersOf_0 rfl (lv_at hl 0 rfl) ?_
  refine lv_iconst (v := (nI 3)) hC.1 hC.2.1 dX0_quartersOf_1 (by decide) ?_
  refine z_irem hC dX0_quartersOf_2 (by omega) (by decide) (by decide) ?_
  refine lv_iconst (v := (nI 1)) hC.1 hC.2.1 dX0_quartersOf_3 (by decide) ?_
  refine z_iadd hC dX0_quartersOf_4 ?_
  exact RV.iret hC hr hlk dX0_quartersOf_5 (rfl)

set_option maxHeartbeats 4000000 in
set_option maxRecDepth 100000 in
theorem k_turnedBack (l : Launch) {t : Nat} (ht : t < 9) : RV l yX0_turnedBack wsX0_turnedBack (2) zNo [.int (nI t)] (some (.int (nI (3 * (t / 3) + (4 - (t % 3 + 1)) - 1)))) := by
  refine RV.of (cc := cX0_turnedBack) (maxL := 1) (ret := (some .int)) (by decide) rfl (Nat.le_of_ble_eq_true rfl) ?_
  intro p e s m args below meth c hC hr hlk hB ls hl
  have hl : lv_has ls 1 [(0, .int (nI t))] := hl
  refine lv_iload_n hC.1 hC.2.1 dX0_turnedBack_0 rfl (lv_at hl 0 rfl) ?_
  refine p_cs (n := 1) (k_faceOf l ht) hC gX0_turnedBack_X0_faceOf rfl (by decide +kernel) rfl ⟨by decide, by decide⟩ ⟨Nat.zero_le _, Nat.zero_le _⟩ hl.1 (Nat.le_of_ble_eq_true rfl) dX0_turnedBack_1 rfl ?_
  refine lv_iconst (v := (nI 4)) hC.1 hC.2.1 dX0_turnedBack_4 (by decide) ?_
  refine lv_iload_n hC.1 hC.2.1 dX0_turnedBack_5 rfl (lv_at hl 0 rfl) ?_
  refine p_cs (n := 1) (k_quartersOf l ht) hC gX0_turnedBack_X0_quartersOf rfl (by decide +kernel) rfl ⟨by decide, by decide⟩ ⟨Nat.zero_le _, Nat.zero_le _⟩ hl.1 (Nat.le_of_ble_eq_true rfl) dX0_turnedBack_6 rfl ?_
  refine z_isub hC dX0_turnedBack_9 (by omega) ?_
  refine p_cs (n := 2) (k_turnNumber l (by omega) (by omega) (by omega)) hC gX0_turnedBack_X0_turnNumber rfl (by decide +kernel) rfl ⟨by decide, by decide⟩ ⟨Nat.zero_le _, Nat.zero_le _⟩ hl.1 (Nat.le_of_ble_eq_true rfl) dX0_turnedBack_10 rfl ?_
  exact RV.iret hC hr hlk dX0_turnedBack_13 (rfl)

set_option maxHeartbeats 4000000 in
set_option maxRecDepth 100000 in
theorem k_hexDigit (l : Launch) {n k : Nat} (hn : n < 2 ^ 31) (hk : k < 4) : RV l yX0_hexDigit wsX0_hexDigit (1) zNo [.int (nI n), .int (nI k)] (some (.int (nI (dig n k)))) := by
  refine RV.of (cc := cX0_hexDigit) (maxL := 2) (ret := (some .int)) (by decide) rfl (Nat.le_of_ble_eq_true rfl) ?_
  intro p e s m args below meth c hC hr hlk hB ls hl
  have hl : lv_has ls 2 [(0, .int (nI n)), (1, .int (nI k))] := hl
  refine lv_iload_n hC.1 hC.2.1 dX0_hexDigit_0 rfl (lv_at hl 0 rfl) ?_
  refine lv_iconst (v := (nI 4)) hC.1 hC.2.1 dX0_hexDigit_1 (by decide) ?_
  refine lv_iconst (v := (nI 3)) hC.1 hC.2.1 dX0_hexDigit_2 (by decide) ?_
  refine lv_iload_n hC.1 hC.2.1 dX0_hexDigit_3 rfl (lv_at hl 1 rfl) ?_
  refine z_isub hC dX0_hexDigit_4 (by omega) ?_
  refine z_imul hC dX0_hexDigit_5 ?_
  refine lv_ishr hC.1 hC.2.1 dX0_hexDigit_6 ?_
  refine q_i (nI (n / 2 ^ (4 * (3 - k)))) (dig_shr hn (by omega)) ?_
  refine lv_bipush (v := (nI 15)) hC.1 hC.2.1 dX0_hexDigit_7 (by decide) ?_
  refine lv_iand hC.1 hC.2.1 dX0_hexDigit_9 ?_
  refine q_i (nI (dig n k)) (and_15 (Nat.lt_of_le_of_lt (Nat.div_le_self _ _) (Nat.lt_trans hn (by decide)))) ?_
  exact RV.iret hC hr hlk dX0_hexDigit_10 (rfl)

set_option maxHeartbeats 4000000 in
set_option maxRecDepth 100000 in
theorem k_cornerAt (l : Launch) {b : Nat → Nat} (hv : Va b) {i : Nat} (hi : i < 8) : RV l yX0_cornerAt wsX0_cornerAt (1) zNo [.long (enc b), .int (nI i)] (some (.int (nI (b i % 8)))) := by
  refine RV.of (cc := cX0_cornerAt) (maxL := 3) (ret := (some .int)) (by decide) rfl (Nat.le_of_ble_eq_true rfl) ?_
  intro p e s m args below meth c hC hr hlk hB ls hl
  have hl : lv_has ls 3 [(0, .long (enc b)), (2, .int (nI i))] := hl
  refine lv_lload_n hC.1 hC.2.1 dX0_cornerAt_0 rfl (lv_at hl 0 rfl) ?_
  refine lv_bipush (v := (nI 8)) hC.1 hC.2.1 dX0_cornerAt_1 (by decide) ?_
  refine lv_iload_n hC.1 hC.2.1 dX0_cornerAt_3 rfl (lv_at hl 1 rfl) ?_
  refine z_imul hC dX0_cornerAt_4 ?_
  refine lv_lushr hC.1 hC.2.1 dX0_cornerAt_5 rfl ?_
  refine lv_l2i hC.1 hC.2.1 dX0_cornerAt_6 rfl ?_
  refine lv_bipush (v := (nI 7)) hC.1 hC.2.1 dX0_cornerAt_7 (by decide) ?_
  refine lv_iand hC.1 hC.2.1 dX0_cornerAt_9 ?_
  exact RV.iret hC hr hlk dX0_cornerAt_10 (enc_corner hv.b hi)

set_option maxHeartbeats 4000000 in
set_option maxRecDepth 100000 in
theorem k_twistAt (l : Launch) {b : Nat → Nat} (hv : Va b) {i : Nat} (hi : i < 8) : RV l yX0_twistAt wsX0_twistAt (1) zNo [.long (enc b), .int (nI i)] (some (.int (nI (b i / 8)))) := by
  refine RV.of (cc := cX0_twistAt) (maxL := 3) (ret := (some .int)) (by decide) rfl (Nat.le_of_ble_eq_true rfl) ?_
  intro p e s m args below meth c hC hr hlk hB ls hl
  have hl : lv_has ls 3 [(0, .long (enc b)), (2, .int (nI i))] := hl
  refine lv_lload_n hC.1 hC.2.1 dX0_twistAt_0 rfl (lv_at hl 0 rfl) ?_
  refine lv_bipush (v := (nI 8)) hC.1 hC.2.1 dX0_twistAt_1 (by decide) ?_
  refine lv_iload_n hC.1 hC.2.1 dX0_twistAt_3 rfl (lv_at hl 1 rfl) ?_
  refine z_imul hC dX0_twistAt_4 ?_
  refine lv_iconst (v := (nI 3)) hC.1 hC.2.1 dX0_twistAt_5 (by decide) ?_
  refine z_iadd hC dX0_twistAt_6 ?_
  refine lv_lushr hC.1 hC.2.1 dX0_twistAt_7 rfl ?_
  refine lv_l2i hC.1 hC.2.1 dX0_twistAt_8 rfl ?_
  refine lv_iconst (v := (nI 3)) hC.1 hC.2.1 dX0_twistAt_9 (by decide) ?_
  refine lv_iand hC.1 hC.2.1 dX0_twistAt_10 ?_
  exact RV.iret hC hr hlk dX0_twistAt_11 (enc_twist hv.t hi)

set_option maxHeartbeats 4000000 in
set_option maxRecDepth 100000 in
theorem k_withCorner (l : Launch) {b : Nat → Nat} (hv : Va b) {q v t : Nat} (hq : q < 8) (hc : v < 8) (ht : t < 2 ^ 31) : RV l yX0_withCorner wsX0_withCorner (1) zNo [.long (enc b), .int (nI q), .int (nI v), .int (nI t)] (some (.long (enc (fun i => if i = q then v + 8 * (t % 3) else b i)))) := by
  refine RV.of (cc := cX0_withCorner) (maxL := 9) (ret := (some .long)) (by decide) rfl (Nat.le_of_ble_eq_true rfl) ?_
  intro p e s m args below meth c hC hr hlk hB ls hl
  have hl : lv_has ls 9 [(0, .long (enc b)), (2, .int (nI q)), (3, .int (nI v)), (4, .int (nI t))] := hl
  refine lv_lload_n hC.1 hC.2.1 dX0_withCorner_0 rfl (lv_at hl 0 rfl) ?_
  refine lv_ldc2 (v := 255) hC.1 hC.2.1 hC.2.2.2.1 (hC.2.2.2.2 (.constantLong RX0 175 (255)) (by decide +kernel)) dX0_withCorner_1 ?_
  refine lv_bipush (v := (nI 8)) hC.1 hC.2.1 dX0_withCorner_4 (by decide) ?_
  refine lv_iload_n hC.1 hC.2.1 dX0_withCorner_6 rfl (lv_at hl 1 rfl) ?_
  refine z_imul hC dX0_withCorner_7 ?_
  refine lv_lshl hC.1 hC.2.1 dX0_withCorner_8 rfl ?_
  refine lv_ldc2 (v := (-1)) hC.1 hC.2.1 hC.2.2.2.1 (hC.2.2.2.2 (.constantLong RX0 177 (-1)) (by decide +kernel)) dX0_withCorner_9 ?_
  refine lv_lxor hC.1 hC.2.1 dX0_withCorner_12 ?_
  refine lv_land hC.1 hC.2.1 dX0_withCorner_13 ?_
  refine lv_topl (fun x1 ex1 => ?_)
  refine lv_lstore (lv' := [(5, .long x1), (0, .long (enc b)), (2, .int (nI q)), (3, .int (nI v)), (4, .int (nI t))]) hC.1 hC.2.1 dX0_withCorner_14 hl (by decide) rfl (fun ls hl => ?_)
  refine lv_iload hC.1 hC.2.1 dX0_withCorner_16 (lv_at hl 4 rfl) ?_
  refine lv_iconst (v := (nI 3)) hC.1 hC.2.1 dX0_withCorner_18 (by decide) ?_
  refine z_irem hC dX0_withCorner_19 (by omega) (by decide) (by decide) ?_
  refine lv_iconst (v := (nI 3)) hC.1 hC.2.1 dX0_withCorner_20 (by decide) ?_
  refine lv_ishl hC.1 hC.2.1 dX0_withCorner_21 ?_
  refine lv_iload_n hC.1 hC.2.1 dX0_withCorner_22 rfl (lv_at hl 3 rfl) ?_
  refine lv_ior hC.1 hC.2.1 dX0_withCorner_23 ?_
  refine lv_i2l hC.1 hC.2.1 dX0_withCorner_24 rfl ?_
  refine q_l (lN (v + 8 * (t % 3))) (tw_ish _ (Nat.mod_lt _ (by decide)) _ hc) ?_
  refine lv_lstore (lv' := [(7, .long (lN (v + 8 * (t % 3)))), (5, .long x1), (0, .long (enc b)), (2, .int (nI q)), (3, .int (nI v)), (4, .int (nI t))]) hC.1 hC.2.1 dX0_withCorner_25 hl (by decide) rfl (fun ls hl => ?_)
  refine lv_lload hC.1 hC.2.1 dX0_withCorner_27 (lv_at hl 1 rfl) ?_
  refine lv_lload hC.1 hC.2.1 dX0_withCorner_29 (lv_at hl 0 rfl) ?_
  refine lv_bipush (v := (nI 8)) hC.1 hC.2.1 dX0_withCorner_31 (by decide) ?_
  refine lv_iload_n hC.1 hC.2.1 dX0_withCorner_33 rfl (lv_at hl 3 rfl) ?_
  refine z_imul hC dX0_withCorner_34 ?_
  refine lv_lshl hC.1 hC.2.1 dX0_withCorner_35 rfl ?_
  refine lv_lor hC.1 hC.2.1 dX0_withCorner_36 ?_
  exact RV.lret hC hr hlk dX0_withCorner_37 (by rw [ex1]; exact enc_with hv.b hq (by omega))

theorem right_iff {b : Nat → Nat} (hv : Va b) {i : Nat} (hi : i < 8) : b i = i ↔ b i % 8 = i ∧ b i / 8 = 0 := by
  have := hv i hi
  omega
set_option maxHeartbeats 4000000 in
set_option maxRecDepth 100000 in
theorem k_isRight (l : Launch) {b : Nat → Nat} (hv : Va b) {i : Nat} (hi : i < 8) : RV l yX0_isRight wsX0_isRight (2) zNo [.long (enc b), .int (nI i)] (some (.int (nI (if b i = i then 1 else 0)))) := by
  refine RV.of (cc := cX0_isRight) (maxL := 3) (ret := (some .boolean)) (by decide) rfl (Nat.le_of_ble_eq_true rfl) ?_
  intro p e s m args below meth c hC hr hlk hB ls hl
  have hl : lv_has ls 3 [(0, .long (enc b)), (2, .int (nI i))] := hl
  refine lv_lload_n hC.1 hC.2.1 dX0_isRight_0 rfl (lv_at hl 0 rfl) ?_
  refine lv_iload_n hC.1 hC.2.1 dX0_isRight_1 rfl (lv_at hl 1 rfl) ?_
  refine p_cs (n := 2) (k_cornerAt l hv hi) hC gX0_isRight_X0_cornerAt rfl (by decide +kernel) rfl ⟨by decide, by decide⟩ ⟨Nat.zero_le _, Nat.zero_le _⟩ hl.1 (Nat.le_of_ble_eq_true rfl) dX0_isRight_2 rfl ?_
  refine lv_iload_n hC.1 hC.2.1 dX0_isRight_5 rfl (lv_at hl 1 rfl) ?_
  refine z_icmp_ne (tgt := 21) hC dX0_isRight_6 (by decide) (by omega) (by omega) (fun h_6 => ?_) (fun h_6 => ?_)
  · refine lv_iconst (v := (nI 0)) hC.1 hC.2.1 dX0_isRight_21 (by decide) ?_
    exact RV.zret hC hr hlk dX0_isRight_22 (by rw [if_neg]; rw [right_iff hv hi]; omega) (by decide)
  · refine lv_lload_n hC.1 hC.2.1 dX0_isRight_9 rfl (lv_at hl 0 rfl) ?_
    refine lv_iload_n hC.1 hC.2.1 dX0_isRight_10 rfl (lv_at hl 1 rfl) ?_
    refine p_cs (n := 2) (k_twistAt l hv hi) hC gX0_isRight_X0_twistAt rfl (by decide +kernel) rfl ⟨by decide, by decide⟩ ⟨Nat.zero_le _, Nat.zero_le _⟩ hl.1 (Nat.le_of_ble_eq_true rfl) dX0_isRight_11 rfl ?_
    refine z_if_ne (tgt := 21) hC dX0_isRight_14 (by decide) (by have := hv i hi; omega) (fun h_14 => ?_) (fun h_14 => ?_)
    · refine lv_iconst (v := (nI 0)) hC.1 hC.2.1 dX0_isRight_21 (by decide) ?_
      exact RV.zret hC hr hlk dX0_isRight_22 (by rw [if_neg]; rw [right_iff hv hi]; omega) (by decide)
    · refine lv_iconst (v := (nI 1)) hC.1 hC.2.1 dX0_isRight_17 (by decide) ?_
      refine lv_goto (tgt := 22) hC.1 hC.2.1 dX0_isRight_18 (by decide) ?_
      exact RV.zret hC hr hlk dX0_isRight_22 (by rw [if_pos]; rw [right_iff hv hi]; omega) (by decide)

theorem ite_bd {P : Prop} [Decidable P] : (if P then 1 else 0) < 2 ^ 31 := by split <;> decide
set_option maxHeartbeats 4000000 in
set_option maxRecDepth 100000 in
theorem k_rightCorners (l : Launch) {b : Nat → Nat} (hv : Va b) : RV l yX0_rightCorners wsX0_rightCorners 3 zNo [.long (enc b)] (some (.int (nI (ct (fun i => decide (b i = i)) 8)))) := by
  refine RV.of (cc := cX0_rightCorners) (maxL := 4) (ret := some .int) (by decide) rfl (Nat.le_of_ble_eq_true rfl) ?_
  intro p e s m args below meth c hC hr hlk hB ls hl
  have hl : lv_has ls 4 [(0, .long (enc b))] := hl
  have loop : ∀ (n i : Nat), i + n = 8 → ∀ ls : Array Slot, lv_has ls 4 [(0, .long (enc b)), (2, .int (nI (ct (fun i => decide (b i = i)) i))), (3, .int (nI i))] → W p l e (rD (3) 0 0) s m args below meth c s.heap [] 0 0 (MQ below (RVQ (some (.int (nI (ct (fun i => decide (b i = i)) 8))))) args s 0 0 (fun _ => False)) (F0 m 4 ls []) := by
    intro n
    induction n with
    | zero =>
      intro i hc0 ls hl
      obtain rfl : i = 8 := by omega
      refine lv_iload_n hC.1 hC.2.1 dX0_rightCorners_4 rfl (lv_at hl 2 rfl) ?_
      refine lv_bipush (v := (nI 8)) hC.1 hC.2.1 dX0_rightCorners_5 (by decide) ?_
      refine z_icmp_ge (tgt := 27) hC dX0_rightCorners_7 (by decide) (by omega) (by omega) (fun h_7 => ?_) (fun h_7 => by omega)
      refine lv_iload_n hC.1 hC.2.1 dX0_rightCorners_27 rfl (lv_at hl 1 rfl) ?_
      exact RV.iret hC hr hlk dX0_rightCorners_28 (rfl)
    | succ n ih =>
      intro i hc0 ls hl
      refine lv_iload_n hC.1 hC.2.1 dX0_rightCorners_4 rfl (lv_at hl 2 rfl) ?_
      refine lv_bipush (v := (nI 8)) hC.1 hC.2.1 dX0_rightCorners_5 (by decide) ?_
      refine z_icmp_ge (tgt := 27) hC dX0_rightCorners_7 (by decide) (by omega) (by omega) (fun h_7 => by omega) (fun h_7 => ?_)
      refine lv_lload_n hC.1 hC.2.1 dX0_rightCorners_10 rfl (lv_at hl 0 rfl) ?_
      refine lv_iload_n hC.1 hC.2.1 dX0_rightCorners_11 rfl (lv_at hl 2 rfl) ?_
      refine p_cs (n := 2) (k_isRight l hv (by omega)) hC gX0_rightCorners_X0_isRight rfl (by decide +kernel) rfl ⟨by decide, by decide⟩ ⟨Nat.zero_le _, Nat.zero_le _⟩ hl.1 (Nat.le_of_ble_eq_true rfl) dX0_rightCorners_12 rfl ?_
      refine z_if_eq (tgt := 21) hC dX0_rightCorners_15 (by decide) (ite_bd) (fun h_15 => ?_) (fun h_15 => ?_)
      · refine lv_iinc (v := nI (i + 1)) (lv' := [(3, .int (nI (i + 1))), (0, .long (enc b)), (2, .int (nI (ct (fun i => decide (b i = i)) i)))]) hC.1 hC.2.1 dX0_rightCorners_21 hl (k := 2) rfl (z_inc _) (by decide) rfl (fun ls hl => ?_)
        refine lv_goto (tgt := 4) hC.1 hC.2.1 dX0_rightCorners_24 (by decide) ?_
        exact ih (i + 1) (by omega) ls (by have e9 : ct (fun i => decide (b i = i)) (i + 1) = ct (fun i => decide (b i = i)) i := ct_f (by simp; by_cases hq : b i = i; rw [if_pos hq] at h_15; omega; exact hq); rw [e9]; exact (lv_sub hl [1, 2, 0] rfl))
      · refine lv_iinc (v := nI (ct (fun i => decide (b i = i)) i + 1)) (lv' := [(2, .int (nI (ct (fun i => decide (b i = i)) i + 1))), (0, .long (enc b)), (3, .int (nI i))]) hC.1 hC.2.1 dX0_rightCorners_18 hl (k := 1) rfl (z_inc _) (by decide) rfl (fun ls hl => ?_)
        refine lv_iinc (v := nI (i + 1)) (lv' := [(3, .int (nI (i + 1))), (2, .int (nI (ct (fun i => decide (b i = i)) i + 1))), (0, .long (enc b))]) hC.1 hC.2.1 dX0_rightCorners_21 hl (k := 2) rfl (z_inc _) (by decide) rfl (fun ls hl => ?_)
        refine lv_goto (tgt := 4) hC.1 hC.2.1 dX0_rightCorners_24 (by decide) ?_
        exact ih (i + 1) (by omega) ls (by have e9 : ct (fun i => decide (b i = i)) (i + 1) = ct (fun i => decide (b i = i)) i + 1 := ct_t (by simp; by_cases hq : b i = i; exact hq; rw [if_neg hq] at h_15; omega); rw [e9]; exact (lv_sub hl [2, 1, 0] rfl))
  refine lv_iconst (v := (nI 0)) hC.1 hC.2.1 dX0_rightCorners_0 (by decide) ?_
  refine lv_istore_n (lv' := [(2, .int (nI 0)), (0, .long (enc b))]) hC.1 hC.2.1 dX0_rightCorners_1 rfl hl (by decide) rfl (fun ls hl => ?_)
  refine lv_iconst (v := (nI 0)) hC.1 hC.2.1 dX0_rightCorners_2 (by decide) ?_
  refine lv_istore_n (lv' := [(3, .int (nI 0)), (2, .int (nI 0)), (0, .long (enc b))]) hC.1 hC.2.1 dX0_rightCorners_3 rfl hl (by decide) rfl (fun ls hl => ?_)
  exact loop 8 0 rfl ls (lv_sub hl [2, 1, 0] rfl)

set_option maxHeartbeats 4000000 in
set_option maxRecDepth 100000 in
theorem k_wrongCorners (l : Launch) {b : Nat → Nat} (hv : Va b) : RV l yX0_wrongCorners wsX0_wrongCorners (4) zNo [.long (enc b)] (some (.int (nI (8 - ct (fun i => decide (b i = i)) 8)))) := by
  refine RV.of (cc := cX0_wrongCorners) (maxL := 2) (ret := (some .int)) (by decide) rfl (Nat.le_of_ble_eq_true rfl) ?_
  intro p e s m args below meth c hC hr hlk hB ls hl
  have hl : lv_has ls 2 [(0, .long (enc b))] := hl
  refine lv_bipush (v := (nI 8)) hC.1 hC.2.1 dX0_wrongCorners_0 (by decide) ?_
  refine lv_lload_n hC.1 hC.2.1 dX0_wrongCorners_2 rfl (lv_at hl 0 rfl) ?_
  refine p_cs (n := 1) (k_rightCorners l hv) hC gX0_wrongCorners_X0_rightCorners rfl (by decide +kernel) rfl ⟨by decide, by decide⟩ ⟨Nat.zero_le _, Nat.zero_le _⟩ hl.1 (Nat.le_of_ble_eq_true rfl) dX0_wrongCorners_3 rfl ?_
  refine z_isub hC dX0_wrongCorners_6 (ct_le _ 8) ?_
  exact RV.iret hC hr hlk dX0_wrongCorners_7 (rfl)

set_option maxHeartbeats 4000000 in
set_option maxRecDepth 100000 in
theorem k_placedCorners (l : Launch) {b : Nat → Nat} (hv : Va b) : RV l yX0_placedCorners wsX0_placedCorners 2 zNo [.long (enc b)] (some (.int (nI (ct (fun i => decide (b i % 8 = i)) 8)))) := by
  refine RV.of (cc := cX0_placedCorners) (maxL := 4) (ret := some .int) (by decide) rfl (Nat.le_of_ble_eq_true rfl) ?_
  intro p e s m args below meth c hC hr hlk hB ls hl
  have hl : lv_has ls 4 [(0, .long (enc b))] := hl
  have loop : ∀ (n i : Nat), i + n = 8 → ∀ ls : Array Slot, lv_has ls 4 [(0, .long (enc b)), (2, .int (nI (ct (fun i => decide (b i % 8 = i)) i))), (3, .int (nI i))] → W p l e (rD (2) 0 0) s m args below meth c s.heap [] 0 0 (MQ below (RVQ (some (.int (nI (ct (fun i => decide (b i % 8 = i)) 8))))) args s 0 0 (fun _ => False)) (F0 m 4 ls []) := by
    intro n
    induction n with
    | zero =>
      intro i hc0 ls hl
      obtain rfl : i = 8 := by omega
      refine lv_iload_n hC.1 hC.2.1 dX0_placedCorners_4 rfl (lv_at hl 2 rfl) ?_
      refine lv_bipush (v := (nI 8)) hC.1 hC.2.1 dX0_placedCorners_5 (by decide) ?_
      refine z_icmp_ge (tgt := 28) hC dX0_placedCorners_7 (by decide) (by omega) (by omega) (fun h_7 => ?_) (fun h_7 => by omega)
      refine lv_iload_n hC.1 hC.2.1 dX0_placedCorners_28 rfl (lv_at hl 1 rfl) ?_
      exact RV.iret hC hr hlk dX0_placedCorners_29 (rfl)
    | succ n ih =>
      intro i hc0 ls hl
      refine lv_iload_n hC.1 hC.2.1 dX0_placedCorners_4 rfl (lv_at hl 2 rfl) ?_
      refine lv_bipush (v := (nI 8)) hC.1 hC.2.1 dX0_placedCorners_5 (by decide) ?_
      refine z_icmp_ge (tgt := 28) hC dX0_placedCorners_7 (by decide) (by omega) (by omega) (fun h_7 => by omega) (fun h_7 => ?_)
      refine lv_lload_n hC.1 hC.2.1 dX0_placedCorners_10 rfl (lv_at hl 0 rfl) ?_
      refine lv_iload_n hC.1 hC.2.1 dX0_placedCorners_11 rfl (lv_at hl 2 rfl) ?_
      refine p_cs (n := 2) (k_cornerAt l hv (by omega)) hC gX0_placedCorners_X0_cornerAt rfl (by decide +kernel) rfl ⟨by decide, by decide⟩ ⟨Nat.zero_le _, Nat.zero_le _⟩ hl.1 (Nat.le_of_ble_eq_true rfl) dX0_placedCorners_12 rfl ?_
      refine lv_iload_n hC.1 hC.2.1 dX0_placedCorners_15 rfl (lv_at hl 2 rfl) ?_
      refine z_icmp_ne (tgt := 22) hC dX0_placedCorners_16 (by decide) (by omega) (by omega) (fun h_16 => ?_) (fun h_16 => ?_)
      · refine lv_iinc (v := nI (i + 1)) (lv' := [(3, .int (nI (i + 1))), (0, .long (enc b)), (2, .int (nI (ct (fun i => decide (b i % 8 = i)) i)))]) hC.1 hC.2.1 dX0_placedCorners_22 hl (k := 2) rfl (z_inc _) (by decide) rfl (fun ls hl => ?_)
        refine lv_goto (tgt := 4) hC.1 hC.2.1 dX0_placedCorners_25 (by decide) ?_
        exact ih (i + 1) (by omega) ls (by have e9 : ct (fun i => decide (b i % 8 = i)) (i + 1) = ct (fun i => decide (b i % 8 = i)) i := ct_f (by simp; omega); rw [e9]; exact (lv_sub hl [1, 2, 0] rfl))
      · refine lv_iinc (v := nI (ct (fun i => decide (b i % 8 = i)) i + 1)) (lv' := [(2, .int (nI (ct (fun i => decide (b i % 8 = i)) i + 1))), (0, .long (enc b)), (3, .int (nI i))]) hC.1 hC.2.1 dX0_placedCorners_19 hl (k := 1) rfl (z_inc _) (by decide) rfl (fun ls hl => ?_)
        refine lv_iinc (v := nI (i + 1)) (lv' := [(3, .int (nI (i + 1))), (2, .int (nI (ct (fun i => decide (b i % 8 = i)) i + 1))), (0, .long (enc b))]) hC.1 hC.2.1 dX0_placedCorners_22 hl (k := 2) rfl (z_inc _) (by decide) rfl (fun ls hl => ?_)
        refine lv_goto (tgt := 4) hC.1 hC.2.1 dX0_placedCorners_25 (by decide) ?_
        exact ih (i + 1) (by omega) ls (by have e9 : ct (fun i => decide (b i % 8 = i)) (i + 1) = ct (fun i => decide (b i % 8 = i)) i + 1 := ct_t (by simp; omega); rw [e9]; exact (lv_sub hl [2, 1, 0] rfl))
  refine lv_iconst (v := (nI 0)) hC.1 hC.2.1 dX0_placedCorners_0 (by decide) ?_
  refine lv_istore_n (lv' := [(2, .int (nI 0)), (0, .long (enc b))]) hC.1 hC.2.1 dX0_placedCorners_1 rfl hl (by decide) rfl (fun ls hl => ?_)
  refine lv_iconst (v := (nI 0)) hC.1 hC.2.1 dX0_placedCorners_2 (by decide) ?_
  refine lv_istore_n (lv' := [(3, .int (nI 0)), (2, .int (nI 0)), (0, .long (enc b))]) hC.1 hC.2.1 dX0_placedCorners_3 rfl hl (by decide) rfl (fun ls hl => ?_)
  exact loop 8 0 rfl ls (lv_sub hl [2, 1, 0] rfl)

set_option maxHeartbeats 4000000 in
set_option maxRecDepth 100000 in
theorem k_untwistedCorners (l : Launch) {b : Nat → Nat} (hv : Va b) : RV l yX0_untwistedCorners wsX0_untwistedCorners 2 zNo [.long (enc b)] (some (.int (nI (ct (fun i => decide (b i / 8 = 0)) 8)))) := by
  refine RV.of (cc := cX0_untwistedCorners) (maxL := 4) (ret := some .int) (by decide) rfl (Nat.le_of_ble_eq_true rfl) ?_
  intro p e s m args below meth c hC hr hlk hB ls hl
  have hl : lv_has ls 4 [(0, .long (enc b))] := hl
  have loop : ∀ (n i : Nat), i + n = 8 → ∀ ls : Array Slot, lv_has ls 4 [(0, .long (enc b)), (2, .int (nI (ct (fun i => decide (b i / 8 = 0)) i))), (3, .int (nI i))] → W p l e (rD (2) 0 0) s m args below meth c s.heap [] 0 0 (MQ below (RVQ (some (.int (nI (ct (fun i => decide (b i / 8 = 0)) 8))))) args s 0 0 (fun _ => False)) (F0 m 4 ls []) := by
    intro n
    induction n with
    | zero =>
      intro i hc0 ls hl
      obtain rfl : i = 8 := by omega
      refine lv_iload_n hC.1 hC.2.1 dX0_untwistedCorners_4 rfl (lv_at hl 2 rfl) ?_
      refine lv_bipush (v := (nI 8)) hC.1 hC.2.1 dX0_untwistedCorners_5 (by decide) ?_
      refine z_icmp_ge (tgt := 27) hC dX0_untwistedCorners_7 (by decide) (by omega) (by omega) (fun h_7 => ?_) (fun h_7 => by omega)
      refine lv_iload_n hC.1 hC.2.1 dX0_untwistedCorners_27 rfl (lv_at hl 1 rfl) ?_
      exact RV.iret hC hr hlk dX0_untwistedCorners_28 (rfl)
    | succ n ih =>
      intro i hc0 ls hl
      refine lv_iload_n hC.1 hC.2.1 dX0_untwistedCorners_4 rfl (lv_at hl 2 rfl) ?_
      refine lv_bipush (v := (nI 8)) hC.1 hC.2.1 dX0_untwistedCorners_5 (by decide) ?_
      refine z_icmp_ge (tgt := 27) hC dX0_untwistedCorners_7 (by decide) (by omega) (by omega) (fun h_7 => by omega) (fun h_7 => ?_)
      refine lv_lload_n hC.1 hC.2.1 dX0_untwistedCorners_10 rfl (lv_at hl 0 rfl) ?_
      refine lv_iload_n hC.1 hC.2.1 dX0_untwistedCorners_11 rfl (lv_at hl 2 rfl) ?_
      refine p_cs (n := 2) (k_twistAt l hv (by omega)) hC gX0_untwistedCorners_X0_twistAt rfl (by decide +kernel) rfl ⟨by decide, by decide⟩ ⟨Nat.zero_le _, Nat.zero_le _⟩ hl.1 (Nat.le_of_ble_eq_true rfl) dX0_untwistedCorners_12 rfl ?_
      refine z_if_ne (tgt := 21) hC dX0_untwistedCorners_15 (by decide) (by have := hv i (by omega); omega) (fun h_15 => ?_) (fun h_15 => ?_)
      · refine lv_iinc (v := nI (i + 1)) (lv' := [(3, .int (nI (i + 1))), (0, .long (enc b)), (2, .int (nI (ct (fun i => decide (b i / 8 = 0)) i)))]) hC.1 hC.2.1 dX0_untwistedCorners_21 hl (k := 2) rfl (z_inc _) (by decide) rfl (fun ls hl => ?_)
        refine lv_goto (tgt := 4) hC.1 hC.2.1 dX0_untwistedCorners_24 (by decide) ?_
        exact ih (i + 1) (by omega) ls (by have e9 : ct (fun i => decide (b i / 8 = 0)) (i + 1) = ct (fun i => decide (b i / 8 = 0)) i := ct_f (by simp; omega); rw [e9]; exact (lv_sub hl [1, 2, 0] rfl))
      · refine lv_iinc (v := nI (ct (fun i => decide (b i / 8 = 0)) i + 1)) (lv' := [(2, .int (nI (ct (fun i => decide (b i / 8 = 0)) i + 1))), (0, .long (enc b)), (3, .int (nI i))]) hC.1 hC.2.1 dX0_untwistedCorners_18 hl (k := 1) rfl (z_inc _) (by decide) rfl (fun ls hl => ?_)
        refine lv_iinc (v := nI (i + 1)) (lv' := [(3, .int (nI (i + 1))), (2, .int (nI (ct (fun i => decide (b i / 8 = 0)) i + 1))), (0, .long (enc b))]) hC.1 hC.2.1 dX0_untwistedCorners_21 hl (k := 2) rfl (z_inc _) (by decide) rfl (fun ls hl => ?_)
        refine lv_goto (tgt := 4) hC.1 hC.2.1 dX0_untwistedCorners_24 (by decide) ?_
        exact ih (i + 1) (by omega) ls (by have e9 : ct (fun i => decide (b i / 8 = 0)) (i + 1) = ct (fun i => decide (b i / 8 = 0)) i + 1 := ct_t (by simp; omega); rw [e9]; exact (lv_sub hl [2, 1, 0] rfl))
  refine lv_iconst (v := (nI 0)) hC.1 hC.2.1 dX0_untwistedCorners_0 (by decide) ?_
  refine lv_istore_n (lv' := [(2, .int (nI 0)), (0, .long (enc b))]) hC.1 hC.2.1 dX0_untwistedCorners_1 rfl hl (by decide) rfl (fun ls hl => ?_)
  refine lv_iconst (v := (nI 0)) hC.1 hC.2.1 dX0_untwistedCorners_2 (by decide) ?_
  refine lv_istore_n (lv' := [(3, .int (nI 0)), (2, .int (nI 0)), (0, .long (enc b))]) hC.1 hC.2.1 dX0_untwistedCorners_3 rfl hl (by decide) rfl (fun ls hl => ?_)
  exact loop 8 0 rfl ls (lv_sub hl [2, 1, 0] rfl)

theorem k_hexD (l : Launch) {n k v : Nat} (hn : n < 2 ^ 31) (hk : k < 4) (h : dig n k = v) : RV l yX0_hexDigit wsX0_hexDigit 1 zNo [.int (nI n), .int (nI k)] (some (.int (nI v))) := by
  subst h
  exact k_hexDigit l hn hk
/-- a face's ring and its twists, as the class holds them: a hex digit a place -/
def ringN (f : Nat) : Nat := if f = 0 then 291 else if f = 1 then 884 else 1105
def moreN (f : Nat) : Nat := if f = 0 then 0 else if f = 1 then 4626 else 8481
theorem ringN_lt (f : Nat) : ringN f < 2 ^ 31 := by
  unfold ringN; split
  · decide
  · split <;> decide
theorem moreN_lt (f : Nat) : moreN f < 2 ^ 31 := by
  unfold moreN; split
  · decide
  · split <;> decide
theorem ringN_d {f : Nat} (hf : f < 3) : ∀ k, k < 4 → dig (ringN f) k = zRing f k ∧ zRing f k < 8 := by
  rcases (by omega : f = 0 ∨ f = 1 ∨ f = 2) with rfl | rfl | rfl <;> decide
theorem moreN_d {f : Nat} (hf : f < 3) : ∀ k, k < 4 → dig (moreN f) k = zMore f k ∧ zMore f k < 4 := by
  rcases (by omega : f = 0 ∨ f = 1 ∨ f = 2) with rfl | rfl | rfl <;> decide
set_option maxHeartbeats 4000000 in
set_option maxRecDepth 100000 in
theorem k_ringOf (l : Launch) {f : Nat} (hf : f < 3) : RV l yX0_ringOf wsX0_ringOf (1) zNo [.int (nI f)] (some (.int (nI (ringN f)))) := by
  refine RV.of (cc := cX0_ringOf) (maxL := 1) (ret := (some .int)) (by decide) rfl (Nat.le_of_ble_eq_true rfl) ?_
  intro p e s m args below meth c hC hr hlk hB ls hl
  have hl : lv_has ls 1 [(0, .int (nI f))] := hl
  rcases (by omega : f = 0 ∨ f = 1 ∨ f = 2) with rfl | rfl | rfl
  · refine lv_iload_n hC.1 hC.2.1 dX0_ringOf_0 rfl (lv_at hl 0 rfl) ?_
    refine lv_lookup (off := 27) (tgt := 28) hC.1 hC.2.1 dX0_ringOf_1 (by decide) (by decide) (by decide) ?_
    refine lv_sipush (v := (nI 291)) hC.1 hC.2.1 dX0_ringOf_28 (by decide) ?_
    exact RV.iret hC hr hlk dX0_ringOf_31 (rfl)
  · refine lv_iload_n hC.1 hC.2.1 dX0_ringOf_0 rfl (lv_at hl 0 rfl) ?_
    refine lv_lookup (off := 31) (tgt := 32) hC.1 hC.2.1 dX0_ringOf_1 (by decide) (by decide) (by decide) ?_
    refine lv_sipush (v := (nI 884)) hC.1 hC.2.1 dX0_ringOf_32 (by decide) ?_
    exact RV.iret hC hr hlk dX0_ringOf_35 (rfl)
  · refine lv_iload_n hC.1 hC.2.1 dX0_ringOf_0 rfl (lv_at hl 0 rfl) ?_
    refine lv_lookup (off := 35) (tgt := 36) hC.1 hC.2.1 dX0_ringOf_1 (by decide) (by decide) (by decide) ?_
    refine lv_sipush (v := (nI 1105)) hC.1 hC.2.1 dX0_ringOf_36 (by decide) ?_
    exact RV.iret hC hr hlk dX0_ringOf_39 (rfl)

set_option maxHeartbeats 4000000 in
set_option maxRecDepth 100000 in
theorem k_moreTwistOf (l : Launch) {f : Nat} (hf : f < 3) : RV l yX0_moreTwistOf wsX0_moreTwistOf (1) zNo [.int (nI f)] (some (.int (nI (moreN f)))) := by
  refine RV.of (cc := cX0_moreTwistOf) (maxL := 1) (ret := (some .int)) (by decide) rfl (Nat.le_of_ble_eq_true rfl) ?_
  intro p e s m args below meth c hC hr hlk hB ls hl
  have hl : lv_has ls 1 [(0, .int (nI f))] := hl
  rcases (by omega : f = 0 ∨ f = 1 ∨ f = 2) with rfl | rfl | rfl
  · refine lv_iload_n hC.1 hC.2.1 dX0_moreTwistOf_0 rfl (lv_at hl 0 rfl) ?_
    refine lv_lookup (off := 27) (tgt := 28) hC.1 hC.2.1 dX0_moreTwistOf_1 (by decide) (by decide) (by decide) ?_
    refine lv_iconst (v := (nI 0)) hC.1 hC.2.1 dX0_moreTwistOf_28 (by decide) ?_
    exact RV.iret hC hr hlk dX0_moreTwistOf_29 (rfl)
  · refine lv_iload_n hC.1 hC.2.1 dX0_moreTwistOf_0 rfl (lv_at hl 0 rfl) ?_
    refine lv_lookup (off := 29) (tgt := 30) hC.1 hC.2.1 dX0_moreTwistOf_1 (by decide) (by decide) (by decide) ?_
    refine lv_sipush (v := (nI 4626)) hC.1 hC.2.1 dX0_moreTwistOf_30 (by decide) ?_
    exact RV.iret hC hr hlk dX0_moreTwistOf_33 (rfl)
  · refine lv_iload_n hC.1 hC.2.1 dX0_moreTwistOf_0 rfl (lv_at hl 0 rfl) ?_
    refine lv_lookup (off := 33) (tgt := 34) hC.1 hC.2.1 dX0_moreTwistOf_1 (by decide) (by decide) (by decide) ?_
    refine lv_sipush (v := (nI 8481)) hC.1 hC.2.1 dX0_moreTwistOf_34 (by decide) ?_
    exact RV.iret hC hr hlk dX0_moreTwistOf_37 (rfl)

set_option maxHeartbeats 4000000 in
set_option maxRecDepth 100000 in
theorem k_quarterTurned (l : Launch) {b : Nat → Nat} (hv : Va b) {f : Nat} (hf : f < 3) : RV l yX0_quarterTurned wsX0_quarterTurned (3) zNo [.long (enc b), .int (nI f)] (some (.long (enc (comp b (Qf f))))) := by
  refine RV.of (cc := cX0_quarterTurned) (maxL := 10) (ret := (some .long)) (by decide) rfl (Nat.le_of_ble_eq_true rfl) ?_
  intro p e s m args below meth c hC hr hlk hB ls hl
  have hl : lv_has ls 10 [(0, .long (enc b)), (2, .int (nI f))] := hl
  have loop : ∀ (n i : Nat), i + n = 4 → ∀ ls : Array Slot, lv_has ls 10 [(0, .long (enc b)), (2, .int (nI f)), (3, .int (nI (ringN f))), (4, .int (nI (moreN f))), (5, .long (enc (gs b (zRing f) (zMore f) i))), (7, .int (nI i))] → W p l e (rD (3) 0 0) s m args below meth c s.heap [] 0 0 (MQ below (RVQ (some (.long (enc (comp b (Qf f)))))) args s 0 0 (fun _ => False)) (F0 m 17 ls []) := by
    intro n
    induction n with
    | zero =>
      intro i hc0 ls hl
      obtain rfl : i = 4 := by omega
      refine lv_iload hC.1 hC.2.1 dX0_quarterTurned_17 (lv_at hl 5 rfl) ?_
      refine lv_iconst (v := (nI 4)) hC.1 hC.2.1 dX0_quarterTurned_19 (by decide) ?_
      refine z_icmp_ge (tgt := 78) hC dX0_quarterTurned_20 (by decide) (by omega) (by omega) (fun h_20 => ?_) (fun h_20 => by omega)
      refine lv_lload hC.1 hC.2.1 dX0_quarterTurned_78 (lv_at hl 4 rfl) ?_
      exact RV.lret hC hr hlk dX0_quarterTurned_80 (gs_face hv hf)
    | succ n ih =>
      intro i hc0 ls hl
      have hR1 := ringN_d hf i (by omega)
      have hR2 := ringN_d hf ((i + 1) % 4) (Nat.mod_lt _ (by decide))
      have hM1 := moreN_d hf i (by omega)
      have hb1 := hv (zRing f i) hR1.2
      refine lv_iload hC.1 hC.2.1 dX0_quarterTurned_17 (lv_at hl 5 rfl) ?_
      refine lv_iconst (v := (nI 4)) hC.1 hC.2.1 dX0_quarterTurned_19 (by decide) ?_
      refine z_icmp_ge (tgt := 78) hC dX0_quarterTurned_20 (by decide) (by omega) (by omega) (fun h_20 => by omega) (fun h_20 => ?_)
      refine lv_iload_n hC.1 hC.2.1 dX0_quarterTurned_23 rfl (lv_at hl 2 rfl) ?_
      refine lv_iload hC.1 hC.2.1 dX0_quarterTurned_24 (lv_at hl 5 rfl) ?_
      refine p_cs (n := 2) (k_hexD l (ringN_lt f) (by omega) hR1.1) hC gX0_quarterTurned_X0_hexDigit rfl (by decide +kernel) rfl ⟨by decide, by decide⟩ ⟨Nat.zero_le _, Nat.zero_le _⟩ hl.1 (Nat.le_of_ble_eq_true rfl) dX0_quarterTurned_26 rfl ?_
      refine lv_istore (lv' := [(8, .int (nI (zRing f i))), (0, .long (enc b)), (2, .int (nI f)), (3, .int (nI (ringN f))), (4, .int (nI (moreN f))), (5, .long (enc (gs b (zRing f) (zMore f) i))), (7, .int (nI i))]) hC.1 hC.2.1 dX0_quarterTurned_29 hl (by decide) rfl (fun ls hl => ?_)
      refine lv_iload_n hC.1 hC.2.1 dX0_quarterTurned_31 rfl (lv_at hl 3 rfl) ?_
      refine lv_iload hC.1 hC.2.1 dX0_quarterTurned_32 (lv_at hl 6 rfl) ?_
      refine lv_iconst (v := (nI 1)) hC.1 hC.2.1 dX0_quarterTurned_34 (by decide) ?_
      refine z_iadd hC dX0_quarterTurned_35 ?_
      refine lv_iconst (v := (nI 4)) hC.1 hC.2.1 dX0_quarterTurned_36 (by decide) ?_
      refine z_irem hC dX0_quarterTurned_37 (by omega) (by decide) (by decide) ?_
      refine p_cs (n := 2) (k_hexD l (ringN_lt f) (Nat.mod_lt _ (by decide)) hR2.1) hC gX0_quarterTurned_X0_hexDigit rfl (by decide +kernel) rfl ⟨by decide, by decide⟩ ⟨Nat.zero_le _, Nat.zero_le _⟩ hl.1 (Nat.le_of_ble_eq_true rfl) dX0_quarterTurned_38 rfl ?_
      refine lv_istore (lv' := [(9, .int (nI (zRing f ((i + 1) % 4)))), (8, .int (nI (zRing f i))), (0, .long (enc b)), (2, .int (nI f)), (3, .int (nI (ringN f))), (4, .int (nI (moreN f))), (5, .long (enc (gs b (zRing f) (zMore f) i))), (7, .int (nI i))]) hC.1 hC.2.1 dX0_quarterTurned_41 hl (by decide) rfl (fun ls hl => ?_)
      refine lv_lload hC.1 hC.2.1 dX0_quarterTurned_43 (lv_at hl 6 rfl) ?_
      refine lv_iload hC.1 hC.2.1 dX0_quarterTurned_45 (lv_at hl 0 rfl) ?_
      refine lv_lload_n hC.1 hC.2.1 dX0_quarterTurned_47 rfl (lv_at hl 2 rfl) ?_
      refine lv_iload hC.1 hC.2.1 dX0_quarterTurned_48 (lv_at hl 1 rfl) ?_
      refine p_cs (n := 2) (k_cornerAt l hv hR1.2) hC gX0_quarterTurned_X0_cornerAt rfl (by decide +kernel) rfl ⟨by decide, by decide⟩ ⟨Nat.zero_le _, Nat.zero_le _⟩ hl.1 (Nat.le_of_ble_eq_true rfl) dX0_quarterTurned_50 rfl ?_
      refine lv_lload_n hC.1 hC.2.1 dX0_quarterTurned_53 rfl (lv_at hl 2 rfl) ?_
      refine lv_iload hC.1 hC.2.1 dX0_quarterTurned_54 (lv_at hl 1 rfl) ?_
      refine p_cs (n := 2) (k_twistAt l hv hR1.2) hC gX0_quarterTurned_X0_twistAt rfl (by decide +kernel) rfl ⟨by decide, by decide⟩ ⟨Nat.zero_le _, Nat.zero_le _⟩ hl.1 (Nat.le_of_ble_eq_true rfl) dX0_quarterTurned_56 rfl ?_
      refine lv_iload hC.1 hC.2.1 dX0_quarterTurned_59 (lv_at hl 5 rfl) ?_
      refine lv_iload hC.1 hC.2.1 dX0_quarterTurned_61 (lv_at hl 7 rfl) ?_
      refine p_cs (n := 2) (k_hexD l (moreN_lt f) (by omega) hM1.1) hC gX0_quarterTurned_X0_hexDigit rfl (by decide +kernel) rfl ⟨by decide, by decide⟩ ⟨Nat.zero_le _, Nat.zero_le _⟩ hl.1 (Nat.le_of_ble_eq_true rfl) dX0_quarterTurned_63 rfl ?_
      refine z_iadd hC dX0_quarterTurned_66 ?_
      refine p_cs (n := 4) (k_withCorner l (gs_Va hv i) hR2.2 (Nat.mod_lt _ (by decide)) (by omega)) hC gX0_quarterTurned_X0_withCorner rfl (by decide +kernel) rfl ⟨by decide, by decide⟩ ⟨Nat.zero_le _, Nat.zero_le _⟩ hl.1 (Nat.le_of_ble_eq_true rfl) dX0_quarterTurned_67 rfl ?_
      refine lv_lstore (lv' := [(5, .long (enc (gs b (zRing f) (zMore f) (i + 1)))), (9, .int (nI (zRing f ((i + 1) % 4)))), (8, .int (nI (zRing f i))), (0, .long (enc b)), (2, .int (nI f)), (3, .int (nI (ringN f))), (4, .int (nI (moreN f))), (7, .int (nI i))]) hC.1 hC.2.1 dX0_quarterTurned_70 hl (by decide) rfl (fun ls hl => ?_)
      refine lv_iinc (v := nI (i + 1)) (lv' := [(7, .int (nI (i + 1))), (5, .long (enc (gs b (zRing f) (zMore f) (i + 1)))), (9, .int (nI (zRing f ((i + 1) % 4)))), (8, .int (nI (zRing f i))), (0, .long (enc b)), (2, .int (nI f)), (3, .int (nI (ringN f))), (4, .int (nI (moreN f)))]) hC.1 hC.2.1 dX0_quarterTurned_72 hl (k := 7) rfl (z_inc _) (by decide) rfl (fun ls hl => ?_)
      refine lv_goto (tgt := 17) hC.1 hC.2.1 dX0_quarterTurned_75 (by decide) ?_
      exact ih (i + 1) (by omega) ls (lv_sub hl [4, 5, 6, 7, 1, 0] rfl)
  refine lv_iload_n hC.1 hC.2.1 dX0_quarterTurned_0 rfl (lv_at hl 1 rfl) ?_
  refine p_cs (n := 1) (k_ringOf l hf) hC gX0_quarterTurned_X0_ringOf rfl (by decide +kernel) rfl ⟨by decide, by decide⟩ ⟨Nat.zero_le _, Nat.zero_le _⟩ hl.1 (Nat.le_of_ble_eq_true rfl) dX0_quarterTurned_1 rfl ?_
  refine lv_istore_n (lv' := [(3, .int (nI (ringN f))), (0, .long (enc b)), (2, .int (nI f))]) hC.1 hC.2.1 dX0_quarterTurned_4 rfl hl (by decide) rfl (fun ls hl => ?_)
  refine lv_iload_n hC.1 hC.2.1 dX0_quarterTurned_5 rfl (lv_at hl 2 rfl) ?_
  refine p_cs (n := 1) (k_moreTwistOf l hf) hC gX0_quarterTurned_X0_moreTwistOf rfl (by decide +kernel) rfl ⟨by decide, by decide⟩ ⟨Nat.zero_le _, Nat.zero_le _⟩ hl.1 (Nat.le_of_ble_eq_true rfl) dX0_quarterTurned_6 rfl ?_
  refine lv_istore (lv' := [(4, .int (nI (moreN f))), (3, .int (nI (ringN f))), (0, .long (enc b)), (2, .int (nI f))]) hC.1 hC.2.1 dX0_quarterTurned_9 hl (by decide) rfl (fun ls hl => ?_)
  refine lv_lload_n hC.1 hC.2.1 dX0_quarterTurned_11 rfl (lv_at hl 2 rfl) ?_
  refine lv_lstore (lv' := [(5, .long (enc b)), (4, .int (nI (moreN f))), (3, .int (nI (ringN f))), (0, .long (enc b)), (2, .int (nI f))]) hC.1 hC.2.1 dX0_quarterTurned_12 hl (by decide) rfl (fun ls hl => ?_)
  refine lv_iconst (v := (nI 0)) hC.1 hC.2.1 dX0_quarterTurned_14 (by decide) ?_
  refine lv_istore (lv' := [(7, .int (nI 0)), (5, .long (enc b)), (4, .int (nI (moreN f))), (3, .int (nI (ringN f))), (0, .long (enc b)), (2, .int (nI f))]) hC.1 hC.2.1 dX0_quarterTurned_15 hl (by decide) rfl (fun ls hl => ?_)
  exact loop 4 0 rfl ls (lv_sub hl [4, 5, 3, 2, 1, 0] rfl)

set_option maxHeartbeats 4000000 in
set_option maxRecDepth 100000 in
theorem k_turned (l : Launch) {b : Nat → Nat} (hv : Va b) {t : Nat} (ht : t < 9) : RV l yX0_turned wsX0_turned (4) zNo [.long (enc b), .int (nI t)] (some (.long (enc (turnC b t)))) := by
  refine RV.of (cc := cX0_turned) (maxL := 6) (ret := (some .long)) (by decide) rfl (Nat.le_of_ble_eq_true rfl) ?_
  intro p e s m args below meth c hC hr hlk hB ls hl
  have hl : lv_has ls 6 [(0, .long (enc b)), (2, .int (nI t))] := hl
  have loop : ∀ (n i : Nat), i + n = t % 3 + 1 → ∀ ls : Array Slot, lv_has ls 6 [(0, .long (enc b)), (2, .int (nI t)), (3, .long (enc (itq (t / 3) b i))), (5, .int (nI i))] → W p l e (rD (4) 0 0) s m args below meth c s.heap [] 0 0 (MQ below (RVQ (some (.long (enc (turnC b t))))) args s 0 0 (fun _ => False)) (F0 m 5 ls []) := by
    intro n
    induction n with
    | zero =>
      intro i hc0 ls hl
      obtain rfl : i = t % 3 + 1 := by omega
      refine lv_iload hC.1 hC.2.1 dX0_turned_5 (lv_at hl 3 rfl) ?_
      refine lv_iload_n hC.1 hC.2.1 dX0_turned_7 rfl (lv_at hl 1 rfl) ?_
      refine p_cs (n := 1) (k_quartersOf l ht) hC gX0_turned_X0_quartersOf rfl (by decide +kernel) rfl ⟨by decide, by decide⟩ ⟨Nat.zero_le _, Nat.zero_le _⟩ hl.1 (Nat.le_of_ble_eq_true rfl) dX0_turned_8 rfl ?_
      refine z_icmp_ge (tgt := 29) hC dX0_turned_11 (by decide) (by omega) (by omega) (fun h_11 => ?_) (fun h_11 => by omega)
      refine lv_lload_n hC.1 hC.2.1 dX0_turned_29 rfl (lv_at hl 2 rfl) ?_
      exact RV.lret hC hr hlk dX0_turned_30 (rfl)
    | succ n ih =>
      intro i hc0 ls hl
      refine lv_iload hC.1 hC.2.1 dX0_turned_5 (lv_at hl 3 rfl) ?_
      refine lv_iload_n hC.1 hC.2.1 dX0_turned_7 rfl (lv_at hl 1 rfl) ?_
      refine p_cs (n := 1) (k_quartersOf l ht) hC gX0_turned_X0_quartersOf rfl (by decide +kernel) rfl ⟨by decide, by decide⟩ ⟨Nat.zero_le _, Nat.zero_le _⟩ hl.1 (Nat.le_of_ble_eq_true rfl) dX0_turned_8 rfl ?_
      refine z_icmp_ge (tgt := 29) hC dX0_turned_11 (by decide) (by omega) (by omega) (fun h_11 => by omega) (fun h_11 => ?_)
      refine lv_lload_n hC.1 hC.2.1 dX0_turned_14 rfl (lv_at hl 2 rfl) ?_
      refine lv_iload_n hC.1 hC.2.1 dX0_turned_15 rfl (lv_at hl 1 rfl) ?_
      refine p_cs (n := 1) (k_faceOf l ht) hC gX0_turned_X0_faceOf rfl (by decide +kernel) rfl ⟨by decide, by decide⟩ ⟨Nat.zero_le _, Nat.zero_le _⟩ hl.1 (Nat.le_of_ble_eq_true rfl) dX0_turned_16 rfl ?_
      refine p_cs (n := 2) (k_quarterTurned l (itq_Va hv i) (by omega)) hC gX0_turned_X0_quarterTurned rfl (by decide +kernel) rfl ⟨by decide, by decide⟩ ⟨Nat.zero_le _, Nat.zero_le _⟩ hl.1 (Nat.le_of_ble_eq_true rfl) dX0_turned_19 rfl ?_
      refine lv_lstore_n (lv' := [(3, .long (enc (itq (t / 3) b (i + 1)))), (0, .long (enc b)), (2, .int (nI t)), (5, .int (nI i))]) hC.1 hC.2.1 dX0_turned_22 rfl hl (by decide) rfl (fun ls hl => ?_)
      refine lv_iinc (v := nI (i + 1)) (lv' := [(5, .int (nI (i + 1))), (3, .long (enc (itq (t / 3) b (i + 1)))), (0, .long (enc b)), (2, .int (nI t))]) hC.1 hC.2.1 dX0_turned_23 hl (k := 3) rfl (z_inc _) (by decide) rfl (fun ls hl => ?_)
      refine lv_goto (tgt := 5) hC.1 hC.2.1 dX0_turned_26 (by decide) ?_
      exact ih (i + 1) (by omega) ls (lv_sub hl [2, 3, 1, 0] rfl)
  refine lv_lload_n hC.1 hC.2.1 dX0_turned_0 rfl (lv_at hl 0 rfl) ?_
  refine lv_lstore_n (lv' := [(3, .long (enc b)), (0, .long (enc b)), (2, .int (nI t))]) hC.1 hC.2.1 dX0_turned_1 rfl hl (by decide) rfl (fun ls hl => ?_)
  refine lv_iconst (v := (nI 0)) hC.1 hC.2.1 dX0_turned_2 (by decide) ?_
  refine lv_istore (lv' := [(5, .int (nI 0)), (3, .long (enc b)), (0, .long (enc b)), (2, .int (nI t))]) hC.1 hC.2.1 dX0_turned_3 hl (by decide) rfl (fun ls hl => ?_)
  exact loop (t % 3 + 1) 0 (by omega) ls (lv_sub hl [2, 3, 1, 0] rfl)

def bd (a d : Nat → Nat) (k : Nat) : Nat → Nat := fun i => if i < k then comp a d i else a i
theorem bd_Va {a d : Nat → Nat} (h : Va a) (k : Nat) : Va (bd a d k) := fun i hi => by
  show (if i < k then comp a d i else a i) < 24
  split
  · exact comp_Va a d i hi
  · exact h i hi
theorem bd_step (a d : Nat → Nat) (k : Nat) : enc (fun i => if i = k then a (d k % 8) % 8 + 8 * ((a (d k % 8) / 8 + d k / 8) % 3) else bd a d k i) = enc (bd a d (k + 1)) := by
  apply enc_congr
  intro i _
  show (if i = k then comp a d k else if i < k then comp a d i else a i) = if i < k + 1 then comp a d i else a i
  by_cases h : i = k
  · subst h; simp
  · by_cases h2 : i < k
    · rw [if_neg h, if_pos h2, if_pos (by omega)]
    · rw [if_neg h, if_neg h2, if_neg (by omega)]
theorem bd_8 (a d : Nat → Nat) : enc (bd a d 8) = enc (comp a d) := enc_congr fun i hi => if_pos hi
def pw (b : Nat → Nat) : Nat → (Nat → Nat)
  | 0 => b
  | n + 1 => comp (pw b n) b
theorem pw_Va {b : Nat → Nat} (h : Va b) : ∀ n, Va (pw b n)
  | 0 => h
  | _ + 1 => comp_Va _ _
theorem lg0 {x y : Int64} : lg_cmp x y = 0 ↔ x = y := by
  unfold lg_cmp
  by_cases h : x = y
  · subst h; simp
  · simp only [h, iff_false]
    split <;> first | decide | (split <;> first | decide | contradiction)
set_option maxHeartbeats 4000000 in
set_option maxRecDepth 100000 in
theorem k_behindDeed (l : Launch) {a d : Nat → Nat} (ha : Va a) (hd : Va d) : RV l yX0_behindDeed wsX0_behindDeed (2) zNo [.long (enc a), .long (enc d)] (some (.long (enc (comp a d)))) := by
  refine RV.of (cc := cX0_behindDeed) (maxL := 8) (ret := (some .long)) (by decide) rfl (Nat.le_of_ble_eq_true rfl) ?_
  intro p e s m args below meth c hC hr hlk hB ls hl
  have hl : lv_has ls 8 [(0, .long (enc a)), (2, .long (enc d))] := hl
  have loop : ∀ (n i : Nat), i + n = 8 → ∀ ls : Array Slot, lv_has ls 8 [(0, .long (enc a)), (2, .long (enc d)), (4, .long (enc (bd a d i))), (6, .int (nI i))] → W p l e (rD (2) 0 0) s m args below meth c s.heap [] 0 0 (MQ below (RVQ (some (.long (enc (comp a d))))) args s 0 0 (fun _ => False)) (F0 m 6 ls []) := by
    intro n
    induction n with
    | zero =>
      intro i hc0 ls hl
      obtain rfl : i = 8 := by omega
      refine lv_iload hC.1 hC.2.1 dX0_behindDeed_6 (lv_at hl 3 rfl) ?_
      refine lv_bipush (v := (nI 8)) hC.1 hC.2.1 dX0_behindDeed_8 (by decide) ?_
      refine z_icmp_ge (tgt := 55) hC dX0_behindDeed_10 (by decide) (by omega) (by omega) (fun h_10 => ?_) (fun h_10 => by omega)
      refine lv_lload hC.1 hC.2.1 dX0_behindDeed_55 (lv_at hl 2 rfl) ?_
      exact RV.lret hC hr hlk dX0_behindDeed_57 (bd_8 a d)
    | succ n ih =>
      intro i hc0 ls hl
      have hm : d i % 8 < 8 := Nat.mod_lt _ (by decide)
      have hb1 := ha (d i % 8) hm
      have hb2 := hd i (by omega)
      refine lv_iload hC.1 hC.2.1 dX0_behindDeed_6 (lv_at hl 3 rfl) ?_
      refine lv_bipush (v := (nI 8)) hC.1 hC.2.1 dX0_behindDeed_8 (by decide) ?_
      refine z_icmp_ge (tgt := 55) hC dX0_behindDeed_10 (by decide) (by omega) (by omega) (fun h_10 => by omega) (fun h_10 => ?_)
      refine lv_lload_n hC.1 hC.2.1 dX0_behindDeed_13 rfl (lv_at hl 1 rfl) ?_
      refine lv_iload hC.1 hC.2.1 dX0_behindDeed_14 (lv_at hl 3 rfl) ?_
      refine p_cs (n := 2) (k_cornerAt l hd (by omega)) hC gX0_behindDeed_X0_cornerAt rfl (by decide +kernel) rfl ⟨by decide, by decide⟩ ⟨Nat.zero_le _, Nat.zero_le _⟩ hl.1 (Nat.le_of_ble_eq_true rfl) dX0_behindDeed_16 rfl ?_
      refine lv_istore (lv' := [(7, .int (nI (d i % 8))), (0, .long (enc a)), (2, .long (enc d)), (4, .long (enc (bd a d i))), (6, .int (nI i))]) hC.1 hC.2.1 dX0_behindDeed_19 hl (by decide) rfl (fun ls hl => ?_)
      refine lv_lload hC.1 hC.2.1 dX0_behindDeed_21 (lv_at hl 3 rfl) ?_
      refine lv_iload hC.1 hC.2.1 dX0_behindDeed_23 (lv_at hl 4 rfl) ?_
      refine lv_lload_n hC.1 hC.2.1 dX0_behindDeed_25 rfl (lv_at hl 1 rfl) ?_
      refine lv_iload hC.1 hC.2.1 dX0_behindDeed_26 (lv_at hl 0 rfl) ?_
      refine p_cs (n := 2) (k_cornerAt l ha hm) hC gX0_behindDeed_X0_cornerAt rfl (by decide +kernel) rfl ⟨by decide, by decide⟩ ⟨Nat.zero_le _, Nat.zero_le _⟩ hl.1 (Nat.le_of_ble_eq_true rfl) dX0_behindDeed_28 rfl ?_
      refine lv_lload_n hC.1 hC.2.1 dX0_behindDeed_31 rfl (lv_at hl 1 rfl) ?_
      refine lv_iload hC.1 hC.2.1 dX0_behindDeed_32 (lv_at hl 0 rfl) ?_
      refine p_cs (n := 2) (k_twistAt l ha hm) hC gX0_behindDeed_X0_twistAt rfl (by decide +kernel) rfl ⟨by decide, by decide⟩ ⟨Nat.zero_le _, Nat.zero_le _⟩ hl.1 (Nat.le_of_ble_eq_true rfl) dX0_behindDeed_34 rfl ?_
      refine lv_lload_n hC.1 hC.2.1 dX0_behindDeed_37 rfl (lv_at hl 2 rfl) ?_
      refine lv_iload hC.1 hC.2.1 dX0_behindDeed_38 (lv_at hl 4 rfl) ?_
      refine p_cs (n := 2) (k_twistAt l hd (by omega)) hC gX0_behindDeed_X0_twistAt rfl (by decide +kernel) rfl ⟨by decide, by decide⟩ ⟨Nat.zero_le _, Nat.zero_le _⟩ hl.1 (Nat.le_of_ble_eq_true rfl) dX0_behindDeed_40 rfl ?_
      refine z_iadd hC dX0_behindDeed_43 ?_
      refine p_cs (n := 4) (k_withCorner l (bd_Va ha i) (by omega) (Nat.mod_lt _ (by decide)) (by omega)) hC gX0_behindDeed_X0_withCorner rfl (by decide +kernel) rfl ⟨by decide, by decide⟩ ⟨Nat.zero_le _, Nat.zero_le _⟩ hl.1 (Nat.le_of_ble_eq_true rfl) dX0_behindDeed_44 rfl ?_
      refine q_l (enc (bd a d (i + 1))) (bd_step a d i) ?_
      refine lv_lstore (lv' := [(4, .long (enc (bd a d (i + 1)))), (7, .int (nI (d i % 8))), (0, .long (enc a)), (2, .long (enc d)), (6, .int (nI i))]) hC.1 hC.2.1 dX0_behindDeed_47 hl (by decide) rfl (fun ls hl => ?_)
      refine lv_iinc (v := nI (i + 1)) (lv' := [(6, .int (nI (i + 1))), (4, .long (enc (bd a d (i + 1)))), (7, .int (nI (d i % 8))), (0, .long (enc a)), (2, .long (enc d))]) hC.1 hC.2.1 dX0_behindDeed_49 hl (k := 4) rfl (z_inc _) (by decide) rfl (fun ls hl => ?_)
      refine lv_goto (tgt := 6) hC.1 hC.2.1 dX0_behindDeed_52 (by decide) ?_
      exact ih (i + 1) (by omega) ls (lv_sub hl [3, 4, 1, 0] rfl)
  refine lv_lload_n hC.1 hC.2.1 dX0_behindDeed_0 rfl (lv_at hl 0 rfl) ?_
  refine lv_lstore (lv' := [(4, .long (enc a)), (0, .long (enc a)), (2, .long (enc d))]) hC.1 hC.2.1 dX0_behindDeed_1 hl (by decide) rfl (fun ls hl => ?_)
  refine lv_iconst (v := (nI 0)) hC.1 hC.2.1 dX0_behindDeed_3 (by decide) ?_
  refine lv_istore (lv' := [(6, .int (nI 0)), (4, .long (enc a)), (0, .long (enc a)), (2, .long (enc d))]) hC.1 hC.2.1 dX0_behindDeed_4 hl (by decide) rfl (fun ls hl => ?_)
  have e0 : bd a d 0 = a := by funext i; simp [bd]
  exact loop 8 0 rfl ls (by rw [e0]; exact (lv_sub hl [2, 3, 1, 0] rfl))

set_option maxHeartbeats 4000000 in
set_option maxRecDepth 100000 in
theorem k_orderOf (l : Launch) {b : Nat → Nat} (hv : Va b) {N : Nat} (hN : N < 1000) (h1 : ∀ k, k < N → ¬ enc (pw b k) = enc one) (h2 : enc (pw b N) = enc one) : RV l yX0_orderOf wsX0_orderOf (3) zNo [.long (enc b)] (some (.int (nI (N + 1)))) := by
  refine RV.of (cc := cX0_orderOf) (maxL := 5) (ret := (some .int)) (by decide) rfl (Nat.le_of_ble_eq_true rfl) ?_
  intro p e s m args below meth c hC hr hlk hB ls hl
  have hl : lv_has ls 5 [(0, .long (enc b))] := hl
  have loop : ∀ (n k : Nat), k + n = N → ∀ ls : Array Slot, lv_has ls 5 [(0, .long (enc b)), (2, .int (nI (k + 1))), (3, .long (enc (pw b k)))] → W p l e (rD (3) 0 0) s m args below meth c s.heap [] 0 0 (MQ below (RVQ (some (.int (nI (N + 1))))) args s 0 0 (fun _ => False)) (F0 m 4 ls []) := by
    intro n
    induction n with
    | zero =>
      intro k hc0 ls hl
      obtain rfl : k = N := by omega
      refine lv_lload_n hC.1 hC.2.1 dX0_orderOf_4 rfl (lv_at hl 2 rfl) ?_
      refine lv_ldc2 (v := 506097522914230528) hC.1 hC.2.1 hC.2.2.2.1 (hC.2.2.2.2 (.constantLong RX0 9 (506097522914230528)) (by decide +kernel)) dX0_orderOf_5 ?_
      refine q_l (enc one) (enc_one) ?_
      refine W.lcmp hC.1 hC.2.1 dX0_orderOf_8 ?_
      refine lv_if_eq (tgt := 31) hC.1 hC.2.1 dX0_orderOf_9 (by decide) (fun h_9 => ?_) (fun h_9 => absurd (lg0.mpr h2) h_9)
      refine lv_iload_n hC.1 hC.2.1 dX0_orderOf_31 rfl (lv_at hl 1 rfl) ?_
      exact RV.iret hC hr hlk dX0_orderOf_32 (rfl)
    | succ n ih =>
      intro k hc0 ls hl
      refine lv_lload_n hC.1 hC.2.1 dX0_orderOf_4 rfl (lv_at hl 2 rfl) ?_
      refine lv_ldc2 (v := 506097522914230528) hC.1 hC.2.1 hC.2.2.2.1 (hC.2.2.2.2 (.constantLong RX0 9 (506097522914230528)) (by decide +kernel)) dX0_orderOf_5 ?_
      refine q_l (enc one) (enc_one) ?_
      refine W.lcmp hC.1 hC.2.1 dX0_orderOf_8 ?_
      refine lv_if_eq (tgt := 31) hC.1 hC.2.1 dX0_orderOf_9 (by decide) (fun h_9 => absurd (lg0.mp h_9) (h1 k (by omega))) (fun h_9 => ?_)
      refine lv_iload_n hC.1 hC.2.1 dX0_orderOf_12 rfl (lv_at hl 1 rfl) ?_
      refine lv_sipush (v := (nI 1000)) hC.1 hC.2.1 dX0_orderOf_13 (by decide) ?_
      refine z_icmp_ge (tgt := 31) hC dX0_orderOf_16 (by decide) (by omega) (by omega) (fun h_16 => by omega) (fun h_16 => ?_)
      refine lv_lload_n hC.1 hC.2.1 dX0_orderOf_19 rfl (lv_at hl 2 rfl) ?_
      refine lv_lload_n hC.1 hC.2.1 dX0_orderOf_20 rfl (lv_at hl 0 rfl) ?_
      refine p_cs (n := 2) (k_behindDeed l (pw_Va hv k) hv) hC gX0_orderOf_X0_behindDeed rfl (by decide +kernel) rfl ⟨by decide, by decide⟩ ⟨Nat.zero_le _, Nat.zero_le _⟩ hl.1 (Nat.le_of_ble_eq_true rfl) dX0_orderOf_21 rfl ?_
      refine lv_lstore_n (lv' := [(3, .long (enc (pw b (k + 1)))), (0, .long (enc b)), (2, .int (nI (k + 1)))]) hC.1 hC.2.1 dX0_orderOf_24 rfl hl (by decide) rfl (fun ls hl => ?_)
      refine lv_iinc (v := nI (k + 1 + 1)) (lv' := [(2, .int (nI (k + 1 + 1))), (3, .long (enc (pw b (k + 1)))), (0, .long (enc b))]) hC.1 hC.2.1 dX0_orderOf_25 hl (k := 2) rfl (z_inc _) (by decide) rfl (fun ls hl => ?_)
      refine lv_goto (tgt := 4) hC.1 hC.2.1 dX0_orderOf_28 (by decide) ?_
      exact ih (k + 1) (by omega) ls (lv_sub hl [2, 0, 1] rfl)
  refine lv_iconst (v := (nI 1)) hC.1 hC.2.1 dX0_orderOf_0 (by decide) ?_
  refine lv_istore_n (lv' := [(2, .int (nI 1)), (0, .long (enc b))]) hC.1 hC.2.1 dX0_orderOf_1 rfl hl (by decide) rfl (fun ls hl => ?_)
  refine lv_lload_n hC.1 hC.2.1 dX0_orderOf_2 rfl (lv_at hl 1 rfl) ?_
  refine lv_lstore_n (lv' := [(3, .long (enc b)), (2, .int (nI 1)), (0, .long (enc b))]) hC.1 hC.2.1 dX0_orderOf_3 rfl hl (by decide) rfl (fun ls hl => ?_)
  exact loop N 0 (by omega) ls (lv_sub hl [2, 1, 0] rfl)

def msr (n : Nat) : Nat := if n = 1 then 4 else if n = 2 then 6 else 8
theorem msr_lt (n : Nat) : msr n < 2 ^ 31 := by
  unfold msr
  split
  · decide
  · split <;> decide
set_option maxHeartbeats 4000000 in
set_option maxRecDepth 100000 in
theorem k_mostSetRight (l : Launch) {n : Nat} (hn : n < 2 ^ 31) : RV l yX0_mostSetRight wsX0_mostSetRight (1) zNo [.int (nI n)] (some (.int (nI (msr n)))) := by
  refine RV.of (cc := cX0_mostSetRight) (maxL := 1) (ret := (some .int)) (by decide) rfl (Nat.le_of_ble_eq_true rfl) ?_
  intro p e s m args below meth c hC hr hlk hB ls hl
  have hl : lv_has ls 1 [(0, .int (nI n))] := hl
  refine lv_iload_n hC.1 hC.2.1 dX0_mostSetRight_0 rfl (lv_at hl 0 rfl) ?_
  refine lv_iconst (v := (nI 1)) hC.1 hC.2.1 dX0_mostSetRight_1 (by decide) ?_
  refine z_icmp_ne (tgt := 7) hC dX0_mostSetRight_2 (by decide) (by omega) (by omega) (fun h_2 => ?_) (fun h_2 => ?_)
  · refine lv_iload_n hC.1 hC.2.1 dX0_mostSetRight_7 rfl (lv_at hl 0 rfl) ?_
    refine lv_iconst (v := (nI 2)) hC.1 hC.2.1 dX0_mostSetRight_8 (by decide) ?_
    refine z_icmp_ne (tgt := 17) hC dX0_mostSetRight_9 (by decide) (by omega) (by omega) (fun h_9 => ?_) (fun h_9 => ?_)
    · refine lv_bipush (v := (nI 8)) hC.1 hC.2.1 dX0_mostSetRight_17 (by decide) ?_
      exact RV.iret hC hr hlk dX0_mostSetRight_19 (by simp [msr, h_2, h_9])
    · refine lv_bipush (v := (nI 6)) hC.1 hC.2.1 dX0_mostSetRight_12 (by decide) ?_
      refine lv_goto (tgt := 19) hC.1 hC.2.1 dX0_mostSetRight_14 (by decide) ?_
      exact RV.iret hC hr hlk dX0_mostSetRight_19 (by simp [msr, h_9])
  · refine lv_iconst (v := (nI 4)) hC.1 hC.2.1 dX0_mostSetRight_5 (by decide) ?_
    exact RV.iret hC hr hlk dX0_mostSetRight_6 (by simp [msr, h_2])

def anyN (q : Nat → Bool) : Nat → Bool
  | 0 => false
  | n + 1 => anyN q n || q n
theorem anyN_of {q : Nat → Bool} {i : Nat} (h : q i = true) : ∀ n, i < n → anyN q n = true
  | 0, hi => absurd hi (by omega)
  | n + 1, hi => by
    show (anyN q n || q n) = true
    by_cases e : i = n
    · subst e; simp [h]
    · rw [anyN_of h n (by omega)]; rfl
theorem anyN_ex {q : Nat → Bool} : ∀ n, anyN q n = true → ∃ i, i < n ∧ q i = true
  | 0, h => by simp [anyN] at h
  | n + 1, h => by
    have h : (anyN q n || q n) = true := h
    rcases Bool.or_eq_true_iff.mp h with h | h
    · obtain ⟨i, hi, hq⟩ := anyN_ex n h
      exact ⟨i, by omega, hq⟩
    · exact ⟨n, by omega, h⟩
theorem anyN_no {q : Nat → Bool} {n : Nat} (h : anyN q n = false) (h2 : q n = false) : anyN q (n + 1) = false := by
  show (anyN q n || q n) = false
  rw [h, h2]; rfl
def bI (x : Bool) : Nat := if x = true then 1 else 0
theorem bI_t : bI true = 1 := rfl
theorem bI_f : bI false = 0 := rfl
theorem bI_0 {x : Bool} : bI x = 0 ↔ x = false := by cases x <;> simp [bI]
theorem bI_n0 {x : Bool} : ¬ bI x = 0 ↔ x = true := by cases x <;> simp [bI]
theorem bI_lt (x : Bool) : bI x < 2 ^ 31 := by cases x <;> decide
def is1 (b : Nat → Nat) : Bool := decide (enc b = enc one)
/-- within n turns, the first not of the face lf (3: any) -/
def wi : Nat → (Nat → Nat) → Nat → Bool
  | 0 => fun b _ => is1 b
  | n + 1 => fun b lf => is1 b || (decide (8 - ct (fun i => decide (b i = i)) 8 ≤ msr (n + 1)) && anyN (fun f => !(decide (f = lf)) && anyN (fun j => wi n (itq f b (j + 1)) f) 3) 3)
def lastI (lf : Nat) : Int32 := if lf < 3 then nI lf else -1
theorem lastI_lt {lf : Nat} (h : lf < 3) : lastI lf = nI lf := if_pos h
theorem lastI_eq {f lf : Nat} (hf : f < 3) (hl : lf ≤ 3) : nI f = lastI lf ↔ f = lf := by
  rcases (by omega : f = 0 ∨ f = 1 ∨ f = 2) with rfl | rfl | rfl <;> rcases (by omega : lf = 0 ∨ lf = 1 ∨ lf = 2 ∨ lf = 3) with rfl | rfl | rfl | rfl <;> decide
set_option maxHeartbeats 4000000 in
set_option maxRecDepth 100000 in
theorem k_within (l : Launch) : ∀ (n : Nat) {b : Nat → Nat} (hv : Va b) {lf : Nat} (hlf : lf ≤ 3) (hn : n < 6), RV l yX0_isRightWithin wsX0_isRightWithin (6 + 2 * n) zNo [.long (enc b), .int (nI n), .int (lastI lf)] (some (.int (nI (bI (wi n b lf))))) := by
  intro n
  induction n with
  | zero =>
    intro b hv lf hlf hn
    refine RV.of (cc := cX0_isRightWithin) (maxL := 5) (ret := (some .boolean)) (by decide) rfl (Nat.le_of_ble_eq_true rfl) ?_
    intro p e s m args below meth c hC hr hlk hB ls hl
    have hl : lv_has ls 5 [(0, .long (enc b)), (2, .int (nI 0)), (3, .int (lastI lf))] := hl
    refine lv_lload_n hC.1 hC.2.1 dX0_isRightWithin_0 rfl (lv_at hl 0 rfl) ?_
    refine lv_ldc2 (v := 506097522914230528) hC.1 hC.2.1 hC.2.2.2.1 (hC.2.2.2.2 (.constantLong RX0 9 (506097522914230528)) (by decide +kernel)) dX0_isRightWithin_1 ?_
    refine q_l (enc one) (enc_one) ?_
    refine W.lcmp hC.1 hC.2.1 dX0_isRightWithin_4 ?_
    refine lv_if_ne (tgt := 10) hC.1 hC.2.1 dX0_isRightWithin_5 (by decide) (fun h_5 => ?_) (fun h_5 => ?_)
    · refine lv_iload_n hC.1 hC.2.1 dX0_isRightWithin_10 rfl (lv_at hl 1 rfl) ?_
      refine z_if_le (tgt := 25) hC dX0_isRightWithin_11 (by decide) (by omega) (fun h_11 => ?_) (fun h_11 => absurd h_11 (by omega))
      refine lv_iconst (v := (nI 0)) hC.1 hC.2.1 dX0_isRightWithin_25 (by decide) ?_
      exact RV.zret hC hr hlk dX0_isRightWithin_26 (by show nI 0 = nI (bI (is1 b)); rw [show is1 b = false from decide_eq_false (fun q => h_5 (lg0.mpr q))]; rfl) (by decide)
    · refine lv_iconst (v := (nI 1)) hC.1 hC.2.1 dX0_isRightWithin_8 (by decide) ?_
      exact RV.zret hC hr hlk dX0_isRightWithin_9 (by show nI 1 = nI (bI (is1 b)); rw [show is1 b = true from decide_eq_true (lg0.mp h_5)]; rfl) (by decide)
  | succ k ih =>
    intro b hv lf hlf hn
    have hBeg : ∀ {b : Nat → Nat} (hv : Va b) {f : Nat} (hf : f < 3), RV l yX0_isRightBeginning wsX0_isRightBeginning (7 + 2 * k) zNo [.long (enc b), .int (nI f), .int (nI (k + 1))] (some (.int (nI (bI (anyN (fun j => wi k (itq f b (j + 1)) f) 3))))) := by
      intro b hv f hf
      refine RV.of (cc := cX0_isRightBeginning) (maxL := 7) (ret := (some .boolean)) (by decide) rfl (Nat.le_of_ble_eq_true rfl) ?_
      intro p e s m args below meth c hC hr hlk hB ls hl
      have hl : lv_has ls 7 [(0, .long (enc b)), (2, .int (nI f)), (3, .int (nI (k + 1)))] := hl
      have loop : ∀ (n j : Nat), j + n = 3 → anyN (fun j => wi k (itq f b (j + 1)) f) j = false → ∀ ls : Array Slot, lv_has ls 7 [(0, .long (enc b)), (2, .int (nI f)), (3, .int (nI (k + 1))), (4, .long (enc (itq f b j))), (6, .int (nI (j + 1)))] → W p l e (rD (7 + 2 * k) 0 0) s m args below meth c s.heap [] 0 0 (MQ below (RVQ (some (.int (nI (bI (anyN (fun j => wi k (itq f b (j + 1)) f) 3)))))) args s 0 0 (fun _ => False)) (F0 m 6 ls []) := by
        intro n
        induction n with
        | zero =>
          intro j hc0 hc1 ls hl
          obtain rfl : j = 3 := by omega
          refine lv_iload hC.1 hC.2.1 dX0_isRightBeginning_6 (lv_at hl 4 rfl) ?_
          refine lv_iconst (v := (nI 4)) hC.1 hC.2.1 dX0_isRightBeginning_8 (by decide) ?_
          refine z_icmp_ge (tgt := 40) hC dX0_isRightBeginning_9 (by decide) (by omega) (by omega) (fun h_9 => ?_) (fun h_9 => by omega)
          refine lv_iconst (v := (nI 0)) hC.1 hC.2.1 dX0_isRightBeginning_40 (by decide) ?_
          exact RV.zret hC hr hlk dX0_isRightBeginning_41 (by rw [hc1]; rfl) (by decide)
        | succ n ih2 =>
          intro j hc0 hc1 ls hl
          refine lv_iload hC.1 hC.2.1 dX0_isRightBeginning_6 (lv_at hl 4 rfl) ?_
          refine lv_iconst (v := (nI 4)) hC.1 hC.2.1 dX0_isRightBeginning_8 (by decide) ?_
          refine z_icmp_ge (tgt := 40) hC dX0_isRightBeginning_9 (by decide) (by omega) (by omega) (fun h_9 => by omega) (fun h_9 => ?_)
          refine lv_lload hC.1 hC.2.1 dX0_isRightBeginning_12 (lv_at hl 3 rfl) ?_
          refine lv_iload_n hC.1 hC.2.1 dX0_isRightBeginning_14 rfl (lv_at hl 1 rfl) ?_
          refine p_cs (n := 2) (k_quarterTurned l (itq_Va hv j) hf) hC gX0_isRightBeginning_X0_quarterTurned rfl (by decide +kernel) rfl ⟨by simp only [rD]; omega, by simp only [rD]; omega⟩ ⟨Nat.zero_le _, Nat.zero_le _⟩ hl.1 (Nat.le_of_ble_eq_true rfl) dX0_isRightBeginning_15 rfl ?_
          refine lv_lstore (lv' := [(4, .long (enc (itq f b (j + 1)))), (0, .long (enc b)), (2, .int (nI f)), (3, .int (nI (k + 1))), (6, .int (nI (j + 1)))]) hC.1 hC.2.1 dX0_isRightBeginning_18 hl (by decide) rfl (fun ls hl => ?_)
          refine lv_lload hC.1 hC.2.1 dX0_isRightBeginning_20 (lv_at hl 0 rfl) ?_
          refine lv_iload_n hC.1 hC.2.1 dX0_isRightBeginning_22 rfl (lv_at hl 3 rfl) ?_
          refine lv_iconst (v := (nI 1)) hC.1 hC.2.1 dX0_isRightBeginning_23 (by decide) ?_
          refine z_isub hC dX0_isRightBeginning_24 (by omega) ?_
          refine q_i (nI k) (by rfl) ?_
          refine lv_iload_n hC.1 hC.2.1 dX0_isRightBeginning_25 rfl (lv_at hl 2 rfl) ?_
          refine q_i (lastI f) ((lastI_lt hf).symm) ?_
          refine p_cs (n := 3) (ih (itq_Va hv (j + 1)) (by omega : f ≤ 3) (by omega)) hC gX0_isRightBeginning_X0_isRightWithin rfl (by decide +kernel) rfl ⟨by simp only [rD]; omega, by simp only [rD]; omega⟩ ⟨Nat.zero_le _, Nat.zero_le _⟩ hl.1 (Nat.le_of_ble_eq_true rfl) dX0_isRightBeginning_26 rfl ?_
          refine z_if_eq (tgt := 34) hC dX0_isRightBeginning_29 (by decide) (bI_lt _) (fun h_29 => ?_) (fun h_29 => ?_)
          · refine lv_iinc (v := nI (j + 1 + 1)) (lv' := [(6, .int (nI (j + 1 + 1))), (4, .long (enc (itq f b (j + 1)))), (0, .long (enc b)), (2, .int (nI f)), (3, .int (nI (k + 1)))]) hC.1 hC.2.1 dX0_isRightBeginning_34 hl (k := 4) rfl (z_inc _) (by decide) rfl (fun ls hl => ?_)
            refine lv_goto (tgt := 6) hC.1 hC.2.1 dX0_isRightBeginning_37 (by decide) ?_
            exact ih2 (j + 1) (by omega) (anyN_no hc1 (bI_0.mp h_29)) ls (lv_sub hl [2, 3, 4, 1, 0] rfl)
          · refine lv_iconst (v := (nI 1)) hC.1 hC.2.1 dX0_isRightBeginning_32 (by decide) ?_
            exact RV.zret hC hr hlk dX0_isRightBeginning_33 (by rw [anyN_of (i := j) (q := (fun j => wi k (itq f b (j + 1)) f)) (bI_n0.mp h_29) 3 (by omega)]; rfl) (by decide)
      refine lv_lload_n hC.1 hC.2.1 dX0_isRightBeginning_0 rfl (lv_at hl 0 rfl) ?_
      refine lv_lstore (lv' := [(4, .long (enc b)), (0, .long (enc b)), (2, .int (nI f)), (3, .int (nI (k + 1)))]) hC.1 hC.2.1 dX0_isRightBeginning_1 hl (by decide) rfl (fun ls hl => ?_)
      refine lv_iconst (v := (nI 1)) hC.1 hC.2.1 dX0_isRightBeginning_3 (by decide) ?_
      refine lv_istore (lv' := [(6, .int (nI 1)), (4, .long (enc b)), (0, .long (enc b)), (2, .int (nI f)), (3, .int (nI (k + 1)))]) hC.1 hC.2.1 dX0_isRightBeginning_4 hl (by decide) rfl (fun ls hl => ?_)
      exact loop 3 0 (by omega) rfl ls (lv_sub hl [2, 3, 4, 1, 0] rfl)
    refine RV.of (cc := cX0_isRightWithin) (maxL := 5) (ret := (some .boolean)) (by decide) rfl (Nat.le_of_ble_eq_true rfl) ?_
    intro p e s m args below meth c hC hr hlk hB ls hl
    have hl : lv_has ls 5 [(0, .long (enc b)), (2, .int (nI (k + 1))), (3, .int (lastI lf))] := hl
    have loop : is1 b = false → 8 - ct (fun i => decide (b i = i)) 8 ≤ msr (k + 1) → ∀ (n f : Nat), f + n = 3 → anyN (fun f => !(decide (f = lf)) && anyN (fun j => wi k (itq f b (j + 1)) f) 3) f = false → ∀ ls : Array Slot, lv_has ls 5 [(0, .long (enc b)), (2, .int (nI (k + 1))), (3, .int (lastI lf)), (4, .int (nI f))] → W p l e (rD (6 + 2 * (k + 1)) 0 0) s m args below meth c s.heap [] 0 0 (MQ below (RVQ (some (.int (nI (bI (wi (k + 1) b lf)))))) args s 0 0 (fun _ => False)) (F0 m 30 ls []) := by
      intro hs hle n
      induction n with
      | zero =>
        intro f hc0 hc1 ls hl
        obtain rfl : f = 3 := by omega
        refine lv_iload hC.1 hC.2.1 dX0_isRightWithin_30 (lv_at hl 3 rfl) ?_
        refine lv_iconst (v := (nI 3)) hC.1 hC.2.1 dX0_isRightWithin_32 (by decide) ?_
        refine z_icmp_ge (tgt := 60) hC dX0_isRightWithin_33 (by decide) (by omega) (by omega) (fun h_33 => ?_) (fun h_33 => by omega)
        refine lv_iconst (v := (nI 0)) hC.1 hC.2.1 dX0_isRightWithin_60 (by decide) ?_
        exact RV.zret hC hr hlk dX0_isRightWithin_61 (by show _ = nI (bI (is1 b || (decide (8 - ct (fun i => decide (b i = i)) 8 ≤ msr (k + 1)) && anyN (fun f => !(decide (f = lf)) && anyN (fun j => wi k (itq f b (j + 1)) f) 3) 3))); rw [hs, hc1]; simp [bI]) (by decide)
      | succ n ih2 =>
        intro f hc0 hc1 ls hl
        refine lv_iload hC.1 hC.2.1 dX0_isRightWithin_30 (lv_at hl 3 rfl) ?_
        refine lv_iconst (v := (nI 3)) hC.1 hC.2.1 dX0_isRightWithin_32 (by decide) ?_
        refine z_icmp_ge (tgt := 60) hC dX0_isRightWithin_33 (by decide) (by omega) (by omega) (fun h_33 => by omega) (fun h_33 => ?_)
        refine lv_iload hC.1 hC.2.1 dX0_isRightWithin_36 (lv_at hl 3 rfl) ?_
        refine lv_iload_n hC.1 hC.2.1 dX0_isRightWithin_38 rfl (lv_at hl 2 rfl) ?_
        refine lv_icmp_eq (tgt := 54) hC.1 hC.2.1 dX0_isRightWithin_39 (by decide) (fun h_39 => ?_) (fun h_39 => ?_)
        · refine lv_iinc (v := nI (f + 1)) (lv' := [(4, .int (nI (f + 1))), (0, .long (enc b)), (2, .int (nI (k + 1))), (3, .int (lastI lf))]) hC.1 hC.2.1 dX0_isRightWithin_54 hl (k := 3) rfl (z_inc _) (by decide) rfl (fun ls hl => ?_)
          refine lv_goto (tgt := 30) hC.1 hC.2.1 dX0_isRightWithin_57 (by decide) ?_
          exact ih2 (f + 1) (by omega) (anyN_no hc1 (by have e1 := (lastI_eq (by omega) hlf).mp h_39; simp [e1])) ls (lv_sub hl [1, 2, 3, 0] rfl)
        · refine lv_lload_n hC.1 hC.2.1 dX0_isRightWithin_42 rfl (lv_at hl 0 rfl) ?_
          refine lv_iload hC.1 hC.2.1 dX0_isRightWithin_43 (lv_at hl 3 rfl) ?_
          refine lv_iload_n hC.1 hC.2.1 dX0_isRightWithin_45 rfl (lv_at hl 1 rfl) ?_
          refine p_cs (n := 3) (hBeg hv (by omega : f < 3)) hC gX0_isRightWithin_X0_isRightBeginning rfl (by decide +kernel) rfl ⟨by simp only [rD]; omega, by simp only [rD]; omega⟩ ⟨Nat.zero_le _, Nat.zero_le _⟩ hl.1 (Nat.le_of_ble_eq_true rfl) dX0_isRightWithin_46 rfl ?_
          refine z_if_eq (tgt := 54) hC dX0_isRightWithin_49 (by decide) (bI_lt _) (fun h_49 => ?_) (fun h_49 => ?_)
          · refine lv_iinc (v := nI (f + 1)) (lv' := [(4, .int (nI (f + 1))), (0, .long (enc b)), (2, .int (nI (k + 1))), (3, .int (lastI lf))]) hC.1 hC.2.1 dX0_isRightWithin_54 hl (k := 3) rfl (z_inc _) (by decide) rfl (fun ls hl => ?_)
            refine lv_goto (tgt := 30) hC.1 hC.2.1 dX0_isRightWithin_57 (by decide) ?_
            exact ih2 (f + 1) (by omega) (anyN_no hc1 (by have e1 := bI_0.mp h_49; simp [e1])) ls (lv_sub hl [1, 2, 3, 0] rfl)
          · refine lv_iconst (v := (nI 1)) hC.1 hC.2.1 dX0_isRightWithin_52 (by decide) ?_
            exact RV.zret hC hr hlk dX0_isRightWithin_53 (by show _ = nI (bI (is1 b || (decide (8 - ct (fun i => decide (b i = i)) 8 ≤ msr (k + 1)) && anyN (fun f => !(decide (f = lf)) && anyN (fun j => wi k (itq f b (j + 1)) f) 3) 3))); rw [hs, decide_eq_true hle, anyN_of (i := f) (q := (fun f => !(decide (f = lf)) && anyN (fun j => wi k (itq f b (j + 1)) f) 3)) (by have e1 := bI_n0.mp h_49; have e2 : ¬ f = lf := fun q => h_39 ((lastI_eq (by omega) hlf).mpr q); simp [e1, e2]) 3 (by omega)]; rfl) (by decide)
    refine lv_lload_n hC.1 hC.2.1 dX0_isRightWithin_0 rfl (lv_at hl 0 rfl) ?_
    refine lv_ldc2 (v := 506097522914230528) hC.1 hC.2.1 hC.2.2.2.1 (hC.2.2.2.2 (.constantLong RX0 9 (506097522914230528)) (by decide +kernel)) dX0_isRightWithin_1 ?_
    refine q_l (enc one) (enc_one) ?_
    refine W.lcmp hC.1 hC.2.1 dX0_isRightWithin_4 ?_
    refine lv_if_ne (tgt := 10) hC.1 hC.2.1 dX0_isRightWithin_5 (by decide) (fun h_5 => ?_) (fun h_5 => ?_)
    · have hs : is1 b = false := decide_eq_false (fun q => h_5 (lg0.mpr q))
      refine lv_iload_n hC.1 hC.2.1 dX0_isRightWithin_10 rfl (lv_at hl 1 rfl) ?_
      refine z_if_le (tgt := 25) hC dX0_isRightWithin_11 (by decide) (by omega) (fun h_11 => by omega) (fun h_11 => ?_)
      refine lv_lload_n hC.1 hC.2.1 dX0_isRightWithin_14 rfl (lv_at hl 0 rfl) ?_
      refine p_cs (n := 1) (k_wrongCorners l hv) hC gX0_isRightWithin_X0_wrongCorners rfl (by decide +kernel) rfl ⟨by simp only [rD]; omega, by simp only [rD]; omega⟩ ⟨Nat.zero_le _, Nat.zero_le _⟩ hl.1 (Nat.le_of_ble_eq_true rfl) dX0_isRightWithin_15 rfl ?_
      refine lv_iload_n hC.1 hC.2.1 dX0_isRightWithin_18 rfl (lv_at hl 1 rfl) ?_
      refine p_cs (n := 1) (k_mostSetRight l (by omega)) hC gX0_isRightWithin_X0_mostSetRight rfl (by decide +kernel) rfl ⟨by simp only [rD]; omega, by simp only [rD]; omega⟩ ⟨Nat.zero_le _, Nat.zero_le _⟩ hl.1 (Nat.le_of_ble_eq_true rfl) dX0_isRightWithin_19 rfl ?_
      refine z_icmp_le (tgt := 27) hC dX0_isRightWithin_22 (by decide) (by first | exact msr_lt _ | omega) (by first | exact msr_lt _ | omega) (fun h_22 => ?_) (fun h_22 => ?_)
      · refine lv_iconst (v := (nI 0)) hC.1 hC.2.1 dX0_isRightWithin_27 (by decide) ?_
        refine lv_istore (lv' := [(4, .int (nI 0)), (0, .long (enc b)), (2, .int (nI (k + 1))), (3, .int (lastI lf))]) hC.1 hC.2.1 dX0_isRightWithin_28 hl (by decide) rfl (fun ls hl => ?_)
        exact loop hs h_22 3 0 (by omega) rfl ls (lv_sub hl [1, 2, 3, 0] rfl)
      · refine lv_iconst (v := (nI 0)) hC.1 hC.2.1 dX0_isRightWithin_25 (by decide) ?_
        exact RV.zret hC hr hlk dX0_isRightWithin_26 (by show _ = nI (bI (is1 b || (decide (8 - ct (fun i => decide (b i = i)) 8 ≤ msr (k + 1)) && anyN (fun f => !(decide (f = lf)) && anyN (fun j => wi k (itq f b (j + 1)) f) 3) 3))); rw [hs, decide_eq_false (by omega : ¬ 8 - ct (fun i => decide (b i = i)) 8 ≤ msr (k + 1))]; rfl) (by decide)
    · refine lv_iconst (v := (nI 1)) hC.1 hC.2.1 dX0_isRightWithin_8 (by decide) ?_
      exact RV.zret hC hr hlk dX0_isRightWithin_9 (by show _ = nI (bI (is1 b || (decide (8 - ct (fun i => decide (b i = i)) 8 ≤ msr (k + 1)) && anyN (fun f => !(decide (f = lf)) && anyN (fun j => wi k (itq f b (j + 1)) f) 3) 3))); rw [show is1 b = true from decide_eq_true (lg0.mp h_5)]; rfl) (by decide)

set_option maxHeartbeats 4000000 in
set_option maxRecDepth 100000 in
theorem k_fewest (l : Launch) {b : Nat → Nat} (hv : Va b) {most : Nat} (hm : most ≤ 5) {N : Nat} (hN : N ≤ most) (h1 : ∀ k, k < N → wi k b 3 = false) (h2 : wi N b 3 = true) : RV l yX0_fewestTurns wsX0_fewestTurns (20) zNo [.long (enc b), .int (nI most)] (some (.int (nI N))) := by
  refine RV.of (cc := cX0_fewestTurns) (maxL := 4) (ret := (some .int)) (by decide) rfl (Nat.le_of_ble_eq_true rfl) ?_
  intro p e s m args below meth c hC hr hlk hB ls hl
  have hl : lv_has ls 4 [(0, .long (enc b)), (2, .int (nI most))] := hl
  have loop : ∀ (n k : Nat), k + n = N → ∀ ls : Array Slot, lv_has ls 4 [(0, .long (enc b)), (2, .int (nI most)), (3, .int (nI k))] → W p l e (rD (20) 0 0) s m args below meth c s.heap [] 0 0 (MQ below (RVQ (some (.int (nI N)))) args s 0 0 (fun _ => False)) (F0 m 2 ls []) := by
    intro n
    induction n with
    | zero =>
      intro k hc0 ls hl
      obtain rfl : k = N := by omega
      refine lv_iload_n hC.1 hC.2.1 dX0_fewestTurns_2 rfl (lv_at hl 2 rfl) ?_
      refine lv_iload_n hC.1 hC.2.1 dX0_fewestTurns_3 rfl (lv_at hl 1 rfl) ?_
      refine z_icmp_gt (tgt := 24) hC dX0_fewestTurns_4 (by decide) (by omega) (by omega) (fun h_4 => by omega) (fun h_4 => ?_)
      refine lv_lload_n hC.1 hC.2.1 dX0_fewestTurns_7 rfl (lv_at hl 0 rfl) ?_
      refine lv_iload_n hC.1 hC.2.1 dX0_fewestTurns_8 rfl (lv_at hl 2 rfl) ?_
      refine lv_iconst (v := (-1)) hC.1 hC.2.1 dX0_fewestTurns_9 (by decide) ?_
      refine q_i (lastI 3) (by decide) ?_
      refine p_cs (n := 3) (k_within l k hv (lf := 3) (by decide) (by omega)) hC gX0_fewestTurns_X0_isRightWithin rfl (by decide +kernel) rfl ⟨by simp only [rD]; omega, by simp only [rD]; omega⟩ ⟨Nat.zero_le _, Nat.zero_le _⟩ hl.1 (Nat.le_of_ble_eq_true rfl) dX0_fewestTurns_10 rfl ?_
      refine z_if_eq (tgt := 18) hC dX0_fewestTurns_13 (by decide) (bI_lt _) (fun h_13 => absurd (bI_0.mp h_13) (by simp [h2])) (fun h_13 => ?_)
      refine lv_iload_n hC.1 hC.2.1 dX0_fewestTurns_16 rfl (lv_at hl 2 rfl) ?_
      exact RV.iret hC hr hlk dX0_fewestTurns_17 (rfl)
    | succ n ih =>
      intro k hc0 ls hl
      refine lv_iload_n hC.1 hC.2.1 dX0_fewestTurns_2 rfl (lv_at hl 2 rfl) ?_
      refine lv_iload_n hC.1 hC.2.1 dX0_fewestTurns_3 rfl (lv_at hl 1 rfl) ?_
      refine z_icmp_gt (tgt := 24) hC dX0_fewestTurns_4 (by decide) (by omega) (by omega) (fun h_4 => by omega) (fun h_4 => ?_)
      refine lv_lload_n hC.1 hC.2.1 dX0_fewestTurns_7 rfl (lv_at hl 0 rfl) ?_
      refine lv_iload_n hC.1 hC.2.1 dX0_fewestTurns_8 rfl (lv_at hl 2 rfl) ?_
      refine lv_iconst (v := (-1)) hC.1 hC.2.1 dX0_fewestTurns_9 (by decide) ?_
      refine q_i (lastI 3) (by decide) ?_
      refine p_cs (n := 3) (k_within l k hv (lf := 3) (by decide) (by omega)) hC gX0_fewestTurns_X0_isRightWithin rfl (by decide +kernel) rfl ⟨by simp only [rD]; omega, by simp only [rD]; omega⟩ ⟨Nat.zero_le _, Nat.zero_le _⟩ hl.1 (Nat.le_of_ble_eq_true rfl) dX0_fewestTurns_10 rfl ?_
      refine z_if_eq (tgt := 18) hC dX0_fewestTurns_13 (by decide) (bI_lt _) (fun h_13 => ?_) (fun h_13 => absurd (bI_n0.mp h_13) (by simp [h1 k (by omega)]))
      refine lv_iinc (v := nI (k + 1)) (lv' := [(3, .int (nI (k + 1))), (0, .long (enc b)), (2, .int (nI most))]) hC.1 hC.2.1 dX0_fewestTurns_18 hl (k := 2) rfl (z_inc _) (by decide) rfl (fun ls hl => ?_)
      refine lv_goto (tgt := 2) hC.1 hC.2.1 dX0_fewestTurns_21 (by decide) ?_
      exact ih (k + 1) (by omega) ls (lv_sub hl [1, 2, 0] rfl)
  refine lv_iconst (v := (nI 0)) hC.1 hC.2.1 dX0_fewestTurns_0 (by decide) ?_
  refine lv_istore_n (lv' := [(3, .int (nI 0)), (0, .long (enc b)), (2, .int (nI most))]) hC.1 hC.2.1 dX0_fewestTurns_1 rfl hl (by decide) rfl (fun ls hl => ?_)
  exact loop N 0 (by omega) ls (lv_sub hl [1, 2, 0] rfl)

set_option maxHeartbeats 4000000 in
set_option maxRecDepth 100000 in
theorem k_fewestN (l : Launch) {b : Nat → Nat} (hv : Va b) {most : Nat} (hm : most ≤ 5) (h1 : ∀ k, k ≤ most → wi k b 3 = false) : RV l yX0_fewestTurns wsX0_fewestTurns (20) zNo [.long (enc b), .int (nI most)] (some (.int (-1))) := by
  refine RV.of (cc := cX0_fewestTurns) (maxL := 4) (ret := (some .int)) (by decide) rfl (Nat.le_of_ble_eq_true rfl) ?_
  intro p e s m args below meth c hC hr hlk hB ls hl
  have hl : lv_has ls 4 [(0, .long (enc b)), (2, .int (nI most))] := hl
  have loop : ∀ (n k : Nat), k + n = most + 1 → ∀ ls : Array Slot, lv_has ls 4 [(0, .long (enc b)), (2, .int (nI most)), (3, .int (nI k))] → W p l e (rD (20) 0 0) s m args below meth c s.heap [] 0 0 (MQ below (RVQ (some (.int (-1)))) args s 0 0 (fun _ => False)) (F0 m 2 ls []) := by
    intro n
    induction n with
    | zero =>
      intro k hc0 ls hl
      obtain rfl : k = most + 1 := by omega
      refine lv_iload_n hC.1 hC.2.1 dX0_fewestTurns_2 rfl (lv_at hl 2 rfl) ?_
      refine lv_iload_n hC.1 hC.2.1 dX0_fewestTurns_3 rfl (lv_at hl 1 rfl) ?_
      refine z_icmp_gt (tgt := 24) hC dX0_fewestTurns_4 (by decide) (by omega) (by omega) (fun h_4 => ?_) (fun h_4 => by omega)
      refine lv_iconst (v := (-1)) hC.1 hC.2.1 dX0_fewestTurns_24 (by decide) ?_
      exact RV.iret hC hr hlk dX0_fewestTurns_25 (rfl)
    | succ n ih =>
      intro k hc0 ls hl
      refine lv_iload_n hC.1 hC.2.1 dX0_fewestTurns_2 rfl (lv_at hl 2 rfl) ?_
      refine lv_iload_n hC.1 hC.2.1 dX0_fewestTurns_3 rfl (lv_at hl 1 rfl) ?_
      refine z_icmp_gt (tgt := 24) hC dX0_fewestTurns_4 (by decide) (by omega) (by omega) (fun h_4 => by omega) (fun h_4 => ?_)
      refine lv_lload_n hC.1 hC.2.1 dX0_fewestTurns_7 rfl (lv_at hl 0 rfl) ?_
      refine lv_iload_n hC.1 hC.2.1 dX0_fewestTurns_8 rfl (lv_at hl 2 rfl) ?_
      refine lv_iconst (v := (-1)) hC.1 hC.2.1 dX0_fewestTurns_9 (by decide) ?_
      refine q_i (lastI 3) (by decide) ?_
      refine p_cs (n := 3) (k_within l k hv (lf := 3) (by decide) (by omega)) hC gX0_fewestTurns_X0_isRightWithin rfl (by decide +kernel) rfl ⟨by simp only [rD]; omega, by simp only [rD]; omega⟩ ⟨Nat.zero_le _, Nat.zero_le _⟩ hl.1 (Nat.le_of_ble_eq_true rfl) dX0_fewestTurns_10 rfl ?_
      refine z_if_eq (tgt := 18) hC dX0_fewestTurns_13 (by decide) (bI_lt _) (fun h_13 => ?_) (fun h_13 => absurd (bI_n0.mp h_13) (by simp [h1 k (by omega)]))
      refine lv_iinc (v := nI (k + 1)) (lv' := [(3, .int (nI (k + 1))), (0, .long (enc b)), (2, .int (nI most))]) hC.1 hC.2.1 dX0_fewestTurns_18 hl (k := 2) rfl (z_inc _) (by decide) rfl (fun ls hl => ?_)
      refine lv_goto (tgt := 2) hC.1 hC.2.1 dX0_fewestTurns_21 (by decide) ?_
      exact ih (k + 1) (by omega) ls (lv_sub hl [1, 2, 0] rfl)
  refine lv_iconst (v := (nI 0)) hC.1 hC.2.1 dX0_fewestTurns_0 (by decide) ?_
  refine lv_istore_n (lv' := [(3, .int (nI 0)), (0, .long (enc b)), (2, .int (nI most))]) hC.1 hC.2.1 dX0_fewestTurns_1 rfl hl (by decide) rfl (fun ls hl => ?_)
  exact loop (most + 1) 0 (by omega) ls (lv_sub hl [1, 2, 0] rfl)

theorem invs_lt (b : Nat → Nat) : ∀ n, n ≤ 8 → invs b n ≤ 8 * n
  | 0, _ => by simp [invs]
  | n + 1, h => by
    have h1 := invs_lt b n (by omega)
    have h2 : pairsTo b n (7 - n) ≤ 7 - n := ct_le _ _
    show invs b n + pairsTo b n (7 - n) ≤ _
    omega
set_option maxHeartbeats 4000000 in
set_option maxRecDepth 100000 in
theorem k_pairs (l : Launch) {b : Nat → Nat} (hv : Va b) : RV l yX0_pairsOutOfOrder wsX0_pairsOutOfOrder (2) zNo [.long (enc b)] (some (.int (nI (invs b 8)))) := by
  refine RV.of (cc := cX0_pairsOutOfOrder) (maxL := 5) (ret := (some .int)) (by decide) rfl (Nat.le_of_ble_eq_true rfl) ?_
  intro p e s m args below meth c hC hr hlk hB ls hl
  have hl : lv_has ls 5 [(0, .long (enc b))] := hl
  have outer : ∀ (n i : Nat), i + n = 8 → ∀ ls : Array Slot, lv_has ls 5 [(0, .long (enc b)), (2, .int (nI (invs b i))), (3, .int (nI i))] → W p l e (rD (2) 0 0) s m args below meth c s.heap [] 0 0 (MQ below (RVQ (some (.int (nI (invs b 8))))) args s 0 0 (fun _ => False)) (F0 m 4 ls []) := by
    intro n
    induction n with
    | zero =>
      intro i hc0 ls hl
      obtain rfl : i = 8 := by omega
      refine lv_iload_n hC.1 hC.2.1 dX0_pairsOutOfOrder_4 rfl (lv_at hl 2 rfl) ?_
      refine lv_bipush (v := (nI 8)) hC.1 hC.2.1 dX0_pairsOutOfOrder_5 (by decide) ?_
      refine z_icmp_ge (tgt := 51) hC dX0_pairsOutOfOrder_7 (by decide) (by omega) (by omega) (fun h_7 => ?_) (fun h_7 => by omega)
      refine lv_iload_n hC.1 hC.2.1 dX0_pairsOutOfOrder_51 rfl (lv_at hl 1 rfl) ?_
      exact RV.iret hC hr hlk dX0_pairsOutOfOrder_52 (rfl)
    | succ n ih =>
      intro i hc0 ls hl
      have inner : ∀ (n2 k : Nat), k + n2 = 7 - i → ∀ ls : Array Slot, lv_has ls 5 [(0, .long (enc b)), (2, .int (nI (invs b i + pairsTo b i k))), (3, .int (nI i)), (4, .int (nI (i + 1 + k)))] → W p l e (rD (2) 0 0) s m args below meth c s.heap [] 0 0 (MQ below (RVQ (some (.int (nI (invs b 8))))) args s 0 0 (fun _ => False)) (F0 m 15 ls []) := by
        intro n2
        induction n2 with
        | zero =>
          intro k hk ls hl
          have hk7 : k = 7 - i := by omega
          refine lv_iload hC.1 hC.2.1 dX0_pairsOutOfOrder_15 (lv_at hl 3 rfl) ?_
          refine lv_bipush (v := (nI 8)) hC.1 hC.2.1 dX0_pairsOutOfOrder_17 (by decide) ?_
          refine z_icmp_ge (tgt := 45) hC dX0_pairsOutOfOrder_19 (by decide) (by omega) (by omega) (fun h_19 => ?_) (fun h_19 => by omega)
          refine lv_iinc (v := nI (i + 1)) (lv' := [(3, .int (nI (i + 1))), (0, .long (enc b)), (2, .int (nI (invs b i + pairsTo b i k))), (4, .int (nI (i + 1 + k)))]) hC.1 hC.2.1 dX0_pairsOutOfOrder_45 hl (k := 2) rfl (z_inc _) (by decide) rfl (fun ls hl => ?_)
          refine lv_goto (tgt := 4) hC.1 hC.2.1 dX0_pairsOutOfOrder_48 (by decide) ?_
          have e9 : invs b (i + 1) = invs b i + pairsTo b i k := by rw [hk7]; rfl
          exact ih (i + 1) (by omega) ls (by rw [e9]; exact (lv_sub hl [1, 2, 0] rfl))
        | succ n2 ih2 =>
          intro k hk ls hl
          refine lv_iload hC.1 hC.2.1 dX0_pairsOutOfOrder_15 (lv_at hl 3 rfl) ?_
          refine lv_bipush (v := (nI 8)) hC.1 hC.2.1 dX0_pairsOutOfOrder_17 (by decide) ?_
          refine z_icmp_ge (tgt := 45) hC dX0_pairsOutOfOrder_19 (by decide) (by omega) (by omega) (fun h_19 => by omega) (fun h_19 => ?_)
          refine lv_lload_n hC.1 hC.2.1 dX0_pairsOutOfOrder_22 rfl (lv_at hl 0 rfl) ?_
          refine lv_iload_n hC.1 hC.2.1 dX0_pairsOutOfOrder_23 rfl (lv_at hl 2 rfl) ?_
          refine p_cs (n := 2) (k_cornerAt l hv (by omega)) hC gX0_pairsOutOfOrder_X0_cornerAt rfl (by decide +kernel) rfl ⟨by decide, by decide⟩ ⟨Nat.zero_le _, Nat.zero_le _⟩ hl.1 (Nat.le_of_ble_eq_true rfl) dX0_pairsOutOfOrder_24 rfl ?_
          refine lv_lload_n hC.1 hC.2.1 dX0_pairsOutOfOrder_27 rfl (lv_at hl 0 rfl) ?_
          refine lv_iload hC.1 hC.2.1 dX0_pairsOutOfOrder_28 (lv_at hl 3 rfl) ?_
          refine p_cs (n := 2) (k_cornerAt l hv (by omega)) hC gX0_pairsOutOfOrder_X0_cornerAt rfl (by decide +kernel) rfl ⟨by decide, by decide⟩ ⟨Nat.zero_le _, Nat.zero_le _⟩ hl.1 (Nat.le_of_ble_eq_true rfl) dX0_pairsOutOfOrder_30 rfl ?_
          refine z_icmp_le (tgt := 39) hC dX0_pairsOutOfOrder_33 (by decide) (by omega) (by omega) (fun h_33 => ?_) (fun h_33 => ?_)
          · refine lv_iinc (v := nI (i + 1 + k + 1)) (lv' := [(4, .int (nI (i + 1 + k + 1))), (0, .long (enc b)), (2, .int (nI (invs b i + pairsTo b i k))), (3, .int (nI i))]) hC.1 hC.2.1 dX0_pairsOutOfOrder_39 hl (k := 3) rfl (z_inc _) (by decide) rfl (fun ls hl => ?_)
            refine lv_goto (tgt := 15) hC.1 hC.2.1 dX0_pairsOutOfOrder_42 (by decide) ?_
            exact ih2 (k + 1) (by omega) ls (by have e9 : pairsTo b i (k + 1) = pairsTo b i k := ct_f (by simp; omega); rw [e9]; exact (lv_sub hl [1, 2, 3, 0] rfl))
          · refine lv_iinc (v := nI (invs b i + pairsTo b i k + 1)) (lv' := [(2, .int (nI (invs b i + pairsTo b i k + 1))), (0, .long (enc b)), (3, .int (nI i)), (4, .int (nI (i + 1 + k)))]) hC.1 hC.2.1 dX0_pairsOutOfOrder_36 hl (k := 1) rfl (z_inc _) (by decide) rfl (fun ls hl => ?_)
            refine lv_iinc (v := nI (i + 1 + k + 1)) (lv' := [(4, .int (nI (i + 1 + k + 1))), (2, .int (nI (invs b i + pairsTo b i k + 1))), (0, .long (enc b)), (3, .int (nI i))]) hC.1 hC.2.1 dX0_pairsOutOfOrder_39 hl (k := 3) rfl (z_inc _) (by decide) rfl (fun ls hl => ?_)
            refine lv_goto (tgt := 15) hC.1 hC.2.1 dX0_pairsOutOfOrder_42 (by decide) ?_
            exact ih2 (k + 1) (by omega) ls (by have e9 : pairsTo b i (k + 1) = pairsTo b i k + 1 := ct_t (by simp; omega); rw [e9]; exact (lv_sub hl [2, 1, 3, 0] rfl))
      refine lv_iload_n hC.1 hC.2.1 dX0_pairsOutOfOrder_4 rfl (lv_at hl 2 rfl) ?_
      refine lv_bipush (v := (nI 8)) hC.1 hC.2.1 dX0_pairsOutOfOrder_5 (by decide) ?_
      refine z_icmp_ge (tgt := 51) hC dX0_pairsOutOfOrder_7 (by decide) (by omega) (by omega) (fun h_7 => by omega) (fun h_7 => ?_)
      refine lv_iload_n hC.1 hC.2.1 dX0_pairsOutOfOrder_10 rfl (lv_at hl 2 rfl) ?_
      refine lv_iconst (v := (nI 1)) hC.1 hC.2.1 dX0_pairsOutOfOrder_11 (by decide) ?_
      refine z_iadd hC dX0_pairsOutOfOrder_12 ?_
      refine lv_istore (lv' := [(4, .int (nI (i + 1))), (0, .long (enc b)), (2, .int (nI (invs b i))), (3, .int (nI i))]) hC.1 hC.2.1 dX0_pairsOutOfOrder_13 hl (by decide) rfl (fun ls hl => ?_)
      exact inner (7 - i) 0 (by omega) ls (lv_sub hl [1, 2, 3, 0] rfl)
  refine lv_iconst (v := (nI 0)) hC.1 hC.2.1 dX0_pairsOutOfOrder_0 (by decide) ?_
  refine lv_istore_n (lv' := [(2, .int (nI 0)), (0, .long (enc b))]) hC.1 hC.2.1 dX0_pairsOutOfOrder_1 rfl hl (by decide) rfl (fun ls hl => ?_)
  refine lv_iconst (v := (nI 0)) hC.1 hC.2.1 dX0_pairsOutOfOrder_2 (by decide) ?_
  refine lv_istore_n (lv' := [(3, .int (nI 0)), (2, .int (nI 0)), (0, .long (enc b))]) hC.1 hC.2.1 dX0_pairsOutOfOrder_3 rfl hl (by decide) rfl (fun ls hl => ?_)
  exact outer 8 0 (by omega) ls (lv_sub hl [2, 1, 0] rfl)

set_option maxHeartbeats 4000000 in
set_option maxRecDepth 100000 in
theorem k_checkFace (l : Launch) {f : Nat} (hf : f < 3) : RV l yX0_checkFace wsX0_checkFace (1) zNo [.int (nI f)] none := by
  refine RV.of (cc := cX0_checkFace) (maxL := 1) (ret := none) (by decide) rfl (Nat.le_of_ble_eq_true rfl) ?_
  intro p e s m args below meth c hC hr hlk hB ls hl
  have hl : lv_has ls 1 [(0, .int (nI f))] := hl
  refine lv_iload_n hC.1 hC.2.1 dX0_checkFace_0 rfl (lv_at hl 0 rfl) ?_
  refine z_if_lt (tgt := 9) hC dX0_checkFace_1 (by decide) (by omega) ?_
  refine lv_iload_n hC.1 hC.2.1 dX0_checkFace_4 rfl (lv_at hl 0 rfl) ?_
  refine lv_iconst (v := (nI 3)) hC.1 hC.2.1 dX0_checkFace_5 (by decide) ?_
  refine z_icmp_lt (tgt := 19) hC dX0_checkFace_6 (by decide) (by omega) (by omega) (fun h_6 => ?_) (fun h_6 => by omega)
  exact RV.vret hC hr hlk dX0_checkFace_19

set_option maxHeartbeats 4000000 in
set_option maxRecDepth 100000 in
theorem k_checkWord (l : Launch) {f : Nat} (hf : f < 5) : RV l yX0_checkWord wsX0_checkWord (1) zNo [.int (nI f)] none := by
  refine RV.of (cc := cX0_checkWord) (maxL := 1) (ret := none) (by decide) rfl (Nat.le_of_ble_eq_true rfl) ?_
  intro p e s m args below meth c hC hr hlk hB ls hl
  have hl : lv_has ls 1 [(0, .int (nI f))] := hl
  refine lv_iload_n hC.1 hC.2.1 dX0_checkWord_0 rfl (lv_at hl 0 rfl) ?_
  refine z_if_lt (tgt := 9) hC dX0_checkWord_1 (by decide) (by omega) ?_
  refine lv_iload_n hC.1 hC.2.1 dX0_checkWord_4 rfl (lv_at hl 0 rfl) ?_
  refine lv_iconst (v := (nI 5)) hC.1 hC.2.1 dX0_checkWord_5 (by decide) ?_
  refine z_icmp_lt (tgt := 19) hC dX0_checkWord_6 (by decide) (by omega) (by omega) (fun h_6 => ?_) (fun h_6 => by omega)
  exact RV.vret hC hr hlk dX0_checkWord_19

set_option maxHeartbeats 4000000 in
set_option maxRecDepth 100000 in
theorem k_checkPlace (l : Launch) {f : Nat} (hf : f < 8) : RV l yX0_checkPlace wsX0_checkPlace (1) zNo [.int (nI f)] none := by
  refine RV.of (cc := cX0_checkPlace) (maxL := 1) (ret := none) (by decide) rfl (Nat.le_of_ble_eq_true rfl) ?_
  intro p e s m args below meth c hC hr hlk hB ls hl
  have hl : lv_has ls 1 [(0, .int (nI f))] := hl
  refine lv_iload_n hC.1 hC.2.1 dX0_checkPlace_0 rfl (lv_at hl 0 rfl) ?_
  refine z_if_lt (tgt := 10) hC dX0_checkPlace_1 (by decide) (by omega) ?_
  refine lv_iload_n hC.1 hC.2.1 dX0_checkPlace_4 rfl (lv_at hl 0 rfl) ?_
  refine lv_bipush (v := (nI 8)) hC.1 hC.2.1 dX0_checkPlace_5 (by decide) ?_
  refine z_icmp_lt (tgt := 20) hC dX0_checkPlace_7 (by decide) (by omega) (by omega) (fun h_7 => ?_) (fun h_7 => by omega)
  exact RV.vret hC hr hlk dX0_checkPlace_20

set_option maxHeartbeats 4000000 in
set_option maxRecDepth 100000 in
theorem k_checkQuarters (l : Launch) {q : Nat} (h1 : 1 ≤ q) (hq : q < 4) : RV l yX0_checkQuarters wsX0_checkQuarters (1) zNo [.int (nI q)] none := by
  refine RV.of (cc := cX0_checkQuarters) (maxL := 1) (ret := none) (by decide) rfl (Nat.le_of_ble_eq_true rfl) ?_
  intro p e s m args below meth c hC hr hlk hB ls hl
  have hl : lv_has ls 1 [(0, .int (nI q))] := hl
  refine lv_iload_n hC.1 hC.2.1 dX0_checkQuarters_0 rfl (lv_at hl 0 rfl) ?_
  refine lv_iconst (v := (nI 1)) hC.1 hC.2.1 dX0_checkQuarters_1 (by decide) ?_
  refine z_icmp_lt (tgt := 10) hC dX0_checkQuarters_2 (by decide) (by omega) (by omega) (fun h_2 => by omega) (fun h_2 => ?_)
  refine lv_iload_n hC.1 hC.2.1 dX0_checkQuarters_5 rfl (lv_at hl 0 rfl) ?_
  refine lv_iconst (v := (nI 4)) hC.1 hC.2.1 dX0_checkQuarters_6 (by decide) ?_
  refine z_icmp_lt (tgt := 20) hC dX0_checkQuarters_7 (by decide) (by omega) (by omega) (fun h_7 => ?_) (fun h_7 => by omega)
  exact RV.vret hC hr hlk dX0_checkQuarters_20

set_option maxHeartbeats 4000000 in
set_option maxRecDepth 100000 in
theorem k_checkWhat (l : Launch) {f g : Nat} (hf : f < g) (hg : g < 2 ^ 31) : RV l yX0_checkWhat wsX0_checkWhat (1) zNo [.int (nI f), .int (nI g)] none := by
  refine RV.of (cc := cX0_checkWhat) (maxL := 2) (ret := none) (by decide) rfl (Nat.le_of_ble_eq_true rfl) ?_
  intro p e s m args below meth c hC hr hlk hB ls hl
  have hl : lv_has ls 2 [(0, .int (nI f)), (1, .int (nI g))] := hl
  refine lv_iload_n hC.1 hC.2.1 dX0_checkWhat_0 rfl (lv_at hl 0 rfl) ?_
  refine z_if_lt (tgt := 9) hC dX0_checkWhat_1 (by decide) (by omega) ?_
  refine lv_iload_n hC.1 hC.2.1 dX0_checkWhat_4 rfl (lv_at hl 0 rfl) ?_
  refine lv_iload_n hC.1 hC.2.1 dX0_checkWhat_5 rfl (lv_at hl 1 rfl) ?_
  refine z_icmp_lt (tgt := 19) hC dX0_checkWhat_6 (by decide) (by omega) (by omega) (fun h_6 => ?_) (fun h_6 => by omega)
  exact RV.vret hC hr hlk dX0_checkWhat_19

set_option maxHeartbeats 4000000 in
set_option maxRecDepth 100000 in
theorem k_checkMost (l : Launch) {f : Nat} (hf : f ≤ 5) : RV l yX0_checkMost wsX0_checkMost (1) zNo [.int (nI f)] none := by
  refine RV.of (cc := cX0_checkMost) (maxL := 1) (ret := none) (by decide) rfl (Nat.le_of_ble_eq_true rfl) ?_
  intro p e s m args below meth c hC hr hlk hB ls hl
  have hl : lv_has ls 1 [(0, .int (nI f))] := hl
  refine lv_iload_n hC.1 hC.2.1 dX0_checkMost_0 rfl (lv_at hl 0 rfl) ?_
  refine z_if_lt (tgt := 9) hC dX0_checkMost_1 (by decide) (by omega) ?_
  refine lv_iload_n hC.1 hC.2.1 dX0_checkMost_4 rfl (lv_at hl 0 rfl) ?_
  refine lv_iconst (v := (nI 5)) hC.1 hC.2.1 dX0_checkMost_5 (by decide) ?_
  refine z_icmp_le (tgt := 19) hC dX0_checkMost_6 (by decide) (by omega) (by omega) (fun h_6 => ?_) (fun h_6 => by omega)
  exact RV.vret hC hr hlk dX0_checkMost_19
