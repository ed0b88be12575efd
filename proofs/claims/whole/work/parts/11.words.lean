/-! MY ROWS 11: the class's methods over its words (laid by a program of mine) -/
theorem gd_l {l m : List Nat} {k : Nat} (h : k < l.length) : (l ++ m).getD k 0 = l.getD k 0 := by
  simp only [List.getD_eq_getElem?_getD, List.getElem?_append_left h]
theorem gd_r {l m : List Nat} {k : Nat} : (l ++ m).getD (l.length + k) 0 = m.getD k 0 := by
  simp only [List.getD_eq_getElem?_getD]
  rw [List.getElem?_append_right (by omega), show l.length + k - l.length = k from by omega]
theorem gd_dl {l : List Nat} {k : Nat} (h : k < l.length - 1) : l.dropLast.getD k 0 = l.getD k 0 := by
  simp only [List.getD_eq_getElem?_getD, List.getElem?_dropLast]
  rw [if_pos h]
theorem gd_rev {l : List Nat} {k : Nat} (h : k < l.length) : (l.reverse.map tb).getD k 0 = tb (l.getD (l.length - 1 - k) 0) := by
  simp only [List.getD_eq_getElem?_getD, List.getElem?_map, List.getElem?_reverse h]
  rw [List.getElem?_eq_getElem (by omega)]
  rfl
theorem upd_s {f : Nat → Int32} {k : Nat} {x : Int32} : upd f k x k = x := pk_us
theorem upd_n {f : Nat → Int32} {k j : Nat} {x : Int32} (h : j ≠ k) : upd f k x j = f j := pk_un h
theorem WS.put {Nn : Nat → Int32} {Rr : Nat → Nat → Int32} {wd : Nat → List Nat} (hW : WS Nn Rr wd) (w : Nat) (l' : List Nat) {N' : Nat → Int32} {R' : Nat → Nat → Int32} (h1 : ∀ v, v ≠ w → N' v = Nn v) (h2 : ∀ v, v ≠ w → R' v = Rr v) (h3 : N' w = nI l'.length) (h4 : l'.length ≤ 12) (h5 : ∀ k, k < l'.length → R' w k = nI (l'.getD k 0) ∧ l'.getD k 0 < 9) : WS N' R' (wset wd w l') := by
  intro v hv
  by_cases e : v = w
  · have e2 : wset wd w l' v = l' := if_pos e
    rw [e2]
    subst e
    exact ⟨h3, h4, h5⟩
  · have e2 : wset wd w l' v = wd v := if_neg e
    rw [e2, h1 v e, h2 v e]
    exact hW v hv
/-- a word, tidied turn by turn -/
def keepL (acc : List Nat) (t : Nat) : List Nat :=
  if acc.length = 0 ∨ ¬ acc.getD (acc.length - 1) 0 / 3 = t / 3 then acc ++ [t]
  else if (acc.getD (acc.length - 1) 0 % 3 + 1 + (t % 3 + 1)) % 4 = 0 then acc.dropLast
  else acc.dropLast ++ [3 * (t / 3) + (acc.getD (acc.length - 1) 0 % 3 + 1 + (t % 3 + 1)) % 4 - 1]
def tdN (l : List Nat) : Nat → List Nat
  | 0 => []
  | i + 1 => keepL (tdN l i) (l.getD i 0)
theorem keepL_len (acc : List Nat) (t : Nat) : (keepL acc t).length ≤ acc.length + 1 := by
  unfold keepL
  split
  · simp
  · split <;> simp <;> omega
theorem tdN_len (l : List Nat) : ∀ i, (tdN l i).length ≤ i
  | 0 => Nat.le_refl 0
  | i + 1 => Nat.le_trans (keepL_len _ _) (Nat.succ_le_succ (tdN_len l i))
theorem keepL_9 {acc : List Nat} {t : Nat} (ht : t < 9) (h : ∀ k, k < acc.length → acc.getD k 0 < 9) : ∀ k, k < (keepL acc t).length → (keepL acc t).getD k 0 < 9 := by
  intro k hk
  unfold keepL at hk ⊢
  split
  · rename_i h1
    rw [if_pos h1] at hk
    by_cases e : k < acc.length
    · rw [gd_l e]; exact h k e
    · have e2 : k = acc.length + 0 := by simp at hk; omega
      rw [e2, gd_r]; exact ht
  · rename_i h1
    rw [if_neg h1] at hk
    split
    · rename_i h2
      rw [if_pos h2] at hk
      have e : k < acc.length - 1 := by simpa using hk
      rw [gd_dl e]; exact h k (by omega)
    · rename_i h2
      rw [if_neg h2] at hk
      by_cases e : k < acc.dropLast.length
      · rw [gd_l e, gd_dl (by simpa using e)]; exact h k (by simp at e; omega)
      · have e2 : k = acc.dropLast.length + 0 := by simp at hk e ⊢; omega
        rw [e2, gd_r]
        show 3 * (t / 3) + (acc.getD (acc.length - 1) 0 % 3 + 1 + (t % 3 + 1)) % 4 - 1 < 9
        omega
theorem tdN_9 {l : List Nat} (h : ∀ k, k < l.length → l.getD k 0 < 9) : ∀ i, i ≤ l.length → ∀ k, k < (tdN l i).length → (tdN l i).getD k 0 < 9
  | 0, _ => fun k hk => absurd hk (by simp [tdN])
  | i + 1, hi => keepL_9 (h i (by omega)) (tdN_9 h i (by omega))

set_option maxHeartbeats 4000000 in
set_option maxRecDepth 100000 in
theorem k_say (l : Launch) {D : va_G} {T : ClassId × ClassId × ClassId} {z0 : Nat} {L : List Nat} {f : Nat → va_E} {hx g ln : Nat} {rw : Nat → Nat} {b : Nat → Nat} {mk : Int32} {wd : Nat → List Nat} (hX : CX T L f hx g ln rw b mk wd) {w fc q : Nat} (hw : w < 5) (hf : fc < 3) (h1 : 1 ≤ q) (hq : q < 4) (h12 : (wd w).length < 12) : HV l yX0_say wsX0_say (6) 0 0 D z0 (zPre D T z0 L f) [.ref hx, .int (nI w), .int (nI fc), .int (nI q)] (XP T L f hx g ln rw (nI ((wd w).length + 1)) b mk (wset wd w (wd w ++ [3 * fc + q - 1]))) := by
  refine HV.of (cc := cX0_say) (maxL := 4) (ret := (some .int)) (by decide) rfl (Nat.le_of_ble_eq_true rfl) ?_
  intro p e s m args below meth c hC hr hlk hin hB ls hl
  have hl : lv_has ls 4 [(0, .ref hx), (1, .int (nI w)), (2, .int (nI fc)), (3, .int (nI q))] := hl
  obtain ⟨hE, hP, hD⟩ := hB
  obtain ⟨Nn, Rr, hY, hvb, hW⟩ := hX.raw
  obtain ⟨⟨hmx, hex⟩, ⟨hmg, G, heg, hG⟩, ⟨hml, hel⟩, hrw, hinj⟩ := id hY
  have hS : va_S (zA z0) s.heap s.heap [] := va_S.rf
  have hF : FRX hx ln rw f f := FRX.rf
  refine lv_iload_n hC.1 hC.2.1 dX0_say_0 rfl (lv_at hl 1 rfl) ?_
  refine p_cs (n := 1) (k_checkWord l hw) hC gX0_say_X0_checkWord rfl (by decide +kernel) rfl ⟨by decide, by decide⟩ ⟨Nat.zero_le _, Nat.zero_le _⟩ hl.1 (Nat.le_of_ble_eq_true rfl) dX0_say_1 rfl ?_
  refine lv_iload_n hC.1 hC.2.1 dX0_say_4 rfl (lv_at hl 2 rfl) ?_
  refine p_cs (n := 1) (k_checkFace l hf) hC gX0_say_X0_checkFace rfl (by decide +kernel) rfl ⟨by decide, by decide⟩ ⟨Nat.zero_le _, Nat.zero_le _⟩ hl.1 (Nat.le_of_ble_eq_true rfl) dX0_say_5 rfl ?_
  refine lv_iload_n hC.1 hC.2.1 dX0_say_8 rfl (lv_at hl 3 rfl) ?_
  refine p_cs (n := 1) (k_checkQuarters l h1 hq) hC gX0_say_X0_checkQuarters rfl (by decide +kernel) rfl ⟨by decide, by decide⟩ ⟨Nat.zero_le _, Nat.zero_le _⟩ hl.1 (Nat.le_of_ble_eq_true rfl) dX0_say_9 rfl ?_
  refine lv_aload_n hC.1 hC.2.1 dX0_say_12 rfl (lv_at hl 0 rfl) ?_
  refine p_get (ref := "CornerCube") hC hE hP hmx hex rfl (by decide +kernel) 3 (by decide) (by decide +kernel) rfl rfl dX0_say_13 ?_
  refine lv_iload_n hC.1 hC.2.1 dX0_say_16 rfl (lv_at hl 1 rfl) ?_
  refine p_iald hC hE hP hml hel (by omega) (by decide) dX0_say_17 ?_
  refine q_i (nI (wd w).length) ((hW _ (by omega)).1) ?_
  refine lv_bipush (v := (nI 12)) hC.1 hC.2.1 dX0_say_18 (by decide) ?_
  refine z_icmp_lt (tgt := 33) hC dX0_say_20 (by decide) (by omega) (by omega) (fun h_20 => ?_) (fun h_20 => by omega)
  refine lv_aload_n hC.1 hC.2.1 dX0_say_33 rfl (lv_at hl 0 rfl) ?_
  refine p_get (ref := "CornerCube") hC hE hP hmx hex rfl (by decide +kernel) 2 (by decide) (by decide +kernel) rfl rfl dX0_say_34 ?_
  refine lv_iload_n hC.1 hC.2.1 dX0_say_37 rfl (lv_at hl 1 rfl) ?_
  refine p_aald hC hE hP hmg heg (by omega) (by decide) (hG _ (by omega)) dX0_say_38 ?_
  refine lv_aload_n hC.1 hC.2.1 dX0_say_39 rfl (lv_at hl 0 rfl) ?_
  refine p_get (ref := "CornerCube") hC hE hP hmx hex rfl (by decide +kernel) 3 (by decide) (by decide +kernel) rfl rfl dX0_say_40 ?_
  refine lv_iload_n hC.1 hC.2.1 dX0_say_43 rfl (lv_at hl 1 rfl) ?_
  refine p_iald hC hE hP hml hel (by omega) (by decide) dX0_say_44 ?_
  refine q_i (nI (wd w).length) ((hW _ (by omega)).1) ?_
  refine lv_iload_n hC.1 hC.2.1 dX0_say_45 rfl (lv_at hl 2 rfl) ?_
  refine lv_iload_n hC.1 hC.2.1 dX0_say_46 rfl (lv_at hl 3 rfl) ?_
  refine p_cs (n := 2) (k_turnNumber l hf h1 hq) hC gX0_say_X0_turnNumber rfl (by decide +kernel) rfl ⟨by decide, by decide⟩ ⟨Nat.zero_le _, Nat.zero_le _⟩ hl.1 (Nat.le_of_ble_eq_true rfl) dX0_say_47 rfl ?_
  refine p_iast hC hE hP hD hS (hrw _ hw).1 (hrw _ hw).2 (by omega) (by decide) dX0_say_50 (fun H locs hP hD hS => ?_)
  have hF := hF.put_rw (e := eI T.1 12 (upd (Rr w) (wd w).length (nI (3 * fc + q - 1)))) hw
  have hY := hY.put_rw hw (upd (Rr w) (wd w).length (nI (3 * fc + q - 1)))
  obtain ⟨⟨hmx, hex⟩, ⟨hmg, G, heg, hG⟩, ⟨hml, hel⟩, hrw, hinj⟩ := id hY
  refine lv_aload_n hC.1 hC.2.1 dX0_say_51 rfl (lv_at hl 0 rfl) ?_
  refine p_get (ref := "CornerCube") hC hE hP hmx hex rfl (by decide +kernel) 3 (by decide) (by decide +kernel) rfl rfl dX0_say_52 ?_
  refine lv_iload_n hC.1 hC.2.1 dX0_say_55 rfl (lv_at hl 1 rfl) ?_
  refine lv_dup2_11 hC.1 hC.2.1 dX0_say_56 rfl rfl ?_
  refine p_iald hC hE hP hml hel (by omega) (by decide) dX0_say_57 ?_
  refine q_i (nI (wd w).length) ((hW _ (by omega)).1) ?_
  refine lv_iconst (v := (nI 1)) hC.1 hC.2.1 dX0_say_58 (by decide) ?_
  refine z_iadd hC dX0_say_59 ?_
  refine p_iast hC hE hP hD hS hml hel (by omega) (by decide) dX0_say_60 (fun H locs hP hD hS => ?_)
  have hF := hF.put_ln (e := eI T.1 5 (upd Nn w (nI ((wd w).length + 1))))
  have hY := hY.put_ln (upd Nn w (nI ((wd w).length + 1)))
  obtain ⟨⟨hmx, hex⟩, ⟨hmg, G, heg, hG⟩, ⟨hml, hel⟩, hrw, hinj⟩ := id hY
  refine lv_aload_n hC.1 hC.2.1 dX0_say_61 rfl (lv_at hl 0 rfl) ?_
  refine p_get (ref := "CornerCube") hC hE hP hmx hex rfl (by decide +kernel) 3 (by decide) (by decide +kernel) rfl rfl dX0_say_62 ?_
  refine lv_iload_n hC.1 hC.2.1 dX0_say_65 rfl (lv_at hl 1 rfl) ?_
  refine p_iald hC hE hP hml hel (by omega) (by decide) dX0_say_66 ?_
  refine q_i (nI ((wd w).length + 1)) (upd_s) ?_
  have hW2 := hW.put w (wd w ++ [3 * fc + q - 1]) (N' := upd Nn w (nI ((wd w).length + 1))) (R' := fun v => if v = w then upd (Rr w) (wd w).length (nI (3 * fc + q - 1)) else Rr v) (fun v h => upd_n h) (fun v h => if_neg h) (by rw [upd_s, List.length_append]; rfl) (by rw [List.length_append]; exact h12) (fun k hk => by
    rw [if_pos rfl]
    by_cases e : k < (wd w).length
    · rw [upd_n (by omega), gd_l e]; exact (hW w hw).2.2 k e
    · have e2 : k = (wd w).length + 0 := by rw [List.length_append] at hk; simp at hk; omega
      rw [e2, gd_r]; exact ⟨upd_s, by show 3 * fc + q - 1 < 9; omega⟩)
  exact HV.iret hC hr hlk hP hD hS (by omega) (by omega) dX0_say_67 (⟨rfl, rfl, hY.up hvb hW2, hF⟩)

set_option maxHeartbeats 4000000 in
set_option maxRecDepth 100000 in
theorem k_wipe (l : Launch) {D : va_G} {T : ClassId × ClassId × ClassId} {z0 : Nat} {L : List Nat} {f : Nat → va_E} {hx g ln : Nat} {rw : Nat → Nat} {b : Nat → Nat} {mk : Int32} {wd : Nat → List Nat} (hX : CX T L f hx g ln rw b mk wd) {w : Nat} (hw : w < 5) : HV l yX0_wipe wsX0_wipe (5) 0 0 D z0 (zPre D T z0 L f) [.ref hx, .int (nI w)] (XP T L f hx g ln rw (nI (wd w).length) b mk (wset wd w [])) := by
  refine HV.of (cc := cX0_wipe) (maxL := 3) (ret := (some .int)) (by decide) rfl (Nat.le_of_ble_eq_true rfl) ?_
  intro p e s m args below meth c hC hr hlk hin hB ls hl
  have hl : lv_has ls 3 [(0, .ref hx), (1, .int (nI w))] := hl
  obtain ⟨hE, hP, hD⟩ := hB
  obtain ⟨Nn, Rr, hY, hvb, hW⟩ := hX.raw
  obtain ⟨⟨hmx, hex⟩, ⟨hmg, G, heg, hG⟩, ⟨hml, hel⟩, hrw, hinj⟩ := id hY
  have hS : va_S (zA z0) s.heap s.heap [] := va_S.rf
  have hF : FRX hx ln rw f f := FRX.rf
  refine lv_iload_n hC.1 hC.2.1 dX0_wipe_0 rfl (lv_at hl 1 rfl) ?_
  refine p_cs (n := 1) (k_checkWord l hw) hC gX0_wipe_X0_checkWord rfl (by decide +kernel) rfl ⟨by decide, by decide⟩ ⟨Nat.zero_le _, Nat.zero_le _⟩ hl.1 (Nat.le_of_ble_eq_true rfl) dX0_wipe_1 rfl ?_
  refine lv_aload_n hC.1 hC.2.1 dX0_wipe_4 rfl (lv_at hl 0 rfl) ?_
  refine p_get (ref := "CornerCube") hC hE hP hmx hex rfl (by decide +kernel) 3 (by decide) (by decide +kernel) rfl rfl dX0_wipe_5 ?_
  refine lv_iload_n hC.1 hC.2.1 dX0_wipe_8 rfl (lv_at hl 1 rfl) ?_
  refine p_iald hC hE hP hml hel (by omega) (by decide) dX0_wipe_9 ?_
  refine q_i (nI (wd w).length) ((hW _ (by omega)).1) ?_
  refine lv_istore_n (lv' := [(2, .int (nI (wd w).length)), (0, .ref hx), (1, .int (nI w))]) hC.1 hC.2.1 dX0_wipe_10 rfl hl (by decide) rfl (fun ls hl => ?_)
  refine lv_aload_n hC.1 hC.2.1 dX0_wipe_11 rfl (lv_at hl 1 rfl) ?_
  refine p_get (ref := "CornerCube") hC hE hP hmx hex rfl (by decide +kernel) 3 (by decide) (by decide +kernel) rfl rfl dX0_wipe_12 ?_
  refine lv_iload_n hC.1 hC.2.1 dX0_wipe_15 rfl (lv_at hl 2 rfl) ?_
  refine lv_iconst (v := (nI 0)) hC.1 hC.2.1 dX0_wipe_16 (by decide) ?_
  refine p_iast hC hE hP hD hS hml hel (by omega) (by decide) dX0_wipe_17 (fun H locs hP hD hS => ?_)
  have hF := hF.put_ln (e := eI T.1 5 (upd Nn w (nI 0)))
  have hY := hY.put_ln (upd Nn w (nI 0))
  obtain ⟨⟨hmx, hex⟩, ⟨hmg, G, heg, hG⟩, ⟨hml, hel⟩, hrw, hinj⟩ := id hY
  refine lv_iload_n hC.1 hC.2.1 dX0_wipe_18 rfl (lv_at hl 0 rfl) ?_
  exact HV.iret hC hr hlk hP hD hS (by omega) (by omega) dX0_wipe_19 (⟨rfl, rfl, hY.up hvb (hW.put w [] (fun v h => upd_n h) (fun v h => rfl) upd_s (by decide) (fun k hk => absurd hk (by simp))), hF⟩)

set_option maxHeartbeats 4000000 in
set_option maxRecDepth 100000 in
theorem k_join (l : Launch) {D : va_G} {T : ClassId × ClassId × ClassId} {z0 : Nat} {L : List Nat} {f : Nat → va_E} {hx g ln : Nat} {rw : Nat → Nat} {b : Nat → Nat} {mk : Int32} {wd : Nat → List Nat} (hX : CX T L f hx g ln rw b mk wd) {w v : Nat} (hw : w < 5) (hv5 : v < 5) (h12 : (wd w).length + (wd v).length ≤ 12) : HV l yX0_join wsX0_join (6) 0 0 D z0 (zPre D T z0 L f) [.ref hx, .int (nI w), .int (nI v)] (XP T L f hx g ln rw (nI ((wd w).length + (wd v).length)) b mk (wset wd w (wd w ++ wd v))) := by
  refine HV.of (cc := cX0_join) (maxL := 5) (ret := (some .int)) (by decide) rfl (Nat.le_of_ble_eq_true rfl) ?_
  intro p e s m args below meth c hC hr hlk hin hB ls hl
  have hl : lv_has ls 5 [(0, .ref hx), (1, .int (nI w)), (2, .int (nI v))] := hl
  obtain ⟨hE, hP, hD⟩ := hB
  obtain ⟨Nn, Rr, hY, hvb, hW⟩ := hX.raw
  obtain ⟨⟨hmx, hex⟩, ⟨hmg, G, heg, hG⟩, ⟨hml, hel⟩, hrw, hinj⟩ := id hY
  have hS : va_S (zA z0) s.heap s.heap [] := va_S.rf
  have hF : FRX hx ln rw f f := FRX.rf
  have loop : ∀ (n k : Nat) (R1 : Nat → Nat → Int32) (f1 : Nat → va_E) (H : Heap) (locs : List Loc), k + n = (wd v).length → (∀ x, x ≠ w → R1 x = Rr x) ∧ (∀ j, j < (wd w).length → R1 w j = Rr w j) ∧ (∀ j, j < k → R1 w ((wd w).length + j) = Rr v j) → CY T L f1 hx g ln rw b mk Nn R1 → FRX hx ln rw f f1 → va_P D vwCl (va_pl L f1) H → va_D (zA z0) (va_pl L f1) → va_S (zA z0) s.heap H locs → ∀ ls : Array Slot, lv_has ls 5 [(0, .ref hx), (1, .int (nI w)), (2, .int (nI v)), (3, .int (nI (wd v).length)), (4, .int (nI k))] → W p l e (rD (6) 0 0) s m args below meth c H locs 0 0 (MQ below (HVQ D z0 (XP T L f hx g ln rw (nI ((wd w).length + (wd v).length)) b mk (wset wd w (wd w ++ wd v)))) args s 0 0 (zA z0)) (F0 m 41 ls []) := by
    intro n
    induction n with
    | zero =>
      intro k R1 f1 H locs hk hJ hY hF hP hD hS ls hl
      obtain ⟨⟨hmx, hex⟩, ⟨hmg, G, heg, hG⟩, ⟨hml, hel⟩, hrw, hinj⟩ := id hY
      obtain ⟨hJ1, hJ2, hJ3⟩ := id hJ
      obtain rfl : k = (wd v).length := by omega
      refine lv_iload hC.1 hC.2.1 dX0_join_41 (lv_at hl 4 rfl) ?_
      refine lv_iload_n hC.1 hC.2.1 dX0_join_43 rfl (lv_at hl 3 rfl) ?_
      refine z_icmp_ge (tgt := 78) hC dX0_join_44 (by decide) (by omega) (by omega) (fun h_44 => ?_) (fun h_44 => by omega)
      refine lv_aload_n hC.1 hC.2.1 dX0_join_78 rfl (lv_at hl 0 rfl) ?_
      refine p_get (ref := "CornerCube") hC hE hP hmx hex rfl (by decide +kernel) 3 (by decide) (by decide +kernel) rfl rfl dX0_join_79 ?_
      refine lv_iload_n hC.1 hC.2.1 dX0_join_82 rfl (lv_at hl 1 rfl) ?_
      refine lv_dup2_11 hC.1 hC.2.1 dX0_join_83 rfl rfl ?_
      refine p_iald hC hE hP hml hel (by omega) (by decide) dX0_join_84 ?_
      refine q_i (nI (wd w).length) ((hW _ (by omega)).1) ?_
      refine lv_iload_n hC.1 hC.2.1 dX0_join_85 rfl (lv_at hl 3 rfl) ?_
      refine z_iadd hC dX0_join_86 ?_
      refine p_iast hC hE hP hD hS hml hel (by omega) (by decide) dX0_join_87 (fun H locs hP hD hS => ?_)
      have hF := hF.put_ln (e := eI T.1 5 (upd Nn w (nI ((wd w).length + (wd v).length))))
      have hY := hY.put_ln (upd Nn w (nI ((wd w).length + (wd v).length)))
      obtain ⟨⟨hmx, hex⟩, ⟨hmg, G, heg, hG⟩, ⟨hml, hel⟩, hrw, hinj⟩ := id hY
      refine lv_aload_n hC.1 hC.2.1 dX0_join_88 rfl (lv_at hl 0 rfl) ?_
      refine p_get (ref := "CornerCube") hC hE hP hmx hex rfl (by decide +kernel) 3 (by decide) (by decide +kernel) rfl rfl dX0_join_89 ?_
      refine lv_iload_n hC.1 hC.2.1 dX0_join_92 rfl (lv_at hl 1 rfl) ?_
      refine p_iald hC hE hP hml hel (by omega) (by decide) dX0_join_93 ?_
      refine q_i (nI ((wd w).length + (wd v).length)) (upd_s) ?_
      have hW2 := hW.put w (wd w ++ wd v) (N' := upd Nn w (nI ((wd w).length + (wd v).length))) (R' := R1) (fun x h => upd_n h) hJ1 (by rw [upd_s, List.length_append]) (by rw [List.length_append]; exact h12) (fun j hj => by
        by_cases e : j < (wd w).length
        · rw [hJ2 j e, gd_l e]; exact (hW w hw).2.2 j e
        · have hj2 : j < (wd w).length + (wd v).length := by rw [List.length_append] at hj; exact hj
          obtain ⟨i, rfl⟩ : ∃ i, j = (wd w).length + i := ⟨j - (wd w).length, by omega⟩
          rw [gd_r, hJ3 i (by omega)]; exact (hW v hv5).2.2 i (by omega))
      exact HV.iret hC hr hlk hP hD hS (by omega) (by omega) dX0_join_94 (⟨rfl, rfl, hY.up hvb hW2, hF⟩)
    | succ n ih =>
      intro k R1 f1 H locs hk hJ hY hF hP hD hS ls hl
      obtain ⟨⟨hmx, hex⟩, ⟨hmg, G, heg, hG⟩, ⟨hml, hel⟩, hrw, hinj⟩ := id hY
      obtain ⟨hJ1, hJ2, hJ3⟩ := id hJ
      have hR1 : R1 v k = nI ((wd v).getD k 0) := by
        by_cases e : v = w
        · subst e; rw [hJ2 k (by omega)]; exact ((hW _ hv5).2.2 k (by omega)).1
        · rw [hJ1 v e]; exact ((hW v hv5).2.2 k (by omega)).1
      refine lv_iload hC.1 hC.2.1 dX0_join_41 (lv_at hl 4 rfl) ?_
      refine lv_iload_n hC.1 hC.2.1 dX0_join_43 rfl (lv_at hl 3 rfl) ?_
      refine z_icmp_ge (tgt := 78) hC dX0_join_44 (by decide) (by omega) (by omega) (fun h_44 => by omega) (fun h_44 => ?_)
      refine lv_aload_n hC.1 hC.2.1 dX0_join_47 rfl (lv_at hl 0 rfl) ?_
      refine p_get (ref := "CornerCube") hC hE hP hmx hex rfl (by decide +kernel) 2 (by decide) (by decide +kernel) rfl rfl dX0_join_48 ?_
      refine lv_iload_n hC.1 hC.2.1 dX0_join_51 rfl (lv_at hl 1 rfl) ?_
      refine p_aald hC hE hP hmg heg (by omega) (by decide) (hG _ (by omega)) dX0_join_52 ?_
      refine lv_aload_n hC.1 hC.2.1 dX0_join_53 rfl (lv_at hl 0 rfl) ?_
      refine p_get (ref := "CornerCube") hC hE hP hmx hex rfl (by decide +kernel) 3 (by decide) (by decide +kernel) rfl rfl dX0_join_54 ?_
      refine lv_iload_n hC.1 hC.2.1 dX0_join_57 rfl (lv_at hl 1 rfl) ?_
      refine p_iald hC hE hP hml hel (by omega) (by decide) dX0_join_58 ?_
      refine q_i (nI (wd w).length) ((hW _ (by omega)).1) ?_
      refine lv_iload hC.1 hC.2.1 dX0_join_59 (lv_at hl 4 rfl) ?_
      refine z_iadd hC dX0_join_61 ?_
      refine lv_aload_n hC.1 hC.2.1 dX0_join_62 rfl (lv_at hl 0 rfl) ?_
      refine p_get (ref := "CornerCube") hC hE hP hmx hex rfl (by decide +kernel) 2 (by decide) (by decide +kernel) rfl rfl dX0_join_63 ?_
      refine lv_iload_n hC.1 hC.2.1 dX0_join_66 rfl (lv_at hl 2 rfl) ?_
      refine p_aald hC hE hP hmg heg (by omega) (by decide) (hG _ (by omega)) dX0_join_67 ?_
      refine lv_iload hC.1 hC.2.1 dX0_join_68 (lv_at hl 4 rfl) ?_
      refine p_iald hC hE hP (hrw _ hv5).1 (hrw _ hv5).2 (by omega) (by decide) dX0_join_70 ?_
      refine q_i (nI ((wd v).getD k 0)) (hR1) ?_
      refine p_iast hC hE hP hD hS (hrw _ hw).1 (hrw _ hw).2 (by omega) (by decide) dX0_join_71 (fun H locs hP hD hS => ?_)
      have hF := hF.put_rw (e := eI T.1 12 (upd (R1 w) ((wd w).length + k) (nI ((wd v).getD k 0)))) hw
      have hY := hY.put_rw hw (upd (R1 w) ((wd w).length + k) (nI ((wd v).getD k 0)))
      obtain ⟨⟨hmx, hex⟩, ⟨hmg, G, heg, hG⟩, ⟨hml, hel⟩, hrw, hinj⟩ := id hY
      have hJ : (∀ x, x ≠ w → (fun x => if x = w then upd (R1 w) ((wd w).length + k) (nI ((wd v).getD k 0)) else R1 x) x = Rr x) ∧ (∀ j, j < (wd w).length → (fun x => if x = w then upd (R1 w) ((wd w).length + k) (nI ((wd v).getD k 0)) else R1 x) w j = Rr w j) ∧ (∀ j, j < k + 1 → (fun x => if x = w then upd (R1 w) ((wd w).length + k) (nI ((wd v).getD k 0)) else R1 x) w ((wd w).length + j) = Rr v j) := by
        refine ⟨fun x h => (if_neg h).trans (hJ1 x h), fun j h => ?_, fun j h => ?_⟩
        · show (if w = w then upd (R1 w) ((wd w).length + k) (nI ((wd v).getD k 0)) else R1 w) j = _
          rw [if_pos rfl, upd_n (by omega)]; exact hJ2 j h
        · show (if w = w then upd (R1 w) ((wd w).length + k) (nI ((wd v).getD k 0)) else R1 w) ((wd w).length + j) = _
          rw [if_pos rfl]
          by_cases e : j = k
          · subst e; rw [upd_s]; exact ((hW v hv5).2.2 j (by omega)).1.symm
          · rw [upd_n (by omega)]; exact hJ3 j (by omega)
      refine lv_iinc (v := nI (k + 1)) (lv' := [(4, .int (nI (k + 1))), (0, .ref hx), (1, .int (nI w)), (2, .int (nI v)), (3, .int (nI (wd v).length))]) hC.1 hC.2.1 dX0_join_72 hl (k := 4) rfl (z_inc _) (by decide) rfl (fun ls hl => ?_)
      refine lv_goto (tgt := 41) hC.1 hC.2.1 dX0_join_75 (by decide) ?_
      exact ih (k + 1) _ _ _ _ (by omega) hJ hY hF hP hD hS ls (lv_sub hl [1, 2, 3, 4, 0] rfl)
  refine lv_iload_n hC.1 hC.2.1 dX0_join_0 rfl (lv_at hl 1 rfl) ?_
  refine p_cs (n := 1) (k_checkWord l hw) hC gX0_join_X0_checkWord rfl (by decide +kernel) rfl ⟨by decide, by decide⟩ ⟨Nat.zero_le _, Nat.zero_le _⟩ hl.1 (Nat.le_of_ble_eq_true rfl) dX0_join_1 rfl ?_
  refine lv_iload_n hC.1 hC.2.1 dX0_join_4 rfl (lv_at hl 2 rfl) ?_
  refine p_cs (n := 1) (k_checkWord l hv5) hC gX0_join_X0_checkWord rfl (by decide +kernel) rfl ⟨by decide, by decide⟩ ⟨Nat.zero_le _, Nat.zero_le _⟩ hl.1 (Nat.le_of_ble_eq_true rfl) dX0_join_5 rfl ?_
  refine lv_aload_n hC.1 hC.2.1 dX0_join_8 rfl (lv_at hl 0 rfl) ?_
  refine p_get (ref := "CornerCube") hC hE hP hmx hex rfl (by decide +kernel) 3 (by decide) (by decide +kernel) rfl rfl dX0_join_9 ?_
  refine lv_iload_n hC.1 hC.2.1 dX0_join_12 rfl (lv_at hl 2 rfl) ?_
  refine p_iald hC hE hP hml hel (by omega) (by decide) dX0_join_13 ?_
  refine q_i (nI (wd v).length) ((hW _ (by omega)).1) ?_
  refine lv_istore_n (lv' := [(3, .int (nI (wd v).length)), (0, .ref hx), (1, .int (nI w)), (2, .int (nI v))]) hC.1 hC.2.1 dX0_join_14 rfl hl (by decide) rfl (fun ls hl => ?_)
  refine lv_aload_n hC.1 hC.2.1 dX0_join_15 rfl (lv_at hl 1 rfl) ?_
  refine p_get (ref := "CornerCube") hC hE hP hmx hex rfl (by decide +kernel) 3 (by decide) (by decide +kernel) rfl rfl dX0_join_16 ?_
  refine lv_iload_n hC.1 hC.2.1 dX0_join_19 rfl (lv_at hl 2 rfl) ?_
  refine p_iald hC hE hP hml hel (by omega) (by decide) dX0_join_20 ?_
  refine q_i (nI (wd w).length) ((hW _ (by omega)).1) ?_
  refine lv_iload_n hC.1 hC.2.1 dX0_join_21 rfl (lv_at hl 0 rfl) ?_
  refine z_iadd hC dX0_join_22 ?_
  refine lv_bipush (v := (nI 12)) hC.1 hC.2.1 dX0_join_23 (by decide) ?_
  refine z_icmp_le (tgt := 38) hC dX0_join_25 (by decide) (by omega) (by omega) (fun h_25 => ?_) (fun h_25 => by omega)
  refine lv_iconst (v := (nI 0)) hC.1 hC.2.1 dX0_join_38 (by decide) ?_
  refine lv_istore (lv' := [(4, .int (nI 0)), (3, .int (nI (wd v).length)), (0, .ref hx), (1, .int (nI w)), (2, .int (nI v))]) hC.1 hC.2.1 dX0_join_39 hl (by decide) rfl (fun ls hl => ?_)
  exact loop _ 0 Rr _ _ _ (Nat.zero_add _) ⟨fun _ _ => rfl, fun _ _ => rfl, fun j h => absurd h (by omega)⟩ hY hF hP hD hS ls (lv_sub hl [2, 3, 4, 1, 0] rfl)
