/-! MY ROWS 11: the class's methods over its words (laid by a program of mine) -/
theorem gd_l {l m : List Nat} {k : Nat} (h : k < l.length) : (l ++ m).getD k 0 = l.getD k 0 := by
  simp only [List.getD_eq_getElem?_getD, List.getElem?_append_left h]
theorem gd_r {l m : List Nat} {k : Nat} : (l ++ m).getD (l.length + k) 0 = m.getD k 0 := by
  simp only [List.getD_eq_getElem?_getD]
  rw [List.getElem?_append_right (by omega), show l.length + k - l.length = k from by omega]
theorem gd_dl {l : List Nat} {k : Nat} (h : k < l.length - 1) : l.dropLast.getD k 0 = l.getD k 0 := by
  simp only [List.getD_eq_getElem?_getD, List.getElem?_dropLast]
  rw [if_pos h]
theorem gd_rev {l : List Nat} {k : Nat} (h : k < l.length) : (l.reverse.map tb).getD k 0 = tb (l.getD (l.length - 1 - k) 0) := by
  simp only [List.getD_eq_getElem?_getD, List.getElem?_map, List.getElem?_reverse h]
  rw [List.getElem?_eq_getElem (by omega)]
  rfl
theorem upd_s {f : Nat → Int32} {k : Nat} {x : Int32} : upd f k x k = x := pk_us
theorem upd_n {f : Nat → Int32} {k j : Nat} {x : Int32} (h : j ≠ k) : upd f k x j = f j := pk_un h
theorem WS.put {Nn : Nat → Int32} {Rr : Nat → Nat → Int32} {wd : Nat → List Nat} (hW : WS Nn Rr wd) (w : Nat) (l' : List Nat) {N' : Nat → Int32} {R' : Nat → Nat → Int32} (h1 : ∀ v, v ≠ w → N' v = Nn v) (h2 : ∀ v, v ≠ w → R' v = Rr v) (h3 : N' w = nI l'.length) (h4 : l'.length ≤ 12) (h5 : ∀ k, k < l'.length → R' w k = nI (l'.getD k 0) ∧ l'.getD k 0 < 9) : WS N' R' (wset wd w l') := by
  intro v hv
  by_cases e : v = w
  · have e2 : wset wd w l' v = l' := if_pos e
    rw [e2]
    subst e
    exact ⟨h3, h4, h5⟩
  · have e2 : wset wd w l' v = wd v := if_neg e
    rw [e2, h1 v e, h2 v e]
    exact hW v hv
/-- a word, tidied turn by turn -/
def keepL (acc : List Nat) (t : Nat) : List Nat :=
  if acc.length = 0 ∨ ¬ acc.getD (acc.length - 1) 0 / 3 = t / 3 then acc ++ [t]
  else if (acc.getD (acc.length - 1) 0 % 3 + 1 + (t % 3 + 1)) % 4 = 0 then acc.dropLast
  else acc.dropLast ++ [3 * (t / 3) + (acc.getD (acc.length - 1) 0 % 3 + 1 + (t % 3 + 1)) % 4 - 1]
def tdN (l : List Nat) : Nat → List Nat
  | 0 => []
  | i + 1 => keepL (tdN l i) (l.getD i 0)
theorem keepL_len (acc : List Nat) (t : Nat) : (keepL acc t).length ≤ acc.length + 1 := by
  unfold keepL
  split
  · simp
  · split <;> simp <;> omega
theorem tdN_len (l : List Nat) : ∀ i, (tdN l i).length ≤ i
  | 0 => Nat.le_refl 0
  | i + 1 => Nat.le_trans (keepL_len _ _) (Nat.succ_le_succ (tdN_len l i))
theorem keepL_9 {acc : List Nat} {t : Nat} (ht : t < 9) (h : ∀ k, k < acc.length → acc.getD k 0 < 9) : ∀ k, k < (keepL acc t).length → (keepL acc t).getD k 0 < 9 := by
  intro k hk
  unfold keepL at hk ⊢
  split
  · rename_i h1
    rw [if_pos h1] at hk
    by_cases e : k < acc.length
    · rw [gd_l e]; exact h k e
    · have e2 : k = acc.length + 0 := by simp at hk; omega
      rw [e2, gd_r]; exact ht
  · rename_i h1
    rw [if_neg h1] at hk
    split
    · rename_i h2
      rw [if_pos h2] at hk
      have e : k < acc.length - 1 := by simpa using hk
      rw [gd_dl e]; exact h k (by omega)
    · rename_i h2
      rw [if_neg h2] at hk
      by_cases e : k < acc.dropLast.length
      · rw [gd_l e, gd_dl (by simpa using e)]; exact h k (by simp at e; omega)
      · have e2 : k = acc.dropLast.length + 0 := by simp at hk e ⊢; omega
        rw [e2, gd_r]
        show 3 * (t / 3) + (acc.getD (acc.length - 1) 0 % 3 + 1 + (t % 3 + 1)) % 4 - 1 < 9
        omega
theorem tdN_9 {l : List Nat} (h : ∀ k, k < l.length → l.getD k 0 < 9) : ∀ i, i ≤ l.length → ∀ k, k < (tdN l i).length → (tdN l i).getD k 0 < 9
  | 0, _ => fun k hk => absurd hk (by simp [tdN])
  | i + 1, hi => keepL_9 (h i (by omega)) (tdN_9 h i (by omega))

set_option maxHeartbeats 4000000 in
set_option maxRecDepth 100000 in
theorem k_say (l : Launch) {D : va_G} {T : ClassId × ClassId × ClassId} {z0 : Nat} {L : List Nat} {f : Nat → va_E} {hx g ln : Nat} {rw : Nat → Nat} {b : Nat → Nat} {mk : Int32} {wd : Nat → List Nat} (hX : CX T L f hx g ln rw b mk wd) {w fc q : Nat} (hw : w < 5) (hf : fc < 3) (h1 : 1 ≤ q) (hq : q < 4) (h12 : (wd w).length < 12) : HV l yX0_say wsX0_say (6) 0 0 D z0 (zPre D T z0 L f) [.ref hx, .int (nI w), .int (nI fc), .int (nI q)] (XP T L f hx g ln rw (nI ((wd w).length + 1)) b mk (wset wd w (wd w ++ [3 * fc + q - 1]))) := by
  refine HV.of (cc := cX0_say) (maxL := 4) (ret := (some .int)) (by decide) rfl (Nat.le_of_ble_eq_true rfl) ?_
  intro p e s m args below meth c hC hr hlk hin hB ls hl
  have hl : lv_has ls 4 [(0, .ref hx), (1, .int (nI w)), (2, .int (nI fc)), (3, .int (nI q))] := hl
  obtain ⟨hE, hP, hD⟩ := hB
  obtain ⟨Nn, Rr, hY, hvb, hW⟩ := hX.raw
  obtain ⟨⟨hmx, hex⟩, ⟨hmg, G, heg, hG⟩, ⟨hml, hel⟩, hrw, hinj⟩ := id hY
  have hS : va_S (zA z0) s.heap s.heap [] := va_S.rf
  have hF : FRX hx ln rw f f := FRX.rf
  refine lv_iload_n hC.1 hC.2.1 dX0_say_0 rfl (lv_at hl 1 rfl) ?_
  refine p_cs (n := 1) (k_checkWord l hw) hC gX0_say_X0_checkWord rfl (by decide +kernel) rfl ⟨by decide, by decide⟩ ⟨Nat.zero_le _, Nat.zero_le _⟩ hl.1 (Nat.le_of_ble_eq_true rfl) dX0_say_1 rfl ?_
  refine lv_iload_n hC.1 hC.2.1 dX0_say_4 rfl (lv_at hl 2 rfl) ?_
  refine p_cs (n := 1) (k_checkFace l hf) hC gX0_say_X0_checkFace rfl (by decide +kernel) rfl ⟨by decide, by decide⟩ ⟨Nat.zero_le _, Nat.zero_le _⟩ hl.1 (Nat.le_of_ble_eq_true rfl) dX0_say_5 rfl ?_
  refine lv_iload_n hC.1 hC.2.1 dX0_say_8 rfl (lv_at hl 3 rfl) ?_
  refine p_cs (n := 1) (k_checkQuarters l h1 hq) hC gX0_say_X0_checkQuarters rfl (by decide +kernel) rfl ⟨by decide, by decide⟩ ⟨Nat.zero_le _, Nat.zero_le _⟩ hl.1 (Nat.le_of_ble_eq_true rfl) dX0_say_9 rfl ?_
  refine lv_aload_n hC.1 hC.2.1 dX0_say_12 rfl (lv_at hl 0 rfl) ?_
  refine p_get (ref := "CornerCube") hC hE hP hmx hex rfl (by decide +kernel) 3 (by decide) (by decide +kernel) rfl rfl dX0_say_13 ?_
  refine lv_iload_n hC.1 hC.2.1 dX0_say_16 rfl (lv_at hl 1 rfl) ?_
  refine p_iald hC hE hP hml hel (by omega) (by decide) dX0_say_17 ?_
  refine q_i (nI (wd w).length) ((hW _ (by omega)).1) ?_
  refine lv_bipush (v := (nI 12)) hC.1 hC.2.1 dX0_say_18 (by decide) ?_
  refine z_icmp_lt (tgt := 33) hC dX0_say_20 (by decide) (by omega) (by omega) (fun h_20 => ?_) (fun h_20 => by omega)
  refine lv_aload_n hC.1 hC.2.1 dX0_say_33 rfl (lv_at hl 0 rfl) ?_
  refine p_get (ref := "CornerCube") hC hE hP hmx hex rfl (by decide +kernel) 2 (by decide) (by decide +kernel) rfl rfl dX0_say_34 ?_
  refine lv_iload_n hC.1 hC.2.1 dX0_say_37 rfl (lv_at hl 1 rfl) ?_
  refine p_aald hC hE hP hmg heg (by omega) (by decide) (hG _ (by omega)) dX0_say_38 ?_
  refine lv_aload_n hC.1 hC.2.1 dX0_say_39 rfl (lv_at hl 0 rfl) ?_
  refine p_get (ref := "CornerCube") hC hE hP hmx hex rfl (by decide +kernel) 3 (by decide) (by decide +kernel) rfl rfl dX0_say_40 ?_
  refine lv_iload_n hC.1 hC.2.1 dX0_say_43 rfl (lv_at hl 1 rfl) ?_
  refine p_iald hC hE hP hml hel (by omega) (by decide) dX0_say_44 ?_
  refine q_i (nI (wd w).length) ((hW _ (by omega)).1) ?_
  refine lv_iload_n hC.1 hC.2.1 dX0_say_45 rfl (lv_at hl 2 rfl) ?_
  refine lv_iload_n hC.1 hC.2.1 dX0_say_46 rfl (lv_at hl 3 rfl) ?_
  refine p_cs (n := 2) (k_turnNumber l hf h1 hq) hC gX0_say_X0_turnNumber rfl (by decide +kernel) rfl ⟨by decide, by decide⟩ ⟨Nat.zero_le _, Nat.zero_le _⟩ hl.1 (Nat.le_of_ble_eq_true rfl) dX0_say_47 rfl ?_
  refine p_iast hC hE hP hD hS (hrw _ hw).1 (hrw _ hw).2 (by omega) (by decide) dX0_say_50 (fun H locs hP hD hS => ?_)
  have hF := hF.put_rw (e := eI T.1 12 (upd (Rr w) (wd w).length (nI (3 * fc + q - 1)))) hw
  have hY := hY.put_rw hw (upd (Rr w) (wd w).length (nI (3 * fc + q - 1)))
  obtain ⟨⟨hmx, hex⟩, ⟨hmg, G, heg, hG⟩, ⟨hml, hel⟩, hrw, hinj⟩ := id hY
  refine lv_aload_n hC.1 hC.2.1 dX0_say_51 rfl (lv_at hl 0 rfl) ?_
  refine p_get (ref := "CornerCube") hC hE hP hmx hex rfl (by decide +kernel) 3 (by decide) (by decide +kernel) rfl rfl dX0_say_52 ?_
  refine lv_iload_n hC.1 hC.2.1 dX0_say_55 rfl (lv_at hl 1 rfl) ?_
  refine lv_dup2_11 hC.1 hC.2.1 dX0_say_56 rfl rfl ?_
  refine p_iald hC hE hP hml hel (by omega) (by decide) dX0_say_57 ?_
  refine q_i (nI (wd w).length) ((hW _ (by omega)).1) ?_
  refine lv_iconst (v := (nI 1)) hC.1 hC.2.1 dX0_say_58 (by decide) ?_
  refine z_iadd hC dX0_say_59 ?_
  refine p_iast hC hE hP hD hS hml hel (by omega) (by decide) dX0_say_60 (fun H locs hP hD hS => ?_)
  have hF := hF.put_ln (e := eI T.1 5 (upd Nn w (nI ((wd w).length + 1))))
  have hY := hY.put_ln (upd Nn w (nI ((wd w).length + 1)))
  obtain ⟨⟨hmx, hex⟩, ⟨hmg, G, heg, hG⟩, ⟨hml, hel⟩, hrw, hinj⟩ := id hY
  refine lv_aload_n hC.1 hC.2.1 dX0_say_61 rfl (lv_at hl 0 rfl) ?_
  refine p_get (ref := "CornerCube") hC hE hP hmx hex rfl (by decide +kernel) 3 (by decide) (by decide +kernel) rfl rfl dX0_say_62 ?_
  refine lv_iload_n hC.1 hC.2.1 dX0_say_65 rfl (lv_at hl 1 rfl) ?_
  refine p_iald hC hE hP hml hel (by omega) (by decide) dX0_say_66 ?_
  refine q_i (nI ((wd w).length + 1)) (upd_s) ?_
  have hW2 := hW.put w (wd w ++ [3 * fc + q - 1]) (N' := upd Nn w (nI ((wd w).length + 1))) (R' := fun v => if v = w then upd (Rr w) (wd w).length (nI (3 * fc + q - 1)) else Rr v) (fun v h => upd_n h) (fun v h => if_neg h) (by rw [upd_s, List.length_append]; rfl) (by rw [List.length_append]; exact h12) (fun k hk => by
    rw [if_pos rfl]
    by_cases e : k < (wd w).length
    · rw [upd_n (by omega), gd_l e]; exact (hW w hw).2.2 k e
    · have e2 : k = (wd w).length + 0 := by rw [List.length_append] at hk; simp at hk; omega
      rw [e2, gd_r]; exact ⟨upd_s, by show 3 * fc + q - 1 < 9; omega⟩)
  exact HV.iret hC hr hlk hP hD hS (by omega) (by omega) dX0_say_67 (⟨rfl, rfl, hY.up hvb hW2, hF⟩)
