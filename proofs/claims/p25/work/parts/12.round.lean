/-! MY ROWS 12: round, keep, tidy (laid by a program of mine) -/
set_option maxHeartbeats 4000000 in
set_option maxRecDepth 100000 in
theorem k_round (l : Launch) {D : va_G} {T : ClassId × ClassId × ClassId} {z0 : Nat} {L : List Nat} {f : Nat → va_E} {hx g ln : Nat} {rw : Nat → Nat} {b : Nat → Nat} {mk : Int32} {wd : Nat → List Nat} (hX : CX T L f hx g ln rw b mk wd) {w : Nat} (hw : w < 5) : HV l yX0_round wsX0_round (6) 0 0 D z0 (zPre D T z0 L f) [.ref hx, .int (nI w)] (XP T L f hx g ln rw (nI (wd w).length) b mk (wset wd w ((wd w).reverse.map tb))) := by
  refine HV.of (cc := cX0_round) (maxL := 6) (ret := (some .int)) (by decide) rfl (Nat.le_of_ble_eq_true rfl) ?_
  intro p e s m args below meth c hC hr hlk hin hB ls hl
  have hl : lv_has ls 6 [(0, .ref hx), (1, .int (nI w))] := hl
  obtain ⟨hE, hP, hD⟩ := hB
  obtain ⟨Nn, Rr, hY, hvb, hW⟩ := hX.raw
  obtain ⟨⟨hmx, hex⟩, ⟨hmg, G, heg, hG⟩, ⟨hml, hel⟩, hrw, hinj⟩ := id hY
  have hS : va_S (zA z0) s.heap s.heap [] := va_S.rf
  have hF : FRX hx ln rw f f := FRX.rf
  have hl12 := (hW w hw).2.1
  have loop : ∀ (n k : Nat) (R1 : Nat → Nat → Int32) (f1 : Nat → va_E) (H : Heap) (locs : List Loc), k + n = ((wd w).length + 1) / 2 → (∀ x, x ≠ w → R1 x = Rr x) ∧ (∀ j, j < (wd w).length → R1 w j = nI (if j < k ∨ (wd w).length - 1 - k < j then tb ((wd w).getD ((wd w).length - 1 - j) 0) else (wd w).getD j 0)) → CY T L f1 hx g ln rw b mk Nn R1 → FRX hx ln rw f f1 → va_P D vwCl (va_pl L f1) H → va_D (zA z0) (va_pl L f1) → va_S (zA z0) s.heap H locs → ∀ ls : Array Slot, lv_has ls 6 [(0, .ref hx), (1, .int (nI w)), (2, .ref (rw w)), (3, .int (nI k)), (4, .int (nI ((wd w).length - k) - 1))] → W p l e (rD (6) 0 0) s m args below meth c H locs 0 0 (MQ below (HVQ D z0 (XP T L f hx g ln rw (nI (wd w).length) b mk (wset wd w ((wd w).reverse.map tb)))) args s 0 0 (zA z0)) (F0 m 23 ls []) := by
    intro n
    induction n with
    | zero =>
      intro k R1 f1 H locs hk hJ hY hF hP hD hS ls hl
      obtain ⟨⟨hmx, hex⟩, ⟨hmg, G, heg, hG⟩, ⟨hml, hel⟩, hrw, hinj⟩ := id hY
      obtain ⟨hJ1, hJ2⟩ := id hJ
      have hgt : nI ((wd w).length - k) - 1 < nI k := by
        by_cases e : (wd w).length - k = 0
        · rw [e]; exact Int32.not_le.mp (m1_nlt k (by omega))
        · have e1 : nI ((wd w).length - k) - 1 = nI ((wd w).length - k - 1) := pk_sub (by omega : 1 ≤ (wd w).length - k)
          rw [e1]; exact nI_lt (by omega) (by omega)
      refine lv_iload_n hC.1 hC.2.1 dX0_round_23 rfl (lv_at hl 3 rfl) ?_
      refine lv_iload hC.1 hC.2.1 dX0_round_24 (lv_at hl 4 rfl) ?_
      refine lv_icmp_gt (tgt := 62) hC.1 hC.2.1 dX0_round_26 (by decide) (fun h_26 => ?_) (fun h_26 => absurd hgt h_26)
      refine lv_aload_n hC.1 hC.2.1 dX0_round_62 rfl (lv_at hl 0 rfl) ?_
      refine p_get (ref := "CornerCube") hC hE hP hmx hex rfl (by decide +kernel) 3 (by decide) (by decide +kernel) rfl rfl dX0_round_63 ?_
      refine lv_iload_n hC.1 hC.2.1 dX0_round_66 rfl (lv_at hl 1 rfl) ?_
      refine p_iald hC hE hP hml hel (by omega) (by decide) dX0_round_67 ?_
      refine q_i (nI (wd w).length) ((hW _ (by omega)).1) ?_
      have hW2 := hW.put w ((wd w).reverse.map tb) (N' := Nn) (R' := R1) (fun _ _ => rfl) hJ1 (by rw [List.length_map, List.length_reverse]; exact (hW w hw).1) (by rw [List.length_map, List.length_reverse]; exact hl12) (fun j hj => by
        have hj : j < (wd w).length := by rw [List.length_map, List.length_reverse] at hj; exact hj
        rw [hJ2 j hj, if_pos (by omega), gd_rev hj]
        exact ⟨rfl, tb_lt ((hW w hw).2.2 _ (by omega)).2⟩)
      exact HV.iret hC hr hlk hP hD hS (by omega) (by omega) dX0_round_68 (⟨rfl, rfl, hY.up hvb hW2, hF⟩)
    | succ n ih =>
      intro k R1 f1 H locs hk hJ hY hF hP hD hS ls hl
      obtain ⟨⟨hmx, hex⟩, ⟨hmg, G, heg, hG⟩, ⟨hml, hel⟩, hrw, hinj⟩ := id hY
      obtain ⟨hJ1, hJ2⟩ := id hJ
      have hk1 : nI ((wd w).length - k) - 1 = nI ((wd w).length - 1 - k) := (pk_sub (by omega : 1 ≤ (wd w).length - k)).trans (by rw [show (wd w).length - k - 1 = (wd w).length - 1 - k from by omega])
      rw [hk1] at hl
      have ha : R1 w k = nI ((wd w).getD k 0) := by rw [hJ2 k (by omega), if_neg (by omega)]
      have hb2 : R1 w ((wd w).length - 1 - k) = nI ((wd w).getD ((wd w).length - 1 - k) 0) := by rw [hJ2 _ (by omega), if_neg (by omega)]
      refine lv_iload_n hC.1 hC.2.1 dX0_round_23 rfl (lv_at hl 3 rfl) ?_
      refine lv_iload hC.1 hC.2.1 dX0_round_24 (lv_at hl 4 rfl) ?_
      refine z_icmp_gt (tgt := 62) hC dX0_round_26 (by decide) (by omega) (by omega) (fun h_26 => by omega) (fun h_26 => ?_)
      refine lv_aload_n hC.1 hC.2.1 dX0_round_29 rfl (lv_at hl 2 rfl) ?_
      refine lv_iload_n hC.1 hC.2.1 dX0_round_30 rfl (lv_at hl 3 rfl) ?_
      refine p_iald hC hE hP (hrw _ hw).1 (hrw _ hw).2 (by omega) (by decide) dX0_round_31 ?_
      refine q_i (nI ((wd w).getD k 0)) (ha) ?_
      refine lv_istore (lv' := [(5, .int (nI ((wd w).getD k 0))), (0, .ref hx), (1, .int (nI w)), (2, .ref (rw w)), (3, .int (nI k)), (4, .int (nI ((wd w).length - 1 - k)))]) hC.1 hC.2.1 dX0_round_32 hl (by decide) rfl (fun ls hl => ?_)
      refine lv_aload_n hC.1 hC.2.1 dX0_round_34 rfl (lv_at hl 3 rfl) ?_
      refine lv_iload_n hC.1 hC.2.1 dX0_round_35 rfl (lv_at hl 4 rfl) ?_
      refine lv_aload_n hC.1 hC.2.1 dX0_round_36 rfl (lv_at hl 3 rfl) ?_
      refine lv_iload hC.1 hC.2.1 dX0_round_37 (lv_at hl 5 rfl) ?_
      refine p_iald hC hE hP (hrw _ hw).1 (hrw _ hw).2 (by omega) (by decide) dX0_round_39 ?_
      refine q_i (nI ((wd w).getD ((wd w).length - 1 - k) 0)) (hb2) ?_
      refine p_cs (n := 1) (k_turnedBack l ((hW w hw).2.2 _ (by omega)).2) hC gX0_round_X0_turnedBack rfl (by decide +kernel) rfl ⟨by decide, by decide⟩ ⟨Nat.zero_le _, Nat.zero_le _⟩ hl.1 (Nat.le_of_ble_eq_true rfl) dX0_round_40 rfl ?_
      refine p_iast hC hE hP hD hS (hrw _ hw).1 (hrw _ hw).2 (by omega) (by decide) dX0_round_43 (fun H locs hP hD hS => ?_)
      have hF := hF.put_rw (e := eI T.1 12 ((upd (R1 w) k (nI (tb ((wd w).getD ((wd w).length - 1 - k) 0)))))) hw
      have hY := hY.put_rw hw ((upd (R1 w) k (nI (tb ((wd w).getD ((wd w).length - 1 - k) 0)))))
      obtain ⟨⟨hmx, hex⟩, ⟨hmg, G, heg, hG⟩, ⟨hml, hel⟩, hrw, hinj⟩ := id hY
      refine lv_aload_n hC.1 hC.2.1 dX0_round_44 rfl (lv_at hl 3 rfl) ?_
      refine lv_iload hC.1 hC.2.1 dX0_round_45 (lv_at hl 5 rfl) ?_
      refine lv_iload hC.1 hC.2.1 dX0_round_47 (lv_at hl 0 rfl) ?_
      refine p_cs (n := 1) (k_turnedBack l ((hW w hw).2.2 _ (by omega)).2) hC gX0_round_X0_turnedBack rfl (by decide +kernel) rfl ⟨by decide, by decide⟩ ⟨Nat.zero_le _, Nat.zero_le _⟩ hl.1 (Nat.le_of_ble_eq_true rfl) dX0_round_49 rfl ?_
      refine p_iast hC hE hP hD hS (hrw _ hw).1 ((hrw _ hw).2.trans (congrArg (eI T.1 12) (if_pos rfl))) (by omega) (by decide) dX0_round_52 (fun H locs hP hD hS => ?_)
      have hF := hF.put_rw (e := eI T.1 12 ((upd (upd (R1 w) k (nI (tb ((wd w).getD ((wd w).length - 1 - k) 0)))) ((wd w).length - 1 - k) (nI (tb ((wd w).getD k 0)))))) hw
      have hY := hY.put_rw hw ((upd (upd (R1 w) k (nI (tb ((wd w).getD ((wd w).length - 1 - k) 0)))) ((wd w).length - 1 - k) (nI (tb ((wd w).getD k 0)))))
      obtain ⟨⟨hmx, hex⟩, ⟨hmg, G, heg, hG⟩, ⟨hml, hel⟩, hrw, hinj⟩ := id hY
      have hJ : (∀ x, x ≠ w → (fun v => if v = w then (upd (upd (R1 w) k (nI (tb ((wd w).getD ((wd w).length - 1 - k) 0)))) ((wd w).length - 1 - k) (nI (tb ((wd w).getD k 0)))) else (fun v => if v = w then (upd (R1 w) k (nI (tb ((wd w).getD ((wd w).length - 1 - k) 0)))) else R1 v) v) x = Rr x) ∧ (∀ j, j < (wd w).length → (fun v => if v = w then (upd (upd (R1 w) k (nI (tb ((wd w).getD ((wd w).length - 1 - k) 0)))) ((wd w).length - 1 - k) (nI (tb ((wd w).getD k 0)))) else (fun v => if v = w then (upd (R1 w) k (nI (tb ((wd w).getD ((wd w).length - 1 - k) 0)))) else R1 v) v) w j = nI (if j < k + 1 ∨ (wd w).length - 1 - (k + 1) < j then tb ((wd w).getD ((wd w).length - 1 - j) 0) else (wd w).getD j 0)) := by
        refine ⟨fun x h => (if_neg h).trans ((if_neg h).trans (hJ1 x h)), fun j h => ?_⟩
        show (if w = w then (upd (upd (R1 w) k (nI (tb ((wd w).getD ((wd w).length - 1 - k) 0)))) ((wd w).length - 1 - k) (nI (tb ((wd w).getD k 0)))) else _) j = _
        rw [if_pos rfl]
        by_cases e1 : j = ((wd w).length - 1 - k)
        · rw [e1, upd_s, if_pos (by omega), show (wd w).length - 1 - ((wd w).length - 1 - k) = k from by omega]
        · rw [upd_n e1]
          by_cases e2 : j = k
          · rw [e2, upd_s, if_pos (by omega)]
          · rw [upd_n e2, hJ2 j h]
            by_cases e3 : j < k ∨ (wd w).length - 1 - k < j
            · rw [if_pos e3, if_pos (by omega)]
            · rw [if_neg e3, if_neg (by omega)]
      refine lv_iinc (v := nI (k + 1)) (lv' := [(3, .int (nI (k + 1))), (5, .int (nI ((wd w).getD k 0))), (0, .ref hx), (1, .int (nI w)), (2, .ref (rw w)), (4, .int (nI ((wd w).length - 1 - k)))]) hC.1 hC.2.1 dX0_round_53 hl (k := 4) rfl (z_inc _) (by decide) rfl (fun ls hl => ?_)
      refine lv_iinc (v := nI ((wd w).length - (k + 1)) - 1) (lv' := [(4, .int (nI ((wd w).length - (k + 1)) - 1)), (3, .int (nI (k + 1))), (5, .int (nI ((wd w).getD k 0))), (0, .ref hx), (1, .int (nI w)), (2, .ref (rw w))]) hC.1 hC.2.1 dX0_round_56 hl (k := 5) rfl (by rw [z_m1, show (wd w).length - (k + 1) = (wd w).length - 1 - k from by omega]) (by decide) rfl (fun ls hl => ?_)
      refine lv_goto (tgt := 23) hC.1 hC.2.1 dX0_round_59 (by decide) ?_
      exact ih (k + 1) _ _ _ _ (by omega) hJ hY hF hP hD hS ls (lv_sub hl [3, 4, 5, 1, 0] rfl)
  refine lv_iload_n hC.1 hC.2.1 dX0_round_0 rfl (lv_at hl 1 rfl) ?_
  refine p_cs (n := 1) (k_checkWord l hw) hC gX0_round_X0_checkWord rfl (by decide +kernel) rfl ⟨by decide, by decide⟩ ⟨Nat.zero_le _, Nat.zero_le _⟩ hl.1 (Nat.le_of_ble_eq_true rfl) dX0_round_1 rfl ?_
  refine lv_aload_n hC.1 hC.2.1 dX0_round_4 rfl (lv_at hl 0 rfl) ?_
  refine p_get (ref := "CornerCube") hC hE hP hmx hex rfl (by decide +kernel) 2 (by decide) (by decide +kernel) rfl rfl dX0_round_5 ?_
  refine lv_iload_n hC.1 hC.2.1 dX0_round_8 rfl (lv_at hl 1 rfl) ?_
  refine p_aald hC hE hP hmg heg (by omega) (by decide) (hG _ (by omega)) dX0_round_9 ?_
  refine lv_astore_n (lv' := [(2, .ref (rw w)), (0, .ref hx), (1, .int (nI w))]) hC.1 hC.2.1 dX0_round_10 rfl hl (by decide) rfl (fun ls hl => ?_)
  refine lv_iconst (v := (nI 0)) hC.1 hC.2.1 dX0_round_11 (by decide) ?_
  refine lv_istore_n (lv' := [(3, .int (nI 0)), (2, .ref (rw w)), (0, .ref hx), (1, .int (nI w))]) hC.1 hC.2.1 dX0_round_12 rfl hl (by decide) rfl (fun ls hl => ?_)
  refine lv_aload_n hC.1 hC.2.1 dX0_round_13 rfl (lv_at hl 2 rfl) ?_
  refine p_get (ref := "CornerCube") hC hE hP hmx hex rfl (by decide +kernel) 3 (by decide) (by decide +kernel) rfl rfl dX0_round_14 ?_
  refine lv_iload_n hC.1 hC.2.1 dX0_round_17 rfl (lv_at hl 3 rfl) ?_
  refine p_iald hC hE hP hml hel (by omega) (by decide) dX0_round_18 ?_
  refine q_i (nI (wd w).length) ((hW _ (by omega)).1) ?_
  refine lv_iconst (v := (nI 1)) hC.1 hC.2.1 dX0_round_19 (by decide) ?_
  refine lv_isub hC.1 hC.2.1 dX0_round_20 ?_
  refine lv_istore (lv' := [(4, .int ((nI (wd w).length) - (nI 1))), (3, .int (nI 0)), (2, .ref (rw w)), (0, .ref hx), (1, .int (nI w))]) hC.1 hC.2.1 dX0_round_21 hl (by decide) rfl (fun ls hl => ?_)
  exact loop _ 0 Rr _ _ _ (Nat.zero_add _) ⟨fun _ _ => rfl, fun j h => by rw [if_neg (by omega)]; exact ((hW w hw).2.2 j h).1⟩ hY hF hP hD hS ls (lv_sub hl [3, 4, 2, 1, 0] rfl)

theorem va_up_id {f : Nat → va_E} {y : Nat} {e : va_E} (h : f y = e) : va_up f y e = f := by
  funext a
  unfold va_up
  split
  · rename_i h1; rw [h1, h]
  · rfl
/-- what keep leaves in the row -/
def KP (T : ClassId × ClassId × ClassId) (L : List Nat) (f : Nat → va_E) (y : Nat) (r : Nat → Int32) (acc : List Nat) (t : Nat) : Option Value → List Nat → (Nat → va_E) → Prop := fun o L' f' => o = some (.int (nI (keepL acc t).length)) ∧ L' = L ∧ ∃ r', f' = va_up f y (eI T.1 12 r') ∧ (∀ k, k < (keepL acc t).length → r' k = nI ((keepL acc t).getD k 0)) ∧ ∀ k, acc.length < k → r' k = r k
theorem KP.app {T : ClassId × ClassId × ClassId} {L : List Nat} {f : Nat → va_E} {y : Nat} {r : Nat → Int32} {acc : List Nat} {t : Nat} (hr : ∀ k, k < acc.length → r k = nI (acc.getD k 0)) (h : acc.length = 0 ∨ ¬ acc.getD (acc.length - 1) 0 / 3 = t / 3) : KP T L f y r acc t (some (.int (nI (acc.length + 1)))) L (va_up f y (eI T.1 12 (upd r acc.length (nI t)))) := by
  have e : keepL acc t = acc ++ [t] := if_pos h
  unfold KP
  rw [e]
  refine ⟨by rw [List.length_append]; rfl, rfl, _, rfl, fun k hk => ?_, fun k hk => upd_n (by omega)⟩
  by_cases e : k < acc.length
  · rw [upd_n (by omega), gd_l e]; exact hr k e
  · have e2 : k = acc.length + 0 := by rw [List.length_append] at hk; simp at hk; omega
    rw [e2, gd_r]; exact upd_s
theorem KP.drop {T : ClassId × ClassId × ClassId} {L : List Nat} {f : Nat → va_E} {y : Nat} {r : Nat → Int32} {acc : List Nat} {t : Nat} (hf : f y = eI T.1 12 r) (hr : ∀ k, k < acc.length → r k = nI (acc.getD k 0)) (h1 : ¬ acc.length = 0) (h2 : acc.getD (acc.length - 1) 0 / 3 = t / 3) (h3 : (acc.getD (acc.length - 1) 0 % 3 + 1 + (t % 3 + 1)) % 4 = 0) : KP T L f y r acc t (some (.int (nI (acc.length - 1)))) L f := by
  have e : keepL acc t = acc.dropLast := (if_neg (by rintro (h | h); exact h1 h; exact h h2)).trans (if_pos h3)
  unfold KP
  rw [e]
  refine ⟨by rw [List.length_dropLast], rfl, r, (va_up_id hf).symm, fun k hk => ?_, fun k hk => rfl⟩
  have hk : k < acc.length - 1 := by simpa using hk
  rw [gd_dl hk]; exact hr k (by omega)
theorem KP.last {T : ClassId × ClassId × ClassId} {L : List Nat} {f : Nat → va_E} {y : Nat} {r : Nat → Int32} {acc : List Nat} {t : Nat} (hr : ∀ k, k < acc.length → r k = nI (acc.getD k 0)) (h1 : ¬ acc.length = 0) (h2 : acc.getD (acc.length - 1) 0 / 3 = t / 3) (h3 : ¬ (acc.getD (acc.length - 1) 0 % 3 + 1 + (t % 3 + 1)) % 4 = 0) : KP T L f y r acc t (some (.int (nI acc.length))) L (va_up f y (eI T.1 12 (upd r (acc.length - 1) (nI (3 * (t / 3) + (acc.getD (acc.length - 1) 0 % 3 + 1 + (t % 3 + 1)) % 4 - 1))))) := by
  have e : keepL acc t = acc.dropLast ++ [3 * (t / 3) + (acc.getD (acc.length - 1) 0 % 3 + 1 + (t % 3 + 1)) % 4 - 1] := (if_neg (by rintro (h | h); exact h1 h; exact h h2)).trans (if_neg h3)
  unfold KP
  rw [e]
  refine ⟨by rw [List.length_append, List.length_dropLast, List.length_singleton, show acc.length - 1 + 1 = acc.length from by omega], rfl, _, rfl, fun k hk => ?_, fun k hk => upd_n (by omega)⟩
  rw [List.length_append, List.length_dropLast, List.length_singleton] at hk
  by_cases e : k < acc.length - 1
  · rw [upd_n (by omega), gd_l (by rw [List.length_dropLast]; exact e), gd_dl e]; exact hr k (by omega)
  · have e2 : k = acc.dropLast.length + 0 := by rw [List.length_dropLast]; omega
    rw [e2, gd_r, Nat.add_zero, List.length_dropLast]; exact upd_s

set_option maxHeartbeats 4000000 in
set_option maxRecDepth 100000 in
theorem k_keep (l : Launch) {D : va_G} {T : ClassId × ClassId × ClassId} {z0 : Nat} {L : List Nat} {f : Nat → va_E} {y : Nat} {r : Nat → Int32} (hm : y ∈ L) (hf : f y = eI T.1 12 r) {acc : List Nat} (h12 : acc.length < 12) (hr0 : ∀ k, k < acc.length → r k = nI (acc.getD k 0)) (h9 : ∀ k, k < acc.length → acc.getD k 0 < 9) {t : Nat} (ht : t < 9) : HV l yX0_keep wsX0_keep 2 0 0 D z0 (zPre D T z0 L f) [.ref y, .int (nI acc.length), .int (nI t)] (KP T L f y r acc t) := by
  refine HV.of (cc := cX0_keep) (maxL := 4) (ret := (some .int)) (by decide) rfl (Nat.le_of_ble_eq_true rfl) ?_
  intro p e s m args below meth c hC hr hlk hin hB ls hl
  have hl : lv_has ls 4 [(0, .ref y), (1, .int (nI acc.length)), (2, .int (nI t))] := hl
  obtain ⟨hE, hP, hD⟩ := hB
  have hS : va_S (zA z0) s.heap s.heap [] := va_S.rf
  refine lv_iload_n hC.1 hC.2.1 dX0_keep_0 rfl (lv_at hl 1 rfl) ?_
  refine z_if_eq (tgt := 19) hC dX0_keep_1 (by decide) (by omega) (fun h_1 => ?_) (fun h_1 => ?_)
  · refine lv_aload_n hC.1 hC.2.1 dX0_keep_19 rfl (lv_at hl 0 rfl) ?_
    refine lv_iload_n hC.1 hC.2.1 dX0_keep_20 rfl (lv_at hl 1 rfl) ?_
    refine lv_iload_n hC.1 hC.2.1 dX0_keep_21 rfl (lv_at hl 2 rfl) ?_
    refine p_iast hC hE hP hD hS hm hf (by omega) (by decide) dX0_keep_22 (fun H locs hP hD hS => ?_)
    refine lv_iload_n hC.1 hC.2.1 dX0_keep_23 rfl (lv_at hl 1 rfl) ?_
    refine lv_iconst (v := (nI 1)) hC.1 hC.2.1 dX0_keep_24 (by decide) ?_
    refine z_iadd hC dX0_keep_25 ?_
    exact HV.iret hC hr hlk hP hD hS (by omega) (by omega) dX0_keep_26 (KP.app hr0 (Or.inl h_1))
  · refine lv_aload_n hC.1 hC.2.1 dX0_keep_4 rfl (lv_at hl 0 rfl) ?_
    refine lv_iload_n hC.1 hC.2.1 dX0_keep_5 rfl (lv_at hl 1 rfl) ?_
    refine lv_iconst (v := (nI 1)) hC.1 hC.2.1 dX0_keep_6 (by decide) ?_
    refine z_isub hC dX0_keep_7 (by omega) ?_
    refine p_iald hC hE hP hm hf (by omega) (by decide) dX0_keep_8 ?_
    refine q_i (nI (acc.getD (acc.length - 1) 0)) (hr0 _ (by omega)) ?_
    have hq9 := h9 (acc.length - 1) (by omega)
    refine p_cs (n := 1) (k_faceOf l (h9 _ (by omega))) hC gX0_keep_X0_faceOf rfl (by decide +kernel) rfl ⟨by decide, by decide⟩ ⟨Nat.zero_le _, Nat.zero_le _⟩ hl.1 (Nat.le_of_ble_eq_true rfl) dX0_keep_9 rfl ?_
    refine lv_iload_n hC.1 hC.2.1 dX0_keep_12 rfl (lv_at hl 2 rfl) ?_
    refine p_cs (n := 1) (k_faceOf l ht) hC gX0_keep_X0_faceOf rfl (by decide +kernel) rfl ⟨by decide, by decide⟩ ⟨Nat.zero_le _, Nat.zero_le _⟩ hl.1 (Nat.le_of_ble_eq_true rfl) dX0_keep_13 rfl ?_
    refine z_icmp_eq (tgt := 27) hC dX0_keep_16 (by decide) (by omega) (by omega) (fun h_16 => ?_) (fun h_16 => ?_)
    · refine lv_aload_n hC.1 hC.2.1 dX0_keep_27 rfl (lv_at hl 0 rfl) ?_
      refine lv_iload_n hC.1 hC.2.1 dX0_keep_28 rfl (lv_at hl 1 rfl) ?_
      refine lv_iconst (v := (nI 1)) hC.1 hC.2.1 dX0_keep_29 (by decide) ?_
      refine z_isub hC dX0_keep_30 (by omega) ?_
      refine p_iald hC hE hP hm hf (by omega) (by decide) dX0_keep_31 ?_
      refine q_i (nI (acc.getD (acc.length - 1) 0)) (hr0 _ (by omega)) ?_
      refine p_cs (n := 1) (k_quartersOf l (h9 _ (by omega))) hC gX0_keep_X0_quartersOf rfl (by decide +kernel) rfl ⟨by decide, by decide⟩ ⟨Nat.zero_le _, Nat.zero_le _⟩ hl.1 (Nat.le_of_ble_eq_true rfl) dX0_keep_32 rfl ?_
      refine lv_iload_n hC.1 hC.2.1 dX0_keep_35 rfl (lv_at hl 2 rfl) ?_
      refine p_cs (n := 1) (k_quartersOf l ht) hC gX0_keep_X0_quartersOf rfl (by decide +kernel) rfl ⟨by decide, by decide⟩ ⟨Nat.zero_le _, Nat.zero_le _⟩ hl.1 (Nat.le_of_ble_eq_true rfl) dX0_keep_36 rfl ?_
      refine z_iadd hC dX0_keep_39 ?_
      refine lv_iconst (v := (nI 4)) hC.1 hC.2.1 dX0_keep_40 (by decide) ?_
      refine z_irem hC dX0_keep_41 (by omega) (by decide) (by decide) ?_
      refine lv_istore_n (lv' := [(3, .int (nI ((((acc.getD (acc.length - 1) 0) % 3 + 1) + (t % 3 + 1)) % 4))), (0, .ref y), (1, .int (nI acc.length)), (2, .int (nI t))]) hC.1 hC.2.1 dX0_keep_42 rfl hl (by decide) rfl (fun ls hl => ?_)
      refine lv_iload_n hC.1 hC.2.1 dX0_keep_43 rfl (lv_at hl 0 rfl) ?_
      refine z_if_ne (tgt := 51) hC dX0_keep_44 (by decide) (by omega) (fun h_44 => ?_) (fun h_44 => ?_)
      · refine lv_aload_n hC.1 hC.2.1 dX0_keep_51 rfl (lv_at hl 1 rfl) ?_
        refine lv_iload_n hC.1 hC.2.1 dX0_keep_52 rfl (lv_at hl 2 rfl) ?_
        refine lv_iconst (v := (nI 1)) hC.1 hC.2.1 dX0_keep_53 (by decide) ?_
        refine z_isub hC dX0_keep_54 (by omega) ?_
        refine lv_iload_n hC.1 hC.2.1 dX0_keep_55 rfl (lv_at hl 3 rfl) ?_
        refine p_cs (n := 1) (k_faceOf l ht) hC gX0_keep_X0_faceOf rfl (by decide +kernel) rfl ⟨by decide, by decide⟩ ⟨Nat.zero_le _, Nat.zero_le _⟩ hl.1 (Nat.le_of_ble_eq_true rfl) dX0_keep_56 rfl ?_
        refine lv_iload_n hC.1 hC.2.1 dX0_keep_59 rfl (lv_at hl 0 rfl) ?_
        refine p_cs (n := 2) (k_turnNumber l (by omega) (by omega) (by omega)) hC gX0_keep_X0_turnNumber rfl (by decide +kernel) rfl ⟨by decide, by decide⟩ ⟨Nat.zero_le _, Nat.zero_le _⟩ hl.1 (Nat.le_of_ble_eq_true rfl) dX0_keep_60 rfl ?_
        refine p_iast hC hE hP hD hS hm hf (by omega) (by decide) dX0_keep_63 (fun H locs hP hD hS => ?_)
        refine lv_iload_n hC.1 hC.2.1 dX0_keep_64 rfl (lv_at hl 2 rfl) ?_
        exact HV.iret hC hr hlk hP hD hS (by omega) (by omega) dX0_keep_65 (KP.last hr0 h_1 h_16 h_44)
      · refine lv_iload_n hC.1 hC.2.1 dX0_keep_47 rfl (lv_at hl 2 rfl) ?_
        refine lv_iconst (v := (nI 1)) hC.1 hC.2.1 dX0_keep_48 (by decide) ?_
        refine z_isub hC dX0_keep_49 (by omega) ?_
        exact HV.iret hC hr hlk hP hD hS (by omega) (by omega) dX0_keep_50 (KP.drop hf hr0 h_1 h_16 h_44)
    · refine lv_aload_n hC.1 hC.2.1 dX0_keep_19 rfl (lv_at hl 0 rfl) ?_
      refine lv_iload_n hC.1 hC.2.1 dX0_keep_20 rfl (lv_at hl 1 rfl) ?_
      refine lv_iload_n hC.1 hC.2.1 dX0_keep_21 rfl (lv_at hl 2 rfl) ?_
      refine p_iast hC hE hP hD hS hm hf (by omega) (by decide) dX0_keep_22 (fun H locs hP hD hS => ?_)
      refine lv_iload_n hC.1 hC.2.1 dX0_keep_23 rfl (lv_at hl 1 rfl) ?_
      refine lv_iconst (v := (nI 1)) hC.1 hC.2.1 dX0_keep_24 (by decide) ?_
      refine z_iadd hC dX0_keep_25 ?_
      exact HV.iret hC hr hlk hP hD hS (by omega) (by omega) dX0_keep_26 (KP.app hr0 (Or.inr h_16))

set_option maxHeartbeats 4000000 in
set_option maxRecDepth 100000 in
theorem k_tidy (l : Launch) {D : va_G} {T : ClassId × ClassId × ClassId} {z0 : Nat} {L : List Nat} {f : Nat → va_E} {hx g ln : Nat} {rw : Nat → Nat} {b : Nat → Nat} {mk : Int32} {wd : Nat → List Nat} (hX : CX T L f hx g ln rw b mk wd) {w : Nat} (hw : w < 5) : HV l yX0_tidy wsX0_tidy (6) 0 0 D z0 (zPre D T z0 L f) [.ref hx, .int (nI w)] (XP T L f hx g ln rw (nI (tdN (wd w) (wd w).length).length) b mk (wset wd w (tdN (wd w) (wd w).length))) := by
  refine HV.of (cc := cX0_tidy) (maxL := 4) (ret := (some .int)) (by decide) rfl (Nat.le_of_ble_eq_true rfl) ?_
  intro p e s m args below meth c hC hr hlk hin hB ls hl
  have hl : lv_has ls 4 [(0, .ref hx), (1, .int (nI w))] := hl
  obtain ⟨hE, hP, hD⟩ := hB
  obtain ⟨Nn, Rr, hY, hvb, hW⟩ := hX.raw
  obtain ⟨⟨hmx, hex⟩, ⟨hmg, G, heg, hG⟩, ⟨hml, hel⟩, hrw, hinj⟩ := id hY
  have hS : va_S (zA z0) s.heap s.heap [] := va_S.rf
  have hF : FRX hx ln rw f f := FRX.rf
  have hl12 := (hW w hw).2.1
  have hl9 := fun k hk => ((hW w hw).2.2 k hk).2
  have loop : ∀ (n k : Nat) (R1 : Nat → Nat → Int32) (f1 : Nat → va_E) (H : Heap) (locs : List Loc), k + n = (wd w).length → (∀ x, x ≠ w → R1 x = Rr x) ∧ (∀ j, j < (tdN (wd w) k).length → R1 w j = nI ((tdN (wd w) k).getD j 0)) ∧ (∀ j, k ≤ j → R1 w j = Rr w j) → CY T L f1 hx g ln rw b mk Nn R1 → FRX hx ln rw f f1 → va_P D vwCl (va_pl L f1) H → va_D (zA z0) (va_pl L f1) → va_S (zA z0) s.heap H locs → ∀ ls : Array Slot, lv_has ls 4 [(0, .ref hx), (1, .int (nI w)), (2, .int (nI (tdN (wd w) k).length)), (3, .int (nI k))] → W p l e (rD (6) 0 0) s m args below meth c H locs 0 0 (MQ below (HVQ D z0 (XP T L f hx g ln rw (nI (tdN (wd w) (wd w).length).length) b mk (wset wd w (tdN (wd w) (wd w).length)))) args s 0 0 (zA z0)) (F0 m 8 ls []) := by
    intro n
    induction n with
    | zero =>
      intro k R1 f1 H locs hk hJ hY hF hP hD hS ls hl
      obtain ⟨⟨hmx, hex⟩, ⟨hmg, G, heg, hG⟩, ⟨hml, hel⟩, hrw, hinj⟩ := id hY
      obtain ⟨hJ1, hJ2, hJ3⟩ := id hJ
      have htl := tdN_len (wd w) k
      have hk : k = (wd w).length := by omega
      refine lv_iload_n hC.1 hC.2.1 dX0_tidy_8 rfl (lv_at hl 3 rfl) ?_
      refine lv_aload_n hC.1 hC.2.1 dX0_tidy_9 rfl (lv_at hl 0 rfl) ?_
      refine p_get (ref := "CornerCube") hC hE hP hmx hex rfl (by decide +kernel) 3 (by decide) (by decide +kernel) rfl rfl dX0_tidy_10 ?_
      refine lv_iload_n hC.1 hC.2.1 dX0_tidy_13 rfl (lv_at hl 1 rfl) ?_
      refine p_iald hC hE hP hml hel (by omega) (by decide) dX0_tidy_14 ?_
      refine q_i (nI (wd w).length) ((hW _ (by omega)).1) ?_
      refine z_icmp_ge (tgt := 43) hC dX0_tidy_15 (by decide) (by omega) (by omega) (fun h_15 => ?_) (fun h_15 => by omega)
      refine lv_aload_n hC.1 hC.2.1 dX0_tidy_43 rfl (lv_at hl 0 rfl) ?_
      refine p_get (ref := "CornerCube") hC hE hP hmx hex rfl (by decide +kernel) 3 (by decide) (by decide +kernel) rfl rfl dX0_tidy_44 ?_
      refine lv_iload_n hC.1 hC.2.1 dX0_tidy_47 rfl (lv_at hl 1 rfl) ?_
      refine lv_iload_n hC.1 hC.2.1 dX0_tidy_48 rfl (lv_at hl 2 rfl) ?_
      refine p_iast hC hE hP hD hS hml hel (by omega) (by decide) dX0_tidy_49 (fun H locs hP hD hS => ?_)
      have hF := hF.put_ln (e := eI T.1 5 (upd Nn w (nI (tdN (wd w) k).length)))
      have hY := hY.put_ln (upd Nn w (nI (tdN (wd w) k).length))
      obtain ⟨⟨hmx, hex⟩, ⟨hmg, G, heg, hG⟩, ⟨hml, hel⟩, hrw, hinj⟩ := id hY
      refine lv_iload_n hC.1 hC.2.1 dX0_tidy_50 rfl (lv_at hl 2 rfl) ?_
      have hW2 := hW.put w (tdN (wd w) k) (N' := upd Nn w (nI (tdN (wd w) k).length)) (R' := R1) (fun x h => upd_n h) hJ1 upd_s (by omega) (fun j hj => ⟨hJ2 j hj, tdN_9 hl9 k (by omega) j hj⟩)
      exact HV.iret hC hr hlk hP hD hS (by omega) (by omega) dX0_tidy_51 (by subst hk; exact ⟨rfl, rfl, hY.up hvb hW2, hF⟩)
    | succ n ih =>
      intro k R1 f1 H locs hk hJ hY hF hP hD hS ls hl
      obtain ⟨⟨hmx, hex⟩, ⟨hmg, G, heg, hG⟩, ⟨hml, hel⟩, hrw, hinj⟩ := id hY
      obtain ⟨hJ1, hJ2, hJ3⟩ := id hJ
      have htl := tdN_len (wd w) k
      refine lv_iload_n hC.1 hC.2.1 dX0_tidy_8 rfl (lv_at hl 3 rfl) ?_
      refine lv_aload_n hC.1 hC.2.1 dX0_tidy_9 rfl (lv_at hl 0 rfl) ?_
      refine p_get (ref := "CornerCube") hC hE hP hmx hex rfl (by decide +kernel) 3 (by decide) (by decide +kernel) rfl rfl dX0_tidy_10 ?_
      refine lv_iload_n hC.1 hC.2.1 dX0_tidy_13 rfl (lv_at hl 1 rfl) ?_
      refine p_iald hC hE hP hml hel (by omega) (by decide) dX0_tidy_14 ?_
      refine q_i (nI (wd w).length) ((hW _ (by omega)).1) ?_
      refine z_icmp_ge (tgt := 43) hC dX0_tidy_15 (by decide) (by omega) (by omega) (fun h_15 => by omega) (fun h_15 => ?_)
      refine lv_aload_n hC.1 hC.2.1 dX0_tidy_18 rfl (lv_at hl 0 rfl) ?_
      refine p_get (ref := "CornerCube") hC hE hP hmx hex rfl (by decide +kernel) 2 (by decide) (by decide +kernel) rfl rfl dX0_tidy_19 ?_
      refine lv_iload_n hC.1 hC.2.1 dX0_tidy_22 rfl (lv_at hl 1 rfl) ?_
      refine p_aald hC hE hP hmg heg (by omega) (by decide) (hG _ (by omega)) dX0_tidy_23 ?_
      refine lv_iload_n hC.1 hC.2.1 dX0_tidy_24 rfl (lv_at hl 2 rfl) ?_
      refine lv_aload_n hC.1 hC.2.1 dX0_tidy_25 rfl (lv_at hl 0 rfl) ?_
      refine p_get (ref := "CornerCube") hC hE hP hmx hex rfl (by decide +kernel) 2 (by decide) (by decide +kernel) rfl rfl dX0_tidy_26 ?_
      refine lv_iload_n hC.1 hC.2.1 dX0_tidy_29 rfl (lv_at hl 1 rfl) ?_
      refine p_aald hC hE hP hmg heg (by omega) (by decide) (hG _ (by omega)) dX0_tidy_30 ?_
      refine lv_iload_n hC.1 hC.2.1 dX0_tidy_31 rfl (lv_at hl 3 rfl) ?_
      refine p_iald hC hE hP (hrw _ hw).1 (hrw _ hw).2 (by omega) (by decide) dX0_tidy_32 ?_
      refine q_i (nI ((wd w).getD k 0)) ((congrFun rfl k).trans ((hJ3 k (Nat.le_refl k)).trans ((hW w hw).2.2 k (by omega)).1)) ?_
      refine p_csH (n := 3) (k_keep l (hrw _ hw).1 (hrw _ hw).2 (acc := tdN (wd w) k) (by omega) hJ2 (tdN_9 hl9 k (by omega)) (hl9 k (by omega))) hC hE hP hD hS gX0_tidy_X0_keep rfl (by decide +kernel) rfl ⟨by decide, by decide⟩ ⟨Nat.zero_le _, Nat.zero_le _⟩ hl.1 (Nat.le_of_ble_eq_true rfl) dX0_tidy_33 rfl (fun o L1 f2 H locs hpost hP hD hS => ?_)
      obtain ⟨rfl, rfl, r2, rfl, hk1, hk2⟩ := hpost
      have hF := hF.put_rw (e := eI T.1 12 (r2)) hw
      have hY := hY.put_rw hw (r2)
      obtain ⟨⟨hmx, hex⟩, ⟨hmg, G, heg, hG⟩, ⟨hml, hel⟩, hrw, hinj⟩ := id hY
      have hJ : (∀ x, x ≠ w → (fun v => if v = w then r2 else R1 v) x = Rr x) ∧ (∀ j, j < (tdN (wd w) (k + 1)).length → (fun v => if v = w then r2 else R1 v) w j = nI ((tdN (wd w) (k + 1)).getD j 0)) ∧ (∀ j, k + 1 ≤ j → (fun v => if v = w then r2 else R1 v) w j = Rr w j) := by
        refine ⟨fun x h => (if_neg h).trans (hJ1 x h), fun j h => ?_, fun j h => ?_⟩
        · show (if w = w then r2 else R1 w) j = _
          rw [if_pos rfl]; exact hk1 j h
        · show (if w = w then r2 else R1 w) j = _
          rw [if_pos rfl, hk2 j (by omega)]; exact hJ3 j (by omega)
      refine lv_istore_n (lv' := [(2, .int (nI (tdN (wd w) (k + 1)).length)), (0, .ref hx), (1, .int (nI w)), (3, .int (nI k))]) hC.1 hC.2.1 dX0_tidy_36 rfl hl (by decide) rfl (fun ls hl => ?_)
      refine lv_iinc (v := nI (k + 1)) (lv' := [(3, .int (nI (k + 1))), (2, .int (nI (tdN (wd w) (k + 1)).length)), (0, .ref hx), (1, .int (nI w))]) hC.1 hC.2.1 dX0_tidy_37 hl (k := 3) rfl (z_inc _) (by decide) rfl (fun ls hl => ?_)
      refine lv_goto (tgt := 8) hC.1 hC.2.1 dX0_tidy_40 (by decide) ?_
      exact ih (k + 1) _ _ _ _ (by omega) hJ hY hF hP hD hS ls (lv_sub hl [2, 3, 1, 0] rfl)
  refine lv_iload_n hC.1 hC.2.1 dX0_tidy_0 rfl (lv_at hl 1 rfl) ?_
  refine p_cs (n := 1) (k_checkWord l hw) hC gX0_tidy_X0_checkWord rfl (by decide +kernel) rfl ⟨by decide, by decide⟩ ⟨Nat.zero_le _, Nat.zero_le _⟩ hl.1 (Nat.le_of_ble_eq_true rfl) dX0_tidy_1 rfl ?_
  refine lv_iconst (v := (nI 0)) hC.1 hC.2.1 dX0_tidy_4 (by decide) ?_
  refine lv_istore_n (lv' := [(2, .int (nI 0)), (0, .ref hx), (1, .int (nI w))]) hC.1 hC.2.1 dX0_tidy_5 rfl hl (by decide) rfl (fun ls hl => ?_)
  refine lv_iconst (v := (nI 0)) hC.1 hC.2.1 dX0_tidy_6 (by decide) ?_
  refine lv_istore_n (lv' := [(3, .int (nI 0)), (2, .int (nI 0)), (0, .ref hx), (1, .int (nI w))]) hC.1 hC.2.1 dX0_tidy_7 rfl hl (by decide) rfl (fun ls hl => ?_)
  exact loop _ 0 Rr _ _ _ (Nat.zero_add _) ⟨fun _ _ => rfl, fun j h => absurd h (by simp [tdN]), fun _ _ => rfl⟩ hY hF hP hD hS ls (lv_sub hl [2, 3, 1, 0] rfl)
