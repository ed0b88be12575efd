/-! MY ROWS 10: the class's writing methods (laid by a program of mine) -/
def CY (T : ClassId × ClassId × ClassId) (L : List Nat) (f : Nat → va_E) (hx g ln : Nat) (rw : Nat → Nat) (b : Nat → Nat) (mk : Int32) (Nn : Nat → Int32) (Rr : Nat → Nat → Int32) : Prop :=
  (hx ∈ L ∧ f hx = eO 0 [.long (enc b), .int mk, .ref g, .ref ln]) ∧ (g ∈ L ∧ ∃ G : Nat → Option Nat, f g = eQ T.2.2 5 G ∧ ∀ w, w < 5 → G w = some (rw w)) ∧
  (ln ∈ L ∧ f ln = eI T.1 5 Nn) ∧ (∀ w, w < 5 → rw w ∈ L ∧ f (rw w) = eI T.1 12 (Rr w)) ∧ (∀ i j, i < 5 → j < 5 → rw i = rw j → i = j)
def WS (Nn : Nat → Int32) (Rr : Nat → Nat → Int32) (wd : Nat → List Nat) : Prop := ∀ w, w < 5 → Nn w = nI (wd w).length ∧ (wd w).length ≤ 12 ∧ ∀ k, k < (wd w).length → Rr w k = nI ((wd w).getD k 0) ∧ (wd w).getD k 0 < 9
section CYS
variable {T : ClassId × ClassId × ClassId} {L : List Nat} {f : Nat → va_E} {hx g ln : Nat} {rw : Nat → Nat} {b : Nat → Nat} {mk : Int32} {Nn : Nat → Int32} {Rr : Nat → Nat → Int32} {wd : Nat → List Nat}
theorem CX.raw (h : CX T L f hx g ln rw b mk wd) : ∃ (Nn : Nat → Int32) (Rr : Nat → Nat → Int32), CY T L f hx g ln rw b mk Nn Rr ∧ Va b ∧ WS Nn Rr wd := by
  obtain ⟨h1, h2, ⟨h3, N, h4, h5⟩, h6, h7, h8, h9⟩ := h
  have hh : ∃ Rr : Nat → Nat → Int32, ∀ w, w < 5 → f (rw w) = eI T.1 12 (Rr w) ∧ ∀ k, k < (wd w).length → Rr w k = nI ((wd w).getD k 0) :=
    ⟨fun w => if hw : w < 5 then (h6 w hw).2.choose else fun _ => 0, fun w hw => by simp only [dif_pos hw]; exact (h6 w hw).2.choose_spec⟩
  obtain ⟨Rr, hR⟩ := hh
  exact ⟨N, Rr, ⟨h1, h2, ⟨h3, h4⟩, fun w hw => ⟨(h6 w hw).1, (hR w hw).1⟩, h7⟩, h8, fun w hw => ⟨h5 w hw, (h9 w hw).1, fun k hk => ⟨(hR w hw).2 k hk, (h9 w hw).2 k hk⟩⟩⟩
theorem CY.up (h : CY T L f hx g ln rw b mk Nn Rr) (hv : Va b) (hw : WS Nn Rr wd) : CX T L f hx g ln rw b mk wd := by
  obtain ⟨h1, h2, ⟨h3, h4⟩, h6, h7⟩ := h
  exact ⟨h1, h2, ⟨h3, Nn, h4, fun w h => (hw w h).1⟩, fun w h => ⟨(h6 w h).1, Rr w, (h6 w h).2, fun k hk => ((hw w h).2.2 k hk).1⟩, h7, hv, fun w h => ⟨(hw w h).2.1, fun k hk => ((hw w h).2.2 k hk).2⟩⟩
theorem eI_ne {c : ClassId} {n n2 : Nat} {u v : Nat → Int32} (h : n ≠ n2) : eI c n u ≠ eI c n2 v := fun e => by
  injection e with e
  injection e with _ e
  injection e with e _
  exact h e
theorem eQ_eI {c c2 : ClassId} {n n2 : Nat} {u : Nat → Option Nat} {v : Nat → Int32} : eQ c n u ≠ eI c2 n2 v := fun e => by
  injection e with e
  injection e with _ e
  injection e with _ e
  cases e
theorem CY.put_hx (h : CY T L f hx g ln rw b mk Nn Rr) (b' : Nat → Nat) (mk' : Int32) : CY T L (va_up f hx (eO 0 [.long (enc b'), .int mk', .ref g, .ref ln])) hx g ln rw b' mk' Nn Rr := by
  obtain ⟨⟨h1, h1e⟩, ⟨h2, G, h2e, hG⟩, ⟨h3, h4⟩, h6, h7⟩ := h
  have n1 : g ≠ hx := fun e => by rw [e, h1e] at h2e; cases h2e
  have n2 : ln ≠ hx := fun e => by rw [e, h1e] at h4; cases h4
  have n3 : ∀ w, w < 5 → rw w ≠ hx := fun w hw e => by have := (h6 w hw).2; rw [e, h1e] at this; cases this
  exact ⟨⟨h1, va_up_self _ _ _⟩, ⟨h2, G, (va_up_ne _ _ n1).trans h2e, hG⟩, ⟨h3, (va_up_ne _ _ n2).trans h4⟩, fun w hw => ⟨(h6 w hw).1, (va_up_ne _ _ (n3 w hw)).trans (h6 w hw).2⟩, h7⟩
theorem CY.put_ln (h : CY T L f hx g ln rw b mk Nn Rr) (N' : Nat → Int32) : CY T L (va_up f ln (eI T.1 5 N')) hx g ln rw b mk N' Rr := by
  obtain ⟨⟨h1, h1e⟩, ⟨h2, G, h2e, hG⟩, ⟨h3, h4⟩, h6, h7⟩ := h
  have n1 : hx ≠ ln := fun e => by rw [← e, h1e] at h4; cases h4
  have n2 : g ≠ ln := fun e => by rw [← e, h2e] at h4; exact eQ_eI h4
  have n3 : ∀ w, w < 5 → rw w ≠ ln := fun w hw e => by have := (h6 w hw).2; rw [e, h4] at this; exact eI_ne (by decide) this
  exact ⟨⟨h1, (va_up_ne _ _ n1).trans h1e⟩, ⟨h2, G, (va_up_ne _ _ n2).trans h2e, hG⟩, ⟨h3, va_up_self _ _ _⟩, fun w hw => ⟨(h6 w hw).1, (va_up_ne _ _ (n3 w hw)).trans (h6 w hw).2⟩, h7⟩
theorem CY.put_rw {w : Nat} (h : CY T L f hx g ln rw b mk Nn Rr) (hw : w < 5) (r : Nat → Int32) : CY T L (va_up f (rw w) (eI T.1 12 r)) hx g ln rw b mk Nn (fun v => if v = w then r else Rr v) := by
  obtain ⟨⟨h1, h1e⟩, ⟨h2, G, h2e, hG⟩, ⟨h3, h4⟩, h6, h7⟩ := h
  have hr := (h6 w hw).2
  have n1 : hx ≠ rw w := fun e => by rw [← e, h1e] at hr; cases hr
  have n2 : g ≠ rw w := fun e => by rw [← e, h2e] at hr; exact eQ_eI hr
  have n3 : ln ≠ rw w := fun e => by rw [← e, h4] at hr; exact eI_ne (by decide) hr
  refine ⟨⟨h1, (va_up_ne _ _ n1).trans h1e⟩, ⟨h2, G, (va_up_ne _ _ n2).trans h2e, hG⟩, ⟨h3, (va_up_ne _ _ n3).trans h4⟩, fun v hv => ⟨(h6 v hv).1, ?_⟩, h7⟩
  by_cases e : v = w
  · have e2 : (fun v => if v = w then r else Rr v) v = r := if_pos e
    rw [e2, e]; exact va_up_self _ _ _
  · have e2 : (fun v => if v = w then r else Rr v) v = Rr v := if_neg e
    rw [e2]; exact (va_up_ne _ _ (fun q => e (h7 v w hv hw q))).trans (h6 v hv).2
/-- nothing else is changed -/
def FRX (hx ln : Nat) (rw : Nat → Nat) (f f' : Nat → va_E) : Prop := ∀ a, a ≠ hx → a ≠ ln → (∀ w, w < 5 → a ≠ rw w) → f' a = f a
theorem FRX.rf : FRX hx ln rw f f := fun _ _ _ _ => rfl
theorem FRX.put_hx {f1 : Nat → va_E} {e : va_E} (h : FRX hx ln rw f f1) : FRX hx ln rw f (va_up f1 hx e) := fun a h1 h2 h3 => (va_up_ne _ _ h1).trans (h a h1 h2 h3)
theorem FRX.put_ln {f1 : Nat → va_E} {e : va_E} (h : FRX hx ln rw f f1) : FRX hx ln rw f (va_up f1 ln e) := fun a h1 h2 h3 => (va_up_ne _ _ h2).trans (h a h1 h2 h3)
theorem FRX.put_rw {f1 : Nat → va_E} {e : va_E} {w : Nat} (h : FRX hx ln rw f f1) (hw : w < 5) : FRX hx ln rw f (va_up f1 (rw w) e) := fun a h1 h2 h3 => (va_up_ne _ _ (h3 w hw)).trans (h a h1 h2 h3)
end CYS
/-- what a writing method of the class leaves -/
def XP (T : ClassId × ClassId × ClassId) (L : List Nat) (f : Nat → va_E) (hx g ln : Nat) (rw : Nat → Nat) (r : Int32) (b' : Nat → Nat) (mk' : Int32) (wd' : Nat → List Nat) : Option Value → List Nat → (Nat → va_E) → Prop := fun o L' f' => o = some (.int r) ∧ L' = L ∧ CX T L f' hx g ln rw b' mk' wd' ∧ FRX hx ln rw f f'
def plN (b : Nat → Nat) (l : List Nat) : Nat → (Nat → Nat)
  | 0 => b
  | k + 1 => behind (plN b l k) l
theorem plN_Va {b : Nat → Nat} (h : Va b) (l : List Nat) : ∀ k, Va (plN b l k)
  | 0 => h
  | k + 1 => bhN_Va (plN_Va h l k) l _
def wset (wd : Nat → List Nat) (w : Nat) (l : List Nat) : Nat → List Nat := fun v => if v = w then l else wd v

set_option maxHeartbeats 4000000 in
set_option maxRecDepth 100000 in
theorem k_reset (l : Launch) {D : va_G} {T : ClassId × ClassId × ClassId} {z0 : Nat} {L : List Nat} {f : Nat → va_E} {hx g ln : Nat} {rw : Nat → Nat} {b : Nat → Nat} {mk : Int32} {wd : Nat → List Nat} (hX : CX T L f hx g ln rw b mk wd)  : HV l yX0_reset wsX0_reset (5) 0 0 D z0 (zPre D T z0 L f) [.ref hx] (XP T L f hx g ln rw (nI (8 - nRt b)) one mk wd) := by
  refine HV.of (cc := cX0_reset) (maxL := 2) (ret := (some .int)) (by decide) rfl (Nat.le_of_ble_eq_true rfl) ?_
  intro p e s m args below meth c hC hr hlk hin hB ls hl
  have hl : lv_has ls 2 [(0, .ref hx)] := hl
  obtain ⟨hE, hP, hD⟩ := hB
  obtain ⟨Nn, Rr, hY, hvb, hW⟩ := hX.raw
  obtain ⟨⟨hmx, hex⟩, ⟨hmg, G, heg, hG⟩, ⟨hml, hel⟩, hrw, hinj⟩ := id hY
  have hS : va_S (zA z0) s.heap s.heap [] := va_S.rf
  have hF : FRX hx ln rw f f := FRX.rf
  refine lv_aload_n hC.1 hC.2.1 dX0_reset_0 rfl (lv_at hl 0 rfl) ?_
  refine p_get (ref := "CornerCube") hC hE hP hmx hex rfl (by decide +kernel) 0 (by decide) (by decide +kernel) rfl rfl dX0_reset_1 ?_
  refine p_cs (n := 1) (k_wrongCorners l hvb) hC gX0_reset_X0_wrongCorners rfl (by decide +kernel) rfl ⟨by decide, by decide⟩ ⟨Nat.zero_le _, Nat.zero_le _⟩ hl.1 (Nat.le_of_ble_eq_true rfl) dX0_reset_4 rfl ?_
  refine lv_istore_n (lv' := [(1, .int (nI (8 - nRt b))), (0, .ref hx)]) hC.1 hC.2.1 dX0_reset_7 rfl hl (by decide) rfl (fun ls hl => ?_)
  refine lv_aload_n hC.1 hC.2.1 dX0_reset_8 rfl (lv_at hl 1 rfl) ?_
  refine lv_ldc2 (v := 506097522914230528) hC.1 hC.2.1 hC.2.2.2.1 (hC.2.2.2.2 (.constantLong RX0 9 (506097522914230528)) (by decide +kernel)) dX0_reset_9 ?_
  refine q_l (enc one) (enc_one) ?_
  refine p_put (ref := "CornerCube") (ty0 := tyX0) hC hE hP hD hS hmx hex rfl (by decide +kernel) tyX0_ok nmX0 0 (by decide) (by decide +kernel) rfl rfl rfl rfl (Nat.le_of_ble_eq_true rfl) dX0_reset_12 (fun H locs hP hD hS => ?_)
  have hF := hF.put_hx (e := eO 0 [.long (enc one), .int mk, .ref g, .ref ln])
  have hP : va_P D vwCl (va_pl L (va_up _ hx (eO 0 [.long (enc one), .int mk, .ref g, .ref ln]))) H := hP
  have hD : va_D (zA z0) (va_pl L (va_up _ hx (eO 0 [.long (enc one), .int mk, .ref g, .ref ln]))) := hD
  have hY := hY.put_hx one mk
  obtain ⟨⟨hmx, hex⟩, ⟨hmg, G, heg, hG⟩, ⟨hml, hel⟩, hrw, hinj⟩ := id hY
  refine lv_iload_n hC.1 hC.2.1 dX0_reset_15 rfl (lv_at hl 0 rfl) ?_
  exact HV.iret hC hr hlk hP hD hS (by omega) (by omega) dX0_reset_16 (⟨rfl, rfl, hY.up one_Va hW, hF⟩)

set_option maxHeartbeats 4000000 in
set_option maxRecDepth 100000 in
theorem k_turn (l : Launch) {D : va_G} {T : ClassId × ClassId × ClassId} {z0 : Nat} {L : List Nat} {f : Nat → va_E} {hx g ln : Nat} {rw : Nat → Nat} {b : Nat → Nat} {mk : Int32} {wd : Nat → List Nat} (hX : CX T L f hx g ln rw b mk wd) {fc q : Nat} (hf : fc < 3) (h1 : 1 ≤ q) (hq : q < 4) : HV l yX0_turn wsX0_turn (6) 0 0 D z0 (zPre D T z0 L f) [.ref hx, .int (nI fc), .int (nI q)] (XP T L f hx g ln rw (nI (nRt (turnC b (3 * fc + q - 1)))) (turnC b (3 * fc + q - 1)) (mk + nI 1) wd) := by
  refine HV.of (cc := cX0_turn) (maxL := 3) (ret := (some .int)) (by decide) rfl (Nat.le_of_ble_eq_true rfl) ?_
  intro p e s m args below meth c hC hr hlk hin hB ls hl
  have hl : lv_has ls 3 [(0, .ref hx), (1, .int (nI fc)), (2, .int (nI q))] := hl
  obtain ⟨hE, hP, hD⟩ := hB
  obtain ⟨Nn, Rr, hY, hvb, hW⟩ := hX.raw
  obtain ⟨⟨hmx, hex⟩, ⟨hmg, G, heg, hG⟩, ⟨hml, hel⟩, hrw, hinj⟩ := id hY
  have hS : va_S (zA z0) s.heap s.heap [] := va_S.rf
  have hF : FRX hx ln rw f f := FRX.rf
  refine lv_iload_n hC.1 hC.2.1 dX0_turn_0 rfl (lv_at hl 1 rfl) ?_
  refine p_cs (n := 1) (k_checkFace l hf) hC gX0_turn_X0_checkFace rfl (by decide +kernel) rfl ⟨by decide, by decide⟩ ⟨Nat.zero_le _, Nat.zero_le _⟩ hl.1 (Nat.le_of_ble_eq_true rfl) dX0_turn_1 rfl ?_
  refine lv_iload_n hC.1 hC.2.1 dX0_turn_4 rfl (lv_at hl 2 rfl) ?_
  refine p_cs (n := 1) (k_checkQuarters l h1 hq) hC gX0_turn_X0_checkQuarters rfl (by decide +kernel) rfl ⟨by decide, by decide⟩ ⟨Nat.zero_le _, Nat.zero_le _⟩ hl.1 (Nat.le_of_ble_eq_true rfl) dX0_turn_5 rfl ?_
  refine lv_aload_n hC.1 hC.2.1 dX0_turn_8 rfl (lv_at hl 0 rfl) ?_
  refine lv_aload_n hC.1 hC.2.1 dX0_turn_9 rfl (lv_at hl 0 rfl) ?_
  refine p_get (ref := "CornerCube") hC hE hP hmx hex rfl (by decide +kernel) 0 (by decide) (by decide +kernel) rfl rfl dX0_turn_10 ?_
  refine lv_iload_n hC.1 hC.2.1 dX0_turn_13 rfl (lv_at hl 1 rfl) ?_
  refine lv_iload_n hC.1 hC.2.1 dX0_turn_14 rfl (lv_at hl 2 rfl) ?_
  refine p_cs (n := 2) (k_turnNumber l hf h1 hq) hC gX0_turn_X0_turnNumber rfl (by decide +kernel) rfl ⟨by decide, by decide⟩ ⟨Nat.zero_le _, Nat.zero_le _⟩ hl.1 (Nat.le_of_ble_eq_true rfl) dX0_turn_15 rfl ?_
  refine p_cs (n := 2) (k_turned l hvb (by omega)) hC gX0_turn_X0_turned rfl (by decide +kernel) rfl ⟨by decide, by decide⟩ ⟨Nat.zero_le _, Nat.zero_le _⟩ hl.1 (Nat.le_of_ble_eq_true rfl) dX0_turn_18 rfl ?_
  refine p_put (ref := "CornerCube") (ty0 := tyX0) hC hE hP hD hS hmx hex rfl (by decide +kernel) tyX0_ok nmX0 0 (by decide) (by decide +kernel) rfl rfl rfl rfl (Nat.le_of_ble_eq_true rfl) dX0_turn_21 (fun H locs hP hD hS => ?_)
  have hF := hF.put_hx (e := eO 0 [.long (enc (turnC b (3 * fc + q - 1))), .int mk, .ref g, .ref ln])
  have hP : va_P D vwCl (va_pl L (va_up _ hx (eO 0 [.long (enc (turnC b (3 * fc + q - 1))), .int mk, .ref g, .ref ln]))) H := hP
  have hD : va_D (zA z0) (va_pl L (va_up _ hx (eO 0 [.long (enc (turnC b (3 * fc + q - 1))), .int mk, .ref g, .ref ln]))) := hD
  have hY := hY.put_hx (turnC b (3 * fc + q - 1)) mk
  obtain ⟨⟨hmx, hex⟩, ⟨hmg, G, heg, hG⟩, ⟨hml, hel⟩, hrw, hinj⟩ := id hY
  refine lv_aload_n hC.1 hC.2.1 dX0_turn_24 rfl (lv_at hl 0 rfl) ?_
  refine lv_dup hC.1 hC.2.1 dX0_turn_25 rfl ?_
  refine p_get (ref := "CornerCube") hC hE hP hmx hex rfl (by decide +kernel) 1 (by decide) (by decide +kernel) rfl rfl dX0_turn_26 ?_
  refine lv_iconst (v := (nI 1)) hC.1 hC.2.1 dX0_turn_29 (by decide) ?_
  refine lv_iadd hC.1 hC.2.1 dX0_turn_30 ?_
  refine p_put (ref := "CornerCube") (ty0 := tyX0) hC hE hP hD hS hmx hex rfl (by decide +kernel) tyX0_ok nmX0 1 (by decide) (by decide +kernel) rfl rfl rfl rfl (Nat.le_of_ble_eq_true rfl) dX0_turn_31 (fun H locs hP hD hS => ?_)
  have hF := hF.put_hx (e := eO 0 [.long (enc (turnC b (3 * fc + q - 1))), .int (mk + nI 1), .ref g, .ref ln])
  have hP : va_P D vwCl (va_pl L (va_up _ hx (eO 0 [.long (enc (turnC b (3 * fc + q - 1))), .int (mk + nI 1), .ref g, .ref ln]))) H := hP
  have hD : va_D (zA z0) (va_pl L (va_up _ hx (eO 0 [.long (enc (turnC b (3 * fc + q - 1))), .int (mk + nI 1), .ref g, .ref ln]))) := hD
  have hY := hY.put_hx (turnC b (3 * fc + q - 1)) (mk + nI 1)
  obtain ⟨⟨hmx, hex⟩, ⟨hmg, G, heg, hG⟩, ⟨hml, hel⟩, hrw, hinj⟩ := id hY
  refine lv_aload_n hC.1 hC.2.1 dX0_turn_34 rfl (lv_at hl 0 rfl) ?_
  refine p_get (ref := "CornerCube") hC hE hP hmx hex rfl (by decide +kernel) 0 (by decide) (by decide +kernel) rfl rfl dX0_turn_35 ?_
  refine p_cs (n := 1) (k_rightCorners l (turnC_Va _ _)) hC gX0_turn_X0_rightCorners rfl (by decide +kernel) rfl ⟨by decide, by decide⟩ ⟨Nat.zero_le _, Nat.zero_le _⟩ hl.1 (Nat.le_of_ble_eq_true rfl) dX0_turn_38 rfl ?_
  exact HV.iret hC hr hlk hP hD hS (by omega) (by omega) dX0_turn_41 (⟨rfl, rfl, hY.up (turnC_Va _ _) hW, hF⟩)

set_option maxHeartbeats 4000000 in
set_option maxRecDepth 100000 in
theorem k_play (l : Launch) {D : va_G} {T : ClassId × ClassId × ClassId} {z0 : Nat} {L : List Nat} {f : Nat → va_E} {hx g ln : Nat} {rw : Nat → Nat} {b : Nat → Nat} {mk : Int32} {wd : Nat → List Nat} (hX : CX T L f hx g ln rw b mk wd) {w ts : Nat} (hw : w < 5) (h1 : 1 ≤ ts) (h2 : ts ≤ 50) (h0 : 0 < (wd w).length) : HV l yX0_play wsX0_play (6) 0 0 D z0 (zPre D T z0 L f) [.ref hx, .int (nI w), .int (nI ts)] (XP T L f hx g ln rw (nI (nRt (plN b (wd w) ts))) (plN b (wd w) ts) (mk + nI (ts * (wd w).length)) wd) := by
  refine HV.of (cc := cX0_play) (maxL := 4) (ret := (some .int)) (by decide) rfl (Nat.le_of_ble_eq_true rfl) ?_
  intro p e s m args below meth c hC hr hlk hin hB ls hl
  have hl : lv_has ls 4 [(0, .ref hx), (1, .int (nI w)), (2, .int (nI ts))] := hl
  obtain ⟨hE, hP, hD⟩ := hB
  obtain ⟨Nn, Rr, hY, hvb, hW⟩ := hX.raw
  obtain ⟨⟨hmx, hex⟩, ⟨hmg, G, heg, hG⟩, ⟨hml, hel⟩, hrw, hinj⟩ := id hY
  have hS : va_S (zA z0) s.heap s.heap [] := va_S.rf
  have hF : FRX hx ln rw f f := FRX.rf
  have hl12 := (hW w hw).2.1
  have htl : ts * (wd w).length ≤ 50 * 12 := Nat.mul_le_mul h2 hl12
  have loop : ∀ (n k : Nat) (f1 : Nat → va_E) (H : Heap) (locs : List Loc), k + n = ts → CY T L f1 hx g ln rw (plN b (wd w) k) mk Nn Rr → FRX hx ln rw f f1 → va_P D vwCl (va_pl L f1) H → va_D (zA z0) (va_pl L f1) → va_S (zA z0) s.heap H locs → ∀ ls : Array Slot, lv_has ls 4 [(0, .ref hx), (1, .int (nI w)), (2, .int (nI ts)), (3, .int (nI k))] → W p l e (rD (6) 0 0) s m args below meth c H locs 0 0 (MQ below (HVQ D z0 (XP T L f hx g ln rw (nI (nRt (plN b (wd w) ts))) (plN b (wd w) ts) (mk + nI (ts * (wd w).length)) wd)) args s 0 0 (zA z0)) (F0 m 46 ls []) := by
    intro n
    induction n with
    | zero =>
      intro k f1 H locs hk hY hF hP hD hS ls hl
      obtain ⟨⟨hmx, hex⟩, ⟨hmg, G, heg, hG⟩, ⟨hml, hel⟩, hrw, hinj⟩ := id hY
      obtain rfl : k = ts := by omega
      refine lv_iload_n hC.1 hC.2.1 dX0_play_46 rfl (lv_at hl 3 rfl) ?_
      refine lv_iload_n hC.1 hC.2.1 dX0_play_47 rfl (lv_at hl 2 rfl) ?_
      refine z_icmp_ge (tgt := 70) hC dX0_play_48 (by decide) (by omega) (by omega) (fun h_48 => ?_) (fun h_48 => by omega)
      refine lv_aload_n hC.1 hC.2.1 dX0_play_70 rfl (lv_at hl 0 rfl) ?_
      refine lv_dup hC.1 hC.2.1 dX0_play_71 rfl ?_
      refine p_get (ref := "CornerCube") hC hE hP hmx hex rfl (by decide +kernel) 1 (by decide) (by decide +kernel) rfl rfl dX0_play_72 ?_
      refine lv_iload_n hC.1 hC.2.1 dX0_play_75 rfl (lv_at hl 2 rfl) ?_
      refine lv_aload_n hC.1 hC.2.1 dX0_play_76 rfl (lv_at hl 0 rfl) ?_
      refine p_get (ref := "CornerCube") hC hE hP hmx hex rfl (by decide +kernel) 3 (by decide) (by decide +kernel) rfl rfl dX0_play_77 ?_
      refine lv_iload_n hC.1 hC.2.1 dX0_play_80 rfl (lv_at hl 1 rfl) ?_
      refine p_iald hC hE hP hml hel (by omega) (by decide) dX0_play_81 ?_
      refine q_i (nI (wd w).length) ((hW _ (by omega)).1) ?_
      refine z_imul hC dX0_play_82 ?_
      refine lv_iadd hC.1 hC.2.1 dX0_play_83 ?_
      refine p_put (ref := "CornerCube") (ty0 := tyX0) hC hE hP hD hS hmx hex rfl (by decide +kernel) tyX0_ok nmX0 1 (by decide) (by decide +kernel) rfl rfl rfl rfl (Nat.le_of_ble_eq_true rfl) dX0_play_84 (fun H locs hP hD hS => ?_)
      have hF := hF.put_hx (e := eO 0 [.long (enc (plN b (wd w) k)), .int (mk + nI (k * (wd w).length)), .ref g, .ref ln])
      have hP : va_P D vwCl (va_pl L (va_up _ hx (eO 0 [.long (enc (plN b (wd w) k)), .int (mk + nI (k * (wd w).length)), .ref g, .ref ln]))) H := hP
      have hD : va_D (zA z0) (va_pl L (va_up _ hx (eO 0 [.long (enc (plN b (wd w) k)), .int (mk + nI (k * (wd w).length)), .ref g, .ref ln]))) := hD
      have hY := hY.put_hx (plN b (wd w) k) (mk + nI (k * (wd w).length))
      obtain ⟨⟨hmx, hex⟩, ⟨hmg, G, heg, hG⟩, ⟨hml, hel⟩, hrw, hinj⟩ := id hY
      refine lv_aload_n hC.1 hC.2.1 dX0_play_87 rfl (lv_at hl 0 rfl) ?_
      refine p_get (ref := "CornerCube") hC hE hP hmx hex rfl (by decide +kernel) 0 (by decide) (by decide +kernel) rfl rfl dX0_play_88 ?_
      refine p_cs (n := 1) (k_rightCorners l (plN_Va hvb _ _)) hC gX0_play_X0_rightCorners rfl (by decide +kernel) rfl ⟨by decide, by decide⟩ ⟨Nat.zero_le _, Nat.zero_le _⟩ hl.1 (Nat.le_of_ble_eq_true rfl) dX0_play_91 rfl ?_
      exact HV.iret hC hr hlk hP hD hS (by omega) (by omega) dX0_play_94 (⟨rfl, rfl, hY.up (plN_Va hvb _ _) hW, hF⟩)
    | succ n ih =>
      intro k f1 H locs hk hY hF hP hD hS ls hl
      obtain ⟨⟨hmx, hex⟩, ⟨hmg, G, heg, hG⟩, ⟨hml, hel⟩, hrw, hinj⟩ := id hY
      refine lv_iload_n hC.1 hC.2.1 dX0_play_46 rfl (lv_at hl 3 rfl) ?_
      refine lv_iload_n hC.1 hC.2.1 dX0_play_47 rfl (lv_at hl 2 rfl) ?_
      refine z_icmp_ge (tgt := 70) hC dX0_play_48 (by decide) (by omega) (by omega) (fun h_48 => by omega) (fun h_48 => ?_)
      refine lv_aload_n hC.1 hC.2.1 dX0_play_51 rfl (lv_at hl 0 rfl) ?_
      refine lv_aload_n hC.1 hC.2.1 dX0_play_52 rfl (lv_at hl 0 rfl) ?_
      refine lv_aload_n hC.1 hC.2.1 dX0_play_53 rfl (lv_at hl 0 rfl) ?_
      refine p_get (ref := "CornerCube") hC hE hP hmx hex rfl (by decide +kernel) 0 (by decide) (by decide +kernel) rfl rfl dX0_play_54 ?_
      refine lv_iload_n hC.1 hC.2.1 dX0_play_57 rfl (lv_at hl 1 rfl) ?_
      refine p_cvB (n := 2) (k_behindWord l (hY.up (plN_Va hvb _ _) hW) (plN_Va hvb _ _) hw) hC hE hP hD hS (hmx) (hex) rfl gX0_play_X0_behindWord rfl (by decide +kernel) rfl ⟨by decide, by decide⟩ ⟨Nat.zero_le _, Nat.zero_le _⟩ hl.1 (Nat.le_of_ble_eq_true rfl) dX0_play_58 rfl ?_
      refine p_put (ref := "CornerCube") (ty0 := tyX0) hC hE hP hD hS hmx hex rfl (by decide +kernel) tyX0_ok nmX0 0 (by decide) (by decide +kernel) rfl rfl rfl rfl (Nat.le_of_ble_eq_true rfl) dX0_play_61 (fun H locs hP hD hS => ?_)
      have hF := hF.put_hx (e := eO 0 [.long (enc (plN b (wd w) (k + 1))), .int mk, .ref g, .ref ln])
      have hP : va_P D vwCl (va_pl L (va_up _ hx (eO 0 [.long (enc (plN b (wd w) (k + 1))), .int mk, .ref g, .ref ln]))) H := hP
      have hD : va_D (zA z0) (va_pl L (va_up _ hx (eO 0 [.long (enc (plN b (wd w) (k + 1))), .int mk, .ref g, .ref ln]))) := hD
      have hY := hY.put_hx (plN b (wd w) (k + 1)) mk
      obtain ⟨⟨hmx, hex⟩, ⟨hmg, G, heg, hG⟩, ⟨hml, hel⟩, hrw, hinj⟩ := id hY
      refine lv_iinc (v := nI (k + 1)) (lv' := [(3, .int (nI (k + 1))), (0, .ref hx), (1, .int (nI w)), (2, .int (nI ts))]) hC.1 hC.2.1 dX0_play_64 hl (k := 3) rfl (z_inc _) (by decide) rfl (fun ls hl => ?_)
      refine lv_goto (tgt := 46) hC.1 hC.2.1 dX0_play_67 (by decide) ?_
      exact ih (k + 1) _ _ _ (by omega) hY hF hP hD hS ls (lv_sub hl [1, 2, 3, 0] rfl)
  refine lv_iload_n hC.1 hC.2.1 dX0_play_0 rfl (lv_at hl 1 rfl) ?_
  refine p_cs (n := 1) (k_checkWord l hw) hC gX0_play_X0_checkWord rfl (by decide +kernel) rfl ⟨by decide, by decide⟩ ⟨Nat.zero_le _, Nat.zero_le _⟩ hl.1 (Nat.le_of_ble_eq_true rfl) dX0_play_1 rfl ?_
  refine lv_iload_n hC.1 hC.2.1 dX0_play_4 rfl (lv_at hl 2 rfl) ?_
  refine lv_iconst (v := (nI 1)) hC.1 hC.2.1 dX0_play_5 (by decide) ?_
  refine z_icmp_lt (tgt := 15) hC dX0_play_6 (by decide) (by omega) (by omega) (fun h_6 => by omega) (fun h_6 => ?_)
  refine lv_iload_n hC.1 hC.2.1 dX0_play_9 rfl (lv_at hl 2 rfl) ?_
  refine lv_bipush (v := (nI 50)) hC.1 hC.2.1 dX0_play_10 (by decide) ?_
  refine z_icmp_le (tgt := 25) hC dX0_play_12 (by decide) (by omega) (by omega) (fun h_12 => ?_) (fun h_12 => by omega)
  refine lv_aload_n hC.1 hC.2.1 dX0_play_25 rfl (lv_at hl 0 rfl) ?_
  refine p_get (ref := "CornerCube") hC hE hP hmx hex rfl (by decide +kernel) 3 (by decide) (by decide +kernel) rfl rfl dX0_play_26 ?_
  refine lv_iload_n hC.1 hC.2.1 dX0_play_29 rfl (lv_at hl 1 rfl) ?_
  refine p_iald hC hE hP hml hel (by omega) (by decide) dX0_play_30 ?_
  refine q_i (nI (wd w).length) ((hW _ (by omega)).1) ?_
  refine z_if_ne (tgt := 44) hC dX0_play_31 (by decide) (by omega) (fun h_31 => ?_) (fun h_31 => by omega)
  refine lv_iconst (v := (nI 0)) hC.1 hC.2.1 dX0_play_44 (by decide) ?_
  refine lv_istore_n (lv' := [(3, .int (nI 0)), (0, .ref hx), (1, .int (nI w)), (2, .int (nI ts))]) hC.1 hC.2.1 dX0_play_45 rfl hl (by decide) rfl (fun ls hl => ?_)
  exact loop ts 0 _ _ _ (Nat.zero_add _) hY hF hP hD hS ls (lv_sub hl [1, 2, 3, 0] rfl)
