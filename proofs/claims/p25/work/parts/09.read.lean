/-! MY ROWS 09: the class as cells; its reading methods (laid by a program of mine) -/
def CX (T : ClassId × ClassId × ClassId) (L : List Nat) (f : Nat → va_E) (hx g ln : Nat) (rw : Nat → Nat) (b : Nat → Nat) (mk : Int32) (wd : Nat → List Nat) : Prop :=
  (hx ∈ L ∧ f hx = eO 0 [.long (enc b), .int mk, .ref g, .ref ln]) ∧ (g ∈ L ∧ ∃ G : Nat → Option Nat, f g = eQ T.2.2 5 G ∧ ∀ w, w < 5 → G w = some (rw w)) ∧
  (ln ∈ L ∧ ∃ N : Nat → Int32, f ln = eI T.1 5 N ∧ ∀ w, w < 5 → N w = nI (wd w).length) ∧
  (∀ w, w < 5 → rw w ∈ L ∧ ∃ h : Nat → Int32, f (rw w) = eI T.1 12 h ∧ ∀ k, k < (wd w).length → h k = nI ((wd w).getD k 0)) ∧
  (∀ i j, i < 5 → j < 5 → rw i = rw j → i = j) ∧ Va b ∧ (∀ w, w < 5 → (wd w).length ≤ 12 ∧ ∀ k, k < (wd w).length → (wd w).getD k 0 < 9)
/-- the turns of a list, the first i of them, behind c -/
def bhN (c : Nat → Nat) (l : List Nat) : Nat → (Nat → Nat)
  | 0 => c
  | i + 1 => turnC (bhN c l i) (l.getD i 0)
def behind (c : Nat → Nat) (l : List Nat) : Nat → Nat := bhN c l l.length
def deed (l : List Nat) : Nat → Nat := behind one l
theorem bhN_Va {c : Nat → Nat} (h : Va c) (l : List Nat) : ∀ i, Va (bhN c l i)
  | 0 => h
  | _ + 1 => turnC_Va _ _
theorem deed_Va (l : List Nat) : Va (deed l) := bhN_Va one_Va l _
def tb (t : Nat) : Nat := 3 * (t / 3) + (4 - (t % 3 + 1)) - 1
theorem tb_lt {t : Nat} (h : t < 9) : tb t < 9 := by unfold tb; omega
def brN (c : Nat → Nat) (l : List Nat) : Nat → (Nat → Nat)
  | 0 => c
  | k + 1 => turnC (brN c l k) (tb (l.getD (l.length - 1 - k) 0))
def behindR (c : Nat → Nat) (l : List Nat) : Nat → Nat := brN c l l.length
theorem brN_Va {c : Nat → Nat} (h : Va c) (l : List Nat) : ∀ i, Va (brN c l i)
  | 0 => h
  | _ + 1 => turnC_Va _ _
def tot (wd : Nat → List Nat) : Nat → Nat
  | 0 => 0
  | n + 1 => tot wd n + (wd n).length
theorem tot_le {wd : Nat → List Nat} (h : ∀ w, w < 5 → (wd w).length ≤ 12) : ∀ n, n ≤ 5 → tot wd n ≤ 12 * n
  | 0, _ => by simp [tot]
  | n + 1, hn => by
    have h1 := tot_le h n (by omega)
    have h2 := h n (by omega)
    show tot wd n + (wd n).length ≤ _
    omega
def ordS (c : Nat → Nat) : Nat → Nat → Nat
  | 0, k => k
  | u + 1, k => if enc (pw c k) = enc one then k else ordS c u (k + 1)
/-- the order, less 1 -/
def ordN (c : Nat → Nat) : Nat := ordS c 1000 0
theorem ordS_spec (c : Nat → Nat) : ∀ (u k : Nat), ordS c u k < k + u → (∀ j, k ≤ j → j < ordS c u k → ¬ enc (pw c j) = enc one) ∧ enc (pw c (ordS c u k)) = enc one
  | 0, k, h => absurd h (by simp [ordS])
  | u + 1, k, h => by
    unfold ordS at h ⊢
    split
    · rename_i he
      exact ⟨fun j h1 h2 => absurd h2 (by omega), he⟩
    · rename_i he
      rw [if_neg he] at h
      obtain ⟨h1, h2⟩ := ordS_spec c u (k + 1) (by omega)
      refine ⟨fun j h3 h4 => ?_, h2⟩
      by_cases e : j = k
      · subst e; exact he
      · exact h1 j (by omega) h4
theorem ordN_spec {c : Nat → Nat} (h : ordN c < 1000) : (∀ j, j < ordN c → ¬ enc (pw c j) = enc one) ∧ enc (pw c (ordN c)) = enc one := by
  obtain ⟨h1, h2⟩ := ordS_spec c 1000 0 (by rw [Nat.zero_add]; exact h)
  exact ⟨fun j hj => h1 j (Nat.zero_le _) hj, h2⟩
theorem k_order (l : Launch) {b : Nat → Nat} (hv : Va b) (h : ordN b < 1000) : RV l yX0_orderOf wsX0_orderOf 3 zNo [.long (enc b)] (some (.int (nI (ordN b + 1)))) := k_orderOf l hv h (ordN_spec h).1 (ordN_spec h).2
abbrev nRt (b : Nat → Nat) : Nat := ct (fun i => decide (b i = i)) 8
abbrev nPl (b : Nat → Nat) : Nat := ct (fun i => decide (b i % 8 = i)) 8
abbrev nUt (b : Nat → Nat) : Nat := ct (fun i => decide (b i / 8 = 0)) 8
def cV (b : Nat → Nat) (mk : Int32) (wd : Nat → List Nat) : Nat → Int32
  | 0 => mk
  | 1 => nI (nRt b)
  | 2 => nI (nPl b)
  | 3 => nI (nUt b)
  | 4 => nI (invs b 8 % 2)
  | 5 => nI (ordN b + 1)
  | _ => nI (tot wd 5)
def tV (b : Nat → Nat) (q : Nat) : Nat → Nat
  | 0 => b q % 8
  | 1 => b q / 8
  | _ => if b q = q then 1 else 0
def wV (l : List Nat) : Nat → Nat
  | 0 => l.length
  | 1 => ordN (deed l) + 1
  | 2 => 8 - nRt (deed l)
  | _ => 8 - nPl (deed l)

set_option maxHeartbeats 4000000 in
set_option maxRecDepth 100000 in
theorem k_behindWord (l : Launch) {D : va_G} {T : ClassId × ClassId × ClassId} {z0 : Nat} {L : List Nat} {f : Nat → va_E} {hx g ln : Nat} {rw : Nat → Nat} {b : Nat → Nat} {mk : Int32} {wd : Nat → List Nat} (hX : CX T L f hx g ln rw b mk wd) {c : Nat → Nat} (hc : Va c) {w : Nat} (hw : w < 5) : RV l yX0_behindWord wsX0_behindWord (5) (zPre D T z0 L f) [.ref hx, .long (enc c), .int (nI w)] (some (.long (enc (behind c (wd w))))) := by
  refine RV.of (cc := cX0_behindWord) (maxL := 7) (ret := (some .long)) (by decide) rfl (Nat.le_of_ble_eq_true rfl) ?_
  intro p e s m args below meth c0 hC hr hlk hB ls hl
  have hl : lv_has ls 7 [(0, .ref hx), (1, .long (enc c)), (3, .int (nI w))] := hl
  obtain ⟨hE, hP, hD⟩ := hB
  obtain ⟨⟨hmx, hex⟩, ⟨hmg, G, heg, hG⟩, ⟨hml, Nl, hel, hNl⟩, hrw, hinj, hvb, hwd⟩ := id hX
  have hS : va_S (zA z0) s.heap s.heap [] := va_S.rf
  obtain ⟨hrm, h, her, hh⟩ := hrw w hw
  have hl12 := (hwd w hw).1
  have hl9 := (hwd w hw).2
  have loop : ∀ (n i : Nat), i + n = (wd w).length → ∀ ls : Array Slot, lv_has ls 7 [(0, .ref hx), (1, .long (enc c)), (3, .int (nI w)), (4, .long (enc (bhN c (wd w) i))), (6, .int (nI i))] → W p l e (rD (5) 0 0) s m args below meth c0 s.heap [] 0 0 (MQ below (RVQ (some (.long (enc (behind c (wd w)))))) args s 0 0 (fun _ => False)) (F0 m 6 ls []) := by
    intro n
    induction n with
    | zero =>
      intro i hc0 ls hl
      obtain rfl : i = (wd w).length := by omega
      refine lv_iload hC.1 hC.2.1 dX0_behindWord_6 (lv_at hl 4 rfl) ?_
      refine lv_aload_n hC.1 hC.2.1 dX0_behindWord_8 rfl (lv_at hl 0 rfl) ?_
      refine p_get (ref := "CornerCube") hC hE hP hmx hex rfl (by decide +kernel) 3 (by decide) (by decide +kernel) rfl rfl dX0_behindWord_9 ?_
      refine lv_iload_n hC.1 hC.2.1 dX0_behindWord_12 rfl (lv_at hl 2 rfl) ?_
      refine p_iald hC hE hP hml hel (by omega) (by decide) dX0_behindWord_13 ?_
      refine q_i (nI (wd w).length) (hNl _ (by omega)) ?_
      refine z_icmp_ge (tgt := 39) hC dX0_behindWord_14 (by decide) (by omega) (by omega) (fun h_14 => ?_) (fun h_14 => by omega)
      refine lv_lload hC.1 hC.2.1 dX0_behindWord_39 (lv_at hl 3 rfl) ?_
      exact RV.lret hC hr hlk dX0_behindWord_41 (rfl)
    | succ n ih =>
      intro i hc0 ls hl
      refine lv_iload hC.1 hC.2.1 dX0_behindWord_6 (lv_at hl 4 rfl) ?_
      refine lv_aload_n hC.1 hC.2.1 dX0_behindWord_8 rfl (lv_at hl 0 rfl) ?_
      refine p_get (ref := "CornerCube") hC hE hP hmx hex rfl (by decide +kernel) 3 (by decide) (by decide +kernel) rfl rfl dX0_behindWord_9 ?_
      refine lv_iload_n hC.1 hC.2.1 dX0_behindWord_12 rfl (lv_at hl 2 rfl) ?_
      refine p_iald hC hE hP hml hel (by omega) (by decide) dX0_behindWord_13 ?_
      refine q_i (nI (wd w).length) (hNl _ (by omega)) ?_
      refine z_icmp_ge (tgt := 39) hC dX0_behindWord_14 (by decide) (by omega) (by omega) (fun h_14 => by omega) (fun h_14 => ?_)
      refine lv_lload hC.1 hC.2.1 dX0_behindWord_17 (lv_at hl 3 rfl) ?_
      refine lv_aload_n hC.1 hC.2.1 dX0_behindWord_19 rfl (lv_at hl 0 rfl) ?_
      refine p_get (ref := "CornerCube") hC hE hP hmx hex rfl (by decide +kernel) 2 (by decide) (by decide +kernel) rfl rfl dX0_behindWord_20 ?_
      refine lv_iload_n hC.1 hC.2.1 dX0_behindWord_23 rfl (lv_at hl 2 rfl) ?_
      refine p_aald hC hE hP hmg heg (by omega) (by decide) (hG _ (by omega)) dX0_behindWord_24 ?_
      refine lv_iload hC.1 hC.2.1 dX0_behindWord_25 (lv_at hl 4 rfl) ?_
      refine p_iald hC hE hP hrm her (by omega) (by decide) dX0_behindWord_27 ?_
      refine q_i (nI ((wd w).getD i 0)) (hh _ (by omega)) ?_
      refine p_cs (n := 2) (k_turned l (bhN_Va hc _ i) (hl9 i (by omega))) hC gX0_behindWord_X0_turned rfl (by decide +kernel) rfl ⟨by decide, by decide⟩ ⟨Nat.zero_le _, Nat.zero_le _⟩ hl.1 (Nat.le_of_ble_eq_true rfl) dX0_behindWord_28 rfl ?_
      refine lv_lstore (lv' := [(4, .long (enc (bhN c (wd w) (i + 1)))), (0, .ref hx), (1, .long (enc c)), (3, .int (nI w)), (6, .int (nI i))]) hC.1 hC.2.1 dX0_behindWord_31 hl (by decide) rfl (fun ls hl => ?_)
      refine lv_iinc (v := nI (i + 1)) (lv' := [(6, .int (nI (i + 1))), (4, .long (enc (bhN c (wd w) (i + 1)))), (0, .ref hx), (1, .long (enc c)), (3, .int (nI w))]) hC.1 hC.2.1 dX0_behindWord_33 hl (k := 4) rfl (z_inc _) (by decide) rfl (fun ls hl => ?_)
      refine lv_goto (tgt := 6) hC.1 hC.2.1 dX0_behindWord_36 (by decide) ?_
      exact ih (i + 1) (by omega) ls (lv_sub hl [2, 3, 4, 1, 0] rfl)
  refine lv_lload_n hC.1 hC.2.1 dX0_behindWord_0 rfl (lv_at hl 1 rfl) ?_
  refine lv_lstore (lv' := [(4, .long (enc c)), (0, .ref hx), (1, .long (enc c)), (3, .int (nI w))]) hC.1 hC.2.1 dX0_behindWord_1 hl (by decide) rfl (fun ls hl => ?_)
  refine lv_iconst (v := (nI 0)) hC.1 hC.2.1 dX0_behindWord_3 (by decide) ?_
  refine lv_istore (lv' := [(6, .int (nI 0)), (4, .long (enc c)), (0, .ref hx), (1, .long (enc c)), (3, .int (nI w))]) hC.1 hC.2.1 dX0_behindWord_4 hl (by decide) rfl (fun ls hl => ?_)
  exact loop _ 0 (Nat.zero_add _) ls (lv_sub hl [2, 3, 4, 1, 0] rfl)

set_option maxHeartbeats 4000000 in
set_option maxRecDepth 100000 in
theorem k_deedOf (l : Launch) {D : va_G} {T : ClassId × ClassId × ClassId} {z0 : Nat} {L : List Nat} {f : Nat → va_E} {hx g ln : Nat} {rw : Nat → Nat} {b : Nat → Nat} {mk : Int32} {wd : Nat → List Nat} (hX : CX T L f hx g ln rw b mk wd) {w : Nat} (hw : w < 5) : RV l yX0_deedOf wsX0_deedOf (6) (zPre D T z0 L f) [.ref hx, .int (nI w)] (some (.long (enc (deed (wd w))))) := by
  refine RV.of (cc := cX0_deedOf) (maxL := 2) (ret := (some .long)) (by decide) rfl (Nat.le_of_ble_eq_true rfl) ?_
  intro p e s m args below meth c hC hr hlk hB ls hl
  have hl : lv_has ls 2 [(0, .ref hx), (1, .int (nI w))] := hl
  obtain ⟨hE, hP, hD⟩ := hB
  obtain ⟨⟨hmx, hex⟩, ⟨hmg, G, heg, hG⟩, ⟨hml, Nl, hel, hNl⟩, hrw, hinj, hvb, hwd⟩ := id hX
  have hS : va_S (zA z0) s.heap s.heap [] := va_S.rf
  refine lv_aload_n hC.1 hC.2.1 dX0_deedOf_0 rfl (lv_at hl 0 rfl) ?_
  refine lv_ldc2 (v := 506097522914230528) hC.1 hC.2.1 hC.2.2.2.1 (hC.2.2.2.2 (.constantLong RX0 9 (506097522914230528)) (by decide +kernel)) dX0_deedOf_1 ?_
  refine q_l (enc one) (enc_one) ?_
  refine lv_iload_n hC.1 hC.2.1 dX0_deedOf_4 rfl (lv_at hl 1 rfl) ?_
  refine p_cvB (n := 2) (k_behindWord l hX one_Va hw) hC hE hP hD hS (hmx) (hex) rfl gX0_deedOf_X0_behindWord rfl (by decide +kernel) rfl ⟨by decide, by decide⟩ ⟨Nat.zero_le _, Nat.zero_le _⟩ hl.1 (Nat.le_of_ble_eq_true rfl) dX0_deedOf_5 rfl ?_
  exact RV.lret hC hr hlk dX0_deedOf_8 (rfl)

theorem z_ge0 {x : Nat} (h : 0 < x) (hx : x < 2 ^ 31) : nI x - nI 1 = nI (x - 1) := pk_sub h
theorem m1_lt0 : ((0 : Int32) - 1) < 0 := by decide
theorem z_m1 (x : Int32) : x + Int32.ofInt (-1) = x - 1 := (Int32.sub_eq_add_neg x 1).symm
set_option maxHeartbeats 4000000 in
set_option maxRecDepth 100000 in
theorem k_behindWordRound (l : Launch) {D : va_G} {T : ClassId × ClassId × ClassId} {z0 : Nat} {L : List Nat} {f : Nat → va_E} {hx g ln : Nat} {rw : Nat → Nat} {b : Nat → Nat} {mk : Int32} {wd : Nat → List Nat} (hX : CX T L f hx g ln rw b mk wd) {c : Nat → Nat} (hc : Va c) {w : Nat} (hw : w < 5) : RV l yX0_behindWordRound wsX0_behindWordRound (5) (zPre D T z0 L f) [.ref hx, .long (enc c), .int (nI w)] (some (.long (enc (behindR c (wd w))))) := by
  refine RV.of (cc := cX0_behindWordRound) (maxL := 7) (ret := (some .long)) (by decide) rfl (Nat.le_of_ble_eq_true rfl) ?_
  intro p e s m args below meth c0 hC hr hlk hB ls hl
  have hl : lv_has ls 7 [(0, .ref hx), (1, .long (enc c)), (3, .int (nI w))] := hl
  obtain ⟨hE, hP, hD⟩ := hB
  obtain ⟨⟨hmx, hex⟩, ⟨hmg, G, heg, hG⟩, ⟨hml, Nl, hel, hNl⟩, hrw, hinj, hvb, hwd⟩ := id hX
  have hS : va_S (zA z0) s.heap s.heap [] := va_S.rf
  obtain ⟨hrm, h, her, hh⟩ := hrw w hw
  have hl12 := (hwd w hw).1
  have hl9 := (hwd w hw).2
  have loop : ∀ (n k : Nat), k + n = (wd w).length → ∀ ls : Array Slot, lv_has ls 7 [(0, .ref hx), (1, .long (enc c)), (3, .int (nI w)), (4, .long (enc (brN c (wd w) k))), (6, .int (nI ((wd w).length - k) - 1))] → W p l e (rD (5) 0 0) s m args below meth c0 s.heap [] 0 0 (MQ below (RVQ (some (.long (enc (behindR c (wd w)))))) args s 0 0 (fun _ => False)) (F0 m 13 ls []) := by
    intro n
    induction n with
    | zero =>
      intro k hc0 ls hl
      obtain rfl : k = (wd w).length := by omega
      have hk0 : nI ((wd w).length - (wd w).length) - 1 < (0 : Int32) := by rw [Nat.sub_self]; decide
      refine lv_iload hC.1 hC.2.1 dX0_behindWordRound_13 (lv_at hl 4 rfl) ?_
      refine lv_if_lt (tgt := 43) hC.1 hC.2.1 dX0_behindWordRound_15 (by decide) (fun h_15 => ?_) (fun h_15 => absurd hk0 h_15)
      refine lv_lload hC.1 hC.2.1 dX0_behindWordRound_43 (lv_at hl 3 rfl) ?_
      exact RV.lret hC hr hlk dX0_behindWordRound_45 (rfl)
    | succ n ih =>
      intro k hc0 ls hl
      have hk1 : nI ((wd w).length - k) - 1 = nI ((wd w).length - 1 - k) := (pk_sub (by omega : 1 ≤ (wd w).length - k)).trans (by rw [show (wd w).length - k - 1 = (wd w).length - 1 - k from by omega])
      rw [hk1] at hl
      refine lv_iload hC.1 hC.2.1 dX0_behindWordRound_13 (lv_at hl 4 rfl) ?_
      refine z_if_lt (tgt := 43) hC dX0_behindWordRound_15 (by decide) (by omega) ?_
      refine lv_lload hC.1 hC.2.1 dX0_behindWordRound_18 (lv_at hl 3 rfl) ?_
      refine lv_aload_n hC.1 hC.2.1 dX0_behindWordRound_20 rfl (lv_at hl 0 rfl) ?_
      refine p_get (ref := "CornerCube") hC hE hP hmx hex rfl (by decide +kernel) 2 (by decide) (by decide +kernel) rfl rfl dX0_behindWordRound_21 ?_
      refine lv_iload_n hC.1 hC.2.1 dX0_behindWordRound_24 rfl (lv_at hl 2 rfl) ?_
      refine p_aald hC hE hP hmg heg (by omega) (by decide) (hG _ (by omega)) dX0_behindWordRound_25 ?_
      refine lv_iload hC.1 hC.2.1 dX0_behindWordRound_26 (lv_at hl 4 rfl) ?_
      refine p_iald hC hE hP hrm her (by omega) (by decide) dX0_behindWordRound_28 ?_
      refine q_i (nI ((wd w).getD ((wd w).length - 1 - k) 0)) (hh _ (by omega)) ?_
      refine p_cs (n := 1) (k_turnedBack l (hl9 _ (by omega))) hC gX0_behindWordRound_X0_turnedBack rfl (by decide +kernel) rfl ⟨by decide, by decide⟩ ⟨Nat.zero_le _, Nat.zero_le _⟩ hl.1 (Nat.le_of_ble_eq_true rfl) dX0_behindWordRound_29 rfl ?_
      refine p_cs (n := 2) (k_turned l (brN_Va hc _ k) (tb_lt (hl9 _ (by omega)))) hC gX0_behindWordRound_X0_turned rfl (by decide +kernel) rfl ⟨by decide, by decide⟩ ⟨Nat.zero_le _, Nat.zero_le _⟩ hl.1 (Nat.le_of_ble_eq_true rfl) dX0_behindWordRound_32 rfl ?_
      refine lv_lstore (lv' := [(4, .long (enc (brN c (wd w) (k + 1)))), (0, .ref hx), (1, .long (enc c)), (3, .int (nI w)), (6, .int (nI ((wd w).length - 1 - k)))]) hC.1 hC.2.1 dX0_behindWordRound_35 hl (by decide) rfl (fun ls hl => ?_)
      refine lv_iinc (v := nI ((wd w).length - (k + 1)) - 1) (lv' := [(6, .int (nI ((wd w).length - (k + 1)) - 1)), (4, .long (enc (brN c (wd w) (k + 1)))), (0, .ref hx), (1, .long (enc c)), (3, .int (nI w))]) hC.1 hC.2.1 dX0_behindWordRound_37 hl (k := 4) rfl (by rw [z_m1, show (wd w).length - (k + 1) = (wd w).length - 1 - k from by omega]) (by decide) rfl (fun ls hl => ?_)
      refine lv_goto (tgt := 13) hC.1 hC.2.1 dX0_behindWordRound_40 (by decide) ?_
      exact ih (k + 1) (by omega) ls (lv_sub hl [2, 3, 4, 1, 0] rfl)
  refine lv_lload_n hC.1 hC.2.1 dX0_behindWordRound_0 rfl (lv_at hl 1 rfl) ?_
  refine lv_lstore (lv' := [(4, .long (enc c)), (0, .ref hx), (1, .long (enc c)), (3, .int (nI w))]) hC.1 hC.2.1 dX0_behindWordRound_1 hl (by decide) rfl (fun ls hl => ?_)
  refine lv_aload_n hC.1 hC.2.1 dX0_behindWordRound_3 rfl (lv_at hl 1 rfl) ?_
  refine p_get (ref := "CornerCube") hC hE hP hmx hex rfl (by decide +kernel) 3 (by decide) (by decide +kernel) rfl rfl dX0_behindWordRound_4 ?_
  refine lv_iload_n hC.1 hC.2.1 dX0_behindWordRound_7 rfl (lv_at hl 3 rfl) ?_
  refine p_iald hC hE hP hml hel (by omega) (by decide) dX0_behindWordRound_8 ?_
  refine q_i (nI (wd w).length) (hNl _ (by omega)) ?_
  refine lv_iconst (v := (nI 1)) hC.1 hC.2.1 dX0_behindWordRound_9 (by decide) ?_
  refine lv_isub hC.1 hC.2.1 dX0_behindWordRound_10 ?_
  refine lv_istore (lv' := [(6, .int ((nI (wd w).length) - (nI 1))), (4, .long (enc c)), (0, .ref hx), (1, .long (enc c)), (3, .int (nI w))]) hC.1 hC.2.1 dX0_behindWordRound_11 hl (by decide) rfl (fun ls hl => ?_)
  exact loop _ 0 (Nat.zero_add _) ls (lv_sub hl [2, 3, 4, 1, 0] rfl)

set_option maxHeartbeats 4000000 in
set_option maxRecDepth 100000 in
theorem k_allTurns (l : Launch) {D : va_G} {T : ClassId × ClassId × ClassId} {z0 : Nat} {L : List Nat} {f : Nat → va_E} {hx g ln : Nat} {rw : Nat → Nat} {b : Nat → Nat} {mk : Int32} {wd : Nat → List Nat} (hX : CX T L f hx g ln rw b mk wd)  : RV l yX0_turnsOfAllWords wsX0_turnsOfAllWords (1) (zPre D T z0 L f) [.ref hx] (some (.int (nI (tot wd 5)))) := by
  refine RV.of (cc := cX0_turnsOfAllWords) (maxL := 3) (ret := (some .int)) (by decide) rfl (Nat.le_of_ble_eq_true rfl) ?_
  intro p e s m args below meth c hC hr hlk hB ls hl
  have hl : lv_has ls 3 [(0, .ref hx)] := hl
  obtain ⟨hE, hP, hD⟩ := hB
  obtain ⟨⟨hmx, hex⟩, ⟨hmg, G, heg, hG⟩, ⟨hml, Nl, hel, hNl⟩, hrw, hinj, hvb, hwd⟩ := id hX
  have hS : va_S (zA z0) s.heap s.heap [] := va_S.rf
  have loop : ∀ (n i : Nat), i + n = 5 → ∀ ls : Array Slot, lv_has ls 3 [(0, .ref hx), (1, .int (nI (tot wd i))), (2, .int (nI i))] → W p l e (rD (1) 0 0) s m args below meth c s.heap [] 0 0 (MQ below (RVQ (some (.int (nI (tot wd 5))))) args s 0 0 (fun _ => False)) (F0 m 4 ls []) := by
    intro n
    induction n with
    | zero =>
      intro i hc0 ls hl
      obtain rfl : i = 5 := by omega
      refine lv_iload_n hC.1 hC.2.1 dX0_turnsOfAllWords_4 rfl (lv_at hl 2 rfl) ?_
      refine lv_iconst (v := (nI 5)) hC.1 hC.2.1 dX0_turnsOfAllWords_5 (by decide) ?_
      refine z_icmp_ge (tgt := 24) hC dX0_turnsOfAllWords_6 (by decide) (by omega) (by omega) (fun h_6 => ?_) (fun h_6 => by omega)
      refine lv_iload_n hC.1 hC.2.1 dX0_turnsOfAllWords_24 rfl (lv_at hl 1 rfl) ?_
      exact RV.iret hC hr hlk dX0_turnsOfAllWords_25 (rfl)
    | succ n ih =>
      intro i hc0 ls hl
      refine lv_iload_n hC.1 hC.2.1 dX0_turnsOfAllWords_4 rfl (lv_at hl 2 rfl) ?_
      refine lv_iconst (v := (nI 5)) hC.1 hC.2.1 dX0_turnsOfAllWords_5 (by decide) ?_
      refine z_icmp_ge (tgt := 24) hC dX0_turnsOfAllWords_6 (by decide) (by omega) (by omega) (fun h_6 => by omega) (fun h_6 => ?_)
      refine lv_iload_n hC.1 hC.2.1 dX0_turnsOfAllWords_9 rfl (lv_at hl 1 rfl) ?_
      refine lv_aload_n hC.1 hC.2.1 dX0_turnsOfAllWords_10 rfl (lv_at hl 0 rfl) ?_
      refine p_get (ref := "CornerCube") hC hE hP hmx hex rfl (by decide +kernel) 3 (by decide) (by decide +kernel) rfl rfl dX0_turnsOfAllWords_11 ?_
      refine lv_iload_n hC.1 hC.2.1 dX0_turnsOfAllWords_14 rfl (lv_at hl 2 rfl) ?_
      refine p_iald hC hE hP hml hel (by omega) (by decide) dX0_turnsOfAllWords_15 ?_
      refine q_i (nI (wd i).length) (hNl _ (by omega)) ?_
      refine z_iadd hC dX0_turnsOfAllWords_16 ?_
      refine lv_istore_n (lv' := [(1, .int (nI ((tot wd i) + (wd i).length))), (0, .ref hx), (2, .int (nI i))]) hC.1 hC.2.1 dX0_turnsOfAllWords_17 rfl hl (by decide) rfl (fun ls hl => ?_)
      refine lv_iinc (v := nI (i + 1)) (lv' := [(2, .int (nI (i + 1))), (1, .int (nI ((tot wd i) + (wd i).length))), (0, .ref hx)]) hC.1 hC.2.1 dX0_turnsOfAllWords_18 hl (k := 2) rfl (z_inc _) (by decide) rfl (fun ls hl => ?_)
      refine lv_goto (tgt := 4) hC.1 hC.2.1 dX0_turnsOfAllWords_21 (by decide) ?_
      exact ih (i + 1) (by omega) ls (lv_sub hl [2, 1, 0] rfl)
  refine lv_iconst (v := (nI 0)) hC.1 hC.2.1 dX0_turnsOfAllWords_0 (by decide) ?_
  refine lv_istore_n (lv' := [(1, .int (nI 0)), (0, .ref hx)]) hC.1 hC.2.1 dX0_turnsOfAllWords_1 rfl hl (by decide) rfl (fun ls hl => ?_)
  refine lv_iconst (v := (nI 0)) hC.1 hC.2.1 dX0_turnsOfAllWords_2 (by decide) ?_
  refine lv_istore_n (lv' := [(2, .int (nI 0)), (1, .int (nI 0)), (0, .ref hx)]) hC.1 hC.2.1 dX0_turnsOfAllWords_3 rfl hl (by decide) rfl (fun ls hl => ?_)
  exact loop 5 0 rfl ls (lv_sub hl [2, 1, 0] rfl)

set_option maxHeartbeats 4000000 in
set_option maxRecDepth 100000 in
theorem k_told (l : Launch) {D : va_G} {T : ClassId × ClassId × ClassId} {z0 : Nat} {L : List Nat} {f : Nat → va_E} {hx g ln : Nat} {rw : Nat → Nat} {b : Nat → Nat} {mk : Int32} {wd : Nat → List Nat} (hX : CX T L f hx g ln rw b mk wd) {q what : Nat} (hq : q < 8) (hw : what < 3) : RV l yX0_told wsX0_told (5) (zPre D T z0 L f) [.ref hx, .int (nI q), .int (nI what)] (some (.int (nI (tV b q what)))) := by
  refine RV.of (cc := cX0_told) (maxL := 3) (ret := (some .int)) (by decide) rfl (Nat.le_of_ble_eq_true rfl) ?_
  intro p e s m args below meth c hC hr hlk hB ls hl
  have hl : lv_has ls 3 [(0, .ref hx), (1, .int (nI q)), (2, .int (nI what))] := hl
  obtain ⟨hE, hP, hD⟩ := hB
  obtain ⟨⟨hmx, hex⟩, ⟨hmg, G, heg, hG⟩, ⟨hml, Nl, hel, hNl⟩, hrw, hinj, hvb, hwd⟩ := id hX
  have hS : va_S (zA z0) s.heap s.heap [] := va_S.rf
  rcases (by omega : what = 0 ∨ what = 1 ∨ what = 2) with rfl | rfl | rfl
  · refine lv_iload_n hC.1 hC.2.1 dX0_told_0 rfl (lv_at hl 1 rfl) ?_
    refine p_cs (n := 1) (k_checkPlace l hq) hC gX0_told_X0_checkPlace rfl (by decide +kernel) rfl ⟨by decide, by decide⟩ ⟨Nat.zero_le _, Nat.zero_le _⟩ hl.1 (Nat.le_of_ble_eq_true rfl) dX0_told_1 rfl ?_
    refine lv_iload_n hC.1 hC.2.1 dX0_told_4 rfl (lv_at hl 2 rfl) ?_
    refine lv_iconst (v := (nI 3)) hC.1 hC.2.1 dX0_told_5 (by decide) ?_
    refine p_cs (n := 2) (k_checkWhat l (by decide) (by decide)) hC gX0_told_X0_checkWhat rfl (by decide +kernel) rfl ⟨by decide, by decide⟩ ⟨Nat.zero_le _, Nat.zero_le _⟩ hl.1 (Nat.le_of_ble_eq_true rfl) dX0_told_6 rfl ?_
    refine lv_iload_n hC.1 hC.2.1 dX0_told_9 rfl (lv_at hl 2 rfl) ?_
    refine z_if_ne (tgt := 22) hC dX0_told_10 (by decide) (by omega) (fun h_10 => by omega) (fun h_10 => ?_)
    refine lv_aload_n hC.1 hC.2.1 dX0_told_13 rfl (lv_at hl 0 rfl) ?_
    refine p_get (ref := "CornerCube") hC hE hP hmx hex rfl (by decide +kernel) 0 (by decide) (by decide +kernel) rfl rfl dX0_told_14 ?_
    refine lv_iload_n hC.1 hC.2.1 dX0_told_17 rfl (lv_at hl 1 rfl) ?_
    refine p_cs (n := 2) (k_cornerAt l hvb hq) hC gX0_told_X0_cornerAt rfl (by decide +kernel) rfl ⟨by decide, by decide⟩ ⟨Nat.zero_le _, Nat.zero_le _⟩ hl.1 (Nat.le_of_ble_eq_true rfl) dX0_told_18 rfl ?_
    exact RV.iret hC hr hlk dX0_told_21 (rfl)
  · refine lv_iload_n hC.1 hC.2.1 dX0_told_0 rfl (lv_at hl 1 rfl) ?_
    refine p_cs (n := 1) (k_checkPlace l hq) hC gX0_told_X0_checkPlace rfl (by decide +kernel) rfl ⟨by decide, by decide⟩ ⟨Nat.zero_le _, Nat.zero_le _⟩ hl.1 (Nat.le_of_ble_eq_true rfl) dX0_told_1 rfl ?_
    refine lv_iload_n hC.1 hC.2.1 dX0_told_4 rfl (lv_at hl 2 rfl) ?_
    refine lv_iconst (v := (nI 3)) hC.1 hC.2.1 dX0_told_5 (by decide) ?_
    refine p_cs (n := 2) (k_checkWhat l (by decide) (by decide)) hC gX0_told_X0_checkWhat rfl (by decide +kernel) rfl ⟨by decide, by decide⟩ ⟨Nat.zero_le _, Nat.zero_le _⟩ hl.1 (Nat.le_of_ble_eq_true rfl) dX0_told_6 rfl ?_
    refine lv_iload_n hC.1 hC.2.1 dX0_told_9 rfl (lv_at hl 2 rfl) ?_
    refine z_if_ne (tgt := 22) hC dX0_told_10 (by decide) (by omega) (fun h_10 => ?_) (fun h_10 => by omega)
    refine lv_iload_n hC.1 hC.2.1 dX0_told_22 rfl (lv_at hl 2 rfl) ?_
    refine lv_iconst (v := (nI 1)) hC.1 hC.2.1 dX0_told_23 (by decide) ?_
    refine z_icmp_ne (tgt := 36) hC dX0_told_24 (by decide) (by omega) (by omega) (fun h_24 => by omega) (fun h_24 => ?_)
    refine lv_aload_n hC.1 hC.2.1 dX0_told_27 rfl (lv_at hl 0 rfl) ?_
    refine p_get (ref := "CornerCube") hC hE hP hmx hex rfl (by decide +kernel) 0 (by decide) (by decide +kernel) rfl rfl dX0_told_28 ?_
    refine lv_iload_n hC.1 hC.2.1 dX0_told_31 rfl (lv_at hl 1 rfl) ?_
    refine p_cs (n := 2) (k_twistAt l hvb hq) hC gX0_told_X0_twistAt rfl (by decide +kernel) rfl ⟨by decide, by decide⟩ ⟨Nat.zero_le _, Nat.zero_le _⟩ hl.1 (Nat.le_of_ble_eq_true rfl) dX0_told_32 rfl ?_
    exact RV.iret hC hr hlk dX0_told_35 (rfl)
  · refine lv_iload_n hC.1 hC.2.1 dX0_told_0 rfl (lv_at hl 1 rfl) ?_
    refine p_cs (n := 1) (k_checkPlace l hq) hC gX0_told_X0_checkPlace rfl (by decide +kernel) rfl ⟨by decide, by decide⟩ ⟨Nat.zero_le _, Nat.zero_le _⟩ hl.1 (Nat.le_of_ble_eq_true rfl) dX0_told_1 rfl ?_
    refine lv_iload_n hC.1 hC.2.1 dX0_told_4 rfl (lv_at hl 2 rfl) ?_
    refine lv_iconst (v := (nI 3)) hC.1 hC.2.1 dX0_told_5 (by decide) ?_
    refine p_cs (n := 2) (k_checkWhat l (by decide) (by decide)) hC gX0_told_X0_checkWhat rfl (by decide +kernel) rfl ⟨by decide, by decide⟩ ⟨Nat.zero_le _, Nat.zero_le _⟩ hl.1 (Nat.le_of_ble_eq_true rfl) dX0_told_6 rfl ?_
    refine lv_iload_n hC.1 hC.2.1 dX0_told_9 rfl (lv_at hl 2 rfl) ?_
    refine z_if_ne (tgt := 22) hC dX0_told_10 (by decide) (by omega) (fun h_10 => ?_) (fun h_10 => by omega)
    refine lv_iload_n hC.1 hC.2.1 dX0_told_22 rfl (lv_at hl 2 rfl) ?_
    refine lv_iconst (v := (nI 1)) hC.1 hC.2.1 dX0_told_23 (by decide) ?_
    refine z_icmp_ne (tgt := 36) hC dX0_told_24 (by decide) (by omega) (by omega) (fun h_24 => ?_) (fun h_24 => by omega)
    refine lv_aload_n hC.1 hC.2.1 dX0_told_36 rfl (lv_at hl 0 rfl) ?_
    refine p_get (ref := "CornerCube") hC hE hP hmx hex rfl (by decide +kernel) 0 (by decide) (by decide +kernel) rfl rfl dX0_told_37 ?_
    refine lv_iload_n hC.1 hC.2.1 dX0_told_40 rfl (lv_at hl 1 rfl) ?_
    refine p_cs (n := 2) (k_isRight l hvb hq) hC gX0_told_X0_isRight rfl (by decide +kernel) rfl ⟨by decide, by decide⟩ ⟨Nat.zero_le _, Nat.zero_le _⟩ hl.1 (Nat.le_of_ble_eq_true rfl) dX0_told_41 rfl ?_
    refine z_if_eq (tgt := 51) hC dX0_told_44 (by decide) (ite_bd) (fun h_44 => ?_) (fun h_44 => ?_)
    · refine lv_iconst (v := (nI 0)) hC.1 hC.2.1 dX0_told_51 (by decide) ?_
      exact RV.iret hC hr hlk dX0_told_52 (by show nI 0 = nI (if b q = q then 1 else 0); rw [h_44])
    · refine lv_iconst (v := (nI 1)) hC.1 hC.2.1 dX0_told_47 (by decide) ?_
      refine lv_goto (tgt := 52) hC.1 hC.2.1 dX0_told_48 (by decide) ?_
      exact RV.iret hC hr hlk dX0_told_52 (by show nI 1 = nI (if b q = q then 1 else 0); rw [if_pos (Classical.byContradiction fun e => h_44 (if_neg e))])

set_option maxHeartbeats 4000000 in
set_option maxRecDepth 100000 in
theorem k_where (l : Launch) {D : va_G} {T : ClassId × ClassId × ClassId} {z0 : Nat} {L : List Nat} {f : Nat → va_E} {hx g ln : Nat} {rw : Nat → Nat} {b : Nat → Nat} {mk : Int32} {wd : Nat → List Nat} (hX : CX T L f hx g ln rw b mk wd) {v F : Nat} (hv8 : v < 8) (hF : F ≤ 7) (h1 : ∀ k, k < F → ¬ b k % 8 = v) (h2 : F = 7 ∨ b F % 8 = v) : RV l yX0_where wsX0_where (5) (zPre D T z0 L f) [.ref hx, .int (nI v)] (some (.int (nI F))) := by
  refine RV.of (cc := cX0_where) (maxL := 3) (ret := (some .int)) (by decide) rfl (Nat.le_of_ble_eq_true rfl) ?_
  intro p e s m args below meth c hC hr hlk hB ls hl
  have hl : lv_has ls 3 [(0, .ref hx), (1, .int (nI v))] := hl
  obtain ⟨hE, hP, hD⟩ := hB
  obtain ⟨⟨hmx, hex⟩, ⟨hmg, G, heg, hG⟩, ⟨hml, Nl, hel, hNl⟩, hrw, hinj, hvb, hwd⟩ := id hX
  have hS : va_S (zA z0) s.heap s.heap [] := va_S.rf
  have loop : ∀ (n k : Nat), k + n = F → ∀ ls : Array Slot, lv_has ls 3 [(0, .ref hx), (1, .int (nI v)), (2, .int (nI k))] → W p l e (rD (5) 0 0) s m args below meth c s.heap [] 0 0 (MQ below (RVQ (some (.int (nI F)))) args s 0 0 (fun _ => False)) (F0 m 22 ls []) := by
    intro n
    induction n with
    | zero =>
      intro k hc0 ls hl
      obtain rfl : k = F := by omega
      refine lv_iload_n hC.1 hC.2.1 dX0_where_22 rfl (lv_at hl 2 rfl) ?_
      refine lv_bipush (v := (nI 7)) hC.1 hC.2.1 dX0_where_23 (by decide) ?_
      refine z_icmp_ge (tgt := 46) hC dX0_where_25 (by decide) (by omega) (by omega) (fun h_25 => ?_) (fun h_25 => ?_)
      · refine lv_iload_n hC.1 hC.2.1 dX0_where_46 rfl (lv_at hl 2 rfl) ?_
        exact RV.iret hC hr hlk dX0_where_47 (rfl)
      · refine lv_aload_n hC.1 hC.2.1 dX0_where_28 rfl (lv_at hl 0 rfl) ?_
        refine p_get (ref := "CornerCube") hC hE hP hmx hex rfl (by decide +kernel) 0 (by decide) (by decide +kernel) rfl rfl dX0_where_29 ?_
        refine lv_iload_n hC.1 hC.2.1 dX0_where_32 rfl (lv_at hl 2 rfl) ?_
        refine p_cs (n := 2) (k_cornerAt l hvb (by omega)) hC gX0_where_X0_cornerAt rfl (by decide +kernel) rfl ⟨by decide, by decide⟩ ⟨Nat.zero_le _, Nat.zero_le _⟩ hl.1 (Nat.le_of_ble_eq_true rfl) dX0_where_33 rfl ?_
        refine lv_iload_n hC.1 hC.2.1 dX0_where_36 rfl (lv_at hl 1 rfl) ?_
        refine z_icmp_eq (tgt := 46) hC dX0_where_37 (by decide) (by omega) (by omega) (fun h_37 => ?_) (fun h_37 => by omega)
        refine lv_iload_n hC.1 hC.2.1 dX0_where_46 rfl (lv_at hl 2 rfl) ?_
        exact RV.iret hC hr hlk dX0_where_47 (rfl)
    | succ n ih =>
      intro k hc0 ls hl
      refine lv_iload_n hC.1 hC.2.1 dX0_where_22 rfl (lv_at hl 2 rfl) ?_
      refine lv_bipush (v := (nI 7)) hC.1 hC.2.1 dX0_where_23 (by decide) ?_
      refine z_icmp_ge (tgt := 46) hC dX0_where_25 (by decide) (by omega) (by omega) (fun h_25 => by omega) (fun h_25 => ?_)
      refine lv_aload_n hC.1 hC.2.1 dX0_where_28 rfl (lv_at hl 0 rfl) ?_
      refine p_get (ref := "CornerCube") hC hE hP hmx hex rfl (by decide +kernel) 0 (by decide) (by decide +kernel) rfl rfl dX0_where_29 ?_
      refine lv_iload_n hC.1 hC.2.1 dX0_where_32 rfl (lv_at hl 2 rfl) ?_
      refine p_cs (n := 2) (k_cornerAt l hvb (by omega)) hC gX0_where_X0_cornerAt rfl (by decide +kernel) rfl ⟨by decide, by decide⟩ ⟨Nat.zero_le _, Nat.zero_le _⟩ hl.1 (Nat.le_of_ble_eq_true rfl) dX0_where_33 rfl ?_
      refine lv_iload_n hC.1 hC.2.1 dX0_where_36 rfl (lv_at hl 1 rfl) ?_
      refine z_icmp_eq (tgt := 46) hC dX0_where_37 (by decide) (by omega) (by omega) (fun h_37 => absurd h_37 (h1 k (by omega))) (fun h_37 => ?_)
      refine lv_iinc (v := nI (k + 1)) (lv' := [(2, .int (nI (k + 1))), (0, .ref hx), (1, .int (nI v))]) hC.1 hC.2.1 dX0_where_40 hl (k := 2) rfl (z_inc _) (by decide) rfl (fun ls hl => ?_)
      refine lv_goto (tgt := 22) hC.1 hC.2.1 dX0_where_43 (by decide) ?_
      exact ih (k + 1) (by omega) ls (lv_sub hl [1, 2, 0] rfl)
  refine lv_iload_n hC.1 hC.2.1 dX0_where_0 rfl (lv_at hl 1 rfl) ?_
  refine z_if_lt (tgt := 10) hC dX0_where_1 (by decide) (by omega) ?_
  refine lv_iload_n hC.1 hC.2.1 dX0_where_4 rfl (lv_at hl 1 rfl) ?_
  refine lv_bipush (v := (nI 8)) hC.1 hC.2.1 dX0_where_5 (by decide) ?_
  refine z_icmp_lt (tgt := 20) hC dX0_where_7 (by decide) (by omega) (by omega) (fun h_7 => ?_) (fun h_7 => by omega)
  refine lv_iconst (v := (nI 0)) hC.1 hC.2.1 dX0_where_20 (by decide) ?_
  refine lv_istore_n (lv' := [(2, .int (nI 0)), (0, .ref hx), (1, .int (nI v))]) hC.1 hC.2.1 dX0_where_21 rfl hl (by decide) rfl (fun ls hl => ?_)
  exact loop F 0 (Nat.zero_add _) ls (lv_sub hl [1, 2, 0] rfl)

set_option maxHeartbeats 4000000 in
set_option maxRecDepth 100000 in
theorem k_count (l : Launch) {D : va_G} {T : ClassId × ClassId × ClassId} {z0 : Nat} {L : List Nat} {f : Nat → va_E} {hx g ln : Nat} {rw : Nat → Nat} {b : Nat → Nat} {mk : Int32} {wd : Nat → List Nat} (hX : CX T L f hx g ln rw b mk wd) (hOb : ordN b < 1000) {what : Nat} (hw : what < 7) : RV l yX0_count wsX0_count (5) (zPre D T z0 L f) [.ref hx, .int (nI what)] (some (.int (cV b mk wd what))) := by
  refine RV.of (cc := cX0_count) (maxL := 2) (ret := (some .int)) (by decide) rfl (Nat.le_of_ble_eq_true rfl) ?_
  intro p e s m args below meth c hC hr hlk hB ls hl
  have hl : lv_has ls 2 [(0, .ref hx), (1, .int (nI what))] := hl
  obtain ⟨hE, hP, hD⟩ := hB
  obtain ⟨⟨hmx, hex⟩, ⟨hmg, G, heg, hG⟩, ⟨hml, Nl, hel, hNl⟩, hrw, hinj, hvb, hwd⟩ := id hX
  have hS : va_S (zA z0) s.heap s.heap [] := va_S.rf
  rcases (by omega : what = 0 ∨ what = 1 ∨ what = 2 ∨ what = 3 ∨ what = 4 ∨ what = 5 ∨ what = 6) with rfl | rfl | rfl | rfl | rfl | rfl | rfl
  · refine lv_iload_n hC.1 hC.2.1 dX0_count_0 rfl (lv_at hl 1 rfl) ?_
    refine lv_bipush (v := (nI 7)) hC.1 hC.2.1 dX0_count_1 (by decide) ?_
    refine p_cs (n := 2) (k_checkWhat l (by decide) (by decide)) hC gX0_count_X0_checkWhat rfl (by decide +kernel) rfl ⟨by decide, by decide⟩ ⟨Nat.zero_le _, Nat.zero_le _⟩ hl.1 (Nat.le_of_ble_eq_true rfl) dX0_count_3 rfl ?_
    refine lv_iload_n hC.1 hC.2.1 dX0_count_6 rfl (lv_at hl 1 rfl) ?_
    refine lv_tableIn (off := 37) (tgt := 44) hC.1 hC.2.1 dX0_count_7 (by decide) (by decide) (by decide) (by decide) ?_
    refine lv_aload_n hC.1 hC.2.1 dX0_count_44 rfl (lv_at hl 0 rfl) ?_
    refine p_get (ref := "CornerCube") hC hE hP hmx hex rfl (by decide +kernel) 1 (by decide) (by decide +kernel) rfl rfl dX0_count_45 ?_
    exact RV.iret hC hr hlk dX0_count_48 (rfl)
  · refine lv_iload_n hC.1 hC.2.1 dX0_count_0 rfl (lv_at hl 1 rfl) ?_
    refine lv_bipush (v := (nI 7)) hC.1 hC.2.1 dX0_count_1 (by decide) ?_
    refine p_cs (n := 2) (k_checkWhat l (by decide) (by decide)) hC gX0_count_X0_checkWhat rfl (by decide +kernel) rfl ⟨by decide, by decide⟩ ⟨Nat.zero_le _, Nat.zero_le _⟩ hl.1 (Nat.le_of_ble_eq_true rfl) dX0_count_3 rfl ?_
    refine lv_iload_n hC.1 hC.2.1 dX0_count_6 rfl (lv_at hl 1 rfl) ?_
    refine lv_tableIn (off := 42) (tgt := 49) hC.1 hC.2.1 dX0_count_7 (by decide) (by decide) (by decide) (by decide) ?_
    refine lv_aload_n hC.1 hC.2.1 dX0_count_49 rfl (lv_at hl 0 rfl) ?_
    refine p_get (ref := "CornerCube") hC hE hP hmx hex rfl (by decide +kernel) 0 (by decide) (by decide +kernel) rfl rfl dX0_count_50 ?_
    refine p_cs (n := 1) (k_rightCorners l hvb) hC gX0_count_X0_rightCorners rfl (by decide +kernel) rfl ⟨by decide, by decide⟩ ⟨Nat.zero_le _, Nat.zero_le _⟩ hl.1 (Nat.le_of_ble_eq_true rfl) dX0_count_53 rfl ?_
    exact RV.iret hC hr hlk dX0_count_56 (rfl)
  · refine lv_iload_n hC.1 hC.2.1 dX0_count_0 rfl (lv_at hl 1 rfl) ?_
    refine lv_bipush (v := (nI 7)) hC.1 hC.2.1 dX0_count_1 (by decide) ?_
    refine p_cs (n := 2) (k_checkWhat l (by decide) (by decide)) hC gX0_count_X0_checkWhat rfl (by decide +kernel) rfl ⟨by decide, by decide⟩ ⟨Nat.zero_le _, Nat.zero_le _⟩ hl.1 (Nat.le_of_ble_eq_true rfl) dX0_count_3 rfl ?_
    refine lv_iload_n hC.1 hC.2.1 dX0_count_6 rfl (lv_at hl 1 rfl) ?_
    refine lv_tableIn (off := 50) (tgt := 57) hC.1 hC.2.1 dX0_count_7 (by decide) (by decide) (by decide) (by decide) ?_
    refine lv_aload_n hC.1 hC.2.1 dX0_count_57 rfl (lv_at hl 0 rfl) ?_
    refine p_get (ref := "CornerCube") hC hE hP hmx hex rfl (by decide +kernel) 0 (by decide) (by decide +kernel) rfl rfl dX0_count_58 ?_
    refine p_cs (n := 1) (k_placedCorners l hvb) hC gX0_count_X0_placedCorners rfl (by decide +kernel) rfl ⟨by decide, by decide⟩ ⟨Nat.zero_le _, Nat.zero_le _⟩ hl.1 (Nat.le_of_ble_eq_true rfl) dX0_count_61 rfl ?_
    exact RV.iret hC hr hlk dX0_count_64 (rfl)
  · refine lv_iload_n hC.1 hC.2.1 dX0_count_0 rfl (lv_at hl 1 rfl) ?_
    refine lv_bipush (v := (nI 7)) hC.1 hC.2.1 dX0_count_1 (by decide) ?_
    refine p_cs (n := 2) (k_checkWhat l (by decide) (by decide)) hC gX0_count_X0_checkWhat rfl (by decide +kernel) rfl ⟨by decide, by decide⟩ ⟨Nat.zero_le _, Nat.zero_le _⟩ hl.1 (Nat.le_of_ble_eq_true rfl) dX0_count_3 rfl ?_
    refine lv_iload_n hC.1 hC.2.1 dX0_count_6 rfl (lv_at hl 1 rfl) ?_
    refine lv_tableIn (off := 58) (tgt := 65) hC.1 hC.2.1 dX0_count_7 (by decide) (by decide) (by decide) (by decide) ?_
    refine lv_aload_n hC.1 hC.2.1 dX0_count_65 rfl (lv_at hl 0 rfl) ?_
    refine p_get (ref := "CornerCube") hC hE hP hmx hex rfl (by decide +kernel) 0 (by decide) (by decide +kernel) rfl rfl dX0_count_66 ?_
    refine p_cs (n := 1) (k_untwistedCorners l hvb) hC gX0_count_X0_untwistedCorners rfl (by decide +kernel) rfl ⟨by decide, by decide⟩ ⟨Nat.zero_le _, Nat.zero_le _⟩ hl.1 (Nat.le_of_ble_eq_true rfl) dX0_count_69 rfl ?_
    exact RV.iret hC hr hlk dX0_count_72 (rfl)
  · refine lv_iload_n hC.1 hC.2.1 dX0_count_0 rfl (lv_at hl 1 rfl) ?_
    refine lv_bipush (v := (nI 7)) hC.1 hC.2.1 dX0_count_1 (by decide) ?_
    refine p_cs (n := 2) (k_checkWhat l (by decide) (by decide)) hC gX0_count_X0_checkWhat rfl (by decide +kernel) rfl ⟨by decide, by decide⟩ ⟨Nat.zero_le _, Nat.zero_le _⟩ hl.1 (Nat.le_of_ble_eq_true rfl) dX0_count_3 rfl ?_
    refine lv_iload_n hC.1 hC.2.1 dX0_count_6 rfl (lv_at hl 1 rfl) ?_
    refine lv_tableIn (off := 66) (tgt := 73) hC.1 hC.2.1 dX0_count_7 (by decide) (by decide) (by decide) (by decide) ?_
    refine lv_aload_n hC.1 hC.2.1 dX0_count_73 rfl (lv_at hl 0 rfl) ?_
    refine p_get (ref := "CornerCube") hC hE hP hmx hex rfl (by decide +kernel) 0 (by decide) (by decide +kernel) rfl rfl dX0_count_74 ?_
    refine p_cs (n := 1) (k_pairs l hvb) hC gX0_count_X0_pairsOutOfOrder rfl (by decide +kernel) rfl ⟨by decide, by decide⟩ ⟨Nat.zero_le _, Nat.zero_le _⟩ hl.1 (Nat.le_of_ble_eq_true rfl) dX0_count_77 rfl ?_
    have hiv := invs_lt b 8 (Nat.le_refl 8)
    refine lv_iconst (v := (nI 2)) hC.1 hC.2.1 dX0_count_80 (by decide) ?_
    refine z_irem hC dX0_count_81 (by omega) (by decide) (by decide) ?_
    exact RV.iret hC hr hlk dX0_count_82 (rfl)
  · refine lv_iload_n hC.1 hC.2.1 dX0_count_0 rfl (lv_at hl 1 rfl) ?_
    refine lv_bipush (v := (nI 7)) hC.1 hC.2.1 dX0_count_1 (by decide) ?_
    refine p_cs (n := 2) (k_checkWhat l (by decide) (by decide)) hC gX0_count_X0_checkWhat rfl (by decide +kernel) rfl ⟨by decide, by decide⟩ ⟨Nat.zero_le _, Nat.zero_le _⟩ hl.1 (Nat.le_of_ble_eq_true rfl) dX0_count_3 rfl ?_
    refine lv_iload_n hC.1 hC.2.1 dX0_count_6 rfl (lv_at hl 1 rfl) ?_
    refine lv_tableIn (off := 76) (tgt := 83) hC.1 hC.2.1 dX0_count_7 (by decide) (by decide) (by decide) (by decide) ?_
    refine lv_aload_n hC.1 hC.2.1 dX0_count_83 rfl (lv_at hl 0 rfl) ?_
    refine p_get (ref := "CornerCube") hC hE hP hmx hex rfl (by decide +kernel) 0 (by decide) (by decide +kernel) rfl rfl dX0_count_84 ?_
    refine p_cs (n := 1) (k_order l hvb hOb) hC gX0_count_X0_orderOf rfl (by decide +kernel) rfl ⟨by decide, by decide⟩ ⟨Nat.zero_le _, Nat.zero_le _⟩ hl.1 (Nat.le_of_ble_eq_true rfl) dX0_count_87 rfl ?_
    exact RV.iret hC hr hlk dX0_count_90 (rfl)
  · refine lv_iload_n hC.1 hC.2.1 dX0_count_0 rfl (lv_at hl 1 rfl) ?_
    refine lv_bipush (v := (nI 7)) hC.1 hC.2.1 dX0_count_1 (by decide) ?_
    refine p_cs (n := 2) (k_checkWhat l (by decide) (by decide)) hC gX0_count_X0_checkWhat rfl (by decide +kernel) rfl ⟨by decide, by decide⟩ ⟨Nat.zero_le _, Nat.zero_le _⟩ hl.1 (Nat.le_of_ble_eq_true rfl) dX0_count_3 rfl ?_
    refine lv_iload_n hC.1 hC.2.1 dX0_count_6 rfl (lv_at hl 1 rfl) ?_
    refine lv_tableOut (tgt := 91) hC.1 hC.2.1 dX0_count_7 (by decide) (by decide) ?_
    refine lv_aload_n hC.1 hC.2.1 dX0_count_91 rfl (lv_at hl 0 rfl) ?_
    refine p_cvB (n := 0) (k_allTurns l hX) hC hE hP hD hS (hmx) (hex) rfl gX0_count_X0_turnsOfAllWords rfl (by decide +kernel) rfl ⟨by decide, by decide⟩ ⟨Nat.zero_le _, Nat.zero_le _⟩ hl.1 (Nat.le_of_ble_eq_true rfl) dX0_count_92 rfl ?_
    exact RV.iret hC hr hlk dX0_count_95 (rfl)

set_option maxHeartbeats 4000000 in
set_option maxRecDepth 100000 in
theorem k_word (l : Launch) {D : va_G} {T : ClassId × ClassId × ClassId} {z0 : Nat} {L : List Nat} {f : Nat → va_E} {hx g ln : Nat} {rw : Nat → Nat} {b : Nat → Nat} {mk : Int32} {wd : Nat → List Nat} (hX : CX T L f hx g ln rw b mk wd) {w : Nat} (hw : w < 5) (hO : ordN (deed (wd w)) < 1000) {what : Nat} (hw4 : what < 4) : RV l yX0_word wsX0_word (7) (zPre D T z0 L f) [.ref hx, .int (nI w), .int (nI what)] (some (.int (nI (wV (wd w) what)))) := by
  refine RV.of (cc := cX0_word) (maxL := 3) (ret := (some .int)) (by decide) rfl (Nat.le_of_ble_eq_true rfl) ?_
  intro p e s m args below meth c hC hr hlk hB ls hl
  have hl : lv_has ls 3 [(0, .ref hx), (1, .int (nI w)), (2, .int (nI what))] := hl
  obtain ⟨hE, hP, hD⟩ := hB
  obtain ⟨⟨hmx, hex⟩, ⟨hmg, G, heg, hG⟩, ⟨hml, Nl, hel, hNl⟩, hrw, hinj, hvb, hwd⟩ := id hX
  have hS : va_S (zA z0) s.heap s.heap [] := va_S.rf
  rcases (by omega : what = 0 ∨ what = 1 ∨ what = 2 ∨ what = 3) with rfl | rfl | rfl | rfl
  · refine lv_iload_n hC.1 hC.2.1 dX0_word_0 rfl (lv_at hl 1 rfl) ?_
    refine p_cs (n := 1) (k_checkWord l hw) hC gX0_word_X0_checkWord rfl (by decide +kernel) rfl ⟨by decide, by decide⟩ ⟨Nat.zero_le _, Nat.zero_le _⟩ hl.1 (Nat.le_of_ble_eq_true rfl) dX0_word_1 rfl ?_
    refine lv_iload_n hC.1 hC.2.1 dX0_word_4 rfl (lv_at hl 2 rfl) ?_
    refine lv_iconst (v := (nI 4)) hC.1 hC.2.1 dX0_word_5 (by decide) ?_
    refine p_cs (n := 2) (k_checkWhat l (by decide) (by decide)) hC gX0_word_X0_checkWhat rfl (by decide +kernel) rfl ⟨by decide, by decide⟩ ⟨Nat.zero_le _, Nat.zero_le _⟩ hl.1 (Nat.le_of_ble_eq_true rfl) dX0_word_6 rfl ?_
    refine lv_iload_n hC.1 hC.2.1 dX0_word_9 rfl (lv_at hl 2 rfl) ?_
    refine lv_tableIn (off := 26) (tgt := 36) hC.1 hC.2.1 dX0_word_10 (by decide) (by decide) (by decide) (by decide) ?_
    refine lv_aload_n hC.1 hC.2.1 dX0_word_36 rfl (lv_at hl 0 rfl) ?_
    refine p_get (ref := "CornerCube") hC hE hP hmx hex rfl (by decide +kernel) 3 (by decide) (by decide +kernel) rfl rfl dX0_word_37 ?_
    refine lv_iload_n hC.1 hC.2.1 dX0_word_40 rfl (lv_at hl 1 rfl) ?_
    refine p_iald hC hE hP hml hel (by omega) (by decide) dX0_word_41 ?_
    refine q_i (nI (wd w).length) (hNl _ (by omega)) ?_
    exact RV.iret hC hr hlk dX0_word_42 (rfl)
  · refine lv_iload_n hC.1 hC.2.1 dX0_word_0 rfl (lv_at hl 1 rfl) ?_
    refine p_cs (n := 1) (k_checkWord l hw) hC gX0_word_X0_checkWord rfl (by decide +kernel) rfl ⟨by decide, by decide⟩ ⟨Nat.zero_le _, Nat.zero_le _⟩ hl.1 (Nat.le_of_ble_eq_true rfl) dX0_word_1 rfl ?_
    refine lv_iload_n hC.1 hC.2.1 dX0_word_4 rfl (lv_at hl 2 rfl) ?_
    refine lv_iconst (v := (nI 4)) hC.1 hC.2.1 dX0_word_5 (by decide) ?_
    refine p_cs (n := 2) (k_checkWhat l (by decide) (by decide)) hC gX0_word_X0_checkWhat rfl (by decide +kernel) rfl ⟨by decide, by decide⟩ ⟨Nat.zero_le _, Nat.zero_le _⟩ hl.1 (Nat.le_of_ble_eq_true rfl) dX0_word_6 rfl ?_
    refine lv_iload_n hC.1 hC.2.1 dX0_word_9 rfl (lv_at hl 2 rfl) ?_
    refine lv_tableIn (off := 33) (tgt := 43) hC.1 hC.2.1 dX0_word_10 (by decide) (by decide) (by decide) (by decide) ?_
    refine lv_aload_n hC.1 hC.2.1 dX0_word_43 rfl (lv_at hl 0 rfl) ?_
    refine lv_iload_n hC.1 hC.2.1 dX0_word_44 rfl (lv_at hl 1 rfl) ?_
    refine p_cvB (n := 1) (k_deedOf l hX hw) hC hE hP hD hS (hmx) (hex) rfl gX0_word_X0_deedOf rfl (by decide +kernel) rfl ⟨by decide, by decide⟩ ⟨Nat.zero_le _, Nat.zero_le _⟩ hl.1 (Nat.le_of_ble_eq_true rfl) dX0_word_45 rfl ?_
    refine p_cs (n := 1) (k_order l (deed_Va _) hO) hC gX0_word_X0_orderOf rfl (by decide +kernel) rfl ⟨by decide, by decide⟩ ⟨Nat.zero_le _, Nat.zero_le _⟩ hl.1 (Nat.le_of_ble_eq_true rfl) dX0_word_48 rfl ?_
    exact RV.iret hC hr hlk dX0_word_51 (rfl)
  · refine lv_iload_n hC.1 hC.2.1 dX0_word_0 rfl (lv_at hl 1 rfl) ?_
    refine p_cs (n := 1) (k_checkWord l hw) hC gX0_word_X0_checkWord rfl (by decide +kernel) rfl ⟨by decide, by decide⟩ ⟨Nat.zero_le _, Nat.zero_le _⟩ hl.1 (Nat.le_of_ble_eq_true rfl) dX0_word_1 rfl ?_
    refine lv_iload_n hC.1 hC.2.1 dX0_word_4 rfl (lv_at hl 2 rfl) ?_
    refine lv_iconst (v := (nI 4)) hC.1 hC.2.1 dX0_word_5 (by decide) ?_
    refine p_cs (n := 2) (k_checkWhat l (by decide) (by decide)) hC gX0_word_X0_checkWhat rfl (by decide +kernel) rfl ⟨by decide, by decide⟩ ⟨Nat.zero_le _, Nat.zero_le _⟩ hl.1 (Nat.le_of_ble_eq_true rfl) dX0_word_6 rfl ?_
    refine lv_iload_n hC.1 hC.2.1 dX0_word_9 rfl (lv_at hl 2 rfl) ?_
    refine lv_tableIn (off := 42) (tgt := 52) hC.1 hC.2.1 dX0_word_10 (by decide) (by decide) (by decide) (by decide) ?_
    refine lv_aload_n hC.1 hC.2.1 dX0_word_52 rfl (lv_at hl 0 rfl) ?_
    refine lv_iload_n hC.1 hC.2.1 dX0_word_53 rfl (lv_at hl 1 rfl) ?_
    refine p_cvB (n := 1) (k_deedOf l hX hw) hC hE hP hD hS (hmx) (hex) rfl gX0_word_X0_deedOf rfl (by decide +kernel) rfl ⟨by decide, by decide⟩ ⟨Nat.zero_le _, Nat.zero_le _⟩ hl.1 (Nat.le_of_ble_eq_true rfl) dX0_word_54 rfl ?_
    refine p_cs (n := 1) (k_wrongCorners l (deed_Va _)) hC gX0_word_X0_wrongCorners rfl (by decide +kernel) rfl ⟨by decide, by decide⟩ ⟨Nat.zero_le _, Nat.zero_le _⟩ hl.1 (Nat.le_of_ble_eq_true rfl) dX0_word_57 rfl ?_
    exact RV.iret hC hr hlk dX0_word_60 (rfl)
  · refine lv_iload_n hC.1 hC.2.1 dX0_word_0 rfl (lv_at hl 1 rfl) ?_
    refine p_cs (n := 1) (k_checkWord l hw) hC gX0_word_X0_checkWord rfl (by decide +kernel) rfl ⟨by decide, by decide⟩ ⟨Nat.zero_le _, Nat.zero_le _⟩ hl.1 (Nat.le_of_ble_eq_true rfl) dX0_word_1 rfl ?_
    refine lv_iload_n hC.1 hC.2.1 dX0_word_4 rfl (lv_at hl 2 rfl) ?_
    refine lv_iconst (v := (nI 4)) hC.1 hC.2.1 dX0_word_5 (by decide) ?_
    refine p_cs (n := 2) (k_checkWhat l (by decide) (by decide)) hC gX0_word_X0_checkWhat rfl (by decide +kernel) rfl ⟨by decide, by decide⟩ ⟨Nat.zero_le _, Nat.zero_le _⟩ hl.1 (Nat.le_of_ble_eq_true rfl) dX0_word_6 rfl ?_
    refine lv_iload_n hC.1 hC.2.1 dX0_word_9 rfl (lv_at hl 2 rfl) ?_
    refine lv_tableOut (tgt := 61) hC.1 hC.2.1 dX0_word_10 (by decide) (by decide) ?_
    refine lv_bipush (v := (nI 8)) hC.1 hC.2.1 dX0_word_61 (by decide) ?_
    refine lv_aload_n hC.1 hC.2.1 dX0_word_63 rfl (lv_at hl 0 rfl) ?_
    refine lv_iload_n hC.1 hC.2.1 dX0_word_64 rfl (lv_at hl 1 rfl) ?_
    refine p_cvB (n := 1) (k_deedOf l hX hw) hC hE hP hD hS (hmx) (hex) rfl gX0_word_X0_deedOf rfl (by decide +kernel) rfl ⟨by decide, by decide⟩ ⟨Nat.zero_le _, Nat.zero_le _⟩ hl.1 (Nat.le_of_ble_eq_true rfl) dX0_word_65 rfl ?_
    refine p_cs (n := 1) (k_placedCorners l (deed_Va _)) hC gX0_word_X0_placedCorners rfl (by decide +kernel) rfl ⟨by decide, by decide⟩ ⟨Nat.zero_le _, Nat.zero_le _⟩ hl.1 (Nat.le_of_ble_eq_true rfl) dX0_word_68 rfl ?_
    refine z_isub hC dX0_word_71 (ct_le _ 8) ?_
    exact RV.iret hC hr hlk dX0_word_72 (rfl)

set_option maxHeartbeats 4000000 in
set_option maxRecDepth 100000 in
theorem k_same (l : Launch) {D : va_G} {T : ClassId × ClassId × ClassId} {z0 : Nat} {L : List Nat} {f : Nat → va_E} {hx g ln : Nat} {rw : Nat → Nat} {b : Nat → Nat} {mk : Int32} {wd : Nat → List Nat} (hX : CX T L f hx g ln rw b mk wd) {w v : Nat} (hw : w < 5) (hv5 : v < 5) : RV l yX0_same wsX0_same (7) (zPre D T z0 L f) [.ref hx, .int (nI w), .int (nI v)] (some (.int (nI (if enc (deed (wd w)) = enc (deed (wd v)) then 1 else 0)))) := by
  refine RV.of (cc := cX0_same) (maxL := 3) (ret := (some .boolean)) (by decide) rfl (Nat.le_of_ble_eq_true rfl) ?_
  intro p e s m args below meth c hC hr hlk hB ls hl
  have hl : lv_has ls 3 [(0, .ref hx), (1, .int (nI w)), (2, .int (nI v))] := hl
  obtain ⟨hE, hP, hD⟩ := hB
  obtain ⟨⟨hmx, hex⟩, ⟨hmg, G, heg, hG⟩, ⟨hml, Nl, hel, hNl⟩, hrw, hinj, hvb, hwd⟩ := id hX
  have hS : va_S (zA z0) s.heap s.heap [] := va_S.rf
  refine lv_iload_n hC.1 hC.2.1 dX0_same_0 rfl (lv_at hl 1 rfl) ?_
  refine p_cs (n := 1) (k_checkWord l hw) hC gX0_same_X0_checkWord rfl (by decide +kernel) rfl ⟨by decide, by decide⟩ ⟨Nat.zero_le _, Nat.zero_le _⟩ hl.1 (Nat.le_of_ble_eq_true rfl) dX0_same_1 rfl ?_
  refine lv_iload_n hC.1 hC.2.1 dX0_same_4 rfl (lv_at hl 2 rfl) ?_
  refine p_cs (n := 1) (k_checkWord l hv5) hC gX0_same_X0_checkWord rfl (by decide +kernel) rfl ⟨by decide, by decide⟩ ⟨Nat.zero_le _, Nat.zero_le _⟩ hl.1 (Nat.le_of_ble_eq_true rfl) dX0_same_5 rfl ?_
  refine lv_aload_n hC.1 hC.2.1 dX0_same_8 rfl (lv_at hl 0 rfl) ?_
  refine lv_iload_n hC.1 hC.2.1 dX0_same_9 rfl (lv_at hl 1 rfl) ?_
  refine p_cvB (n := 1) (k_deedOf l hX hw) hC hE hP hD hS (hmx) (hex) rfl gX0_same_X0_deedOf rfl (by decide +kernel) rfl ⟨by decide, by decide⟩ ⟨Nat.zero_le _, Nat.zero_le _⟩ hl.1 (Nat.le_of_ble_eq_true rfl) dX0_same_10 rfl ?_
  refine lv_aload_n hC.1 hC.2.1 dX0_same_13 rfl (lv_at hl 0 rfl) ?_
  refine lv_iload_n hC.1 hC.2.1 dX0_same_14 rfl (lv_at hl 2 rfl) ?_
  refine p_cvB (n := 1) (k_deedOf l hX hv5) hC hE hP hD hS (hmx) (hex) rfl gX0_same_X0_deedOf rfl (by decide +kernel) rfl ⟨by decide, by decide⟩ ⟨Nat.zero_le _, Nat.zero_le _⟩ hl.1 (Nat.le_of_ble_eq_true rfl) dX0_same_15 rfl ?_
  refine W.lcmp hC.1 hC.2.1 dX0_same_18 ?_
  refine lv_if_ne (tgt := 26) hC.1 hC.2.1 dX0_same_19 (by decide) (fun h_19 => ?_) (fun h_19 => ?_)
  · refine lv_iconst (v := (nI 0)) hC.1 hC.2.1 dX0_same_26 (by decide) ?_
    exact RV.zret hC hr hlk dX0_same_27 (by rw [if_neg (fun q => h_19 (lg0.mpr q))]) (by decide)
  · refine lv_iconst (v := (nI 1)) hC.1 hC.2.1 dX0_same_22 (by decide) ?_
    refine lv_goto (tgt := 27) hC.1 hC.2.1 dX0_same_23 (by decide) ?_
    exact RV.zret hC hr hlk dX0_same_27 (by rw [if_pos (lg0.mp h_19)]) (by decide)

set_option maxHeartbeats 4000000 in
set_option maxRecDepth 100000 in
theorem k_mixed (l : Launch) {D : va_G} {T : ClassId × ClassId × ClassId} {z0 : Nat} {L : List Nat} {f : Nat → va_E} {hx g ln : Nat} {rw : Nat → Nat} {b : Nat → Nat} {mk : Int32} {wd : Nat → List Nat} (hX : CX T L f hx g ln rw b mk wd) {w v : Nat} (hw : w < 5) (hv5 : v < 5) : RV l yX0_mixed wsX0_mixed (7) (zPre D T z0 L f) [.ref hx, .int (nI w), .int (nI v)] (some (.int (nI (8 - nRt (behindR (behindR (behind (deed (wd w)) (wd v)) (wd w)) (wd v)))))) := by
  refine RV.of (cc := cX0_mixed) (maxL := 5) (ret := (some .int)) (by decide) rfl (Nat.le_of_ble_eq_true rfl) ?_
  intro p e s m args below meth c hC hr hlk hB ls hl
  have hl : lv_has ls 5 [(0, .ref hx), (1, .int (nI w)), (2, .int (nI v))] := hl
  obtain ⟨hE, hP, hD⟩ := hB
  obtain ⟨⟨hmx, hex⟩, ⟨hmg, G, heg, hG⟩, ⟨hml, Nl, hel, hNl⟩, hrw, hinj, hvb, hwd⟩ := id hX
  have hS : va_S (zA z0) s.heap s.heap [] := va_S.rf
  refine lv_iload_n hC.1 hC.2.1 dX0_mixed_0 rfl (lv_at hl 1 rfl) ?_
  refine p_cs (n := 1) (k_checkWord l hw) hC gX0_mixed_X0_checkWord rfl (by decide +kernel) rfl ⟨by decide, by decide⟩ ⟨Nat.zero_le _, Nat.zero_le _⟩ hl.1 (Nat.le_of_ble_eq_true rfl) dX0_mixed_1 rfl ?_
  refine lv_iload_n hC.1 hC.2.1 dX0_mixed_4 rfl (lv_at hl 2 rfl) ?_
  refine p_cs (n := 1) (k_checkWord l hv5) hC gX0_mixed_X0_checkWord rfl (by decide +kernel) rfl ⟨by decide, by decide⟩ ⟨Nat.zero_le _, Nat.zero_le _⟩ hl.1 (Nat.le_of_ble_eq_true rfl) dX0_mixed_5 rfl ?_
  refine lv_aload_n hC.1 hC.2.1 dX0_mixed_8 rfl (lv_at hl 0 rfl) ?_
  refine lv_aload_n hC.1 hC.2.1 dX0_mixed_9 rfl (lv_at hl 0 rfl) ?_
  refine lv_iload_n hC.1 hC.2.1 dX0_mixed_10 rfl (lv_at hl 1 rfl) ?_
  refine p_cvB (n := 1) (k_deedOf l hX hw) hC hE hP hD hS (hmx) (hex) rfl gX0_mixed_X0_deedOf rfl (by decide +kernel) rfl ⟨by decide, by decide⟩ ⟨Nat.zero_le _, Nat.zero_le _⟩ hl.1 (Nat.le_of_ble_eq_true rfl) dX0_mixed_11 rfl ?_
  refine lv_iload_n hC.1 hC.2.1 dX0_mixed_14 rfl (lv_at hl 2 rfl) ?_
  refine p_cvB (n := 2) (k_behindWord l hX (deed_Va _) hv5) hC hE hP hD hS (hmx) (hex) rfl gX0_mixed_X0_behindWord rfl (by decide +kernel) rfl ⟨by decide, by decide⟩ ⟨Nat.zero_le _, Nat.zero_le _⟩ hl.1 (Nat.le_of_ble_eq_true rfl) dX0_mixed_15 rfl ?_
  refine lv_lstore_n (lv' := [(3, .long (enc (behind (deed (wd w)) (wd v)))), (0, .ref hx), (1, .int (nI w)), (2, .int (nI v))]) hC.1 hC.2.1 dX0_mixed_18 rfl hl (by decide) rfl (fun ls hl => ?_)
  refine lv_aload_n hC.1 hC.2.1 dX0_mixed_19 rfl (lv_at hl 1 rfl) ?_
  refine lv_aload_n hC.1 hC.2.1 dX0_mixed_20 rfl (lv_at hl 1 rfl) ?_
  refine lv_lload_n hC.1 hC.2.1 dX0_mixed_21 rfl (lv_at hl 0 rfl) ?_
  refine lv_iload_n hC.1 hC.2.1 dX0_mixed_22 rfl (lv_at hl 2 rfl) ?_
  refine p_cvB (n := 2) (k_behindWordRound l hX (bhN_Va (deed_Va _) _ _) hw) hC hE hP hD hS (hmx) (hex) rfl gX0_mixed_X0_behindWordRound rfl (by decide +kernel) rfl ⟨by decide, by decide⟩ ⟨Nat.zero_le _, Nat.zero_le _⟩ hl.1 (Nat.le_of_ble_eq_true rfl) dX0_mixed_23 rfl ?_
  refine lv_iload_n hC.1 hC.2.1 dX0_mixed_26 rfl (lv_at hl 3 rfl) ?_
  refine p_cvB (n := 2) (k_behindWordRound l hX (brN_Va (bhN_Va (deed_Va _) _ _) _ _) hv5) hC hE hP hD hS (hmx) (hex) rfl gX0_mixed_X0_behindWordRound rfl (by decide +kernel) rfl ⟨by decide, by decide⟩ ⟨Nat.zero_le _, Nat.zero_le _⟩ hl.1 (Nat.le_of_ble_eq_true rfl) dX0_mixed_27 rfl ?_
  refine p_cs (n := 1) (k_wrongCorners l (brN_Va (brN_Va (bhN_Va (deed_Va _) _ _) _ _) _ _)) hC gX0_mixed_X0_wrongCorners rfl (by decide +kernel) rfl ⟨by decide, by decide⟩ ⟨Nat.zero_le _, Nat.zero_le _⟩ hl.1 (Nat.le_of_ble_eq_true rfl) dX0_mixed_30 rfl ?_
  exact RV.iret hC hr hlk dX0_mixed_33 (rfl)

set_option maxHeartbeats 4000000 in
set_option maxRecDepth 100000 in
theorem k_would (l : Launch) {D : va_G} {T : ClassId × ClassId × ClassId} {z0 : Nat} {L : List Nat} {f : Nat → va_E} {hx g ln : Nat} {rw : Nat → Nat} {b : Nat → Nat} {mk : Int32} {wd : Nat → List Nat} (hX : CX T L f hx g ln rw b mk wd) {fc q : Nat} (hf : fc < 3) (h1 : 1 ≤ q) (hq : q < 4) : RV l yX0_would wsX0_would (6) (zPre D T z0 L f) [.ref hx, .int (nI fc), .int (nI q)] (some (.int (nI (nRt (turnC b (3 * fc + q - 1)))))) := by
  refine RV.of (cc := cX0_would) (maxL := 3) (ret := (some .int)) (by decide) rfl (Nat.le_of_ble_eq_true rfl) ?_
  intro p e s m args below meth c hC hr hlk hB ls hl
  have hl : lv_has ls 3 [(0, .ref hx), (1, .int (nI fc)), (2, .int (nI q))] := hl
  obtain ⟨hE, hP, hD⟩ := hB
  obtain ⟨⟨hmx, hex⟩, ⟨hmg, G, heg, hG⟩, ⟨hml, Nl, hel, hNl⟩, hrw, hinj, hvb, hwd⟩ := id hX
  have hS : va_S (zA z0) s.heap s.heap [] := va_S.rf
  refine lv_iload_n hC.1 hC.2.1 dX0_would_0 rfl (lv_at hl 1 rfl) ?_
  refine p_cs (n := 1) (k_checkFace l hf) hC gX0_would_X0_checkFace rfl (by decide +kernel) rfl ⟨by decide, by decide⟩ ⟨Nat.zero_le _, Nat.zero_le _⟩ hl.1 (Nat.le_of_ble_eq_true rfl) dX0_would_1 rfl ?_
  refine lv_iload_n hC.1 hC.2.1 dX0_would_4 rfl (lv_at hl 2 rfl) ?_
  refine p_cs (n := 1) (k_checkQuarters l h1 hq) hC gX0_would_X0_checkQuarters rfl (by decide +kernel) rfl ⟨by decide, by decide⟩ ⟨Nat.zero_le _, Nat.zero_le _⟩ hl.1 (Nat.le_of_ble_eq_true rfl) dX0_would_5 rfl ?_
  refine lv_aload_n hC.1 hC.2.1 dX0_would_8 rfl (lv_at hl 0 rfl) ?_
  refine p_get (ref := "CornerCube") hC hE hP hmx hex rfl (by decide +kernel) 0 (by decide) (by decide +kernel) rfl rfl dX0_would_9 ?_
  refine lv_iload_n hC.1 hC.2.1 dX0_would_12 rfl (lv_at hl 1 rfl) ?_
  refine lv_iload_n hC.1 hC.2.1 dX0_would_13 rfl (lv_at hl 2 rfl) ?_
  refine p_cs (n := 2) (k_turnNumber l hf h1 hq) hC gX0_would_X0_turnNumber rfl (by decide +kernel) rfl ⟨by decide, by decide⟩ ⟨Nat.zero_le _, Nat.zero_le _⟩ hl.1 (Nat.le_of_ble_eq_true rfl) dX0_would_14 rfl ?_
  refine p_cs (n := 2) (k_turned l hvb (by omega)) hC gX0_would_X0_turned rfl (by decide +kernel) rfl ⟨by decide, by decide⟩ ⟨Nat.zero_le _, Nat.zero_le _⟩ hl.1 (Nat.le_of_ble_eq_true rfl) dX0_would_17 rfl ?_
  refine p_cs (n := 1) (k_rightCorners l (turnC_Va _ _)) hC gX0_would_X0_rightCorners rfl (by decide +kernel) rfl ⟨by decide, by decide⟩ ⟨Nat.zero_le _, Nat.zero_le _⟩ hl.1 (Nat.le_of_ble_eq_true rfl) dX0_would_20 rfl ?_
  exact RV.iret hC hr hlk dX0_would_23 (rfl)

set_option maxHeartbeats 4000000 in
set_option maxRecDepth 100000 in
theorem k_far (l : Launch) {D : va_G} {T : ClassId × ClassId × ClassId} {z0 : Nat} {L : List Nat} {f : Nat → va_E} {hx g ln : Nat} {rw : Nat → Nat} {b : Nat → Nat} {mk : Int32} {wd : Nat → List Nat} (hX : CX T L f hx g ln rw b mk wd) {most : Nat} (hm : most ≤ 5) {N : Nat} (hN : N ≤ most) (h1 : ∀ k, k < N → wi k b 3 = false) (h2 : wi N b 3 = true) : RV l yX0_far wsX0_far (21) (zPre D T z0 L f) [.ref hx, .int (nI most)] (some (.int (nI N))) := by
  refine RV.of (cc := cX0_far) (maxL := 2) (ret := (some .int)) (by decide) rfl (Nat.le_of_ble_eq_true rfl) ?_
  intro p e s m args below meth c hC hr hlk hB ls hl
  have hl : lv_has ls 2 [(0, .ref hx), (1, .int (nI most))] := hl
  obtain ⟨hE, hP, hD⟩ := hB
  obtain ⟨⟨hmx, hex⟩, ⟨hmg, G, heg, hG⟩, ⟨hml, Nl, hel, hNl⟩, hrw, hinj, hvb, hwd⟩ := id hX
  have hS : va_S (zA z0) s.heap s.heap [] := va_S.rf
  refine lv_iload_n hC.1 hC.2.1 dX0_far_0 rfl (lv_at hl 1 rfl) ?_
  refine p_cs (n := 1) (k_checkMost l hm) hC gX0_far_X0_checkMost rfl (by decide +kernel) rfl ⟨by decide, by decide⟩ ⟨Nat.zero_le _, Nat.zero_le _⟩ hl.1 (Nat.le_of_ble_eq_true rfl) dX0_far_1 rfl ?_
  refine lv_aload_n hC.1 hC.2.1 dX0_far_4 rfl (lv_at hl 0 rfl) ?_
  refine p_get (ref := "CornerCube") hC hE hP hmx hex rfl (by decide +kernel) 0 (by decide) (by decide +kernel) rfl rfl dX0_far_5 ?_
  refine lv_iload_n hC.1 hC.2.1 dX0_far_8 rfl (lv_at hl 1 rfl) ?_
  refine p_cs (n := 2) (k_fewest l hvb hm hN h1 h2) hC gX0_far_X0_fewestTurns rfl (by decide +kernel) rfl ⟨by decide, by decide⟩ ⟨Nat.zero_le _, Nat.zero_le _⟩ hl.1 (Nat.le_of_ble_eq_true rfl) dX0_far_9 rfl ?_
  exact RV.iret hC hr hlk dX0_far_12 (rfl)

set_option maxHeartbeats 4000000 in
set_option maxRecDepth 100000 in
theorem k_shortest (l : Launch) {D : va_G} {T : ClassId × ClassId × ClassId} {z0 : Nat} {L : List Nat} {f : Nat → va_E} {hx g ln : Nat} {rw : Nat → Nat} {b : Nat → Nat} {mk : Int32} {wd : Nat → List Nat} (hX : CX T L f hx g ln rw b mk wd) {w : Nat} (hw : w < 5) {most : Nat} (hm : most ≤ 5) {N : Nat} (hN : N ≤ most) (h1 : ∀ k, k < N → wi k (deed (wd w)) 3 = false) (h2 : wi N (deed (wd w)) 3 = true) : RV l yX0_shortest wsX0_shortest (21) (zPre D T z0 L f) [.ref hx, .int (nI w), .int (nI most)] (some (.int (nI N))) := by
  refine RV.of (cc := cX0_shortest) (maxL := 3) (ret := (some .int)) (by decide) rfl (Nat.le_of_ble_eq_true rfl) ?_
  intro p e s m args below meth c hC hr hlk hB ls hl
  have hl : lv_has ls 3 [(0, .ref hx), (1, .int (nI w)), (2, .int (nI most))] := hl
  obtain ⟨hE, hP, hD⟩ := hB
  obtain ⟨⟨hmx, hex⟩, ⟨hmg, G, heg, hG⟩, ⟨hml, Nl, hel, hNl⟩, hrw, hinj, hvb, hwd⟩ := id hX
  have hS : va_S (zA z0) s.heap s.heap [] := va_S.rf
  refine lv_iload_n hC.1 hC.2.1 dX0_shortest_0 rfl (lv_at hl 1 rfl) ?_
  refine p_cs (n := 1) (k_checkWord l hw) hC gX0_shortest_X0_checkWord rfl (by decide +kernel) rfl ⟨by decide, by decide⟩ ⟨Nat.zero_le _, Nat.zero_le _⟩ hl.1 (Nat.le_of_ble_eq_true rfl) dX0_shortest_1 rfl ?_
  refine lv_iload_n hC.1 hC.2.1 dX0_shortest_4 rfl (lv_at hl 2 rfl) ?_
  refine p_cs (n := 1) (k_checkMost l hm) hC gX0_shortest_X0_checkMost rfl (by decide +kernel) rfl ⟨by decide, by decide⟩ ⟨Nat.zero_le _, Nat.zero_le _⟩ hl.1 (Nat.le_of_ble_eq_true rfl) dX0_shortest_5 rfl ?_
  refine lv_aload_n hC.1 hC.2.1 dX0_shortest_8 rfl (lv_at hl 0 rfl) ?_
  refine lv_iload_n hC.1 hC.2.1 dX0_shortest_9 rfl (lv_at hl 1 rfl) ?_
  refine p_cvB (n := 1) (k_deedOf l hX hw) hC hE hP hD hS (hmx) (hex) rfl gX0_shortest_X0_deedOf rfl (by decide +kernel) rfl ⟨by decide, by decide⟩ ⟨Nat.zero_le _, Nat.zero_le _⟩ hl.1 (Nat.le_of_ble_eq_true rfl) dX0_shortest_10 rfl ?_
  refine lv_iload_n hC.1 hC.2.1 dX0_shortest_13 rfl (lv_at hl 2 rfl) ?_
  refine p_cs (n := 2) (k_fewest l (deed_Va _) hm hN h1 h2) hC gX0_shortest_X0_fewestTurns rfl (by decide +kernel) rfl ⟨by decide, by decide⟩ ⟨Nat.zero_le _, Nat.zero_le _⟩ hl.1 (Nat.le_of_ble_eq_true rfl) dX0_shortest_14 rfl ?_
  exact RV.iret hC hr hlk dX0_shortest_17 (rfl)

set_option maxHeartbeats 4000000 in
set_option maxRecDepth 100000 in
theorem k_farN (l : Launch) {D : va_G} {T : ClassId × ClassId × ClassId} {z0 : Nat} {L : List Nat} {f : Nat → va_E} {hx g ln : Nat} {rw : Nat → Nat} {b : Nat → Nat} {mk : Int32} {wd : Nat → List Nat} (hX : CX T L f hx g ln rw b mk wd) {most : Nat} (hm : most ≤ 5) (h1 : ∀ k, k ≤ most → wi k b 3 = false) : RV l yX0_far wsX0_far (21) (zPre D T z0 L f) [.ref hx, .int (nI most)] (some (.int (-1))) := by
  refine RV.of (cc := cX0_far) (maxL := 2) (ret := (some .int)) (by decide) rfl (Nat.le_of_ble_eq_true rfl) ?_
  intro p e s m args below meth c hC hr hlk hB ls hl
  have hl : lv_has ls 2 [(0, .ref hx), (1, .int (nI most))] := hl
  obtain ⟨hE, hP, hD⟩ := hB
  obtain ⟨⟨hmx, hex⟩, ⟨hmg, G, heg, hG⟩, ⟨hml, Nl, hel, hNl⟩, hrw, hinj, hvb, hwd⟩ := id hX
  have hS : va_S (zA z0) s.heap s.heap [] := va_S.rf
  refine lv_iload_n hC.1 hC.2.1 dX0_far_0 rfl (lv_at hl 1 rfl) ?_
  refine p_cs (n := 1) (k_checkMost l hm) hC gX0_far_X0_checkMost rfl (by decide +kernel) rfl ⟨by decide, by decide⟩ ⟨Nat.zero_le _, Nat.zero_le _⟩ hl.1 (Nat.le_of_ble_eq_true rfl) dX0_far_1 rfl ?_
  refine lv_aload_n hC.1 hC.2.1 dX0_far_4 rfl (lv_at hl 0 rfl) ?_
  refine p_get (ref := "CornerCube") hC hE hP hmx hex rfl (by decide +kernel) 0 (by decide) (by decide +kernel) rfl rfl dX0_far_5 ?_
  refine lv_iload_n hC.1 hC.2.1 dX0_far_8 rfl (lv_at hl 1 rfl) ?_
  refine p_cs (n := 2) (k_fewestN l hvb hm h1) hC gX0_far_X0_fewestTurns rfl (by decide +kernel) rfl ⟨by decide, by decide⟩ ⟨Nat.zero_le _, Nat.zero_le _⟩ hl.1 (Nat.le_of_ble_eq_true rfl) dX0_far_9 rfl ?_
  exact RV.iret hC hr hlk dX0_far_12 (rfl)

set_option maxHeartbeats 4000000 in
set_option maxRecDepth 100000 in
theorem k_shortestN (l : Launch) {D : va_G} {T : ClassId × ClassId × ClassId} {z0 : Nat} {L : List Nat} {f : Nat → va_E} {hx g ln : Nat} {rw : Nat → Nat} {b : Nat → Nat} {mk : Int32} {wd : Nat → List Nat} (hX : CX T L f hx g ln rw b mk wd) {w : Nat} (hw : w < 5) {most : Nat} (hm : most ≤ 5) (h1 : ∀ k, k ≤ most → wi k (deed (wd w)) 3 = false) : RV l yX0_shortest wsX0_shortest (21) (zPre D T z0 L f) [.ref hx, .int (nI w), .int (nI most)] (some (.int (-1))) := by
  refine RV.of (cc := cX0_shortest) (maxL := 3) (ret := (some .int)) (by decide) rfl (Nat.le_of_ble_eq_true rfl) ?_
  intro p e s m args below meth c hC hr hlk hB ls hl
  have hl : lv_has ls 3 [(0, .ref hx), (1, .int (nI w)), (2, .int (nI most))] := hl
  obtain ⟨hE, hP, hD⟩ := hB
  obtain ⟨⟨hmx, hex⟩, ⟨hmg, G, heg, hG⟩, ⟨hml, Nl, hel, hNl⟩, hrw, hinj, hvb, hwd⟩ := id hX
  have hS : va_S (zA z0) s.heap s.heap [] := va_S.rf
  refine lv_iload_n hC.1 hC.2.1 dX0_shortest_0 rfl (lv_at hl 1 rfl) ?_
  refine p_cs (n := 1) (k_checkWord l hw) hC gX0_shortest_X0_checkWord rfl (by decide +kernel) rfl ⟨by decide, by decide⟩ ⟨Nat.zero_le _, Nat.zero_le _⟩ hl.1 (Nat.le_of_ble_eq_true rfl) dX0_shortest_1 rfl ?_
  refine lv_iload_n hC.1 hC.2.1 dX0_shortest_4 rfl (lv_at hl 2 rfl) ?_
  refine p_cs (n := 1) (k_checkMost l hm) hC gX0_shortest_X0_checkMost rfl (by decide +kernel) rfl ⟨by decide, by decide⟩ ⟨Nat.zero_le _, Nat.zero_le _⟩ hl.1 (Nat.le_of_ble_eq_true rfl) dX0_shortest_5 rfl ?_
  refine lv_aload_n hC.1 hC.2.1 dX0_shortest_8 rfl (lv_at hl 0 rfl) ?_
  refine lv_iload_n hC.1 hC.2.1 dX0_shortest_9 rfl (lv_at hl 1 rfl) ?_
  refine p_cvB (n := 1) (k_deedOf l hX hw) hC hE hP hD hS (hmx) (hex) rfl gX0_shortest_X0_deedOf rfl (by decide +kernel) rfl ⟨by decide, by decide⟩ ⟨Nat.zero_le _, Nat.zero_le _⟩ hl.1 (Nat.le_of_ble_eq_true rfl) dX0_shortest_10 rfl ?_
  refine lv_iload_n hC.1 hC.2.1 dX0_shortest_13 rfl (lv_at hl 2 rfl) ?_
  refine p_cs (n := 2) (k_fewestN l (deed_Va _) hm h1) hC gX0_shortest_X0_fewestTurns rfl (by decide +kernel) rfl ⟨by decide, by decide⟩ ⟨Nat.zero_le _, Nat.zero_le _⟩ hl.1 (Nat.le_of_ble_eq_true rfl) dX0_shortest_14 rfl ?_
  exact RV.iret hC hr hlk dX0_shortest_17 (rfl)

theorem m1_le0 : (-1 : Int32) ≤ 0 := by decide
theorem m1_nlt (n : Nat) (h : n < 2 ^ 31) : ¬ nI n ≤ (-1 : Int32) := by
  intro h1
  have h2 : (nI n).toInt ≤ (-1 : Int32).toInt := Int32.le_iff_toInt_le.mp h1
  rw [nI_toInt h] at h2
  have h3 : (-1 : Int32).toInt = -1 := by decide
  rw [h3] at h2
  omega
set_option maxHeartbeats 4000000 in
set_option maxRecDepth 100000 in
theorem k_firstN (l : Launch) {D : va_G} {T : ClassId × ClassId × ClassId} {z0 : Nat} {L : List Nat} {f : Nat → va_E} {hx g ln : Nat} {rw : Nat → Nat} {b : Nat → Nat} {mk : Int32} {wd : Nat → List Nat} (hX : CX T L f hx g ln rw b mk wd) {most : Nat} (hm : most ≤ 5) (h1 : ∀ k, k ≤ most → wi k b 3 = false) : RV l yX0_first wsX0_first (21) (zPre D T z0 L f) [.ref hx, .int (nI most)] (some (.int (-1))) := by
  refine RV.of (cc := cX0_first) (maxL := 4) (ret := (some .int)) (by decide) rfl (Nat.le_of_ble_eq_true rfl) ?_
  intro p e s m args below meth c hC hr hlk hB ls hl
  have hl : lv_has ls 4 [(0, .ref hx), (1, .int (nI most))] := hl
  obtain ⟨hE, hP, hD⟩ := hB
  obtain ⟨⟨hmx, hex⟩, ⟨hmg, G, heg, hG⟩, ⟨hml, Nl, hel, hNl⟩, hrw, hinj, hvb, hwd⟩ := id hX
  have hS : va_S (zA z0) s.heap s.heap [] := va_S.rf
  refine lv_iload_n hC.1 hC.2.1 dX0_first_0 rfl (lv_at hl 1 rfl) ?_
  refine p_cs (n := 1) (k_checkMost l hm) hC gX0_first_X0_checkMost rfl (by decide +kernel) rfl ⟨by decide, by decide⟩ ⟨Nat.zero_le _, Nat.zero_le _⟩ hl.1 (Nat.le_of_ble_eq_true rfl) dX0_first_1 rfl ?_
  refine lv_aload_n hC.1 hC.2.1 dX0_first_4 rfl (lv_at hl 0 rfl) ?_
  refine p_get (ref := "CornerCube") hC hE hP hmx hex rfl (by decide +kernel) 0 (by decide) (by decide +kernel) rfl rfl dX0_first_5 ?_
  refine lv_iload_n hC.1 hC.2.1 dX0_first_8 rfl (lv_at hl 1 rfl) ?_
  refine p_cs (n := 2) (k_fewestN l hvb hm h1) hC gX0_first_X0_fewestTurns rfl (by decide +kernel) rfl ⟨by decide, by decide⟩ ⟨Nat.zero_le _, Nat.zero_le _⟩ hl.1 (Nat.le_of_ble_eq_true rfl) dX0_first_9 rfl ?_
  refine lv_istore_n (lv' := [(2, .int (-1)), (0, .ref hx), (1, .int (nI most))]) hC.1 hC.2.1 dX0_first_12 rfl hl (by decide) rfl (fun ls hl => ?_)
  refine lv_iconst (v := (nI 0)) hC.1 hC.2.1 dX0_first_13 (by decide) ?_
  refine lv_istore_n (lv' := [(3, .int (nI 0)), (2, .int (-1)), (0, .ref hx), (1, .int (nI most))]) hC.1 hC.2.1 dX0_first_14 rfl hl (by decide) rfl (fun ls hl => ?_)
  refine lv_iload_n hC.1 hC.2.1 dX0_first_15 rfl (lv_at hl 1 rfl) ?_
  refine lv_if_le (tgt := 54) hC.1 hC.2.1 dX0_first_16 (by decide) (fun h_16 => ?_) (fun h_16 => absurd m1_le0 h_16)
  refine lv_iconst (v := (-1)) hC.1 hC.2.1 dX0_first_54 (by decide) ?_
  exact RV.iret hC hr hlk dX0_first_55 (rfl)

set_option maxHeartbeats 4000000 in
set_option maxRecDepth 100000 in
theorem k_first0 (l : Launch) {D : va_G} {T : ClassId × ClassId × ClassId} {z0 : Nat} {L : List Nat} {f : Nat → va_E} {hx g ln : Nat} {rw : Nat → Nat} {b : Nat → Nat} {mk : Int32} {wd : Nat → List Nat} (hX : CX T L f hx g ln rw b mk wd) {most : Nat} (hm : most ≤ 5) (h2 : wi 0 b 3 = true) : RV l yX0_first wsX0_first (21) (zPre D T z0 L f) [.ref hx, .int (nI most)] (some (.int (-1))) := by
  refine RV.of (cc := cX0_first) (maxL := 4) (ret := (some .int)) (by decide) rfl (Nat.le_of_ble_eq_true rfl) ?_
  intro p e s m args below meth c hC hr hlk hB ls hl
  have hl : lv_has ls 4 [(0, .ref hx), (1, .int (nI most))] := hl
  obtain ⟨hE, hP, hD⟩ := hB
  obtain ⟨⟨hmx, hex⟩, ⟨hmg, G, heg, hG⟩, ⟨hml, Nl, hel, hNl⟩, hrw, hinj, hvb, hwd⟩ := id hX
  have hS : va_S (zA z0) s.heap s.heap [] := va_S.rf
  refine lv_iload_n hC.1 hC.2.1 dX0_first_0 rfl (lv_at hl 1 rfl) ?_
  refine p_cs (n := 1) (k_checkMost l hm) hC gX0_first_X0_checkMost rfl (by decide +kernel) rfl ⟨by decide, by decide⟩ ⟨Nat.zero_le _, Nat.zero_le _⟩ hl.1 (Nat.le_of_ble_eq_true rfl) dX0_first_1 rfl ?_
  refine lv_aload_n hC.1 hC.2.1 dX0_first_4 rfl (lv_at hl 0 rfl) ?_
  refine p_get (ref := "CornerCube") hC hE hP hmx hex rfl (by decide +kernel) 0 (by decide) (by decide +kernel) rfl rfl dX0_first_5 ?_
  refine lv_iload_n hC.1 hC.2.1 dX0_first_8 rfl (lv_at hl 1 rfl) ?_
  refine p_cs (n := 2) (k_fewest l hvb hm (N := 0) (Nat.zero_le _) (fun k hk => absurd hk (by omega)) h2) hC gX0_first_X0_fewestTurns rfl (by decide +kernel) rfl ⟨by decide, by decide⟩ ⟨Nat.zero_le _, Nat.zero_le _⟩ hl.1 (Nat.le_of_ble_eq_true rfl) dX0_first_9 rfl ?_
  refine lv_istore_n (lv' := [(2, .int (nI 0)), (0, .ref hx), (1, .int (nI most))]) hC.1 hC.2.1 dX0_first_12 rfl hl (by decide) rfl (fun ls hl => ?_)
  refine lv_iconst (v := (nI 0)) hC.1 hC.2.1 dX0_first_13 (by decide) ?_
  refine lv_istore_n (lv' := [(3, .int (nI 0)), (2, .int (nI 0)), (0, .ref hx), (1, .int (nI most))]) hC.1 hC.2.1 dX0_first_14 rfl hl (by decide) rfl (fun ls hl => ?_)
  refine lv_iload_n hC.1 hC.2.1 dX0_first_15 rfl (lv_at hl 1 rfl) ?_
  refine z_if_le (tgt := 54) hC dX0_first_16 (by decide) (by omega) (fun h_16 => ?_) (fun h_16 => by omega)
  refine lv_iconst (v := (-1)) hC.1 hC.2.1 dX0_first_54 (by decide) ?_
  exact RV.iret hC hr hlk dX0_first_55 (rfl)

set_option maxHeartbeats 4000000 in
set_option maxRecDepth 100000 in
theorem k_first (l : Launch) {D : va_G} {T : ClassId × ClassId × ClassId} {z0 : Nat} {L : List Nat} {f : Nat → va_E} {hx g ln : Nat} {rw : Nat → Nat} {b : Nat → Nat} {mk : Int32} {wd : Nat → List Nat} (hX : CX T L f hx g ln rw b mk wd) {most N F : Nat} (hm : most ≤ 5) (hN : N ≤ most) (hN1 : 0 < N) (h1 : ∀ k, k < N → wi k b 3 = false) (h2 : wi N b 3 = true) (hF : F < 9) (h3 : ∀ t, t < F → wi (N - 1) (turnC b t) (t / 3) = false) (h4 : wi (N - 1) (turnC b F) (F / 3) = true) : RV l yX0_first wsX0_first (21) (zPre D T z0 L f) [.ref hx, .int (nI most)] (some (.int (nI F))) := by
  refine RV.of (cc := cX0_first) (maxL := 4) (ret := (some .int)) (by decide) rfl (Nat.le_of_ble_eq_true rfl) ?_
  intro p e s m args below meth c hC hr hlk hB ls hl
  have hl : lv_has ls 4 [(0, .ref hx), (1, .int (nI most))] := hl
  obtain ⟨hE, hP, hD⟩ := hB
  obtain ⟨⟨hmx, hex⟩, ⟨hmg, G, heg, hG⟩, ⟨hml, Nl, hel, hNl⟩, hrw, hinj, hvb, hwd⟩ := id hX
  have hS : va_S (zA z0) s.heap s.heap [] := va_S.rf
  have loop : ∀ (n t : Nat), t + n = F → ∀ ls : Array Slot, lv_has ls 4 [(0, .ref hx), (1, .int (nI most)), (2, .int (nI N)), (3, .int (nI t))] → W p l e (rD (21) 0 0) s m args below meth c s.heap [] 0 0 (MQ below (RVQ (some (.int (nI F)))) args s 0 0 (fun _ => False)) (F0 m 15 ls []) := by
    intro n
    induction n with
    | zero =>
      intro t hc0 ls hl
      obtain rfl : t = F := by omega
      refine lv_iload_n hC.1 hC.2.1 dX0_first_15 rfl (lv_at hl 2 rfl) ?_
      refine z_if_le (tgt := 54) hC dX0_first_16 (by decide) (by omega) (fun h_16 => by omega) (fun h_16 => ?_)
      refine lv_iload_n hC.1 hC.2.1 dX0_first_19 rfl (lv_at hl 3 rfl) ?_
      refine lv_bipush (v := (nI 9)) hC.1 hC.2.1 dX0_first_20 (by decide) ?_
      refine z_icmp_ge (tgt := 54) hC dX0_first_22 (by decide) (by omega) (by omega) (fun h_22 => by omega) (fun h_22 => ?_)
      refine lv_aload_n hC.1 hC.2.1 dX0_first_25 rfl (lv_at hl 0 rfl) ?_
      refine p_get (ref := "CornerCube") hC hE hP hmx hex rfl (by decide +kernel) 0 (by decide) (by decide +kernel) rfl rfl dX0_first_26 ?_
      refine lv_iload_n hC.1 hC.2.1 dX0_first_29 rfl (lv_at hl 3 rfl) ?_
      refine p_cs (n := 2) (k_turned l hvb (by omega)) hC gX0_first_X0_turned rfl (by decide +kernel) rfl ⟨by decide, by decide⟩ ⟨Nat.zero_le _, Nat.zero_le _⟩ hl.1 (Nat.le_of_ble_eq_true rfl) dX0_first_30 rfl ?_
      refine lv_iload_n hC.1 hC.2.1 dX0_first_33 rfl (lv_at hl 2 rfl) ?_
      refine lv_iconst (v := (nI 1)) hC.1 hC.2.1 dX0_first_34 (by decide) ?_
      refine z_isub hC dX0_first_35 (by omega) ?_
      refine lv_iload_n hC.1 hC.2.1 dX0_first_36 rfl (lv_at hl 3 rfl) ?_
      refine p_cs (n := 1) (k_faceOf l (by omega)) hC gX0_first_X0_faceOf rfl (by decide +kernel) rfl ⟨by decide, by decide⟩ ⟨Nat.zero_le _, Nat.zero_le _⟩ hl.1 (Nat.le_of_ble_eq_true rfl) dX0_first_37 rfl ?_
      refine q_i (lastI (t / 3)) ((lastI_lt (by omega)).symm) ?_
      refine p_cs (n := 3) (k_within l (N - 1) (turnC_Va b t) (lf := t / 3) (by omega) (by omega)) hC gX0_first_X0_isRightWithin rfl (by decide +kernel) rfl ⟨by simp only [rD]; omega, by simp only [rD]; omega⟩ ⟨Nat.zero_le _, Nat.zero_le _⟩ hl.1 (Nat.le_of_ble_eq_true rfl) dX0_first_40 rfl ?_
      refine z_if_eq (tgt := 48) hC dX0_first_43 (by decide) (bI_lt _) (fun h_43 => absurd (bI_0.mp h_43) (by simp [h4])) (fun h_43 => ?_)
      refine lv_iload_n hC.1 hC.2.1 dX0_first_46 rfl (lv_at hl 3 rfl) ?_
      exact RV.iret hC hr hlk dX0_first_47 (rfl)
    | succ n ih =>
      intro t hc0 ls hl
      refine lv_iload_n hC.1 hC.2.1 dX0_first_15 rfl (lv_at hl 2 rfl) ?_
      refine z_if_le (tgt := 54) hC dX0_first_16 (by decide) (by omega) (fun h_16 => by omega) (fun h_16 => ?_)
      refine lv_iload_n hC.1 hC.2.1 dX0_first_19 rfl (lv_at hl 3 rfl) ?_
      refine lv_bipush (v := (nI 9)) hC.1 hC.2.1 dX0_first_20 (by decide) ?_
      refine z_icmp_ge (tgt := 54) hC dX0_first_22 (by decide) (by omega) (by omega) (fun h_22 => by omega) (fun h_22 => ?_)
      refine lv_aload_n hC.1 hC.2.1 dX0_first_25 rfl (lv_at hl 0 rfl) ?_
      refine p_get (ref := "CornerCube") hC hE hP hmx hex rfl (by decide +kernel) 0 (by decide) (by decide +kernel) rfl rfl dX0_first_26 ?_
      refine lv_iload_n hC.1 hC.2.1 dX0_first_29 rfl (lv_at hl 3 rfl) ?_
      refine p_cs (n := 2) (k_turned l hvb (by omega)) hC gX0_first_X0_turned rfl (by decide +kernel) rfl ⟨by decide, by decide⟩ ⟨Nat.zero_le _, Nat.zero_le _⟩ hl.1 (Nat.le_of_ble_eq_true rfl) dX0_first_30 rfl ?_
      refine lv_iload_n hC.1 hC.2.1 dX0_first_33 rfl (lv_at hl 2 rfl) ?_
      refine lv_iconst (v := (nI 1)) hC.1 hC.2.1 dX0_first_34 (by decide) ?_
      refine z_isub hC dX0_first_35 (by omega) ?_
      refine lv_iload_n hC.1 hC.2.1 dX0_first_36 rfl (lv_at hl 3 rfl) ?_
      refine p_cs (n := 1) (k_faceOf l (by omega)) hC gX0_first_X0_faceOf rfl (by decide +kernel) rfl ⟨by decide, by decide⟩ ⟨Nat.zero_le _, Nat.zero_le _⟩ hl.1 (Nat.le_of_ble_eq_true rfl) dX0_first_37 rfl ?_
      refine q_i (lastI (t / 3)) ((lastI_lt (by omega)).symm) ?_
      refine p_cs (n := 3) (k_within l (N - 1) (turnC_Va b t) (lf := t / 3) (by omega) (by omega)) hC gX0_first_X0_isRightWithin rfl (by decide +kernel) rfl ⟨by simp only [rD]; omega, by simp only [rD]; omega⟩ ⟨Nat.zero_le _, Nat.zero_le _⟩ hl.1 (Nat.le_of_ble_eq_true rfl) dX0_first_40 rfl ?_
      refine z_if_eq (tgt := 48) hC dX0_first_43 (by decide) (bI_lt _) (fun h_43 => ?_) (fun h_43 => absurd (bI_n0.mp h_43) (by simp [h3 t (by omega)]))
      refine lv_iinc (v := nI (t + 1)) (lv' := [(3, .int (nI (t + 1))), (0, .ref hx), (1, .int (nI most)), (2, .int (nI N))]) hC.1 hC.2.1 dX0_first_48 hl (k := 3) rfl (z_inc _) (by decide) rfl (fun ls hl => ?_)
      refine lv_goto (tgt := 15) hC.1 hC.2.1 dX0_first_51 (by decide) ?_
      exact ih (t + 1) (by omega) ls (lv_sub hl [1, 2, 3, 0] rfl)
  refine lv_iload_n hC.1 hC.2.1 dX0_first_0 rfl (lv_at hl 1 rfl) ?_
  refine p_cs (n := 1) (k_checkMost l hm) hC gX0_first_X0_checkMost rfl (by decide +kernel) rfl ⟨by decide, by decide⟩ ⟨Nat.zero_le _, Nat.zero_le _⟩ hl.1 (Nat.le_of_ble_eq_true rfl) dX0_first_1 rfl ?_
  refine lv_aload_n hC.1 hC.2.1 dX0_first_4 rfl (lv_at hl 0 rfl) ?_
  refine p_get (ref := "CornerCube") hC hE hP hmx hex rfl (by decide +kernel) 0 (by decide) (by decide +kernel) rfl rfl dX0_first_5 ?_
  refine lv_iload_n hC.1 hC.2.1 dX0_first_8 rfl (lv_at hl 1 rfl) ?_
  refine p_cs (n := 2) (k_fewest l hvb hm hN h1 h2) hC gX0_first_X0_fewestTurns rfl (by decide +kernel) rfl ⟨by decide, by decide⟩ ⟨Nat.zero_le _, Nat.zero_le _⟩ hl.1 (Nat.le_of_ble_eq_true rfl) dX0_first_9 rfl ?_
  refine lv_istore_n (lv' := [(2, .int (nI N)), (0, .ref hx), (1, .int (nI most))]) hC.1 hC.2.1 dX0_first_12 rfl hl (by decide) rfl (fun ls hl => ?_)
  refine lv_iconst (v := (nI 0)) hC.1 hC.2.1 dX0_first_13 (by decide) ?_
  refine lv_istore_n (lv' := [(3, .int (nI 0)), (2, .int (nI N)), (0, .ref hx), (1, .int (nI most))]) hC.1 hC.2.1 dX0_first_14 rfl hl (by decide) rfl (fun ls hl => ?_)
  exact loop F 0 (Nat.zero_add _) ls (lv_sub hl [2, 3, 1, 0] rfl)

/-- the best of the first n turns, the first of several -/
def bst (b : Nat → Nat) : Nat → Nat
  | 0 => 0
  | n + 1 => if n = 0 then 0 else if nRt (turnC b (bst b n)) < nRt (turnC b n) then n else bst b n
theorem bst_lt (b : Nat → Nat) : ∀ n, n ≤ 9 → bst b n < 9
  | 0, _ => by show 0 < 9; decide
  | n + 1, h => by
    have := bst_lt b n (by omega)
    unfold bst
    split
    · decide
    · split <;> omega
theorem nRt_lt (b : Nat → Nat) : nRt b < 2 ^ 31 := Nat.lt_of_le_of_lt (ct_le _ 8) (by decide)
set_option maxHeartbeats 4000000 in
set_option maxRecDepth 100000 in
theorem k_advise (l : Launch) {D : va_G} {T : ClassId × ClassId × ClassId} {z0 : Nat} {L : List Nat} {f : Nat → va_E} {hx g ln : Nat} {rw : Nat → Nat} {b : Nat → Nat} {mk : Int32} {wd : Nat → List Nat} (hX : CX T L f hx g ln rw b mk wd)  : RV l yX0_advise wsX0_advise (6) (zPre D T z0 L f) [.ref hx] (some (.int (nI (bst b 9)))) := by
  refine RV.of (cc := cX0_advise) (maxL := 5) (ret := (some .int)) (by decide) rfl (Nat.le_of_ble_eq_true rfl) ?_
  intro p e s m args below meth c hC hr hlk hB ls hl
  have hl : lv_has ls 5 [(0, .ref hx)] := hl
  obtain ⟨hE, hP, hD⟩ := hB
  obtain ⟨⟨hmx, hex⟩, ⟨hmg, G, heg, hG⟩, ⟨hml, Nl, hel, hNl⟩, hrw, hinj, hvb, hwd⟩ := id hX
  have hS : va_S (zA z0) s.heap s.heap [] := va_S.rf
  have loop : ∀ (n k : Nat), k + n = 8 → ∀ ls : Array Slot, lv_has ls 5 [(0, .ref hx), (1, .int (nI (bst b (k + 1)))), (2, .int (nI (nRt (turnC b (bst b (k + 1)))))), (3, .int (nI (k + 1)))] → W p l e (rD (6) 0 0) s m args below meth c s.heap [] 0 0 (MQ below (RVQ (some (.int (nI (bst b 9))))) args s 0 0 (fun _ => False)) (F0 m 6 ls []) := by
    intro n
    induction n with
    | zero =>
      intro k hc0 ls hl
      obtain rfl : k = 8 := by omega
      refine lv_iload_n hC.1 hC.2.1 dX0_advise_6 rfl (lv_at hl 3 rfl) ?_
      refine lv_bipush (v := (nI 9)) hC.1 hC.2.1 dX0_advise_7 (by decide) ?_
      refine z_icmp_ge (tgt := 42) hC dX0_advise_9 (by decide) (by omega) (by omega) (fun h_9 => ?_) (fun h_9 => by omega)
      refine lv_iload_n hC.1 hC.2.1 dX0_advise_42 rfl (lv_at hl 1 rfl) ?_
      exact RV.iret hC hr hlk dX0_advise_43 (rfl)
    | succ n ih =>
      intro k hc0 ls hl
      refine lv_iload_n hC.1 hC.2.1 dX0_advise_6 rfl (lv_at hl 3 rfl) ?_
      refine lv_bipush (v := (nI 9)) hC.1 hC.2.1 dX0_advise_7 (by decide) ?_
      refine z_icmp_ge (tgt := 42) hC dX0_advise_9 (by decide) (by omega) (by omega) (fun h_9 => by omega) (fun h_9 => ?_)
      refine lv_aload_n hC.1 hC.2.1 dX0_advise_12 rfl (lv_at hl 0 rfl) ?_
      refine p_get (ref := "CornerCube") hC hE hP hmx hex rfl (by decide +kernel) 0 (by decide) (by decide +kernel) rfl rfl dX0_advise_13 ?_
      refine lv_iload_n hC.1 hC.2.1 dX0_advise_16 rfl (lv_at hl 3 rfl) ?_
      refine p_cs (n := 2) (k_turned l hvb (by omega)) hC gX0_advise_X0_turned rfl (by decide +kernel) rfl ⟨by decide, by decide⟩ ⟨Nat.zero_le _, Nat.zero_le _⟩ hl.1 (Nat.le_of_ble_eq_true rfl) dX0_advise_17 rfl ?_
      refine p_cs (n := 1) (k_rightCorners l (turnC_Va _ _)) hC gX0_advise_X0_rightCorners rfl (by decide +kernel) rfl ⟨by decide, by decide⟩ ⟨Nat.zero_le _, Nat.zero_le _⟩ hl.1 (Nat.le_of_ble_eq_true rfl) dX0_advise_20 rfl ?_
      refine lv_istore (lv' := [(4, .int (nI (nRt (turnC b (k + 1))))), (0, .ref hx), (1, .int (nI (bst b (k + 1)))), (2, .int (nI (nRt (turnC b (bst b (k + 1)))))), (3, .int (nI (k + 1)))]) hC.1 hC.2.1 dX0_advise_23 hl (by decide) rfl (fun ls hl => ?_)
      refine lv_iload hC.1 hC.2.1 dX0_advise_25 (lv_at hl 0 rfl) ?_
      refine lv_iload_n hC.1 hC.2.1 dX0_advise_27 rfl (lv_at hl 3 rfl) ?_
      refine z_icmp_le (tgt := 36) hC dX0_advise_28 (by decide) (nRt_lt _) (nRt_lt _) (fun h_28 => ?_) (fun h_28 => ?_)
      · refine lv_iinc (v := nI (k + 1 + 1)) (lv' := [(3, .int (nI (k + 1 + 1))), (4, .int (nI (nRt (turnC b (k + 1))))), (0, .ref hx), (1, .int (nI (bst b (k + 1)))), (2, .int (nI (nRt (turnC b (bst b (k + 1))))))]) hC.1 hC.2.1 dX0_advise_36 hl (k := 4) rfl (z_inc _) (by decide) rfl (fun ls hl => ?_)
        refine lv_goto (tgt := 6) hC.1 hC.2.1 dX0_advise_39 (by decide) ?_
        exact ih (k + 1) (by omega) ls (by have e9 : bst b (k + 1 + 1) = bst b (k + 1) := (if_neg (Nat.succ_ne_zero k)).trans (if_neg (by omega)); rw [e9]; exact (lv_sub hl [2, 3, 4, 0] rfl))
      · refine lv_iload_n hC.1 hC.2.1 dX0_advise_31 rfl (lv_at hl 4 rfl) ?_
        refine lv_istore_n (lv' := [(1, .int (nI (k + 1))), (4, .int (nI (nRt (turnC b (k + 1))))), (0, .ref hx), (2, .int (nI (nRt (turnC b (bst b (k + 1)))))), (3, .int (nI (k + 1)))]) hC.1 hC.2.1 dX0_advise_32 rfl hl (by decide) rfl (fun ls hl => ?_)
        refine lv_iload hC.1 hC.2.1 dX0_advise_33 (lv_at hl 1 rfl) ?_
        refine lv_istore_n (lv' := [(2, .int (nI (nRt (turnC b (k + 1))))), (1, .int (nI (k + 1))), (4, .int (nI (nRt (turnC b (k + 1))))), (0, .ref hx), (3, .int (nI (k + 1)))]) hC.1 hC.2.1 dX0_advise_35 rfl hl (by decide) rfl (fun ls hl => ?_)
        refine lv_iinc (v := nI (k + 1 + 1)) (lv' := [(3, .int (nI (k + 1 + 1))), (2, .int (nI (nRt (turnC b (k + 1))))), (1, .int (nI (k + 1))), (4, .int (nI (nRt (turnC b (k + 1))))), (0, .ref hx)]) hC.1 hC.2.1 dX0_advise_36 hl (k := 4) rfl (z_inc _) (by decide) rfl (fun ls hl => ?_)
        refine lv_goto (tgt := 6) hC.1 hC.2.1 dX0_advise_39 (by decide) ?_
        exact ih (k + 1) (by omega) ls (by have e9 : bst b (k + 1 + 1) = k + 1 := (if_neg (Nat.succ_ne_zero k)).trans (if_pos (by omega)); rw [e9]; exact (lv_sub hl [4, 2, 1, 0] rfl))
  refine lv_iconst (v := (nI 0)) hC.1 hC.2.1 dX0_advise_0 (by decide) ?_
  refine lv_istore_n (lv' := [(1, .int (nI 0)), (0, .ref hx)]) hC.1 hC.2.1 dX0_advise_1 rfl hl (by decide) rfl (fun ls hl => ?_)
  refine lv_iconst (v := (-1)) hC.1 hC.2.1 dX0_advise_2 (by decide) ?_
  refine lv_istore_n (lv' := [(2, .int (-1)), (1, .int (nI 0)), (0, .ref hx)]) hC.1 hC.2.1 dX0_advise_3 rfl hl (by decide) rfl (fun ls hl => ?_)
  refine lv_iconst (v := (nI 0)) hC.1 hC.2.1 dX0_advise_4 (by decide) ?_
  refine lv_istore_n (lv' := [(3, .int (nI 0)), (2, .int (-1)), (1, .int (nI 0)), (0, .ref hx)]) hC.1 hC.2.1 dX0_advise_5 rfl hl (by decide) rfl (fun ls hl => ?_)
  refine lv_iload_n hC.1 hC.2.1 dX0_advise_6 rfl (lv_at hl 0 rfl) ?_
  refine lv_bipush (v := (nI 9)) hC.1 hC.2.1 dX0_advise_7 (by decide) ?_
  refine z_icmp_ge (tgt := 42) hC dX0_advise_9 (by decide) (by omega) (by omega) (fun h_9 => by omega) (fun h_9 => ?_)
  refine lv_aload_n hC.1 hC.2.1 dX0_advise_12 rfl (lv_at hl 3 rfl) ?_
  refine p_get (ref := "CornerCube") hC hE hP hmx hex rfl (by decide +kernel) 0 (by decide) (by decide +kernel) rfl rfl dX0_advise_13 ?_
  refine lv_iload_n hC.1 hC.2.1 dX0_advise_16 rfl (lv_at hl 0 rfl) ?_
  refine p_cs (n := 2) (k_turned l hvb (by decide)) hC gX0_advise_X0_turned rfl (by decide +kernel) rfl ⟨by decide, by decide⟩ ⟨Nat.zero_le _, Nat.zero_le _⟩ hl.1 (Nat.le_of_ble_eq_true rfl) dX0_advise_17 rfl ?_
  refine p_cs (n := 1) (k_rightCorners l (turnC_Va _ _)) hC gX0_advise_X0_rightCorners rfl (by decide +kernel) rfl ⟨by decide, by decide⟩ ⟨Nat.zero_le _, Nat.zero_le _⟩ hl.1 (Nat.le_of_ble_eq_true rfl) dX0_advise_20 rfl ?_
  refine lv_istore (lv' := [(4, .int (nI (nRt (turnC b 0)))), (3, .int (nI 0)), (2, .int (-1)), (1, .int (nI 0)), (0, .ref hx)]) hC.1 hC.2.1 dX0_advise_23 hl (by decide) rfl (fun ls hl => ?_)
  refine lv_iload hC.1 hC.2.1 dX0_advise_25 (lv_at hl 0 rfl) ?_
  refine lv_iload_n hC.1 hC.2.1 dX0_advise_27 rfl (lv_at hl 2 rfl) ?_
  refine lv_icmp_le (tgt := 36) hC.1 hC.2.1 dX0_advise_28 (by decide) (fun h_28 => absurd h_28 (m1_nlt _ (nRt_lt _))) (fun h_28 => ?_)
  refine lv_iload_n hC.1 hC.2.1 dX0_advise_31 rfl (lv_at hl 1 rfl) ?_
  refine lv_istore_n (lv' := [(1, .int (nI 0)), (4, .int (nI (nRt (turnC b 0)))), (3, .int (nI 0)), (2, .int (-1)), (0, .ref hx)]) hC.1 hC.2.1 dX0_advise_32 rfl hl (by decide) rfl (fun ls hl => ?_)
  refine lv_iload hC.1 hC.2.1 dX0_advise_33 (lv_at hl 1 rfl) ?_
  refine lv_istore_n (lv' := [(2, .int (nI (nRt (turnC b 0)))), (1, .int (nI 0)), (4, .int (nI (nRt (turnC b 0)))), (3, .int (nI 0)), (0, .ref hx)]) hC.1 hC.2.1 dX0_advise_35 rfl hl (by decide) rfl (fun ls hl => ?_)
  refine lv_iinc (v := nI (0 + 1)) (lv' := [(3, .int (nI (0 + 1))), (2, .int (nI (nRt (turnC b 0)))), (1, .int (nI 0)), (4, .int (nI (nRt (turnC b 0)))), (0, .ref hx)]) hC.1 hC.2.1 dX0_advise_36 hl (k := 3) rfl (z_inc _) (by decide) rfl (fun ls hl => ?_)
  refine lv_goto (tgt := 6) hC.1 hC.2.1 dX0_advise_39 (by decide) ?_
  exact loop 8 0 rfl ls (lv_sub hl [4, 2, 1, 0] rfl)

def dgC (b : Nat → Nat) (mk : Int32) (wd : Nat → List Nat) : Nat → Int64
  | 0 => 1787
  | k + 1 => dgC b mk wd k * 31 + (cV b mk wd k).toInt64
def dgT (b : Nat → Nat) (q : Nat) (d : Int64) : Nat → Int64
  | 0 => d
  | k + 1 => dgT b q d k * 31 + (nI (tV b q k)).toInt64
def dgP (b : Nat → Nat) (d : Int64) : Nat → Int64
  | 0 => d
  | q + 1 => dgT b q (dgP b d q) 3
def dgV (l : List Nat) (d : Int64) : Nat → Int64
  | 0 => d
  | k + 1 => dgV l d k * 31 + (nI (wV l k)).toInt64
def dgL (l : List Nat) (d : Int64) : Nat → Int64
  | 0 => d
  | k + 1 => dgL l d k * 31 + (nI (l.getD k 0)).toInt64
def dgW (wd : Nat → List Nat) (d : Int64) : Nat → Int64
  | 0 => d
  | w + 1 => dgL (wd w) (dgV (wd w) (dgW wd d w) 4) (wd w).length
def dig9 (b : Nat → Nat) (mk : Int32) (wd : Nat → List Nat) : Int64 := dgW wd (dgP b (dgC b mk wd 7) 8) 5
set_option maxHeartbeats 4000000 in
set_option maxRecDepth 100000 in
theorem k_digest (l : Launch) {D : va_G} {T : ClassId × ClassId × ClassId} {z0 : Nat} {L : List Nat} {f : Nat → va_E} {hx g ln : Nat} {rw : Nat → Nat} {b : Nat → Nat} {mk : Int32} {wd : Nat → List Nat} (hX : CX T L f hx g ln rw b mk wd) (hOb : ordN b < 1000) (hO : ∀ w, w < 5 → ordN (deed (wd w)) < 1000) : RV l yX0_digest wsX0_digest (9) (zPre D T z0 L f) [.ref hx] (some (.long (dig9 b mk wd))) := by
  refine RV.of (cc := cX0_digest) (maxL := 5) (ret := (some .long)) (by decide) rfl (Nat.le_of_ble_eq_true rfl) ?_
  intro p e s m args below meth c hC hr hlk hB ls hl
  have hl : lv_has ls 5 [(0, .ref hx)] := hl
  obtain ⟨hE, hP, hD⟩ := hB
  obtain ⟨⟨hmx, hex⟩, ⟨hmg, G, heg, hG⟩, ⟨hml, Nl, hel, hNl⟩, hrw, hinj, hvb, hwd⟩ := id hX
  have hS : va_S (zA z0) s.heap s.heap [] := va_S.rf
  have loop3 : ∀ (n w : Nat), w + n = 5 → ∀ ls : Array Slot, lv_has ls 5 [(0, .ref hx), (1, .long (dgW wd (dgP b (dgC b mk wd 7) 8) w)), (3, .int (nI w))] → W p l e (rD (9) 0 0) s m args below meth c s.heap [] 0 0 (MQ below (RVQ (some (.long (dig9 b mk wd)))) args s 0 0 (fun _ => False)) (F0 m 77 ls []) := by
    intro n
    induction n with
    | zero =>
      intro w hc0 ls hl
      obtain rfl : w = 5 := by omega
      refine lv_iload_n hC.1 hC.2.1 dX0_digest_77 rfl (lv_at hl 2 rfl) ?_
      refine lv_iconst (v := (nI 5)) hC.1 hC.2.1 dX0_digest_78 (by decide) ?_
      refine z_icmp_ge (tgt := 155) hC dX0_digest_79 (by decide) (by omega) (by omega) (fun h_79 => ?_) (fun h_79 => by omega)
      refine lv_lload_n hC.1 hC.2.1 dX0_digest_155 rfl (lv_at hl 1 rfl) ?_
      exact RV.lret hC hr hlk dX0_digest_156 (rfl)
    | succ n ih =>
      intro w hc0 ls hl
      have hw9 : w < 5 := by omega
      obtain ⟨hrm, h, her, hh⟩ := hrw w hw9
      have hl12 := (hwd w hw9).1
      have hl9 := (hwd w hw9).2
      have in2 : ∀ (n k : Nat), k + n = (wd w).length → ∀ ls : Array Slot, lv_has ls 5 [(0, .ref hx), (1, .long (dgL (wd w) (dgV (wd w) (dgW wd (dgP b (dgC b mk wd 7) 8) w) 4) k)), (3, .int (nI w)), (4, .int (nI k))] → W p l e (rD (9) 0 0) s m args below meth c s.heap [] 0 0 (MQ below (RVQ (some (.long (dig9 b mk wd)))) args s 0 0 (fun _ => False)) (F0 m 115 ls []) := by
        intro n
        induction n with
        | zero =>
          intro k hc0 ls hl
          obtain rfl : k = (wd w).length := by omega
          refine lv_iload hC.1 hC.2.1 dX0_digest_115 (lv_at hl 3 rfl) ?_
          refine lv_aload_n hC.1 hC.2.1 dX0_digest_117 rfl (lv_at hl 0 rfl) ?_
          refine p_get (ref := "CornerCube") hC hE hP hmx hex rfl (by decide +kernel) 3 (by decide) (by decide +kernel) rfl rfl dX0_digest_118 ?_
          refine lv_iload_n hC.1 hC.2.1 dX0_digest_121 rfl (lv_at hl 2 rfl) ?_
          refine p_iald hC hE hP hml hel (by omega) (by decide) dX0_digest_122 ?_
          refine q_i (nI (wd w).length) (hNl _ (by omega)) ?_
          refine z_icmp_ge (tgt := 149) hC dX0_digest_123 (by decide) (by omega) (by omega) (fun h_123 => ?_) (fun h_123 => by omega)
          refine lv_iinc (v := nI (w + 1)) (lv' := [(3, .int (nI (w + 1))), (0, .ref hx), (1, .long (dgL (wd w) (dgV (wd w) (dgW wd (dgP b (dgC b mk wd 7) 8) w) 4) (wd w).length)), (4, .int (nI (wd w).length))]) hC.1 hC.2.1 dX0_digest_149 hl (k := 2) rfl (z_inc _) (by decide) rfl (fun ls hl => ?_)
          refine lv_goto (tgt := 77) hC.1 hC.2.1 dX0_digest_152 (by decide) ?_
          exact ih (w + 1) (by omega) ls (lv_sub hl [1, 2, 0] rfl)
        | succ n ih3 =>
          intro k hc0 ls hl
          refine lv_iload hC.1 hC.2.1 dX0_digest_115 (lv_at hl 3 rfl) ?_
          refine lv_aload_n hC.1 hC.2.1 dX0_digest_117 rfl (lv_at hl 0 rfl) ?_
          refine p_get (ref := "CornerCube") hC hE hP hmx hex rfl (by decide +kernel) 3 (by decide) (by decide +kernel) rfl rfl dX0_digest_118 ?_
          refine lv_iload_n hC.1 hC.2.1 dX0_digest_121 rfl (lv_at hl 2 rfl) ?_
          refine p_iald hC hE hP hml hel (by omega) (by decide) dX0_digest_122 ?_
          refine q_i (nI (wd w).length) (hNl _ (by omega)) ?_
          refine z_icmp_ge (tgt := 149) hC dX0_digest_123 (by decide) (by omega) (by omega) (fun h_123 => by omega) (fun h_123 => ?_)
          refine lv_lload_n hC.1 hC.2.1 dX0_digest_126 rfl (lv_at hl 1 rfl) ?_
          refine lv_ldc2 (v := 31) hC.1 hC.2.1 hC.2.2.2.1 (hC.2.2.2.2 (.constantLong RX0 145 (31)) (by decide +kernel)) dX0_digest_127 ?_
          refine lv_lmul hC.1 hC.2.1 dX0_digest_130 ?_
          refine lv_aload_n hC.1 hC.2.1 dX0_digest_131 rfl (lv_at hl 0 rfl) ?_
          refine p_get (ref := "CornerCube") hC hE hP hmx hex rfl (by decide +kernel) 2 (by decide) (by decide +kernel) rfl rfl dX0_digest_132 ?_
          refine lv_iload_n hC.1 hC.2.1 dX0_digest_135 rfl (lv_at hl 2 rfl) ?_
          refine p_aald hC hE hP hmg heg (by omega) (by decide) (hG _ (by omega)) dX0_digest_136 ?_
          refine lv_iload hC.1 hC.2.1 dX0_digest_137 (lv_at hl 3 rfl) ?_
          refine p_iald hC hE hP hrm her (by omega) (by decide) dX0_digest_139 ?_
          refine q_i (nI ((wd w).getD k 0)) (hh _ (by omega)) ?_
          refine lv_i2l hC.1 hC.2.1 dX0_digest_140 rfl ?_
          refine lv_ladd hC.1 hC.2.1 dX0_digest_141 ?_
          refine lv_lstore_n (lv' := [(1, .long (((dgL (wd w) (dgV (wd w) (dgW wd (dgP b (dgC b mk wd 7) 8) w) 4) k) * 31) + ((nI ((wd w).getD k 0))).toInt64)), (0, .ref hx), (3, .int (nI w)), (4, .int (nI k))]) hC.1 hC.2.1 dX0_digest_142 rfl hl (by decide) rfl (fun ls hl => ?_)
          refine lv_iinc (v := nI (k + 1)) (lv' := [(4, .int (nI (k + 1))), (1, .long (((dgL (wd w) (dgV (wd w) (dgW wd (dgP b (dgC b mk wd 7) 8) w) 4) k) * 31) + ((nI ((wd w).getD k 0))).toInt64)), (0, .ref hx), (3, .int (nI w))]) hC.1 hC.2.1 dX0_digest_143 hl (k := 3) rfl (z_inc _) (by decide) rfl (fun ls hl => ?_)
          refine lv_goto (tgt := 115) hC.1 hC.2.1 dX0_digest_146 (by decide) ?_
          exact ih3 (k + 1) (by omega) ls (lv_sub hl [2, 1, 3, 0] rfl)
      have in1 : ∀ (n k : Nat), k + n = 4 → ∀ ls : Array Slot, lv_has ls 5 [(0, .ref hx), (1, .long (dgV (wd w) (dgW wd (dgP b (dgC b mk wd 7) 8) w) k)), (3, .int (nI w)), (4, .int (nI k))] → W p l e (rD (9) 0 0) s m args below meth c s.heap [] 0 0 (MQ below (RVQ (some (.long (dig9 b mk wd)))) args s 0 0 (fun _ => False)) (F0 m 85 ls []) := by
        intro n
        induction n with
        | zero =>
          intro k hc0 ls hl
          obtain rfl : k = 4 := by omega
          refine lv_iload hC.1 hC.2.1 dX0_digest_85 (lv_at hl 3 rfl) ?_
          refine lv_iconst (v := (nI 4)) hC.1 hC.2.1 dX0_digest_87 (by decide) ?_
          refine z_icmp_ge (tgt := 112) hC dX0_digest_88 (by decide) (by omega) (by omega) (fun h_88 => ?_) (fun h_88 => by omega)
          refine lv_iconst (v := (nI 0)) hC.1 hC.2.1 dX0_digest_112 (by decide) ?_
          refine lv_istore (lv' := [(4, .int (nI 0)), (0, .ref hx), (1, .long (dgV (wd w) (dgW wd (dgP b (dgC b mk wd 7) 8) w) 4)), (3, .int (nI w))]) hC.1 hC.2.1 dX0_digest_113 hl (by decide) rfl (fun ls hl => ?_)
          exact in2 _ 0 (Nat.zero_add _) ls (lv_sub hl [1, 2, 3, 0] rfl)
        | succ n ih3 =>
          intro k hc0 ls hl
          refine lv_iload hC.1 hC.2.1 dX0_digest_85 (lv_at hl 3 rfl) ?_
          refine lv_iconst (v := (nI 4)) hC.1 hC.2.1 dX0_digest_87 (by decide) ?_
          refine z_icmp_ge (tgt := 112) hC dX0_digest_88 (by decide) (by omega) (by omega) (fun h_88 => by omega) (fun h_88 => ?_)
          refine lv_lload_n hC.1 hC.2.1 dX0_digest_91 rfl (lv_at hl 1 rfl) ?_
          refine lv_ldc2 (v := 31) hC.1 hC.2.1 hC.2.2.2.1 (hC.2.2.2.2 (.constantLong RX0 145 (31)) (by decide +kernel)) dX0_digest_92 ?_
          refine lv_lmul hC.1 hC.2.1 dX0_digest_95 ?_
          refine lv_aload_n hC.1 hC.2.1 dX0_digest_96 rfl (lv_at hl 0 rfl) ?_
          refine lv_iload_n hC.1 hC.2.1 dX0_digest_97 rfl (lv_at hl 2 rfl) ?_
          refine lv_iload hC.1 hC.2.1 dX0_digest_98 (lv_at hl 3 rfl) ?_
          refine p_cvB (n := 2) (k_word l hX hw9 (hO w hw9) (by omega)) hC hE hP hD hS (hmx) (hex) rfl gX0_digest_X0_word rfl (by decide +kernel) rfl ⟨by decide, by decide⟩ ⟨Nat.zero_le _, Nat.zero_le _⟩ hl.1 (Nat.le_of_ble_eq_true rfl) dX0_digest_100 rfl ?_
          refine lv_i2l hC.1 hC.2.1 dX0_digest_103 rfl ?_
          refine lv_ladd hC.1 hC.2.1 dX0_digest_104 ?_
          refine lv_lstore_n (lv' := [(1, .long (((dgV (wd w) (dgW wd (dgP b (dgC b mk wd 7) 8) w) k) * 31) + ((nI (wV (wd w) k))).toInt64)), (0, .ref hx), (3, .int (nI w)), (4, .int (nI k))]) hC.1 hC.2.1 dX0_digest_105 rfl hl (by decide) rfl (fun ls hl => ?_)
          refine lv_iinc (v := nI (k + 1)) (lv' := [(4, .int (nI (k + 1))), (1, .long (((dgV (wd w) (dgW wd (dgP b (dgC b mk wd 7) 8) w) k) * 31) + ((nI (wV (wd w) k))).toInt64)), (0, .ref hx), (3, .int (nI w))]) hC.1 hC.2.1 dX0_digest_106 hl (k := 3) rfl (z_inc _) (by decide) rfl (fun ls hl => ?_)
          refine lv_goto (tgt := 85) hC.1 hC.2.1 dX0_digest_109 (by decide) ?_
          exact ih3 (k + 1) (by omega) ls (lv_sub hl [2, 1, 3, 0] rfl)
      refine lv_iload_n hC.1 hC.2.1 dX0_digest_77 rfl (lv_at hl 2 rfl) ?_
      refine lv_iconst (v := (nI 5)) hC.1 hC.2.1 dX0_digest_78 (by decide) ?_
      refine z_icmp_ge (tgt := 155) hC dX0_digest_79 (by decide) (by omega) (by omega) (fun h_79 => by omega) (fun h_79 => ?_)
      refine lv_iconst (v := (nI 0)) hC.1 hC.2.1 dX0_digest_82 (by decide) ?_
      refine lv_istore (lv' := [(4, .int (nI 0)), (0, .ref hx), (1, .long (dgW wd (dgP b (dgC b mk wd 7) 8) w)), (3, .int (nI w))]) hC.1 hC.2.1 dX0_digest_83 hl (by decide) rfl (fun ls hl => ?_)
      exact in1 4 0 rfl ls (lv_sub hl [1, 2, 3, 0] rfl)
  have loop2 : ∀ (n q : Nat), q + n = 8 → ∀ ls : Array Slot, lv_has ls 5 [(0, .ref hx), (1, .long (dgP b (dgC b mk wd 7) q)), (3, .int (nI q))] → W p l e (rD (9) 0 0) s m args below meth c s.heap [] 0 0 (MQ below (RVQ (some (.long (dig9 b mk wd)))) args s 0 0 (fun _ => False)) (F0 m 33 ls []) := by
    intro n
    induction n with
    | zero =>
      intro q hc0 ls hl
      obtain rfl : q = 8 := by omega
      refine lv_iload_n hC.1 hC.2.1 dX0_digest_33 rfl (lv_at hl 2 rfl) ?_
      refine lv_bipush (v := (nI 8)) hC.1 hC.2.1 dX0_digest_34 (by decide) ?_
      refine z_icmp_ge (tgt := 75) hC dX0_digest_36 (by decide) (by omega) (by omega) (fun h_36 => ?_) (fun h_36 => by omega)
      refine lv_iconst (v := (nI 0)) hC.1 hC.2.1 dX0_digest_75 (by decide) ?_
      refine lv_istore_n (lv' := [(3, .int (nI 0)), (0, .ref hx), (1, .long (dgP b (dgC b mk wd 7) 8))]) hC.1 hC.2.1 dX0_digest_76 rfl hl (by decide) rfl (fun ls hl => ?_)
      exact loop3 5 0 rfl ls (lv_sub hl [1, 2, 0] rfl)
    | succ n ih =>
      intro q hc0 ls hl
      have inner : ∀ (n k : Nat), k + n = 3 → ∀ ls : Array Slot, lv_has ls 5 [(0, .ref hx), (1, .long (dgT b q (dgP b (dgC b mk wd 7) q) k)), (3, .int (nI q)), (4, .int (nI k))] → W p l e (rD (9) 0 0) s m args below meth c s.heap [] 0 0 (MQ below (RVQ (some (.long (dig9 b mk wd)))) args s 0 0 (fun _ => False)) (F0 m 42 ls []) := by
        intro n
        induction n with
        | zero =>
          intro k hc0 ls hl
          obtain rfl : k = 3 := by omega
          refine lv_iload hC.1 hC.2.1 dX0_digest_42 (lv_at hl 3 rfl) ?_
          refine lv_iconst (v := (nI 3)) hC.1 hC.2.1 dX0_digest_44 (by decide) ?_
          refine z_icmp_ge (tgt := 69) hC dX0_digest_45 (by decide) (by omega) (by omega) (fun h_45 => ?_) (fun h_45 => by omega)
          refine lv_iinc (v := nI (q + 1)) (lv' := [(3, .int (nI (q + 1))), (0, .ref hx), (1, .long (dgT b q (dgP b (dgC b mk wd 7) q) 3)), (4, .int (nI 3))]) hC.1 hC.2.1 dX0_digest_69 hl (k := 2) rfl (z_inc _) (by decide) rfl (fun ls hl => ?_)
          refine lv_goto (tgt := 33) hC.1 hC.2.1 dX0_digest_72 (by decide) ?_
          exact ih (q + 1) (by omega) ls (lv_sub hl [1, 2, 0] rfl)
        | succ n ih3 =>
          intro k hc0 ls hl
          refine lv_iload hC.1 hC.2.1 dX0_digest_42 (lv_at hl 3 rfl) ?_
          refine lv_iconst (v := (nI 3)) hC.1 hC.2.1 dX0_digest_44 (by decide) ?_
          refine z_icmp_ge (tgt := 69) hC dX0_digest_45 (by decide) (by omega) (by omega) (fun h_45 => by omega) (fun h_45 => ?_)
          refine lv_lload_n hC.1 hC.2.1 dX0_digest_48 rfl (lv_at hl 1 rfl) ?_
          refine lv_ldc2 (v := 31) hC.1 hC.2.1 hC.2.2.2.1 (hC.2.2.2.2 (.constantLong RX0 145 (31)) (by decide +kernel)) dX0_digest_49 ?_
          refine lv_lmul hC.1 hC.2.1 dX0_digest_52 ?_
          refine lv_aload_n hC.1 hC.2.1 dX0_digest_53 rfl (lv_at hl 0 rfl) ?_
          refine lv_iload_n hC.1 hC.2.1 dX0_digest_54 rfl (lv_at hl 2 rfl) ?_
          refine lv_iload hC.1 hC.2.1 dX0_digest_55 (lv_at hl 3 rfl) ?_
          refine p_cvB (n := 2) (k_told l hX (by omega : q < 8) (by omega)) hC hE hP hD hS (hmx) (hex) rfl gX0_digest_X0_told rfl (by decide +kernel) rfl ⟨by decide, by decide⟩ ⟨Nat.zero_le _, Nat.zero_le _⟩ hl.1 (Nat.le_of_ble_eq_true rfl) dX0_digest_57 rfl ?_
          refine lv_i2l hC.1 hC.2.1 dX0_digest_60 rfl ?_
          refine lv_ladd hC.1 hC.2.1 dX0_digest_61 ?_
          refine lv_lstore_n (lv' := [(1, .long (((dgT b q (dgP b (dgC b mk wd 7) q) k) * 31) + ((nI (tV b q k))).toInt64)), (0, .ref hx), (3, .int (nI q)), (4, .int (nI k))]) hC.1 hC.2.1 dX0_digest_62 rfl hl (by decide) rfl (fun ls hl => ?_)
          refine lv_iinc (v := nI (k + 1)) (lv' := [(4, .int (nI (k + 1))), (1, .long (((dgT b q (dgP b (dgC b mk wd 7) q) k) * 31) + ((nI (tV b q k))).toInt64)), (0, .ref hx), (3, .int (nI q))]) hC.1 hC.2.1 dX0_digest_63 hl (k := 3) rfl (z_inc _) (by decide) rfl (fun ls hl => ?_)
          refine lv_goto (tgt := 42) hC.1 hC.2.1 dX0_digest_66 (by decide) ?_
          exact ih3 (k + 1) (by omega) ls (lv_sub hl [2, 1, 3, 0] rfl)
      refine lv_iload_n hC.1 hC.2.1 dX0_digest_33 rfl (lv_at hl 2 rfl) ?_
      refine lv_bipush (v := (nI 8)) hC.1 hC.2.1 dX0_digest_34 (by decide) ?_
      refine z_icmp_ge (tgt := 75) hC dX0_digest_36 (by decide) (by omega) (by omega) (fun h_36 => by omega) (fun h_36 => ?_)
      refine lv_iconst (v := (nI 0)) hC.1 hC.2.1 dX0_digest_39 (by decide) ?_
      refine lv_istore (lv' := [(4, .int (nI 0)), (0, .ref hx), (1, .long (dgP b (dgC b mk wd 7) q)), (3, .int (nI q))]) hC.1 hC.2.1 dX0_digest_40 hl (by decide) rfl (fun ls hl => ?_)
      exact inner 3 0 rfl ls (lv_sub hl [1, 2, 3, 0] rfl)
  have loop1 : ∀ (n k : Nat), k + n = 7 → ∀ ls : Array Slot, lv_has ls 5 [(0, .ref hx), (1, .long (dgC b mk wd k)), (3, .int (nI k))] → W p l e (rD (9) 0 0) s m args below meth c s.heap [] 0 0 (MQ below (RVQ (some (.long (dig9 b mk wd)))) args s 0 0 (fun _ => False)) (F0 m 6 ls []) := by
    intro n
    induction n with
    | zero =>
      intro k hc0 ls hl
      obtain rfl : k = 7 := by omega
      refine lv_iload_n hC.1 hC.2.1 dX0_digest_6 rfl (lv_at hl 2 rfl) ?_
      refine lv_bipush (v := (nI 7)) hC.1 hC.2.1 dX0_digest_7 (by decide) ?_
      refine z_icmp_ge (tgt := 31) hC dX0_digest_9 (by decide) (by omega) (by omega) (fun h_9 => ?_) (fun h_9 => by omega)
      refine lv_iconst (v := (nI 0)) hC.1 hC.2.1 dX0_digest_31 (by decide) ?_
      refine lv_istore_n (lv' := [(3, .int (nI 0)), (0, .ref hx), (1, .long (dgC b mk wd 7))]) hC.1 hC.2.1 dX0_digest_32 rfl hl (by decide) rfl (fun ls hl => ?_)
      exact loop2 8 0 rfl ls (lv_sub hl [1, 2, 0] rfl)
    | succ n ih =>
      intro k hc0 ls hl
      refine lv_iload_n hC.1 hC.2.1 dX0_digest_6 rfl (lv_at hl 2 rfl) ?_
      refine lv_bipush (v := (nI 7)) hC.1 hC.2.1 dX0_digest_7 (by decide) ?_
      refine z_icmp_ge (tgt := 31) hC dX0_digest_9 (by decide) (by omega) (by omega) (fun h_9 => by omega) (fun h_9 => ?_)
      refine lv_lload_n hC.1 hC.2.1 dX0_digest_12 rfl (lv_at hl 1 rfl) ?_
      refine lv_ldc2 (v := 31) hC.1 hC.2.1 hC.2.2.2.1 (hC.2.2.2.2 (.constantLong RX0 145 (31)) (by decide +kernel)) dX0_digest_13 ?_
      refine lv_lmul hC.1 hC.2.1 dX0_digest_16 ?_
      refine lv_aload_n hC.1 hC.2.1 dX0_digest_17 rfl (lv_at hl 0 rfl) ?_
      refine lv_iload_n hC.1 hC.2.1 dX0_digest_18 rfl (lv_at hl 2 rfl) ?_
      refine p_cvB (n := 1) (k_count l hX hOb (by omega)) hC hE hP hD hS (hmx) (hex) rfl gX0_digest_X0_count rfl (by decide +kernel) rfl ⟨by decide, by decide⟩ ⟨Nat.zero_le _, Nat.zero_le _⟩ hl.1 (Nat.le_of_ble_eq_true rfl) dX0_digest_19 rfl ?_
      refine lv_i2l hC.1 hC.2.1 dX0_digest_22 rfl ?_
      refine lv_ladd hC.1 hC.2.1 dX0_digest_23 ?_
      refine lv_lstore_n (lv' := [(1, .long (((dgC b mk wd k) * 31) + ((cV b mk wd k)).toInt64)), (0, .ref hx), (3, .int (nI k))]) hC.1 hC.2.1 dX0_digest_24 rfl hl (by decide) rfl (fun ls hl => ?_)
      refine lv_iinc (v := nI (k + 1)) (lv' := [(3, .int (nI (k + 1))), (1, .long (((dgC b mk wd k) * 31) + ((cV b mk wd k)).toInt64)), (0, .ref hx)]) hC.1 hC.2.1 dX0_digest_25 hl (k := 2) rfl (z_inc _) (by decide) rfl (fun ls hl => ?_)
      refine lv_goto (tgt := 6) hC.1 hC.2.1 dX0_digest_28 (by decide) ?_
      exact ih (k + 1) (by omega) ls (lv_sub hl [2, 1, 0] rfl)
  refine lv_ldc2 (v := 1787) hC.1 hC.2.1 hC.2.2.2.1 (hC.2.2.2.2 (.constantLong RX0 143 (1787)) (by decide +kernel)) dX0_digest_0 ?_
  refine lv_lstore_n (lv' := [(1, .long 1787), (0, .ref hx)]) hC.1 hC.2.1 dX0_digest_3 rfl hl (by decide) rfl (fun ls hl => ?_)
  refine lv_iconst (v := (nI 0)) hC.1 hC.2.1 dX0_digest_4 (by decide) ?_
  refine lv_istore_n (lv' := [(3, .int (nI 0)), (1, .long 1787), (0, .ref hx)]) hC.1 hC.2.1 dX0_digest_5 rfl hl (by decide) rfl (fun ls hl => ?_)
  exact loop1 7 0 rfl ls (lv_sub hl [2, 1, 0] rfl)
