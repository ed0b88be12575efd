/-! MY ROWS 23: the reference's public methods where they answer, on (laid by a program of mine) -/
set_option maxHeartbeats 4000000 in
set_option maxRecDepth 100000 in
theorem mg_round (l : Launch) {D : va_G} {T : ClassId × ClassId × ClassId} {z0 : Nat} {L : List Nat} {f : Nat → va_E} {hm rs td sz wo : Nat} {rr tr : Nat → Nat} {cu : Nat} {th mk : Int32} {b : Nat → Nat} {wd : Nat → List Nat} (hZ : MZ T L f hm rs td sz wo rr tr cu th mk b wd) {w : Nat} (hw : w < 5) : HV l yX1_round wsX1_round (40) 1 12 D z0 (zPre D T z0 L f) [.ref hm, .int (nI w)] (MPo T L f hm rs td sz wo rr tr cu (.int (nI (wd w).length)) (nI 0) mk b (wset wd w ((wd w).reverse.map tb))) := by
  refine HV.of (cc := cX1_round) (maxL := 4) (ret := (some .int)) (by decide) rfl (Nat.le_of_ble_eq_true rfl) ?_
  intro p e s m args below meth c hC hr hlk hin hB ls hl
  have hl : lv_has ls 4 [(0, .ref hm), (1, .int (nI w))] := hl
  obtain ⟨hE, hP, hD⟩ := hB
  have hS : va_S (zA z0) s.heap s.heap [] := va_S.rf
  obtain ⟨Nn, V, hY, hvb, hMS⟩ := id hZ
  obtain ⟨⟨hmm, hem⟩, ⟨hmc, gc, hec, hRc⟩, ⟨hmr, Gr, her, hGr⟩, hrr, ⟨hmt, Gt, het, hGt⟩, htr, hnt, ⟨hms, hes⟩, ⟨hmw, hew⟩⟩ := id hY
  have hl12 := (hMS w hw).2.1
  have hw9 := fun k hk => ((hMS w hw).2.2 k hk).2
  refine lv_aload_n hC.1 hC.2.1 dX1_round_0 rfl (lv_at hl 0 rfl) ?_
  refine lv_iconst (v := (nI 0)) hC.1 hC.2.1 dX1_round_1 (by decide) ?_
  refine p_put (ref := "CornerCubeModel") (ty0 := tyX1) hC hE hP hD hS hmm hem rfl (by decide +kernel) tyX1_ok nmX1 0 (by decide) (by decide +kernel) rfl rfl rfl rfl (Nat.le_of_ble_eq_true rfl) dX1_round_2 (fun H locs hP hD hS => ?_)
  have hY := hY.put_th (nI 0) mk
  have hF := (FRM.rf (hm := hm) (sz := sz) (wo := wo) (tr := tr) (L := L) (f := f)).put_hm (e := eO 1 [.int (nI 0), .int mk, .ref cu, .ref rs, .ref td, .ref sz, .ref wo])
  obtain ⟨⟨hmm, hem⟩, ⟨hmc, gc, hec, hRc⟩, ⟨hmr, Gr, her, hGr⟩, hrr, ⟨hmt, Gt, het, hGt⟩, htr, hnt, ⟨hms, hes⟩, ⟨hmw, hew⟩⟩ := id hY
  refine lv_iload_n hC.1 hC.2.1 dX1_round_5 rfl (lv_at hl 1 rfl) ?_
  refine p_cs (n := 1) (m_isWord_t l ((nI_leI (by omega) (by omega)).mpr (by omega)) ((nI_leI (by omega) (by omega)).mpr (by omega))) hC gX1_round_X1_isWord rfl (by decide +kernel) rfl ⟨by decide, by decide⟩ ⟨by simp only [rD]; omega, by simp only [rD]; omega⟩ hl.1 (Nat.le_of_ble_eq_true rfl) dX1_round_6 rfl ?_
  refine z_if_ne (tgt := 18) hC dX1_round_9 (by decide) (by omega) (fun h_9 => ?_) (fun h_9 => by omega)
  refine lv_aload_n hC.1 hC.2.1 dX1_round_18 rfl (lv_at hl 0 rfl) ?_
  refine lv_iload_n hC.1 hC.2.1 dX1_round_19 rfl (lv_at hl 1 rfl) ?_
  refine p_cvH (n := 1) (m_taken l hY hMS hw) hC hE hP hD hS (hmm) (hem) rfl gX1_round_X1_taken rfl (by decide +kernel) rfl ⟨by decide, by decide⟩ ⟨by simp only [rD]; omega, by simp only [rD]; omega⟩ hl.1 (Nat.le_of_ble_eq_true rfl) dX1_round_20 rfl (fun o L2 f2 H locs hpost hP hD hS => ?_)
  obtain ⟨y, rfl, hyn, hyL, ⟨gy, hgy, hgv⟩, ⟨N2, V2, hY2, hMS2⟩, hF2⟩ := hpost
  have hnsz : y ≠ sz := fun e => hyn (e ▸ hms)
  have hnwo : y ≠ wo := fun e => hyn (e ▸ hmw)
  have hnhm : y ≠ hm := fun e => hyn (e ▸ hmm)
  have hntr : ∀ k, k < 6 → y ≠ tr k := fun k hk e => hyn (e ▸ (htr k hk).1)
  have hF : FRM hm sz wo tr L f L2 f2 := fun a ha => ⟨(hF2 a ha).1, fun h1 h2 h3 h4 => ((hF2 a ha).2 h1 h2 h3 h4).trans ((hF a ha).2 h1 h2 h3 h4)⟩
  have hY := hY2
  obtain ⟨⟨hmm, hem⟩, ⟨hmc, gc, hec, hRc⟩, ⟨hmr, Gr, her, hGr⟩, hrr, ⟨hmt, Gt, het, hGt⟩, htr, hnt, ⟨hms, hes⟩, ⟨hmw, hew⟩⟩ := id hY
  refine lv_astore_n (lv' := [(2, .ref y), (0, .ref hm), (1, .int (nI w))]) hC.1 hC.2.1 dX1_round_23 rfl hl (by decide) rfl (fun ls hl => ?_)
  have loop : ∀ (n : Nat) (j : Nat) (N1 V1 : Nat → Int32) (f1 : Nat → va_E) (H : Heap) (locs : List Loc), j + n = (wd w).length → MY T L2 f1 hm rs td sz wo rr tr cu (nI 0) mk b N1 V1 → MS N1 V1 (wset wd w (rvN (wd w) j)) → FRM hm sz wo tr L f L2 f1 → f1 y = eI T.1 (wd w).length gy → va_P D vwCl (va_pl L2 f1) H → va_D (zA z0) (va_pl L2 f1) → va_S (zA z0) s.heap H locs → ∀ ls : Array Slot, lv_has ls 4 [(0, .ref hm), (1, .int (nI w)), (2, .ref y), (3, .int (nI ((wd w).length - j) - 1))] → W p l e (rD (40) 1 12) s m args below meth c H locs (0 + 1) (0 + 12) (MQ below (HVQ D z0 (MPo T L f hm rs td sz wo rr tr cu (.int (nI (wd w).length)) (nI 0) mk b (wset wd w ((wd w).reverse.map tb)))) args s 1 12 (zA z0)) (F0 m 29 ls []) := by
    intro n
    induction n with
    | zero =>
      intro j N1 V1 f1 H locs hk hY hMS hF hgy1 hP hD hS ls hl
      obtain ⟨⟨hmm, hem⟩, ⟨hmc, gc, hec, hRc⟩, ⟨hmr, Gr, her, hGr⟩, hrr, ⟨hmt, Gt, het, hGt⟩, htr, hnt, ⟨hms, hes⟩, ⟨hmw, hew⟩⟩ := id hY
      have hjt : j = (wd w).length := by omega
      have hMS : MS N1 V1 (wset wd w ((wd w).reverse.map tb)) := by rw [hjt, rvN_all] at hMS; exact hMS
      have hsz2 : N1 w = nI (wd w).length := by have h9 := (hMS w hw).1; rw [wset_same, List.length_map, List.length_reverse] at h9; exact h9
      have hk0 : nI ((wd w).length - j) - 1 < (0 : Int32) := by rw [hjt, Nat.sub_self]; decide
      refine lv_iload_n hC.1 hC.2.1 dX1_round_29 rfl (lv_at hl 3 rfl) ?_
      refine lv_if_lt (tgt := 59) hC.1 hC.2.1 dX1_round_30 (by decide) (fun h_30 => ?_) (fun h_30 => absurd hk0 h_30)
      refine lv_aload_n hC.1 hC.2.1 dX1_round_59 rfl (lv_at hl 0 rfl) ?_
      refine p_get (ref := "CornerCubeModel") hC hE hP hmm hem rfl (by decide +kernel) 5 (by decide) (by decide +kernel) rfl rfl dX1_round_60 ?_
      refine lv_iload_n hC.1 hC.2.1 dX1_round_63 rfl (lv_at hl 1 rfl) ?_
      refine p_iald hC hE hP hms hes (by omega) (by decide) dX1_round_64 ?_
      refine q_i (nI (wd w).length) (hsz2) ?_
      exact HV.iret hC hr hlk hP hD hS (by omega) (by omega) dX1_round_65 (⟨rfl, cu, Or.inl rfl, ⟨_, _, hY, hvb, hMS⟩, hF⟩)
    | succ n ih =>
      intro j N1 V1 f1 H locs hk hY hMS hF hgy1 hP hD hS ls hl
      obtain ⟨⟨hmm, hem⟩, ⟨hmc, gc, hec, hRc⟩, ⟨hmr, Gr, her, hGr⟩, hrr, ⟨hmt, Gt, het, hGt⟩, htr, hnt, ⟨hms, hes⟩, ⟨hmw, hew⟩⟩ := id hY
      have hk1 : nI ((wd w).length - j) - 1 = nI ((wd w).length - 1 - j) := (pk_sub (by omega : 1 ≤ (wd w).length - j)).trans (by rw [show (wd w).length - j - 1 = (wd w).length - 1 - j from by omega])
      rw [hk1] at hl
      have ht9 := hw9 ((wd w).length - 1 - j) (by omega)
      refine lv_iload_n hC.1 hC.2.1 dX1_round_29 rfl (lv_at hl 3 rfl) ?_
      refine z_if_lt (tgt := 59) hC dX1_round_30 (by decide) (by omega) ?_
      refine lv_aload_n hC.1 hC.2.1 dX1_round_33 rfl (lv_at hl 0 rfl) ?_
      refine lv_iload_n hC.1 hC.2.1 dX1_round_34 rfl (lv_at hl 1 rfl) ?_
      refine lv_aload_n hC.1 hC.2.1 dX1_round_35 rfl (lv_at hl 2 rfl) ?_
      refine lv_iload_n hC.1 hC.2.1 dX1_round_36 rfl (lv_at hl 3 rfl) ?_
      refine p_iald hC hE hP hyL hgy1 (by omega) (by omega) dX1_round_37 ?_
      refine q_i (nI ((wd w).getD ((wd w).length - 1 - j) 0)) (hgv _ (by omega)) ?_
      refine lv_iconst (v := (nI 3)) hC.1 hC.2.1 dX1_round_38 (by decide) ?_
      refine z_idiv hC dX1_round_39 (by omega) (by decide) (by decide) ?_
      refine lv_iconst (v := (nI 3)) hC.1 hC.2.1 dX1_round_40 (by decide) ?_
      refine z_imul hC dX1_round_41 ?_
      refine lv_iconst (v := (nI 2)) hC.1 hC.2.1 dX1_round_42 (by decide) ?_
      refine z_iadd hC dX1_round_43 ?_
      refine lv_aload_n hC.1 hC.2.1 dX1_round_44 rfl (lv_at hl 2 rfl) ?_
      refine lv_iload_n hC.1 hC.2.1 dX1_round_45 rfl (lv_at hl 3 rfl) ?_
      refine p_iald hC hE hP hyL hgy1 (by omega) (by omega) dX1_round_46 ?_
      refine q_i (nI ((wd w).getD ((wd w).length - 1 - j) 0)) (hgv _ (by omega)) ?_
      refine lv_iconst (v := (nI 3)) hC.1 hC.2.1 dX1_round_47 (by decide) ?_
      refine z_irem hC dX1_round_48 (by omega) (by decide) (by decide) ?_
      refine z_isub hC dX1_round_49 (by omega) ?_
      refine q_i (nI (tb ((wd w).getD ((wd w).length - 1 - j) 0))) (congrArg nI (by unfold tb; omega)) ?_
      refine p_cvH (n := 2) (m_put l hY hMS hw (by rw [wset_same, rvN_len]; omega) (tb_lt ht9)) hC hE hP hD hS (hmm) (hem) rfl gX1_round_X1_put rfl (by decide +kernel) rfl ⟨by decide, by decide⟩ ⟨by simp only [rD]; omega, by simp only [rD]; omega⟩ hl.1 (Nat.le_of_ble_eq_true rfl) dX1_round_50 rfl (fun o L3 f3 H locs hpost hP hD hS => ?_)
      obtain ⟨rfl, hLe, ⟨N3, V3, hY, hMS⟩, hF2⟩ := hpost
      rw [hLe] at hP hD
      have hgy1 := ((hF2 y hyL).2 hnhm hnsz hnwo hntr).trans hgy1
      have hF : FRM hm sz wo tr L f L2 f3 := fun a ha => ⟨(hF a ha).1, fun h1 h2 h3 h4 => ((hF2 a (hF a ha).1).2 h1 h2 h3 h4).trans ((hF a ha).2 h1 h2 h3 h4)⟩
      have hMS : MS N3 V3 (wset wd w (rvN (wd w) (j + 1))) := by rw [wset_wset, wset_same] at hMS; exact hMS
      refine lv_iinc (v := nI ((wd w).length - (j + 1)) - 1) (lv' := [(3, .int (nI ((wd w).length - (j + 1)) - 1)), (0, .ref hm), (1, .int (nI w)), (2, .ref y)]) hC.1 hC.2.1 dX1_round_53 hl (k := 3) rfl (by rw [z_m1, show (wd w).length - (j + 1) = (wd w).length - 1 - j from by omega]) (by decide) rfl (fun ls hl => ?_)
      refine lv_goto (tgt := 29) hC.1 hC.2.1 dX1_round_56 (by decide) ?_
      exact ih (j + 1) _ _ _ _ _ (by omega) hY hMS hF hgy1 hP hD hS ls (lv_sub hl [1, 2, 3, 0] rfl)
  refine lv_aload_n hC.1 hC.2.1 dX1_round_24 rfl (lv_at hl 0 rfl) ?_
  refine p_alen hC hE hP hyL hgy dX1_round_25 ?_
  refine lv_iconst (v := (nI 1)) hC.1 hC.2.1 dX1_round_26 (by decide) ?_
  refine lv_isub hC.1 hC.2.1 dX1_round_27 ?_
  refine lv_istore_n (lv' := [(3, .int ((nI (wd w).length) - (nI 1))), (2, .ref y), (0, .ref hm), (1, .int (nI w))]) hC.1 hC.2.1 dX1_round_28 rfl hl (by decide) rfl (fun ls hl => ?_)
  exact loop (wd w).length 0 _ _ _ _ _ (Nat.zero_add _) hY hMS2 hF hgy hP hD hS ls (lv_sub hl [2, 3, 1, 0] rfl)

set_option maxHeartbeats 4000000 in
set_option maxRecDepth 100000 in
theorem mg_tidy (l : Launch) {D : va_G} {T : ClassId × ClassId × ClassId} {z0 : Nat} {L : List Nat} {f : Nat → va_E} {hm rs td sz wo : Nat} {rr tr : Nat → Nat} {cu : Nat} {th mk : Int32} {b : Nat → Nat} {wd : Nat → List Nat} (hZ : MZ T L f hm rs td sz wo rr tr cu th mk b wd) {w : Nat} (hw : w < 5) : HV l yX1_tidy wsX1_tidy (40) 1 12 D z0 (zPre D T z0 L f) [.ref hm, .int (nI w)] (MPo T L f hm rs td sz wo rr tr cu (.int (nI (tdN (wd w) (wd w).length).length)) (nI 0) mk b (wset wd w (tdN (wd w) (wd w).length))) := by
  refine HV.of (cc := cX1_tidy) (maxL := 8) (ret := (some .int)) (by decide) rfl (Nat.le_of_ble_eq_true rfl) ?_
  intro p e s m args below meth c hC hr hlk hin hB ls hl
  have hl : lv_has ls 8 [(0, .ref hm), (1, .int (nI w))] := hl
  obtain ⟨hE, hP, hD⟩ := hB
  have hS : va_S (zA z0) s.heap s.heap [] := va_S.rf
  obtain ⟨Nn, V, hY, hvb, hMS⟩ := id hZ
  obtain ⟨⟨hmm, hem⟩, ⟨hmc, gc, hec, hRc⟩, ⟨hmr, Gr, her, hGr⟩, hrr, ⟨hmt, Gt, het, hGt⟩, htr, hnt, ⟨hms, hes⟩, ⟨hmw, hew⟩⟩ := id hY
  have hl12 := (hMS w hw).2.1
  have hw9 := fun k hk => ((hMS w hw).2.2 k hk).2
  refine lv_aload_n hC.1 hC.2.1 dX1_tidy_0 rfl (lv_at hl 0 rfl) ?_
  refine lv_iconst (v := (nI 0)) hC.1 hC.2.1 dX1_tidy_1 (by decide) ?_
  refine p_put (ref := "CornerCubeModel") (ty0 := tyX1) hC hE hP hD hS hmm hem rfl (by decide +kernel) tyX1_ok nmX1 0 (by decide) (by decide +kernel) rfl rfl rfl rfl (Nat.le_of_ble_eq_true rfl) dX1_tidy_2 (fun H locs hP hD hS => ?_)
  have hY := hY.put_th (nI 0) mk
  have hF := (FRM.rf (hm := hm) (sz := sz) (wo := wo) (tr := tr) (L := L) (f := f)).put_hm (e := eO 1 [.int (nI 0), .int mk, .ref cu, .ref rs, .ref td, .ref sz, .ref wo])
  obtain ⟨⟨hmm, hem⟩, ⟨hmc, gc, hec, hRc⟩, ⟨hmr, Gr, her, hGr⟩, hrr, ⟨hmt, Gt, het, hGt⟩, htr, hnt, ⟨hms, hes⟩, ⟨hmw, hew⟩⟩ := id hY
  refine lv_iload_n hC.1 hC.2.1 dX1_tidy_5 rfl (lv_at hl 1 rfl) ?_
  refine p_cs (n := 1) (m_isWord_t l ((nI_leI (by omega) (by omega)).mpr (by omega)) ((nI_leI (by omega) (by omega)).mpr (by omega))) hC gX1_tidy_X1_isWord rfl (by decide +kernel) rfl ⟨by decide, by decide⟩ ⟨by simp only [rD]; omega, by simp only [rD]; omega⟩ hl.1 (Nat.le_of_ble_eq_true rfl) dX1_tidy_6 rfl ?_
  refine z_if_ne (tgt := 18) hC dX1_tidy_9 (by decide) (by omega) (fun h_9 => ?_) (fun h_9 => by omega)
  refine lv_aload_n hC.1 hC.2.1 dX1_tidy_18 rfl (lv_at hl 0 rfl) ?_
  refine lv_iload_n hC.1 hC.2.1 dX1_tidy_19 rfl (lv_at hl 1 rfl) ?_
  refine p_cvH (n := 1) (m_taken l hY hMS hw) hC hE hP hD hS (hmm) (hem) rfl gX1_tidy_X1_taken rfl (by decide +kernel) rfl ⟨by decide, by decide⟩ ⟨by simp only [rD]; omega, by simp only [rD]; omega⟩ hl.1 (Nat.le_of_ble_eq_true rfl) dX1_tidy_20 rfl (fun o L2 f2 H locs hpost hP hD hS => ?_)
  obtain ⟨y, rfl, hyn, hyL, ⟨gy, hgy, hgv⟩, ⟨N2, V2, hY2, hMS2⟩, hF2⟩ := hpost
  have hnsz : y ≠ sz := fun e => hyn (e ▸ hms)
  have hnwo : y ≠ wo := fun e => hyn (e ▸ hmw)
  have hnhm : y ≠ hm := fun e => hyn (e ▸ hmm)
  have hntr : ∀ k, k < 6 → y ≠ tr k := fun k hk e => hyn (e ▸ (htr k hk).1)
  have hF : FRM hm sz wo tr L f L2 f2 := fun a ha => ⟨(hF2 a ha).1, fun h1 h2 h3 h4 => ((hF2 a ha).2 h1 h2 h3 h4).trans ((hF a ha).2 h1 h2 h3 h4)⟩
  have hY := hY2
  obtain ⟨⟨hmm, hem⟩, ⟨hmc, gc, hec, hRc⟩, ⟨hmr, Gr, her, hGr⟩, hrr, ⟨hmt, Gt, het, hGt⟩, htr, hnt, ⟨hms, hes⟩, ⟨hmw, hew⟩⟩ := id hY
  refine lv_astore_n (lv' := [(2, .ref y), (0, .ref hm), (1, .int (nI w))]) hC.1 hC.2.1 dX1_tidy_23 rfl hl (by decide) rfl (fun ls hl => ?_)
  have loop : ∀ (n : Nat) (k : Nat) (N1 V1 : Nat → Int32) (f1 : Nat → va_E) (H : Heap) (locs : List Loc), k + n = (wd w).length → MY T L2 f1 hm rs td sz wo rr tr cu (nI 0) mk b N1 V1 → MS N1 V1 (wset wd w (tdN (wd w) k)) → FRM hm sz wo tr L f L2 f1 → f1 y = eI T.1 (wd w).length gy → va_P D vwCl (va_pl L2 f1) H → va_D (zA z0) (va_pl L2 f1) → va_S (zA z0) s.heap H locs → ∀ ls : Array Slot, lv_has ls 8 [(0, .ref hm), (1, .int (nI w)), (2, .ref y), (3, .int (nI (wd w).length)), (4, .int (nI k))] → W p l e (rD (40) 1 12) s m args below meth c H locs (0 + 1) (0 + 12) (MQ below (HVQ D z0 (MPo T L f hm rs td sz wo rr tr cu (.int (nI (tdN (wd w) (wd w).length).length)) (nI 0) mk b (wset wd w (tdN (wd w) (wd w).length)))) args s 1 12 (zA z0)) (F0 m 30 ls []) := by
    intro n
    induction n with
    | zero =>
      intro k N1 V1 f1 H locs hk hY hMS hF hgy1 hP hD hS ls hl
      obtain ⟨⟨hmm, hem⟩, ⟨hmc, gc, hec, hRc⟩, ⟨hmr, Gr, her, hGr⟩, hrr, ⟨hmt, Gt, het, hGt⟩, htr, hnt, ⟨hms, hes⟩, ⟨hmw, hew⟩⟩ := id hY
      have hjt : k = (wd w).length := by omega
      have hsz2 : N1 w = nI (tdN (wd w) k).length := by have h9 := (hMS w hw).1; rw [wset_same] at h9; exact h9
      refine lv_iload hC.1 hC.2.1 dX1_tidy_30 (lv_at hl 4 rfl) ?_
      refine lv_iload_n hC.1 hC.2.1 dX1_tidy_32 rfl (lv_at hl 3 rfl) ?_
      refine z_icmp_ge (tgt := 149) hC dX1_tidy_33 (by decide) (by omega) (by omega) (fun h_33 => ?_) (fun h_33 => by omega)
      refine lv_aload_n hC.1 hC.2.1 dX1_tidy_149 rfl (lv_at hl 0 rfl) ?_
      refine p_get (ref := "CornerCubeModel") hC hE hP hmm hem rfl (by decide +kernel) 5 (by decide) (by decide +kernel) rfl rfl dX1_tidy_150 ?_
      refine lv_iload_n hC.1 hC.2.1 dX1_tidy_153 rfl (lv_at hl 1 rfl) ?_
      refine p_iald hC hE hP hms hes (by omega) (by decide) dX1_tidy_154 ?_
      refine q_i (nI (tdN (wd w) k).length) (hsz2) ?_
      exact HV.iret hC hr hlk hP hD hS (by omega) (by omega) dX1_tidy_155 (by subst hjt; exact ⟨rfl, cu, Or.inl rfl, ⟨_, _, hY, hvb, hMS⟩, hF⟩)
    | succ n ih =>
      intro k N1 V1 f1 H locs hk hY hMS hF hgy1 hP hD hS ls hl
      obtain ⟨⟨hmm, hem⟩, ⟨hmc, gc, hec, hRc⟩, ⟨hmr, Gr, her, hGr⟩, hrr, ⟨hmt, Gt, het, hGt⟩, htr, hnt, ⟨hms, hes⟩, ⟨hmw, hew⟩⟩ := id hY
      have hsz2 : N1 w = nI (tdN (wd w) k).length := by have h9 := (hMS w hw).1; rw [wset_same] at h9; exact h9
      have htl := tdN_len (wd w) k
      have ht9 : (wd w).getD k 0 < 9 := hw9 k (by omega)
      refine lv_iload hC.1 hC.2.1 dX1_tidy_30 (lv_at hl 4 rfl) ?_
      refine lv_iload_n hC.1 hC.2.1 dX1_tidy_32 rfl (lv_at hl 3 rfl) ?_
      refine z_icmp_ge (tgt := 149) hC dX1_tidy_33 (by decide) (by omega) (by omega) (fun h_33 => by omega) (fun h_33 => ?_)
      refine lv_aload_n hC.1 hC.2.1 dX1_tidy_36 rfl (lv_at hl 2 rfl) ?_
      refine lv_iload hC.1 hC.2.1 dX1_tidy_37 (lv_at hl 4 rfl) ?_
      refine p_iald hC hE hP hyL hgy1 (by omega) (by omega) dX1_tidy_39 ?_
      refine q_i (nI ((wd w).getD k 0)) (hgv _ (by omega)) ?_
      refine lv_istore (lv' := [(5, .int (nI ((wd w).getD k 0))), (0, .ref hm), (1, .int (nI w)), (2, .ref y), (3, .int (nI (wd w).length)), (4, .int (nI k))]) hC.1 hC.2.1 dX1_tidy_40 hl (by decide) rfl (fun ls hl => ?_)
      refine lv_bipush (v := (nI 12)) hC.1 hC.2.1 dX1_tidy_42 (by decide) ?_
      refine lv_iload_n hC.1 hC.2.1 dX1_tidy_44 rfl (lv_at hl 2 rfl) ?_
      refine z_imul hC dX1_tidy_45 ?_
      refine lv_aload_n hC.1 hC.2.1 dX1_tidy_46 rfl (lv_at hl 1 rfl) ?_
      refine p_get (ref := "CornerCubeModel") hC hE hP hmm hem rfl (by decide +kernel) 5 (by decide) (by decide +kernel) rfl rfl dX1_tidy_47 ?_
      refine lv_iload_n hC.1 hC.2.1 dX1_tidy_50 rfl (lv_at hl 2 rfl) ?_
      refine p_iald hC hE hP hms hes (by omega) (by decide) dX1_tidy_51 ?_
      refine q_i (nI (tdN (wd w) k).length) (hsz2) ?_
      refine z_iadd hC dX1_tidy_52 ?_
      refine lv_iconst (v := (nI 1)) hC.1 hC.2.1 dX1_tidy_53 (by decide) ?_
      refine lv_isub hC.1 hC.2.1 dX1_tidy_54 ?_
      refine lv_istore (lv' := [(6, .int ((nI ((12 * w) + (tdN (wd w) k).length)) - (nI 1))), (5, .int (nI ((wd w).getD k 0))), (0, .ref hm), (1, .int (nI w)), (2, .ref y), (3, .int (nI (wd w).length)), (4, .int (nI k))]) hC.1 hC.2.1 dX1_tidy_55 hl (by decide) rfl (fun ls hl => ?_)
      refine lv_aload_n hC.1 hC.2.1 dX1_tidy_57 rfl (lv_at hl 2 rfl) ?_
      refine p_get (ref := "CornerCubeModel") hC hE hP hmm hem rfl (by decide +kernel) 5 (by decide) (by decide +kernel) rfl rfl dX1_tidy_58 ?_
      refine lv_iload_n hC.1 hC.2.1 dX1_tidy_61 rfl (lv_at hl 3 rfl) ?_
      refine p_iald hC hE hP hms hes (by omega) (by decide) dX1_tidy_62 ?_
      refine q_i (nI (tdN (wd w) k).length) (hsz2) ?_
      refine z_if_eq (tgt := 82) hC dX1_tidy_63 (by decide) (by omega) (fun h_63 => ?_) (fun h_63 => ?_)
      · refine lv_aload_n hC.1 hC.2.1 dX1_tidy_82 rfl (lv_at hl 2 rfl) ?_
        refine lv_iload_n hC.1 hC.2.1 dX1_tidy_83 rfl (lv_at hl 3 rfl) ?_
        refine lv_iload hC.1 hC.2.1 dX1_tidy_84 (lv_at hl 1 rfl) ?_
        refine p_cvH (n := 2) (m_put l hY hMS hw (by rw [wset_same]; omega) ht9) hC hE hP hD hS (hmm) (hem) rfl gX1_tidy_X1_put rfl (by decide +kernel) rfl ⟨by decide, by decide⟩ ⟨by simp only [rD]; omega, by simp only [rD]; omega⟩ hl.1 (Nat.le_of_ble_eq_true rfl) dX1_tidy_86 rfl (fun o L3 f3 H locs hpost hP hD hS => ?_)
        obtain ⟨rfl, hLe, ⟨N3, V3, hY, hMS⟩, hF2⟩ := hpost
        rw [hLe] at hP hD
        have hgy1 := ((hF2 y hyL).2 hnhm hnsz hnwo hntr).trans hgy1
        have hF : FRM hm sz wo tr L f L2 f3 := fun a ha => ⟨(hF a ha).1, fun h1 h2 h3 h4 => ((hF2 a (hF a ha).1).2 h1 h2 h3 h4).trans ((hF a ha).2 h1 h2 h3 h4)⟩
        have hMS : MS N3 V3 (wset wd w (tdN (wd w) (k + 1))) := by rw [wset_wset, wset_same] at hMS; rw [show tdN (wd w) (k + 1) = tdN (wd w) k ++ [(wd w).getD k 0] from if_pos (Or.inl h_63)]; exact hMS
        refine lv_goto (tgt := 143) hC.1 hC.2.1 dX1_tidy_89 (by decide) ?_
        refine lv_iinc (v := nI (k + 1)) (lv' := [(4, .int (nI (k + 1))), (6, .int ((nI ((12 * w) + (tdN (wd w) k).length)) - (nI 1))), (5, .int (nI ((wd w).getD k 0))), (0, .ref hm), (1, .int (nI w)), (2, .ref y), (3, .int (nI (wd w).length))]) hC.1 hC.2.1 dX1_tidy_143 hl (k := 6) rfl (z_inc _) (by decide) rfl (fun ls hl => ?_)
        refine lv_goto (tgt := 30) hC.1 hC.2.1 dX1_tidy_146 (by decide) ?_
        exact ih (k + 1) _ _ _ _ _ (by omega) hY hMS hF hgy1 hP hD hS ls (lv_sub hl [3, 4, 5, 6, 0] rfl)
      · have e6 : nI (12 * w + (tdN (wd w) k).length) - nI 1 = nI (12 * w + ((tdN (wd w) k).length - 1)) := (pk_sub (by omega)).trans (by rw [show 12 * w + (tdN (wd w) k).length - 1 = 12 * w + ((tdN (wd w) k).length - 1) from by omega])
        rw [e6] at hl
        have hrd : V1 (12 * w + ((tdN (wd w) k).length - 1)) = nI ((tdN (wd w) k).getD ((tdN (wd w) k).length - 1) 0) := by have h9 := ((hMS w hw).2.2 ((tdN (wd w) k).length - 1) (by rw [wset_same]; omega)).1; rw [wset_same] at h9; exact h9
        have hac9 : ((tdN (wd w) k).getD ((tdN (wd w) k).length - 1) 0) < 9 := tdN_9 hw9 k (by omega) _ (by omega)
        refine lv_aload_n hC.1 hC.2.1 dX1_tidy_66 rfl (lv_at hl 2 rfl) ?_
        refine p_get (ref := "CornerCubeModel") hC hE hP hmm hem rfl (by decide +kernel) 6 (by decide) (by decide +kernel) rfl rfl dX1_tidy_67 ?_
        refine lv_iload hC.1 hC.2.1 dX1_tidy_70 (lv_at hl 0 rfl) ?_
        refine p_iald hC hE hP hmw hew (by omega) (by decide) dX1_tidy_72 ?_
        refine q_i (nI ((tdN (wd w) k).getD ((tdN (wd w) k).length - 1) 0)) (hrd) ?_
        refine lv_iconst (v := (nI 3)) hC.1 hC.2.1 dX1_tidy_73 (by decide) ?_
        refine z_idiv hC dX1_tidy_74 (by omega) (by decide) (by decide) ?_
        refine lv_iload hC.1 hC.2.1 dX1_tidy_75 (lv_at hl 1 rfl) ?_
        refine lv_iconst (v := (nI 3)) hC.1 hC.2.1 dX1_tidy_77 (by decide) ?_
        refine z_idiv hC dX1_tidy_78 (by omega) (by decide) (by decide) ?_
        refine z_icmp_eq (tgt := 92) hC dX1_tidy_79 (by decide) (by omega) (by omega) (fun h_79 => ?_) (fun h_79 => ?_)
        · refine lv_aload_n hC.1 hC.2.1 dX1_tidy_92 rfl (lv_at hl 2 rfl) ?_
          refine p_get (ref := "CornerCubeModel") hC hE hP hmm hem rfl (by decide +kernel) 6 (by decide) (by decide +kernel) rfl rfl dX1_tidy_93 ?_
          refine lv_iload hC.1 hC.2.1 dX1_tidy_96 (lv_at hl 0 rfl) ?_
          refine p_iald hC hE hP hmw hew (by omega) (by decide) dX1_tidy_98 ?_
          refine q_i (nI ((tdN (wd w) k).getD ((tdN (wd w) k).length - 1) 0)) (hrd) ?_
          refine lv_iconst (v := (nI 3)) hC.1 hC.2.1 dX1_tidy_99 (by decide) ?_
          refine z_irem hC dX1_tidy_100 (by omega) (by decide) (by decide) ?_
          refine lv_iload hC.1 hC.2.1 dX1_tidy_101 (lv_at hl 1 rfl) ?_
          refine lv_iconst (v := (nI 3)) hC.1 hC.2.1 dX1_tidy_103 (by decide) ?_
          refine z_irem hC dX1_tidy_104 (by omega) (by decide) (by decide) ?_
          refine z_iadd hC dX1_tidy_105 ?_
          refine lv_iconst (v := (nI 2)) hC.1 hC.2.1 dX1_tidy_106 (by decide) ?_
          refine z_iadd hC dX1_tidy_107 ?_
          refine lv_iconst (v := (nI 4)) hC.1 hC.2.1 dX1_tidy_108 (by decide) ?_
          refine z_irem hC dX1_tidy_109 (by omega) (by decide) (by decide) ?_
          refine q_i (nI ((((tdN (wd w) k).getD ((tdN (wd w) k).length - 1) 0) % 3 + 1 + ((wd w).getD k 0 % 3 + 1)) % 4)) (congrArg nI (by omega)) ?_
          refine lv_istore (lv' := [(7, .int (nI ((((tdN (wd w) k).getD ((tdN (wd w) k).length - 1) 0) % 3 + 1 + ((wd w).getD k 0 % 3 + 1)) % 4))), (6, .int (nI (12 * w + ((tdN (wd w) k).length - 1)))), (5, .int (nI ((wd w).getD k 0))), (0, .ref hm), (1, .int (nI w)), (2, .ref y), (3, .int (nI (wd w).length)), (4, .int (nI k))]) hC.1 hC.2.1 dX1_tidy_110 hl (by decide) rfl (fun ls hl => ?_)
          refine lv_aload_n hC.1 hC.2.1 dX1_tidy_112 rfl (lv_at hl 3 rfl) ?_
          refine p_get (ref := "CornerCubeModel") hC hE hP hmm hem rfl (by decide +kernel) 5 (by decide) (by decide +kernel) rfl rfl dX1_tidy_113 ?_
          refine lv_iload_n hC.1 hC.2.1 dX1_tidy_116 rfl (lv_at hl 4 rfl) ?_
          refine lv_dup2_11 hC.1 hC.2.1 dX1_tidy_117 rfl rfl ?_
          refine p_iald hC hE hP hms hes (by omega) (by decide) dX1_tidy_118 ?_
          refine q_i (nI (tdN (wd w) k).length) (hsz2) ?_
          refine lv_iconst (v := (nI 1)) hC.1 hC.2.1 dX1_tidy_119 (by decide) ?_
          refine z_isub hC dX1_tidy_120 (by omega) ?_
          refine p_iast hC hE hP hD hS hms hes (by omega) (by decide) dX1_tidy_121 (fun H locs hP hD hS => ?_)
          have hY := hY.put_sz (upd N1 w (nI ((tdN (wd w) k).length - 1)))
          have hF := hF.put_sz (e := eI T.1 5 (upd N1 w (nI ((tdN (wd w) k).length - 1))))
          have hgy1 := (va_up_ne _ (eI T.1 5 (upd N1 w (nI ((tdN (wd w) k).length - 1)))) hnsz).trans hgy1
          have hMS : MS (upd N1 w (nI ((tdN (wd w) k).length - 1))) V1 (wset wd w ((tdN (wd w) k).dropLast)) := by have h9 := hMS.put w ((tdN (wd w) k).dropLast) (N' := upd N1 w (nI ((tdN (wd w) k).length - 1))) (V' := V1) (fun v h => upd_n h) (fun v k hv h hk => rfl) (by rw [upd_s, List.length_dropLast]) (by rw [List.length_dropLast]; omega) (fun i hi => by rw [List.length_dropLast] at hi; have h8 := (hMS w hw).2.2 i (by rw [wset_same]; omega); rw [wset_same] at h8; rw [gd_dl hi]; exact h8); rw [wset_wset] at h9; exact h9
          obtain ⟨⟨hmm, hem⟩, ⟨hmc, gc, hec, hRc⟩, ⟨hmr, Gr, her, hGr⟩, hrr, ⟨hmt, Gt, het, hGt⟩, htr, hnt, ⟨hms, hes⟩, ⟨hmw, hew⟩⟩ := id hY
          refine lv_iload hC.1 hC.2.1 dX1_tidy_122 (lv_at hl 0 rfl) ?_
          refine z_if_le (tgt := 143) hC dX1_tidy_124 (by decide) (by omega) (fun h_124 => ?_) (fun h_124 => ?_)
          · have hMS : MS (upd N1 w (nI ((tdN (wd w) k).length - 1))) V1 (wset wd w (tdN (wd w) (k + 1))) := by rw [show tdN (wd w) (k + 1) = ((tdN (wd w) k).dropLast) from (if_neg (fun h => h.elim h_63 (fun h => h h_79))).trans (if_pos h_124)]; exact hMS
            refine lv_iinc (v := nI (k + 1)) (lv' := [(4, .int (nI (k + 1))), (7, .int (nI ((((tdN (wd w) k).getD ((tdN (wd w) k).length - 1) 0) % 3 + 1 + ((wd w).getD k 0 % 3 + 1)) % 4))), (6, .int (nI (12 * w + ((tdN (wd w) k).length - 1)))), (5, .int (nI ((wd w).getD k 0))), (0, .ref hm), (1, .int (nI w)), (2, .ref y), (3, .int (nI (wd w).length))]) hC.1 hC.2.1 dX1_tidy_143 hl (k := 7) rfl (z_inc _) (by decide) rfl (fun ls hl => ?_)
            refine lv_goto (tgt := 30) hC.1 hC.2.1 dX1_tidy_146 (by decide) ?_
            exact ih (k + 1) _ _ _ _ _ (by omega) hY hMS hF hgy1 hP hD hS ls (lv_sub hl [4, 5, 6, 7, 0] rfl)
          · refine lv_aload_n hC.1 hC.2.1 dX1_tidy_127 rfl (lv_at hl 3 rfl) ?_
            refine lv_iload_n hC.1 hC.2.1 dX1_tidy_128 rfl (lv_at hl 4 rfl) ?_
            refine lv_iload hC.1 hC.2.1 dX1_tidy_129 (lv_at hl 2 rfl) ?_
            refine lv_iconst (v := (nI 3)) hC.1 hC.2.1 dX1_tidy_131 (by decide) ?_
            refine z_idiv hC dX1_tidy_132 (by omega) (by decide) (by decide) ?_
            refine lv_iconst (v := (nI 3)) hC.1 hC.2.1 dX1_tidy_133 (by decide) ?_
            refine z_imul hC dX1_tidy_134 ?_
            refine lv_iload hC.1 hC.2.1 dX1_tidy_135 (lv_at hl 0 rfl) ?_
            refine z_iadd hC dX1_tidy_137 ?_
            refine lv_iconst (v := (nI 1)) hC.1 hC.2.1 dX1_tidy_138 (by decide) ?_
            refine z_isub hC dX1_tidy_139 (by omega) ?_
            refine q_i (nI (3 * (((wd w).getD k 0) / 3) + ((((tdN (wd w) k).getD ((tdN (wd w) k).length - 1) 0) % 3 + 1 + ((wd w).getD k 0 % 3 + 1)) % 4) - 1)) (congrArg nI (by omega)) ?_
            refine p_cvH (n := 2) (m_put l hY hMS hw (by rw [wset_same, List.length_dropLast]; omega) (t := 3 * (((wd w).getD k 0) / 3) + ((((tdN (wd w) k).getD ((tdN (wd w) k).length - 1) 0) % 3 + 1 + ((wd w).getD k 0 % 3 + 1)) % 4) - 1) (by omega)) hC hE hP hD hS (hmm) (hem) rfl gX1_tidy_X1_put rfl (by decide +kernel) rfl ⟨by decide, by decide⟩ ⟨by simp only [rD]; omega, by simp only [rD]; omega⟩ hl.1 (Nat.le_of_ble_eq_true rfl) dX1_tidy_140 rfl (fun o L3 f3 H locs hpost hP hD hS => ?_)
            obtain ⟨rfl, hLe, ⟨N3, V3, hY, hMS⟩, hF2⟩ := hpost
            rw [hLe] at hP hD
            have hgy1 := ((hF2 y hyL).2 hnhm hnsz hnwo hntr).trans hgy1
            have hF : FRM hm sz wo tr L f L2 f3 := fun a ha => ⟨(hF a ha).1, fun h1 h2 h3 h4 => ((hF2 a (hF a ha).1).2 h1 h2 h3 h4).trans ((hF a ha).2 h1 h2 h3 h4)⟩
            have hMS : MS N3 V3 (wset wd w (tdN (wd w) (k + 1))) := by rw [wset_wset, wset_same] at hMS; rw [show tdN (wd w) (k + 1) = ((tdN (wd w) k).dropLast) ++ [3 * (((wd w).getD k 0) / 3) + ((((tdN (wd w) k).getD ((tdN (wd w) k).length - 1) 0) % 3 + 1 + ((wd w).getD k 0 % 3 + 1)) % 4) - 1] from (if_neg (fun h => h.elim h_63 (fun h => h h_79))).trans (if_neg (by omega))]; exact hMS
            refine lv_iinc (v := nI (k + 1)) (lv' := [(4, .int (nI (k + 1))), (7, .int (nI ((((tdN (wd w) k).getD ((tdN (wd w) k).length - 1) 0) % 3 + 1 + ((wd w).getD k 0 % 3 + 1)) % 4))), (6, .int (nI (12 * w + ((tdN (wd w) k).length - 1)))), (5, .int (nI ((wd w).getD k 0))), (0, .ref hm), (1, .int (nI w)), (2, .ref y), (3, .int (nI (wd w).length))]) hC.1 hC.2.1 dX1_tidy_143 hl (k := 7) rfl (z_inc _) (by decide) rfl (fun ls hl => ?_)
            refine lv_goto (tgt := 30) hC.1 hC.2.1 dX1_tidy_146 (by decide) ?_
            exact ih (k + 1) _ _ _ _ _ (by omega) hY hMS hF hgy1 hP hD hS ls (lv_sub hl [4, 5, 6, 7, 0] rfl)
        · refine lv_aload_n hC.1 hC.2.1 dX1_tidy_82 rfl (lv_at hl 2 rfl) ?_
          refine lv_iload_n hC.1 hC.2.1 dX1_tidy_83 rfl (lv_at hl 3 rfl) ?_
          refine lv_iload hC.1 hC.2.1 dX1_tidy_84 (lv_at hl 1 rfl) ?_
          refine p_cvH (n := 2) (m_put l hY hMS hw (by rw [wset_same]; omega) ht9) hC hE hP hD hS (hmm) (hem) rfl gX1_tidy_X1_put rfl (by decide +kernel) rfl ⟨by decide, by decide⟩ ⟨by simp only [rD]; omega, by simp only [rD]; omega⟩ hl.1 (Nat.le_of_ble_eq_true rfl) dX1_tidy_86 rfl (fun o L3 f3 H locs hpost hP hD hS => ?_)
          obtain ⟨rfl, hLe, ⟨N3, V3, hY, hMS⟩, hF2⟩ := hpost
          rw [hLe] at hP hD
          have hgy1 := ((hF2 y hyL).2 hnhm hnsz hnwo hntr).trans hgy1
          have hF : FRM hm sz wo tr L f L2 f3 := fun a ha => ⟨(hF a ha).1, fun h1 h2 h3 h4 => ((hF2 a (hF a ha).1).2 h1 h2 h3 h4).trans ((hF a ha).2 h1 h2 h3 h4)⟩
          have hMS : MS N3 V3 (wset wd w (tdN (wd w) (k + 1))) := by rw [wset_wset, wset_same] at hMS; rw [show tdN (wd w) (k + 1) = tdN (wd w) k ++ [(wd w).getD k 0] from if_pos (Or.inr h_79)]; exact hMS
          refine lv_goto (tgt := 143) hC.1 hC.2.1 dX1_tidy_89 (by decide) ?_
          refine lv_iinc (v := nI (k + 1)) (lv' := [(4, .int (nI (k + 1))), (6, .int (nI (12 * w + ((tdN (wd w) k).length - 1)))), (5, .int (nI ((wd w).getD k 0))), (0, .ref hm), (1, .int (nI w)), (2, .ref y), (3, .int (nI (wd w).length))]) hC.1 hC.2.1 dX1_tidy_143 hl (k := 6) rfl (z_inc _) (by decide) rfl (fun ls hl => ?_)
          refine lv_goto (tgt := 30) hC.1 hC.2.1 dX1_tidy_146 (by decide) ?_
          exact ih (k + 1) _ _ _ _ _ (by omega) hY hMS hF hgy1 hP hD hS ls (lv_sub hl [3, 4, 5, 6, 0] rfl)
  refine lv_aload_n hC.1 hC.2.1 dX1_tidy_24 rfl (lv_at hl 0 rfl) ?_
  refine p_alen hC hE hP hyL hgy dX1_tidy_25 ?_
  refine lv_istore_n (lv' := [(3, .int (nI (wd w).length)), (2, .ref y), (0, .ref hm), (1, .int (nI w))]) hC.1 hC.2.1 dX1_tidy_26 rfl hl (by decide) rfl (fun ls hl => ?_)
  refine lv_iconst (v := (nI 0)) hC.1 hC.2.1 dX1_tidy_27 (by decide) ?_
  refine lv_istore (lv' := [(4, .int (nI 0)), (3, .int (nI (wd w).length)), (2, .ref y), (0, .ref hm), (1, .int (nI w))]) hC.1 hC.2.1 dX1_tidy_28 hl (by decide) rfl (fun ls hl => ?_)
  exact loop (wd w).length 0 _ _ _ _ _ (Nat.zero_add _) hY hMS2 hF hgy hP hD hS ls (lv_sub hl [3, 4, 2, 1, 0] rfl)

set_option maxHeartbeats 4000000 in
set_option maxRecDepth 100000 in
theorem mg_told (l : Launch) {D : va_G} {T : ClassId × ClassId × ClassId} {z0 : Nat} {L : List Nat} {f : Nat → va_E} {hm rs td sz wo : Nat} {rr tr : Nat → Nat} {cu : Nat} {th mk : Int32} {b : Nat → Nat} {wd : Nat → List Nat} (hZ : MZ T L f hm rs td sz wo rr tr cu th mk b wd) {q what : Nat} (hq : q < 8) (hw3 : what < 3) : HV l yX1_told wsX1_told (40) 0 0 D z0 (zPre D T z0 L f) [.ref hm, .int (nI q), .int (nI what)] (MPo T L f hm rs td sz wo rr tr cu (.int (nI (tV b q what))) (nI 0) mk b wd) := by
  refine HV.of (cc := cX1_told) (maxL := 3) (ret := (some .int)) (by decide) rfl (Nat.le_of_ble_eq_true rfl) ?_
  intro p e s m args below meth c hC hr hlk hin hB ls hl
  have hl : lv_has ls 3 [(0, .ref hm), (1, .int (nI q)), (2, .int (nI what))] := hl
  obtain ⟨hE, hP, hD⟩ := hB
  have hS : va_S (zA z0) s.heap s.heap [] := va_S.rf
  obtain ⟨Nn, V, hY, hvb, hMS⟩ := id hZ
  obtain ⟨⟨hmm, hem⟩, ⟨hmc, gc, hec, hRc⟩, ⟨hmr, Gr, her, hGr⟩, hrr, ⟨hmt, Gt, het, hGt⟩, htr, hnt, ⟨hms, hes⟩, ⟨hmw, hew⟩⟩ := id hY
  refine lv_aload_n hC.1 hC.2.1 dX1_told_0 rfl (lv_at hl 0 rfl) ?_
  refine lv_iconst (v := (nI 0)) hC.1 hC.2.1 dX1_told_1 (by decide) ?_
  refine p_put (ref := "CornerCubeModel") (ty0 := tyX1) hC hE hP hD hS hmm hem rfl (by decide +kernel) tyX1_ok nmX1 0 (by decide) (by decide +kernel) rfl rfl rfl rfl (Nat.le_of_ble_eq_true rfl) dX1_told_2 (fun H locs hP hD hS => ?_)
  have hY := hY.put_th (nI 0) mk
  have hF := (FRM.rf (hm := hm) (sz := sz) (wo := wo) (tr := tr) (L := L) (f := f)).put_hm (e := eO 1 [.int (nI 0), .int mk, .ref cu, .ref rs, .ref td, .ref sz, .ref wo])
  obtain ⟨⟨hmm, hem⟩, ⟨hmc, gc, hec, hRc⟩, ⟨hmr, Gr, her, hGr⟩, hrr, ⟨hmt, Gt, het, hGt⟩, htr, hnt, ⟨hms, hes⟩, ⟨hmw, hew⟩⟩ := id hY
  refine lv_iload_n hC.1 hC.2.1 dX1_told_5 rfl (lv_at hl 1 rfl) ?_
  refine lv_iconst (v := (nI 0)) hC.1 hC.2.1 dX1_told_6 (by decide) ?_
  refine lv_bipush (v := (nI 7)) hC.1 hC.2.1 dX1_told_7 (by decide) ?_
  refine p_cs (n := 3) (m_isIn_t l ((nI_leI (by omega) (by omega)).mpr (by omega)) ((nI_leI (by omega) (by omega)).mpr (by omega))) hC gX1_told_X1_isIn rfl (by decide +kernel) rfl ⟨by decide, by decide⟩ ⟨by simp only [rD]; omega, by simp only [rD]; omega⟩ hl.1 (Nat.le_of_ble_eq_true rfl) dX1_told_9 rfl ?_
  refine z_if_eq (tgt := 33) hC dX1_told_12 (by decide) (by omega) (fun h_12 => by omega) (fun h_12 => ?_)
  refine lv_iload_n hC.1 hC.2.1 dX1_told_15 rfl (lv_at hl 2 rfl) ?_
  refine lv_iconst (v := (nI 0)) hC.1 hC.2.1 dX1_told_16 (by decide) ?_
  refine lv_iconst (v := (nI 2)) hC.1 hC.2.1 dX1_told_17 (by decide) ?_
  refine p_cs (n := 3) (m_isIn_t l ((nI_leI (by omega) (by omega)).mpr (by omega)) ((nI_leI (by omega) (by omega)).mpr (by omega))) hC gX1_told_X1_isIn rfl (by decide +kernel) rfl ⟨by decide, by decide⟩ ⟨by simp only [rD]; omega, by simp only [rD]; omega⟩ hl.1 (Nat.le_of_ble_eq_true rfl) dX1_told_18 rfl ?_
  refine z_if_eq (tgt := 33) hC dX1_told_21 (by decide) (by omega) (fun h_21 => by omega) (fun h_21 => ?_)
  refine lv_aload_n hC.1 hC.2.1 dX1_told_24 rfl (lv_at hl 0 rfl) ?_
  refine lv_iload_n hC.1 hC.2.1 dX1_told_25 rfl (lv_at hl 1 rfl) ?_
  refine lv_iload_n hC.1 hC.2.1 dX1_told_26 rfl (lv_at hl 2 rfl) ?_
  refine p_cvB (n := 2) (m_placeTold l hY hvb hq hw3) hC hE hP hD hS (hmm) (hem) rfl gX1_told_X1_placeTold rfl (by decide +kernel) rfl ⟨by decide, by decide⟩ ⟨by simp only [rD]; omega, by simp only [rD]; omega⟩ hl.1 (Nat.le_of_ble_eq_true rfl) dX1_told_27 rfl ?_
  refine lv_goto (tgt := 38) hC.1 hC.2.1 dX1_told_30 (by decide) ?_
  exact HV.iret hC hr hlk hP hD hS (by omega) (by omega) dX1_told_38 (⟨rfl, cu, Or.inl rfl, ⟨_, _, hY, hvb, hMS⟩, hF⟩)

set_option maxHeartbeats 4000000 in
set_option maxRecDepth 100000 in
theorem mg_where (l : Launch) {D : va_G} {T : ClassId × ClassId × ClassId} {z0 : Nat} {L : List Nat} {f : Nat → va_E} {hm rs td sz wo : Nat} {rr tr : Nat → Nat} {cu : Nat} {th mk : Int32} {b : Nat → Nat} {wd : Nat → List Nat} (hZ : MZ T L f hm rs td sz wo rr tr cu th mk b wd) {v : Nat} (hv8 : v < 8) : HV l yX1_where wsX1_where (40) 1 16 D z0 (zPre D T z0 L f) [.ref hm, .int (nI v)] (MPo T L f hm rs td sz wo rr tr cu (.int (nI (iv b v % 8))) (nI 0) mk b wd) := by
  refine HV.of (cc := cX1_where) (maxL := 2) (ret := (some .int)) (by decide) rfl (Nat.le_of_ble_eq_true rfl) ?_
  intro p e s m args below meth c hC hr hlk hin hB ls hl
  have hl : lv_has ls 2 [(0, .ref hm), (1, .int (nI v))] := hl
  obtain ⟨hE, hP, hD⟩ := hB
  have hS : va_S (zA z0) s.heap s.heap [] := va_S.rf
  obtain ⟨Nn, V, hY, hvb, hMS⟩ := id hZ
  obtain ⟨⟨hmm, hem⟩, ⟨hmc, gc, hec, hRc⟩, ⟨hmr, Gr, her, hGr⟩, hrr, ⟨hmt, Gt, het, hGt⟩, htr, hnt, ⟨hms, hes⟩, ⟨hmw, hew⟩⟩ := id hY
  refine lv_aload_n hC.1 hC.2.1 dX1_where_0 rfl (lv_at hl 0 rfl) ?_
  refine lv_iconst (v := (nI 0)) hC.1 hC.2.1 dX1_where_1 (by decide) ?_
  refine p_put (ref := "CornerCubeModel") (ty0 := tyX1) hC hE hP hD hS hmm hem rfl (by decide +kernel) tyX1_ok nmX1 0 (by decide) (by decide +kernel) rfl rfl rfl rfl (Nat.le_of_ble_eq_true rfl) dX1_where_2 (fun H locs hP hD hS => ?_)
  have hY := hY.put_th (nI 0) mk
  have hF := (FRM.rf (hm := hm) (sz := sz) (wo := wo) (tr := tr) (L := L) (f := f)).put_hm (e := eO 1 [.int (nI 0), .int mk, .ref cu, .ref rs, .ref td, .ref sz, .ref wo])
  obtain ⟨⟨hmm, hem⟩, ⟨hmc, gc, hec, hRc⟩, ⟨hmr, Gr, her, hGr⟩, hrr, ⟨hmt, Gt, het, hGt⟩, htr, hnt, ⟨hms, hes⟩, ⟨hmw, hew⟩⟩ := id hY
  refine lv_iload_n hC.1 hC.2.1 dX1_where_5 rfl (lv_at hl 1 rfl) ?_
  refine lv_iconst (v := (nI 0)) hC.1 hC.2.1 dX1_where_6 (by decide) ?_
  refine lv_bipush (v := (nI 7)) hC.1 hC.2.1 dX1_where_7 (by decide) ?_
  refine p_cs (n := 3) (m_isIn_t l ((nI_leI (by omega) (by omega)).mpr (by omega)) ((nI_leI (by omega) (by omega)).mpr (by omega))) hC gX1_where_X1_isIn rfl (by decide +kernel) rfl ⟨by decide, by decide⟩ ⟨by simp only [rD]; omega, by simp only [rD]; omega⟩ hl.1 (Nat.le_of_ble_eq_true rfl) dX1_where_9 rfl ?_
  refine z_if_eq (tgt := 27) hC dX1_where_12 (by decide) (by omega) (fun h_12 => by omega) (fun h_12 => ?_)
  refine lv_aload_n hC.1 hC.2.1 dX1_where_15 rfl (lv_at hl 0 rfl) ?_
  refine p_get (ref := "CornerCubeModel") hC hE hP hmm hem rfl (by decide +kernel) 2 (by decide) (by decide +kernel) rfl rfl dX1_where_16 ?_
  refine p_csH (n := 1) (m_back l hmc hec hRc hvb) hC hE hP hD hS gX1_where_X1_back rfl (by decide +kernel) rfl ⟨by decide, by decide⟩ ⟨by simp only [rD]; omega, by simp only [rD]; omega⟩ hl.1 (Nat.le_of_ble_eq_true rfl) dX1_where_19 rfl (fun o L2 f2 H locs hpost hP hD hS => ?_)
  obtain ⟨y, rfl, hq⟩ := hpost.get
  have hY := hY.keep hq.2.2.1
  have hF := hF.keep hq.2.2.1
  obtain ⟨⟨hmm, hem⟩, ⟨hmc, gc, hec, hRc⟩, ⟨hmr, Gr, her, hGr⟩, hrr, ⟨hmt, Gt, het, hGt⟩, htr, hnt, ⟨hms, hes⟩, ⟨hmw, hew⟩⟩ := id hY
  obtain ⟨g9, hg9, hR9⟩ := hq.2.2.2
  refine lv_iload_n hC.1 hC.2.1 dX1_where_22 rfl (lv_at hl 1 rfl) ?_
  refine p_iald hC hE hP hq.2.1 hg9 (by omega) (by decide) dX1_where_23 ?_
  refine q_i (nI (iv b v % 8)) ((hR9 v hv8).1) ?_
  refine lv_goto (tgt := 32) hC.1 hC.2.1 dX1_where_24 (by decide) ?_
  exact HV.iret hC hr hlk hP hD hS (by omega) (by omega) dX1_where_32 (⟨rfl, cu, Or.inl rfl, ⟨_, _, hY, hvb, hMS⟩, hF⟩)

set_option maxHeartbeats 4000000 in
set_option maxRecDepth 100000 in
theorem mg_count (l : Launch) {D : va_G} {T : ClassId × ClassId × ClassId} {z0 : Nat} {L : List Nat} {f : Nat → va_E} {hm rs td sz wo : Nat} {rr tr : Nat → Nat} {cu : Nat} {th mk : Int32} {b : Nat → Nat} {wd : Nat → List Nat} (hZ : MZ T L f hm rs td sz wo rr tr cu th mk b wd) (hG : GB b) {what : Nat} (hw7 : what < 7) : HV l yX1_count wsX1_count (40) 0 0 D z0 (zPre D T z0 L f) [.ref hm, .int (nI what)] (MPo T L f hm rs td sz wo rr tr cu (.int (cV b mk wd what)) (nI 0) mk b wd) := by
  refine HV.of (cc := cX1_count) (maxL := 2) (ret := (some .int)) (by decide) rfl (Nat.le_of_ble_eq_true rfl) ?_
  intro p e s m args below meth c hC hr hlk hin hB ls hl
  have hl : lv_has ls 2 [(0, .ref hm), (1, .int (nI what))] := hl
  obtain ⟨hE, hP, hD⟩ := hB
  have hS : va_S (zA z0) s.heap s.heap [] := va_S.rf
  obtain ⟨Nn, V, hY, hvb, hMS⟩ := id hZ
  obtain ⟨⟨hmm, hem⟩, ⟨hmc, gc, hec, hRc⟩, ⟨hmr, Gr, her, hGr⟩, hrr, ⟨hmt, Gt, het, hGt⟩, htr, hnt, ⟨hms, hes⟩, ⟨hmw, hew⟩⟩ := id hY
  refine lv_aload_n hC.1 hC.2.1 dX1_count_0 rfl (lv_at hl 0 rfl) ?_
  refine lv_iconst (v := (nI 0)) hC.1 hC.2.1 dX1_count_1 (by decide) ?_
  refine p_put (ref := "CornerCubeModel") (ty0 := tyX1) hC hE hP hD hS hmm hem rfl (by decide +kernel) tyX1_ok nmX1 0 (by decide) (by decide +kernel) rfl rfl rfl rfl (Nat.le_of_ble_eq_true rfl) dX1_count_2 (fun H locs hP hD hS => ?_)
  have hY := hY.put_th (nI 0) mk
  have hF := (FRM.rf (hm := hm) (sz := sz) (wo := wo) (tr := tr) (L := L) (f := f)).put_hm (e := eO 1 [.int (nI 0), .int mk, .ref cu, .ref rs, .ref td, .ref sz, .ref wo])
  obtain ⟨⟨hmm, hem⟩, ⟨hmc, gc, hec, hRc⟩, ⟨hmr, Gr, her, hGr⟩, hrr, ⟨hmt, Gt, het, hGt⟩, htr, hnt, ⟨hms, hes⟩, ⟨hmw, hew⟩⟩ := id hY
  refine lv_iload_n hC.1 hC.2.1 dX1_count_5 rfl (lv_at hl 1 rfl) ?_
  refine lv_iconst (v := (nI 0)) hC.1 hC.2.1 dX1_count_6 (by decide) ?_
  refine lv_bipush (v := (nI 6)) hC.1 hC.2.1 dX1_count_7 (by decide) ?_
  refine p_cs (n := 3) (m_isIn_t l ((nI_leI (by omega) (by omega)).mpr (by omega)) ((nI_leI (by omega) (by omega)).mpr (by omega))) hC gX1_count_X1_isIn rfl (by decide +kernel) rfl ⟨by decide, by decide⟩ ⟨by simp only [rD]; omega, by simp only [rD]; omega⟩ hl.1 (Nat.le_of_ble_eq_true rfl) dX1_count_9 rfl ?_
  refine z_if_eq (tgt := 23) hC dX1_count_12 (by decide) (by omega) (fun h_12 => by omega) (fun h_12 => ?_)
  refine lv_aload_n hC.1 hC.2.1 dX1_count_15 rfl (lv_at hl 0 rfl) ?_
  refine lv_iload_n hC.1 hC.2.1 dX1_count_16 rfl (lv_at hl 1 rfl) ?_
  refine p_cvB (n := 1) (m_counted l hY hMS hG hw7) hC hE hP hD hS (hmm) (hem) rfl gX1_count_X1_counted rfl (by decide +kernel) rfl ⟨by decide, by decide⟩ ⟨by simp only [rD]; omega, by simp only [rD]; omega⟩ hl.1 (Nat.le_of_ble_eq_true rfl) dX1_count_17 rfl ?_
  refine lv_goto (tgt := 28) hC.1 hC.2.1 dX1_count_20 (by decide) ?_
  exact HV.iret hC hr hlk hP hD hS (by omega) (by omega) dX1_count_28 (⟨rfl, cu, Or.inl rfl, ⟨_, _, hY, hvb, hMS⟩, hF⟩)

set_option maxHeartbeats 4000000 in
set_option maxRecDepth 100000 in
theorem mg_word (l : Launch) {D : va_G} {T : ClassId × ClassId × ClassId} {z0 : Nat} {L : List Nat} {f : Nat → va_E} {hm rs td sz wo : Nat} {rr tr : Nat → Nat} {cu : Nat} {th mk : Int32} {b : Nat → Nat} {wd : Nat → List Nat} (hZ : MZ T L f hm rs td sz wo rr tr cu th mk b wd) {w : Nat} (hw : w < 5) (hG : GB (deed (wd w))) {what : Nat} (hw4 : what < 4) : HV l yX1_word wsX1_word (40) 13 208 D z0 (zPre D T z0 L f) [.ref hm, .int (nI w), .int (nI what)] (MPo T L f hm rs td sz wo rr tr cu (.int (nI (wV (wd w) what))) (nI 0) mk b wd) := by
  refine HV.of (cc := cX1_word) (maxL := 3) (ret := (some .int)) (by decide) rfl (Nat.le_of_ble_eq_true rfl) ?_
  intro p e s m args below meth c hC hr hlk hin hB ls hl
  have hl : lv_has ls 3 [(0, .ref hm), (1, .int (nI w)), (2, .int (nI what))] := hl
  obtain ⟨hE, hP, hD⟩ := hB
  have hS : va_S (zA z0) s.heap s.heap [] := va_S.rf
  obtain ⟨Nn, V, hY, hvb, hMS⟩ := id hZ
  obtain ⟨⟨hmm, hem⟩, ⟨hmc, gc, hec, hRc⟩, ⟨hmr, Gr, her, hGr⟩, hrr, ⟨hmt, Gt, het, hGt⟩, htr, hnt, ⟨hms, hes⟩, ⟨hmw, hew⟩⟩ := id hY
  refine lv_aload_n hC.1 hC.2.1 dX1_word_0 rfl (lv_at hl 0 rfl) ?_
  refine lv_iconst (v := (nI 0)) hC.1 hC.2.1 dX1_word_1 (by decide) ?_
  refine p_put (ref := "CornerCubeModel") (ty0 := tyX1) hC hE hP hD hS hmm hem rfl (by decide +kernel) tyX1_ok nmX1 0 (by decide) (by decide +kernel) rfl rfl rfl rfl (Nat.le_of_ble_eq_true rfl) dX1_word_2 (fun H locs hP hD hS => ?_)
  have hY := hY.put_th (nI 0) mk
  have hF := (FRM.rf (hm := hm) (sz := sz) (wo := wo) (tr := tr) (L := L) (f := f)).put_hm (e := eO 1 [.int (nI 0), .int mk, .ref cu, .ref rs, .ref td, .ref sz, .ref wo])
  obtain ⟨⟨hmm, hem⟩, ⟨hmc, gc, hec, hRc⟩, ⟨hmr, Gr, her, hGr⟩, hrr, ⟨hmt, Gt, het, hGt⟩, htr, hnt, ⟨hms, hes⟩, ⟨hmw, hew⟩⟩ := id hY
  refine lv_iload_n hC.1 hC.2.1 dX1_word_5 rfl (lv_at hl 1 rfl) ?_
  refine p_cs (n := 1) (m_isWord_t l ((nI_leI (by omega) (by omega)).mpr (by omega)) ((nI_leI (by omega) (by omega)).mpr (by omega))) hC gX1_word_X1_isWord rfl (by decide +kernel) rfl ⟨by decide, by decide⟩ ⟨by simp only [rD]; omega, by simp only [rD]; omega⟩ hl.1 (Nat.le_of_ble_eq_true rfl) dX1_word_6 rfl ?_
  refine z_if_eq (tgt := 30) hC dX1_word_9 (by decide) (by omega) (fun h_9 => by omega) (fun h_9 => ?_)
  refine lv_iload_n hC.1 hC.2.1 dX1_word_12 rfl (lv_at hl 2 rfl) ?_
  refine lv_iconst (v := (nI 0)) hC.1 hC.2.1 dX1_word_13 (by decide) ?_
  refine lv_iconst (v := (nI 3)) hC.1 hC.2.1 dX1_word_14 (by decide) ?_
  refine p_cs (n := 3) (m_isIn_t l ((nI_leI (by omega) (by omega)).mpr (by omega)) ((nI_leI (by omega) (by omega)).mpr (by omega))) hC gX1_word_X1_isIn rfl (by decide +kernel) rfl ⟨by decide, by decide⟩ ⟨by simp only [rD]; omega, by simp only [rD]; omega⟩ hl.1 (Nat.le_of_ble_eq_true rfl) dX1_word_15 rfl ?_
  refine z_if_eq (tgt := 30) hC dX1_word_18 (by decide) (by omega) (fun h_18 => by omega) (fun h_18 => ?_)
  refine lv_aload_n hC.1 hC.2.1 dX1_word_21 rfl (lv_at hl 0 rfl) ?_
  refine lv_iload_n hC.1 hC.2.1 dX1_word_22 rfl (lv_at hl 1 rfl) ?_
  refine lv_iload_n hC.1 hC.2.1 dX1_word_23 rfl (lv_at hl 2 rfl) ?_
  refine p_cvH (n := 2) (m_wordTold l hY hMS hw hG hw4) hC hE hP hD hS (hmm) (hem) rfl gX1_word_X1_wordTold rfl (by decide +kernel) rfl ⟨by decide, by decide⟩ ⟨by simp only [rD]; omega, by simp only [rD]; omega⟩ hl.1 (Nat.le_of_ble_eq_true rfl) dX1_word_24 rfl (fun o L2 f2 H locs hpost hP hD hS => ?_)
  obtain ⟨rfl, hkp⟩ := hpost
  have hY := hY.keep hkp
  have hF := hF.keep hkp
  obtain ⟨⟨hmm, hem⟩, ⟨hmc, gc, hec, hRc⟩, ⟨hmr, Gr, her, hGr⟩, hrr, ⟨hmt, Gt, het, hGt⟩, htr, hnt, ⟨hms, hes⟩, ⟨hmw, hew⟩⟩ := id hY
  refine lv_goto (tgt := 35) hC.1 hC.2.1 dX1_word_27 (by decide) ?_
  exact HV.iret hC hr hlk hP hD hS (by omega) (by omega) dX1_word_35 (⟨rfl, cu, Or.inl rfl, ⟨_, _, hY, hvb, hMS⟩, hF⟩)

set_option maxHeartbeats 4000000 in
set_option maxRecDepth 100000 in
theorem mg_at (l : Launch) {D : va_G} {T : ClassId × ClassId × ClassId} {z0 : Nat} {L : List Nat} {f : Nat → va_E} {hm rs td sz wo : Nat} {rr tr : Nat → Nat} {cu : Nat} {th mk : Int32} {b : Nat → Nat} {wd : Nat → List Nat} (hZ : MZ T L f hm rs td sz wo rr tr cu th mk b wd) {w k : Nat} (hw : w < 5) (hk : k < (wd w).length) : HV l yX1_at wsX1_at (40) 0 0 D z0 (zPre D T z0 L f) [.ref hm, .int (nI w), .int (nI k)] (MPo T L f hm rs td sz wo rr tr cu (.int (nI ((wd w).getD k 0))) (nI 0) mk b wd) := by
  refine HV.of (cc := cX1_at) (maxL := 3) (ret := (some .int)) (by decide) rfl (Nat.le_of_ble_eq_true rfl) ?_
  intro p e s m args below meth c hC hr hlk hin hB ls hl
  have hl : lv_has ls 3 [(0, .ref hm), (1, .int (nI w)), (2, .int (nI k))] := hl
  obtain ⟨hE, hP, hD⟩ := hB
  have hS : va_S (zA z0) s.heap s.heap [] := va_S.rf
  obtain ⟨Nn, V, hY, hvb, hMS⟩ := id hZ
  obtain ⟨⟨hmm, hem⟩, ⟨hmc, gc, hec, hRc⟩, ⟨hmr, Gr, her, hGr⟩, hrr, ⟨hmt, Gt, het, hGt⟩, htr, hnt, ⟨hms, hes⟩, ⟨hmw, hew⟩⟩ := id hY
  have hl12 := (hMS w hw).2.1
  refine lv_aload_n hC.1 hC.2.1 dX1_at_0 rfl (lv_at hl 0 rfl) ?_
  refine lv_iconst (v := (nI 0)) hC.1 hC.2.1 dX1_at_1 (by decide) ?_
  refine p_put (ref := "CornerCubeModel") (ty0 := tyX1) hC hE hP hD hS hmm hem rfl (by decide +kernel) tyX1_ok nmX1 0 (by decide) (by decide +kernel) rfl rfl rfl rfl (Nat.le_of_ble_eq_true rfl) dX1_at_2 (fun H locs hP hD hS => ?_)
  have hY := hY.put_th (nI 0) mk
  have hF := (FRM.rf (hm := hm) (sz := sz) (wo := wo) (tr := tr) (L := L) (f := f)).put_hm (e := eO 1 [.int (nI 0), .int mk, .ref cu, .ref rs, .ref td, .ref sz, .ref wo])
  obtain ⟨⟨hmm, hem⟩, ⟨hmc, gc, hec, hRc⟩, ⟨hmr, Gr, her, hGr⟩, hrr, ⟨hmt, Gt, het, hGt⟩, htr, hnt, ⟨hms, hes⟩, ⟨hmw, hew⟩⟩ := id hY
  refine lv_iload_n hC.1 hC.2.1 dX1_at_5 rfl (lv_at hl 1 rfl) ?_
  refine p_cs (n := 1) (m_isWord_t l ((nI_leI (by omega) (by omega)).mpr (by omega)) ((nI_leI (by omega) (by omega)).mpr (by omega))) hC gX1_at_X1_isWord rfl (by decide +kernel) rfl ⟨by decide, by decide⟩ ⟨by simp only [rD]; omega, by simp only [rD]; omega⟩ hl.1 (Nat.le_of_ble_eq_true rfl) dX1_at_6 rfl ?_
  refine z_if_eq (tgt := 42) hC dX1_at_9 (by decide) (by omega) (fun h_9 => by omega) (fun h_9 => ?_)
  refine lv_iload_n hC.1 hC.2.1 dX1_at_12 rfl (lv_at hl 2 rfl) ?_
  refine lv_iconst (v := (nI 0)) hC.1 hC.2.1 dX1_at_13 (by decide) ?_
  refine lv_aload_n hC.1 hC.2.1 dX1_at_14 rfl (lv_at hl 0 rfl) ?_
  refine p_get (ref := "CornerCubeModel") hC hE hP hmm hem rfl (by decide +kernel) 5 (by decide) (by decide +kernel) rfl rfl dX1_at_15 ?_
  refine lv_iload_n hC.1 hC.2.1 dX1_at_18 rfl (lv_at hl 1 rfl) ?_
  refine p_iald hC hE hP hms hes (by omega) (by decide) dX1_at_19 ?_
  refine q_i (nI (wd w).length) ((hMS _ (by omega)).1) ?_
  refine lv_iconst (v := (nI 1)) hC.1 hC.2.1 dX1_at_20 (by decide) ?_
  refine lv_isub hC.1 hC.2.1 dX1_at_21 ?_
  refine p_cs (n := 3) (m_isIn_t l ((nI_leI (by omega) (by omega)).mpr (by omega)) (le_m1_of (by omega) hk)) hC gX1_at_X1_isIn rfl (by decide +kernel) rfl ⟨by decide, by decide⟩ ⟨by simp only [rD]; omega, by simp only [rD]; omega⟩ hl.1 (Nat.le_of_ble_eq_true rfl) dX1_at_22 rfl ?_
  refine z_if_eq (tgt := 42) hC dX1_at_25 (by decide) (by omega) (fun h_25 => by omega) (fun h_25 => ?_)
  refine lv_aload_n hC.1 hC.2.1 dX1_at_28 rfl (lv_at hl 0 rfl) ?_
  refine p_get (ref := "CornerCubeModel") hC hE hP hmm hem rfl (by decide +kernel) 6 (by decide) (by decide +kernel) rfl rfl dX1_at_29 ?_
  refine lv_bipush (v := (nI 12)) hC.1 hC.2.1 dX1_at_32 (by decide) ?_
  refine lv_iload_n hC.1 hC.2.1 dX1_at_34 rfl (lv_at hl 1 rfl) ?_
  refine z_imul hC dX1_at_35 ?_
  refine lv_iload_n hC.1 hC.2.1 dX1_at_36 rfl (lv_at hl 2 rfl) ?_
  refine z_iadd hC dX1_at_37 ?_
  refine p_iald hC hE hP hmw hew (by omega) (by decide) dX1_at_38 ?_
  refine q_i (nI ((wd w).getD k 0)) (((hMS w hw).2.2 k hk).1) ?_
  refine lv_goto (tgt := 47) hC.1 hC.2.1 dX1_at_39 (by decide) ?_
  exact HV.iret hC hr hlk hP hD hS (by omega) (by omega) dX1_at_47 (⟨rfl, cu, Or.inl rfl, ⟨_, _, hY, hvb, hMS⟩, hF⟩)
