/-! MY ROWS 22: the reference's public methods where they answer (laid by a program of mine) -/
theorem wset_id (wd : Nat → List Nat) (w : Nat) : wset wd w (wd w) = wd := by
  funext x
  unfold wset
  split
  · rename_i h; rw [h]
  · rfl
set_option maxHeartbeats 4000000 in
set_option maxRecDepth 100000 in
theorem mg_turn (l : Launch) {D : va_G} {T : ClassId × ClassId × ClassId} {z0 : Nat} {L : List Nat} {f : Nat → va_E} {hm rs td sz wo : Nat} {rr tr : Nat → Nat} {cu : Nat} {th mk : Int32} {b : Nat → Nat} {wd : Nat → List Nat} (hZ : MZ T L f hm rs td sz wo rr tr cu th mk b wd) {fc q : Nat} (hf : fc < 3) (h1 : 1 ≤ q) (hq4 : q < 4) : HV l yX1_turn wsX1_turn (40) 1 16 D z0 (zPre D T z0 L f) [.ref hm, .int (nI fc), .int (nI q)] (MPo T L f hm rs td sz wo rr tr cu (.int (nI (nRt (turnC b (3 * fc + q - 1))))) (nI 0) (mk + nI 1) (turnC b (3 * fc + q - 1)) wd) := by
  refine HV.of (cc := cX1_turn) (maxL := 3) (ret := (some .int)) (by decide) rfl (Nat.le_of_ble_eq_true rfl) ?_
  intro p e s m args below meth c hC hr hlk hin hB ls hl
  have hl : lv_has ls 3 [(0, .ref hm), (1, .int (nI fc)), (2, .int (nI q))] := hl
  obtain ⟨hE, hP, hD⟩ := hB
  have hS : va_S (zA z0) s.heap s.heap [] := va_S.rf
  obtain ⟨Nn, V, hY, hvb, hMS⟩ := id hZ
  obtain ⟨⟨hmm, hem⟩, ⟨hmc, gc, hec, hRc⟩, ⟨hmr, Gr, her, hGr⟩, hrr, ⟨hmt, Gt, het, hGt⟩, htr, hnt, ⟨hms, hes⟩, ⟨hmw, hew⟩⟩ := id hY
  refine lv_aload_n hC.1 hC.2.1 dX1_turn_0 rfl (lv_at hl 0 rfl) ?_
  refine lv_iconst (v := (nI 0)) hC.1 hC.2.1 dX1_turn_1 (by decide) ?_
  refine p_put (ref := "CornerCubeModel") (ty0 := tyX1) hC hE hP hD hS hmm hem rfl (by decide +kernel) tyX1_ok nmX1 0 (by decide) (by decide +kernel) rfl rfl rfl rfl (Nat.le_of_ble_eq_true rfl) dX1_turn_2 (fun H locs hP hD hS => ?_)
  have hY := hY.put_th (nI 0) mk
  have hF := (FRM.rf (hm := hm) (sz := sz) (wo := wo) (tr := tr) (L := L) (f := f)).put_hm (e := eO 1 [.int (nI 0), .int mk, .ref cu, .ref rs, .ref td, .ref sz, .ref wo])
  obtain ⟨⟨hmm, hem⟩, ⟨hmc, gc, hec, hRc⟩, ⟨hmr, Gr, her, hGr⟩, hrr, ⟨hmt, Gt, het, hGt⟩, htr, hnt, ⟨hms, hes⟩, ⟨hmw, hew⟩⟩ := id hY
  refine lv_iload_n hC.1 hC.2.1 dX1_turn_5 rfl (lv_at hl 1 rfl) ?_
  refine lv_iconst (v := (nI 0)) hC.1 hC.2.1 dX1_turn_6 (by decide) ?_
  refine lv_iconst (v := (nI 2)) hC.1 hC.2.1 dX1_turn_7 (by decide) ?_
  refine p_cs (n := 3) (m_isIn_t l ((nI_leI (by omega) (by omega)).mpr (by omega)) ((nI_leI (by omega) (by omega)).mpr (by omega))) hC gX1_turn_X1_isIn rfl (by decide +kernel) rfl ⟨by decide, by decide⟩ ⟨by simp only [rD]; omega, by simp only [rD]; omega⟩ hl.1 (Nat.le_of_ble_eq_true rfl) dX1_turn_8 rfl ?_
  refine z_if_ne (tgt := 20) hC dX1_turn_11 (by decide) (by omega) (fun h_11 => ?_) (fun h_11 => by omega)
  refine lv_iload_n hC.1 hC.2.1 dX1_turn_20 rfl (lv_at hl 2 rfl) ?_
  refine lv_iconst (v := (nI 1)) hC.1 hC.2.1 dX1_turn_21 (by decide) ?_
  refine lv_iconst (v := (nI 3)) hC.1 hC.2.1 dX1_turn_22 (by decide) ?_
  refine p_cs (n := 3) (m_isIn_t l ((nI_leI (by omega) (by omega)).mpr (by omega)) ((nI_leI (by omega) (by omega)).mpr (by omega))) hC gX1_turn_X1_isIn rfl (by decide +kernel) rfl ⟨by decide, by decide⟩ ⟨by simp only [rD]; omega, by simp only [rD]; omega⟩ hl.1 (Nat.le_of_ble_eq_true rfl) dX1_turn_23 rfl ?_
  refine z_if_ne (tgt := 35) hC dX1_turn_26 (by decide) (by omega) (fun h_26 => ?_) (fun h_26 => by omega)
  refine lv_aload_n hC.1 hC.2.1 dX1_turn_35 rfl (lv_at hl 0 rfl) ?_
  refine lv_aload_n hC.1 hC.2.1 dX1_turn_36 rfl (lv_at hl 0 rfl) ?_
  refine lv_aload_n hC.1 hC.2.1 dX1_turn_37 rfl (lv_at hl 0 rfl) ?_
  refine p_get (ref := "CornerCubeModel") hC hE hP hmm hem rfl (by decide +kernel) 2 (by decide) (by decide +kernel) rfl rfl dX1_turn_38 ?_
  refine lv_iconst (v := (nI 3)) hC.1 hC.2.1 dX1_turn_41 (by decide) ?_
  refine lv_iload_n hC.1 hC.2.1 dX1_turn_42 rfl (lv_at hl 1 rfl) ?_
  refine z_imul hC dX1_turn_43 ?_
  refine lv_iload_n hC.1 hC.2.1 dX1_turn_44 rfl (lv_at hl 2 rfl) ?_
  refine z_iadd hC dX1_turn_45 ?_
  refine lv_iconst (v := (nI 1)) hC.1 hC.2.1 dX1_turn_46 (by decide) ?_
  refine z_isub hC dX1_turn_47 (by omega) ?_
  refine p_cvH (n := 2) (m_turned l hY hmc hec hRc hvb (t := 3 * fc + q - 1) (by omega)) hC hE hP hD hS (hmm) (hem) rfl gX1_turn_X1_turned rfl (by decide +kernel) rfl ⟨by decide, by decide⟩ ⟨by simp only [rD]; omega, by simp only [rD]; omega⟩ hl.1 (Nat.le_of_ble_eq_true rfl) dX1_turn_48 rfl (fun o L2 f2 H locs hpost hP hD hS => ?_)
  obtain ⟨y, rfl, hq⟩ := hpost.get
  have hyL : y ∉ L := fun h => hq.1 (hF y h).1
  have hcy : ∀ k, k < 6 → tr k ≠ y := fun k hk e => hq.1 (e ▸ (htr k hk).1)
  have hY := hY.keep hq.2.2.1
  have hF := hF.keep hq.2.2.1
  obtain ⟨⟨hmm, hem⟩, ⟨hmc, gc, hec, hRc⟩, ⟨hmr, Gr, her, hGr⟩, hrr, ⟨hmt, Gt, het, hGt⟩, htr, hnt, ⟨hms, hes⟩, ⟨hmw, hew⟩⟩ := id hY
  obtain ⟨g9, hg9, hR9⟩ := hq.2.2.2
  refine p_put (ref := "CornerCubeModel") (ty0 := tyX1) hC hE hP hD hS hmm hem rfl (by decide +kernel) tyX1_ok nmX1 2 (by decide) (by decide +kernel) rfl rfl rfl rfl (Nat.le_of_ble_eq_true rfl) dX1_turn_51 (fun H locs hP hD hS => ?_)
  have hY := hY.put_hm (nI 0) mk hq.2.1 hg9 hR9 hcy
  have hF := hF.put_hm (e := eO 1 [.int (nI 0), .int mk, .ref y, .ref rs, .ref td, .ref sz, .ref wo])
  obtain ⟨⟨hmm, hem⟩, ⟨hmc, gc, hec, hRc⟩, ⟨hmr, Gr, her, hGr⟩, hrr, ⟨hmt, Gt, het, hGt⟩, htr, hnt, ⟨hms, hes⟩, ⟨hmw, hew⟩⟩ := id hY
  refine lv_aload_n hC.1 hC.2.1 dX1_turn_54 rfl (lv_at hl 0 rfl) ?_
  refine lv_dup hC.1 hC.2.1 dX1_turn_55 rfl ?_
  refine p_get (ref := "CornerCubeModel") hC hE hP hmm hem rfl (by decide +kernel) 1 (by decide) (by decide +kernel) rfl rfl dX1_turn_56 ?_
  refine lv_iconst (v := (nI 1)) hC.1 hC.2.1 dX1_turn_59 (by decide) ?_
  refine lv_iadd hC.1 hC.2.1 dX1_turn_60 ?_
  refine p_put (ref := "CornerCubeModel") (ty0 := tyX1) hC hE hP hD hS hmm hem rfl (by decide +kernel) tyX1_ok nmX1 1 (by decide) (by decide +kernel) rfl rfl rfl rfl (Nat.le_of_ble_eq_true rfl) dX1_turn_61 (fun H locs hP hD hS => ?_)
  have hY := hY.put_th (nI 0) (mk + nI 1)
  have hF := hF.put_hm (e := eO 1 [.int (nI 0), .int (mk + nI 1), .ref y, .ref rs, .ref td, .ref sz, .ref wo])
  obtain ⟨⟨hmm, hem⟩, ⟨hmc, gc, hec, hRc⟩, ⟨hmr, Gr, her, hGr⟩, hrr, ⟨hmt, Gt, het, hGt⟩, htr, hnt, ⟨hms, hes⟩, ⟨hmw, hew⟩⟩ := id hY
  refine lv_aload_n hC.1 hC.2.1 dX1_turn_64 rfl (lv_at hl 0 rfl) ?_
  refine p_get (ref := "CornerCubeModel") hC hE hP hmm hem rfl (by decide +kernel) 2 (by decide) (by decide +kernel) rfl rfl dX1_turn_65 ?_
  refine lv_iconst (v := (nI 1)) hC.1 hC.2.1 dX1_turn_68 (by decide) ?_
  refine p_csB (n := 2) (m_many l hmc hec hRc (turnC_Va _ _) (what := 1) (by decide) (by decide)) hC hE hP hD hS gX1_turn_X1_many rfl (by decide +kernel) rfl ⟨by decide, by decide⟩ ⟨by simp only [rD]; omega, by simp only [rD]; omega⟩ hl.1 (Nat.le_of_ble_eq_true rfl) dX1_turn_69 rfl ?_
  refine q_i (nI (nRt (turnC b (3 * fc + q - 1)))) (by rw [many_1 (turnC_Va _ _)]) ?_
  exact HV.iret hC hr hlk hP hD hS (by omega) (by omega) dX1_turn_72 (⟨rfl, y, Or.inr hyL, ⟨_, _, hY, turnC_Va _ _, hMS⟩, hF⟩)

set_option maxHeartbeats 4000000 in
set_option maxRecDepth 100000 in
theorem mg_would (l : Launch) {D : va_G} {T : ClassId × ClassId × ClassId} {z0 : Nat} {L : List Nat} {f : Nat → va_E} {hm rs td sz wo : Nat} {rr tr : Nat → Nat} {cu : Nat} {th mk : Int32} {b : Nat → Nat} {wd : Nat → List Nat} (hZ : MZ T L f hm rs td sz wo rr tr cu th mk b wd) {fc q : Nat} (hf : fc < 3) (h1 : 1 ≤ q) (hq4 : q < 4) : HV l yX1_would wsX1_would (40) 1 16 D z0 (zPre D T z0 L f) [.ref hm, .int (nI fc), .int (nI q)] (MPo T L f hm rs td sz wo rr tr cu (.int (nI (nRt (turnC b (3 * fc + q - 1))))) (nI 0) mk b wd) := by
  refine HV.of (cc := cX1_would) (maxL := 3) (ret := (some .int)) (by decide) rfl (Nat.le_of_ble_eq_true rfl) ?_
  intro p e s m args below meth c hC hr hlk hin hB ls hl
  have hl : lv_has ls 3 [(0, .ref hm), (1, .int (nI fc)), (2, .int (nI q))] := hl
  obtain ⟨hE, hP, hD⟩ := hB
  have hS : va_S (zA z0) s.heap s.heap [] := va_S.rf
  obtain ⟨Nn, V, hY, hvb, hMS⟩ := id hZ
  obtain ⟨⟨hmm, hem⟩, ⟨hmc, gc, hec, hRc⟩, ⟨hmr, Gr, her, hGr⟩, hrr, ⟨hmt, Gt, het, hGt⟩, htr, hnt, ⟨hms, hes⟩, ⟨hmw, hew⟩⟩ := id hY
  refine lv_aload_n hC.1 hC.2.1 dX1_would_0 rfl (lv_at hl 0 rfl) ?_
  refine lv_iconst (v := (nI 0)) hC.1 hC.2.1 dX1_would_1 (by decide) ?_
  refine p_put (ref := "CornerCubeModel") (ty0 := tyX1) hC hE hP hD hS hmm hem rfl (by decide +kernel) tyX1_ok nmX1 0 (by decide) (by decide +kernel) rfl rfl rfl rfl (Nat.le_of_ble_eq_true rfl) dX1_would_2 (fun H locs hP hD hS => ?_)
  have hY := hY.put_th (nI 0) mk
  have hF := (FRM.rf (hm := hm) (sz := sz) (wo := wo) (tr := tr) (L := L) (f := f)).put_hm (e := eO 1 [.int (nI 0), .int mk, .ref cu, .ref rs, .ref td, .ref sz, .ref wo])
  obtain ⟨⟨hmm, hem⟩, ⟨hmc, gc, hec, hRc⟩, ⟨hmr, Gr, her, hGr⟩, hrr, ⟨hmt, Gt, het, hGt⟩, htr, hnt, ⟨hms, hes⟩, ⟨hmw, hew⟩⟩ := id hY
  refine lv_iload_n hC.1 hC.2.1 dX1_would_5 rfl (lv_at hl 1 rfl) ?_
  refine lv_iconst (v := (nI 0)) hC.1 hC.2.1 dX1_would_6 (by decide) ?_
  refine lv_iconst (v := (nI 2)) hC.1 hC.2.1 dX1_would_7 (by decide) ?_
  refine p_cs (n := 3) (m_isIn_t l ((nI_leI (by omega) (by omega)).mpr (by omega)) ((nI_leI (by omega) (by omega)).mpr (by omega))) hC gX1_would_X1_isIn rfl (by decide +kernel) rfl ⟨by decide, by decide⟩ ⟨by simp only [rD]; omega, by simp only [rD]; omega⟩ hl.1 (Nat.le_of_ble_eq_true rfl) dX1_would_8 rfl ?_
  refine z_if_ne (tgt := 20) hC dX1_would_11 (by decide) (by omega) (fun h_11 => ?_) (fun h_11 => by omega)
  refine lv_iload_n hC.1 hC.2.1 dX1_would_20 rfl (lv_at hl 2 rfl) ?_
  refine lv_iconst (v := (nI 1)) hC.1 hC.2.1 dX1_would_21 (by decide) ?_
  refine lv_iconst (v := (nI 3)) hC.1 hC.2.1 dX1_would_22 (by decide) ?_
  refine p_cs (n := 3) (m_isIn_t l ((nI_leI (by omega) (by omega)).mpr (by omega)) ((nI_leI (by omega) (by omega)).mpr (by omega))) hC gX1_would_X1_isIn rfl (by decide +kernel) rfl ⟨by decide, by decide⟩ ⟨by simp only [rD]; omega, by simp only [rD]; omega⟩ hl.1 (Nat.le_of_ble_eq_true rfl) dX1_would_23 rfl ?_
  refine z_if_eq (tgt := 51) hC dX1_would_26 (by decide) (by omega) (fun h_26 => by omega) (fun h_26 => ?_)
  refine lv_aload_n hC.1 hC.2.1 dX1_would_29 rfl (lv_at hl 0 rfl) ?_
  refine lv_aload_n hC.1 hC.2.1 dX1_would_30 rfl (lv_at hl 0 rfl) ?_
  refine p_get (ref := "CornerCubeModel") hC hE hP hmm hem rfl (by decide +kernel) 2 (by decide) (by decide +kernel) rfl rfl dX1_would_31 ?_
  refine lv_iconst (v := (nI 3)) hC.1 hC.2.1 dX1_would_34 (by decide) ?_
  refine lv_iload_n hC.1 hC.2.1 dX1_would_35 rfl (lv_at hl 1 rfl) ?_
  refine z_imul hC dX1_would_36 ?_
  refine lv_iload_n hC.1 hC.2.1 dX1_would_37 rfl (lv_at hl 2 rfl) ?_
  refine z_iadd hC dX1_would_38 ?_
  refine lv_iconst (v := (nI 1)) hC.1 hC.2.1 dX1_would_39 (by decide) ?_
  refine z_isub hC dX1_would_40 (by omega) ?_
  refine p_cvH (n := 2) (m_turned l hY hmc hec hRc hvb (t := 3 * fc + q - 1) (by omega)) hC hE hP hD hS (hmm) (hem) rfl gX1_would_X1_turned rfl (by decide +kernel) rfl ⟨by decide, by decide⟩ ⟨by simp only [rD]; omega, by simp only [rD]; omega⟩ hl.1 (Nat.le_of_ble_eq_true rfl) dX1_would_41 rfl (fun o L2 f2 H locs hpost hP hD hS => ?_)
  obtain ⟨y, rfl, hq⟩ := hpost.get
  have hY := hY.keep hq.2.2.1
  have hF := hF.keep hq.2.2.1
  obtain ⟨⟨hmm, hem⟩, ⟨hmc, gc, hec, hRc⟩, ⟨hmr, Gr, her, hGr⟩, hrr, ⟨hmt, Gt, het, hGt⟩, htr, hnt, ⟨hms, hes⟩, ⟨hmw, hew⟩⟩ := id hY
  obtain ⟨g9, hg9, hR9⟩ := hq.2.2.2
  refine lv_iconst (v := (nI 1)) hC.1 hC.2.1 dX1_would_44 (by decide) ?_
  refine p_csB (n := 2) (m_many l hq.2.1 hg9 hR9 (turnC_Va _ _) (what := 1) (by decide) (by decide)) hC hE hP hD hS gX1_would_X1_many rfl (by decide +kernel) rfl ⟨by decide, by decide⟩ ⟨by simp only [rD]; omega, by simp only [rD]; omega⟩ hl.1 (Nat.le_of_ble_eq_true rfl) dX1_would_45 rfl ?_
  refine q_i (nI (nRt (turnC b (3 * fc + q - 1)))) (by rw [many_1 (turnC_Va _ _)]) ?_
  refine lv_goto (tgt := 56) hC.1 hC.2.1 dX1_would_48 (by decide) ?_
  exact HV.iret hC hr hlk hP hD hS (by omega) (by omega) dX1_would_56 (⟨rfl, cu, Or.inl rfl, ⟨_, _, hY, hvb, hMS⟩, hF⟩)

set_option maxHeartbeats 4000000 in
set_option maxRecDepth 100000 in
theorem mg_play (l : Launch) {D : va_G} {T : ClassId × ClassId × ClassId} {z0 : Nat} {L : List Nat} {f : Nat → va_E} {hm rs td sz wo : Nat} {rr tr : Nat → Nat} {cu : Nat} {th mk : Int32} {b : Nat → Nat} {wd : Nat → List Nat} (hZ : MZ T L f hm rs td sz wo rr tr cu th mk b wd) {w ts : Nat} (hw : w < 5) (h1 : 1 ≤ ts) (h2 : ts ≤ 50) (h0 : 0 < (wd w).length) : HV l yX1_play wsX1_play (40) 700 11200 D z0 (zPre D T z0 L f) [.ref hm, .int (nI w), .int (nI ts)] (MPo T L f hm rs td sz wo rr tr cu (.int (nI (nRt (plN b (wd w) ts)))) (nI 0) (mk + nI (ts * (wd w).length)) (plN b (wd w) ts) wd) := by
  refine HV.of (cc := cX1_play) (maxL := 4) (ret := (some .int)) (by decide) rfl (Nat.le_of_ble_eq_true rfl) ?_
  intro p e s m args below meth c hC hr hlk hin hB ls hl
  have hl : lv_has ls 4 [(0, .ref hm), (1, .int (nI w)), (2, .int (nI ts))] := hl
  obtain ⟨hE, hP, hD⟩ := hB
  have hS : va_S (zA z0) s.heap s.heap [] := va_S.rf
  obtain ⟨Nn, V, hY, hvb, hMS⟩ := id hZ
  obtain ⟨⟨hmm, hem⟩, ⟨hmc, gc, hec, hRc⟩, ⟨hmr, Gr, her, hGr⟩, hrr, ⟨hmt, Gt, het, hGt⟩, htr, hnt, ⟨hms, hes⟩, ⟨hmw, hew⟩⟩ := id hY
  have hl12 := (hMS w hw).2.1
  have htl : ts * (wd w).length ≤ 50 * 12 := Nat.mul_le_mul h2 hl12
  refine lv_aload_n hC.1 hC.2.1 dX1_play_0 rfl (lv_at hl 0 rfl) ?_
  refine lv_iconst (v := (nI 0)) hC.1 hC.2.1 dX1_play_1 (by decide) ?_
  refine p_put (ref := "CornerCubeModel") (ty0 := tyX1) hC hE hP hD hS hmm hem rfl (by decide +kernel) tyX1_ok nmX1 0 (by decide) (by decide +kernel) rfl rfl rfl rfl (Nat.le_of_ble_eq_true rfl) dX1_play_2 (fun H locs hP hD hS => ?_)
  have hY := hY.put_th (nI 0) mk
  have hF := (FRM.rf (hm := hm) (sz := sz) (wo := wo) (tr := tr) (L := L) (f := f)).put_hm (e := eO 1 [.int (nI 0), .int mk, .ref cu, .ref rs, .ref td, .ref sz, .ref wo])
  obtain ⟨⟨hmm, hem⟩, ⟨hmc, gc, hec, hRc⟩, ⟨hmr, Gr, her, hGr⟩, hrr, ⟨hmt, Gt, het, hGt⟩, htr, hnt, ⟨hms, hes⟩, ⟨hmw, hew⟩⟩ := id hY
  refine lv_iload_n hC.1 hC.2.1 dX1_play_5 rfl (lv_at hl 1 rfl) ?_
  refine p_cs (n := 1) (m_isWord_t l ((nI_leI (by omega) (by omega)).mpr (by omega)) ((nI_leI (by omega) (by omega)).mpr (by omega))) hC gX1_play_X1_isWord rfl (by decide +kernel) rfl ⟨by decide, by decide⟩ ⟨by simp only [rD]; omega, by simp only [rD]; omega⟩ hl.1 (Nat.le_of_ble_eq_true rfl) dX1_play_6 rfl ?_
  refine z_if_ne (tgt := 18) hC dX1_play_9 (by decide) (by omega) (fun h_9 => ?_) (fun h_9 => by omega)
  refine lv_iload_n hC.1 hC.2.1 dX1_play_18 rfl (lv_at hl 2 rfl) ?_
  refine lv_iconst (v := (nI 1)) hC.1 hC.2.1 dX1_play_19 (by decide) ?_
  refine lv_bipush (v := (nI 50)) hC.1 hC.2.1 dX1_play_20 (by decide) ?_
  refine p_cs (n := 3) (m_isIn_t l ((nI_leI (by omega) (by omega)).mpr (by omega)) ((nI_leI (by omega) (by omega)).mpr (by omega))) hC gX1_play_X1_isIn rfl (by decide +kernel) rfl ⟨by decide, by decide⟩ ⟨by simp only [rD]; omega, by simp only [rD]; omega⟩ hl.1 (Nat.le_of_ble_eq_true rfl) dX1_play_22 rfl ?_
  refine z_if_ne (tgt := 34) hC dX1_play_25 (by decide) (by omega) (fun h_25 => ?_) (fun h_25 => by omega)
  refine lv_aload_n hC.1 hC.2.1 dX1_play_34 rfl (lv_at hl 0 rfl) ?_
  refine p_get (ref := "CornerCubeModel") hC hE hP hmm hem rfl (by decide +kernel) 5 (by decide) (by decide +kernel) rfl rfl dX1_play_35 ?_
  refine lv_iload_n hC.1 hC.2.1 dX1_play_38 rfl (lv_at hl 1 rfl) ?_
  refine p_iald hC hE hP hms hes (by omega) (by decide) dX1_play_39 ?_
  refine q_i (nI (wd w).length) ((hMS _ (by omega)).1) ?_
  refine z_if_ne (tgt := 49) hC dX1_play_40 (by decide) (by omega) (fun h_40 => ?_) (fun h_40 => by omega)
  have loop : ∀ (n : Nat) (k c1 : Nat) (L1 : List Nat) (f1 : Nat → va_E) (H : Heap) (locs : List Loc), k + n = ts → (c1 = cu ∨ c1 ∉ L) → MY T L1 f1 hm rs td sz wo rr tr c1 (nI 0) mk (plN b (wd w) k) Nn V → FRM hm sz wo tr L f L1 f1 → va_P D vwCl (va_pl L1 f1) H → va_D (zA z0) (va_pl L1 f1) → va_S (zA z0) s.heap H locs → ∀ ls : Array Slot, lv_has ls 4 [(0, .ref hm), (1, .int (nI w)), (2, .int (nI ts)), (3, .int (nI k))] → W p l e (rD (40) 700 11200) s m args below meth c H locs (14 * k) (224 * k) (MQ below (HVQ D z0 (MPo T L f hm rs td sz wo rr tr cu (.int (nI (nRt (plN b (wd w) ts)))) (nI 0) (mk + nI (ts * (wd w).length)) (plN b (wd w) ts) wd)) args s 700 11200 (zA z0)) (F0 m 51 ls []) := by
    intro n
    induction n with
    | zero =>
      intro k c1 L1 f1 H locs hk hcu hY hF hP hD hS ls hl
      obtain ⟨⟨hmm, hem⟩, ⟨hmc, gc, hec, hRc⟩, ⟨hmr, Gr, her, hGr⟩, hrr, ⟨hmt, Gt, het, hGt⟩, htr, hnt, ⟨hms, hes⟩, ⟨hmw, hew⟩⟩ := id hY
      have hkt : k = ts := by omega
      refine lv_iload_n hC.1 hC.2.1 dX1_play_51 rfl (lv_at hl 3 rfl) ?_
      refine lv_iload_n hC.1 hC.2.1 dX1_play_52 rfl (lv_at hl 2 rfl) ?_
      refine z_icmp_ge (tgt := 78) hC dX1_play_53 (by decide) (by omega) (by omega) (fun h_53 => ?_) (fun h_53 => by omega)
      refine lv_aload_n hC.1 hC.2.1 dX1_play_78 rfl (lv_at hl 0 rfl) ?_
      refine lv_dup hC.1 hC.2.1 dX1_play_79 rfl ?_
      refine p_get (ref := "CornerCubeModel") hC hE hP hmm hem rfl (by decide +kernel) 1 (by decide) (by decide +kernel) rfl rfl dX1_play_80 ?_
      refine lv_iload_n hC.1 hC.2.1 dX1_play_83 rfl (lv_at hl 2 rfl) ?_
      refine lv_aload_n hC.1 hC.2.1 dX1_play_84 rfl (lv_at hl 0 rfl) ?_
      refine p_get (ref := "CornerCubeModel") hC hE hP hmm hem rfl (by decide +kernel) 5 (by decide) (by decide +kernel) rfl rfl dX1_play_85 ?_
      refine lv_iload_n hC.1 hC.2.1 dX1_play_88 rfl (lv_at hl 1 rfl) ?_
      refine p_iald hC hE hP hms hes (by omega) (by decide) dX1_play_89 ?_
      refine q_i (nI (wd w).length) ((hMS _ (by omega)).1) ?_
      refine z_imul hC dX1_play_90 ?_
      refine lv_iadd hC.1 hC.2.1 dX1_play_91 ?_
      refine p_put (ref := "CornerCubeModel") (ty0 := tyX1) hC hE hP hD hS hmm hem rfl (by decide +kernel) tyX1_ok nmX1 1 (by decide) (by decide +kernel) rfl rfl rfl rfl (Nat.le_of_ble_eq_true rfl) dX1_play_92 (fun H locs hP hD hS => ?_)
      have hY := hY.put_th (nI 0) (mk + nI (ts * (wd w).length))
      have hF := hF.put_hm (e := eO 1 [.int (nI 0), .int (mk + nI (ts * (wd w).length)), .ref c1, .ref rs, .ref td, .ref sz, .ref wo])
      obtain ⟨⟨hmm, hem⟩, ⟨hmc, gc, hec, hRc⟩, ⟨hmr, Gr, her, hGr⟩, hrr, ⟨hmt, Gt, het, hGt⟩, htr, hnt, ⟨hms, hes⟩, ⟨hmw, hew⟩⟩ := id hY
      refine lv_aload_n hC.1 hC.2.1 dX1_play_95 rfl (lv_at hl 0 rfl) ?_
      refine p_get (ref := "CornerCubeModel") hC hE hP hmm hem rfl (by decide +kernel) 2 (by decide) (by decide +kernel) rfl rfl dX1_play_96 ?_
      refine lv_iconst (v := (nI 1)) hC.1 hC.2.1 dX1_play_99 (by decide) ?_
      refine p_csB (n := 2) (m_many l hmc hec hRc (plN_Va hvb _ _) (what := 1) (by decide) (by decide)) hC hE hP hD hS gX1_play_X1_many rfl (by decide +kernel) rfl ⟨by decide, by decide⟩ ⟨by simp only [rD]; omega, by simp only [rD]; omega⟩ hl.1 (Nat.le_of_ble_eq_true rfl) dX1_play_100 rfl ?_
      refine q_i (nI (nRt (plN b (wd w) k))) (by rw [many_1 (plN_Va hvb _ _)]) ?_
      exact HV.iret hC hr hlk hP hD hS (by omega) (by omega) dX1_play_103 (by subst hkt; exact ⟨rfl, c1, hcu, ⟨_, _, hY, plN_Va hvb _ _, hMS⟩, hF⟩)
    | succ n ih =>
      intro k c1 L1 f1 H locs hk hcu hY hF hP hD hS ls hl
      obtain ⟨⟨hmm, hem⟩, ⟨hmc, gc, hec, hRc⟩, ⟨hmr, Gr, her, hGr⟩, hrr, ⟨hmt, Gt, het, hGt⟩, htr, hnt, ⟨hms, hes⟩, ⟨hmw, hew⟩⟩ := id hY
      refine lv_iload_n hC.1 hC.2.1 dX1_play_51 rfl (lv_at hl 3 rfl) ?_
      refine lv_iload_n hC.1 hC.2.1 dX1_play_52 rfl (lv_at hl 2 rfl) ?_
      refine z_icmp_ge (tgt := 78) hC dX1_play_53 (by decide) (by omega) (by omega) (fun h_53 => by omega) (fun h_53 => ?_)
      refine lv_aload_n hC.1 hC.2.1 dX1_play_56 rfl (lv_at hl 0 rfl) ?_
      refine lv_aload_n hC.1 hC.2.1 dX1_play_57 rfl (lv_at hl 0 rfl) ?_
      refine p_get (ref := "CornerCubeModel") hC hE hP hmm hem rfl (by decide +kernel) 2 (by decide) (by decide +kernel) rfl rfl dX1_play_58 ?_
      refine lv_aload_n hC.1 hC.2.1 dX1_play_61 rfl (lv_at hl 0 rfl) ?_
      refine lv_iload_n hC.1 hC.2.1 dX1_play_62 rfl (lv_at hl 1 rfl) ?_
      refine p_cvH (n := 1) (m_rowOf l hY hMS hw) hC hE hP hD hS (hmm) (hem) rfl gX1_play_X1_rowOf rfl (by decide +kernel) rfl ⟨by decide, by decide⟩ ⟨by simp only [rD]; omega, by simp only [rD]; omega⟩ hl.1 (Nat.le_of_ble_eq_true rfl) dX1_play_63 rfl (fun o L2 f2 H locs hpost hP hD hS => ?_)
      obtain ⟨y0, rfl, hq0⟩ := hpost.get
      have hec0 := (hq0.2.2.1 _ hmc).2.trans hec
      have hmc0 := (hq0.2.2.1 _ hmc).1
      have hRc0 := hRc
      obtain ⟨g8, hg8, hR8⟩ := hq0.2.2.2
      have hY := hY.keep hq0.2.2.1
      have hF := hF.keep hq0.2.2.1
      obtain ⟨⟨hmm, hem⟩, ⟨hmc, gc, hec, hRc⟩, ⟨hmr, Gr, her, hGr⟩, hrr, ⟨hmt, Gt, het, hGt⟩, htr, hnt, ⟨hms, hes⟩, ⟨hmw, hew⟩⟩ := id hY
      refine p_csH (n := 2) (m_then l hmc0 hq0.2.1 hec0 hg8 hRc0 hR8 (plN_Va hvb _ _) (deed_Va _)) hC hE hP hD hS gX1_play_X1_then rfl (by decide +kernel) rfl ⟨by decide, by decide⟩ ⟨by simp only [rD]; omega, by simp only [rD]; omega⟩ hl.1 (Nat.le_of_ble_eq_true rfl) dX1_play_66 rfl (fun o L3 f3 H locs hpost hP hD hS => ?_)
      obtain ⟨y, rfl, hq⟩ := hpost.get
      have hyL : y ∉ L := fun h => hq.1 (hF y h).1
      have hcy : ∀ k, k < 6 → tr k ≠ y := fun k hk e => hq.1 (e ▸ (htr k hk).1)
      have hY := hY.keep hq.2.2.1
      have hF := hF.keep hq.2.2.1
      obtain ⟨⟨hmm, hem⟩, ⟨hmc, gc, hec, hRc⟩, ⟨hmr, Gr, her, hGr⟩, hrr, ⟨hmt, Gt, het, hGt⟩, htr, hnt, ⟨hms, hes⟩, ⟨hmw, hew⟩⟩ := id hY
      obtain ⟨g9, hg9, hR9⟩ := hq.2.2.2
      have hR9 : Rp g9 (plN b (wd w) (k + 1)) := hR9.cong (fun i hi => behind_comp (plN_Va hvb _ _) (wd w) hi)
      refine p_put (ref := "CornerCubeModel") (ty0 := tyX1) hC hE hP hD hS hmm hem rfl (by decide +kernel) tyX1_ok nmX1 2 (by decide) (by decide +kernel) rfl rfl rfl rfl (Nat.le_of_ble_eq_true rfl) dX1_play_69 (fun H locs hP hD hS => ?_)
      have hY := hY.put_hm (nI 0) mk hq.2.1 hg9 hR9 hcy
      have hF := hF.put_hm (e := eO 1 [.int (nI 0), .int mk, .ref y, .ref rs, .ref td, .ref sz, .ref wo])
      obtain ⟨⟨hmm, hem⟩, ⟨hmc, gc, hec, hRc⟩, ⟨hmr, Gr, her, hGr⟩, hrr, ⟨hmt, Gt, het, hGt⟩, htr, hnt, ⟨hms, hes⟩, ⟨hmw, hew⟩⟩ := id hY
      refine lv_iinc (v := nI (k + 1)) (lv' := [(3, .int (nI (k + 1))), (0, .ref hm), (1, .int (nI w)), (2, .int (nI ts))]) hC.1 hC.2.1 dX1_play_72 hl (k := 3) rfl (z_inc _) (by decide) rfl (fun ls hl => ?_)
      refine lv_goto (tgt := 51) hC.1 hC.2.1 dX1_play_75 (by decide) ?_
      refine W.widen (k := 14 * (k + 1)) (n := 224 * (k + 1)) (by omega) (by omega) ?_
      exact ih (k + 1) _ _ _ _ _ (by omega) (Or.inr hyL) hY hF hP hD hS ls (lv_sub hl [1, 2, 3, 0] rfl)
  refine lv_iconst (v := (nI 0)) hC.1 hC.2.1 dX1_play_49 (by decide) ?_
  refine lv_istore_n (lv' := [(3, .int (nI 0)), (0, .ref hm), (1, .int (nI w)), (2, .int (nI ts))]) hC.1 hC.2.1 dX1_play_50 rfl hl (by decide) rfl (fun ls hl => ?_)
  refine W.widen (k := 14 * 0) (n := 224 * 0) (by omega) (by omega) ?_
  exact loop ts 0 _ _ _ _ _ (Nat.zero_add _) (Or.inl rfl) hY hF hP hD hS ls (lv_sub hl [1, 2, 3, 0] rfl)

set_option maxHeartbeats 4000000 in
set_option maxRecDepth 100000 in
theorem mg_reset (l : Launch) {D : va_G} {T : ClassId × ClassId × ClassId} {z0 : Nat} {L : List Nat} {f : Nat → va_E} {hm rs td sz wo : Nat} {rr tr : Nat → Nat} {cu : Nat} {th mk : Int32} {b : Nat → Nat} {wd : Nat → List Nat} (hZ : MZ T L f hm rs td sz wo rr tr cu th mk b wd)  : HV l yX1_reset wsX1_reset (40) 1 16 D z0 (zPre D T z0 L f) [.ref hm] (MPo T L f hm rs td sz wo rr tr cu (.int (nI (8 - nRt b))) (nI 0) mk one wd) := by
  refine HV.of (cc := cX1_reset) (maxL := 2) (ret := (some .int)) (by decide) rfl (Nat.le_of_ble_eq_true rfl) ?_
  intro p e s m args below meth c hC hr hlk hin hB ls hl
  have hl : lv_has ls 2 [(0, .ref hm)] := hl
  obtain ⟨hE, hP, hD⟩ := hB
  have hS : va_S (zA z0) s.heap s.heap [] := va_S.rf
  obtain ⟨Nn, V, hY, hvb, hMS⟩ := id hZ
  obtain ⟨⟨hmm, hem⟩, ⟨hmc, gc, hec, hRc⟩, ⟨hmr, Gr, her, hGr⟩, hrr, ⟨hmt, Gt, het, hGt⟩, htr, hnt, ⟨hms, hes⟩, ⟨hmw, hew⟩⟩ := id hY
  refine lv_aload_n hC.1 hC.2.1 dX1_reset_0 rfl (lv_at hl 0 rfl) ?_
  refine lv_iconst (v := (nI 0)) hC.1 hC.2.1 dX1_reset_1 (by decide) ?_
  refine p_put (ref := "CornerCubeModel") (ty0 := tyX1) hC hE hP hD hS hmm hem rfl (by decide +kernel) tyX1_ok nmX1 0 (by decide) (by decide +kernel) rfl rfl rfl rfl (Nat.le_of_ble_eq_true rfl) dX1_reset_2 (fun H locs hP hD hS => ?_)
  have hY := hY.put_th (nI 0) mk
  have hF := (FRM.rf (hm := hm) (sz := sz) (wo := wo) (tr := tr) (L := L) (f := f)).put_hm (e := eO 1 [.int (nI 0), .int mk, .ref cu, .ref rs, .ref td, .ref sz, .ref wo])
  obtain ⟨⟨hmm, hem⟩, ⟨hmc, gc, hec, hRc⟩, ⟨hmr, Gr, her, hGr⟩, hrr, ⟨hmt, Gt, het, hGt⟩, htr, hnt, ⟨hms, hes⟩, ⟨hmw, hew⟩⟩ := id hY
  refine lv_bipush (v := (nI 8)) hC.1 hC.2.1 dX1_reset_5 (by decide) ?_
  refine lv_aload_n hC.1 hC.2.1 dX1_reset_7 rfl (lv_at hl 0 rfl) ?_
  refine p_get (ref := "CornerCubeModel") hC hE hP hmm hem rfl (by decide +kernel) 2 (by decide) (by decide +kernel) rfl rfl dX1_reset_8 ?_
  refine lv_iconst (v := (nI 1)) hC.1 hC.2.1 dX1_reset_11 (by decide) ?_
  refine p_csB (n := 2) (m_many l hmc hec hRc hvb (what := 1) (by decide) (by decide)) hC hE hP hD hS gX1_reset_X1_many rfl (by decide +kernel) rfl ⟨by decide, by decide⟩ ⟨by simp only [rD]; omega, by simp only [rD]; omega⟩ hl.1 (Nat.le_of_ble_eq_true rfl) dX1_reset_12 rfl ?_
  refine q_i (nI (nRt b)) (by rw [many_1 hvb]) ?_
  refine z_isub hC dX1_reset_15 (ct_le _ 8) ?_
  refine lv_istore_n (lv' := [(1, .int (nI (8 - (nRt b)))), (0, .ref hm)]) hC.1 hC.2.1 dX1_reset_16 rfl hl (by decide) rfl (fun ls hl => ?_)
  refine lv_aload_n hC.1 hC.2.1 dX1_reset_17 rfl (lv_at hl 1 rfl) ?_
  refine p_csH (n := 0) (m_right l) hC hE hP hD hS gX1_reset_X1_right rfl (by decide +kernel) rfl ⟨by decide, by decide⟩ ⟨by simp only [rD]; omega, by simp only [rD]; omega⟩ hl.1 (Nat.le_of_ble_eq_true rfl) dX1_reset_18 rfl (fun o L2 f2 H locs hpost hP hD hS => ?_)
  obtain ⟨y, rfl, hq⟩ := hpost.get
  have hyL : y ∉ L := fun h => hq.1 (hF y h).1
  have hcy : ∀ k, k < 6 → tr k ≠ y := fun k hk e => hq.1 (e ▸ (htr k hk).1)
  have hY := hY.keep hq.2.2.1
  have hF := hF.keep hq.2.2.1
  obtain ⟨⟨hmm, hem⟩, ⟨hmc, gc, hec, hRc⟩, ⟨hmr, Gr, her, hGr⟩, hrr, ⟨hmt, Gt, het, hGt⟩, htr, hnt, ⟨hms, hes⟩, ⟨hmw, hew⟩⟩ := id hY
  obtain ⟨g9, hg9, hR9⟩ := hq.2.2.2
  refine p_put (ref := "CornerCubeModel") (ty0 := tyX1) hC hE hP hD hS hmm hem rfl (by decide +kernel) tyX1_ok nmX1 2 (by decide) (by decide +kernel) rfl rfl rfl rfl (Nat.le_of_ble_eq_true rfl) dX1_reset_21 (fun H locs hP hD hS => ?_)
  have hY := hY.put_hm (nI 0) mk hq.2.1 hg9 hR9 hcy
  have hF := hF.put_hm (e := eO 1 [.int (nI 0), .int mk, .ref y, .ref rs, .ref td, .ref sz, .ref wo])
  obtain ⟨⟨hmm, hem⟩, ⟨hmc, gc, hec, hRc⟩, ⟨hmr, Gr, her, hGr⟩, hrr, ⟨hmt, Gt, het, hGt⟩, htr, hnt, ⟨hms, hes⟩, ⟨hmw, hew⟩⟩ := id hY
  refine lv_iload_n hC.1 hC.2.1 dX1_reset_24 rfl (lv_at hl 0 rfl) ?_
  exact HV.iret hC hr hlk hP hD hS (by omega) (by omega) dX1_reset_25 (⟨rfl, y, Or.inr hyL, ⟨_, _, hY, one_Va, hMS⟩, hF⟩)

set_option maxHeartbeats 4000000 in
set_option maxRecDepth 100000 in
theorem mg_say (l : Launch) {D : va_G} {T : ClassId × ClassId × ClassId} {z0 : Nat} {L : List Nat} {f : Nat → va_E} {hm rs td sz wo : Nat} {rr tr : Nat → Nat} {cu : Nat} {th mk : Int32} {b : Nat → Nat} {wd : Nat → List Nat} (hZ : MZ T L f hm rs td sz wo rr tr cu th mk b wd) {w fc q : Nat} (hw : w < 5) (hf : fc < 3) (h1 : 1 ≤ q) (hq4 : q < 4) (h12 : (wd w).length < 12) : HV l yX1_say wsX1_say (40) 0 0 D z0 (zPre D T z0 L f) [.ref hm, .int (nI w), .int (nI fc), .int (nI q)] (MPo T L f hm rs td sz wo rr tr cu (.int (nI ((wd w).length + 1))) (nI 0) mk b (wset wd w (wd w ++ [3 * fc + q - 1]))) := by
  refine HV.of (cc := cX1_say) (maxL := 4) (ret := (some .int)) (by decide) rfl (Nat.le_of_ble_eq_true rfl) ?_
  intro p e s m args below meth c hC hr hlk hin hB ls hl
  have hl : lv_has ls 4 [(0, .ref hm), (1, .int (nI w)), (2, .int (nI fc)), (3, .int (nI q))] := hl
  obtain ⟨hE, hP, hD⟩ := hB
  have hS : va_S (zA z0) s.heap s.heap [] := va_S.rf
  obtain ⟨Nn, V, hY, hvb, hMS⟩ := id hZ
  obtain ⟨⟨hmm, hem⟩, ⟨hmc, gc, hec, hRc⟩, ⟨hmr, Gr, her, hGr⟩, hrr, ⟨hmt, Gt, het, hGt⟩, htr, hnt, ⟨hms, hes⟩, ⟨hmw, hew⟩⟩ := id hY
  refine lv_aload_n hC.1 hC.2.1 dX1_say_0 rfl (lv_at hl 0 rfl) ?_
  refine lv_iconst (v := (nI 0)) hC.1 hC.2.1 dX1_say_1 (by decide) ?_
  refine p_put (ref := "CornerCubeModel") (ty0 := tyX1) hC hE hP hD hS hmm hem rfl (by decide +kernel) tyX1_ok nmX1 0 (by decide) (by decide +kernel) rfl rfl rfl rfl (Nat.le_of_ble_eq_true rfl) dX1_say_2 (fun H locs hP hD hS => ?_)
  have hY := hY.put_th (nI 0) mk
  have hF := (FRM.rf (hm := hm) (sz := sz) (wo := wo) (tr := tr) (L := L) (f := f)).put_hm (e := eO 1 [.int (nI 0), .int mk, .ref cu, .ref rs, .ref td, .ref sz, .ref wo])
  obtain ⟨⟨hmm, hem⟩, ⟨hmc, gc, hec, hRc⟩, ⟨hmr, Gr, her, hGr⟩, hrr, ⟨hmt, Gt, het, hGt⟩, htr, hnt, ⟨hms, hes⟩, ⟨hmw, hew⟩⟩ := id hY
  refine lv_iload_n hC.1 hC.2.1 dX1_say_5 rfl (lv_at hl 1 rfl) ?_
  refine p_cs (n := 1) (m_isWord_t l ((nI_leI (by omega) (by omega)).mpr (by omega)) ((nI_leI (by omega) (by omega)).mpr (by omega))) hC gX1_say_X1_isWord rfl (by decide +kernel) rfl ⟨by decide, by decide⟩ ⟨by simp only [rD]; omega, by simp only [rD]; omega⟩ hl.1 (Nat.le_of_ble_eq_true rfl) dX1_say_6 rfl ?_
  refine z_if_eq (tgt := 21) hC dX1_say_9 (by decide) (by omega) (fun h_9 => by omega) (fun h_9 => ?_)
  refine lv_iload_n hC.1 hC.2.1 dX1_say_12 rfl (lv_at hl 2 rfl) ?_
  refine lv_iconst (v := (nI 0)) hC.1 hC.2.1 dX1_say_13 (by decide) ?_
  refine lv_iconst (v := (nI 2)) hC.1 hC.2.1 dX1_say_14 (by decide) ?_
  refine p_cs (n := 3) (m_isIn_t l ((nI_leI (by omega) (by omega)).mpr (by omega)) ((nI_leI (by omega) (by omega)).mpr (by omega))) hC gX1_say_X1_isIn rfl (by decide +kernel) rfl ⟨by decide, by decide⟩ ⟨by simp only [rD]; omega, by simp only [rD]; omega⟩ hl.1 (Nat.le_of_ble_eq_true rfl) dX1_say_15 rfl ?_
  refine z_if_ne (tgt := 27) hC dX1_say_18 (by decide) (by omega) (fun h_18 => ?_) (fun h_18 => by omega)
  refine lv_iload_n hC.1 hC.2.1 dX1_say_27 rfl (lv_at hl 3 rfl) ?_
  refine lv_iconst (v := (nI 1)) hC.1 hC.2.1 dX1_say_28 (by decide) ?_
  refine lv_iconst (v := (nI 3)) hC.1 hC.2.1 dX1_say_29 (by decide) ?_
  refine p_cs (n := 3) (m_isIn_t l ((nI_leI (by omega) (by omega)).mpr (by omega)) ((nI_leI (by omega) (by omega)).mpr (by omega))) hC gX1_say_X1_isIn rfl (by decide +kernel) rfl ⟨by decide, by decide⟩ ⟨by simp only [rD]; omega, by simp only [rD]; omega⟩ hl.1 (Nat.le_of_ble_eq_true rfl) dX1_say_30 rfl ?_
  refine z_if_ne (tgt := 42) hC dX1_say_33 (by decide) (by omega) (fun h_33 => ?_) (fun h_33 => by omega)
  refine lv_aload_n hC.1 hC.2.1 dX1_say_42 rfl (lv_at hl 0 rfl) ?_
  refine p_get (ref := "CornerCubeModel") hC hE hP hmm hem rfl (by decide +kernel) 5 (by decide) (by decide +kernel) rfl rfl dX1_say_43 ?_
  refine lv_iload_n hC.1 hC.2.1 dX1_say_46 rfl (lv_at hl 1 rfl) ?_
  refine p_iald hC hE hP hms hes (by omega) (by decide) dX1_say_47 ?_
  refine q_i (nI (wd w).length) ((hMS _ (by omega)).1) ?_
  refine lv_bipush (v := (nI 12)) hC.1 hC.2.1 dX1_say_48 (by decide) ?_
  refine z_icmp_ne (tgt := 59) hC dX1_say_50 (by decide) (by omega) (by omega) (fun h_50 => ?_) (fun h_50 => by omega)
  refine lv_aload_n hC.1 hC.2.1 dX1_say_59 rfl (lv_at hl 0 rfl) ?_
  refine lv_iload_n hC.1 hC.2.1 dX1_say_60 rfl (lv_at hl 1 rfl) ?_
  refine lv_iconst (v := (nI 3)) hC.1 hC.2.1 dX1_say_61 (by decide) ?_
  refine lv_iload_n hC.1 hC.2.1 dX1_say_62 rfl (lv_at hl 2 rfl) ?_
  refine z_imul hC dX1_say_63 ?_
  refine lv_iload_n hC.1 hC.2.1 dX1_say_64 rfl (lv_at hl 3 rfl) ?_
  refine z_iadd hC dX1_say_65 ?_
  refine lv_iconst (v := (nI 1)) hC.1 hC.2.1 dX1_say_66 (by decide) ?_
  refine z_isub hC dX1_say_67 (by omega) ?_
  refine p_cvH (n := 2) (m_put l hY hMS hw h12 (t := 3 * fc + q - 1) (by omega)) hC hE hP hD hS (hmm) (hem) rfl gX1_say_X1_put rfl (by decide +kernel) rfl ⟨by decide, by decide⟩ ⟨by simp only [rD]; omega, by simp only [rD]; omega⟩ hl.1 (Nat.le_of_ble_eq_true rfl) dX1_say_68 rfl (fun o L2 f2 H locs hpost hP hD hS => ?_)
  obtain ⟨rfl, hLe, ⟨N2, V2, hY, hMS⟩, hF2⟩ := hpost
  rw [hLe] at hP hD
  have hF : FRM hm sz wo tr L f L f2 := fun a ha => ⟨ha, fun h1 h2 h3 h4 => ((hF2 a ha).2 h1 h2 h3 h4).trans ((hF a ha).2 h1 h2 h3 h4)⟩
  obtain ⟨⟨hmm, hem⟩, ⟨hmc, gc, hec, hRc⟩, ⟨hmr, Gr, her, hGr⟩, hrr, ⟨hmt, Gt, het, hGt⟩, htr, hnt, ⟨hms, hes⟩, ⟨hmw, hew⟩⟩ := id hY
  refine lv_aload_n hC.1 hC.2.1 dX1_say_71 rfl (lv_at hl 0 rfl) ?_
  refine p_get (ref := "CornerCubeModel") hC hE hP hmm hem rfl (by decide +kernel) 5 (by decide) (by decide +kernel) rfl rfl dX1_say_72 ?_
  have hsz2 : N2 w = nI ((wd w).length + 1) := by have h9 := (hMS w hw).1; rw [wset_same, List.length_append] at h9; exact h9
  refine lv_iload_n hC.1 hC.2.1 dX1_say_75 rfl (lv_at hl 1 rfl) ?_
  refine p_iald hC hE hP hms hes (by omega) (by decide) dX1_say_76 ?_
  refine q_i (nI ((wd w).length + 1)) (hsz2) ?_
  exact HV.iret hC hr hlk hP hD hS (by omega) (by omega) dX1_say_77 (⟨rfl, cu, Or.inl rfl, ⟨_, _, hY, hvb, hMS⟩, hF⟩)

set_option maxHeartbeats 4000000 in
set_option maxRecDepth 100000 in
theorem mg_wipe (l : Launch) {D : va_G} {T : ClassId × ClassId × ClassId} {z0 : Nat} {L : List Nat} {f : Nat → va_E} {hm rs td sz wo : Nat} {rr tr : Nat → Nat} {cu : Nat} {th mk : Int32} {b : Nat → Nat} {wd : Nat → List Nat} (hZ : MZ T L f hm rs td sz wo rr tr cu th mk b wd) {w : Nat} (hw : w < 5) : HV l yX1_wipe wsX1_wipe (40) 0 0 D z0 (zPre D T z0 L f) [.ref hm, .int (nI w)] (MPo T L f hm rs td sz wo rr tr cu (.int (nI (wd w).length)) (nI 0) mk b (wset wd w [])) := by
  refine HV.of (cc := cX1_wipe) (maxL := 3) (ret := (some .int)) (by decide) rfl (Nat.le_of_ble_eq_true rfl) ?_
  intro p e s m args below meth c hC hr hlk hin hB ls hl
  have hl : lv_has ls 3 [(0, .ref hm), (1, .int (nI w))] := hl
  obtain ⟨hE, hP, hD⟩ := hB
  have hS : va_S (zA z0) s.heap s.heap [] := va_S.rf
  obtain ⟨Nn, V, hY, hvb, hMS⟩ := id hZ
  obtain ⟨⟨hmm, hem⟩, ⟨hmc, gc, hec, hRc⟩, ⟨hmr, Gr, her, hGr⟩, hrr, ⟨hmt, Gt, het, hGt⟩, htr, hnt, ⟨hms, hes⟩, ⟨hmw, hew⟩⟩ := id hY
  refine lv_aload_n hC.1 hC.2.1 dX1_wipe_0 rfl (lv_at hl 0 rfl) ?_
  refine lv_iconst (v := (nI 0)) hC.1 hC.2.1 dX1_wipe_1 (by decide) ?_
  refine p_put (ref := "CornerCubeModel") (ty0 := tyX1) hC hE hP hD hS hmm hem rfl (by decide +kernel) tyX1_ok nmX1 0 (by decide) (by decide +kernel) rfl rfl rfl rfl (Nat.le_of_ble_eq_true rfl) dX1_wipe_2 (fun H locs hP hD hS => ?_)
  have hY := hY.put_th (nI 0) mk
  have hF := (FRM.rf (hm := hm) (sz := sz) (wo := wo) (tr := tr) (L := L) (f := f)).put_hm (e := eO 1 [.int (nI 0), .int mk, .ref cu, .ref rs, .ref td, .ref sz, .ref wo])
  obtain ⟨⟨hmm, hem⟩, ⟨hmc, gc, hec, hRc⟩, ⟨hmr, Gr, her, hGr⟩, hrr, ⟨hmt, Gt, het, hGt⟩, htr, hnt, ⟨hms, hes⟩, ⟨hmw, hew⟩⟩ := id hY
  refine lv_iload_n hC.1 hC.2.1 dX1_wipe_5 rfl (lv_at hl 1 rfl) ?_
  refine p_cs (n := 1) (m_isWord_t l ((nI_leI (by omega) (by omega)).mpr (by omega)) ((nI_leI (by omega) (by omega)).mpr (by omega))) hC gX1_wipe_X1_isWord rfl (by decide +kernel) rfl ⟨by decide, by decide⟩ ⟨by simp only [rD]; omega, by simp only [rD]; omega⟩ hl.1 (Nat.le_of_ble_eq_true rfl) dX1_wipe_6 rfl ?_
  refine z_if_ne (tgt := 18) hC dX1_wipe_9 (by decide) (by omega) (fun h_9 => ?_) (fun h_9 => by omega)
  refine lv_aload_n hC.1 hC.2.1 dX1_wipe_18 rfl (lv_at hl 0 rfl) ?_
  refine p_get (ref := "CornerCubeModel") hC hE hP hmm hem rfl (by decide +kernel) 5 (by decide) (by decide +kernel) rfl rfl dX1_wipe_19 ?_
  refine lv_iload_n hC.1 hC.2.1 dX1_wipe_22 rfl (lv_at hl 1 rfl) ?_
  refine p_iald hC hE hP hms hes (by omega) (by decide) dX1_wipe_23 ?_
  refine q_i (nI (wd w).length) ((hMS _ (by omega)).1) ?_
  refine lv_istore_n (lv' := [(2, .int (nI (wd w).length)), (0, .ref hm), (1, .int (nI w))]) hC.1 hC.2.1 dX1_wipe_24 rfl hl (by decide) rfl (fun ls hl => ?_)
  refine lv_aload_n hC.1 hC.2.1 dX1_wipe_25 rfl (lv_at hl 1 rfl) ?_
  refine p_get (ref := "CornerCubeModel") hC hE hP hmm hem rfl (by decide +kernel) 5 (by decide) (by decide +kernel) rfl rfl dX1_wipe_26 ?_
  refine lv_iload_n hC.1 hC.2.1 dX1_wipe_29 rfl (lv_at hl 2 rfl) ?_
  refine lv_iconst (v := (nI 0)) hC.1 hC.2.1 dX1_wipe_30 (by decide) ?_
  refine p_iast hC hE hP hD hS hms hes (by omega) (by decide) dX1_wipe_31 (fun H locs hP hD hS => ?_)
  have hY := hY.put_sz (upd Nn w (nI 0))
  have hF := hF.put_sz (e := eI T.1 5 (upd Nn w (nI 0)))
  have hMS := hMS.put w [] (N' := upd Nn w (nI 0)) (V' := V) (fun v h => upd_n h) (fun v k hv h hk => rfl) upd_s (by decide) (fun k hk => absurd hk (by simp))
  refine lv_iload_n hC.1 hC.2.1 dX1_wipe_32 rfl (lv_at hl 0 rfl) ?_
  exact HV.iret hC hr hlk hP hD hS (by omega) (by omega) dX1_wipe_33 (⟨rfl, cu, Or.inl rfl, ⟨_, _, hY, hvb, hMS⟩, hF⟩)

set_option maxHeartbeats 4000000 in
set_option maxRecDepth 100000 in
theorem mg_join (l : Launch) {D : va_G} {T : ClassId × ClassId × ClassId} {z0 : Nat} {L : List Nat} {f : Nat → va_E} {hm rs td sz wo : Nat} {rr tr : Nat → Nat} {cu : Nat} {th mk : Int32} {b : Nat → Nat} {wd : Nat → List Nat} (hZ : MZ T L f hm rs td sz wo rr tr cu th mk b wd) {w v : Nat} (hw : w < 5) (hv5 : v < 5) (h12 : (wd w).length + (wd v).length ≤ 12) : HV l yX1_join wsX1_join (40) 0 0 D z0 (zPre D T z0 L f) [.ref hm, .int (nI w), .int (nI v)] (MPo T L f hm rs td sz wo rr tr cu (.int (nI ((wd w).length + (wd v).length))) (nI 0) mk b (wset wd w (wd w ++ wd v))) := by
  refine HV.of (cc := cX1_join) (maxL := 5) (ret := (some .int)) (by decide) rfl (Nat.le_of_ble_eq_true rfl) ?_
  intro p e s m args below meth c hC hr hlk hin hB ls hl
  have hl : lv_has ls 5 [(0, .ref hm), (1, .int (nI w)), (2, .int (nI v))] := hl
  obtain ⟨hE, hP, hD⟩ := hB
  have hS : va_S (zA z0) s.heap s.heap [] := va_S.rf
  obtain ⟨Nn, V, hY, hvb, hMS⟩ := id hZ
  obtain ⟨⟨hmm, hem⟩, ⟨hmc, gc, hec, hRc⟩, ⟨hmr, Gr, her, hGr⟩, hrr, ⟨hmt, Gt, het, hGt⟩, htr, hnt, ⟨hms, hes⟩, ⟨hmw, hew⟩⟩ := id hY
  refine lv_aload_n hC.1 hC.2.1 dX1_join_0 rfl (lv_at hl 0 rfl) ?_
  refine lv_iconst (v := (nI 0)) hC.1 hC.2.1 dX1_join_1 (by decide) ?_
  refine p_put (ref := "CornerCubeModel") (ty0 := tyX1) hC hE hP hD hS hmm hem rfl (by decide +kernel) tyX1_ok nmX1 0 (by decide) (by decide +kernel) rfl rfl rfl rfl (Nat.le_of_ble_eq_true rfl) dX1_join_2 (fun H locs hP hD hS => ?_)
  have hY := hY.put_th (nI 0) mk
  have hF := (FRM.rf (hm := hm) (sz := sz) (wo := wo) (tr := tr) (L := L) (f := f)).put_hm (e := eO 1 [.int (nI 0), .int mk, .ref cu, .ref rs, .ref td, .ref sz, .ref wo])
  obtain ⟨⟨hmm, hem⟩, ⟨hmc, gc, hec, hRc⟩, ⟨hmr, Gr, her, hGr⟩, hrr, ⟨hmt, Gt, het, hGt⟩, htr, hnt, ⟨hms, hes⟩, ⟨hmw, hew⟩⟩ := id hY
  refine lv_iload_n hC.1 hC.2.1 dX1_join_5 rfl (lv_at hl 1 rfl) ?_
  refine p_cs (n := 1) (m_isWord_t l ((nI_leI (by omega) (by omega)).mpr (by omega)) ((nI_leI (by omega) (by omega)).mpr (by omega))) hC gX1_join_X1_isWord rfl (by decide +kernel) rfl ⟨by decide, by decide⟩ ⟨by simp only [rD]; omega, by simp only [rD]; omega⟩ hl.1 (Nat.le_of_ble_eq_true rfl) dX1_join_6 rfl ?_
  refine z_if_eq (tgt := 19) hC dX1_join_9 (by decide) (by omega) (fun h_9 => by omega) (fun h_9 => ?_)
  refine lv_iload_n hC.1 hC.2.1 dX1_join_12 rfl (lv_at hl 2 rfl) ?_
  refine p_cs (n := 1) (m_isWord_t l ((nI_leI (by omega) (by omega)).mpr (by omega)) ((nI_leI (by omega) (by omega)).mpr (by omega))) hC gX1_join_X1_isWord rfl (by decide +kernel) rfl ⟨by decide, by decide⟩ ⟨by simp only [rD]; omega, by simp only [rD]; omega⟩ hl.1 (Nat.le_of_ble_eq_true rfl) dX1_join_13 rfl ?_
  refine z_if_ne (tgt := 25) hC dX1_join_16 (by decide) (by omega) (fun h_16 => ?_) (fun h_16 => by omega)
  refine lv_aload_n hC.1 hC.2.1 dX1_join_25 rfl (lv_at hl 0 rfl) ?_
  refine p_get (ref := "CornerCubeModel") hC hE hP hmm hem rfl (by decide +kernel) 5 (by decide) (by decide +kernel) rfl rfl dX1_join_26 ?_
  refine lv_iload_n hC.1 hC.2.1 dX1_join_29 rfl (lv_at hl 2 rfl) ?_
  refine p_iald hC hE hP hms hes (by omega) (by decide) dX1_join_30 ?_
  refine q_i (nI (wd v).length) ((hMS _ (by omega)).1) ?_
  refine lv_istore_n (lv' := [(3, .int (nI (wd v).length)), (0, .ref hm), (1, .int (nI w)), (2, .int (nI v))]) hC.1 hC.2.1 dX1_join_31 rfl hl (by decide) rfl (fun ls hl => ?_)
  refine lv_aload_n hC.1 hC.2.1 dX1_join_32 rfl (lv_at hl 1 rfl) ?_
  refine p_get (ref := "CornerCubeModel") hC hE hP hmm hem rfl (by decide +kernel) 5 (by decide) (by decide +kernel) rfl rfl dX1_join_33 ?_
  refine lv_iload_n hC.1 hC.2.1 dX1_join_36 rfl (lv_at hl 2 rfl) ?_
  refine p_iald hC hE hP hms hes (by omega) (by decide) dX1_join_37 ?_
  refine q_i (nI (wd w).length) ((hMS _ (by omega)).1) ?_
  refine lv_iload_n hC.1 hC.2.1 dX1_join_38 rfl (lv_at hl 0 rfl) ?_
  refine z_iadd hC dX1_join_39 ?_
  refine lv_bipush (v := (nI 12)) hC.1 hC.2.1 dX1_join_40 (by decide) ?_
  refine z_icmp_le (tgt := 51) hC dX1_join_42 (by decide) (by omega) (by omega) (fun h_42 => ?_) (fun h_42 => by omega)
  have loop : ∀ (n : Nat) (k : Nat) (N1 V1 : Nat → Int32) (f1 : Nat → va_E) (H : Heap) (locs : List Loc), k + n = (wd v).length → MY T L f1 hm rs td sz wo rr tr cu (nI 0) mk b N1 V1 → MS N1 V1 (wset wd w (wd w ++ (wd v).take k)) → FRM hm sz wo tr L f L f1 → va_P D vwCl (va_pl L f1) H → va_D (zA z0) (va_pl L f1) → va_S (zA z0) s.heap H locs → ∀ ls : Array Slot, lv_has ls 5 [(0, .ref hm), (1, .int (nI w)), (2, .int (nI v)), (3, .int (nI (wd v).length)), (4, .int (nI k))] → W p l e (rD (40) 0 0) s m args below meth c H locs (0) (0) (MQ below (HVQ D z0 (MPo T L f hm rs td sz wo rr tr cu (.int (nI ((wd w).length + (wd v).length))) (nI 0) mk b (wset wd w (wd w ++ wd v)))) args s 0 0 (zA z0)) (F0 m 54 ls []) := by
    intro n
    induction n with
    | zero =>
      intro k N1 V1 f1 H locs hk hY hMS hF hP hD hS ls hl
      obtain ⟨⟨hmm, hem⟩, ⟨hmc, gc, hec, hRc⟩, ⟨hmr, Gr, her, hGr⟩, hrr, ⟨hmt, Gt, het, hGt⟩, htr, hnt, ⟨hms, hes⟩, ⟨hmw, hew⟩⟩ := id hY
      have hkt : k = (wd v).length := by omega
      have hMS : MS N1 V1 (wset wd w (wd w ++ wd v)) := by rw [hkt, List.take_of_length_le (Nat.le_refl _)] at hMS; exact hMS
      have hsz2 : N1 w = nI ((wd w).length + (wd v).length) := by have h9 := (hMS w hw).1; rw [wset_same, List.length_append] at h9; exact h9
      refine lv_iload hC.1 hC.2.1 dX1_join_54 (lv_at hl 4 rfl) ?_
      refine lv_iload_n hC.1 hC.2.1 dX1_join_56 rfl (lv_at hl 3 rfl) ?_
      refine z_icmp_ge (tgt := 83) hC dX1_join_57 (by decide) (by omega) (by omega) (fun h_57 => ?_) (fun h_57 => by omega)
      refine lv_aload_n hC.1 hC.2.1 dX1_join_83 rfl (lv_at hl 0 rfl) ?_
      refine p_get (ref := "CornerCubeModel") hC hE hP hmm hem rfl (by decide +kernel) 5 (by decide) (by decide +kernel) rfl rfl dX1_join_84 ?_
      refine lv_iload_n hC.1 hC.2.1 dX1_join_87 rfl (lv_at hl 1 rfl) ?_
      refine p_iald hC hE hP hms hes (by omega) (by decide) dX1_join_88 ?_
      refine q_i (nI ((wd w).length + (wd v).length)) (hsz2) ?_
      exact HV.iret hC hr hlk hP hD hS (by omega) (by omega) dX1_join_89 (⟨rfl, cu, Or.inl rfl, ⟨_, _, hY, hvb, hMS⟩, hF⟩)
    | succ n ih =>
      intro k N1 V1 f1 H locs hk hY hMS hF hP hD hS ls hl
      obtain ⟨⟨hmm, hem⟩, ⟨hmc, gc, hec, hRc⟩, ⟨hmr, Gr, her, hGr⟩, hrr, ⟨hmt, Gt, het, hGt⟩, htr, hnt, ⟨hms, hes⟩, ⟨hmw, hew⟩⟩ := id hY
      have hkv : k < (wd v).length := by omega
      have hlk : ((wd v).take k).length = k := by rw [List.length_take]; omega
      have hrd : V1 (12 * v + k) = nI ((wd v).getD k 0) ∧ (wd v).getD k 0 < 9 := by
        have h9 := (hMS v hv5).2.2 k
        by_cases e : v = w
        · subst e
          rw [wset_same] at h9
          rw [gd_l hkv] at h9
          exact h9 (by rw [List.length_append]; omega)
        · have e2 : (wset wd w (wd w ++ (wd v).take k)) v = wd v := if_neg e
          rw [e2] at h9
          exact h9 hkv
      obtain ⟨hrd, hrd9⟩ := hrd
      refine lv_iload hC.1 hC.2.1 dX1_join_54 (lv_at hl 4 rfl) ?_
      refine lv_iload_n hC.1 hC.2.1 dX1_join_56 rfl (lv_at hl 3 rfl) ?_
      refine z_icmp_ge (tgt := 83) hC dX1_join_57 (by decide) (by omega) (by omega) (fun h_57 => by omega) (fun h_57 => ?_)
      refine lv_aload_n hC.1 hC.2.1 dX1_join_60 rfl (lv_at hl 0 rfl) ?_
      refine lv_iload_n hC.1 hC.2.1 dX1_join_61 rfl (lv_at hl 1 rfl) ?_
      refine lv_aload_n hC.1 hC.2.1 dX1_join_62 rfl (lv_at hl 0 rfl) ?_
      refine p_get (ref := "CornerCubeModel") hC hE hP hmm hem rfl (by decide +kernel) 6 (by decide) (by decide +kernel) rfl rfl dX1_join_63 ?_
      refine lv_bipush (v := (nI 12)) hC.1 hC.2.1 dX1_join_66 (by decide) ?_
      refine lv_iload_n hC.1 hC.2.1 dX1_join_68 rfl (lv_at hl 2 rfl) ?_
      refine z_imul hC dX1_join_69 ?_
      refine lv_iload hC.1 hC.2.1 dX1_join_70 (lv_at hl 4 rfl) ?_
      refine z_iadd hC dX1_join_72 ?_
      refine p_iald hC hE hP hmw hew (by have := (hMS v hv5).2.1; omega) (by decide) dX1_join_73 ?_
      refine q_i (nI ((wd v).getD k 0)) (hrd) ?_
      refine p_cvH (n := 2) (m_put l hY hMS hw (by rw [wset_same, List.length_append, hlk]; omega) hrd9) hC hE hP hD hS (hmm) (hem) rfl gX1_join_X1_put rfl (by decide +kernel) rfl ⟨by decide, by decide⟩ ⟨by simp only [rD]; omega, by simp only [rD]; omega⟩ hl.1 (Nat.le_of_ble_eq_true rfl) dX1_join_74 rfl (fun o L2 f2 H locs hpost hP hD hS => ?_)
      obtain ⟨rfl, hLe, ⟨N2, V2, hY, hMS⟩, hF2⟩ := hpost
      rw [hLe] at hP hD
      have hF : FRM hm sz wo tr L f L f2 := fun a ha => ⟨ha, fun h1 h2 h3 h4 => ((hF2 a ha).2 h1 h2 h3 h4).trans ((hF a ha).2 h1 h2 h3 h4)⟩
      obtain ⟨⟨hmm, hem⟩, ⟨hmc, gc, hec, hRc⟩, ⟨hmr, Gr, her, hGr⟩, hrr, ⟨hmt, Gt, het, hGt⟩, htr, hnt, ⟨hms, hes⟩, ⟨hmw, hew⟩⟩ := id hY
      have hMS : MS N2 V2 (wset wd w (wd w ++ (wd v).take (k + 1))) := by rw [wset_wset, wset_same, List.append_assoc, ← take_gd hkv] at hMS; exact hMS
      refine lv_iinc (v := nI (k + 1)) (lv' := [(4, .int (nI (k + 1))), (0, .ref hm), (1, .int (nI w)), (2, .int (nI v)), (3, .int (nI (wd v).length))]) hC.1 hC.2.1 dX1_join_77 hl (k := 4) rfl (z_inc _) (by decide) rfl (fun ls hl => ?_)
      refine lv_goto (tgt := 54) hC.1 hC.2.1 dX1_join_80 (by decide) ?_
      exact ih (k + 1) _ _ _ _ _ (by omega) hY hMS hF hP hD hS ls (lv_sub hl [1, 2, 3, 4, 0] rfl)
  refine lv_iconst (v := (nI 0)) hC.1 hC.2.1 dX1_join_51 (by decide) ?_
  refine lv_istore (lv' := [(4, .int (nI 0)), (3, .int (nI (wd v).length)), (0, .ref hm), (1, .int (nI w)), (2, .int (nI v))]) hC.1 hC.2.1 dX1_join_52 hl (by decide) rfl (fun ls hl => ?_)
  exact loop (wd v).length 0 _ _ _ _ _ (Nat.zero_add _) hY (by rw [List.take_zero, List.append_nil, wset_id]; exact hMS) hF hP hD hS ls (lv_sub hl [2, 3, 4, 1, 0] rfl)
