/-! MY ROWS 24: the reference's public methods where they answer, the rest (laid by a program of mine) -/
theorem bk_lt (b : Nat → Nat) : ∀ k, k ≤ 8 → ∀ i, bkN b k i < 24
  | 0, _, i => by show 0 < 24; decide
  | k + 1, h, i => by
    show (if i = b k % 8 then k + 8 * ((3 - b k / 8) % 3) else bkN b k i) < 24
    split
    · omega
    · exact bk_lt b k (by omega) i
theorem iv_Va (b : Nat → Nat) : Va (iv b) := fun i _ => bk_lt b 8 (Nat.le_refl 8) i
set_option maxHeartbeats 4000000 in
set_option maxRecDepth 100000 in
theorem mg_same (l : Launch) {D : va_G} {T : ClassId × ClassId × ClassId} {z0 : Nat} {L : List Nat} {f : Nat → va_E} {hm rs td sz wo : Nat} {rr tr : Nat → Nat} {cu : Nat} {th mk : Int32} {b : Nat → Nat} {wd : Nat → List Nat} (hZ : MZ T L f hm rs td sz wo rr tr cu th mk b wd) {w v : Nat} (hw : w < 5) (hv5 : v < 5) : HV l yX1_same wsX1_same (40) 28 448 D z0 (zPre D T z0 L f) [.ref hm, .int (nI w), .int (nI v)] (MPo T L f hm rs td sz wo rr tr cu (.int (nI (if nRt (comp (deed (wd w)) (iv (deed (wd v)))) = 8 then 1 else 0))) (nI 0) mk b wd) := by
  refine HV.of (cc := cX1_same) (maxL := 3) (ret := (some .boolean)) (by decide) rfl (Nat.le_of_ble_eq_true rfl) ?_
  intro p e s m args below meth c hC hr hlk hin hB ls hl
  have hl : lv_has ls 3 [(0, .ref hm), (1, .int (nI w)), (2, .int (nI v))] := hl
  obtain ⟨hE, hP, hD⟩ := hB
  have hS : va_S (zA z0) s.heap s.heap [] := va_S.rf
  obtain ⟨Nn, V, hY, hvb, hMS⟩ := id hZ
  obtain ⟨⟨hmm, hem⟩, ⟨hmc, gc, hec, hRc⟩, ⟨hmr, Gr, her, hGr⟩, hrr, ⟨hmt, Gt, het, hGt⟩, htr, hnt, ⟨hms, hes⟩, ⟨hmw, hew⟩⟩ := id hY
  have hv1 : Va (deed (wd w)) := deed_Va _
  have hv2 : Va (deed (wd v)) := deed_Va _
  have hv3 : Va (iv (deed (wd v))) := iv_Va _
  refine lv_aload_n hC.1 hC.2.1 dX1_same_0 rfl (lv_at hl 0 rfl) ?_
  refine lv_iconst (v := (nI 0)) hC.1 hC.2.1 dX1_same_1 (by decide) ?_
  refine p_put (ref := "CornerCubeModel") (ty0 := tyX1) hC hE hP hD hS hmm hem rfl (by decide +kernel) tyX1_ok nmX1 0 (by decide) (by decide +kernel) rfl rfl rfl rfl (Nat.le_of_ble_eq_true rfl) dX1_same_2 (fun H locs hP hD hS => ?_)
  have hY := hY.put_th (nI 0) mk
  have hF := (FRM.rf (hm := hm) (sz := sz) (wo := wo) (tr := tr) (L := L) (f := f)).put_hm (e := eO 1 [.int (nI 0), .int mk, .ref cu, .ref rs, .ref td, .ref sz, .ref wo])
  obtain ⟨⟨hmm, hem⟩, ⟨hmc, gc, hec, hRc⟩, ⟨hmr, Gr, her, hGr⟩, hrr, ⟨hmt, Gt, het, hGt⟩, htr, hnt, ⟨hms, hes⟩, ⟨hmw, hew⟩⟩ := id hY
  refine lv_iload_n hC.1 hC.2.1 dX1_same_5 rfl (lv_at hl 1 rfl) ?_
  refine p_cs (n := 1) (m_isWord_t l ((nI_leI (by omega) (by omega)).mpr (by omega)) ((nI_leI (by omega) (by omega)).mpr (by omega))) hC gX1_same_X1_isWord rfl (by decide +kernel) rfl ⟨by decide, by decide⟩ ⟨by simp only [rD]; omega, by simp only [rD]; omega⟩ hl.1 (Nat.le_of_ble_eq_true rfl) dX1_same_6 rfl ?_
  refine z_if_eq (tgt := 19) hC dX1_same_9 (by decide) (by omega) (fun h_9 => by omega) (fun h_9 => ?_)
  refine lv_iload_n hC.1 hC.2.1 dX1_same_12 rfl (lv_at hl 2 rfl) ?_
  refine p_cs (n := 1) (m_isWord_t l ((nI_leI (by omega) (by omega)).mpr (by omega)) ((nI_leI (by omega) (by omega)).mpr (by omega))) hC gX1_same_X1_isWord rfl (by decide +kernel) rfl ⟨by decide, by decide⟩ ⟨by simp only [rD]; omega, by simp only [rD]; omega⟩ hl.1 (Nat.le_of_ble_eq_true rfl) dX1_same_13 rfl ?_
  refine z_if_ne (tgt := 33) hC dX1_same_16 (by decide) (by omega) (fun h_16 => ?_) (fun h_16 => by omega)
  refine lv_aload_n hC.1 hC.2.1 dX1_same_33 rfl (lv_at hl 0 rfl) ?_
  refine lv_iload_n hC.1 hC.2.1 dX1_same_34 rfl (lv_at hl 1 rfl) ?_
  refine p_cvH (n := 1) (m_rowOf l hY hMS hw) hC hE hP hD hS (hmm) (hem) rfl gX1_same_X1_rowOf rfl (by decide +kernel) rfl ⟨by decide, by decide⟩ ⟨by simp only [rD]; omega, by simp only [rD]; omega⟩ hl.1 (Nat.le_of_ble_eq_true rfl) dX1_same_35 rfl (fun o L2 f2 H locs hpost hP hD hS => ?_)
  obtain ⟨y1, rfl, hq1⟩ := hpost.get
  obtain ⟨g1, he1, hR1⟩ := hq1.2.2.2
  have hy1 := hq1.2.1
  have hY := hY.keep hq1.2.2.1
  have hF := hF.keep hq1.2.2.1
  obtain ⟨⟨hmm, hem⟩, ⟨hmc, gc, hec, hRc⟩, ⟨hmr, Gr, her, hGr⟩, hrr, ⟨hmt, Gt, het, hGt⟩, htr, hnt, ⟨hms, hes⟩, ⟨hmw, hew⟩⟩ := id hY
  refine lv_aload_n hC.1 hC.2.1 dX1_same_38 rfl (lv_at hl 0 rfl) ?_
  refine lv_iload_n hC.1 hC.2.1 dX1_same_39 rfl (lv_at hl 2 rfl) ?_
  refine p_cvH (n := 1) (m_rowOf l hY hMS hv5) hC hE hP hD hS (hmm) (hem) rfl gX1_same_X1_rowOf rfl (by decide +kernel) rfl ⟨by decide, by decide⟩ ⟨by simp only [rD]; omega, by simp only [rD]; omega⟩ hl.1 (Nat.le_of_ble_eq_true rfl) dX1_same_40 rfl (fun o L3 f3 H locs hpost hP hD hS => ?_)
  obtain ⟨y2, rfl, hq2⟩ := hpost.get
  obtain ⟨g2, he2, hR2⟩ := hq2.2.2.2
  have hy2 := hq2.2.1
  have he1 := (hq2.2.2.1 _ hy1).2.trans he1
  have hy1 := (hq2.2.2.1 _ hy1).1
  have hY := hY.keep hq2.2.2.1
  have hF := hF.keep hq2.2.2.1
  obtain ⟨⟨hmm, hem⟩, ⟨hmc, gc, hec, hRc⟩, ⟨hmr, Gr, her, hGr⟩, hrr, ⟨hmt, Gt, het, hGt⟩, htr, hnt, ⟨hms, hes⟩, ⟨hmw, hew⟩⟩ := id hY
  refine p_csH (n := 1) (m_back l hy2 he2 hR2 (hv2)) hC hE hP hD hS gX1_same_X1_back rfl (by decide +kernel) rfl ⟨by decide, by decide⟩ ⟨by simp only [rD]; omega, by simp only [rD]; omega⟩ hl.1 (Nat.le_of_ble_eq_true rfl) dX1_same_43 rfl (fun o L4 f4 H locs hpost hP hD hS => ?_)
  obtain ⟨y3, rfl, hq3⟩ := hpost.get
  obtain ⟨g3, he3, hR3⟩ := hq3.2.2.2
  have hy3 := hq3.2.1
  have he1 := (hq3.2.2.1 _ hy1).2.trans he1
  have hy1 := (hq3.2.2.1 _ hy1).1
  have he2 := (hq3.2.2.1 _ hy2).2.trans he2
  have hy2 := (hq3.2.2.1 _ hy2).1
  have hY := hY.keep hq3.2.2.1
  have hF := hF.keep hq3.2.2.1
  obtain ⟨⟨hmm, hem⟩, ⟨hmc, gc, hec, hRc⟩, ⟨hmr, Gr, her, hGr⟩, hrr, ⟨hmt, Gt, het, hGt⟩, htr, hnt, ⟨hms, hes⟩, ⟨hmw, hew⟩⟩ := id hY
  refine p_csH (n := 2) (m_then l hy1 hy3 he1 he3 hR1 hR3 hv1 hv3) hC hE hP hD hS gX1_same_X1_then rfl (by decide +kernel) rfl ⟨by decide, by decide⟩ ⟨by simp only [rD]; omega, by simp only [rD]; omega⟩ hl.1 (Nat.le_of_ble_eq_true rfl) dX1_same_46 rfl (fun o L5 f5 H locs hpost hP hD hS => ?_)
  obtain ⟨y4, rfl, hq4⟩ := hpost.get
  obtain ⟨g4, he4, hR4⟩ := hq4.2.2.2
  have hy4 := hq4.2.1
  have he1 := (hq4.2.2.1 _ hy1).2.trans he1
  have hy1 := (hq4.2.2.1 _ hy1).1
  have he2 := (hq4.2.2.1 _ hy2).2.trans he2
  have hy2 := (hq4.2.2.1 _ hy2).1
  have he3 := (hq4.2.2.1 _ hy3).2.trans he3
  have hy3 := (hq4.2.2.1 _ hy3).1
  have hY := hY.keep hq4.2.2.1
  have hF := hF.keep hq4.2.2.1
  obtain ⟨⟨hmm, hem⟩, ⟨hmc, gc, hec, hRc⟩, ⟨hmr, Gr, her, hGr⟩, hrr, ⟨hmt, Gt, het, hGt⟩, htr, hnt, ⟨hms, hes⟩, ⟨hmw, hew⟩⟩ := id hY
  refine lv_iconst (v := (nI 1)) hC.1 hC.2.1 dX1_same_49 (by decide) ?_
  refine p_csB (n := 2) (m_many l hy4 he4 hR4 (comp_Va _ _) (what := 1) (by decide) (by decide)) hC hE hP hD hS gX1_same_X1_many rfl (by decide +kernel) rfl ⟨by decide, by decide⟩ ⟨by simp only [rD]; omega, by simp only [rD]; omega⟩ hl.1 (Nat.le_of_ble_eq_true rfl) dX1_same_50 rfl ?_
  refine q_i (nI (nRt (comp (deed (wd w)) (iv (deed (wd v)))))) (by rw [many_1 (comp_Va _ _)]) ?_
  refine lv_bipush (v := (nI 8)) hC.1 hC.2.1 dX1_same_53 (by decide) ?_
  refine z_icmp_ne (tgt := 62) hC dX1_same_55 (by decide) (by first | exact nRt_lt _ | decide) (by first | exact nRt_lt _ | decide) (fun h_55 => ?_) (fun h_55 => ?_)
  · refine lv_iconst (v := (nI 0)) hC.1 hC.2.1 dX1_same_62 (by decide) ?_
    exact HV.zret hC hr hlk hP hD hS (by omega) (by omega) dX1_same_63 (by decide) (by rw [if_neg h_55]; exact ⟨rfl, cu, Or.inl rfl, ⟨_, _, hY, hvb, hMS⟩, hF⟩)
  · refine lv_iconst (v := (nI 1)) hC.1 hC.2.1 dX1_same_58 (by decide) ?_
    refine lv_goto (tgt := 63) hC.1 hC.2.1 dX1_same_59 (by decide) ?_
    exact HV.zret hC hr hlk hP hD hS (by omega) (by omega) dX1_same_63 (by decide) (by rw [if_pos h_55]; exact ⟨rfl, cu, Or.inl rfl, ⟨_, _, hY, hvb, hMS⟩, hF⟩)

set_option maxHeartbeats 4000000 in
set_option maxRecDepth 100000 in
theorem mg_mixed (l : Launch) {D : va_G} {T : ClassId × ClassId × ClassId} {z0 : Nat} {L : List Nat} {f : Nat → va_E} {hm rs td sz wo : Nat} {rr tr : Nat → Nat} {cu : Nat} {th mk : Int32} {b : Nat → Nat} {wd : Nat → List Nat} (hZ : MZ T L f hm rs td sz wo rr tr cu th mk b wd) {w v : Nat} (hw : w < 5) (hv5 : v < 5) : HV l yX1_mixed wsX1_mixed (40) 31 496 D z0 (zPre D T z0 L f) [.ref hm, .int (nI w), .int (nI v)] (MPo T L f hm rs td sz wo rr tr cu (.int (nI (8 - nRt (comp (comp (deed (wd w)) (deed (wd v))) (comp (iv (deed (wd w))) (iv (deed (wd v)))))))) (nI 0) mk b wd) := by
  have hv9 := hv5
  refine HV.of (cc := cX1_mixed) (maxL := 5) (ret := (some .int)) (by decide) rfl (Nat.le_of_ble_eq_true rfl) ?_
  intro p e s m args below meth c hC hr hlk hin hB ls hl
  have hl : lv_has ls 5 [(0, .ref hm), (1, .int (nI w)), (2, .int (nI v))] := hl
  obtain ⟨hE, hP, hD⟩ := hB
  have hS : va_S (zA z0) s.heap s.heap [] := va_S.rf
  obtain ⟨Nn, V, hY, hvb, hMS⟩ := id hZ
  obtain ⟨⟨hmm, hem⟩, ⟨hmc, gc, hec, hRc⟩, ⟨hmr, Gr, her, hGr⟩, hrr, ⟨hmt, Gt, het, hGt⟩, htr, hnt, ⟨hms, hes⟩, ⟨hmw, hew⟩⟩ := id hY
  have hv1 : Va (deed (wd w)) := deed_Va _
  have hv2 : Va (deed (wd v)) := deed_Va _
  have hv3 := comp_Va (deed (wd w)) (deed (wd v))
  have hv4 : Va (iv (deed (wd w))) := iv_Va _
  have hv5 : Va (iv (deed (wd v))) := iv_Va _
  have hv6 := comp_Va (iv (deed (wd w))) (iv (deed (wd v)))
  refine lv_aload_n hC.1 hC.2.1 dX1_mixed_0 rfl (lv_at hl 0 rfl) ?_
  refine lv_iconst (v := (nI 0)) hC.1 hC.2.1 dX1_mixed_1 (by decide) ?_
  refine p_put (ref := "CornerCubeModel") (ty0 := tyX1) hC hE hP hD hS hmm hem rfl (by decide +kernel) tyX1_ok nmX1 0 (by decide) (by decide +kernel) rfl rfl rfl rfl (Nat.le_of_ble_eq_true rfl) dX1_mixed_2 (fun H locs hP hD hS => ?_)
  have hY := hY.put_th (nI 0) mk
  have hF := (FRM.rf (hm := hm) (sz := sz) (wo := wo) (tr := tr) (L := L) (f := f)).put_hm (e := eO 1 [.int (nI 0), .int mk, .ref cu, .ref rs, .ref td, .ref sz, .ref wo])
  obtain ⟨⟨hmm, hem⟩, ⟨hmc, gc, hec, hRc⟩, ⟨hmr, Gr, her, hGr⟩, hrr, ⟨hmt, Gt, het, hGt⟩, htr, hnt, ⟨hms, hes⟩, ⟨hmw, hew⟩⟩ := id hY
  refine lv_iload_n hC.1 hC.2.1 dX1_mixed_5 rfl (lv_at hl 1 rfl) ?_
  refine p_cs (n := 1) (m_isWord_t l ((nI_leI (by omega) (by omega)).mpr (by omega)) ((nI_leI (by omega) (by omega)).mpr (by omega))) hC gX1_mixed_X1_isWord rfl (by decide +kernel) rfl ⟨by decide, by decide⟩ ⟨by simp only [rD]; omega, by simp only [rD]; omega⟩ hl.1 (Nat.le_of_ble_eq_true rfl) dX1_mixed_6 rfl ?_
  refine z_if_eq (tgt := 19) hC dX1_mixed_9 (by decide) (by omega) (fun h_9 => by omega) (fun h_9 => ?_)
  refine lv_iload_n hC.1 hC.2.1 dX1_mixed_12 rfl (lv_at hl 2 rfl) ?_
  refine p_cs (n := 1) (m_isWord_t l ((nI_leI (by omega) (by omega)).mpr (by omega)) ((nI_leI (by omega) (by omega)).mpr (by omega))) hC gX1_mixed_X1_isWord rfl (by decide +kernel) rfl ⟨by decide, by decide⟩ ⟨by simp only [rD]; omega, by simp only [rD]; omega⟩ hl.1 (Nat.le_of_ble_eq_true rfl) dX1_mixed_13 rfl ?_
  refine z_if_ne (tgt := 25) hC dX1_mixed_16 (by decide) (by omega) (fun h_16 => ?_) (fun h_16 => by omega)
  refine lv_aload_n hC.1 hC.2.1 dX1_mixed_25 rfl (lv_at hl 0 rfl) ?_
  refine lv_iload_n hC.1 hC.2.1 dX1_mixed_26 rfl (lv_at hl 1 rfl) ?_
  refine p_cvH (n := 1) (m_rowOf l hY hMS hw) hC hE hP hD hS (hmm) (hem) rfl gX1_mixed_X1_rowOf rfl (by decide +kernel) rfl ⟨by decide, by decide⟩ ⟨by simp only [rD]; omega, by simp only [rD]; omega⟩ hl.1 (Nat.le_of_ble_eq_true rfl) dX1_mixed_27 rfl (fun o L2 f2 H locs hpost hP hD hS => ?_)
  obtain ⟨y1, rfl, hq1⟩ := hpost.get
  obtain ⟨g1, he1, hR1⟩ := hq1.2.2.2
  have hy1 := hq1.2.1
  have hY := hY.keep hq1.2.2.1
  have hF := hF.keep hq1.2.2.1
  obtain ⟨⟨hmm, hem⟩, ⟨hmc, gc, hec, hRc⟩, ⟨hmr, Gr, her, hGr⟩, hrr, ⟨hmt, Gt, het, hGt⟩, htr, hnt, ⟨hms, hes⟩, ⟨hmw, hew⟩⟩ := id hY
  refine lv_astore_n (lv' := [(3, .ref y1), (0, .ref hm), (1, .int (nI w)), (2, .int (nI v))]) hC.1 hC.2.1 dX1_mixed_30 rfl hl (by decide) rfl (fun ls hl => ?_)
  refine lv_aload_n hC.1 hC.2.1 dX1_mixed_31 rfl (lv_at hl 1 rfl) ?_
  refine lv_iload_n hC.1 hC.2.1 dX1_mixed_32 rfl (lv_at hl 3 rfl) ?_
  refine p_cvH (n := 1) (m_rowOf l hY hMS hv9) hC hE hP hD hS (hmm) (hem) rfl gX1_mixed_X1_rowOf rfl (by decide +kernel) rfl ⟨by decide, by decide⟩ ⟨by simp only [rD]; omega, by simp only [rD]; omega⟩ hl.1 (Nat.le_of_ble_eq_true rfl) dX1_mixed_33 rfl (fun o L3 f3 H locs hpost hP hD hS => ?_)
  obtain ⟨y2, rfl, hq2⟩ := hpost.get
  obtain ⟨g2, he2, hR2⟩ := hq2.2.2.2
  have hy2 := hq2.2.1
  have he1 := (hq2.2.2.1 _ hy1).2.trans he1
  have hy1 := (hq2.2.2.1 _ hy1).1
  have hY := hY.keep hq2.2.2.1
  have hF := hF.keep hq2.2.2.1
  obtain ⟨⟨hmm, hem⟩, ⟨hmc, gc, hec, hRc⟩, ⟨hmr, Gr, her, hGr⟩, hrr, ⟨hmt, Gt, het, hGt⟩, htr, hnt, ⟨hms, hes⟩, ⟨hmw, hew⟩⟩ := id hY
  refine lv_astore (lv' := [(4, .ref y2), (3, .ref y1), (0, .ref hm), (1, .int (nI w)), (2, .int (nI v))]) hC.1 hC.2.1 dX1_mixed_36 hl (by decide) rfl (fun ls hl => ?_)
  refine lv_bipush (v := (nI 8)) hC.1 hC.2.1 dX1_mixed_38 (by decide) ?_
  refine lv_aload_n hC.1 hC.2.1 dX1_mixed_40 rfl (lv_at hl 1 rfl) ?_
  refine lv_aload hC.1 hC.2.1 dX1_mixed_41 (lv_at hl 0 rfl) ?_
  refine p_csH (n := 2) (m_then l hy1 hy2 he1 he2 hR1 hR2 hv1 hv2) hC hE hP hD hS gX1_mixed_X1_then rfl (by decide +kernel) rfl ⟨by decide, by decide⟩ ⟨by simp only [rD]; omega, by simp only [rD]; omega⟩ hl.1 (Nat.le_of_ble_eq_true rfl) dX1_mixed_43 rfl (fun o L4 f4 H locs hpost hP hD hS => ?_)
  obtain ⟨y3, rfl, hq3⟩ := hpost.get
  obtain ⟨g3, he3, hR3⟩ := hq3.2.2.2
  have hy3 := hq3.2.1
  have he1 := (hq3.2.2.1 _ hy1).2.trans he1
  have hy1 := (hq3.2.2.1 _ hy1).1
  have he2 := (hq3.2.2.1 _ hy2).2.trans he2
  have hy2 := (hq3.2.2.1 _ hy2).1
  have hY := hY.keep hq3.2.2.1
  have hF := hF.keep hq3.2.2.1
  obtain ⟨⟨hmm, hem⟩, ⟨hmc, gc, hec, hRc⟩, ⟨hmr, Gr, her, hGr⟩, hrr, ⟨hmt, Gt, het, hGt⟩, htr, hnt, ⟨hms, hes⟩, ⟨hmw, hew⟩⟩ := id hY
  refine lv_aload_n hC.1 hC.2.1 dX1_mixed_46 rfl (lv_at hl 1 rfl) ?_
  refine p_csH (n := 1) (m_back l hy1 he1 hR1 (hv1)) hC hE hP hD hS gX1_mixed_X1_back rfl (by decide +kernel) rfl ⟨by decide, by decide⟩ ⟨by simp only [rD]; omega, by simp only [rD]; omega⟩ hl.1 (Nat.le_of_ble_eq_true rfl) dX1_mixed_47 rfl (fun o L5 f5 H locs hpost hP hD hS => ?_)
  obtain ⟨y4, rfl, hq4⟩ := hpost.get
  obtain ⟨g4, he4, hR4⟩ := hq4.2.2.2
  have hy4 := hq4.2.1
  have he1 := (hq4.2.2.1 _ hy1).2.trans he1
  have hy1 := (hq4.2.2.1 _ hy1).1
  have he2 := (hq4.2.2.1 _ hy2).2.trans he2
  have hy2 := (hq4.2.2.1 _ hy2).1
  have he3 := (hq4.2.2.1 _ hy3).2.trans he3
  have hy3 := (hq4.2.2.1 _ hy3).1
  have hY := hY.keep hq4.2.2.1
  have hF := hF.keep hq4.2.2.1
  obtain ⟨⟨hmm, hem⟩, ⟨hmc, gc, hec, hRc⟩, ⟨hmr, Gr, her, hGr⟩, hrr, ⟨hmt, Gt, het, hGt⟩, htr, hnt, ⟨hms, hes⟩, ⟨hmw, hew⟩⟩ := id hY
  refine lv_aload hC.1 hC.2.1 dX1_mixed_50 (lv_at hl 0 rfl) ?_
  refine p_csH (n := 1) (m_back l hy2 he2 hR2 (hv2)) hC hE hP hD hS gX1_mixed_X1_back rfl (by decide +kernel) rfl ⟨by decide, by decide⟩ ⟨by simp only [rD]; omega, by simp only [rD]; omega⟩ hl.1 (Nat.le_of_ble_eq_true rfl) dX1_mixed_52 rfl (fun o L6 f6 H locs hpost hP hD hS => ?_)
  obtain ⟨y5, rfl, hq5⟩ := hpost.get
  obtain ⟨g5, he5, hR5⟩ := hq5.2.2.2
  have hy5 := hq5.2.1
  have he1 := (hq5.2.2.1 _ hy1).2.trans he1
  have hy1 := (hq5.2.2.1 _ hy1).1
  have he2 := (hq5.2.2.1 _ hy2).2.trans he2
  have hy2 := (hq5.2.2.1 _ hy2).1
  have he3 := (hq5.2.2.1 _ hy3).2.trans he3
  have hy3 := (hq5.2.2.1 _ hy3).1
  have he4 := (hq5.2.2.1 _ hy4).2.trans he4
  have hy4 := (hq5.2.2.1 _ hy4).1
  have hY := hY.keep hq5.2.2.1
  have hF := hF.keep hq5.2.2.1
  obtain ⟨⟨hmm, hem⟩, ⟨hmc, gc, hec, hRc⟩, ⟨hmr, Gr, her, hGr⟩, hrr, ⟨hmt, Gt, het, hGt⟩, htr, hnt, ⟨hms, hes⟩, ⟨hmw, hew⟩⟩ := id hY
  refine p_csH (n := 2) (m_then l hy4 hy5 he4 he5 hR4 hR5 hv4 hv5) hC hE hP hD hS gX1_mixed_X1_then rfl (by decide +kernel) rfl ⟨by decide, by decide⟩ ⟨by simp only [rD]; omega, by simp only [rD]; omega⟩ hl.1 (Nat.le_of_ble_eq_true rfl) dX1_mixed_55 rfl (fun o L7 f7 H locs hpost hP hD hS => ?_)
  obtain ⟨y6, rfl, hq6⟩ := hpost.get
  obtain ⟨g6, he6, hR6⟩ := hq6.2.2.2
  have hy6 := hq6.2.1
  have he1 := (hq6.2.2.1 _ hy1).2.trans he1
  have hy1 := (hq6.2.2.1 _ hy1).1
  have he2 := (hq6.2.2.1 _ hy2).2.trans he2
  have hy2 := (hq6.2.2.1 _ hy2).1
  have he3 := (hq6.2.2.1 _ hy3).2.trans he3
  have hy3 := (hq6.2.2.1 _ hy3).1
  have he4 := (hq6.2.2.1 _ hy4).2.trans he4
  have hy4 := (hq6.2.2.1 _ hy4).1
  have he5 := (hq6.2.2.1 _ hy5).2.trans he5
  have hy5 := (hq6.2.2.1 _ hy5).1
  have hY := hY.keep hq6.2.2.1
  have hF := hF.keep hq6.2.2.1
  obtain ⟨⟨hmm, hem⟩, ⟨hmc, gc, hec, hRc⟩, ⟨hmr, Gr, her, hGr⟩, hrr, ⟨hmt, Gt, het, hGt⟩, htr, hnt, ⟨hms, hes⟩, ⟨hmw, hew⟩⟩ := id hY
  refine p_csH (n := 2) (m_then l hy3 hy6 he3 he6 hR3 hR6 hv3 hv6) hC hE hP hD hS gX1_mixed_X1_then rfl (by decide +kernel) rfl ⟨by decide, by decide⟩ ⟨by simp only [rD]; omega, by simp only [rD]; omega⟩ hl.1 (Nat.le_of_ble_eq_true rfl) dX1_mixed_58 rfl (fun o L8 f8 H locs hpost hP hD hS => ?_)
  obtain ⟨y7, rfl, hq7⟩ := hpost.get
  obtain ⟨g7, he7, hR7⟩ := hq7.2.2.2
  have hy7 := hq7.2.1
  have he1 := (hq7.2.2.1 _ hy1).2.trans he1
  have hy1 := (hq7.2.2.1 _ hy1).1
  have he2 := (hq7.2.2.1 _ hy2).2.trans he2
  have hy2 := (hq7.2.2.1 _ hy2).1
  have he3 := (hq7.2.2.1 _ hy3).2.trans he3
  have hy3 := (hq7.2.2.1 _ hy3).1
  have he4 := (hq7.2.2.1 _ hy4).2.trans he4
  have hy4 := (hq7.2.2.1 _ hy4).1
  have he5 := (hq7.2.2.1 _ hy5).2.trans he5
  have hy5 := (hq7.2.2.1 _ hy5).1
  have he6 := (hq7.2.2.1 _ hy6).2.trans he6
  have hy6 := (hq7.2.2.1 _ hy6).1
  have hY := hY.keep hq7.2.2.1
  have hF := hF.keep hq7.2.2.1
  obtain ⟨⟨hmm, hem⟩, ⟨hmc, gc, hec, hRc⟩, ⟨hmr, Gr, her, hGr⟩, hrr, ⟨hmt, Gt, het, hGt⟩, htr, hnt, ⟨hms, hes⟩, ⟨hmw, hew⟩⟩ := id hY
  refine lv_iconst (v := (nI 1)) hC.1 hC.2.1 dX1_mixed_61 (by decide) ?_
  refine p_csB (n := 2) (m_many l hy7 he7 hR7 (comp_Va _ _) (what := 1) (by decide) (by decide)) hC hE hP hD hS gX1_mixed_X1_many rfl (by decide +kernel) rfl ⟨by decide, by decide⟩ ⟨by simp only [rD]; omega, by simp only [rD]; omega⟩ hl.1 (Nat.le_of_ble_eq_true rfl) dX1_mixed_62 rfl ?_
  refine q_i (nI (nRt (comp (comp (deed (wd w)) (deed (wd v))) (comp (iv (deed (wd w))) (iv (deed (wd v))))))) (by rw [many_1 (comp_Va _ _)]) ?_
  refine z_isub hC dX1_mixed_65 (ct_le _ 8) ?_
  exact HV.iret hC hr hlk hP hD hS (by omega) (by omega) dX1_mixed_66 (⟨rfl, cu, Or.inl rfl, ⟨_, _, hY, hvb, hMS⟩, hF⟩)

set_option maxHeartbeats 4000000 in
set_option maxRecDepth 100000 in
theorem mg_far (l : Launch) {D : va_G} {T : ClassId × ClassId × ClassId} {z0 : Nat} {L : List Nat} {f : Nat → va_E} {hm rs td sz wo : Nat} {rr tr : Nat → Nat} {cu : Nat} {th mk : Int32} {b : Nat → Nat} {wd : Nat → List Nat} (hZ : MZ T L f hm rs td sz wo rr tr cu th mk b wd) {most : Nat} (hmost : most ≤ 5) {N : Nat} (hN : N ≤ most) (h1 : ∀ k, k < N → cm k b 3 = false) (h2 : cm N b 3 = true) : HV l yX1_far wsX1_far (40) 0 0 D z0 (zPre D T z0 L f) [.ref hm, .int (nI most)] (MPo T L f hm rs td sz wo rr tr cu (.int (nI N)) (nI 0) mk b wd) := by
  refine HV.of (cc := cX1_far) (maxL := 2) (ret := (some .int)) (by decide) rfl (Nat.le_of_ble_eq_true rfl) ?_
  intro p e s m args below meth c hC hr hlk hin hB ls hl
  have hl : lv_has ls 2 [(0, .ref hm), (1, .int (nI most))] := hl
  obtain ⟨hE, hP, hD⟩ := hB
  have hS : va_S (zA z0) s.heap s.heap [] := va_S.rf
  obtain ⟨Nn, V, hY, hvb, hMS⟩ := id hZ
  obtain ⟨⟨hmm, hem⟩, ⟨hmc, gc, hec, hRc⟩, ⟨hmr, Gr, her, hGr⟩, hrr, ⟨hmt, Gt, het, hGt⟩, htr, hnt, ⟨hms, hes⟩, ⟨hmw, hew⟩⟩ := id hY
  refine lv_aload_n hC.1 hC.2.1 dX1_far_0 rfl (lv_at hl 0 rfl) ?_
  refine lv_iconst (v := (nI 0)) hC.1 hC.2.1 dX1_far_1 (by decide) ?_
  refine p_put (ref := "CornerCubeModel") (ty0 := tyX1) hC hE hP hD hS hmm hem rfl (by decide +kernel) tyX1_ok nmX1 0 (by decide) (by decide +kernel) rfl rfl rfl rfl (Nat.le_of_ble_eq_true rfl) dX1_far_2 (fun H locs hP hD hS => ?_)
  have hY := hY.put_th (nI 0) mk
  have hF := (FRM.rf (hm := hm) (sz := sz) (wo := wo) (tr := tr) (L := L) (f := f)).put_hm (e := eO 1 [.int (nI 0), .int mk, .ref cu, .ref rs, .ref td, .ref sz, .ref wo])
  obtain ⟨⟨hmm, hem⟩, ⟨hmc, gc, hec, hRc⟩, ⟨hmr, Gr, her, hGr⟩, hrr, ⟨hmt, Gt, het, hGt⟩, htr, hnt, ⟨hms, hes⟩, ⟨hmw, hew⟩⟩ := id hY
  refine lv_iload_n hC.1 hC.2.1 dX1_far_5 rfl (lv_at hl 1 rfl) ?_
  refine lv_iconst (v := (nI 0)) hC.1 hC.2.1 dX1_far_6 (by decide) ?_
  refine lv_iconst (v := (nI 5)) hC.1 hC.2.1 dX1_far_7 (by decide) ?_
  refine p_cs (n := 3) (m_isIn_t l ((nI_leI (by omega) (by omega)).mpr (by omega)) ((nI_leI (by omega) (by omega)).mpr (by omega))) hC gX1_far_X1_isIn rfl (by decide +kernel) rfl ⟨by decide, by decide⟩ ⟨by simp only [rD]; omega, by simp only [rD]; omega⟩ hl.1 (Nat.le_of_ble_eq_true rfl) dX1_far_8 rfl ?_
  refine z_if_eq (tgt := 26) hC dX1_far_11 (by decide) (by omega) (fun h_11 => by omega) (fun h_11 => ?_)
  refine lv_aload_n hC.1 hC.2.1 dX1_far_14 rfl (lv_at hl 0 rfl) ?_
  refine lv_aload_n hC.1 hC.2.1 dX1_far_15 rfl (lv_at hl 0 rfl) ?_
  refine p_get (ref := "CornerCubeModel") hC hE hP hmm hem rfl (by decide +kernel) 2 (by decide) (by decide +kernel) rfl rfl dX1_far_16 ?_
  refine lv_iload_n hC.1 hC.2.1 dX1_far_19 rfl (lv_at hl 1 rfl) ?_
  refine p_cvH (n := 2) (m_farOf l hY hmc hec hRc hvb (fun k hk e => (hnt k hk).1 e.symm) hmost hN h1 h2) hC hE hP hD hS (hmm) (hem) rfl gX1_far_X1_farOf rfl (by decide +kernel) rfl ⟨by decide, by decide⟩ ⟨by simp only [rD]; omega, by simp only [rD]; omega⟩ hl.1 (Nat.le_of_ble_eq_true rfl) dX1_far_20 rfl (fun o L2 f2 H locs hpost hP hD hS => ?_)
  obtain ⟨rfl, hLe, hT⟩ := hpost
  rw [hLe] at hP hD
  have hY := hY.tru hT
  have hF := hF.tru hT
  obtain ⟨⟨hmm, hem⟩, ⟨hmc, gc, hec, hRc⟩, ⟨hmr, Gr, her, hGr⟩, hrr, ⟨hmt, Gt, het, hGt⟩, htr, hnt, ⟨hms, hes⟩, ⟨hmw, hew⟩⟩ := id hY
  refine lv_goto (tgt := 31) hC.1 hC.2.1 dX1_far_23 (by decide) ?_
  exact HV.iret hC hr hlk hP hD hS (by omega) (by omega) dX1_far_31 (⟨rfl, cu, Or.inl rfl, ⟨_, _, hY, hvb, hMS⟩, hF⟩)

set_option maxHeartbeats 4000000 in
set_option maxRecDepth 100000 in
theorem mg_shortest (l : Launch) {D : va_G} {T : ClassId × ClassId × ClassId} {z0 : Nat} {L : List Nat} {f : Nat → va_E} {hm rs td sz wo : Nat} {rr tr : Nat → Nat} {cu : Nat} {th mk : Int32} {b : Nat → Nat} {wd : Nat → List Nat} (hZ : MZ T L f hm rs td sz wo rr tr cu th mk b wd) {w : Nat} (hw : w < 5) {most : Nat} (hmost : most ≤ 5) {N : Nat} (hN : N ≤ most) (h1 : ∀ k, k < N → cm k (deed (wd w)) 3 = false) (h2 : cm N (deed (wd w)) 3 = true) : HV l yX1_shortest wsX1_shortest (40) 13 208 D z0 (zPre D T z0 L f) [.ref hm, .int (nI w), .int (nI most)] (MPo T L f hm rs td sz wo rr tr cu (.int (nI N)) (nI 0) mk b wd) := by
  refine HV.of (cc := cX1_shortest) (maxL := 3) (ret := (some .int)) (by decide) rfl (Nat.le_of_ble_eq_true rfl) ?_
  intro p e s m args below meth c hC hr hlk hin hB ls hl
  have hl : lv_has ls 3 [(0, .ref hm), (1, .int (nI w)), (2, .int (nI most))] := hl
  obtain ⟨hE, hP, hD⟩ := hB
  have hS : va_S (zA z0) s.heap s.heap [] := va_S.rf
  obtain ⟨Nn, V, hY, hvb, hMS⟩ := id hZ
  obtain ⟨⟨hmm, hem⟩, ⟨hmc, gc, hec, hRc⟩, ⟨hmr, Gr, her, hGr⟩, hrr, ⟨hmt, Gt, het, hGt⟩, htr, hnt, ⟨hms, hes⟩, ⟨hmw, hew⟩⟩ := id hY
  refine lv_aload_n hC.1 hC.2.1 dX1_shortest_0 rfl (lv_at hl 0 rfl) ?_
  refine lv_iconst (v := (nI 0)) hC.1 hC.2.1 dX1_shortest_1 (by decide) ?_
  refine p_put (ref := "CornerCubeModel") (ty0 := tyX1) hC hE hP hD hS hmm hem rfl (by decide +kernel) tyX1_ok nmX1 0 (by decide) (by decide +kernel) rfl rfl rfl rfl (Nat.le_of_ble_eq_true rfl) dX1_shortest_2 (fun H locs hP hD hS => ?_)
  have hY := hY.put_th (nI 0) mk
  have hF := (FRM.rf (hm := hm) (sz := sz) (wo := wo) (tr := tr) (L := L) (f := f)).put_hm (e := eO 1 [.int (nI 0), .int mk, .ref cu, .ref rs, .ref td, .ref sz, .ref wo])
  obtain ⟨⟨hmm, hem⟩, ⟨hmc, gc, hec, hRc⟩, ⟨hmr, Gr, her, hGr⟩, hrr, ⟨hmt, Gt, het, hGt⟩, htr, hnt, ⟨hms, hes⟩, ⟨hmw, hew⟩⟩ := id hY
  refine lv_iload_n hC.1 hC.2.1 dX1_shortest_5 rfl (lv_at hl 1 rfl) ?_
  refine p_cs (n := 1) (m_isWord_t l ((nI_leI (by omega) (by omega)).mpr (by omega)) ((nI_leI (by omega) (by omega)).mpr (by omega))) hC gX1_shortest_X1_isWord rfl (by decide +kernel) rfl ⟨by decide, by decide⟩ ⟨by simp only [rD]; omega, by simp only [rD]; omega⟩ hl.1 (Nat.le_of_ble_eq_true rfl) dX1_shortest_6 rfl ?_
  refine z_if_ne (tgt := 18) hC dX1_shortest_9 (by decide) (by omega) (fun h_9 => ?_) (fun h_9 => by omega)
  refine lv_iload_n hC.1 hC.2.1 dX1_shortest_18 rfl (lv_at hl 2 rfl) ?_
  refine lv_iconst (v := (nI 0)) hC.1 hC.2.1 dX1_shortest_19 (by decide) ?_
  refine lv_iconst (v := (nI 5)) hC.1 hC.2.1 dX1_shortest_20 (by decide) ?_
  refine p_cs (n := 3) (m_isIn_t l ((nI_leI (by omega) (by omega)).mpr (by omega)) ((nI_leI (by omega) (by omega)).mpr (by omega))) hC gX1_shortest_X1_isIn rfl (by decide +kernel) rfl ⟨by decide, by decide⟩ ⟨by simp only [rD]; omega, by simp only [rD]; omega⟩ hl.1 (Nat.le_of_ble_eq_true rfl) dX1_shortest_21 rfl ?_
  refine z_if_eq (tgt := 40) hC dX1_shortest_24 (by decide) (by omega) (fun h_24 => by omega) (fun h_24 => ?_)
  refine lv_aload_n hC.1 hC.2.1 dX1_shortest_27 rfl (lv_at hl 0 rfl) ?_
  refine lv_aload_n hC.1 hC.2.1 dX1_shortest_28 rfl (lv_at hl 0 rfl) ?_
  refine lv_iload_n hC.1 hC.2.1 dX1_shortest_29 rfl (lv_at hl 1 rfl) ?_
  refine p_cvH (n := 1) (m_rowOf l hY hMS hw) hC hE hP hD hS (hmm) (hem) rfl gX1_shortest_X1_rowOf rfl (by decide +kernel) rfl ⟨by decide, by decide⟩ ⟨by simp only [rD]; omega, by simp only [rD]; omega⟩ hl.1 (Nat.le_of_ble_eq_true rfl) dX1_shortest_30 rfl (fun o L2 f2 H locs hpost hP hD hS => ?_)
  obtain ⟨y1, rfl, hq1⟩ := hpost.get
  obtain ⟨g1, he1, hR1⟩ := hq1.2.2.2
  have hy1 := hq1.2.1
  have hcy : ∀ k, k < 6 → tr k ≠ y1 := fun k hk e => hq1.1 (e ▸ (htr k hk).1)
  have hY := hY.keep hq1.2.2.1
  have hF := hF.keep hq1.2.2.1
  obtain ⟨⟨hmm, hem⟩, ⟨hmc, gc, hec, hRc⟩, ⟨hmr, Gr, her, hGr⟩, hrr, ⟨hmt, Gt, het, hGt⟩, htr, hnt, ⟨hms, hes⟩, ⟨hmw, hew⟩⟩ := id hY
  refine lv_iload_n hC.1 hC.2.1 dX1_shortest_33 rfl (lv_at hl 2 rfl) ?_
  refine p_cvH (n := 2) (m_farOf l hY hy1 he1 hR1 (deed_Va _) (fun k hk e => hcy k hk e.symm) hmost hN h1 h2) hC hE hP hD hS (hmm) (hem) rfl gX1_shortest_X1_farOf rfl (by decide +kernel) rfl ⟨by decide, by decide⟩ ⟨by simp only [rD]; omega, by simp only [rD]; omega⟩ hl.1 (Nat.le_of_ble_eq_true rfl) dX1_shortest_34 rfl (fun o L3 f3 H locs hpost hP hD hS => ?_)
  obtain ⟨rfl, hLe, hT⟩ := hpost
  rw [hLe] at hP hD
  have hY := hY.tru hT
  have hF := hF.tru hT
  obtain ⟨⟨hmm, hem⟩, ⟨hmc, gc, hec, hRc⟩, ⟨hmr, Gr, her, hGr⟩, hrr, ⟨hmt, Gt, het, hGt⟩, htr, hnt, ⟨hms, hes⟩, ⟨hmw, hew⟩⟩ := id hY
  refine lv_goto (tgt := 45) hC.1 hC.2.1 dX1_shortest_37 (by decide) ?_
  exact HV.iret hC hr hlk hP hD hS (by omega) (by omega) dX1_shortest_45 (⟨rfl, cu, Or.inl rfl, ⟨_, _, hY, hvb, hMS⟩, hF⟩)

set_option maxHeartbeats 4000000 in
set_option maxRecDepth 100000 in
theorem mg_farN (l : Launch) {D : va_G} {T : ClassId × ClassId × ClassId} {z0 : Nat} {L : List Nat} {f : Nat → va_E} {hm rs td sz wo : Nat} {rr tr : Nat → Nat} {cu : Nat} {th mk : Int32} {b : Nat → Nat} {wd : Nat → List Nat} (hZ : MZ T L f hm rs td sz wo rr tr cu th mk b wd) {most : Nat} (hmost : most ≤ 5) (h1 : ∀ k, k ≤ most → cm k b 3 = false) : HV l yX1_far wsX1_far (40) 0 0 D z0 (zPre D T z0 L f) [.ref hm, .int (nI most)] (MPo T L f hm rs td sz wo rr tr cu (.int (-1)) (nI 0) mk b wd) := by
  refine HV.of (cc := cX1_far) (maxL := 2) (ret := (some .int)) (by decide) rfl (Nat.le_of_ble_eq_true rfl) ?_
  intro p e s m args below meth c hC hr hlk hin hB ls hl
  have hl : lv_has ls 2 [(0, .ref hm), (1, .int (nI most))] := hl
  obtain ⟨hE, hP, hD⟩ := hB
  have hS : va_S (zA z0) s.heap s.heap [] := va_S.rf
  obtain ⟨Nn, V, hY, hvb, hMS⟩ := id hZ
  obtain ⟨⟨hmm, hem⟩, ⟨hmc, gc, hec, hRc⟩, ⟨hmr, Gr, her, hGr⟩, hrr, ⟨hmt, Gt, het, hGt⟩, htr, hnt, ⟨hms, hes⟩, ⟨hmw, hew⟩⟩ := id hY
  refine lv_aload_n hC.1 hC.2.1 dX1_far_0 rfl (lv_at hl 0 rfl) ?_
  refine lv_iconst (v := (nI 0)) hC.1 hC.2.1 dX1_far_1 (by decide) ?_
  refine p_put (ref := "CornerCubeModel") (ty0 := tyX1) hC hE hP hD hS hmm hem rfl (by decide +kernel) tyX1_ok nmX1 0 (by decide) (by decide +kernel) rfl rfl rfl rfl (Nat.le_of_ble_eq_true rfl) dX1_far_2 (fun H locs hP hD hS => ?_)
  have hY := hY.put_th (nI 0) mk
  have hF := (FRM.rf (hm := hm) (sz := sz) (wo := wo) (tr := tr) (L := L) (f := f)).put_hm (e := eO 1 [.int (nI 0), .int mk, .ref cu, .ref rs, .ref td, .ref sz, .ref wo])
  obtain ⟨⟨hmm, hem⟩, ⟨hmc, gc, hec, hRc⟩, ⟨hmr, Gr, her, hGr⟩, hrr, ⟨hmt, Gt, het, hGt⟩, htr, hnt, ⟨hms, hes⟩, ⟨hmw, hew⟩⟩ := id hY
  refine lv_iload_n hC.1 hC.2.1 dX1_far_5 rfl (lv_at hl 1 rfl) ?_
  refine lv_iconst (v := (nI 0)) hC.1 hC.2.1 dX1_far_6 (by decide) ?_
  refine lv_iconst (v := (nI 5)) hC.1 hC.2.1 dX1_far_7 (by decide) ?_
  refine p_cs (n := 3) (m_isIn_t l ((nI_leI (by omega) (by omega)).mpr (by omega)) ((nI_leI (by omega) (by omega)).mpr (by omega))) hC gX1_far_X1_isIn rfl (by decide +kernel) rfl ⟨by decide, by decide⟩ ⟨by simp only [rD]; omega, by simp only [rD]; omega⟩ hl.1 (Nat.le_of_ble_eq_true rfl) dX1_far_8 rfl ?_
  refine z_if_eq (tgt := 26) hC dX1_far_11 (by decide) (by omega) (fun h_11 => by omega) (fun h_11 => ?_)
  refine lv_aload_n hC.1 hC.2.1 dX1_far_14 rfl (lv_at hl 0 rfl) ?_
  refine lv_aload_n hC.1 hC.2.1 dX1_far_15 rfl (lv_at hl 0 rfl) ?_
  refine p_get (ref := "CornerCubeModel") hC hE hP hmm hem rfl (by decide +kernel) 2 (by decide) (by decide +kernel) rfl rfl dX1_far_16 ?_
  refine lv_iload_n hC.1 hC.2.1 dX1_far_19 rfl (lv_at hl 1 rfl) ?_
  refine p_cvH (n := 2) (m_farOfN l hY hmc hec hRc hvb (fun k hk e => (hnt k hk).1 e.symm) hmost h1) hC hE hP hD hS (hmm) (hem) rfl gX1_far_X1_farOf rfl (by decide +kernel) rfl ⟨by decide, by decide⟩ ⟨by simp only [rD]; omega, by simp only [rD]; omega⟩ hl.1 (Nat.le_of_ble_eq_true rfl) dX1_far_20 rfl (fun o L2 f2 H locs hpost hP hD hS => ?_)
  obtain ⟨rfl, hLe, hT⟩ := hpost
  rw [hLe] at hP hD
  have hY := hY.tru hT
  have hF := hF.tru hT
  obtain ⟨⟨hmm, hem⟩, ⟨hmc, gc, hec, hRc⟩, ⟨hmr, Gr, her, hGr⟩, hrr, ⟨hmt, Gt, het, hGt⟩, htr, hnt, ⟨hms, hes⟩, ⟨hmw, hew⟩⟩ := id hY
  refine lv_goto (tgt := 31) hC.1 hC.2.1 dX1_far_23 (by decide) ?_
  exact HV.iret hC hr hlk hP hD hS (by omega) (by omega) dX1_far_31 (⟨rfl, cu, Or.inl rfl, ⟨_, _, hY, hvb, hMS⟩, hF⟩)

set_option maxHeartbeats 4000000 in
set_option maxRecDepth 100000 in
theorem mg_shortestN (l : Launch) {D : va_G} {T : ClassId × ClassId × ClassId} {z0 : Nat} {L : List Nat} {f : Nat → va_E} {hm rs td sz wo : Nat} {rr tr : Nat → Nat} {cu : Nat} {th mk : Int32} {b : Nat → Nat} {wd : Nat → List Nat} (hZ : MZ T L f hm rs td sz wo rr tr cu th mk b wd) {w : Nat} (hw : w < 5) {most : Nat} (hmost : most ≤ 5) (h1 : ∀ k, k ≤ most → cm k (deed (wd w)) 3 = false) : HV l yX1_shortest wsX1_shortest (40) 13 208 D z0 (zPre D T z0 L f) [.ref hm, .int (nI w), .int (nI most)] (MPo T L f hm rs td sz wo rr tr cu (.int (-1)) (nI 0) mk b wd) := by
  refine HV.of (cc := cX1_shortest) (maxL := 3) (ret := (some .int)) (by decide) rfl (Nat.le_of_ble_eq_true rfl) ?_
  intro p e s m args below meth c hC hr hlk hin hB ls hl
  have hl : lv_has ls 3 [(0, .ref hm), (1, .int (nI w)), (2, .int (nI most))] := hl
  obtain ⟨hE, hP, hD⟩ := hB
  have hS : va_S (zA z0) s.heap s.heap [] := va_S.rf
  obtain ⟨Nn, V, hY, hvb, hMS⟩ := id hZ
  obtain ⟨⟨hmm, hem⟩, ⟨hmc, gc, hec, hRc⟩, ⟨hmr, Gr, her, hGr⟩, hrr, ⟨hmt, Gt, het, hGt⟩, htr, hnt, ⟨hms, hes⟩, ⟨hmw, hew⟩⟩ := id hY
  refine lv_aload_n hC.1 hC.2.1 dX1_shortest_0 rfl (lv_at hl 0 rfl) ?_
  refine lv_iconst (v := (nI 0)) hC.1 hC.2.1 dX1_shortest_1 (by decide) ?_
  refine p_put (ref := "CornerCubeModel") (ty0 := tyX1) hC hE hP hD hS hmm hem rfl (by decide +kernel) tyX1_ok nmX1 0 (by decide) (by decide +kernel) rfl rfl rfl rfl (Nat.le_of_ble_eq_true rfl) dX1_shortest_2 (fun H locs hP hD hS => ?_)
  have hY := hY.put_th (nI 0) mk
  have hF := (FRM.rf (hm := hm) (sz := sz) (wo := wo) (tr := tr) (L := L) (f := f)).put_hm (e := eO 1 [.int (nI 0), .int mk, .ref cu, .ref rs, .ref td, .ref sz, .ref wo])
  obtain ⟨⟨hmm, hem⟩, ⟨hmc, gc, hec, hRc⟩, ⟨hmr, Gr, her, hGr⟩, hrr, ⟨hmt, Gt, het, hGt⟩, htr, hnt, ⟨hms, hes⟩, ⟨hmw, hew⟩⟩ := id hY
  refine lv_iload_n hC.1 hC.2.1 dX1_shortest_5 rfl (lv_at hl 1 rfl) ?_
  refine p_cs (n := 1) (m_isWord_t l ((nI_leI (by omega) (by omega)).mpr (by omega)) ((nI_leI (by omega) (by omega)).mpr (by omega))) hC gX1_shortest_X1_isWord rfl (by decide +kernel) rfl ⟨by decide, by decide⟩ ⟨by simp only [rD]; omega, by simp only [rD]; omega⟩ hl.1 (Nat.le_of_ble_eq_true rfl) dX1_shortest_6 rfl ?_
  refine z_if_ne (tgt := 18) hC dX1_shortest_9 (by decide) (by omega) (fun h_9 => ?_) (fun h_9 => by omega)
  refine lv_iload_n hC.1 hC.2.1 dX1_shortest_18 rfl (lv_at hl 2 rfl) ?_
  refine lv_iconst (v := (nI 0)) hC.1 hC.2.1 dX1_shortest_19 (by decide) ?_
  refine lv_iconst (v := (nI 5)) hC.1 hC.2.1 dX1_shortest_20 (by decide) ?_
  refine p_cs (n := 3) (m_isIn_t l ((nI_leI (by omega) (by omega)).mpr (by omega)) ((nI_leI (by omega) (by omega)).mpr (by omega))) hC gX1_shortest_X1_isIn rfl (by decide +kernel) rfl ⟨by decide, by decide⟩ ⟨by simp only [rD]; omega, by simp only [rD]; omega⟩ hl.1 (Nat.le_of_ble_eq_true rfl) dX1_shortest_21 rfl ?_
  refine z_if_eq (tgt := 40) hC dX1_shortest_24 (by decide) (by omega) (fun h_24 => by omega) (fun h_24 => ?_)
  refine lv_aload_n hC.1 hC.2.1 dX1_shortest_27 rfl (lv_at hl 0 rfl) ?_
  refine lv_aload_n hC.1 hC.2.1 dX1_shortest_28 rfl (lv_at hl 0 rfl) ?_
  refine lv_iload_n hC.1 hC.2.1 dX1_shortest_29 rfl (lv_at hl 1 rfl) ?_
  refine p_cvH (n := 1) (m_rowOf l hY hMS hw) hC hE hP hD hS (hmm) (hem) rfl gX1_shortest_X1_rowOf rfl (by decide +kernel) rfl ⟨by decide, by decide⟩ ⟨by simp only [rD]; omega, by simp only [rD]; omega⟩ hl.1 (Nat.le_of_ble_eq_true rfl) dX1_shortest_30 rfl (fun o L2 f2 H locs hpost hP hD hS => ?_)
  obtain ⟨y1, rfl, hq1⟩ := hpost.get
  obtain ⟨g1, he1, hR1⟩ := hq1.2.2.2
  have hy1 := hq1.2.1
  have hcy : ∀ k, k < 6 → tr k ≠ y1 := fun k hk e => hq1.1 (e ▸ (htr k hk).1)
  have hY := hY.keep hq1.2.2.1
  have hF := hF.keep hq1.2.2.1
  obtain ⟨⟨hmm, hem⟩, ⟨hmc, gc, hec, hRc⟩, ⟨hmr, Gr, her, hGr⟩, hrr, ⟨hmt, Gt, het, hGt⟩, htr, hnt, ⟨hms, hes⟩, ⟨hmw, hew⟩⟩ := id hY
  refine lv_iload_n hC.1 hC.2.1 dX1_shortest_33 rfl (lv_at hl 2 rfl) ?_
  refine p_cvH (n := 2) (m_farOfN l hY hy1 he1 hR1 (deed_Va _) (fun k hk e => hcy k hk e.symm) hmost h1) hC hE hP hD hS (hmm) (hem) rfl gX1_shortest_X1_farOf rfl (by decide +kernel) rfl ⟨by decide, by decide⟩ ⟨by simp only [rD]; omega, by simp only [rD]; omega⟩ hl.1 (Nat.le_of_ble_eq_true rfl) dX1_shortest_34 rfl (fun o L3 f3 H locs hpost hP hD hS => ?_)
  obtain ⟨rfl, hLe, hT⟩ := hpost
  rw [hLe] at hP hD
  have hY := hY.tru hT
  have hF := hF.tru hT
  obtain ⟨⟨hmm, hem⟩, ⟨hmc, gc, hec, hRc⟩, ⟨hmr, Gr, her, hGr⟩, hrr, ⟨hmt, Gt, het, hGt⟩, htr, hnt, ⟨hms, hes⟩, ⟨hmw, hew⟩⟩ := id hY
  refine lv_goto (tgt := 45) hC.1 hC.2.1 dX1_shortest_37 (by decide) ?_
  exact HV.iret hC hr hlk hP hD hS (by omega) (by omega) dX1_shortest_45 (⟨rfl, cu, Or.inl rfl, ⟨_, _, hY, hvb, hMS⟩, hF⟩)

set_option maxHeartbeats 4000000 in
set_option maxRecDepth 100000 in
theorem mg_firstN (l : Launch) {D : va_G} {T : ClassId × ClassId × ClassId} {z0 : Nat} {L : List Nat} {f : Nat → va_E} {hm rs td sz wo : Nat} {rr tr : Nat → Nat} {cu : Nat} {th mk : Int32} {b : Nat → Nat} {wd : Nat → List Nat} (hZ : MZ T L f hm rs td sz wo rr tr cu th mk b wd) {most : Nat} (hmost : most ≤ 5) (h1 : ∀ k, k ≤ most → cm k b 3 = false) : HV l yX1_first wsX1_first (40) 0 0 D z0 (zPre D T z0 L f) [.ref hm, .int (nI most)] (MPo T L f hm rs td sz wo rr tr cu (.int (-1)) (nI 0) mk b wd) := by
  refine HV.of (cc := cX1_first) (maxL := 4) (ret := (some .int)) (by decide) rfl (Nat.le_of_ble_eq_true rfl) ?_
  intro p e s m args below meth c hC hr hlk hin hB ls hl
  have hl : lv_has ls 4 [(0, .ref hm), (1, .int (nI most))] := hl
  obtain ⟨hE, hP, hD⟩ := hB
  have hS : va_S (zA z0) s.heap s.heap [] := va_S.rf
  obtain ⟨Nn, V, hY, hvb, hMS⟩ := id hZ
  obtain ⟨⟨hmm, hem⟩, ⟨hmc, gc, hec, hRc⟩, ⟨hmr, Gr, her, hGr⟩, hrr, ⟨hmt, Gt, het, hGt⟩, htr, hnt, ⟨hms, hes⟩, ⟨hmw, hew⟩⟩ := id hY
  refine lv_aload_n hC.1 hC.2.1 dX1_first_0 rfl (lv_at hl 0 rfl) ?_
  refine lv_iconst (v := (nI 0)) hC.1 hC.2.1 dX1_first_1 (by decide) ?_
  refine p_put (ref := "CornerCubeModel") (ty0 := tyX1) hC hE hP hD hS hmm hem rfl (by decide +kernel) tyX1_ok nmX1 0 (by decide) (by decide +kernel) rfl rfl rfl rfl (Nat.le_of_ble_eq_true rfl) dX1_first_2 (fun H locs hP hD hS => ?_)
  have hY := hY.put_th (nI 0) mk
  have hF := (FRM.rf (hm := hm) (sz := sz) (wo := wo) (tr := tr) (L := L) (f := f)).put_hm (e := eO 1 [.int (nI 0), .int mk, .ref cu, .ref rs, .ref td, .ref sz, .ref wo])
  obtain ⟨⟨hmm, hem⟩, ⟨hmc, gc, hec, hRc⟩, ⟨hmr, Gr, her, hGr⟩, hrr, ⟨hmt, Gt, het, hGt⟩, htr, hnt, ⟨hms, hes⟩, ⟨hmw, hew⟩⟩ := id hY
  refine lv_iload_n hC.1 hC.2.1 dX1_first_5 rfl (lv_at hl 1 rfl) ?_
  refine lv_iconst (v := (nI 0)) hC.1 hC.2.1 dX1_first_6 (by decide) ?_
  refine lv_iconst (v := (nI 5)) hC.1 hC.2.1 dX1_first_7 (by decide) ?_
  refine p_cs (n := 3) (m_isIn_t l ((nI_leI (by omega) (by omega)).mpr (by omega)) ((nI_leI (by omega) (by omega)).mpr (by omega))) hC gX1_first_X1_isIn rfl (by decide +kernel) rfl ⟨by decide, by decide⟩ ⟨by simp only [rD]; omega, by simp only [rD]; omega⟩ hl.1 (Nat.le_of_ble_eq_true rfl) dX1_first_8 rfl ?_
  refine z_if_ne (tgt := 20) hC dX1_first_11 (by decide) (by omega) (fun h_11 => ?_) (fun h_11 => by omega)
  refine lv_aload_n hC.1 hC.2.1 dX1_first_20 rfl (lv_at hl 0 rfl) ?_
  refine lv_aload_n hC.1 hC.2.1 dX1_first_21 rfl (lv_at hl 0 rfl) ?_
  refine p_get (ref := "CornerCubeModel") hC hE hP hmm hem rfl (by decide +kernel) 2 (by decide) (by decide +kernel) rfl rfl dX1_first_22 ?_
  refine lv_iload_n hC.1 hC.2.1 dX1_first_25 rfl (lv_at hl 1 rfl) ?_
  refine p_cvH (n := 2) (m_farOfN l hY hmc hec hRc hvb (fun k hk e => (hnt k hk).1 e.symm) hmost h1) hC hE hP hD hS (hmm) (hem) rfl gX1_first_X1_farOf rfl (by decide +kernel) rfl ⟨by decide, by decide⟩ ⟨by simp only [rD]; omega, by simp only [rD]; omega⟩ hl.1 (Nat.le_of_ble_eq_true rfl) dX1_first_26 rfl (fun o L2 f2 H locs hpost hP hD hS => ?_)
  obtain ⟨rfl, hLe, hT⟩ := hpost
  rw [hLe] at hP hD
  have hY := hY.tru hT
  have hF := hF.tru hT
  obtain ⟨⟨hmm, hem⟩, ⟨hmc, gc, hec, hRc⟩, ⟨hmr, Gr, her, hGr⟩, hrr, ⟨hmt, Gt, het, hGt⟩, htr, hnt, ⟨hms, hes⟩, ⟨hmw, hew⟩⟩ := id hY
  refine lv_istore_n (lv' := [(2, .int (-1)), (0, .ref hm), (1, .int (nI most))]) hC.1 hC.2.1 dX1_first_29 rfl hl (by decide) rfl (fun ls hl => ?_)
  refine lv_iconst (v := (nI 0)) hC.1 hC.2.1 dX1_first_30 (by decide) ?_
  refine lv_istore_n (lv' := [(3, .int (nI 0)), (2, .int (-1)), (0, .ref hm), (1, .int (nI most))]) hC.1 hC.2.1 dX1_first_31 rfl hl (by decide) rfl (fun ls hl => ?_)
  refine lv_iload_n hC.1 hC.2.1 dX1_first_32 rfl (lv_at hl 0 rfl) ?_
  refine lv_bipush (v := (nI 9)) hC.1 hC.2.1 dX1_first_33 (by decide) ?_
  refine z_icmp_ge (tgt := 72) hC dX1_first_35 (by decide) (by omega) (by omega) (fun h_35 => by omega) (fun h_35 => ?_)
  refine lv_iload_n hC.1 hC.2.1 dX1_first_38 rfl (lv_at hl 1 rfl) ?_
  refine lv_if_le (tgt := 72) hC.1 hC.2.1 dX1_first_39 (by decide) (fun h_39 => ?_) (fun h_39 => absurd (by decide : (-1 : Int32) ≤ 0) h_39)
  refine lv_iconst (v := (-1)) hC.1 hC.2.1 dX1_first_72 (by decide) ?_
  exact HV.iret hC hr hlk hP hD hS (by omega) (by omega) dX1_first_73 (⟨rfl, cu, Or.inl rfl, ⟨_, _, hY, hvb, hMS⟩, hF⟩)

set_option maxHeartbeats 4000000 in
set_option maxRecDepth 100000 in
theorem mg_first0 (l : Launch) {D : va_G} {T : ClassId × ClassId × ClassId} {z0 : Nat} {L : List Nat} {f : Nat → va_E} {hm rs td sz wo : Nat} {rr tr : Nat → Nat} {cu : Nat} {th mk : Int32} {b : Nat → Nat} {wd : Nat → List Nat} (hZ : MZ T L f hm rs td sz wo rr tr cu th mk b wd) {most : Nat} (hmost : most ≤ 5) (h2 : cm 0 b 3 = true) : HV l yX1_first wsX1_first (40) 0 0 D z0 (zPre D T z0 L f) [.ref hm, .int (nI most)] (MPo T L f hm rs td sz wo rr tr cu (.int (-1)) (nI 0) mk b wd) := by
  refine HV.of (cc := cX1_first) (maxL := 4) (ret := (some .int)) (by decide) rfl (Nat.le_of_ble_eq_true rfl) ?_
  intro p e s m args below meth c hC hr hlk hin hB ls hl
  have hl : lv_has ls 4 [(0, .ref hm), (1, .int (nI most))] := hl
  obtain ⟨hE, hP, hD⟩ := hB
  have hS : va_S (zA z0) s.heap s.heap [] := va_S.rf
  obtain ⟨Nn, V, hY, hvb, hMS⟩ := id hZ
  obtain ⟨⟨hmm, hem⟩, ⟨hmc, gc, hec, hRc⟩, ⟨hmr, Gr, her, hGr⟩, hrr, ⟨hmt, Gt, het, hGt⟩, htr, hnt, ⟨hms, hes⟩, ⟨hmw, hew⟩⟩ := id hY
  refine lv_aload_n hC.1 hC.2.1 dX1_first_0 rfl (lv_at hl 0 rfl) ?_
  refine lv_iconst (v := (nI 0)) hC.1 hC.2.1 dX1_first_1 (by decide) ?_
  refine p_put (ref := "CornerCubeModel") (ty0 := tyX1) hC hE hP hD hS hmm hem rfl (by decide +kernel) tyX1_ok nmX1 0 (by decide) (by decide +kernel) rfl rfl rfl rfl (Nat.le_of_ble_eq_true rfl) dX1_first_2 (fun H locs hP hD hS => ?_)
  have hY := hY.put_th (nI 0) mk
  have hF := (FRM.rf (hm := hm) (sz := sz) (wo := wo) (tr := tr) (L := L) (f := f)).put_hm (e := eO 1 [.int (nI 0), .int mk, .ref cu, .ref rs, .ref td, .ref sz, .ref wo])
  obtain ⟨⟨hmm, hem⟩, ⟨hmc, gc, hec, hRc⟩, ⟨hmr, Gr, her, hGr⟩, hrr, ⟨hmt, Gt, het, hGt⟩, htr, hnt, ⟨hms, hes⟩, ⟨hmw, hew⟩⟩ := id hY
  refine lv_iload_n hC.1 hC.2.1 dX1_first_5 rfl (lv_at hl 1 rfl) ?_
  refine lv_iconst (v := (nI 0)) hC.1 hC.2.1 dX1_first_6 (by decide) ?_
  refine lv_iconst (v := (nI 5)) hC.1 hC.2.1 dX1_first_7 (by decide) ?_
  refine p_cs (n := 3) (m_isIn_t l ((nI_leI (by omega) (by omega)).mpr (by omega)) ((nI_leI (by omega) (by omega)).mpr (by omega))) hC gX1_first_X1_isIn rfl (by decide +kernel) rfl ⟨by decide, by decide⟩ ⟨by simp only [rD]; omega, by simp only [rD]; omega⟩ hl.1 (Nat.le_of_ble_eq_true rfl) dX1_first_8 rfl ?_
  refine z_if_ne (tgt := 20) hC dX1_first_11 (by decide) (by omega) (fun h_11 => ?_) (fun h_11 => by omega)
  refine lv_aload_n hC.1 hC.2.1 dX1_first_20 rfl (lv_at hl 0 rfl) ?_
  refine lv_aload_n hC.1 hC.2.1 dX1_first_21 rfl (lv_at hl 0 rfl) ?_
  refine p_get (ref := "CornerCubeModel") hC hE hP hmm hem rfl (by decide +kernel) 2 (by decide) (by decide +kernel) rfl rfl dX1_first_22 ?_
  refine lv_iload_n hC.1 hC.2.1 dX1_first_25 rfl (lv_at hl 1 rfl) ?_
  refine p_cvH (n := 2) (m_farOf l hY hmc hec hRc hvb (fun k hk e => (hnt k hk).1 e.symm) hmost (Nat.zero_le _) (fun k hk => absurd hk (Nat.not_lt_zero k)) h2) hC hE hP hD hS (hmm) (hem) rfl gX1_first_X1_farOf rfl (by decide +kernel) rfl ⟨by decide, by decide⟩ ⟨by simp only [rD]; omega, by simp only [rD]; omega⟩ hl.1 (Nat.le_of_ble_eq_true rfl) dX1_first_26 rfl (fun o L2 f2 H locs hpost hP hD hS => ?_)
  obtain ⟨rfl, hLe, hT⟩ := hpost
  rw [hLe] at hP hD
  have hY := hY.tru hT
  have hF := hF.tru hT
  obtain ⟨⟨hmm, hem⟩, ⟨hmc, gc, hec, hRc⟩, ⟨hmr, Gr, her, hGr⟩, hrr, ⟨hmt, Gt, het, hGt⟩, htr, hnt, ⟨hms, hes⟩, ⟨hmw, hew⟩⟩ := id hY
  refine lv_istore_n (lv' := [(2, .int (nI 0)), (0, .ref hm), (1, .int (nI most))]) hC.1 hC.2.1 dX1_first_29 rfl hl (by decide) rfl (fun ls hl => ?_)
  refine lv_iconst (v := (nI 0)) hC.1 hC.2.1 dX1_first_30 (by decide) ?_
  refine lv_istore_n (lv' := [(3, .int (nI 0)), (2, .int (nI 0)), (0, .ref hm), (1, .int (nI most))]) hC.1 hC.2.1 dX1_first_31 rfl hl (by decide) rfl (fun ls hl => ?_)
  refine lv_iload_n hC.1 hC.2.1 dX1_first_32 rfl (lv_at hl 0 rfl) ?_
  refine lv_bipush (v := (nI 9)) hC.1 hC.2.1 dX1_first_33 (by decide) ?_
  refine z_icmp_ge (tgt := 72) hC dX1_first_35 (by decide) (by omega) (by omega) (fun h_35 => by omega) (fun h_35 => ?_)
  refine lv_iload_n hC.1 hC.2.1 dX1_first_38 rfl (lv_at hl 1 rfl) ?_
  refine z_if_le (tgt := 72) hC dX1_first_39 (by decide) (by omega) (fun h_39 => ?_) (fun h_39 => by omega)
  refine lv_iconst (v := (-1)) hC.1 hC.2.1 dX1_first_72 (by decide) ?_
  exact HV.iret hC hr hlk hP hD hS (by omega) (by omega) dX1_first_73 (⟨rfl, cu, Or.inl rfl, ⟨_, _, hY, hvb, hMS⟩, hF⟩)

set_option maxHeartbeats 4000000 in
set_option maxRecDepth 100000 in
theorem mg_first (l : Launch) {D : va_G} {T : ClassId × ClassId × ClassId} {z0 : Nat} {L : List Nat} {f : Nat → va_E} {hm rs td sz wo : Nat} {rr tr : Nat → Nat} {cu : Nat} {th mk : Int32} {b : Nat → Nat} {wd : Nat → List Nat} (hZ : MZ T L f hm rs td sz wo rr tr cu th mk b wd) {most N F : Nat} (hmost : most ≤ 5) (hN : N ≤ most) (hN1 : 0 < N) (h1 : ∀ k, k < N → cm k b 3 = false) (h2 : cm N b 3 = true) (hF9 : F < 9) (h3 : ∀ t, t < F → cm (N - 1) (turnC b t) (t / 3) = false) (h4 : cm (N - 1) (turnC b F) (F / 3) = true) : HV l yX1_first wsX1_first (40) 9 144 D z0 (zPre D T z0 L f) [.ref hm, .int (nI most)] (MPo T L f hm rs td sz wo rr tr cu (.int (nI F)) (nI 0) mk b wd) := by
  refine HV.of (cc := cX1_first) (maxL := 4) (ret := (some .int)) (by decide) rfl (Nat.le_of_ble_eq_true rfl) ?_
  intro p e s m args below meth c hC hr hlk hin hB ls hl
  have hl : lv_has ls 4 [(0, .ref hm), (1, .int (nI most))] := hl
  obtain ⟨hE, hP, hD⟩ := hB
  have hS : va_S (zA z0) s.heap s.heap [] := va_S.rf
  obtain ⟨Nn, V, hY, hvb, hMS⟩ := id hZ
  obtain ⟨⟨hmm, hem⟩, ⟨hmc, gc, hec, hRc⟩, ⟨hmr, Gr, her, hGr⟩, hrr, ⟨hmt, Gt, het, hGt⟩, htr, hnt, ⟨hms, hes⟩, ⟨hmw, hew⟩⟩ := id hY
  refine lv_aload_n hC.1 hC.2.1 dX1_first_0 rfl (lv_at hl 0 rfl) ?_
  refine lv_iconst (v := (nI 0)) hC.1 hC.2.1 dX1_first_1 (by decide) ?_
  refine p_put (ref := "CornerCubeModel") (ty0 := tyX1) hC hE hP hD hS hmm hem rfl (by decide +kernel) tyX1_ok nmX1 0 (by decide) (by decide +kernel) rfl rfl rfl rfl (Nat.le_of_ble_eq_true rfl) dX1_first_2 (fun H locs hP hD hS => ?_)
  have hY := hY.put_th (nI 0) mk
  have hF := (FRM.rf (hm := hm) (sz := sz) (wo := wo) (tr := tr) (L := L) (f := f)).put_hm (e := eO 1 [.int (nI 0), .int mk, .ref cu, .ref rs, .ref td, .ref sz, .ref wo])
  obtain ⟨⟨hmm, hem⟩, ⟨hmc, gc, hec, hRc⟩, ⟨hmr, Gr, her, hGr⟩, hrr, ⟨hmt, Gt, het, hGt⟩, htr, hnt, ⟨hms, hes⟩, ⟨hmw, hew⟩⟩ := id hY
  refine lv_iload_n hC.1 hC.2.1 dX1_first_5 rfl (lv_at hl 1 rfl) ?_
  refine lv_iconst (v := (nI 0)) hC.1 hC.2.1 dX1_first_6 (by decide) ?_
  refine lv_iconst (v := (nI 5)) hC.1 hC.2.1 dX1_first_7 (by decide) ?_
  refine p_cs (n := 3) (m_isIn_t l ((nI_leI (by omega) (by omega)).mpr (by omega)) ((nI_leI (by omega) (by omega)).mpr (by omega))) hC gX1_first_X1_isIn rfl (by decide +kernel) rfl ⟨by decide, by decide⟩ ⟨by simp only [rD]; omega, by simp only [rD]; omega⟩ hl.1 (Nat.le_of_ble_eq_true rfl) dX1_first_8 rfl ?_
  refine z_if_ne (tgt := 20) hC dX1_first_11 (by decide) (by omega) (fun h_11 => ?_) (fun h_11 => by omega)
  refine lv_aload_n hC.1 hC.2.1 dX1_first_20 rfl (lv_at hl 0 rfl) ?_
  refine lv_aload_n hC.1 hC.2.1 dX1_first_21 rfl (lv_at hl 0 rfl) ?_
  refine p_get (ref := "CornerCubeModel") hC hE hP hmm hem rfl (by decide +kernel) 2 (by decide) (by decide +kernel) rfl rfl dX1_first_22 ?_
  refine lv_iload_n hC.1 hC.2.1 dX1_first_25 rfl (lv_at hl 1 rfl) ?_
  refine p_cvH (n := 2) (m_farOf l hY hmc hec hRc hvb (fun k hk e => (hnt k hk).1 e.symm) hmost hN h1 h2) hC hE hP hD hS (hmm) (hem) rfl gX1_first_X1_farOf rfl (by decide +kernel) rfl ⟨by decide, by decide⟩ ⟨by simp only [rD]; omega, by simp only [rD]; omega⟩ hl.1 (Nat.le_of_ble_eq_true rfl) dX1_first_26 rfl (fun o L2 f2 H locs hpost hP hD hS => ?_)
  obtain ⟨rfl, hLe, hT⟩ := hpost
  rw [hLe] at hP hD
  have hY := hY.tru hT
  have hF := hF.tru hT
  obtain ⟨⟨hmm, hem⟩, ⟨hmc, gc, hec, hRc⟩, ⟨hmr, Gr, her, hGr⟩, hrr, ⟨hmt, Gt, het, hGt⟩, htr, hnt, ⟨hms, hes⟩, ⟨hmw, hew⟩⟩ := id hY
  refine lv_istore_n (lv' := [(2, .int (nI N)), (0, .ref hm), (1, .int (nI most))]) hC.1 hC.2.1 dX1_first_29 rfl hl (by decide) rfl (fun ls hl => ?_)
  have loop : ∀ (n : Nat) (k : Nat) (L1 : List Nat) (f1 : Nat → va_E) (H : Heap) (locs : List Loc), k + n = F → MY T L1 f1 hm rs td sz wo rr tr cu (nI 0) mk b Nn V → FRM hm sz wo tr L f L1 f1 → va_P D vwCl (va_pl L1 f1) H → va_D (zA z0) (va_pl L1 f1) → va_S (zA z0) s.heap H locs → ∀ ls : Array Slot, lv_has ls 4 [(0, .ref hm), (2, .int (nI N)), (3, .int (nI k))] → W p l e (rD (40) 9 144) s m args below meth c H locs (k) (16 * k) (MQ below (HVQ D z0 (MPo T L f hm rs td sz wo rr tr cu (.int (nI F)) (nI 0) mk b wd)) args s 9 144 (zA z0)) (F0 m 32 ls []) := by
    intro n
    induction n with
    | zero =>
      intro k L1 f1 H locs hk hY hF hP hD hS ls hl
      obtain ⟨⟨hmm, hem⟩, ⟨hmc, gc, hec, hRc⟩, ⟨hmr, Gr, her, hGr⟩, hrr, ⟨hmt, Gt, het, hGt⟩, htr, hnt, ⟨hms, hes⟩, ⟨hmw, hew⟩⟩ := id hY
      obtain rfl : k = F := by omega
      refine lv_iload_n hC.1 hC.2.1 dX1_first_32 rfl (lv_at hl 2 rfl) ?_
      refine lv_bipush (v := (nI 9)) hC.1 hC.2.1 dX1_first_33 (by decide) ?_
      refine z_icmp_ge (tgt := 72) hC dX1_first_35 (by decide) (by omega) (by omega) (fun h_35 => by omega) (fun h_35 => ?_)
      refine lv_iload_n hC.1 hC.2.1 dX1_first_38 rfl (lv_at hl 1 rfl) ?_
      refine z_if_le (tgt := 72) hC dX1_first_39 (by decide) (by omega) (fun h_39 => by omega) (fun h_39 => ?_)
      refine lv_aload_n hC.1 hC.2.1 dX1_first_42 rfl (lv_at hl 0 rfl) ?_
      refine lv_aload_n hC.1 hC.2.1 dX1_first_43 rfl (lv_at hl 0 rfl) ?_
      refine lv_aload_n hC.1 hC.2.1 dX1_first_44 rfl (lv_at hl 0 rfl) ?_
      refine p_get (ref := "CornerCubeModel") hC hE hP hmm hem rfl (by decide +kernel) 2 (by decide) (by decide +kernel) rfl rfl dX1_first_45 ?_
      refine lv_iload_n hC.1 hC.2.1 dX1_first_48 rfl (lv_at hl 2 rfl) ?_
      refine p_cvH (n := 2) (m_turned l hY hmc hec hRc hvb (t := k) (by omega)) hC hE hP hD hS (hmm) (hem) rfl gX1_first_X1_turned rfl (by decide +kernel) rfl ⟨by decide, by decide⟩ ⟨by simp only [rD]; omega, by simp only [rD]; omega⟩ hl.1 (Nat.le_of_ble_eq_true rfl) dX1_first_49 rfl (fun o L3 f3 H locs hpost hP hD hS => ?_)
      obtain ⟨y, rfl, hq⟩ := hpost.get
      have hcy : ∀ k, k < 6 → tr k ≠ y := fun k hk e => hq.1 (e ▸ (htr k hk).1)
      have hY := hY.keep hq.2.2.1
      have hF := hF.keep hq.2.2.1
      obtain ⟨⟨hmm, hem⟩, ⟨hmc, gc, hec, hRc⟩, ⟨hmr, Gr, her, hGr⟩, hrr, ⟨hmt, Gt, het, hGt⟩, htr, hnt, ⟨hms, hes⟩, ⟨hmw, hew⟩⟩ := id hY
      obtain ⟨g9, hg9, hR9⟩ := hq.2.2.2
      refine lv_iload_n hC.1 hC.2.1 dX1_first_52 rfl (lv_at hl 1 rfl) ?_
      refine lv_iconst (v := (nI 1)) hC.1 hC.2.1 dX1_first_53 (by decide) ?_
      refine z_isub hC dX1_first_54 (by omega) ?_
      refine lv_iload_n hC.1 hC.2.1 dX1_first_55 rfl (lv_at hl 2 rfl) ?_
      refine lv_iconst (v := (nI 3)) hC.1 hC.2.1 dX1_first_56 (by decide) ?_
      refine z_idiv hC dX1_first_57 (by omega) (by decide) (by decide) ?_
      refine q_i (lastI (k / 3)) ((lastI_lt (by omega)).symm) ?_
      refine p_cvH (n := 3) (m_comes l (N - 1) (by omega) hY hq.2.1 hg9 hR9 (turnC_Va _ _) (fun k hk _ e => hcy k hk e.symm) (lf := k / 3) (by omega)) hC hE hP hD hS (hmm) (hem) rfl gX1_first_X1_comes rfl (by decide +kernel) rfl ⟨by simp only [rD]; omega, by simp only [rD]; omega⟩ ⟨by simp only [rD]; omega, by simp only [rD]; omega⟩ hl.1 (Nat.le_of_ble_eq_true rfl) dX1_first_58 rfl (fun o L4 f4 H locs hpost hP hD hS => ?_)
      obtain ⟨rfl, hLe, hT⟩ := hpost
      rw [hLe] at hP hD
      have hY := hY.tru hT
      have hF := hF.tru hT
      obtain ⟨⟨hmm, hem⟩, ⟨hmc, gc, hec, hRc⟩, ⟨hmr, Gr, her, hGr⟩, hrr, ⟨hmt, Gt, het, hGt⟩, htr, hnt, ⟨hms, hes⟩, ⟨hmw, hew⟩⟩ := id hY
      refine z_if_eq (tgt := 66) hC dX1_first_61 (by decide) (bI_lt _) (fun h_61 => absurd (bI_0.mp h_61) (by simp [h4])) (fun h_61 => ?_)
      refine lv_iload_n hC.1 hC.2.1 dX1_first_64 rfl (lv_at hl 2 rfl) ?_
      exact HV.iret hC hr hlk hP hD hS (by omega) (by omega) dX1_first_65 (⟨rfl, cu, Or.inl rfl, ⟨_, _, hY, hvb, hMS⟩, hF⟩)
    | succ n ih =>
      intro k L1 f1 H locs hk hY hF hP hD hS ls hl
      obtain ⟨⟨hmm, hem⟩, ⟨hmc, gc, hec, hRc⟩, ⟨hmr, Gr, her, hGr⟩, hrr, ⟨hmt, Gt, het, hGt⟩, htr, hnt, ⟨hms, hes⟩, ⟨hmw, hew⟩⟩ := id hY
      refine lv_iload_n hC.1 hC.2.1 dX1_first_32 rfl (lv_at hl 2 rfl) ?_
      refine lv_bipush (v := (nI 9)) hC.1 hC.2.1 dX1_first_33 (by decide) ?_
      refine z_icmp_ge (tgt := 72) hC dX1_first_35 (by decide) (by omega) (by omega) (fun h_35 => by omega) (fun h_35 => ?_)
      refine lv_iload_n hC.1 hC.2.1 dX1_first_38 rfl (lv_at hl 1 rfl) ?_
      refine z_if_le (tgt := 72) hC dX1_first_39 (by decide) (by omega) (fun h_39 => by omega) (fun h_39 => ?_)
      refine lv_aload_n hC.1 hC.2.1 dX1_first_42 rfl (lv_at hl 0 rfl) ?_
      refine lv_aload_n hC.1 hC.2.1 dX1_first_43 rfl (lv_at hl 0 rfl) ?_
      refine lv_aload_n hC.1 hC.2.1 dX1_first_44 rfl (lv_at hl 0 rfl) ?_
      refine p_get (ref := "CornerCubeModel") hC hE hP hmm hem rfl (by decide +kernel) 2 (by decide) (by decide +kernel) rfl rfl dX1_first_45 ?_
      refine lv_iload_n hC.1 hC.2.1 dX1_first_48 rfl (lv_at hl 2 rfl) ?_
      refine p_cvH (n := 2) (m_turned l hY hmc hec hRc hvb (t := k) (by omega)) hC hE hP hD hS (hmm) (hem) rfl gX1_first_X1_turned rfl (by decide +kernel) rfl ⟨by decide, by decide⟩ ⟨by simp only [rD]; omega, by simp only [rD]; omega⟩ hl.1 (Nat.le_of_ble_eq_true rfl) dX1_first_49 rfl (fun o L3 f3 H locs hpost hP hD hS => ?_)
      obtain ⟨y, rfl, hq⟩ := hpost.get
      have hcy : ∀ k, k < 6 → tr k ≠ y := fun k hk e => hq.1 (e ▸ (htr k hk).1)
      have hY := hY.keep hq.2.2.1
      have hF := hF.keep hq.2.2.1
      obtain ⟨⟨hmm, hem⟩, ⟨hmc, gc, hec, hRc⟩, ⟨hmr, Gr, her, hGr⟩, hrr, ⟨hmt, Gt, het, hGt⟩, htr, hnt, ⟨hms, hes⟩, ⟨hmw, hew⟩⟩ := id hY
      obtain ⟨g9, hg9, hR9⟩ := hq.2.2.2
      refine lv_iload_n hC.1 hC.2.1 dX1_first_52 rfl (lv_at hl 1 rfl) ?_
      refine lv_iconst (v := (nI 1)) hC.1 hC.2.1 dX1_first_53 (by decide) ?_
      refine z_isub hC dX1_first_54 (by omega) ?_
      refine lv_iload_n hC.1 hC.2.1 dX1_first_55 rfl (lv_at hl 2 rfl) ?_
      refine lv_iconst (v := (nI 3)) hC.1 hC.2.1 dX1_first_56 (by decide) ?_
      refine z_idiv hC dX1_first_57 (by omega) (by decide) (by decide) ?_
      refine q_i (lastI (k / 3)) ((lastI_lt (by omega)).symm) ?_
      refine p_cvH (n := 3) (m_comes l (N - 1) (by omega) hY hq.2.1 hg9 hR9 (turnC_Va _ _) (fun k hk _ e => hcy k hk e.symm) (lf := k / 3) (by omega)) hC hE hP hD hS (hmm) (hem) rfl gX1_first_X1_comes rfl (by decide +kernel) rfl ⟨by simp only [rD]; omega, by simp only [rD]; omega⟩ ⟨by simp only [rD]; omega, by simp only [rD]; omega⟩ hl.1 (Nat.le_of_ble_eq_true rfl) dX1_first_58 rfl (fun o L4 f4 H locs hpost hP hD hS => ?_)
      obtain ⟨rfl, hLe, hT⟩ := hpost
      rw [hLe] at hP hD
      have hY := hY.tru hT
      have hF := hF.tru hT
      obtain ⟨⟨hmm, hem⟩, ⟨hmc, gc, hec, hRc⟩, ⟨hmr, Gr, her, hGr⟩, hrr, ⟨hmt, Gt, het, hGt⟩, htr, hnt, ⟨hms, hes⟩, ⟨hmw, hew⟩⟩ := id hY
      refine z_if_eq (tgt := 66) hC dX1_first_61 (by decide) (bI_lt _) (fun h_61 => ?_) (fun h_61 => absurd (bI_n0.mp h_61) (by simp [h3 k (by omega)]))
      refine lv_iinc (v := nI (k + 1)) (lv' := [(3, .int (nI (k + 1))), (0, .ref hm), (2, .int (nI N))]) hC.1 hC.2.1 dX1_first_66 hl (k := 2) rfl (z_inc _) (by decide) rfl (fun ls hl => ?_)
      refine lv_goto (tgt := 32) hC.1 hC.2.1 dX1_first_69 (by decide) ?_
      refine W.widen (k := k + 1) (n := 16 * (k + 1)) (by omega) (by omega) ?_
      exact ih (k + 1) _ _ _ _ (by omega) hY hF hP hD hS ls (lv_sub hl [1, 2, 0] rfl)
  refine lv_iconst (v := (nI 0)) hC.1 hC.2.1 dX1_first_30 (by decide) ?_
  refine lv_istore_n (lv' := [(3, .int (nI 0)), (2, .int (nI N)), (0, .ref hm), (1, .int (nI most))]) hC.1 hC.2.1 dX1_first_31 rfl hl (by decide) rfl (fun ls hl => ?_)
  refine W.widen (k := 0) (n := 16 * 0) (by omega) (by omega) ?_
  exact loop F 0 _ _ _ _ (Nat.zero_add _) hY hF hP hD hS ls (lv_sub hl [2, 1, 0] rfl)

set_option maxHeartbeats 4000000 in
set_option maxRecDepth 100000 in
theorem mg_advise (l : Launch) {D : va_G} {T : ClassId × ClassId × ClassId} {z0 : Nat} {L : List Nat} {f : Nat → va_E} {hm rs td sz wo : Nat} {rr tr : Nat → Nat} {cu : Nat} {th mk : Int32} {b : Nat → Nat} {wd : Nat → List Nat} (hZ : MZ T L f hm rs td sz wo rr tr cu th mk b wd)  : HV l yX1_advise wsX1_advise (40) 16 256 D z0 (zPre D T z0 L f) [.ref hm] (MPo T L f hm rs td sz wo rr tr cu (.int (nI (bst b 9))) (nI 0) mk b wd) := by
  refine HV.of (cc := cX1_advise) (maxL := 3) (ret := (some .int)) (by decide) rfl (Nat.le_of_ble_eq_true rfl) ?_
  intro p e s m args below meth c hC hr hlk hin hB ls hl
  have hl : lv_has ls 3 [(0, .ref hm)] := hl
  obtain ⟨hE, hP, hD⟩ := hB
  have hS : va_S (zA z0) s.heap s.heap [] := va_S.rf
  obtain ⟨Nn, V, hY, hvb, hMS⟩ := id hZ
  obtain ⟨⟨hmm, hem⟩, ⟨hmc, gc, hec, hRc⟩, ⟨hmr, Gr, her, hGr⟩, hrr, ⟨hmt, Gt, het, hGt⟩, htr, hnt, ⟨hms, hes⟩, ⟨hmw, hew⟩⟩ := id hY
  refine lv_aload_n hC.1 hC.2.1 dX1_advise_0 rfl (lv_at hl 0 rfl) ?_
  refine lv_iconst (v := (nI 0)) hC.1 hC.2.1 dX1_advise_1 (by decide) ?_
  refine p_put (ref := "CornerCubeModel") (ty0 := tyX1) hC hE hP hD hS hmm hem rfl (by decide +kernel) tyX1_ok nmX1 0 (by decide) (by decide +kernel) rfl rfl rfl rfl (Nat.le_of_ble_eq_true rfl) dX1_advise_2 (fun H locs hP hD hS => ?_)
  have hY := hY.put_th (nI 0) mk
  have hF := (FRM.rf (hm := hm) (sz := sz) (wo := wo) (tr := tr) (L := L) (f := f)).put_hm (e := eO 1 [.int (nI 0), .int mk, .ref cu, .ref rs, .ref td, .ref sz, .ref wo])
  obtain ⟨⟨hmm, hem⟩, ⟨hmc, gc, hec, hRc⟩, ⟨hmr, Gr, her, hGr⟩, hrr, ⟨hmt, Gt, het, hGt⟩, htr, hnt, ⟨hms, hes⟩, ⟨hmw, hew⟩⟩ := id hY
  have loop : ∀ (n : Nat) (k : Nat) (L1 : List Nat) (f1 : Nat → va_E) (H : Heap) (locs : List Loc), k + n = 8 → MY T L1 f1 hm rs td sz wo rr tr cu (nI 0) mk b Nn V → FRM hm sz wo tr L f L1 f1 → va_P D vwCl (va_pl L1 f1) H → va_D (zA z0) (va_pl L1 f1) → va_S (zA z0) s.heap H locs → ∀ ls : Array Slot, lv_has ls 3 [(0, .ref hm), (1, .int (nI (bst b (k + 1)))), (2, .int (nI (k + 1)))] → W p l e (rD (40) 16 256) s m args below meth c H locs (2 * k) (32 * k) (MQ below (HVQ D z0 (MPo T L f hm rs td sz wo rr tr cu (.int (nI (bst b 9))) (nI 0) mk b wd)) args s 16 256 (zA z0)) (F0 m 9 ls []) := by
    intro n
    induction n with
    | zero =>
      intro k L1 f1 H locs hk hY hF hP hD hS ls hl
      obtain ⟨⟨hmm, hem⟩, ⟨hmc, gc, hec, hRc⟩, ⟨hmr, Gr, her, hGr⟩, hrr, ⟨hmt, Gt, het, hGt⟩, htr, hnt, ⟨hms, hes⟩, ⟨hmw, hew⟩⟩ := id hY
      obtain rfl : k = 8 := by omega
      refine lv_iload_n hC.1 hC.2.1 dX1_advise_9 rfl (lv_at hl 2 rfl) ?_
      refine lv_bipush (v := (nI 9)) hC.1 hC.2.1 dX1_advise_10 (by decide) ?_
      refine z_icmp_ge (tgt := 52) hC dX1_advise_12 (by decide) (by omega) (by omega) (fun h_12 => ?_) (fun h_12 => by omega)
      refine lv_iload_n hC.1 hC.2.1 dX1_advise_52 rfl (lv_at hl 1 rfl) ?_
      exact HV.iret hC hr hlk hP hD hS (by omega) (by omega) dX1_advise_53 (⟨rfl, cu, Or.inl rfl, ⟨_, _, hY, hvb, hMS⟩, hF⟩)
    | succ n ih =>
      intro k L1 f1 H locs hk hY hF hP hD hS ls hl
      obtain ⟨⟨hmm, hem⟩, ⟨hmc, gc, hec, hRc⟩, ⟨hmr, Gr, her, hGr⟩, hrr, ⟨hmt, Gt, het, hGt⟩, htr, hnt, ⟨hms, hes⟩, ⟨hmw, hew⟩⟩ := id hY
      refine lv_iload_n hC.1 hC.2.1 dX1_advise_9 rfl (lv_at hl 2 rfl) ?_
      refine lv_bipush (v := (nI 9)) hC.1 hC.2.1 dX1_advise_10 (by decide) ?_
      refine z_icmp_ge (tgt := 52) hC dX1_advise_12 (by decide) (by omega) (by omega) (fun h_12 => by omega) (fun h_12 => ?_)
      refine lv_aload_n hC.1 hC.2.1 dX1_advise_15 rfl (lv_at hl 0 rfl) ?_
      refine lv_aload_n hC.1 hC.2.1 dX1_advise_16 rfl (lv_at hl 0 rfl) ?_
      refine p_get (ref := "CornerCubeModel") hC hE hP hmm hem rfl (by decide +kernel) 2 (by decide) (by decide +kernel) rfl rfl dX1_advise_17 ?_
      refine lv_iload_n hC.1 hC.2.1 dX1_advise_20 rfl (lv_at hl 2 rfl) ?_
      refine p_cvH (n := 2) (m_turned l hY hmc hec hRc hvb (t := k + 1) (by omega)) hC hE hP hD hS (hmm) (hem) rfl gX1_advise_X1_turned rfl (by decide +kernel) rfl ⟨by decide, by decide⟩ ⟨by simp only [rD]; omega, by simp only [rD]; omega⟩ hl.1 (Nat.le_of_ble_eq_true rfl) dX1_advise_21 rfl (fun o L2 f2 H locs hpost hP hD hS => ?_)
      obtain ⟨y, rfl, hq⟩ := hpost.get
      have hY := hY.keep hq.2.2.1
      have hF := hF.keep hq.2.2.1
      obtain ⟨⟨hmm, hem⟩, ⟨hmc, gc, hec, hRc⟩, ⟨hmr, Gr, her, hGr⟩, hrr, ⟨hmt, Gt, het, hGt⟩, htr, hnt, ⟨hms, hes⟩, ⟨hmw, hew⟩⟩ := id hY
      obtain ⟨g9, hg9, hR9⟩ := hq.2.2.2
      refine lv_iconst (v := (nI 1)) hC.1 hC.2.1 dX1_advise_24 (by decide) ?_
      refine p_csB (n := 2) (m_many l hq.2.1 hg9 hR9 (turnC_Va _ _) (what := 1) (by decide) (by decide)) hC hE hP hD hS gX1_advise_X1_many rfl (by decide +kernel) rfl ⟨by decide, by decide⟩ ⟨by simp only [rD]; omega, by simp only [rD]; omega⟩ hl.1 (Nat.le_of_ble_eq_true rfl) dX1_advise_25 rfl ?_
      refine q_i (nI (nRt (turnC b (k + 1)))) (by rw [many_1 (turnC_Va _ _)]) ?_
      refine lv_aload_n hC.1 hC.2.1 dX1_advise_28 rfl (lv_at hl 0 rfl) ?_
      refine lv_aload_n hC.1 hC.2.1 dX1_advise_29 rfl (lv_at hl 0 rfl) ?_
      refine p_get (ref := "CornerCubeModel") hC hE hP hmm hem rfl (by decide +kernel) 2 (by decide) (by decide +kernel) rfl rfl dX1_advise_30 ?_
      refine lv_iload_n hC.1 hC.2.1 dX1_advise_33 rfl (lv_at hl 1 rfl) ?_
      refine p_cvH (n := 2) (m_turned l hY hmc hec hRc hvb (t := bst b (k + 1)) (bst_lt b _ (by omega))) hC hE hP hD hS (hmm) (hem) rfl gX1_advise_X1_turned rfl (by decide +kernel) rfl ⟨by decide, by decide⟩ ⟨by simp only [rD]; omega, by simp only [rD]; omega⟩ hl.1 (Nat.le_of_ble_eq_true rfl) dX1_advise_34 rfl (fun o L3 f3 H locs hpost hP hD hS => ?_)
      obtain ⟨y, rfl, hq⟩ := hpost.get
      have hY := hY.keep hq.2.2.1
      have hF := hF.keep hq.2.2.1
      obtain ⟨⟨hmm, hem⟩, ⟨hmc, gc, hec, hRc⟩, ⟨hmr, Gr, her, hGr⟩, hrr, ⟨hmt, Gt, het, hGt⟩, htr, hnt, ⟨hms, hes⟩, ⟨hmw, hew⟩⟩ := id hY
      obtain ⟨g9, hg9, hR9⟩ := hq.2.2.2
      refine lv_iconst (v := (nI 1)) hC.1 hC.2.1 dX1_advise_37 (by decide) ?_
      refine p_csB (n := 2) (m_many l hq.2.1 hg9 hR9 (turnC_Va _ _) (what := 1) (by decide) (by decide)) hC hE hP hD hS gX1_advise_X1_many rfl (by decide +kernel) rfl ⟨by decide, by decide⟩ ⟨by simp only [rD]; omega, by simp only [rD]; omega⟩ hl.1 (Nat.le_of_ble_eq_true rfl) dX1_advise_38 rfl ?_
      refine q_i (nI (nRt (turnC b (bst b (k + 1))))) (by rw [many_1 (turnC_Va _ _)]) ?_
      refine z_icmp_le (tgt := 46) hC dX1_advise_41 (by decide) (nRt_lt _) (nRt_lt _) (fun h_41 => ?_) (fun h_41 => ?_)
      · refine lv_iinc (v := nI (k + 1 + 1)) (lv' := [(2, .int (nI (k + 1 + 1))), (0, .ref hm), (1, .int (nI (bst b (k + 1))))]) hC.1 hC.2.1 dX1_advise_46 hl (k := 2) rfl (z_inc _) (by decide) rfl (fun ls hl => ?_)
        refine lv_goto (tgt := 9) hC.1 hC.2.1 dX1_advise_49 (by decide) ?_
        refine W.widen (k := 2 * (k + 1)) (n := 32 * (k + 1)) (by omega) (by omega) ?_
        exact ih (k + 1) _ _ _ _ (by omega) hY hF hP hD hS ls (by have e9 : bst b (k + 1 + 1) = bst b (k + 1) := (if_neg (Nat.succ_ne_zero k)).trans (if_neg (by omega)); rw [e9]; exact (lv_sub hl [1, 2, 0] rfl))
      · refine lv_iload_n hC.1 hC.2.1 dX1_advise_44 rfl (lv_at hl 2 rfl) ?_
        refine lv_istore_n (lv' := [(1, .int (nI (k + 1))), (0, .ref hm), (2, .int (nI (k + 1)))]) hC.1 hC.2.1 dX1_advise_45 rfl hl (by decide) rfl (fun ls hl => ?_)
        refine lv_iinc (v := nI (k + 1 + 1)) (lv' := [(2, .int (nI (k + 1 + 1))), (1, .int (nI (k + 1))), (0, .ref hm)]) hC.1 hC.2.1 dX1_advise_46 hl (k := 2) rfl (z_inc _) (by decide) rfl (fun ls hl => ?_)
        refine lv_goto (tgt := 9) hC.1 hC.2.1 dX1_advise_49 (by decide) ?_
        refine W.widen (k := 2 * (k + 1)) (n := 32 * (k + 1)) (by omega) (by omega) ?_
        exact ih (k + 1) _ _ _ _ (by omega) hY hF hP hD hS ls (by have e9 : bst b (k + 1 + 1) = k + 1 := (if_neg (Nat.succ_ne_zero k)).trans (if_pos (by omega)); rw [e9]; exact (lv_sub hl [2, 1, 0] rfl))
  refine lv_iconst (v := (nI 0)) hC.1 hC.2.1 dX1_advise_5 (by decide) ?_
  refine lv_istore_n (lv' := [(1, .int (nI 0)), (0, .ref hm)]) hC.1 hC.2.1 dX1_advise_6 rfl hl (by decide) rfl (fun ls hl => ?_)
  refine lv_iconst (v := (nI 1)) hC.1 hC.2.1 dX1_advise_7 (by decide) ?_
  refine lv_istore_n (lv' := [(2, .int (nI 1)), (1, .int (nI 0)), (0, .ref hm)]) hC.1 hC.2.1 dX1_advise_8 rfl hl (by decide) rfl (fun ls hl => ?_)
  refine W.widen (k := 2 * 0) (n := 32 * 0) (by omega) (by omega) ?_
  exact loop 8 0 _ _ _ _ (Nat.zero_add _) hY hF hP hD hS ls (lv_sub hl [2, 1, 0] rfl)

set_option maxHeartbeats 4000000 in
set_option maxRecDepth 100000 in
theorem mg_mean (l : Launch) {D : va_G} {T : ClassId × ClassId × ClassId} {z0 : Nat} {L : List Nat} {f : Nat → va_E} {hm rs td sz wo : Nat} {rr tr : Nat → Nat} {cu : Nat} {th mk : Int32} {b : Nat → Nat} {wd : Nat → List Nat} (hZ : MZ T L f hm rs td sz wo rr tr cu th mk b wd)  : HV l yX1_mean wsX1_mean (40) 0 0 D z0 (zPre D T z0 L f) [.ref hm] (MPo T L f hm rs td sz wo rr tr cu (.double (mean5 (tot wd 5))) (nI 0) mk b wd) := by
  refine HV.of (cc := cX1_mean) (maxL := 1) (ret := (some .double)) (by decide) rfl (Nat.le_of_ble_eq_true rfl) ?_
  intro p e s m args below meth c hC hr hlk hin hB ls hl
  have hl : lv_has ls 1 [(0, .ref hm)] := hl
  obtain ⟨hE, hP, hD⟩ := hB
  have hS : va_S (zA z0) s.heap s.heap [] := va_S.rf
  obtain ⟨Nn, V, hY, hvb, hMS⟩ := id hZ
  obtain ⟨⟨hmm, hem⟩, ⟨hmc, gc, hec, hRc⟩, ⟨hmr, Gr, her, hGr⟩, hrr, ⟨hmt, Gt, het, hGt⟩, htr, hnt, ⟨hms, hes⟩, ⟨hmw, hew⟩⟩ := id hY
  refine lv_aload_n hC.1 hC.2.1 dX1_mean_0 rfl (lv_at hl 0 rfl) ?_
  refine lv_iconst (v := (nI 0)) hC.1 hC.2.1 dX1_mean_1 (by decide) ?_
  refine p_put (ref := "CornerCubeModel") (ty0 := tyX1) hC hE hP hD hS hmm hem rfl (by decide +kernel) tyX1_ok nmX1 0 (by decide) (by decide +kernel) rfl rfl rfl rfl (Nat.le_of_ble_eq_true rfl) dX1_mean_2 (fun H locs hP hD hS => ?_)
  have hY := hY.put_th (nI 0) mk
  have hF := (FRM.rf (hm := hm) (sz := sz) (wo := wo) (tr := tr) (L := L) (f := f)).put_hm (e := eO 1 [.int (nI 0), .int mk, .ref cu, .ref rs, .ref td, .ref sz, .ref wo])
  obtain ⟨⟨hmm, hem⟩, ⟨hmc, gc, hec, hRc⟩, ⟨hmr, Gr, her, hGr⟩, hrr, ⟨hmt, Gt, het, hGt⟩, htr, hnt, ⟨hms, hes⟩, ⟨hmw, hew⟩⟩ := id hY
  refine lv_aload_n hC.1 hC.2.1 dX1_mean_5 rfl (lv_at hl 0 rfl) ?_
  refine p_cvB (n := 0) (m_allTurns l hY hMS) hC hE hP hD hS (hmm) (hem) rfl gX1_mean_X1_allTurns rfl (by decide +kernel) rfl ⟨by decide, by decide⟩ ⟨by simp only [rD]; omega, by simp only [rD]; omega⟩ hl.1 (Nat.le_of_ble_eq_true rfl) dX1_mean_6 rfl ?_
  refine lv_i2d hC.1 hC.2.1 dX1_mean_9 ?_
  refine lv_ldc2d (v := 4617315517961601024) hC.1 hC.2.1 hC.2.2.2.1 (hC.2.2.2.2 (.constantDouble RX1 137 (4617315517961601024)) (by decide +kernel)) dX1_mean_10 ?_
  have htl : tot wd 5 < 61 := Nat.lt_of_le_of_lt (tot_le (fun w h => (hMS w h).2.1) 5 (Nat.le_refl 5)) (by decide)
  refine lv_ddiv hC.1 hC.2.1 dX1_mean_13 (mean5_vf htl) ?_
  exact HV.dret hC hr hlk hP hD hS (by omega) (by omega) dX1_mean_14 (⟨rfl, cu, Or.inl rfl, ⟨_, _, hY, hvb, hMS⟩, hF⟩)

set_option maxHeartbeats 4000000 in
set_option maxRecDepth 100000 in
theorem mg_digest (l : Launch) {D : va_G} {T : ClassId × ClassId × ClassId} {z0 : Nat} {L : List Nat} {f : Nat → va_E} {hm rs td sz wo : Nat} {rr tr : Nat → Nat} {cu : Nat} {th mk : Int32} {b : Nat → Nat} {wd : Nat → List Nat} (hZ : MZ T L f hm rs td sz wo rr tr cu th mk b wd) (hG : GB b) (hGw : ∀ w, w < 5 → GB (deed (wd w))) : HV l yX1_digest wsX1_digest (40) 260 4160 D z0 (zPre D T z0 L f) [.ref hm] (MPo T L f hm rs td sz wo rr tr cu (.long (dig9 b mk wd)) (nI 0) mk b wd) := by
  refine HV.of (cc := cX1_digest) (maxL := 5) (ret := (some .long)) (by decide) rfl (Nat.le_of_ble_eq_true rfl) ?_
  intro p e s m args below meth c hC hr hlk hin hB ls hl
  have hl : lv_has ls 5 [(0, .ref hm)] := hl
  obtain ⟨hE, hP, hD⟩ := hB
  have hS : va_S (zA z0) s.heap s.heap [] := va_S.rf
  obtain ⟨Nn, V, hY, hvb, hMS⟩ := id hZ
  obtain ⟨⟨hmm, hem⟩, ⟨hmc, gc, hec, hRc⟩, ⟨hmr, Gr, her, hGr⟩, hrr, ⟨hmt, Gt, het, hGt⟩, htr, hnt, ⟨hms, hes⟩, ⟨hmw, hew⟩⟩ := id hY
  refine lv_aload_n hC.1 hC.2.1 dX1_digest_0 rfl (lv_at hl 0 rfl) ?_
  refine lv_iconst (v := (nI 0)) hC.1 hC.2.1 dX1_digest_1 (by decide) ?_
  refine p_put (ref := "CornerCubeModel") (ty0 := tyX1) hC hE hP hD hS hmm hem rfl (by decide +kernel) tyX1_ok nmX1 0 (by decide) (by decide +kernel) rfl rfl rfl rfl (Nat.le_of_ble_eq_true rfl) dX1_digest_2 (fun H locs hP hD hS => ?_)
  have hY := hY.put_th (nI 0) mk
  have hF := (FRM.rf (hm := hm) (sz := sz) (wo := wo) (tr := tr) (L := L) (f := f)).put_hm (e := eO 1 [.int (nI 0), .int mk, .ref cu, .ref rs, .ref td, .ref sz, .ref wo])
  obtain ⟨⟨hmm, hem⟩, ⟨hmc, gc, hec, hRc⟩, ⟨hmr, Gr, her, hGr⟩, hrr, ⟨hmt, Gt, het, hGt⟩, htr, hnt, ⟨hms, hes⟩, ⟨hmw, hew⟩⟩ := id hY
  have loop3 : ∀ (n w : Nat) (L1 : List Nat) (f1 : Nat → va_E) (H : Heap) (locs : List Loc), w + n = 5 → MY T L1 f1 hm rs td sz wo rr tr cu (nI 0) mk b Nn V → FRM hm sz wo tr L f L1 f1 → va_P D vwCl (va_pl L1 f1) H → va_D (zA z0) (va_pl L1 f1) → va_S (zA z0) s.heap H locs → ∀ ls : Array Slot, lv_has ls 5 [(0, .ref hm), (1, .long (dgW wd (dgP b (dgC b mk wd 7) 8) w)), (3, .int (nI w))] → W p l e (rD (40) 260 4160) s m args below meth c H locs (52 * w) (832 * w) (MQ below (HVQ D z0 (MPo T L f hm rs td sz wo rr tr cu (.long (dig9 b mk wd)) (nI 0) mk b wd)) args s 260 4160 (zA z0)) (F0 m 82 ls []) := by
    intro n
    induction n with
    | zero =>
      intro w L1 f1 H locs hk hY hF hP hD hS ls hl
      obtain ⟨⟨hmm, hem⟩, ⟨hmc, gc, hec, hRc⟩, ⟨hmr, Gr, her, hGr⟩, hrr, ⟨hmt, Gt, het, hGt⟩, htr, hnt, ⟨hms, hes⟩, ⟨hmw, hew⟩⟩ := id hY
      obtain rfl : w = 5 := by omega
      refine lv_iload_n hC.1 hC.2.1 dX1_digest_82 rfl (lv_at hl 2 rfl) ?_
      refine lv_iconst (v := (nI 5)) hC.1 hC.2.1 dX1_digest_83 (by decide) ?_
      refine z_icmp_ge (tgt := 163) hC dX1_digest_84 (by decide) (by omega) (by omega) (fun h_84 => ?_) (fun h_84 => by omega)
      refine lv_lload_n hC.1 hC.2.1 dX1_digest_163 rfl (lv_at hl 1 rfl) ?_
      exact HV.lret hC hr hlk hP hD hS (by omega) (by omega) dX1_digest_164 (⟨rfl, cu, Or.inl rfl, ⟨_, _, hY, hvb, hMS⟩, hF⟩)
    | succ n ih =>
      intro w L1 f1 H locs hk hY hF hP hD hS ls hl
      obtain ⟨⟨hmm, hem⟩, ⟨hmc, gc, hec, hRc⟩, ⟨hmr, Gr, her, hGr⟩, hrr, ⟨hmt, Gt, het, hGt⟩, htr, hnt, ⟨hms, hes⟩, ⟨hmw, hew⟩⟩ := id hY
      have hl12 := (hMS w (by omega)).2.1
      have lp2 : ∀ (n2 : Nat) (k : Nat) (L1 : List Nat) (f1 : Nat → va_E) (H : Heap) (locs : List Loc), k + n2 = (wd w).length → MY T L1 f1 hm rs td sz wo rr tr cu (nI 0) mk b Nn V → FRM hm sz wo tr L f L1 f1 → va_P D vwCl (va_pl L1 f1) H → va_D (zA z0) (va_pl L1 f1) → va_S (zA z0) s.heap H locs → ∀ ls : Array Slot, lv_has ls 5 [(0, .ref hm), (1, .long (dgL (wd w) (dgV (wd w) (dgW wd (dgP b (dgC b mk wd 7) 8) w) 4) k)), (3, .int (nI w)), (4, .int (nI k))] → W p l e (rD (40) 260 4160) s m args below meth c H locs (52 * w + 52) (832 * w + 832) (MQ below (HVQ D z0 (MPo T L f hm rs td sz wo rr tr cu (.long (dig9 b mk wd)) (nI 0) mk b wd)) args s 260 4160 (zA z0)) (F0 m 120 ls []) := by
        intro n2
        induction n2 with
        | zero =>
          intro k L1 f1 H locs hk2 hY hF hP hD hS ls hl
          obtain ⟨⟨hmm, hem⟩, ⟨hmc, gc, hec, hRc⟩, ⟨hmr, Gr, her, hGr⟩, hrr, ⟨hmt, Gt, het, hGt⟩, htr, hnt, ⟨hms, hes⟩, ⟨hmw, hew⟩⟩ := id hY
          obtain rfl : k = (wd w).length := by omega
          refine lv_iload hC.1 hC.2.1 dX1_digest_120 (lv_at hl 3 rfl) ?_
          refine lv_aload_n hC.1 hC.2.1 dX1_digest_122 rfl (lv_at hl 0 rfl) ?_
          refine p_get (ref := "CornerCubeModel") hC hE hP hmm hem rfl (by decide +kernel) 5 (by decide) (by decide +kernel) rfl rfl dX1_digest_123 ?_
          refine lv_iload_n hC.1 hC.2.1 dX1_digest_126 rfl (lv_at hl 2 rfl) ?_
          refine p_iald hC hE hP hms hes (by omega) (by decide) dX1_digest_127 ?_
          refine q_i (nI (wd w).length) ((hMS _ (by omega)).1) ?_
          refine z_icmp_ge (tgt := 157) hC dX1_digest_128 (by decide) (by omega) (by omega) (fun h_128 => ?_) (fun h_128 => by omega)
          refine lv_iinc (v := nI (w + 1)) (lv' := [(3, .int (nI (w + 1))), (0, .ref hm), (1, .long (dgL (wd w) (dgV (wd w) (dgW wd (dgP b (dgC b mk wd 7) 8) w) 4) (wd w).length)), (4, .int (nI (wd w).length))]) hC.1 hC.2.1 dX1_digest_157 hl (k := 2) rfl (z_inc _) (by decide) rfl (fun ls hl => ?_)
          refine lv_goto (tgt := 82) hC.1 hC.2.1 dX1_digest_160 (by decide) ?_
          exact ih (w + 1) _ _ _ _ (by omega) hY hF hP hD hS ls (lv_sub hl [1, 2, 0] rfl)
        | succ n2 ih2 =>
          intro k L1 f1 H locs hk2 hY hF hP hD hS ls hl
          obtain ⟨⟨hmm, hem⟩, ⟨hmc, gc, hec, hRc⟩, ⟨hmr, Gr, her, hGr⟩, hrr, ⟨hmt, Gt, het, hGt⟩, htr, hnt, ⟨hms, hes⟩, ⟨hmw, hew⟩⟩ := id hY
          refine lv_iload hC.1 hC.2.1 dX1_digest_120 (lv_at hl 3 rfl) ?_
          refine lv_aload_n hC.1 hC.2.1 dX1_digest_122 rfl (lv_at hl 0 rfl) ?_
          refine p_get (ref := "CornerCubeModel") hC hE hP hmm hem rfl (by decide +kernel) 5 (by decide) (by decide +kernel) rfl rfl dX1_digest_123 ?_
          refine lv_iload_n hC.1 hC.2.1 dX1_digest_126 rfl (lv_at hl 2 rfl) ?_
          refine p_iald hC hE hP hms hes (by omega) (by decide) dX1_digest_127 ?_
          refine q_i (nI (wd w).length) ((hMS _ (by omega)).1) ?_
          refine z_icmp_ge (tgt := 157) hC dX1_digest_128 (by decide) (by omega) (by omega) (fun h_128 => by omega) (fun h_128 => ?_)
          refine lv_lload_n hC.1 hC.2.1 dX1_digest_131 rfl (lv_at hl 1 rfl) ?_
          refine lv_ldc2 (v := 31) hC.1 hC.2.1 hC.2.2.2.1 (hC.2.2.2.2 (.constantLong RX1 141 (31)) (by decide +kernel)) dX1_digest_132 ?_
          refine lv_lmul hC.1 hC.2.1 dX1_digest_135 ?_
          refine lv_aload_n hC.1 hC.2.1 dX1_digest_136 rfl (lv_at hl 0 rfl) ?_
          refine p_get (ref := "CornerCubeModel") hC hE hP hmm hem rfl (by decide +kernel) 6 (by decide) (by decide +kernel) rfl rfl dX1_digest_137 ?_
          refine lv_bipush (v := (nI 12)) hC.1 hC.2.1 dX1_digest_140 (by decide) ?_
          refine lv_iload_n hC.1 hC.2.1 dX1_digest_142 rfl (lv_at hl 2 rfl) ?_
          refine z_imul hC dX1_digest_143 ?_
          refine lv_iload hC.1 hC.2.1 dX1_digest_144 (lv_at hl 3 rfl) ?_
          refine z_iadd hC dX1_digest_146 ?_
          refine p_iald hC hE hP hmw hew (by omega) (by decide) dX1_digest_147 ?_
          refine q_i (nI ((wd w).getD k 0)) (((hMS w (by omega)).2.2 k (by omega)).1) ?_
          refine lv_i2l hC.1 hC.2.1 dX1_digest_148 rfl ?_
          refine lv_ladd hC.1 hC.2.1 dX1_digest_149 ?_
          refine lv_lstore_n (lv' := [(1, .long (((dgL (wd w) (dgV (wd w) (dgW wd (dgP b (dgC b mk wd 7) 8) w) 4) k) * 31) + ((nI ((wd w).getD k 0))).toInt64)), (0, .ref hm), (3, .int (nI w)), (4, .int (nI k))]) hC.1 hC.2.1 dX1_digest_150 rfl hl (by decide) rfl (fun ls hl => ?_)
          refine lv_iinc (v := nI (k + 1)) (lv' := [(4, .int (nI (k + 1))), (1, .long (((dgL (wd w) (dgV (wd w) (dgW wd (dgP b (dgC b mk wd 7) 8) w) 4) k) * 31) + ((nI ((wd w).getD k 0))).toInt64)), (0, .ref hm), (3, .int (nI w))]) hC.1 hC.2.1 dX1_digest_151 hl (k := 3) rfl (z_inc _) (by decide) rfl (fun ls hl => ?_)
          refine lv_goto (tgt := 120) hC.1 hC.2.1 dX1_digest_154 (by decide) ?_
          exact ih2 (k + 1) _ _ _ _ (by omega) hY hF hP hD hS ls (lv_sub hl [2, 1, 3, 0] rfl)
      have lp1 : ∀ (n2 : Nat) (k : Nat) (L1 : List Nat) (f1 : Nat → va_E) (H : Heap) (locs : List Loc), k + n2 = 4 → MY T L1 f1 hm rs td sz wo rr tr cu (nI 0) mk b Nn V → FRM hm sz wo tr L f L1 f1 → va_P D vwCl (va_pl L1 f1) H → va_D (zA z0) (va_pl L1 f1) → va_S (zA z0) s.heap H locs → ∀ ls : Array Slot, lv_has ls 5 [(0, .ref hm), (1, .long (dgV (wd w) (dgW wd (dgP b (dgC b mk wd 7) 8) w) k)), (3, .int (nI w)), (4, .int (nI k))] → W p l e (rD (40) 260 4160) s m args below meth c H locs (52 * w + 13 * k) (832 * w + 208 * k) (MQ below (HVQ D z0 (MPo T L f hm rs td sz wo rr tr cu (.long (dig9 b mk wd)) (nI 0) mk b wd)) args s 260 4160 (zA z0)) (F0 m 90 ls []) := by
        intro n2
        induction n2 with
        | zero =>
          intro k L1 f1 H locs hk2 hY hF hP hD hS ls hl
          obtain ⟨⟨hmm, hem⟩, ⟨hmc, gc, hec, hRc⟩, ⟨hmr, Gr, her, hGr⟩, hrr, ⟨hmt, Gt, het, hGt⟩, htr, hnt, ⟨hms, hes⟩, ⟨hmw, hew⟩⟩ := id hY
          obtain rfl : k = 4 := by omega
          refine lv_iload hC.1 hC.2.1 dX1_digest_90 (lv_at hl 3 rfl) ?_
          refine lv_iconst (v := (nI 4)) hC.1 hC.2.1 dX1_digest_92 (by decide) ?_
          refine z_icmp_ge (tgt := 117) hC dX1_digest_93 (by decide) (by omega) (by omega) (fun h_93 => ?_) (fun h_93 => by omega)
          refine lv_iconst (v := (nI 0)) hC.1 hC.2.1 dX1_digest_117 (by decide) ?_
          refine lv_istore (lv' := [(4, .int (nI 0)), (0, .ref hm), (1, .long (dgV (wd w) (dgW wd (dgP b (dgC b mk wd 7) 8) w) 4)), (3, .int (nI w))]) hC.1 hC.2.1 dX1_digest_118 hl (by decide) rfl (fun ls hl => ?_)
          refine W.widen (k := 52 * w + 52) (n := 832 * w + 832) (by omega) (by omega) ?_
          exact lp2 _ 0 _ _ _ _ (Nat.zero_add _) hY hF hP hD hS ls (lv_sub hl [1, 2, 3, 0] rfl)
        | succ n2 ih1 =>
          intro k L1 f1 H locs hk2 hY hF hP hD hS ls hl
          obtain ⟨⟨hmm, hem⟩, ⟨hmc, gc, hec, hRc⟩, ⟨hmr, Gr, her, hGr⟩, hrr, ⟨hmt, Gt, het, hGt⟩, htr, hnt, ⟨hms, hes⟩, ⟨hmw, hew⟩⟩ := id hY
          refine lv_iload hC.1 hC.2.1 dX1_digest_90 (lv_at hl 3 rfl) ?_
          refine lv_iconst (v := (nI 4)) hC.1 hC.2.1 dX1_digest_92 (by decide) ?_
          refine z_icmp_ge (tgt := 117) hC dX1_digest_93 (by decide) (by omega) (by omega) (fun h_93 => by omega) (fun h_93 => ?_)
          refine lv_lload_n hC.1 hC.2.1 dX1_digest_96 rfl (lv_at hl 1 rfl) ?_
          refine lv_ldc2 (v := 31) hC.1 hC.2.1 hC.2.2.2.1 (hC.2.2.2.2 (.constantLong RX1 141 (31)) (by decide +kernel)) dX1_digest_97 ?_
          refine lv_lmul hC.1 hC.2.1 dX1_digest_100 ?_
          refine lv_aload_n hC.1 hC.2.1 dX1_digest_101 rfl (lv_at hl 0 rfl) ?_
          refine lv_iload_n hC.1 hC.2.1 dX1_digest_102 rfl (lv_at hl 2 rfl) ?_
          refine lv_iload hC.1 hC.2.1 dX1_digest_103 (lv_at hl 3 rfl) ?_
          refine p_cvH (n := 2) (m_wordTold l hY hMS (by omega : w < 5) (hGw w (by omega)) (by omega)) hC hE hP hD hS (hmm) (hem) rfl gX1_digest_X1_wordTold rfl (by decide +kernel) rfl ⟨by simp only [rD]; omega, by simp only [rD]; omega⟩ ⟨by simp only [rD]; omega, by simp only [rD]; omega⟩ hl.1 (Nat.le_of_ble_eq_true rfl) dX1_digest_105 rfl (fun o L2 f2 H locs hpost hP hD hS => ?_)
          obtain ⟨rfl, hkp⟩ := hpost
          have hY := hY.keep hkp
          have hF := hF.keep hkp
          obtain ⟨⟨hmm, hem⟩, ⟨hmc, gc, hec, hRc⟩, ⟨hmr, Gr, her, hGr⟩, hrr, ⟨hmt, Gt, het, hGt⟩, htr, hnt, ⟨hms, hes⟩, ⟨hmw, hew⟩⟩ := id hY
          refine lv_i2l hC.1 hC.2.1 dX1_digest_108 rfl ?_
          refine lv_ladd hC.1 hC.2.1 dX1_digest_109 ?_
          refine lv_lstore_n (lv' := [(1, .long (((dgV (wd w) (dgW wd (dgP b (dgC b mk wd 7) 8) w) k) * 31) + ((nI (wV (wd w) k))).toInt64)), (0, .ref hm), (3, .int (nI w)), (4, .int (nI k))]) hC.1 hC.2.1 dX1_digest_110 rfl hl (by decide) rfl (fun ls hl => ?_)
          refine lv_iinc (v := nI (k + 1)) (lv' := [(4, .int (nI (k + 1))), (1, .long (((dgV (wd w) (dgW wd (dgP b (dgC b mk wd 7) 8) w) k) * 31) + ((nI (wV (wd w) k))).toInt64)), (0, .ref hm), (3, .int (nI w))]) hC.1 hC.2.1 dX1_digest_111 hl (k := 3) rfl (z_inc _) (by decide) rfl (fun ls hl => ?_)
          refine lv_goto (tgt := 90) hC.1 hC.2.1 dX1_digest_114 (by decide) ?_
          refine W.widen (k := 52 * w + 13 * (k + 1)) (n := 832 * w + 208 * (k + 1)) (by omega) (by omega) ?_
          exact ih1 (k + 1) _ _ _ _ (by omega) hY hF hP hD hS ls (lv_sub hl [2, 1, 3, 0] rfl)
      refine lv_iload_n hC.1 hC.2.1 dX1_digest_82 rfl (lv_at hl 2 rfl) ?_
      refine lv_iconst (v := (nI 5)) hC.1 hC.2.1 dX1_digest_83 (by decide) ?_
      refine z_icmp_ge (tgt := 163) hC dX1_digest_84 (by decide) (by omega) (by omega) (fun h_84 => by omega) (fun h_84 => ?_)
      refine lv_iconst (v := (nI 0)) hC.1 hC.2.1 dX1_digest_87 (by decide) ?_
      refine lv_istore (lv' := [(4, .int (nI 0)), (0, .ref hm), (1, .long (dgW wd (dgP b (dgC b mk wd 7) 8) w)), (3, .int (nI w))]) hC.1 hC.2.1 dX1_digest_88 hl (by decide) rfl (fun ls hl => ?_)
      refine W.widen (k := 52 * w + 13 * 0) (n := 832 * w + 208 * 0) (by omega) (by omega) ?_
      exact lp1 4 0 _ _ _ _ rfl hY hF hP hD hS ls (lv_sub hl [1, 2, 3, 0] rfl)
  have loop2 : ∀ (n q : Nat), q + n = 8 → ∀ ls : Array Slot, lv_has ls 5 [(0, .ref hm), (1, .long (dgP b (dgC b mk wd 7) q)), (3, .int (nI q))] → W p l e (rD (40) 260 4160) s m args below meth c H locs (0) (0) (MQ below (HVQ D z0 (MPo T L f hm rs td sz wo rr tr cu (.long (dig9 b mk wd)) (nI 0) mk b wd)) args s 260 4160 (zA z0)) (F0 m 38 ls []) := by
    intro n
    induction n with
    | zero =>
      intro q hk ls hl
      obtain rfl : q = 8 := by omega
      refine lv_iload_n hC.1 hC.2.1 dX1_digest_38 rfl (lv_at hl 2 rfl) ?_
      refine lv_bipush (v := (nI 8)) hC.1 hC.2.1 dX1_digest_39 (by decide) ?_
      refine z_icmp_ge (tgt := 80) hC dX1_digest_41 (by decide) (by omega) (by omega) (fun h_41 => ?_) (fun h_41 => by omega)
      refine lv_iconst (v := (nI 0)) hC.1 hC.2.1 dX1_digest_80 (by decide) ?_
      refine lv_istore_n (lv' := [(3, .int (nI 0)), (0, .ref hm), (1, .long (dgP b (dgC b mk wd 7) 8))]) hC.1 hC.2.1 dX1_digest_81 rfl hl (by decide) rfl (fun ls hl => ?_)
      refine W.widen (k := 52 * 0) (n := 832 * 0) (by omega) (by omega) ?_
      exact loop3 5 0 _ _ _ _ rfl hY hF hP hD hS ls (lv_sub hl [1, 2, 0] rfl)
    | succ n ih =>
      intro q hk ls hl
      have inner : ∀ (n k : Nat), k + n = 3 → ∀ ls : Array Slot, lv_has ls 5 [(0, .ref hm), (1, .long (dgT b q (dgP b (dgC b mk wd 7) q) k)), (3, .int (nI q)), (4, .int (nI k))] → W p l e (rD (40) 260 4160) s m args below meth c H locs (0) (0) (MQ below (HVQ D z0 (MPo T L f hm rs td sz wo rr tr cu (.long (dig9 b mk wd)) (nI 0) mk b wd)) args s 260 4160 (zA z0)) (F0 m 47 ls []) := by
        intro n
        induction n with
        | zero =>
          intro k hc0 ls hl
          obtain rfl : k = 3 := by omega
          refine lv_iload hC.1 hC.2.1 dX1_digest_47 (lv_at hl 3 rfl) ?_
          refine lv_iconst (v := (nI 3)) hC.1 hC.2.1 dX1_digest_49 (by decide) ?_
          refine z_icmp_ge (tgt := 74) hC dX1_digest_50 (by decide) (by omega) (by omega) (fun h_50 => ?_) (fun h_50 => by omega)
          refine lv_iinc (v := nI (q + 1)) (lv' := [(3, .int (nI (q + 1))), (0, .ref hm), (1, .long (dgT b q (dgP b (dgC b mk wd 7) q) 3)), (4, .int (nI 3))]) hC.1 hC.2.1 dX1_digest_74 hl (k := 2) rfl (z_inc _) (by decide) rfl (fun ls hl => ?_)
          refine lv_goto (tgt := 38) hC.1 hC.2.1 dX1_digest_77 (by decide) ?_
          exact ih (q + 1) (by omega) ls (lv_sub hl [1, 2, 0] rfl)
        | succ n ih3 =>
          intro k hc0 ls hl
          refine lv_iload hC.1 hC.2.1 dX1_digest_47 (lv_at hl 3 rfl) ?_
          refine lv_iconst (v := (nI 3)) hC.1 hC.2.1 dX1_digest_49 (by decide) ?_
          refine z_icmp_ge (tgt := 74) hC dX1_digest_50 (by decide) (by omega) (by omega) (fun h_50 => by omega) (fun h_50 => ?_)
          refine lv_lload_n hC.1 hC.2.1 dX1_digest_53 rfl (lv_at hl 1 rfl) ?_
          refine lv_ldc2 (v := 31) hC.1 hC.2.1 hC.2.2.2.1 (hC.2.2.2.2 (.constantLong RX1 141 (31)) (by decide +kernel)) dX1_digest_54 ?_
          refine lv_lmul hC.1 hC.2.1 dX1_digest_57 ?_
          refine lv_aload_n hC.1 hC.2.1 dX1_digest_58 rfl (lv_at hl 0 rfl) ?_
          refine lv_iload_n hC.1 hC.2.1 dX1_digest_59 rfl (lv_at hl 2 rfl) ?_
          refine lv_iload hC.1 hC.2.1 dX1_digest_60 (lv_at hl 3 rfl) ?_
          refine p_cvB (n := 2) (m_placeTold l hY hvb (by omega : q < 8) (by omega)) hC hE hP hD hS (hmm) (hem) rfl gX1_digest_X1_placeTold rfl (by decide +kernel) rfl ⟨by decide, by decide⟩ ⟨by simp only [rD]; omega, by simp only [rD]; omega⟩ hl.1 (Nat.le_of_ble_eq_true rfl) dX1_digest_62 rfl ?_
          refine lv_i2l hC.1 hC.2.1 dX1_digest_65 rfl ?_
          refine lv_ladd hC.1 hC.2.1 dX1_digest_66 ?_
          refine lv_lstore_n (lv' := [(1, .long (((dgT b q (dgP b (dgC b mk wd 7) q) k) * 31) + ((nI (tV b q k))).toInt64)), (0, .ref hm), (3, .int (nI q)), (4, .int (nI k))]) hC.1 hC.2.1 dX1_digest_67 rfl hl (by decide) rfl (fun ls hl => ?_)
          refine lv_iinc (v := nI (k + 1)) (lv' := [(4, .int (nI (k + 1))), (1, .long (((dgT b q (dgP b (dgC b mk wd 7) q) k) * 31) + ((nI (tV b q k))).toInt64)), (0, .ref hm), (3, .int (nI q))]) hC.1 hC.2.1 dX1_digest_68 hl (k := 3) rfl (z_inc _) (by decide) rfl (fun ls hl => ?_)
          refine lv_goto (tgt := 47) hC.1 hC.2.1 dX1_digest_71 (by decide) ?_
          exact ih3 (k + 1) (by omega) ls (lv_sub hl [2, 1, 3, 0] rfl)
      refine lv_iload_n hC.1 hC.2.1 dX1_digest_38 rfl (lv_at hl 2 rfl) ?_
      refine lv_bipush (v := (nI 8)) hC.1 hC.2.1 dX1_digest_39 (by decide) ?_
      refine z_icmp_ge (tgt := 80) hC dX1_digest_41 (by decide) (by omega) (by omega) (fun h_41 => by omega) (fun h_41 => ?_)
      refine lv_iconst (v := (nI 0)) hC.1 hC.2.1 dX1_digest_44 (by decide) ?_
      refine lv_istore (lv' := [(4, .int (nI 0)), (0, .ref hm), (1, .long (dgP b (dgC b mk wd 7) q)), (3, .int (nI q))]) hC.1 hC.2.1 dX1_digest_45 hl (by decide) rfl (fun ls hl => ?_)
      exact inner 3 0 rfl ls (lv_sub hl [1, 2, 3, 0] rfl)
  have loop1 : ∀ (n k : Nat), k + n = 7 → ∀ ls : Array Slot, lv_has ls 5 [(0, .ref hm), (1, .long (dgC b mk wd k)), (3, .int (nI k))] → W p l e (rD (40) 260 4160) s m args below meth c H locs (0) (0) (MQ below (HVQ D z0 (MPo T L f hm rs td sz wo rr tr cu (.long (dig9 b mk wd)) (nI 0) mk b wd)) args s 260 4160 (zA z0)) (F0 m 11 ls []) := by
    intro n
    induction n with
    | zero =>
      intro k hc0 ls hl
      obtain rfl : k = 7 := by omega
      refine lv_iload_n hC.1 hC.2.1 dX1_digest_11 rfl (lv_at hl 2 rfl) ?_
      refine lv_bipush (v := (nI 7)) hC.1 hC.2.1 dX1_digest_12 (by decide) ?_
      refine z_icmp_ge (tgt := 36) hC dX1_digest_14 (by decide) (by omega) (by omega) (fun h_14 => ?_) (fun h_14 => by omega)
      refine lv_iconst (v := (nI 0)) hC.1 hC.2.1 dX1_digest_36 (by decide) ?_
      refine lv_istore_n (lv' := [(3, .int (nI 0)), (0, .ref hm), (1, .long (dgC b mk wd 7))]) hC.1 hC.2.1 dX1_digest_37 rfl hl (by decide) rfl (fun ls hl => ?_)
      exact loop2 8 0 rfl ls (lv_sub hl [1, 2, 0] rfl)
    | succ n ih =>
      intro k hc0 ls hl
      refine lv_iload_n hC.1 hC.2.1 dX1_digest_11 rfl (lv_at hl 2 rfl) ?_
      refine lv_bipush (v := (nI 7)) hC.1 hC.2.1 dX1_digest_12 (by decide) ?_
      refine z_icmp_ge (tgt := 36) hC dX1_digest_14 (by decide) (by omega) (by omega) (fun h_14 => by omega) (fun h_14 => ?_)
      refine lv_lload_n hC.1 hC.2.1 dX1_digest_17 rfl (lv_at hl 1 rfl) ?_
      refine lv_ldc2 (v := 31) hC.1 hC.2.1 hC.2.2.2.1 (hC.2.2.2.2 (.constantLong RX1 141 (31)) (by decide +kernel)) dX1_digest_18 ?_
      refine lv_lmul hC.1 hC.2.1 dX1_digest_21 ?_
      refine lv_aload_n hC.1 hC.2.1 dX1_digest_22 rfl (lv_at hl 0 rfl) ?_
      refine lv_iload_n hC.1 hC.2.1 dX1_digest_23 rfl (lv_at hl 2 rfl) ?_
      refine p_cvB (n := 1) (m_counted l hY hMS hG (by omega)) hC hE hP hD hS (hmm) (hem) rfl gX1_digest_X1_counted rfl (by decide +kernel) rfl ⟨by decide, by decide⟩ ⟨by simp only [rD]; omega, by simp only [rD]; omega⟩ hl.1 (Nat.le_of_ble_eq_true rfl) dX1_digest_24 rfl ?_
      refine lv_i2l hC.1 hC.2.1 dX1_digest_27 rfl ?_
      refine lv_ladd hC.1 hC.2.1 dX1_digest_28 ?_
      refine lv_lstore_n (lv' := [(1, .long (((dgC b mk wd k) * 31) + ((cV b mk wd k)).toInt64)), (0, .ref hm), (3, .int (nI k))]) hC.1 hC.2.1 dX1_digest_29 rfl hl (by decide) rfl (fun ls hl => ?_)
      refine lv_iinc (v := nI (k + 1)) (lv' := [(3, .int (nI (k + 1))), (1, .long (((dgC b mk wd k) * 31) + ((cV b mk wd k)).toInt64)), (0, .ref hm)]) hC.1 hC.2.1 dX1_digest_30 hl (k := 2) rfl (z_inc _) (by decide) rfl (fun ls hl => ?_)
      refine lv_goto (tgt := 11) hC.1 hC.2.1 dX1_digest_33 (by decide) ?_
      exact ih (k + 1) (by omega) ls (lv_sub hl [2, 1, 0] rfl)
  refine lv_ldc2 (v := 1787) hC.1 hC.2.1 hC.2.2.2.1 (hC.2.2.2.2 (.constantLong RX1 139 (1787)) (by decide +kernel)) dX1_digest_5 ?_
  refine lv_lstore_n (lv' := [(1, .long 1787), (0, .ref hm)]) hC.1 hC.2.1 dX1_digest_8 rfl hl (by decide) rfl (fun ls hl => ?_)
  refine lv_iconst (v := (nI 0)) hC.1 hC.2.1 dX1_digest_9 (by decide) ?_
  refine lv_istore_n (lv' := [(3, .int (nI 0)), (1, .long 1787), (0, .ref hm)]) hC.1 hC.2.1 dX1_digest_10 rfl hl (by decide) rfl (fun ls hl => ?_)
  exact loop1 7 0 rfl ls (lv_sub hl [2, 1, 0] rfl)
