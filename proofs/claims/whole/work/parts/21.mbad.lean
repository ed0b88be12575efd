/-! MY ROWS 21: the reference's public methods (laid by a program of mine) -/
def MPo (T : ClassId × ClassId × ClassId) (L : List Nat) (f : Nat → va_E) (hm rs td sz wo : Nat) (rr tr : Nat → Nat) (cu : Nat) (v : Value) (th' mk' : Int32) (b' : Nat → Nat) (wd' : Nat → List Nat) : Option Value → List Nat → (Nat → va_E) → Prop := fun o L' f' => o = some v ∧ ∃ cu', (cu' = cu ∨ cu' ∉ L) ∧ MZ T L' f' hm rs td sz wo rr tr cu' th' mk' b' wd' ∧ FRM hm sz wo tr L f L' f'
theorem comp_c8 {a a2 : Nat → Nat} (d : Nat → Nat) (h : ∀ i, i < 8 → a i = a2 i) : comp a d = comp a2 d := by
  funext i
  unfold comp
  rw [h (d i % 8) (Nat.mod_lt _ (by decide))]
theorem comp_one {c : Nat → Nat} (hv : Va c) {i : Nat} (hi : i < 8) : comp c one i = c i := by
  have := hv i hi
  unfold comp one
  rw [Nat.mod_eq_of_lt hi, Nat.div_eq_of_lt hi]
  omega
theorem bhN_comp {c : Nat → Nat} (hv : Va c) (l : List Nat) : ∀ k, ∀ i, i < 8 → bhN c l k i = comp c (bhN one l k) i
  | 0 => fun i hi => (comp_one hv hi).symm
  | k + 1 => fun i hi => by
    show turnC (bhN c l k) (l.getD k 0) i = comp c (turnC (bhN one l k) (l.getD k 0)) i
    rw [← comp_tq, ← comp_tq, ← comp_assoc, comp_c8 (a := bhN c l k) _ (bhN_comp hv l k)]
theorem behind_comp {c : Nat → Nat} (hv : Va c) (l : List Nat) {i : Nat} (hi : i < 8) : comp c (deed l) i = behind c l i := (bhN_comp hv l l.length i hi).symm
theorem m1_lt_of {n : Nat} {x : Int32} (hn : n < 2 ^ 30) (h : nI n ≤ x) : nI n - nI 1 < x := by
  have h1 := Int32.le_iff_toInt_le.mp h
  rw [nI_toInt (by omega)] at h1
  apply Int32.lt_iff_toInt_lt.mpr
  rw [pk_sub_toInt hn (by decide)]
  omega
theorem le_m1_of {n k : Nat} (hn : n < 2 ^ 30) (h : k < n) : nI k ≤ nI n - nI 1 := by
  apply Int32.le_iff_toInt_le.mpr
  rw [pk_sub_toInt hn (by decide), nI_toInt (by omega)]
  omega
def rvN (l : List Nat) : Nat → List Nat
  | 0 => []
  | j + 1 => rvN l j ++ [tb (l.getD (l.length - 1 - j) 0)]
theorem rvN_len (l : List Nat) : ∀ j, (rvN l j).length = j
  | 0 => rfl
  | j + 1 => by
    show (rvN l j ++ [_]).length = j + 1
    rw [List.length_append, rvN_len l j]
    rfl
theorem rvN_take (l : List Nat) : ∀ j, j ≤ l.length → rvN l j = (l.reverse.map tb).take j
  | 0, _ => by simp [rvN]
  | j + 1, hj => by
    show rvN l j ++ [_] = _
    rw [rvN_take l j (by omega), List.take_succ]
    congr 1
    have h1 : j < (l.reverse.map tb).length := by rw [List.length_map, List.length_reverse]; omega
    have h2 := gd_rev (l := l) (k := j) (by omega)
    rw [List.getD_eq_getElem?_getD, List.getElem?_eq_getElem h1] at h2
    rw [List.getElem?_eq_getElem h1, ← h2]
    rfl
theorem rvN_all (l : List Nat) : rvN l l.length = l.reverse.map tb := by
  rw [rvN_take l _ (Nat.le_refl _), List.take_of_length_le (by rw [List.length_map, List.length_reverse]; exact Nat.le_refl _)]
theorem take_gd {l : List Nat} {k : Nat} (h : k < l.length) : l.take (k + 1) = l.take k ++ [l.getD k 0] := by
  rw [List.take_succ, List.getElem?_eq_getElem h, List.getD_eq_getElem?_getD, List.getElem?_eq_getElem h]
  rfl

set_option maxHeartbeats 4000000 in
set_option maxRecDepth 100000 in
theorem mb_turn1 (l : Launch) {D : va_G} {T : ClassId × ClassId × ClassId} {z0 : Nat} {L : List Nat} {f : Nat → va_E} {hm rs td sz wo : Nat} {rr tr : Nat → Nat} {cu : Nat} {th mk : Int32} {b : Nat → Nat} {wd : Nat → List Nat} (hZ : MZ T L f hm rs td sz wo rr tr cu th mk b wd) {x y : Int32} (hx9 : x < nI 0 ∨ nI 2 < x) : HV l yX1_turn wsX1_turn (40) 0 0 D z0 (zPre D T z0 L f) [.ref hm, .int x, .int y] (MPo T L f hm rs td sz wo rr tr cu (.int (nI 0)) (nI 1) mk b wd) := by
  refine HV.of (cc := cX1_turn) (maxL := 3) (ret := (some .int)) (by decide) rfl (Nat.le_of_ble_eq_true rfl) ?_
  intro p e s m args below meth c hC hr hlk hin hB ls hl
  have hl : lv_has ls 3 [(0, .ref hm), (1, .int x), (2, .int y)] := hl
  obtain ⟨hE, hP, hD⟩ := hB
  have hS : va_S (zA z0) s.heap s.heap [] := va_S.rf
  obtain ⟨Nn, V, hY, hvb, hMS⟩ := id hZ
  obtain ⟨⟨hmm, hem⟩, ⟨hmc, gc, hec, hRc⟩, ⟨hmr, Gr, her, hGr⟩, hrr, ⟨hmt, Gt, het, hGt⟩, htr, hnt, ⟨hms, hes⟩, ⟨hmw, hew⟩⟩ := id hY
  refine lv_aload_n hC.1 hC.2.1 dX1_turn_0 rfl (lv_at hl 0 rfl) ?_
  refine lv_iconst (v := (nI 0)) hC.1 hC.2.1 dX1_turn_1 (by decide) ?_
  refine p_put (ref := "CornerCubeModel") (ty0 := tyX1) hC hE hP hD hS hmm hem rfl (by decide +kernel) tyX1_ok nmX1 0 (by decide) (by decide +kernel) rfl rfl rfl rfl (Nat.le_of_ble_eq_true rfl) dX1_turn_2 (fun H locs hP hD hS => ?_)
  have hY := hY.put_th (nI 0) mk
  have hF := (FRM.rf (hm := hm) (sz := sz) (wo := wo) (tr := tr) (L := L) (f := f)).put_hm (e := eO 1 [.int (nI 0), .int mk, .ref cu, .ref rs, .ref td, .ref sz, .ref wo])
  obtain ⟨⟨hmm, hem⟩, ⟨hmc, gc, hec, hRc⟩, ⟨hmr, Gr, her, hGr⟩, hrr, ⟨hmt, Gt, het, hGt⟩, htr, hnt, ⟨hms, hes⟩, ⟨hmw, hew⟩⟩ := id hY
  refine lv_iload_n hC.1 hC.2.1 dX1_turn_5 rfl (lv_at hl 1 rfl) ?_
  refine lv_iconst (v := (nI 0)) hC.1 hC.2.1 dX1_turn_6 (by decide) ?_
  refine lv_iconst (v := (nI 2)) hC.1 hC.2.1 dX1_turn_7 (by decide) ?_
  refine p_cs (n := 3) (m_isIn_f l hx9) hC gX1_turn_X1_isIn rfl (by decide +kernel) rfl ⟨by decide, by decide⟩ ⟨by simp only [rD]; omega, by simp only [rD]; omega⟩ hl.1 (Nat.le_of_ble_eq_true rfl) dX1_turn_8 rfl ?_
  refine z_if_ne (tgt := 20) hC dX1_turn_11 (by decide) (by omega) (fun h_11 => by omega) (fun h_11 => ?_)
  refine lv_aload_n hC.1 hC.2.1 dX1_turn_14 rfl (lv_at hl 0 rfl) ?_
  refine lv_iconst (v := (nI 1)) hC.1 hC.2.1 dX1_turn_15 (by decide) ?_
  refine p_cvH (n := 1) (m_no l hY (k := 1)) hC hE hP hD hS (hmm) (hem) rfl gX1_turn_X1_no rfl (by decide +kernel) rfl ⟨by decide, by decide⟩ ⟨by simp only [rD]; omega, by simp only [rD]; omega⟩ hl.1 (Nat.le_of_ble_eq_true rfl) dX1_turn_16 rfl (fun o L2 f2 H locs hpost hP hD hS => ?_)
  obtain ⟨rfl, hLe, hY, hF2⟩ := hpost
  rw [hLe] at hP hD
  have hF3 : FRM hm sz wo tr L f L f2 := fun a ha => ⟨ha, fun h1 h2 h3 h4 => ((hF2 a ha).2 h1 h2 h3 h4).trans ((hF a ha).2 h1 h2 h3 h4)⟩
  exact HV.iret hC hr hlk hP hD hS (by omega) (by omega) dX1_turn_19 (⟨rfl, cu, Or.inl rfl, ⟨_, _, hY, hvb, hMS⟩, hF3⟩)

set_option maxHeartbeats 4000000 in
set_option maxRecDepth 100000 in
theorem mb_turn2 (l : Launch) {D : va_G} {T : ClassId × ClassId × ClassId} {z0 : Nat} {L : List Nat} {f : Nat → va_E} {hm rs td sz wo : Nat} {rr tr : Nat → Nat} {cu : Nat} {th mk : Int32} {b : Nat → Nat} {wd : Nat → List Nat} (hZ : MZ T L f hm rs td sz wo rr tr cu th mk b wd) {fc : Nat} (hf : fc < 3) {x : Int32} (hx9 : x < nI 1 ∨ nI 3 < x) : HV l yX1_turn wsX1_turn (40) 0 0 D z0 (zPre D T z0 L f) [.ref hm, .int (nI fc), .int x] (MPo T L f hm rs td sz wo rr tr cu (.int (nI 0)) (nI 2) mk b wd) := by
  refine HV.of (cc := cX1_turn) (maxL := 3) (ret := (some .int)) (by decide) rfl (Nat.le_of_ble_eq_true rfl) ?_
  intro p e s m args below meth c hC hr hlk hin hB ls hl
  have hl : lv_has ls 3 [(0, .ref hm), (1, .int (nI fc)), (2, .int x)] := hl
  obtain ⟨hE, hP, hD⟩ := hB
  have hS : va_S (zA z0) s.heap s.heap [] := va_S.rf
  obtain ⟨Nn, V, hY, hvb, hMS⟩ := id hZ
  obtain ⟨⟨hmm, hem⟩, ⟨hmc, gc, hec, hRc⟩, ⟨hmr, Gr, her, hGr⟩, hrr, ⟨hmt, Gt, het, hGt⟩, htr, hnt, ⟨hms, hes⟩, ⟨hmw, hew⟩⟩ := id hY
  refine lv_aload_n hC.1 hC.2.1 dX1_turn_0 rfl (lv_at hl 0 rfl) ?_
  refine lv_iconst (v := (nI 0)) hC.1 hC.2.1 dX1_turn_1 (by decide) ?_
  refine p_put (ref := "CornerCubeModel") (ty0 := tyX1) hC hE hP hD hS hmm hem rfl (by decide +kernel) tyX1_ok nmX1 0 (by decide) (by decide +kernel) rfl rfl rfl rfl (Nat.le_of_ble_eq_true rfl) dX1_turn_2 (fun H locs hP hD hS => ?_)
  have hY := hY.put_th (nI 0) mk
  have hF := (FRM.rf (hm := hm) (sz := sz) (wo := wo) (tr := tr) (L := L) (f := f)).put_hm (e := eO 1 [.int (nI 0), .int mk, .ref cu, .ref rs, .ref td, .ref sz, .ref wo])
  obtain ⟨⟨hmm, hem⟩, ⟨hmc, gc, hec, hRc⟩, ⟨hmr, Gr, her, hGr⟩, hrr, ⟨hmt, Gt, het, hGt⟩, htr, hnt, ⟨hms, hes⟩, ⟨hmw, hew⟩⟩ := id hY
  refine lv_iload_n hC.1 hC.2.1 dX1_turn_5 rfl (lv_at hl 1 rfl) ?_
  refine lv_iconst (v := (nI 0)) hC.1 hC.2.1 dX1_turn_6 (by decide) ?_
  refine lv_iconst (v := (nI 2)) hC.1 hC.2.1 dX1_turn_7 (by decide) ?_
  refine p_cs (n := 3) (m_isIn_t l ((nI_leI (by omega) (by omega)).mpr (by omega)) ((nI_leI (by omega) (by omega)).mpr (by omega))) hC gX1_turn_X1_isIn rfl (by decide +kernel) rfl ⟨by decide, by decide⟩ ⟨by simp only [rD]; omega, by simp only [rD]; omega⟩ hl.1 (Nat.le_of_ble_eq_true rfl) dX1_turn_8 rfl ?_
  refine z_if_ne (tgt := 20) hC dX1_turn_11 (by decide) (by omega) (fun h_11 => ?_) (fun h_11 => by omega)
  refine lv_iload_n hC.1 hC.2.1 dX1_turn_20 rfl (lv_at hl 2 rfl) ?_
  refine lv_iconst (v := (nI 1)) hC.1 hC.2.1 dX1_turn_21 (by decide) ?_
  refine lv_iconst (v := (nI 3)) hC.1 hC.2.1 dX1_turn_22 (by decide) ?_
  refine p_cs (n := 3) (m_isIn_f l hx9) hC gX1_turn_X1_isIn rfl (by decide +kernel) rfl ⟨by decide, by decide⟩ ⟨by simp only [rD]; omega, by simp only [rD]; omega⟩ hl.1 (Nat.le_of_ble_eq_true rfl) dX1_turn_23 rfl ?_
  refine z_if_ne (tgt := 35) hC dX1_turn_26 (by decide) (by omega) (fun h_26 => by omega) (fun h_26 => ?_)
  refine lv_aload_n hC.1 hC.2.1 dX1_turn_29 rfl (lv_at hl 0 rfl) ?_
  refine lv_iconst (v := (nI 2)) hC.1 hC.2.1 dX1_turn_30 (by decide) ?_
  refine p_cvH (n := 1) (m_no l hY (k := 2)) hC hE hP hD hS (hmm) (hem) rfl gX1_turn_X1_no rfl (by decide +kernel) rfl ⟨by decide, by decide⟩ ⟨by simp only [rD]; omega, by simp only [rD]; omega⟩ hl.1 (Nat.le_of_ble_eq_true rfl) dX1_turn_31 rfl (fun o L2 f2 H locs hpost hP hD hS => ?_)
  obtain ⟨rfl, hLe, hY, hF2⟩ := hpost
  rw [hLe] at hP hD
  have hF3 : FRM hm sz wo tr L f L f2 := fun a ha => ⟨ha, fun h1 h2 h3 h4 => ((hF2 a ha).2 h1 h2 h3 h4).trans ((hF a ha).2 h1 h2 h3 h4)⟩
  exact HV.iret hC hr hlk hP hD hS (by omega) (by omega) dX1_turn_34 (⟨rfl, cu, Or.inl rfl, ⟨_, _, hY, hvb, hMS⟩, hF3⟩)

set_option maxHeartbeats 4000000 in
set_option maxRecDepth 100000 in
theorem mb_would1 (l : Launch) {D : va_G} {T : ClassId × ClassId × ClassId} {z0 : Nat} {L : List Nat} {f : Nat → va_E} {hm rs td sz wo : Nat} {rr tr : Nat → Nat} {cu : Nat} {th mk : Int32} {b : Nat → Nat} {wd : Nat → List Nat} (hZ : MZ T L f hm rs td sz wo rr tr cu th mk b wd) {x y : Int32} (hx9 : x < nI 0 ∨ nI 2 < x) : HV l yX1_would wsX1_would (40) 0 0 D z0 (zPre D T z0 L f) [.ref hm, .int x, .int y] (MPo T L f hm rs td sz wo rr tr cu (.int (nI 0)) (nI 1) mk b wd) := by
  refine HV.of (cc := cX1_would) (maxL := 3) (ret := (some .int)) (by decide) rfl (Nat.le_of_ble_eq_true rfl) ?_
  intro p e s m args below meth c hC hr hlk hin hB ls hl
  have hl : lv_has ls 3 [(0, .ref hm), (1, .int x), (2, .int y)] := hl
  obtain ⟨hE, hP, hD⟩ := hB
  have hS : va_S (zA z0) s.heap s.heap [] := va_S.rf
  obtain ⟨Nn, V, hY, hvb, hMS⟩ := id hZ
  obtain ⟨⟨hmm, hem⟩, ⟨hmc, gc, hec, hRc⟩, ⟨hmr, Gr, her, hGr⟩, hrr, ⟨hmt, Gt, het, hGt⟩, htr, hnt, ⟨hms, hes⟩, ⟨hmw, hew⟩⟩ := id hY
  refine lv_aload_n hC.1 hC.2.1 dX1_would_0 rfl (lv_at hl 0 rfl) ?_
  refine lv_iconst (v := (nI 0)) hC.1 hC.2.1 dX1_would_1 (by decide) ?_
  refine p_put (ref := "CornerCubeModel") (ty0 := tyX1) hC hE hP hD hS hmm hem rfl (by decide +kernel) tyX1_ok nmX1 0 (by decide) (by decide +kernel) rfl rfl rfl rfl (Nat.le_of_ble_eq_true rfl) dX1_would_2 (fun H locs hP hD hS => ?_)
  have hY := hY.put_th (nI 0) mk
  have hF := (FRM.rf (hm := hm) (sz := sz) (wo := wo) (tr := tr) (L := L) (f := f)).put_hm (e := eO 1 [.int (nI 0), .int mk, .ref cu, .ref rs, .ref td, .ref sz, .ref wo])
  obtain ⟨⟨hmm, hem⟩, ⟨hmc, gc, hec, hRc⟩, ⟨hmr, Gr, her, hGr⟩, hrr, ⟨hmt, Gt, het, hGt⟩, htr, hnt, ⟨hms, hes⟩, ⟨hmw, hew⟩⟩ := id hY
  refine lv_iload_n hC.1 hC.2.1 dX1_would_5 rfl (lv_at hl 1 rfl) ?_
  refine lv_iconst (v := (nI 0)) hC.1 hC.2.1 dX1_would_6 (by decide) ?_
  refine lv_iconst (v := (nI 2)) hC.1 hC.2.1 dX1_would_7 (by decide) ?_
  refine p_cs (n := 3) (m_isIn_f l hx9) hC gX1_would_X1_isIn rfl (by decide +kernel) rfl ⟨by decide, by decide⟩ ⟨by simp only [rD]; omega, by simp only [rD]; omega⟩ hl.1 (Nat.le_of_ble_eq_true rfl) dX1_would_8 rfl ?_
  refine z_if_ne (tgt := 20) hC dX1_would_11 (by decide) (by omega) (fun h_11 => by omega) (fun h_11 => ?_)
  refine lv_aload_n hC.1 hC.2.1 dX1_would_14 rfl (lv_at hl 0 rfl) ?_
  refine lv_iconst (v := (nI 1)) hC.1 hC.2.1 dX1_would_15 (by decide) ?_
  refine p_cvH (n := 1) (m_no l hY (k := 1)) hC hE hP hD hS (hmm) (hem) rfl gX1_would_X1_no rfl (by decide +kernel) rfl ⟨by decide, by decide⟩ ⟨by simp only [rD]; omega, by simp only [rD]; omega⟩ hl.1 (Nat.le_of_ble_eq_true rfl) dX1_would_16 rfl (fun o L2 f2 H locs hpost hP hD hS => ?_)
  obtain ⟨rfl, hLe, hY, hF2⟩ := hpost
  rw [hLe] at hP hD
  have hF3 : FRM hm sz wo tr L f L f2 := fun a ha => ⟨ha, fun h1 h2 h3 h4 => ((hF2 a ha).2 h1 h2 h3 h4).trans ((hF a ha).2 h1 h2 h3 h4)⟩
  exact HV.iret hC hr hlk hP hD hS (by omega) (by omega) dX1_would_19 (⟨rfl, cu, Or.inl rfl, ⟨_, _, hY, hvb, hMS⟩, hF3⟩)

set_option maxHeartbeats 4000000 in
set_option maxRecDepth 100000 in
theorem mb_would2 (l : Launch) {D : va_G} {T : ClassId × ClassId × ClassId} {z0 : Nat} {L : List Nat} {f : Nat → va_E} {hm rs td sz wo : Nat} {rr tr : Nat → Nat} {cu : Nat} {th mk : Int32} {b : Nat → Nat} {wd : Nat → List Nat} (hZ : MZ T L f hm rs td sz wo rr tr cu th mk b wd) {fc : Nat} (hf : fc < 3) {x : Int32} (hx9 : x < nI 1 ∨ nI 3 < x) : HV l yX1_would wsX1_would (40) 0 0 D z0 (zPre D T z0 L f) [.ref hm, .int (nI fc), .int x] (MPo T L f hm rs td sz wo rr tr cu (.int (nI 0)) (nI 2) mk b wd) := by
  refine HV.of (cc := cX1_would) (maxL := 3) (ret := (some .int)) (by decide) rfl (Nat.le_of_ble_eq_true rfl) ?_
  intro p e s m args below meth c hC hr hlk hin hB ls hl
  have hl : lv_has ls 3 [(0, .ref hm), (1, .int (nI fc)), (2, .int x)] := hl
  obtain ⟨hE, hP, hD⟩ := hB
  have hS : va_S (zA z0) s.heap s.heap [] := va_S.rf
  obtain ⟨Nn, V, hY, hvb, hMS⟩ := id hZ
  obtain ⟨⟨hmm, hem⟩, ⟨hmc, gc, hec, hRc⟩, ⟨hmr, Gr, her, hGr⟩, hrr, ⟨hmt, Gt, het, hGt⟩, htr, hnt, ⟨hms, hes⟩, ⟨hmw, hew⟩⟩ := id hY
  refine lv_aload_n hC.1 hC.2.1 dX1_would_0 rfl (lv_at hl 0 rfl) ?_
  refine lv_iconst (v := (nI 0)) hC.1 hC.2.1 dX1_would_1 (by decide) ?_
  refine p_put (ref := "CornerCubeModel") (ty0 := tyX1) hC hE hP hD hS hmm hem rfl (by decide +kernel) tyX1_ok nmX1 0 (by decide) (by decide +kernel) rfl rfl rfl rfl (Nat.le_of_ble_eq_true rfl) dX1_would_2 (fun H locs hP hD hS => ?_)
  have hY := hY.put_th (nI 0) mk
  have hF := (FRM.rf (hm := hm) (sz := sz) (wo := wo) (tr := tr) (L := L) (f := f)).put_hm (e := eO 1 [.int (nI 0), .int mk, .ref cu, .ref rs, .ref td, .ref sz, .ref wo])
  obtain ⟨⟨hmm, hem⟩, ⟨hmc, gc, hec, hRc⟩, ⟨hmr, Gr, her, hGr⟩, hrr, ⟨hmt, Gt, het, hGt⟩, htr, hnt, ⟨hms, hes⟩, ⟨hmw, hew⟩⟩ := id hY
  refine lv_iload_n hC.1 hC.2.1 dX1_would_5 rfl (lv_at hl 1 rfl) ?_
  refine lv_iconst (v := (nI 0)) hC.1 hC.2.1 dX1_would_6 (by decide) ?_
  refine lv_iconst (v := (nI 2)) hC.1 hC.2.1 dX1_would_7 (by decide) ?_
  refine p_cs (n := 3) (m_isIn_t l ((nI_leI (by omega) (by omega)).mpr (by omega)) ((nI_leI (by omega) (by omega)).mpr (by omega))) hC gX1_would_X1_isIn rfl (by decide +kernel) rfl ⟨by decide, by decide⟩ ⟨by simp only [rD]; omega, by simp only [rD]; omega⟩ hl.1 (Nat.le_of_ble_eq_true rfl) dX1_would_8 rfl ?_
  refine z_if_ne (tgt := 20) hC dX1_would_11 (by decide) (by omega) (fun h_11 => ?_) (fun h_11 => by omega)
  refine lv_iload_n hC.1 hC.2.1 dX1_would_20 rfl (lv_at hl 2 rfl) ?_
  refine lv_iconst (v := (nI 1)) hC.1 hC.2.1 dX1_would_21 (by decide) ?_
  refine lv_iconst (v := (nI 3)) hC.1 hC.2.1 dX1_would_22 (by decide) ?_
  refine p_cs (n := 3) (m_isIn_f l hx9) hC gX1_would_X1_isIn rfl (by decide +kernel) rfl ⟨by decide, by decide⟩ ⟨by simp only [rD]; omega, by simp only [rD]; omega⟩ hl.1 (Nat.le_of_ble_eq_true rfl) dX1_would_23 rfl ?_
  refine z_if_eq (tgt := 51) hC dX1_would_26 (by decide) (by omega) (fun h_26 => ?_) (fun h_26 => by omega)
  refine lv_aload_n hC.1 hC.2.1 dX1_would_51 rfl (lv_at hl 0 rfl) ?_
  refine lv_iconst (v := (nI 2)) hC.1 hC.2.1 dX1_would_52 (by decide) ?_
  refine p_cvH (n := 1) (m_no l hY (k := 2)) hC hE hP hD hS (hmm) (hem) rfl gX1_would_X1_no rfl (by decide +kernel) rfl ⟨by decide, by decide⟩ ⟨by simp only [rD]; omega, by simp only [rD]; omega⟩ hl.1 (Nat.le_of_ble_eq_true rfl) dX1_would_53 rfl (fun o L2 f2 H locs hpost hP hD hS => ?_)
  obtain ⟨rfl, hLe, hY, hF2⟩ := hpost
  rw [hLe] at hP hD
  have hF3 : FRM hm sz wo tr L f L f2 := fun a ha => ⟨ha, fun h1 h2 h3 h4 => ((hF2 a ha).2 h1 h2 h3 h4).trans ((hF a ha).2 h1 h2 h3 h4)⟩
  exact HV.iret hC hr hlk hP hD hS (by omega) (by omega) dX1_would_56 (⟨rfl, cu, Or.inl rfl, ⟨_, _, hY, hvb, hMS⟩, hF3⟩)

set_option maxHeartbeats 4000000 in
set_option maxRecDepth 100000 in
theorem mb_play1 (l : Launch) {D : va_G} {T : ClassId × ClassId × ClassId} {z0 : Nat} {L : List Nat} {f : Nat → va_E} {hm rs td sz wo : Nat} {rr tr : Nat → Nat} {cu : Nat} {th mk : Int32} {b : Nat → Nat} {wd : Nat → List Nat} (hZ : MZ T L f hm rs td sz wo rr tr cu th mk b wd) {x y : Int32} (hx9 : x < nI 0 ∨ nI 4 < x) : HV l yX1_play wsX1_play (40) 0 0 D z0 (zPre D T z0 L f) [.ref hm, .int x, .int y] (MPo T L f hm rs td sz wo rr tr cu (.int (nI 0)) (nI 1) mk b wd) := by
  refine HV.of (cc := cX1_play) (maxL := 4) (ret := (some .int)) (by decide) rfl (Nat.le_of_ble_eq_true rfl) ?_
  intro p e s m args below meth c hC hr hlk hin hB ls hl
  have hl : lv_has ls 4 [(0, .ref hm), (1, .int x), (2, .int y)] := hl
  obtain ⟨hE, hP, hD⟩ := hB
  have hS : va_S (zA z0) s.heap s.heap [] := va_S.rf
  obtain ⟨Nn, V, hY, hvb, hMS⟩ := id hZ
  obtain ⟨⟨hmm, hem⟩, ⟨hmc, gc, hec, hRc⟩, ⟨hmr, Gr, her, hGr⟩, hrr, ⟨hmt, Gt, het, hGt⟩, htr, hnt, ⟨hms, hes⟩, ⟨hmw, hew⟩⟩ := id hY
  refine lv_aload_n hC.1 hC.2.1 dX1_play_0 rfl (lv_at hl 0 rfl) ?_
  refine lv_iconst (v := (nI 0)) hC.1 hC.2.1 dX1_play_1 (by decide) ?_
  refine p_put (ref := "CornerCubeModel") (ty0 := tyX1) hC hE hP hD hS hmm hem rfl (by decide +kernel) tyX1_ok nmX1 0 (by decide) (by decide +kernel) rfl rfl rfl rfl (Nat.le_of_ble_eq_true rfl) dX1_play_2 (fun H locs hP hD hS => ?_)
  have hY := hY.put_th (nI 0) mk
  have hF := (FRM.rf (hm := hm) (sz := sz) (wo := wo) (tr := tr) (L := L) (f := f)).put_hm (e := eO 1 [.int (nI 0), .int mk, .ref cu, .ref rs, .ref td, .ref sz, .ref wo])
  obtain ⟨⟨hmm, hem⟩, ⟨hmc, gc, hec, hRc⟩, ⟨hmr, Gr, her, hGr⟩, hrr, ⟨hmt, Gt, het, hGt⟩, htr, hnt, ⟨hms, hes⟩, ⟨hmw, hew⟩⟩ := id hY
  refine lv_iload_n hC.1 hC.2.1 dX1_play_5 rfl (lv_at hl 1 rfl) ?_
  refine p_cs (n := 1) (m_isWord_f l hx9) hC gX1_play_X1_isWord rfl (by decide +kernel) rfl ⟨by decide, by decide⟩ ⟨by simp only [rD]; omega, by simp only [rD]; omega⟩ hl.1 (Nat.le_of_ble_eq_true rfl) dX1_play_6 rfl ?_
  refine z_if_ne (tgt := 18) hC dX1_play_9 (by decide) (by omega) (fun h_9 => by omega) (fun h_9 => ?_)
  refine lv_aload_n hC.1 hC.2.1 dX1_play_12 rfl (lv_at hl 0 rfl) ?_
  refine lv_iconst (v := (nI 1)) hC.1 hC.2.1 dX1_play_13 (by decide) ?_
  refine p_cvH (n := 1) (m_no l hY (k := 1)) hC hE hP hD hS (hmm) (hem) rfl gX1_play_X1_no rfl (by decide +kernel) rfl ⟨by decide, by decide⟩ ⟨by simp only [rD]; omega, by simp only [rD]; omega⟩ hl.1 (Nat.le_of_ble_eq_true rfl) dX1_play_14 rfl (fun o L2 f2 H locs hpost hP hD hS => ?_)
  obtain ⟨rfl, hLe, hY, hF2⟩ := hpost
  rw [hLe] at hP hD
  have hF3 : FRM hm sz wo tr L f L f2 := fun a ha => ⟨ha, fun h1 h2 h3 h4 => ((hF2 a ha).2 h1 h2 h3 h4).trans ((hF a ha).2 h1 h2 h3 h4)⟩
  exact HV.iret hC hr hlk hP hD hS (by omega) (by omega) dX1_play_17 (⟨rfl, cu, Or.inl rfl, ⟨_, _, hY, hvb, hMS⟩, hF3⟩)

set_option maxHeartbeats 4000000 in
set_option maxRecDepth 100000 in
theorem mb_play2 (l : Launch) {D : va_G} {T : ClassId × ClassId × ClassId} {z0 : Nat} {L : List Nat} {f : Nat → va_E} {hm rs td sz wo : Nat} {rr tr : Nat → Nat} {cu : Nat} {th mk : Int32} {b : Nat → Nat} {wd : Nat → List Nat} (hZ : MZ T L f hm rs td sz wo rr tr cu th mk b wd) {w : Nat} (hw : w < 5) {x : Int32} (hx9 : x < nI 1 ∨ nI 50 < x) : HV l yX1_play wsX1_play (40) 0 0 D z0 (zPre D T z0 L f) [.ref hm, .int (nI w), .int x] (MPo T L f hm rs td sz wo rr tr cu (.int (nI 0)) (nI 2) mk b wd) := by
  refine HV.of (cc := cX1_play) (maxL := 4) (ret := (some .int)) (by decide) rfl (Nat.le_of_ble_eq_true rfl) ?_
  intro p e s m args below meth c hC hr hlk hin hB ls hl
  have hl : lv_has ls 4 [(0, .ref hm), (1, .int (nI w)), (2, .int x)] := hl
  obtain ⟨hE, hP, hD⟩ := hB
  have hS : va_S (zA z0) s.heap s.heap [] := va_S.rf
  obtain ⟨Nn, V, hY, hvb, hMS⟩ := id hZ
  obtain ⟨⟨hmm, hem⟩, ⟨hmc, gc, hec, hRc⟩, ⟨hmr, Gr, her, hGr⟩, hrr, ⟨hmt, Gt, het, hGt⟩, htr, hnt, ⟨hms, hes⟩, ⟨hmw, hew⟩⟩ := id hY
  refine lv_aload_n hC.1 hC.2.1 dX1_play_0 rfl (lv_at hl 0 rfl) ?_
  refine lv_iconst (v := (nI 0)) hC.1 hC.2.1 dX1_play_1 (by decide) ?_
  refine p_put (ref := "CornerCubeModel") (ty0 := tyX1) hC hE hP hD hS hmm hem rfl (by decide +kernel) tyX1_ok nmX1 0 (by decide) (by decide +kernel) rfl rfl rfl rfl (Nat.le_of_ble_eq_true rfl) dX1_play_2 (fun H locs hP hD hS => ?_)
  have hY := hY.put_th (nI 0) mk
  have hF := (FRM.rf (hm := hm) (sz := sz) (wo := wo) (tr := tr) (L := L) (f := f)).put_hm (e := eO 1 [.int (nI 0), .int mk, .ref cu, .ref rs, .ref td, .ref sz, .ref wo])
  obtain ⟨⟨hmm, hem⟩, ⟨hmc, gc, hec, hRc⟩, ⟨hmr, Gr, her, hGr⟩, hrr, ⟨hmt, Gt, het, hGt⟩, htr, hnt, ⟨hms, hes⟩, ⟨hmw, hew⟩⟩ := id hY
  refine lv_iload_n hC.1 hC.2.1 dX1_play_5 rfl (lv_at hl 1 rfl) ?_
  refine p_cs (n := 1) (m_isWord_t l ((nI_leI (by omega) (by omega)).mpr (by omega)) ((nI_leI (by omega) (by omega)).mpr (by omega))) hC gX1_play_X1_isWord rfl (by decide +kernel) rfl ⟨by decide, by decide⟩ ⟨by simp only [rD]; omega, by simp only [rD]; omega⟩ hl.1 (Nat.le_of_ble_eq_true rfl) dX1_play_6 rfl ?_
  refine z_if_ne (tgt := 18) hC dX1_play_9 (by decide) (by omega) (fun h_9 => ?_) (fun h_9 => by omega)
  refine lv_iload_n hC.1 hC.2.1 dX1_play_18 rfl (lv_at hl 2 rfl) ?_
  refine lv_iconst (v := (nI 1)) hC.1 hC.2.1 dX1_play_19 (by decide) ?_
  refine lv_bipush (v := (nI 50)) hC.1 hC.2.1 dX1_play_20 (by decide) ?_
  refine p_cs (n := 3) (m_isIn_f l hx9) hC gX1_play_X1_isIn rfl (by decide +kernel) rfl ⟨by decide, by decide⟩ ⟨by simp only [rD]; omega, by simp only [rD]; omega⟩ hl.1 (Nat.le_of_ble_eq_true rfl) dX1_play_22 rfl ?_
  refine z_if_ne (tgt := 34) hC dX1_play_25 (by decide) (by omega) (fun h_25 => by omega) (fun h_25 => ?_)
  refine lv_aload_n hC.1 hC.2.1 dX1_play_28 rfl (lv_at hl 0 rfl) ?_
  refine lv_iconst (v := (nI 2)) hC.1 hC.2.1 dX1_play_29 (by decide) ?_
  refine p_cvH (n := 1) (m_no l hY (k := 2)) hC hE hP hD hS (hmm) (hem) rfl gX1_play_X1_no rfl (by decide +kernel) rfl ⟨by decide, by decide⟩ ⟨by simp only [rD]; omega, by simp only [rD]; omega⟩ hl.1 (Nat.le_of_ble_eq_true rfl) dX1_play_30 rfl (fun o L2 f2 H locs hpost hP hD hS => ?_)
  obtain ⟨rfl, hLe, hY, hF2⟩ := hpost
  rw [hLe] at hP hD
  have hF3 : FRM hm sz wo tr L f L f2 := fun a ha => ⟨ha, fun h1 h2 h3 h4 => ((hF2 a ha).2 h1 h2 h3 h4).trans ((hF a ha).2 h1 h2 h3 h4)⟩
  exact HV.iret hC hr hlk hP hD hS (by omega) (by omega) dX1_play_33 (⟨rfl, cu, Or.inl rfl, ⟨_, _, hY, hvb, hMS⟩, hF3⟩)

set_option maxHeartbeats 4000000 in
set_option maxRecDepth 100000 in
theorem mb_play3 (l : Launch) {D : va_G} {T : ClassId × ClassId × ClassId} {z0 : Nat} {L : List Nat} {f : Nat → va_E} {hm rs td sz wo : Nat} {rr tr : Nat → Nat} {cu : Nat} {th mk : Int32} {b : Nat → Nat} {wd : Nat → List Nat} (hZ : MZ T L f hm rs td sz wo rr tr cu th mk b wd) {w ts : Nat} (hw : w < 5) (h1 : 1 ≤ ts) (h2 : ts ≤ 50) (h0 : (wd w).length = 0) : HV l yX1_play wsX1_play (40) 0 0 D z0 (zPre D T z0 L f) [.ref hm, .int (nI w), .int (nI ts)] (MPo T L f hm rs td sz wo rr tr cu (.int (nI 0)) (nI 3) mk b wd) := by
  refine HV.of (cc := cX1_play) (maxL := 4) (ret := (some .int)) (by decide) rfl (Nat.le_of_ble_eq_true rfl) ?_
  intro p e s m args below meth c hC hr hlk hin hB ls hl
  have hl : lv_has ls 4 [(0, .ref hm), (1, .int (nI w)), (2, .int (nI ts))] := hl
  obtain ⟨hE, hP, hD⟩ := hB
  have hS : va_S (zA z0) s.heap s.heap [] := va_S.rf
  obtain ⟨Nn, V, hY, hvb, hMS⟩ := id hZ
  obtain ⟨⟨hmm, hem⟩, ⟨hmc, gc, hec, hRc⟩, ⟨hmr, Gr, her, hGr⟩, hrr, ⟨hmt, Gt, het, hGt⟩, htr, hnt, ⟨hms, hes⟩, ⟨hmw, hew⟩⟩ := id hY
  refine lv_aload_n hC.1 hC.2.1 dX1_play_0 rfl (lv_at hl 0 rfl) ?_
  refine lv_iconst (v := (nI 0)) hC.1 hC.2.1 dX1_play_1 (by decide) ?_
  refine p_put (ref := "CornerCubeModel") (ty0 := tyX1) hC hE hP hD hS hmm hem rfl (by decide +kernel) tyX1_ok nmX1 0 (by decide) (by decide +kernel) rfl rfl rfl rfl (Nat.le_of_ble_eq_true rfl) dX1_play_2 (fun H locs hP hD hS => ?_)
  have hY := hY.put_th (nI 0) mk
  have hF := (FRM.rf (hm := hm) (sz := sz) (wo := wo) (tr := tr) (L := L) (f := f)).put_hm (e := eO 1 [.int (nI 0), .int mk, .ref cu, .ref rs, .ref td, .ref sz, .ref wo])
  obtain ⟨⟨hmm, hem⟩, ⟨hmc, gc, hec, hRc⟩, ⟨hmr, Gr, her, hGr⟩, hrr, ⟨hmt, Gt, het, hGt⟩, htr, hnt, ⟨hms, hes⟩, ⟨hmw, hew⟩⟩ := id hY
  refine lv_iload_n hC.1 hC.2.1 dX1_play_5 rfl (lv_at hl 1 rfl) ?_
  refine p_cs (n := 1) (m_isWord_t l ((nI_leI (by omega) (by omega)).mpr (by omega)) ((nI_leI (by omega) (by omega)).mpr (by omega))) hC gX1_play_X1_isWord rfl (by decide +kernel) rfl ⟨by decide, by decide⟩ ⟨by simp only [rD]; omega, by simp only [rD]; omega⟩ hl.1 (Nat.le_of_ble_eq_true rfl) dX1_play_6 rfl ?_
  refine z_if_ne (tgt := 18) hC dX1_play_9 (by decide) (by omega) (fun h_9 => ?_) (fun h_9 => by omega)
  refine lv_iload_n hC.1 hC.2.1 dX1_play_18 rfl (lv_at hl 2 rfl) ?_
  refine lv_iconst (v := (nI 1)) hC.1 hC.2.1 dX1_play_19 (by decide) ?_
  refine lv_bipush (v := (nI 50)) hC.1 hC.2.1 dX1_play_20 (by decide) ?_
  refine p_cs (n := 3) (m_isIn_t l ((nI_leI (by omega) (by omega)).mpr (by omega)) ((nI_leI (by omega) (by omega)).mpr (by omega))) hC gX1_play_X1_isIn rfl (by decide +kernel) rfl ⟨by decide, by decide⟩ ⟨by simp only [rD]; omega, by simp only [rD]; omega⟩ hl.1 (Nat.le_of_ble_eq_true rfl) dX1_play_22 rfl ?_
  refine z_if_ne (tgt := 34) hC dX1_play_25 (by decide) (by omega) (fun h_25 => ?_) (fun h_25 => by omega)
  refine lv_aload_n hC.1 hC.2.1 dX1_play_34 rfl (lv_at hl 0 rfl) ?_
  refine p_get (ref := "CornerCubeModel") hC hE hP hmm hem rfl (by decide +kernel) 5 (by decide) (by decide +kernel) rfl rfl dX1_play_35 ?_
  refine lv_iload_n hC.1 hC.2.1 dX1_play_38 rfl (lv_at hl 1 rfl) ?_
  refine p_iald hC hE hP hms hes (by omega) (by decide) dX1_play_39 ?_
  refine q_i (nI (wd w).length) ((hMS _ (by omega)).1) ?_
  refine z_if_ne (tgt := 49) hC dX1_play_40 (by decide) (by omega) (fun h_40 => by omega) (fun h_40 => ?_)
  refine lv_aload_n hC.1 hC.2.1 dX1_play_43 rfl (lv_at hl 0 rfl) ?_
  refine lv_iconst (v := (nI 3)) hC.1 hC.2.1 dX1_play_44 (by decide) ?_
  refine p_cvH (n := 1) (m_no l hY (k := 3)) hC hE hP hD hS (hmm) (hem) rfl gX1_play_X1_no rfl (by decide +kernel) rfl ⟨by decide, by decide⟩ ⟨by simp only [rD]; omega, by simp only [rD]; omega⟩ hl.1 (Nat.le_of_ble_eq_true rfl) dX1_play_45 rfl (fun o L2 f2 H locs hpost hP hD hS => ?_)
  obtain ⟨rfl, hLe, hY, hF2⟩ := hpost
  rw [hLe] at hP hD
  have hF3 : FRM hm sz wo tr L f L f2 := fun a ha => ⟨ha, fun h1 h2 h3 h4 => ((hF2 a ha).2 h1 h2 h3 h4).trans ((hF a ha).2 h1 h2 h3 h4)⟩
  exact HV.iret hC hr hlk hP hD hS (by omega) (by omega) dX1_play_48 (⟨rfl, cu, Or.inl rfl, ⟨_, _, hY, hvb, hMS⟩, hF3⟩)

set_option maxHeartbeats 4000000 in
set_option maxRecDepth 100000 in
theorem mb_say1 (l : Launch) {D : va_G} {T : ClassId × ClassId × ClassId} {z0 : Nat} {L : List Nat} {f : Nat → va_E} {hm rs td sz wo : Nat} {rr tr : Nat → Nat} {cu : Nat} {th mk : Int32} {b : Nat → Nat} {wd : Nat → List Nat} (hZ : MZ T L f hm rs td sz wo rr tr cu th mk b wd) {x y z : Int32} (hx9 : x < nI 0 ∨ nI 4 < x) : HV l yX1_say wsX1_say (40) 0 0 D z0 (zPre D T z0 L f) [.ref hm, .int x, .int y, .int z] (MPo T L f hm rs td sz wo rr tr cu (.int (nI 0)) (nI 1) mk b wd) := by
  refine HV.of (cc := cX1_say) (maxL := 4) (ret := (some .int)) (by decide) rfl (Nat.le_of_ble_eq_true rfl) ?_
  intro p e s m args below meth c hC hr hlk hin hB ls hl
  have hl : lv_has ls 4 [(0, .ref hm), (1, .int x), (2, .int y), (3, .int z)] := hl
  obtain ⟨hE, hP, hD⟩ := hB
  have hS : va_S (zA z0) s.heap s.heap [] := va_S.rf
  obtain ⟨Nn, V, hY, hvb, hMS⟩ := id hZ
  obtain ⟨⟨hmm, hem⟩, ⟨hmc, gc, hec, hRc⟩, ⟨hmr, Gr, her, hGr⟩, hrr, ⟨hmt, Gt, het, hGt⟩, htr, hnt, ⟨hms, hes⟩, ⟨hmw, hew⟩⟩ := id hY
  refine lv_aload_n hC.1 hC.2.1 dX1_say_0 rfl (lv_at hl 0 rfl) ?_
  refine lv_iconst (v := (nI 0)) hC.1 hC.2.1 dX1_say_1 (by decide) ?_
  refine p_put (ref := "CornerCubeModel") (ty0 := tyX1) hC hE hP hD hS hmm hem rfl (by decide +kernel) tyX1_ok nmX1 0 (by decide) (by decide +kernel) rfl rfl rfl rfl (Nat.le_of_ble_eq_true rfl) dX1_say_2 (fun H locs hP hD hS => ?_)
  have hY := hY.put_th (nI 0) mk
  have hF := (FRM.rf (hm := hm) (sz := sz) (wo := wo) (tr := tr) (L := L) (f := f)).put_hm (e := eO 1 [.int (nI 0), .int mk, .ref cu, .ref rs, .ref td, .ref sz, .ref wo])
  obtain ⟨⟨hmm, hem⟩, ⟨hmc, gc, hec, hRc⟩, ⟨hmr, Gr, her, hGr⟩, hrr, ⟨hmt, Gt, het, hGt⟩, htr, hnt, ⟨hms, hes⟩, ⟨hmw, hew⟩⟩ := id hY
  refine lv_iload_n hC.1 hC.2.1 dX1_say_5 rfl (lv_at hl 1 rfl) ?_
  refine p_cs (n := 1) (m_isWord_f l hx9) hC gX1_say_X1_isWord rfl (by decide +kernel) rfl ⟨by decide, by decide⟩ ⟨by simp only [rD]; omega, by simp only [rD]; omega⟩ hl.1 (Nat.le_of_ble_eq_true rfl) dX1_say_6 rfl ?_
  refine z_if_eq (tgt := 21) hC dX1_say_9 (by decide) (by omega) (fun h_9 => ?_) (fun h_9 => by omega)
  refine lv_aload_n hC.1 hC.2.1 dX1_say_21 rfl (lv_at hl 0 rfl) ?_
  refine lv_iconst (v := (nI 1)) hC.1 hC.2.1 dX1_say_22 (by decide) ?_
  refine p_cvH (n := 1) (m_no l hY (k := 1)) hC hE hP hD hS (hmm) (hem) rfl gX1_say_X1_no rfl (by decide +kernel) rfl ⟨by decide, by decide⟩ ⟨by simp only [rD]; omega, by simp only [rD]; omega⟩ hl.1 (Nat.le_of_ble_eq_true rfl) dX1_say_23 rfl (fun o L2 f2 H locs hpost hP hD hS => ?_)
  obtain ⟨rfl, hLe, hY, hF2⟩ := hpost
  rw [hLe] at hP hD
  have hF3 : FRM hm sz wo tr L f L f2 := fun a ha => ⟨ha, fun h1 h2 h3 h4 => ((hF2 a ha).2 h1 h2 h3 h4).trans ((hF a ha).2 h1 h2 h3 h4)⟩
  exact HV.iret hC hr hlk hP hD hS (by omega) (by omega) dX1_say_26 (⟨rfl, cu, Or.inl rfl, ⟨_, _, hY, hvb, hMS⟩, hF3⟩)

set_option maxHeartbeats 4000000 in
set_option maxRecDepth 100000 in
theorem mb_say2 (l : Launch) {D : va_G} {T : ClassId × ClassId × ClassId} {z0 : Nat} {L : List Nat} {f : Nat → va_E} {hm rs td sz wo : Nat} {rr tr : Nat → Nat} {cu : Nat} {th mk : Int32} {b : Nat → Nat} {wd : Nat → List Nat} (hZ : MZ T L f hm rs td sz wo rr tr cu th mk b wd) {w : Nat} (hw : w < 5) {x z : Int32} (hx9 : x < nI 0 ∨ nI 2 < x) : HV l yX1_say wsX1_say (40) 0 0 D z0 (zPre D T z0 L f) [.ref hm, .int (nI w), .int x, .int z] (MPo T L f hm rs td sz wo rr tr cu (.int (nI 0)) (nI 1) mk b wd) := by
  refine HV.of (cc := cX1_say) (maxL := 4) (ret := (some .int)) (by decide) rfl (Nat.le_of_ble_eq_true rfl) ?_
  intro p e s m args below meth c hC hr hlk hin hB ls hl
  have hl : lv_has ls 4 [(0, .ref hm), (1, .int (nI w)), (2, .int x), (3, .int z)] := hl
  obtain ⟨hE, hP, hD⟩ := hB
  have hS : va_S (zA z0) s.heap s.heap [] := va_S.rf
  obtain ⟨Nn, V, hY, hvb, hMS⟩ := id hZ
  obtain ⟨⟨hmm, hem⟩, ⟨hmc, gc, hec, hRc⟩, ⟨hmr, Gr, her, hGr⟩, hrr, ⟨hmt, Gt, het, hGt⟩, htr, hnt, ⟨hms, hes⟩, ⟨hmw, hew⟩⟩ := id hY
  refine lv_aload_n hC.1 hC.2.1 dX1_say_0 rfl (lv_at hl 0 rfl) ?_
  refine lv_iconst (v := (nI 0)) hC.1 hC.2.1 dX1_say_1 (by decide) ?_
  refine p_put (ref := "CornerCubeModel") (ty0 := tyX1) hC hE hP hD hS hmm hem rfl (by decide +kernel) tyX1_ok nmX1 0 (by decide) (by decide +kernel) rfl rfl rfl rfl (Nat.le_of_ble_eq_true rfl) dX1_say_2 (fun H locs hP hD hS => ?_)
  have hY := hY.put_th (nI 0) mk
  have hF := (FRM.rf (hm := hm) (sz := sz) (wo := wo) (tr := tr) (L := L) (f := f)).put_hm (e := eO 1 [.int (nI 0), .int mk, .ref cu, .ref rs, .ref td, .ref sz, .ref wo])
  obtain ⟨⟨hmm, hem⟩, ⟨hmc, gc, hec, hRc⟩, ⟨hmr, Gr, her, hGr⟩, hrr, ⟨hmt, Gt, het, hGt⟩, htr, hnt, ⟨hms, hes⟩, ⟨hmw, hew⟩⟩ := id hY
  refine lv_iload_n hC.1 hC.2.1 dX1_say_5 rfl (lv_at hl 1 rfl) ?_
  refine p_cs (n := 1) (m_isWord_t l ((nI_leI (by omega) (by omega)).mpr (by omega)) ((nI_leI (by omega) (by omega)).mpr (by omega))) hC gX1_say_X1_isWord rfl (by decide +kernel) rfl ⟨by decide, by decide⟩ ⟨by simp only [rD]; omega, by simp only [rD]; omega⟩ hl.1 (Nat.le_of_ble_eq_true rfl) dX1_say_6 rfl ?_
  refine z_if_eq (tgt := 21) hC dX1_say_9 (by decide) (by omega) (fun h_9 => by omega) (fun h_9 => ?_)
  refine lv_iload_n hC.1 hC.2.1 dX1_say_12 rfl (lv_at hl 2 rfl) ?_
  refine lv_iconst (v := (nI 0)) hC.1 hC.2.1 dX1_say_13 (by decide) ?_
  refine lv_iconst (v := (nI 2)) hC.1 hC.2.1 dX1_say_14 (by decide) ?_
  refine p_cs (n := 3) (m_isIn_f l hx9) hC gX1_say_X1_isIn rfl (by decide +kernel) rfl ⟨by decide, by decide⟩ ⟨by simp only [rD]; omega, by simp only [rD]; omega⟩ hl.1 (Nat.le_of_ble_eq_true rfl) dX1_say_15 rfl ?_
  refine z_if_ne (tgt := 27) hC dX1_say_18 (by decide) (by omega) (fun h_18 => by omega) (fun h_18 => ?_)
  refine lv_aload_n hC.1 hC.2.1 dX1_say_21 rfl (lv_at hl 0 rfl) ?_
  refine lv_iconst (v := (nI 1)) hC.1 hC.2.1 dX1_say_22 (by decide) ?_
  refine p_cvH (n := 1) (m_no l hY (k := 1)) hC hE hP hD hS (hmm) (hem) rfl gX1_say_X1_no rfl (by decide +kernel) rfl ⟨by decide, by decide⟩ ⟨by simp only [rD]; omega, by simp only [rD]; omega⟩ hl.1 (Nat.le_of_ble_eq_true rfl) dX1_say_23 rfl (fun o L2 f2 H locs hpost hP hD hS => ?_)
  obtain ⟨rfl, hLe, hY, hF2⟩ := hpost
  rw [hLe] at hP hD
  have hF3 : FRM hm sz wo tr L f L f2 := fun a ha => ⟨ha, fun h1 h2 h3 h4 => ((hF2 a ha).2 h1 h2 h3 h4).trans ((hF a ha).2 h1 h2 h3 h4)⟩
  exact HV.iret hC hr hlk hP hD hS (by omega) (by omega) dX1_say_26 (⟨rfl, cu, Or.inl rfl, ⟨_, _, hY, hvb, hMS⟩, hF3⟩)

set_option maxHeartbeats 4000000 in
set_option maxRecDepth 100000 in
theorem mb_say3 (l : Launch) {D : va_G} {T : ClassId × ClassId × ClassId} {z0 : Nat} {L : List Nat} {f : Nat → va_E} {hm rs td sz wo : Nat} {rr tr : Nat → Nat} {cu : Nat} {th mk : Int32} {b : Nat → Nat} {wd : Nat → List Nat} (hZ : MZ T L f hm rs td sz wo rr tr cu th mk b wd) {w fc : Nat} (hw : w < 5) (hf : fc < 3) {x : Int32} (hx9 : x < nI 1 ∨ nI 3 < x) : HV l yX1_say wsX1_say (40) 0 0 D z0 (zPre D T z0 L f) [.ref hm, .int (nI w), .int (nI fc), .int x] (MPo T L f hm rs td sz wo rr tr cu (.int (nI 0)) (nI 2) mk b wd) := by
  refine HV.of (cc := cX1_say) (maxL := 4) (ret := (some .int)) (by decide) rfl (Nat.le_of_ble_eq_true rfl) ?_
  intro p e s m args below meth c hC hr hlk hin hB ls hl
  have hl : lv_has ls 4 [(0, .ref hm), (1, .int (nI w)), (2, .int (nI fc)), (3, .int x)] := hl
  obtain ⟨hE, hP, hD⟩ := hB
  have hS : va_S (zA z0) s.heap s.heap [] := va_S.rf
  obtain ⟨Nn, V, hY, hvb, hMS⟩ := id hZ
  obtain ⟨⟨hmm, hem⟩, ⟨hmc, gc, hec, hRc⟩, ⟨hmr, Gr, her, hGr⟩, hrr, ⟨hmt, Gt, het, hGt⟩, htr, hnt, ⟨hms, hes⟩, ⟨hmw, hew⟩⟩ := id hY
  refine lv_aload_n hC.1 hC.2.1 dX1_say_0 rfl (lv_at hl 0 rfl) ?_
  refine lv_iconst (v := (nI 0)) hC.1 hC.2.1 dX1_say_1 (by decide) ?_
  refine p_put (ref := "CornerCubeModel") (ty0 := tyX1) hC hE hP hD hS hmm hem rfl (by decide +kernel) tyX1_ok nmX1 0 (by decide) (by decide +kernel) rfl rfl rfl rfl (Nat.le_of_ble_eq_true rfl) dX1_say_2 (fun H locs hP hD hS => ?_)
  have hY := hY.put_th (nI 0) mk
  have hF := (FRM.rf (hm := hm) (sz := sz) (wo := wo) (tr := tr) (L := L) (f := f)).put_hm (e := eO 1 [.int (nI 0), .int mk, .ref cu, .ref rs, .ref td, .ref sz, .ref wo])
  obtain ⟨⟨hmm, hem⟩, ⟨hmc, gc, hec, hRc⟩, ⟨hmr, Gr, her, hGr⟩, hrr, ⟨hmt, Gt, het, hGt⟩, htr, hnt, ⟨hms, hes⟩, ⟨hmw, hew⟩⟩ := id hY
  refine lv_iload_n hC.1 hC.2.1 dX1_say_5 rfl (lv_at hl 1 rfl) ?_
  refine p_cs (n := 1) (m_isWord_t l ((nI_leI (by omega) (by omega)).mpr (by omega)) ((nI_leI (by omega) (by omega)).mpr (by omega))) hC gX1_say_X1_isWord rfl (by decide +kernel) rfl ⟨by decide, by decide⟩ ⟨by simp only [rD]; omega, by simp only [rD]; omega⟩ hl.1 (Nat.le_of_ble_eq_true rfl) dX1_say_6 rfl ?_
  refine z_if_eq (tgt := 21) hC dX1_say_9 (by decide) (by omega) (fun h_9 => by omega) (fun h_9 => ?_)
  refine lv_iload_n hC.1 hC.2.1 dX1_say_12 rfl (lv_at hl 2 rfl) ?_
  refine lv_iconst (v := (nI 0)) hC.1 hC.2.1 dX1_say_13 (by decide) ?_
  refine lv_iconst (v := (nI 2)) hC.1 hC.2.1 dX1_say_14 (by decide) ?_
  refine p_cs (n := 3) (m_isIn_t l ((nI_leI (by omega) (by omega)).mpr (by omega)) ((nI_leI (by omega) (by omega)).mpr (by omega))) hC gX1_say_X1_isIn rfl (by decide +kernel) rfl ⟨by decide, by decide⟩ ⟨by simp only [rD]; omega, by simp only [rD]; omega⟩ hl.1 (Nat.le_of_ble_eq_true rfl) dX1_say_15 rfl ?_
  refine z_if_ne (tgt := 27) hC dX1_say_18 (by decide) (by omega) (fun h_18 => ?_) (fun h_18 => by omega)
  refine lv_iload_n hC.1 hC.2.1 dX1_say_27 rfl (lv_at hl 3 rfl) ?_
  refine lv_iconst (v := (nI 1)) hC.1 hC.2.1 dX1_say_28 (by decide) ?_
  refine lv_iconst (v := (nI 3)) hC.1 hC.2.1 dX1_say_29 (by decide) ?_
  refine p_cs (n := 3) (m_isIn_f l hx9) hC gX1_say_X1_isIn rfl (by decide +kernel) rfl ⟨by decide, by decide⟩ ⟨by simp only [rD]; omega, by simp only [rD]; omega⟩ hl.1 (Nat.le_of_ble_eq_true rfl) dX1_say_30 rfl ?_
  refine z_if_ne (tgt := 42) hC dX1_say_33 (by decide) (by omega) (fun h_33 => by omega) (fun h_33 => ?_)
  refine lv_aload_n hC.1 hC.2.1 dX1_say_36 rfl (lv_at hl 0 rfl) ?_
  refine lv_iconst (v := (nI 2)) hC.1 hC.2.1 dX1_say_37 (by decide) ?_
  refine p_cvH (n := 1) (m_no l hY (k := 2)) hC hE hP hD hS (hmm) (hem) rfl gX1_say_X1_no rfl (by decide +kernel) rfl ⟨by decide, by decide⟩ ⟨by simp only [rD]; omega, by simp only [rD]; omega⟩ hl.1 (Nat.le_of_ble_eq_true rfl) dX1_say_38 rfl (fun o L2 f2 H locs hpost hP hD hS => ?_)
  obtain ⟨rfl, hLe, hY, hF2⟩ := hpost
  rw [hLe] at hP hD
  have hF3 : FRM hm sz wo tr L f L f2 := fun a ha => ⟨ha, fun h1 h2 h3 h4 => ((hF2 a ha).2 h1 h2 h3 h4).trans ((hF a ha).2 h1 h2 h3 h4)⟩
  exact HV.iret hC hr hlk hP hD hS (by omega) (by omega) dX1_say_41 (⟨rfl, cu, Or.inl rfl, ⟨_, _, hY, hvb, hMS⟩, hF3⟩)

set_option maxHeartbeats 4000000 in
set_option maxRecDepth 100000 in
theorem mb_say4 (l : Launch) {D : va_G} {T : ClassId × ClassId × ClassId} {z0 : Nat} {L : List Nat} {f : Nat → va_E} {hm rs td sz wo : Nat} {rr tr : Nat → Nat} {cu : Nat} {th mk : Int32} {b : Nat → Nat} {wd : Nat → List Nat} (hZ : MZ T L f hm rs td sz wo rr tr cu th mk b wd) {w fc q : Nat} (hw : w < 5) (hf : fc < 3) (h1 : 1 ≤ q) (hq : q < 4) (h12 : ¬ (wd w).length < 12) : HV l yX1_say wsX1_say (40) 0 0 D z0 (zPre D T z0 L f) [.ref hm, .int (nI w), .int (nI fc), .int (nI q)] (MPo T L f hm rs td sz wo rr tr cu (.int (nI 0)) (nI 3) mk b wd) := by
  refine HV.of (cc := cX1_say) (maxL := 4) (ret := (some .int)) (by decide) rfl (Nat.le_of_ble_eq_true rfl) ?_
  intro p e s m args below meth c hC hr hlk hin hB ls hl
  have hl : lv_has ls 4 [(0, .ref hm), (1, .int (nI w)), (2, .int (nI fc)), (3, .int (nI q))] := hl
  obtain ⟨hE, hP, hD⟩ := hB
  have hS : va_S (zA z0) s.heap s.heap [] := va_S.rf
  obtain ⟨Nn, V, hY, hvb, hMS⟩ := id hZ
  obtain ⟨⟨hmm, hem⟩, ⟨hmc, gc, hec, hRc⟩, ⟨hmr, Gr, her, hGr⟩, hrr, ⟨hmt, Gt, het, hGt⟩, htr, hnt, ⟨hms, hes⟩, ⟨hmw, hew⟩⟩ := id hY
  refine lv_aload_n hC.1 hC.2.1 dX1_say_0 rfl (lv_at hl 0 rfl) ?_
  refine lv_iconst (v := (nI 0)) hC.1 hC.2.1 dX1_say_1 (by decide) ?_
  refine p_put (ref := "CornerCubeModel") (ty0 := tyX1) hC hE hP hD hS hmm hem rfl (by decide +kernel) tyX1_ok nmX1 0 (by decide) (by decide +kernel) rfl rfl rfl rfl (Nat.le_of_ble_eq_true rfl) dX1_say_2 (fun H locs hP hD hS => ?_)
  have hY := hY.put_th (nI 0) mk
  have hF := (FRM.rf (hm := hm) (sz := sz) (wo := wo) (tr := tr) (L := L) (f := f)).put_hm (e := eO 1 [.int (nI 0), .int mk, .ref cu, .ref rs, .ref td, .ref sz, .ref wo])
  obtain ⟨⟨hmm, hem⟩, ⟨hmc, gc, hec, hRc⟩, ⟨hmr, Gr, her, hGr⟩, hrr, ⟨hmt, Gt, het, hGt⟩, htr, hnt, ⟨hms, hes⟩, ⟨hmw, hew⟩⟩ := id hY
  refine lv_iload_n hC.1 hC.2.1 dX1_say_5 rfl (lv_at hl 1 rfl) ?_
  refine p_cs (n := 1) (m_isWord_t l ((nI_leI (by omega) (by omega)).mpr (by omega)) ((nI_leI (by omega) (by omega)).mpr (by omega))) hC gX1_say_X1_isWord rfl (by decide +kernel) rfl ⟨by decide, by decide⟩ ⟨by simp only [rD]; omega, by simp only [rD]; omega⟩ hl.1 (Nat.le_of_ble_eq_true rfl) dX1_say_6 rfl ?_
  refine z_if_eq (tgt := 21) hC dX1_say_9 (by decide) (by omega) (fun h_9 => by omega) (fun h_9 => ?_)
  refine lv_iload_n hC.1 hC.2.1 dX1_say_12 rfl (lv_at hl 2 rfl) ?_
  refine lv_iconst (v := (nI 0)) hC.1 hC.2.1 dX1_say_13 (by decide) ?_
  refine lv_iconst (v := (nI 2)) hC.1 hC.2.1 dX1_say_14 (by decide) ?_
  refine p_cs (n := 3) (m_isIn_t l ((nI_leI (by omega) (by omega)).mpr (by omega)) ((nI_leI (by omega) (by omega)).mpr (by omega))) hC gX1_say_X1_isIn rfl (by decide +kernel) rfl ⟨by decide, by decide⟩ ⟨by simp only [rD]; omega, by simp only [rD]; omega⟩ hl.1 (Nat.le_of_ble_eq_true rfl) dX1_say_15 rfl ?_
  refine z_if_ne (tgt := 27) hC dX1_say_18 (by decide) (by omega) (fun h_18 => ?_) (fun h_18 => by omega)
  refine lv_iload_n hC.1 hC.2.1 dX1_say_27 rfl (lv_at hl 3 rfl) ?_
  refine lv_iconst (v := (nI 1)) hC.1 hC.2.1 dX1_say_28 (by decide) ?_
  refine lv_iconst (v := (nI 3)) hC.1 hC.2.1 dX1_say_29 (by decide) ?_
  refine p_cs (n := 3) (m_isIn_t l ((nI_leI (by omega) (by omega)).mpr (by omega)) ((nI_leI (by omega) (by omega)).mpr (by omega))) hC gX1_say_X1_isIn rfl (by decide +kernel) rfl ⟨by decide, by decide⟩ ⟨by simp only [rD]; omega, by simp only [rD]; omega⟩ hl.1 (Nat.le_of_ble_eq_true rfl) dX1_say_30 rfl ?_
  refine z_if_ne (tgt := 42) hC dX1_say_33 (by decide) (by omega) (fun h_33 => ?_) (fun h_33 => by omega)
  have hl12 := (hMS w hw).2.1
  refine lv_aload_n hC.1 hC.2.1 dX1_say_42 rfl (lv_at hl 0 rfl) ?_
  refine p_get (ref := "CornerCubeModel") hC hE hP hmm hem rfl (by decide +kernel) 5 (by decide) (by decide +kernel) rfl rfl dX1_say_43 ?_
  refine lv_iload_n hC.1 hC.2.1 dX1_say_46 rfl (lv_at hl 1 rfl) ?_
  refine p_iald hC hE hP hms hes (by omega) (by decide) dX1_say_47 ?_
  refine q_i (nI (wd w).length) ((hMS _ (by omega)).1) ?_
  refine lv_bipush (v := (nI 12)) hC.1 hC.2.1 dX1_say_48 (by decide) ?_
  refine z_icmp_ne (tgt := 59) hC dX1_say_50 (by decide) (by omega) (by omega) (fun h_50 => by omega) (fun h_50 => ?_)
  refine lv_aload_n hC.1 hC.2.1 dX1_say_53 rfl (lv_at hl 0 rfl) ?_
  refine lv_iconst (v := (nI 3)) hC.1 hC.2.1 dX1_say_54 (by decide) ?_
  refine p_cvH (n := 1) (m_no l hY (k := 3)) hC hE hP hD hS (hmm) (hem) rfl gX1_say_X1_no rfl (by decide +kernel) rfl ⟨by decide, by decide⟩ ⟨by simp only [rD]; omega, by simp only [rD]; omega⟩ hl.1 (Nat.le_of_ble_eq_true rfl) dX1_say_55 rfl (fun o L2 f2 H locs hpost hP hD hS => ?_)
  obtain ⟨rfl, hLe, hY, hF2⟩ := hpost
  rw [hLe] at hP hD
  have hF3 : FRM hm sz wo tr L f L f2 := fun a ha => ⟨ha, fun h1 h2 h3 h4 => ((hF2 a ha).2 h1 h2 h3 h4).trans ((hF a ha).2 h1 h2 h3 h4)⟩
  exact HV.iret hC hr hlk hP hD hS (by omega) (by omega) dX1_say_58 (⟨rfl, cu, Or.inl rfl, ⟨_, _, hY, hvb, hMS⟩, hF3⟩)

set_option maxHeartbeats 4000000 in
set_option maxRecDepth 100000 in
theorem mb_wipe1 (l : Launch) {D : va_G} {T : ClassId × ClassId × ClassId} {z0 : Nat} {L : List Nat} {f : Nat → va_E} {hm rs td sz wo : Nat} {rr tr : Nat → Nat} {cu : Nat} {th mk : Int32} {b : Nat → Nat} {wd : Nat → List Nat} (hZ : MZ T L f hm rs td sz wo rr tr cu th mk b wd) {x : Int32} (hx9 : x < nI 0 ∨ nI 4 < x) : HV l yX1_wipe wsX1_wipe (40) 0 0 D z0 (zPre D T z0 L f) [.ref hm, .int x] (MPo T L f hm rs td sz wo rr tr cu (.int (nI 0)) (nI 1) mk b wd) := by
  refine HV.of (cc := cX1_wipe) (maxL := 3) (ret := (some .int)) (by decide) rfl (Nat.le_of_ble_eq_true rfl) ?_
  intro p e s m args below meth c hC hr hlk hin hB ls hl
  have hl : lv_has ls 3 [(0, .ref hm), (1, .int x)] := hl
  obtain ⟨hE, hP, hD⟩ := hB
  have hS : va_S (zA z0) s.heap s.heap [] := va_S.rf
  obtain ⟨Nn, V, hY, hvb, hMS⟩ := id hZ
  obtain ⟨⟨hmm, hem⟩, ⟨hmc, gc, hec, hRc⟩, ⟨hmr, Gr, her, hGr⟩, hrr, ⟨hmt, Gt, het, hGt⟩, htr, hnt, ⟨hms, hes⟩, ⟨hmw, hew⟩⟩ := id hY
  refine lv_aload_n hC.1 hC.2.1 dX1_wipe_0 rfl (lv_at hl 0 rfl) ?_
  refine lv_iconst (v := (nI 0)) hC.1 hC.2.1 dX1_wipe_1 (by decide) ?_
  refine p_put (ref := "CornerCubeModel") (ty0 := tyX1) hC hE hP hD hS hmm hem rfl (by decide +kernel) tyX1_ok nmX1 0 (by decide) (by decide +kernel) rfl rfl rfl rfl (Nat.le_of_ble_eq_true rfl) dX1_wipe_2 (fun H locs hP hD hS => ?_)
  have hY := hY.put_th (nI 0) mk
  have hF := (FRM.rf (hm := hm) (sz := sz) (wo := wo) (tr := tr) (L := L) (f := f)).put_hm (e := eO 1 [.int (nI 0), .int mk, .ref cu, .ref rs, .ref td, .ref sz, .ref wo])
  obtain ⟨⟨hmm, hem⟩, ⟨hmc, gc, hec, hRc⟩, ⟨hmr, Gr, her, hGr⟩, hrr, ⟨hmt, Gt, het, hGt⟩, htr, hnt, ⟨hms, hes⟩, ⟨hmw, hew⟩⟩ := id hY
  refine lv_iload_n hC.1 hC.2.1 dX1_wipe_5 rfl (lv_at hl 1 rfl) ?_
  refine p_cs (n := 1) (m_isWord_f l hx9) hC gX1_wipe_X1_isWord rfl (by decide +kernel) rfl ⟨by decide, by decide⟩ ⟨by simp only [rD]; omega, by simp only [rD]; omega⟩ hl.1 (Nat.le_of_ble_eq_true rfl) dX1_wipe_6 rfl ?_
  refine z_if_ne (tgt := 18) hC dX1_wipe_9 (by decide) (by omega) (fun h_9 => by omega) (fun h_9 => ?_)
  refine lv_aload_n hC.1 hC.2.1 dX1_wipe_12 rfl (lv_at hl 0 rfl) ?_
  refine lv_iconst (v := (nI 1)) hC.1 hC.2.1 dX1_wipe_13 (by decide) ?_
  refine p_cvH (n := 1) (m_no l hY (k := 1)) hC hE hP hD hS (hmm) (hem) rfl gX1_wipe_X1_no rfl (by decide +kernel) rfl ⟨by decide, by decide⟩ ⟨by simp only [rD]; omega, by simp only [rD]; omega⟩ hl.1 (Nat.le_of_ble_eq_true rfl) dX1_wipe_14 rfl (fun o L2 f2 H locs hpost hP hD hS => ?_)
  obtain ⟨rfl, hLe, hY, hF2⟩ := hpost
  rw [hLe] at hP hD
  have hF3 : FRM hm sz wo tr L f L f2 := fun a ha => ⟨ha, fun h1 h2 h3 h4 => ((hF2 a ha).2 h1 h2 h3 h4).trans ((hF a ha).2 h1 h2 h3 h4)⟩
  exact HV.iret hC hr hlk hP hD hS (by omega) (by omega) dX1_wipe_17 (⟨rfl, cu, Or.inl rfl, ⟨_, _, hY, hvb, hMS⟩, hF3⟩)

set_option maxHeartbeats 4000000 in
set_option maxRecDepth 100000 in
theorem mb_round1 (l : Launch) {D : va_G} {T : ClassId × ClassId × ClassId} {z0 : Nat} {L : List Nat} {f : Nat → va_E} {hm rs td sz wo : Nat} {rr tr : Nat → Nat} {cu : Nat} {th mk : Int32} {b : Nat → Nat} {wd : Nat → List Nat} (hZ : MZ T L f hm rs td sz wo rr tr cu th mk b wd) {x : Int32} (hx9 : x < nI 0 ∨ nI 4 < x) : HV l yX1_round wsX1_round (40) 0 0 D z0 (zPre D T z0 L f) [.ref hm, .int x] (MPo T L f hm rs td sz wo rr tr cu (.int (nI 0)) (nI 1) mk b wd) := by
  refine HV.of (cc := cX1_round) (maxL := 4) (ret := (some .int)) (by decide) rfl (Nat.le_of_ble_eq_true rfl) ?_
  intro p e s m args below meth c hC hr hlk hin hB ls hl
  have hl : lv_has ls 4 [(0, .ref hm), (1, .int x)] := hl
  obtain ⟨hE, hP, hD⟩ := hB
  have hS : va_S (zA z0) s.heap s.heap [] := va_S.rf
  obtain ⟨Nn, V, hY, hvb, hMS⟩ := id hZ
  obtain ⟨⟨hmm, hem⟩, ⟨hmc, gc, hec, hRc⟩, ⟨hmr, Gr, her, hGr⟩, hrr, ⟨hmt, Gt, het, hGt⟩, htr, hnt, ⟨hms, hes⟩, ⟨hmw, hew⟩⟩ := id hY
  refine lv_aload_n hC.1 hC.2.1 dX1_round_0 rfl (lv_at hl 0 rfl) ?_
  refine lv_iconst (v := (nI 0)) hC.1 hC.2.1 dX1_round_1 (by decide) ?_
  refine p_put (ref := "CornerCubeModel") (ty0 := tyX1) hC hE hP hD hS hmm hem rfl (by decide +kernel) tyX1_ok nmX1 0 (by decide) (by decide +kernel) rfl rfl rfl rfl (Nat.le_of_ble_eq_true rfl) dX1_round_2 (fun H locs hP hD hS => ?_)
  have hY := hY.put_th (nI 0) mk
  have hF := (FRM.rf (hm := hm) (sz := sz) (wo := wo) (tr := tr) (L := L) (f := f)).put_hm (e := eO 1 [.int (nI 0), .int mk, .ref cu, .ref rs, .ref td, .ref sz, .ref wo])
  obtain ⟨⟨hmm, hem⟩, ⟨hmc, gc, hec, hRc⟩, ⟨hmr, Gr, her, hGr⟩, hrr, ⟨hmt, Gt, het, hGt⟩, htr, hnt, ⟨hms, hes⟩, ⟨hmw, hew⟩⟩ := id hY
  refine lv_iload_n hC.1 hC.2.1 dX1_round_5 rfl (lv_at hl 1 rfl) ?_
  refine p_cs (n := 1) (m_isWord_f l hx9) hC gX1_round_X1_isWord rfl (by decide +kernel) rfl ⟨by decide, by decide⟩ ⟨by simp only [rD]; omega, by simp only [rD]; omega⟩ hl.1 (Nat.le_of_ble_eq_true rfl) dX1_round_6 rfl ?_
  refine z_if_ne (tgt := 18) hC dX1_round_9 (by decide) (by omega) (fun h_9 => by omega) (fun h_9 => ?_)
  refine lv_aload_n hC.1 hC.2.1 dX1_round_12 rfl (lv_at hl 0 rfl) ?_
  refine lv_iconst (v := (nI 1)) hC.1 hC.2.1 dX1_round_13 (by decide) ?_
  refine p_cvH (n := 1) (m_no l hY (k := 1)) hC hE hP hD hS (hmm) (hem) rfl gX1_round_X1_no rfl (by decide +kernel) rfl ⟨by decide, by decide⟩ ⟨by simp only [rD]; omega, by simp only [rD]; omega⟩ hl.1 (Nat.le_of_ble_eq_true rfl) dX1_round_14 rfl (fun o L2 f2 H locs hpost hP hD hS => ?_)
  obtain ⟨rfl, hLe, hY, hF2⟩ := hpost
  rw [hLe] at hP hD
  have hF3 : FRM hm sz wo tr L f L f2 := fun a ha => ⟨ha, fun h1 h2 h3 h4 => ((hF2 a ha).2 h1 h2 h3 h4).trans ((hF a ha).2 h1 h2 h3 h4)⟩
  exact HV.iret hC hr hlk hP hD hS (by omega) (by omega) dX1_round_17 (⟨rfl, cu, Or.inl rfl, ⟨_, _, hY, hvb, hMS⟩, hF3⟩)

set_option maxHeartbeats 4000000 in
set_option maxRecDepth 100000 in
theorem mb_tidy1 (l : Launch) {D : va_G} {T : ClassId × ClassId × ClassId} {z0 : Nat} {L : List Nat} {f : Nat → va_E} {hm rs td sz wo : Nat} {rr tr : Nat → Nat} {cu : Nat} {th mk : Int32} {b : Nat → Nat} {wd : Nat → List Nat} (hZ : MZ T L f hm rs td sz wo rr tr cu th mk b wd) {x : Int32} (hx9 : x < nI 0 ∨ nI 4 < x) : HV l yX1_tidy wsX1_tidy (40) 0 0 D z0 (zPre D T z0 L f) [.ref hm, .int x] (MPo T L f hm rs td sz wo rr tr cu (.int (nI 0)) (nI 1) mk b wd) := by
  refine HV.of (cc := cX1_tidy) (maxL := 8) (ret := (some .int)) (by decide) rfl (Nat.le_of_ble_eq_true rfl) ?_
  intro p e s m args below meth c hC hr hlk hin hB ls hl
  have hl : lv_has ls 8 [(0, .ref hm), (1, .int x)] := hl
  obtain ⟨hE, hP, hD⟩ := hB
  have hS : va_S (zA z0) s.heap s.heap [] := va_S.rf
  obtain ⟨Nn, V, hY, hvb, hMS⟩ := id hZ
  obtain ⟨⟨hmm, hem⟩, ⟨hmc, gc, hec, hRc⟩, ⟨hmr, Gr, her, hGr⟩, hrr, ⟨hmt, Gt, het, hGt⟩, htr, hnt, ⟨hms, hes⟩, ⟨hmw, hew⟩⟩ := id hY
  refine lv_aload_n hC.1 hC.2.1 dX1_tidy_0 rfl (lv_at hl 0 rfl) ?_
  refine lv_iconst (v := (nI 0)) hC.1 hC.2.1 dX1_tidy_1 (by decide) ?_
  refine p_put (ref := "CornerCubeModel") (ty0 := tyX1) hC hE hP hD hS hmm hem rfl (by decide +kernel) tyX1_ok nmX1 0 (by decide) (by decide +kernel) rfl rfl rfl rfl (Nat.le_of_ble_eq_true rfl) dX1_tidy_2 (fun H locs hP hD hS => ?_)
  have hY := hY.put_th (nI 0) mk
  have hF := (FRM.rf (hm := hm) (sz := sz) (wo := wo) (tr := tr) (L := L) (f := f)).put_hm (e := eO 1 [.int (nI 0), .int mk, .ref cu, .ref rs, .ref td, .ref sz, .ref wo])
  obtain ⟨⟨hmm, hem⟩, ⟨hmc, gc, hec, hRc⟩, ⟨hmr, Gr, her, hGr⟩, hrr, ⟨hmt, Gt, het, hGt⟩, htr, hnt, ⟨hms, hes⟩, ⟨hmw, hew⟩⟩ := id hY
  refine lv_iload_n hC.1 hC.2.1 dX1_tidy_5 rfl (lv_at hl 1 rfl) ?_
  refine p_cs (n := 1) (m_isWord_f l hx9) hC gX1_tidy_X1_isWord rfl (by decide +kernel) rfl ⟨by decide, by decide⟩ ⟨by simp only [rD]; omega, by simp only [rD]; omega⟩ hl.1 (Nat.le_of_ble_eq_true rfl) dX1_tidy_6 rfl ?_
  refine z_if_ne (tgt := 18) hC dX1_tidy_9 (by decide) (by omega) (fun h_9 => by omega) (fun h_9 => ?_)
  refine lv_aload_n hC.1 hC.2.1 dX1_tidy_12 rfl (lv_at hl 0 rfl) ?_
  refine lv_iconst (v := (nI 1)) hC.1 hC.2.1 dX1_tidy_13 (by decide) ?_
  refine p_cvH (n := 1) (m_no l hY (k := 1)) hC hE hP hD hS (hmm) (hem) rfl gX1_tidy_X1_no rfl (by decide +kernel) rfl ⟨by decide, by decide⟩ ⟨by simp only [rD]; omega, by simp only [rD]; omega⟩ hl.1 (Nat.le_of_ble_eq_true rfl) dX1_tidy_14 rfl (fun o L2 f2 H locs hpost hP hD hS => ?_)
  obtain ⟨rfl, hLe, hY, hF2⟩ := hpost
  rw [hLe] at hP hD
  have hF3 : FRM hm sz wo tr L f L f2 := fun a ha => ⟨ha, fun h1 h2 h3 h4 => ((hF2 a ha).2 h1 h2 h3 h4).trans ((hF a ha).2 h1 h2 h3 h4)⟩
  exact HV.iret hC hr hlk hP hD hS (by omega) (by omega) dX1_tidy_17 (⟨rfl, cu, Or.inl rfl, ⟨_, _, hY, hvb, hMS⟩, hF3⟩)

set_option maxHeartbeats 4000000 in
set_option maxRecDepth 100000 in
theorem mb_join1 (l : Launch) {D : va_G} {T : ClassId × ClassId × ClassId} {z0 : Nat} {L : List Nat} {f : Nat → va_E} {hm rs td sz wo : Nat} {rr tr : Nat → Nat} {cu : Nat} {th mk : Int32} {b : Nat → Nat} {wd : Nat → List Nat} (hZ : MZ T L f hm rs td sz wo rr tr cu th mk b wd) {x y : Int32} (hx9 : x < nI 0 ∨ nI 4 < x) : HV l yX1_join wsX1_join (40) 0 0 D z0 (zPre D T z0 L f) [.ref hm, .int x, .int y] (MPo T L f hm rs td sz wo rr tr cu (.int (nI 0)) (nI 1) mk b wd) := by
  refine HV.of (cc := cX1_join) (maxL := 5) (ret := (some .int)) (by decide) rfl (Nat.le_of_ble_eq_true rfl) ?_
  intro p e s m args below meth c hC hr hlk hin hB ls hl
  have hl : lv_has ls 5 [(0, .ref hm), (1, .int x), (2, .int y)] := hl
  obtain ⟨hE, hP, hD⟩ := hB
  have hS : va_S (zA z0) s.heap s.heap [] := va_S.rf
  obtain ⟨Nn, V, hY, hvb, hMS⟩ := id hZ
  obtain ⟨⟨hmm, hem⟩, ⟨hmc, gc, hec, hRc⟩, ⟨hmr, Gr, her, hGr⟩, hrr, ⟨hmt, Gt, het, hGt⟩, htr, hnt, ⟨hms, hes⟩, ⟨hmw, hew⟩⟩ := id hY
  refine lv_aload_n hC.1 hC.2.1 dX1_join_0 rfl (lv_at hl 0 rfl) ?_
  refine lv_iconst (v := (nI 0)) hC.1 hC.2.1 dX1_join_1 (by decide) ?_
  refine p_put (ref := "CornerCubeModel") (ty0 := tyX1) hC hE hP hD hS hmm hem rfl (by decide +kernel) tyX1_ok nmX1 0 (by decide) (by decide +kernel) rfl rfl rfl rfl (Nat.le_of_ble_eq_true rfl) dX1_join_2 (fun H locs hP hD hS => ?_)
  have hY := hY.put_th (nI 0) mk
  have hF := (FRM.rf (hm := hm) (sz := sz) (wo := wo) (tr := tr) (L := L) (f := f)).put_hm (e := eO 1 [.int (nI 0), .int mk, .ref cu, .ref rs, .ref td, .ref sz, .ref wo])
  obtain ⟨⟨hmm, hem⟩, ⟨hmc, gc, hec, hRc⟩, ⟨hmr, Gr, her, hGr⟩, hrr, ⟨hmt, Gt, het, hGt⟩, htr, hnt, ⟨hms, hes⟩, ⟨hmw, hew⟩⟩ := id hY
  refine lv_iload_n hC.1 hC.2.1 dX1_join_5 rfl (lv_at hl 1 rfl) ?_
  refine p_cs (n := 1) (m_isWord_f l hx9) hC gX1_join_X1_isWord rfl (by decide +kernel) rfl ⟨by decide, by decide⟩ ⟨by simp only [rD]; omega, by simp only [rD]; omega⟩ hl.1 (Nat.le_of_ble_eq_true rfl) dX1_join_6 rfl ?_
  refine z_if_eq (tgt := 19) hC dX1_join_9 (by decide) (by omega) (fun h_9 => ?_) (fun h_9 => by omega)
  refine lv_aload_n hC.1 hC.2.1 dX1_join_19 rfl (lv_at hl 0 rfl) ?_
  refine lv_iconst (v := (nI 1)) hC.1 hC.2.1 dX1_join_20 (by decide) ?_
  refine p_cvH (n := 1) (m_no l hY (k := 1)) hC hE hP hD hS (hmm) (hem) rfl gX1_join_X1_no rfl (by decide +kernel) rfl ⟨by decide, by decide⟩ ⟨by simp only [rD]; omega, by simp only [rD]; omega⟩ hl.1 (Nat.le_of_ble_eq_true rfl) dX1_join_21 rfl (fun o L2 f2 H locs hpost hP hD hS => ?_)
  obtain ⟨rfl, hLe, hY, hF2⟩ := hpost
  rw [hLe] at hP hD
  have hF3 : FRM hm sz wo tr L f L f2 := fun a ha => ⟨ha, fun h1 h2 h3 h4 => ((hF2 a ha).2 h1 h2 h3 h4).trans ((hF a ha).2 h1 h2 h3 h4)⟩
  exact HV.iret hC hr hlk hP hD hS (by omega) (by omega) dX1_join_24 (⟨rfl, cu, Or.inl rfl, ⟨_, _, hY, hvb, hMS⟩, hF3⟩)

set_option maxHeartbeats 4000000 in
set_option maxRecDepth 100000 in
theorem mb_join2 (l : Launch) {D : va_G} {T : ClassId × ClassId × ClassId} {z0 : Nat} {L : List Nat} {f : Nat → va_E} {hm rs td sz wo : Nat} {rr tr : Nat → Nat} {cu : Nat} {th mk : Int32} {b : Nat → Nat} {wd : Nat → List Nat} (hZ : MZ T L f hm rs td sz wo rr tr cu th mk b wd) {w : Nat} (hw : w < 5) {x : Int32} (hx9 : x < nI 0 ∨ nI 4 < x) : HV l yX1_join wsX1_join (40) 0 0 D z0 (zPre D T z0 L f) [.ref hm, .int (nI w), .int x] (MPo T L f hm rs td sz wo rr tr cu (.int (nI 0)) (nI 1) mk b wd) := by
  refine HV.of (cc := cX1_join) (maxL := 5) (ret := (some .int)) (by decide) rfl (Nat.le_of_ble_eq_true rfl) ?_
  intro p e s m args below meth c hC hr hlk hin hB ls hl
  have hl : lv_has ls 5 [(0, .ref hm), (1, .int (nI w)), (2, .int x)] := hl
  obtain ⟨hE, hP, hD⟩ := hB
  have hS : va_S (zA z0) s.heap s.heap [] := va_S.rf
  obtain ⟨Nn, V, hY, hvb, hMS⟩ := id hZ
  obtain ⟨⟨hmm, hem⟩, ⟨hmc, gc, hec, hRc⟩, ⟨hmr, Gr, her, hGr⟩, hrr, ⟨hmt, Gt, het, hGt⟩, htr, hnt, ⟨hms, hes⟩, ⟨hmw, hew⟩⟩ := id hY
  refine lv_aload_n hC.1 hC.2.1 dX1_join_0 rfl (lv_at hl 0 rfl) ?_
  refine lv_iconst (v := (nI 0)) hC.1 hC.2.1 dX1_join_1 (by decide) ?_
  refine p_put (ref := "CornerCubeModel") (ty0 := tyX1) hC hE hP hD hS hmm hem rfl (by decide +kernel) tyX1_ok nmX1 0 (by decide) (by decide +kernel) rfl rfl rfl rfl (Nat.le_of_ble_eq_true rfl) dX1_join_2 (fun H locs hP hD hS => ?_)
  have hY := hY.put_th (nI 0) mk
  have hF := (FRM.rf (hm := hm) (sz := sz) (wo := wo) (tr := tr) (L := L) (f := f)).put_hm (e := eO 1 [.int (nI 0), .int mk, .ref cu, .ref rs, .ref td, .ref sz, .ref wo])
  obtain ⟨⟨hmm, hem⟩, ⟨hmc, gc, hec, hRc⟩, ⟨hmr, Gr, her, hGr⟩, hrr, ⟨hmt, Gt, het, hGt⟩, htr, hnt, ⟨hms, hes⟩, ⟨hmw, hew⟩⟩ := id hY
  refine lv_iload_n hC.1 hC.2.1 dX1_join_5 rfl (lv_at hl 1 rfl) ?_
  refine p_cs (n := 1) (m_isWord_t l ((nI_leI (by omega) (by omega)).mpr (by omega)) ((nI_leI (by omega) (by omega)).mpr (by omega))) hC gX1_join_X1_isWord rfl (by decide +kernel) rfl ⟨by decide, by decide⟩ ⟨by simp only [rD]; omega, by simp only [rD]; omega⟩ hl.1 (Nat.le_of_ble_eq_true rfl) dX1_join_6 rfl ?_
  refine z_if_eq (tgt := 19) hC dX1_join_9 (by decide) (by omega) (fun h_9 => by omega) (fun h_9 => ?_)
  refine lv_iload_n hC.1 hC.2.1 dX1_join_12 rfl (lv_at hl 2 rfl) ?_
  refine p_cs (n := 1) (m_isWord_f l hx9) hC gX1_join_X1_isWord rfl (by decide +kernel) rfl ⟨by decide, by decide⟩ ⟨by simp only [rD]; omega, by simp only [rD]; omega⟩ hl.1 (Nat.le_of_ble_eq_true rfl) dX1_join_13 rfl ?_
  refine z_if_ne (tgt := 25) hC dX1_join_16 (by decide) (by omega) (fun h_16 => by omega) (fun h_16 => ?_)
  refine lv_aload_n hC.1 hC.2.1 dX1_join_19 rfl (lv_at hl 0 rfl) ?_
  refine lv_iconst (v := (nI 1)) hC.1 hC.2.1 dX1_join_20 (by decide) ?_
  refine p_cvH (n := 1) (m_no l hY (k := 1)) hC hE hP hD hS (hmm) (hem) rfl gX1_join_X1_no rfl (by decide +kernel) rfl ⟨by decide, by decide⟩ ⟨by simp only [rD]; omega, by simp only [rD]; omega⟩ hl.1 (Nat.le_of_ble_eq_true rfl) dX1_join_21 rfl (fun o L2 f2 H locs hpost hP hD hS => ?_)
  obtain ⟨rfl, hLe, hY, hF2⟩ := hpost
  rw [hLe] at hP hD
  have hF3 : FRM hm sz wo tr L f L f2 := fun a ha => ⟨ha, fun h1 h2 h3 h4 => ((hF2 a ha).2 h1 h2 h3 h4).trans ((hF a ha).2 h1 h2 h3 h4)⟩
  exact HV.iret hC hr hlk hP hD hS (by omega) (by omega) dX1_join_24 (⟨rfl, cu, Or.inl rfl, ⟨_, _, hY, hvb, hMS⟩, hF3⟩)

set_option maxHeartbeats 4000000 in
set_option maxRecDepth 100000 in
theorem mb_join3 (l : Launch) {D : va_G} {T : ClassId × ClassId × ClassId} {z0 : Nat} {L : List Nat} {f : Nat → va_E} {hm rs td sz wo : Nat} {rr tr : Nat → Nat} {cu : Nat} {th mk : Int32} {b : Nat → Nat} {wd : Nat → List Nat} (hZ : MZ T L f hm rs td sz wo rr tr cu th mk b wd) {w v : Nat} (hw : w < 5) (hv5 : v < 5) (h12 : 12 < (wd w).length + (wd v).length) : HV l yX1_join wsX1_join (40) 0 0 D z0 (zPre D T z0 L f) [.ref hm, .int (nI w), .int (nI v)] (MPo T L f hm rs td sz wo rr tr cu (.int (nI 0)) (nI 2) mk b wd) := by
  refine HV.of (cc := cX1_join) (maxL := 5) (ret := (some .int)) (by decide) rfl (Nat.le_of_ble_eq_true rfl) ?_
  intro p e s m args below meth c hC hr hlk hin hB ls hl
  have hl : lv_has ls 5 [(0, .ref hm), (1, .int (nI w)), (2, .int (nI v))] := hl
  obtain ⟨hE, hP, hD⟩ := hB
  have hS : va_S (zA z0) s.heap s.heap [] := va_S.rf
  obtain ⟨Nn, V, hY, hvb, hMS⟩ := id hZ
  obtain ⟨⟨hmm, hem⟩, ⟨hmc, gc, hec, hRc⟩, ⟨hmr, Gr, her, hGr⟩, hrr, ⟨hmt, Gt, het, hGt⟩, htr, hnt, ⟨hms, hes⟩, ⟨hmw, hew⟩⟩ := id hY
  refine lv_aload_n hC.1 hC.2.1 dX1_join_0 rfl (lv_at hl 0 rfl) ?_
  refine lv_iconst (v := (nI 0)) hC.1 hC.2.1 dX1_join_1 (by decide) ?_
  refine p_put (ref := "CornerCubeModel") (ty0 := tyX1) hC hE hP hD hS hmm hem rfl (by decide +kernel) tyX1_ok nmX1 0 (by decide) (by decide +kernel) rfl rfl rfl rfl (Nat.le_of_ble_eq_true rfl) dX1_join_2 (fun H locs hP hD hS => ?_)
  have hY := hY.put_th (nI 0) mk
  have hF := (FRM.rf (hm := hm) (sz := sz) (wo := wo) (tr := tr) (L := L) (f := f)).put_hm (e := eO 1 [.int (nI 0), .int mk, .ref cu, .ref rs, .ref td, .ref sz, .ref wo])
  obtain ⟨⟨hmm, hem⟩, ⟨hmc, gc, hec, hRc⟩, ⟨hmr, Gr, her, hGr⟩, hrr, ⟨hmt, Gt, het, hGt⟩, htr, hnt, ⟨hms, hes⟩, ⟨hmw, hew⟩⟩ := id hY
  refine lv_iload_n hC.1 hC.2.1 dX1_join_5 rfl (lv_at hl 1 rfl) ?_
  refine p_cs (n := 1) (m_isWord_t l ((nI_leI (by omega) (by omega)).mpr (by omega)) ((nI_leI (by omega) (by omega)).mpr (by omega))) hC gX1_join_X1_isWord rfl (by decide +kernel) rfl ⟨by decide, by decide⟩ ⟨by simp only [rD]; omega, by simp only [rD]; omega⟩ hl.1 (Nat.le_of_ble_eq_true rfl) dX1_join_6 rfl ?_
  refine z_if_eq (tgt := 19) hC dX1_join_9 (by decide) (by omega) (fun h_9 => by omega) (fun h_9 => ?_)
  refine lv_iload_n hC.1 hC.2.1 dX1_join_12 rfl (lv_at hl 2 rfl) ?_
  refine p_cs (n := 1) (m_isWord_t l ((nI_leI (by omega) (by omega)).mpr (by omega)) ((nI_leI (by omega) (by omega)).mpr (by omega))) hC gX1_join_X1_isWord rfl (by decide +kernel) rfl ⟨by decide, by decide⟩ ⟨by simp only [rD]; omega, by simp only [rD]; omega⟩ hl.1 (Nat.le_of_ble_eq_true rfl) dX1_join_13 rfl ?_
  refine z_if_ne (tgt := 25) hC dX1_join_16 (by decide) (by omega) (fun h_16 => ?_) (fun h_16 => by omega)
  have hl12 := (hMS w hw).2.1
  have hl12v := (hMS v hv5).2.1
  refine lv_aload_n hC.1 hC.2.1 dX1_join_25 rfl (lv_at hl 0 rfl) ?_
  refine p_get (ref := "CornerCubeModel") hC hE hP hmm hem rfl (by decide +kernel) 5 (by decide) (by decide +kernel) rfl rfl dX1_join_26 ?_
  refine lv_iload_n hC.1 hC.2.1 dX1_join_29 rfl (lv_at hl 2 rfl) ?_
  refine p_iald hC hE hP hms hes (by omega) (by decide) dX1_join_30 ?_
  refine q_i (nI (wd v).length) ((hMS _ (by omega)).1) ?_
  refine lv_istore_n (lv' := [(3, .int (nI (wd v).length)), (0, .ref hm), (1, .int (nI w)), (2, .int (nI v))]) hC.1 hC.2.1 dX1_join_31 rfl hl (by decide) rfl (fun ls hl => ?_)
  refine lv_aload_n hC.1 hC.2.1 dX1_join_32 rfl (lv_at hl 1 rfl) ?_
  refine p_get (ref := "CornerCubeModel") hC hE hP hmm hem rfl (by decide +kernel) 5 (by decide) (by decide +kernel) rfl rfl dX1_join_33 ?_
  refine lv_iload_n hC.1 hC.2.1 dX1_join_36 rfl (lv_at hl 2 rfl) ?_
  refine p_iald hC hE hP hms hes (by omega) (by decide) dX1_join_37 ?_
  refine q_i (nI (wd w).length) ((hMS _ (by omega)).1) ?_
  refine lv_iload_n hC.1 hC.2.1 dX1_join_38 rfl (lv_at hl 0 rfl) ?_
  refine z_iadd hC dX1_join_39 ?_
  refine lv_bipush (v := (nI 12)) hC.1 hC.2.1 dX1_join_40 (by decide) ?_
  refine z_icmp_le (tgt := 51) hC dX1_join_42 (by decide) (by omega) (by omega) (fun h_42 => by omega) (fun h_42 => ?_)
  refine lv_aload_n hC.1 hC.2.1 dX1_join_45 rfl (lv_at hl 1 rfl) ?_
  refine lv_iconst (v := (nI 2)) hC.1 hC.2.1 dX1_join_46 (by decide) ?_
  refine p_cvH (n := 1) (m_no l hY (k := 2)) hC hE hP hD hS (hmm) (hem) rfl gX1_join_X1_no rfl (by decide +kernel) rfl ⟨by decide, by decide⟩ ⟨by simp only [rD]; omega, by simp only [rD]; omega⟩ hl.1 (Nat.le_of_ble_eq_true rfl) dX1_join_47 rfl (fun o L2 f2 H locs hpost hP hD hS => ?_)
  obtain ⟨rfl, hLe, hY, hF2⟩ := hpost
  rw [hLe] at hP hD
  have hF3 : FRM hm sz wo tr L f L f2 := fun a ha => ⟨ha, fun h1 h2 h3 h4 => ((hF2 a ha).2 h1 h2 h3 h4).trans ((hF a ha).2 h1 h2 h3 h4)⟩
  exact HV.iret hC hr hlk hP hD hS (by omega) (by omega) dX1_join_50 (⟨rfl, cu, Or.inl rfl, ⟨_, _, hY, hvb, hMS⟩, hF3⟩)

set_option maxHeartbeats 4000000 in
set_option maxRecDepth 100000 in
theorem mb_told1 (l : Launch) {D : va_G} {T : ClassId × ClassId × ClassId} {z0 : Nat} {L : List Nat} {f : Nat → va_E} {hm rs td sz wo : Nat} {rr tr : Nat → Nat} {cu : Nat} {th mk : Int32} {b : Nat → Nat} {wd : Nat → List Nat} (hZ : MZ T L f hm rs td sz wo rr tr cu th mk b wd) {x y : Int32} (hx9 : x < nI 0 ∨ nI 7 < x) : HV l yX1_told wsX1_told (40) 0 0 D z0 (zPre D T z0 L f) [.ref hm, .int x, .int y] (MPo T L f hm rs td sz wo rr tr cu (.int (nI 0)) (nI 1) mk b wd) := by
  refine HV.of (cc := cX1_told) (maxL := 3) (ret := (some .int)) (by decide) rfl (Nat.le_of_ble_eq_true rfl) ?_
  intro p e s m args below meth c hC hr hlk hin hB ls hl
  have hl : lv_has ls 3 [(0, .ref hm), (1, .int x), (2, .int y)] := hl
  obtain ⟨hE, hP, hD⟩ := hB
  have hS : va_S (zA z0) s.heap s.heap [] := va_S.rf
  obtain ⟨Nn, V, hY, hvb, hMS⟩ := id hZ
  obtain ⟨⟨hmm, hem⟩, ⟨hmc, gc, hec, hRc⟩, ⟨hmr, Gr, her, hGr⟩, hrr, ⟨hmt, Gt, het, hGt⟩, htr, hnt, ⟨hms, hes⟩, ⟨hmw, hew⟩⟩ := id hY
  refine lv_aload_n hC.1 hC.2.1 dX1_told_0 rfl (lv_at hl 0 rfl) ?_
  refine lv_iconst (v := (nI 0)) hC.1 hC.2.1 dX1_told_1 (by decide) ?_
  refine p_put (ref := "CornerCubeModel") (ty0 := tyX1) hC hE hP hD hS hmm hem rfl (by decide +kernel) tyX1_ok nmX1 0 (by decide) (by decide +kernel) rfl rfl rfl rfl (Nat.le_of_ble_eq_true rfl) dX1_told_2 (fun H locs hP hD hS => ?_)
  have hY := hY.put_th (nI 0) mk
  have hF := (FRM.rf (hm := hm) (sz := sz) (wo := wo) (tr := tr) (L := L) (f := f)).put_hm (e := eO 1 [.int (nI 0), .int mk, .ref cu, .ref rs, .ref td, .ref sz, .ref wo])
  obtain ⟨⟨hmm, hem⟩, ⟨hmc, gc, hec, hRc⟩, ⟨hmr, Gr, her, hGr⟩, hrr, ⟨hmt, Gt, het, hGt⟩, htr, hnt, ⟨hms, hes⟩, ⟨hmw, hew⟩⟩ := id hY
  refine lv_iload_n hC.1 hC.2.1 dX1_told_5 rfl (lv_at hl 1 rfl) ?_
  refine lv_iconst (v := (nI 0)) hC.1 hC.2.1 dX1_told_6 (by decide) ?_
  refine lv_bipush (v := (nI 7)) hC.1 hC.2.1 dX1_told_7 (by decide) ?_
  refine p_cs (n := 3) (m_isIn_f l hx9) hC gX1_told_X1_isIn rfl (by decide +kernel) rfl ⟨by decide, by decide⟩ ⟨by simp only [rD]; omega, by simp only [rD]; omega⟩ hl.1 (Nat.le_of_ble_eq_true rfl) dX1_told_9 rfl ?_
  refine z_if_eq (tgt := 33) hC dX1_told_12 (by decide) (by omega) (fun h_12 => ?_) (fun h_12 => by omega)
  refine lv_aload_n hC.1 hC.2.1 dX1_told_33 rfl (lv_at hl 0 rfl) ?_
  refine lv_iconst (v := (nI 1)) hC.1 hC.2.1 dX1_told_34 (by decide) ?_
  refine p_cvH (n := 1) (m_no l hY (k := 1)) hC hE hP hD hS (hmm) (hem) rfl gX1_told_X1_no rfl (by decide +kernel) rfl ⟨by decide, by decide⟩ ⟨by simp only [rD]; omega, by simp only [rD]; omega⟩ hl.1 (Nat.le_of_ble_eq_true rfl) dX1_told_35 rfl (fun o L2 f2 H locs hpost hP hD hS => ?_)
  obtain ⟨rfl, hLe, hY, hF2⟩ := hpost
  rw [hLe] at hP hD
  have hF3 : FRM hm sz wo tr L f L f2 := fun a ha => ⟨ha, fun h1 h2 h3 h4 => ((hF2 a ha).2 h1 h2 h3 h4).trans ((hF a ha).2 h1 h2 h3 h4)⟩
  exact HV.iret hC hr hlk hP hD hS (by omega) (by omega) dX1_told_38 (⟨rfl, cu, Or.inl rfl, ⟨_, _, hY, hvb, hMS⟩, hF3⟩)

set_option maxHeartbeats 4000000 in
set_option maxRecDepth 100000 in
theorem mb_told2 (l : Launch) {D : va_G} {T : ClassId × ClassId × ClassId} {z0 : Nat} {L : List Nat} {f : Nat → va_E} {hm rs td sz wo : Nat} {rr tr : Nat → Nat} {cu : Nat} {th mk : Int32} {b : Nat → Nat} {wd : Nat → List Nat} (hZ : MZ T L f hm rs td sz wo rr tr cu th mk b wd) {q : Nat} (hq : q < 8) {x : Int32} (hx9 : x < nI 0 ∨ nI 2 < x) : HV l yX1_told wsX1_told (40) 0 0 D z0 (zPre D T z0 L f) [.ref hm, .int (nI q), .int x] (MPo T L f hm rs td sz wo rr tr cu (.int (nI 0)) (nI 1) mk b wd) := by
  refine HV.of (cc := cX1_told) (maxL := 3) (ret := (some .int)) (by decide) rfl (Nat.le_of_ble_eq_true rfl) ?_
  intro p e s m args below meth c hC hr hlk hin hB ls hl
  have hl : lv_has ls 3 [(0, .ref hm), (1, .int (nI q)), (2, .int x)] := hl
  obtain ⟨hE, hP, hD⟩ := hB
  have hS : va_S (zA z0) s.heap s.heap [] := va_S.rf
  obtain ⟨Nn, V, hY, hvb, hMS⟩ := id hZ
  obtain ⟨⟨hmm, hem⟩, ⟨hmc, gc, hec, hRc⟩, ⟨hmr, Gr, her, hGr⟩, hrr, ⟨hmt, Gt, het, hGt⟩, htr, hnt, ⟨hms, hes⟩, ⟨hmw, hew⟩⟩ := id hY
  refine lv_aload_n hC.1 hC.2.1 dX1_told_0 rfl (lv_at hl 0 rfl) ?_
  refine lv_iconst (v := (nI 0)) hC.1 hC.2.1 dX1_told_1 (by decide) ?_
  refine p_put (ref := "CornerCubeModel") (ty0 := tyX1) hC hE hP hD hS hmm hem rfl (by decide +kernel) tyX1_ok nmX1 0 (by decide) (by decide +kernel) rfl rfl rfl rfl (Nat.le_of_ble_eq_true rfl) dX1_told_2 (fun H locs hP hD hS => ?_)
  have hY := hY.put_th (nI 0) mk
  have hF := (FRM.rf (hm := hm) (sz := sz) (wo := wo) (tr := tr) (L := L) (f := f)).put_hm (e := eO 1 [.int (nI 0), .int mk, .ref cu, .ref rs, .ref td, .ref sz, .ref wo])
  obtain ⟨⟨hmm, hem⟩, ⟨hmc, gc, hec, hRc⟩, ⟨hmr, Gr, her, hGr⟩, hrr, ⟨hmt, Gt, het, hGt⟩, htr, hnt, ⟨hms, hes⟩, ⟨hmw, hew⟩⟩ := id hY
  refine lv_iload_n hC.1 hC.2.1 dX1_told_5 rfl (lv_at hl 1 rfl) ?_
  refine lv_iconst (v := (nI 0)) hC.1 hC.2.1 dX1_told_6 (by decide) ?_
  refine lv_bipush (v := (nI 7)) hC.1 hC.2.1 dX1_told_7 (by decide) ?_
  refine p_cs (n := 3) (m_isIn_t l ((nI_leI (by omega) (by omega)).mpr (by omega)) ((nI_leI (by omega) (by omega)).mpr (by omega))) hC gX1_told_X1_isIn rfl (by decide +kernel) rfl ⟨by decide, by decide⟩ ⟨by simp only [rD]; omega, by simp only [rD]; omega⟩ hl.1 (Nat.le_of_ble_eq_true rfl) dX1_told_9 rfl ?_
  refine z_if_eq (tgt := 33) hC dX1_told_12 (by decide) (by omega) (fun h_12 => by omega) (fun h_12 => ?_)
  refine lv_iload_n hC.1 hC.2.1 dX1_told_15 rfl (lv_at hl 2 rfl) ?_
  refine lv_iconst (v := (nI 0)) hC.1 hC.2.1 dX1_told_16 (by decide) ?_
  refine lv_iconst (v := (nI 2)) hC.1 hC.2.1 dX1_told_17 (by decide) ?_
  refine p_cs (n := 3) (m_isIn_f l hx9) hC gX1_told_X1_isIn rfl (by decide +kernel) rfl ⟨by decide, by decide⟩ ⟨by simp only [rD]; omega, by simp only [rD]; omega⟩ hl.1 (Nat.le_of_ble_eq_true rfl) dX1_told_18 rfl ?_
  refine z_if_eq (tgt := 33) hC dX1_told_21 (by decide) (by omega) (fun h_21 => ?_) (fun h_21 => by omega)
  refine lv_aload_n hC.1 hC.2.1 dX1_told_33 rfl (lv_at hl 0 rfl) ?_
  refine lv_iconst (v := (nI 1)) hC.1 hC.2.1 dX1_told_34 (by decide) ?_
  refine p_cvH (n := 1) (m_no l hY (k := 1)) hC hE hP hD hS (hmm) (hem) rfl gX1_told_X1_no rfl (by decide +kernel) rfl ⟨by decide, by decide⟩ ⟨by simp only [rD]; omega, by simp only [rD]; omega⟩ hl.1 (Nat.le_of_ble_eq_true rfl) dX1_told_35 rfl (fun o L2 f2 H locs hpost hP hD hS => ?_)
  obtain ⟨rfl, hLe, hY, hF2⟩ := hpost
  rw [hLe] at hP hD
  have hF3 : FRM hm sz wo tr L f L f2 := fun a ha => ⟨ha, fun h1 h2 h3 h4 => ((hF2 a ha).2 h1 h2 h3 h4).trans ((hF a ha).2 h1 h2 h3 h4)⟩
  exact HV.iret hC hr hlk hP hD hS (by omega) (by omega) dX1_told_38 (⟨rfl, cu, Or.inl rfl, ⟨_, _, hY, hvb, hMS⟩, hF3⟩)

set_option maxHeartbeats 4000000 in
set_option maxRecDepth 100000 in
theorem mb_where1 (l : Launch) {D : va_G} {T : ClassId × ClassId × ClassId} {z0 : Nat} {L : List Nat} {f : Nat → va_E} {hm rs td sz wo : Nat} {rr tr : Nat → Nat} {cu : Nat} {th mk : Int32} {b : Nat → Nat} {wd : Nat → List Nat} (hZ : MZ T L f hm rs td sz wo rr tr cu th mk b wd) {x : Int32} (hx9 : x < nI 0 ∨ nI 7 < x) : HV l yX1_where wsX1_where (40) 0 0 D z0 (zPre D T z0 L f) [.ref hm, .int x] (MPo T L f hm rs td sz wo rr tr cu (.int (nI 0)) (nI 1) mk b wd) := by
  refine HV.of (cc := cX1_where) (maxL := 2) (ret := (some .int)) (by decide) rfl (Nat.le_of_ble_eq_true rfl) ?_
  intro p e s m args below meth c hC hr hlk hin hB ls hl
  have hl : lv_has ls 2 [(0, .ref hm), (1, .int x)] := hl
  obtain ⟨hE, hP, hD⟩ := hB
  have hS : va_S (zA z0) s.heap s.heap [] := va_S.rf
  obtain ⟨Nn, V, hY, hvb, hMS⟩ := id hZ
  obtain ⟨⟨hmm, hem⟩, ⟨hmc, gc, hec, hRc⟩, ⟨hmr, Gr, her, hGr⟩, hrr, ⟨hmt, Gt, het, hGt⟩, htr, hnt, ⟨hms, hes⟩, ⟨hmw, hew⟩⟩ := id hY
  refine lv_aload_n hC.1 hC.2.1 dX1_where_0 rfl (lv_at hl 0 rfl) ?_
  refine lv_iconst (v := (nI 0)) hC.1 hC.2.1 dX1_where_1 (by decide) ?_
  refine p_put (ref := "CornerCubeModel") (ty0 := tyX1) hC hE hP hD hS hmm hem rfl (by decide +kernel) tyX1_ok nmX1 0 (by decide) (by decide +kernel) rfl rfl rfl rfl (Nat.le_of_ble_eq_true rfl) dX1_where_2 (fun H locs hP hD hS => ?_)
  have hY := hY.put_th (nI 0) mk
  have hF := (FRM.rf (hm := hm) (sz := sz) (wo := wo) (tr := tr) (L := L) (f := f)).put_hm (e := eO 1 [.int (nI 0), .int mk, .ref cu, .ref rs, .ref td, .ref sz, .ref wo])
  obtain ⟨⟨hmm, hem⟩, ⟨hmc, gc, hec, hRc⟩, ⟨hmr, Gr, her, hGr⟩, hrr, ⟨hmt, Gt, het, hGt⟩, htr, hnt, ⟨hms, hes⟩, ⟨hmw, hew⟩⟩ := id hY
  refine lv_iload_n hC.1 hC.2.1 dX1_where_5 rfl (lv_at hl 1 rfl) ?_
  refine lv_iconst (v := (nI 0)) hC.1 hC.2.1 dX1_where_6 (by decide) ?_
  refine lv_bipush (v := (nI 7)) hC.1 hC.2.1 dX1_where_7 (by decide) ?_
  refine p_cs (n := 3) (m_isIn_f l hx9) hC gX1_where_X1_isIn rfl (by decide +kernel) rfl ⟨by decide, by decide⟩ ⟨by simp only [rD]; omega, by simp only [rD]; omega⟩ hl.1 (Nat.le_of_ble_eq_true rfl) dX1_where_9 rfl ?_
  refine z_if_eq (tgt := 27) hC dX1_where_12 (by decide) (by omega) (fun h_12 => ?_) (fun h_12 => by omega)
  refine lv_aload_n hC.1 hC.2.1 dX1_where_27 rfl (lv_at hl 0 rfl) ?_
  refine lv_iconst (v := (nI 1)) hC.1 hC.2.1 dX1_where_28 (by decide) ?_
  refine p_cvH (n := 1) (m_no l hY (k := 1)) hC hE hP hD hS (hmm) (hem) rfl gX1_where_X1_no rfl (by decide +kernel) rfl ⟨by decide, by decide⟩ ⟨by simp only [rD]; omega, by simp only [rD]; omega⟩ hl.1 (Nat.le_of_ble_eq_true rfl) dX1_where_29 rfl (fun o L2 f2 H locs hpost hP hD hS => ?_)
  obtain ⟨rfl, hLe, hY, hF2⟩ := hpost
  rw [hLe] at hP hD
  have hF3 : FRM hm sz wo tr L f L f2 := fun a ha => ⟨ha, fun h1 h2 h3 h4 => ((hF2 a ha).2 h1 h2 h3 h4).trans ((hF a ha).2 h1 h2 h3 h4)⟩
  exact HV.iret hC hr hlk hP hD hS (by omega) (by omega) dX1_where_32 (⟨rfl, cu, Or.inl rfl, ⟨_, _, hY, hvb, hMS⟩, hF3⟩)

set_option maxHeartbeats 4000000 in
set_option maxRecDepth 100000 in
theorem mb_count1 (l : Launch) {D : va_G} {T : ClassId × ClassId × ClassId} {z0 : Nat} {L : List Nat} {f : Nat → va_E} {hm rs td sz wo : Nat} {rr tr : Nat → Nat} {cu : Nat} {th mk : Int32} {b : Nat → Nat} {wd : Nat → List Nat} (hZ : MZ T L f hm rs td sz wo rr tr cu th mk b wd) {x : Int32} (hx9 : x < nI 0 ∨ nI 6 < x) : HV l yX1_count wsX1_count (40) 0 0 D z0 (zPre D T z0 L f) [.ref hm, .int x] (MPo T L f hm rs td sz wo rr tr cu (.int (nI 0)) (nI 1) mk b wd) := by
  refine HV.of (cc := cX1_count) (maxL := 2) (ret := (some .int)) (by decide) rfl (Nat.le_of_ble_eq_true rfl) ?_
  intro p e s m args below meth c hC hr hlk hin hB ls hl
  have hl : lv_has ls 2 [(0, .ref hm), (1, .int x)] := hl
  obtain ⟨hE, hP, hD⟩ := hB
  have hS : va_S (zA z0) s.heap s.heap [] := va_S.rf
  obtain ⟨Nn, V, hY, hvb, hMS⟩ := id hZ
  obtain ⟨⟨hmm, hem⟩, ⟨hmc, gc, hec, hRc⟩, ⟨hmr, Gr, her, hGr⟩, hrr, ⟨hmt, Gt, het, hGt⟩, htr, hnt, ⟨hms, hes⟩, ⟨hmw, hew⟩⟩ := id hY
  refine lv_aload_n hC.1 hC.2.1 dX1_count_0 rfl (lv_at hl 0 rfl) ?_
  refine lv_iconst (v := (nI 0)) hC.1 hC.2.1 dX1_count_1 (by decide) ?_
  refine p_put (ref := "CornerCubeModel") (ty0 := tyX1) hC hE hP hD hS hmm hem rfl (by decide +kernel) tyX1_ok nmX1 0 (by decide) (by decide +kernel) rfl rfl rfl rfl (Nat.le_of_ble_eq_true rfl) dX1_count_2 (fun H locs hP hD hS => ?_)
  have hY := hY.put_th (nI 0) mk
  have hF := (FRM.rf (hm := hm) (sz := sz) (wo := wo) (tr := tr) (L := L) (f := f)).put_hm (e := eO 1 [.int (nI 0), .int mk, .ref cu, .ref rs, .ref td, .ref sz, .ref wo])
  obtain ⟨⟨hmm, hem⟩, ⟨hmc, gc, hec, hRc⟩, ⟨hmr, Gr, her, hGr⟩, hrr, ⟨hmt, Gt, het, hGt⟩, htr, hnt, ⟨hms, hes⟩, ⟨hmw, hew⟩⟩ := id hY
  refine lv_iload_n hC.1 hC.2.1 dX1_count_5 rfl (lv_at hl 1 rfl) ?_
  refine lv_iconst (v := (nI 0)) hC.1 hC.2.1 dX1_count_6 (by decide) ?_
  refine lv_bipush (v := (nI 6)) hC.1 hC.2.1 dX1_count_7 (by decide) ?_
  refine p_cs (n := 3) (m_isIn_f l hx9) hC gX1_count_X1_isIn rfl (by decide +kernel) rfl ⟨by decide, by decide⟩ ⟨by simp only [rD]; omega, by simp only [rD]; omega⟩ hl.1 (Nat.le_of_ble_eq_true rfl) dX1_count_9 rfl ?_
  refine z_if_eq (tgt := 23) hC dX1_count_12 (by decide) (by omega) (fun h_12 => ?_) (fun h_12 => by omega)
  refine lv_aload_n hC.1 hC.2.1 dX1_count_23 rfl (lv_at hl 0 rfl) ?_
  refine lv_iconst (v := (nI 1)) hC.1 hC.2.1 dX1_count_24 (by decide) ?_
  refine p_cvH (n := 1) (m_no l hY (k := 1)) hC hE hP hD hS (hmm) (hem) rfl gX1_count_X1_no rfl (by decide +kernel) rfl ⟨by decide, by decide⟩ ⟨by simp only [rD]; omega, by simp only [rD]; omega⟩ hl.1 (Nat.le_of_ble_eq_true rfl) dX1_count_25 rfl (fun o L2 f2 H locs hpost hP hD hS => ?_)
  obtain ⟨rfl, hLe, hY, hF2⟩ := hpost
  rw [hLe] at hP hD
  have hF3 : FRM hm sz wo tr L f L f2 := fun a ha => ⟨ha, fun h1 h2 h3 h4 => ((hF2 a ha).2 h1 h2 h3 h4).trans ((hF a ha).2 h1 h2 h3 h4)⟩
  exact HV.iret hC hr hlk hP hD hS (by omega) (by omega) dX1_count_28 (⟨rfl, cu, Or.inl rfl, ⟨_, _, hY, hvb, hMS⟩, hF3⟩)

set_option maxHeartbeats 4000000 in
set_option maxRecDepth 100000 in
theorem mb_word1 (l : Launch) {D : va_G} {T : ClassId × ClassId × ClassId} {z0 : Nat} {L : List Nat} {f : Nat → va_E} {hm rs td sz wo : Nat} {rr tr : Nat → Nat} {cu : Nat} {th mk : Int32} {b : Nat → Nat} {wd : Nat → List Nat} (hZ : MZ T L f hm rs td sz wo rr tr cu th mk b wd) {x y : Int32} (hx9 : x < nI 0 ∨ nI 4 < x) : HV l yX1_word wsX1_word (40) 0 0 D z0 (zPre D T z0 L f) [.ref hm, .int x, .int y] (MPo T L f hm rs td sz wo rr tr cu (.int (nI 0)) (nI 1) mk b wd) := by
  refine HV.of (cc := cX1_word) (maxL := 3) (ret := (some .int)) (by decide) rfl (Nat.le_of_ble_eq_true rfl) ?_
  intro p e s m args below meth c hC hr hlk hin hB ls hl
  have hl : lv_has ls 3 [(0, .ref hm), (1, .int x), (2, .int y)] := hl
  obtain ⟨hE, hP, hD⟩ := hB
  have hS : va_S (zA z0) s.heap s.heap [] := va_S.rf
  obtain ⟨Nn, V, hY, hvb, hMS⟩ := id hZ
  obtain ⟨⟨hmm, hem⟩, ⟨hmc, gc, hec, hRc⟩, ⟨hmr, Gr, her, hGr⟩, hrr, ⟨hmt, Gt, het, hGt⟩, htr, hnt, ⟨hms, hes⟩, ⟨hmw, hew⟩⟩ := id hY
  refine lv_aload_n hC.1 hC.2.1 dX1_word_0 rfl (lv_at hl 0 rfl) ?_
  refine lv_iconst (v := (nI 0)) hC.1 hC.2.1 dX1_word_1 (by decide) ?_
  refine p_put (ref := "CornerCubeModel") (ty0 := tyX1) hC hE hP hD hS hmm hem rfl (by decide +kernel) tyX1_ok nmX1 0 (by decide) (by decide +kernel) rfl rfl rfl rfl (Nat.le_of_ble_eq_true rfl) dX1_word_2 (fun H locs hP hD hS => ?_)
  have hY := hY.put_th (nI 0) mk
  have hF := (FRM.rf (hm := hm) (sz := sz) (wo := wo) (tr := tr) (L := L) (f := f)).put_hm (e := eO 1 [.int (nI 0), .int mk, .ref cu, .ref rs, .ref td, .ref sz, .ref wo])
  obtain ⟨⟨hmm, hem⟩, ⟨hmc, gc, hec, hRc⟩, ⟨hmr, Gr, her, hGr⟩, hrr, ⟨hmt, Gt, het, hGt⟩, htr, hnt, ⟨hms, hes⟩, ⟨hmw, hew⟩⟩ := id hY
  refine lv_iload_n hC.1 hC.2.1 dX1_word_5 rfl (lv_at hl 1 rfl) ?_
  refine p_cs (n := 1) (m_isWord_f l hx9) hC gX1_word_X1_isWord rfl (by decide +kernel) rfl ⟨by decide, by decide⟩ ⟨by simp only [rD]; omega, by simp only [rD]; omega⟩ hl.1 (Nat.le_of_ble_eq_true rfl) dX1_word_6 rfl ?_
  refine z_if_eq (tgt := 30) hC dX1_word_9 (by decide) (by omega) (fun h_9 => ?_) (fun h_9 => by omega)
  refine lv_aload_n hC.1 hC.2.1 dX1_word_30 rfl (lv_at hl 0 rfl) ?_
  refine lv_iconst (v := (nI 1)) hC.1 hC.2.1 dX1_word_31 (by decide) ?_
  refine p_cvH (n := 1) (m_no l hY (k := 1)) hC hE hP hD hS (hmm) (hem) rfl gX1_word_X1_no rfl (by decide +kernel) rfl ⟨by decide, by decide⟩ ⟨by simp only [rD]; omega, by simp only [rD]; omega⟩ hl.1 (Nat.le_of_ble_eq_true rfl) dX1_word_32 rfl (fun o L2 f2 H locs hpost hP hD hS => ?_)
  obtain ⟨rfl, hLe, hY, hF2⟩ := hpost
  rw [hLe] at hP hD
  have hF3 : FRM hm sz wo tr L f L f2 := fun a ha => ⟨ha, fun h1 h2 h3 h4 => ((hF2 a ha).2 h1 h2 h3 h4).trans ((hF a ha).2 h1 h2 h3 h4)⟩
  exact HV.iret hC hr hlk hP hD hS (by omega) (by omega) dX1_word_35 (⟨rfl, cu, Or.inl rfl, ⟨_, _, hY, hvb, hMS⟩, hF3⟩)

set_option maxHeartbeats 4000000 in
set_option maxRecDepth 100000 in
theorem mb_word2 (l : Launch) {D : va_G} {T : ClassId × ClassId × ClassId} {z0 : Nat} {L : List Nat} {f : Nat → va_E} {hm rs td sz wo : Nat} {rr tr : Nat → Nat} {cu : Nat} {th mk : Int32} {b : Nat → Nat} {wd : Nat → List Nat} (hZ : MZ T L f hm rs td sz wo rr tr cu th mk b wd) {w : Nat} (hw : w < 5) {x : Int32} (hx9 : x < nI 0 ∨ nI 3 < x) : HV l yX1_word wsX1_word (40) 0 0 D z0 (zPre D T z0 L f) [.ref hm, .int (nI w), .int x] (MPo T L f hm rs td sz wo rr tr cu (.int (nI 0)) (nI 1) mk b wd) := by
  refine HV.of (cc := cX1_word) (maxL := 3) (ret := (some .int)) (by decide) rfl (Nat.le_of_ble_eq_true rfl) ?_
  intro p e s m args below meth c hC hr hlk hin hB ls hl
  have hl : lv_has ls 3 [(0, .ref hm), (1, .int (nI w)), (2, .int x)] := hl
  obtain ⟨hE, hP, hD⟩ := hB
  have hS : va_S (zA z0) s.heap s.heap [] := va_S.rf
  obtain ⟨Nn, V, hY, hvb, hMS⟩ := id hZ
  obtain ⟨⟨hmm, hem⟩, ⟨hmc, gc, hec, hRc⟩, ⟨hmr, Gr, her, hGr⟩, hrr, ⟨hmt, Gt, het, hGt⟩, htr, hnt, ⟨hms, hes⟩, ⟨hmw, hew⟩⟩ := id hY
  refine lv_aload_n hC.1 hC.2.1 dX1_word_0 rfl (lv_at hl 0 rfl) ?_
  refine lv_iconst (v := (nI 0)) hC.1 hC.2.1 dX1_word_1 (by decide) ?_
  refine p_put (ref := "CornerCubeModel") (ty0 := tyX1) hC hE hP hD hS hmm hem rfl (by decide +kernel) tyX1_ok nmX1 0 (by decide) (by decide +kernel) rfl rfl rfl rfl (Nat.le_of_ble_eq_true rfl) dX1_word_2 (fun H locs hP hD hS => ?_)
  have hY := hY.put_th (nI 0) mk
  have hF := (FRM.rf (hm := hm) (sz := sz) (wo := wo) (tr := tr) (L := L) (f := f)).put_hm (e := eO 1 [.int (nI 0), .int mk, .ref cu, .ref rs, .ref td, .ref sz, .ref wo])
  obtain ⟨⟨hmm, hem⟩, ⟨hmc, gc, hec, hRc⟩, ⟨hmr, Gr, her, hGr⟩, hrr, ⟨hmt, Gt, het, hGt⟩, htr, hnt, ⟨hms, hes⟩, ⟨hmw, hew⟩⟩ := id hY
  refine lv_iload_n hC.1 hC.2.1 dX1_word_5 rfl (lv_at hl 1 rfl) ?_
  refine p_cs (n := 1) (m_isWord_t l ((nI_leI (by omega) (by omega)).mpr (by omega)) ((nI_leI (by omega) (by omega)).mpr (by omega))) hC gX1_word_X1_isWord rfl (by decide +kernel) rfl ⟨by decide, by decide⟩ ⟨by simp only [rD]; omega, by simp only [rD]; omega⟩ hl.1 (Nat.le_of_ble_eq_true rfl) dX1_word_6 rfl ?_
  refine z_if_eq (tgt := 30) hC dX1_word_9 (by decide) (by omega) (fun h_9 => by omega) (fun h_9 => ?_)
  refine lv_iload_n hC.1 hC.2.1 dX1_word_12 rfl (lv_at hl 2 rfl) ?_
  refine lv_iconst (v := (nI 0)) hC.1 hC.2.1 dX1_word_13 (by decide) ?_
  refine lv_iconst (v := (nI 3)) hC.1 hC.2.1 dX1_word_14 (by decide) ?_
  refine p_cs (n := 3) (m_isIn_f l hx9) hC gX1_word_X1_isIn rfl (by decide +kernel) rfl ⟨by decide, by decide⟩ ⟨by simp only [rD]; omega, by simp only [rD]; omega⟩ hl.1 (Nat.le_of_ble_eq_true rfl) dX1_word_15 rfl ?_
  refine z_if_eq (tgt := 30) hC dX1_word_18 (by decide) (by omega) (fun h_18 => ?_) (fun h_18 => by omega)
  refine lv_aload_n hC.1 hC.2.1 dX1_word_30 rfl (lv_at hl 0 rfl) ?_
  refine lv_iconst (v := (nI 1)) hC.1 hC.2.1 dX1_word_31 (by decide) ?_
  refine p_cvH (n := 1) (m_no l hY (k := 1)) hC hE hP hD hS (hmm) (hem) rfl gX1_word_X1_no rfl (by decide +kernel) rfl ⟨by decide, by decide⟩ ⟨by simp only [rD]; omega, by simp only [rD]; omega⟩ hl.1 (Nat.le_of_ble_eq_true rfl) dX1_word_32 rfl (fun o L2 f2 H locs hpost hP hD hS => ?_)
  obtain ⟨rfl, hLe, hY, hF2⟩ := hpost
  rw [hLe] at hP hD
  have hF3 : FRM hm sz wo tr L f L f2 := fun a ha => ⟨ha, fun h1 h2 h3 h4 => ((hF2 a ha).2 h1 h2 h3 h4).trans ((hF a ha).2 h1 h2 h3 h4)⟩
  exact HV.iret hC hr hlk hP hD hS (by omega) (by omega) dX1_word_35 (⟨rfl, cu, Or.inl rfl, ⟨_, _, hY, hvb, hMS⟩, hF3⟩)

set_option maxHeartbeats 4000000 in
set_option maxRecDepth 100000 in
theorem mb_at1 (l : Launch) {D : va_G} {T : ClassId × ClassId × ClassId} {z0 : Nat} {L : List Nat} {f : Nat → va_E} {hm rs td sz wo : Nat} {rr tr : Nat → Nat} {cu : Nat} {th mk : Int32} {b : Nat → Nat} {wd : Nat → List Nat} (hZ : MZ T L f hm rs td sz wo rr tr cu th mk b wd) {x y : Int32} (hx9 : x < nI 0 ∨ nI 4 < x) : HV l yX1_at wsX1_at (40) 0 0 D z0 (zPre D T z0 L f) [.ref hm, .int x, .int y] (MPo T L f hm rs td sz wo rr tr cu (.int (nI 0)) (nI 1) mk b wd) := by
  refine HV.of (cc := cX1_at) (maxL := 3) (ret := (some .int)) (by decide) rfl (Nat.le_of_ble_eq_true rfl) ?_
  intro p e s m args below meth c hC hr hlk hin hB ls hl
  have hl : lv_has ls 3 [(0, .ref hm), (1, .int x), (2, .int y)] := hl
  obtain ⟨hE, hP, hD⟩ := hB
  have hS : va_S (zA z0) s.heap s.heap [] := va_S.rf
  obtain ⟨Nn, V, hY, hvb, hMS⟩ := id hZ
  obtain ⟨⟨hmm, hem⟩, ⟨hmc, gc, hec, hRc⟩, ⟨hmr, Gr, her, hGr⟩, hrr, ⟨hmt, Gt, het, hGt⟩, htr, hnt, ⟨hms, hes⟩, ⟨hmw, hew⟩⟩ := id hY
  refine lv_aload_n hC.1 hC.2.1 dX1_at_0 rfl (lv_at hl 0 rfl) ?_
  refine lv_iconst (v := (nI 0)) hC.1 hC.2.1 dX1_at_1 (by decide) ?_
  refine p_put (ref := "CornerCubeModel") (ty0 := tyX1) hC hE hP hD hS hmm hem rfl (by decide +kernel) tyX1_ok nmX1 0 (by decide) (by decide +kernel) rfl rfl rfl rfl (Nat.le_of_ble_eq_true rfl) dX1_at_2 (fun H locs hP hD hS => ?_)
  have hY := hY.put_th (nI 0) mk
  have hF := (FRM.rf (hm := hm) (sz := sz) (wo := wo) (tr := tr) (L := L) (f := f)).put_hm (e := eO 1 [.int (nI 0), .int mk, .ref cu, .ref rs, .ref td, .ref sz, .ref wo])
  obtain ⟨⟨hmm, hem⟩, ⟨hmc, gc, hec, hRc⟩, ⟨hmr, Gr, her, hGr⟩, hrr, ⟨hmt, Gt, het, hGt⟩, htr, hnt, ⟨hms, hes⟩, ⟨hmw, hew⟩⟩ := id hY
  refine lv_iload_n hC.1 hC.2.1 dX1_at_5 rfl (lv_at hl 1 rfl) ?_
  refine p_cs (n := 1) (m_isWord_f l hx9) hC gX1_at_X1_isWord rfl (by decide +kernel) rfl ⟨by decide, by decide⟩ ⟨by simp only [rD]; omega, by simp only [rD]; omega⟩ hl.1 (Nat.le_of_ble_eq_true rfl) dX1_at_6 rfl ?_
  refine z_if_eq (tgt := 42) hC dX1_at_9 (by decide) (by omega) (fun h_9 => ?_) (fun h_9 => by omega)
  refine lv_aload_n hC.1 hC.2.1 dX1_at_42 rfl (lv_at hl 0 rfl) ?_
  refine lv_iconst (v := (nI 1)) hC.1 hC.2.1 dX1_at_43 (by decide) ?_
  refine p_cvH (n := 1) (m_no l hY (k := 1)) hC hE hP hD hS (hmm) (hem) rfl gX1_at_X1_no rfl (by decide +kernel) rfl ⟨by decide, by decide⟩ ⟨by simp only [rD]; omega, by simp only [rD]; omega⟩ hl.1 (Nat.le_of_ble_eq_true rfl) dX1_at_44 rfl (fun o L2 f2 H locs hpost hP hD hS => ?_)
  obtain ⟨rfl, hLe, hY, hF2⟩ := hpost
  rw [hLe] at hP hD
  have hF3 : FRM hm sz wo tr L f L f2 := fun a ha => ⟨ha, fun h1 h2 h3 h4 => ((hF2 a ha).2 h1 h2 h3 h4).trans ((hF a ha).2 h1 h2 h3 h4)⟩
  exact HV.iret hC hr hlk hP hD hS (by omega) (by omega) dX1_at_47 (⟨rfl, cu, Or.inl rfl, ⟨_, _, hY, hvb, hMS⟩, hF3⟩)

set_option maxHeartbeats 4000000 in
set_option maxRecDepth 100000 in
theorem mb_at2 (l : Launch) {D : va_G} {T : ClassId × ClassId × ClassId} {z0 : Nat} {L : List Nat} {f : Nat → va_E} {hm rs td sz wo : Nat} {rr tr : Nat → Nat} {cu : Nat} {th mk : Int32} {b : Nat → Nat} {wd : Nat → List Nat} (hZ : MZ T L f hm rs td sz wo rr tr cu th mk b wd) {w : Nat} (hw : w < 5) {x : Int32} (hx9 : x < nI 0 ∨ nI (wd w).length - nI 1 < x) : HV l yX1_at wsX1_at (40) 0 0 D z0 (zPre D T z0 L f) [.ref hm, .int (nI w), .int x] (MPo T L f hm rs td sz wo rr tr cu (.int (nI 0)) (nI 1) mk b wd) := by
  refine HV.of (cc := cX1_at) (maxL := 3) (ret := (some .int)) (by decide) rfl (Nat.le_of_ble_eq_true rfl) ?_
  intro p e s m args below meth c hC hr hlk hin hB ls hl
  have hl : lv_has ls 3 [(0, .ref hm), (1, .int (nI w)), (2, .int x)] := hl
  obtain ⟨hE, hP, hD⟩ := hB
  have hS : va_S (zA z0) s.heap s.heap [] := va_S.rf
  obtain ⟨Nn, V, hY, hvb, hMS⟩ := id hZ
  obtain ⟨⟨hmm, hem⟩, ⟨hmc, gc, hec, hRc⟩, ⟨hmr, Gr, her, hGr⟩, hrr, ⟨hmt, Gt, het, hGt⟩, htr, hnt, ⟨hms, hes⟩, ⟨hmw, hew⟩⟩ := id hY
  refine lv_aload_n hC.1 hC.2.1 dX1_at_0 rfl (lv_at hl 0 rfl) ?_
  refine lv_iconst (v := (nI 0)) hC.1 hC.2.1 dX1_at_1 (by decide) ?_
  refine p_put (ref := "CornerCubeModel") (ty0 := tyX1) hC hE hP hD hS hmm hem rfl (by decide +kernel) tyX1_ok nmX1 0 (by decide) (by decide +kernel) rfl rfl rfl rfl (Nat.le_of_ble_eq_true rfl) dX1_at_2 (fun H locs hP hD hS => ?_)
  have hY := hY.put_th (nI 0) mk
  have hF := (FRM.rf (hm := hm) (sz := sz) (wo := wo) (tr := tr) (L := L) (f := f)).put_hm (e := eO 1 [.int (nI 0), .int mk, .ref cu, .ref rs, .ref td, .ref sz, .ref wo])
  obtain ⟨⟨hmm, hem⟩, ⟨hmc, gc, hec, hRc⟩, ⟨hmr, Gr, her, hGr⟩, hrr, ⟨hmt, Gt, het, hGt⟩, htr, hnt, ⟨hms, hes⟩, ⟨hmw, hew⟩⟩ := id hY
  refine lv_iload_n hC.1 hC.2.1 dX1_at_5 rfl (lv_at hl 1 rfl) ?_
  refine p_cs (n := 1) (m_isWord_t l ((nI_leI (by omega) (by omega)).mpr (by omega)) ((nI_leI (by omega) (by omega)).mpr (by omega))) hC gX1_at_X1_isWord rfl (by decide +kernel) rfl ⟨by decide, by decide⟩ ⟨by simp only [rD]; omega, by simp only [rD]; omega⟩ hl.1 (Nat.le_of_ble_eq_true rfl) dX1_at_6 rfl ?_
  refine z_if_eq (tgt := 42) hC dX1_at_9 (by decide) (by omega) (fun h_9 => by omega) (fun h_9 => ?_)
  refine lv_iload_n hC.1 hC.2.1 dX1_at_12 rfl (lv_at hl 2 rfl) ?_
  refine lv_iconst (v := (nI 0)) hC.1 hC.2.1 dX1_at_13 (by decide) ?_
  refine lv_aload_n hC.1 hC.2.1 dX1_at_14 rfl (lv_at hl 0 rfl) ?_
  refine p_get (ref := "CornerCubeModel") hC hE hP hmm hem rfl (by decide +kernel) 5 (by decide) (by decide +kernel) rfl rfl dX1_at_15 ?_
  refine lv_iload_n hC.1 hC.2.1 dX1_at_18 rfl (lv_at hl 1 rfl) ?_
  refine p_iald hC hE hP hms hes (by omega) (by decide) dX1_at_19 ?_
  refine q_i (nI (wd w).length) ((hMS _ (by omega)).1) ?_
  refine lv_iconst (v := (nI 1)) hC.1 hC.2.1 dX1_at_20 (by decide) ?_
  refine lv_isub hC.1 hC.2.1 dX1_at_21 ?_
  refine p_cs (n := 3) (m_isIn_f l hx9) hC gX1_at_X1_isIn rfl (by decide +kernel) rfl ⟨by decide, by decide⟩ ⟨by simp only [rD]; omega, by simp only [rD]; omega⟩ hl.1 (Nat.le_of_ble_eq_true rfl) dX1_at_22 rfl ?_
  refine z_if_eq (tgt := 42) hC dX1_at_25 (by decide) (by omega) (fun h_25 => ?_) (fun h_25 => by omega)
  refine lv_aload_n hC.1 hC.2.1 dX1_at_42 rfl (lv_at hl 0 rfl) ?_
  refine lv_iconst (v := (nI 1)) hC.1 hC.2.1 dX1_at_43 (by decide) ?_
  refine p_cvH (n := 1) (m_no l hY (k := 1)) hC hE hP hD hS (hmm) (hem) rfl gX1_at_X1_no rfl (by decide +kernel) rfl ⟨by decide, by decide⟩ ⟨by simp only [rD]; omega, by simp only [rD]; omega⟩ hl.1 (Nat.le_of_ble_eq_true rfl) dX1_at_44 rfl (fun o L2 f2 H locs hpost hP hD hS => ?_)
  obtain ⟨rfl, hLe, hY, hF2⟩ := hpost
  rw [hLe] at hP hD
  have hF3 : FRM hm sz wo tr L f L f2 := fun a ha => ⟨ha, fun h1 h2 h3 h4 => ((hF2 a ha).2 h1 h2 h3 h4).trans ((hF a ha).2 h1 h2 h3 h4)⟩
  exact HV.iret hC hr hlk hP hD hS (by omega) (by omega) dX1_at_47 (⟨rfl, cu, Or.inl rfl, ⟨_, _, hY, hvb, hMS⟩, hF3⟩)

set_option maxHeartbeats 4000000 in
set_option maxRecDepth 100000 in
theorem mb_same1 (l : Launch) {D : va_G} {T : ClassId × ClassId × ClassId} {z0 : Nat} {L : List Nat} {f : Nat → va_E} {hm rs td sz wo : Nat} {rr tr : Nat → Nat} {cu : Nat} {th mk : Int32} {b : Nat → Nat} {wd : Nat → List Nat} (hZ : MZ T L f hm rs td sz wo rr tr cu th mk b wd) {x y : Int32} (hx9 : x < nI 0 ∨ nI 4 < x) : HV l yX1_same wsX1_same (40) 0 0 D z0 (zPre D T z0 L f) [.ref hm, .int x, .int y] (MPo T L f hm rs td sz wo rr tr cu (.int (nI 0)) (nI 1) mk b wd) := by
  refine HV.of (cc := cX1_same) (maxL := 3) (ret := (some .boolean)) (by decide) rfl (Nat.le_of_ble_eq_true rfl) ?_
  intro p e s m args below meth c hC hr hlk hin hB ls hl
  have hl : lv_has ls 3 [(0, .ref hm), (1, .int x), (2, .int y)] := hl
  obtain ⟨hE, hP, hD⟩ := hB
  have hS : va_S (zA z0) s.heap s.heap [] := va_S.rf
  obtain ⟨Nn, V, hY, hvb, hMS⟩ := id hZ
  obtain ⟨⟨hmm, hem⟩, ⟨hmc, gc, hec, hRc⟩, ⟨hmr, Gr, her, hGr⟩, hrr, ⟨hmt, Gt, het, hGt⟩, htr, hnt, ⟨hms, hes⟩, ⟨hmw, hew⟩⟩ := id hY
  refine lv_aload_n hC.1 hC.2.1 dX1_same_0 rfl (lv_at hl 0 rfl) ?_
  refine lv_iconst (v := (nI 0)) hC.1 hC.2.1 dX1_same_1 (by decide) ?_
  refine p_put (ref := "CornerCubeModel") (ty0 := tyX1) hC hE hP hD hS hmm hem rfl (by decide +kernel) tyX1_ok nmX1 0 (by decide) (by decide +kernel) rfl rfl rfl rfl (Nat.le_of_ble_eq_true rfl) dX1_same_2 (fun H locs hP hD hS => ?_)
  have hY := hY.put_th (nI 0) mk
  have hF := (FRM.rf (hm := hm) (sz := sz) (wo := wo) (tr := tr) (L := L) (f := f)).put_hm (e := eO 1 [.int (nI 0), .int mk, .ref cu, .ref rs, .ref td, .ref sz, .ref wo])
  obtain ⟨⟨hmm, hem⟩, ⟨hmc, gc, hec, hRc⟩, ⟨hmr, Gr, her, hGr⟩, hrr, ⟨hmt, Gt, het, hGt⟩, htr, hnt, ⟨hms, hes⟩, ⟨hmw, hew⟩⟩ := id hY
  refine lv_iload_n hC.1 hC.2.1 dX1_same_5 rfl (lv_at hl 1 rfl) ?_
  refine p_cs (n := 1) (m_isWord_f l hx9) hC gX1_same_X1_isWord rfl (by decide +kernel) rfl ⟨by decide, by decide⟩ ⟨by simp only [rD]; omega, by simp only [rD]; omega⟩ hl.1 (Nat.le_of_ble_eq_true rfl) dX1_same_6 rfl ?_
  refine z_if_eq (tgt := 19) hC dX1_same_9 (by decide) (by omega) (fun h_9 => ?_) (fun h_9 => by omega)
  refine lv_aload_n hC.1 hC.2.1 dX1_same_19 rfl (lv_at hl 0 rfl) ?_
  refine lv_iconst (v := (nI 1)) hC.1 hC.2.1 dX1_same_20 (by decide) ?_
  refine p_cvH (n := 1) (m_no l hY (k := 1)) hC hE hP hD hS (hmm) (hem) rfl gX1_same_X1_no rfl (by decide +kernel) rfl ⟨by decide, by decide⟩ ⟨by simp only [rD]; omega, by simp only [rD]; omega⟩ hl.1 (Nat.le_of_ble_eq_true rfl) dX1_same_21 rfl (fun o L2 f2 H locs hpost hP hD hS => ?_)
  obtain ⟨rfl, hLe, hY, hF2⟩ := hpost
  rw [hLe] at hP hD
  have hF3 : FRM hm sz wo tr L f L f2 := fun a ha => ⟨ha, fun h1 h2 h3 h4 => ((hF2 a ha).2 h1 h2 h3 h4).trans ((hF a ha).2 h1 h2 h3 h4)⟩
  refine z_if_le (tgt := 31) hC dX1_same_24 (by decide) (by omega) (fun h_24 => ?_) (fun h_24 => by omega)
  refine lv_iconst (v := (nI 0)) hC.1 hC.2.1 dX1_same_31 (by decide) ?_
  exact HV.zret hC hr hlk hP hD hS (by omega) (by omega) dX1_same_32 (by decide) (⟨rfl, cu, Or.inl rfl, ⟨_, _, hY, hvb, hMS⟩, hF3⟩)

set_option maxHeartbeats 4000000 in
set_option maxRecDepth 100000 in
theorem mb_same2 (l : Launch) {D : va_G} {T : ClassId × ClassId × ClassId} {z0 : Nat} {L : List Nat} {f : Nat → va_E} {hm rs td sz wo : Nat} {rr tr : Nat → Nat} {cu : Nat} {th mk : Int32} {b : Nat → Nat} {wd : Nat → List Nat} (hZ : MZ T L f hm rs td sz wo rr tr cu th mk b wd) {w : Nat} (hw : w < 5) {x : Int32} (hx9 : x < nI 0 ∨ nI 4 < x) : HV l yX1_same wsX1_same (40) 0 0 D z0 (zPre D T z0 L f) [.ref hm, .int (nI w), .int x] (MPo T L f hm rs td sz wo rr tr cu (.int (nI 0)) (nI 1) mk b wd) := by
  refine HV.of (cc := cX1_same) (maxL := 3) (ret := (some .boolean)) (by decide) rfl (Nat.le_of_ble_eq_true rfl) ?_
  intro p e s m args below meth c hC hr hlk hin hB ls hl
  have hl : lv_has ls 3 [(0, .ref hm), (1, .int (nI w)), (2, .int x)] := hl
  obtain ⟨hE, hP, hD⟩ := hB
  have hS : va_S (zA z0) s.heap s.heap [] := va_S.rf
  obtain ⟨Nn, V, hY, hvb, hMS⟩ := id hZ
  obtain ⟨⟨hmm, hem⟩, ⟨hmc, gc, hec, hRc⟩, ⟨hmr, Gr, her, hGr⟩, hrr, ⟨hmt, Gt, het, hGt⟩, htr, hnt, ⟨hms, hes⟩, ⟨hmw, hew⟩⟩ := id hY
  refine lv_aload_n hC.1 hC.2.1 dX1_same_0 rfl (lv_at hl 0 rfl) ?_
  refine lv_iconst (v := (nI 0)) hC.1 hC.2.1 dX1_same_1 (by decide) ?_
  refine p_put (ref := "CornerCubeModel") (ty0 := tyX1) hC hE hP hD hS hmm hem rfl (by decide +kernel) tyX1_ok nmX1 0 (by decide) (by decide +kernel) rfl rfl rfl rfl (Nat.le_of_ble_eq_true rfl) dX1_same_2 (fun H locs hP hD hS => ?_)
  have hY := hY.put_th (nI 0) mk
  have hF := (FRM.rf (hm := hm) (sz := sz) (wo := wo) (tr := tr) (L := L) (f := f)).put_hm (e := eO 1 [.int (nI 0), .int mk, .ref cu, .ref rs, .ref td, .ref sz, .ref wo])
  obtain ⟨⟨hmm, hem⟩, ⟨hmc, gc, hec, hRc⟩, ⟨hmr, Gr, her, hGr⟩, hrr, ⟨hmt, Gt, het, hGt⟩, htr, hnt, ⟨hms, hes⟩, ⟨hmw, hew⟩⟩ := id hY
  refine lv_iload_n hC.1 hC.2.1 dX1_same_5 rfl (lv_at hl 1 rfl) ?_
  refine p_cs (n := 1) (m_isWord_t l ((nI_leI (by omega) (by omega)).mpr (by omega)) ((nI_leI (by omega) (by omega)).mpr (by omega))) hC gX1_same_X1_isWord rfl (by decide +kernel) rfl ⟨by decide, by decide⟩ ⟨by simp only [rD]; omega, by simp only [rD]; omega⟩ hl.1 (Nat.le_of_ble_eq_true rfl) dX1_same_6 rfl ?_
  refine z_if_eq (tgt := 19) hC dX1_same_9 (by decide) (by omega) (fun h_9 => by omega) (fun h_9 => ?_)
  refine lv_iload_n hC.1 hC.2.1 dX1_same_12 rfl (lv_at hl 2 rfl) ?_
  refine p_cs (n := 1) (m_isWord_f l hx9) hC gX1_same_X1_isWord rfl (by decide +kernel) rfl ⟨by decide, by decide⟩ ⟨by simp only [rD]; omega, by simp only [rD]; omega⟩ hl.1 (Nat.le_of_ble_eq_true rfl) dX1_same_13 rfl ?_
  refine z_if_ne (tgt := 33) hC dX1_same_16 (by decide) (by omega) (fun h_16 => by omega) (fun h_16 => ?_)
  refine lv_aload_n hC.1 hC.2.1 dX1_same_19 rfl (lv_at hl 0 rfl) ?_
  refine lv_iconst (v := (nI 1)) hC.1 hC.2.1 dX1_same_20 (by decide) ?_
  refine p_cvH (n := 1) (m_no l hY (k := 1)) hC hE hP hD hS (hmm) (hem) rfl gX1_same_X1_no rfl (by decide +kernel) rfl ⟨by decide, by decide⟩ ⟨by simp only [rD]; omega, by simp only [rD]; omega⟩ hl.1 (Nat.le_of_ble_eq_true rfl) dX1_same_21 rfl (fun o L2 f2 H locs hpost hP hD hS => ?_)
  obtain ⟨rfl, hLe, hY, hF2⟩ := hpost
  rw [hLe] at hP hD
  have hF3 : FRM hm sz wo tr L f L f2 := fun a ha => ⟨ha, fun h1 h2 h3 h4 => ((hF2 a ha).2 h1 h2 h3 h4).trans ((hF a ha).2 h1 h2 h3 h4)⟩
  refine z_if_le (tgt := 31) hC dX1_same_24 (by decide) (by omega) (fun h_24 => ?_) (fun h_24 => by omega)
  refine lv_iconst (v := (nI 0)) hC.1 hC.2.1 dX1_same_31 (by decide) ?_
  exact HV.zret hC hr hlk hP hD hS (by omega) (by omega) dX1_same_32 (by decide) (⟨rfl, cu, Or.inl rfl, ⟨_, _, hY, hvb, hMS⟩, hF3⟩)

set_option maxHeartbeats 4000000 in
set_option maxRecDepth 100000 in
theorem mb_mixed1 (l : Launch) {D : va_G} {T : ClassId × ClassId × ClassId} {z0 : Nat} {L : List Nat} {f : Nat → va_E} {hm rs td sz wo : Nat} {rr tr : Nat → Nat} {cu : Nat} {th mk : Int32} {b : Nat → Nat} {wd : Nat → List Nat} (hZ : MZ T L f hm rs td sz wo rr tr cu th mk b wd) {x y : Int32} (hx9 : x < nI 0 ∨ nI 4 < x) : HV l yX1_mixed wsX1_mixed (40) 0 0 D z0 (zPre D T z0 L f) [.ref hm, .int x, .int y] (MPo T L f hm rs td sz wo rr tr cu (.int (nI 0)) (nI 1) mk b wd) := by
  refine HV.of (cc := cX1_mixed) (maxL := 5) (ret := (some .int)) (by decide) rfl (Nat.le_of_ble_eq_true rfl) ?_
  intro p e s m args below meth c hC hr hlk hin hB ls hl
  have hl : lv_has ls 5 [(0, .ref hm), (1, .int x), (2, .int y)] := hl
  obtain ⟨hE, hP, hD⟩ := hB
  have hS : va_S (zA z0) s.heap s.heap [] := va_S.rf
  obtain ⟨Nn, V, hY, hvb, hMS⟩ := id hZ
  obtain ⟨⟨hmm, hem⟩, ⟨hmc, gc, hec, hRc⟩, ⟨hmr, Gr, her, hGr⟩, hrr, ⟨hmt, Gt, het, hGt⟩, htr, hnt, ⟨hms, hes⟩, ⟨hmw, hew⟩⟩ := id hY
  refine lv_aload_n hC.1 hC.2.1 dX1_mixed_0 rfl (lv_at hl 0 rfl) ?_
  refine lv_iconst (v := (nI 0)) hC.1 hC.2.1 dX1_mixed_1 (by decide) ?_
  refine p_put (ref := "CornerCubeModel") (ty0 := tyX1) hC hE hP hD hS hmm hem rfl (by decide +kernel) tyX1_ok nmX1 0 (by decide) (by decide +kernel) rfl rfl rfl rfl (Nat.le_of_ble_eq_true rfl) dX1_mixed_2 (fun H locs hP hD hS => ?_)
  have hY := hY.put_th (nI 0) mk
  have hF := (FRM.rf (hm := hm) (sz := sz) (wo := wo) (tr := tr) (L := L) (f := f)).put_hm (e := eO 1 [.int (nI 0), .int mk, .ref cu, .ref rs, .ref td, .ref sz, .ref wo])
  obtain ⟨⟨hmm, hem⟩, ⟨hmc, gc, hec, hRc⟩, ⟨hmr, Gr, her, hGr⟩, hrr, ⟨hmt, Gt, het, hGt⟩, htr, hnt, ⟨hms, hes⟩, ⟨hmw, hew⟩⟩ := id hY
  refine lv_iload_n hC.1 hC.2.1 dX1_mixed_5 rfl (lv_at hl 1 rfl) ?_
  refine p_cs (n := 1) (m_isWord_f l hx9) hC gX1_mixed_X1_isWord rfl (by decide +kernel) rfl ⟨by decide, by decide⟩ ⟨by simp only [rD]; omega, by simp only [rD]; omega⟩ hl.1 (Nat.le_of_ble_eq_true rfl) dX1_mixed_6 rfl ?_
  refine z_if_eq (tgt := 19) hC dX1_mixed_9 (by decide) (by omega) (fun h_9 => ?_) (fun h_9 => by omega)
  refine lv_aload_n hC.1 hC.2.1 dX1_mixed_19 rfl (lv_at hl 0 rfl) ?_
  refine lv_iconst (v := (nI 1)) hC.1 hC.2.1 dX1_mixed_20 (by decide) ?_
  refine p_cvH (n := 1) (m_no l hY (k := 1)) hC hE hP hD hS (hmm) (hem) rfl gX1_mixed_X1_no rfl (by decide +kernel) rfl ⟨by decide, by decide⟩ ⟨by simp only [rD]; omega, by simp only [rD]; omega⟩ hl.1 (Nat.le_of_ble_eq_true rfl) dX1_mixed_21 rfl (fun o L2 f2 H locs hpost hP hD hS => ?_)
  obtain ⟨rfl, hLe, hY, hF2⟩ := hpost
  rw [hLe] at hP hD
  have hF3 : FRM hm sz wo tr L f L f2 := fun a ha => ⟨ha, fun h1 h2 h3 h4 => ((hF2 a ha).2 h1 h2 h3 h4).trans ((hF a ha).2 h1 h2 h3 h4)⟩
  exact HV.iret hC hr hlk hP hD hS (by omega) (by omega) dX1_mixed_24 (⟨rfl, cu, Or.inl rfl, ⟨_, _, hY, hvb, hMS⟩, hF3⟩)

set_option maxHeartbeats 4000000 in
set_option maxRecDepth 100000 in
theorem mb_mixed2 (l : Launch) {D : va_G} {T : ClassId × ClassId × ClassId} {z0 : Nat} {L : List Nat} {f : Nat → va_E} {hm rs td sz wo : Nat} {rr tr : Nat → Nat} {cu : Nat} {th mk : Int32} {b : Nat → Nat} {wd : Nat → List Nat} (hZ : MZ T L f hm rs td sz wo rr tr cu th mk b wd) {w : Nat} (hw : w < 5) {x : Int32} (hx9 : x < nI 0 ∨ nI 4 < x) : HV l yX1_mixed wsX1_mixed (40) 0 0 D z0 (zPre D T z0 L f) [.ref hm, .int (nI w), .int x] (MPo T L f hm rs td sz wo rr tr cu (.int (nI 0)) (nI 1) mk b wd) := by
  refine HV.of (cc := cX1_mixed) (maxL := 5) (ret := (some .int)) (by decide) rfl (Nat.le_of_ble_eq_true rfl) ?_
  intro p e s m args below meth c hC hr hlk hin hB ls hl
  have hl : lv_has ls 5 [(0, .ref hm), (1, .int (nI w)), (2, .int x)] := hl
  obtain ⟨hE, hP, hD⟩ := hB
  have hS : va_S (zA z0) s.heap s.heap [] := va_S.rf
  obtain ⟨Nn, V, hY, hvb, hMS⟩ := id hZ
  obtain ⟨⟨hmm, hem⟩, ⟨hmc, gc, hec, hRc⟩, ⟨hmr, Gr, her, hGr⟩, hrr, ⟨hmt, Gt, het, hGt⟩, htr, hnt, ⟨hms, hes⟩, ⟨hmw, hew⟩⟩ := id hY
  refine lv_aload_n hC.1 hC.2.1 dX1_mixed_0 rfl (lv_at hl 0 rfl) ?_
  refine lv_iconst (v := (nI 0)) hC.1 hC.2.1 dX1_mixed_1 (by decide) ?_
  refine p_put (ref := "CornerCubeModel") (ty0 := tyX1) hC hE hP hD hS hmm hem rfl (by decide +kernel) tyX1_ok nmX1 0 (by decide) (by decide +kernel) rfl rfl rfl rfl (Nat.le_of_ble_eq_true rfl) dX1_mixed_2 (fun H locs hP hD hS => ?_)
  have hY := hY.put_th (nI 0) mk
  have hF := (FRM.rf (hm := hm) (sz := sz) (wo := wo) (tr := tr) (L := L) (f := f)).put_hm (e := eO 1 [.int (nI 0), .int mk, .ref cu, .ref rs, .ref td, .ref sz, .ref wo])
  obtain ⟨⟨hmm, hem⟩, ⟨hmc, gc, hec, hRc⟩, ⟨hmr, Gr, her, hGr⟩, hrr, ⟨hmt, Gt, het, hGt⟩, htr, hnt, ⟨hms, hes⟩, ⟨hmw, hew⟩⟩ := id hY
  refine lv_iload_n hC.1 hC.2.1 dX1_mixed_5 rfl (lv_at hl 1 rfl) ?_
  refine p_cs (n := 1) (m_isWord_t l ((nI_leI (by omega) (by omega)).mpr (by omega)) ((nI_leI (by omega) (by omega)).mpr (by omega))) hC gX1_mixed_X1_isWord rfl (by decide +kernel) rfl ⟨by decide, by decide⟩ ⟨by simp only [rD]; omega, by simp only [rD]; omega⟩ hl.1 (Nat.le_of_ble_eq_true rfl) dX1_mixed_6 rfl ?_
  refine z_if_eq (tgt := 19) hC dX1_mixed_9 (by decide) (by omega) (fun h_9 => by omega) (fun h_9 => ?_)
  refine lv_iload_n hC.1 hC.2.1 dX1_mixed_12 rfl (lv_at hl 2 rfl) ?_
  refine p_cs (n := 1) (m_isWord_f l hx9) hC gX1_mixed_X1_isWord rfl (by decide +kernel) rfl ⟨by decide, by decide⟩ ⟨by simp only [rD]; omega, by simp only [rD]; omega⟩ hl.1 (Nat.le_of_ble_eq_true rfl) dX1_mixed_13 rfl ?_
  refine z_if_ne (tgt := 25) hC dX1_mixed_16 (by decide) (by omega) (fun h_16 => by omega) (fun h_16 => ?_)
  refine lv_aload_n hC.1 hC.2.1 dX1_mixed_19 rfl (lv_at hl 0 rfl) ?_
  refine lv_iconst (v := (nI 1)) hC.1 hC.2.1 dX1_mixed_20 (by decide) ?_
  refine p_cvH (n := 1) (m_no l hY (k := 1)) hC hE hP hD hS (hmm) (hem) rfl gX1_mixed_X1_no rfl (by decide +kernel) rfl ⟨by decide, by decide⟩ ⟨by simp only [rD]; omega, by simp only [rD]; omega⟩ hl.1 (Nat.le_of_ble_eq_true rfl) dX1_mixed_21 rfl (fun o L2 f2 H locs hpost hP hD hS => ?_)
  obtain ⟨rfl, hLe, hY, hF2⟩ := hpost
  rw [hLe] at hP hD
  have hF3 : FRM hm sz wo tr L f L f2 := fun a ha => ⟨ha, fun h1 h2 h3 h4 => ((hF2 a ha).2 h1 h2 h3 h4).trans ((hF a ha).2 h1 h2 h3 h4)⟩
  exact HV.iret hC hr hlk hP hD hS (by omega) (by omega) dX1_mixed_24 (⟨rfl, cu, Or.inl rfl, ⟨_, _, hY, hvb, hMS⟩, hF3⟩)

set_option maxHeartbeats 4000000 in
set_option maxRecDepth 100000 in
theorem mb_far1 (l : Launch) {D : va_G} {T : ClassId × ClassId × ClassId} {z0 : Nat} {L : List Nat} {f : Nat → va_E} {hm rs td sz wo : Nat} {rr tr : Nat → Nat} {cu : Nat} {th mk : Int32} {b : Nat → Nat} {wd : Nat → List Nat} (hZ : MZ T L f hm rs td sz wo rr tr cu th mk b wd) {x : Int32} (hx9 : x < nI 0 ∨ nI 5 < x) : HV l yX1_far wsX1_far (40) 0 0 D z0 (zPre D T z0 L f) [.ref hm, .int x] (MPo T L f hm rs td sz wo rr tr cu (.int (nI 0)) (nI 1) mk b wd) := by
  refine HV.of (cc := cX1_far) (maxL := 2) (ret := (some .int)) (by decide) rfl (Nat.le_of_ble_eq_true rfl) ?_
  intro p e s m args below meth c hC hr hlk hin hB ls hl
  have hl : lv_has ls 2 [(0, .ref hm), (1, .int x)] := hl
  obtain ⟨hE, hP, hD⟩ := hB
  have hS : va_S (zA z0) s.heap s.heap [] := va_S.rf
  obtain ⟨Nn, V, hY, hvb, hMS⟩ := id hZ
  obtain ⟨⟨hmm, hem⟩, ⟨hmc, gc, hec, hRc⟩, ⟨hmr, Gr, her, hGr⟩, hrr, ⟨hmt, Gt, het, hGt⟩, htr, hnt, ⟨hms, hes⟩, ⟨hmw, hew⟩⟩ := id hY
  refine lv_aload_n hC.1 hC.2.1 dX1_far_0 rfl (lv_at hl 0 rfl) ?_
  refine lv_iconst (v := (nI 0)) hC.1 hC.2.1 dX1_far_1 (by decide) ?_
  refine p_put (ref := "CornerCubeModel") (ty0 := tyX1) hC hE hP hD hS hmm hem rfl (by decide +kernel) tyX1_ok nmX1 0 (by decide) (by decide +kernel) rfl rfl rfl rfl (Nat.le_of_ble_eq_true rfl) dX1_far_2 (fun H locs hP hD hS => ?_)
  have hY := hY.put_th (nI 0) mk
  have hF := (FRM.rf (hm := hm) (sz := sz) (wo := wo) (tr := tr) (L := L) (f := f)).put_hm (e := eO 1 [.int (nI 0), .int mk, .ref cu, .ref rs, .ref td, .ref sz, .ref wo])
  obtain ⟨⟨hmm, hem⟩, ⟨hmc, gc, hec, hRc⟩, ⟨hmr, Gr, her, hGr⟩, hrr, ⟨hmt, Gt, het, hGt⟩, htr, hnt, ⟨hms, hes⟩, ⟨hmw, hew⟩⟩ := id hY
  refine lv_iload_n hC.1 hC.2.1 dX1_far_5 rfl (lv_at hl 1 rfl) ?_
  refine lv_iconst (v := (nI 0)) hC.1 hC.2.1 dX1_far_6 (by decide) ?_
  refine lv_iconst (v := (nI 5)) hC.1 hC.2.1 dX1_far_7 (by decide) ?_
  refine p_cs (n := 3) (m_isIn_f l hx9) hC gX1_far_X1_isIn rfl (by decide +kernel) rfl ⟨by decide, by decide⟩ ⟨by simp only [rD]; omega, by simp only [rD]; omega⟩ hl.1 (Nat.le_of_ble_eq_true rfl) dX1_far_8 rfl ?_
  refine z_if_eq (tgt := 26) hC dX1_far_11 (by decide) (by omega) (fun h_11 => ?_) (fun h_11 => by omega)
  refine lv_aload_n hC.1 hC.2.1 dX1_far_26 rfl (lv_at hl 0 rfl) ?_
  refine lv_iconst (v := (nI 1)) hC.1 hC.2.1 dX1_far_27 (by decide) ?_
  refine p_cvH (n := 1) (m_no l hY (k := 1)) hC hE hP hD hS (hmm) (hem) rfl gX1_far_X1_no rfl (by decide +kernel) rfl ⟨by decide, by decide⟩ ⟨by simp only [rD]; omega, by simp only [rD]; omega⟩ hl.1 (Nat.le_of_ble_eq_true rfl) dX1_far_28 rfl (fun o L2 f2 H locs hpost hP hD hS => ?_)
  obtain ⟨rfl, hLe, hY, hF2⟩ := hpost
  rw [hLe] at hP hD
  have hF3 : FRM hm sz wo tr L f L f2 := fun a ha => ⟨ha, fun h1 h2 h3 h4 => ((hF2 a ha).2 h1 h2 h3 h4).trans ((hF a ha).2 h1 h2 h3 h4)⟩
  exact HV.iret hC hr hlk hP hD hS (by omega) (by omega) dX1_far_31 (⟨rfl, cu, Or.inl rfl, ⟨_, _, hY, hvb, hMS⟩, hF3⟩)

set_option maxHeartbeats 4000000 in
set_option maxRecDepth 100000 in
theorem mb_first1 (l : Launch) {D : va_G} {T : ClassId × ClassId × ClassId} {z0 : Nat} {L : List Nat} {f : Nat → va_E} {hm rs td sz wo : Nat} {rr tr : Nat → Nat} {cu : Nat} {th mk : Int32} {b : Nat → Nat} {wd : Nat → List Nat} (hZ : MZ T L f hm rs td sz wo rr tr cu th mk b wd) {x : Int32} (hx9 : x < nI 0 ∨ nI 5 < x) : HV l yX1_first wsX1_first (40) 0 0 D z0 (zPre D T z0 L f) [.ref hm, .int x] (MPo T L f hm rs td sz wo rr tr cu (.int (nI 0)) (nI 1) mk b wd) := by
  refine HV.of (cc := cX1_first) (maxL := 4) (ret := (some .int)) (by decide) rfl (Nat.le_of_ble_eq_true rfl) ?_
  intro p e s m args below meth c hC hr hlk hin hB ls hl
  have hl : lv_has ls 4 [(0, .ref hm), (1, .int x)] := hl
  obtain ⟨hE, hP, hD⟩ := hB
  have hS : va_S (zA z0) s.heap s.heap [] := va_S.rf
  obtain ⟨Nn, V, hY, hvb, hMS⟩ := id hZ
  obtain ⟨⟨hmm, hem⟩, ⟨hmc, gc, hec, hRc⟩, ⟨hmr, Gr, her, hGr⟩, hrr, ⟨hmt, Gt, het, hGt⟩, htr, hnt, ⟨hms, hes⟩, ⟨hmw, hew⟩⟩ := id hY
  refine lv_aload_n hC.1 hC.2.1 dX1_first_0 rfl (lv_at hl 0 rfl) ?_
  refine lv_iconst (v := (nI 0)) hC.1 hC.2.1 dX1_first_1 (by decide) ?_
  refine p_put (ref := "CornerCubeModel") (ty0 := tyX1) hC hE hP hD hS hmm hem rfl (by decide +kernel) tyX1_ok nmX1 0 (by decide) (by decide +kernel) rfl rfl rfl rfl (Nat.le_of_ble_eq_true rfl) dX1_first_2 (fun H locs hP hD hS => ?_)
  have hY := hY.put_th (nI 0) mk
  have hF := (FRM.rf (hm := hm) (sz := sz) (wo := wo) (tr := tr) (L := L) (f := f)).put_hm (e := eO 1 [.int (nI 0), .int mk, .ref cu, .ref rs, .ref td, .ref sz, .ref wo])
  obtain ⟨⟨hmm, hem⟩, ⟨hmc, gc, hec, hRc⟩, ⟨hmr, Gr, her, hGr⟩, hrr, ⟨hmt, Gt, het, hGt⟩, htr, hnt, ⟨hms, hes⟩, ⟨hmw, hew⟩⟩ := id hY
  refine lv_iload_n hC.1 hC.2.1 dX1_first_5 rfl (lv_at hl 1 rfl) ?_
  refine lv_iconst (v := (nI 0)) hC.1 hC.2.1 dX1_first_6 (by decide) ?_
  refine lv_iconst (v := (nI 5)) hC.1 hC.2.1 dX1_first_7 (by decide) ?_
  refine p_cs (n := 3) (m_isIn_f l hx9) hC gX1_first_X1_isIn rfl (by decide +kernel) rfl ⟨by decide, by decide⟩ ⟨by simp only [rD]; omega, by simp only [rD]; omega⟩ hl.1 (Nat.le_of_ble_eq_true rfl) dX1_first_8 rfl ?_
  refine z_if_ne (tgt := 20) hC dX1_first_11 (by decide) (by omega) (fun h_11 => by omega) (fun h_11 => ?_)
  refine lv_aload_n hC.1 hC.2.1 dX1_first_14 rfl (lv_at hl 0 rfl) ?_
  refine lv_iconst (v := (nI 1)) hC.1 hC.2.1 dX1_first_15 (by decide) ?_
  refine p_cvH (n := 1) (m_no l hY (k := 1)) hC hE hP hD hS (hmm) (hem) rfl gX1_first_X1_no rfl (by decide +kernel) rfl ⟨by decide, by decide⟩ ⟨by simp only [rD]; omega, by simp only [rD]; omega⟩ hl.1 (Nat.le_of_ble_eq_true rfl) dX1_first_16 rfl (fun o L2 f2 H locs hpost hP hD hS => ?_)
  obtain ⟨rfl, hLe, hY, hF2⟩ := hpost
  rw [hLe] at hP hD
  have hF3 : FRM hm sz wo tr L f L f2 := fun a ha => ⟨ha, fun h1 h2 h3 h4 => ((hF2 a ha).2 h1 h2 h3 h4).trans ((hF a ha).2 h1 h2 h3 h4)⟩
  exact HV.iret hC hr hlk hP hD hS (by omega) (by omega) dX1_first_19 (⟨rfl, cu, Or.inl rfl, ⟨_, _, hY, hvb, hMS⟩, hF3⟩)

set_option maxHeartbeats 4000000 in
set_option maxRecDepth 100000 in
theorem mb_shortest1 (l : Launch) {D : va_G} {T : ClassId × ClassId × ClassId} {z0 : Nat} {L : List Nat} {f : Nat → va_E} {hm rs td sz wo : Nat} {rr tr : Nat → Nat} {cu : Nat} {th mk : Int32} {b : Nat → Nat} {wd : Nat → List Nat} (hZ : MZ T L f hm rs td sz wo rr tr cu th mk b wd) {x y : Int32} (hx9 : x < nI 0 ∨ nI 4 < x) : HV l yX1_shortest wsX1_shortest (40) 0 0 D z0 (zPre D T z0 L f) [.ref hm, .int x, .int y] (MPo T L f hm rs td sz wo rr tr cu (.int (nI 0)) (nI 1) mk b wd) := by
  refine HV.of (cc := cX1_shortest) (maxL := 3) (ret := (some .int)) (by decide) rfl (Nat.le_of_ble_eq_true rfl) ?_
  intro p e s m args below meth c hC hr hlk hin hB ls hl
  have hl : lv_has ls 3 [(0, .ref hm), (1, .int x), (2, .int y)] := hl
  obtain ⟨hE, hP, hD⟩ := hB
  have hS : va_S (zA z0) s.heap s.heap [] := va_S.rf
  obtain ⟨Nn, V, hY, hvb, hMS⟩ := id hZ
  obtain ⟨⟨hmm, hem⟩, ⟨hmc, gc, hec, hRc⟩, ⟨hmr, Gr, her, hGr⟩, hrr, ⟨hmt, Gt, het, hGt⟩, htr, hnt, ⟨hms, hes⟩, ⟨hmw, hew⟩⟩ := id hY
  refine lv_aload_n hC.1 hC.2.1 dX1_shortest_0 rfl (lv_at hl 0 rfl) ?_
  refine lv_iconst (v := (nI 0)) hC.1 hC.2.1 dX1_shortest_1 (by decide) ?_
  refine p_put (ref := "CornerCubeModel") (ty0 := tyX1) hC hE hP hD hS hmm hem rfl (by decide +kernel) tyX1_ok nmX1 0 (by decide) (by decide +kernel) rfl rfl rfl rfl (Nat.le_of_ble_eq_true rfl) dX1_shortest_2 (fun H locs hP hD hS => ?_)
  have hY := hY.put_th (nI 0) mk
  have hF := (FRM.rf (hm := hm) (sz := sz) (wo := wo) (tr := tr) (L := L) (f := f)).put_hm (e := eO 1 [.int (nI 0), .int mk, .ref cu, .ref rs, .ref td, .ref sz, .ref wo])
  obtain ⟨⟨hmm, hem⟩, ⟨hmc, gc, hec, hRc⟩, ⟨hmr, Gr, her, hGr⟩, hrr, ⟨hmt, Gt, het, hGt⟩, htr, hnt, ⟨hms, hes⟩, ⟨hmw, hew⟩⟩ := id hY
  refine lv_iload_n hC.1 hC.2.1 dX1_shortest_5 rfl (lv_at hl 1 rfl) ?_
  refine p_cs (n := 1) (m_isWord_f l hx9) hC gX1_shortest_X1_isWord rfl (by decide +kernel) rfl ⟨by decide, by decide⟩ ⟨by simp only [rD]; omega, by simp only [rD]; omega⟩ hl.1 (Nat.le_of_ble_eq_true rfl) dX1_shortest_6 rfl ?_
  refine z_if_ne (tgt := 18) hC dX1_shortest_9 (by decide) (by omega) (fun h_9 => by omega) (fun h_9 => ?_)
  refine lv_aload_n hC.1 hC.2.1 dX1_shortest_12 rfl (lv_at hl 0 rfl) ?_
  refine lv_iconst (v := (nI 1)) hC.1 hC.2.1 dX1_shortest_13 (by decide) ?_
  refine p_cvH (n := 1) (m_no l hY (k := 1)) hC hE hP hD hS (hmm) (hem) rfl gX1_shortest_X1_no rfl (by decide +kernel) rfl ⟨by decide, by decide⟩ ⟨by simp only [rD]; omega, by simp only [rD]; omega⟩ hl.1 (Nat.le_of_ble_eq_true rfl) dX1_shortest_14 rfl (fun o L2 f2 H locs hpost hP hD hS => ?_)
  obtain ⟨rfl, hLe, hY, hF2⟩ := hpost
  rw [hLe] at hP hD
  have hF3 : FRM hm sz wo tr L f L f2 := fun a ha => ⟨ha, fun h1 h2 h3 h4 => ((hF2 a ha).2 h1 h2 h3 h4).trans ((hF a ha).2 h1 h2 h3 h4)⟩
  exact HV.iret hC hr hlk hP hD hS (by omega) (by omega) dX1_shortest_17 (⟨rfl, cu, Or.inl rfl, ⟨_, _, hY, hvb, hMS⟩, hF3⟩)

set_option maxHeartbeats 4000000 in
set_option maxRecDepth 100000 in
theorem mb_shortest2 (l : Launch) {D : va_G} {T : ClassId × ClassId × ClassId} {z0 : Nat} {L : List Nat} {f : Nat → va_E} {hm rs td sz wo : Nat} {rr tr : Nat → Nat} {cu : Nat} {th mk : Int32} {b : Nat → Nat} {wd : Nat → List Nat} (hZ : MZ T L f hm rs td sz wo rr tr cu th mk b wd) {w : Nat} (hw : w < 5) {x : Int32} (hx9 : x < nI 0 ∨ nI 5 < x) : HV l yX1_shortest wsX1_shortest (40) 0 0 D z0 (zPre D T z0 L f) [.ref hm, .int (nI w), .int x] (MPo T L f hm rs td sz wo rr tr cu (.int (nI 0)) (nI 2) mk b wd) := by
  refine HV.of (cc := cX1_shortest) (maxL := 3) (ret := (some .int)) (by decide) rfl (Nat.le_of_ble_eq_true rfl) ?_
  intro p e s m args below meth c hC hr hlk hin hB ls hl
  have hl : lv_has ls 3 [(0, .ref hm), (1, .int (nI w)), (2, .int x)] := hl
  obtain ⟨hE, hP, hD⟩ := hB
  have hS : va_S (zA z0) s.heap s.heap [] := va_S.rf
  obtain ⟨Nn, V, hY, hvb, hMS⟩ := id hZ
  obtain ⟨⟨hmm, hem⟩, ⟨hmc, gc, hec, hRc⟩, ⟨hmr, Gr, her, hGr⟩, hrr, ⟨hmt, Gt, het, hGt⟩, htr, hnt, ⟨hms, hes⟩, ⟨hmw, hew⟩⟩ := id hY
  refine lv_aload_n hC.1 hC.2.1 dX1_shortest_0 rfl (lv_at hl 0 rfl) ?_
  refine lv_iconst (v := (nI 0)) hC.1 hC.2.1 dX1_shortest_1 (by decide) ?_
  refine p_put (ref := "CornerCubeModel") (ty0 := tyX1) hC hE hP hD hS hmm hem rfl (by decide +kernel) tyX1_ok nmX1 0 (by decide) (by decide +kernel) rfl rfl rfl rfl (Nat.le_of_ble_eq_true rfl) dX1_shortest_2 (fun H locs hP hD hS => ?_)
  have hY := hY.put_th (nI 0) mk
  have hF := (FRM.rf (hm := hm) (sz := sz) (wo := wo) (tr := tr) (L := L) (f := f)).put_hm (e := eO 1 [.int (nI 0), .int mk, .ref cu, .ref rs, .ref td, .ref sz, .ref wo])
  obtain ⟨⟨hmm, hem⟩, ⟨hmc, gc, hec, hRc⟩, ⟨hmr, Gr, her, hGr⟩, hrr, ⟨hmt, Gt, het, hGt⟩, htr, hnt, ⟨hms, hes⟩, ⟨hmw, hew⟩⟩ := id hY
  refine lv_iload_n hC.1 hC.2.1 dX1_shortest_5 rfl (lv_at hl 1 rfl) ?_
  refine p_cs (n := 1) (m_isWord_t l ((nI_leI (by omega) (by omega)).mpr (by omega)) ((nI_leI (by omega) (by omega)).mpr (by omega))) hC gX1_shortest_X1_isWord rfl (by decide +kernel) rfl ⟨by decide, by decide⟩ ⟨by simp only [rD]; omega, by simp only [rD]; omega⟩ hl.1 (Nat.le_of_ble_eq_true rfl) dX1_shortest_6 rfl ?_
  refine z_if_ne (tgt := 18) hC dX1_shortest_9 (by decide) (by omega) (fun h_9 => ?_) (fun h_9 => by omega)
  refine lv_iload_n hC.1 hC.2.1 dX1_shortest_18 rfl (lv_at hl 2 rfl) ?_
  refine lv_iconst (v := (nI 0)) hC.1 hC.2.1 dX1_shortest_19 (by decide) ?_
  refine lv_iconst (v := (nI 5)) hC.1 hC.2.1 dX1_shortest_20 (by decide) ?_
  refine p_cs (n := 3) (m_isIn_f l hx9) hC gX1_shortest_X1_isIn rfl (by decide +kernel) rfl ⟨by decide, by decide⟩ ⟨by simp only [rD]; omega, by simp only [rD]; omega⟩ hl.1 (Nat.le_of_ble_eq_true rfl) dX1_shortest_21 rfl ?_
  refine z_if_eq (tgt := 40) hC dX1_shortest_24 (by decide) (by omega) (fun h_24 => ?_) (fun h_24 => by omega)
  refine lv_aload_n hC.1 hC.2.1 dX1_shortest_40 rfl (lv_at hl 0 rfl) ?_
  refine lv_iconst (v := (nI 2)) hC.1 hC.2.1 dX1_shortest_41 (by decide) ?_
  refine p_cvH (n := 1) (m_no l hY (k := 2)) hC hE hP hD hS (hmm) (hem) rfl gX1_shortest_X1_no rfl (by decide +kernel) rfl ⟨by decide, by decide⟩ ⟨by simp only [rD]; omega, by simp only [rD]; omega⟩ hl.1 (Nat.le_of_ble_eq_true rfl) dX1_shortest_42 rfl (fun o L2 f2 H locs hpost hP hD hS => ?_)
  obtain ⟨rfl, hLe, hY, hF2⟩ := hpost
  rw [hLe] at hP hD
  have hF3 : FRM hm sz wo tr L f L f2 := fun a ha => ⟨ha, fun h1 h2 h3 h4 => ((hF2 a ha).2 h1 h2 h3 h4).trans ((hF a ha).2 h1 h2 h3 h4)⟩
  exact HV.iret hC hr hlk hP hD hS (by omega) (by omega) dX1_shortest_45 (⟨rfl, cu, Or.inl rfl, ⟨_, _, hY, hvb, hMS⟩, hF3⟩)
