/-! MY ROWS 34: the law's loop (laid by a program of mine) -/
/-- two words that do the same have the same fewest turns -/
theorem sh_both (l : Launch) {D : va_G} {T : ClassId × ClassId × ClassId} {z0 : Nat} {L : List Nat} {f : Nat → va_E} {hx g ln : Nat} {rw : Nat → Nat} {b : Nat → Nat} {mk : Int32} {wd : Nat → List Nat} (hX : CX T L f hx g ln rw b mk wd) {a b2 : Nat} (ha : a < 5) (hb : b2 < 5) (he : EQ8 (deed (wd a)) (deed (wd b2))) :
    ∃ v : Int32, RV l yX0_shortest wsX0_shortest 21 (zPre D T z0 L f) [.ref hx, .int (nI a), .int (nI 2)] (some (.int v)) ∧ RV l yX0_shortest wsX0_shortest 21 (zPre D T z0 L f) [.ref hx, .int (nI b2), .int (nI 2)] (some (.int v)) := by
  have hcg := fun k => wi_cg (deed_Va (wd a)) (deed_Va (wd b2)) he k
  rcases far_of (b := deed (wd a)) 2 with h | ⟨N, hN, h1, h2⟩
  · exact ⟨_, k_shortestN l hX ha (most := 2) (by decide) h, k_shortestN l hX hb (most := 2) (by decide) (fun k hk => (hcg k).symm.trans (h k hk))⟩
  · exact ⟨_, k_shortest l hX ha (most := 2) (by decide) hN h2 h1, k_shortest l hX hb (most := 2) (by decide) hN (fun k hk => (hcg k).symm.trans (h2 k hk)) ((hcg N).symm.trans h1)⟩
set_option maxHeartbeats 4000000 in
set_option maxRecDepth 100000 in
theorem law_body {p : Program} {l : Launch} {e : Env} {s : State} {m : MethodId} {args : Array Value} {below : List Frame} {meth : Method} {c : Code} {Q : State → Prop} {D : va_G} {T : ClassId × ClassId × ClassId} {z0 : Nat} {hx g ln : Nat} {rw : Nat → Nat} {sc i : Nat} (hC : CallFix p m c cL_law 16 s args wsL_law RL) (hE : zE D T z0 s) {Ln : Nat} {xs : Nat → Int32} (hLn : Ln ≤ 260) (hxs : va_X sc Ln xs s s.heap) (hsz : ¬ zA z0 sc) (hi : i < 12) (k641 : LGO p l e s m args below meth c Q D T z0 hx g ln rw sc i 641) : LGO p l e s m args below meth c Q D T z0 hx g ln rw sc i 38 := by
  have kk := t_tail hC hE k641
  intro L f H locs b mk wd ls hX hPM hTW hP hD hS hl
  have hv := hPM.1
  have hOb := hPM.ord
  have hOw : ∀ w, w < 5 → ordN (deed (wd w)) < 1000 := fun w _ => (PM.deed (wd w)).ord
  obtain ⟨x, hx9⟩ : ∃ x, x = cellv xs Ln i := ⟨_, rfl⟩
  obtain ⟨a, ha, ka⟩ := k_belowE l (x >>> (nI 2 &&& 31)) (n := 5) (by decide) (by decide)
  obtain ⟨b2, hb2, kb2⟩ := k_belowE l (x >>> (nI 4 &&& 31)) (n := 5) (by decide) (by decide)
  obtain ⟨fc, hfc, kfc⟩ := k_belowE l (x) (n := 3) (by decide) (by decide)
  obtain ⟨q, hq, kq⟩ := k_belowE l (x >>> (nI 2 &&& 31)) (n := 3) (by decide) (by decide)
  obtain ⟨sw, hsw, ksw⟩ := k_belowE l (x >>> (nI 7 &&& 31)) (n := 4) (by decide) (by decide)
  have hoa := hOw a ha
  have hob := hOw b2 hb2
  have hwa := (hX.2.2.2.2.2.2 a ha).2
  have hwb := (hX.2.2.2.2.2.2 b2 hb2).2
  have hmab := mixed_eq hwa hwb
  have hmba := (mixed_eq hwb hwa).trans (nRt_cmt (PM.deed (wd b2)) (PM.deed (wd a)))
  have hM8 := nRt_cmt_8 (PM.deed (wd a)) (PM.deed (wd b2))
  obtain ⟨M, hM⟩ : ∃ M, M = nRt (cmt (deed (wd a)) (deed (wd b2))) := ⟨_, rfl⟩
  have hMle : M ≤ 8 := hM ▸ nRt_le _
  have hadv : bst b 9 < 9 := bst_lt b 9 (Nat.le_refl 9)
  obtain ⟨av, hav⟩ : ∃ av, av = bst b 9 := ⟨_, rfl⟩
  obtain ⟨wl, hwl⟩ : ∃ wl, wl = nRt (turnC b (3 * fc + (1 + q) - 1)) := ⟨_, rfl⟩
  have hwa9 : wl ≤ nRt (turnC b av) := by rw [hwl, hav]; exact bst_max b 9 (Nat.le_refl 9) _ (by omega)
  have hw8 : wl ≤ 8 := hwl ▸ nRt_le _
  have ha9 : av < 9 := hav ▸ hadv
  have k174 : ∀ ls : Array Slot, lv_has ls 16 [(0, .ref sc), (1, .ref hx), (2, .int (nI i)), (3, .int x), (4, .int (nI a)), (5, .int (nI b2)), (8, .int (nI wl)), (9, .int (nI av)), (11, .int (nI (8 - M)))] → W p l e room_1 s m args below meth c H locs 13 134 Q (F0 m 174 ls []) := by
    intro ls hl
    refine lv_aload_n hC.1 hC.2.1 dL_law_174 rfl (lv_at hl 1 rfl) ?_
    refine lv_iload hC.1 hC.2.1 dL_law_175 (lv_at hl 5 rfl) ?_
    refine lv_iload hC.1 hC.2.1 dL_law_177 (lv_at hl 4 rfl) ?_
    refine p_cvB (n := 2) (k_mixed l hX (w := b2) (v := a) hb2 ha) hC hE hP hD hS (hX.1.1) (hX.1.2) rfl gL_law_X0_mixed rfl (by decide +kernel) rfl ⟨by decide, by decide⟩ ⟨by show _ ≤ 600130; omega, by show _ ≤ 7301080; omega⟩ hl.1 (Nat.le_of_ble_eq_true rfl) dL_law_179 rfl ?_
    refine q_i (nI (8 - M)) (congrArg (fun z => nI (8 - z)) (hmba.trans hM.symm)) ?_
    refine lv_iload hC.1 hC.2.1 dL_law_182 (lv_at hl 8 rfl) ?_
    refine z_icmp_eq (tgt := 189) hC dL_law_184 (by decide) (by omega) (by omega) (fun h_184 => ?_) (fun h_184 => absurd rfl h_184)
    refine lv_iload_n hC.1 hC.2.1 dL_law_189 rfl (lv_at hl 3 rfl) ?_
    refine lv_bipush (v := (nI 7)) hC.1 hC.2.1 dL_law_190 (by decide) ?_
    refine lv_ishr hC.1 hC.2.1 dL_law_192 ?_
    refine lv_iconst (v := (nI 4)) hC.1 hC.2.1 dL_law_193 (by decide) ?_
    refine p_cs (n := 2) (ksw) hC gL_law_L_below rfl (by decide +kernel) rfl ⟨by decide, by decide⟩ ⟨by show _ ≤ 600130; omega, by show _ ≤ 7301080; omega⟩ hl.1 (Nat.le_of_ble_eq_true rfl) dL_law_194 rfl ?_
    rcases (by omega : sw = 0 ∨ sw = 1 ∨ sw = 2 ∨ sw = 3) with rfl | rfl | rfl | rfl
    · refine lv_tableIn (off := 27) (tgt := 224) hC.1 hC.2.1 dL_law_197 (by decide) (by decide) (by decide) (by decide) ?_
      exact c_play hC hE kk ha hb2 hX hPM hTW hP hD hS (lv_sub hl [0, 1, 2, 3, 4, 5, 6, 7] rfl)
    · refine lv_tableIn (off := 66) (tgt := 263) hC.1 hC.2.1 dL_law_197 (by decide) (by decide) (by decide) (by decide) ?_
      exact c_turn hC hE kk ha hb2 hX hPM hTW hP hD hS (lv_sub hl [0, 1, 2, 3, 4, 5, 6, 7] rfl) ha9 hwa9
    · refine lv_tableIn (off := 87) (tgt := 284) hC.1 hC.2.1 dL_law_197 (by decide) (by decide) (by decide) (by decide) ?_
      exact c_reset hC hE kk ha hb2 hX hPM hTW hP hD hS (lv_sub hl [0, 1, 2, 3, 4, 5, 6, 7] rfl)
    · refine lv_tableOut (tgt := 450) hC.1 hC.2.1 dL_law_197 (by decide) (by decide) ?_
      exact c_round hC hE kk ha hb2 hX hPM hTW hP hD hS (lv_sub hl [0, 1, 2, 3, 4, 5, 6, 7] rfl)
  refine lv_iload_n hC.1 hC.2.1 dL_law_38 rfl (lv_at hl 2 rfl) ?_
  refine lv_bipush (v := (nI 12)) hC.1 hC.2.1 dL_law_39 (by decide) ?_
  refine z_icmp_ge (tgt := 647) hC dL_law_41 (by decide) (by omega) (by omega) (fun h_41 => by omega) (fun h_41 => ?_)
  refine lv_aload_n hC.1 hC.2.1 dL_law_44 rfl (lv_at hl 0 rfl) ?_
  refine lv_iload_n hC.1 hC.2.1 dL_law_45 rfl (lv_at hl 2 rfl) ?_
  refine p_csG (n := 2) (k_cell l hLn (k := i) (by omega)) sX.blind (fun U hU hW => sX.pass hxs hsz hS U hU hW) hC gL_law_L_cell rfl (by decide +kernel) rfl ⟨by decide, by decide⟩ ⟨by show _ ≤ 600130; omega, by show _ ≤ 7301080; omega⟩ hl.1 (Nat.le_of_ble_eq_true rfl) dL_law_46 rfl ?_
  refine q_i x hx9.symm ?_
  refine lv_istore_n (lv' := [(3, .int x), (0, .ref sc), (1, .ref hx), (2, .int (nI i))]) hC.1 hC.2.1 dL_law_49 rfl hl (by decide) rfl (fun ls hl => ?_)
  refine lv_iload_n hC.1 hC.2.1 dL_law_50 rfl (lv_at hl 0 rfl) ?_
  refine lv_iconst (v := (nI 2)) hC.1 hC.2.1 dL_law_51 (by decide) ?_
  refine lv_ishr hC.1 hC.2.1 dL_law_52 ?_
  refine lv_iconst (v := (nI 5)) hC.1 hC.2.1 dL_law_53 (by decide) ?_
  refine p_cs (n := 2) (ka) hC gL_law_L_below rfl (by decide +kernel) rfl ⟨by decide, by decide⟩ ⟨by show _ ≤ 600130; omega, by show _ ≤ 7301080; omega⟩ hl.1 (Nat.le_of_ble_eq_true rfl) dL_law_54 rfl ?_
  refine lv_istore (lv' := [(4, .int (nI a)), (3, .int x), (0, .ref sc), (1, .ref hx), (2, .int (nI i))]) hC.1 hC.2.1 dL_law_57 hl (by decide) rfl (fun ls hl => ?_)
  refine lv_iload_n hC.1 hC.2.1 dL_law_59 rfl (lv_at hl 1 rfl) ?_
  refine lv_iconst (v := (nI 4)) hC.1 hC.2.1 dL_law_60 (by decide) ?_
  refine lv_ishr hC.1 hC.2.1 dL_law_61 ?_
  refine lv_iconst (v := (nI 5)) hC.1 hC.2.1 dL_law_62 (by decide) ?_
  refine p_cs (n := 2) (kb2) hC gL_law_L_below rfl (by decide +kernel) rfl ⟨by decide, by decide⟩ ⟨by show _ ≤ 600130; omega, by show _ ≤ 7301080; omega⟩ hl.1 (Nat.le_of_ble_eq_true rfl) dL_law_63 rfl ?_
  refine lv_istore (lv' := [(5, .int (nI b2)), (4, .int (nI a)), (3, .int x), (0, .ref sc), (1, .ref hx), (2, .int (nI i))]) hC.1 hC.2.1 dL_law_66 hl (by decide) rfl (fun ls hl => ?_)
  refine lv_aload_n hC.1 hC.2.1 dL_law_68 rfl (lv_at hl 4 rfl) ?_
  refine p_cvB (n := 0) (k_digest l hX hOb hOw) hC hE hP hD hS (hX.1.1) (hX.1.2) rfl gL_law_X0_digest rfl (by decide +kernel) rfl ⟨by decide, by decide⟩ ⟨by show _ ≤ 600130; omega, by show _ ≤ 7301080; omega⟩ hl.1 (Nat.le_of_ble_eq_true rfl) dL_law_69 rfl ?_
  refine lv_lstore (lv' := [(6, .long (dig9 b mk wd)), (5, .int (nI b2)), (4, .int (nI a)), (3, .int x), (0, .ref sc), (1, .ref hx), (2, .int (nI i))]) hC.1 hC.2.1 dL_law_72 hl (by decide) rfl (fun ls hl => ?_)
  refine lv_aload_n hC.1 hC.2.1 dL_law_74 rfl (lv_at hl 5 rfl) ?_
  refine lv_iload_n hC.1 hC.2.1 dL_law_75 rfl (lv_at hl 3 rfl) ?_
  refine lv_iconst (v := (nI 3)) hC.1 hC.2.1 dL_law_76 (by decide) ?_
  refine p_cs (n := 2) (kfc) hC gL_law_L_below rfl (by decide +kernel) rfl ⟨by decide, by decide⟩ ⟨by show _ ≤ 600130; omega, by show _ ≤ 7301080; omega⟩ hl.1 (Nat.le_of_ble_eq_true rfl) dL_law_77 rfl ?_
  refine lv_iconst (v := (nI 1)) hC.1 hC.2.1 dL_law_80 (by decide) ?_
  refine lv_iload_n hC.1 hC.2.1 dL_law_81 rfl (lv_at hl 3 rfl) ?_
  refine lv_iconst (v := (nI 2)) hC.1 hC.2.1 dL_law_82 (by decide) ?_
  refine lv_ishr hC.1 hC.2.1 dL_law_83 ?_
  refine lv_iconst (v := (nI 3)) hC.1 hC.2.1 dL_law_84 (by decide) ?_
  refine p_cs (n := 2) (kq) hC gL_law_L_below rfl (by decide +kernel) rfl ⟨by decide, by decide⟩ ⟨by show _ ≤ 600130; omega, by show _ ≤ 7301080; omega⟩ hl.1 (Nat.le_of_ble_eq_true rfl) dL_law_85 rfl ?_
  refine z_iadd hC dL_law_88 ?_
  refine p_cvB (n := 2) (k_would l hX (fc := fc) (q := 1 + q) hfc (by omega) (by omega)) hC hE hP hD hS (hX.1.1) (hX.1.2) rfl gL_law_X0_would rfl (by decide +kernel) rfl ⟨by decide, by decide⟩ ⟨by show _ ≤ 600130; omega, by show _ ≤ 7301080; omega⟩ hl.1 (Nat.le_of_ble_eq_true rfl) dL_law_89 rfl ?_
  refine q_i (nI wl) (congrArg nI hwl.symm) ?_
  refine lv_istore (lv' := [(8, .int (nI wl)), (6, .long (dig9 b mk wd)), (5, .int (nI b2)), (4, .int (nI a)), (3, .int x), (0, .ref sc), (1, .ref hx), (2, .int (nI i))]) hC.1 hC.2.1 dL_law_92 hl (by decide) rfl (fun ls hl => ?_)
  refine lv_aload_n hC.1 hC.2.1 dL_law_94 rfl (lv_at hl 6 rfl) ?_
  refine p_cvB (n := 0) (k_advise l hX) hC hE hP hD hS (hX.1.1) (hX.1.2) rfl gL_law_X0_advise rfl (by decide +kernel) rfl ⟨by decide, by decide⟩ ⟨by show _ ≤ 600130; omega, by show _ ≤ 7301080; omega⟩ hl.1 (Nat.le_of_ble_eq_true rfl) dL_law_95 rfl ?_
  refine q_i (nI av) (congrArg nI hav.symm) ?_
  refine lv_istore (lv' := [(9, .int (nI av)), (8, .int (nI wl)), (6, .long (dig9 b mk wd)), (5, .int (nI b2)), (4, .int (nI a)), (3, .int x), (0, .ref sc), (1, .ref hx), (2, .int (nI i))]) hC.1 hC.2.1 dL_law_98 hl (by decide) rfl (fun ls hl => ?_)
  refine lv_aload_n hC.1 hC.2.1 dL_law_100 rfl (lv_at hl 7 rfl) ?_
  refine lv_iload hC.1 hC.2.1 dL_law_101 (lv_at hl 4 rfl) ?_
  refine lv_iload hC.1 hC.2.1 dL_law_103 (lv_at hl 3 rfl) ?_
  refine p_cvB (n := 2) (k_same l hX ha hb2) hC hE hP hD hS (hX.1.1) (hX.1.2) rfl gL_law_X0_same rfl (by decide +kernel) rfl ⟨by decide, by decide⟩ ⟨by show _ ≤ 600130; omega, by show _ ≤ 7301080; omega⟩ hl.1 (Nat.le_of_ble_eq_true rfl) dL_law_105 rfl ?_
  refine lv_istore (lv' := [(10, .int (nI (if enc (deed (wd a)) = enc (deed (wd b2)) then 1 else 0))), (9, .int (nI av)), (8, .int (nI wl)), (6, .long (dig9 b mk wd)), (5, .int (nI b2)), (4, .int (nI a)), (3, .int x), (0, .ref sc), (1, .ref hx), (2, .int (nI i))]) hC.1 hC.2.1 dL_law_108 hl (by decide) rfl (fun ls hl => ?_)
  refine lv_aload_n hC.1 hC.2.1 dL_law_110 rfl (lv_at hl 8 rfl) ?_
  refine lv_iload hC.1 hC.2.1 dL_law_111 (lv_at hl 5 rfl) ?_
  refine lv_iload hC.1 hC.2.1 dL_law_113 (lv_at hl 4 rfl) ?_
  refine p_cvB (n := 2) (k_mixed l hX (w := a) (v := b2) ha hb2) hC hE hP hD hS (hX.1.1) (hX.1.2) rfl gL_law_X0_mixed rfl (by decide +kernel) rfl ⟨by decide, by decide⟩ ⟨by show _ ≤ 600130; omega, by show _ ≤ 7301080; omega⟩ hl.1 (Nat.le_of_ble_eq_true rfl) dL_law_115 rfl ?_
  refine q_i (nI (8 - M)) (congrArg (fun z => nI (8 - z)) (hmab.trans hM.symm)) ?_
  refine lv_istore (lv' := [(11, .int (nI (8 - M))), (10, .int (nI (if enc (deed (wd a)) = enc (deed (wd b2)) then 1 else 0))), (9, .int (nI av)), (8, .int (nI wl)), (6, .long (dig9 b mk wd)), (5, .int (nI b2)), (4, .int (nI a)), (3, .int x), (0, .ref sc), (1, .ref hx), (2, .int (nI i))]) hC.1 hC.2.1 dL_law_118 hl (by decide) rfl (fun ls hl => ?_)
  refine lv_aload_n hC.1 hC.2.1 dL_law_120 rfl (lv_at hl 9 rfl) ?_
  refine p_cvB (n := 0) (k_digest l hX hOb hOw) hC hE hP hD hS (hX.1.1) (hX.1.2) rfl gL_law_X0_digest rfl (by decide +kernel) rfl ⟨by decide, by decide⟩ ⟨by show _ ≤ 600130; omega, by show _ ≤ 7301080; omega⟩ hl.1 (Nat.le_of_ble_eq_true rfl) dL_law_121 rfl ?_
  refine lv_lload hC.1 hC.2.1 dL_law_124 (lv_at hl 4 rfl) ?_
  refine W.lcmp hC.1 hC.2.1 dL_law_126 ?_
  refine lv_if_ne (tgt := 187) hC.1 hC.2.1 dL_law_127 (by decide) (fun h_127 => absurd (lg0.mpr rfl) h_127) (fun h_127 => ?_)
  refine lv_iload hC.1 hC.2.1 dL_law_130 (lv_at hl 1 rfl) ?_
  refine z_if_eq (tgt := 174) hC dL_law_132 (by decide) (ite_bd) (fun h_132 => ?_) (fun h_132 => ?_)
  · exact k174 _ (lv_sub hl [8, 9, 10, 7, 6, 5, 3, 2, 0] rfl)
  · have hq8 : EQ8 (deed (wd a)) (deed (wd b2)) := by
      refine enc_inj (deed_Va _).b (deed_Va _).b ?_
      by_cases h9 : enc (deed (wd a)) = enc (deed (wd b2))
      · exact h9
      · exact absurd (if_neg h9) h_132
    have hM9 : M = 8 := hM.trans (hM8 hq8)
    have hoq := ordN_cg hq8
    obtain ⟨v, kva, kvb⟩ := sh_both l (D := D) (z0 := z0) hX ha hb2 hq8
    refine lv_aload_n hC.1 hC.2.1 dL_law_135 rfl (lv_at hl 9 rfl) ?_
    refine lv_iload hC.1 hC.2.1 dL_law_136 (lv_at hl 6 rfl) ?_
    refine lv_iconst (v := (nI 1)) hC.1 hC.2.1 dL_law_138 (by decide) ?_
    refine p_cvB (n := 2) (k_word l hX (what := 1) ha hoa (by decide)) hC hE hP hD hS (hX.1.1) (hX.1.2) rfl gL_law_X0_word rfl (by decide +kernel) rfl ⟨by decide, by decide⟩ ⟨by show _ ≤ 600130; omega, by show _ ≤ 7301080; omega⟩ hl.1 (Nat.le_of_ble_eq_true rfl) dL_law_139 rfl ?_
    refine q_i (nI (ordN (deed (wd a)) + 1)) (rfl) ?_
    refine lv_aload_n hC.1 hC.2.1 dL_law_142 rfl (lv_at hl 9 rfl) ?_
    refine lv_iload hC.1 hC.2.1 dL_law_143 (lv_at hl 5 rfl) ?_
    refine lv_iconst (v := (nI 1)) hC.1 hC.2.1 dL_law_145 (by decide) ?_
    refine p_cvB (n := 2) (k_word l hX (what := 1) hb2 hob (by decide)) hC hE hP hD hS (hX.1.1) (hX.1.2) rfl gL_law_X0_word rfl (by decide +kernel) rfl ⟨by decide, by decide⟩ ⟨by show _ ≤ 600130; omega, by show _ ≤ 7301080; omega⟩ hl.1 (Nat.le_of_ble_eq_true rfl) dL_law_146 rfl ?_
    refine q_i (nI (ordN (deed (wd b2)) + 1)) (rfl) ?_
    refine z_icmp_ne (tgt := 187) hC dL_law_149 (by decide) (by omega) (by omega) (fun h_149 => by omega) (fun h_149 => ?_)
    refine lv_iload hC.1 hC.2.1 dL_law_152 (lv_at hl 0 rfl) ?_
    refine z_if_ne (tgt := 187) hC dL_law_154 (by decide) (by omega) (fun h_154 => by omega) (fun h_154 => ?_)
    refine lv_aload_n hC.1 hC.2.1 dL_law_157 rfl (lv_at hl 9 rfl) ?_
    refine lv_iload hC.1 hC.2.1 dL_law_158 (lv_at hl 6 rfl) ?_
    refine lv_iconst (v := (nI 2)) hC.1 hC.2.1 dL_law_160 (by decide) ?_
    refine p_cvB (n := 2) (kva) hC hE hP hD hS (hX.1.1) (hX.1.2) rfl gL_law_X0_shortest rfl (by decide +kernel) rfl ⟨by decide, by decide⟩ ⟨by show _ ≤ 600130; omega, by show _ ≤ 7301080; omega⟩ hl.1 (Nat.le_of_ble_eq_true rfl) dL_law_161 rfl ?_
    refine lv_aload_n hC.1 hC.2.1 dL_law_164 rfl (lv_at hl 9 rfl) ?_
    refine lv_iload hC.1 hC.2.1 dL_law_165 (lv_at hl 5 rfl) ?_
    refine lv_iconst (v := (nI 2)) hC.1 hC.2.1 dL_law_167 (by decide) ?_
    refine p_cvB (n := 2) (kvb) hC hE hP hD hS (hX.1.1) (hX.1.2) rfl gL_law_X0_shortest rfl (by decide +kernel) rfl ⟨by decide, by decide⟩ ⟨by show _ ≤ 600130; omega, by show _ ≤ 7301080; omega⟩ hl.1 (Nat.le_of_ble_eq_true rfl) dL_law_168 rfl ?_
    refine lv_icmp_ne (tgt := 187) hC.1 hC.2.1 dL_law_171 (by decide) (fun h_171 => absurd rfl h_171) (fun h_171 => ?_)
    exact k174 _ (lv_sub hl [8, 9, 10, 7, 6, 5, 3, 2, 0] rfl)

set_option maxHeartbeats 4000000 in
set_option maxRecDepth 100000 in
theorem law_loop {p : Program} {l : Launch} {e : Env} {s : State} {m : MethodId} {args : Array Value} {below : List Frame} {meth : Method} {c : Code} {Q : State → Prop} {D : va_G} {T : ClassId × ClassId × ClassId} {z0 : Nat} {hx g ln : Nat} {rw : Nat → Nat} {sc : Nat} (hC : CallFix p m c cL_law 16 s args wsL_law RL) (hE : zE D T z0 s) {Ln : Nat} {xs : Nat → Int32} (hLn : Ln ≤ 260) (hxs : va_X sc Ln xs s s.heap) (hsz : ¬ zA z0 sc) (kend : ∀ (H : Heap) (locs : List Loc) (ls : Array Slot), va_S (zA z0) s.heap H locs → W p l e room_1 s m args below meth c H locs 13 134 Q (F0 m 647 ls [])) : ∀ (n i : Nat), i + n = 12 → LGO p l e s m args below meth c Q D T z0 hx g ln rw sc i 38 := by
  intro n
  induction n with
  | zero =>
    intro i hi
    intro L f H locs b mk wd ls hX hPM hTW hP hD hS hl
    refine lv_iload_n hC.1 hC.2.1 dL_law_38 rfl (lv_at hl 2 rfl) ?_
    refine lv_bipush (v := (nI 12)) hC.1 hC.2.1 dL_law_39 (by decide) ?_
    refine z_icmp_ge (tgt := 647) hC dL_law_41 (by decide) (by omega) (by omega) (fun h_41 => ?_) (fun h_41 => by omega)
    exact kend _ _ _ hS
  | succ n ih =>
    intro i hi
    refine law_body hC hE hLn hxs hsz (by omega) ?_
    intro L f H locs b mk wd ls hX hPM hTW hP hD hS hl
    refine lv_iinc (v := nI (i + 1)) (lv' := [(2, .int (nI (i + 1))), (0, .ref sc), (1, .ref hx)]) hC.1 hC.2.1 dL_law_641 hl (k := 2) rfl (z_inc _) (by decide) rfl (fun ls hl => ?_)
    refine lv_goto (tgt := 38) hC.1 hC.2.1 dL_law_644 (by decide) ?_
    exact ih (i + 1) (by omega) _ _ _ _ _ _ _ _ hX hPM hTW hP hD hS (lv_sub hl [1, 2, 0] rfl)
