/-! MY ROWS 31: each call on both sides, by its arguments (laid by a program of mine) -/
set_option maxHeartbeats 4000000 in
theorem pr_turn (l : Launch) (hst : l.stackTraces = false) {D : va_G} {T : ClassId × ClassId × ClassId} {z0 : Nat} {L : List Nat} {f : Nat → va_E} {hx g ln : Nat} {rw : Nat → Nat} {hm rs td sz wo : Nat} {rr tr : Nat → Nat} {cu o9 : Nat} {th : Int32} {b : Nat → Nat} {mk : Int32} {wd : Nat → List Nat} {gO : Nat → Int64} (hJ : JL T L f hx g ln rw hm rs td sz wo rr tr cu o9 th b mk wd b mk wd gO) (hPM : PM b) (x y : Int32) : PAIR l D z0 T L f hx g ln rw hm rs td sz wo rr tr o9 b mk wd yL_turn wsL_turn yX1_turn wsX1_turn [.int x, .int y] okI := by
  have hX := hJ.1
  have hmo := hJ.2.2.1.1
  have heo := hJ.2.2.1.2
  have hwd := hX.2.2.2.2.2.2
  have hvb := hX.2.2.2.2.2.1
  rcases rgx x 0 2 (by decide) (by decide) with h9 | ⟨a1, ha1, ga1, rfl⟩
  · exact ⟨1, 0, nI 0, b, mk, wd, 0, 0, by decide, by decide, by decide, hPM, okI.z, (l_turnX1 l hX hmo heo (x_turn1 l hst (rg_up (by decide) h9))).mono (LJ.bad hJ (by decide)), fun cu th L2 f2 gP hJ2 => (mb_turn1 l hJ2.2.1 h9).mono (MJ.of hJ2)⟩
  rcases rgx y 1 3 (by decide) (by decide) with h9 | ⟨a2, ha2, ga2, rfl⟩
  · exact ⟨2, 0, nI 0, b, mk, wd, 0, 0, by decide, by decide, by decide, hPM, okI.z, (l_turnX2 l hX hmo heo (x_turn2 l hst (by omega) (rg_up (by decide) h9))).mono (LJ.bad hJ (by decide)), fun cu th L2 f2 gP hJ2 => (mb_turn2 l hJ2.2.1 (by omega) h9).mono (MJ.of hJ2)⟩
  exact ⟨0, _, _, turnC b (3 * a1 + a2 - 1), mk + nI 1, wd, 1, 16, by decide, by decide, by decide, hPM.turnC _, okI.r _, (l_turn l hX hmo heo (k_turn l hX (by omega) ha2 (by omega))).mono (LJ.ok hJ), fun cu th L2 f2 gP hJ2 => (mg_turn l hJ2.2.1 (by omega) ha2 (by omega)).mono (MJ.of hJ2)⟩

set_option maxHeartbeats 4000000 in
theorem pr_would (l : Launch) (hst : l.stackTraces = false) {D : va_G} {T : ClassId × ClassId × ClassId} {z0 : Nat} {L : List Nat} {f : Nat → va_E} {hx g ln : Nat} {rw : Nat → Nat} {hm rs td sz wo : Nat} {rr tr : Nat → Nat} {cu o9 : Nat} {th : Int32} {b : Nat → Nat} {mk : Int32} {wd : Nat → List Nat} {gO : Nat → Int64} (hJ : JL T L f hx g ln rw hm rs td sz wo rr tr cu o9 th b mk wd b mk wd gO) (hPM : PM b) (x y : Int32) : PAIR l D z0 T L f hx g ln rw hm rs td sz wo rr tr o9 b mk wd yL_would wsL_would yX1_would wsX1_would [.int x, .int y] okI := by
  have hX := hJ.1
  have hmo := hJ.2.2.1.1
  have heo := hJ.2.2.1.2
  have hwd := hX.2.2.2.2.2.2
  have hvb := hX.2.2.2.2.2.1
  rcases rgx x 0 2 (by decide) (by decide) with h9 | ⟨a1, ha1, ga1, rfl⟩
  · exact ⟨1, 0, nI 0, b, mk, wd, 0, 0, by decide, by decide, by decide, hPM, okI.z, (l_wouldX1 l hX hmo heo (x_would1 l hst (rg_up (by decide) h9))).mono (LJ.bad hJ (by decide)), fun cu th L2 f2 gP hJ2 => (mb_would1 l hJ2.2.1 h9).mono (MJ.of hJ2)⟩
  rcases rgx y 1 3 (by decide) (by decide) with h9 | ⟨a2, ha2, ga2, rfl⟩
  · exact ⟨2, 0, nI 0, b, mk, wd, 0, 0, by decide, by decide, by decide, hPM, okI.z, (l_wouldX2 l hX hmo heo (x_would2 l hst (by omega) (rg_up (by decide) h9))).mono (LJ.bad hJ (by decide)), fun cu th L2 f2 gP hJ2 => (mb_would2 l hJ2.2.1 (by omega) h9).mono (MJ.of hJ2)⟩
  exact ⟨0, _, _, b, mk, wd, 1, 16, by decide, by decide, by decide, hPM, okI.r _, (l_would l hX hmo heo (k_would l hX (by omega) ha2 (by omega))).mono (LJ.ok hJ), fun cu th L2 f2 gP hJ2 => (mg_would l hJ2.2.1 (by omega) ha2 (by omega)).mono (MJ.of hJ2)⟩

set_option maxHeartbeats 4000000 in
theorem pr_play (l : Launch) (hst : l.stackTraces = false) {D : va_G} {T : ClassId × ClassId × ClassId} {z0 : Nat} {L : List Nat} {f : Nat → va_E} {hx g ln : Nat} {rw : Nat → Nat} {hm rs td sz wo : Nat} {rr tr : Nat → Nat} {cu o9 : Nat} {th : Int32} {b : Nat → Nat} {mk : Int32} {wd : Nat → List Nat} {gO : Nat → Int64} (hJ : JL T L f hx g ln rw hm rs td sz wo rr tr cu o9 th b mk wd b mk wd gO) (hPM : PM b) (x y : Int32) : PAIR l D z0 T L f hx g ln rw hm rs td sz wo rr tr o9 b mk wd yL_play wsL_play yX1_play wsX1_play [.int x, .int y] okI := by
  have hX := hJ.1
  have hmo := hJ.2.2.1.1
  have heo := hJ.2.2.1.2
  have hwd := hX.2.2.2.2.2.2
  have hvb := hX.2.2.2.2.2.1
  rcases rgx x 0 4 (by decide) (by decide) with h9 | ⟨w, hw, gw, rfl⟩
  · exact ⟨1, 0, nI 0, b, mk, wd, 0, 0, by decide, by decide, by decide, hPM, okI.z, (l_playX1 l hX hmo heo (x_play1 l hst (rg_up (by decide) h9))).mono (LJ.bad hJ (by decide)), fun cu th L2 f2 gP hJ2 => (mb_play1 l hJ2.2.1 h9).mono (MJ.of hJ2)⟩
  rcases rgx y 1 50 (by decide) (by decide) with h9 | ⟨t, ht, gt, rfl⟩
  · exact ⟨2, 0, nI 0, b, mk, wd, 0, 0, by decide, by decide, by decide, hPM, okI.z, (l_playX2 l hX hmo heo (x_play2 l hst (by omega) h9)).mono (LJ.bad hJ (by decide)), fun cu th L2 f2 gP hJ2 => (mb_play2 l hJ2.2.1 (by omega) h9).mono (MJ.of hJ2)⟩
  by_cases h0 : (wd w).length = 0
  · exact ⟨3, 0, nI 0, b, mk, wd, 0, 0, by decide, by decide, by decide, hPM, okI.z, (l_playX3 l hX hmo heo (x_play3 l hst hX (by omega) ht gt h0)).mono (LJ.bad hJ (by decide)), fun cu th L2 f2 gP hJ2 => (mb_play3 l hJ2.2.1 (by omega) ht gt h0).mono (MJ.of hJ2)⟩
  exact ⟨0, _, _, plN b (wd w) t, mk + nI (t * (wd w).length), wd, 700, 11200, by decide, by decide, by decide, hPM.plN _ _, okI.r _, (l_play l hX hmo heo (k_play l hX (by omega) ht gt (Nat.pos_of_ne_zero h0))).mono (LJ.ok hJ), fun cu th L2 f2 gP hJ2 => (mg_play l hJ2.2.1 (by omega) ht gt (Nat.pos_of_ne_zero h0)).mono (MJ.of hJ2)⟩

set_option maxHeartbeats 4000000 in
theorem pr_say (l : Launch) (hst : l.stackTraces = false) {D : va_G} {T : ClassId × ClassId × ClassId} {z0 : Nat} {L : List Nat} {f : Nat → va_E} {hx g ln : Nat} {rw : Nat → Nat} {hm rs td sz wo : Nat} {rr tr : Nat → Nat} {cu o9 : Nat} {th : Int32} {b : Nat → Nat} {mk : Int32} {wd : Nat → List Nat} {gO : Nat → Int64} (hJ : JL T L f hx g ln rw hm rs td sz wo rr tr cu o9 th b mk wd b mk wd gO) (hPM : PM b) (x y z : Int32) : PAIR l D z0 T L f hx g ln rw hm rs td sz wo rr tr o9 b mk wd yL_say wsL_say yX1_say wsX1_say [.int x, .int y, .int z] okI := by
  have hX := hJ.1
  have hmo := hJ.2.2.1.1
  have heo := hJ.2.2.1.2
  have hwd := hX.2.2.2.2.2.2
  have hvb := hX.2.2.2.2.2.1
  rcases rgx x 0 4 (by decide) (by decide) with h9 | ⟨w, hw, gw, rfl⟩
  · exact ⟨1, 0, nI 0, b, mk, wd, 0, 0, by decide, by decide, by decide, hPM, okI.z, (l_sayX1 l hX hmo heo (x_say1 l hst (rg_up (by decide) h9))).mono (LJ.bad hJ (by decide)), fun cu th L2 f2 gP hJ2 => (mb_say1 l hJ2.2.1 h9).mono (MJ.of hJ2)⟩
  rcases rgx y 0 2 (by decide) (by decide) with h9 | ⟨a1, ha1, ga1, rfl⟩
  · exact ⟨1, 0, nI 0, b, mk, wd, 0, 0, by decide, by decide, by decide, hPM, okI.z, (l_sayX1 l hX hmo heo (x_say2 l hst (by omega) (rg_up (by decide) h9))).mono (LJ.bad hJ (by decide)), fun cu th L2 f2 gP hJ2 => (mb_say2 l hJ2.2.1 (by omega) h9).mono (MJ.of hJ2)⟩
  rcases rgx z 1 3 (by decide) (by decide) with h9 | ⟨a2, ha2, ga2, rfl⟩
  · exact ⟨2, 0, nI 0, b, mk, wd, 0, 0, by decide, by decide, by decide, hPM, okI.z, (l_sayX2 l hX hmo heo (x_say3 l hst (by omega) (by omega) (rg_up (by decide) h9))).mono (LJ.bad hJ (by decide)), fun cu th L2 f2 gP hJ2 => (mb_say3 l hJ2.2.1 (by omega) (by omega) h9).mono (MJ.of hJ2)⟩
  by_cases h0 : (wd w).length < 12
  · exact ⟨0, _, _, b, mk, wset wd w (wd w ++ [3 * a1 + a2 - 1]), 0, 0, by decide, by decide, by decide, hPM, okI.r _, (l_say l hX hmo heo (k_say l hX (by omega) (by omega) ha2 (by omega) h0)).mono (LJ.ok hJ), fun cu th L2 f2 gP hJ2 => (mg_say l hJ2.2.1 (by omega) (by omega) ha2 (by omega) h0).mono (MJ.of hJ2)⟩
  exact ⟨3, 0, nI 0, b, mk, wd, 0, 0, by decide, by decide, by decide, hPM, okI.z, (l_sayX3 l hX hmo heo (x_say4 l hst hX (by omega) (by omega) ha2 (by omega) h0)).mono (LJ.bad hJ (by decide)), fun cu th L2 f2 gP hJ2 => (mb_say4 l hJ2.2.1 (by omega) (by omega) ha2 (by omega) h0).mono (MJ.of hJ2)⟩

set_option maxHeartbeats 4000000 in
theorem pr_wipe (l : Launch) (hst : l.stackTraces = false) {D : va_G} {T : ClassId × ClassId × ClassId} {z0 : Nat} {L : List Nat} {f : Nat → va_E} {hx g ln : Nat} {rw : Nat → Nat} {hm rs td sz wo : Nat} {rr tr : Nat → Nat} {cu o9 : Nat} {th : Int32} {b : Nat → Nat} {mk : Int32} {wd : Nat → List Nat} {gO : Nat → Int64} (hJ : JL T L f hx g ln rw hm rs td sz wo rr tr cu o9 th b mk wd b mk wd gO) (hPM : PM b) (x : Int32) : PAIR l D z0 T L f hx g ln rw hm rs td sz wo rr tr o9 b mk wd yL_wipe wsL_wipe yX1_wipe wsX1_wipe [.int x] okI := by
  have hX := hJ.1
  have hmo := hJ.2.2.1.1
  have heo := hJ.2.2.1.2
  have hwd := hX.2.2.2.2.2.2
  have hvb := hX.2.2.2.2.2.1
  rcases rgx x 0 4 (by decide) (by decide) with h9 | ⟨w, hw, gw, rfl⟩
  · exact ⟨1, 0, nI 0, b, mk, wd, 0, 0, by decide, by decide, by decide, hPM, okI.z, (l_wipeX1 l hX hmo heo (x_wipe1 l hst (rg_up (by decide) h9))).mono (LJ.bad hJ (by decide)), fun cu th L2 f2 gP hJ2 => (mb_wipe1 l hJ2.2.1 h9).mono (MJ.of hJ2)⟩
  exact ⟨0, _, _, b, mk, wset wd w [], 0, 0, by decide, by decide, by decide, hPM, okI.r _, (l_wipe l hX hmo heo (k_wipe l hX (by omega))).mono (LJ.ok hJ), fun cu th L2 f2 gP hJ2 => (mg_wipe l hJ2.2.1 (by omega)).mono (MJ.of hJ2)⟩

set_option maxHeartbeats 4000000 in
theorem pr_round (l : Launch) (hst : l.stackTraces = false) {D : va_G} {T : ClassId × ClassId × ClassId} {z0 : Nat} {L : List Nat} {f : Nat → va_E} {hx g ln : Nat} {rw : Nat → Nat} {hm rs td sz wo : Nat} {rr tr : Nat → Nat} {cu o9 : Nat} {th : Int32} {b : Nat → Nat} {mk : Int32} {wd : Nat → List Nat} {gO : Nat → Int64} (hJ : JL T L f hx g ln rw hm rs td sz wo rr tr cu o9 th b mk wd b mk wd gO) (hPM : PM b) (x : Int32) : PAIR l D z0 T L f hx g ln rw hm rs td sz wo rr tr o9 b mk wd yL_round wsL_round yX1_round wsX1_round [.int x] okI := by
  have hX := hJ.1
  have hmo := hJ.2.2.1.1
  have heo := hJ.2.2.1.2
  have hwd := hX.2.2.2.2.2.2
  have hvb := hX.2.2.2.2.2.1
  rcases rgx x 0 4 (by decide) (by decide) with h9 | ⟨w, hw, gw, rfl⟩
  · exact ⟨1, 0, nI 0, b, mk, wd, 0, 0, by decide, by decide, by decide, hPM, okI.z, (l_roundX1 l hX hmo heo (x_round1 l hst (rg_up (by decide) h9))).mono (LJ.bad hJ (by decide)), fun cu th L2 f2 gP hJ2 => (mb_round1 l hJ2.2.1 h9).mono (MJ.of hJ2)⟩
  exact ⟨0, _, _, b, mk, wset wd w ((wd w).reverse.map tb), 1, 12, by decide, by decide, by decide, hPM, okI.r _, (l_round l hX hmo heo (k_round l hX (by omega))).mono (LJ.ok hJ), fun cu th L2 f2 gP hJ2 => (mg_round l hJ2.2.1 (by omega)).mono (MJ.of hJ2)⟩

set_option maxHeartbeats 4000000 in
theorem pr_tidy (l : Launch) (hst : l.stackTraces = false) {D : va_G} {T : ClassId × ClassId × ClassId} {z0 : Nat} {L : List Nat} {f : Nat → va_E} {hx g ln : Nat} {rw : Nat → Nat} {hm rs td sz wo : Nat} {rr tr : Nat → Nat} {cu o9 : Nat} {th : Int32} {b : Nat → Nat} {mk : Int32} {wd : Nat → List Nat} {gO : Nat → Int64} (hJ : JL T L f hx g ln rw hm rs td sz wo rr tr cu o9 th b mk wd b mk wd gO) (hPM : PM b) (x : Int32) : PAIR l D z0 T L f hx g ln rw hm rs td sz wo rr tr o9 b mk wd yL_tidy wsL_tidy yX1_tidy wsX1_tidy [.int x] okI := by
  have hX := hJ.1
  have hmo := hJ.2.2.1.1
  have heo := hJ.2.2.1.2
  have hwd := hX.2.2.2.2.2.2
  have hvb := hX.2.2.2.2.2.1
  rcases rgx x 0 4 (by decide) (by decide) with h9 | ⟨w, hw, gw, rfl⟩
  · exact ⟨1, 0, nI 0, b, mk, wd, 0, 0, by decide, by decide, by decide, hPM, okI.z, (l_tidyX1 l hX hmo heo (x_tidy1 l hst (rg_up (by decide) h9))).mono (LJ.bad hJ (by decide)), fun cu th L2 f2 gP hJ2 => (mb_tidy1 l hJ2.2.1 h9).mono (MJ.of hJ2)⟩
  exact ⟨0, _, _, b, mk, wset wd w (tdN (wd w) (wd w).length), 1, 12, by decide, by decide, by decide, hPM, okI.r _, (l_tidy l hX hmo heo (k_tidy l hX (by omega))).mono (LJ.ok hJ), fun cu th L2 f2 gP hJ2 => (mg_tidy l hJ2.2.1 (by omega)).mono (MJ.of hJ2)⟩

set_option maxHeartbeats 4000000 in
theorem pr_join (l : Launch) (hst : l.stackTraces = false) {D : va_G} {T : ClassId × ClassId × ClassId} {z0 : Nat} {L : List Nat} {f : Nat → va_E} {hx g ln : Nat} {rw : Nat → Nat} {hm rs td sz wo : Nat} {rr tr : Nat → Nat} {cu o9 : Nat} {th : Int32} {b : Nat → Nat} {mk : Int32} {wd : Nat → List Nat} {gO : Nat → Int64} (hJ : JL T L f hx g ln rw hm rs td sz wo rr tr cu o9 th b mk wd b mk wd gO) (hPM : PM b) (x y : Int32) : PAIR l D z0 T L f hx g ln rw hm rs td sz wo rr tr o9 b mk wd yL_join wsL_join yX1_join wsX1_join [.int x, .int y] okI := by
  have hX := hJ.1
  have hmo := hJ.2.2.1.1
  have heo := hJ.2.2.1.2
  have hwd := hX.2.2.2.2.2.2
  have hvb := hX.2.2.2.2.2.1
  rcases rgx x 0 4 (by decide) (by decide) with h9 | ⟨w, hw, gw, rfl⟩
  · exact ⟨1, 0, nI 0, b, mk, wd, 0, 0, by decide, by decide, by decide, hPM, okI.z, (l_joinX1 l hX hmo heo (x_join1 l hst (rg_up (by decide) h9))).mono (LJ.bad hJ (by decide)), fun cu th L2 f2 gP hJ2 => (mb_join1 l hJ2.2.1 h9).mono (MJ.of hJ2)⟩
  rcases rgx y 0 4 (by decide) (by decide) with h9 | ⟨v, hv, gv, rfl⟩
  · exact ⟨1, 0, nI 0, b, mk, wd, 0, 0, by decide, by decide, by decide, hPM, okI.z, (l_joinX1 l hX hmo heo (x_join2 l hst (by omega) (rg_up (by decide) h9))).mono (LJ.bad hJ (by decide)), fun cu th L2 f2 gP hJ2 => (mb_join2 l hJ2.2.1 (by omega) h9).mono (MJ.of hJ2)⟩
  by_cases h0 : (wd w).length + (wd v).length ≤ 12
  · exact ⟨0, _, _, b, mk, wset wd w (wd w ++ wd v), 0, 0, by decide, by decide, by decide, hPM, okI.r _, (l_join l hX hmo heo (k_join l hX (by omega) (by omega) h0)).mono (LJ.ok hJ), fun cu th L2 f2 gP hJ2 => (mg_join l hJ2.2.1 (by omega) (by omega) h0).mono (MJ.of hJ2)⟩
  exact ⟨2, 0, nI 0, b, mk, wd, 0, 0, by decide, by decide, by decide, hPM, okI.z, (l_joinX2 l hX hmo heo (x_join3 l hst hX (by omega) (by omega) (Nat.lt_of_not_le h0))).mono (LJ.bad hJ (by decide)), fun cu th L2 f2 gP hJ2 => (mb_join3 l hJ2.2.1 (by omega) (by omega) (Nat.lt_of_not_le h0)).mono (MJ.of hJ2)⟩

set_option maxHeartbeats 4000000 in
theorem pr_told (l : Launch) (hst : l.stackTraces = false) {D : va_G} {T : ClassId × ClassId × ClassId} {z0 : Nat} {L : List Nat} {f : Nat → va_E} {hx g ln : Nat} {rw : Nat → Nat} {hm rs td sz wo : Nat} {rr tr : Nat → Nat} {cu o9 : Nat} {th : Int32} {b : Nat → Nat} {mk : Int32} {wd : Nat → List Nat} {gO : Nat → Int64} (hJ : JL T L f hx g ln rw hm rs td sz wo rr tr cu o9 th b mk wd b mk wd gO) (hPM : PM b) (x y : Int32) : PAIR l D z0 T L f hx g ln rw hm rs td sz wo rr tr o9 b mk wd yL_told wsL_told yX1_told wsX1_told [.int x, .int y] okI := by
  have hX := hJ.1
  have hmo := hJ.2.2.1.1
  have heo := hJ.2.2.1.2
  have hwd := hX.2.2.2.2.2.2
  have hvb := hX.2.2.2.2.2.1
  rcases rgx x 0 7 (by decide) (by decide) with h9 | ⟨q, hq, gq, rfl⟩
  · exact ⟨1, 0, nI 0, b, mk, wd, 0, 0, by decide, by decide, by decide, hPM, okI.z, (l_toldX1 l hX hmo heo (x_told1 l hst (rg_up (by decide) h9))).mono (LJ.bad hJ (by decide)), fun cu th L2 f2 gP hJ2 => (mb_told1 l hJ2.2.1 h9).mono (MJ.of hJ2)⟩
  rcases rgx y 0 2 (by decide) (by decide) with h9 | ⟨v, hv, gv, rfl⟩
  · exact ⟨1, 0, nI 0, b, mk, wd, 0, 0, by decide, by decide, by decide, hPM, okI.z, (l_toldX1 l hX hmo heo (x_told2 l hst (by omega) (rg_up (by decide) h9))).mono (LJ.bad hJ (by decide)), fun cu th L2 f2 gP hJ2 => (mb_told2 l hJ2.2.1 (by omega) h9).mono (MJ.of hJ2)⟩
  exact ⟨0, _, _, b, mk, wd, 0, 0, by decide, by decide, by decide, hPM, okI.r _, (l_told l hX hmo heo (k_told l hX (by omega) (by omega))).mono (LJ.ok hJ), fun cu th L2 f2 gP hJ2 => (mg_told l hJ2.2.1 (by omega) (by omega)).mono (MJ.of hJ2)⟩

set_option maxHeartbeats 4000000 in
theorem pr_where (l : Launch) (hst : l.stackTraces = false) {D : va_G} {T : ClassId × ClassId × ClassId} {z0 : Nat} {L : List Nat} {f : Nat → va_E} {hx g ln : Nat} {rw : Nat → Nat} {hm rs td sz wo : Nat} {rr tr : Nat → Nat} {cu o9 : Nat} {th : Int32} {b : Nat → Nat} {mk : Int32} {wd : Nat → List Nat} {gO : Nat → Int64} (hJ : JL T L f hx g ln rw hm rs td sz wo rr tr cu o9 th b mk wd b mk wd gO) (hPM : PM b) (x : Int32) : PAIR l D z0 T L f hx g ln rw hm rs td sz wo rr tr o9 b mk wd yL_where wsL_where yX1_where wsX1_where [.int x] okI := by
  have hX := hJ.1
  have hmo := hJ.2.2.1.1
  have heo := hJ.2.2.1.2
  have hwd := hX.2.2.2.2.2.2
  have hvb := hX.2.2.2.2.2.1
  rcases rgx x 0 7 (by decide) (by decide) with h9 | ⟨v, hv, gv, rfl⟩
  · exact ⟨1, 0, nI 0, b, mk, wd, 0, 0, by decide, by decide, by decide, hPM, okI.z, (l_whereX1 l hX hmo heo (x_where1 l hst (rg_up (by decide) h9))).mono (LJ.bad hJ (by decide)), fun cu th L2 f2 gP hJ2 => (mb_where1 l hJ2.2.1 h9).mono (MJ.of hJ2)⟩
  obtain ⟨q1, q2, q3⟩ := iv_spec hPM (show v < 8 by omega)
  exact ⟨0, _, _, b, mk, wd, 1, 16, by decide, by decide, by decide, hPM, okI.r _, (l_where l hX hmo heo (k_where l hX (by omega) q1 q2 q3)).mono (LJ.ok hJ), fun cu th L2 f2 gP hJ2 => (mg_where l hJ2.2.1 (by omega)).mono (MJ.of hJ2)⟩

set_option maxHeartbeats 4000000 in
theorem pr_count (l : Launch) (hst : l.stackTraces = false) {D : va_G} {T : ClassId × ClassId × ClassId} {z0 : Nat} {L : List Nat} {f : Nat → va_E} {hx g ln : Nat} {rw : Nat → Nat} {hm rs td sz wo : Nat} {rr tr : Nat → Nat} {cu o9 : Nat} {th : Int32} {b : Nat → Nat} {mk : Int32} {wd : Nat → List Nat} {gO : Nat → Int64} (hJ : JL T L f hx g ln rw hm rs td sz wo rr tr cu o9 th b mk wd b mk wd gO) (hPM : PM b) (x : Int32) : PAIR l D z0 T L f hx g ln rw hm rs td sz wo rr tr o9 b mk wd yL_count wsL_count yX1_count wsX1_count [.int x] okI := by
  have hX := hJ.1
  have hmo := hJ.2.2.1.1
  have heo := hJ.2.2.1.2
  have hwd := hX.2.2.2.2.2.2
  have hvb := hX.2.2.2.2.2.1
  rcases rgx x 0 6 (by decide) (by decide) with h9 | ⟨v, hv, gv, rfl⟩
  · exact ⟨1, 0, nI 0, b, mk, wd, 0, 0, by decide, by decide, by decide, hPM, okI.z, (l_countX1 l hX hmo heo (x_count1 l hst (rg_up (by decide) h9))).mono (LJ.bad hJ (by decide)), fun cu th L2 f2 gP hJ2 => (mb_count1 l hJ2.2.1 h9).mono (MJ.of hJ2)⟩
  exact ⟨0, _, _, b, mk, wd, 0, 0, by decide, by decide, by decide, hPM, okI.r _, (l_count l hX hmo heo (k_count l hX hPM.gb2.2.2.2.2 (by omega))).mono (LJ.ok hJ), fun cu th L2 f2 gP hJ2 => (mg_count l hJ2.2.1 hPM.gb2 (by omega)).mono (MJ.of hJ2)⟩

set_option maxHeartbeats 4000000 in
theorem pr_word (l : Launch) (hst : l.stackTraces = false) {D : va_G} {T : ClassId × ClassId × ClassId} {z0 : Nat} {L : List Nat} {f : Nat → va_E} {hx g ln : Nat} {rw : Nat → Nat} {hm rs td sz wo : Nat} {rr tr : Nat → Nat} {cu o9 : Nat} {th : Int32} {b : Nat → Nat} {mk : Int32} {wd : Nat → List Nat} {gO : Nat → Int64} (hJ : JL T L f hx g ln rw hm rs td sz wo rr tr cu o9 th b mk wd b mk wd gO) (hPM : PM b) (x y : Int32) : PAIR l D z0 T L f hx g ln rw hm rs td sz wo rr tr o9 b mk wd yL_word wsL_word yX1_word wsX1_word [.int x, .int y] okI := by
  have hX := hJ.1
  have hmo := hJ.2.2.1.1
  have heo := hJ.2.2.1.2
  have hwd := hX.2.2.2.2.2.2
  have hvb := hX.2.2.2.2.2.1
  rcases rgx x 0 4 (by decide) (by decide) with h9 | ⟨w, hw, gw, rfl⟩
  · exact ⟨1, 0, nI 0, b, mk, wd, 0, 0, by decide, by decide, by decide, hPM, okI.z, (l_wordX1 l hX hmo heo (x_word1 l hst (rg_up (by decide) h9))).mono (LJ.bad hJ (by decide)), fun cu th L2 f2 gP hJ2 => (mb_word1 l hJ2.2.1 h9).mono (MJ.of hJ2)⟩
  rcases rgx y 0 3 (by decide) (by decide) with h9 | ⟨v, hv, gv, rfl⟩
  · exact ⟨1, 0, nI 0, b, mk, wd, 0, 0, by decide, by decide, by decide, hPM, okI.z, (l_wordX1 l hX hmo heo (x_word2 l hst (by omega) (rg_up (by decide) h9))).mono (LJ.bad hJ (by decide)), fun cu th L2 f2 gP hJ2 => (mb_word2 l hJ2.2.1 (by omega) h9).mono (MJ.of hJ2)⟩
  exact ⟨0, _, _, b, mk, wd, 13, 208, by decide, by decide, by decide, hPM, okI.r _, (l_word l hX hmo heo (k_word l hX (by omega) (PM.deed (wd w)).gb2.2.2.2.2 (by omega))).mono (LJ.ok hJ), fun cu th L2 f2 gP hJ2 => (mg_word l hJ2.2.1 (by omega) (PM.deed (wd w)).gb2 (by omega)).mono (MJ.of hJ2)⟩

set_option maxHeartbeats 4000000 in
theorem pr_at (l : Launch) (hst : l.stackTraces = false) {D : va_G} {T : ClassId × ClassId × ClassId} {z0 : Nat} {L : List Nat} {f : Nat → va_E} {hx g ln : Nat} {rw : Nat → Nat} {hm rs td sz wo : Nat} {rr tr : Nat → Nat} {cu o9 : Nat} {th : Int32} {b : Nat → Nat} {mk : Int32} {wd : Nat → List Nat} {gO : Nat → Int64} (hJ : JL T L f hx g ln rw hm rs td sz wo rr tr cu o9 th b mk wd b mk wd gO) (hPM : PM b) (x y : Int32) : PAIR l D z0 T L f hx g ln rw hm rs td sz wo rr tr o9 b mk wd yL_at wsL_at yX1_at wsX1_at [.int x, .int y] okI := by
  have hX := hJ.1
  have hmo := hJ.2.2.1.1
  have heo := hJ.2.2.1.2
  have hwd := hX.2.2.2.2.2.2
  have hvb := hX.2.2.2.2.2.1
  rcases rgx x 0 4 (by decide) (by decide) with h9 | ⟨w, hw, gw, rfl⟩
  · exact ⟨1, 0, nI 0, b, mk, wd, 0, 0, by decide, by decide, by decide, hPM, okI.z, (l_atX1 l hX hmo heo (x_at1 l hst (rg_up (by decide) h9))).mono (LJ.bad hJ (by decide)), fun cu th L2 f2 gP hJ2 => (mb_at1 l hJ2.2.1 h9).mono (MJ.of hJ2)⟩
  have h12 := (hwd w (by omega)).1
  rcases rg_at y (n := (wd w).length) (by omega) with ⟨q1, q2⟩ | ⟨k, hk, rfl⟩
  · exact ⟨1, 0, nI 0, b, mk, wd, 0, 0, by decide, by decide, by decide, hPM, okI.z, (l_atX1 l hX hmo heo (x_at2 l hst hX (by omega) q1)).mono (LJ.bad hJ (by decide)), fun cu th L2 f2 gP hJ2 => (mb_at2 l hJ2.2.1 (by omega) q2).mono (MJ.of hJ2)⟩
  exact ⟨0, _, _, b, mk, wd, 0, 0, by decide, by decide, by decide, hPM, okI.r _, (l_at l hX hmo heo (k_at l hX (by omega) hk)).mono (LJ.ok hJ), fun cu th L2 f2 gP hJ2 => (mg_at l hJ2.2.1 (by omega) hk).mono (MJ.of hJ2)⟩

set_option maxHeartbeats 4000000 in
theorem pr_same (l : Launch) (hst : l.stackTraces = false) {D : va_G} {T : ClassId × ClassId × ClassId} {z0 : Nat} {L : List Nat} {f : Nat → va_E} {hx g ln : Nat} {rw : Nat → Nat} {hm rs td sz wo : Nat} {rr tr : Nat → Nat} {cu o9 : Nat} {th : Int32} {b : Nat → Nat} {mk : Int32} {wd : Nat → List Nat} {gO : Nat → Int64} (hJ : JL T L f hx g ln rw hm rs td sz wo rr tr cu o9 th b mk wd b mk wd gO) (hPM : PM b) (x y : Int32) : PAIR l D z0 T L f hx g ln rw hm rs td sz wo rr tr o9 b mk wd yL_same wsL_same yX1_same wsX1_same [.int x, .int y] okZ := by
  have hX := hJ.1
  have hmo := hJ.2.2.1.1
  have heo := hJ.2.2.1.2
  have hwd := hX.2.2.2.2.2.2
  have hvb := hX.2.2.2.2.2.1
  rcases rgx x 0 4 (by decide) (by decide) with h9 | ⟨w, hw, gw, rfl⟩
  · exact ⟨1, 0, nI 0, b, mk, wd, 0, 0, by decide, by decide, by decide, hPM, okZ.z, (l_sameX1 l hX hmo heo (x_same1 l hst (rg_up (by decide) h9))).mono (LJ.bad hJ (by decide)), fun cu th L2 f2 gP hJ2 => (mb_same1 l hJ2.2.1 h9).mono (MJ.of hJ2)⟩
  rcases rgx y 0 4 (by decide) (by decide) with h9 | ⟨v, hv, gv, rfl⟩
  · exact ⟨1, 0, nI 0, b, mk, wd, 0, 0, by decide, by decide, by decide, hPM, okZ.z, (l_sameX1 l hX hmo heo (x_same2 l hst (by omega) (rg_up (by decide) h9))).mono (LJ.bad hJ (by decide)), fun cu th L2 f2 gP hJ2 => (mb_same2 l hJ2.2.1 (by omega) h9).mono (MJ.of hJ2)⟩
  have e9 : (if nRt (comp (deed (wd w)) (iv (deed (wd v)))) = 8 then 1 else 0 : Nat) = (if enc (deed (wd w)) = enc (deed (wd v)) then 1 else 0 : Nat) := by simp only [same_iff (deed_Va (wd w)) (PM.deed (wd v))]
  have h2 : (if enc (deed (wd w)) = enc (deed (wd v)) then 1 else 0 : Nat) < 2 := by split <;> decide
  exact ⟨0, _, nI (if enc (deed (wd w)) = enc (deed (wd v)) then 1 else 0 : Nat), b, mk, wd, 28, 448, by decide, by decide, by decide, hPM, ⟨_, h2, rfl, rfl⟩, (l_same l hX hmo heo h2 (k_same l hX (by omega) (by omega))).mono (LJ.ok hJ), fun cu th L2 f2 gP hJ2 => ((show _ from (e9 ▸ mg_same l hJ2.2.1 (w := w) (v := v) (by omega) (by omega)))).mono (MJ.of hJ2)⟩

set_option maxHeartbeats 4000000 in
theorem pr_mixed (l : Launch) (hst : l.stackTraces = false) {D : va_G} {T : ClassId × ClassId × ClassId} {z0 : Nat} {L : List Nat} {f : Nat → va_E} {hx g ln : Nat} {rw : Nat → Nat} {hm rs td sz wo : Nat} {rr tr : Nat → Nat} {cu o9 : Nat} {th : Int32} {b : Nat → Nat} {mk : Int32} {wd : Nat → List Nat} {gO : Nat → Int64} (hJ : JL T L f hx g ln rw hm rs td sz wo rr tr cu o9 th b mk wd b mk wd gO) (hPM : PM b) (x y : Int32) : PAIR l D z0 T L f hx g ln rw hm rs td sz wo rr tr o9 b mk wd yL_mixed wsL_mixed yX1_mixed wsX1_mixed [.int x, .int y] okI := by
  have hX := hJ.1
  have hmo := hJ.2.2.1.1
  have heo := hJ.2.2.1.2
  have hwd := hX.2.2.2.2.2.2
  have hvb := hX.2.2.2.2.2.1
  rcases rgx x 0 4 (by decide) (by decide) with h9 | ⟨w, hw, gw, rfl⟩
  · exact ⟨1, 0, nI 0, b, mk, wd, 0, 0, by decide, by decide, by decide, hPM, okI.z, (l_mixedX1 l hX hmo heo (x_mixed1 l hst (rg_up (by decide) h9))).mono (LJ.bad hJ (by decide)), fun cu th L2 f2 gP hJ2 => (mb_mixed1 l hJ2.2.1 h9).mono (MJ.of hJ2)⟩
  rcases rgx y 0 4 (by decide) (by decide) with h9 | ⟨v, hv, gv, rfl⟩
  · exact ⟨1, 0, nI 0, b, mk, wd, 0, 0, by decide, by decide, by decide, hPM, okI.z, (l_mixedX1 l hX hmo heo (x_mixed2 l hst (by omega) (rg_up (by decide) h9))).mono (LJ.bad hJ (by decide)), fun cu th L2 f2 gP hJ2 => (mb_mixed2 l hJ2.2.1 (by omega) h9).mono (MJ.of hJ2)⟩
  have e9 := mixed_eq (hwd w (by omega)).2 (hwd v (by omega)).2
  have hk9 := k_mixed l (D := D) (z0 := z0) hX (w := w) (v := v) (by omega) (by omega)
  rw [e9] at hk9
  exact ⟨0, _, _, b, mk, wd, 31, 496, by decide, by decide, by decide, hPM, okI.r _, (l_mixed l hX hmo heo (hk9)).mono (LJ.ok hJ), fun cu th L2 f2 gP hJ2 => (mg_mixed l hJ2.2.1 (by omega) (by omega)).mono (MJ.of hJ2)⟩

set_option maxHeartbeats 4000000 in
theorem pr_far (l : Launch) (hst : l.stackTraces = false) {D : va_G} {T : ClassId × ClassId × ClassId} {z0 : Nat} {L : List Nat} {f : Nat → va_E} {hx g ln : Nat} {rw : Nat → Nat} {hm rs td sz wo : Nat} {rr tr : Nat → Nat} {cu o9 : Nat} {th : Int32} {b : Nat → Nat} {mk : Int32} {wd : Nat → List Nat} {gO : Nat → Int64} (hJ : JL T L f hx g ln rw hm rs td sz wo rr tr cu o9 th b mk wd b mk wd gO) (hPM : PM b) (x : Int32) : PAIR l D z0 T L f hx g ln rw hm rs td sz wo rr tr o9 b mk wd yL_far wsL_far yX1_far wsX1_far [.int x] okI := by
  have hX := hJ.1
  have hmo := hJ.2.2.1.1
  have heo := hJ.2.2.1.2
  have hwd := hX.2.2.2.2.2.2
  have hvb := hX.2.2.2.2.2.1
  rcases rgx x 0 5 (by decide) (by decide) with h9 | ⟨m, hm, gm, rfl⟩
  · exact ⟨1, 0, nI 0, b, mk, wd, 0, 0, by decide, by decide, by decide, hPM, okI.z, (l_farX1 l hX hmo heo (x_far1 l hst h9)).mono (LJ.bad hJ (by decide)), fun cu th L2 f2 gP hJ2 => (mb_far1 l hJ2.2.1 h9).mono (MJ.of hJ2)⟩
  rcases cm_far hvb m (lf := 3) with ⟨c1, c2⟩ | ⟨N, hN, ⟨c1, c2⟩, w1, w2⟩
  · exact ⟨0, _, _, b, mk, wd, 0, 0, by decide, by decide, by decide, hPM, okI.r _, (l_far l hX hmo heo (k_farN l hX gm c2)).mono (LJ.ok hJ), fun cu th L2 f2 gP hJ2 => (mg_farN l hJ2.2.1 gm c1).mono (MJ.of hJ2)⟩
  · exact ⟨0, _, _, b, mk, wd, 0, 0, by decide, by decide, by decide, hPM, okI.r _, (l_far l hX hmo heo (k_far l hX gm hN w2 w1)).mono (LJ.ok hJ), fun cu th L2 f2 gP hJ2 => (mg_far l hJ2.2.1 gm hN c2 c1).mono (MJ.of hJ2)⟩

set_option maxHeartbeats 4000000 in
theorem pr_shortest (l : Launch) (hst : l.stackTraces = false) {D : va_G} {T : ClassId × ClassId × ClassId} {z0 : Nat} {L : List Nat} {f : Nat → va_E} {hx g ln : Nat} {rw : Nat → Nat} {hm rs td sz wo : Nat} {rr tr : Nat → Nat} {cu o9 : Nat} {th : Int32} {b : Nat → Nat} {mk : Int32} {wd : Nat → List Nat} {gO : Nat → Int64} (hJ : JL T L f hx g ln rw hm rs td sz wo rr tr cu o9 th b mk wd b mk wd gO) (hPM : PM b) (x y : Int32) : PAIR l D z0 T L f hx g ln rw hm rs td sz wo rr tr o9 b mk wd yL_shortest wsL_shortest yX1_shortest wsX1_shortest [.int x, .int y] okI := by
  have hX := hJ.1
  have hmo := hJ.2.2.1.1
  have heo := hJ.2.2.1.2
  have hwd := hX.2.2.2.2.2.2
  have hvb := hX.2.2.2.2.2.1
  rcases rgx x 0 4 (by decide) (by decide) with h9 | ⟨w, hw, gw, rfl⟩
  · exact ⟨1, 0, nI 0, b, mk, wd, 0, 0, by decide, by decide, by decide, hPM, okI.z, (l_shortestX1 l hX hmo heo (x_shortest1 l hst (rg_up (by decide) h9))).mono (LJ.bad hJ (by decide)), fun cu th L2 f2 gP hJ2 => (mb_shortest1 l hJ2.2.1 h9).mono (MJ.of hJ2)⟩
  rcases rgx y 0 5 (by decide) (by decide) with h9 | ⟨m, hm, gm, rfl⟩
  · exact ⟨2, 0, nI 0, b, mk, wd, 0, 0, by decide, by decide, by decide, hPM, okI.z, (l_shortestX2 l hX hmo heo (x_shortest2 l hst (by omega) h9)).mono (LJ.bad hJ (by decide)), fun cu th L2 f2 gP hJ2 => (mb_shortest2 l hJ2.2.1 (by omega) h9).mono (MJ.of hJ2)⟩
  rcases cm_far (deed_Va (wd w)) m (lf := 3) with ⟨c1, c2⟩ | ⟨N, hN, ⟨c1, c2⟩, w1, w2⟩
  · exact ⟨0, _, _, b, mk, wd, 13, 208, by decide, by decide, by decide, hPM, okI.r _, (l_shortest l hX hmo heo (k_shortestN l hX (by omega) gm c2)).mono (LJ.ok hJ), fun cu th L2 f2 gP hJ2 => (mg_shortestN l hJ2.2.1 (by omega) gm c1).mono (MJ.of hJ2)⟩
  · exact ⟨0, _, _, b, mk, wd, 13, 208, by decide, by decide, by decide, hPM, okI.r _, (l_shortest l hX hmo heo (k_shortest l hX (by omega) gm hN w2 w1)).mono (LJ.ok hJ), fun cu th L2 f2 gP hJ2 => (mg_shortest l hJ2.2.1 (by omega) gm hN c2 c1).mono (MJ.of hJ2)⟩

set_option maxHeartbeats 4000000 in
theorem pr_first (l : Launch) (hst : l.stackTraces = false) {D : va_G} {T : ClassId × ClassId × ClassId} {z0 : Nat} {L : List Nat} {f : Nat → va_E} {hx g ln : Nat} {rw : Nat → Nat} {hm rs td sz wo : Nat} {rr tr : Nat → Nat} {cu o9 : Nat} {th : Int32} {b : Nat → Nat} {mk : Int32} {wd : Nat → List Nat} {gO : Nat → Int64} (hJ : JL T L f hx g ln rw hm rs td sz wo rr tr cu o9 th b mk wd b mk wd gO) (hPM : PM b) (x : Int32) : PAIR l D z0 T L f hx g ln rw hm rs td sz wo rr tr o9 b mk wd yL_first wsL_first yX1_first wsX1_first [.int x] okI := by
  have hX := hJ.1
  have hmo := hJ.2.2.1.1
  have heo := hJ.2.2.1.2
  have hwd := hX.2.2.2.2.2.2
  have hvb := hX.2.2.2.2.2.1
  rcases rgx x 0 5 (by decide) (by decide) with h9 | ⟨m, hm, gm, rfl⟩
  · exact ⟨1, 0, nI 0, b, mk, wd, 0, 0, by decide, by decide, by decide, hPM, okI.z, (l_firstX1 l hX hmo heo (x_first1 l hst h9)).mono (LJ.bad hJ (by decide)), fun cu th L2 f2 gP hJ2 => (mb_first1 l hJ2.2.1 h9).mono (MJ.of hJ2)⟩
  rcases cm_far hvb m (lf := 3) with ⟨c1, c2⟩ | ⟨N, hN, ⟨c1, c2⟩, w1, w2⟩
  · exact ⟨0, _, _, b, mk, wd, 0, 0, by decide, by decide, by decide, hPM, okI.r _, (l_first l hX hmo heo (k_firstN l hX gm c2)).mono (LJ.ok hJ), fun cu th L2 f2 gP hJ2 => (mg_firstN l hJ2.2.1 gm c1).mono (MJ.of hJ2)⟩
  by_cases h0 : N = 0
  · subst h0; exact ⟨0, _, _, b, mk, wd, 0, 0, by decide, by decide, by decide, hPM, okI.r _, (l_first l hX hmo heo (k_first0 l hX gm w1)).mono (LJ.ok hJ), fun cu th L2 f2 gP hJ2 => (mg_first0 l hJ2.2.1 gm c1).mono (MJ.of hJ2)⟩
  obtain ⟨F, hF, q1, q2, q3⟩ := cm_first (Nat.pos_of_ne_zero h0) c1 c2
  exact ⟨0, _, _, b, mk, wd, 9, 144, by decide, by decide, by decide, hPM, okI.r _, (l_first l hX hmo heo (k_first l hX gm hN (Nat.pos_of_ne_zero h0) w2 w1 hF (fun t ht => (q1 t ht).2) q3)).mono (LJ.ok hJ), fun cu th L2 f2 gP hJ2 => (mg_first l hJ2.2.1 gm hN (Nat.pos_of_ne_zero h0) c2 c1 hF (fun t ht => (q1 t ht).1) q2).mono (MJ.of hJ2)⟩
