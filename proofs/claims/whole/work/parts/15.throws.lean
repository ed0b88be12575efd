/-! MY ROWS 15: the class's methods where they throw (laid by a program of mine) -/
theorem x_lo {x : Int32} {n : Nat} (h : x < 0 ∨ nI n ≤ x) (h1 : ¬ x < 0) (h2 : x < nI n) : False := by
  rcases h with h | h
  · exact h1 h
  · exact absurd h2 (Int32.not_lt.mpr h)
theorem x_hi {x : Int32} {n : Nat} (h : x < 0 ∨ nI n < x) (h1 : ¬ x < 0) (h2 : x ≤ nI n) : False := by
  rcases h with h | h
  · exact h1 h
  · exact absurd h2 (Int32.not_le.mpr h)
theorem x_lo1 {x : Int32} {n : Nat} (h : x < nI 1 ∨ nI n ≤ x) (h1 : ¬ x < nI 1) (h2 : x < nI n) : False := by
  rcases h with h | h
  · exact h1 h
  · exact absurd h2 (Int32.not_lt.mpr h)
theorem x_hi1 {x : Int32} {n : Nat} (h : x < nI 1 ∨ nI n < x) (h1 : ¬ x < nI 1) (h2 : x ≤ nI n) : False := by
  rcases h with h | h
  · exact h1 h
  · exact absurd h2 (Int32.not_le.mpr h)

set_option maxHeartbeats 4000000 in
set_option maxRecDepth 100000 in
theorem x_checkFace (l : Launch) (hst : l.stackTraces = false) {D : va_G} {T : ClassId × ClassId × ClassId} {z0 : Nat} {L : List Nat} {f : Nat → va_E} {x : Int32} (hx9 : x < 0 ∨ nI 3 ≤ x) : MX l yX0_checkFace wsX0_checkFace 6 D z0 (zPreX D T z0 L f) L f [.int x] exI := by
  refine MX.of (cc := cX0_checkFace) (maxL := 1) (ret := none) (by decide) rfl (Nat.le_of_ble_eq_true rfl) ?_
  intro p e s m args below meth c hC hlk hno hB ls hl
  have hl : lv_has ls 1 [(0, .int x)] := hl
  obtain ⟨⟨hE, hP, hD⟩, hXw⟩ := hB
  have hS : va_S (zA z0) s.heap s.heap [] := va_S.rf
  refine lv_iload_n hC.1 hC.2.1 dX0_checkFace_0 rfl (lv_at hl 0 rfl) ?_
  refine lv_if_lt (tgt := 9) hC.1 hC.2.1 dX0_checkFace_1 (by decide) (fun h_1 => ?_) (fun h_1 => ?_)
  · exact x_throw (cls := exI) (text := "face is not 0 to 2") (ik := 98) (is := 156) (ic := 102) hC hst hE hXw hP hD hS hlk hno hXw.1 (by decide) (by decide +kernel) (by decide +kernel) (by decide +kernel) (by decide +kernel) (by decide +kernel) (by decide +kernel) hl.1 dX0_checkFace_9 dX0_checkFace_12 dX0_checkFace_13 dX0_checkFace_15 dX0_checkFace_18 (by decide)
  · refine lv_iload_n hC.1 hC.2.1 dX0_checkFace_4 rfl (lv_at hl 0 rfl) ?_
    refine lv_iconst (v := (nI 3)) hC.1 hC.2.1 dX0_checkFace_5 (by decide) ?_
    refine lv_icmp_lt (tgt := 19) hC.1 hC.2.1 dX0_checkFace_6 (by decide) (fun h_6 => (x_lo hx9 h_1 h_6).elim) (fun h_6 => ?_)
    exact x_throw (cls := exI) (text := "face is not 0 to 2") (ik := 98) (is := 156) (ic := 102) hC hst hE hXw hP hD hS hlk hno hXw.1 (by decide) (by decide +kernel) (by decide +kernel) (by decide +kernel) (by decide +kernel) (by decide +kernel) (by decide +kernel) hl.1 dX0_checkFace_9 dX0_checkFace_12 dX0_checkFace_13 dX0_checkFace_15 dX0_checkFace_18 (by decide)

set_option maxHeartbeats 4000000 in
set_option maxRecDepth 100000 in
theorem x_checkWord (l : Launch) (hst : l.stackTraces = false) {D : va_G} {T : ClassId × ClassId × ClassId} {z0 : Nat} {L : List Nat} {f : Nat → va_E} {x : Int32} (hx9 : x < 0 ∨ nI 5 ≤ x) : MX l yX0_checkWord wsX0_checkWord 6 D z0 (zPreX D T z0 L f) L f [.int x] exI := by
  refine MX.of (cc := cX0_checkWord) (maxL := 1) (ret := none) (by decide) rfl (Nat.le_of_ble_eq_true rfl) ?_
  intro p e s m args below meth c hC hlk hno hB ls hl
  have hl : lv_has ls 1 [(0, .int x)] := hl
  obtain ⟨⟨hE, hP, hD⟩, hXw⟩ := hB
  have hS : va_S (zA z0) s.heap s.heap [] := va_S.rf
  refine lv_iload_n hC.1 hC.2.1 dX0_checkWord_0 rfl (lv_at hl 0 rfl) ?_
  refine lv_if_lt (tgt := 9) hC.1 hC.2.1 dX0_checkWord_1 (by decide) (fun h_1 => ?_) (fun h_1 => ?_)
  · exact x_throw (cls := exI) (text := "word is not 0 to 4") (ik := 98) (is := 160) (ic := 102) hC hst hE hXw hP hD hS hlk hno hXw.1 (by decide) (by decide +kernel) (by decide +kernel) (by decide +kernel) (by decide +kernel) (by decide +kernel) (by decide +kernel) hl.1 dX0_checkWord_9 dX0_checkWord_12 dX0_checkWord_13 dX0_checkWord_15 dX0_checkWord_18 (by decide)
  · refine lv_iload_n hC.1 hC.2.1 dX0_checkWord_4 rfl (lv_at hl 0 rfl) ?_
    refine lv_iconst (v := (nI 5)) hC.1 hC.2.1 dX0_checkWord_5 (by decide) ?_
    refine lv_icmp_lt (tgt := 19) hC.1 hC.2.1 dX0_checkWord_6 (by decide) (fun h_6 => (x_lo hx9 h_1 h_6).elim) (fun h_6 => ?_)
    exact x_throw (cls := exI) (text := "word is not 0 to 4") (ik := 98) (is := 160) (ic := 102) hC hst hE hXw hP hD hS hlk hno hXw.1 (by decide) (by decide +kernel) (by decide +kernel) (by decide +kernel) (by decide +kernel) (by decide +kernel) (by decide +kernel) hl.1 dX0_checkWord_9 dX0_checkWord_12 dX0_checkWord_13 dX0_checkWord_15 dX0_checkWord_18 (by decide)

set_option maxHeartbeats 4000000 in
set_option maxRecDepth 100000 in
theorem x_checkPlace (l : Launch) (hst : l.stackTraces = false) {D : va_G} {T : ClassId × ClassId × ClassId} {z0 : Nat} {L : List Nat} {f : Nat → va_E} {x : Int32} (hx9 : x < 0 ∨ nI 8 ≤ x) : MX l yX0_checkPlace wsX0_checkPlace 6 D z0 (zPreX D T z0 L f) L f [.int x] exI := by
  refine MX.of (cc := cX0_checkPlace) (maxL := 1) (ret := none) (by decide) rfl (Nat.le_of_ble_eq_true rfl) ?_
  intro p e s m args below meth c hC hlk hno hB ls hl
  have hl : lv_has ls 1 [(0, .int x)] := hl
  obtain ⟨⟨hE, hP, hD⟩, hXw⟩ := hB
  have hS : va_S (zA z0) s.heap s.heap [] := va_S.rf
  refine lv_iload_n hC.1 hC.2.1 dX0_checkPlace_0 rfl (lv_at hl 0 rfl) ?_
  refine lv_if_lt (tgt := 10) hC.1 hC.2.1 dX0_checkPlace_1 (by decide) (fun h_1 => ?_) (fun h_1 => ?_)
  · exact x_throw (cls := exI) (text := "place is not 0 to 7") (ik := 98) (is := 162) (ic := 102) hC hst hE hXw hP hD hS hlk hno hXw.1 (by decide) (by decide +kernel) (by decide +kernel) (by decide +kernel) (by decide +kernel) (by decide +kernel) (by decide +kernel) hl.1 dX0_checkPlace_10 dX0_checkPlace_13 dX0_checkPlace_14 dX0_checkPlace_16 dX0_checkPlace_19 (by decide)
  · refine lv_iload_n hC.1 hC.2.1 dX0_checkPlace_4 rfl (lv_at hl 0 rfl) ?_
    refine lv_bipush (v := (nI 8)) hC.1 hC.2.1 dX0_checkPlace_5 (by decide) ?_
    refine lv_icmp_lt (tgt := 20) hC.1 hC.2.1 dX0_checkPlace_7 (by decide) (fun h_7 => (x_lo hx9 h_1 h_7).elim) (fun h_7 => ?_)
    exact x_throw (cls := exI) (text := "place is not 0 to 7") (ik := 98) (is := 162) (ic := 102) hC hst hE hXw hP hD hS hlk hno hXw.1 (by decide) (by decide +kernel) (by decide +kernel) (by decide +kernel) (by decide +kernel) (by decide +kernel) (by decide +kernel) hl.1 dX0_checkPlace_10 dX0_checkPlace_13 dX0_checkPlace_14 dX0_checkPlace_16 dX0_checkPlace_19 (by decide)

set_option maxHeartbeats 4000000 in
set_option maxRecDepth 100000 in
theorem x_checkQuarters (l : Launch) (hst : l.stackTraces = false) {D : va_G} {T : ClassId × ClassId × ClassId} {z0 : Nat} {L : List Nat} {f : Nat → va_E} {x : Int32} (hx9 : x < nI 1 ∨ nI 4 ≤ x) : MX l yX0_checkQuarters wsX0_checkQuarters 6 D z0 (zPreX D T z0 L f) L f [.int x] exA := by
  refine MX.of (cc := cX0_checkQuarters) (maxL := 1) (ret := none) (by decide) rfl (Nat.le_of_ble_eq_true rfl) ?_
  intro p e s m args below meth c hC hlk hno hB ls hl
  have hl : lv_has ls 1 [(0, .int x)] := hl
  obtain ⟨⟨hE, hP, hD⟩, hXw⟩ := hB
  have hS : va_S (zA z0) s.heap s.heap [] := va_S.rf
  refine lv_iload_n hC.1 hC.2.1 dX0_checkQuarters_0 rfl (lv_at hl 0 rfl) ?_
  refine lv_iconst (v := (nI 1)) hC.1 hC.2.1 dX0_checkQuarters_1 (by decide) ?_
  refine lv_icmp_lt (tgt := 10) hC.1 hC.2.1 dX0_checkQuarters_2 (by decide) (fun h_2 => ?_) (fun h_2 => ?_)
  · exact x_throw (cls := exA) (text := "quarters is not 1 to 3") (ik := 50) (is := 158) (ic := 54) hC hst hE hXw hP hD hS hlk hno hXw.2.1 (by decide) (by decide +kernel) (by decide +kernel) (by decide +kernel) (by decide +kernel) (by decide +kernel) (by decide +kernel) hl.1 dX0_checkQuarters_10 dX0_checkQuarters_13 dX0_checkQuarters_14 dX0_checkQuarters_16 dX0_checkQuarters_19 (by decide)
  · refine lv_iload_n hC.1 hC.2.1 dX0_checkQuarters_5 rfl (lv_at hl 0 rfl) ?_
    refine lv_iconst (v := (nI 4)) hC.1 hC.2.1 dX0_checkQuarters_6 (by decide) ?_
    refine lv_icmp_lt (tgt := 20) hC.1 hC.2.1 dX0_checkQuarters_7 (by decide) (fun h_7 => (x_lo1 hx9 h_2 h_7).elim) (fun h_7 => ?_)
    exact x_throw (cls := exA) (text := "quarters is not 1 to 3") (ik := 50) (is := 158) (ic := 54) hC hst hE hXw hP hD hS hlk hno hXw.2.1 (by decide) (by decide +kernel) (by decide +kernel) (by decide +kernel) (by decide +kernel) (by decide +kernel) (by decide +kernel) hl.1 dX0_checkQuarters_10 dX0_checkQuarters_13 dX0_checkQuarters_14 dX0_checkQuarters_16 dX0_checkQuarters_19 (by decide)

set_option maxHeartbeats 4000000 in
set_option maxRecDepth 100000 in
theorem x_checkWhat (l : Launch) (hst : l.stackTraces = false) {D : va_G} {T : ClassId × ClassId × ClassId} {z0 : Nat} {L : List Nat} {f : Nat → va_E} {x : Int32} {g : Nat} (hx9 : x < 0 ∨ nI g ≤ x) : MX l yX0_checkWhat wsX0_checkWhat 6 D z0 (zPreX D T z0 L f) L f [.int x, .int (nI g)] exI := by
  refine MX.of (cc := cX0_checkWhat) (maxL := 2) (ret := none) (by decide) rfl (Nat.le_of_ble_eq_true rfl) ?_
  intro p e s m args below meth c hC hlk hno hB ls hl
  have hl : lv_has ls 2 [(0, .int x), (1, .int (nI g))] := hl
  obtain ⟨⟨hE, hP, hD⟩, hXw⟩ := hB
  have hS : va_S (zA z0) s.heap s.heap [] := va_S.rf
  refine lv_iload_n hC.1 hC.2.1 dX0_checkWhat_0 rfl (lv_at hl 0 rfl) ?_
  refine lv_if_lt (tgt := 9) hC.1 hC.2.1 dX0_checkWhat_1 (by decide) (fun h_1 => ?_) (fun h_1 => ?_)
  · exact x_throw (cls := exI) (text := "there is no such what") (ik := 98) (is := 164) (ic := 102) hC hst hE hXw hP hD hS hlk hno hXw.1 (by decide) (by decide +kernel) (by decide +kernel) (by decide +kernel) (by decide +kernel) (by decide +kernel) (by decide +kernel) hl.1 dX0_checkWhat_9 dX0_checkWhat_12 dX0_checkWhat_13 dX0_checkWhat_15 dX0_checkWhat_18 (by decide)
  · refine lv_iload_n hC.1 hC.2.1 dX0_checkWhat_4 rfl (lv_at hl 0 rfl) ?_
    refine lv_iload_n hC.1 hC.2.1 dX0_checkWhat_5 rfl (lv_at hl 1 rfl) ?_
    refine lv_icmp_lt (tgt := 19) hC.1 hC.2.1 dX0_checkWhat_6 (by decide) (fun h_6 => (x_lo hx9 h_1 h_6).elim) (fun h_6 => ?_)
    exact x_throw (cls := exI) (text := "there is no such what") (ik := 98) (is := 164) (ic := 102) hC hst hE hXw hP hD hS hlk hno hXw.1 (by decide) (by decide +kernel) (by decide +kernel) (by decide +kernel) (by decide +kernel) (by decide +kernel) (by decide +kernel) hl.1 dX0_checkWhat_9 dX0_checkWhat_12 dX0_checkWhat_13 dX0_checkWhat_15 dX0_checkWhat_18 (by decide)

set_option maxHeartbeats 4000000 in
set_option maxRecDepth 100000 in
theorem x_checkMost (l : Launch) (hst : l.stackTraces = false) {D : va_G} {T : ClassId × ClassId × ClassId} {z0 : Nat} {L : List Nat} {f : Nat → va_E} {x : Int32} (hx9 : x < 0 ∨ nI 5 < x) : MX l yX0_checkMost wsX0_checkMost 6 D z0 (zPreX D T z0 L f) L f [.int x] exA := by
  refine MX.of (cc := cX0_checkMost) (maxL := 1) (ret := none) (by decide) rfl (Nat.le_of_ble_eq_true rfl) ?_
  intro p e s m args below meth c hC hlk hno hB ls hl
  have hl : lv_has ls 1 [(0, .int x)] := hl
  obtain ⟨⟨hE, hP, hD⟩, hXw⟩ := hB
  have hS : va_S (zA z0) s.heap s.heap [] := va_S.rf
  refine lv_iload_n hC.1 hC.2.1 dX0_checkMost_0 rfl (lv_at hl 0 rfl) ?_
  refine lv_if_lt (tgt := 9) hC.1 hC.2.1 dX0_checkMost_1 (by decide) (fun h_1 => ?_) (fun h_1 => ?_)
  · exact x_throw (cls := exA) (text := "most is not 0 to 5") (ik := 50) (is := 166) (ic := 54) hC hst hE hXw hP hD hS hlk hno hXw.2.1 (by decide) (by decide +kernel) (by decide +kernel) (by decide +kernel) (by decide +kernel) (by decide +kernel) (by decide +kernel) hl.1 dX0_checkMost_9 dX0_checkMost_12 dX0_checkMost_13 dX0_checkMost_15 dX0_checkMost_18 (by decide)
  · refine lv_iload_n hC.1 hC.2.1 dX0_checkMost_4 rfl (lv_at hl 0 rfl) ?_
    refine lv_iconst (v := (nI 5)) hC.1 hC.2.1 dX0_checkMost_5 (by decide) ?_
    refine lv_icmp_le (tgt := 19) hC.1 hC.2.1 dX0_checkMost_6 (by decide) (fun h_6 => (x_hi hx9 h_1 h_6).elim) (fun h_6 => ?_)
    exact x_throw (cls := exA) (text := "most is not 0 to 5") (ik := 50) (is := 166) (ic := 54) hC hst hE hXw hP hD hS hlk hno hXw.2.1 (by decide) (by decide +kernel) (by decide +kernel) (by decide +kernel) (by decide +kernel) (by decide +kernel) (by decide +kernel) hl.1 dX0_checkMost_9 dX0_checkMost_12 dX0_checkMost_13 dX0_checkMost_15 dX0_checkMost_18 (by decide)

set_option maxHeartbeats 4000000 in
set_option maxRecDepth 100000 in
theorem x_turn1 (l : Launch) (hst : l.stackTraces = false) {D : va_G} {T : ClassId × ClassId × ClassId} {z0 : Nat} {L : List Nat} {f : Nat → va_E} {hx : Nat} {x y : Int32} (hx9 : x < 0 ∨ nI 3 ≤ x) : MX l yX0_turn wsX0_turn 8 D z0 (zPreX D T z0 L f) L f [.ref hx, .int x, .int y] exI := by
  refine MX.of (cc := cX0_turn) (maxL := 3) (ret := (some .int)) (by decide) rfl (Nat.le_of_ble_eq_true rfl) ?_
  intro p e s m args below meth c hC hlk hno hB ls hl
  have hl : lv_has ls 3 [(0, .ref hx), (1, .int x), (2, .int y)] := hl
  obtain ⟨⟨hE, hP, hD⟩, hXw⟩ := hB
  have hS : va_S (zA z0) s.heap s.heap [] := va_S.rf
  refine lv_iload_n hC.1 hC.2.1 dX0_turn_0 rfl (lv_at hl 1 rfl) ?_
  exact x_cs (n := 1) (x_checkFace l hst hx9) hC hE hXw hP hD hS hlk hno gX0_turn_X0_checkFace rfl (by decide +kernel) rfl ⟨by decide, by decide⟩ hl.1 (Nat.le_of_ble_eq_true rfl) dX0_turn_1 rfl

set_option maxHeartbeats 4000000 in
set_option maxRecDepth 100000 in
theorem x_turn2 (l : Launch) (hst : l.stackTraces = false) {D : va_G} {T : ClassId × ClassId × ClassId} {z0 : Nat} {L : List Nat} {f : Nat → va_E} {hx : Nat} {fc : Nat} (hf : fc < 3) {x : Int32} (hx9 : x < nI 1 ∨ nI 4 ≤ x) : MX l yX0_turn wsX0_turn 8 D z0 (zPreX D T z0 L f) L f [.ref hx, .int (nI fc), .int x] exA := by
  refine MX.of (cc := cX0_turn) (maxL := 3) (ret := (some .int)) (by decide) rfl (Nat.le_of_ble_eq_true rfl) ?_
  intro p e s m args below meth c hC hlk hno hB ls hl
  have hl : lv_has ls 3 [(0, .ref hx), (1, .int (nI fc)), (2, .int x)] := hl
  obtain ⟨⟨hE, hP, hD⟩, hXw⟩ := hB
  have hS : va_S (zA z0) s.heap s.heap [] := va_S.rf
  refine lv_iload_n hC.1 hC.2.1 dX0_turn_0 rfl (lv_at hl 1 rfl) ?_
  refine p_cs (n := 1) (k_checkFace l hf) hC gX0_turn_X0_checkFace rfl (by decide +kernel) rfl ⟨by decide, by decide⟩ ⟨Nat.zero_le _, Nat.zero_le _⟩ hl.1 (Nat.le_of_ble_eq_true rfl) dX0_turn_1 rfl ?_
  refine lv_iload_n hC.1 hC.2.1 dX0_turn_4 rfl (lv_at hl 2 rfl) ?_
  exact x_cs (n := 1) (x_checkQuarters l hst hx9) hC hE hXw hP hD hS hlk hno gX0_turn_X0_checkQuarters rfl (by decide +kernel) rfl ⟨by decide, by decide⟩ hl.1 (Nat.le_of_ble_eq_true rfl) dX0_turn_5 rfl

set_option maxHeartbeats 4000000 in
set_option maxRecDepth 100000 in
theorem x_would1 (l : Launch) (hst : l.stackTraces = false) {D : va_G} {T : ClassId × ClassId × ClassId} {z0 : Nat} {L : List Nat} {f : Nat → va_E} {hx : Nat} {x y : Int32} (hx9 : x < 0 ∨ nI 3 ≤ x) : MX l yX0_would wsX0_would 8 D z0 (zPreX D T z0 L f) L f [.ref hx, .int x, .int y] exI := by
  refine MX.of (cc := cX0_would) (maxL := 3) (ret := (some .int)) (by decide) rfl (Nat.le_of_ble_eq_true rfl) ?_
  intro p e s m args below meth c hC hlk hno hB ls hl
  have hl : lv_has ls 3 [(0, .ref hx), (1, .int x), (2, .int y)] := hl
  obtain ⟨⟨hE, hP, hD⟩, hXw⟩ := hB
  have hS : va_S (zA z0) s.heap s.heap [] := va_S.rf
  refine lv_iload_n hC.1 hC.2.1 dX0_would_0 rfl (lv_at hl 1 rfl) ?_
  exact x_cs (n := 1) (x_checkFace l hst hx9) hC hE hXw hP hD hS hlk hno gX0_would_X0_checkFace rfl (by decide +kernel) rfl ⟨by decide, by decide⟩ hl.1 (Nat.le_of_ble_eq_true rfl) dX0_would_1 rfl

set_option maxHeartbeats 4000000 in
set_option maxRecDepth 100000 in
theorem x_would2 (l : Launch) (hst : l.stackTraces = false) {D : va_G} {T : ClassId × ClassId × ClassId} {z0 : Nat} {L : List Nat} {f : Nat → va_E} {hx : Nat} {fc : Nat} (hf : fc < 3) {x : Int32} (hx9 : x < nI 1 ∨ nI 4 ≤ x) : MX l yX0_would wsX0_would 8 D z0 (zPreX D T z0 L f) L f [.ref hx, .int (nI fc), .int x] exA := by
  refine MX.of (cc := cX0_would) (maxL := 3) (ret := (some .int)) (by decide) rfl (Nat.le_of_ble_eq_true rfl) ?_
  intro p e s m args below meth c hC hlk hno hB ls hl
  have hl : lv_has ls 3 [(0, .ref hx), (1, .int (nI fc)), (2, .int x)] := hl
  obtain ⟨⟨hE, hP, hD⟩, hXw⟩ := hB
  have hS : va_S (zA z0) s.heap s.heap [] := va_S.rf
  refine lv_iload_n hC.1 hC.2.1 dX0_would_0 rfl (lv_at hl 1 rfl) ?_
  refine p_cs (n := 1) (k_checkFace l hf) hC gX0_would_X0_checkFace rfl (by decide +kernel) rfl ⟨by decide, by decide⟩ ⟨Nat.zero_le _, Nat.zero_le _⟩ hl.1 (Nat.le_of_ble_eq_true rfl) dX0_would_1 rfl ?_
  refine lv_iload_n hC.1 hC.2.1 dX0_would_4 rfl (lv_at hl 2 rfl) ?_
  exact x_cs (n := 1) (x_checkQuarters l hst hx9) hC hE hXw hP hD hS hlk hno gX0_would_X0_checkQuarters rfl (by decide +kernel) rfl ⟨by decide, by decide⟩ hl.1 (Nat.le_of_ble_eq_true rfl) dX0_would_5 rfl

set_option maxHeartbeats 4000000 in
set_option maxRecDepth 100000 in
theorem x_play1 (l : Launch) (hst : l.stackTraces = false) {D : va_G} {T : ClassId × ClassId × ClassId} {z0 : Nat} {L : List Nat} {f : Nat → va_E} {hx : Nat} {x y : Int32} (hx9 : x < 0 ∨ nI 5 ≤ x) : MX l yX0_play wsX0_play 8 D z0 (zPreX D T z0 L f) L f [.ref hx, .int x, .int y] exI := by
  refine MX.of (cc := cX0_play) (maxL := 4) (ret := (some .int)) (by decide) rfl (Nat.le_of_ble_eq_true rfl) ?_
  intro p e s m args below meth c hC hlk hno hB ls hl
  have hl : lv_has ls 4 [(0, .ref hx), (1, .int x), (2, .int y)] := hl
  obtain ⟨⟨hE, hP, hD⟩, hXw⟩ := hB
  have hS : va_S (zA z0) s.heap s.heap [] := va_S.rf
  refine lv_iload_n hC.1 hC.2.1 dX0_play_0 rfl (lv_at hl 1 rfl) ?_
  exact x_cs (n := 1) (x_checkWord l hst hx9) hC hE hXw hP hD hS hlk hno gX0_play_X0_checkWord rfl (by decide +kernel) rfl ⟨by decide, by decide⟩ hl.1 (Nat.le_of_ble_eq_true rfl) dX0_play_1 rfl

set_option maxHeartbeats 4000000 in
set_option maxRecDepth 100000 in
theorem x_play2 (l : Launch) (hst : l.stackTraces = false) {D : va_G} {T : ClassId × ClassId × ClassId} {z0 : Nat} {L : List Nat} {f : Nat → va_E} {hx w : Nat} (hw : w < 5) {x : Int32} (hx9 : x < nI 1 ∨ nI 50 < x) : MX l yX0_play wsX0_play 8 D z0 (zPreX D T z0 L f) L f [.ref hx, .int (nI w), .int x] exA := by
  refine MX.of (cc := cX0_play) (maxL := 4) (ret := (some .int)) (by decide) rfl (Nat.le_of_ble_eq_true rfl) ?_
  intro p e s m args below meth c hC hlk hno hB ls hl
  have hl : lv_has ls 4 [(0, .ref hx), (1, .int (nI w)), (2, .int x)] := hl
  obtain ⟨⟨hE, hP, hD⟩, hXw⟩ := hB
  have hS : va_S (zA z0) s.heap s.heap [] := va_S.rf
  refine lv_iload_n hC.1 hC.2.1 dX0_play_0 rfl (lv_at hl 1 rfl) ?_
  refine p_cs (n := 1) (k_checkWord l hw) hC gX0_play_X0_checkWord rfl (by decide +kernel) rfl ⟨by decide, by decide⟩ ⟨Nat.zero_le _, Nat.zero_le _⟩ hl.1 (Nat.le_of_ble_eq_true rfl) dX0_play_1 rfl ?_
  refine lv_iload_n hC.1 hC.2.1 dX0_play_4 rfl (lv_at hl 2 rfl) ?_
  refine lv_iconst (v := (nI 1)) hC.1 hC.2.1 dX0_play_5 (by decide) ?_
  refine lv_icmp_lt (tgt := 15) hC.1 hC.2.1 dX0_play_6 (by decide) (fun h_6 => ?_) (fun h_6 => ?_)
  · exact x_throw (cls := exA) (text := "times is not 1 to 50") (ik := 50) (is := 52) (ic := 54) hC hst hE hXw hP hD hS hlk hno hXw.2.1 (by decide) (by decide +kernel) (by decide +kernel) (by decide +kernel) (by decide +kernel) (by decide +kernel) (by decide +kernel) hl.1 dX0_play_15 dX0_play_18 dX0_play_19 dX0_play_21 dX0_play_24 (by decide)
  · refine lv_iload_n hC.1 hC.2.1 dX0_play_9 rfl (lv_at hl 2 rfl) ?_
    refine lv_bipush (v := (nI 50)) hC.1 hC.2.1 dX0_play_10 (by decide) ?_
    refine lv_icmp_le (tgt := 25) hC.1 hC.2.1 dX0_play_12 (by decide) (fun h_12 => (x_hi1 hx9 h_6 h_12).elim) (fun h_12 => ?_)
    exact x_throw (cls := exA) (text := "times is not 1 to 50") (ik := 50) (is := 52) (ic := 54) hC hst hE hXw hP hD hS hlk hno hXw.2.1 (by decide) (by decide +kernel) (by decide +kernel) (by decide +kernel) (by decide +kernel) (by decide +kernel) (by decide +kernel) hl.1 dX0_play_15 dX0_play_18 dX0_play_19 dX0_play_21 dX0_play_24 (by decide)

set_option maxHeartbeats 4000000 in
set_option maxRecDepth 100000 in
theorem x_play3 (l : Launch) (hst : l.stackTraces = false) {D : va_G} {T : ClassId × ClassId × ClassId} {z0 : Nat} {L : List Nat} {f : Nat → va_E} {hx g ln : Nat} {rw : Nat → Nat} {b : Nat → Nat} {mk : Int32} {wd : Nat → List Nat} (hX : CX T L f hx g ln rw b mk wd) {w ts : Nat} (hw : w < 5) (h1 : 1 ≤ ts) (h2 : ts ≤ 50) (h0 : (wd w).length = 0) : MX l yX0_play wsX0_play 8 D z0 (zPreX D T z0 L f) L f [.ref hx, .int (nI w), .int (nI ts)] exS := by
  refine MX.of (cc := cX0_play) (maxL := 4) (ret := (some .int)) (by decide) rfl (Nat.le_of_ble_eq_true rfl) ?_
  intro p e s m args below meth c hC hlk hno hB ls hl
  have hl : lv_has ls 4 [(0, .ref hx), (1, .int (nI w)), (2, .int (nI ts))] := hl
  obtain ⟨⟨hE, hP, hD⟩, hXw⟩ := hB
  obtain ⟨⟨hmx, hex⟩, ⟨hmg, G, heg, hG⟩, ⟨hml, Nl, hel, hNl⟩, hrw, hinj, hvb, hwd⟩ := id hX
  have hS : va_S (zA z0) s.heap s.heap [] := va_S.rf
  refine lv_iload_n hC.1 hC.2.1 dX0_play_0 rfl (lv_at hl 1 rfl) ?_
  refine p_cs (n := 1) (k_checkWord l hw) hC gX0_play_X0_checkWord rfl (by decide +kernel) rfl ⟨by decide, by decide⟩ ⟨Nat.zero_le _, Nat.zero_le _⟩ hl.1 (Nat.le_of_ble_eq_true rfl) dX0_play_1 rfl ?_
  refine lv_iload_n hC.1 hC.2.1 dX0_play_4 rfl (lv_at hl 2 rfl) ?_
  refine lv_iconst (v := (nI 1)) hC.1 hC.2.1 dX0_play_5 (by decide) ?_
  refine z_icmp_lt (tgt := 15) hC dX0_play_6 (by decide) (by omega) (by omega) (fun h_6 => by omega) (fun h_6 => ?_)
  refine lv_iload_n hC.1 hC.2.1 dX0_play_9 rfl (lv_at hl 2 rfl) ?_
  refine lv_bipush (v := (nI 50)) hC.1 hC.2.1 dX0_play_10 (by decide) ?_
  refine z_icmp_le (tgt := 25) hC dX0_play_12 (by decide) (by omega) (by omega) (fun h_12 => ?_) (fun h_12 => by omega)
  refine lv_aload_n hC.1 hC.2.1 dX0_play_25 rfl (lv_at hl 0 rfl) ?_
  refine p_get (ref := "CornerCube") hC hE hP hmx hex rfl (by decide +kernel) 3 (by decide) (by decide +kernel) rfl rfl dX0_play_26 ?_
  refine lv_iload_n hC.1 hC.2.1 dX0_play_29 rfl (lv_at hl 1 rfl) ?_
  refine p_iald hC hE hP hml hel (by omega) (by decide) dX0_play_30 ?_
  refine q_i (nI (wd w).length) (hNl _ (by omega)) ?_
  refine z_if_ne (tgt := 44) hC dX0_play_31 (by decide) (by omega) (fun h_31 => by omega) (fun h_31 => ?_)
  exact x_throw (cls := exS) (text := "the word has no turns") (ik := 57) (is := 59) (ic := 61) hC hst hE hXw hP hD hS hlk hno hXw.2.2.1 (by decide) (by decide +kernel) (by decide +kernel) (by decide +kernel) (by decide +kernel) (by decide +kernel) (by decide +kernel) hl.1 dX0_play_34 dX0_play_37 dX0_play_38 dX0_play_40 dX0_play_43 (by decide)

set_option maxHeartbeats 4000000 in
set_option maxRecDepth 100000 in
theorem x_say1 (l : Launch) (hst : l.stackTraces = false) {D : va_G} {T : ClassId × ClassId × ClassId} {z0 : Nat} {L : List Nat} {f : Nat → va_E} {hx : Nat} {x y z : Int32} (hx9 : x < 0 ∨ nI 5 ≤ x) : MX l yX0_say wsX0_say 8 D z0 (zPreX D T z0 L f) L f [.ref hx, .int x, .int y, .int z] exI := by
  refine MX.of (cc := cX0_say) (maxL := 4) (ret := (some .int)) (by decide) rfl (Nat.le_of_ble_eq_true rfl) ?_
  intro p e s m args below meth c hC hlk hno hB ls hl
  have hl : lv_has ls 4 [(0, .ref hx), (1, .int x), (2, .int y), (3, .int z)] := hl
  obtain ⟨⟨hE, hP, hD⟩, hXw⟩ := hB
  have hS : va_S (zA z0) s.heap s.heap [] := va_S.rf
  refine lv_iload_n hC.1 hC.2.1 dX0_say_0 rfl (lv_at hl 1 rfl) ?_
  exact x_cs (n := 1) (x_checkWord l hst hx9) hC hE hXw hP hD hS hlk hno gX0_say_X0_checkWord rfl (by decide +kernel) rfl ⟨by decide, by decide⟩ hl.1 (Nat.le_of_ble_eq_true rfl) dX0_say_1 rfl

set_option maxHeartbeats 4000000 in
set_option maxRecDepth 100000 in
theorem x_say2 (l : Launch) (hst : l.stackTraces = false) {D : va_G} {T : ClassId × ClassId × ClassId} {z0 : Nat} {L : List Nat} {f : Nat → va_E} {hx w : Nat} (hw : w < 5) {x z : Int32} (hx9 : x < 0 ∨ nI 3 ≤ x) : MX l yX0_say wsX0_say 8 D z0 (zPreX D T z0 L f) L f [.ref hx, .int (nI w), .int x, .int z] exI := by
  refine MX.of (cc := cX0_say) (maxL := 4) (ret := (some .int)) (by decide) rfl (Nat.le_of_ble_eq_true rfl) ?_
  intro p e s m args below meth c hC hlk hno hB ls hl
  have hl : lv_has ls 4 [(0, .ref hx), (1, .int (nI w)), (2, .int x), (3, .int z)] := hl
  obtain ⟨⟨hE, hP, hD⟩, hXw⟩ := hB
  have hS : va_S (zA z0) s.heap s.heap [] := va_S.rf
  refine lv_iload_n hC.1 hC.2.1 dX0_say_0 rfl (lv_at hl 1 rfl) ?_
  refine p_cs (n := 1) (k_checkWord l hw) hC gX0_say_X0_checkWord rfl (by decide +kernel) rfl ⟨by decide, by decide⟩ ⟨Nat.zero_le _, Nat.zero_le _⟩ hl.1 (Nat.le_of_ble_eq_true rfl) dX0_say_1 rfl ?_
  refine lv_iload_n hC.1 hC.2.1 dX0_say_4 rfl (lv_at hl 2 rfl) ?_
  exact x_cs (n := 1) (x_checkFace l hst hx9) hC hE hXw hP hD hS hlk hno gX0_say_X0_checkFace rfl (by decide +kernel) rfl ⟨by decide, by decide⟩ hl.1 (Nat.le_of_ble_eq_true rfl) dX0_say_5 rfl

set_option maxHeartbeats 4000000 in
set_option maxRecDepth 100000 in
theorem x_say3 (l : Launch) (hst : l.stackTraces = false) {D : va_G} {T : ClassId × ClassId × ClassId} {z0 : Nat} {L : List Nat} {f : Nat → va_E} {hx w fc : Nat} (hw : w < 5) (hf : fc < 3) {x : Int32} (hx9 : x < nI 1 ∨ nI 4 ≤ x) : MX l yX0_say wsX0_say 8 D z0 (zPreX D T z0 L f) L f [.ref hx, .int (nI w), .int (nI fc), .int x] exA := by
  refine MX.of (cc := cX0_say) (maxL := 4) (ret := (some .int)) (by decide) rfl (Nat.le_of_ble_eq_true rfl) ?_
  intro p e s m args below meth c hC hlk hno hB ls hl
  have hl : lv_has ls 4 [(0, .ref hx), (1, .int (nI w)), (2, .int (nI fc)), (3, .int x)] := hl
  obtain ⟨⟨hE, hP, hD⟩, hXw⟩ := hB
  have hS : va_S (zA z0) s.heap s.heap [] := va_S.rf
  refine lv_iload_n hC.1 hC.2.1 dX0_say_0 rfl (lv_at hl 1 rfl) ?_
  refine p_cs (n := 1) (k_checkWord l hw) hC gX0_say_X0_checkWord rfl (by decide +kernel) rfl ⟨by decide, by decide⟩ ⟨Nat.zero_le _, Nat.zero_le _⟩ hl.1 (Nat.le_of_ble_eq_true rfl) dX0_say_1 rfl ?_
  refine lv_iload_n hC.1 hC.2.1 dX0_say_4 rfl (lv_at hl 2 rfl) ?_
  refine p_cs (n := 1) (k_checkFace l hf) hC gX0_say_X0_checkFace rfl (by decide +kernel) rfl ⟨by decide, by decide⟩ ⟨Nat.zero_le _, Nat.zero_le _⟩ hl.1 (Nat.le_of_ble_eq_true rfl) dX0_say_5 rfl ?_
  refine lv_iload_n hC.1 hC.2.1 dX0_say_8 rfl (lv_at hl 3 rfl) ?_
  exact x_cs (n := 1) (x_checkQuarters l hst hx9) hC hE hXw hP hD hS hlk hno gX0_say_X0_checkQuarters rfl (by decide +kernel) rfl ⟨by decide, by decide⟩ hl.1 (Nat.le_of_ble_eq_true rfl) dX0_say_9 rfl

set_option maxHeartbeats 4000000 in
set_option maxRecDepth 100000 in
theorem x_say4 (l : Launch) (hst : l.stackTraces = false) {D : va_G} {T : ClassId × ClassId × ClassId} {z0 : Nat} {L : List Nat} {f : Nat → va_E} {hx g ln : Nat} {rw : Nat → Nat} {b : Nat → Nat} {mk : Int32} {wd : Nat → List Nat} (hX : CX T L f hx g ln rw b mk wd) {w fc q : Nat} (hw : w < 5) (hf : fc < 3) (h1 : 1 ≤ q) (hq : q < 4) (h12 : ¬ (wd w).length < 12) : MX l yX0_say wsX0_say 8 D z0 (zPreX D T z0 L f) L f [.ref hx, .int (nI w), .int (nI fc), .int (nI q)] exS := by
  refine MX.of (cc := cX0_say) (maxL := 4) (ret := (some .int)) (by decide) rfl (Nat.le_of_ble_eq_true rfl) ?_
  intro p e s m args below meth c hC hlk hno hB ls hl
  have hl : lv_has ls 4 [(0, .ref hx), (1, .int (nI w)), (2, .int (nI fc)), (3, .int (nI q))] := hl
  obtain ⟨⟨hE, hP, hD⟩, hXw⟩ := hB
  obtain ⟨⟨hmx, hex⟩, ⟨hmg, G, heg, hG⟩, ⟨hml, Nl, hel, hNl⟩, hrw, hinj, hvb, hwd⟩ := id hX
  have hS : va_S (zA z0) s.heap s.heap [] := va_S.rf
  have hl12 := (hwd w hw).1
  refine lv_iload_n hC.1 hC.2.1 dX0_say_0 rfl (lv_at hl 1 rfl) ?_
  refine p_cs (n := 1) (k_checkWord l hw) hC gX0_say_X0_checkWord rfl (by decide +kernel) rfl ⟨by decide, by decide⟩ ⟨Nat.zero_le _, Nat.zero_le _⟩ hl.1 (Nat.le_of_ble_eq_true rfl) dX0_say_1 rfl ?_
  refine lv_iload_n hC.1 hC.2.1 dX0_say_4 rfl (lv_at hl 2 rfl) ?_
  refine p_cs (n := 1) (k_checkFace l hf) hC gX0_say_X0_checkFace rfl (by decide +kernel) rfl ⟨by decide, by decide⟩ ⟨Nat.zero_le _, Nat.zero_le _⟩ hl.1 (Nat.le_of_ble_eq_true rfl) dX0_say_5 rfl ?_
  refine lv_iload_n hC.1 hC.2.1 dX0_say_8 rfl (lv_at hl 3 rfl) ?_
  refine p_cs (n := 1) (k_checkQuarters l h1 hq) hC gX0_say_X0_checkQuarters rfl (by decide +kernel) rfl ⟨by decide, by decide⟩ ⟨Nat.zero_le _, Nat.zero_le _⟩ hl.1 (Nat.le_of_ble_eq_true rfl) dX0_say_9 rfl ?_
  refine lv_aload_n hC.1 hC.2.1 dX0_say_12 rfl (lv_at hl 0 rfl) ?_
  refine p_get (ref := "CornerCube") hC hE hP hmx hex rfl (by decide +kernel) 3 (by decide) (by decide +kernel) rfl rfl dX0_say_13 ?_
  refine lv_iload_n hC.1 hC.2.1 dX0_say_16 rfl (lv_at hl 1 rfl) ?_
  refine p_iald hC hE hP hml hel (by omega) (by decide) dX0_say_17 ?_
  refine q_i (nI (wd w).length) (hNl _ (by omega)) ?_
  refine lv_bipush (v := (nI 12)) hC.1 hC.2.1 dX0_say_18 (by decide) ?_
  refine z_icmp_lt (tgt := 33) hC dX0_say_20 (by decide) (by omega) (by omega) (fun h_20 => by omega) (fun h_20 => ?_)
  exact x_throw (cls := exS) (text := "the word has 12 turns") (ik := 57) (is := 68) (ic := 61) hC hst hE hXw hP hD hS hlk hno hXw.2.2.1 (by decide) (by decide +kernel) (by decide +kernel) (by decide +kernel) (by decide +kernel) (by decide +kernel) (by decide +kernel) hl.1 dX0_say_23 dX0_say_26 dX0_say_27 dX0_say_29 dX0_say_32 (by decide)

set_option maxHeartbeats 4000000 in
set_option maxRecDepth 100000 in
theorem x_wipe1 (l : Launch) (hst : l.stackTraces = false) {D : va_G} {T : ClassId × ClassId × ClassId} {z0 : Nat} {L : List Nat} {f : Nat → va_E} {hx : Nat} {x : Int32} (hx9 : x < 0 ∨ nI 5 ≤ x) : MX l yX0_wipe wsX0_wipe 8 D z0 (zPreX D T z0 L f) L f [.ref hx, .int x] exI := by
  refine MX.of (cc := cX0_wipe) (maxL := 3) (ret := (some .int)) (by decide) rfl (Nat.le_of_ble_eq_true rfl) ?_
  intro p e s m args below meth c hC hlk hno hB ls hl
  have hl : lv_has ls 3 [(0, .ref hx), (1, .int x)] := hl
  obtain ⟨⟨hE, hP, hD⟩, hXw⟩ := hB
  have hS : va_S (zA z0) s.heap s.heap [] := va_S.rf
  refine lv_iload_n hC.1 hC.2.1 dX0_wipe_0 rfl (lv_at hl 1 rfl) ?_
  exact x_cs (n := 1) (x_checkWord l hst hx9) hC hE hXw hP hD hS hlk hno gX0_wipe_X0_checkWord rfl (by decide +kernel) rfl ⟨by decide, by decide⟩ hl.1 (Nat.le_of_ble_eq_true rfl) dX0_wipe_1 rfl

set_option maxHeartbeats 4000000 in
set_option maxRecDepth 100000 in
theorem x_round1 (l : Launch) (hst : l.stackTraces = false) {D : va_G} {T : ClassId × ClassId × ClassId} {z0 : Nat} {L : List Nat} {f : Nat → va_E} {hx : Nat} {x : Int32} (hx9 : x < 0 ∨ nI 5 ≤ x) : MX l yX0_round wsX0_round 8 D z0 (zPreX D T z0 L f) L f [.ref hx, .int x] exI := by
  refine MX.of (cc := cX0_round) (maxL := 6) (ret := (some .int)) (by decide) rfl (Nat.le_of_ble_eq_true rfl) ?_
  intro p e s m args below meth c hC hlk hno hB ls hl
  have hl : lv_has ls 6 [(0, .ref hx), (1, .int x)] := hl
  obtain ⟨⟨hE, hP, hD⟩, hXw⟩ := hB
  have hS : va_S (zA z0) s.heap s.heap [] := va_S.rf
  refine lv_iload_n hC.1 hC.2.1 dX0_round_0 rfl (lv_at hl 1 rfl) ?_
  exact x_cs (n := 1) (x_checkWord l hst hx9) hC hE hXw hP hD hS hlk hno gX0_round_X0_checkWord rfl (by decide +kernel) rfl ⟨by decide, by decide⟩ hl.1 (Nat.le_of_ble_eq_true rfl) dX0_round_1 rfl

set_option maxHeartbeats 4000000 in
set_option maxRecDepth 100000 in
theorem x_tidy1 (l : Launch) (hst : l.stackTraces = false) {D : va_G} {T : ClassId × ClassId × ClassId} {z0 : Nat} {L : List Nat} {f : Nat → va_E} {hx : Nat} {x : Int32} (hx9 : x < 0 ∨ nI 5 ≤ x) : MX l yX0_tidy wsX0_tidy 8 D z0 (zPreX D T z0 L f) L f [.ref hx, .int x] exI := by
  refine MX.of (cc := cX0_tidy) (maxL := 4) (ret := (some .int)) (by decide) rfl (Nat.le_of_ble_eq_true rfl) ?_
  intro p e s m args below meth c hC hlk hno hB ls hl
  have hl : lv_has ls 4 [(0, .ref hx), (1, .int x)] := hl
  obtain ⟨⟨hE, hP, hD⟩, hXw⟩ := hB
  have hS : va_S (zA z0) s.heap s.heap [] := va_S.rf
  refine lv_iload_n hC.1 hC.2.1 dX0_tidy_0 rfl (lv_at hl 1 rfl) ?_
  exact x_cs (n := 1) (x_checkWord l hst hx9) hC hE hXw hP hD hS hlk hno gX0_tidy_X0_checkWord rfl (by decide +kernel) rfl ⟨by decide, by decide⟩ hl.1 (Nat.le_of_ble_eq_true rfl) dX0_tidy_1 rfl

set_option maxHeartbeats 4000000 in
set_option maxRecDepth 100000 in
theorem x_join1 (l : Launch) (hst : l.stackTraces = false) {D : va_G} {T : ClassId × ClassId × ClassId} {z0 : Nat} {L : List Nat} {f : Nat → va_E} {hx : Nat} {x y : Int32} (hx9 : x < 0 ∨ nI 5 ≤ x) : MX l yX0_join wsX0_join 8 D z0 (zPreX D T z0 L f) L f [.ref hx, .int x, .int y] exI := by
  refine MX.of (cc := cX0_join) (maxL := 5) (ret := (some .int)) (by decide) rfl (Nat.le_of_ble_eq_true rfl) ?_
  intro p e s m args below meth c hC hlk hno hB ls hl
  have hl : lv_has ls 5 [(0, .ref hx), (1, .int x), (2, .int y)] := hl
  obtain ⟨⟨hE, hP, hD⟩, hXw⟩ := hB
  have hS : va_S (zA z0) s.heap s.heap [] := va_S.rf
  refine lv_iload_n hC.1 hC.2.1 dX0_join_0 rfl (lv_at hl 1 rfl) ?_
  exact x_cs (n := 1) (x_checkWord l hst hx9) hC hE hXw hP hD hS hlk hno gX0_join_X0_checkWord rfl (by decide +kernel) rfl ⟨by decide, by decide⟩ hl.1 (Nat.le_of_ble_eq_true rfl) dX0_join_1 rfl

set_option maxHeartbeats 4000000 in
set_option maxRecDepth 100000 in
theorem x_join2 (l : Launch) (hst : l.stackTraces = false) {D : va_G} {T : ClassId × ClassId × ClassId} {z0 : Nat} {L : List Nat} {f : Nat → va_E} {hx w : Nat} (hw : w < 5) {x : Int32} (hx9 : x < 0 ∨ nI 5 ≤ x) : MX l yX0_join wsX0_join 8 D z0 (zPreX D T z0 L f) L f [.ref hx, .int (nI w), .int x] exI := by
  refine MX.of (cc := cX0_join) (maxL := 5) (ret := (some .int)) (by decide) rfl (Nat.le_of_ble_eq_true rfl) ?_
  intro p e s m args below meth c hC hlk hno hB ls hl
  have hl : lv_has ls 5 [(0, .ref hx), (1, .int (nI w)), (2, .int x)] := hl
  obtain ⟨⟨hE, hP, hD⟩, hXw⟩ := hB
  have hS : va_S (zA z0) s.heap s.heap [] := va_S.rf
  refine lv_iload_n hC.1 hC.2.1 dX0_join_0 rfl (lv_at hl 1 rfl) ?_
  refine p_cs (n := 1) (k_checkWord l hw) hC gX0_join_X0_checkWord rfl (by decide +kernel) rfl ⟨by decide, by decide⟩ ⟨Nat.zero_le _, Nat.zero_le _⟩ hl.1 (Nat.le_of_ble_eq_true rfl) dX0_join_1 rfl ?_
  refine lv_iload_n hC.1 hC.2.1 dX0_join_4 rfl (lv_at hl 2 rfl) ?_
  exact x_cs (n := 1) (x_checkWord l hst hx9) hC hE hXw hP hD hS hlk hno gX0_join_X0_checkWord rfl (by decide +kernel) rfl ⟨by decide, by decide⟩ hl.1 (Nat.le_of_ble_eq_true rfl) dX0_join_5 rfl

set_option maxHeartbeats 4000000 in
set_option maxRecDepth 100000 in
theorem x_same1 (l : Launch) (hst : l.stackTraces = false) {D : va_G} {T : ClassId × ClassId × ClassId} {z0 : Nat} {L : List Nat} {f : Nat → va_E} {hx : Nat} {x y : Int32} (hx9 : x < 0 ∨ nI 5 ≤ x) : MX l yX0_same wsX0_same 8 D z0 (zPreX D T z0 L f) L f [.ref hx, .int x, .int y] exI := by
  refine MX.of (cc := cX0_same) (maxL := 3) (ret := (some .boolean)) (by decide) rfl (Nat.le_of_ble_eq_true rfl) ?_
  intro p e s m args below meth c hC hlk hno hB ls hl
  have hl : lv_has ls 3 [(0, .ref hx), (1, .int x), (2, .int y)] := hl
  obtain ⟨⟨hE, hP, hD⟩, hXw⟩ := hB
  have hS : va_S (zA z0) s.heap s.heap [] := va_S.rf
  refine lv_iload_n hC.1 hC.2.1 dX0_same_0 rfl (lv_at hl 1 rfl) ?_
  exact x_cs (n := 1) (x_checkWord l hst hx9) hC hE hXw hP hD hS hlk hno gX0_same_X0_checkWord rfl (by decide +kernel) rfl ⟨by decide, by decide⟩ hl.1 (Nat.le_of_ble_eq_true rfl) dX0_same_1 rfl

set_option maxHeartbeats 4000000 in
set_option maxRecDepth 100000 in
theorem x_same2 (l : Launch) (hst : l.stackTraces = false) {D : va_G} {T : ClassId × ClassId × ClassId} {z0 : Nat} {L : List Nat} {f : Nat → va_E} {hx w : Nat} (hw : w < 5) {x : Int32} (hx9 : x < 0 ∨ nI 5 ≤ x) : MX l yX0_same wsX0_same 8 D z0 (zPreX D T z0 L f) L f [.ref hx, .int (nI w), .int x] exI := by
  refine MX.of (cc := cX0_same) (maxL := 3) (ret := (some .boolean)) (by decide) rfl (Nat.le_of_ble_eq_true rfl) ?_
  intro p e s m args below meth c hC hlk hno hB ls hl
  have hl : lv_has ls 3 [(0, .ref hx), (1, .int (nI w)), (2, .int x)] := hl
  obtain ⟨⟨hE, hP, hD⟩, hXw⟩ := hB
  have hS : va_S (zA z0) s.heap s.heap [] := va_S.rf
  refine lv_iload_n hC.1 hC.2.1 dX0_same_0 rfl (lv_at hl 1 rfl) ?_
  refine p_cs (n := 1) (k_checkWord l hw) hC gX0_same_X0_checkWord rfl (by decide +kernel) rfl ⟨by decide, by decide⟩ ⟨Nat.zero_le _, Nat.zero_le _⟩ hl.1 (Nat.le_of_ble_eq_true rfl) dX0_same_1 rfl ?_
  refine lv_iload_n hC.1 hC.2.1 dX0_same_4 rfl (lv_at hl 2 rfl) ?_
  exact x_cs (n := 1) (x_checkWord l hst hx9) hC hE hXw hP hD hS hlk hno gX0_same_X0_checkWord rfl (by decide +kernel) rfl ⟨by decide, by decide⟩ hl.1 (Nat.le_of_ble_eq_true rfl) dX0_same_5 rfl

set_option maxHeartbeats 4000000 in
set_option maxRecDepth 100000 in
theorem x_mixed1 (l : Launch) (hst : l.stackTraces = false) {D : va_G} {T : ClassId × ClassId × ClassId} {z0 : Nat} {L : List Nat} {f : Nat → va_E} {hx : Nat} {x y : Int32} (hx9 : x < 0 ∨ nI 5 ≤ x) : MX l yX0_mixed wsX0_mixed 8 D z0 (zPreX D T z0 L f) L f [.ref hx, .int x, .int y] exI := by
  refine MX.of (cc := cX0_mixed) (maxL := 5) (ret := (some .int)) (by decide) rfl (Nat.le_of_ble_eq_true rfl) ?_
  intro p e s m args below meth c hC hlk hno hB ls hl
  have hl : lv_has ls 5 [(0, .ref hx), (1, .int x), (2, .int y)] := hl
  obtain ⟨⟨hE, hP, hD⟩, hXw⟩ := hB
  have hS : va_S (zA z0) s.heap s.heap [] := va_S.rf
  refine lv_iload_n hC.1 hC.2.1 dX0_mixed_0 rfl (lv_at hl 1 rfl) ?_
  exact x_cs (n := 1) (x_checkWord l hst hx9) hC hE hXw hP hD hS hlk hno gX0_mixed_X0_checkWord rfl (by decide +kernel) rfl ⟨by decide, by decide⟩ hl.1 (Nat.le_of_ble_eq_true rfl) dX0_mixed_1 rfl

set_option maxHeartbeats 4000000 in
set_option maxRecDepth 100000 in
theorem x_mixed2 (l : Launch) (hst : l.stackTraces = false) {D : va_G} {T : ClassId × ClassId × ClassId} {z0 : Nat} {L : List Nat} {f : Nat → va_E} {hx w : Nat} (hw : w < 5) {x : Int32} (hx9 : x < 0 ∨ nI 5 ≤ x) : MX l yX0_mixed wsX0_mixed 8 D z0 (zPreX D T z0 L f) L f [.ref hx, .int (nI w), .int x] exI := by
  refine MX.of (cc := cX0_mixed) (maxL := 5) (ret := (some .int)) (by decide) rfl (Nat.le_of_ble_eq_true rfl) ?_
  intro p e s m args below meth c hC hlk hno hB ls hl
  have hl : lv_has ls 5 [(0, .ref hx), (1, .int (nI w)), (2, .int x)] := hl
  obtain ⟨⟨hE, hP, hD⟩, hXw⟩ := hB
  have hS : va_S (zA z0) s.heap s.heap [] := va_S.rf
  refine lv_iload_n hC.1 hC.2.1 dX0_mixed_0 rfl (lv_at hl 1 rfl) ?_
  refine p_cs (n := 1) (k_checkWord l hw) hC gX0_mixed_X0_checkWord rfl (by decide +kernel) rfl ⟨by decide, by decide⟩ ⟨Nat.zero_le _, Nat.zero_le _⟩ hl.1 (Nat.le_of_ble_eq_true rfl) dX0_mixed_1 rfl ?_
  refine lv_iload_n hC.1 hC.2.1 dX0_mixed_4 rfl (lv_at hl 2 rfl) ?_
  exact x_cs (n := 1) (x_checkWord l hst hx9) hC hE hXw hP hD hS hlk hno gX0_mixed_X0_checkWord rfl (by decide +kernel) rfl ⟨by decide, by decide⟩ hl.1 (Nat.le_of_ble_eq_true rfl) dX0_mixed_5 rfl

set_option maxHeartbeats 4000000 in
set_option maxRecDepth 100000 in
theorem x_join3 (l : Launch) (hst : l.stackTraces = false) {D : va_G} {T : ClassId × ClassId × ClassId} {z0 : Nat} {L : List Nat} {f : Nat → va_E} {hx g ln : Nat} {rw : Nat → Nat} {b : Nat → Nat} {mk : Int32} {wd : Nat → List Nat} (hX : CX T L f hx g ln rw b mk wd) {w v : Nat} (hw : w < 5) (hv5 : v < 5) (h12 : 12 < (wd w).length + (wd v).length) : MX l yX0_join wsX0_join 8 D z0 (zPreX D T z0 L f) L f [.ref hx, .int (nI w), .int (nI v)] exS := by
  refine MX.of (cc := cX0_join) (maxL := 5) (ret := (some .int)) (by decide) rfl (Nat.le_of_ble_eq_true rfl) ?_
  intro p e s m args below meth c hC hlk hno hB ls hl
  have hl : lv_has ls 5 [(0, .ref hx), (1, .int (nI w)), (2, .int (nI v))] := hl
  obtain ⟨⟨hE, hP, hD⟩, hXw⟩ := hB
  obtain ⟨⟨hmx, hex⟩, ⟨hmg, G, heg, hG⟩, ⟨hml, Nl, hel, hNl⟩, hrw, hinj, hvb, hwd⟩ := id hX
  have hS : va_S (zA z0) s.heap s.heap [] := va_S.rf
  have hl12 := (hwd w hw).1
  have hl12v := (hwd v hv5).1
  refine lv_iload_n hC.1 hC.2.1 dX0_join_0 rfl (lv_at hl 1 rfl) ?_
  refine p_cs (n := 1) (k_checkWord l hw) hC gX0_join_X0_checkWord rfl (by decide +kernel) rfl ⟨by decide, by decide⟩ ⟨Nat.zero_le _, Nat.zero_le _⟩ hl.1 (Nat.le_of_ble_eq_true rfl) dX0_join_1 rfl ?_
  refine lv_iload_n hC.1 hC.2.1 dX0_join_4 rfl (lv_at hl 2 rfl) ?_
  refine p_cs (n := 1) (k_checkWord l hv5) hC gX0_join_X0_checkWord rfl (by decide +kernel) rfl ⟨by decide, by decide⟩ ⟨Nat.zero_le _, Nat.zero_le _⟩ hl.1 (Nat.le_of_ble_eq_true rfl) dX0_join_5 rfl ?_
  refine lv_aload_n hC.1 hC.2.1 dX0_join_8 rfl (lv_at hl 0 rfl) ?_
  refine p_get (ref := "CornerCube") hC hE hP hmx hex rfl (by decide +kernel) 3 (by decide) (by decide +kernel) rfl rfl dX0_join_9 ?_
  refine lv_iload_n hC.1 hC.2.1 dX0_join_12 rfl (lv_at hl 2 rfl) ?_
  refine p_iald hC hE hP hml hel (by omega) (by decide) dX0_join_13 ?_
  refine q_i (nI (wd v).length) (hNl _ (by omega)) ?_
  refine lv_istore_n (lv' := [(3, .int (nI (wd v).length)), (0, .ref hx), (1, .int (nI w)), (2, .int (nI v))]) hC.1 hC.2.1 dX0_join_14 rfl hl (by decide) rfl (fun ls hl => ?_)
  refine lv_aload_n hC.1 hC.2.1 dX0_join_15 rfl (lv_at hl 1 rfl) ?_
  refine p_get (ref := "CornerCube") hC hE hP hmx hex rfl (by decide +kernel) 3 (by decide) (by decide +kernel) rfl rfl dX0_join_16 ?_
  refine lv_iload_n hC.1 hC.2.1 dX0_join_19 rfl (lv_at hl 2 rfl) ?_
  refine p_iald hC hE hP hml hel (by omega) (by decide) dX0_join_20 ?_
  refine q_i (nI (wd w).length) (hNl _ (by omega)) ?_
  refine lv_iload_n hC.1 hC.2.1 dX0_join_21 rfl (lv_at hl 0 rfl) ?_
  refine z_iadd hC dX0_join_22 ?_
  refine lv_bipush (v := (nI 12)) hC.1 hC.2.1 dX0_join_23 (by decide) ?_
  refine z_icmp_le (tgt := 38) hC dX0_join_25 (by decide) (by omega) (by omega) (fun h_25 => by omega) (fun h_25 => ?_)
  exact x_throw (cls := exS) (text := "these would be more than 12 turns") (ik := 57) (is := 74) (ic := 61) hC hst hE hXw hP hD hS hlk hno hXw.2.2.1 (by decide) (by decide +kernel) (by decide +kernel) (by decide +kernel) (by decide +kernel) (by decide +kernel) (by decide +kernel) hl.1 dX0_join_28 dX0_join_31 dX0_join_32 dX0_join_34 dX0_join_37 (by decide)

set_option maxHeartbeats 4000000 in
set_option maxRecDepth 100000 in
theorem x_told1 (l : Launch) (hst : l.stackTraces = false) {D : va_G} {T : ClassId × ClassId × ClassId} {z0 : Nat} {L : List Nat} {f : Nat → va_E} {hx : Nat} {x y : Int32} (hx9 : x < 0 ∨ nI 8 ≤ x) : MX l yX0_told wsX0_told 8 D z0 (zPreX D T z0 L f) L f [.ref hx, .int x, .int y] exI := by
  refine MX.of (cc := cX0_told) (maxL := 3) (ret := (some .int)) (by decide) rfl (Nat.le_of_ble_eq_true rfl) ?_
  intro p e s m args below meth c hC hlk hno hB ls hl
  have hl : lv_has ls 3 [(0, .ref hx), (1, .int x), (2, .int y)] := hl
  obtain ⟨⟨hE, hP, hD⟩, hXw⟩ := hB
  have hS : va_S (zA z0) s.heap s.heap [] := va_S.rf
  refine lv_iload_n hC.1 hC.2.1 dX0_told_0 rfl (lv_at hl 1 rfl) ?_
  exact x_cs (n := 1) (x_checkPlace l hst hx9) hC hE hXw hP hD hS hlk hno gX0_told_X0_checkPlace rfl (by decide +kernel) rfl ⟨by decide, by decide⟩ hl.1 (Nat.le_of_ble_eq_true rfl) dX0_told_1 rfl

set_option maxHeartbeats 4000000 in
set_option maxRecDepth 100000 in
theorem x_told2 (l : Launch) (hst : l.stackTraces = false) {D : va_G} {T : ClassId × ClassId × ClassId} {z0 : Nat} {L : List Nat} {f : Nat → va_E} {hx q : Nat} (hq : q < 8) {x : Int32} (hx9 : x < 0 ∨ nI 3 ≤ x) : MX l yX0_told wsX0_told 8 D z0 (zPreX D T z0 L f) L f [.ref hx, .int (nI q), .int x] exI := by
  refine MX.of (cc := cX0_told) (maxL := 3) (ret := (some .int)) (by decide) rfl (Nat.le_of_ble_eq_true rfl) ?_
  intro p e s m args below meth c hC hlk hno hB ls hl
  have hl : lv_has ls 3 [(0, .ref hx), (1, .int (nI q)), (2, .int x)] := hl
  obtain ⟨⟨hE, hP, hD⟩, hXw⟩ := hB
  have hS : va_S (zA z0) s.heap s.heap [] := va_S.rf
  refine lv_iload_n hC.1 hC.2.1 dX0_told_0 rfl (lv_at hl 1 rfl) ?_
  refine p_cs (n := 1) (k_checkPlace l hq) hC gX0_told_X0_checkPlace rfl (by decide +kernel) rfl ⟨by decide, by decide⟩ ⟨Nat.zero_le _, Nat.zero_le _⟩ hl.1 (Nat.le_of_ble_eq_true rfl) dX0_told_1 rfl ?_
  refine lv_iload_n hC.1 hC.2.1 dX0_told_4 rfl (lv_at hl 2 rfl) ?_
  refine lv_iconst (v := (nI 3)) hC.1 hC.2.1 dX0_told_5 (by decide) ?_
  exact x_cs (n := 2) (x_checkWhat l hst hx9) hC hE hXw hP hD hS hlk hno gX0_told_X0_checkWhat rfl (by decide +kernel) rfl ⟨by decide, by decide⟩ hl.1 (Nat.le_of_ble_eq_true rfl) dX0_told_6 rfl

set_option maxHeartbeats 4000000 in
set_option maxRecDepth 100000 in
theorem x_where1 (l : Launch) (hst : l.stackTraces = false) {D : va_G} {T : ClassId × ClassId × ClassId} {z0 : Nat} {L : List Nat} {f : Nat → va_E} {hx : Nat} {x : Int32} (hx9 : x < 0 ∨ nI 8 ≤ x) : MX l yX0_where wsX0_where 8 D z0 (zPreX D T z0 L f) L f [.ref hx, .int x] exI := by
  refine MX.of (cc := cX0_where) (maxL := 3) (ret := (some .int)) (by decide) rfl (Nat.le_of_ble_eq_true rfl) ?_
  intro p e s m args below meth c hC hlk hno hB ls hl
  have hl : lv_has ls 3 [(0, .ref hx), (1, .int x)] := hl
  obtain ⟨⟨hE, hP, hD⟩, hXw⟩ := hB
  have hS : va_S (zA z0) s.heap s.heap [] := va_S.rf
  refine lv_iload_n hC.1 hC.2.1 dX0_where_0 rfl (lv_at hl 1 rfl) ?_
  refine lv_if_lt (tgt := 10) hC.1 hC.2.1 dX0_where_1 (by decide) (fun h_1 => ?_) (fun h_1 => ?_)
  · exact x_throw (cls := exI) (text := "corner is not 0 to 7") (ik := 98) (is := 100) (ic := 102) hC hst hE hXw hP hD hS hlk hno hXw.1 (by decide) (by decide +kernel) (by decide +kernel) (by decide +kernel) (by decide +kernel) (by decide +kernel) (by decide +kernel) hl.1 dX0_where_10 dX0_where_13 dX0_where_14 dX0_where_16 dX0_where_19 (by decide)
  · refine lv_iload_n hC.1 hC.2.1 dX0_where_4 rfl (lv_at hl 1 rfl) ?_
    refine lv_bipush (v := (nI 8)) hC.1 hC.2.1 dX0_where_5 (by decide) ?_
    refine lv_icmp_lt (tgt := 20) hC.1 hC.2.1 dX0_where_7 (by decide) (fun h_7 => (x_lo hx9 h_1 h_7).elim) (fun h_7 => ?_)
    exact x_throw (cls := exI) (text := "corner is not 0 to 7") (ik := 98) (is := 100) (ic := 102) hC hst hE hXw hP hD hS hlk hno hXw.1 (by decide) (by decide +kernel) (by decide +kernel) (by decide +kernel) (by decide +kernel) (by decide +kernel) (by decide +kernel) hl.1 dX0_where_10 dX0_where_13 dX0_where_14 dX0_where_16 dX0_where_19 (by decide)

set_option maxHeartbeats 4000000 in
set_option maxRecDepth 100000 in
theorem x_count1 (l : Launch) (hst : l.stackTraces = false) {D : va_G} {T : ClassId × ClassId × ClassId} {z0 : Nat} {L : List Nat} {f : Nat → va_E} {hx : Nat} {x : Int32} (hx9 : x < 0 ∨ nI 7 ≤ x) : MX l yX0_count wsX0_count 8 D z0 (zPreX D T z0 L f) L f [.ref hx, .int x] exI := by
  refine MX.of (cc := cX0_count) (maxL := 2) (ret := (some .int)) (by decide) rfl (Nat.le_of_ble_eq_true rfl) ?_
  intro p e s m args below meth c hC hlk hno hB ls hl
  have hl : lv_has ls 2 [(0, .ref hx), (1, .int x)] := hl
  obtain ⟨⟨hE, hP, hD⟩, hXw⟩ := hB
  have hS : va_S (zA z0) s.heap s.heap [] := va_S.rf
  refine lv_iload_n hC.1 hC.2.1 dX0_count_0 rfl (lv_at hl 1 rfl) ?_
  refine lv_bipush (v := (nI 7)) hC.1 hC.2.1 dX0_count_1 (by decide) ?_
  exact x_cs (n := 2) (x_checkWhat l hst hx9) hC hE hXw hP hD hS hlk hno gX0_count_X0_checkWhat rfl (by decide +kernel) rfl ⟨by decide, by decide⟩ hl.1 (Nat.le_of_ble_eq_true rfl) dX0_count_3 rfl

set_option maxHeartbeats 4000000 in
set_option maxRecDepth 100000 in
theorem x_word1 (l : Launch) (hst : l.stackTraces = false) {D : va_G} {T : ClassId × ClassId × ClassId} {z0 : Nat} {L : List Nat} {f : Nat → va_E} {hx : Nat} {x y : Int32} (hx9 : x < 0 ∨ nI 5 ≤ x) : MX l yX0_word wsX0_word 8 D z0 (zPreX D T z0 L f) L f [.ref hx, .int x, .int y] exI := by
  refine MX.of (cc := cX0_word) (maxL := 3) (ret := (some .int)) (by decide) rfl (Nat.le_of_ble_eq_true rfl) ?_
  intro p e s m args below meth c hC hlk hno hB ls hl
  have hl : lv_has ls 3 [(0, .ref hx), (1, .int x), (2, .int y)] := hl
  obtain ⟨⟨hE, hP, hD⟩, hXw⟩ := hB
  have hS : va_S (zA z0) s.heap s.heap [] := va_S.rf
  refine lv_iload_n hC.1 hC.2.1 dX0_word_0 rfl (lv_at hl 1 rfl) ?_
  exact x_cs (n := 1) (x_checkWord l hst hx9) hC hE hXw hP hD hS hlk hno gX0_word_X0_checkWord rfl (by decide +kernel) rfl ⟨by decide, by decide⟩ hl.1 (Nat.le_of_ble_eq_true rfl) dX0_word_1 rfl

set_option maxHeartbeats 4000000 in
set_option maxRecDepth 100000 in
theorem x_word2 (l : Launch) (hst : l.stackTraces = false) {D : va_G} {T : ClassId × ClassId × ClassId} {z0 : Nat} {L : List Nat} {f : Nat → va_E} {hx w : Nat} (hw : w < 5) {x : Int32} (hx9 : x < 0 ∨ nI 4 ≤ x) : MX l yX0_word wsX0_word 8 D z0 (zPreX D T z0 L f) L f [.ref hx, .int (nI w), .int x] exI := by
  refine MX.of (cc := cX0_word) (maxL := 3) (ret := (some .int)) (by decide) rfl (Nat.le_of_ble_eq_true rfl) ?_
  intro p e s m args below meth c hC hlk hno hB ls hl
  have hl : lv_has ls 3 [(0, .ref hx), (1, .int (nI w)), (2, .int x)] := hl
  obtain ⟨⟨hE, hP, hD⟩, hXw⟩ := hB
  have hS : va_S (zA z0) s.heap s.heap [] := va_S.rf
  refine lv_iload_n hC.1 hC.2.1 dX0_word_0 rfl (lv_at hl 1 rfl) ?_
  refine p_cs (n := 1) (k_checkWord l hw) hC gX0_word_X0_checkWord rfl (by decide +kernel) rfl ⟨by decide, by decide⟩ ⟨Nat.zero_le _, Nat.zero_le _⟩ hl.1 (Nat.le_of_ble_eq_true rfl) dX0_word_1 rfl ?_
  refine lv_iload_n hC.1 hC.2.1 dX0_word_4 rfl (lv_at hl 2 rfl) ?_
  refine lv_iconst (v := (nI 4)) hC.1 hC.2.1 dX0_word_5 (by decide) ?_
  exact x_cs (n := 2) (x_checkWhat l hst hx9) hC hE hXw hP hD hS hlk hno gX0_word_X0_checkWhat rfl (by decide +kernel) rfl ⟨by decide, by decide⟩ hl.1 (Nat.le_of_ble_eq_true rfl) dX0_word_6 rfl

set_option maxHeartbeats 4000000 in
set_option maxRecDepth 100000 in
theorem x_at1 (l : Launch) (hst : l.stackTraces = false) {D : va_G} {T : ClassId × ClassId × ClassId} {z0 : Nat} {L : List Nat} {f : Nat → va_E} {hx : Nat} {x y : Int32} (hx9 : x < 0 ∨ nI 5 ≤ x) : MX l yX0_at wsX0_at 8 D z0 (zPreX D T z0 L f) L f [.ref hx, .int x, .int y] exI := by
  refine MX.of (cc := cX0_at) (maxL := 3) (ret := (some .int)) (by decide) rfl (Nat.le_of_ble_eq_true rfl) ?_
  intro p e s m args below meth c hC hlk hno hB ls hl
  have hl : lv_has ls 3 [(0, .ref hx), (1, .int x), (2, .int y)] := hl
  obtain ⟨⟨hE, hP, hD⟩, hXw⟩ := hB
  have hS : va_S (zA z0) s.heap s.heap [] := va_S.rf
  refine lv_iload_n hC.1 hC.2.1 dX0_at_0 rfl (lv_at hl 1 rfl) ?_
  exact x_cs (n := 1) (x_checkWord l hst hx9) hC hE hXw hP hD hS hlk hno gX0_at_X0_checkWord rfl (by decide +kernel) rfl ⟨by decide, by decide⟩ hl.1 (Nat.le_of_ble_eq_true rfl) dX0_at_1 rfl

set_option maxHeartbeats 4000000 in
set_option maxRecDepth 100000 in
theorem x_at2 (l : Launch) (hst : l.stackTraces = false) {D : va_G} {T : ClassId × ClassId × ClassId} {z0 : Nat} {L : List Nat} {f : Nat → va_E} {hx g ln : Nat} {rw : Nat → Nat} {b : Nat → Nat} {mk : Int32} {wd : Nat → List Nat} (hX : CX T L f hx g ln rw b mk wd) {w : Nat} (hw : w < 5) {x : Int32} (hx9 : x < 0 ∨ nI (wd w).length ≤ x) : MX l yX0_at wsX0_at 8 D z0 (zPreX D T z0 L f) L f [.ref hx, .int (nI w), .int x] exI := by
  refine MX.of (cc := cX0_at) (maxL := 3) (ret := (some .int)) (by decide) rfl (Nat.le_of_ble_eq_true rfl) ?_
  intro p e s m args below meth c hC hlk hno hB ls hl
  have hl : lv_has ls 3 [(0, .ref hx), (1, .int (nI w)), (2, .int x)] := hl
  obtain ⟨⟨hE, hP, hD⟩, hXw⟩ := hB
  obtain ⟨⟨hmx, hex⟩, ⟨hmg, G, heg, hG⟩, ⟨hml, Nl, hel, hNl⟩, hrw, hinj, hvb, hwd⟩ := id hX
  have hS : va_S (zA z0) s.heap s.heap [] := va_S.rf
  refine lv_iload_n hC.1 hC.2.1 dX0_at_0 rfl (lv_at hl 1 rfl) ?_
  refine p_cs (n := 1) (k_checkWord l hw) hC gX0_at_X0_checkWord rfl (by decide +kernel) rfl ⟨by decide, by decide⟩ ⟨Nat.zero_le _, Nat.zero_le _⟩ hl.1 (Nat.le_of_ble_eq_true rfl) dX0_at_1 rfl ?_
  refine lv_iload_n hC.1 hC.2.1 dX0_at_4 rfl (lv_at hl 2 rfl) ?_
  refine lv_if_lt (tgt := 18) hC.1 hC.2.1 dX0_at_5 (by decide) (fun h_5 => ?_) (fun h_5 => ?_)
  · exact x_throw (cls := exI) (text := "the word has no such place") (ik := 98) (is := 123) (ic := 102) hC hst hE hXw hP hD hS hlk hno hXw.1 (by decide) (by decide +kernel) (by decide +kernel) (by decide +kernel) (by decide +kernel) (by decide +kernel) (by decide +kernel) hl.1 dX0_at_18 dX0_at_21 dX0_at_22 dX0_at_24 dX0_at_27 (by decide)
  · refine lv_iload_n hC.1 hC.2.1 dX0_at_8 rfl (lv_at hl 2 rfl) ?_
    refine lv_aload_n hC.1 hC.2.1 dX0_at_9 rfl (lv_at hl 0 rfl) ?_
    refine p_get (ref := "CornerCube") hC hE hP hmx hex rfl (by decide +kernel) 3 (by decide) (by decide +kernel) rfl rfl dX0_at_10 ?_
    refine lv_iload_n hC.1 hC.2.1 dX0_at_13 rfl (lv_at hl 1 rfl) ?_
    refine p_iald hC hE hP hml hel (by omega) (by decide) dX0_at_14 ?_
    refine q_i (nI (wd w).length) (hNl _ (by omega)) ?_
    refine lv_icmp_lt (tgt := 28) hC.1 hC.2.1 dX0_at_15 (by decide) (fun h_15 => (x_lo hx9 h_5 h_15).elim) (fun h_15 => ?_)
    exact x_throw (cls := exI) (text := "the word has no such place") (ik := 98) (is := 123) (ic := 102) hC hst hE hXw hP hD hS hlk hno hXw.1 (by decide) (by decide +kernel) (by decide +kernel) (by decide +kernel) (by decide +kernel) (by decide +kernel) (by decide +kernel) hl.1 dX0_at_18 dX0_at_21 dX0_at_22 dX0_at_24 dX0_at_27 (by decide)

set_option maxHeartbeats 4000000 in
set_option maxRecDepth 100000 in
theorem x_far1 (l : Launch) (hst : l.stackTraces = false) {D : va_G} {T : ClassId × ClassId × ClassId} {z0 : Nat} {L : List Nat} {f : Nat → va_E} {hx : Nat} {x : Int32} (hx9 : x < 0 ∨ nI 5 < x) : MX l yX0_far wsX0_far 8 D z0 (zPreX D T z0 L f) L f [.ref hx, .int x] exA := by
  refine MX.of (cc := cX0_far) (maxL := 2) (ret := (some .int)) (by decide) rfl (Nat.le_of_ble_eq_true rfl) ?_
  intro p e s m args below meth c hC hlk hno hB ls hl
  have hl : lv_has ls 2 [(0, .ref hx), (1, .int x)] := hl
  obtain ⟨⟨hE, hP, hD⟩, hXw⟩ := hB
  have hS : va_S (zA z0) s.heap s.heap [] := va_S.rf
  refine lv_iload_n hC.1 hC.2.1 dX0_far_0 rfl (lv_at hl 1 rfl) ?_
  exact x_cs (n := 1) (x_checkMost l hst hx9) hC hE hXw hP hD hS hlk hno gX0_far_X0_checkMost rfl (by decide +kernel) rfl ⟨by decide, by decide⟩ hl.1 (Nat.le_of_ble_eq_true rfl) dX0_far_1 rfl

set_option maxHeartbeats 4000000 in
set_option maxRecDepth 100000 in
theorem x_first1 (l : Launch) (hst : l.stackTraces = false) {D : va_G} {T : ClassId × ClassId × ClassId} {z0 : Nat} {L : List Nat} {f : Nat → va_E} {hx : Nat} {x : Int32} (hx9 : x < 0 ∨ nI 5 < x) : MX l yX0_first wsX0_first 8 D z0 (zPreX D T z0 L f) L f [.ref hx, .int x] exA := by
  refine MX.of (cc := cX0_first) (maxL := 4) (ret := (some .int)) (by decide) rfl (Nat.le_of_ble_eq_true rfl) ?_
  intro p e s m args below meth c hC hlk hno hB ls hl
  have hl : lv_has ls 4 [(0, .ref hx), (1, .int x)] := hl
  obtain ⟨⟨hE, hP, hD⟩, hXw⟩ := hB
  have hS : va_S (zA z0) s.heap s.heap [] := va_S.rf
  refine lv_iload_n hC.1 hC.2.1 dX0_first_0 rfl (lv_at hl 1 rfl) ?_
  exact x_cs (n := 1) (x_checkMost l hst hx9) hC hE hXw hP hD hS hlk hno gX0_first_X0_checkMost rfl (by decide +kernel) rfl ⟨by decide, by decide⟩ hl.1 (Nat.le_of_ble_eq_true rfl) dX0_first_1 rfl

set_option maxHeartbeats 4000000 in
set_option maxRecDepth 100000 in
theorem x_shortest1 (l : Launch) (hst : l.stackTraces = false) {D : va_G} {T : ClassId × ClassId × ClassId} {z0 : Nat} {L : List Nat} {f : Nat → va_E} {hx : Nat} {x y : Int32} (hx9 : x < 0 ∨ nI 5 ≤ x) : MX l yX0_shortest wsX0_shortest 8 D z0 (zPreX D T z0 L f) L f [.ref hx, .int x, .int y] exI := by
  refine MX.of (cc := cX0_shortest) (maxL := 3) (ret := (some .int)) (by decide) rfl (Nat.le_of_ble_eq_true rfl) ?_
  intro p e s m args below meth c hC hlk hno hB ls hl
  have hl : lv_has ls 3 [(0, .ref hx), (1, .int x), (2, .int y)] := hl
  obtain ⟨⟨hE, hP, hD⟩, hXw⟩ := hB
  have hS : va_S (zA z0) s.heap s.heap [] := va_S.rf
  refine lv_iload_n hC.1 hC.2.1 dX0_shortest_0 rfl (lv_at hl 1 rfl) ?_
  exact x_cs (n := 1) (x_checkWord l hst hx9) hC hE hXw hP hD hS hlk hno gX0_shortest_X0_checkWord rfl (by decide +kernel) rfl ⟨by decide, by decide⟩ hl.1 (Nat.le_of_ble_eq_true rfl) dX0_shortest_1 rfl

set_option maxHeartbeats 4000000 in
set_option maxRecDepth 100000 in
theorem x_shortest2 (l : Launch) (hst : l.stackTraces = false) {D : va_G} {T : ClassId × ClassId × ClassId} {z0 : Nat} {L : List Nat} {f : Nat → va_E} {hx w : Nat} (hw : w < 5) {x : Int32} (hx9 : x < 0 ∨ nI 5 < x) : MX l yX0_shortest wsX0_shortest 8 D z0 (zPreX D T z0 L f) L f [.ref hx, .int (nI w), .int x] exA := by
  refine MX.of (cc := cX0_shortest) (maxL := 3) (ret := (some .int)) (by decide) rfl (Nat.le_of_ble_eq_true rfl) ?_
  intro p e s m args below meth c hC hlk hno hB ls hl
  have hl : lv_has ls 3 [(0, .ref hx), (1, .int (nI w)), (2, .int x)] := hl
  obtain ⟨⟨hE, hP, hD⟩, hXw⟩ := hB
  have hS : va_S (zA z0) s.heap s.heap [] := va_S.rf
  refine lv_iload_n hC.1 hC.2.1 dX0_shortest_0 rfl (lv_at hl 1 rfl) ?_
  refine p_cs (n := 1) (k_checkWord l hw) hC gX0_shortest_X0_checkWord rfl (by decide +kernel) rfl ⟨by decide, by decide⟩ ⟨Nat.zero_le _, Nat.zero_le _⟩ hl.1 (Nat.le_of_ble_eq_true rfl) dX0_shortest_1 rfl ?_
  refine lv_iload_n hC.1 hC.2.1 dX0_shortest_4 rfl (lv_at hl 2 rfl) ?_
  exact x_cs (n := 1) (x_checkMost l hst hx9) hC hE hXw hP hD hS hlk hno gX0_shortest_X0_checkMost rfl (by decide +kernel) rfl ⟨by decide, by decide⟩ hl.1 (Nat.le_of_ble_eq_true rfl) dX0_shortest_5 rfl
