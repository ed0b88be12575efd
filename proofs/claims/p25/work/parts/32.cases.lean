/-! MY ROWS 32: the law's cases, and what it holds after each (laid by a program of mine) -/
/-- the law goes on at pc, from any state of the class in which corners and twists are as they must be -/
def LGO (p : Program) (l : Launch) (e : Env) (s : State) (m : MethodId) (args : Array Value) (below : List Frame) (meth : Method) (c : Code) (Q : State → Prop) (D : va_G) (T : ClassId × ClassId × ClassId) (z0 : Nat) (hx g ln : Nat) (rw : Nat → Nat) (sc i pc : Nat) : Prop :=
  ∀ (L : List Nat) (f : Nat → va_E) (H : Heap) (locs : List Loc) (b : Nat → Nat) (mk : Int32) (wd : Nat → List Nat) (ls : Array Slot), CX T L f hx g ln rw b mk wd → PM b → TW b → va_P D vwCl (va_pl L f) H → va_D (zA z0) (va_pl L f) → va_S (zA z0) s.heap H locs → lv_has ls 16 [(0, .ref sc), (1, .ref hx), (2, .int (nI i))] → W p l e room_1 s m args below meth c H locs 13 134 Q (F0 m pc ls [])
theorem sh1 : ∀ c, c < 8 → nI 1 <<< (nI c &&& 31) = nI (2 ^ c) := by decide +kernel
theorem or_nI (a b : Nat) : nI a ||| nI b = nI (a ||| b) := by
  apply i32_ext
  intro j hj
  rw [Int32.toBitVec_or, BitVec.getLsbD_or, nI_bit _ _ hj, nI_bit _ _ hj, nI_bit _ _ hj, Nat.testBit_or]
theorem PM.ord {b : Nat → Nat} (h : PM b) : ordN b < 1000 := h.gb2.2.2.2.2
set_option maxHeartbeats 4000000 in
set_option maxRecDepth 100000 in
theorem t_tail {p : Program} {l : Launch} {e : Env} {s : State} {m : MethodId} {args : Array Value} {below : List Frame} {meth : Method} {c : Code} {Q : State → Prop} {D : va_G} {T : ClassId × ClassId × ClassId} {z0 : Nat} {hx g ln : Nat} {rw : Nat → Nat} {sc i : Nat} (hC : CallFix p m c cL_law 16 s args wsL_law RL) (hE : zE D T z0 s) (kk : LGO p l e s m args below meth c Q D T z0 hx g ln rw sc i 641) : LGO p l e s m args below meth c Q D T z0 hx g ln rw sc i 484 := by
  intro L f H locs b mk wd ls hX hPM hTW hP hD hS hl
  have hv := hPM.1
  have hOb := hPM.ord
  refine lv_iconst (v := (nI 0)) hC.1 hC.2.1 dL_law_484 (by decide) ?_
  refine lv_istore (lv' := [(12, .int (nI 0)), (0, .ref sc), (1, .ref hx), (2, .int (nI i))]) hC.1 hC.2.1 dL_law_485 hl (by decide) rfl (fun ls hl => ?_)
  refine lv_iconst (v := (nI 0)) hC.1 hC.2.1 dL_law_487 (by decide) ?_
  refine lv_istore (lv' := [(13, .int (nI 0)), (12, .int (nI 0)), (0, .ref sc), (1, .ref hx), (2, .int (nI i))]) hC.1 hC.2.1 dL_law_488 hl (by decide) rfl (fun ls hl => ?_)
  refine lv_iconst (v := (nI 0)) hC.1 hC.2.1 dL_law_490 (by decide) ?_
  refine lv_istore (lv' := [(14, .int (nI 0)), (13, .int (nI 0)), (12, .int (nI 0)), (0, .ref sc), (1, .ref hx), (2, .int (nI i))]) hC.1 hC.2.1 dL_law_491 hl (by decide) rfl (fun ls hl => ?_)
  refine lv_iconst (v := (nI 0)) hC.1 hC.2.1 dL_law_493 (by decide) ?_
  refine lv_istore (lv' := [(15, .int (nI 0)), (14, .int (nI 0)), (13, .int (nI 0)), (12, .int (nI 0)), (0, .ref sc), (1, .ref hx), (2, .int (nI i))]) hC.1 hC.2.1 dL_law_494 hl (by decide) rfl (fun ls hl => ?_)
  have loop : ∀ (r k : Nat), k + r = 8 → ∀ ls : Array Slot, lv_has ls 16 [(15, .int (nI k)), (14, .int (nI (ct (fun i => decide (b i = i)) k))), (13, .int (nI (tsm b k))), (12, .int (nI (orF b k))), (0, .ref sc), (1, .ref hx), (2, .int (nI i))] → W p l e room_1 s m args below meth c H locs 13 134 Q (F0 m 496 ls []) := by
    intro r
    induction r with
    | zero =>
      intro k hk ls hl
      obtain rfl : k = 8 := by omega
      have hl : lv_has ls 16 [(15, .int (nI 8)), (14, .int (nI (nRt b))), (13, .int (nI (tsm b 8))), (12, .int (nI (orF b 8))), (0, .ref sc), (1, .ref hx), (2, .int (nI i))] := hl
      have h24 := tsm_lt hv 8 (Nat.le_refl 8)
      have h8 := nRt_le b
      have h255 := orF_8 hPM
      refine lv_iload hC.1 hC.2.1 dL_law_496 (lv_at hl 0 rfl) ?_
      refine lv_bipush (v := (nI 8)) hC.1 hC.2.1 dL_law_498 (by decide) ?_
      refine z_icmp_ge (tgt := 565) hC dL_law_500 (by decide) (by omega) (by omega) (fun h_500 => ?_) (fun h_500 => by omega)
      refine lv_iload hC.1 hC.2.1 dL_law_565 (lv_at hl 3 rfl) ?_
      refine lv_sipush (v := (nI 255)) hC.1 hC.2.1 dL_law_567 (by decide) ?_
      refine z_icmp_ne (tgt := 639) hC dL_law_570 (by decide) (by omega) (by omega) (fun h_570 => absurd h255 h_570) (fun h_570 => ?_)
      refine lv_iload hC.1 hC.2.1 dL_law_573 (lv_at hl 2 rfl) ?_
      refine lv_iconst (v := (nI 3)) hC.1 hC.2.1 dL_law_575 (by decide) ?_
      refine z_irem hC dL_law_576 (by omega) (by decide) (by decide) ?_
      refine z_if_ne (tgt := 639) hC dL_law_577 (by decide) (by omega) (fun h_577 => absurd hTW h_577) (fun h_577 => ?_)
      refine lv_iload hC.1 hC.2.1 dL_law_580 (lv_at hl 1 rfl) ?_
      refine lv_aload_n hC.1 hC.2.1 dL_law_582 rfl (lv_at hl 5 rfl) ?_
      refine lv_iconst (v := (nI 1)) hC.1 hC.2.1 dL_law_583 (by decide) ?_
      refine p_cvB (n := 1) (k_count l hX hOb (what := 1) (by decide)) hC hE hP hD hS (hX.1.1) (hX.1.2) rfl gL_law_X0_count rfl (by decide +kernel) rfl ⟨by decide, by decide⟩ ⟨by show _ ≤ 600130; omega, by show _ ≤ 7301080; omega⟩ hl.1 (Nat.le_of_ble_eq_true rfl) dL_law_584 rfl ?_
      refine z_icmp_ne (tgt := 639) hC dL_law_587 (by decide) (Nat.lt_of_le_of_lt (ct_le _ 8) (by decide)) (Nat.lt_of_le_of_lt (ct_le _ 8) (by decide)) (fun h_587 => absurd rfl h_587) (fun h_587 => ?_)
      refine lv_aload_n hC.1 hC.2.1 dL_law_590 rfl (lv_at hl 5 rfl) ?_
      refine lv_iconst (v := (nI 2)) hC.1 hC.2.1 dL_law_591 (by decide) ?_
      refine p_cvB (n := 1) (k_count l hX hOb (what := 2) (by decide)) hC hE hP hD hS (hX.1.1) (hX.1.2) rfl gL_law_X0_count rfl (by decide +kernel) rfl ⟨by decide, by decide⟩ ⟨by show _ ≤ 600130; omega, by show _ ≤ 7301080; omega⟩ hl.1 (Nat.le_of_ble_eq_true rfl) dL_law_592 rfl ?_
      refine lv_iload hC.1 hC.2.1 dL_law_595 (lv_at hl 1 rfl) ?_
      refine z_icmp_lt (tgt := 639) hC dL_law_597 (by decide) (Nat.lt_of_le_of_lt (ct_le _ 8) (by decide)) (Nat.lt_of_le_of_lt (ct_le _ 8) (by decide)) (fun h_597 => absurd (nPl_ge b) (Nat.not_le.mpr h_597)) (fun h_597 => ?_)
      refine lv_aload_n hC.1 hC.2.1 dL_law_600 rfl (lv_at hl 5 rfl) ?_
      refine lv_iconst (v := (nI 3)) hC.1 hC.2.1 dL_law_601 (by decide) ?_
      refine p_cvB (n := 1) (k_count l hX hOb (what := 3) (by decide)) hC hE hP hD hS (hX.1.1) (hX.1.2) rfl gL_law_X0_count rfl (by decide +kernel) rfl ⟨by decide, by decide⟩ ⟨by show _ ≤ 600130; omega, by show _ ≤ 7301080; omega⟩ hl.1 (Nat.le_of_ble_eq_true rfl) dL_law_602 rfl ?_
      refine lv_iload hC.1 hC.2.1 dL_law_605 (lv_at hl 1 rfl) ?_
      refine z_icmp_lt (tgt := 639) hC dL_law_607 (by decide) (Nat.lt_of_le_of_lt (ct_le _ 8) (by decide)) (Nat.lt_of_le_of_lt (ct_le _ 8) (by decide)) (fun h_607 => absurd (nUt_ge b) (Nat.not_le.mpr h_607)) (fun h_607 => ?_)
      refine lv_aload_n hC.1 hC.2.1 dL_law_610 rfl (lv_at hl 5 rfl) ?_
      refine lv_iconst (v := (nI 5)) hC.1 hC.2.1 dL_law_611 (by decide) ?_
      refine p_cvB (n := 1) (k_count l hX hOb (what := 5) (by decide)) hC hE hP hD hS (hX.1.1) (hX.1.2) rfl gL_law_X0_count rfl (by decide +kernel) rfl ⟨by decide, by decide⟩ ⟨by show _ ≤ 600130; omega, by show _ ≤ 7301080; omega⟩ hl.1 (Nat.le_of_ble_eq_true rfl) dL_law_612 rfl ?_
      refine lv_iconst (v := (nI 1)) hC.1 hC.2.1 dL_law_615 (by decide) ?_
      refine z_icmp_ne (tgt := 623) hC dL_law_616 (by decide) (by omega) (by omega) (fun h_616 => ?_) (fun h_616 => ?_)
      · refine lv_iconst (v := (nI 0)) hC.1 hC.2.1 dL_law_623 (by decide) ?_
        refine lv_iload hC.1 hC.2.1 dL_law_624 (lv_at hl 1 rfl) ?_
        refine lv_bipush (v := (nI 8)) hC.1 hC.2.1 dL_law_626 (by decide) ?_
        refine z_icmp_ne (tgt := 635) hC dL_law_628 (by decide) (by omega) (by omega) (fun h_628 => ?_) (fun h_628 => absurd ((ordN_0 hv).mpr h_628) h_616)
        refine lv_iconst (v := (nI 0)) hC.1 hC.2.1 dL_law_635 (by decide) ?_
        refine z_icmp_eq (tgt := 641) hC dL_law_636 (by decide) (by decide) (by decide) (fun h_636 => ?_) (fun h_636 => absurd rfl h_636)
        exact kk _ _ _ _ _ _ _ _ hX hPM hTW hP hD hS (lv_sub hl [4, 5, 6] rfl)
      · refine lv_iconst (v := (nI 1)) hC.1 hC.2.1 dL_law_619 (by decide) ?_
        refine lv_goto (tgt := 624) hC.1 hC.2.1 dL_law_620 (by decide) ?_
        refine lv_iload hC.1 hC.2.1 dL_law_624 (lv_at hl 1 rfl) ?_
        refine lv_bipush (v := (nI 8)) hC.1 hC.2.1 dL_law_626 (by decide) ?_
        refine z_icmp_ne (tgt := 635) hC dL_law_628 (by decide) (by omega) (by omega) (fun h_628 => absurd ((ordN_0 hv).mp h_616) h_628) (fun h_628 => ?_)
        refine lv_iconst (v := (nI 1)) hC.1 hC.2.1 dL_law_631 (by decide) ?_
        refine lv_goto (tgt := 636) hC.1 hC.2.1 dL_law_632 (by decide) ?_
        refine z_icmp_eq (tgt := 641) hC dL_law_636 (by decide) (by decide) (by decide) (fun h_636 => ?_) (fun h_636 => absurd rfl h_636)
        exact kk _ _ _ _ _ _ _ _ hX hPM hTW hP hD hS (lv_sub hl [4, 5, 6] rfl)
    | succ r ih =>
      intro k hk ls hl
      have hk8 : k < 8 := by omega
      refine lv_iload hC.1 hC.2.1 dL_law_496 (lv_at hl 0 rfl) ?_
      refine lv_bipush (v := (nI 8)) hC.1 hC.2.1 dL_law_498 (by decide) ?_
      refine z_icmp_ge (tgt := 565) hC dL_law_500 (by decide) (by omega) (by omega) (fun h_500 => by omega) (fun h_500 => ?_)
      refine lv_iload hC.1 hC.2.1 dL_law_503 (lv_at hl 3 rfl) ?_
      refine lv_iconst (v := (nI 1)) hC.1 hC.2.1 dL_law_505 (by decide) ?_
      refine lv_aload_n hC.1 hC.2.1 dL_law_506 rfl (lv_at hl 5 rfl) ?_
      refine lv_iload hC.1 hC.2.1 dL_law_507 (lv_at hl 0 rfl) ?_
      refine lv_iconst (v := (nI 0)) hC.1 hC.2.1 dL_law_509 (by decide) ?_
      refine p_cvB (n := 2) (k_told l hX (q := k) (what := 0) hk8 (by decide)) hC hE hP hD hS (hX.1.1) (hX.1.2) rfl gL_law_X0_told rfl (by decide +kernel) rfl ⟨by decide, by decide⟩ ⟨by show _ ≤ 600130; omega, by show _ ≤ 7301080; omega⟩ hl.1 (Nat.le_of_ble_eq_true rfl) dL_law_510 rfl ?_
      refine q_i (nI (b k % 8)) (rfl) ?_
      refine lv_ishl hC.1 hC.2.1 dL_law_513 ?_
      refine q_i (nI (2 ^ (b k % 8))) (sh1 _ (Nat.mod_lt _ (by decide))) ?_
      refine lv_ior hC.1 hC.2.1 dL_law_514 ?_
      refine q_i (nI (orF b (k + 1))) (or_nI _ _) ?_
      refine lv_istore (lv' := [(12, .int (nI (orF b (k + 1)))), (15, .int (nI k)), (14, .int (nI (ct (fun i => decide (b i = i)) k))), (13, .int (nI (tsm b k))), (0, .ref sc), (1, .ref hx), (2, .int (nI i))]) hC.1 hC.2.1 dL_law_515 hl (by decide) rfl (fun ls hl => ?_)
      refine lv_iload hC.1 hC.2.1 dL_law_517 (lv_at hl 3 rfl) ?_
      refine lv_aload_n hC.1 hC.2.1 dL_law_519 rfl (lv_at hl 5 rfl) ?_
      refine lv_iload hC.1 hC.2.1 dL_law_520 (lv_at hl 1 rfl) ?_
      refine lv_iconst (v := (nI 1)) hC.1 hC.2.1 dL_law_522 (by decide) ?_
      refine p_cvB (n := 2) (k_told l hX (q := k) (what := 1) hk8 (by decide)) hC hE hP hD hS (hX.1.1) (hX.1.2) rfl gL_law_X0_told rfl (by decide +kernel) rfl ⟨by decide, by decide⟩ ⟨by show _ ≤ 600130; omega, by show _ ≤ 7301080; omega⟩ hl.1 (Nat.le_of_ble_eq_true rfl) dL_law_523 rfl ?_
      refine q_i (nI (b k / 8)) (rfl) ?_
      refine z_iadd hC dL_law_526 ?_
      refine q_i (nI (tsm b (k + 1))) (rfl) ?_
      refine lv_istore (lv' := [(13, .int (nI (tsm b (k + 1)))), (12, .int (nI (orF b (k + 1)))), (15, .int (nI k)), (14, .int (nI (ct (fun i => decide (b i = i)) k))), (0, .ref sc), (1, .ref hx), (2, .int (nI i))]) hC.1 hC.2.1 dL_law_527 hl (by decide) rfl (fun ls hl => ?_)
      refine lv_iload hC.1 hC.2.1 dL_law_529 (lv_at hl 3 rfl) ?_
      refine lv_aload_n hC.1 hC.2.1 dL_law_531 rfl (lv_at hl 5 rfl) ?_
      refine lv_iload hC.1 hC.2.1 dL_law_532 (lv_at hl 2 rfl) ?_
      refine lv_iconst (v := (nI 2)) hC.1 hC.2.1 dL_law_534 (by decide) ?_
      refine p_cvB (n := 2) (k_told l hX (q := k) (what := 2) hk8 (by decide)) hC hE hP hD hS (hX.1.1) (hX.1.2) rfl gL_law_X0_told rfl (by decide +kernel) rfl ⟨by decide, by decide⟩ ⟨by show _ ≤ 600130; omega, by show _ ≤ 7301080; omega⟩ hl.1 (Nat.le_of_ble_eq_true rfl) dL_law_535 rfl ?_
      refine z_iadd hC dL_law_538 ?_
      refine q_i (nI (ct (fun i => decide (b i = i)) (k + 1))) (congrArg nI (ct_tV b k)) ?_
      refine lv_istore (lv' := [(14, .int (nI (ct (fun i => decide (b i = i)) (k + 1)))), (13, .int (nI (tsm b (k + 1)))), (12, .int (nI (orF b (k + 1)))), (15, .int (nI k)), (0, .ref sc), (1, .ref hx), (2, .int (nI i))]) hC.1 hC.2.1 dL_law_539 hl (by decide) rfl (fun ls hl => ?_)
      refine lv_aload_n hC.1 hC.2.1 dL_law_541 rfl (lv_at hl 5 rfl) ?_
      refine lv_aload_n hC.1 hC.2.1 dL_law_542 rfl (lv_at hl 5 rfl) ?_
      refine lv_iload hC.1 hC.2.1 dL_law_543 (lv_at hl 3 rfl) ?_
      refine lv_iconst (v := (nI 0)) hC.1 hC.2.1 dL_law_545 (by decide) ?_
      refine p_cvB (n := 2) (k_told l hX (q := k) (what := 0) hk8 (by decide)) hC hE hP hD hS (hX.1.1) (hX.1.2) rfl gL_law_X0_told rfl (by decide +kernel) rfl ⟨by decide, by decide⟩ ⟨by show _ ≤ 600130; omega, by show _ ≤ 7301080; omega⟩ hl.1 (Nat.le_of_ble_eq_true rfl) dL_law_546 rfl ?_
      refine q_i (nI (b k % 8)) (rfl) ?_
      refine p_cvB (n := 1) (k_where l hX (v := b k % 8) (F := k) (Nat.mod_lt _ (by decide)) (by omega) (fun j hj q => absurd (hPM.2.1 j k (by omega) hk8 q) (by omega)) (Or.inr rfl)) hC hE hP hD hS (hX.1.1) (hX.1.2) rfl gL_law_X0_where rfl (by decide +kernel) rfl ⟨by decide, by decide⟩ ⟨by show _ ≤ 600130; omega, by show _ ≤ 7301080; omega⟩ hl.1 (Nat.le_of_ble_eq_true rfl) dL_law_549 rfl ?_
      refine lv_iload hC.1 hC.2.1 dL_law_552 (lv_at hl 3 rfl) ?_
      refine z_icmp_eq (tgt := 559) hC dL_law_554 (by decide) (by omega) (by omega) (fun h_554 => ?_) (fun h_554 => by omega)
      refine lv_iinc (v := nI (k + 1)) (lv' := [(15, .int (nI (k + 1))), (14, .int (nI (ct (fun i => decide (b i = i)) (k + 1)))), (13, .int (nI (tsm b (k + 1)))), (12, .int (nI (orF b (k + 1)))), (0, .ref sc), (1, .ref hx), (2, .int (nI i))]) hC.1 hC.2.1 dL_law_559 hl (k := 3) rfl (z_inc _) (by decide) rfl (fun ls hl => ?_)
      refine lv_goto (tgt := 496) hC.1 hC.2.1 dL_law_562 (by decide) ?_
      exact ih (k + 1) (by omega) ls (lv_sub hl [0, 1, 2, 3, 4, 5, 6] rfl)
  exact loop 8 0 (by decide) ls (lv_sub hl [0, 1, 2, 3, 4, 5, 6] rfl)

set_option maxHeartbeats 4000000 in
set_option maxRecDepth 100000 in
theorem c_play {p : Program} {l : Launch} {e : Env} {s : State} {m : MethodId} {args : Array Value} {below : List Frame} {meth : Method} {c : Code} {Q : State → Prop} {D : va_G} {T : ClassId × ClassId × ClassId} {z0 : Nat} {hx g ln : Nat} {rw : Nat → Nat} {sc i : Nat} (hC : CallFix p m c cL_law 16 s args wsL_law RL) (hE : zE D T z0 s) (kk : LGO p l e s m args below meth c Q D T z0 hx g ln rw sc i 484) {x : Int32} {a b2 wl av : Nat} (ha : a < 5) (hb : b2 < 5) {L : List Nat} {f : Nat → va_E} {H : Heap} {locs : List Loc} {b : Nat → Nat} {mk : Int32} {wd : Nat → List Nat} {ls : Array Slot} (hX : CX T L f hx g ln rw b mk wd) (hPM : PM b) (hTW : TW b) (hP : va_P D vwCl (va_pl L f) H) (hD : va_D (zA z0) (va_pl L f)) (hS : va_S (zA z0) s.heap H locs) (hl : lv_has ls 16 [(0, .ref sc), (1, .ref hx), (2, .int (nI i)), (3, .int x), (4, .int (nI a)), (5, .int (nI b2)), (8, .int (nI wl)), (9, .int (nI av))]) : W p l e room_1 s m args below meth c H locs 13 134 Q (F0 m 224 ls []) := by
  have h12 := (hX.2.2.2.2.2.2 a ha).1
  obtain ⟨ts, hts, kt⟩ := k_belowE l (x >>> (nI 3 &&& 31)) (n := 9) (by decide) (by decide)
  refine lv_aload_n hC.1 hC.2.1 dL_law_224 rfl (lv_at hl 1 rfl) ?_
  refine lv_iload hC.1 hC.2.1 dL_law_225 (lv_at hl 4 rfl) ?_
  refine lv_iconst (v := (nI 0)) hC.1 hC.2.1 dL_law_227 (by decide) ?_
  refine p_cvB (n := 2) (k_word l hX (what := 0) ha (PM.deed _).ord (by decide)) hC hE hP hD hS (hX.1.1) (hX.1.2) rfl gL_law_X0_word rfl (by decide +kernel) rfl ⟨by decide, by decide⟩ ⟨by show _ ≤ 600130; omega, by show _ ≤ 7301080; omega⟩ hl.1 (Nat.le_of_ble_eq_true rfl) dL_law_228 rfl ?_
  refine q_i (nI (wd a).length) (rfl) ?_
  refine z_if_ne (tgt := 237) hC dL_law_231 (by decide) (by omega) (fun h_231 => ?_) (fun h_231 => ?_)
  · refine lv_aload_n hC.1 hC.2.1 dL_law_237 rfl (lv_at hl 1 rfl) ?_
    refine lv_iload hC.1 hC.2.1 dL_law_238 (lv_at hl 4 rfl) ?_
    refine lv_iconst (v := (nI 1)) hC.1 hC.2.1 dL_law_240 (by decide) ?_
    refine lv_iload_n hC.1 hC.2.1 dL_law_241 rfl (lv_at hl 3 rfl) ?_
    refine lv_iconst (v := (nI 3)) hC.1 hC.2.1 dL_law_242 (by decide) ?_
    refine lv_ishr hC.1 hC.2.1 dL_law_243 ?_
    refine lv_bipush (v := (nI 9)) hC.1 hC.2.1 dL_law_244 (by decide) ?_
    refine p_cs (n := 2) (kt) hC gL_law_L_below rfl (by decide +kernel) rfl ⟨by decide, by decide⟩ ⟨by show _ ≤ 600130; omega, by show _ ≤ 7301080; omega⟩ hl.1 (Nat.le_of_ble_eq_true rfl) dL_law_246 rfl ?_
    refine z_iadd hC dL_law_249 ?_
    refine p_cvH (n := 2) (k_play l hX (w := a) (ts := 1 + ts) ha (by omega) (by omega) (by omega)) hC hE hP hD hS (hX.1.1) (hX.1.2) rfl gL_law_X0_play rfl (by decide +kernel) rfl ⟨by decide, by decide⟩ ⟨by show _ ≤ 600130; omega, by show _ ≤ 7301080; omega⟩ hl.1 (Nat.le_of_ble_eq_true rfl) dL_law_250 rfl (fun o2 L2 f2 H locs hpost hP hD hS => ?_)
    obtain ⟨rfl, hLe2, hX2, -⟩ := hpost
    rw [hLe2] at hP hD
    refine lv_aload_n hC.1 hC.2.1 dL_law_253 rfl (lv_at hl 1 rfl) ?_
    refine lv_iconst (v := (nI 1)) hC.1 hC.2.1 dL_law_254 (by decide) ?_
    refine p_cvB (n := 1) (k_count l hX2 (hPM.plN _ _).ord (what := 1) (by decide)) hC hE hP hD hS (hX2.1.1) (hX2.1.2) rfl gL_law_X0_count rfl (by decide +kernel) rfl ⟨by decide, by decide⟩ ⟨by show _ ≤ 600130; omega, by show _ ≤ 7301080; omega⟩ hl.1 (Nat.le_of_ble_eq_true rfl) dL_law_255 rfl ?_
    refine z_icmp_eq (tgt := 484) hC dL_law_258 (by decide) (nRt_lt _) (nRt_lt _) (fun h_258 => ?_) (fun h_258 => absurd rfl h_258)
    exact kk _ _ _ _ _ _ _ _ hX2 (hPM.plN _ _) (hTW.plN _ _) hP hD hS (lv_sub hl [0, 1, 2] rfl)
  · refine lv_goto (tgt := 484) hC.1 hC.2.1 dL_law_234 (by decide) ?_
    exact kk _ _ _ _ _ _ _ _ hX hPM hTW hP hD hS (lv_sub hl [0, 1, 2] rfl)

set_option maxHeartbeats 4000000 in
set_option maxRecDepth 100000 in
theorem c_turn {p : Program} {l : Launch} {e : Env} {s : State} {m : MethodId} {args : Array Value} {below : List Frame} {meth : Method} {c : Code} {Q : State → Prop} {D : va_G} {T : ClassId × ClassId × ClassId} {z0 : Nat} {hx g ln : Nat} {rw : Nat → Nat} {sc i : Nat} (hC : CallFix p m c cL_law 16 s args wsL_law RL) (hE : zE D T z0 s) (kk : LGO p l e s m args below meth c Q D T z0 hx g ln rw sc i 484) {x : Int32} {a b2 wl av : Nat} (ha : a < 5) (hb : b2 < 5) {L : List Nat} {f : Nat → va_E} {H : Heap} {locs : List Loc} {b : Nat → Nat} {mk : Int32} {wd : Nat → List Nat} {ls : Array Slot} (hX : CX T L f hx g ln rw b mk wd) (hPM : PM b) (hTW : TW b) (hP : va_P D vwCl (va_pl L f) H) (hD : va_D (zA z0) (va_pl L f)) (hS : va_S (zA z0) s.heap H locs) (hl : lv_has ls 16 [(0, .ref sc), (1, .ref hx), (2, .int (nI i)), (3, .int x), (4, .int (nI a)), (5, .int (nI b2)), (8, .int (nI wl)), (9, .int (nI av))]) (hav : av < 9) (hwl : wl ≤ nRt (turnC b av)) : W p l e room_1 s m args below meth c H locs 13 134 Q (F0 m 263 ls []) := by
  have h8 := nRt_le (turnC b av)
  have e9 : 3 * (av / 3) + (av % 3 + 1) - 1 = av := by omega
  refine lv_aload_n hC.1 hC.2.1 dL_law_263 rfl (lv_at hl 1 rfl) ?_
  refine lv_iload hC.1 hC.2.1 dL_law_264 (lv_at hl 7 rfl) ?_
  refine lv_iconst (v := (nI 3)) hC.1 hC.2.1 dL_law_266 (by decide) ?_
  refine z_idiv hC dL_law_267 (by omega) (by decide) (by decide) ?_
  refine lv_iload hC.1 hC.2.1 dL_law_268 (lv_at hl 7 rfl) ?_
  refine lv_iconst (v := (nI 3)) hC.1 hC.2.1 dL_law_270 (by decide) ?_
  refine z_irem hC dL_law_271 (by omega) (by decide) (by decide) ?_
  refine lv_iconst (v := (nI 1)) hC.1 hC.2.1 dL_law_272 (by decide) ?_
  refine z_iadd hC dL_law_273 ?_
  refine p_cvH (n := 2) (k_turn l hX (fc := av / 3) (q := av % 3 + 1) (by omega) (by omega) (by omega)) hC hE hP hD hS (hX.1.1) (hX.1.2) rfl gL_law_X0_turn rfl (by decide +kernel) rfl ⟨by decide, by decide⟩ ⟨by show _ ≤ 600130; omega, by show _ ≤ 7301080; omega⟩ hl.1 (Nat.le_of_ble_eq_true rfl) dL_law_274 rfl (fun o2 L2 f2 H locs hpost hP hD hS => ?_)
  obtain ⟨rfl, hLe2, hX2, -⟩ := hpost
  rw [hLe2] at hP hD
  rw [e9] at hX2
  refine q_i (nI (nRt (turnC b av))) (by rw [e9]) ?_
  refine lv_iload hC.1 hC.2.1 dL_law_277 (lv_at hl 6 rfl) ?_
  refine z_icmp_ge (tgt := 484) hC dL_law_279 (by decide) (by omega) (by omega) (fun h_279 => ?_) (fun h_279 => by omega)
  exact kk _ _ _ _ _ _ _ _ hX2 (hPM.turnC _) (hTW.turnC _) hP hD hS (lv_sub hl [0, 1, 2] rfl)

set_option maxHeartbeats 4000000 in
set_option maxRecDepth 100000 in
theorem c_round {p : Program} {l : Launch} {e : Env} {s : State} {m : MethodId} {args : Array Value} {below : List Frame} {meth : Method} {c : Code} {Q : State → Prop} {D : va_G} {T : ClassId × ClassId × ClassId} {z0 : Nat} {hx g ln : Nat} {rw : Nat → Nat} {sc i : Nat} (hC : CallFix p m c cL_law 16 s args wsL_law RL) (hE : zE D T z0 s) (kk : LGO p l e s m args below meth c Q D T z0 hx g ln rw sc i 484) {x : Int32} {a b2 wl av : Nat} (ha : a < 5) (hb : b2 < 5) {L : List Nat} {f : Nat → va_E} {H : Heap} {locs : List Loc} {b : Nat → Nat} {mk : Int32} {wd : Nat → List Nat} {ls : Array Slot} (hX : CX T L f hx g ln rw b mk wd) (hPM : PM b) (hTW : TW b) (hP : va_P D vwCl (va_pl L f) H) (hD : va_D (zA z0) (va_pl L f)) (hS : va_S (zA z0) s.heap H locs) (hl : lv_has ls 16 [(0, .ref sc), (1, .ref hx), (2, .int (nI i)), (3, .int x), (4, .int (nI a)), (5, .int (nI b2)), (8, .int (nI wl)), (9, .int (nI av))]) : W p l e room_1 s m args below meth c H locs 13 134 Q (F0 m 450 ls []) := by
  have h12 := (hX.2.2.2.2.2.2 a ha).1
  refine lv_aload_n hC.1 hC.2.1 dL_law_450 rfl (lv_at hl 1 rfl) ?_
  refine lv_iload hC.1 hC.2.1 dL_law_451 (lv_at hl 4 rfl) ?_
  refine p_cvH (n := 1) (k_round l hX (w := a) ha) hC hE hP hD hS (hX.1.1) (hX.1.2) rfl gL_law_X0_round rfl (by decide +kernel) rfl ⟨by decide, by decide⟩ ⟨by show _ ≤ 600130; omega, by show _ ≤ 7301080; omega⟩ hl.1 (Nat.le_of_ble_eq_true rfl) dL_law_453 rfl (fun o2 L2 f2 H locs hpost hP hD hS => ?_)
  obtain ⟨rfl, hLe2, hX2, -⟩ := hpost
  rw [hLe2] at hP hD
  have hla : (wset wd a ((wd a).reverse.map tb) a).length = (wd a).length := by rw [wset_s, List.length_map, List.length_reverse]
  generalize wset wd a ((wd a).reverse.map tb) = wd2 at hX2 hla
  have h122 := (hX2.2.2.2.2.2.2 b2 hb).1
  refine lv_aload_n hC.1 hC.2.1 dL_law_456 rfl (lv_at hl 1 rfl) ?_
  refine lv_iload hC.1 hC.2.1 dL_law_457 (lv_at hl 4 rfl) ?_
  refine lv_iconst (v := (nI 0)) hC.1 hC.2.1 dL_law_459 (by decide) ?_
  refine p_cvB (n := 2) (k_word l hX2 (w := a) (what := 0) ha (PM.deed _).ord (by decide)) hC hE hP hD hS (hX2.1.1) (hX2.1.2) rfl gL_law_X0_word rfl (by decide +kernel) rfl ⟨by decide, by decide⟩ ⟨by show _ ≤ 600130; omega, by show _ ≤ 7301080; omega⟩ hl.1 (Nat.le_of_ble_eq_true rfl) dL_law_460 rfl ?_
  refine q_i (nI (wd a).length) (congrArg nI hla) ?_
  refine z_icmp_ne (tgt := 482) hC dL_law_463 (by decide) (by omega) (by omega) (fun h_463 => absurd rfl h_463) (fun h_463 => ?_)
  refine lv_aload_n hC.1 hC.2.1 dL_law_466 rfl (lv_at hl 1 rfl) ?_
  refine lv_iload hC.1 hC.2.1 dL_law_467 (lv_at hl 5 rfl) ?_
  refine p_cvH (n := 1) (k_tidy l hX2 (w := b2) hb) hC hE hP hD hS (hX2.1.1) (hX2.1.2) rfl gL_law_X0_tidy rfl (by decide +kernel) rfl ⟨by decide, by decide⟩ ⟨by show _ ≤ 600130; omega, by show _ ≤ 7301080; omega⟩ hl.1 (Nat.le_of_ble_eq_true rfl) dL_law_469 rfl (fun o3 L3 f3 H locs hpost hP hD hS => ?_)
  obtain ⟨rfl, hLe3, hX3, -⟩ := hpost
  rw [hLe3] at hP hD
  have hlb : (wset wd2 b2 (tdN (wd2 b2) (wd2 b2).length) b2).length = (tdN (wd2 b2) (wd2 b2).length).length := by rw [wset_s]
  have htl := tdN_len (wd2 b2) (wd2 b2).length
  refine lv_aload_n hC.1 hC.2.1 dL_law_472 rfl (lv_at hl 1 rfl) ?_
  refine lv_iload hC.1 hC.2.1 dL_law_473 (lv_at hl 5 rfl) ?_
  refine lv_iconst (v := (nI 0)) hC.1 hC.2.1 dL_law_475 (by decide) ?_
  refine p_cvB (n := 2) (k_word l hX3 (w := b2) (what := 0) hb (PM.deed _).ord (by decide)) hC hE hP hD hS (hX3.1.1) (hX3.1.2) rfl gL_law_X0_word rfl (by decide +kernel) rfl ⟨by decide, by decide⟩ ⟨by show _ ≤ 600130; omega, by show _ ≤ 7301080; omega⟩ hl.1 (Nat.le_of_ble_eq_true rfl) dL_law_476 rfl ?_
  refine q_i (nI (tdN (wd2 b2) (wd2 b2).length).length) (congrArg nI hlb) ?_
  refine z_icmp_eq (tgt := 484) hC dL_law_479 (by decide) (by omega) (by omega) (fun h_479 => ?_) (fun h_479 => absurd rfl h_479)
  exact kk _ _ _ _ _ _ _ _ hX3 hPM hTW hP hD hS (lv_sub hl [0, 1, 2] rfl)

set_option maxHeartbeats 4000000 in
set_option maxRecDepth 100000 in
theorem l_back {p : Program} {l : Launch} {e : Env} {s : State} {m : MethodId} {args : Array Value} {below : List Frame} {meth : Method} {c : Code} {Q : State → Prop} {D : va_G} {T : ClassId × ClassId × ClassId} {z0 : Nat} {hx g ln : Nat} {rw : Nat → Nat} {sc i : Nat} (hC : CallFix p m c cL_law 16 s args wsL_law RL) (hE : zE D T z0 s) (kk : LGO p l e s m args below meth c Q D T z0 hx g ln rw sc i 484) : ∀ (r : Nat) {L : List Nat} {f : Nat → va_E} {H : Heap} {locs : List Loc} {b : Nat → Nat} {mk : Int32} {wd : Nat → List Nat} {ls : Array Slot} (hX : CX T L f hx g ln rw b mk wd) (hPM : PM b) (hTW : TW b) (hP : va_P D vwCl (va_pl L f) H) (hD : va_D (zA z0) (va_pl L f)) (hS : va_S (zA z0) s.heap H locs), DI b r → r ≤ 3 → lv_has ls 16 [(14, .int (nI r)), (0, .ref sc), (1, .ref hx), (2, .int (nI i))] → W p l e room_1 s m args below meth c H locs 13 134 Q (F0 m 366 ls []) := by
  intro r
  induction r with
  | zero =>
    intro L f H locs b mk wd ls hX hPM hTW hP hD hS hDI hr3 hl
    have hv := hPM.1
    have hOb := hPM.ord
    have h8 := nRt_le b
    refine lv_iload hC.1 hC.2.1 dL_law_366 (lv_at hl 0 rfl) ?_
    refine z_if_le (tgt := 429) hC dL_law_368 (by decide) (by omega) (fun h_368 => ?_) (fun h_368 => by omega)
    refine lv_aload_n hC.1 hC.2.1 dL_law_429 rfl (lv_at hl 2 rfl) ?_
    refine lv_iconst (v := (nI 1)) hC.1 hC.2.1 dL_law_430 (by decide) ?_
    refine p_cvB (n := 1) (k_count l hX hOb (what := 1) (by decide)) hC hE hP hD hS (hX.1.1) (hX.1.2) rfl gL_law_X0_count rfl (by decide +kernel) rfl ⟨by decide, by decide⟩ ⟨by show _ ≤ 600130; omega, by show _ ≤ 7301080; omega⟩ hl.1 (Nat.le_of_ble_eq_true rfl) dL_law_431 rfl ?_
    refine lv_bipush (v := (nI 8)) hC.1 hC.2.1 dL_law_434 (by decide) ?_
    refine z_icmp_ne (tgt := 448) hC dL_law_436 (by decide) (by omega) (by omega) (fun h_436 => absurd (hDI.is hv) h_436) (fun h_436 => ?_)
    refine lv_aload_n hC.1 hC.2.1 dL_law_439 rfl (lv_at hl 2 rfl) ?_
    refine lv_iconst (v := (nI 5)) hC.1 hC.2.1 dL_law_440 (by decide) ?_
    refine p_cvB (n := 1) (k_count l hX hOb (what := 5) (by decide)) hC hE hP hD hS (hX.1.1) (hX.1.2) rfl gL_law_X0_count rfl (by decide +kernel) rfl ⟨by decide, by decide⟩ ⟨by show _ ≤ 600130; omega, by show _ ≤ 7301080; omega⟩ hl.1 (Nat.le_of_ble_eq_true rfl) dL_law_441 rfl ?_
    refine lv_iconst (v := (nI 1)) hC.1 hC.2.1 dL_law_444 (by decide) ?_
    refine z_icmp_eq (tgt := 484) hC dL_law_445 (by decide) (by omega) (by omega) (fun h_445 => ?_) (fun h_445 => absurd ((ordN_0 hv).mpr (hDI.is hv)) h_445)
    exact kk _ _ _ _ _ _ _ _ hX hPM hTW hP hD hS (lv_sub hl [1, 2, 3] rfl)
  | succ r ih =>
    intro L f H locs b mk wd ls hX hPM hTW hP hD hS hDI hr3 hl
    have hv := hPM.1
    have hOb := hPM.ord
    have h8 := nRt_le b
    obtain ⟨F, hF, h3, h4, h5⟩ := DI.next hv hDI
    have e9 : 3 * (F / 3) + (F % 3 + 1) - 1 = F := by omega
    refine lv_iload hC.1 hC.2.1 dL_law_366 (lv_at hl 0 rfl) ?_
    refine z_if_le (tgt := 429) hC dL_law_368 (by decide) (by omega) (fun h_368 => by omega) (fun h_368 => ?_)
    refine lv_aload_n hC.1 hC.2.1 dL_law_371 rfl (lv_at hl 2 rfl) ?_
    refine lv_iload hC.1 hC.2.1 dL_law_372 (lv_at hl 0 rfl) ?_
    refine p_cvB (n := 1) (k_first l hX (most := r + 1) (N := r + 1) (F := F) (by omega) (Nat.le_refl _) (Nat.succ_pos _) hDI.2 hDI.1 hF h3 h4) hC hE hP hD hS (hX.1.1) (hX.1.2) rfl gL_law_X0_first rfl (by decide +kernel) rfl ⟨by decide, by decide⟩ ⟨by show _ ≤ 600130; omega, by show _ ≤ 7301080; omega⟩ hl.1 (Nat.le_of_ble_eq_true rfl) dL_law_374 rfl ?_
    refine lv_istore (lv' := [(15, .int (nI F)), (14, .int (nI (r + 1))), (0, .ref sc), (1, .ref hx), (2, .int (nI i))]) hC.1 hC.2.1 dL_law_377 hl (by decide) rfl (fun ls hl => ?_)
    refine lv_aload_n hC.1 hC.2.1 dL_law_379 rfl (lv_at hl 3 rfl) ?_
    refine lv_iconst (v := (nI 3)) hC.1 hC.2.1 dL_law_380 (by decide) ?_
    refine p_cvB (n := 1) (k_far l hX (most := 3) (N := r + 1) (by decide) (by omega) hDI.2 hDI.1) hC hE hP hD hS (hX.1.1) (hX.1.2) rfl gL_law_X0_far rfl (by decide +kernel) rfl ⟨by decide, by decide⟩ ⟨by show _ ≤ 600130; omega, by show _ ≤ 7301080; omega⟩ hl.1 (Nat.le_of_ble_eq_true rfl) dL_law_381 rfl ?_
    refine lv_iload hC.1 hC.2.1 dL_law_384 (lv_at hl 1 rfl) ?_
    refine z_icmp_ne (tgt := 406) hC dL_law_386 (by decide) (by omega) (by omega) (fun h_386 => absurd rfl h_386) (fun h_386 => ?_)
    refine lv_iload hC.1 hC.2.1 dL_law_389 (lv_at hl 0 rfl) ?_
    refine z_if_lt (tgt := 406) hC dL_law_391 (by decide) (by omega) ?_
    refine lv_aload_n hC.1 hC.2.1 dL_law_394 rfl (lv_at hl 3 rfl) ?_
    refine lv_iload hC.1 hC.2.1 dL_law_395 (lv_at hl 1 rfl) ?_
    refine lv_iconst (v := (nI 1)) hC.1 hC.2.1 dL_law_397 (by decide) ?_
    refine z_isub hC dL_law_398 (by omega) ?_
    refine q_i (nI r) (rfl) ?_
    refine p_cvB (n := 1) (k_firstN l hX (most := r) (by omega) (fun k hk => hDI.2 k (by omega))) hC hE hP hD hS (hX.1.1) (hX.1.2) rfl gL_law_X0_first rfl (by decide +kernel) rfl ⟨by decide, by decide⟩ ⟨by show _ ≤ 600130; omega, by show _ ≤ 7301080; omega⟩ hl.1 (Nat.le_of_ble_eq_true rfl) dL_law_399 rfl ?_
    refine lv_iconst (v := (-1)) hC.1 hC.2.1 dL_law_402 (by decide) ?_
    refine lv_icmp_eq (tgt := 408) hC.1 hC.2.1 dL_law_403 (by decide) (fun h_403 => ?_) (fun h_403 => absurd rfl h_403)
    refine lv_aload_n hC.1 hC.2.1 dL_law_408 rfl (lv_at hl 3 rfl) ?_
    refine lv_iload hC.1 hC.2.1 dL_law_409 (lv_at hl 0 rfl) ?_
    refine lv_iconst (v := (nI 3)) hC.1 hC.2.1 dL_law_411 (by decide) ?_
    refine z_idiv hC dL_law_412 (by omega) (by decide) (by decide) ?_
    refine lv_iload hC.1 hC.2.1 dL_law_413 (lv_at hl 0 rfl) ?_
    refine lv_iconst (v := (nI 3)) hC.1 hC.2.1 dL_law_415 (by decide) ?_
    refine z_irem hC dL_law_416 (by omega) (by decide) (by decide) ?_
    refine lv_iconst (v := (nI 1)) hC.1 hC.2.1 dL_law_417 (by decide) ?_
    refine z_iadd hC dL_law_418 ?_
    refine p_cvH (n := 2) (k_turn l hX (fc := F / 3) (q := F % 3 + 1) (by omega) (by omega) (by omega)) hC hE hP hD hS (hX.1.1) (hX.1.2) rfl gL_law_X0_turn rfl (by decide +kernel) rfl ⟨by decide, by decide⟩ ⟨by show _ ≤ 600130; omega, by show _ ≤ 7301080; omega⟩ hl.1 (Nat.le_of_ble_eq_true rfl) dL_law_419 rfl (fun o2 L2 f2 H locs hpost hP hD hS => ?_)
    obtain ⟨rfl, hLe2, hX2, -⟩ := hpost
    rw [hLe2] at hP hD
    rw [e9] at hX2
    refine lv_pop hC.1 hC.2.1 dL_law_422 rfl ?_
    refine lv_iinc (v := nI r) (lv' := [(14, .int (nI r)), (15, .int (nI F)), (0, .ref sc), (1, .ref hx), (2, .int (nI i))]) hC.1 hC.2.1 dL_law_423 hl (k := 1) rfl (z_dec (a := r + 1) (by omega)) (by decide) rfl (fun ls hl => ?_)
    refine lv_goto (tgt := 366) hC.1 hC.2.1 dL_law_426 (by decide) ?_
    exact ih hX2 (hPM.turnC F) (hTW.turnC F) hP hD hS h5 (by omega) (lv_sub hl [0, 2, 3, 4] rfl)

set_option maxHeartbeats 4000000 in
set_option maxRecDepth 100000 in
theorem l_turns {p : Program} {l : Launch} {e : Env} {s : State} {m : MethodId} {args : Array Value} {below : List Frame} {meth : Method} {c : Code} {Q : State → Prop} {D : va_G} {T : ClassId × ClassId × ClassId} {z0 : Nat} {hx g ln : Nat} {rw : Nat → Nat} {sc i : Nat} (hC : CallFix p m c cL_law 16 s args wsL_law RL) (hE : zE D T z0 s) {x : Int32} {n : Nat} (hn : n < 4) (k2 : ∀ {L : List Nat} {f : Nat → va_E} {H : Heap} {locs : List Loc} {b : Nat → Nat} {mk : Int32} {wd : Nat → List Nat} {ls : Array Slot} (hX : CX T L f hx g ln rw b mk wd) (hPM : PM b) (hTW : TW b) (hP : va_P D vwCl (va_pl L f) H) (hD : va_D (zA z0) (va_pl L f)) (hS : va_S (zA z0) s.heap H locs), CM n b → lv_has ls 16 [(12, .int (nI n)), (0, .ref sc), (1, .ref hx), (2, .int (nI i))] → W p l e room_1 s m args below meth c H locs 13 134 Q (F0 m 341 ls [])) : ∀ (r k : Nat) {L : List Nat} {f : Nat → va_E} {H : Heap} {locs : List Loc} {b : Nat → Nat} {mk : Int32} {wd : Nat → List Nat} {ls : Array Slot} (hX : CX T L f hx g ln rw b mk wd) (hPM : PM b) (hTW : TW b) (hP : va_P D vwCl (va_pl L f) H) (hD : va_D (zA z0) (va_pl L f)) (hS : va_S (zA z0) s.heap H locs), CM k b → k + r = n → lv_has ls 16 [(13, .int (nI k)), (12, .int (nI n)), (3, .int x), (0, .ref sc), (1, .ref hx), (2, .int (nI i))] → W p l e room_1 s m args below meth c H locs 13 134 Q (F0 m 301 ls []) := by
  intro r
  induction r with
  | zero =>
    intro k L f H locs b mk wd ls hX hPM hTW hP hD hS hM hk hl
    have hv := hPM.1
    have hke : k = n := by omega
    refine lv_iload hC.1 hC.2.1 dL_law_301 (lv_at hl 0 rfl) ?_
    refine lv_iload hC.1 hC.2.1 dL_law_303 (lv_at hl 1 rfl) ?_
    refine z_icmp_ge (tgt := 341) hC dL_law_305 (by decide) (by omega) (by omega) (fun h_305 => ?_) (fun h_305 => by omega)
    exact k2 hX hPM hTW hP hD hS (hke ▸ hM) (lv_sub hl [1, 3, 4, 5] rfl)
  | succ r ih =>
    intro k L f H locs b mk wd ls hX hPM hTW hP hD hS hM hk hl
    have hv := hPM.1
    obtain ⟨fc, hfc, kf⟩ := k_belowE l (x >>> (nI (2 * k) &&& 31)) (n := 3) (by decide) (by decide)
    obtain ⟨q, hq, kq⟩ := k_belowE l (x >>> (nI (3 * k) &&& 31)) (n := 3) (by decide) (by decide)
    refine lv_iload hC.1 hC.2.1 dL_law_301 (lv_at hl 0 rfl) ?_
    refine lv_iload hC.1 hC.2.1 dL_law_303 (lv_at hl 1 rfl) ?_
    refine z_icmp_ge (tgt := 341) hC dL_law_305 (by decide) (by omega) (by omega) (fun h_305 => by omega) (fun h_305 => ?_)
    refine lv_aload_n hC.1 hC.2.1 dL_law_308 rfl (lv_at hl 4 rfl) ?_
    refine lv_iload_n hC.1 hC.2.1 dL_law_309 rfl (lv_at hl 2 rfl) ?_
    refine lv_iconst (v := (nI 2)) hC.1 hC.2.1 dL_law_310 (by decide) ?_
    refine lv_iload hC.1 hC.2.1 dL_law_311 (lv_at hl 0 rfl) ?_
    refine z_imul hC dL_law_313 ?_
    refine lv_ishr hC.1 hC.2.1 dL_law_314 ?_
    refine lv_iconst (v := (nI 3)) hC.1 hC.2.1 dL_law_315 (by decide) ?_
    refine p_cs (n := 2) (kf) hC gL_law_L_below rfl (by decide +kernel) rfl ⟨by decide, by decide⟩ ⟨by show _ ≤ 600130; omega, by show _ ≤ 7301080; omega⟩ hl.1 (Nat.le_of_ble_eq_true rfl) dL_law_316 rfl ?_
    refine lv_iconst (v := (nI 1)) hC.1 hC.2.1 dL_law_319 (by decide) ?_
    refine lv_iload_n hC.1 hC.2.1 dL_law_320 rfl (lv_at hl 2 rfl) ?_
    refine lv_iconst (v := (nI 3)) hC.1 hC.2.1 dL_law_321 (by decide) ?_
    refine lv_iload hC.1 hC.2.1 dL_law_322 (lv_at hl 0 rfl) ?_
    refine z_imul hC dL_law_324 ?_
    refine lv_ishr hC.1 hC.2.1 dL_law_325 ?_
    refine lv_iconst (v := (nI 3)) hC.1 hC.2.1 dL_law_326 (by decide) ?_
    refine p_cs (n := 2) (kq) hC gL_law_L_below rfl (by decide +kernel) rfl ⟨by decide, by decide⟩ ⟨by show _ ≤ 600130; omega, by show _ ≤ 7301080; omega⟩ hl.1 (Nat.le_of_ble_eq_true rfl) dL_law_327 rfl ?_
    refine z_iadd hC dL_law_330 ?_
    refine p_cvH (n := 2) (k_turn l hX (fc := fc) (q := 1 + q) hfc (by omega) (by omega)) hC hE hP hD hS (hX.1.1) (hX.1.2) rfl gL_law_X0_turn rfl (by decide +kernel) rfl ⟨by decide, by decide⟩ ⟨by show _ ≤ 600130; omega, by show _ ≤ 7301080; omega⟩ hl.1 (Nat.le_of_ble_eq_true rfl) dL_law_331 rfl (fun o2 L2 f2 H locs hpost hP hD hS => ?_)
    obtain ⟨rfl, hLe2, hX2, -⟩ := hpost
    rw [hLe2] at hP hD
    refine lv_pop hC.1 hC.2.1 dL_law_334 rfl ?_
    refine lv_iinc (v := nI (k + 1)) (lv' := [(13, .int (nI (k + 1))), (12, .int (nI n)), (3, .int x), (0, .ref sc), (1, .ref hx), (2, .int (nI i))]) hC.1 hC.2.1 dL_law_335 hl (k := 0) rfl (z_inc _) (by decide) rfl (fun ls hl => ?_)
    refine lv_goto (tgt := 301) hC.1 hC.2.1 dL_law_338 (by decide) ?_
    exact ih (k + 1) hX2 (hPM.turnC _) (hTW.turnC _) hP hD hS (CM.turn hv (by omega) hM) (by omega) (lv_sub hl [0, 1, 2, 3, 4, 5] rfl)

set_option maxHeartbeats 4000000 in
set_option maxRecDepth 100000 in
theorem c_reset {p : Program} {l : Launch} {e : Env} {s : State} {m : MethodId} {args : Array Value} {below : List Frame} {meth : Method} {c : Code} {Q : State → Prop} {D : va_G} {T : ClassId × ClassId × ClassId} {z0 : Nat} {hx g ln : Nat} {rw : Nat → Nat} {sc i : Nat} (hC : CallFix p m c cL_law 16 s args wsL_law RL) (hE : zE D T z0 s) (kk : LGO p l e s m args below meth c Q D T z0 hx g ln rw sc i 484) {x : Int32} {a b2 wl av : Nat} (ha : a < 5) (hb : b2 < 5) {L : List Nat} {f : Nat → va_E} {H : Heap} {locs : List Loc} {b : Nat → Nat} {mk : Int32} {wd : Nat → List Nat} {ls : Array Slot} (hX : CX T L f hx g ln rw b mk wd) (hPM : PM b) (hTW : TW b) (hP : va_P D vwCl (va_pl L f) H) (hD : va_D (zA z0) (va_pl L f)) (hS : va_S (zA z0) s.heap H locs) (hl : lv_has ls 16 [(0, .ref sc), (1, .ref hx), (2, .int (nI i)), (3, .int x), (4, .int (nI a)), (5, .int (nI b2)), (8, .int (nI wl)), (9, .int (nI av))]) : W p l e room_1 s m args below meth c H locs 13 134 Q (F0 m 284 ls []) := by
  obtain ⟨n, hn, kn⟩ := k_belowE l (x >>> (nI 3 &&& 31)) (n := 4) (by decide) (by decide)
  have k2 : ∀ {L : List Nat} {f : Nat → va_E} {H : Heap} {locs : List Loc} {b : Nat → Nat} {mk : Int32} {wd : Nat → List Nat} {ls : Array Slot} (hX : CX T L f hx g ln rw b mk wd) (hPM : PM b) (hTW : TW b) (hP : va_P D vwCl (va_pl L f) H) (hD : va_D (zA z0) (va_pl L f)) (hS : va_S (zA z0) s.heap H locs), CM n b → lv_has ls 16 [(12, .int (nI n)), (0, .ref sc), (1, .ref hx), (2, .int (nI i))] → W p l e room_1 s m args below meth c H locs 13 134 Q (F0 m 341 ls []) := by
    intro L f H locs b mk wd ls hX hPM hTW hP hD hS hM hl
    obtain ⟨N, hN, hDI⟩ := CM.di hPM.1 hM
    refine lv_aload_n hC.1 hC.2.1 dL_law_341 rfl (lv_at hl 2 rfl) ?_
    refine lv_iconst (v := (nI 3)) hC.1 hC.2.1 dL_law_342 (by decide) ?_
    refine p_cvB (n := 1) (k_far l hX (most := 3) (N := N) (by decide) (by omega) hDI.2 hDI.1) hC hE hP hD hS (hX.1.1) (hX.1.2) rfl gL_law_X0_far rfl (by decide +kernel) rfl ⟨by decide, by decide⟩ ⟨by show _ ≤ 600130; omega, by show _ ≤ 7301080; omega⟩ hl.1 (Nat.le_of_ble_eq_true rfl) dL_law_343 rfl ?_
    refine lv_istore (lv' := [(13, .int (nI N)), (12, .int (nI n)), (0, .ref sc), (1, .ref hx), (2, .int (nI i))]) hC.1 hC.2.1 dL_law_346 hl (by decide) rfl (fun ls hl => ?_)
    refine lv_iload hC.1 hC.2.1 dL_law_348 (lv_at hl 0 rfl) ?_
    refine z_if_lt (tgt := 360) hC dL_law_350 (by decide) (by omega) ?_
    refine lv_iload hC.1 hC.2.1 dL_law_353 (lv_at hl 0 rfl) ?_
    refine lv_iload hC.1 hC.2.1 dL_law_355 (lv_at hl 1 rfl) ?_
    refine z_icmp_le (tgt := 362) hC dL_law_357 (by decide) (by omega) (by omega) (fun h_357 => ?_) (fun h_357 => by omega)
    refine lv_iload hC.1 hC.2.1 dL_law_362 (lv_at hl 0 rfl) ?_
    refine lv_istore (lv' := [(14, .int (nI N)), (13, .int (nI N)), (12, .int (nI n)), (0, .ref sc), (1, .ref hx), (2, .int (nI i))]) hC.1 hC.2.1 dL_law_364 hl (by decide) rfl (fun ls hl => ?_)
    exact l_back hC hE kk N hX hPM hTW hP hD hS hDI (by omega) (lv_sub hl [0, 3, 4, 5] rfl)
  refine lv_aload_n hC.1 hC.2.1 dL_law_284 rfl (lv_at hl 1 rfl) ?_
  refine p_cvH (n := 0) (k_reset l hX) hC hE hP hD hS (hX.1.1) (hX.1.2) rfl gL_law_X0_reset rfl (by decide +kernel) rfl ⟨by decide, by decide⟩ ⟨by show _ ≤ 600130; omega, by show _ ≤ 7301080; omega⟩ hl.1 (Nat.le_of_ble_eq_true rfl) dL_law_285 rfl (fun o2 L2 f2 H locs hpost hP hD hS => ?_)
  obtain ⟨rfl, hLe2, hX2, -⟩ := hpost
  rw [hLe2] at hP hD
  refine lv_pop hC.1 hC.2.1 dL_law_288 rfl ?_
  refine lv_iload_n hC.1 hC.2.1 dL_law_289 rfl (lv_at hl 3 rfl) ?_
  refine lv_iconst (v := (nI 3)) hC.1 hC.2.1 dL_law_290 (by decide) ?_
  refine lv_ishr hC.1 hC.2.1 dL_law_291 ?_
  refine lv_iconst (v := (nI 4)) hC.1 hC.2.1 dL_law_292 (by decide) ?_
  refine p_cs (n := 2) (kn) hC gL_law_L_below rfl (by decide +kernel) rfl ⟨by decide, by decide⟩ ⟨by show _ ≤ 600130; omega, by show _ ≤ 7301080; omega⟩ hl.1 (Nat.le_of_ble_eq_true rfl) dL_law_293 rfl ?_
  refine lv_istore (lv' := [(12, .int (nI n)), (0, .ref sc), (1, .ref hx), (2, .int (nI i)), (3, .int x), (4, .int (nI a)), (5, .int (nI b2)), (8, .int (nI wl)), (9, .int (nI av))]) hC.1 hC.2.1 dL_law_296 hl (by decide) rfl (fun ls hl => ?_)
  refine lv_iconst (v := (nI 0)) hC.1 hC.2.1 dL_law_298 (by decide) ?_
  refine lv_istore (lv' := [(13, .int (nI 0)), (12, .int (nI n)), (0, .ref sc), (1, .ref hx), (2, .int (nI i)), (3, .int x), (4, .int (nI a)), (5, .int (nI b2)), (8, .int (nI wl)), (9, .int (nI av))]) hC.1 hC.2.1 dL_law_299 hl (by decide) rfl (fun ls hl => ?_)
  exact l_turns hC hE hn k2 n 0 hX2 PM.one TW.one hP hD hS CM.one (Nat.zero_add n) (lv_sub hl [0, 1, 5, 2, 3, 4] rfl)
