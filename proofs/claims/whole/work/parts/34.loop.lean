/-! MY ROWS 34: the law's loop (laid by a program of mine) -/
set_option maxHeartbeats 4000000 in
set_option maxRecDepth 100000 in
theorem law_head {p : Program} {l : Launch} {e : Env} {s : State} {m : MethodId} {args : Array Value} {below : List Frame} {meth : Method} {c : Code} {Q : State → Prop} {D : va_G} {T : ClassId × ClassId × ClassId} {z0 : Nat} {hx g ln : Nat} {rw : Nat → Nat} {hm rs td sz wo : Nat} {rr tr : Nat → Nat} {o9 sc : Nat} {Ln : Nat} {xs : Nat → Int32} (hst : l.stackTraces = false) (hC : CallFix p m c cL_law 9 s args wsL_law RL) (hE : zE D T z0 s) (hXw : xW s) (hYw : yW s) (hxs : va_X sc Ln xs s s.heap) (hsl : sc < s.heap.size) (hsz : ¬ zA z0 sc) (hLn : Ln ≤ 2048) (kend : ∀ (H : Heap) (locs : List Loc) (ls : Array Slot), va_S (zA z0) s.heap H locs → W p l e room_1 s m args below meth c H locs 601024 7293034 Q (F0 m 1386 ls [])) {i cells slots : Nat} (hi : i ≤ 2048) (hcl : cells ≤ 600000) (hsl2 : slots ≤ 7200000) (hgo : i + 3 < Ln → LGO p l e s m args below meth c Q D T z0 hx g ln rw hm rs td sz wo rr tr o9 sc (i) (cells + 701) (slots + 11206) 1380) : LGO p l e s m args below meth c Q D T z0 hx g ln rw hm rs td sz wo rr tr o9 sc (i) (cells) (slots) 23 := by
  intro L f H locs cu th b mk wd gO ls hPM hJ hP hD hS hl
  refine lv_iload hC.1 hC.2.1 dL_law_23 (lv_at hl 4 rfl) ?_
  refine lv_aload_n hC.1 hC.2.1 dL_law_25 rfl (lv_at hl 0 rfl) ?_
  refine va_slen hC.1 hC.2.1 hxs hsl hsz hS dL_law_26 ?_
  refine lv_iconst (v := (nI 4)) hC.1 hC.2.1 dL_law_27 (by decide) ?_
  refine lv_isub hC.1 hC.2.1 dL_law_28 ?_
  refine lv_icmp_gt (tgt := 1386) hC.1 hC.2.1 dL_law_29 (by decide) (fun h0 => ?_) (fun h0 => ?_)
  · exact W.widen (by omega) (by omega) (kend _ _ _ hS)
  have hi3 : i + 3 < Ln := by
    rcases Nat.lt_or_ge (i + 3) Ln with q | q
    · exact q
    · exact absurd ((m4_lt (by omega) (by omega)).mpr (by omega)) h0
  refine lv_aload_n hC.1 hC.2.1 dL_law_32 rfl (lv_at hl 0 rfl) ?_
  refine lv_iload hC.1 hC.2.1 dL_law_33 (lv_at hl 4 rfl) ?_
  refine va_sld hC.1 hC.2.1 hxs hsl hsz hS (vp_in_nI (by omega) (by omega)) dL_law_35 ?_
  rw [nI_clamp (by omega : i < 2 ^ 31)]
  refine lv_bipush (v := (nI 31)) hC.1 hC.2.1 dL_law_36 (by decide) ?_
  refine lv_iand hC.1 hC.2.1 dL_law_38 ?_
  obtain ⟨c9, hc9, e9⟩ := and_31 (xs i)
  rw [e9]
  rcases (by omega : c9 = 0 ∨ c9 = 1 ∨ c9 = 2 ∨ c9 = 3 ∨ c9 = 4 ∨ c9 = 5 ∨ c9 = 6 ∨ c9 = 7 ∨ c9 = 8 ∨ c9 = 9 ∨ c9 = 10 ∨ c9 = 11 ∨ c9 = 12 ∨ c9 = 13 ∨ c9 = 14 ∨ c9 = 15 ∨ c9 = 16 ∨ c9 = 17 ∨ c9 = 18 ∨ c9 = 19 ∨ c9 = 20 ∨ c9 = 21 ∨ 22 ≤ c9) with rfl | rfl | rfl | rfl | rfl | rfl | rfl | rfl | rfl | rfl | rfl | rfl | rfl | rfl | rfl | rfl | rfl | rfl | rfl | rfl | rfl | rfl | h9
  · refine lv_tableIn (off := 101) (tgt := 140) hC.1 hC.2.1 dL_law_39 (by decide) (by decide) (by decide) (by decide) ?_
    exact c_turn hst hC hE hXw hYw hxs hsl hsz hLn hi3 (by omega) (by omega) (hgo hi3) L f H locs cu th b mk wd gO ls hPM hJ hP hD hS (lv_sub hl [0, 1, 2, 3, 4] rfl)
  · refine lv_tableIn (off := 169) (tgt := 208) hC.1 hC.2.1 dL_law_39 (by decide) (by decide) (by decide) (by decide) ?_
    exact c_play hst hC hE hXw hYw hxs hsl hsz hLn hi3 (by omega) (by omega) (hgo hi3) L f H locs cu th b mk wd gO ls hPM hJ hP hD hS (lv_sub hl [0, 1, 2, 3, 4] rfl)
  · refine lv_tableIn (off := 237) (tgt := 276) hC.1 hC.2.1 dL_law_39 (by decide) (by decide) (by decide) (by decide) ?_
    exact c_reset hst hC hE hXw hYw hxs hsl hsz hLn hi3 (by omega) (by omega) (hgo hi3) L f H locs cu th b mk wd gO ls hPM hJ hP hD hS (lv_sub hl [0, 1, 2, 3, 4] rfl)
  · refine lv_tableIn (off := 250) (tgt := 289) hC.1 hC.2.1 dL_law_39 (by decide) (by decide) (by decide) (by decide) ?_
    exact c_say hst hC hE hXw hYw hxs hsl hsz hLn hi3 (by omega) (by omega) (hgo hi3) L f H locs cu th b mk wd gO ls hPM hJ hP hD hS (lv_sub hl [0, 1, 2, 3, 4] rfl)
  · refine lv_tableIn (off := 330) (tgt := 369) hC.1 hC.2.1 dL_law_39 (by decide) (by decide) (by decide) (by decide) ?_
    exact c_wipe hst hC hE hXw hYw hxs hsl hsz hLn hi3 (by omega) (by omega) (hgo hi3) L f H locs cu th b mk wd gO ls hPM hJ hP hD hS (lv_sub hl [0, 1, 2, 3, 4] rfl)
  · refine lv_tableIn (off := 386) (tgt := 425) hC.1 hC.2.1 dL_law_39 (by decide) (by decide) (by decide) (by decide) ?_
    exact c_round hst hC hE hXw hYw hxs hsl hsz hLn hi3 (by omega) (by omega) (hgo hi3) L f H locs cu th b mk wd gO ls hPM hJ hP hD hS (lv_sub hl [0, 1, 2, 3, 4] rfl)
  · refine lv_tableIn (off := 442) (tgt := 481) hC.1 hC.2.1 dL_law_39 (by decide) (by decide) (by decide) (by decide) ?_
    exact c_join hst hC hE hXw hYw hxs hsl hsz hLn hi3 (by omega) (by omega) (hgo hi3) L f H locs cu th b mk wd gO ls hPM hJ hP hD hS (lv_sub hl [0, 1, 2, 3, 4] rfl)
  · refine lv_tableIn (off := 510) (tgt := 549) hC.1 hC.2.1 dL_law_39 (by decide) (by decide) (by decide) (by decide) ?_
    exact c_tidy hst hC hE hXw hYw hxs hsl hsz hLn hi3 (by omega) (by omega) (hgo hi3) L f H locs cu th b mk wd gO ls hPM hJ hP hD hS (lv_sub hl [0, 1, 2, 3, 4] rfl)
  · refine lv_tableIn (off := 566) (tgt := 605) hC.1 hC.2.1 dL_law_39 (by decide) (by decide) (by decide) (by decide) ?_
    exact c_told hst hC hE hXw hYw hxs hsl hsz hLn hi3 (by omega) (by omega) (hgo hi3) L f H locs cu th b mk wd gO ls hPM hJ hP hD hS (lv_sub hl [0, 1, 2, 3, 4] rfl)
  · refine lv_tableIn (off := 634) (tgt := 673) hC.1 hC.2.1 dL_law_39 (by decide) (by decide) (by decide) (by decide) ?_
    exact c_where hst hC hE hXw hYw hxs hsl hsz hLn hi3 (by omega) (by omega) (hgo hi3) L f H locs cu th b mk wd gO ls hPM hJ hP hD hS (lv_sub hl [0, 1, 2, 3, 4] rfl)
  · refine lv_tableIn (off := 690) (tgt := 729) hC.1 hC.2.1 dL_law_39 (by decide) (by decide) (by decide) (by decide) ?_
    exact c_count hst hC hE hXw hYw hxs hsl hsz hLn hi3 (by omega) (by omega) (hgo hi3) L f H locs cu th b mk wd gO ls hPM hJ hP hD hS (lv_sub hl [0, 1, 2, 3, 4] rfl)
  · refine lv_tableIn (off := 746) (tgt := 785) hC.1 hC.2.1 dL_law_39 (by decide) (by decide) (by decide) (by decide) ?_
    exact c_word hst hC hE hXw hYw hxs hsl hsz hLn hi3 (by omega) (by omega) (hgo hi3) L f H locs cu th b mk wd gO ls hPM hJ hP hD hS (lv_sub hl [0, 1, 2, 3, 4] rfl)
  · refine lv_tableIn (off := 814) (tgt := 853) hC.1 hC.2.1 dL_law_39 (by decide) (by decide) (by decide) (by decide) ?_
    exact c_at hst hC hE hXw hYw hxs hsl hsz hLn hi3 (by omega) (by omega) (hgo hi3) L f H locs cu th b mk wd gO ls hPM hJ hP hD hS (lv_sub hl [0, 1, 2, 3, 4] rfl)
  · refine lv_tableIn (off := 882) (tgt := 921) hC.1 hC.2.1 dL_law_39 (by decide) (by decide) (by decide) (by decide) ?_
    exact c_same hst hC hE hXw hYw hxs hsl hsz hLn hi3 (by omega) (by omega) (hgo hi3) L f H locs cu th b mk wd gO ls hPM hJ hP hD hS (lv_sub hl [0, 1, 2, 3, 4] rfl)
  · refine lv_tableIn (off := 957) (tgt := 996) hC.1 hC.2.1 dL_law_39 (by decide) (by decide) (by decide) (by decide) ?_
    exact c_mixed hst hC hE hXw hYw hxs hsl hsz hLn hi3 (by omega) (by omega) (hgo hi3) L f H locs cu th b mk wd gO ls hPM hJ hP hD hS (lv_sub hl [0, 1, 2, 3, 4] rfl)
  · refine lv_tableIn (off := 1025) (tgt := 1064) hC.1 hC.2.1 dL_law_39 (by decide) (by decide) (by decide) (by decide) ?_
    exact c_would hst hC hE hXw hYw hxs hsl hsz hLn hi3 (by omega) (by omega) (hgo hi3) L f H locs cu th b mk wd gO ls hPM hJ hP hD hS (lv_sub hl [0, 1, 2, 3, 4] rfl)
  · refine lv_tableIn (off := 1093) (tgt := 1132) hC.1 hC.2.1 dL_law_39 (by decide) (by decide) (by decide) (by decide) ?_
    exact c_far hst hC hE hXw hYw hxs hsl hsz hLn hi3 (by omega) (by omega) (hgo hi3) L f H locs cu th b mk wd gO ls hPM hJ hP hD hS (lv_sub hl [0, 1, 2, 3, 4] rfl)
  · refine lv_tableIn (off := 1149) (tgt := 1188) hC.1 hC.2.1 dL_law_39 (by decide) (by decide) (by decide) (by decide) ?_
    exact c_first hst hC hE hXw hYw hxs hsl hsz hLn hi3 (by omega) (by omega) (hgo hi3) L f H locs cu th b mk wd gO ls hPM hJ hP hD hS (lv_sub hl [0, 1, 2, 3, 4] rfl)
  · refine lv_tableIn (off := 1205) (tgt := 1244) hC.1 hC.2.1 dL_law_39 (by decide) (by decide) (by decide) (by decide) ?_
    exact c_shortest hst hC hE hXw hYw hxs hsl hsz hLn hi3 (by omega) (by omega) (hgo hi3) L f H locs cu th b mk wd gO ls hPM hJ hP hD hS (lv_sub hl [0, 1, 2, 3, 4] rfl)
  · refine lv_tableIn (off := 1273) (tgt := 1312) hC.1 hC.2.1 dL_law_39 (by decide) (by decide) (by decide) (by decide) ?_
    exact c_advise hst hC hE hXw hYw hxs hsl hsz hLn hi3 (by omega) (by omega) (hgo hi3) L f H locs cu th b mk wd gO ls hPM hJ hP hD hS (lv_sub hl [0, 1, 2, 3, 4] rfl)
  · refine lv_tableIn (off := 1286) (tgt := 1325) hC.1 hC.2.1 dL_law_39 (by decide) (by decide) (by decide) (by decide) ?_
    exact c_mean hst hC hE hXw hYw hxs hsl hsz hLn hi3 (by omega) (by omega) (hgo hi3) L f H locs cu th b mk wd gO ls hPM hJ hP hD hS (lv_sub hl [0, 1, 2, 3, 4] rfl)
  · refine lv_tableIn (off := 1327) (tgt := 1366) hC.1 hC.2.1 dL_law_39 (by decide) (by decide) (by decide) (by decide) ?_
    exact c_digest hst hC hE hXw hYw hxs hsl hsz hLn hi3 (by omega) (by omega) (hgo hi3) L f H locs cu th b mk wd gO ls hPM hJ hP hD hS (lv_sub hl [0, 1, 2, 3, 4] rfl)
  · refine lv_tableOut (tgt := 1380) hC.1 hC.2.1 dL_law_39 (Or.inr (by rw [nI_toInt (by omega)]; omega)) (by decide) ?_
    exact W.widen (by omega) (by omega) (hgo hi3 L f H locs cu th b mk wd gO ls hPM hJ hP hD hS (lv_sub hl [0, 1, 2, 3, 4] rfl))

set_option maxHeartbeats 4000000 in
set_option maxRecDepth 100000 in
theorem law_loop {p : Program} {l : Launch} {e : Env} {s : State} {m : MethodId} {args : Array Value} {below : List Frame} {meth : Method} {c : Code} {Q : State → Prop} {D : va_G} {T : ClassId × ClassId × ClassId} {z0 : Nat} {hx g ln : Nat} {rw : Nat → Nat} {hm rs td sz wo : Nat} {rr tr : Nat → Nat} {o9 sc : Nat} {Ln : Nat} {xs : Nat → Int32} (hst : l.stackTraces = false) (hC : CallFix p m c cL_law 9 s args wsL_law RL) (hE : zE D T z0 s) (hXw : xW s) (hYw : yW s) (hxs : va_X sc Ln xs s s.heap) (hsl : sc < s.heap.size) (hsz : ¬ zA z0 sc) (hLn : Ln ≤ 2048) (kend : ∀ (H : Heap) (locs : List Loc) (ls : Array Slot), va_S (zA z0) s.heap H locs → W p l e room_1 s m args below meth c H locs 601024 7293034 Q (F0 m 1386 ls [])) : ∀ (n j : Nat), j + n = 512 → LGO p l e s m args below meth c Q D T z0 hx g ln rw hm rs td sz wo rr tr o9 sc (4 * j) (66 + 701 * j) (994 + 11206 * j) 23 := by
  intro n
  induction n with
  | zero =>
    intro j hj
    exact law_head hst hC hE hXw hYw hxs hsl hsz hLn kend (by omega) (by omega) (by omega) (fun q => absurd q (by omega))
  | succ n ih =>
    intro j hj
    refine law_head hst hC hE hXw hYw hxs hsl hsz hLn kend (by omega) (by omega) (by omega) (fun q => ?_)
    intro L f H locs cu th b mk wd gO ls hPM hJ hP hD hS hl
    refine lv_iinc (v := nI (4 * (j + 1))) (lv' := [(4, .int (nI (4 * (j + 1)))), (0, .ref sc), (1, .ref hx), (2, .ref hm), (3, .ref o9)]) hC.1 hC.2.1 dL_law_1380 hl (k := 4) rfl ((z_inc4 _).trans (congrArg nI (by omega))) (by decide) rfl (fun ls hl => ?_)
    refine lv_goto (tgt := 23) hC.1 hC.2.1 dL_law_1383 (by decide) ?_
    exact W.widen (by omega) (by omega) (ih (j + 1) (by omega) L f H locs cu th b mk wd gO ls hPM hJ hP hD hS (lv_sub hl [1, 2, 3, 4, 0] rfl))
