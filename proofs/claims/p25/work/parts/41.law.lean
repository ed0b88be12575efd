/-! MY ROWS 41: the law from its entry (laid by a program of mine) -/
set_option maxHeartbeats 4000000 in
set_option maxRecDepth 100000 in
theorem law_words {p : Program} {l : Launch} {e : Env} {s : State} {m : MethodId} {args : Array Value} {below : List Frame} {meth : Method} {c : Code} {Q : State → Prop} {D : va_G} {T : ClassId × ClassId × ClassId} {z0 : Nat} {hx g ln : Nat} {rw : Nat → Nat} {sc : Nat} (hC : CallFix p m c cL_law 16 s args wsL_law RL) (hE : zE D T z0 s) {Ln : Nat} {xs : Nat → Int32} (hLn : Ln ≤ 260) (hxs : va_X sc Ln xs s s.heap) (hsz : ¬ zA z0 sc) (k38 : LGO p l e s m args below meth c Q D T z0 hx g ln rw sc 0 38) : ∀ (n w : Nat) {L : List Nat} {f : Nat → va_E} {H : Heap} {locs : List Loc} {wd : Nat → List Nat} {ls : Array Slot}, w + n = 5 → CX T L f hx g ln rw one (nI 0) wd → (∀ v, w ≤ v → v < 5 → wd v = []) → va_P D vwCl (va_pl L f) H → va_D (zA z0) (va_pl L f) → va_S (zA z0) s.heap H locs → lv_has ls 16 [(2, .int (nI w)), (0, .ref sc), (1, .ref hx)] → W p l e room_1 s m args below meth c H locs (8 + w) (74 + 12 * w) Q (F0 m 10 ls []) := by
  intro n
  induction n with
  | zero =>
    intro w L f H locs wd ls hw hX hemp hP hD hS hl
    refine lv_iload_n hC.1 hC.2.1 dL_law_10 rfl (lv_at hl 0 rfl) ?_
    refine lv_iconst (v := (nI 5)) hC.1 hC.2.1 dL_law_11 (by decide) ?_
    refine z_icmp_ge (tgt := 36) hC dL_law_12 (by decide) (by omega) (by omega) (fun h_12 => ?_) (fun h_12 => by omega)
    refine lv_iconst (v := (nI 0)) hC.1 hC.2.1 dL_law_36 (by decide) ?_
    refine lv_istore_n (lv' := [(2, .int (nI 0)), (0, .ref sc), (1, .ref hx)]) hC.1 hC.2.1 dL_law_37 rfl hl (by decide) rfl (fun ls hl => ?_)
    exact W.widen (by omega) (by omega) (k38 _ _ _ _ _ _ _ _ hX PM.one TW.one hP hD hS (lv_sub hl [1, 2, 0] rfl))
  | succ n ih =>
    intro w L f H locs wd ls hw hX hemp hP hD hS hl
    refine lv_iload_n hC.1 hC.2.1 dL_law_10 rfl (lv_at hl 0 rfl) ?_
    refine lv_iconst (v := (nI 5)) hC.1 hC.2.1 dL_law_11 (by decide) ?_
    refine z_icmp_ge (tgt := 36) hC dL_law_12 (by decide) (by omega) (by omega) (fun h_12 => by omega) (fun h_12 => ?_)
    refine lv_aload_n hC.1 hC.2.1 dL_law_15 rfl (lv_at hl 2 rfl) ?_
    refine lv_iload_n hC.1 hC.2.1 dL_law_16 rfl (lv_at hl 0 rfl) ?_
    refine lv_aload_n hC.1 hC.2.1 dL_law_17 rfl (lv_at hl 1 rfl) ?_
    refine lv_iload_n hC.1 hC.2.1 dL_law_18 rfl (lv_at hl 0 rfl) ?_
    refine p_csGH (n := 2) (k_wordOf l (D := D) (T := T) (L := L) (f := f) hLn hsz (w := w) (by omega)) zPreX.blind (fun U hU hW => zPreX.pass hE hP hD hS hxs hsz U hU hW) hC hS gL_law_L_wordOf rfl (by decide +kernel) rfl ⟨by decide, by decide⟩ ⟨by show _ ≤ 600130; omega, by show _ ≤ 7301080; omega⟩ hl.1 (Nat.le_of_ble_eq_true rfl) dL_law_19 rfl (fun o1 L1 f1 H locs hpost hP hD hS => ?_)
    obtain ⟨q, gq, lw, rfl, hq, hLe, hfq, hkeep, h12, h9⟩ := hpost
    rw [hLe] at hP hD
    have hX1 := hX.keep (L' := L ++ [q]) (f' := f1) (fun a ha => ⟨List.mem_append_left _ ha, hkeep a ha⟩)
    refine p_csH (n := 3) (k_sayW l hX1 (w := w) (q := q) (by omega) (hemp w (Nat.le_refl _) (by omega)) (List.mem_append_right _ (List.mem_singleton.mpr rfl)) hfq (fun e : q = hx => hq (e ▸ hX.1.1)) (fun e : q = ln => hq (e ▸ hX.2.2.1.1)) (fun v hv (e : q = rw v) => hq (e ▸ (hX.2.2.2.1 v hv).1)) h12 h9) hC hE hP hD hS gL_law_L_say rfl (by decide +kernel) rfl ⟨by decide, by decide⟩ ⟨by show _ ≤ 600130; omega, by show _ ≤ 7301080; omega⟩ hl.1 (Nat.le_of_ble_eq_true rfl) dL_law_22 rfl (fun o2 L2 f2 H locs hpost hP hD hS => ?_)
    obtain ⟨rfl, hLe2, hX2⟩ := hpost
    rw [hLe2] at hP hD
    refine z_if_ne (tgt := 30) hC dL_law_25 (by decide) (by decide) (fun h_25 => ?_) (fun h_25 => by omega)
    refine lv_iinc (v := nI (w + 1)) (lv' := [(2, .int (nI (w + 1))), (0, .ref sc), (1, .ref hx)]) hC.1 hC.2.1 dL_law_30 hl (k := 0) rfl (z_inc _) (by decide) rfl (fun ls hl => ?_)
    refine lv_goto (tgt := 10) hC.1 hC.2.1 dL_law_33 (by decide) ?_
    exact W.widen (by omega) (by omega) (ih (w + 1) (by omega) hX2 (fun v h1 h2 => (if_neg (by omega)).trans (hemp v (by omega) h2)) hP hD hS (lv_sub hl [0, 1, 2] rfl))

-- ===== YOUR PART BEGINS =====
/-- YOUR PART: from the entry, for every script of at most 260 ints, the law comes to its end with true ('hflags': the launch's flags, for a law that throws: no stack traces) -/
theorem whole_start {p : Program} {e : Env} {s : State} {m : MethodId} {below : List Frame} {meth : Method} {c : Code} (l : Launch) (hflags : l.flags = flags0) {b L : Nat} {xs : Nat → Int32} (hL : L ≤ 260) (C0 : lw_At p s m meth c b L xs) : W p l e room_1 s m #[Value.ref b] below meth c s.heap [] 0 0 (lw_Z below #[Value.ref b] s) (entryFrame m ([Value.ref b] : List Value).toArray 16) := by
  obtain ⟨hx0, hb0, hr0, hml, hown, hts, hX, hbl, hlocks, hgv⟩ := id C0
  have hA : ∀ a : Nat, a < s.heap.size → ¬ zA s.heap.size a := fun a h => Nat.not_le.mpr h
  have hSF : SF s.heap.size s s.heap := trivial
  have hAO : va_AOA .int s := by
    have h9 := hts (.arrayOver (.array .int)) (by decide +kernel)
    exact h9
  obtain ⟨c0, iS0, hKn0⟩ := u_known (C := RX0) (T := TX0) (N := 4) (n := 4) hts (by decide +kernel) (hts (.instantiable RX0 4) (by decide +kernel))
  obtain ⟨D, hKc⟩ : ∃ D : va_G, ∀ (k : Nat) (q : vw_C), vwCl[k]? = some q → u_Kn s q.1 q.2.1 q.2.2 (D.1 k) (D.2 k) := by
    refine ⟨(fun _ => c0, fun _ => iS0), ?_⟩
    intro k q hq
    match k, hq with
    | 0, hq => cases hq; exact hKn0
    | k + 1, hq => simp [vwCl] at hq
  obtain ⟨cI, kI, coI, i1, i2, i3⟩ := Cond.arrayClass_spec (hts (.arrayClass .int) (by decide +kernel))
  obtain ⟨coA, cA, kA, -, -, a3, a4, a5⟩ := AOA_spec hAO
  have hK : va_K D vwCl (zT (cI, cI, cA)) s := by
    refine ⟨hKc, fun k q hq => ?_⟩
    match k, hq with
    | 0, hq => cases hq; exact ⟨fun n z => ⟨fun k h => (by cases h), kI, i2, coI, i3⟩, i1⟩
    | 1, hq => cases hq; exact ⟨fun n z => ⟨fun k h => (by cases h), kI, i2, coI, i3⟩, i1⟩
    | 2, hq => cases hq; exact ⟨fun n z => ⟨fun k h => (by cases h), kA, a3, coA, a4⟩, a5⟩
    | k + 3, hq => simp [zT] at hq
  have hE : zE D (cI, cI, cA) s.heap.size s := ⟨Nat.le_refl _, hSF, hK⟩
  generalize (cI, cI, cA) = T at hE
  have hS : va_S (zA s.heap.size) s.heap s.heap [] := va_S.rf
  have hC : CallFix p m c cL_law 16 s #[Value.ref b] wsL_law RL := ⟨hx0, hb0, hml, hown, fun w hw => hts w (wsL_law_in w hw)⟩
  have hl := lv_entry ([.ref b]) (n := 16) (Nat.le_of_ble_eq_true rfl)
  rw [lg_entry_eq]
  generalize (lg_sl ([.ref b]) ++ List.replicate (16 - (lg_sl ([.ref b])).length) Slot.unset).toArray = ls at hl ⊢
  have hl : lv_has ls 16 [(0, .ref b)] := hl
  show W p l e room_1 s m #[Value.ref b] below meth c s.heap [] 0 0 (lw_Z below #[Value.ref b] s) (F0 m 0 ls [])
  have hP : va_P D vwCl (va_pl [] (fun _ => eO 0 [])) s.heap := fun k q h => by simp [va_pl] at h
  have hD : va_D (zA s.heap.size) (va_pl [] (fun _ => eO 0 [])) := ⟨fun i j p q h => by simp [va_pl] at h, fun k q h => by simp [va_pl] at h⟩
  have kend : ∀ (H : Heap) (locs : List Loc) (ls : Array Slot), va_S (zA s.heap.size) s.heap H locs → W p l e room_1 s m #[Value.ref b] below meth c H locs 13 134 (lw_Z below #[Value.ref b] s) (F0 m 647 ls []) := by
    intro H locs ls hS
    refine lv_iconst (v := 1) hx0 hb0 dL_law_647 (by decide) ?_
    refine va_forget (fun q hq => hS.2.2 q hq) ?_
    exact W.widen (k := 600130) (n := 7301080) (by omega) (by omega) (lw_ret hx0 hb0 hr0 hlocks dL_law_648)
  refine p_newO (Cn := RX0) (TT := TX0) (N := 4) (ci := 0) (index := 20) (fs := [.long 0, .int 0, .null, .null]) hC hE hP hD hS (by decide +kernel) tyX0_ok (by decide +kernel) (by decide +kernel) (by decide +kernel) rfl (fun j hj => by rcases (by omega : j = 0 ∨ j = 1 ∨ j = 2 ∨ j = 3) with rfl | rfl | rfl | rfl <;> rfl) (by show _ ≤ 600130; omega) (by show _ ≤ 7301080; omega) dL_law_0 (fun hx H hhx hP hD hS => ?_)
  refine lv_dup hC.1 hC.2.1 dL_law_3 rfl ?_
  refine p_ciH (n := 0) (k_X0init l (hx := hx) (List.mem_append_right [] (List.mem_singleton.mpr rfl)) (va_up_self _ _ _)) hC hE hAO hP hD hS gL_law_X0_init rfl (by decide +kernel) (by decide +kernel) (by decide +kernel) rfl (by decide +kernel) rfl ⟨by decide, by decide⟩ ⟨by show _ ≤ 600130; omega, by show _ ≤ 7301080; omega⟩ hl.1 (Nat.le_of_ble_eq_true rfl) dL_law_4 rfl (fun o L1 f1 H locs hpost hP hD hS => ?_)
  obtain ⟨rfl, g, ln, rw, hX1, -⟩ := hpost
  refine lv_astore_n (lv' := [(1, .ref hx), (0, .ref b)]) hC.1 hC.2.1 dL_law_7 rfl hl (by decide) rfl (fun ls hl => ?_)
  refine lv_iconst (v := (nI 0)) hC.1 hC.2.1 dL_law_8 (by decide) ?_
  refine lv_istore_n (lv' := [(2, .int (nI 0)), (1, .ref hx), (0, .ref b)]) hC.1 hC.2.1 dL_law_9 rfl hl (by decide) rfl (fun ls hl => ?_)
  exact law_words hC hE hL hX (hA b hbl) (law_loop hC hE hL hX (hA b hbl) kend 12 0 (Nat.zero_add 12)) 5 0 (Nat.zero_add 5) hX1 (fun _ _ _ => rfl) hP hD hS (lv_sub hl [0, 2, 1] rfl)
