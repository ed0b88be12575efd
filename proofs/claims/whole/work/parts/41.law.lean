/-! MY ROWS 41: the law from its entry (laid by a program of mine) -/
-- ===== YOUR PART BEGINS =====
/-- YOUR PART: from the entry, for every script of at most 2048 ints, the law comes to its end with true ('hflags': the launch's flags, for a law that throws: no stack traces) -/
theorem whole_start {p : Program} {e : Env} {s : State} {m : MethodId} {below : List Frame} {meth : Method} {c : Code} (l : Launch) (hflags : l.flags = flags0) {b L : Nat} {xs : Nat → Int32} (hL : L ≤ 2048) (C0 : lw_At p s m meth c b L xs) : W p l e room_1 s m #[Value.ref b] below meth c s.heap [] 0 0 (lw_Z below #[Value.ref b] s) (entryFrame m ([Value.ref b] : List Value).toArray 9) := by
  obtain ⟨hx0, hb0, hr0, hml, hown, hts, hX, hbl, hlocks, hgv⟩ := id C0
  have hs := flat_of_before _ hgv
  have hst : l.stackTraces = false := by unfold Launch.stackTraces; rw [hflags]; decide +kernel
  have hd0 := Drawn.sameBut.refl s.drawn lw_cs
  have hA : ∀ a : Nat, a < s.heap.size → ¬ zA s.heap.size a := fun a h => Nat.not_le.mpr h
  have hini : (Cond.initialized RX1).before #[Value.ref b] s = true := hts _ (by decide +kernel)
  have hROUND : zSt "ROUND" zRing s.heap.size s s.heap := by
    refine zSt_of (args := #[Value.ref b]) (hts _ (by decide +kernel)) hini (hs _ (by decide +kernel)) (hs _ (by decide +kernel)) (fun i hi => ?_) hA
    rcases (by omega : i = 0 ∨ i = 1 ∨ i = 2) with rfl | rfl | rfl
    · refine ⟨hs _ (by decide +kernel), hs _ (by decide +kernel), fun k hk => ?_⟩
      rcases (by omega : k = 0 ∨ k = 1 ∨ k = 2 ∨ k = 3) with rfl | rfl | rfl | rfl
      · exact hs _ (by decide +kernel)
      · exact hs _ (by decide +kernel)
      · exact hs _ (by decide +kernel)
      · exact hs _ (by decide +kernel)
    · refine ⟨hs _ (by decide +kernel), hs _ (by decide +kernel), fun k hk => ?_⟩
      rcases (by omega : k = 0 ∨ k = 1 ∨ k = 2 ∨ k = 3) with rfl | rfl | rfl | rfl
      · exact hs _ (by decide +kernel)
      · exact hs _ (by decide +kernel)
      · exact hs _ (by decide +kernel)
      · exact hs _ (by decide +kernel)
    · refine ⟨hs _ (by decide +kernel), hs _ (by decide +kernel), fun k hk => ?_⟩
      rcases (by omega : k = 0 ∨ k = 1 ∨ k = 2 ∨ k = 3) with rfl | rfl | rfl | rfl
      · exact hs _ (by decide +kernel)
      · exact hs _ (by decide +kernel)
      · exact hs _ (by decide +kernel)
      · exact hs _ (by decide +kernel)
  have hMORE : zSt "MORE" zMore s.heap.size s s.heap := by
    refine zSt_of (args := #[Value.ref b]) (hts _ (by decide +kernel)) hini (hs _ (by decide +kernel)) (hs _ (by decide +kernel)) (fun i hi => ?_) hA
    rcases (by omega : i = 0 ∨ i = 1 ∨ i = 2) with rfl | rfl | rfl
    · refine ⟨hs _ (by decide +kernel), hs _ (by decide +kernel), fun k hk => ?_⟩
      rcases (by omega : k = 0 ∨ k = 1 ∨ k = 2 ∨ k = 3) with rfl | rfl | rfl | rfl
      · exact hs _ (by decide +kernel)
      · exact hs _ (by decide +kernel)
      · exact hs _ (by decide +kernel)
      · exact hs _ (by decide +kernel)
    · refine ⟨hs _ (by decide +kernel), hs _ (by decide +kernel), fun k hk => ?_⟩
      rcases (by omega : k = 0 ∨ k = 1 ∨ k = 2 ∨ k = 3) with rfl | rfl | rfl | rfl
      · exact hs _ (by decide +kernel)
      · exact hs _ (by decide +kernel)
      · exact hs _ (by decide +kernel)
      · exact hs _ (by decide +kernel)
    · refine ⟨hs _ (by decide +kernel), hs _ (by decide +kernel), fun k hk => ?_⟩
      rcases (by omega : k = 0 ∨ k = 1 ∨ k = 2 ∨ k = 3) with rfl | rfl | rfl | rfl
      · exact hs _ (by decide +kernel)
      · exact hs _ (by decide +kernel)
      · exact hs _ (by decide +kernel)
      · exact hs _ (by decide +kernel)
  have hstr : ∀ q ∈ zStr, ∃ a, vk_R RX0 q.1 q.2 a s := by
    intro q hq
    simp only [zStr, List.mem_cons, List.not_mem_nil, or_false] at hq
    rcases hq with rfl | rfl | rfl | rfl | rfl | rfl | rfl | rfl | rfl | rfl | rfl | rfl
    · exact str_of (args := #[Value.ref b]) (hs _ (by decide +kernel)) (hts _ (by decide +kernel))
    · exact str_of (args := #[Value.ref b]) (hs _ (by decide +kernel)) (hts _ (by decide +kernel))
    · exact str_of (args := #[Value.ref b]) (hs _ (by decide +kernel)) (hts _ (by decide +kernel))
    · exact str_of (args := #[Value.ref b]) (hs _ (by decide +kernel)) (hts _ (by decide +kernel))
    · exact str_of (args := #[Value.ref b]) (hs _ (by decide +kernel)) (hts _ (by decide +kernel))
    · exact str_of (args := #[Value.ref b]) (hs _ (by decide +kernel)) (hts _ (by decide +kernel))
    · exact str_of (args := #[Value.ref b]) (hs _ (by decide +kernel)) (hts _ (by decide +kernel))
    · exact str_of (args := #[Value.ref b]) (hs _ (by decide +kernel)) (hts _ (by decide +kernel))
    · exact str_of (args := #[Value.ref b]) (hs _ (by decide +kernel)) (hts _ (by decide +kernel))
    · exact str_of (args := #[Value.ref b]) (hs _ (by decide +kernel)) (hts _ (by decide +kernel))
    · exact str_of (args := #[Value.ref b]) (hs _ (by decide +kernel)) (hts _ (by decide +kernel))
    · exact str_of (args := #[Value.ref b]) (hs _ (by decide +kernel)) (hts _ (by decide +kernel))
  have hth : (Cond.initialized Bundle.tN).before #[Value.ref b] s = true := hts _ (by decide +kernel)
  have hSF : SF s.heap.size s s.heap := ⟨vx_Zqof (args := #[Value.ref b]) (hts _ (by decide +kernel)) hth (hs _ (by decide +kernel)) hA, vx_Zqof (args := #[Value.ref b]) (hts _ (by decide +kernel)) hth (hs _ (by decide +kernel)) hA, hstr, hROUND, hMORE⟩
  have hXw : xW s := ⟨va_Nw.of (A := #[Value.ref b]) rfl (hts _ (by decide +kernel)), va_Nw.of (A := #[Value.ref b]) rfl (hts _ (by decide +kernel)), va_Nw.of (A := #[Value.ref b]) rfl (hts _ (by decide +kernel)), va_Nw.of (A := #[Value.ref b]) rfl (hts _ (by decide +kernel)), va_Nw.of (A := #[Value.ref b]) rfl (hts _ (by decide +kernel)), va_Nw.of (A := #[Value.ref b]) rfl (hts _ (by decide +kernel))⟩
  have hYw : yW s := ⟨va_Nc.of (args := #[Value.ref b]) (hs _ (by decide +kernel)), va_Nc.of (args := #[Value.ref b]) (hs _ (by decide +kernel)), va_Nc.of (args := #[Value.ref b]) (hs _ (by decide +kernel))⟩
  have hAO : va_AOA .int s := by
    have h9 := hts (.arrayOver (.array .int)) (by decide +kernel)
    exact h9
  obtain ⟨c0, iS0, hKn0⟩ := u_known (C := RX0) (T := TX0) (N := 4) (n := 4) hts (by decide +kernel) (hts (.instantiable RX0 4) (by decide +kernel))
  obtain ⟨c1, iS1, hKn1⟩ := u_known (C := RX1) (T := TX1) (N := 7) (n := 7) hts (by decide +kernel) (hts (.instantiable RX1 7) (by decide +kernel))
  obtain ⟨D, hKc⟩ : ∃ D : va_G, ∀ (k : Nat) (q : vw_C), vwCl[k]? = some q → u_Kn s q.1 q.2.1 q.2.2 (D.1 k) (D.2 k) := by
    refine ⟨(fun k => if k = 0 then c0 else c1, fun k => if k = 0 then iS0 else iS1), ?_⟩
    intro k q hq
    match k, hq with
    | 0, hq => cases hq; exact hKn0
    | 1, hq => cases hq; exact hKn1
    | k + 2, hq => simp [vwCl] at hq
  obtain ⟨cI, kI, coI, i1, i2, i3⟩ := Cond.arrayClass_spec (hts (.arrayClass .int) (by decide +kernel))
  obtain ⟨cJ, kJ, coJ, j1, j2, j3⟩ := Cond.arrayClass_spec (hts (.arrayClass .long) (by decide +kernel))
  obtain ⟨coA, cA, kA, -, -, a3, a4, a5⟩ := AOA_spec hAO
  have hK : va_K D vwCl (zT (cI, cJ, cA)) s := by
    refine ⟨hKc, fun k q hq => ?_⟩
    match k, hq with
    | 0, hq => cases hq; exact ⟨fun n z => ⟨fun k h => (by cases h), kI, i2, coI, i3⟩, i1⟩
    | 1, hq => cases hq; exact ⟨fun n z => ⟨fun k h => (by cases h), kJ, j2, coJ, j3⟩, j1⟩
    | 2, hq => cases hq; exact ⟨fun n z => ⟨fun k h => (by cases h), kA, a3, coA, a4⟩, a5⟩
    | k + 3, hq => simp [zT] at hq
  have hE : zE D (cI, cJ, cA) s.heap.size s := ⟨Nat.le_refl _, hSF, hK⟩
  generalize (cI, cJ, cA) = T at hE
  have hS : va_S (zA s.heap.size) s.heap s.heap [] := va_S.rf
  have hC : CallFix p m c cL_law 9 s #[Value.ref b] wsL_law RL := ⟨hx0, hb0, hml, hown, fun w hw => hts w (wsL_law_in w hw)⟩
  refine W.base ?_
  have hl := lv_entry ([.ref b]) (n := 9) (Nat.le_of_ble_eq_true rfl)
  rw [lg_entry_eq]
  generalize (lg_sl ([.ref b]) ++ List.replicate (9 - (lg_sl ([.ref b])).length) Slot.unset).toArray = ls at hl ⊢
  have hl : lv_has ls 9 [(0, .ref b)] := hl
  show W p l e room_1 s m #[Value.ref b] below meth c s.heap [] 0 0 (lw_Z below #[Value.ref b] s) (F0 m 0 ls [])
  have hP : va_P D vwCl (va_pl [] (fun _ => eO 0 [])) s.heap := fun k q h => by simp [va_pl] at h
  have hD : va_D (zA s.heap.size) (va_pl [] (fun _ => eO 0 [])) := ⟨fun i j p q h => by simp [va_pl] at h, fun k q h => by simp [va_pl] at h⟩
  have kend : ∀ (H : Heap) (locs : List Loc) (ls : Array Slot), va_S (zA s.heap.size) s.heap H locs → W p l e room_1 s m #[Value.ref b] below meth c H locs 601024 7293034 (lw_Z below #[Value.ref b] s) (F0 m 1386 ls []) := by
    intro H locs ls hS
    refine lv_iconst (v := 1) hx0 hb0 dL_law_1386 (by decide) ?_
    refine va_forget (fun q hq => hS.2.2 q hq) ?_
    exact lw_ret hd0 hx0 hb0 hr0 hlocks dL_law_1387
  refine p_newO (Cn := RX0) (TT := TX0) (N := 4) (ci := 0) (index := 8) (fs := [.long 0, .int 0, .null, .null]) hC hE hP hD hS (by decide +kernel) tyX0_ok (by decide +kernel) (by decide +kernel) (by decide +kernel) rfl (fun j hj => by rcases (by omega : j = 0 ∨ j = 1 ∨ j = 2 ∨ j = 3) with rfl | rfl | rfl | rfl <;> rfl) (by show _ ≤ 601024; omega) (by show _ ≤ 7293034; omega) dL_law_0 (fun hx H hhx hP hD hS => ?_)
  refine lv_dup hC.1 hC.2.1 dL_law_3 rfl ?_
  refine p_ciH (n := 0) (k_X0init l (hx := hx) (List.mem_append_right [] (List.mem_singleton.mpr rfl)) (va_up_self _ _ _)) hC hE hAO hP hD hS gL_law_X0_init rfl (by decide +kernel) (by decide +kernel) (by decide +kernel) rfl (by decide +kernel) rfl ⟨by decide, by decide⟩ ⟨by show _ ≤ 601024; omega, by show _ ≤ 7293034; omega⟩ hl.1 (Nat.le_of_ble_eq_true rfl) dL_law_4 rfl (fun o L1 f1 H locs hpost hP hD hS => ?_)
  obtain ⟨rfl, g, ln, rw, hX1, -⟩ := hpost
  refine lv_astore_n (lv' := [(1, .ref hx), (0, .ref b)]) hC.1 hC.2.1 dL_law_7 rfl hl (by decide) rfl (fun ls hl => ?_)
  refine p_newO (Cn := RX1) (TT := TX1) (N := 7) (ci := 1) (index := 74) (fs := [.int 0, .int 0, .null, .null, .null, .null, .null]) hC hE hP hD hS (by decide +kernel) tyX1_ok (by decide +kernel) (by decide +kernel) (by decide +kernel) rfl (fun j hj => by rcases (by omega : j = 0 ∨ j = 1 ∨ j = 2 ∨ j = 3 ∨ j = 4 ∨ j = 5 ∨ j = 6) with rfl | rfl | rfl | rfl | rfl | rfl | rfl <;> rfl) (by show _ ≤ 601024; omega) (by show _ ≤ 7293034; omega) dL_law_8 (fun hm H hhm hP hD hS => ?_)
  refine lv_dup hC.1 hC.2.1 dL_law_11 rfl ?_
  refine p_ciH (n := 0) (m_X1init l (hm := hm) (List.mem_append_right L1 (List.mem_singleton.mpr rfl)) (va_up_self _ _ _)) hC hE hAO hP hD hS gL_law_X1_init rfl (by decide +kernel) (by decide +kernel) (by decide +kernel) rfl (by decide +kernel) rfl ⟨by decide, by decide⟩ ⟨by show _ ≤ 601024; omega, by show _ ≤ 7293034; omega⟩ hl.1 (Nat.le_of_ble_eq_true rfl) dL_law_12 rfl (fun o L3 f3 H locs hpost hP hD hS => ?_)
  obtain ⟨rfl, rs, td, sz, wo, rr, tr, cu, hN⟩ := hpost
  have hX3 := hX1.keep (L' := L3) (f' := f3) (fun a ha => ⟨hN.2.1 a (List.mem_append_left _ ha), (hN.2.2.1 a (List.mem_append_left _ ha) (fun q => hhm (q ▸ ha))).trans (va_up_ne _ _ (fun q => hhm (q ▸ ha)))⟩)
  have hZ3 := hN.toMY
  have hne : sz ≠ ln := fun q => hN.2.2.2.1.2.2.2.1 (q ▸ List.mem_append_left _ hX1.2.2.1.1)
  refine lv_astore_n (lv' := [(2, .ref hm), (1, .ref hx), (0, .ref b)]) hC.1 hC.2.1 dL_law_15 rfl hl (by decide) rfl (fun ls hl => ?_)
  refine lv_iconst (v := (nI 1)) hC.1 hC.2.1 dL_law_16 (by decide) ?_
  refine p_newJ (n := 1) hC hE hP hD hS (by decide +kernel) (by decide) (by show _ ≤ 601024; omega) (by show _ ≤ 7293034; omega) dL_law_17 (fun o9 H ho9 hP hD hS => ?_)
  have hkp : ∀ a, a ∈ L3 → a ∈ L3 ++ [o9] ∧ va_up f3 o9 (eJ T.2.1 1 (fun _ => 0)) a = f3 a := fun a ha => ⟨List.mem_append_left _ ha, va_up_ne _ _ (fun q : a = o9 => ho9 (q ▸ ha))⟩
  have hJ : JL T (L3 ++ [o9]) (va_up f3 o9 (eJ T.2.1 1 (fun _ => 0))) hx g ln rw hm rs td sz wo rr tr cu o9 (nI 0) one (nI 0) (fun _ => []) one (nI 0) (fun _ => []) (fun _ => 0) := ⟨hX3.keep hkp, hZ3.keep hkp, ⟨List.mem_append_right _ (List.mem_singleton.mpr rfl), va_up_self _ _ _⟩, hne⟩
  refine lv_astore_n (lv' := [(3, .ref o9), (2, .ref hm), (1, .ref hx), (0, .ref b)]) hC.1 hC.2.1 dL_law_19 rfl hl (by decide) rfl (fun ls hl => ?_)
  refine lv_iconst (v := (nI 0)) hC.1 hC.2.1 dL_law_20 (by decide) ?_
  refine lv_istore (lv' := [(4, .int (nI 0)), (3, .ref o9), (2, .ref hm), (1, .ref hx), (0, .ref b)]) hC.1 hC.2.1 dL_law_21 hl (by decide) rfl (fun ls hl => ?_)
  exact W.widen (by omega) (by omega) (law_loop hst hC hE hXw hYw hX hbl (hA b hbl) hL kend 512 0 rfl _ _ _ _ _ _ _ _ _ _ ls PM.one hJ hP hD hS (lv_sub hl [4, 3, 2, 1, 0] rfl))
