/-! MY ROWS 26: cubes that stay cubes; what is done behind what; same and mixed -/
theorem inj_surj : ∀ (n : Nat) (g : Nat → Nat), (∀ i, i < n → g i < n) → (∀ i j, i < n → j < n → g i = g j → i = j) → ∀ v, v < n → ∃ i, i < n ∧ g i = v
  | 0, _, _, _, v, hv => absurd hv (Nat.not_lt_zero v)
  | n + 1, g, h1, h2, v, hv => by
    have hw := h1 n (by omega)
    have hne : ∀ i, i < n → g i ≠ g n := fun i hi e => by
      have := h2 i n (by omega) (by omega) e
      omega
    have ih := inj_surj n (fun i => if g i = n then g n else g i) (fun i hi => by
      show (if g i = n then g n else g i) < n
      have := h1 i (by omega)
      have h3 := hne i hi
      split <;> omega) (fun i j hi hj e => by
      have e : (if g i = n then g n else g i) = (if g j = n then g n else g j) := e
      have h3 := hne i hi
      have h4 := hne j hj
      by_cases a : g i = n <;> by_cases c : g j = n
      · exact h2 i j (by omega) (by omega) (a.trans c.symm)
      · rw [if_pos a, if_neg c] at e; exact absurd e.symm h4
      · rw [if_neg a, if_pos c] at e; exact absurd e h3
      · rw [if_neg a, if_neg c] at e; exact h2 i j (by omega) (by omega) e)
    by_cases e : v = g n
    · exact ⟨n, by omega, e.symm⟩
    · by_cases e2 : v = n
      · obtain ⟨i, hi, hg⟩ := ih (g n) (by omega)
        have hg : (if g i = n then g n else g i) = g n := hg
        by_cases a : g i = n
        · exact ⟨i, by omega, a.trans e2.symm⟩
        · rw [if_neg a] at hg; exact absurd hg (hne i hi)
      · obtain ⟨i, hi, hg⟩ := ih v (by omega)
        have hg : (if g i = n then g n else g i) = v := hg
        by_cases a : g i = n
        · rw [if_pos a] at hg; exact absurd hg.symm e
        · rw [if_neg a] at hg; exact ⟨i, by omega, hg⟩
/-- every corner is at one place, that of number 6 at its own -/
def PM (b : Nat → Nat) : Prop := Va b ∧ (∀ i j, i < 8 → j < 8 → b i % 8 = b j % 8 → i = j) ∧ b 6 = 6
theorem PM.one : PM one := ⟨one_Va, fun i j hi hj e => by
  have e : i % 8 = j % 8 := e
  omega, rfl⟩
theorem PM.comp {a d : Nat → Nat} (ha : PM a) (hd : PM d) : PM (comp a d) := by
  refine ⟨comp_Va _ _, fun i j hi hj e => ?_, ?_⟩
  · rw [comp_lo, comp_lo] at e
    exact hd.2.1 i j hi hj (ha.2.1 _ _ (Nat.mod_lt _ (by decide)) (Nat.mod_lt _ (by decide)) e)
  · show a (d 6 % 8) % 8 + 8 * ((a (d 6 % 8) / 8 + d 6 / 8) % 3) = 6
    rw [hd.2.2]
    show a 6 % 8 + 8 * ((a 6 / 8 + 6 / 8) % 3) = 6
    rw [ha.2.2]
theorem Qf_inj : ∀ f, f < 3 → ∀ i, i < 8 → ∀ j, j < 8 → Qf f i % 8 = Qf f j % 8 → i = j := by decide
theorem PM.Qf : ∀ f, PM (Qf f)
  | 0 => ⟨Qf_Va _, fun i j hi hj => Qf_inj 0 (by decide) i hi j hj, rfl⟩
  | 1 => ⟨Qf_Va _, fun i j hi hj => Qf_inj 1 (by decide) i hi j hj, rfl⟩
  | n + 2 => ⟨Qf_Va _, fun i j hi hj => Qf_inj 2 (by decide) i hi j hj, rfl⟩
theorem PM.itq {b : Nat → Nat} (f : Nat) (h : PM b) : ∀ n, PM (itq f b n)
  | 0 => h
  | n + 1 => (PM.itq f h n).comp (PM.Qf f)
theorem PM.turnC {b : Nat → Nat} (h : PM b) (t : Nat) : PM (turnC b t) := PM.itq _ h _
theorem PM.bhN {c : Nat → Nat} (h : PM c) (l : List Nat) : ∀ n, PM (bhN c l n)
  | 0 => h
  | n + 1 => (PM.bhN h l n).turnC _
theorem PM.behind {c : Nat → Nat} (h : PM c) (l : List Nat) : PM (behind c l) := PM.bhN h l _
theorem PM.deed (l : List Nat) : PM (deed l) := PM.one.behind l
theorem PM.plN {c : Nat → Nat} (h : PM c) (l : List Nat) : ∀ n, PM (plN c l n)
  | 0 => h
  | n + 1 => (PM.plN h l n).behind l
theorem PM.surj {b : Nat → Nat} (h : PM b) {v : Nat} (hv : v < 8) : ∃ i, i < 8 ∧ b i % 8 = v := inj_surj 8 (fun i => b i % 8) (fun i _ => Nat.mod_lt _ (by decide)) h.2.1 v hv
theorem bk_of {b : Nat → Nat} (h : PM b) : ∀ n, n ≤ 8 → ∀ k, k < n → bkN b n (b k % 8) = k + 8 * ((3 - b k / 8) % 3)
  | 0, _, k, hk => absurd hk (Nat.not_lt_zero k)
  | n + 1, hn, k, hk => by
    show (if b k % 8 = b n % 8 then n + 8 * ((3 - b n / 8) % 3) else bkN b n (b k % 8)) = _
    by_cases e : k = n
    · subst e; rw [if_pos rfl]
    · rw [if_neg (fun q => e (h.2.1 k n (by omega) (by omega) q))]
      exact bk_of h n (by omega) k (by omega)
theorem iv_of {b : Nat → Nat} (h : PM b) {k : Nat} (hk : k < 8) : iv b (b k % 8) = k + 8 * ((3 - b k / 8) % 3) := bk_of h 8 (Nat.le_refl 8) k hk
/-- where a corner is -/
theorem iv_spec {b : Nat → Nat} (h : PM b) {v : Nat} (hv : v < 8) : iv b v % 8 ≤ 7 ∧ (∀ k, k < iv b v % 8 → ¬ b k % 8 = v) ∧ (iv b v % 8 = 7 ∨ b (iv b v % 8) % 8 = v) := by
  obtain ⟨k, hk, rfl⟩ := h.surj hv
  have e : iv b (b k % 8) % 8 = k := by rw [iv_of h hk]; omega
  rw [e]
  exact ⟨by omega, fun j hj q => by have := h.2.1 j k (by omega) hk q; omega, Or.inr rfl⟩
theorem Va.lt3 {b : Nat → Nat} (h : Va b) {i : Nat} (hi : i < 8) : b i / 8 < 3 := by have := h i hi; omega
/-- behind an inverse nothing has moved just where both are the same -/
theorem iv_same {a b : Nat → Nat} (ha : Va a) (h : PM b) {k : Nat} (hk : k < 8) : comp a (iv b) (b k % 8) = b k % 8 ↔ a k = b k := by
  have e := iv_of h hk
  have h1 := ha k hk
  have h2 := h.1 k hk
  unfold comp
  rw [e]
  have e1 : (k + 8 * ((3 - b k / 8) % 3)) % 8 = k := by omega
  have e2 : (k + 8 * ((3 - b k / 8) % 3)) / 8 = (3 - b k / 8) % 3 := by omega
  rw [e1, e2]
  constructor
  · intro q
    omega
  · intro q
    rw [q]
    omega
theorem comp_iv {b : Nat → Nat} (h : PM b) {i : Nat} (hi : i < 8) : comp b (iv b) i = i := by
  obtain ⟨k, hk, rfl⟩ := h.surj hi
  exact (iv_same h.1 h hk).mpr rfl
theorem ct_8 {q : Nat → Bool} : ∀ n, ct q n = n ↔ ∀ i, i < n → q i = true
  | 0 => ⟨fun _ i hi => absurd hi (Nat.not_lt_zero i), fun _ => rfl⟩
  | n + 1 => by
    have h1 := ct_le q n
    have ih := ct_8 (q := q) n
    constructor
    · intro h
      by_cases e : q n = true
      · rw [ct_t e] at h
        intro i hi
        by_cases e2 : i = n
        · rw [e2]; exact e
        · exact ih.mp (by omega) i (by omega)
      · rw [ct_f e] at h; omega
    · intro h
      rw [ct_t (h n (by omega)), ih.mpr (fun i hi => h i (by omega))]
theorem nRt_8 {b : Nat → Nat} : nRt b = 8 ↔ ∀ i, i < 8 → b i = i := by
  rw [ct_8]
  exact ⟨fun h i hi => of_decide_eq_true (h i hi), fun h i hi => decide_eq_true (h i hi)⟩
theorem is1_iff {b : Nat → Nat} (h : Va b) : is1 b = true ↔ nRt b = 8 := by
  rw [nRt_8]
  unfold is1
  rw [decide_eq_true_iff]
  exact ⟨fun e => enc_inj h.b one_Va.b e, fun e => enc_congr e⟩
theorem same_iff {a b : Nat → Nat} (ha : Va a) (h : PM b) : nRt (comp a (iv b)) = 8 ↔ enc a = enc b := by
  rw [nRt_8]
  constructor
  · intro q
    exact enc_congr fun k hk => (iv_same ha h hk).mp (q _ (Nat.mod_lt _ (by decide)))
  · intro q i hi
    obtain ⟨k, hk, rfl⟩ := h.surj hi
    exact (iv_same ha h hk).mpr (enc_inj ha.b h.1.b q k hk)
theorem nRt_congr {a b : Nat → Nat} (h : ∀ i, i < 8 → a i = b i) : nRt a = nRt b := ct_congr 8 fun i hi => by show decide (a i = i) = decide (b i = i); rw [h i hi]
theorem comp_cg {a a2 d d2 : Nat → Nat} (h1 : ∀ i, i < 8 → a i = a2 i) (h2 : ∀ i, i < 8 → d i = d2 i) {i : Nat} (hi : i < 8) : comp a d i = comp a2 d2 i := by
  unfold comp
  rw [h2 i hi, h1 _ (Nat.mod_lt _ (by decide))]
theorem turnC_cg {a a2 : Nat → Nat} (h : ∀ i, i < 8 → a i = a2 i) (t : Nat) {i : Nat} (hi : i < 8) : turnC a t i = turnC a2 t i := by
  rw [← comp_tq, ← comp_tq]
  exact comp_cg h (fun _ _ => rfl) hi
theorem brN_cg {a a2 : Nat → Nat} (h : ∀ i, i < 8 → a i = a2 i) (l : List Nat) : ∀ n, ∀ i, i < 8 → brN a l n i = brN a2 l n i
  | 0 => h
  | n + 1 => fun _ hi => turnC_cg (brN_cg h l n) _ hi
theorem brN_comp {c : Nat → Nat} (hv : Va c) (l : List Nat) : ∀ k, ∀ i, i < 8 → brN c l k i = comp c (brN one l k) i
  | 0 => fun i hi => (comp_one hv hi).symm
  | k + 1 => fun i hi => by
    show turnC (brN c l k) _ i = comp c (turnC (brN one l k) _) i
    rw [← comp_tq, ← comp_tq, ← comp_assoc, comp_c8 (a := brN c l k) _ (brN_comp hv l k)]
theorem tq_tb : ∀ t, t < 9 → ∀ i, i < 8 → comp (tq t) (tq (tb t)) i = i := by decide +kernel
theorem turn_back {c : Nat → Nat} (hv : Va c) {t : Nat} (ht : t < 9) {i : Nat} (hi : i < 8) : turnC (turnC c t) (tb t) i = c i := by
  rw [← comp_tq, ← comp_tq, comp_assoc]
  exact (comp_cg (a := c) (fun _ _ => rfl) (fun i hi => (tq_tb t ht i hi).trans rfl) hi).trans (comp_one hv hi)
theorem br_bh {l : List Nat} (hl : ∀ k, k < l.length → l.getD k 0 < 9) : ∀ k, k ≤ l.length → ∀ i, i < 8 → brN (bhN one l l.length) l k i = bhN one l (l.length - k) i
  | 0, _ => fun _ _ => rfl
  | k + 1, hk => fun i hi => by
    show turnC (brN (bhN one l l.length) l k) (tb (l.getD (l.length - 1 - k) 0)) i = _
    have e : l.length - k = (l.length - (k + 1)) + 1 := by omega
    have e2 : l.length - 1 - k = l.length - (k + 1) := by omega
    have ih := br_bh hl k (by omega)
    rw [e] at ih
    rw [e2]
    exact (turnC_cg ih _ hi).trans (turn_back (bhN_Va one_Va l _) (hl _ (by omega)) hi)
theorem comp_left {a x y : Nat → Nat} (ha : PM a) (hx : Va x) (hy : Va y) (h : ∀ i, i < 8 → comp a x i = comp a y i) {i : Nat} (hi : i < 8) : x i = y i := by
  have h1 := h i hi
  have h2 : x i % 8 = y i % 8 := ha.2.1 _ _ (Nat.mod_lt _ (by decide)) (Nat.mod_lt _ (by decide)) (by rw [← comp_lo a x, ← comp_lo a y, h1])
  have h3 : (a (x i % 8) / 8 + x i / 8) % 3 = (a (y i % 8) / 8 + y i / 8) % 3 := by rw [← comp_hi a x, ← comp_hi a y, h1]
  rw [h2] at h3
  have := hx i hi
  have := hy i hi
  omega
theorem br_iv {l : List Nat} (hl : ∀ k, k < l.length → l.getD k 0 < 9) {i : Nat} (hi : i < 8) : behindR one l i = iv (deed l) i := by
  refine comp_left (PM.deed l) (brN_Va one_Va l _) (iv_Va _) (fun j hj => ?_) hi
  rw [comp_iv (PM.deed l) hj]
  exact (brN_comp (deed_Va l) l l.length j hj).symm.trans ((br_bh hl l.length (Nat.le_refl _) j hj).trans (by rw [Nat.sub_self]; rfl))
theorem behindR_comp {c : Nat → Nat} (hv : Va c) {l : List Nat} (hl : ∀ k, k < l.length → l.getD k 0 < 9) {i : Nat} (hi : i < 8) : behindR c l i = comp c (iv (deed l)) i := (brN_comp hv l l.length i hi).trans (comp_cg (fun _ _ => rfl) (fun j hj => br_iv hl hj) hi)
theorem mixed_eq {w v : List Nat} (hw : ∀ k, k < w.length → w.getD k 0 < 9) (hv : ∀ k, k < v.length → v.getD k 0 < 9) : nRt (behindR (behindR (behind (deed w) v) w) v) = nRt (comp (comp (deed w) (deed v)) (comp (iv (deed w)) (iv (deed v)))) := by
  apply nRt_congr
  intro i hi
  rw [← comp_assoc]
  refine (behindR_comp (brN_Va (bhN_Va (deed_Va w) v _) w _) hv hi).trans (comp_cg (fun j hj => ?_) (fun _ _ => rfl) hi)
  exact (behindR_comp (bhN_Va (deed_Va w) v _) hw hj).trans (comp_cg (fun k hk => (behind_comp (deed_Va w) v hk).symm) (fun _ _ => rfl) hj)
/-! the search: within n turns, or in just so many -/
theorem cm_0 {b : Nat → Nat} {lf : Nat} : cm 0 b lf = true ↔ nRt b = 8 := by unfold cm; exact decide_eq_true_iff
theorem cm_s {n : Nat} {b : Nat → Nat} {lf : Nat} : cm (n + 1) b lf = true ↔ ∃ t, t < 9 ∧ ¬ t / 3 = lf ∧ cm n (turnC b t) (t / 3) = true := by
  show anyN (fun t => !(decide (t / 3 = lf)) && cm n (turnC b t) (t / 3)) 9 = true ↔ _
  constructor
  · intro h
    obtain ⟨t, ht, hq⟩ := anyN_ex 9 h
    have hq : (!(decide (t / 3 = lf)) && cm n (turnC b t) (t / 3)) = true := hq
    rw [Bool.and_eq_true, Bool.not_eq_true', decide_eq_false_iff_not] at hq
    exact ⟨t, ht, hq.1, hq.2⟩
  · rintro ⟨t, ht, h1, h2⟩
    refine anyN_of (i := t) ?_ 9 ht
    show (!(decide (t / 3 = lf)) && cm n (turnC b t) (t / 3)) = true
    rw [h2, decide_eq_false h1]
    rfl
theorem tc3 (b : Nat → Nat) {f j : Nat} (hj : j < 3) : itq f b (j + 1) = turnC b (3 * f + j) := by
  unfold turnC
  rw [show (3 * f + j) / 3 = f from by omega, show (3 * f + j) % 3 = j from by omega]
theorem wi_s {n : Nat} {b : Nat → Nat} {lf : Nat} : wi (n + 1) b lf = true ↔ is1 b = true ∨ (8 - nRt b ≤ msr (n + 1) ∧ ∃ t, t < 9 ∧ ¬ t / 3 = lf ∧ wi n (turnC b t) (t / 3) = true) := by
  show (is1 b || (decide (8 - nRt b ≤ msr (n + 1)) && anyN (fun f => !(decide (f = lf)) && anyN (fun j => wi n (itq f b (j + 1)) f) 3) 3)) = true ↔ _
  rw [Bool.or_eq_true, Bool.and_eq_true, decide_eq_true_iff]
  refine or_congr Iff.rfl (and_congr Iff.rfl ⟨fun h => ?_, ?_⟩)
  · obtain ⟨f, hf, hq⟩ := anyN_ex 3 h
    have hq : (!(decide (f = lf)) && anyN (fun j => wi n (itq f b (j + 1)) f) 3) = true := hq
    rw [Bool.and_eq_true, Bool.not_eq_true', decide_eq_false_iff_not] at hq
    obtain ⟨j, hj, hw⟩ := anyN_ex 3 hq.2
    have hw : wi n (itq f b (j + 1)) f = true := hw
    have e : (3 * f + j) / 3 = f := by omega
    rw [tc3 b hj] at hw
    exact ⟨3 * f + j, by omega, by rw [e]; exact hq.1, by rw [e]; exact hw⟩
  · rintro ⟨t, ht, h1, h2⟩
    refine anyN_of (i := t / 3) ?_ 3 (by omega)
    show (!(decide (t / 3 = lf)) && anyN (fun j => wi n (itq (t / 3) b (j + 1)) (t / 3)) 3) = true
    have e : anyN (fun j => wi n (itq (t / 3) b (j + 1)) (t / 3)) 3 = true := by
      refine anyN_of (i := t % 3) ?_ 3 (by omega)
      exact h2
    rw [e, decide_eq_false h1]
    rfl
theorem turn_id {b : Nat → Nat} (hv : Va b) {t i : Nat} (hi : i < 8) (h : tq t i = i) : turnC b t i = b i := by
  have := hv i hi
  rw [← comp_tq]
  unfold comp
  rw [h, Nat.mod_eq_of_lt hi, Nat.div_eq_of_lt hi]
  omega
theorem ct_ge {q r : Nat → Bool} : ∀ n, (∀ i, i < n → r i = true → q i = true) → ct r n ≤ ct q n
  | 0, _ => Nat.le_refl 0
  | n + 1, h => by
    have ih := ct_ge (q := q) (r := r) n (fun i hi => h i (by omega))
    have h1 := h n (by omega)
    by_cases e : r n = true
    · rw [ct_t e, ct_t (h1 e)]; omega
    · rw [ct_f e]
      exact Nat.le_trans ih (by show ct q n ≤ ct q n + (if q n = true then 1 else 0); omega)
theorem stay_1 : ∀ t, t < 9 → ct (fun i => decide (tq t i = i)) 8 = 4 := by decide +kernel
theorem stay_2 : ∀ t, t < 9 → ∀ u, u < 9 → ¬ u / 3 = t / 3 → 2 ≤ ct (fun i => decide (tq t i = i ∧ tq u i = i)) 8 := by decide +kernel
theorem near_1 {b : Nat → Nat} (hv : Va b) {t : Nat} (ht : t < 9) (h : nRt (turnC b t) = 8) : 8 - nRt b ≤ 4 := by
  have h1 := nRt_8.mp h
  have h2 : 4 ≤ nRt b := by
    rw [← stay_1 t ht]
    refine ct_ge 8 fun i hi q => decide_eq_true ?_
    exact (turn_id hv hi (of_decide_eq_true q)).symm.trans (h1 i hi)
  omega
theorem near_2 {b : Nat → Nat} (hv : Va b) {t u : Nat} (ht : t < 9) (hu : u < 9) (hn : ¬ u / 3 = t / 3) (h : nRt (turnC (turnC b t) u) = 8) : 8 - nRt b ≤ 6 := by
  have h1 := nRt_8.mp h
  have h2 : 2 ≤ nRt b := by
    refine Nat.le_trans (stay_2 t ht u hu hn) (ct_ge 8 fun i hi q => decide_eq_true ?_)
    have q := of_decide_eq_true q
    exact (turn_id hv hi q.1).symm.trans ((turn_id (turnC_Va _ _) hi q.2).symm.trans (h1 i hi))
  omega
theorem wi_iff : ∀ (n : Nat) {b : Nat → Nat} (_ : Va b) {lf : Nat}, wi n b lf = true ↔ ∃ k, k ≤ n ∧ cm k b lf = true
  | 0, b, hv, lf => by
    show is1 b = true ↔ _
    rw [is1_iff hv]
    exact ⟨fun h => ⟨0, Nat.le_refl 0, cm_0.mpr h⟩, fun ⟨k, hk, h⟩ => by
      obtain rfl : k = 0 := by omega
      exact cm_0.mp h⟩
  | n + 1, b, hv, lf => by
    rw [wi_s, is1_iff hv]
    constructor
    · rintro (h | ⟨-, t, ht, h1, h2⟩)
      · exact ⟨0, Nat.zero_le _, cm_0.mpr h⟩
      · obtain ⟨k, hk, h3⟩ := (wi_iff n (turnC_Va b t)).mp h2
        exact ⟨k + 1, by omega, cm_s.mpr ⟨t, ht, h1, h3⟩⟩
    · rintro ⟨k, hk, h⟩
      cases k with
      | zero => exact Or.inl (cm_0.mp h)
      | succ k =>
        refine Or.inr ⟨?_, ?_⟩
        · obtain ⟨t, ht, h1, h2⟩ := cm_s.mp h
          have h8 := ct_le (fun i => decide (b i = i)) 8
          unfold msr
          by_cases e1 : n + 1 = 1
          · rw [if_pos e1]
            obtain rfl : k = 0 := by omega
            exact near_1 hv ht (cm_0.mp h2)
          · rw [if_neg e1]
            by_cases e2 : n + 1 = 2
            · rw [if_pos e2]
              rcases (by omega : k = 0 ∨ k = 1) with rfl | rfl
              · exact Nat.le_trans (near_1 hv ht (cm_0.mp h2)) (by decide)
              · obtain ⟨u, hu, h3, h4⟩ := cm_s.mp h2
                exact near_2 hv ht hu h3 (cm_0.mp h4)
            · rw [if_neg e2]; omega
        · obtain ⟨t, ht, h1, h2⟩ := cm_s.mp h
          exact ⟨t, ht, h1, (wi_iff n (turnC_Va b t)).mpr ⟨k, by omega, h2⟩⟩
theorem least {P : Nat → Prop} [DecidablePred P] : ∀ n, (∀ k, k ≤ n → ¬ P k) ∨ ∃ N, N ≤ n ∧ P N ∧ ∀ k, k < N → ¬ P k
  | 0 => by
    by_cases h : P 0
    · exact Or.inr ⟨0, Nat.le_refl 0, h, fun k hk => absurd hk (Nat.not_lt_zero k)⟩
    · exact Or.inl fun k hk => by
        obtain rfl : k = 0 := by omega
        exact h
  | n + 1 => by
    rcases least (P := P) n with h | ⟨N, h1, h2, h3⟩
    · by_cases h2 : P (n + 1)
      · exact Or.inr ⟨n + 1, Nat.le_refl _, h2, fun k hk => h k (by omega)⟩
      · refine Or.inl fun k hk => ?_
        by_cases e : k = n + 1
        · rw [e]; exact h2
        · exact h k (by omega)
    · exact Or.inr ⟨N, by omega, h2, h3⟩
theorem cm_far {b : Nat → Nat} (hv : Va b) (most : Nat) {lf : Nat} : ((∀ k, k ≤ most → cm k b lf = false) ∧ ∀ k, k ≤ most → wi k b lf = false) ∨ ∃ N, N ≤ most ∧ (cm N b lf = true ∧ ∀ k, k < N → cm k b lf = false) ∧ wi N b lf = true ∧ ∀ k, k < N → wi k b lf = false := by
  rcases least (P := fun k => cm k b lf = true) most with h | ⟨N, h1, h2, h3⟩
  · have h : ∀ k, k ≤ most → cm k b lf = false := fun k hk => by simpa using h k hk
    refine Or.inl ⟨h, fun k hk => ?_⟩
    cases e : wi k b lf with
    | false => rfl
    | true =>
      obtain ⟨j, hj, h9⟩ := (wi_iff k hv).mp e
      rw [h j (by omega)] at h9; cases h9
  · have h3 : ∀ k, k < N → cm k b lf = false := fun k hk => by simpa using h3 k hk
    refine Or.inr ⟨N, h1, ⟨h2, h3⟩, (wi_iff N hv).mpr ⟨N, Nat.le_refl N, h2⟩, fun k hk => ?_⟩
    cases e : wi k b lf with
    | false => rfl
    | true =>
      obtain ⟨j, hj, h9⟩ := (wi_iff k hv).mp e
      rw [h3 j (by omega)] at h9; cases h9
theorem cm_first {b : Nat → Nat} {N : Nat} (hN : 0 < N) (h1 : cm N b 3 = true) (h2 : ∀ k, k < N → cm k b 3 = false) : ∃ F, F < 9 ∧ (∀ t, t < F → cm (N - 1) (turnC b t) (t / 3) = false ∧ wi (N - 1) (turnC b t) (t / 3) = false) ∧ cm (N - 1) (turnC b F) (F / 3) = true ∧ wi (N - 1) (turnC b F) (F / 3) = true := by
  obtain ⟨n, rfl⟩ : ∃ n, N = n + 1 := ⟨N - 1, by omega⟩
  obtain ⟨t0, ht0, -, h3⟩ := cm_s.mp h1
  rw [Nat.add_sub_cancel]
  rcases least (P := fun t => cm n (turnC b t) (t / 3) = true) t0 with h | ⟨F, f1, f2, f3⟩
  · exact absurd h3 (h t0 (Nat.le_refl _))
  · refine ⟨F, by omega, fun t ht => ?_, f2, (wi_iff n (turnC_Va _ _)).mpr ⟨n, Nat.le_refl n, f2⟩⟩
    have h4 : cm n (turnC b t) (t / 3) = false := by simpa using f3 t ht
    refine ⟨h4, ?_⟩
    cases e : wi n (turnC b t) (t / 3) with
    | false => rfl
    | true =>
      obtain ⟨j, hj, h9⟩ := (wi_iff n (turnC_Va _ _)).mp e
      have h10 : cm (j + 1) b 3 = true := cm_s.mpr ⟨t, by omega, by omega, h9⟩
      by_cases e2 : j = n
      · rw [e2, h4] at h9; cases h9
      · rw [h2 (j + 1) (by omega)] at h10; cases h10
