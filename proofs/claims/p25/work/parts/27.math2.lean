/-! MY ROWS 27: cycles and powers -/
theorem orb_add (b : Nat → Nat) (i m : Nat) : ∀ k, orb b i (m + k) = orb b (orb b i m) k
  | 0 => rfl
  | k + 1 => by
    show b (orb b i (m + k)) % 8 = b (orb b (orb b i m) k) % 8
    rw [orb_add b i m k]
theorem tws_add (b : Nat → Nat) (i m : Nat) : ∀ k, tws b i (m + k) = tws b i m + tws b (orb b i m) k
  | 0 => rfl
  | k + 1 => by
    show tws b i (m + k) + b (orb b i (m + k)) / 8 = tws b i m + (tws b (orb b i m) k + b (orb b (orb b i m) k) / 8)
    rw [tws_add b i m k, orb_add b i m k]
    omega
/-- done k times, the corner at i is right -/
def gd (b : Nat → Nat) (i k : Nat) : Prop := orb b i k = i ∧ tws b i k % 3 = 0
theorem pw_orb {b : Nat → Nat} (hv : Va b) : ∀ n, ∀ i, i < 8 → pw b n i = orb b i (n + 1) + 8 * (tws b i (n + 1) % 3)
  | 0 => fun i hi => by
    show b i = b i % 8 + 8 * ((0 + b i / 8) % 3)
    have := hv i hi
    omega
  | n + 1 => fun i hi => by
    have ih := pw_orb hv n (b i % 8) (Nat.mod_lt _ (by decide))
    have h1 : orb b i (1 + (n + 1)) = orb b (b i % 8) (n + 1) := orb_add b i 1 (n + 1)
    have h2 : tws b i (1 + (n + 1)) = (0 + b i / 8) + tws b (b i % 8) (n + 1) := tws_add b i 1 (n + 1)
    have h3 : orb b (b i % 8) (n + 1) < 8 := orb_lt (Nat.mod_lt _ (by decide)) _
    rw [show n + 1 + 1 = 1 + (n + 1) from by omega, h1, h2]
    show pw b n (b i % 8) % 8 + 8 * ((pw b n (b i % 8) / 8 + b i / 8) % 3) = _
    rw [ih]
    omega
theorem pw_one {b : Nat → Nat} (hv : Va b) (n : Nat) : enc (pw b n) = enc one ↔ ∀ i, i < 8 → gd b i (n + 1) := by
  have h0 : ∀ i, i < 8 → orb b i (n + 1) < 8 := fun i hi => orb_lt hi _
  constructor
  · intro h i hi
    have h1 := enc_inj (pw_Va hv n).b one_Va.b h i hi
    rw [pw_orb hv n i hi] at h1
    have h1 : orb b i (n + 1) + 8 * (tws b i (n + 1) % 3) = i := h1
    have := h0 i hi
    exact ⟨by omega, by omega⟩
  · intro h
    apply enc_congr
    intro i hi
    rw [pw_orb hv n i hi, (h i hi).1, (h i hi).2]
    rfl
section CY9
variable {b : Nat → Nat} {cl : Nat → Nat}
theorem orb_mul (h : CLs b cl) {i : Nat} (hi : i < 8) : ∀ q, orb b i (cl i * q) = i
  | 0 => rfl
  | q + 1 => by
    rw [Nat.mul_succ, orb_add, orb_mul h hi q]
    exact (h i hi).2.2.1
theorem tws_mul (h : CLs b cl) {i : Nat} (hi : i < 8) : ∀ q, tws b i (cl i * q) = q * tws b i (cl i)
  | 0 => by rw [Nat.zero_mul]; rfl
  | q + 1 => by
    rw [Nat.mul_succ, tws_add, orb_mul h hi q, tws_mul h hi q, Nat.succ_mul]
theorem orb_dvd (h : CLs b cl) {i : Nat} (hi : i < 8) (k : Nat) : orb b i k = i ↔ cl i ∣ k := by
  constructor
  · intro e
    have h1 : orb b i (cl i * (k / cl i) + k % cl i) = i := by rw [Nat.div_add_mod]; exact e
    rw [orb_add, orb_mul h hi] at h1
    apply Nat.dvd_of_mod_eq_zero
    by_cases e2 : k % cl i = 0
    · exact e2
    · exact absurd h1 ((h i hi).2.2.2 _ (by omega) (Nat.mod_lt _ (h i hi).1))
  · rintro ⟨q, rfl⟩
    exact orb_mul h hi q
theorem mul_3 {q t : Nat} (ht : ¬ t % 3 = 0) (h : q * t % 3 = 0) : q % 3 = 0 := by
  rw [Nat.mul_mod] at h
  rcases (by omega : q % 3 = 0 ∨ q % 3 = 1 ∨ q % 3 = 2) with a | a | a <;> rcases (by omega : t % 3 = 1 ∨ t % 3 = 2) with c | c <;> rw [a, c] at h <;> first | exact a | exact absurd h (by decide)
theorem gd_iff (h : CLs b cl) {i : Nat} (hi : i < 8) (k : Nat) : gd b i k ↔ tm b cl i ∣ k := by
  unfold tm
  constructor
  · rintro ⟨h1, h2⟩
    obtain ⟨q, rfl⟩ := (orb_dvd h hi k).mp h1
    by_cases e : tws b i (cl i) % 3 = 0
    · rw [if_pos e]; exact ⟨q, rfl⟩
    · rw [if_neg e]
      rw [tws_mul h hi] at h2
      have h3 := mul_3 e h2
      obtain ⟨r, hr⟩ : ∃ r, q = 3 * r := ⟨q / 3, by omega⟩
      exact ⟨r, by rw [hr, Nat.mul_comm 3 (cl i), Nat.mul_assoc]⟩
  · intro hd
    by_cases e : tws b i (cl i) % 3 = 0
    · rw [if_pos e] at hd
      obtain ⟨q, rfl⟩ := hd
      refine ⟨orb_mul h hi q, ?_⟩
      rw [tws_mul h hi, Nat.mul_mod, e, Nat.mul_zero]
    · rw [if_neg e] at hd
      obtain ⟨r, rfl⟩ := hd
      rw [show 3 * cl i * r = cl i * (3 * r) from by rw [Nat.mul_comm 3 (cl i), Nat.mul_assoc]]
      refine ⟨orb_mul h hi _, ?_⟩
      rw [tws_mul h hi, Nat.mul_assoc, Nat.mul_mod_right]
theorem lst_mem (b : Nat → Nat) (i : Nat) : ∀ k, ∃ m, lst b i k = orb b i m
  | 0 => ⟨0, rfl⟩
  | k + 1 => by
    obtain ⟨m, hm⟩ := lst_mem b i k
    show ∃ m, min (lst b i k) (orb b i k) = orb b i m
    by_cases e : lst b i k ≤ orb b i k
    · exact ⟨m, by rw [Nat.min_eq_left e, hm]⟩
    · exact ⟨k, by rw [Nat.min_eq_right (by omega)]⟩
theorem gd_move (h : CLs b cl) {i m k : Nat} (hi : i < 8) (hg : gd b (orb b i m) k) : gd b i k := by
  have hc := (h i hi).1
  have hle : m + 1 ≤ cl i * (m + 1) := Nat.le_mul_of_pos_left _ hc
  obtain ⟨m', hm'⟩ : ∃ m', m + m' = cl i * (m + 1) := ⟨cl i * (m + 1) - m, by omega⟩
  have e1 : orb b (orb b i m) m' = i := by rw [← orb_add, hm']; exact orb_mul h hi _
  obtain ⟨g1, g2⟩ := hg
  have a1 := orb_add b (orb b i m) m' k
  have a2 := orb_add b (orb b i m) k m'
  have a3 := tws_add b (orb b i m) m' k
  have a4 := tws_add b (orb b i m) k m'
  rw [e1] at a1 a3
  rw [g1] at a2 a4
  rw [e1] at a2
  rw [Nat.add_comm k m'] at a2 a4
  exact ⟨a1.symm.trans a2, by omega⟩
theorem orc_tm (cl : Nat → Nat) : ∀ n, ∀ i, i < n → ¬ lst b i (cl i) < i → tm b cl i ∣ orc b cl n
  | 0, i, hi, _ => absurd hi (Nat.not_lt_zero i)
  | n + 1, i, hi, hn => by
    show tm b cl i ∣ (if lst b n (cl n) < n then orc b cl n else orc b cl n / Nat.gcd (orc b cl n) (tm b cl n) * tm b cl n)
    by_cases e : i = n
    · subst e
      rw [if_neg hn, lcm_eq]
      exact Nat.dvd_lcm_right _ _
    · have ih := orc_tm cl n i (by omega) hn
      split
      · exact ih
      · rw [lcm_eq]; exact Nat.dvd_trans ih (Nat.dvd_lcm_left _ _)
theorem orc_least (cl : Nat → Nat) {k : Nat} : ∀ n, (∀ i, i < n → tm b cl i ∣ k) → orc b cl n ∣ k
  | 0, _ => Nat.one_dvd k
  | n + 1, hk => by
    have ih := orc_least cl n (fun i hi => hk i (by omega))
    show (if lst b n (cl n) < n then orc b cl n else orc b cl n / Nat.gcd (orc b cl n) (tm b cl n) * tm b cl n) ∣ k
    split
    · exact ih
    · rw [lcm_eq]; exact Nat.lcm_dvd ih (hk n (by omega))
theorem orc_gd (h : CLs b cl) (k : Nat) : (∀ i, i < 8 → gd b i k) ↔ orc b cl 8 ∣ k := by
  constructor
  · intro hg
    exact orc_least cl 8 fun i hi => (gd_iff h hi k).mp (hg i hi)
  · intro hd i hi
    induction i using Nat.strongRecOn with
    | ind i ih =>
      by_cases e : lst b i (cl i) < i
      · obtain ⟨m, hm⟩ := lst_mem b i (cl i)
        have h1 := ih _ e (by omega)
        rw [hm] at h1
        exact gd_move h hi h1
      · exact (gd_iff h hi k).mpr (Nat.dvd_trans (orc_tm cl 8 i hi e) hd)
end CY9
theorem ordS_eq {c : Nat → Nat} {N : Nat} (h2 : enc (pw c N) = enc one) (h1 : ∀ j, j < N → ¬ enc (pw c j) = enc one) : ∀ u k, k ≤ N → N ≤ k + u → ordS c u k = N
  | 0, k, h3, h4 => by show k = N; omega
  | u + 1, k, h3, h4 => by
    show (if enc (pw c k) = enc one then k else ordS c u (k + 1)) = N
    by_cases e : enc (pw c k) = enc one
    · rw [if_pos e]
      by_cases e2 : k = N
      · exact e2
      · exact absurd e (h1 k (by omega))
    · rw [if_neg e]
      refine ordS_eq h2 h1 u (k + 1) ?_ (by omega)
      by_cases e2 : k = N
      · rw [e2] at e; exact absurd h2 e
      · omega
theorem ord_orc {b : Nat → Nat} {cl : Nat → Nat} (hv : Va b) (h : CLs b cl) (hL : orc b cl 8 ≤ 1000) : orc b cl 8 = ordN b + 1 ∧ ordN b < 1000 := by
  have h0 := (orc_rng h (Nat.le_refl 8)).1
  have e : ordN b = orc b cl 8 - 1 := by
    refine ordS_eq ?_ (fun j hj q => ?_) 1000 0 (Nat.zero_le _) (by omega)
    · rw [pw_one hv, orc_gd h, Nat.sub_add_cancel h0]
      exact Nat.dvd_refl _
    · rw [pw_one hv, orc_gd h] at q
      have := Nat.le_of_dvd (by omega) q
      omega
  omega
theorem fdc_spec (b : Nat → Nat) (i : Nat) : ∀ u k, (∃ m, k ≤ m ∧ m ≤ k + u ∧ orb b i m = i) → k ≤ fdc b i u k ∧ fdc b i u k ≤ k + u ∧ orb b i (fdc b i u k) = i ∧ ∀ m, k ≤ m → m < fdc b i u k → ¬ orb b i m = i
  | 0, k, ⟨m, h1, h2, h3⟩ => by
    obtain rfl : m = k := by omega
    exact ⟨Nat.le_refl _, Nat.le_refl _, h3, fun j h4 h5 => absurd h5 (by show ¬ j < m; omega)⟩
  | u + 1, k, ⟨m, h1, h2, h3⟩ => by
    show k ≤ (if orb b i k = i then k else fdc b i u (k + 1)) ∧ (if orb b i k = i then k else fdc b i u (k + 1)) ≤ k + (u + 1) ∧ orb b i (if orb b i k = i then k else fdc b i u (k + 1)) = i ∧ ∀ m, k ≤ m → m < (if orb b i k = i then k else fdc b i u (k + 1)) → ¬ orb b i m = i
    by_cases e : orb b i k = i
    · rw [if_pos e]
      exact ⟨Nat.le_refl _, by omega, e, fun j h4 h5 => by omega⟩
    · rw [if_neg e]
      have hm : k + 1 ≤ m := by
        by_cases e2 : m = k
        · rw [e2] at h3; exact absurd h3 e
        · omega
      obtain ⟨g1, g2, g3, g4⟩ := fdc_spec b i u (k + 1) ⟨m, hm, by omega, h3⟩
      refine ⟨by omega, by omega, g3, fun j h4 h5 => ?_⟩
      by_cases e2 : j = k
      · rw [e2]; exact e
      · exact g4 j (by omega) h5
theorem orb_cancel {b : Nat → Nat} (h : PM b) {i : Nat} (hi : i < 8) (d : Nat) : ∀ j, orb b i j = orb b i (j + d) → i = orb b i d
  | 0, e => by rw [Nat.zero_add] at e; exact e
  | j + 1, e => by
    refine orb_cancel h hi d j ?_
    rw [show j + 1 + d = (j + d) + 1 from by omega] at e
    exact h.2.1 _ _ (orb_lt hi _) (orb_lt hi _) e
theorem orb_back {b : Nat → Nat} (h : PM b) {i : Nat} (hi : i < 8) : ∃ m, 1 ≤ m ∧ m ≤ 8 ∧ orb b i m = i := by
  rcases least (P := fun m => 1 ≤ m ∧ orb b i m = i) 8 with hn | ⟨m, h1, h2, -⟩
  · have hno : ∀ d, 1 ≤ d → d ≤ 8 → ¬ orb b i d = i := fun d h1 h2 e => hn d h2 ⟨h1, e⟩
    obtain ⟨k, hk, e⟩ := inj_surj 9 (orb b i) (fun k _ => Nat.lt_trans (orb_lt hi k) (by decide)) (fun j k hj hk e => by
      rcases Nat.lt_trichotomy j k with q | q | q
      · have := orb_cancel h hi (k - j) j (by rw [show j + (k - j) = k from by omega]; exact e)
        exact absurd this.symm (hno (k - j) (by omega) (by omega))
      · exact q
      · have := orb_cancel h hi (j - k) k (by rw [show k + (j - k) = j from by omega]; exact e.symm)
        exact absurd this.symm (hno (j - k) (by omega) (by omega))) 8 (by decide)
    exact absurd e (Nat.ne_of_lt (orb_lt hi k))
  · exact ⟨m, h2.1, h1, h2.2⟩
theorem clf_CLs {b : Nat → Nat} (h : PM b) : CLs b (clf b) := fun i hi => by
  obtain ⟨m, h1, h2, h3⟩ := orb_back h hi
  obtain ⟨g1, g2, g3, g4⟩ := fdc_spec b i 7 1 ⟨m, h1, by omega, h3⟩
  exact ⟨g1, by show fdc b i 7 1 ≤ 8; omega, g3, fun k hk hk2 => g4 k hk hk2⟩
/-- the least common count of the cycles alone -/
def orl (b : Nat → Nat) : Nat → Nat
  | 0 => 1
  | i + 1 => if lst b i (clf b i) < i then orl b i else Nat.lcm (orl b i) (clf b i)
theorem orc_3 (b : Nat → Nat) : ∀ n, orc b (clf b) n ∣ 3 * orl b n
  | 0 => Nat.one_dvd _
  | n + 1 => by
    have ih := orc_3 b n
    show (if lst b n (clf b n) < n then orc b (clf b) n else orc b (clf b) n / Nat.gcd (orc b (clf b) n) (tm b (clf b) n) * tm b (clf b) n) ∣ 3 * (if lst b n (clf b n) < n then orl b n else Nat.lcm (orl b n) (clf b n))
    split
    · exact ih
    · rw [lcm_eq]
      refine Nat.lcm_dvd (Nat.dvd_trans ih (Nat.mul_dvd_mul_left 3 (Nat.dvd_lcm_left _ _))) ?_
      unfold tm
      split
      · exact Nat.dvd_trans (Nat.dvd_lcm_right (orl b n) _) (Nat.dvd_mul_left _ _)
      · exact Nat.mul_dvd_mul_left 3 (Nat.dvd_lcm_right _ _)
/-! what looks at the corners alone -/
section CG9
variable {a b : Nat → Nat}
theorem orb_cg (h : ∀ i, i < 8 → a i % 8 = b i % 8) {i : Nat} (hi : i < 8) : ∀ k, orb a i k = orb b i k
  | 0 => rfl
  | k + 1 => by
    show a (orb a i k) % 8 = b (orb b i k) % 8
    rw [orb_cg h hi k]
    exact h _ (orb_lt hi k)
theorem lst_cg (h : ∀ i, i < 8 → a i % 8 = b i % 8) {i : Nat} (hi : i < 8) : ∀ k, lst a i k = lst b i k
  | 0 => rfl
  | k + 1 => by
    show min (lst a i k) (orb a i k) = min (lst b i k) (orb b i k)
    rw [lst_cg h hi k, orb_cg h hi k]
theorem fdc_cg (h : ∀ i, i < 8 → a i % 8 = b i % 8) {i : Nat} (hi : i < 8) : ∀ u k, fdc a i u k = fdc b i u k
  | 0, _ => rfl
  | u + 1, k => by
    show (if orb a i k = i then k else fdc a i u (k + 1)) = (if orb b i k = i then k else fdc b i u (k + 1))
    rw [orb_cg h hi k, fdc_cg h hi u (k + 1)]
theorem odc_cg (h : ∀ i, i < 8 → a i % 8 = b i % 8) : ∀ n, n ≤ 8 → odc a (clf a) n = odc b (clf b) n
  | 0, _ => rfl
  | n + 1, hn => by
    have e : clf a n = clf b n := fdc_cg h (by omega) 7 1
    show (if lst a n (clf a n) < n then odc a (clf a) n else odc a (clf a) n + (clf a n - 1)) = (if lst b n (clf b n) < n then odc b (clf b) n else odc b (clf b) n + (clf b n - 1))
    rw [e, lst_cg h (by omega), odc_cg h n (by omega)]
theorem orl_cg (h : ∀ i, i < 8 → a i % 8 = b i % 8) : ∀ n, n ≤ 8 → orl a n = orl b n
  | 0, _ => rfl
  | n + 1, hn => by
    have e : clf a n = clf b n := fdc_cg h (by omega) 7 1
    show (if lst a n (clf a n) < n then orl a n else Nat.lcm (orl a n) (clf a n)) = (if lst b n (clf b n) < n then orl b n else Nat.lcm (orl b n) (clf b n))
    rw [e, lst_cg h (by omega), orl_cg h n (by omega)]
theorem invs_cg (h : ∀ i, i < 8 → a i % 8 = b i % 8) : ∀ n, n ≤ 8 → invs a n = invs b n
  | 0, _ => rfl
  | n + 1, hn => by
    show invs a n + pairsTo a n (7 - n) = invs b n + pairsTo b n (7 - n)
    rw [invs_cg h n (by omega)]
    congr 1
    exact ct_congr _ fun k hk => by
      show decide (a (n + 1 + k) % 8 < a n % 8) = decide (b (n + 1 + k) % 8 < b n % 8)
      rw [h n (by omega), h (n + 1 + k) (by omega)]
end CG9
/-! all ways to put seven corners -/
def en (q : List Nat → Bool) : Nat → List Nat → Bool
  | 0, acc => q acc
  | n + 1, acc => [0, 1, 2, 3, 4, 5, 7].all (fun x => acc.contains x || en q n (acc ++ [x]))
theorem en_spec {q : List Nat → Bool} : ∀ (l acc : List Nat), en q l.length acc = true → (∀ x, x ∈ l → x ∈ [0, 1, 2, 3, 4, 5, 7]) → (acc ++ l).Nodup → q (acc ++ l) = true
  | [], acc, h, _, _ => by rw [List.append_nil]; exact h
  | x :: l, acc, h, h1, h2 => by
    have h3 := List.all_eq_true.mp h x (h1 x List.mem_cons_self)
    have e : acc ++ x :: l = (acc ++ [x]) ++ l := by rw [List.append_assoc]; rfl
    have h4 : x ∉ acc := fun hx => by
      have := List.nodup_append.mp h2
      exact this.2.2 x hx x List.mem_cons_self rfl
    have h5 : acc.contains x = false := by simpa using h4
    rw [h5, Bool.false_or] at h3
    rw [e] at h2 ⊢
    exact en_spec l (acc ++ [x]) h3 (fun y hy => h1 y (List.mem_cons_of_mem _ hy)) h2
/-- the corners at the places 0 to 5 and 7 -/
def pf (L : List Nat) : Nat → Nat := fun i => if i = 6 then 6 else if i = 7 then L.getD 6 0 else L.getD i 0
def chk (L : List Nat) : Bool := (odc (pf L) (clf (pf L)) 8 % 2 == invs (pf L) 8 % 2) && Nat.ble (orl (pf L) 8) 330
theorem chk_use {b : Nat → Nat} (h : PM b) (hc : en chk 7 [] = true) : odc b (clf b) 8 % 2 = invs b 8 % 2 ∧ orl b 8 ≤ 330 := by
  have hne : ∀ i, i < 8 → i ≠ 6 → b i % 8 ≠ 6 := fun i hi h6 e => h6 (h.2.1 i 6 hi (by decide) (by rw [e, h.2.2]))
  have hin : ∀ i, i < 8 → i ≠ 6 → b i % 8 ∈ [0, 1, 2, 3, 4, 5, 7] := fun i hi h6 => by
    have h1 := hne i hi h6
    have h2 : b i % 8 < 8 := Nat.mod_lt _ (by decide)
    generalize b i % 8 = v at h1 h2
    rcases (by omega : v = 0 ∨ v = 1 ∨ v = 2 ∨ v = 3 ∨ v = 4 ∨ v = 5 ∨ v = 7) with rfl | rfl | rfl | rfl | rfl | rfl | rfl <;> decide
  have hdd : ∀ i j, i < 8 → j < 8 → i ≠ j → b i % 8 ≠ b j % 8 := fun i j hi hj hn e => hn (h.2.1 i j hi hj e)
  have hq := en_spec [b 0 % 8, b 1 % 8, b 2 % 8, b 3 % 8, b 4 % 8, b 5 % 8, b 7 % 8] [] hc (by
    intro x hx
    simp only [List.mem_cons, List.not_mem_nil, or_false] at hx
    rcases hx with rfl | rfl | rfl | rfl | rfl | rfl | rfl <;> exact hin _ (by decide) (by decide)) (by
    rw [List.nil_append]
    simp only [List.nodup_cons, List.mem_cons, List.not_mem_nil, or_false, not_or, List.nodup_nil, and_true, not_false_eq_true]
    refine ⟨⟨?_, ?_, ?_, ?_, ?_, ?_⟩, ⟨?_, ?_, ?_, ?_, ?_⟩, ⟨?_, ?_, ?_, ?_⟩, ⟨?_, ?_, ?_⟩, ⟨?_, ?_⟩, ?_⟩ <;> exact hdd _ _ (by decide) (by decide) (by decide))
  rw [List.nil_append] at hq
  generalize hL : [b 0 % 8, b 1 % 8, b 2 % 8, b 3 % 8, b 4 % 8, b 5 % 8, b 7 % 8] = L at hq
  have hpf : ∀ i, i < 8 → pf L i % 8 = b i % 8 := by
    subst hL
    refine lt8 ?_ ?_ ?_ ?_ ?_ ?_ ?_ ?_
    · show b 0 % 8 % 8 = _; omega
    · show b 1 % 8 % 8 = _; omega
    · show b 2 % 8 % 8 = _; omega
    · show b 3 % 8 % 8 = _; omega
    · show b 4 % 8 % 8 = _; omega
    · show b 5 % 8 % 8 = _; omega
    · show 6 % 8 = _; rw [h.2.2]
    · show b 7 % 8 % 8 = _; omega
  unfold chk at hq
  rw [Bool.and_eq_true, beq_iff_eq] at hq
  rw [← odc_cg hpf 8 (Nat.le_refl 8), ← invs_cg hpf 8 (Nat.le_refl 8), ← orl_cg hpf 8 (Nat.le_refl 8)]
  exact ⟨hq.1, Nat.le_of_ble_eq_true hq.2⟩
theorem PM.gb {b : Nat → Nat} (h : PM b) (hc : en chk 7 [] = true) : GB b := by
  obtain ⟨h1, h2⟩ := chk_use h hc
  have hcl := clf_CLs h
  have h3 : orc b (clf b) 8 ≤ 1000 := by
    have := Nat.le_of_dvd (Nat.mul_pos (by decide) (Nat.pos_of_ne_zero fun e => by
      have := orc_3 b 8
      have h9 := (orc_rng hcl (Nat.le_refl 8)).1
      have hz : orl b 8 ≠ 0 := by
        have : ∀ n, n ≤ 8 → orl b n ≠ 0 := by
          intro n
          induction n with
          | zero => intro _; show (1 : Nat) ≠ 0; decide
          | succ n ih =>
            intro hn
            show (if lst b n (clf b n) < n then orl b n else Nat.lcm (orl b n) (clf b n)) ≠ 0
            split
            · exact ih (by omega)
            · exact Nat.lcm_ne_zero (ih (by omega)) (by have := (hcl n (by omega)).1; omega)
        exact this 8 (Nat.le_refl 8)
      exact hz e)) (orc_3 b 8)
    omega
  exact ⟨h.1, hcl, h1, (ord_orc h.1 hcl h3).1, (ord_orc h.1 hcl h3).2⟩
