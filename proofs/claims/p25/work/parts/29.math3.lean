/-! MY ROWS 29: what the property says of cubes -/
/-- twists together, of the first n places -/
def tsm (b : Nat → Nat) : Nat → Nat
  | 0 => 0
  | n + 1 => tsm b n + b n / 8
def TW (b : Nat → Nat) : Prop := tsm b 8 % 3 = 0
theorem TW.one : TW one := by unfold TW; decide
theorem tsm_lt {b : Nat → Nat} (h : Va b) : ∀ n, n ≤ 8 → tsm b n ≤ 3 * n
  | 0, _ => Nat.le_refl 0
  | n + 1, hn => by
    have h1 := tsm_lt h n (by omega)
    have h2 := h n (by omega)
    show tsm b n + b n / 8 ≤ 3 * (n + 1)
    omega
theorem TW.comp0 {b : Nat → Nat} (h : TW b) : TW (comp b (Qf 0)) := by
  unfold TW at h ⊢
  simp only [tsm, comp_hi] at h ⊢
  simp [Qf]
  omega
theorem TW.comp1 {b : Nat → Nat} (h : TW b) : TW (comp b (Qf 1)) := by
  unfold TW at h ⊢
  simp only [tsm, comp_hi] at h ⊢
  simp [Qf]
  omega
theorem TW.comp2 {b : Nat → Nat} (n : Nat) (h : TW b) : TW (comp b (Qf (n + 2))) := by
  unfold TW at h ⊢
  simp only [tsm, comp_hi] at h ⊢
  simp [Qf]
  omega
theorem TW.Qf {b : Nat → Nat} (h : TW b) : ∀ f, TW (comp b (Qf f))
  | 0 => h.comp0
  | 1 => h.comp1
  | n + 2 => h.comp2 n
theorem TW.itq {b : Nat → Nat} (f : Nat) (h : TW b) : ∀ n, TW (itq f b n)
  | 0 => h
  | n + 1 => (TW.itq f h n).Qf f
theorem TW.turnC {b : Nat → Nat} (h : TW b) (t : Nat) : TW (turnC b t) := TW.itq _ h _
theorem TW.bhN {c : Nat → Nat} (h : TW c) (l : List Nat) : ∀ n, TW (bhN c l n)
  | 0 => h
  | n + 1 => (TW.bhN h l n).turnC _
theorem TW.plN {c : Nat → Nat} (h : TW c) (l : List Nat) : ∀ n, TW (plN c l n)
  | 0 => h
  | n + 1 => TW.bhN (TW.plN h l n) l _
/-- corners that were seen at the first n places, a bit each -/
def orF (b : Nat → Nat) : Nat → Nat
  | 0 => 0
  | n + 1 => orF b n ||| 2 ^ (b n % 8)
theorem orF_lt (b : Nat → Nat) : ∀ n, orF b n < 2 ^ 8
  | 0 => by show 0 < 2 ^ 8; decide
  | n + 1 => Nat.or_lt_two_pow (orF_lt b n) (Nat.pow_lt_pow_right (by decide) (Nat.mod_lt _ (by decide)))
theorem orF_bit (b : Nat → Nat) (j : Nat) : ∀ n, (orF b n).testBit j = true ↔ ∃ i, i < n ∧ b i % 8 = j
  | 0 => by simp [orF]
  | n + 1 => by
    show (orF b n ||| 2 ^ (b n % 8)).testBit j = true ↔ _
    rw [Nat.testBit_or, Bool.or_eq_true, orF_bit b j n, Nat.testBit_two_pow, decide_eq_true_iff]
    constructor
    · rintro (⟨i, hi, h⟩ | h)
      · exact ⟨i, by omega, h⟩
      · exact ⟨n, by omega, h⟩
    · rintro ⟨i, hi, h⟩
      by_cases e : i = n
      · subst e; exact Or.inr h
      · exact Or.inl ⟨i, by omega, h⟩
theorem orF_8 {b : Nat → Nat} (h : PM b) : orF b 8 = 255 := by
  apply Nat.eq_of_testBit_eq
  intro j
  rw [show (255 : Nat) = 2 ^ 8 - 1 from rfl, Nat.testBit_two_pow_sub_one]
  apply Bool.eq_iff_iff.mpr
  rw [orF_bit, decide_eq_true_iff]
  constructor
  · rintro ⟨i, -, h⟩
    rw [← h]
    exact Nat.mod_lt _ (by decide)
  · intro hj
    exact h.surj hj
/-! the same cube: at the eight places -/
abbrev EQ8 (a b : Nat → Nat) : Prop := ∀ i, i < 8 → a i = b i
theorem id_r {x y : Nat → Nat} (hx : Va x) (h : EQ8 y one) : EQ8 (comp x y) x := fun i hi => by
  have h1 : y i = i := h i hi
  have h2 := hx i hi
  unfold comp
  rw [h1, Nat.mod_eq_of_lt hi, Nat.div_eq_of_lt hi]
  omega
theorem id_l {x y : Nat → Nat} (hx : Va x) (h : EQ8 y one) : EQ8 (comp y x) x := fun i hi => by
  have h2 := hx i hi
  have h1 : y (x i % 8) = x i % 8 := h _ (Nat.mod_lt _ (by decide))
  unfold comp
  rw [h1]
  omega
theorem ivL {b : Nat → Nat} (h : PM b) : EQ8 (comp (iv b) b) one := fun i hi => by
  have e := iv_of h hi
  have h2 := h.1 i hi
  show comp (iv b) b i = i
  unfold comp
  rw [e]
  omega
theorem ivR {b : Nat → Nat} (h : PM b) : EQ8 (comp b (iv b)) one := fun _ hi => comp_iv h hi
abbrev cmt (A B : Nat → Nat) : Nat → Nat := comp (comp A B) (comp (iv A) (iv B))
theorem cmt_cmt {A B : Nat → Nat} (hA : PM A) (hB : PM B) : EQ8 (comp (cmt A B) (cmt B A)) one := by
  have h1 : EQ8 (comp (iv B) (comp B (comp A (comp (iv B) (iv A))))) (comp A (comp (iv B) (iv A))) := by
    rw [← comp_assoc]
    exact id_l (comp_Va _ _) (ivL hB)
  have h2 : EQ8 (comp (iv A) (comp A (comp (iv B) (iv A)))) (comp (iv B) (iv A)) := by
    rw [← comp_assoc]
    exact id_l (comp_Va _ _) (ivL hA)
  have h3 : EQ8 (comp B (comp (iv B) (iv A))) (iv A) := by
    rw [← comp_assoc]
    exact id_l (iv_Va A) (ivR hB)
  intro i hi
  unfold cmt
  rw [comp_assoc (comp A B), comp_assoc (iv A), comp_assoc B A, comp_assoc A B]
  refine (comp_cg (fun _ _ => rfl) (fun j hj => ?_) hi).trans (ivR hA i hi)
  refine (comp_cg (fun _ _ => rfl) (fun k hk => ?_) hj).trans (h3 j hj)
  exact (comp_cg (fun _ _ => rfl) (fun q hq => h1 q hq) hk).trans (h2 k hk)
theorem fix_of {M N : Nat → Nat} (hM : Va M) (h : EQ8 (comp M N) one) {i : Nat} (hi : i < 8) (e : N i = i) : M i = i := by
  have h1 : comp M N i = i := h i hi
  have h2 := hM i hi
  unfold comp at h1
  rw [e, Nat.mod_eq_of_lt hi, Nat.div_eq_of_lt hi] at h1
  omega
theorem nRt_cmt {A B : Nat → Nat} (hA : PM A) (hB : PM B) : nRt (cmt A B) = nRt (cmt B A) := ct_congr 8 fun i hi => decide_eq_decide.mpr
  ⟨fun e => fix_of (comp_Va _ _) (cmt_cmt hB hA) hi e, fun e => fix_of (comp_Va _ _) (cmt_cmt hA hB) hi e⟩
theorem nRt_cmt_8 {A B : Nat → Nat} (hA : PM A) (hB : PM B) (h : EQ8 A B) : nRt (cmt A B) = 8 := by
  rw [nRt_8]
  intro i hi
  unfold cmt
  rw [comp_assoc]
  have h1 : EQ8 (comp B (comp (iv A) (iv B))) (iv B) := by
    rw [← comp_assoc]
    exact id_l (iv_Va B) fun j hj => (comp_cg (fun k hk => (h k hk).symm) (fun _ _ => rfl) hj).trans (ivR hA j hj)
  exact (comp_cg h h1 hi).trans (ivR hB i hi)
/-! the order of the same cubes -/
theorem pw_cg {a b : Nat → Nat} (h : EQ8 a b) : ∀ n, EQ8 (pw a n) (pw b n)
  | 0 => h
  | n + 1 => fun _ hi => comp_cg (pw_cg h n) h hi
theorem ordS_cg {a b : Nat → Nat} (h : EQ8 a b) : ∀ u k, ordS a u k = ordS b u k
  | 0, _ => rfl
  | u + 1, k => by
    unfold ordS
    rw [enc_congr (pw_cg h k), ordS_cg h u (k + 1)]
theorem ordN_cg {a b : Nat → Nat} (h : EQ8 a b) : ordN a = ordN b := ordS_cg h 1000 0
theorem ordS_ge (b : Nat → Nat) : ∀ u k, k ≤ ordS b u k
  | 0, k => Nat.le_refl k
  | u + 1, k => by
    unfold ordS
    split
    · exact Nat.le_refl k
    · exact Nat.le_trans (Nat.le_succ k) (ordS_ge b u (k + 1))
theorem ordN_0 {b : Nat → Nat} (h : Va b) : ordN b + 1 = 1 ↔ nRt b = 8 := by
  rw [← is1_iff h]
  unfold is1 ordN
  rw [decide_eq_true_iff]
  have e : ordS b 1000 0 = if enc (pw b 0) = enc one then 0 else ordS b 999 1 := rfl
  rw [e]
  show (if enc b = enc one then 0 else ordS b 999 1) + 1 = 1 ↔ _
  have h1 := ordS_ge b 999 1
  split
  · rename_i h2; exact ⟨fun _ => h2, fun _ => rfl⟩
  · rename_i h2; exact ⟨fun q => absurd q (by omega), fun q => absurd q h2⟩
/-! how far a cube is -/
theorem cm_cg : ∀ (n : Nat) {a b : Nat → Nat} (_ : EQ8 a b) {lf : Nat}, cm n a lf = true → cm n b lf = true
  | 0, a, b, h, lf, q => by rw [cm_0] at q ⊢; rw [← nRt_congr h]; exact q
  | n + 1, a, b, h, lf, q => by
    obtain ⟨t, ht, h1, h2⟩ := cm_s.mp q
    exact cm_s.mpr ⟨t, ht, h1, cm_cg n (fun i hi => turnC_cg h t hi) h2⟩
theorem cm_any {n : Nat} {b : Nat → Nat} {lf : Nat} (h : cm n b lf = true) : cm n b 3 = true := by
  cases n with
  | zero => exact cm_0.mpr (cm_0.mp h)
  | succ n =>
    obtain ⟨t, ht, -, h2⟩ := cm_s.mp h
    exact cm_s.mpr ⟨t, ht, by omega, h2⟩
def CM (n : Nat) (b : Nat → Nat) : Prop := ∃ k, k ≤ n ∧ cm k b 3 = true
theorem CM.cg {n : Nat} {a b : Nat → Nat} (h : EQ8 a b) (q : CM n a) : CM n b := by
  obtain ⟨k, hk, h2⟩ := q
  exact ⟨k, hk, cm_cg k h h2⟩
theorem two_f : ∀ t, t < 9 → ∀ u, u < 9 → u / 3 = t / 3 → (∀ i, i < 8 → comp (tq t) (tq u) i = i) ∨ ∃ v, v < 9 ∧ v / 3 = u / 3 ∧ ∀ i, i < 8 → comp (tq t) (tq u) i = tq v i := by decide +kernel
theorem CM.step {n : Nat} {b : Nat → Nat} (hv : Va b) {t : Nat} (ht : t < 9) (h : CM n (turnC b t)) : CM (n + 1) b := by
  obtain ⟨k, hk, h⟩ := h
  cases k with
  | zero => exact ⟨1, by omega, cm_s.mpr ⟨t, ht, by omega, cm_0.mpr (cm_0.mp h)⟩⟩
  | succ k =>
    obtain ⟨u, hu, -, h2⟩ := cm_s.mp h
    by_cases e : u / 3 = t / 3
    · have e2 : turnC (turnC b t) u = comp b (comp (tq t) (tq u)) := by rw [← comp_tq, ← comp_tq, comp_assoc]
      rw [e2] at h2
      rcases two_f t ht u hu e with h3 | ⟨v, hv9, h4, h5⟩
      · exact ⟨k, by omega, cm_any (cm_cg k (id_r hv h3) h2)⟩
      · have h6 : EQ8 (comp b (comp (tq t) (tq u))) (turnC b v) := by
          rw [← comp_tq b v]
          exact fun i hi => comp_cg (fun _ _ => rfl) h5 hi
        exact ⟨k + 1, by omega, cm_s.mpr ⟨v, hv9, by omega, by rw [h4]; exact cm_cg k h6 h2⟩⟩
    · exact ⟨k + 2, by omega, cm_s.mpr ⟨t, ht, by omega, cm_s.mpr ⟨u, hu, e, h2⟩⟩⟩
theorem CM.turn {n : Nat} {b : Nat → Nat} (hv : Va b) {t : Nat} (ht : t < 9) (h : CM n b) : CM (n + 1) (turnC b t) :=
  CM.step (turnC_Va b t) (tb_lt ht) (h.cg fun _ hi => (turn_back hv ht hi).symm)
theorem CM.one : CM 0 one := ⟨0, Nat.le_refl 0, cm_0.mpr (nRt_8.mpr fun _ _ => rfl)⟩
def DI (b : Nat → Nat) (n : Nat) : Prop := wi n b 3 = true ∧ ∀ k, k < n → wi k b 3 = false
theorem CM.di {n : Nat} {b : Nat → Nat} (hv : Va b) (h : CM n b) : ∃ N, N ≤ n ∧ DI b N := by
  rcases cm_far hv n (lf := 3) with ⟨h1, -⟩ | ⟨N, h1, -, h3, h4⟩
  · obtain ⟨k, hk, h2⟩ := h
    rw [h1 k hk] at h2; cases h2
  · exact ⟨N, h1, h3, h4⟩
theorem DI.cmo {b : Nat → Nat} (hv : Va b) {n : Nat} (h : DI b n) : cm n b 3 = true ∧ ∀ k, k < n → cm k b 3 = false := by
  have h2 : ∀ k, k < n → cm k b 3 = false := fun k hk => by
    cases e : cm k b 3 with
    | false => rfl
    | true =>
      have := (wi_iff k hv).mpr ⟨k, Nat.le_refl k, e⟩
      rw [h.2 k hk] at this; cases this
  obtain ⟨k, hk, h1⟩ := (wi_iff n hv).mp h.1
  by_cases e : k = n
  · rw [e] at h1; exact ⟨h1, h2⟩
  · rw [h2 k (by omega)] at h1; cases h1
theorem DI.next {b : Nat → Nat} (hv : Va b) {n : Nat} (h : DI b (n + 1)) : ∃ F, F < 9 ∧ (∀ t, t < F → wi n (turnC b t) (t / 3) = false) ∧ wi n (turnC b F) (F / 3) = true ∧ DI (turnC b F) n := by
  obtain ⟨h1, h2⟩ := h.cmo hv
  obtain ⟨F, hF, h3, h4, h5⟩ := cm_first (Nat.succ_pos n) h1 h2
  have h4 : cm n (turnC b F) (F / 3) = true := h4
  have h5 : wi n (turnC b F) (F / 3) = true := h5
  refine ⟨F, hF, fun t ht => ?_, h5, (wi_iff n (turnC_Va b F)).mpr ⟨n, Nat.le_refl n, cm_any h4⟩, fun k hk => ?_⟩
  · exact (h3 t ht).2
  · cases e : wi k (turnC b F) 3 with
    | false => rfl
    | true =>
      obtain ⟨j, hj, h6⟩ := CM.step hv hF ((wi_iff k (turnC_Va b F)).mp e)
      rw [h2 j (by omega)] at h6; cases h6
theorem DI.is {b : Nat → Nat} (hv : Va b) (h : DI b 0) : nRt b = 8 := (is1_iff hv).mp h.1
theorem wi_cg {a b : Nat → Nat} (ha : Va a) (hb : Va b) (h : EQ8 a b) (n : Nat) : wi n a 3 = wi n b 3 := Bool.eq_iff_iff.mpr (by
  rw [wi_iff n ha, wi_iff n hb]
  exact ⟨fun q => CM.cg h q, fun q => CM.cg (fun i hi => (h i hi).symm) q⟩)
/-- what a call answers that looks for the fewest turns, 2 at the most (any bound would do) -/
theorem far_of {b : Nat → Nat} (m : Nat) : (∀ k, k ≤ m → wi k b 3 = false) ∨ ∃ N, N ≤ m ∧ DI b N := by
  rcases least (P := fun k => wi k b 3 = true) m with h | ⟨N, h1, h2, h3⟩
  · exact Or.inl fun k hk => by simpa using h k hk
  · exact Or.inr ⟨N, h1, h2, fun k hk => by simpa using h3 k hk⟩
/-! the best turn; counts -/
theorem bst_max (b : Nat → Nat) : ∀ n, n ≤ 9 → ∀ t, t < n → nRt (turnC b t) ≤ nRt (turnC b (bst b n))
  | 0, _, t, ht => absurd ht (Nat.not_lt_zero t)
  | n + 1, hn, t, ht => by
    have ih := bst_max b n (by omega)
    show nRt (turnC b t) ≤ nRt (turnC b (if n = 0 then 0 else if nRt (turnC b (bst b n)) < nRt (turnC b n) then n else bst b n))
    by_cases h0 : n = 0
    · rw [if_pos h0]
      obtain rfl : t = 0 := by omega
      exact Nat.le_refl _
    · rw [if_neg h0]
      by_cases h1 : nRt (turnC b (bst b n)) < nRt (turnC b n)
      · rw [if_pos h1]
        by_cases e : t = n
        · rw [e]; exact Nat.le_refl _
        · have := ih t (by omega); omega
      · rw [if_neg h1]
        by_cases e : t = n
        · rw [e]; omega
        · exact ih t (by omega)
theorem nPl_ge (b : Nat → Nat) : nRt b ≤ nPl b := ct_ge 8 fun i hi h => decide_eq_true (by rw [of_decide_eq_true h]; exact Nat.mod_eq_of_lt hi)
theorem nUt_ge (b : Nat → Nat) : nRt b ≤ nUt b := ct_ge 8 fun i hi h => decide_eq_true (by rw [of_decide_eq_true h]; exact Nat.div_eq_of_lt hi)
theorem nRt_le (b : Nat → Nat) : nRt b ≤ 8 := ct_le _ 8
theorem ct_tV (b : Nat → Nat) (n : Nat) : ct (fun i => decide (b i = i)) n + tV b n 2 = ct (fun i => decide (b i = i)) (n + 1) := by
  show _ + (if b n = n then 1 else 0) = _ + (if decide (b n = n) = true then 1 else 0)
  by_cases h : b n = n
  · rw [if_pos h, if_pos (decide_eq_true h)]
  · rw [if_neg h, if_neg (by simpa using h)]
