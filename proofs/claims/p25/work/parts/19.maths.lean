/-! MY ROWS 19: what the mathematics speaks of -/
theorem comp_lo (a d : Nat → Nat) (i : Nat) : comp a d i % 8 = a (d i % 8) % 8 := by unfold comp; omega
theorem comp_hi (a d : Nat → Nat) (i : Nat) : comp a d i / 8 = (a (d i % 8) / 8 + d i / 8) % 3 := by unfold comp; omega
/-- what brings all back -/
def bkN (b : Nat → Nat) : Nat → (Nat → Nat)
  | 0 => fun _ => 0
  | k + 1 => fun i => if i = b k % 8 then k + 8 * ((3 - b k / 8) % 3) else bkN b k i
def iv (b : Nat → Nat) : Nat → Nat := bkN b 8
theorem zr_lt : ∀ f, f < 3 → ∀ k, k < 4 → zRing f k < 8 ∧ zMore f k < 3 := by decide
theorem gs_one : ∀ f, f < 3 → ∀ i, i < 8 → gs one (zRing f) (zMore f) 4 i = Qf f i := by decide
def tq (t : Nat) : Nat → Nat := itq (t / 3) (Qf (t / 3)) (t % 3)
theorem Qf_Va : ∀ f, Va (Qf f)
  | 0 => by unfold Va Qf; decide
  | 1 => by unfold Va Qf; decide
  | _ + 2 => fun i hi => (by decide : ∀ i, i < 8 → [9, 21, 2, 3, 16, 12, 6, 7].getD i 0 < 24) i hi
theorem tq_Va (t : Nat) : Va (tq t) := itq_Va (Qf_Va _) _

theorem ct_congr {q r : Nat → Bool} : ∀ n, (∀ i, i < n → q i = r i) → ct q n = ct r n
  | 0, _ => rfl
  | n + 1, h => by
    show ct q n + _ = ct r n + _
    rw [ct_congr n (fun i hi => h i (by omega)), h n (by omega)]
theorem many_1 {b : Nat → Nat} (hv : Va b) : ct (fun i => decide (((1 : Nat) = 3 ∨ b i % 8 = i) ∧ ((1 : Nat) = 2 ∨ b i / 8 = 0))) 8 = nRt b := ct_congr 8 fun i hi => decide_eq_decide.mpr (by rw [right_iff hv hi]; omega)
theorem many_2 {b : Nat → Nat} : ct (fun i => decide (((2 : Nat) = 3 ∨ b i % 8 = i) ∧ ((2 : Nat) = 2 ∨ b i / 8 = 0))) 8 = nPl b := ct_congr 8 fun i hi => decide_eq_decide.mpr (by omega)
theorem many_3 {b : Nat → Nat} : ct (fun i => decide (((3 : Nat) = 3 ∨ b i % 8 = i) ∧ ((3 : Nat) = 2 ∨ b i / 8 = 0))) 8 = nUt b := ct_congr 8 fun i hi => decide_eq_decide.mpr (by omega)
/-- the corner that one comes to from i by k steps, and the twists on the way, and the least place -/
def orb (b : Nat → Nat) (i : Nat) : Nat → Nat
  | 0 => i
  | k + 1 => b (orb b i k) % 8
def tws (b : Nat → Nat) (i : Nat) : Nat → Nat
  | 0 => 0
  | k + 1 => tws b i k + b (orb b i k) / 8
def lst (b : Nat → Nat) (i : Nat) : Nat → Nat
  | 0 => i
  | k + 1 => min (lst b i k) (orb b i k)
theorem orb_lt {b : Nat → Nat} {i : Nat} (hi : i < 8) : ∀ k, orb b i k < 8
  | 0 => hi
  | _ + 1 => Nat.mod_lt _ (by decide)
theorem tws_le {b : Nat → Nat} (hv : Va b) {i : Nat} (hi : i < 8) : ∀ k, tws b i k ≤ 3 * k
  | 0 => Nat.le_refl 0
  | k + 1 => by
    have h1 := tws_le hv hi k
    have h2 := hv _ (orb_lt (b := b) hi k)
    show tws b i k + b (orb b i k) / 8 ≤ 3 * (k + 1)
    omega
theorem lst_lt {b : Nat → Nat} {i : Nat} (hi : i < 8) : ∀ k, lst b i k < 8
  | 0 => hi
  | k + 1 => by
    have h1 := lst_lt (b := b) hi k
    show min (lst b i k) (orb b i k) < 8
    omega
/-- cl i is how many steps lead from i to i -/
def CLs (b : Nat → Nat) (cl : Nat → Nat) : Prop := ∀ i, i < 8 → 0 < cl i ∧ cl i ≤ 8 ∧ orb b i (cl i) = i ∧ ∀ k, 0 < k → k < cl i → ¬ orb b i k = i
def tm (b : Nat → Nat) (cl : Nat → Nat) (i : Nat) : Nat := if tws b i (cl i) % 3 = 0 then cl i else 3 * cl i
def orc (b : Nat → Nat) (cl : Nat → Nat) : Nat → Nat
  | 0 => 1
  | i + 1 => if lst b i (cl i) < i then orc b cl i else orc b cl i / Nat.gcd (orc b cl i) (tm b cl i) * tm b cl i
def odc (b : Nat → Nat) (cl : Nat → Nat) : Nat → Nat
  | 0 => 0
  | i + 1 => if lst b i (cl i) < i then odc b cl i else odc b cl i + (cl i - 1)
theorem dvd_84 : ∀ n, n < 9 → 0 < n → n ∣ 840 ∧ n ∣ 2520 ∧ 3 * n ∣ 2520 := by decide
theorem dvd_840 (n : Nat) (h1 : 0 < n) (h2 : n ≤ 8) : n ∣ 840 ∧ n ∣ 2520 ∧ 3 * n ∣ 2520 := dvd_84 n (by omega) h1
theorem lcm_eq (a t : Nat) : a / Nat.gcd a t * t = Nat.lcm a t := by
  unfold Nat.lcm
  rw [Nat.mul_comm a t, Nat.mul_comm (a / Nat.gcd a t) t]
  exact (Nat.mul_div_assoc t (Nat.gcd_dvd_left a t)).symm
theorem tm_dvd {b : Nat → Nat} {cl : Nat → Nat} (h : CLs b cl) {i : Nat} (hi : i < 8) : tm b cl i ∣ 2520 := by
  unfold tm
  have h1 := dvd_840 (cl i) (h i hi).1 (h i hi).2.1
  split
  · exact h1.2.1
  · exact h1.2.2
theorem tm_rng {b : Nat → Nat} {cl : Nat → Nat} (h : CLs b cl) {i : Nat} (hi : i < 8) : 0 < tm b cl i ∧ tm b cl i ≤ 24 := by
  unfold tm
  have h1 := h i hi
  split <;> omega
theorem orc_dvd {b : Nat → Nat} {cl : Nat → Nat} (h : CLs b cl) : ∀ i, i ≤ 8 → orc b cl i ∣ 2520
  | 0, _ => Nat.one_dvd 2520
  | i + 1, hi => by
    show (if lst b i (cl i) < i then orc b cl i else orc b cl i / Nat.gcd (orc b cl i) (tm b cl i) * tm b cl i) ∣ 2520
    split
    · exact orc_dvd h i (by omega)
    · rw [lcm_eq]; exact Nat.lcm_dvd (orc_dvd h i (by omega)) (tm_dvd h (by omega))
theorem orc_rng {b : Nat → Nat} {cl : Nat → Nat} (h : CLs b cl) {i : Nat} (hi : i ≤ 8) : 0 < orc b cl i ∧ orc b cl i ≤ 2520 := by
  have h1 := orc_dvd h i hi
  exact ⟨Nat.pos_of_dvd_of_pos h1 (by decide), Nat.le_of_dvd (by decide) h1⟩
theorem odc_le {b : Nat → Nat} {cl : Nat → Nat} (h : CLs b cl) : ∀ i, i ≤ 8 → odc b cl i ≤ 8 * i
  | 0, _ => Nat.le_refl 0
  | i + 1, hi => by
    have h1 := odc_le h i (by omega)
    have h2 := (h i (by omega)).2.1
    show (if lst b i (cl i) < i then odc b cl i else odc b cl i + (cl i - 1)) ≤ _
    split <;> omega
/-! MY ROWS 19: the reference as cells; its rows of words; its search (laid by a program of mine) -/
theorem comp_assoc (a b c : Nat → Nat) : comp (comp a b) c = comp a (comp b c) := by
  funext i
  unfold comp
  have e1 : ∀ x y : Nat, (x % 8 + 8 * y) % 8 = x % 8 := fun x y => by omega
  have e2 : ∀ x y : Nat, (x % 8 + 8 * y) / 8 = y := fun x y => by omega
  simp only [e1, e2]
  omega
theorem itq_comp (f : Nat) (c : Nat → Nat) : ∀ n, comp c (itq f (Qf f) n) = itq f c (n + 1)
  | 0 => rfl
  | n + 1 => by
    show comp c (comp (itq f (Qf f) n) (Qf f)) = comp (itq f c (n + 1)) (Qf f)
    rw [← comp_assoc, itq_comp f c n]
theorem comp_tq (c : Nat → Nat) (t : Nat) : comp c (tq t) = turnC c t := itq_comp (t / 3) c (t % 3)
/-- comes back in just n turns, the first not of the face lf (3: any) -/
def cm : Nat → (Nat → Nat) → Nat → Bool
  | 0 => fun b _ => decide (nRt b = 8)
  | n + 1 => fun b lf => anyN (fun t => !(decide (t / 3 = lf)) && cm n (turnC b t) (t / 3)) 9
/-! MY ROWS 20: the reference's private methods (laid by a program of mine) -/
def fdc (b : Nat → Nat) (i : Nat) : Nat → Nat → Nat
  | 0, k => k
  | u + 1, k => if orb b i k = i then k else fdc b i u (k + 1)
def clf (b : Nat → Nat) (i : Nat) : Nat := fdc b i 7 1
/-- a cube of which both sides count the same -/
def GB (b : Nat → Nat) : Prop := Va b ∧ CLs b (clf b) ∧ odc b (clf b) 8 % 2 = invs b 8 % 2 ∧ orc b (clf b) 8 = ordN b + 1 ∧ ordN b < 1000
theorem comp_c8 {a a2 : Nat → Nat} (d : Nat → Nat) (h : ∀ i, i < 8 → a i = a2 i) : comp a d = comp a2 d := by
  funext i
  unfold comp
  rw [h (d i % 8) (Nat.mod_lt _ (by decide))]
theorem comp_one {c : Nat → Nat} (hv : Va c) {i : Nat} (hi : i < 8) : comp c one i = c i := by
  have := hv i hi
  unfold comp one
  rw [Nat.mod_eq_of_lt hi, Nat.div_eq_of_lt hi]
  omega
theorem bhN_comp {c : Nat → Nat} (hv : Va c) (l : List Nat) : ∀ k, ∀ i, i < 8 → bhN c l k i = comp c (bhN one l k) i
  | 0 => fun i hi => (comp_one hv hi).symm
  | k + 1 => fun i hi => by
    show turnC (bhN c l k) (l.getD k 0) i = comp c (turnC (bhN one l k) (l.getD k 0)) i
    rw [← comp_tq, ← comp_tq, ← comp_assoc, comp_c8 (a := bhN c l k) _ (bhN_comp hv l k)]
theorem behind_comp {c : Nat → Nat} (hv : Va c) (l : List Nat) {i : Nat} (hi : i < 8) : comp c (deed l) i = behind c l i := (bhN_comp hv l l.length i hi).symm
/-! MY ROWS 24: the reference's public methods where they answer, the rest (laid by a program of mine) -/
theorem bk_lt (b : Nat → Nat) : ∀ k, k ≤ 8 → ∀ i, bkN b k i < 24
  | 0, _, i => by show 0 < 24; decide
  | k + 1, h, i => by
    show (if i = b k % 8 then k + 8 * ((3 - b k / 8) % 3) else bkN b k i) < 24
    split
    · omega
    · exact bk_lt b k (by omega) i
theorem iv_Va (b : Nat → Nat) : Va (iv b) := fun i _ => bk_lt b 8 (Nat.le_refl 8) i
