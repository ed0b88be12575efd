/-! MY ROWS 06: the cube: byte i is the corner at place i, and 8 times its twist -/
def ct (q : Nat → Bool) : Nat → Nat
  | 0 => 0
  | n + 1 => ct q n + (if q n = true then 1 else 0)
theorem ct_t {q : Nat → Bool} {n : Nat} (h : q n = true) : ct q (n + 1) = ct q n + 1 := by simp [ct, h]
theorem ct_f {q : Nat → Bool} {n : Nat} (h : ¬ q n = true) : ct q (n + 1) = ct q n := by simp [ct, h]
theorem ct_le (q : Nat → Bool) : ∀ n, ct q n ≤ n
  | 0 => Nat.le_refl 0
  | n + 1 => by
    have := ct_le q n
    unfold ct
    split <;> omega
def Va (b : Nat → Nat) : Prop := ∀ i, i < 8 → b i < 24
theorem Va.b {b : Nat → Nat} (h : Va b) : ∀ i, i < 8 → b i < 256 := fun i hi => Nat.lt_trans (h i hi) (by decide)
theorem Va.t {b : Nat → Nat} (h : Va b) : ∀ i, i < 8 → b i < 32 := fun i hi => Nat.lt_trans (h i hi) (by decide)
def one : Nat → Nat := fun i => i
theorem one_Va : Va one := fun i hi => Nat.lt_trans hi (by decide)
/-- the deed d, done on the cube a -/
def comp (a d : Nat → Nat) : Nat → Nat := fun i => a (d i % 8) % 8 + 8 * ((a (d i % 8) / 8 + d i / 8) % 3)
theorem comp_Va (a d : Nat → Nat) : Va (comp a d) := fun i _ => by
  show a (d i % 8) % 8 + 8 * ((a (d i % 8) / 8 + d i / 8) % 3) < 24
  omega
def Qf : Nat → Nat → Nat
  | 0 => fun i => [3, 0, 1, 2, 4, 5, 6, 7].getD i 0
  | 1 => fun i => [20, 1, 2, 8, 15, 5, 6, 19].getD i 0
  | _ => fun i => [9, 21, 2, 3, 16, 12, 6, 7].getD i 0
theorem lt8 {P : Nat → Prop} (h0 : P 0) (h1 : P 1) (h2 : P 2) (h3 : P 3) (h4 : P 4) (h5 : P 5) (h6 : P 6) (h7 : P 7) : ∀ i, i < 8 → P i := by
  intro i hi
  rcases (by omega : i = 0 ∨ i = 1 ∨ i = 2 ∨ i = 3 ∨ i = 4 ∨ i = 5 ∨ i = 6 ∨ i = 7) with rfl | rfl | rfl | rfl | rfl | rfl | rfl | rfl <;> assumption
/-- so many quarters of a face -/
def itq (f : Nat) (b : Nat → Nat) : Nat → (Nat → Nat)
  | 0 => b
  | n + 1 => comp (itq f b n) (Qf f)
theorem itq_Va {f : Nat} {b : Nat → Nat} (h : Va b) : ∀ n, Va (itq f b n)
  | 0 => h
  | _ + 1 => comp_Va _ _
def turnC (b : Nat → Nat) (t : Nat) : Nat → Nat := itq (t / 3) b (t % 3 + 1)
theorem turnC_Va (b : Nat → Nat) (t : Nat) : Va (turnC b t) := comp_Va _ _
/-- four places done one behind the other: k of them -/
def gs (b : Nat → Nat) (R M : Nat → Nat) : Nat → (Nat → Nat)
  | 0 => b
  | k + 1 => fun i => if i = R ((k + 1) % 4) then b (R k) % 8 + 8 * ((b (R k) / 8 + M k) % 3) else gs b R M k i
theorem gs_Va {b : Nat → Nat} {R M : Nat → Nat} (h : Va b) : ∀ k, Va (gs b R M k)
  | 0 => h
  | k + 1 => fun i hi => by
    show (if i = R ((k + 1) % 4) then b (R k) % 8 + 8 * ((b (R k) / 8 + M k) % 3) else gs b R M k i) < 24
    split
    · omega
    · exact gs_Va h k i hi
theorem gs_face {b : Nat → Nat} (h : Va b) {f : Nat} (hf : f < 3) : enc (gs b (zRing f) (zMore f) 4) = enc (comp b (Qf f)) := by
  apply enc_congr
  have h0 := h 0 (by decide)
  have h1 := h 1 (by decide)
  have h2 := h 2 (by decide)
  have h3 := h 3 (by decide)
  have h4 := h 4 (by decide)
  have h5 := h 5 (by decide)
  have h6 := h 6 (by decide)
  have h7 := h 7 (by decide)
  rcases (by omega : f = 0 ∨ f = 1 ∨ f = 2) with rfl | rfl | rfl <;>
    (refine lt8 ?_ ?_ ?_ ?_ ?_ ?_ ?_ ?_ <;> simp [gs, comp, Qf, zRing, zMore] <;> omega)
def dig (n k : Nat) : Nat := n / 2 ^ (4 * (3 - k)) % 16
theorem sh_i : ∀ k, k < 32 → ((nI k &&& 31).toBitVec.smod 32).toNat = k := by decide +kernel
theorem dig_shr {n k : Nat} (hn : n < 2 ^ 31) (hk : k < 32) : nI n >>> (nI k &&& 31) = nI (n / 2 ^ k) := pk_shrN hn _ k (sh_i k hk)
theorem and_15 {n : Nat} (hn : n < 2 ^ 32) : nI n &&& nI 15 = nI (n % 16) := pk_andN hn 4 (by decide)
theorem tw_ish : ∀ t, t < 3 → ∀ c, c < 8 → (nI t <<< (nI 3 &&& 31) ||| nI c).toInt64 = lN (c + 8 * t) := by decide +kernel
def pairsTo (b : Nat → Nat) (i : Nat) : Nat → Nat := ct (fun k => decide (b (i + 1 + k) % 8 < b i % 8))
def invs (b : Nat → Nat) : Nat → Nat
  | 0 => 0
  | n + 1 => invs b n + pairsTo b n (7 - n)
