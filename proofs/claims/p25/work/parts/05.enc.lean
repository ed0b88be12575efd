/-! MY ROWS 05: eight bytes in one long -/
def encN (b : Nat → Nat) : Nat → Nat
  | 0 => 0
  | n + 1 => 2 ^ (8 * n) * b n + encN b n
theorem encN_lt {b : Nat → Nat} (h : ∀ i, i < 8 → b i < 256) : ∀ n, n ≤ 8 → encN b n < 2 ^ (8 * n)
  | 0, _ => by simp [encN]
  | n + 1, hn => by
    have ih := encN_lt h n (by omega)
    have hb := h n (by omega)
    show 2 ^ (8 * n) * b n + encN b n < 2 ^ (8 * (n + 1))
    have e : 2 ^ (8 * (n + 1)) = 2 ^ (8 * n) * 256 := by rw [Nat.mul_add, Nat.pow_add]
    rw [e]
    have h1 : 2 ^ (8 * n) * (b n + 1) ≤ 2 ^ (8 * n) * 256 := Nat.mul_le_mul_left _ (by omega)
    rw [Nat.mul_add, Nat.mul_one] at h1
    omega
theorem encN_bit {b : Nat → Nat} (h : ∀ i, i < 8 → b i < 256) : ∀ n, n ≤ 8 → ∀ i, (encN b n).testBit i = (decide (i < 8 * n) && (b (i / 8)).testBit (i % 8))
  | 0, _, i => by simp [encN]
  | n + 1, hn, i => by
    show (2 ^ (8 * n) * b n + encN b n).testBit i = _
    rw [Nat.testBit_two_pow_mul_add _ (encN_lt h n (by omega))]
    by_cases hi : i < 8 * n
    · rw [if_pos hi, encN_bit h n (by omega)]
      have h2 : i < 8 * (n + 1) := by omega
      simp [hi, h2]
    · rw [if_neg hi]
      by_cases h2 : i < 8 * (n + 1)
      · have e1 : i / 8 = n := by omega
        have e2 : i % 8 = i - 8 * n := by omega
        rw [e1, e2]
        simp [h2]
      · have h8 : (2 : Nat) ^ 8 ≤ 2 ^ (i - 8 * n) := Nat.pow_le_pow_right (by decide) (by omega)
        have h3 : (b n).testBit (i - 8 * n) = false := Nat.testBit_lt_two_pow (Nat.lt_of_lt_of_le (h n (by omega)) h8)
        simp [h2, h3]
theorem encN_congr {a b : Nat → Nat} (h : ∀ i, i < 8 → a i = b i) : ∀ n, n ≤ 8 → encN a n = encN b n
  | 0, _ => rfl
  | n + 1, hn => by
    show 2 ^ (8 * n) * a n + encN a n = 2 ^ (8 * n) * b n + encN b n
    rw [encN_congr h n (by omega), h n (by omega)]
def enc (b : Nat → Nat) : Int64 := Int64.ofBitVec (BitVec.ofNat 64 (encN b 8))
theorem enc_congr {a b : Nat → Nat} (h : ∀ i, i < 8 → a i = b i) : enc a = enc b := by
  unfold enc
  rw [encN_congr h 8 (Nat.le_refl 8)]
theorem enc_bit {b : Nat → Nat} (h : ∀ i, i < 8 → b i < 256) (i : Nat) : (enc b).toBitVec.getLsbD i = (decide (i < 64) && (b (i / 8)).testBit (i % 8)) := by
  show (BitVec.ofNat 64 (encN b 8)).getLsbD i = _
  rw [BitVec.getLsbD_ofNat, encN_bit h 8 (Nat.le_refl 8)]
  by_cases hi : i < 64
  · have h2 : i < 8 * 8 := hi
    simp [hi]
  · simp [hi]
theorem enc_inj {a b : Nat → Nat} (ha : ∀ i, i < 8 → a i < 256) (hb : ∀ i, i < 8 → b i < 256) (h : enc a = enc b) : ∀ i, i < 8 → a i = b i := by
  intro i hi
  apply Nat.eq_of_testBit_eq
  intro j
  by_cases hj : j < 8
  · have h1 := enc_bit ha (8 * i + j)
    have h2 := enc_bit hb (8 * i + j)
    rw [h, h2] at h1
    have e1 : (8 * i + j) / 8 = i := by omega
    have e2 : (8 * i + j) % 8 = j := by omega
    have e3 : 8 * i + j < 64 := by omega
    rw [e1, e2] at h1
    simpa [e3] using h1.symm
  · have h8 : (2 : Nat) ^ 8 ≤ 2 ^ j := Nat.pow_le_pow_right (by decide) (by omega)
    rw [Nat.testBit_lt_two_pow (Nat.lt_of_lt_of_le (ha i hi) h8), Nat.testBit_lt_two_pow (Nat.lt_of_lt_of_le (hb i hi) h8)]
theorem cnt_u : ∀ k, k < 64 → (((nI k).toInt64.toUInt64 &&& Int64.toUInt64 63).toBitVec % 64).toNat = k := by decide +kernel
theorem cnt_l : ∀ k, k < 64 → (((nI k).toInt64 &&& 63).toBitVec.smod 64).toNat = k := by decide +kernel
theorem sh_u (x : Int64) {k : Nat} (hk : k < 64) : (x.toUInt64 >>> ((nI k).toInt64.toUInt64 &&& Int64.toUInt64 63)).toInt64.toBitVec = x.toBitVec >>> k := by
  show x.toBitVec >>> (((nI k).toInt64.toUInt64 &&& Int64.toUInt64 63).toBitVec % 64).toNat = _
  rw [cnt_u k hk]
theorem sh_l (x : Int64) {k : Nat} (hk : k < 64) : (x <<< ((nI k).toInt64 &&& 63)).toBitVec = x.toBitVec <<< k := by
  show x.toBitVec <<< (((nI k).toInt64 &&& 63).toBitVec.smod 64).toNat = _
  rw [cnt_l k hk]
theorem bv_7 : ∀ j, j < 32 → (nI 7).toBitVec.getLsbD j = decide (j < 3) := by decide +kernel
theorem bv_3 : ∀ j, j < 32 → (nI 3).toBitVec.getLsbD j = decide (j < 2) := by decide +kernel
theorem i32_ext {x y : Int32} (h : ∀ j, j < 32 → x.toBitVec.getLsbD j = y.toBitVec.getLsbD j) : x = y := by
  apply Int32.toBitVec_inj.mp
  exact BitVec.eq_of_getLsbD_eq fun j hj => h j hj
theorem i64_ext {x y : Int64} (h : ∀ j, j < 64 → x.toBitVec.getLsbD j = y.toBitVec.getLsbD j) : x = y := by
  apply Int64.toBitVec_inj.mp
  exact BitVec.eq_of_getLsbD_eq fun j hj => h j hj
theorem nI_bit (n j : Nat) (hj : j < 32) : (nI n).toBitVec.getLsbD j = n.testBit j := by
  show (BitVec.ofNat 32 n).getLsbD j = _
  rw [BitVec.getLsbD_ofNat]
  simp [hj]
theorem lN_bit (n j : Nat) (hj : j < 64) : (lN n).toBitVec.getLsbD j = n.testBit j := by
  show (BitVec.ofNat 64 n).getLsbD j = _
  rw [BitVec.getLsbD_ofNat]
  simp [hj]
theorem l2i_bit (x : Int64) (j : Nat) (hj : j < 32) : x.toInt32.toBitVec.getLsbD j = x.toBitVec.getLsbD j := by
  rw [Int64.toBitVec_toInt32]
  rw [BitVec.getLsbD_signExtend]
  simp [hj, show j < 64 by omega]
theorem enc_corner {b : Nat → Nat} (h : ∀ i, i < 8 → b i < 256) {i : Nat} (hi : i < 8) : ((enc b).toUInt64 >>> ((nI (8 * i)).toInt64.toUInt64 &&& Int64.toUInt64 63)).toInt64.toInt32 &&& nI 7 = nI (b i % 8) := by
  apply i32_ext
  intro j hj
  rw [Int32.toBitVec_and, BitVec.getLsbD_and, l2i_bit _ _ hj, sh_u _ (by omega), BitVec.getLsbD_ushiftRight, enc_bit h, bv_7 j hj, nI_bit _ _ hj, show (8 : Nat) = 2 ^ 3 from rfl, Nat.testBit_mod_two_pow]
  by_cases h3 : j < 3
  · have e1 : (2 ^ 3 * i + j) / 2 ^ 3 = i := by omega
    have e2 : (2 ^ 3 * i + j) % 2 ^ 3 = j := by omega
    have e3 : 2 ^ 3 * i + j < 64 := by omega
    rw [e1, e2]
    simp [h3, e3]
  · simp [h3]
theorem enc_twist {b : Nat → Nat} (h : ∀ i, i < 8 → b i < 32) {i : Nat} (hi : i < 8) : ((enc b).toUInt64 >>> ((nI (8 * i + 3)).toInt64.toUInt64 &&& Int64.toUInt64 63)).toInt64.toInt32 &&& nI 3 = nI (b i / 8) := by
  apply i32_ext
  intro j hj
  rw [Int32.toBitVec_and, BitVec.getLsbD_and, l2i_bit _ _ hj, sh_u _ (by omega), BitVec.getLsbD_ushiftRight, enc_bit (fun i hi => Nat.lt_trans (h i hi) (by decide)), bv_3 j hj, nI_bit _ _ hj, show b i / 8 = b i / 2 ^ 3 from rfl, Nat.testBit_div_two_pow]
  by_cases h3 : j < 2
  · have e1 : (8 * i + 3 + j) / 8 = i := by omega
    have e2 : (8 * i + 3 + j) % 8 = j + 3 := by omega
    have e3 : 8 * i + 3 + j < 64 := by omega
    rw [e1, e2]
    simp [h3, e3]
  · have h8 : (2 : Nat) ^ 5 ≤ 2 ^ (j + 3) := Nat.pow_le_pow_right (by decide) (by omega)
    rw [Nat.testBit_lt_two_pow (Nat.lt_of_lt_of_le (h i hi) h8)]
    simp [h3]
theorem bv_255 : ∀ j, j < 64 → (255 : Int64).toBitVec.getLsbD j = decide (j < 8) := by decide +kernel
theorem bv_m1 : ∀ j, j < 64 → (-1 : Int64).toBitVec.getLsbD j = true := by decide +kernel
theorem enc_with {b : Nat → Nat} (h : ∀ i, i < 8 → b i < 256) {q v : Nat} (hq : q < 8) (hv : v < 256) :
    (enc b &&& (((255 : Int64) <<< ((nI (8 * q)).toInt64 &&& 63)) ^^^ (-1))) ||| (lN v <<< ((nI (8 * q)).toInt64 &&& 63)) = enc (fun i => if i = q then v else b i) := by
  have h' : ∀ i, i < 8 → (if i = q then v else b i) < 256 := by
    intro i hi
    split
    · exact hv
    · exact h i hi
  apply i64_ext
  intro j hj
  rw [Int64.toBitVec_or, BitVec.getLsbD_or, Int64.toBitVec_and, BitVec.getLsbD_and, Int64.toBitVec_xor, BitVec.getLsbD_xor, sh_l _ (by omega), sh_l _ (by omega), BitVec.getLsbD_shiftLeft, BitVec.getLsbD_shiftLeft, enc_bit h, enc_bit h', bv_m1 j hj]
  by_cases h1 : j < 8 * q
  · have e : ¬ j / 8 = q := by omega
    simp [h1, hj, e]
  · rw [bv_255 (j - 8 * q) (by omega), lN_bit v (j - 8 * q) (by omega)]
    by_cases h2 : j - 8 * q < 8
    · have e : j / 8 = q := by omega
      have e2 : j % 8 = j - 8 * q := by omega
      simp [h1, hj, h2, e, e2]
    · have e : ¬ j / 8 = q := by omega
      have h8 : (2 : Nat) ^ 8 ≤ 2 ^ (j - 8 * q) := Nat.pow_le_pow_right (by decide) (by omega)
      rw [Nat.testBit_lt_two_pow (Nat.lt_of_lt_of_le hv h8)]
      simp [h1, hj, h2, e]
theorem enc_one : (506097522914230528 : Int64) = enc (fun i => i) := by decide +kernel
