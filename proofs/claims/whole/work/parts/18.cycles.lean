/-! MY ROWS 18: the greatest divisor, and what the reference counts by cycles (laid by a program of mine) -/
set_option maxHeartbeats 4000000 in
set_option maxRecDepth 100000 in
theorem m_divisor (l : Launch) : ∀ (n : Nat) {a b : Nat}, b ≤ n → a < 2 ^ 31 → b < 2 ^ 31 → RV l yX1_divisor wsX1_divisor (n + 1) zNo [.int (nI a), .int (nI b)] (some (.int (nI (Nat.gcd a b)))) := by
  intro n
  induction n with
  | zero =>
    intro a b hbn ha hb
    refine RV.of (cc := cX1_divisor) (maxL := 2) (ret := (some .int)) (by decide) rfl (Nat.le_of_ble_eq_true rfl) ?_
    intro p e s m args below meth c hC hr hlk hB ls hl
    have hl : lv_has ls 2 [(0, .int (nI a)), (1, .int (nI b))] := hl
    refine lv_iload_n hC.1 hC.2.1 dX1_divisor_0 rfl (lv_at hl 1 rfl) ?_
    refine z_if_ne (tgt := 8) hC dX1_divisor_1 (by decide) (by omega) (fun h_1 => by omega) (fun h_1 => ?_)
    refine lv_iload_n hC.1 hC.2.1 dX1_divisor_4 rfl (lv_at hl 0 rfl) ?_
    refine lv_goto (tgt := 15) hC.1 hC.2.1 dX1_divisor_5 (by decide) ?_
    exact RV.iret hC hr hlk dX1_divisor_15 (by rw [h_1, Nat.gcd_zero_right])
  | succ n ih =>
    intro a b hbn ha hb
    refine RV.of (cc := cX1_divisor) (maxL := 2) (ret := (some .int)) (by decide) rfl (Nat.le_of_ble_eq_true rfl) ?_
    intro p e s m args below meth c hC hr hlk hB ls hl
    have hl : lv_has ls 2 [(0, .int (nI a)), (1, .int (nI b))] := hl
    refine lv_iload_n hC.1 hC.2.1 dX1_divisor_0 rfl (lv_at hl 1 rfl) ?_
    refine z_if_ne (tgt := 8) hC dX1_divisor_1 (by decide) (by omega) (fun h_1 => ?_) (fun h_1 => ?_)
    · have hmod : a % b < b := Nat.mod_lt _ (by omega)
      refine lv_iload_n hC.1 hC.2.1 dX1_divisor_8 rfl (lv_at hl 1 rfl) ?_
      refine lv_iload_n hC.1 hC.2.1 dX1_divisor_9 rfl (lv_at hl 0 rfl) ?_
      refine lv_iload_n hC.1 hC.2.1 dX1_divisor_10 rfl (lv_at hl 1 rfl) ?_
      refine z_irem hC dX1_divisor_11 (by omega) (by omega) (by omega) ?_
      refine p_cs (n := 2) (ih (a := b) (b := a % b) (by omega) hb (by omega)) hC gX1_divisor_X1_divisor rfl (by decide +kernel) rfl ⟨by simp only [rD]; omega, by simp only [rD]; omega⟩ ⟨Nat.zero_le _, Nat.zero_le _⟩ hl.1 (Nat.le_of_ble_eq_true rfl) dX1_divisor_12 rfl ?_
      exact RV.iret hC hr hlk dX1_divisor_15 (by rw [Nat.gcd_comm a b, Nat.gcd_rec b a, Nat.gcd_comm])
    · refine lv_iload_n hC.1 hC.2.1 dX1_divisor_4 rfl (lv_at hl 0 rfl) ?_
      refine lv_goto (tgt := 15) hC.1 hC.2.1 dX1_divisor_5 (by decide) ?_
      exact RV.iret hC hr hlk dX1_divisor_15 (by rw [h_1, Nat.gcd_zero_right])

/-- the corner that one comes to from i by k steps, and the twists on the way, and the least place -/
def orb (b : Nat → Nat) (i : Nat) : Nat → Nat
  | 0 => i
  | k + 1 => b (orb b i k) % 8
def tws (b : Nat → Nat) (i : Nat) : Nat → Nat
  | 0 => 0
  | k + 1 => tws b i k + b (orb b i k) / 8
def lst (b : Nat → Nat) (i : Nat) : Nat → Nat
  | 0 => i
  | k + 1 => min (lst b i k) (orb b i k)
theorem orb_lt {b : Nat → Nat} {i : Nat} (hi : i < 8) : ∀ k, orb b i k < 8
  | 0 => hi
  | _ + 1 => Nat.mod_lt _ (by decide)
theorem tws_le {b : Nat → Nat} (hv : Va b) {i : Nat} (hi : i < 8) : ∀ k, tws b i k ≤ 3 * k
  | 0 => Nat.le_refl 0
  | k + 1 => by
    have h1 := tws_le hv hi k
    have h2 := hv _ (orb_lt (b := b) hi k)
    show tws b i k + b (orb b i k) / 8 ≤ 3 * (k + 1)
    omega
theorem lst_lt {b : Nat → Nat} {i : Nat} (hi : i < 8) : ∀ k, lst b i k < 8
  | 0 => hi
  | k + 1 => by
    have h1 := lst_lt (b := b) hi k
    show min (lst b i k) (orb b i k) < 8
    omega
/-- cl i is how many steps lead from i to i -/
def CLs (b : Nat → Nat) (cl : Nat → Nat) : Prop := ∀ i, i < 8 → 0 < cl i ∧ cl i ≤ 8 ∧ orb b i (cl i) = i ∧ ∀ k, 0 < k → k < cl i → ¬ orb b i k = i
def tm (b : Nat → Nat) (cl : Nat → Nat) (i : Nat) : Nat := if tws b i (cl i) % 3 = 0 then cl i else 3 * cl i
def orc (b : Nat → Nat) (cl : Nat → Nat) : Nat → Nat
  | 0 => 1
  | i + 1 => if lst b i (cl i) < i then orc b cl i else orc b cl i / Nat.gcd (orc b cl i) (tm b cl i) * tm b cl i
def odc (b : Nat → Nat) (cl : Nat → Nat) : Nat → Nat
  | 0 => 0
  | i + 1 => if lst b i (cl i) < i then odc b cl i else odc b cl i + (cl i - 1)
theorem dvd_84 : ∀ n, n < 9 → 0 < n → n ∣ 840 ∧ n ∣ 2520 ∧ 3 * n ∣ 2520 := by decide
theorem dvd_840 (n : Nat) (h1 : 0 < n) (h2 : n ≤ 8) : n ∣ 840 ∧ n ∣ 2520 ∧ 3 * n ∣ 2520 := dvd_84 n (by omega) h1
theorem lcm_eq (a t : Nat) : a / Nat.gcd a t * t = Nat.lcm a t := by
  unfold Nat.lcm
  rw [Nat.mul_comm a t, Nat.mul_comm (a / Nat.gcd a t) t]
  exact (Nat.mul_div_assoc t (Nat.gcd_dvd_left a t)).symm
theorem tm_dvd {b : Nat → Nat} {cl : Nat → Nat} (h : CLs b cl) {i : Nat} (hi : i < 8) : tm b cl i ∣ 2520 := by
  unfold tm
  have h1 := dvd_840 (cl i) (h i hi).1 (h i hi).2.1
  split
  · exact h1.2.1
  · exact h1.2.2
theorem tm_rng {b : Nat → Nat} {cl : Nat → Nat} (h : CLs b cl) {i : Nat} (hi : i < 8) : 0 < tm b cl i ∧ tm b cl i ≤ 24 := by
  unfold tm
  have h1 := h i hi
  split <;> omega
theorem orc_dvd {b : Nat → Nat} {cl : Nat → Nat} (h : CLs b cl) : ∀ i, i ≤ 8 → orc b cl i ∣ 2520
  | 0, _ => Nat.one_dvd 2520
  | i + 1, hi => by
    show (if lst b i (cl i) < i then orc b cl i else orc b cl i / Nat.gcd (orc b cl i) (tm b cl i) * tm b cl i) ∣ 2520
    split
    · exact orc_dvd h i (by omega)
    · rw [lcm_eq]; exact Nat.lcm_dvd (orc_dvd h i (by omega)) (tm_dvd h (by omega))
theorem orc_rng {b : Nat → Nat} {cl : Nat → Nat} (h : CLs b cl) {i : Nat} (hi : i ≤ 8) : 0 < orc b cl i ∧ orc b cl i ≤ 2520 := by
  have h1 := orc_dvd h i hi
  exact ⟨Nat.pos_of_dvd_of_pos h1 (by decide), Nat.le_of_dvd (by decide) h1⟩
theorem odc_le {b : Nat → Nat} {cl : Nat → Nat} (h : CLs b cl) : ∀ i, i ≤ 8 → odc b cl i ≤ 8 * i
  | 0, _ => Nat.le_refl 0
  | i + 1, hi => by
    have h1 := odc_le h i (by omega)
    have h2 := (h i (by omega)).2.1
    show (if lst b i (cl i) < i then odc b cl i else odc b cl i + (cl i - 1)) ≤ _
    split <;> omega
theorem min_nI {x y : Nat} (hx : x < 2 ^ 31) (hy : y < 2 ^ 31) : (if nI y < nI x then nI y else nI x) = nI (min x y) := by
  by_cases h : y < x
  · rw [if_pos (nI_lt h hx), Nat.min_eq_right (by omega)]
  · rw [if_neg (nI_nlt (by omega) hy), Nat.min_eq_left (by omega)]

set_option maxHeartbeats 4000000 in
set_option maxRecDepth 100000 in
theorem m_byCycles (l : Launch) {D : va_G} {T : ClassId × ClassId × ClassId} {z0 : Nat} {L : List Nat} {f : Nat → va_E} {b : Nat → Nat} {x1 : Nat} {g1 : Nat → Int32} (hm1 : x1 ∈ L) (he1 : f x1 = eI T.1 16 g1) (hr1 : Rp g1 b) (hv : Va b) {cl : Nat → Nat} (hcl : CLs b cl) {fl : Nat} (hfl : fl < 2) : RV l yX1_byCycles wsX1_byCycles (30) (zPre D T z0 L f) [.ref x1, .int (nI fl)] (some (.int (nI (if fl = 1 then odc b cl 8 % 2 else orc b cl 8)))) := by
  refine RV.of (cc := cX1_byCycles) (maxL := 10) (ret := (some .int)) (by decide) rfl (Nat.le_of_ble_eq_true rfl) ?_
  intro p e s m args below meth c hC hr hlk hB ls hl
  have hl : lv_has ls 10 [(0, .ref x1), (1, .int (nI fl))] := hl
  obtain ⟨hE, hP, hD⟩ := hB
  have hS : va_S (zA z0) s.heap s.heap [] := va_S.rf
  have outer : ∀ (n i : Nat), i + n = 8 → ∀ ls : Array Slot, lv_has ls 10 [(0, .ref x1), (1, .int (nI fl)), (2, .int (nI (orc b cl i))), (3, .int (nI (odc b cl i))), (4, .int (nI i))] → W p l e (rD (30) 0 0) s m args below meth c s.heap [] 0 0 (MQ below (RVQ (some (.int (nI (if fl = 1 then odc b cl 8 % 2 else orc b cl 8))))) args s 0 0 (fun _ => False)) (F0 m 7 ls []) := by
    intro n
    induction n with
    | zero =>
      intro i hc0 ls hl
      obtain rfl : i = 8 := by omega
      have hod := odc_le hcl 8 (Nat.le_refl 8)
      refine lv_iload hC.1 hC.2.1 dX1_byCycles_7 (lv_at hl 4 rfl) ?_
      refine lv_bipush (v := (nI 8)) hC.1 hC.2.1 dX1_byCycles_9 (by decide) ?_
      refine z_icmp_ge (tgt := 118) hC dX1_byCycles_11 (by decide) (by omega) (by omega) (fun h_11 => ?_) (fun h_11 => by omega)
      refine lv_iload_n hC.1 hC.2.1 dX1_byCycles_118 rfl (lv_at hl 1 rfl) ?_
      refine z_if_eq (tgt := 128) hC dX1_byCycles_119 (by decide) (by omega) (fun h_119 => ?_) (fun h_119 => ?_)
      · refine lv_iload_n hC.1 hC.2.1 dX1_byCycles_128 rfl (lv_at hl 2 rfl) ?_
        exact RV.iret hC hr hlk dX1_byCycles_129 (by rw [if_neg (by omega)])
      · refine lv_iload_n hC.1 hC.2.1 dX1_byCycles_122 rfl (lv_at hl 3 rfl) ?_
        refine lv_iconst (v := (nI 2)) hC.1 hC.2.1 dX1_byCycles_123 (by decide) ?_
        refine z_irem hC dX1_byCycles_124 (by omega) (by decide) (by decide) ?_
        refine lv_goto (tgt := 129) hC.1 hC.2.1 dX1_byCycles_125 (by decide) ?_
        exact RV.iret hC hr hlk dX1_byCycles_129 (by rw [if_pos (by omega)])
    | succ n ih =>
      intro i hc0 ls hl
      have hi8 : i < 8 := by omega
      obtain ⟨hc1, hc2, hc3, hc4⟩ := hcl i hi8
      have inner : ∀ (n2 k : Nat), k + 1 + n2 = cl i → ∀ ls : Array Slot, lv_has ls 10 [(0, .ref x1), (1, .int (nI fl)), (2, .int (nI (orc b cl i))), (3, .int (nI (odc b cl i))), (4, .int (nI i)), (5, .int (nI k)), (6, .int (nI (tws b i k))), (7, .int (nI (lst b i k))), (8, .int (nI (orb b i k)))] → W p l e (rD (30) 0 0) s m args below meth c s.heap [] 0 0 (MQ below (RVQ (some (.int (nI (if fl = 1 then odc b cl 8 % 2 else orc b cl 8))))) args s 0 0 (fun _ => False)) (F0 m 28 ls []) := by
        intro n2
        induction n2 with
        | zero =>
          intro k hk ls hl
          have ho8 := orb_lt (b := b) hi8 k
          have hl8 := lst_lt (b := b) hi8 k
          have htw := tws_le hv hi8 k
          have hob := hv _ ho8
          have hk1 : k + 1 = cl i := by omega
          have ho1 : orb b i (k + 1) = i := by rw [hk1]; exact hc3
          have hl1 := lst_lt (b := b) hi8 (k + 1)
          have htw1 := tws_le hv hi8 (k + 1)
          have hor := orc_rng hcl (by omega : i ≤ 8)
          have htm := tm_rng hcl hi8
          refine lv_iload hC.1 hC.2.1 dX1_byCycles_28 (lv_at hl 7 rfl) ?_
          refine lv_iload hC.1 hC.2.1 dX1_byCycles_30 (lv_at hl 8 rfl) ?_
          refine va_mmin hC.1 hC.2.1 (hC.2.2.1.trans hl.1.symm) hC.2.2.2.1 (hC.2.2.2.2 (.methodLink RX1 69 Lib.Math.min.name) (by decide +kernel)) (hC.2.2.2.2 _ (by decide +kernel)) (hC.2.2.2.2 _ (by decide +kernel)) (hC.2.2.2.2 _ (by decide +kernel)) (by simp only [rD]; omega) (by show 0 + 13 ≤ _; simp only [rD]; omega) (Nat.zero_le _) (Nat.zero_le _) dX1_byCycles_32 ?_
          refine q_i (nI (lst b i (k + 1))) (min_nI (by omega) (by omega)) ?_
          refine lv_istore (lv' := [(7, .int (nI (lst b i (k + 1)))), (0, .ref x1), (1, .int (nI fl)), (2, .int (nI (orc b cl i))), (3, .int (nI (odc b cl i))), (4, .int (nI i)), (5, .int (nI k)), (6, .int (nI (tws b i k))), (8, .int (nI (orb b i k)))]) hC.1 hC.2.1 dX1_byCycles_35 hl (by decide) rfl (fun ls hl => ?_)
          refine lv_iload hC.1 hC.2.1 dX1_byCycles_37 (lv_at hl 7 rfl) ?_
          refine lv_aload_n hC.1 hC.2.1 dX1_byCycles_39 rfl (lv_at hl 1 rfl) ?_
          refine lv_bipush (v := (nI 8)) hC.1 hC.2.1 dX1_byCycles_40 (by decide) ?_
          refine lv_iload hC.1 hC.2.1 dX1_byCycles_42 (lv_at hl 8 rfl) ?_
          refine z_iadd hC dX1_byCycles_44 ?_
          refine p_iald hC hE hP hm1 he1 (by omega) (by decide) dX1_byCycles_45 ?_
          refine q_i (nI (b (orb b i k) / 8)) ((hr1 _ (by omega)).2) ?_
          refine z_iadd hC dX1_byCycles_46 ?_
          refine lv_istore (lv' := [(6, .int (nI ((tws b i k) + (b (orb b i k) / 8)))), (7, .int (nI (lst b i (k + 1)))), (0, .ref x1), (1, .int (nI fl)), (2, .int (nI (orc b cl i))), (3, .int (nI (odc b cl i))), (4, .int (nI i)), (5, .int (nI k)), (8, .int (nI (orb b i k)))]) hC.1 hC.2.1 dX1_byCycles_47 hl (by decide) rfl (fun ls hl => ?_)
          refine lv_iinc (v := nI (k + 1)) (lv' := [(5, .int (nI (k + 1))), (6, .int (nI ((tws b i k) + (b (orb b i k) / 8)))), (7, .int (nI (lst b i (k + 1)))), (0, .ref x1), (1, .int (nI fl)), (2, .int (nI (orc b cl i))), (3, .int (nI (odc b cl i))), (4, .int (nI i)), (8, .int (nI (orb b i k)))]) hC.1 hC.2.1 dX1_byCycles_49 hl (k := 7) rfl (z_inc _) (by decide) rfl (fun ls hl => ?_)
          refine lv_aload_n hC.1 hC.2.1 dX1_byCycles_52 rfl (lv_at hl 3 rfl) ?_
          refine lv_iload hC.1 hC.2.1 dX1_byCycles_53 (lv_at hl 8 rfl) ?_
          refine p_iald hC hE hP hm1 he1 (by omega) (by decide) dX1_byCycles_55 ?_
          refine q_i (nI (b (orb b i k) % 8)) ((hr1 _ (by omega)).1) ?_
          refine lv_istore (lv' := [(8, .int (nI (b (orb b i k) % 8))), (5, .int (nI (k + 1))), (6, .int (nI ((tws b i k) + (b (orb b i k) / 8)))), (7, .int (nI (lst b i (k + 1)))), (0, .ref x1), (1, .int (nI fl)), (2, .int (nI (orc b cl i))), (3, .int (nI (odc b cl i))), (4, .int (nI i))]) hC.1 hC.2.1 dX1_byCycles_56 hl (by decide) rfl (fun ls hl => ?_)
          have hl : lv_has ls 10 [(8, .int (nI (orb b i (k + 1)))), (5, .int (nI (k + 1))), (6, .int (nI (tws b i (k + 1)))), (7, .int (nI (lst b i (k + 1)))), (0, .ref x1), (1, .int (nI fl)), (2, .int (nI (orc b cl i))), (3, .int (nI (odc b cl i))), (4, .int (nI i))] := hl
          refine lv_iload hC.1 hC.2.1 dX1_byCycles_58 (lv_at hl 0 rfl) ?_
          refine lv_iload hC.1 hC.2.1 dX1_byCycles_60 (lv_at hl 8 rfl) ?_
          refine z_icmp_ne (tgt := 28) hC dX1_byCycles_62 (by decide) (by omega) (by omega) (fun h_62 => absurd ho1 h_62) (fun h_62 => ?_)
          refine lv_iload hC.1 hC.2.1 dX1_byCycles_65 (lv_at hl 3 rfl) ?_
          refine lv_iload hC.1 hC.2.1 dX1_byCycles_67 (lv_at hl 8 rfl) ?_
          refine z_icmp_ge (tgt := 75) hC dX1_byCycles_69 (by decide) (by omega) (by omega) (fun h_69 => ?_) (fun h_69 => ?_)
          · refine lv_iload hC.1 hC.2.1 dX1_byCycles_75 (lv_at hl 2 rfl) ?_
            refine lv_iconst (v := (nI 3)) hC.1 hC.2.1 dX1_byCycles_77 (by decide) ?_
            refine z_irem hC dX1_byCycles_78 (by omega) (by decide) (by decide) ?_
            refine z_if_ne (tgt := 87) hC dX1_byCycles_79 (by decide) (by omega) (fun h_79 => ?_) (fun h_79 => ?_)
            · refine lv_iconst (v := (nI 3)) hC.1 hC.2.1 dX1_byCycles_87 (by decide) ?_
              refine lv_iload hC.1 hC.2.1 dX1_byCycles_88 (lv_at hl 1 rfl) ?_
              refine z_imul hC dX1_byCycles_90 ?_
              refine lv_istore (lv' := [(9, .int (nI (3 * (k + 1)))), (8, .int (nI (orb b i (k + 1)))), (5, .int (nI (k + 1))), (6, .int (nI (tws b i (k + 1)))), (7, .int (nI (lst b i (k + 1)))), (0, .ref x1), (1, .int (nI fl)), (2, .int (nI (orc b cl i))), (3, .int (nI (odc b cl i))), (4, .int (nI i))]) hC.1 hC.2.1 dX1_byCycles_91 hl (by decide) rfl (fun ls hl => ?_)
              refine lv_iload_n hC.1 hC.2.1 dX1_byCycles_93 rfl (lv_at hl 7 rfl) ?_
              refine lv_iload_n hC.1 hC.2.1 dX1_byCycles_94 rfl (lv_at hl 7 rfl) ?_
              refine lv_iload hC.1 hC.2.1 dX1_byCycles_95 (lv_at hl 0 rfl) ?_
              refine p_cs (n := 2) (m_divisor l 24 (a := orc b cl i) (b := 3 * (k + 1)) (by omega) (by omega) (by omega)) hC gX1_byCycles_X1_divisor rfl (by decide +kernel) rfl ⟨by simp only [rD]; omega, by simp only [rD]; omega⟩ ⟨Nat.zero_le _, Nat.zero_le _⟩ hl.1 (Nat.le_of_ble_eq_true rfl) dX1_byCycles_97 rfl ?_
              refine z_idiv hC dX1_byCycles_100 (by omega) (Nat.gcd_pos_of_pos_left _ hor.1) (Nat.lt_of_le_of_lt (Nat.le_of_dvd hor.1 (Nat.gcd_dvd_left _ _)) (by omega)) ?_
              refine lv_iload hC.1 hC.2.1 dX1_byCycles_101 (lv_at hl 0 rfl) ?_
              refine z_imul hC dX1_byCycles_103 ?_
              refine lv_istore_n (lv' := [(2, .int (nI (((orc b cl i) / (Nat.gcd (orc b cl i) (3 * (k + 1)))) * (3 * (k + 1))))), (9, .int (nI (3 * (k + 1)))), (8, .int (nI (orb b i (k + 1)))), (5, .int (nI (k + 1))), (6, .int (nI (tws b i (k + 1)))), (7, .int (nI (lst b i (k + 1)))), (0, .ref x1), (1, .int (nI fl)), (3, .int (nI (odc b cl i))), (4, .int (nI i))]) hC.1 hC.2.1 dX1_byCycles_104 rfl hl (by decide) rfl (fun ls hl => ?_)
              refine lv_iload_n hC.1 hC.2.1 dX1_byCycles_105 rfl (lv_at hl 8 rfl) ?_
              refine lv_iload hC.1 hC.2.1 dX1_byCycles_106 (lv_at hl 3 rfl) ?_
              refine lv_iconst (v := (nI 1)) hC.1 hC.2.1 dX1_byCycles_108 (by decide) ?_
              refine z_isub hC dX1_byCycles_109 (by omega) ?_
              refine z_iadd hC dX1_byCycles_110 ?_
              refine lv_istore_n (lv' := [(3, .int (nI ((odc b cl i) + ((k + 1) - 1)))), (2, .int (nI (((orc b cl i) / (Nat.gcd (orc b cl i) (3 * (k + 1)))) * (3 * (k + 1))))), (9, .int (nI (3 * (k + 1)))), (8, .int (nI (orb b i (k + 1)))), (5, .int (nI (k + 1))), (6, .int (nI (tws b i (k + 1)))), (7, .int (nI (lst b i (k + 1)))), (0, .ref x1), (1, .int (nI fl)), (4, .int (nI i))]) hC.1 hC.2.1 dX1_byCycles_111 rfl hl (by decide) rfl (fun ls hl => ?_)
              refine lv_iinc (v := nI (i + 1)) (lv' := [(4, .int (nI (i + 1))), (3, .int (nI ((odc b cl i) + ((k + 1) - 1)))), (2, .int (nI (((orc b cl i) / (Nat.gcd (orc b cl i) (3 * (k + 1)))) * (3 * (k + 1))))), (9, .int (nI (3 * (k + 1)))), (8, .int (nI (orb b i (k + 1)))), (5, .int (nI (k + 1))), (6, .int (nI (tws b i (k + 1)))), (7, .int (nI (lst b i (k + 1)))), (0, .ref x1), (1, .int (nI fl))]) hC.1 hC.2.1 dX1_byCycles_112 hl (k := 9) rfl (z_inc _) (by decide) rfl (fun ls hl => ?_)
              refine lv_goto (tgt := 7) hC.1 hC.2.1 dX1_byCycles_115 (by decide) ?_
              have e9 : orc b cl (i + 1) = orc b cl i / Nat.gcd (orc b cl i) (3 * (k + 1)) * (3 * (k + 1)) ∧ odc b cl (i + 1) = odc b cl i + (k + 1 - 1) := by have e8 : tm b cl i = 3 * (k + 1) := (show (if tws b i (cl i) % 3 = 0 then cl i else 3 * cl i) = _ from by rw [← hk1, if_neg h_79]); exact ⟨(if_neg (by rw [← hk1]; omega)).trans (by rw [e8]), (if_neg (by rw [← hk1]; omega)).trans (by rw [hk1])⟩
              exact ih (i + 1) (by omega) ls (by rw [e9.1, e9.2]; exact (lv_sub hl [8, 9, 2, 1, 0] rfl))
            · refine lv_iload hC.1 hC.2.1 dX1_byCycles_82 (lv_at hl 1 rfl) ?_
              refine lv_goto (tgt := 91) hC.1 hC.2.1 dX1_byCycles_84 (by decide) ?_
              refine lv_istore (lv' := [(9, .int (nI (k + 1))), (8, .int (nI (orb b i (k + 1)))), (5, .int (nI (k + 1))), (6, .int (nI (tws b i (k + 1)))), (7, .int (nI (lst b i (k + 1)))), (0, .ref x1), (1, .int (nI fl)), (2, .int (nI (orc b cl i))), (3, .int (nI (odc b cl i))), (4, .int (nI i))]) hC.1 hC.2.1 dX1_byCycles_91 hl (by decide) rfl (fun ls hl => ?_)
              refine lv_iload_n hC.1 hC.2.1 dX1_byCycles_93 rfl (lv_at hl 7 rfl) ?_
              refine lv_iload_n hC.1 hC.2.1 dX1_byCycles_94 rfl (lv_at hl 7 rfl) ?_
              refine lv_iload hC.1 hC.2.1 dX1_byCycles_95 (lv_at hl 0 rfl) ?_
              refine p_cs (n := 2) (m_divisor l 24 (a := orc b cl i) (b := k + 1) (by omega) (by omega) (by omega)) hC gX1_byCycles_X1_divisor rfl (by decide +kernel) rfl ⟨by simp only [rD]; omega, by simp only [rD]; omega⟩ ⟨Nat.zero_le _, Nat.zero_le _⟩ hl.1 (Nat.le_of_ble_eq_true rfl) dX1_byCycles_97 rfl ?_
              refine z_idiv hC dX1_byCycles_100 (by omega) (Nat.gcd_pos_of_pos_left _ hor.1) (Nat.lt_of_le_of_lt (Nat.le_of_dvd hor.1 (Nat.gcd_dvd_left _ _)) (by omega)) ?_
              refine lv_iload hC.1 hC.2.1 dX1_byCycles_101 (lv_at hl 0 rfl) ?_
              refine z_imul hC dX1_byCycles_103 ?_
              refine lv_istore_n (lv' := [(2, .int (nI (((orc b cl i) / (Nat.gcd (orc b cl i) (k + 1))) * (k + 1)))), (9, .int (nI (k + 1))), (8, .int (nI (orb b i (k + 1)))), (5, .int (nI (k + 1))), (6, .int (nI (tws b i (k + 1)))), (7, .int (nI (lst b i (k + 1)))), (0, .ref x1), (1, .int (nI fl)), (3, .int (nI (odc b cl i))), (4, .int (nI i))]) hC.1 hC.2.1 dX1_byCycles_104 rfl hl (by decide) rfl (fun ls hl => ?_)
              refine lv_iload_n hC.1 hC.2.1 dX1_byCycles_105 rfl (lv_at hl 8 rfl) ?_
              refine lv_iload hC.1 hC.2.1 dX1_byCycles_106 (lv_at hl 3 rfl) ?_
              refine lv_iconst (v := (nI 1)) hC.1 hC.2.1 dX1_byCycles_108 (by decide) ?_
              refine z_isub hC dX1_byCycles_109 (by omega) ?_
              refine z_iadd hC dX1_byCycles_110 ?_
              refine lv_istore_n (lv' := [(3, .int (nI ((odc b cl i) + ((k + 1) - 1)))), (2, .int (nI (((orc b cl i) / (Nat.gcd (orc b cl i) (k + 1))) * (k + 1)))), (9, .int (nI (k + 1))), (8, .int (nI (orb b i (k + 1)))), (5, .int (nI (k + 1))), (6, .int (nI (tws b i (k + 1)))), (7, .int (nI (lst b i (k + 1)))), (0, .ref x1), (1, .int (nI fl)), (4, .int (nI i))]) hC.1 hC.2.1 dX1_byCycles_111 rfl hl (by decide) rfl (fun ls hl => ?_)
              refine lv_iinc (v := nI (i + 1)) (lv' := [(4, .int (nI (i + 1))), (3, .int (nI ((odc b cl i) + ((k + 1) - 1)))), (2, .int (nI (((orc b cl i) / (Nat.gcd (orc b cl i) (k + 1))) * (k + 1)))), (9, .int (nI (k + 1))), (8, .int (nI (orb b i (k + 1)))), (5, .int (nI (k + 1))), (6, .int (nI (tws b i (k + 1)))), (7, .int (nI (lst b i (k + 1)))), (0, .ref x1), (1, .int (nI fl))]) hC.1 hC.2.1 dX1_byCycles_112 hl (k := 9) rfl (z_inc _) (by decide) rfl (fun ls hl => ?_)
              refine lv_goto (tgt := 7) hC.1 hC.2.1 dX1_byCycles_115 (by decide) ?_
              have e9 : orc b cl (i + 1) = orc b cl i / Nat.gcd (orc b cl i) (k + 1) * (k + 1) ∧ odc b cl (i + 1) = odc b cl i + (k + 1 - 1) := by have e8 : tm b cl i = k + 1 := (show (if tws b i (cl i) % 3 = 0 then cl i else 3 * cl i) = _ from by rw [← hk1, if_pos h_79]); exact ⟨(if_neg (by rw [← hk1]; omega)).trans (by rw [e8]), (if_neg (by rw [← hk1]; omega)).trans (by rw [hk1])⟩
              exact ih (i + 1) (by omega) ls (by rw [e9.1, e9.2]; exact (lv_sub hl [8, 9, 2, 1, 0] rfl))
          · refine lv_goto (tgt := 112) hC.1 hC.2.1 dX1_byCycles_72 (by decide) ?_
            refine lv_iinc (v := nI (i + 1)) (lv' := [(4, .int (nI (i + 1))), (8, .int (nI (orb b i (k + 1)))), (5, .int (nI (k + 1))), (6, .int (nI (tws b i (k + 1)))), (7, .int (nI (lst b i (k + 1)))), (0, .ref x1), (1, .int (nI fl)), (2, .int (nI (orc b cl i))), (3, .int (nI (odc b cl i)))]) hC.1 hC.2.1 dX1_byCycles_112 hl (k := 8) rfl (z_inc _) (by decide) rfl (fun ls hl => ?_)
            refine lv_goto (tgt := 7) hC.1 hC.2.1 dX1_byCycles_115 (by decide) ?_
            have e9 : orc b cl (i + 1) = orc b cl i ∧ odc b cl (i + 1) = odc b cl i := ⟨if_pos (by rw [← hk1]; exact h_69), if_pos (by rw [← hk1]; exact h_69)⟩
            exact ih (i + 1) (by omega) ls (by rw [e9.1, e9.2]; exact (lv_sub hl [5, 6, 7, 8, 0] rfl))
        | succ n2 ih2 =>
          intro k hk ls hl
          have ho8 := orb_lt (b := b) hi8 k
          have hl8 := lst_lt (b := b) hi8 k
          have htw := tws_le hv hi8 k
          have hob := hv _ ho8
          have ho1 := hc4 (k + 1) (by omega) (by omega)
          have ho2 := orb_lt (b := b) hi8 (k + 1)
          refine lv_iload hC.1 hC.2.1 dX1_byCycles_28 (lv_at hl 7 rfl) ?_
          refine lv_iload hC.1 hC.2.1 dX1_byCycles_30 (lv_at hl 8 rfl) ?_
          refine va_mmin hC.1 hC.2.1 (hC.2.2.1.trans hl.1.symm) hC.2.2.2.1 (hC.2.2.2.2 (.methodLink RX1 69 Lib.Math.min.name) (by decide +kernel)) (hC.2.2.2.2 _ (by decide +kernel)) (hC.2.2.2.2 _ (by decide +kernel)) (hC.2.2.2.2 _ (by decide +kernel)) (by simp only [rD]; omega) (by show 0 + 13 ≤ _; simp only [rD]; omega) (Nat.zero_le _) (Nat.zero_le _) dX1_byCycles_32 ?_
          refine q_i (nI (lst b i (k + 1))) (min_nI (by omega) (by omega)) ?_
          refine lv_istore (lv' := [(7, .int (nI (lst b i (k + 1)))), (0, .ref x1), (1, .int (nI fl)), (2, .int (nI (orc b cl i))), (3, .int (nI (odc b cl i))), (4, .int (nI i)), (5, .int (nI k)), (6, .int (nI (tws b i k))), (8, .int (nI (orb b i k)))]) hC.1 hC.2.1 dX1_byCycles_35 hl (by decide) rfl (fun ls hl => ?_)
          refine lv_iload hC.1 hC.2.1 dX1_byCycles_37 (lv_at hl 7 rfl) ?_
          refine lv_aload_n hC.1 hC.2.1 dX1_byCycles_39 rfl (lv_at hl 1 rfl) ?_
          refine lv_bipush (v := (nI 8)) hC.1 hC.2.1 dX1_byCycles_40 (by decide) ?_
          refine lv_iload hC.1 hC.2.1 dX1_byCycles_42 (lv_at hl 8 rfl) ?_
          refine z_iadd hC dX1_byCycles_44 ?_
          refine p_iald hC hE hP hm1 he1 (by omega) (by decide) dX1_byCycles_45 ?_
          refine q_i (nI (b (orb b i k) / 8)) ((hr1 _ (by omega)).2) ?_
          refine z_iadd hC dX1_byCycles_46 ?_
          refine lv_istore (lv' := [(6, .int (nI ((tws b i k) + (b (orb b i k) / 8)))), (7, .int (nI (lst b i (k + 1)))), (0, .ref x1), (1, .int (nI fl)), (2, .int (nI (orc b cl i))), (3, .int (nI (odc b cl i))), (4, .int (nI i)), (5, .int (nI k)), (8, .int (nI (orb b i k)))]) hC.1 hC.2.1 dX1_byCycles_47 hl (by decide) rfl (fun ls hl => ?_)
          refine lv_iinc (v := nI (k + 1)) (lv' := [(5, .int (nI (k + 1))), (6, .int (nI ((tws b i k) + (b (orb b i k) / 8)))), (7, .int (nI (lst b i (k + 1)))), (0, .ref x1), (1, .int (nI fl)), (2, .int (nI (orc b cl i))), (3, .int (nI (odc b cl i))), (4, .int (nI i)), (8, .int (nI (orb b i k)))]) hC.1 hC.2.1 dX1_byCycles_49 hl (k := 7) rfl (z_inc _) (by decide) rfl (fun ls hl => ?_)
          refine lv_aload_n hC.1 hC.2.1 dX1_byCycles_52 rfl (lv_at hl 3 rfl) ?_
          refine lv_iload hC.1 hC.2.1 dX1_byCycles_53 (lv_at hl 8 rfl) ?_
          refine p_iald hC hE hP hm1 he1 (by omega) (by decide) dX1_byCycles_55 ?_
          refine q_i (nI (b (orb b i k) % 8)) ((hr1 _ (by omega)).1) ?_
          refine lv_istore (lv' := [(8, .int (nI (b (orb b i k) % 8))), (5, .int (nI (k + 1))), (6, .int (nI ((tws b i k) + (b (orb b i k) / 8)))), (7, .int (nI (lst b i (k + 1)))), (0, .ref x1), (1, .int (nI fl)), (2, .int (nI (orc b cl i))), (3, .int (nI (odc b cl i))), (4, .int (nI i))]) hC.1 hC.2.1 dX1_byCycles_56 hl (by decide) rfl (fun ls hl => ?_)
          have hl : lv_has ls 10 [(8, .int (nI (orb b i (k + 1)))), (5, .int (nI (k + 1))), (6, .int (nI (tws b i (k + 1)))), (7, .int (nI (lst b i (k + 1)))), (0, .ref x1), (1, .int (nI fl)), (2, .int (nI (orc b cl i))), (3, .int (nI (odc b cl i))), (4, .int (nI i))] := hl
          refine lv_iload hC.1 hC.2.1 dX1_byCycles_58 (lv_at hl 0 rfl) ?_
          refine lv_iload hC.1 hC.2.1 dX1_byCycles_60 (lv_at hl 8 rfl) ?_
          refine z_icmp_ne (tgt := 28) hC dX1_byCycles_62 (by decide) (by omega) (by omega) (fun h_62 => ?_) (fun h_62 => absurd h_62 ho1)
          exact ih2 (k + 1) (by omega) ls (lv_sub hl [4, 5, 6, 7, 8, 1, 2, 3, 0] rfl)
      refine lv_iload hC.1 hC.2.1 dX1_byCycles_7 (lv_at hl 4 rfl) ?_
      refine lv_bipush (v := (nI 8)) hC.1 hC.2.1 dX1_byCycles_9 (by decide) ?_
      refine z_icmp_ge (tgt := 118) hC dX1_byCycles_11 (by decide) (by omega) (by omega) (fun h_11 => by omega) (fun h_11 => ?_)
      refine lv_iconst (v := (nI 0)) hC.1 hC.2.1 dX1_byCycles_14 (by decide) ?_
      refine lv_istore (lv' := [(5, .int (nI 0)), (0, .ref x1), (1, .int (nI fl)), (2, .int (nI (orc b cl i))), (3, .int (nI (odc b cl i))), (4, .int (nI i))]) hC.1 hC.2.1 dX1_byCycles_15 hl (by decide) rfl (fun ls hl => ?_)
      refine lv_iconst (v := (nI 0)) hC.1 hC.2.1 dX1_byCycles_17 (by decide) ?_
      refine lv_istore (lv' := [(6, .int (nI 0)), (5, .int (nI 0)), (0, .ref x1), (1, .int (nI fl)), (2, .int (nI (orc b cl i))), (3, .int (nI (odc b cl i))), (4, .int (nI i))]) hC.1 hC.2.1 dX1_byCycles_18 hl (by decide) rfl (fun ls hl => ?_)
      refine lv_iload hC.1 hC.2.1 dX1_byCycles_20 (lv_at hl 6 rfl) ?_
      refine lv_istore (lv' := [(7, .int (nI i)), (6, .int (nI 0)), (5, .int (nI 0)), (0, .ref x1), (1, .int (nI fl)), (2, .int (nI (orc b cl i))), (3, .int (nI (odc b cl i))), (4, .int (nI i))]) hC.1 hC.2.1 dX1_byCycles_22 hl (by decide) rfl (fun ls hl => ?_)
      refine lv_iload hC.1 hC.2.1 dX1_byCycles_24 (lv_at hl 7 rfl) ?_
      refine lv_istore (lv' := [(8, .int (nI i)), (7, .int (nI i)), (6, .int (nI 0)), (5, .int (nI 0)), (0, .ref x1), (1, .int (nI fl)), (2, .int (nI (orc b cl i))), (3, .int (nI (odc b cl i))), (4, .int (nI i))]) hC.1 hC.2.1 dX1_byCycles_26 hl (by decide) rfl (fun ls hl => ?_)
      exact inner (cl i - 1) 0 (by omega) ls (lv_sub hl [4, 5, 6, 7, 8, 3, 2, 1, 0] rfl)
  refine lv_iconst (v := (nI 1)) hC.1 hC.2.1 dX1_byCycles_0 (by decide) ?_
  refine lv_istore_n (lv' := [(2, .int (nI 1)), (0, .ref x1), (1, .int (nI fl))]) hC.1 hC.2.1 dX1_byCycles_1 rfl hl (by decide) rfl (fun ls hl => ?_)
  refine lv_iconst (v := (nI 0)) hC.1 hC.2.1 dX1_byCycles_2 (by decide) ?_
  refine lv_istore_n (lv' := [(3, .int (nI 0)), (2, .int (nI 1)), (0, .ref x1), (1, .int (nI fl))]) hC.1 hC.2.1 dX1_byCycles_3 rfl hl (by decide) rfl (fun ls hl => ?_)
  refine lv_iconst (v := (nI 0)) hC.1 hC.2.1 dX1_byCycles_4 (by decide) ?_
  refine lv_istore (lv' := [(4, .int (nI 0)), (3, .int (nI 0)), (2, .int (nI 1)), (0, .ref x1), (1, .int (nI fl))]) hC.1 hC.2.1 dX1_byCycles_5 hl (by decide) rfl (fun ls hl => ?_)
  exact outer 8 0 rfl ls (lv_sub hl [3, 4, 2, 1, 0] rfl)
