/-! MY ROWS 28: all ways to put seven corners, looked through -/
theorem en_0_1 : en chk 5 [0, 1] = true := by decide +kernel
theorem en_0_2 : en chk 5 [0, 2] = true := by decide +kernel
theorem en_0_3 : en chk 5 [0, 3] = true := by decide +kernel
theorem en_0_4 : en chk 5 [0, 4] = true := by decide +kernel
theorem en_0_5 : en chk 5 [0, 5] = true := by decide +kernel
theorem en_0_7 : en chk 5 [0, 7] = true := by decide +kernel
theorem en_1_0 : en chk 5 [1, 0] = true := by decide +kernel
theorem en_1_2 : en chk 5 [1, 2] = true := by decide +kernel
theorem en_1_3 : en chk 5 [1, 3] = true := by decide +kernel
theorem en_1_4 : en chk 5 [1, 4] = true := by decide +kernel
theorem en_1_5 : en chk 5 [1, 5] = true := by decide +kernel
theorem en_1_7 : en chk 5 [1, 7] = true := by decide +kernel
theorem en_2_0 : en chk 5 [2, 0] = true := by decide +kernel
theorem en_2_1 : en chk 5 [2, 1] = true := by decide +kernel
theorem en_2_3 : en chk 5 [2, 3] = true := by decide +kernel
theorem en_2_4 : en chk 5 [2, 4] = true := by decide +kernel
theorem en_2_5 : en chk 5 [2, 5] = true := by decide +kernel
theorem en_2_7 : en chk 5 [2, 7] = true := by decide +kernel
theorem en_3_0 : en chk 5 [3, 0] = true := by decide +kernel
theorem en_3_1 : en chk 5 [3, 1] = true := by decide +kernel
theorem en_3_2 : en chk 5 [3, 2] = true := by decide +kernel
theorem en_3_4 : en chk 5 [3, 4] = true := by decide +kernel
theorem en_3_5 : en chk 5 [3, 5] = true := by decide +kernel
theorem en_3_7 : en chk 5 [3, 7] = true := by decide +kernel
theorem en_4_0 : en chk 5 [4, 0] = true := by decide +kernel
theorem en_4_1 : en chk 5 [4, 1] = true := by decide +kernel
theorem en_4_2 : en chk 5 [4, 2] = true := by decide +kernel
theorem en_4_3 : en chk 5 [4, 3] = true := by decide +kernel
theorem en_4_5 : en chk 5 [4, 5] = true := by decide +kernel
theorem en_4_7 : en chk 5 [4, 7] = true := by decide +kernel
theorem en_5_0 : en chk 5 [5, 0] = true := by decide +kernel
theorem en_5_1 : en chk 5 [5, 1] = true := by decide +kernel
theorem en_5_2 : en chk 5 [5, 2] = true := by decide +kernel
theorem en_5_3 : en chk 5 [5, 3] = true := by decide +kernel
theorem en_5_4 : en chk 5 [5, 4] = true := by decide +kernel
theorem en_5_7 : en chk 5 [5, 7] = true := by decide +kernel
theorem en_7_0 : en chk 5 [7, 0] = true := by decide +kernel
theorem en_7_1 : en chk 5 [7, 1] = true := by decide +kernel
theorem en_7_2 : en chk 5 [7, 2] = true := by decide +kernel
theorem en_7_3 : en chk 5 [7, 3] = true := by decide +kernel
theorem en_7_4 : en chk 5 [7, 4] = true := by decide +kernel
theorem en_7_5 : en chk 5 [7, 5] = true := by decide +kernel
theorem en_0 : en chk 6 [0] = true := by
  show [0, 1, 2, 3, 4, 5, 7].all (fun x => [0].contains x || en chk 5 ([0] ++ [x])) = true
  rw [List.all_eq_true]
  intro x hx
  simp only [List.mem_cons, List.not_mem_nil, or_false] at hx
  rcases hx with rfl | rfl | rfl | rfl | rfl | rfl | rfl
  · rfl
  · exact Bool.or_eq_true_iff.mpr (Or.inr en_0_1)
  · exact Bool.or_eq_true_iff.mpr (Or.inr en_0_2)
  · exact Bool.or_eq_true_iff.mpr (Or.inr en_0_3)
  · exact Bool.or_eq_true_iff.mpr (Or.inr en_0_4)
  · exact Bool.or_eq_true_iff.mpr (Or.inr en_0_5)
  · exact Bool.or_eq_true_iff.mpr (Or.inr en_0_7)
theorem en_1 : en chk 6 [1] = true := by
  show [0, 1, 2, 3, 4, 5, 7].all (fun x => [1].contains x || en chk 5 ([1] ++ [x])) = true
  rw [List.all_eq_true]
  intro x hx
  simp only [List.mem_cons, List.not_mem_nil, or_false] at hx
  rcases hx with rfl | rfl | rfl | rfl | rfl | rfl | rfl
  · exact Bool.or_eq_true_iff.mpr (Or.inr en_1_0)
  · rfl
  · exact Bool.or_eq_true_iff.mpr (Or.inr en_1_2)
  · exact Bool.or_eq_true_iff.mpr (Or.inr en_1_3)
  · exact Bool.or_eq_true_iff.mpr (Or.inr en_1_4)
  · exact Bool.or_eq_true_iff.mpr (Or.inr en_1_5)
  · exact Bool.or_eq_true_iff.mpr (Or.inr en_1_7)
theorem en_2 : en chk 6 [2] = true := by
  show [0, 1, 2, 3, 4, 5, 7].all (fun x => [2].contains x || en chk 5 ([2] ++ [x])) = true
  rw [List.all_eq_true]
  intro x hx
  simp only [List.mem_cons, List.not_mem_nil, or_false] at hx
  rcases hx with rfl | rfl | rfl | rfl | rfl | rfl | rfl
  · exact Bool.or_eq_true_iff.mpr (Or.inr en_2_0)
  · exact Bool.or_eq_true_iff.mpr (Or.inr en_2_1)
  · rfl
  · exact Bool.or_eq_true_iff.mpr (Or.inr en_2_3)
  · exact Bool.or_eq_true_iff.mpr (Or.inr en_2_4)
  · exact Bool.or_eq_true_iff.mpr (Or.inr en_2_5)
  · exact Bool.or_eq_true_iff.mpr (Or.inr en_2_7)
theorem en_3 : en chk 6 [3] = true := by
  show [0, 1, 2, 3, 4, 5, 7].all (fun x => [3].contains x || en chk 5 ([3] ++ [x])) = true
  rw [List.all_eq_true]
  intro x hx
  simp only [List.mem_cons, List.not_mem_nil, or_false] at hx
  rcases hx with rfl | rfl | rfl | rfl | rfl | rfl | rfl
  · exact Bool.or_eq_true_iff.mpr (Or.inr en_3_0)
  · exact Bool.or_eq_true_iff.mpr (Or.inr en_3_1)
  · exact Bool.or_eq_true_iff.mpr (Or.inr en_3_2)
  · rfl
  · exact Bool.or_eq_true_iff.mpr (Or.inr en_3_4)
  · exact Bool.or_eq_true_iff.mpr (Or.inr en_3_5)
  · exact Bool.or_eq_true_iff.mpr (Or.inr en_3_7)
theorem en_4 : en chk 6 [4] = true := by
  show [0, 1, 2, 3, 4, 5, 7].all (fun x => [4].contains x || en chk 5 ([4] ++ [x])) = true
  rw [List.all_eq_true]
  intro x hx
  simp only [List.mem_cons, List.not_mem_nil, or_false] at hx
  rcases hx with rfl | rfl | rfl | rfl | rfl | rfl | rfl
  · exact Bool.or_eq_true_iff.mpr (Or.inr en_4_0)
  · exact Bool.or_eq_true_iff.mpr (Or.inr en_4_1)
  · exact Bool.or_eq_true_iff.mpr (Or.inr en_4_2)
  · exact Bool.or_eq_true_iff.mpr (Or.inr en_4_3)
  · rfl
  · exact Bool.or_eq_true_iff.mpr (Or.inr en_4_5)
  · exact Bool.or_eq_true_iff.mpr (Or.inr en_4_7)
theorem en_5 : en chk 6 [5] = true := by
  show [0, 1, 2, 3, 4, 5, 7].all (fun x => [5].contains x || en chk 5 ([5] ++ [x])) = true
  rw [List.all_eq_true]
  intro x hx
  simp only [List.mem_cons, List.not_mem_nil, or_false] at hx
  rcases hx with rfl | rfl | rfl | rfl | rfl | rfl | rfl
  · exact Bool.or_eq_true_iff.mpr (Or.inr en_5_0)
  · exact Bool.or_eq_true_iff.mpr (Or.inr en_5_1)
  · exact Bool.or_eq_true_iff.mpr (Or.inr en_5_2)
  · exact Bool.or_eq_true_iff.mpr (Or.inr en_5_3)
  · exact Bool.or_eq_true_iff.mpr (Or.inr en_5_4)
  · rfl
  · exact Bool.or_eq_true_iff.mpr (Or.inr en_5_7)
theorem en_7 : en chk 6 [7] = true := by
  show [0, 1, 2, 3, 4, 5, 7].all (fun x => [7].contains x || en chk 5 ([7] ++ [x])) = true
  rw [List.all_eq_true]
  intro x hx
  simp only [List.mem_cons, List.not_mem_nil, or_false] at hx
  rcases hx with rfl | rfl | rfl | rfl | rfl | rfl | rfl
  · exact Bool.or_eq_true_iff.mpr (Or.inr en_7_0)
  · exact Bool.or_eq_true_iff.mpr (Or.inr en_7_1)
  · exact Bool.or_eq_true_iff.mpr (Or.inr en_7_2)
  · exact Bool.or_eq_true_iff.mpr (Or.inr en_7_3)
  · exact Bool.or_eq_true_iff.mpr (Or.inr en_7_4)
  · exact Bool.or_eq_true_iff.mpr (Or.inr en_7_5)
  · rfl
theorem en_all : en chk 7 [] = true := by
  show [0, 1, 2, 3, 4, 5, 7].all (fun x => [].contains x || en chk 6 ([] ++ [x])) = true
  rw [List.all_eq_true]
  intro x hx
  simp only [List.mem_cons, List.not_mem_nil, or_false] at hx
  rcases hx with rfl | rfl | rfl | rfl | rfl | rfl | rfl
  · exact Bool.or_eq_true_iff.mpr (Or.inr en_0)
  · exact Bool.or_eq_true_iff.mpr (Or.inr en_1)
  · exact Bool.or_eq_true_iff.mpr (Or.inr en_2)
  · exact Bool.or_eq_true_iff.mpr (Or.inr en_3)
  · exact Bool.or_eq_true_iff.mpr (Or.inr en_4)
  · exact Bool.or_eq_true_iff.mpr (Or.inr en_5)
  · exact Bool.or_eq_true_iff.mpr (Or.inr en_7)
theorem PM.gb2 {b : Nat → Nat} (h : PM b) : GB b := h.gb en_all
