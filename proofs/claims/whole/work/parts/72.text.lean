/-! A TEXT is read -/
def fn_co (T : Nat → Int32) (b j : Nat) : Int32 := if j < b then T j else -1
theorem fn_co_congr {T U : Nat → Int32} {b : Nat} (h : ∀ j, j < b → T j = U j) : fn_co T b = fn_co U b := by
  funext j
  unfold fn_co
  by_cases hj : j < b
  · rw [if_pos hj, if_pos hj, h j hj]
  · rw [if_neg hj, if_neg hj]
theorem ev_co (σ : sg_M) (b j : Nat) (hb : b ≤ 60) (hj : j ≤ 1000) (hl : σ 10 1 = nI b) : sg_ev 37 σ [sg_r 4 10, sg_i (nI j)] = some (some (sg_i (fn_co (σ 11) b j)), σ) := by
  unfold fn_co
  have e := sg_below (x := nI j) (N := b) (by omega)
  by_cases h : j < b
  · have i1 : sg_in (nI j) 60 = true := sg_in_nI (by omega) (by omega)
    have hh := e.mpr ⟨j, h, rfl⟩
    simp (decide := true) only [me_37, mq_37_0, mq_37_1, mq_37_2, mq_37_3, mq_37_6, mq_37_7, mq_37_8, mq_37_11, mq_37_14, mq_37_15, mq_37_18, mq_37_19, mq_37_20, mq_37_23, mq_37_24, ev_within, hl, hh, h, i1, sg_nIc (show j < 2 ^ 31 by omega), Nat.reduceAdd, Nat.reduceMul, Nat.reduceSub, Nat.zero_add, sg_bi_i, sg_bi_n, sg_bz, sg_bb, sg_b_0, sg_b_1, if_true, if_false, not_true_eq_false, not_false_eq_true, true_and, and_true, false_and, and_false, and_self, Int32.reduceSub]
  · have hh : ¬ (0 ≤ nI j ∧ nI j ≤ nI b - 1) := fun z => by
      obtain ⟨i, hi, ei⟩ := e.mp z
      have := (nI_eq (show j < 2 ^ 31 by omega) (show i < 2 ^ 31 by omega)).mp ei
      omega
    simp (decide := true) only [me_37, mq_37_0, mq_37_1, mq_37_2, mq_37_3, mq_37_6, mq_37_7, mq_37_8, mq_37_11, mq_37_14, mq_37_15, mq_37_18, mq_37_19, mq_37_20, mq_37_23, mq_37_24, ev_within, hl, hh, h, Nat.reduceAdd, Nat.reduceMul, Nat.reduceSub, Nat.zero_add, sg_bi_i, sg_bi_n, sg_bz, sg_bb, sg_b_0, sg_b_1, if_true, if_false, not_true_eq_false, not_false_eq_true, true_and, and_true, false_and, and_false, and_self, Int32.reduceSub]
def fn_le (c : Int32) : Nat := if (119 : Int32) = c then 0 else if (116 : Int32) = c then 1 else if (98 : Int32) = c then 2 else if (109 : Int32) = c then 3 else if (117 : Int32) = c then 4 else if (111 : Int32) = c then 5 else if (106 : Int32) = c then 6 else 7
theorem fn_le_7 (c : Int32) : fn_le c ≤ 7 := by
  unfold fn_le
  split
  · omega
  split
  · omega
  split
  · omega
  split
  · omega
  split
  · omega
  split
  · omega
  split <;> omega
theorem fn_le_m1 : fn_le (-1) = 7 := by decide
theorem ev_le_s (σ : sg_M) (x0 x1 : sg_V) (c : Int32) (k : Nat) (hk : k < 7) : sg_rv 36 8 σ [x0, x1, sg_i c, sg_i (nI k)] [] = if sg_roV 5 σ k = c then some (some (sg_i (nI k)), σ) else sg_rv 36 8 σ [x0, x1, sg_i c, sg_i (nI (k + 1))] [] := by
  have i1 : sg_in (nI k) 7 = true := sg_in_nI (by omega) (by omega)
  have e7 : (nI k < Int32.ofNat 7) = True := eq_true (nI_lt (b := 7) hk (by omega))
  by_cases h : sg_roV 5 σ k = c
  · simp (decide := true) only [mq_36_8, mq_36_9, mq_36_12, mq_36_13, mq_36_16, mq_36_19, mq_36_20, mq_36_21, mq_36_22, mq_36_25, mq_36_26, e7, i1, sg_nIc (show k < 2 ^ 31 by omega), h, Nat.reduceAdd, Nat.reduceMul, Nat.reduceSub, Nat.zero_add, sg_bi_i, sg_bi_n, sg_bz, sg_bb, sg_b_0, sg_b_1, if_true, if_false, not_true_eq_false, not_false_eq_true, true_and, and_true, false_and, and_false, and_self, Int32.reduceSub]
  · rw [if_neg h]
    generalize hX : sg_rv 36 8 σ [x0, x1, sg_i c, sg_i (nI (k + 1))] [] = X
    simp (decide := true) only [mq_36_8, mq_36_9, mq_36_12, mq_36_13, e7, Nat.reduceAdd, Nat.reduceMul, Nat.reduceSub, Nat.zero_add, sg_bi_i, sg_bi_n, sg_bz, sg_bb, sg_b_0, sg_b_1, if_true, if_false, not_true_eq_false, not_false_eq_true, true_and, and_true, false_and, and_false, and_self, Int32.reduceSub]
    simp (decide := true) only [mq_36_16, mq_36_19, mq_36_20, mq_36_21, mq_36_22, mq_36_25, mq_36_26, mq_36_27, mq_36_30, i1, sg_nIc (show k < 2 ^ 31 by omega), h, nI_1, hX, Nat.reduceAdd, Nat.reduceMul, Nat.reduceSub, Nat.zero_add, sg_bi_i, sg_bi_n, sg_bz, sg_bb, sg_b_0, sg_b_1, if_true, if_false, not_true_eq_false, not_false_eq_true, true_and, and_true, false_and, and_false, and_self, Int32.reduceSub]
theorem ev_le_e (σ : sg_M) (x0 x1 : sg_V) (c : Int32) : sg_rv 36 8 σ [x0, x1, sg_i c, sg_i (nI 7)] [] = some (some (sg_i (-1)), σ) := by
  have e7 : (nI 7 < Int32.ofNat 7) = False := by decide
  simp (decide := true) only [mq_36_8, mq_36_9, mq_36_12, mq_36_13, mq_36_16, mq_36_19, mq_36_20, mq_36_21, mq_36_22, mq_36_25, mq_36_26, mq_36_27, mq_36_30, mq_36_33, mq_36_34, e7, Nat.reduceAdd, Nat.reduceMul, Nat.reduceSub, Nat.zero_add, sg_bi_i, sg_bi_n, sg_bz, sg_bb, sg_b_0, sg_b_1, if_true, if_false, not_true_eq_false, not_false_eq_true, true_and, and_true, false_and, and_false, and_self, Int32.reduceSub]
theorem ev_letter (σ : sg_M) (b j : Nat) (hb : b ≤ 60) (hj : j ≤ 1000) (hl : σ 10 1 = nI b) : sg_ev 36 σ [sg_r 4 10, sg_i (nI j)] = some (some (sg_i (if fn_le (fn_co (σ 11) b j) = 7 then -1 else nI (fn_le (fn_co (σ 11) b j)))), σ) := by
  have st : sg_ev 36 σ [sg_r 4 10, sg_i (nI j)] = sg_rv 36 8 σ [sg_r 4 10, sg_i (nI j), sg_i (fn_co (σ 11) b j), sg_i (nI 0)] [] := by
    simp (decide := true) only [me_36, mq_36_0, mq_36_1, mq_36_2, mq_36_5, mq_36_6, mq_36_7, ev_co σ b j hb hj hl, nI_0, Nat.reduceAdd, Nat.reduceMul, Nat.reduceSub, Nat.zero_add, sg_bi_i, sg_bi_n, sg_bz, sg_bb, sg_b_0, sg_b_1, if_true, if_false, not_true_eq_false, not_false_eq_true, true_and, and_true, false_and, and_false, and_self, Int32.reduceSub]
  rw [st]
  generalize fn_co (σ 11) b j = c
  rw [ev_le_s σ _ _ c 0 (by omega), ev_le_s σ _ _ c 1 (by omega), ev_le_s σ _ _ c 2 (by omega), ev_le_s σ _ _ c 3 (by omega), ev_le_s σ _ _ c 4 (by omega), ev_le_s σ _ _ c 5 (by omega), ev_le_s σ _ _ c 6 (by omega), ev_le_e]
  rw [show sg_roV 5 σ 0 = 119 from rfl, show sg_roV 5 σ 1 = 116 from rfl, show sg_roV 5 σ 2 = 98 from rfl, show sg_roV 5 σ 3 = 109 from rfl, show sg_roV 5 σ 4 = 117 from rfl, show sg_roV 5 σ 5 = 111 from rfl, show sg_roV 5 σ 6 = 106 from rfl]
  unfold fn_le
  by_cases h0 : (119 : Int32) = c
  · simp (decide := true) only [h0, if_true, if_false]
  by_cases h1 : (116 : Int32) = c
  · simp (decide := true) only [h0, h1, if_true, if_false]
  by_cases h2 : (98 : Int32) = c
  · simp (decide := true) only [h0, h1, h2, if_true, if_false]
  by_cases h3 : (109 : Int32) = c
  · simp (decide := true) only [h0, h1, h2, h3, if_true, if_false]
  by_cases h4 : (117 : Int32) = c
  · simp (decide := true) only [h0, h1, h2, h3, h4, if_true, if_false]
  by_cases h5 : (111 : Int32) = c
  · simp (decide := true) only [h0, h1, h2, h3, h4, h5, if_true, if_false]
  by_cases h6 : (106 : Int32) = c
  · simp (decide := true) only [h0, h1, h2, h3, h4, h5, h6, if_true, if_false]
  · simp (decide := true) only [h0, h1, h2, h3, h4, h5, h6, if_true, if_false]
theorem em_letter (σ : sg_M) (c : Int32) : sg_ev 144 σ [sg_i c] = some (some (sg_i (if fn_le c = 7 then -9 else nI (fn_le c))), σ) := by
  by_cases h : c.toInt < 98 ∨ 119 < c.toInt
  · have e : fn_le c = 7 := by
      unfold fn_le
      have ne : ∀ d : Int32, 98 ≤ d.toInt ∧ d.toInt ≤ 119 → ¬ d = c := fun d hd z => by rw [z] at hd; omega
      rw [if_neg (ne 119 (by decide)), if_neg (ne 116 (by decide)), if_neg (ne 98 (by decide)), if_neg (ne 109 (by decide)), if_neg (ne 117 (by decide)), if_neg (ne 111 (by decide)), if_neg (ne 106 (by decide))]
    rw [if_pos e]
    simp (decide := true) only [me_144, mq_144_0, mq_144_1_d, mq_144_119, mq_144_121, h, Nat.reduceAdd, Nat.reduceMul, Nat.reduceSub, Nat.zero_add, sg_bi_i, sg_bi_n, sg_bz, sg_bb, sg_b_0, sg_b_1, if_true, if_false, not_true_eq_false, not_false_eq_true, true_and, and_true, false_and, and_false, and_self, Int32.reduceSub]
  · obtain ⟨j, hj, rfl, ej⟩ := sg_nat (x := c) (by omega)
    rw [ej] at h
    rcases (show j = 98 ∨ j = 99 ∨ j = 100 ∨ j = 101 ∨ j = 102 ∨ j = 103 ∨ j = 104 ∨ j = 105 ∨ j = 106 ∨ j = 107 ∨ j = 108 ∨ j = 109 ∨ j = 110 ∨ j = 111 ∨ j = 112 ∨ j = 113 ∨ j = 114 ∨ j = 115 ∨ j = 116 ∨ j = 117 ∨ j = 118 ∨ j = 119 by omega) with rfl | rfl | rfl | rfl | rfl | rfl | rfl | rfl | rfl | rfl | rfl | rfl | rfl | rfl | rfl | rfl | rfl | rfl | rfl | rfl | rfl | rfl
    · rw [show nI 98 = (98 : Int32) from rfl]; simp (decide := true) only [me_144, mq_144_0, mq_144_1_98, mq_144_104, mq_144_105, mq_144_106, mq_144_107, mq_144_108, mq_144_109, mq_144_110, mq_144_111, mq_144_112, mq_144_113, mq_144_114, mq_144_115, mq_144_116, mq_144_118, mq_144_119, mq_144_121, Nat.reduceAdd, Nat.reduceMul, Nat.reduceSub, Nat.zero_add, sg_bi_i, sg_bi_n, sg_bz, sg_bb, sg_b_0, sg_b_1, if_true, if_false, not_true_eq_false, not_false_eq_true, true_and, and_true, false_and, and_false, and_self, Int32.reduceSub] <;> rfl
    · rw [show nI 99 = (99 : Int32) from rfl]; simp (decide := true) only [me_144, mq_144_0, mq_144_1_99, mq_144_104, mq_144_105, mq_144_106, mq_144_107, mq_144_108, mq_144_109, mq_144_110, mq_144_111, mq_144_112, mq_144_113, mq_144_114, mq_144_115, mq_144_116, mq_144_118, mq_144_119, mq_144_121, Nat.reduceAdd, Nat.reduceMul, Nat.reduceSub, Nat.zero_add, sg_bi_i, sg_bi_n, sg_bz, sg_bb, sg_b_0, sg_b_1, if_true, if_false, not_true_eq_false, not_false_eq_true, true_and, and_true, false_and, and_false, and_self, Int32.reduceSub] <;> rfl
    · rw [show nI 100 = (100 : Int32) from rfl]; simp (decide := true) only [me_144, mq_144_0, mq_144_1_100, mq_144_104, mq_144_105, mq_144_106, mq_144_107, mq_144_108, mq_144_109, mq_144_110, mq_144_111, mq_144_112, mq_144_113, mq_144_114, mq_144_115, mq_144_116, mq_144_118, mq_144_119, mq_144_121, Nat.reduceAdd, Nat.reduceMul, Nat.reduceSub, Nat.zero_add, sg_bi_i, sg_bi_n, sg_bz, sg_bb, sg_b_0, sg_b_1, if_true, if_false, not_true_eq_false, not_false_eq_true, true_and, and_true, false_and, and_false, and_self, Int32.reduceSub] <;> rfl
    · rw [show nI 101 = (101 : Int32) from rfl]; simp (decide := true) only [me_144, mq_144_0, mq_144_1_101, mq_144_104, mq_144_105, mq_144_106, mq_144_107, mq_144_108, mq_144_109, mq_144_110, mq_144_111, mq_144_112, mq_144_113, mq_144_114, mq_144_115, mq_144_116, mq_144_118, mq_144_119, mq_144_121, Nat.reduceAdd, Nat.reduceMul, Nat.reduceSub, Nat.zero_add, sg_bi_i, sg_bi_n, sg_bz, sg_bb, sg_b_0, sg_b_1, if_true, if_false, not_true_eq_false, not_false_eq_true, true_and, and_true, false_and, and_false, and_self, Int32.reduceSub] <;> rfl
    · rw [show nI 102 = (102 : Int32) from rfl]; simp (decide := true) only [me_144, mq_144_0, mq_144_1_102, mq_144_104, mq_144_105, mq_144_106, mq_144_107, mq_144_108, mq_144_109, mq_144_110, mq_144_111, mq_144_112, mq_144_113, mq_144_114, mq_144_115, mq_144_116, mq_144_118, mq_144_119, mq_144_121, Nat.reduceAdd, Nat.reduceMul, Nat.reduceSub, Nat.zero_add, sg_bi_i, sg_bi_n, sg_bz, sg_bb, sg_b_0, sg_b_1, if_true, if_false, not_true_eq_false, not_false_eq_true, true_and, and_true, false_and, and_false, and_self, Int32.reduceSub] <;> rfl
    · rw [show nI 103 = (103 : Int32) from rfl]; simp (decide := true) only [me_144, mq_144_0, mq_144_1_103, mq_144_104, mq_144_105, mq_144_106, mq_144_107, mq_144_108, mq_144_109, mq_144_110, mq_144_111, mq_144_112, mq_144_113, mq_144_114, mq_144_115, mq_144_116, mq_144_118, mq_144_119, mq_144_121, Nat.reduceAdd, Nat.reduceMul, Nat.reduceSub, Nat.zero_add, sg_bi_i, sg_bi_n, sg_bz, sg_bb, sg_b_0, sg_b_1, if_true, if_false, not_true_eq_false, not_false_eq_true, true_and, and_true, false_and, and_false, and_self, Int32.reduceSub] <;> rfl
    · rw [show nI 104 = (104 : Int32) from rfl]; simp (decide := true) only [me_144, mq_144_0, mq_144_1_104, mq_144_104, mq_144_105, mq_144_106, mq_144_107, mq_144_108, mq_144_109, mq_144_110, mq_144_111, mq_144_112, mq_144_113, mq_144_114, mq_144_115, mq_144_116, mq_144_118, mq_144_119, mq_144_121, Nat.reduceAdd, Nat.reduceMul, Nat.reduceSub, Nat.zero_add, sg_bi_i, sg_bi_n, sg_bz, sg_bb, sg_b_0, sg_b_1, if_true, if_false, not_true_eq_false, not_false_eq_true, true_and, and_true, false_and, and_false, and_self, Int32.reduceSub] <;> rfl
    · rw [show nI 105 = (105 : Int32) from rfl]; simp (decide := true) only [me_144, mq_144_0, mq_144_1_105, mq_144_104, mq_144_105, mq_144_106, mq_144_107, mq_144_108, mq_144_109, mq_144_110, mq_144_111, mq_144_112, mq_144_113, mq_144_114, mq_144_115, mq_144_116, mq_144_118, mq_144_119, mq_144_121, Nat.reduceAdd, Nat.reduceMul, Nat.reduceSub, Nat.zero_add, sg_bi_i, sg_bi_n, sg_bz, sg_bb, sg_b_0, sg_b_1, if_true, if_false, not_true_eq_false, not_false_eq_true, true_and, and_true, false_and, and_false, and_self, Int32.reduceSub] <;> rfl
    · rw [show nI 106 = (106 : Int32) from rfl]; simp (decide := true) only [me_144, mq_144_0, mq_144_1_106, mq_144_104, mq_144_105, mq_144_106, mq_144_107, mq_144_108, mq_144_109, mq_144_110, mq_144_111, mq_144_112, mq_144_113, mq_144_114, mq_144_115, mq_144_116, mq_144_118, mq_144_119, mq_144_121, Nat.reduceAdd, Nat.reduceMul, Nat.reduceSub, Nat.zero_add, sg_bi_i, sg_bi_n, sg_bz, sg_bb, sg_b_0, sg_b_1, if_true, if_false, not_true_eq_false, not_false_eq_true, true_and, and_true, false_and, and_false, and_self, Int32.reduceSub] <;> rfl
    · rw [show nI 107 = (107 : Int32) from rfl]; simp (decide := true) only [me_144, mq_144_0, mq_144_1_107, mq_144_104, mq_144_105, mq_144_106, mq_144_107, mq_144_108, mq_144_109, mq_144_110, mq_144_111, mq_144_112, mq_144_113, mq_144_114, mq_144_115, mq_144_116, mq_144_118, mq_144_119, mq_144_121, Nat.reduceAdd, Nat.reduceMul, Nat.reduceSub, Nat.zero_add, sg_bi_i, sg_bi_n, sg_bz, sg_bb, sg_b_0, sg_b_1, if_true, if_false, not_true_eq_false, not_false_eq_true, true_and, and_true, false_and, and_false, and_self, Int32.reduceSub] <;> rfl
    · rw [show nI 108 = (108 : Int32) from rfl]; simp (decide := true) only [me_144, mq_144_0, mq_144_1_108, mq_144_104, mq_144_105, mq_144_106, mq_144_107, mq_144_108, mq_144_109, mq_144_110, mq_144_111, mq_144_112, mq_144_113, mq_144_114, mq_144_115, mq_144_116, mq_144_118, mq_144_119, mq_144_121, Nat.reduceAdd, Nat.reduceMul, Nat.reduceSub, Nat.zero_add, sg_bi_i, sg_bi_n, sg_bz, sg_bb, sg_b_0, sg_b_1, if_true, if_false, not_true_eq_false, not_false_eq_true, true_and, and_true, false_and, and_false, and_self, Int32.reduceSub] <;> rfl
    · rw [show nI 109 = (109 : Int32) from rfl]; simp (decide := true) only [me_144, mq_144_0, mq_144_1_109, mq_144_104, mq_144_105, mq_144_106, mq_144_107, mq_144_108, mq_144_109, mq_144_110, mq_144_111, mq_144_112, mq_144_113, mq_144_114, mq_144_115, mq_144_116, mq_144_118, mq_144_119, mq_144_121, Nat.reduceAdd, Nat.reduceMul, Nat.reduceSub, Nat.zero_add, sg_bi_i, sg_bi_n, sg_bz, sg_bb, sg_b_0, sg_b_1, if_true, if_false, not_true_eq_false, not_false_eq_true, true_and, and_true, false_and, and_false, and_self, Int32.reduceSub] <;> rfl
    · rw [show nI 110 = (110 : Int32) from rfl]; simp (decide := true) only [me_144, mq_144_0, mq_144_1_110, mq_144_104, mq_144_105, mq_144_106, mq_144_107, mq_144_108, mq_144_109, mq_144_110, mq_144_111, mq_144_112, mq_144_113, mq_144_114, mq_144_115, mq_144_116, mq_144_118, mq_144_119, mq_144_121, Nat.reduceAdd, Nat.reduceMul, Nat.reduceSub, Nat.zero_add, sg_bi_i, sg_bi_n, sg_bz, sg_bb, sg_b_0, sg_b_1, if_true, if_false, not_true_eq_false, not_false_eq_true, true_and, and_true, false_and, and_false, and_self, Int32.reduceSub] <;> rfl
    · rw [show nI 111 = (111 : Int32) from rfl]; simp (decide := true) only [me_144, mq_144_0, mq_144_1_111, mq_144_104, mq_144_105, mq_144_106, mq_144_107, mq_144_108, mq_144_109, mq_144_110, mq_144_111, mq_144_112, mq_144_113, mq_144_114, mq_144_115, mq_144_116, mq_144_118, mq_144_119, mq_144_121, Nat.reduceAdd, Nat.reduceMul, Nat.reduceSub, Nat.zero_add, sg_bi_i, sg_bi_n, sg_bz, sg_bb, sg_b_0, sg_b_1, if_true, if_false, not_true_eq_false, not_false_eq_true, true_and, and_true, false_and, and_false, and_self, Int32.reduceSub] <;> rfl
    · rw [show nI 112 = (112 : Int32) from rfl]; simp (decide := true) only [me_144, mq_144_0, mq_144_1_112, mq_144_104, mq_144_105, mq_144_106, mq_144_107, mq_144_108, mq_144_109, mq_144_110, mq_144_111, mq_144_112, mq_144_113, mq_144_114, mq_144_115, mq_144_116, mq_144_118, mq_144_119, mq_144_121, Nat.reduceAdd, Nat.reduceMul, Nat.reduceSub, Nat.zero_add, sg_bi_i, sg_bi_n, sg_bz, sg_bb, sg_b_0, sg_b_1, if_true, if_false, not_true_eq_false, not_false_eq_true, true_and, and_true, false_and, and_false, and_self, Int32.reduceSub] <;> rfl
    · rw [show nI 113 = (113 : Int32) from rfl]; simp (decide := true) only [me_144, mq_144_0, mq_144_1_113, mq_144_104, mq_144_105, mq_144_106, mq_144_107, mq_144_108, mq_144_109, mq_144_110, mq_144_111, mq_144_112, mq_144_113, mq_144_114, mq_144_115, mq_144_116, mq_144_118, mq_144_119, mq_144_121, Nat.reduceAdd, Nat.reduceMul, Nat.reduceSub, Nat.zero_add, sg_bi_i, sg_bi_n, sg_bz, sg_bb, sg_b_0, sg_b_1, if_true, if_false, not_true_eq_false, not_false_eq_true, true_and, and_true, false_and, and_false, and_self, Int32.reduceSub] <;> rfl
    · rw [show nI 114 = (114 : Int32) from rfl]; simp (decide := true) only [me_144, mq_144_0, mq_144_1_114, mq_144_104, mq_144_105, mq_144_106, mq_144_107, mq_144_108, mq_144_109, mq_144_110, mq_144_111, mq_144_112, mq_144_113, mq_144_114, mq_144_115, mq_144_116, mq_144_118, mq_144_119, mq_144_121, Nat.reduceAdd, Nat.reduceMul, Nat.reduceSub, Nat.zero_add, sg_bi_i, sg_bi_n, sg_bz, sg_bb, sg_b_0, sg_b_1, if_true, if_false, not_true_eq_false, not_false_eq_true, true_and, and_true, false_and, and_false, and_self, Int32.reduceSub] <;> rfl
    · rw [show nI 115 = (115 : Int32) from rfl]; simp (decide := true) only [me_144, mq_144_0, mq_144_1_115, mq_144_104, mq_144_105, mq_144_106, mq_144_107, mq_144_108, mq_144_109, mq_144_110, mq_144_111, mq_144_112, mq_144_113, mq_144_114, mq_144_115, mq_144_116, mq_144_118, mq_144_119, mq_144_121, Nat.reduceAdd, Nat.reduceMul, Nat.reduceSub, Nat.zero_add, sg_bi_i, sg_bi_n, sg_bz, sg_bb, sg_b_0, sg_b_1, if_true, if_false, not_true_eq_false, not_false_eq_true, true_and, and_true, false_and, and_false, and_self, Int32.reduceSub] <;> rfl
    · rw [show nI 116 = (116 : Int32) from rfl]; simp (decide := true) only [me_144, mq_144_0, mq_144_1_116, mq_144_104, mq_144_105, mq_144_106, mq_144_107, mq_144_108, mq_144_109, mq_144_110, mq_144_111, mq_144_112, mq_144_113, mq_144_114, mq_144_115, mq_144_116, mq_144_118, mq_144_119, mq_144_121, Nat.reduceAdd, Nat.reduceMul, Nat.reduceSub, Nat.zero_add, sg_bi_i, sg_bi_n, sg_bz, sg_bb, sg_b_0, sg_b_1, if_true, if_false, not_true_eq_false, not_false_eq_true, true_and, and_true, false_and, and_false, and_self, Int32.reduceSub] <;> rfl
    · rw [show nI 117 = (117 : Int32) from rfl]; simp (decide := true) only [me_144, mq_144_0, mq_144_1_117, mq_144_104, mq_144_105, mq_144_106, mq_144_107, mq_144_108, mq_144_109, mq_144_110, mq_144_111, mq_144_112, mq_144_113, mq_144_114, mq_144_115, mq_144_116, mq_144_118, mq_144_119, mq_144_121, Nat.reduceAdd, Nat.reduceMul, Nat.reduceSub, Nat.zero_add, sg_bi_i, sg_bi_n, sg_bz, sg_bb, sg_b_0, sg_b_1, if_true, if_false, not_true_eq_false, not_false_eq_true, true_and, and_true, false_and, and_false, and_self, Int32.reduceSub] <;> rfl
    · rw [show nI 118 = (118 : Int32) from rfl]; simp (decide := true) only [me_144, mq_144_0, mq_144_1_118, mq_144_104, mq_144_105, mq_144_106, mq_144_107, mq_144_108, mq_144_109, mq_144_110, mq_144_111, mq_144_112, mq_144_113, mq_144_114, mq_144_115, mq_144_116, mq_144_118, mq_144_119, mq_144_121, Nat.reduceAdd, Nat.reduceMul, Nat.reduceSub, Nat.zero_add, sg_bi_i, sg_bi_n, sg_bz, sg_bb, sg_b_0, sg_b_1, if_true, if_false, not_true_eq_false, not_false_eq_true, true_and, and_true, false_and, and_false, and_self, Int32.reduceSub] <;> rfl
    · rw [show nI 119 = (119 : Int32) from rfl]; simp (decide := true) only [me_144, mq_144_0, mq_144_1_119, mq_144_104, mq_144_105, mq_144_106, mq_144_107, mq_144_108, mq_144_109, mq_144_110, mq_144_111, mq_144_112, mq_144_113, mq_144_114, mq_144_115, mq_144_116, mq_144_118, mq_144_119, mq_144_121, Nat.reduceAdd, Nat.reduceMul, Nat.reduceSub, Nat.zero_add, sg_bi_i, sg_bi_n, sg_bz, sg_bb, sg_b_0, sg_b_1, if_true, if_false, not_true_eq_false, not_false_eq_true, true_and, and_true, false_and, and_false, and_self, Int32.reduceSub] <;> rfl
def fn_ok (L : Nat) (v : Int32) : Bool := if L < 4 then decide (1 ≤ v ∧ v ≤ 99) else if L = 4 then decide (0 ≤ v ∧ v ≤ 9) else if L = 5 then decide (1 ≤ v ∧ v ≤ 9) else decide (0 ≤ v ∧ v ≤ 7)
theorem L7 {L : Nat} (h : L < 7) : L = 0 ∨ L = 1 ∨ L = 2 ∨ L = 3 ∨ L = 4 ∨ L = 5 ∨ L = 6 := by omega
theorem em_isNumber (σ : sg_M) (L : Nat) (v : Int32) (hL : L < 7) : sg_ev 145 σ [sg_i (nI L), sg_i v] = some (some (sg_i (if fn_ok L v = true then 1 else 0)), σ) := by
  have a1 := sg_i64 v 1 99 1 99 (by decide) (by decide)
  have a2 := sg_i64 v 0 9 0 9 (by decide) (by decide)
  have a3 := sg_i64 v 1 9 1 9 (by decide) (by decide)
  have a4 := sg_i64 v 0 7 0 7 (by decide) (by decide)
  unfold fn_ok
  rcases L7 hL with rfl | rfl | rfl | rfl | rfl | rfl | rfl <;> simp (decide := true) only [me_145, mq_145_0, mq_145_1, mq_145_2, mq_145_5, mq_145_6, mq_145_7, mq_145_8, mq_145_11, mq_145_14, mq_145_17, mq_145_18, mq_145_19, mq_145_22, mq_145_23, mq_145_24, mq_145_25, mq_145_28, mq_145_31, mq_145_34, mq_145_35, mq_145_36, mq_145_39, mq_145_40, mq_145_41, mq_145_42, mq_145_45, mq_145_48, mq_145_51, mq_145_52, mq_145_53, mq_145_54, mq_145_57, mq_145_60, em_in, a1, a2, a3, a4, decide_eq_true_eq, Nat.reduceAdd, Nat.reduceMul, Nat.reduceSub, Nat.zero_add, sg_bi_i, sg_bi_n, sg_bz, sg_bb, sg_b_0, sg_b_1, if_true, if_false, not_true_eq_false, not_false_eq_true, true_and, and_true, false_and, and_false, and_self, Int32.reduceSub]
theorem fn_ok_lm (σ : sg_M) (L : Nat) (v : Int32) (hL : L < 7) : (sg_roV 2 σ L ≤ v ∧ v ≤ sg_roV 3 σ L) = (fn_ok L v = true) := by
  unfold fn_ok
  rcases L7 hL with rfl | rfl | rfl | rfl | rfl | rfl | rfl <;> simp (decide := true) only [decide_eq_true_eq, if_true, if_false] <;> rfl
theorem fn_ok_rg {L : Nat} {v : Int32} (h : fn_ok L v = true) : ∃ j : Nat, j < 100 ∧ v = nI j := by
  have key : 0 ≤ v.toInt ∧ v.toInt ≤ 99 := by
    unfold fn_ok at h
    split at h
    · have h := of_decide_eq_true h
      rw [Int32.le_iff_toInt_le, Int32.le_iff_toInt_le, sg_t1, sg_t99] at h
      omega
    split at h
    · have h := of_decide_eq_true h
      rw [Int32.le_iff_toInt_le, Int32.le_iff_toInt_le, sg_t0, sg_t9] at h
      omega
    split at h
    · have h := of_decide_eq_true h
      rw [Int32.le_iff_toInt_le, Int32.le_iff_toInt_le, sg_t1, sg_t9] at h
      omega
    · have h := of_decide_eq_true h
      rw [Int32.le_iff_toInt_le, Int32.le_iff_toInt_le, sg_t0, sg_t7] at h
      omega
  obtain ⟨j, hj, rfl, ej⟩ := sg_nat key.1
  exact ⟨j, by omega, rfl⟩
/-- digits from s on: how many, the number -/
def fn_dn (C : Nat → Int32) (s : Nat) : Nat → Nat → Int32 → Nat × Int32
  | 0, d, v => (d, v)
  | m + 1, d, v => if 48 ≤ C (s + d) ∧ C (s + d) ≤ 57 then fn_dn C s m (d + 1) (10 * v + C (s + d) - 48) else (d, v)
theorem fn_dn_ge (C : Nat → Int32) (s : Nat) : ∀ m d v, d ≤ (fn_dn C s m d v).1 ∧ (fn_dn C s m d v).1 ≤ d + m := by
  intro m
  induction m with
  | zero => intro d v; exact ⟨Nat.le_refl d, Nat.le_refl d⟩
  | succ m ih =>
    intro d v
    simp only [fn_dn]
    split
    · have := ih (d + 1) (10 * v + C (s + d) - 48)
      omega
    · exact ⟨Nat.le_refl d, by omega⟩
theorem fn_dn_1 (C : Nat → Int32) (s : Nat) : ∀ m d v w, (fn_dn C s m d v).1 = (fn_dn C s m d w).1 := by
  intro m
  induction m with
  | zero => intro d v w; rfl
  | succ m ih =>
    intro d v w
    simp only [fn_dn]
    split
    · exact ih _ _ _
    · rfl
/-- digits are there -/
theorem fn_dn_in (T : Nat → Int32) (b s : Nat) : ∀ m d v, s + d ≤ b → s + (fn_dn (fn_co T b) s m d v).1 ≤ b := by
  intro m
  induction m with
  | zero => intro d v h; exact h
  | succ m ih =>
    intro d v h
    simp only [fn_dn]
    split
    · rename_i hd
      refine ih (d + 1) _ ?_
      unfold fn_co at hd
      by_cases hb : s + d < b
      · omega
      · rw [if_neg hb] at hd
        exact absurd hd.1 (by decide)
    · exact h
theorem ev_digits_l (σ : sg_M) (b s M : Nat) (hb : b ≤ 60) (hs : s ≤ 100) (hM : M ≤ 2) (hl : σ 10 1 = nI b) : ∀ m d (v : Int32), d + m = M → sg_rv 38 2 σ [sg_r 4 10, sg_i (nI s), sg_i (nI M), sg_i (nI d)] [] = some (some (sg_i (nI (fn_dn (fn_co (σ 11) b) s m d v).1)), σ) := by
  intro m
  induction m with
  | zero =>
    intro d v hd
    obtain rfl : d = M := by omega
    simp (decide := true) only [mq_38_2, mq_38_3, mq_38_4, mq_38_7, mq_38_8, mq_38_9, mq_38_10, mq_38_11, mq_38_14, mq_38_16, mq_38_18, mq_38_21, mq_38_24, mq_38_27, mq_38_30, mq_38_31, nI_ltI (show d < 2 ^ 31 by omega) (show d < 2 ^ 31 by omega), show ¬ d < d by omega, fn_dn, Nat.reduceAdd, Nat.reduceMul, Nat.reduceSub, Nat.zero_add, sg_bi_i, sg_bi_n, sg_bz, sg_bb, sg_b_0, sg_b_1, if_true, if_false, not_true_eq_false, not_false_eq_true, true_and, and_true, false_and, and_false, and_self, Int32.reduceSub]
  | succ m ih =>
    intro d v hd
    simp only [fn_dn]
    by_cases h : 48 ≤ fn_co (σ 11) b (s + d) ∧ fn_co (σ 11) b (s + d) ≤ 57
    · simp (decide := true) only [mq_38_2, mq_38_3, mq_38_4, nI_ltI (show d < 2 ^ 31 by omega) (show M < 2 ^ 31 by omega), show d < M by omega, Nat.reduceAdd, Nat.reduceMul, Nat.reduceSub, Nat.zero_add, sg_bi_i, sg_bi_n, sg_bz, sg_bb, sg_b_0, sg_b_1, if_true, if_false, not_true_eq_false, not_false_eq_true, true_and, and_true, false_and, and_false, and_self, Int32.reduceSub]
      rw [if_pos h, ← ih (d + 1) (10 * v + fn_co (σ 11) b (s + d) - 48) (by omega)]
      simp (decide := true) only [mq_38_7, mq_38_8, mq_38_9, mq_38_10, mq_38_11, mq_38_14, mq_38_16, mq_38_18, mq_38_21, mq_38_24, mq_38_27, nI_add, ev_co σ b (s + d) hb (by omega) hl, ev_within, h, nI_1, Nat.reduceAdd, Nat.reduceMul, Nat.reduceSub, Nat.zero_add, sg_bi_i, sg_bi_n, sg_bz, sg_bb, sg_b_0, sg_b_1, if_true, if_false, not_true_eq_false, not_false_eq_true, true_and, and_true, false_and, and_false, and_self, Int32.reduceSub]
    · rw [if_neg h]
      simp (decide := true) only [mq_38_2, mq_38_3, mq_38_4, mq_38_7, mq_38_8, mq_38_9, mq_38_10, mq_38_11, mq_38_14, mq_38_16, mq_38_18, mq_38_21, mq_38_24, mq_38_27, mq_38_30, mq_38_31, nI_ltI (show d < 2 ^ 31 by omega) (show M < 2 ^ 31 by omega), show d < M by omega, nI_add, ev_co σ b (s + d) hb (by omega) hl, ev_within, h, Nat.reduceAdd, Nat.reduceMul, Nat.reduceSub, Nat.zero_add, sg_bi_i, sg_bi_n, sg_bz, sg_bb, sg_b_0, sg_b_1, if_true, if_false, not_true_eq_false, not_false_eq_true, true_and, and_true, false_and, and_false, and_self, Int32.reduceSub]
theorem ev_number_l (σ : sg_M) (b s D : Nat) (hb : b ≤ 60) (hs : s ≤ 100) (hD : D ≤ 2) (hl : σ 10 1 = nI b) : ∀ m d (v : Int32), D = (fn_dn (fn_co (σ 11) b) s m d v).1 → sg_rv 39 5 σ [sg_r 4 10, sg_i (nI s), sg_i (nI D), sg_i v, sg_i (nI d)] [] = some (some (sg_i (fn_dn (fn_co (σ 11) b) s m d v).2), σ) := by
  intro m
  induction m with
  | zero =>
    intro d v hd
    simp only [fn_dn] at hd ⊢
    simp (decide := true) only [mq_39_5, mq_39_7, mq_39_8, mq_39_11, mq_39_13, mq_39_14, mq_39_15, mq_39_16, mq_39_17, mq_39_19, mq_39_20, mq_39_23, mq_39_24, mq_39_26, mq_39_27, mq_39_28, mq_39_31, mq_39_34, mq_39_35, nI_ltI (show d < 2 ^ 31 by omega) (show D < 2 ^ 31 by omega), show ¬ d < D by omega, Nat.reduceAdd, Nat.reduceMul, Nat.reduceSub, Nat.zero_add, sg_bi_i, sg_bi_n, sg_bz, sg_bb, sg_b_0, sg_b_1, if_true, if_false, not_true_eq_false, not_false_eq_true, true_and, and_true, false_and, and_false, and_self, Int32.reduceSub]
  | succ m ih =>
    intro d v hd
    simp only [fn_dn] at hd ⊢
    by_cases h : 48 ≤ fn_co (σ 11) b (s + d) ∧ fn_co (σ 11) b (s + d) ≤ 57
    · rw [if_pos h] at hd ⊢
      have g := fn_dn_ge (fn_co (σ 11) b) s m (d + 1) (10 * v + fn_co (σ 11) b (s + d) - 48)
      simp (decide := true) only [mq_39_5, mq_39_7, mq_39_8, nI_ltI (show d < 2 ^ 31 by omega) (show D < 2 ^ 31 by omega), show d < D by omega, Nat.reduceAdd, Nat.reduceMul, Nat.reduceSub, Nat.zero_add, sg_bi_i, sg_bi_n, sg_bz, sg_bb, sg_b_0, sg_b_1, if_true, if_false, not_true_eq_false, not_false_eq_true, true_and, and_true, false_and, and_false, and_self, Int32.reduceSub]
      rw [← ih (d + 1) (10 * v + fn_co (σ 11) b (s + d) - 48) hd]
      simp (decide := true) only [mq_39_11, mq_39_13, mq_39_14, mq_39_15, mq_39_16, mq_39_17, mq_39_19, mq_39_20, mq_39_23, mq_39_24, mq_39_26, mq_39_27, mq_39_28, mq_39_31, nI_add, ev_co σ b (s + d) hb (by omega) hl, nI_1, Nat.reduceAdd, Nat.reduceMul, Nat.reduceSub, Nat.zero_add, sg_bi_i, sg_bi_n, sg_bz, sg_bb, sg_b_0, sg_b_1, if_true, if_false, not_true_eq_false, not_false_eq_true, true_and, and_true, false_and, and_false, and_self, Int32.reduceSub]
    · rw [if_neg h] at hd ⊢
      simp only at hd
      simp (decide := true) only [mq_39_5, mq_39_7, mq_39_8, mq_39_11, mq_39_13, mq_39_14, mq_39_15, mq_39_16, mq_39_17, mq_39_19, mq_39_20, mq_39_23, mq_39_24, mq_39_26, mq_39_27, mq_39_28, mq_39_31, mq_39_34, mq_39_35, nI_ltI (show d < 2 ^ 31 by omega) (show D < 2 ^ 31 by omega), show ¬ d < D by omega, Nat.reduceAdd, Nat.reduceMul, Nat.reduceSub, Nat.zero_add, sg_bi_i, sg_bi_n, sg_bz, sg_bb, sg_b_0, sg_b_1, if_true, if_false, not_true_eq_false, not_false_eq_true, true_and, and_true, false_and, and_false, and_self, Int32.reduceSub]
def fn_md (L : Nat) : Nat := if L < 4 then 2 else 1
theorem fn_md_ro (σ : sg_M) {L : Nat} (hL : L < 7) : sg_roV 1 σ L = nI (fn_md L) := by
  rcases L7 hL with rfl | rfl | rfl | rfl | rfl | rfl | rfl <;> rfl
theorem fn_md_2 (L : Nat) : fn_md L ≤ 2 := by unfold fn_md; split <;> omega
def fn_D (C : Nat → Int32) (a : Nat) : Nat × Int32 := fn_dn C (a + 1) (fn_md (fn_le (C a))) 0 0
def fn_rd (C : Nat → Int32) (b : Nat) : Nat → Nat → Nat → (Nat → Int32) → (Nat → Int32) → Option Nat × Nat × (Nat → Int32) × (Nat → Int32)
  | 0, a, k, f, g => (some (a - 1), k, f, g)
  | m + 1, a, k, f, g =>
    if fn_le (C a) = 7 then (some a, k, f, g)
    else if (fn_D C a).1 = 0 ∨ fn_ok (fn_le (C a)) (fn_D C a).2 = false then (some (a + 1), k, f, g)
    else if a + 1 + (fn_D C a).1 = b then (none, k + 1, upd f k (nI (fn_le (C a))), upd g k (fn_D C a).2)
    else if C (a + 1 + (fn_D C a).1) = 59 then fn_rd C b m (a + 1 + (fn_D C a).1 + 1) (k + 1) (upd f k (nI (fn_le (C a)))) (upd g k (fn_D C a).2)
    else (some (a + 1 + (fn_D C a).1), k + 1, upd f k (nI (fn_le (C a))), upd g k (fn_D C a).2)
def iv_itm (f g : Nat → Int32) (j : Nat) : Prop := ∃ L v : Nat, L < 7 ∧ v < 100 ∧ f j = nI L ∧ g j = nI v
theorem itm_upd {f g : Nat → Int32} {k : Nat} {L : Nat} {v : Int32} (h : ∀ j, j < k → iv_itm f g j) (hL : L < 7) (hv : ∃ j : Nat, j < 100 ∧ v = nI j) : ∀ j, j < k + 1 → iv_itm (upd f k (nI L)) (upd g k v) j := by
  intro j hj
  obtain ⟨w, hw, rfl⟩ := hv
  by_cases e : j = k
  · subst e
    exact ⟨L, w, hL, hw, upd_same _ _ _, upd_same _ _ _⟩
  · obtain ⟨L', v', a, b, c, d⟩ := h j (by omega)
    exact ⟨L', v', a, b, by rw [upd_ne e]; exact c, by rw [upd_ne e]; exact d⟩
theorem fn_rd_ok (C : Nat → Int32) (b : Nat) : ∀ m a k f g, (∀ j, j < k → iv_itm f g j) → k ≤ (fn_rd C b m a k f g).2.1 ∧ (fn_rd C b m a k f g).2.1 ≤ k + m ∧ ((fn_rd C b m a k f g).1 = none → k + 1 ≤ (fn_rd C b m a k f g).2.1) ∧ ∀ j, j < (fn_rd C b m a k f g).2.1 → iv_itm (fn_rd C b m a k f g).2.2.1 (fn_rd C b m a k f g).2.2.2 j := by
  intro m
  induction m with
  | zero =>
    intro a k f g h
    exact ⟨Nat.le_refl k, Nat.le_refl k, fun z => by simp [fn_rd] at z, h⟩
  | succ m ih =>
    intro a k f g h
    simp only [fn_rd]
    by_cases h1 : fn_le (C a) = 7
    · rw [if_pos h1]
      exact ⟨Nat.le_refl k, by show k ≤ k + (m + 1); omega, fun z => by simp at z, h⟩
    · rw [if_neg h1]
      by_cases h2 : (fn_D C a).1 = 0 ∨ fn_ok (fn_le (C a)) (fn_D C a).2 = false
      · rw [if_pos h2]
        exact ⟨Nat.le_refl k, by show k ≤ k + (m + 1); omega, fun z => by simp at z, h⟩
      · rw [if_neg h2]
        obtain ⟨h3, h4⟩ := not_or.mp h2
        have h4 : fn_ok (fn_le (C a)) (fn_D C a).2 = true := by simpa using h4
        have hu := itm_upd (f := f) (g := g) (k := k) (L := fn_le (C a)) (v := (fn_D C a).2) h (by have := fn_le_7 (C a); omega) (fn_ok_rg h4)
        by_cases h5 : a + 1 + (fn_D C a).1 = b
        · rw [if_pos h5]
          exact ⟨by show k ≤ k + 1; omega, by show k + 1 ≤ _; omega, fun _ => Nat.le_refl _, hu⟩
        · rw [if_neg h5]
          by_cases h6 : C (a + 1 + (fn_D C a).1) = 59
          · rw [if_pos h6]
            obtain ⟨i1, i2, i3, i4⟩ := ih (a + 1 + (fn_D C a).1 + 1) (k + 1) _ _ hu
            exact ⟨by omega, by omega, fun z => by have := i3 z; omega, i4⟩
          · rw [if_neg h6]
            exact ⟨by show k ≤ k + 1; omega, by show k + 1 ≤ _; omega, fun z => by simp at z, hu⟩
theorem fn_rd_rl (C : Nat → Int32) (b : Nat) : ∀ m a k f g f' g', (∀ j, j < k → f j = f' j ∧ g j = g' j) → (fn_rd C b m a k f g).1 = (fn_rd C b m a k f' g').1 ∧ (fn_rd C b m a k f g).2.1 = (fn_rd C b m a k f' g').2.1 ∧ ∀ j, j < (fn_rd C b m a k f g).2.1 → (fn_rd C b m a k f g).2.2.1 j = (fn_rd C b m a k f' g').2.2.1 j ∧ (fn_rd C b m a k f g).2.2.2 j = (fn_rd C b m a k f' g').2.2.2 j := by
  intro m
  induction m with
  | zero => intro a k f g f' g' h; exact ⟨rfl, rfl, h⟩
  | succ m ih =>
    intro a k f g f' g' h
    have hu : ∀ (x y : Int32) j, j < k + 1 → upd f k x j = upd f' k x j ∧ upd g k y j = upd g' k y j := by
      intro x y j hj
      by_cases e : j = k
      · subst e; rw [upd_same, upd_same, upd_same, upd_same]; exact ⟨rfl, rfl⟩
      · rw [upd_ne e, upd_ne e, upd_ne e, upd_ne e]; exact h j (by omega)
    simp only [fn_rd]
    by_cases h1 : fn_le (C a) = 7
    · rw [if_pos h1, if_pos h1]; exact ⟨rfl, rfl, h⟩
    · rw [if_neg h1, if_neg h1]
      by_cases h2 : (fn_D C a).1 = 0 ∨ fn_ok (fn_le (C a)) (fn_D C a).2 = false
      · rw [if_pos h2, if_pos h2]; exact ⟨rfl, rfl, h⟩
      · rw [if_neg h2, if_neg h2]
        by_cases h5 : a + 1 + (fn_D C a).1 = b
        · rw [if_pos h5, if_pos h5]; exact ⟨rfl, rfl, hu _ _⟩
        · rw [if_neg h5, if_neg h5]
          by_cases h6 : C (a + 1 + (fn_D C a).1) = 59
          · rw [if_pos h6, if_pos h6]; exact ih _ _ _ _ _ _ (hu _ _)
          · rw [if_neg h6, if_neg h6]; exact ⟨rfl, rfl, hu _ _⟩
