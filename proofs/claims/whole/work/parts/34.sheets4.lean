theorem sg_60i {k i len : Int32} (h : 0 ≤ k ∧ k ≤ 3) (hi : 0 ≤ i ∧ i < len) (hl : len.toInt ≤ 60) : (sg_in (60 * k + i) 240 = true ∧ (60 * k + i).toNatClampNeg = 60 * k.toNatClampNeg + i.toNatClampNeg) ∧ sg_in i 60 = true := by
  obtain ⟨a, b⟩ := hi
  rw [Int32.lt_iff_toInt_lt] at b
  have a' := a
  rw [Int32.le_iff_toInt_le, sg_t0] at a'
  obtain ⟨j, hj, rfl⟩ := nI_of (x := i) (by rw [Int32.not_lt]; exact a)
  rw [nI_toInt hj] at b
  rw [sg_nIc hj]
  exact ⟨sg_60 h (by omega), sg_in_nI (by omega) (by omega)⟩
theorem em_put (σ : sg_M) (k i v : Int32) (hl : 0 ≤ k ∧ k ≤ 3 → iv_len (σ 142 k.toNatClampNeg)) : sg_ev 184 σ [sg_r 7 120, sg_i k, sg_i i, sg_i v] = if ¬ (0 ≤ k ∧ k ≤ 3) then some (some (sg_i (-1)), sg_up σ 120 0 0) else if σ 142 k.toNatClampNeg = -1 then some (some (sg_i (-11)), sg_up σ 120 0 1) else if ¬ (0 ≤ i ∧ i < σ 142 k.toNatClampNeg) then some (some (sg_i (-13)), sg_up σ 120 0 3)
    else some (some (sg_i 1), sg_up (sg_up σ 144 (60 * k.toNatClampNeg + i.toNatClampNeg) (fn_lane (σ 143 k.toNatClampNeg) v)) 120 0 0) := by
  by_cases h1 : 0 ≤ k ∧ k ≤ 3
  · have hl := hl h1
    by_cases h2 : σ 142 k.toNatClampNeg = -1
    · simp (decide := true) only [me_184, mq_184_0, mq_184_1, mq_184_4, mq_184_7, mq_184_8, mq_184_9, mq_184_12, mq_184_13, mq_184_14, mq_184_15, mq_184_16, mq_184_19, mq_184_22, mq_184_23, mq_184_24, mq_184_25, mq_184_26, mq_184_29, mq_184_32, mq_184_33, mq_184_34, mq_184_37, mq_184_39, mq_184_40, mq_184_41, mq_184_42, mq_184_43, mq_184_44, mq_184_47, mq_184_48, mq_184_49, mq_184_52, mq_184_53, mq_184_54, mq_184_57, mq_184_58, mq_184_61, mq_184_62, mq_184_63, mq_184_64, mq_184_67, mq_184_68, mq_184_69, mq_184_72, mq_184_73, mq_184_74, mq_184_75, mq_184_76, mq_184_79, em_noSheet, em_noCell σ k i h1 hl, em_failed, h1, h2, Nat.reduceAdd, Nat.reduceMul, Nat.reduceSub, Nat.zero_add, sg_bi_i, sg_bi_n, sg_bz, sg_bb, sg_b_0, sg_b_1, if_true, if_false, not_true_eq_false, not_false_eq_true, true_and, and_true, false_and, and_false, and_self, Int32.reduceSub]
    · rcases hl with hl | hl
      · exact absurd hl h2
      · by_cases h3 : 0 ≤ i ∧ i < σ 142 k.toNatClampNeg
        · obtain ⟨⟨g1, g2⟩, g3⟩ := sg_60i h1 h3 hl.2
          simp (decide := true) only [me_184, mq_184_0, mq_184_1, mq_184_4, mq_184_7, mq_184_8, mq_184_9, mq_184_12, mq_184_13, mq_184_14, mq_184_15, mq_184_16, mq_184_19, mq_184_22, mq_184_23, mq_184_24, mq_184_25, mq_184_26, mq_184_29, mq_184_32, mq_184_33, mq_184_34, mq_184_37, mq_184_39, mq_184_40, mq_184_41, mq_184_42, mq_184_43, mq_184_44, mq_184_47, mq_184_48, mq_184_49, mq_184_52, mq_184_53, mq_184_54, mq_184_57, mq_184_58, mq_184_61, mq_184_62, mq_184_63, mq_184_64, mq_184_67, mq_184_68, mq_184_69, mq_184_72, mq_184_73, mq_184_74, mq_184_75, mq_184_76, mq_184_79, em_noSheet, em_noCell σ k i h1 (Or.inr hl), em_refused, sg_k4 h1, g1, g2, h1, h2, h3, Nat.reduceAdd, Nat.reduceMul, Nat.reduceSub, Nat.zero_add, sg_bi_i, sg_bi_n, sg_bz, sg_bb, sg_b_0, sg_b_1, if_true, if_false, not_true_eq_false, not_false_eq_true, true_and, and_true, false_and, and_false, and_self, Int32.reduceSub]
          unfold fn_lane
          by_cases h4 : σ 143 k.toNatClampNeg = 0
          · simp (decide := true) only [me_184, mq_184_0, mq_184_1, mq_184_4, mq_184_7, mq_184_8, mq_184_9, mq_184_12, mq_184_13, mq_184_14, mq_184_15, mq_184_16, mq_184_19, mq_184_22, mq_184_23, mq_184_24, mq_184_25, mq_184_26, mq_184_29, mq_184_32, mq_184_33, mq_184_34, mq_184_37, mq_184_39, mq_184_40, mq_184_41, mq_184_42, mq_184_43, mq_184_44, mq_184_47, mq_184_48, mq_184_49, mq_184_52, mq_184_53, mq_184_54, mq_184_57, mq_184_58, mq_184_61, mq_184_62, mq_184_63, mq_184_64, mq_184_67, mq_184_68, mq_184_69, mq_184_72, mq_184_73, mq_184_74, mq_184_75, mq_184_76, mq_184_79, em_refused, sg_k4 h1, g1, g2, h4, Nat.reduceAdd, Nat.reduceMul, Nat.reduceSub, Nat.zero_add, sg_bi_i, sg_bi_n, sg_bz, sg_bb, sg_b_0, sg_b_1, if_true, if_false, not_true_eq_false, not_false_eq_true, true_and, and_true, false_and, and_false, and_self, Int32.reduceSub]
          · by_cases h5 : σ 143 k.toNatClampNeg = 1 <;> simp (decide := true) only [me_184, mq_184_0, mq_184_1, mq_184_4, mq_184_7, mq_184_8, mq_184_9, mq_184_12, mq_184_13, mq_184_14, mq_184_15, mq_184_16, mq_184_19, mq_184_22, mq_184_23, mq_184_24, mq_184_25, mq_184_26, mq_184_29, mq_184_32, mq_184_33, mq_184_34, mq_184_37, mq_184_39, mq_184_40, mq_184_41, mq_184_42, mq_184_43, mq_184_44, mq_184_47, mq_184_48, mq_184_49, mq_184_52, mq_184_53, mq_184_54, mq_184_57, mq_184_58, mq_184_61, mq_184_62, mq_184_63, mq_184_64, mq_184_67, mq_184_68, mq_184_69, mq_184_72, mq_184_73, mq_184_74, mq_184_75, mq_184_76, mq_184_79, em_refused, sg_k4 h1, g1, g2, h4, h5, Nat.reduceAdd, Nat.reduceMul, Nat.reduceSub, Nat.zero_add, sg_bi_i, sg_bi_n, sg_bz, sg_bb, sg_b_0, sg_b_1, if_true, if_false, not_true_eq_false, not_false_eq_true, true_and, and_true, false_and, and_false, and_self, Int32.reduceSub]
        · simp (decide := true) only [me_184, mq_184_0, mq_184_1, mq_184_4, mq_184_7, mq_184_8, mq_184_9, mq_184_12, mq_184_13, mq_184_14, mq_184_15, mq_184_16, mq_184_19, mq_184_22, mq_184_23, mq_184_24, mq_184_25, mq_184_26, mq_184_29, mq_184_32, mq_184_33, mq_184_34, mq_184_37, mq_184_39, mq_184_40, mq_184_41, mq_184_42, mq_184_43, mq_184_44, mq_184_47, mq_184_48, mq_184_49, mq_184_52, mq_184_53, mq_184_54, mq_184_57, mq_184_58, mq_184_61, mq_184_62, mq_184_63, mq_184_64, mq_184_67, mq_184_68, mq_184_69, mq_184_72, mq_184_73, mq_184_74, mq_184_75, mq_184_76, mq_184_79, em_noSheet, em_noCell σ k i h1 (Or.inr hl), em_failed, h1, h2, h3, Nat.reduceAdd, Nat.reduceMul, Nat.reduceSub, Nat.zero_add, sg_bi_i, sg_bi_n, sg_bz, sg_bb, sg_b_0, sg_b_1, if_true, if_false, not_true_eq_false, not_false_eq_true, true_and, and_true, false_and, and_false, and_self, Int32.reduceSub]
  · simp (decide := true) only [me_184, mq_184_0, mq_184_1, mq_184_4, mq_184_7, mq_184_8, mq_184_9, mq_184_12, mq_184_13, mq_184_14, mq_184_15, mq_184_16, mq_184_19, mq_184_22, mq_184_23, mq_184_24, mq_184_25, mq_184_26, mq_184_29, mq_184_32, mq_184_33, mq_184_34, mq_184_37, mq_184_39, mq_184_40, mq_184_41, mq_184_42, mq_184_43, mq_184_44, mq_184_47, mq_184_48, mq_184_49, mq_184_52, mq_184_53, mq_184_54, mq_184_57, mq_184_58, mq_184_61, mq_184_62, mq_184_63, mq_184_64, mq_184_67, mq_184_68, mq_184_69, mq_184_72, mq_184_73, mq_184_74, mq_184_75, mq_184_76, mq_184_79, em_noSheet, em_refused, h1, Nat.reduceAdd, Nat.reduceMul, Nat.reduceSub, Nat.zero_add, sg_bi_i, sg_bi_n, sg_bz, sg_bb, sg_b_0, sg_b_1, if_true, if_false, not_true_eq_false, not_false_eq_true, true_and, and_true, false_and, and_false, and_self, Int32.reduceSub]
theorem fn_bar_0 {k lane i : Int32} {n : Int64} {ln len : Int32} (h : (fn_bar k lane i n ln len).1 = 0) : (0 ≤ k ∧ k ≤ 3) ∧ (0 ≤ lane ∧ lane ≤ 2) ∧ ¬ len = -1 ∧ ln = lane ∧ ¬ n < 0 ∧ (0 ≤ i ∧ i ≤ len ∧ n ≤ (len - i).toInt64) ∧ (fn_bar k lane i n ln len).2 = 0 := by
  unfold fn_bar at h ⊢
  by_cases h1 : 0 ≤ k ∧ k ≤ 3
  · by_cases h2 : 0 ≤ lane ∧ lane ≤ 2
    · by_cases h3 : len = -1
      · simp (decide := true) [h1, h2, h3] at h
      · by_cases h4 : ln = lane
        · by_cases h5 : n < 0
          · simp (decide := true) [h1, h2, h3, h4, h5] at h
          · by_cases h6 : 0 ≤ i ∧ i ≤ len ∧ n ≤ (len - i).toInt64
            · simp (decide := true) only [h1, h2, h3, h4, h5, h6, Nat.reduceAdd, Nat.reduceMul, Nat.reduceSub, Nat.zero_add, sg_bi_i, sg_bi_n, sg_bz, sg_bb, sg_b_0, sg_b_1, if_true, if_false, not_true_eq_false, not_false_eq_true, true_and, and_true, false_and, and_false, and_self, Int32.reduceSub]
            · simp (decide := true) only [h1, h2, h3, h4, h5, h6, Nat.reduceAdd, Nat.reduceMul, Nat.reduceSub, Nat.zero_add, sg_bi_i, sg_bi_n, sg_bz, sg_bb, sg_b_0, sg_b_1, if_true, if_false, not_true_eq_false, not_false_eq_true, true_and, and_true, false_and, and_false, and_self, Int32.reduceSub] at h
        · simp (decide := true) [h1, h2, h3, h4] at h
    · simp (decide := true) [h1, h2] at h
  · simp (decide := true) [h1] at h
theorem fn_cov1 {i len : Int32} (hl : iv_len len) (h3 : ¬ len = -1) : (0 ≤ i ∧ i ≤ len ∧ (1 : Int64) ≤ (len - i).toInt64) ↔ (0 ≤ i ∧ i < len) := by
  rcases hl with hl | hl
  · exact absurd hl h3
  · have b1 := Int32.le_toInt i
    have b2 := Int32.toInt_lt i
    have e1 : (1 : Int64).toInt = 1 := by decide
    rw [Int64.le_iff_toInt_le, Int32.lt_iff_toInt_lt, Int32.le_iff_toInt_le, Int32.le_iff_toInt_le, Int32.toInt_toInt64, sg_t0, e1, Int32.toInt_sub]
    by_cases hi : 0 ≤ i.toInt ∧ i.toInt ≤ len.toInt
    · rw [Int.bmod_eq_of_le (n := len.toInt - i.toInt) (by omega) (by omega)]
      omega
    · omega
theorem ev_cell (σ : sg_M) (k i lane : Int32) (hl : 0 ≤ k ∧ k ≤ 3 → iv_len (σ (112 + 2 * k.toNatClampNeg) 2)) : sg_ev 99 σ [sg_r 1 0, sg_i k, sg_i i, sg_i lane] = some (some (sg_l (if (fn_bar k lane i 1 (σ (112 + 2 * k.toNatClampNeg) 1) (σ (112 + 2 * k.toNatClampNeg) 2)).1 = 0 then (σ (113 + 2 * k.toNatClampNeg) i.toNatClampNeg).toInt64 else -9223372036854775808)), sg_up σ 0 12 (fn_bar k lane i 1 (σ (112 + 2 * k.toNatClampNeg) 1) (σ (112 + 2 * k.toNatClampNeg) 2)).2) := by
  have hb := ev_bar σ k lane i 1 1 (Or.inl rfl)
  rw [show (1 : Int32).toInt64 * (1 : Int32).toInt64 = 1 by decide] at hb
  simp (decide := true) only [me_99, mq_99_0, mq_99_1, mq_99_2, mq_99_3, mq_99_4, mq_99_5, mq_99_6, mq_99_9, hb, Nat.reduceAdd, Nat.reduceMul, Nat.reduceSub, Nat.zero_add, sg_bi_i, sg_bi_n, sg_bz, sg_bb, sg_b_0, sg_b_1, if_true, if_false, not_true_eq_false, not_false_eq_true, true_and, and_true, false_and, and_false, and_self, Int32.reduceSub]
  by_cases h : (fn_bar k lane i 1 (σ (112 + 2 * k.toNatClampNeg) 1) (σ (112 + 2 * k.toNatClampNeg) 2)).1 = 0
  · obtain ⟨h1, h2, h3, h4, h5, h6, h7⟩ := fn_bar_0 h
    have hl := hl h1
    have h8 := (fn_cov1 hl h3).mp h6
    have hin : sg_in i 60 = true := by
      rcases hl with hl | hl
      · exact absurd hl h3
      · exact (sg_60i h1 h8 hl.2).2
    simp (decide := true) only [mq_99_12, mq_99_15, mq_99_18, mq_99_19, mq_99_22, mq_99_23, mq_99_24, mq_99_27, mq_99_28, mq_99_29, mq_99_30, h, sg_k4 h1, hin, h7, Nat.reduceAdd, Nat.reduceMul, Nat.reduceSub, Nat.zero_add, sg_bi_i, sg_bi_n, sg_bz, sg_bb, sg_b_0, sg_b_1, if_true, if_false, not_true_eq_false, not_false_eq_true, true_and, and_true, false_and, and_false, and_self, Int32.reduceSub]
    rw [show 112 + 2 * k.toNatClampNeg + 1 = 113 + 2 * k.toNatClampNeg by omega, sg_up_ne (by omega)]
  · simp (decide := true) only [mq_99_12, mq_99_15, mq_99_18, mq_99_19, mq_99_22, mq_99_23, mq_99_24, mq_99_27, mq_99_28, mq_99_29, mq_99_30, h, Nat.reduceAdd, Nat.reduceMul, Nat.reduceSub, Nat.zero_add, sg_bi_i, sg_bi_n, sg_bz, sg_bb, sg_b_0, sg_b_1, if_true, if_false, not_true_eq_false, not_false_eq_true, true_and, and_true, false_and, and_false, and_self, Int32.reduceSub]
theorem em_cell (σ : sg_M) (k i lane : Int32) (hl : 0 ≤ k ∧ k ≤ 3 → iv_len (σ 142 k.toNatClampNeg)) : sg_ev 186 σ [sg_r 7 120, sg_i k, sg_i i, sg_i lane] = some (some (sg_l (if (fn_bar k lane i 1 (σ 143 k.toNatClampNeg) (σ 142 k.toNatClampNeg)).1 = 0 then (σ 144 (60 * k.toNatClampNeg + i.toNatClampNeg)).toInt64 else -9223372036854775808)), sg_up σ 120 0 (fn_bar k lane i 1 (σ 143 k.toNatClampNeg) (σ 142 k.toNatClampNeg)).2) := by
  by_cases h1 : 0 ≤ k ∧ k ≤ 3
  · have hl := hl h1
    have e1 : sg_up σ 120 0 0 142 = σ 142 := sg_up_ne (by omega)
    have e2 : sg_up σ 120 0 0 143 = σ 143 := sg_up_ne (by omega)
    have e3 : sg_up σ 120 0 0 144 = σ 144 := sg_up_ne (by omega)
    have hnc := em_noCell (sg_up σ 120 0 0) k i h1 (by rw [e1]; exact hl)
    rw [e1] at hnc
    by_cases h2 : 0 ≤ lane ∧ lane ≤ 2
    · simp (decide := true) only [me_186, mq_186_0, mq_186_1, mq_186_2, mq_186_5, mq_186_6, mq_186_9, mq_186_12, mq_186_13, mq_186_14, mq_186_15, mq_186_18, mq_186_21, mq_186_24, mq_186_27, mq_186_28, mq_186_29, mq_186_32, mq_186_33, mq_186_34, mq_186_37, mq_186_38, mq_186_41, mq_186_42, mq_186_43, mq_186_44, mq_186_47, mq_186_48, mq_186_49, mq_186_52, mq_186_53, mq_186_54, mq_186_55, mq_186_56, mq_186_59, mq_186_62, mq_186_63, mq_186_64, mq_186_65, mq_186_66, mq_186_69, mq_186_72, mq_186_75, mq_186_76, mq_186_79, mq_186_81, mq_186_82, mq_186_83, mq_186_84, mq_186_85, mq_186_86, mq_186_87, em_noSheet, em_in, sg_i64 lane 0 2 0 2 (by decide) (by decide), sg_k4 h1, h1, h2, e1, e2, e3, Nat.reduceAdd, Nat.reduceMul, Nat.reduceSub, Nat.zero_add, sg_bi_i, sg_bi_n, sg_bz, sg_bb, sg_b_0, sg_b_1, if_true, if_false, not_true_eq_false, not_false_eq_true, true_and, and_true, false_and, and_false, and_self, Int32.reduceSub]
      unfold fn_bar
      by_cases h3 : σ 142 k.toNatClampNeg = -1
      · simp (decide := true) only [me_186, mq_186_0, mq_186_1, mq_186_2, mq_186_5, mq_186_6, mq_186_9, mq_186_12, mq_186_13, mq_186_14, mq_186_15, mq_186_18, mq_186_21, mq_186_24, mq_186_27, mq_186_28, mq_186_29, mq_186_32, mq_186_33, mq_186_34, mq_186_37, mq_186_38, mq_186_41, mq_186_42, mq_186_43, mq_186_44, mq_186_47, mq_186_48, mq_186_49, mq_186_52, mq_186_53, mq_186_54, mq_186_55, mq_186_56, mq_186_59, mq_186_62, mq_186_63, mq_186_64, mq_186_65, mq_186_66, mq_186_69, mq_186_72, mq_186_75, mq_186_76, mq_186_79, mq_186_81, mq_186_82, mq_186_83, mq_186_84, mq_186_85, mq_186_86, mq_186_87, h1, h2, h3, hnc, em_failedLong, sg_up_up, Nat.reduceAdd, Nat.reduceMul, Nat.reduceSub, Nat.zero_add, sg_bi_i, sg_bi_n, sg_bz, sg_bb, sg_b_0, sg_b_1, if_true, if_false, not_true_eq_false, not_false_eq_true, true_and, and_true, false_and, and_false, and_self, Int32.reduceSub]
      · have h4 : ¬ σ 142 k.toNatClampNeg < 0 := by
          rcases hl with hl | hl
          · exact absurd hl h3
          · rw [Int32.lt_iff_toInt_lt, sg_t0]; omega
        by_cases h5 : σ 143 k.toNatClampNeg = lane
        · have h6 : ¬ (1 : Int64) < 0 := by decide
          have h7 := fn_cov1 (i := i) hl h3
          by_cases h8 : 0 ≤ i ∧ i < σ 142 k.toNatClampNeg
          · have h9 := h7.mpr h8
            have h10 : (60 * k + i).toNatClampNeg = 60 * k.toNatClampNeg + i.toNatClampNeg ∧ sg_in (60 * k + i) 240 = true := by
              rcases hl with hl | hl
              · exact absurd hl h3
              · exact ⟨(sg_60i h1 h8 hl.2).1.2, (sg_60i h1 h8 hl.2).1.1⟩
            simp (decide := true) only [me_186, mq_186_0, mq_186_1, mq_186_2, mq_186_5, mq_186_6, mq_186_9, mq_186_12, mq_186_13, mq_186_14, mq_186_15, mq_186_18, mq_186_21, mq_186_24, mq_186_27, mq_186_28, mq_186_29, mq_186_32, mq_186_33, mq_186_34, mq_186_37, mq_186_38, mq_186_41, mq_186_42, mq_186_43, mq_186_44, mq_186_47, mq_186_48, mq_186_49, mq_186_52, mq_186_53, mq_186_54, mq_186_55, mq_186_56, mq_186_59, mq_186_62, mq_186_63, mq_186_64, mq_186_65, mq_186_66, mq_186_69, mq_186_72, mq_186_75, mq_186_76, mq_186_79, mq_186_81, mq_186_82, mq_186_83, mq_186_84, mq_186_85, mq_186_86, mq_186_87, h1, h2, h3, h4, h5, h6, h8, h9, h10, hnc, e3, Nat.reduceAdd, Nat.reduceMul, Nat.reduceSub, Nat.zero_add, sg_bi_i, sg_bi_n, sg_bz, sg_bb, sg_b_0, sg_b_1, if_true, if_false, not_true_eq_false, not_false_eq_true, true_and, and_true, false_and, and_false, and_self, Int32.reduceSub]
          · have h9 : ¬ (0 ≤ i ∧ i ≤ σ 142 k.toNatClampNeg ∧ (1 : Int64) ≤ (σ 142 k.toNatClampNeg - i).toInt64) := fun q => h8 (h7.mp q)
            simp (decide := true) only [me_186, mq_186_0, mq_186_1, mq_186_2, mq_186_5, mq_186_6, mq_186_9, mq_186_12, mq_186_13, mq_186_14, mq_186_15, mq_186_18, mq_186_21, mq_186_24, mq_186_27, mq_186_28, mq_186_29, mq_186_32, mq_186_33, mq_186_34, mq_186_37, mq_186_38, mq_186_41, mq_186_42, mq_186_43, mq_186_44, mq_186_47, mq_186_48, mq_186_49, mq_186_52, mq_186_53, mq_186_54, mq_186_55, mq_186_56, mq_186_59, mq_186_62, mq_186_63, mq_186_64, mq_186_65, mq_186_66, mq_186_69, mq_186_72, mq_186_75, mq_186_76, mq_186_79, mq_186_81, mq_186_82, mq_186_83, mq_186_84, mq_186_85, mq_186_86, mq_186_87, h1, h2, h3, h4, h5, h6, h8, h9, hnc, em_failedLong, sg_up_up, Nat.reduceAdd, Nat.reduceMul, Nat.reduceSub, Nat.zero_add, sg_bi_i, sg_bi_n, sg_bz, sg_bb, sg_b_0, sg_b_1, if_true, if_false, not_true_eq_false, not_false_eq_true, true_and, and_true, false_and, and_false, and_self, Int32.reduceSub]
        · simp (decide := true) only [me_186, mq_186_0, mq_186_1, mq_186_2, mq_186_5, mq_186_6, mq_186_9, mq_186_12, mq_186_13, mq_186_14, mq_186_15, mq_186_18, mq_186_21, mq_186_24, mq_186_27, mq_186_28, mq_186_29, mq_186_32, mq_186_33, mq_186_34, mq_186_37, mq_186_38, mq_186_41, mq_186_42, mq_186_43, mq_186_44, mq_186_47, mq_186_48, mq_186_49, mq_186_52, mq_186_53, mq_186_54, mq_186_55, mq_186_56, mq_186_59, mq_186_62, mq_186_63, mq_186_64, mq_186_65, mq_186_66, mq_186_69, mq_186_72, mq_186_75, mq_186_76, mq_186_79, mq_186_81, mq_186_82, mq_186_83, mq_186_84, mq_186_85, mq_186_86, mq_186_87, h1, h2, h3, h4, h5, em_failedLong, sg_up_up, Nat.reduceAdd, Nat.reduceMul, Nat.reduceSub, Nat.zero_add, sg_bi_i, sg_bi_n, sg_bz, sg_bb, sg_b_0, sg_b_1, if_true, if_false, not_true_eq_false, not_false_eq_true, true_and, and_true, false_and, and_false, and_self, Int32.reduceSub]
    · simp (decide := true) only [me_186, mq_186_0, mq_186_1, mq_186_2, mq_186_5, mq_186_6, mq_186_9, mq_186_12, mq_186_13, mq_186_14, mq_186_15, mq_186_18, mq_186_21, mq_186_24, mq_186_27, mq_186_28, mq_186_29, mq_186_32, mq_186_33, mq_186_34, mq_186_37, mq_186_38, mq_186_41, mq_186_42, mq_186_43, mq_186_44, mq_186_47, mq_186_48, mq_186_49, mq_186_52, mq_186_53, mq_186_54, mq_186_55, mq_186_56, mq_186_59, mq_186_62, mq_186_63, mq_186_64, mq_186_65, mq_186_66, mq_186_69, mq_186_72, mq_186_75, mq_186_76, mq_186_79, mq_186_81, mq_186_82, mq_186_83, mq_186_84, mq_186_85, mq_186_86, mq_186_87, em_noSheet, em_in, em_lost, sg_i64 lane 0 2 0 2 (by decide) (by decide), h1, h2, Nat.reduceAdd, Nat.reduceMul, Nat.reduceSub, Nat.zero_add, sg_bi_i, sg_bi_n, sg_bz, sg_bb, sg_b_0, sg_b_1, if_true, if_false, not_true_eq_false, not_false_eq_true, true_and, and_true, false_and, and_false, and_self, Int32.reduceSub]
      unfold fn_bar
      simp (decide := true) only [h1, h2, Nat.reduceAdd, Nat.reduceMul, Nat.reduceSub, Nat.zero_add, sg_bi_i, sg_bi_n, sg_bz, sg_bb, sg_b_0, sg_b_1, if_true, if_false, not_true_eq_false, not_false_eq_true, true_and, and_true, false_and, and_false, and_self, Int32.reduceSub]
  · simp (decide := true) only [me_186, mq_186_0, mq_186_1, mq_186_2, mq_186_5, mq_186_6, mq_186_9, mq_186_12, mq_186_13, mq_186_14, mq_186_15, mq_186_18, mq_186_21, mq_186_24, mq_186_27, mq_186_28, mq_186_29, mq_186_32, mq_186_33, mq_186_34, mq_186_37, mq_186_38, mq_186_41, mq_186_42, mq_186_43, mq_186_44, mq_186_47, mq_186_48, mq_186_49, mq_186_52, mq_186_53, mq_186_54, mq_186_55, mq_186_56, mq_186_59, mq_186_62, mq_186_63, mq_186_64, mq_186_65, mq_186_66, mq_186_69, mq_186_72, mq_186_75, mq_186_76, mq_186_79, mq_186_81, mq_186_82, mq_186_83, mq_186_84, mq_186_85, mq_186_86, mq_186_87, em_noSheet, em_lost, h1, Nat.reduceAdd, Nat.reduceMul, Nat.reduceSub, Nat.zero_add, sg_bi_i, sg_bi_n, sg_bz, sg_bb, sg_b_0, sg_b_1, if_true, if_false, not_true_eq_false, not_false_eq_true, true_and, and_true, false_and, and_false, and_self, Int32.reduceSub]
    unfold fn_bar
    simp (decide := true) only [h1, Nat.reduceAdd, Nat.reduceMul, Nat.reduceSub, Nat.zero_add, sg_bi_i, sg_bi_n, sg_bz, sg_bb, sg_b_0, sg_b_1, if_true, if_false, not_true_eq_false, not_false_eq_true, true_and, and_true, false_and, and_false, and_self, Int32.reduceSub]
theorem ev_trace (σ : sg_M) : sg_ev 110 σ [sg_r 1 0] = some (some (sg_i (σ 0 11)), σ) := by simp (decide := true) only [me_110, mq_110_0, mq_110_1, mq_110_4]
theorem ev_fault (σ : sg_M) : sg_ev 111 σ [sg_r 1 0] = some (some (sg_i (σ 0 12)), σ) := by simp (decide := true) only [me_111, mq_111_0, mq_111_1, mq_111_4]
theorem em_trace (σ : sg_M) : sg_ev 196 σ [sg_r 7 120] = some (some (sg_i (σ 120 36)), σ) := by simp (decide := true) only [me_196, mq_196_0, mq_196_1, mq_196_4]
theorem em_fault (σ : sg_M) : sg_ev 197 σ [sg_r 7 120] = some (some (sg_i (σ 120 0)), σ) := by simp (decide := true) only [me_197, mq_197_0, mq_197_1, mq_197_4]
def fn_many (w a b c d : Int32) : Int32 := if w = 0 then a else if w = 1 then b else if w = 2 then c else if w = 3 then d else -2
theorem sg_out03 {w : Int32} (h0 : ¬ w = 0) (h1 : ¬ w = 1) (h2 : ¬ w = 2) (h3 : ¬ w = 3) : w.toInt < 0 ∨ 3 < w.toInt := by
  have g : ∀ z : Int32, ¬ w = z → ¬ w.toInt = z.toInt := fun z q e => q (Int32.toInt_inj.mp e)
  have a0 := g 0 h0
  have a1 := g 1 h1
  have a2 := g 2 h2
  have a3 := g 3 h3
  rw [sg_t0] at a0
  rw [sg_t1] at a1
  rw [sg_t2] at a2
  rw [sg_t3] at a3
  omega
theorem ev_many (σ : sg_M) (w : Int32) : sg_ev 112 σ [sg_r 1 0, sg_i w] = some (some (sg_i (fn_many w (σ 0 8) (σ 0 9) (σ 12 4) (σ 0 10))), σ) := by
  unfold fn_many
  simp (decide := true) only [me_112, mq_112_0]
  by_cases h0 : w = 0
  · subst h0; simp (decide := true) only [mq_112_1_0, mq_112_1_1, mq_112_1_2, mq_112_1_3, mq_112_1_d, mq_112_32, mq_112_33, mq_112_36, mq_112_37, mq_112_38, mq_112_41, mq_112_42, mq_112_43, mq_112_46, mq_112_49, mq_112_50, mq_112_51, mq_112_54, mq_112_55, mq_112_57, Nat.reduceAdd, Nat.reduceMul, Nat.reduceSub, Nat.zero_add, sg_bi_i, sg_bi_n, sg_bz, sg_bb, sg_b_0, sg_b_1, if_true, if_false, not_true_eq_false, not_false_eq_true, true_and, and_true, false_and, and_false, and_self, Int32.reduceSub]
  · by_cases h1 : w = 1
    · subst h1; simp (decide := true) only [mq_112_1_0, mq_112_1_1, mq_112_1_2, mq_112_1_3, mq_112_1_d, mq_112_32, mq_112_33, mq_112_36, mq_112_37, mq_112_38, mq_112_41, mq_112_42, mq_112_43, mq_112_46, mq_112_49, mq_112_50, mq_112_51, mq_112_54, mq_112_55, mq_112_57, Nat.reduceAdd, Nat.reduceMul, Nat.reduceSub, Nat.zero_add, sg_bi_i, sg_bi_n, sg_bz, sg_bb, sg_b_0, sg_b_1, if_true, if_false, not_true_eq_false, not_false_eq_true, true_and, and_true, false_and, and_false, and_self, Int32.reduceSub]
    · by_cases h2 : w = 2
      · subst h2; simp (decide := true) only [mq_112_1_0, mq_112_1_1, mq_112_1_2, mq_112_1_3, mq_112_1_d, mq_112_32, mq_112_33, mq_112_36, mq_112_37, mq_112_38, mq_112_41, mq_112_42, mq_112_43, mq_112_46, mq_112_49, mq_112_50, mq_112_51, mq_112_54, mq_112_55, mq_112_57, Nat.reduceAdd, Nat.reduceMul, Nat.reduceSub, Nat.zero_add, sg_bi_i, sg_bi_n, sg_bz, sg_bb, sg_b_0, sg_b_1, if_true, if_false, not_true_eq_false, not_false_eq_true, true_and, and_true, false_and, and_false, and_self, Int32.reduceSub]
      · by_cases h3 : w = 3
        · subst h3; simp (decide := true) only [mq_112_1_0, mq_112_1_1, mq_112_1_2, mq_112_1_3, mq_112_1_d, mq_112_32, mq_112_33, mq_112_36, mq_112_37, mq_112_38, mq_112_41, mq_112_42, mq_112_43, mq_112_46, mq_112_49, mq_112_50, mq_112_51, mq_112_54, mq_112_55, mq_112_57, Nat.reduceAdd, Nat.reduceMul, Nat.reduceSub, Nat.zero_add, sg_bi_i, sg_bi_n, sg_bz, sg_bb, sg_b_0, sg_b_1, if_true, if_false, not_true_eq_false, not_false_eq_true, true_and, and_true, false_and, and_false, and_self, Int32.reduceSub]
        · simp (decide := true) only [mq_112_1_d _ _ _ _ (sg_out03 h0 h1 h2 h3), mq_112_32, mq_112_33, mq_112_36, mq_112_37, mq_112_38, mq_112_41, mq_112_42, mq_112_43, mq_112_46, mq_112_49, mq_112_50, mq_112_51, mq_112_54, mq_112_55, mq_112_57, h0, h1, h2, h3, Nat.reduceAdd, Nat.reduceMul, Nat.reduceSub, Nat.zero_add, sg_bi_i, sg_bi_n, sg_bz, sg_bb, sg_b_0, sg_b_1, if_true, if_false, not_true_eq_false, not_false_eq_true, true_and, and_true, false_and, and_false, and_self, Int32.reduceSub]
theorem em_many (σ : sg_M) (w : Int32) : sg_ev 198 σ [sg_r 7 120, sg_i w] = some (some (sg_i (fn_many w (σ 120 1) (σ 120 16) (σ 120 26) (σ 120 24))), σ) := by
  unfold fn_many
  simp (decide := true) only [me_198, mq_198_0, mq_198_1, mq_198_4, mq_198_5, mq_198_8, mq_198_11, mq_198_12, mq_198_13, mq_198_16, mq_198_17, mq_198_20, mq_198_23, mq_198_24, mq_198_25, mq_198_28, mq_198_29, mq_198_32, mq_198_35, mq_198_36, mq_198_37, mq_198_40, mq_198_41, mq_198_44, mq_198_47, mq_198_49]
  by_cases h0 : w = 0
  · simp only [h0, if_true]
  · by_cases h1 : w = 1
    · simp (decide := true) only [h1, if_true, if_false]
    · by_cases h2 : w = 2
      · simp (decide := true) only [h2, if_true, if_false]
      · by_cases h3 : w = 3
        · simp (decide := true) only [h3, if_true, if_false]
        · simp only [h0, h1, h2, h3, if_false]
