theorem sg_nn {n : Int32} (h : ¬ n < 0) (h2 : ¬ 60 < n) : ∃ j : Nat, j ≤ 60 ∧ n = nI j := nI_of2 (M := 60) (n := 60) (by decide) h (Int32.not_lt.mp h2)
theorem em_sheet (σ : sg_M) (k lane n : Int32) : sg_ev 182 σ [sg_r 7 120, sg_i k, sg_i lane, sg_i n] = if ¬ (0 ≤ k ∧ k ≤ 3) then some (some (sg_i (-1)), sg_up σ 120 0 0) else if ¬ (0 ≤ lane ∧ lane ≤ 2) ∨ 60 < n then some (some (sg_i (-2)), sg_up σ 120 0 0) else if n < 0 then some (some (sg_i (-14)), sg_up σ 120 0 4)
    else some (some (sg_i 1), sg_up (sg_set (sg_up (sg_up σ 142 k.toNatClampNeg n) 143 k.toNatClampNeg lane) 144 (fun x => if 60 * k.toNatClampNeg ≤ x ∧ x < 60 * k.toNatClampNeg + n.toNatClampNeg then 0 else σ 144 x)) 120 0 0) := by
  by_cases h1 : 0 ≤ k ∧ k ≤ 3
  · by_cases h2 : 0 ≤ lane ∧ lane ≤ 2
    · by_cases h3 : 60 < n
      · simp (decide := true) only [me_182, mq_182_0, mq_182_1, mq_182_4, mq_182_7, mq_182_8, mq_182_9, mq_182_12, mq_182_13, mq_182_14, mq_182_15, mq_182_16, mq_182_19, mq_182_22, mq_182_25, mq_182_26, mq_182_28, mq_182_31, mq_182_32, mq_182_34, mq_182_37, em_noSheet, em_in, em_refused, sg_i64 lane 0 2 0 2 (by decide) (by decide), h1, h2, h3, false_or, Nat.reduceAdd, Nat.reduceMul, Nat.reduceSub, Nat.zero_add, sg_bi_i, sg_bi_n, sg_bz, sg_bb, sg_b_0, sg_b_1, if_true, if_false, not_true_eq_false, not_false_eq_true, true_and, and_true, false_and, and_false, and_self, Int32.reduceSub]
      · by_cases h4 : n < 0
        · simp (decide := true) only [me_182, mq_182_0, mq_182_1, mq_182_4, mq_182_7, mq_182_8, mq_182_9, mq_182_12, mq_182_13, mq_182_14, mq_182_15, mq_182_16, mq_182_19, mq_182_22, mq_182_25, mq_182_26, mq_182_28, mq_182_31, mq_182_32, mq_182_34, mq_182_37, mq_182_38, mq_182_39, mq_182_42, mq_182_43, mq_182_44, mq_182_47, em_noSheet, em_in, em_failed, sg_i64 lane 0 2 0 2 (by decide) (by decide), h1, h2, h3, h4, or_self, Nat.reduceAdd, Nat.reduceMul, Nat.reduceSub, Nat.zero_add, sg_bi_i, sg_bi_n, sg_bz, sg_bb, sg_b_0, sg_b_1, if_true, if_false, not_true_eq_false, not_false_eq_true, true_and, and_true, false_and, and_false, and_self, Int32.reduceSub]
        · obtain ⟨j, hj, rfl⟩ := sg_nn h4 h3
          simp (decide := true) only [me_182, mq_182_0, mq_182_1, mq_182_4, mq_182_7, mq_182_8, mq_182_9, mq_182_12, mq_182_13, mq_182_14, mq_182_15, mq_182_16, mq_182_19, mq_182_22, mq_182_25, mq_182_26, mq_182_28, mq_182_31, mq_182_32, mq_182_34, mq_182_37, mq_182_38, mq_182_39, mq_182_42, mq_182_43, mq_182_44, mq_182_47, mq_182_48, mq_182_49, mq_182_52, mq_182_53, mq_182_54, mq_182_55, mq_182_56, mq_182_59, mq_182_60, mq_182_61, mq_182_62, mq_182_63, em_noSheet, em_in, sg_k4 h1, sg_i64 lane 0 2 0 2 (by decide) (by decide), h1, h2, h3, h4, or_self, sg_nIc (show j < 2 ^ 31 by omega), Nat.reduceAdd, Nat.reduceMul, Nat.reduceSub, Nat.zero_add, sg_bi_i, sg_bi_n, sg_bz, sg_bb, sg_b_0, sg_b_1, if_true, if_false, not_true_eq_false, not_false_eq_true, true_and, and_true, false_and, and_false, and_self, Int32.reduceSub]
          have h := em_sheet_l σ (sg_up (sg_up σ 142 k.toNatClampNeg (nI j)) 143 k.toNatClampNeg lane) k lane j h1 hj j 0 (by omega)
          have e : sg_set (sg_up (sg_up σ 142 k.toNatClampNeg (nI j)) 143 k.toNatClampNeg lane) 144 (fun x => if 60 * k.toNatClampNeg ≤ x ∧ x < 60 * k.toNatClampNeg + 0 then 0 else σ 144 x) = sg_up (sg_up σ 142 k.toNatClampNeg (nI j)) 143 k.toNatClampNeg lane := by
            have : (fun x => if 60 * k.toNatClampNeg ≤ x ∧ x < 60 * k.toNatClampNeg + 0 then 0 else σ 144 x) = (sg_up (sg_up σ 142 k.toNatClampNeg (nI j)) 143 k.toNatClampNeg lane) 144 := by
              funext x
              rw [if_neg (by omega), sg_up_ne (by omega), sg_up_ne (by omega)]
            rw [this, sg_set_self]
          rw [e] at h
          exact h
    · simp (decide := true) only [me_182, mq_182_0, mq_182_1, mq_182_4, mq_182_7, mq_182_8, mq_182_9, mq_182_12, mq_182_13, mq_182_14, mq_182_15, mq_182_16, mq_182_19, mq_182_22, mq_182_25, mq_182_26, mq_182_28, mq_182_31, mq_182_32, mq_182_34, mq_182_37, em_noSheet, em_in, em_refused, sg_i64 lane 0 2 0 2 (by decide) (by decide), h1, h2, true_or, Nat.reduceAdd, Nat.reduceMul, Nat.reduceSub, Nat.zero_add, sg_bi_i, sg_bi_n, sg_bz, sg_bb, sg_b_0, sg_b_1, if_true, if_false, not_true_eq_false, not_false_eq_true, true_and, and_true, false_and, and_false, and_self, Int32.reduceSub]
  · simp (decide := true) only [me_182, mq_182_0, mq_182_1, mq_182_4, mq_182_7, mq_182_8, mq_182_9, mq_182_12, em_noSheet, em_refused, h1, Nat.reduceAdd, Nat.reduceMul, Nat.reduceSub, Nat.zero_add, sg_bi_i, sg_bi_n, sg_bz, sg_bb, sg_b_0, sg_b_1, if_true, if_false, not_true_eq_false, not_false_eq_true, true_and, and_true, false_and, and_false, and_self, Int32.reduceSub]
theorem ev_lose (σ : sg_M) (k : Int32) : sg_ev 95 σ [sg_r 1 0, sg_i k] = if ¬ (0 ≤ k ∧ k ≤ 3) then some (some (sg_i (-1)), σ) else some (some (sg_i (if σ (112 + 2 * k.toNatClampNeg) 2 = -1 then 0 else 1)), sg_up σ (112 + 2 * k.toNatClampNeg) 2 (-1)) := by
  by_cases h1 : 0 ≤ k ∧ k ≤ 3
  · simp (decide := true) only [me_95, mq_95_0, mq_95_1, mq_95_4, mq_95_7, mq_95_8, mq_95_9, mq_95_10, mq_95_13, mq_95_14, mq_95_15, mq_95_18, mq_95_21, mq_95_22, mq_95_25, mq_95_26, mq_95_27, mq_95_28, mq_95_31, mq_95_32, mq_95_33, mq_95_36, mq_95_37, ev_isSheet, sg_k4 h1, ev_isHeld, ev_clear, h1, Nat.reduceAdd, Nat.reduceMul, Nat.reduceSub, Nat.zero_add, sg_bi_i, sg_bi_n, sg_bz, sg_bb, sg_b_0, sg_b_1, if_true, if_false, not_true_eq_false, not_false_eq_true, true_and, and_true, false_and, and_false, and_self, Int32.reduceSub]
    by_cases h2 : σ (112 + 2 * k.toNatClampNeg) 2 = -1 <;> simp (decide := true) only [h2, Nat.reduceAdd, Nat.reduceMul, Nat.reduceSub, Nat.zero_add, sg_bi_i, sg_bi_n, sg_bz, sg_bb, sg_b_0, sg_b_1, if_true, if_false, not_true_eq_false, not_false_eq_true, true_and, and_true, false_and, and_false, and_self, Int32.reduceSub]
  · simp (decide := true) only [me_95, mq_95_0, mq_95_1, mq_95_4, mq_95_7, mq_95_8, mq_95_9, mq_95_10, mq_95_13, mq_95_14, mq_95_15, mq_95_18, mq_95_21, mq_95_22, mq_95_25, mq_95_26, mq_95_27, mq_95_28, mq_95_31, mq_95_32, mq_95_33, mq_95_36, mq_95_37, ev_isSheet, h1, Nat.reduceAdd, Nat.reduceMul, Nat.reduceSub, Nat.zero_add, sg_bi_i, sg_bi_n, sg_bz, sg_bb, sg_b_0, sg_b_1, if_true, if_false, not_true_eq_false, not_false_eq_true, true_and, and_true, false_and, and_false, and_self, Int32.reduceSub]
theorem em_lose (σ : sg_M) (k : Int32) : sg_ev 183 σ [sg_r 7 120, sg_i k] = if ¬ (0 ≤ k ∧ k ≤ 3) then some (some (sg_i (-1)), σ) else some (some (sg_i (if σ 142 k.toNatClampNeg < 0 then 0 else 1)), sg_up σ 142 k.toNatClampNeg (-1)) := by
  by_cases h1 : 0 ≤ k ∧ k ≤ 3
  · simp (decide := true) only [me_183, mq_183_0, mq_183_1, mq_183_4, mq_183_7, mq_183_8, mq_183_9, mq_183_10, mq_183_13, mq_183_14, mq_183_15, mq_183_18, mq_183_19, mq_183_22, mq_183_23, mq_183_24, mq_183_25, mq_183_28, mq_183_29, mq_183_30, mq_183_31, mq_183_32, em_noSheet, sg_k4 h1, h1, Nat.reduceAdd, Nat.reduceMul, Nat.reduceSub, Nat.zero_add, sg_bi_i, sg_bi_n, sg_bz, sg_bb, sg_b_0, sg_b_1, if_true, if_false, not_true_eq_false, not_false_eq_true, true_and, and_true, false_and, and_false, and_self, Int32.reduceSub]
    by_cases h2 : σ 142 k.toNatClampNeg < 0 <;> simp (decide := true) only [h2, me_183, mq_183_0, mq_183_1, mq_183_4, mq_183_7, mq_183_8, mq_183_9, mq_183_10, mq_183_13, mq_183_14, mq_183_15, mq_183_18, mq_183_19, mq_183_22, mq_183_23, mq_183_24, mq_183_25, mq_183_28, mq_183_29, mq_183_30, mq_183_31, mq_183_32, sg_k4 h1, Nat.reduceAdd, Nat.reduceMul, Nat.reduceSub, Nat.zero_add, sg_bi_i, sg_bi_n, sg_bz, sg_bb, sg_b_0, sg_b_1, if_true, if_false, not_true_eq_false, not_false_eq_true, true_and, and_true, false_and, and_false, and_self, Int32.reduceSub]
  · simp (decide := true) only [me_183, mq_183_0, mq_183_1, mq_183_4, mq_183_7, mq_183_8, mq_183_9, mq_183_10, mq_183_13, mq_183_14, mq_183_15, mq_183_18, mq_183_19, mq_183_22, mq_183_23, mq_183_24, mq_183_25, mq_183_28, mq_183_29, mq_183_30, mq_183_31, mq_183_32, em_noSheet, h1, Nat.reduceAdd, Nat.reduceMul, Nat.reduceSub, Nat.zero_add, sg_bi_i, sg_bi_n, sg_bz, sg_bb, sg_b_0, sg_b_1, if_true, if_false, not_true_eq_false, not_false_eq_true, true_and, and_true, false_and, and_false, and_self, Int32.reduceSub]
theorem ev_write (σ : sg_M) (c : Nat) (i v : Int32) (h : sg_in i 60 = true) : sg_ev 98 σ [sg_r 6 c, sg_i i, sg_i v] = some (none, sg_up σ (c + 1) i.toNatClampNeg (fn_lane (σ c 1) v)) := by
  unfold fn_lane
  simp (decide := true) only [me_98, mq_98_0, mq_98_1]
  by_cases h0 : σ c 1 = 0
  · rw [h0]
    simp (decide := true) only [mq_98_4_0, mq_98_4_1, mq_98_4_d, mq_98_32, mq_98_33, mq_98_36, mq_98_37, mq_98_38, mq_98_39, mq_98_40, mq_98_43, mq_98_44, mq_98_47, mq_98_48, mq_98_49, mq_98_50, mq_98_51, mq_98_54, mq_98_55, mq_98_58, mq_98_59, mq_98_60, mq_98_61, h, Nat.reduceAdd, Nat.reduceMul, Nat.reduceSub, Nat.zero_add, sg_bi_i, sg_bi_n, sg_bz, sg_bb, sg_b_0, sg_b_1, if_true, if_false, not_true_eq_false, not_false_eq_true, true_and, and_true, false_and, and_false, and_self, Int32.reduceSub]
  · by_cases h1 : σ c 1 = 1
    · rw [h1]
      simp (decide := true) only [mq_98_4_0, mq_98_4_1, mq_98_4_d, mq_98_32, mq_98_33, mq_98_36, mq_98_37, mq_98_38, mq_98_39, mq_98_40, mq_98_43, mq_98_44, mq_98_47, mq_98_48, mq_98_49, mq_98_50, mq_98_51, mq_98_54, mq_98_55, mq_98_58, mq_98_59, mq_98_60, mq_98_61, h, Nat.reduceAdd, Nat.reduceMul, Nat.reduceSub, Nat.zero_add, sg_bi_i, sg_bi_n, sg_bz, sg_bb, sg_b_0, sg_b_1, if_true, if_false, not_true_eq_false, not_false_eq_true, true_and, and_true, false_and, and_false, and_self, Int32.reduceSub]
    · simp (decide := true) only [mq_98_4_0, mq_98_4_1, mq_98_4_d, mq_98_32, mq_98_33, mq_98_36, mq_98_37, mq_98_38, mq_98_39, mq_98_40, mq_98_43, mq_98_44, mq_98_47, mq_98_48, mq_98_49, mq_98_50, mq_98_51, mq_98_54, mq_98_55, mq_98_58, mq_98_59, mq_98_60, mq_98_61, h, h0, h1, Nat.reduceAdd, Nat.reduceMul, Nat.reduceSub, Nat.zero_add, sg_bi_i, sg_bi_n, sg_bz, sg_bb, sg_b_0, sg_b_1, if_true, if_false, not_true_eq_false, not_false_eq_true, true_and, and_true, false_and, and_false, and_self, Int32.reduceSub]
theorem ev_put (σ : sg_M) (k i v : Int32) (hl : 0 ≤ k ∧ k ≤ 3 → iv_len (σ (112 + 2 * k.toNatClampNeg) 2)) : sg_ev 97 σ [sg_r 1 0, sg_i k, sg_i i, sg_i v] = if ¬ (0 ≤ k ∧ k ≤ 3) then some (some (sg_i (-1)), sg_up σ 0 12 0) else if σ (112 + 2 * k.toNatClampNeg) 2 = -1 then some (some (sg_i (-11)), sg_up σ 0 12 1) else if ¬ (0 ≤ i ∧ i < σ (112 + 2 * k.toNatClampNeg) 2) then some (some (sg_i (-13)), sg_up σ 0 12 3)
    else some (some (sg_i 1), sg_up (sg_up σ 0 12 0) (113 + 2 * k.toNatClampNeg) i.toNatClampNeg (fn_lane (σ (112 + 2 * k.toNatClampNeg) 1) v)) := by
  by_cases h1 : 0 ≤ k ∧ k ≤ 3
  · have hl := hl h1
    by_cases h2 : σ (112 + 2 * k.toNatClampNeg) 2 = -1
    · simp (decide := true) only [me_97, mq_97_0, mq_97_1, mq_97_2, mq_97_5, mq_97_6, mq_97_9, mq_97_12, mq_97_13, mq_97_14, mq_97_15, mq_97_18, mq_97_19, mq_97_20, mq_97_23, mq_97_26, mq_97_27, mq_97_28, mq_97_31, mq_97_32, mq_97_33, mq_97_36, mq_97_37, mq_97_38, mq_97_39, mq_97_40, mq_97_43, mq_97_46, mq_97_47, mq_97_48, mq_97_51, mq_97_52, mq_97_53, mq_97_56, mq_97_57, mq_97_58, mq_97_59, mq_97_60, mq_97_63, mq_97_64, ev_isSheet, sg_k4 h1, ev_isHeld, ev_failed, sg_112, sg_up_up, h1, h2, Nat.reduceAdd, Nat.reduceMul, Nat.reduceSub, Nat.zero_add, sg_bi_i, sg_bi_n, sg_bz, sg_bb, sg_b_0, sg_b_1, if_true, if_false, not_true_eq_false, not_false_eq_true, true_and, and_true, false_and, and_false, and_self, Int32.reduceSub]
    · rcases hl with hl | hl
      · exact absurd hl h2
      · have key : (0 ≤ i ∧ i ≤ σ (112 + 2 * k.toNatClampNeg) 2 ∧ (1 : Int64) ≤ (σ (112 + 2 * k.toNatClampNeg) 2 - i).toInt64) ↔ (0 ≤ i ∧ i < σ (112 + 2 * k.toNatClampNeg) 2) := by
          have b1 := Int32.le_toInt i
          have b2 := Int32.toInt_lt i
          have e1 : (1 : Int64).toInt = 1 := by decide
          rw [Int64.le_iff_toInt_le, Int32.lt_iff_toInt_lt, Int32.le_iff_toInt_le, Int32.le_iff_toInt_le, Int32.toInt_toInt64, sg_t0, e1, Int32.toInt_sub]
          by_cases hi : 0 ≤ i.toInt ∧ i.toInt ≤ (σ (112 + 2 * k.toNatClampNeg) 2).toInt
          · rw [Int.bmod_eq_of_le (n := (σ (112 + 2 * k.toNatClampNeg) 2).toInt - i.toInt) (by omega) (by omega)]
            omega
          · omega
        by_cases h3 : 0 ≤ i ∧ i < σ (112 + 2 * k.toNatClampNeg) 2
        · have h4 := key.mpr h3
          have hin : sg_in i 60 = true := by
            obtain ⟨a, b⟩ := h3
            rw [Int32.lt_iff_toInt_lt] at b
            rw [Int32.le_iff_toInt_le, sg_t0] at a
            exact sg_in_of a (by omega)
          simp (decide := true) only [me_97, mq_97_0, mq_97_1, mq_97_2, mq_97_5, mq_97_6, mq_97_9, mq_97_12, mq_97_13, mq_97_14, mq_97_15, mq_97_18, mq_97_19, mq_97_20, mq_97_23, mq_97_26, mq_97_27, mq_97_28, mq_97_31, mq_97_32, mq_97_33, mq_97_36, mq_97_37, mq_97_38, mq_97_39, mq_97_40, mq_97_43, mq_97_46, mq_97_47, mq_97_48, mq_97_51, mq_97_52, mq_97_53, mq_97_56, mq_97_57, mq_97_58, mq_97_59, mq_97_60, mq_97_63, mq_97_64, ev_isSheet, sg_k4 h1, ev_isHeld, ev_covers, ev_write _ _ _ _ hin, sg_112, h1, h2, h3, h4, Nat.reduceAdd, Nat.reduceMul, Nat.reduceSub, Nat.zero_add, sg_bi_i, sg_bi_n, sg_bz, sg_bb, sg_b_0, sg_b_1, if_true, if_false, not_true_eq_false, not_false_eq_true, true_and, and_true, false_and, and_false, and_self, Int32.reduceSub]
          rw [show 112 + 2 * k.toNatClampNeg + 1 = 113 + 2 * k.toNatClampNeg by omega]
        · have h4 : ¬ (0 ≤ i ∧ i ≤ σ (112 + 2 * k.toNatClampNeg) 2 ∧ (1 : Int64) ≤ (σ (112 + 2 * k.toNatClampNeg) 2 - i).toInt64) := fun q => h3 (key.mp q)
          simp (decide := true) only [me_97, mq_97_0, mq_97_1, mq_97_2, mq_97_5, mq_97_6, mq_97_9, mq_97_12, mq_97_13, mq_97_14, mq_97_15, mq_97_18, mq_97_19, mq_97_20, mq_97_23, mq_97_26, mq_97_27, mq_97_28, mq_97_31, mq_97_32, mq_97_33, mq_97_36, mq_97_37, mq_97_38, mq_97_39, mq_97_40, mq_97_43, mq_97_46, mq_97_47, mq_97_48, mq_97_51, mq_97_52, mq_97_53, mq_97_56, mq_97_57, mq_97_58, mq_97_59, mq_97_60, mq_97_63, mq_97_64, ev_isSheet, sg_k4 h1, ev_isHeld, ev_covers, ev_failed, sg_up_up, sg_112, h1, h2, h3, h4, Nat.reduceAdd, Nat.reduceMul, Nat.reduceSub, Nat.zero_add, sg_bi_i, sg_bi_n, sg_bz, sg_bb, sg_b_0, sg_b_1, if_true, if_false, not_true_eq_false, not_false_eq_true, true_and, and_true, false_and, and_false, and_self, Int32.reduceSub]
  · simp (decide := true) only [me_97, mq_97_0, mq_97_1, mq_97_2, mq_97_5, mq_97_6, mq_97_9, mq_97_12, mq_97_13, mq_97_14, mq_97_15, mq_97_18, mq_97_19, mq_97_20, mq_97_23, mq_97_26, mq_97_27, mq_97_28, mq_97_31, mq_97_32, mq_97_33, mq_97_36, mq_97_37, mq_97_38, mq_97_39, mq_97_40, mq_97_43, mq_97_46, mq_97_47, mq_97_48, mq_97_51, mq_97_52, mq_97_53, mq_97_56, mq_97_57, mq_97_58, mq_97_59, mq_97_60, mq_97_63, mq_97_64, ev_isSheet, h1, Nat.reduceAdd, Nat.reduceMul, Nat.reduceSub, Nat.zero_add, sg_bi_i, sg_bi_n, sg_bz, sg_bb, sg_b_0, sg_b_1, if_true, if_false, not_true_eq_false, not_false_eq_true, true_and, and_true, false_and, and_false, and_self, Int32.reduceSub]
theorem em_noCell (σ : sg_M) (k i : Int32) (hk : 0 ≤ k ∧ k ≤ 3) (hl : iv_len (σ 142 k.toNatClampNeg)) : sg_ev 185 σ [sg_r 7 120, sg_i k, sg_i i] = some (some (sg_i (if σ 142 k.toNatClampNeg = -1 then 1 else if 0 ≤ i ∧ i < σ 142 k.toNatClampNeg then 0 else 3)), σ) := by
  have hc : (σ 142 k.toNatClampNeg).toInt ≠ -2147483648 := by
    rcases hl with hl | hl
    · rw [hl]; decide
    · omega
  have key : (0 ≤ i ∧ i ≤ σ 142 k.toNatClampNeg - 1) ↔ (0 ≤ i ∧ i < σ 142 k.toNatClampNeg) := by
    rw [Int32.lt_iff_toInt_lt, Int32.le_iff_toInt_le, Int32.le_iff_toInt_le, Int32.toInt_sub, sg_t1]
    have b2 := Int32.toInt_lt (σ 142 k.toNatClampNeg)
    have b3 := Int32.le_toInt (σ 142 k.toNatClampNeg)
    rw [Int.bmod_eq_of_le (n := (σ 142 k.toNatClampNeg).toInt - 1) (by omega) (by omega)]
    omega
  simp (decide := true) only [me_185, mq_185_0, mq_185_1, mq_185_4, mq_185_5, mq_185_6, mq_185_9, mq_185_10, mq_185_13, mq_185_14, mq_185_15, mq_185_16, mq_185_17, mq_185_20, mq_185_21, mq_185_22, mq_185_23, mq_185_24, mq_185_25, mq_185_28, mq_185_31, mq_185_32, mq_185_35, mq_185_36, em_in, sg_k4 hk, sg_i64p i 0 (σ 142 k.toNatClampNeg) 0 (by decide) hc, key, Nat.reduceAdd, Nat.reduceMul, Nat.reduceSub, Nat.zero_add, sg_bi_i, sg_bi_n, sg_bz, sg_bb, sg_b_0, sg_b_1, if_true, if_false, not_true_eq_false, not_false_eq_true, true_and, and_true, false_and, and_false, and_self, Int32.reduceSub]
  rcases hl with hl | hl
  · simp (decide := true) only [hl, Nat.reduceAdd, Nat.reduceMul, Nat.reduceSub, Nat.zero_add, sg_bi_i, sg_bi_n, sg_bz, sg_bb, sg_b_0, sg_b_1, if_true, if_false, not_true_eq_false, not_false_eq_true, true_and, and_true, false_and, and_false, and_self, Int32.reduceSub]
  · have h3 : ¬ σ 142 k.toNatClampNeg = -1 := fun q => by rw [q, sg_tm1] at hl; omega
    have h4 : ¬ σ 142 k.toNatClampNeg < 0 := by rw [Int32.lt_iff_toInt_lt, sg_t0]; omega
    by_cases h5 : 0 ≤ i ∧ i < σ 142 k.toNatClampNeg <;> simp (decide := true) only [h3, h4, h5, Nat.reduceAdd, Nat.reduceMul, Nat.reduceSub, Nat.zero_add, sg_bi_i, sg_bi_n, sg_bz, sg_bb, sg_b_0, sg_b_1, if_true, if_false, not_true_eq_false, not_false_eq_true, true_and, and_true, false_and, and_false, and_self, Int32.reduceSub]
