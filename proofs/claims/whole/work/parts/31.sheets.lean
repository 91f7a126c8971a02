theorem sg_up_up (σ : sg_M) (c j : Nat) (v w : Int32) : sg_up (sg_up σ c j v) c j w = sg_up σ c j w := by
  funext k
  by_cases h : k = c
  · subst h
    funext i
    by_cases hi : i = j <;> simp [sg_up, sg_set, upd, hi]
  · simp [sg_up, sg_set, h]
theorem sg_up_at (σ : sg_M) (c j : Nat) (v : Int32) : sg_up σ c j v c j = v := by simp [sg_up, sg_set, upd]
theorem sg_up_at_ne {σ : sg_M} {c j i : Nat} {v : Int32} (h : i ≠ j) : sg_up σ c j v c i = σ c i := by simp [sg_up, sg_set, upd, h]
/-- what bars cells of a sheet from being taken: the answer, the fault -/
def fn_bar (k lane i : Int32) (n : Int64) (ln len : Int32) : Int32 × Int32 :=
  if ¬ (0 ≤ k ∧ k ≤ 3) then (-1, 0) else if ¬ (0 ≤ lane ∧ lane ≤ 2) then (-2, 0) else if len = -1 then (-11, 1) else if ¬ ln = lane then (-12, 2) else if n < 0 then (-14, 4)
  else if 0 ≤ i ∧ i ≤ len ∧ n ≤ (len - i).toInt64 then (0, 0) else (-13, 3)
theorem sg_k4 {k : Int32} (h : 0 ≤ k ∧ k ≤ 3) : sg_in k 4 = true := by
  have h1 := Int32.le_iff_toInt_le.mp h.1
  have h2 := Int32.le_iff_toInt_le.mp h.2
  have e1 : (0 : Int32).toInt = 0 := by decide
  have e2 : (3 : Int32).toInt = 3 := by decide
  exact sg_in_of (by omega) (by omega)
theorem sg_112 (x : Nat) (σ : sg_M) (c j : Nat) (v : Int32) (hc : c < 112) : sg_up σ c j v (112 + 2 * x) = σ (112 + 2 * x) := sg_up_ne (by omega)
theorem sg_mulpos {n g : Int32} (hg : g = 1 ∨ g = 3) : (n.toInt64 * g.toInt64 < 0) = (n < 0) := by
  rw [Int64.lt_iff_toInt_lt, Int32.lt_iff_toInt_lt, Int64.toInt_mul, Int32.toInt_toInt64, Int32.toInt_toInt64]
  have b1 := Int32.le_toInt n
  have b2 := Int32.toInt_lt n
  have e0 : (0 : Int64).toInt = 0 := by decide
  have e1 : (0 : Int32).toInt = 0 := by decide
  rw [e0, e1]
  rcases hg with rfl | rfl
  · have e2 : (1 : Int32).toInt = 1 := by decide
    rw [e2, Int.bmod_eq_of_le (by omega) (by omega)]
    simp
  · have e2 : (3 : Int32).toInt = 3 := by decide
    rw [e2, Int.bmod_eq_of_le (by omega) (by omega)]
    simp only [eq_iff_iff]
    omega
theorem ev_bar (σ : sg_M) (k lane i n g : Int32) (hg : g = 1 ∨ g = 3) : sg_ev 1 σ [sg_r 1 0, sg_i k, sg_i lane, sg_i i, sg_i n, sg_i g] = some (some (sg_i (fn_bar k lane i (n.toInt64 * g.toInt64) (σ (112 + 2 * k.toNatClampNeg) 1) (σ (112 + 2 * k.toNatClampNeg) 2)).1), sg_up σ 0 12 (fn_bar k lane i (n.toInt64 * g.toInt64) (σ (112 + 2 * k.toNatClampNeg) 1) (σ (112 + 2 * k.toNatClampNeg) 2)).2) := by
  simp (decide := true) only [me_1, mq_1_0, mq_1_1, mq_1_2, mq_1_5, mq_1_6, mq_1_9, mq_1_12, mq_1_13, mq_1_14, mq_1_15, mq_1_18, mq_1_21, mq_1_23, mq_1_24, mq_1_25, mq_1_28, mq_1_29, mq_1_30, mq_1_32, mq_1_34, mq_1_37, mq_1_40, mq_1_41, mq_1_42, mq_1_45, mq_1_46, mq_1_48, mq_1_51, mq_1_52, mq_1_55, mq_1_56, mq_1_57, mq_1_60, mq_1_61, mq_1_63, mq_1_66, mq_1_67, mq_1_68, mq_1_71, mq_1_72, mq_1_74, mq_1_75, mq_1_77, mq_1_78, mq_1_80, mq_1_81, mq_1_82, mq_1_85, mq_1_88, mq_1_89, mq_1_92, mq_1_93, mq_1_94, mq_1_97, ev_isSheet, ev_isLane, Nat.reduceAdd, Nat.reduceMul, Nat.reduceSub, Nat.zero_add, sg_bi_i, sg_bi_n, sg_bz, sg_bb, sg_b_0, sg_b_1, if_true, if_false, not_true_eq_false, not_false_eq_true, true_and, and_true, false_and, and_false, and_self, Int32.reduceSub]
  unfold fn_bar
  by_cases h1 : 0 ≤ k ∧ k ≤ 3
  · by_cases h2 : 0 ≤ lane ∧ lane ≤ 2
    · simp (decide := true) only [h1, h2, me_1, mq_1_0, mq_1_1, mq_1_2, mq_1_5, mq_1_6, mq_1_9, mq_1_12, mq_1_13, mq_1_14, mq_1_15, mq_1_18, mq_1_21, mq_1_23, mq_1_24, mq_1_25, mq_1_28, mq_1_29, mq_1_30, mq_1_32, mq_1_34, mq_1_37, mq_1_40, mq_1_41, mq_1_42, mq_1_45, mq_1_46, mq_1_48, mq_1_51, mq_1_52, mq_1_55, mq_1_56, mq_1_57, mq_1_60, mq_1_61, mq_1_63, mq_1_66, mq_1_67, mq_1_68, mq_1_71, mq_1_72, mq_1_74, mq_1_75, mq_1_77, mq_1_78, mq_1_80, mq_1_81, mq_1_82, mq_1_85, mq_1_88, mq_1_89, mq_1_92, mq_1_93, mq_1_94, mq_1_97, sg_k4 h1, ev_isHeld, ev_covers, ev_failed, sg_up_up, sg_112, Nat.reduceAdd, Nat.reduceMul, Nat.reduceSub, Nat.zero_add, sg_bi_i, sg_bi_n, sg_bz, sg_bb, sg_b_0, sg_b_1, if_true, if_false, not_true_eq_false, not_false_eq_true, true_and, and_true, false_and, and_false, and_self, Int32.reduceSub]
      by_cases h3 : σ (112 + 2 * k.toNatClampNeg) 2 = -1
      · simp (decide := true) only [h3, Nat.reduceAdd, Nat.reduceMul, Nat.reduceSub, Nat.zero_add, sg_bi_i, sg_bi_n, sg_bz, sg_bb, sg_b_0, sg_b_1, if_true, if_false, not_true_eq_false, not_false_eq_true, true_and, and_true, false_and, and_false, and_self, Int32.reduceSub]
      · by_cases h4 : σ (112 + 2 * k.toNatClampNeg) 1 = lane
        · by_cases h5 : n < 0
          · simp (decide := true) only [h3, h4, h5, sg_mulpos hg, Nat.reduceAdd, Nat.reduceMul, Nat.reduceSub, Nat.zero_add, sg_bi_i, sg_bi_n, sg_bz, sg_bb, sg_b_0, sg_b_1, if_true, if_false, not_true_eq_false, not_false_eq_true, true_and, and_true, false_and, and_false, and_self, Int32.reduceSub]
          · have h6 : (0 ≤ n.toInt64 * g.toInt64) = True := by
              rw [← Int64.not_lt, sg_mulpos hg]; simp [h5]
            by_cases h7 : 0 ≤ i ∧ i ≤ σ (112 + 2 * k.toNatClampNeg) 2 ∧ n.toInt64 * g.toInt64 ≤ (σ (112 + 2 * k.toNatClampNeg) 2 - i).toInt64
            · simp (decide := true) only [h3, h4, h5, h6, h7, sg_mulpos hg, Nat.reduceAdd, Nat.reduceMul, Nat.reduceSub, Nat.zero_add, sg_bi_i, sg_bi_n, sg_bz, sg_bb, sg_b_0, sg_b_1, if_true, if_false, not_true_eq_false, not_false_eq_true, true_and, and_true, false_and, and_false, and_self, Int32.reduceSub]
            · simp (decide := true) only [h3, h4, h5, h6, h7, sg_mulpos hg, Nat.reduceAdd, Nat.reduceMul, Nat.reduceSub, Nat.zero_add, sg_bi_i, sg_bi_n, sg_bz, sg_bb, sg_b_0, sg_b_1, if_true, if_false, not_true_eq_false, not_false_eq_true, true_and, and_true, false_and, and_false, and_self, Int32.reduceSub]
        · simp (decide := true) only [h3, h4, Nat.reduceAdd, Nat.reduceMul, Nat.reduceSub, Nat.zero_add, sg_bi_i, sg_bi_n, sg_bz, sg_bb, sg_b_0, sg_b_1, if_true, if_false, not_true_eq_false, not_false_eq_true, true_and, and_true, false_and, and_false, and_self, Int32.reduceSub]
    · simp (decide := true) only [h1, h2, Nat.reduceAdd, Nat.reduceMul, Nat.reduceSub, Nat.zero_add, sg_bi_i, sg_bi_n, sg_bz, sg_bb, sg_b_0, sg_b_1, if_true, if_false, not_true_eq_false, not_false_eq_true, true_and, and_true, false_and, and_false, and_self, Int32.reduceSub]
  · simp (decide := true) only [h1, Nat.reduceAdd, Nat.reduceMul, Nat.reduceSub, Nat.zero_add, sg_bi_i, sg_bi_n, sg_bz, sg_bb, sg_b_0, sg_b_1, if_true, if_false, not_true_eq_false, not_false_eq_true, true_and, and_true, false_and, and_false, and_self, Int32.reduceSub]
/-- a sheet's length: none, or 0 to 60 -/
def iv_len (x : Int32) : Prop := x = -1 ∨ (0 ≤ x.toInt ∧ x.toInt ≤ 60)
theorem em_beyond (σ : sg_M) (i : Int32) (n : Int64) (a : Int32) : sg_ev 119 σ [sg_i i, sg_l n, sg_i a] = some (some (sg_i (if i < 0 ∨ n < 0 ∨ a.toInt64 < i.toInt64 + n then 1 else 0)), σ) := by
  simp (decide := true) only [me_119, mq_119_0, mq_119_1, mq_119_4, mq_119_5, mq_119_6, mq_119_7, mq_119_10, mq_119_11, mq_119_12, mq_119_13, mq_119_14, mq_119_15, mq_119_16, mq_119_17, mq_119_20, mq_119_21, mq_119_24, mq_119_25, sg_lc_lt, sg_lc_gt, Nat.reduceAdd, Nat.reduceMul, Nat.reduceSub, Nat.zero_add, sg_bi_i, sg_bi_n, sg_bz, sg_bb, sg_b_0, sg_b_1, if_true, if_false, not_true_eq_false, not_false_eq_true, true_and, and_true, false_and, and_false, and_self, Int32.reduceSub]
  by_cases h1 : i < 0
  · simp only [h1, if_true, true_or]
  · by_cases h2 : n < 0
    · simp only [h1, h2, if_true, if_false, true_or, or_true]
    · by_cases h3 : a.toInt64 < i.toInt64 + n <;> simp only [h1, h2, h3, if_true, if_false, or_false, or_true]
theorem fn_beyond {i : Int32} {n : Int64} {a : Int32} (hn : n.toInt ≤ 1099511627776) (ha : 0 ≤ a.toInt ∧ a.toInt ≤ 60) (h0 : ¬ n < 0) : (i < 0 ∨ n < 0 ∨ a.toInt64 < i.toInt64 + n) ↔ ¬ (0 ≤ i ∧ i ≤ a ∧ n ≤ (a - i).toInt64) := by
  have b1 := Int32.le_toInt i
  have b2 := Int32.toInt_lt i
  have h0' : 0 ≤ n.toInt := by
    rw [Int64.lt_iff_toInt_lt, sg_T0] at h0
    omega
  rw [Int64.lt_iff_toInt_lt, Int64.lt_iff_toInt_lt, Int64.le_iff_toInt_le, Int32.lt_iff_toInt_lt, Int32.le_iff_toInt_le, Int32.le_iff_toInt_le, Int64.toInt_add, Int32.toInt_toInt64, Int32.toInt_toInt64, Int32.toInt_toInt64, sg_T0, sg_t0, Int32.toInt_sub]
  by_cases hi : i.toInt < 0
  · simp [hi]; omega
  · rw [Int.bmod_eq_of_le (n := i.toInt + n.toInt) (by omega) (by omega)]
    by_cases hia : i.toInt ≤ a.toInt
    · rw [Int.bmod_eq_of_le (n := a.toInt - i.toInt) (by omega) (by omega)]
      omega
    · omega
theorem em_barred (σ : sg_M) (k lane i : Int32) (n : Int64) (hk : 0 ≤ k ∧ k ≤ 3) (hn : n.toInt ≤ 1099511627776) (hl : iv_len (σ 142 k.toNatClampNeg)) : sg_ev 117 σ [sg_r 7 120, sg_i k, sg_i lane, sg_i i, sg_l n] = some (some (sg_i (fn_bar k lane i n (σ 143 k.toNatClampNeg) (σ 142 k.toNatClampNeg)).1), if (fn_bar k lane i n (σ 143 k.toNatClampNeg) (σ 142 k.toNatClampNeg)).1 = 0 then σ else sg_up σ 120 0 (fn_bar k lane i n (σ 143 k.toNatClampNeg) (σ 142 k.toNatClampNeg)).2) := by
  simp (decide := true) only [me_117, mq_117_0, mq_117_1, mq_117_2, mq_117_3, mq_117_6, mq_117_9, mq_117_12, mq_117_13, mq_117_15, mq_117_18, mq_117_19, mq_117_20, mq_117_23, mq_117_24, mq_117_25, mq_117_28, mq_117_29, mq_117_32, mq_117_33, mq_117_34, mq_117_35, mq_117_38, mq_117_39, mq_117_40, mq_117_43, mq_117_44, mq_117_45, mq_117_48, mq_117_49, mq_117_50, mq_117_53, mq_117_54, mq_117_55, mq_117_58, mq_117_59, mq_117_61, mq_117_62, mq_117_63, mq_117_66, mq_117_67, mq_117_68, mq_117_71, mq_117_72, mq_117_73, mq_117_75, mq_117_76, mq_117_79, mq_117_80, mq_117_81, mq_117_84, mq_117_87, mq_117_88, mq_117_89, mq_117_92, mq_117_95, mq_117_96, em_in, em_refused, em_failed, em_beyond, sg_k4 hk, sg_i64 lane 0 2 0 2 (by decide) (by decide), sg_lc_lt, Nat.reduceAdd, Nat.reduceMul, Nat.reduceSub, Nat.zero_add, sg_bi_i, sg_bi_n, sg_bz, sg_bb, sg_b_0, sg_b_1, if_true, if_false, not_true_eq_false, not_false_eq_true, true_and, and_true, false_and, and_false, and_self, Int32.reduceSub]
  unfold fn_bar
  by_cases h2 : 0 ≤ lane ∧ lane ≤ 2
  · simp (decide := true) only [hk, h2, Nat.reduceAdd, Nat.reduceMul, Nat.reduceSub, Nat.zero_add, sg_bi_i, sg_bi_n, sg_bz, sg_bb, sg_b_0, sg_b_1, if_true, if_false, not_true_eq_false, not_false_eq_true, true_and, and_true, false_and, and_false, and_self, Int32.reduceSub]
    rcases hl with hl | hl
    · simp (decide := true) only [hl, Nat.reduceAdd, Nat.reduceMul, Nat.reduceSub, Nat.zero_add, sg_bi_i, sg_bi_n, sg_bz, sg_bb, sg_b_0, sg_b_1, if_true, if_false, not_true_eq_false, not_false_eq_true, true_and, and_true, false_and, and_false, and_self, Int32.reduceSub]
    · have h3 : ¬ σ 142 k.toNatClampNeg = -1 := fun q => by rw [q, sg_tm1] at hl; omega
      have h4 : ¬ σ 142 k.toNatClampNeg < 0 := by rw [Int32.lt_iff_toInt_lt, sg_t0]; omega
      by_cases h5 : σ 143 k.toNatClampNeg = lane
      · by_cases h6 : n < 0
        · simp (decide := true) only [h3, h4, h5, h6, Nat.reduceAdd, Nat.reduceMul, Nat.reduceSub, Nat.zero_add, sg_bi_i, sg_bi_n, sg_bz, sg_bb, sg_b_0, sg_b_1, if_true, if_false, not_true_eq_false, not_false_eq_true, true_and, and_true, false_and, and_false, and_self, Int32.reduceSub]
        · have h8 := fn_beyond (i := i) hn hl h6
          by_cases h7 : 0 ≤ i ∧ i ≤ σ 142 k.toNatClampNeg ∧ n ≤ (σ 142 k.toNatClampNeg - i).toInt64
          · have h9 : ¬ (i < 0 ∨ n < 0 ∨ (σ 142 k.toNatClampNeg).toInt64 < i.toInt64 + n) := fun q => (h8.mp q) h7
            obtain ⟨h10, h11⟩ := not_or.mp h9
            obtain ⟨-, h12⟩ := not_or.mp h11
            simp (decide := true) only [h3, h4, h5, h6, h7, h10, h12, or_self, Nat.reduceAdd, Nat.reduceMul, Nat.reduceSub, Nat.zero_add, sg_bi_i, sg_bi_n, sg_bz, sg_bb, sg_b_0, sg_b_1, if_true, if_false, not_true_eq_false, not_false_eq_true, true_and, and_true, false_and, and_false, and_self, Int32.reduceSub]
          · have h9 := h8.mpr h7
            have h10 : (i < 0 ∨ False ∨ (σ 142 k.toNatClampNeg).toInt64 < i.toInt64 + n) = True := by
              simp only [h6] at h9
              exact eq_true h9
            simp (decide := true) only [h3, h4, h5, h6, h7, h10, Nat.reduceAdd, Nat.reduceMul, Nat.reduceSub, Nat.zero_add, sg_bi_i, sg_bi_n, sg_bz, sg_bb, sg_b_0, sg_b_1, if_true, if_false, not_true_eq_false, not_false_eq_true, true_and, and_true, false_and, and_false, and_self, Int32.reduceSub]
      · simp (decide := true) only [h3, h4, h5, Nat.reduceAdd, Nat.reduceMul, Nat.reduceSub, Nat.zero_add, sg_bi_i, sg_bi_n, sg_bz, sg_bb, sg_b_0, sg_b_1, if_true, if_false, not_true_eq_false, not_false_eq_true, true_and, and_true, false_and, and_false, and_self, Int32.reduceSub]
  · simp (decide := true) only [hk, h2, Nat.reduceAdd, Nat.reduceMul, Nat.reduceSub, Nat.zero_add, sg_bi_i, sg_bi_n, sg_bz, sg_bb, sg_b_0, sg_b_1, if_true, if_false, not_true_eq_false, not_false_eq_true, true_and, and_true, false_and, and_false, and_self, Int32.reduceSub]
