/-! PURE from here on: what the methods answer, in terms of sg_ev -/
theorem sg_in_nI {k n : Nat} (h : k < n) (hn : n < 2 ^ 31) : sg_in (nI k) n = true := by
  unfold sg_in
  rw [nI_toInt (by omega)]
  exact decide_eq_true (by omega)
theorem sg_in_of {i : Int32} {n : Nat} (h1 : 0 ≤ i.toInt) (h2 : i.toInt < n) : sg_in i n = true := decide_eq_true ⟨h1, h2⟩
theorem sg_set_same (σ : sg_M) (c : Nat) (f : Nat → Int32) : sg_set σ c f c = f := by simp [sg_set]
theorem sg_set_ne {σ : sg_M} {c k : Nat} {f : Nat → Int32} (h : k ≠ c) : sg_set σ c f k = σ k := by simp [sg_set, h]
theorem sg_set_set (σ : sg_M) (c : Nat) (f g : Nat → Int32) : sg_set (sg_set σ c f) c g = sg_set σ c g := by
  funext k
  by_cases h : k = c <;> simp [sg_set, h]
theorem sg_set_self (σ : sg_M) (c : Nat) : sg_set σ c (σ c) = σ := by
  funext k
  by_cases h : k = c <;> simp [sg_set, h]
theorem sg_set_comm {σ : sg_M} {c d : Nat} {f g : Nat → Int32} (h : c ≠ d) : sg_set (sg_set σ c f) d g = sg_set (sg_set σ d g) c f := by
  funext k
  by_cases h1 : k = c
  · subst h1; simp [sg_set, h]
  · by_cases h2 : k = d
    · subst h2; simp [sg_set, h1]
    · simp [sg_set, h1, h2]
theorem upd_same (f : Nat → Int32) (k : Nat) (x : Int32) : upd f k x k = x := by simp [upd]
theorem upd_ne {f : Nat → Int32} {k j : Nat} {x : Int32} (h : j ≠ k) : upd f k x j = f j := by simp [upd, h]
theorem sg_up_row (σ : sg_M) (c j : Nat) (v : Int32) : sg_up σ c j v c = upd (σ c) j v := by simp [sg_up, sg_set]
theorem sg_up_ne {σ : sg_M} {c j k : Nat} {v : Int32} (h : k ≠ c) : sg_up σ c j v k = σ k := by simp [sg_up, sg_set, h]
abbrev sg_bv (c : Prop) (d : Decidable c) : Int32 := @ite _ c d 1 0
theorem sg_bz {c : Prop} {d : Decidable c} : (@ite _ c d (1 : Int32) 0 = 0) = ¬ c := by
  by_cases h : c <;> simp [h]
theorem sg_bb {c : Prop} {d : Decidable c} : sg_b (@ite _ c d (1 : Int32) 0) := by
  by_cases h : c
  · rw [if_pos h]; exact sg_b_1
  · rw [if_neg h]; exact sg_b_0
theorem ev_within (σ : sg_M) (v a b : Int32) : sg_ev 3 σ [sg_i v, sg_i a, sg_i b] = some (some (sg_i (if a ≤ v ∧ v ≤ b then 1 else 0)), σ) := by
  simp (decide := true) only [me_3, mq_3_0, mq_3_1, mq_3_2, mq_3_5, mq_3_6, mq_3_7, mq_3_10, mq_3_11, mq_3_14, mq_3_15, sg_b_0, sg_b_1]
  by_cases h1 : v < a
  · rw [if_pos h1, if_neg (fun q => Int32.not_le.mpr h1 q.1)]
  · rw [if_neg h1]
    by_cases h2 : b < v
    · rw [if_pos h2, if_neg (fun q => Int32.not_le.mpr h2 q.2)]
    · rw [if_neg h2, if_pos ⟨Int32.not_lt.mp h1, Int32.not_lt.mp h2⟩]
theorem ev_isSheet (σ : sg_M) (k : Int32) : sg_ev 2 σ [sg_i k] = some (some (sg_i (if 0 ≤ k ∧ k ≤ 3 then 1 else 0)), σ) := by
  simp (decide := true) only [me_2, mq_2_0, mq_2_1, mq_2_2, mq_2_3, mq_2_6, ev_within, sg_bi_i, sg_bb]
theorem ev_isLane (σ : sg_M) (k : Int32) : sg_ev 4 σ [sg_i k] = some (some (sg_i (if 0 ≤ k ∧ k ≤ 2 then 1 else 0)), σ) := by
  simp (decide := true) only [me_4, mq_4_0, mq_4_1, mq_4_2, mq_4_3, mq_4_6, ev_within, sg_bi_i, sg_bb]
theorem ev_isFact (σ : sg_M) (k : Int32) : sg_ev 15 σ [sg_i k] = some (some (sg_i (if 0 ≤ k ∧ k ≤ 5 then 1 else 0)), σ) := by
  simp (decide := true) only [me_15, mq_15_0, mq_15_1, mq_15_2, mq_15_3, mq_15_6, ev_within, sg_bi_i, sg_bb]
theorem ev_isKind (σ : sg_M) (k : Int32) : sg_ev 27 σ [sg_i k] = some (some (sg_i (if 0 ≤ k ∧ k ≤ 3 then 1 else 0)), σ) := by
  simp (decide := true) only [me_27, mq_27_0, mq_27_1, mq_27_2, mq_27_3, mq_27_6, ev_within, sg_bi_i, sg_bb]
theorem ev_isLate (σ : sg_M) (k : Int32) : sg_ev 52 σ [sg_i k] = some (some (sg_i (if 0 ≤ k ∧ k ≤ 20 then 1 else 0)), σ) := by
  simp (decide := true) only [me_52, mq_52_0, mq_52_1, mq_52_2, mq_52_4, mq_52_7, ev_within, sg_bi_i, sg_bb]
theorem ev_isPiece (σ : sg_M) (c : Nat) (k : Int32) : sg_ev 13 σ [sg_r 1 c, sg_i k] = some (some (sg_i (if 0 ≤ k ∧ k ≤ σ c 8 - 1 then 1 else 0)), σ) := by
  simp (decide := true) only [me_13, mq_13_0, mq_13_1, mq_13_2, mq_13_3, mq_13_6, mq_13_7, mq_13_8, mq_13_11, ev_within, sg_bi_i, sg_bb]
theorem ev_isRecipe (σ : sg_M) (c : Nat) (k : Int32) : sg_ev 43 σ [sg_r 1 c, sg_i k] = some (some (sg_i (if 0 ≤ k ∧ k ≤ σ c 9 - 1 then 1 else 0)), σ) := by
  simp (decide := true) only [me_43, mq_43_0, mq_43_1, mq_43_2, mq_43_3, mq_43_6, mq_43_7, mq_43_8, mq_43_11, ev_within, sg_bi_i, sg_bb]
theorem ev_hasRing (σ : sg_M) (c : Nat) (k : Int32) : sg_ev 14 σ [sg_r 2 c, sg_i k] = some (some (sg_i (if 0 ≤ k ∧ k ≤ σ c 6 - 1 then 1 else 0)), σ) := by
  simp (decide := true) only [me_14, mq_14_0, mq_14_1, mq_14_2, mq_14_3, mq_14_6, mq_14_7, mq_14_8, mq_14_11, ev_within, sg_bi_i, sg_bb]
theorem ev_hasFallen (σ : sg_M) (c : Nat) : sg_ev 21 σ [sg_r 2 c] = some (some (sg_i (if 40 < σ c 7 then 1 else 0)), σ) := by
  simp (decide := true) only [me_21, mq_21_0, mq_21_1, mq_21_4, mq_21_6, mq_21_9, mq_21_10, mq_21_13, mq_21_14, sg_b_0, sg_b_1]
  split <;> rfl
theorem ev_isRing (σ : sg_M) (g r h : Int32) : sg_ev 9 σ [sg_i g, sg_i r, sg_i h] = some (some (sg_i (if (1 ≤ g ∧ g ≤ 999) ∧ (1 ≤ r ∧ r ≤ 99) ∧ r ≤ g ∧ (0 ≤ h ∧ h ≤ 1500) then 1 else 0)), σ) := by
  simp (decide := true) only [me_9, mq_9_0, mq_9_1, mq_9_2, mq_9_5, mq_9_8, mq_9_11, mq_9_12, mq_9_13, mq_9_15, mq_9_18, mq_9_21, mq_9_22, mq_9_23, mq_9_26, mq_9_27, mq_9_28, mq_9_31, mq_9_34, mq_9_37, mq_9_38, mq_9_41, mq_9_42, ev_within, sg_bi_i, sg_bb, sg_bz, sg_b_0, sg_b_1]
  by_cases h1 : 1 ≤ g ∧ g ≤ 999
  · by_cases h2 : 1 ≤ r ∧ r ≤ 99
    · by_cases h3 : g < r
      · have h3' : ¬ r ≤ g := Int32.not_le.mpr h3
        simp only [h1, h2, h3, h3', not_true_eq_false, if_true, if_false, true_and, false_and, and_self]
      · have h3' : r ≤ g := Int32.not_lt.mp h3
        by_cases h4 : 0 ≤ h ∧ h ≤ 1500 <;> simp only [h1, h2, h3, h3', h4, not_true_eq_false, not_false_eq_true, if_true, if_false, true_and, and_self]
    · simp only [h1, h2, not_true_eq_false, not_false_eq_true, if_true, if_false, true_and, false_and, and_self]
  · simp only [h1, not_false_eq_true, if_true, if_false, false_and]
theorem ev_isHeld (σ : sg_M) (c : Nat) : sg_ev 5 σ [sg_r 6 c] = some (some (sg_i (if ¬ σ c 2 = -1 then 1 else 0)), σ) := by
  simp (decide := true) only [me_5, mq_5_0, mq_5_1, mq_5_4, mq_5_5, mq_5_8, mq_5_9, mq_5_12, mq_5_13, sg_b_0, sg_b_1]
  by_cases h : σ c 2 = -1 <;> simp [h]
theorem ev_failed (σ : sg_M) (c : Nat) (f : Int32) : sg_ev 6 σ [sg_r 1 c, sg_i f] = some (some (sg_i (-10 - f)), sg_up σ c 12 f) := by
  simp (decide := true) only [me_6, mq_6_0, mq_6_1, mq_6_2, mq_6_5, mq_6_7, mq_6_8, mq_6_9]
theorem sg_lc_lt (a b : Int64) : (lg_cmp a b < 0) = (a < b) := by
  unfold lg_cmp
  by_cases h1 : b < a
  · have : ¬ a < b := fun q => Int64.lt_irrefl (Int64.lt_trans h1 q)
    rw [if_pos h1]; simp [this]
  · rw [if_neg h1]
    by_cases h2 : a = b
    · rw [if_pos h2]; subst h2; simp [h1]
    · rw [if_neg h2]
      have : a < b := by
        rcases Int64.lt_or_eq_of_le (Int64.not_lt.mp h1) with h | h
        · exact h
        · exact absurd h h2
      simp [this]
theorem sg_lc_gt (a b : Int64) : (0 < lg_cmp a b) = (b < a) := by
  unfold lg_cmp
  by_cases h1 : b < a
  · rw [if_pos h1]; simp [h1]
  · rw [if_neg h1]
    by_cases h2 : a = b <;> simp [h1, h2]
theorem sg_lc_eq (a b : Int64) : (lg_cmp a b = 0) = (a = b) := by
  unfold lg_cmp
  by_cases h1 : b < a
  · have : ¬ a = b := fun q => Int64.lt_irrefl (q ▸ h1)
    rw [if_pos h1]; simp [this]
  · rw [if_neg h1]
    by_cases h2 : a = b <;> simp [h2]
theorem ev_covers (σ : sg_M) (c : Nat) (i : Int32) (n : Int64) : sg_ev 7 σ [sg_r 6 c, sg_i i, sg_l n] = some (some (sg_i (if 0 ≤ i ∧ i ≤ σ c 2 ∧ 0 ≤ n ∧ n ≤ (σ c 2 - i).toInt64 then 1 else 0)), σ) := by
  simp (decide := true) only [me_7, mq_7_0, mq_7_1, mq_7_4, mq_7_5, mq_7_6, mq_7_9, mq_7_12, mq_7_13, mq_7_14, mq_7_15, mq_7_18, mq_7_19, mq_7_20, mq_7_23, mq_7_24, mq_7_25, mq_7_26, mq_7_27, mq_7_30, mq_7_31, mq_7_34, mq_7_35, sg_b_0, sg_b_1, sg_lc_lt, sg_lc_gt]
  by_cases h1 : i < 0
  · simp only [h1, Int32.not_le.mpr h1, if_true, if_false, false_and]
  · by_cases h2 : σ c 2 < i
    · simp only [h1, h2, Int32.not_lt.mp h1, Int32.not_le.mpr h2, if_true, if_false, true_and, false_and]
    · by_cases h3 : n < 0
      · simp only [h1, h2, h3, Int32.not_lt.mp h1, Int32.not_lt.mp h2, Int64.not_le.mpr h3, if_true, if_false, true_and, false_and]
      · by_cases h4 : (σ c 2 - i).toInt64 < n
        · simp only [h1, h2, h3, h4, Int32.not_lt.mp h1, Int32.not_lt.mp h2, Int64.not_lt.mp h3, Int64.not_le.mpr h4, if_true, if_false, true_and, false_and]
        · simp only [h1, h2, h3, h4, Int32.not_lt.mp h1, Int32.not_lt.mp h2, Int64.not_lt.mp h3, Int64.not_lt.mp h4, if_true, if_false, true_and, and_self]
/-! the model's -/
theorem em_in (σ : sg_M) (v a b : Int64) : sg_ev 115 σ [sg_l v, sg_l a, sg_l b] = some (some (sg_i (if a ≤ v ∧ v ≤ b then 1 else 0)), σ) := by
  simp (decide := true) only [me_115, mq_115_0, mq_115_1, mq_115_2, mq_115_3, mq_115_6, mq_115_7, mq_115_9, mq_115_10, mq_115_13, mq_115_14, mq_115_17, mq_115_18, sg_b_0, sg_b_1, sg_lc_lt, sg_lc_gt]
  by_cases h1 : v < a
  · rw [if_pos h1, if_neg (fun q => Int64.not_le.mpr h1 q.1)]
  · rw [if_neg h1]
    by_cases h2 : b < v
    · rw [if_pos h2, if_neg (fun q => Int64.not_le.mpr h2 q.2)]
    · rw [if_neg h2, if_pos ⟨Int64.not_lt.mp h1, Int64.not_lt.mp h2⟩]
/-- longs of ints -/
theorem sg_l_le (a b : Int32) : (a.toInt64 ≤ b.toInt64) = (a ≤ b) := by
  rw [Int64.le_iff_toInt_le, Int32.le_iff_toInt_le, Int32.toInt_toInt64, Int32.toInt_toInt64]
theorem em_refused (σ : sg_M) (c : Nat) (f : Int32) : sg_ev 116 σ [sg_r 7 c, sg_i f] = some (some (sg_i f), sg_up σ c 0 0) := by
  simp (decide := true) only [me_116, mq_116_0, mq_116_1, mq_116_2, mq_116_5, mq_116_6]
theorem em_failed (σ : sg_M) (c : Nat) (f : Int32) : sg_ev 118 σ [sg_r 7 c, sg_i f] = some (some (sg_i (-10 - f)), sg_up σ c 0 f) := by
  simp (decide := true) only [me_118, mq_118_0, mq_118_1, mq_118_2, mq_118_5, mq_118_7, mq_118_8, mq_118_9]
theorem em_lost (σ : sg_M) : sg_ev 163 σ [] = some (some (sg_l (-9223372036854775808)), σ) := by
  simp (decide := true) only [me_163, mq_163_0, mq_163_3]
theorem em_failedLong (σ : sg_M) (c : Nat) (f : Int32) : sg_ev 187 σ [sg_r 7 c, sg_i f] = some (some (sg_l (-9223372036854775808)), sg_up σ c 0 f) := by
  simp (decide := true) only [me_187, mq_187_0, mq_187_1, mq_187_2, mq_187_5, mq_187_8, em_lost, sg_bi_i]
theorem sg_i64 (v a b : Int32) (A B : Int64) (ha : A = a.toInt64) (hb : B = b.toInt64) : (A ≤ v.toInt64 ∧ v.toInt64 ≤ B) = (a ≤ v ∧ v ≤ b) := by
  subst ha hb
  rw [sg_l_le, sg_l_le]
/-- one below an int, as a long -/
theorem sg_i64p (v a c : Int32) (A : Int64) (ha : A = a.toInt64) (hc : c.toInt ≠ -2147483648) : (A ≤ v.toInt64 ∧ v.toInt64 ≤ c.toInt64 - 1) = (a ≤ v ∧ v ≤ c - 1) := by
  subst ha
  have h1 : (c.toInt64 - 1) = (c - 1).toInt64 := by
    apply Int64.toInt_inj.mp
    have b1 := Int32.le_toInt c
    have b2 := Int32.toInt_lt c
    rw [Int64.toInt_sub, Int32.toInt_toInt64, Int32.toInt_toInt64, Int32.toInt_sub]
    have e1 : (1 : Int64).toInt = 1 := by decide
    have e2 : (1 : Int32).toInt = 1 := by decide
    rw [e1, e2]
    rw [Int.bmod_eq_of_le (by omega) (by omega), Int.bmod_eq_of_le (by omega) (by omega)]
  rw [h1, sg_l_le, sg_l_le]
theorem em_noSheet (σ : sg_M) (k : Int32) : sg_ev 114 σ [sg_i k] = some (some (sg_i (if ¬ (0 ≤ k ∧ k ≤ 3) then 1 else 0)), σ) := by
  simp (decide := true) only [me_114, mq_114_0, mq_114_1, mq_114_2, mq_114_3, mq_114_6, mq_114_9, mq_114_12, mq_114_13, mq_114_16, mq_114_17, em_in, sg_bi_i, sg_bz, sg_b_0, sg_b_1, sg_i64 k 0 3 0 3 (by decide) (by decide)]
  by_cases h : 0 ≤ k ∧ k ≤ 3 <;> simp [h]
theorem em_noPiece (σ : sg_M) (c : Nat) (k : Int32) (hc : (σ c 1).toInt ≠ -2147483648) : sg_ev 122 σ [sg_r 7 c, sg_i k] = some (some (sg_i (if ¬ (0 ≤ k ∧ k ≤ σ c 1 - 1) then 1 else 0)), σ) := by
  simp (decide := true) only [me_122, mq_122_0, mq_122_1, mq_122_2, mq_122_3, mq_122_4, mq_122_7, mq_122_8, mq_122_9, mq_122_10, mq_122_13, mq_122_16, mq_122_17, mq_122_20, mq_122_21, em_in, sg_bi_i, sg_bz, sg_b_0, sg_b_1, sg_i64p k 0 (σ c 1) 0 (by decide) hc]
  by_cases h : 0 ≤ k ∧ k ≤ σ c 1 - 1 <;> simp [h]
theorem em_noRecipe (σ : sg_M) (c : Nat) (k : Int32) (hc : (σ c 16).toInt ≠ -2147483648) : sg_ev 147 σ [sg_r 7 c, sg_i k] = some (some (sg_i (if ¬ (0 ≤ k ∧ k ≤ σ c 16 - 1) then 1 else 0)), σ) := by
  simp (decide := true) only [me_147, mq_147_0, mq_147_1, mq_147_2, mq_147_3, mq_147_4, mq_147_7, mq_147_8, mq_147_9, mq_147_10, mq_147_13, mq_147_16, mq_147_17, mq_147_20, mq_147_21, em_in, sg_bi_i, sg_bz, sg_b_0, sg_b_1, sg_i64p k 0 (σ c 16) 0 (by decide) hc]
  by_cases h : 0 ≤ k ∧ k ≤ σ c 16 - 1 <;> simp [h]
theorem em_isRing (σ : sg_M) (g r h : Int32) : sg_ev 120 σ [sg_i g, sg_i r, sg_i h] = some (some (sg_i (if (1 ≤ g ∧ g ≤ 999) ∧ (1 ≤ r ∧ r ≤ 99) ∧ r ≤ g ∧ (0 ≤ h ∧ h ≤ 1500) then 1 else 0)), σ) := by
  simp (decide := true) only [me_120, mq_120_0, mq_120_1, mq_120_2, mq_120_3, mq_120_6, mq_120_9, mq_120_12, mq_120_13, mq_120_14, mq_120_15, mq_120_18, mq_120_21, mq_120_24, mq_120_25, mq_120_26, mq_120_29, mq_120_30, mq_120_31, mq_120_32, mq_120_35, mq_120_38, mq_120_41, mq_120_42, mq_120_45, mq_120_46, em_in, sg_bi_i, sg_bb, sg_bz, sg_b_0, sg_b_1, sg_i64 g 1 999 1 999 (by decide) (by decide), sg_i64 r 1 99 1 99 (by decide) (by decide), sg_i64 h 0 1500 0 1500 (by decide) (by decide)]
  by_cases h1 : 1 ≤ g ∧ g ≤ 999
  · by_cases h2 : 1 ≤ r ∧ r ≤ 99
    · by_cases h3 : g < r
      · have h3' : ¬ r ≤ g := Int32.not_le.mpr h3
        simp only [h1, h2, h3, h3', not_true_eq_false, if_true, if_false, true_and, false_and, and_self]
      · have h3' : r ≤ g := Int32.not_lt.mp h3
        by_cases h4 : 0 ≤ h ∧ h ≤ 1500 <;> simp only [h1, h2, h3, h3', h4, not_true_eq_false, not_false_eq_true, if_true, if_false, true_and, and_self]
    · simp only [h1, h2, not_true_eq_false, not_false_eq_true, if_true, if_false, true_and, false_and, and_self]
  · simp only [h1, not_false_eq_true, if_true, if_false, false_and]
theorem em_isFallen (σ : sg_M) (c : Nat) (k : Int32) (h : sg_in k 8 = true) : sg_ev 134 σ [sg_r 7 c, sg_i k] = some (some (sg_i (if 40 < σ (c + 6) k.toNatClampNeg then 1 else 0)), σ) := by
  simp (decide := true) only [me_134, mq_134_0, mq_134_1, mq_134_4, mq_134_5, mq_134_6, mq_134_8, mq_134_11, mq_134_12, mq_134_15, mq_134_16, sg_b_0, sg_b_1, h]
  split <;> rfl
theorem em_softOf (σ : sg_M) (h : Int32) : sg_ev 125 σ [sg_i h] = some (some (sg_i (if h < 600 then 0 else (h - 500) / 100)), σ) := by
  simp (decide := true) only [me_125, mq_125_0, mq_125_1, mq_125_4, mq_125_7, mq_125_8, mq_125_11, mq_125_12, mq_125_15, mq_125_16, mq_125_18, mq_125_19]
  split <;> rfl
theorem em_held (σ : sg_M) (v a b : Int32) : sg_ev 139 σ [sg_i v, sg_i a, sg_i b] = some (some (sg_i (if v < a then a else if b < v then b else v)), σ) := by
  simp (decide := true) only [me_139, mq_139_0, mq_139_1, mq_139_2, mq_139_5, mq_139_6, mq_139_9, mq_139_10, mq_139_11, mq_139_14, mq_139_15, mq_139_18, mq_139_19]
  split
  · rfl
  · split <;> rfl
theorem em_sizeOf (σ : sg_M) (v : Int32) : sg_ev 140 σ [sg_i v] = some (some (sg_i (if 0 ≤ v then v else 0 - v)), σ) := by
  simp (decide := true) only [me_140, mq_140_0, mq_140_1, mq_140_4, mq_140_5, mq_140_6, mq_140_9, mq_140_10]
  by_cases h : v < 0
  · rw [if_pos h, if_neg (Int32.not_le.mpr h)]
    have : -v = 0 - v := by simp
    rw [this]
  · rw [if_neg h, if_pos (Int32.not_lt.mp h)]
theorem em_greater (σ : sg_M) (a b : Int32) : sg_ev 131 σ [sg_i a, sg_i b] = some (some (sg_i (if a < b then b else a)), σ) := by
  simp (decide := true) only [me_131, mq_131_0, mq_131_1, mq_131_2, mq_131_5, mq_131_6, mq_131_9, mq_131_10]
  by_cases h : b < a
  · have h2 : ¬ a < b := fun q => Int32.lt_irrefl (Int32.lt_trans h q)
    rw [if_pos h, if_neg h2]
  · rw [if_neg h]
    by_cases h2 : a < b
    · rw [if_pos h2]
    · rw [if_neg h2, Int32.le_antisymm (Int32.not_lt.mp h) (Int32.not_lt.mp h2)]
theorem em_hasBit (σ : sg_M) (a b : Int32) : sg_ev 176 σ [sg_i a, sg_i b] = some (some (sg_i (if (a >>> (b &&& 31)) &&& 1 = 1 then 1 else 0)), σ) := by
  simp (decide := true) only [me_176, mq_176_0, mq_176_1, mq_176_2, mq_176_3, mq_176_4, mq_176_5, mq_176_6, mq_176_9, mq_176_10, mq_176_13, mq_176_14, sg_b_0, sg_b_1]
  split <;> rfl
theorem ev_has (σ : sg_M) (a b : Int32) : sg_ev 87 σ [sg_i a, sg_i b] = some (some (sg_i (if (a >>> (b &&& 31)) &&& 1 = 1 then 1 else 0)), σ) := by
  simp (decide := true) only [me_87, mq_87_0, mq_87_1, mq_87_2, mq_87_3, mq_87_4, mq_87_5, mq_87_6, mq_87_9, mq_87_10, mq_87_13, mq_87_14, sg_b_0, sg_b_1]
  split <;> rfl
theorem sg_t0 : (0 : Int32).toInt = 0 := by decide
theorem sg_t1 : (1 : Int32).toInt = 1 := by decide
theorem sg_t2 : (2 : Int32).toInt = 2 := by decide
theorem sg_t3 : (3 : Int32).toInt = 3 := by decide
theorem sg_t4 : (4 : Int32).toInt = 4 := by decide
theorem sg_t5 : (5 : Int32).toInt = 5 := by decide
theorem sg_t6 : (6 : Int32).toInt = 6 := by decide
theorem sg_t7 : (7 : Int32).toInt = 7 := by decide
theorem sg_t8 : (8 : Int32).toInt = 8 := by decide
theorem sg_t9 : (9 : Int32).toInt = 9 := by decide
theorem sg_t10 : (10 : Int32).toInt = 10 := by decide
theorem sg_t12 : (12 : Int32).toInt = 12 := by decide
theorem sg_t15 : (15 : Int32).toInt = 15 := by decide
theorem sg_t20 : (20 : Int32).toInt = 20 := by decide
theorem sg_t40 : (40 : Int32).toInt = 40 := by decide
theorem sg_t41 : (41 : Int32).toInt = 41 := by decide
theorem sg_t60 : (60 : Int32).toInt = 60 := by decide
theorem sg_t97 : (97 : Int32).toInt = 97 := by decide
theorem sg_t99 : (99 : Int32).toInt = 99 := by decide
theorem sg_t100 : (100 : Int32).toInt = 100 := by decide
theorem sg_t101 : (101 : Int32).toInt = 101 := by decide
theorem sg_t200 : (200 : Int32).toInt = 200 := by decide
theorem sg_t300 : (300 : Int32).toInt = 300 := by decide
theorem sg_t390 : (390 : Int32).toInt = 390 := by decide
theorem sg_t400 : (400 : Int32).toInt = 400 := by decide
theorem sg_t500 : (500 : Int32).toInt = 500 := by decide
theorem sg_t560 : (560 : Int32).toInt = 560 := by decide
theorem sg_t561 : (561 : Int32).toInt = 561 := by decide
theorem sg_t600 : (600 : Int32).toInt = 600 := by decide
theorem sg_t999 : (999 : Int32).toInt = 999 := by decide
theorem sg_t1100 : (1100 : Int32).toInt = 1100 := by decide
theorem sg_t1200 : (1200 : Int32).toInt = 1200 := by decide
theorem sg_t1500 : (1500 : Int32).toInt = 1500 := by decide
theorem sg_t9999 : (9999 : Int32).toInt = 9999 := by decide
theorem sg_tm1 : (-1 : Int32).toInt = -1 := by decide
theorem sg_tm9 : (-9 : Int32).toInt = -9 := by decide
theorem sg_T0 : (0 : Int64).toInt = 0 := by decide
