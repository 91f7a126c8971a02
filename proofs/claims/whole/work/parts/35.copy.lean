/-- cells i .. i + n of a row of len -/
def fn_cov (i n len : Int32) : Prop := 0 ≤ i.toInt ∧ 0 ≤ n.toInt ∧ i.toInt + n.toInt ≤ len.toInt
theorem fn_cov_cls {i n len : Int32} (hl : 0 ≤ len.toInt ∧ len.toInt ≤ 60) : (0 ≤ i ∧ i ≤ len ∧ 0 ≤ n.toInt64 ∧ n.toInt64 ≤ (len - i).toInt64) ↔ fn_cov i n len := by
  have b1 := Int32.le_toInt i
  have b2 := Int32.toInt_lt i
  have b3 := Int32.le_toInt n
  have b4 := Int32.toInt_lt n
  unfold fn_cov
  rw [Int64.le_iff_toInt_le, Int64.le_iff_toInt_le, Int32.le_iff_toInt_le, Int32.le_iff_toInt_le, Int32.toInt_toInt64, Int32.toInt_toInt64, sg_t0, sg_T0, Int32.toInt_sub]
  by_cases hi : 0 ≤ i.toInt ∧ i.toInt ≤ len.toInt
  · rw [Int.bmod_eq_of_le (n := len.toInt - i.toInt) (by omega) (by omega)]
    omega
  · omega
theorem fn_cov_mod {i n len : Int32} : (i < 0 ∨ n.toInt64 < 0 ∨ len.toInt64 < i.toInt64 + n.toInt64) ↔ ¬ fn_cov i n len := by
  have b1 := Int32.le_toInt i
  have b2 := Int32.toInt_lt i
  have b3 := Int32.le_toInt n
  have b4 := Int32.toInt_lt n
  unfold fn_cov
  rw [Int64.lt_iff_toInt_lt, Int64.lt_iff_toInt_lt, Int32.lt_iff_toInt_lt, Int64.toInt_add, Int32.toInt_toInt64, Int32.toInt_toInt64, Int32.toInt_toInt64, sg_t0, sg_T0]
  rw [Int.bmod_eq_of_le (n := i.toInt + n.toInt) (by omega) (by omega)]
  omega
theorem fn_cov_nat {i n len : Int32} (h : fn_cov i n len) (hl : len.toInt ≤ 60) : ∃ a b : Nat, i = nI a ∧ n = nI b ∧ a + b ≤ 60 ∧ (a : Int) + b ≤ len.toInt := by
  obtain ⟨h1, h2, h3⟩ := h
  obtain ⟨a, ha, rfl⟩ := nI_of (x := i) (by rw [Int32.lt_iff_toInt_lt, sg_t0]; omega)
  obtain ⟨b, hb, rfl⟩ := nI_of (x := n) (by rw [Int32.lt_iff_toInt_lt, sg_t0]; omega)
  rw [nI_toInt ha, nI_toInt hb] at h3
  exact ⟨a, b, rfl, rfl, by omega, h3⟩
theorem sg_held {x : Int32} (hl : iv_len x) (h : ¬ x = -1) : 0 ≤ x.toInt ∧ x.toInt ≤ 60 := by
  rcases hl with hl | hl
  · exact absurd hl h
  · exact hl
theorem sg_held_lt {x : Int32} (hl : iv_len x) : (x < 0) = (x = -1) := by
  rcases hl with hl | hl
  · subst hl; decide
  · have h1 : ¬ x = -1 := fun q => by rw [q, sg_tm1] at hl; omega
    have h2 : ¬ x < 0 := by rw [Int32.lt_iff_toInt_lt, sg_t0]; omega
    simp [h1, h2]
theorem sg_113 (x : Nat) (σ : sg_M) (c j : Nat) (v : Int32) (hc : c < 112) : sg_up σ c j v (112 + 2 * x + 1) = σ (113 + 2 * x) := by
  rw [show 112 + 2 * x + 1 = 113 + 2 * x by omega, sg_up_ne (by omega)]
theorem ev_copy (σ : sg_M) (k i o j n : Int32) (hl : 0 ≤ k ∧ k ≤ 3 → iv_len (σ (112 + 2 * k.toNatClampNeg) 2)) (hl2 : 0 ≤ o ∧ o ≤ 3 → iv_len (σ (112 + 2 * o.toNatClampNeg) 2)) :
    ((¬ ((0 ≤ k ∧ k ≤ 3) ∧ (0 ≤ o ∧ o ≤ 3))) → sg_ev 100 σ [sg_r 1 0, sg_i k, sg_i i, sg_i o, sg_i j, sg_i n] = some (some (sg_i (-1)), sg_up σ 0 12 0)) ∧
    (((0 ≤ k ∧ k ≤ 3) ∧ (0 ≤ o ∧ o ≤ 3)) → (σ (112 + 2 * k.toNatClampNeg) 2 = -1 ∨ σ (112 + 2 * o.toNatClampNeg) 2 = -1) → sg_ev 100 σ [sg_r 1 0, sg_i k, sg_i i, sg_i o, sg_i j, sg_i n] = some (some (sg_i (-11)), sg_up σ 0 12 1)) ∧
    (((0 ≤ k ∧ k ≤ 3) ∧ (0 ≤ o ∧ o ≤ 3)) → ¬ (σ (112 + 2 * k.toNatClampNeg) 2 = -1 ∨ σ (112 + 2 * o.toNatClampNeg) 2 = -1) → ¬ σ (112 + 2 * k.toNatClampNeg) 1 = σ (112 + 2 * o.toNatClampNeg) 1 → sg_ev 100 σ [sg_r 1 0, sg_i k, sg_i i, sg_i o, sg_i j, sg_i n] = some (some (sg_i (-12)), sg_up σ 0 12 2)) ∧
    (((0 ≤ k ∧ k ≤ 3) ∧ (0 ≤ o ∧ o ≤ 3)) → ¬ (σ (112 + 2 * k.toNatClampNeg) 2 = -1 ∨ σ (112 + 2 * o.toNatClampNeg) 2 = -1) → σ (112 + 2 * k.toNatClampNeg) 1 = σ (112 + 2 * o.toNatClampNeg) 1 → ¬ (fn_cov i n (σ (112 + 2 * k.toNatClampNeg) 2) ∧ fn_cov j n (σ (112 + 2 * o.toNatClampNeg) 2)) → sg_ev 100 σ [sg_r 1 0, sg_i k, sg_i i, sg_i o, sg_i j, sg_i n] = some (some (sg_i (-13)), sg_up σ 0 12 3)) ∧
    (((0 ≤ k ∧ k ≤ 3) ∧ (0 ≤ o ∧ o ≤ 3)) → ¬ (σ (112 + 2 * k.toNatClampNeg) 2 = -1 ∨ σ (112 + 2 * o.toNatClampNeg) 2 = -1) → σ (112 + 2 * k.toNatClampNeg) 1 = σ (112 + 2 * o.toNatClampNeg) 1 → (fn_cov i n (σ (112 + 2 * k.toNatClampNeg) 2) ∧ fn_cov j n (σ (112 + 2 * o.toNatClampNeg) 2)) → sg_ev 100 σ [sg_r 1 0, sg_i k, sg_i i, sg_i o, sg_i j, sg_i n] = some (some (sg_i n), sg_set (sg_up σ 0 12 0) (113 + 2 * o.toNatClampNeg) (va_cpy (σ (113 + 2 * k.toNatClampNeg)) (σ (113 + 2 * o.toNatClampNeg)) i.toNatClampNeg j.toNatClampNeg n.toNatClampNeg))) := by
  refine ⟨fun h1 => ?_, fun h1 h2 => ?_, fun h1 h2 h3 => ?_, fun h1 h2 h3 h4 => ?_, fun h1 h2 h3 h4 => ?_⟩
  · by_cases hk : 0 ≤ k ∧ k ≤ 3
    · have ho : ¬ (0 ≤ o ∧ o ≤ 3) := fun q => h1 ⟨hk, q⟩
      simp (decide := true) only [me_100, mq_100_0, mq_100_1, mq_100_2, mq_100_5, mq_100_6, mq_100_9, mq_100_12, mq_100_13, mq_100_16, mq_100_19, mq_100_20, mq_100_21, mq_100_22, mq_100_25, mq_100_26, mq_100_27, mq_100_29, mq_100_30, mq_100_33, mq_100_34, mq_100_35, mq_100_37, mq_100_39, mq_100_42, mq_100_45, mq_100_47, mq_100_50, mq_100_53, mq_100_54, mq_100_55, mq_100_58, mq_100_59, mq_100_61, mq_100_64, mq_100_66, mq_100_69, mq_100_72, mq_100_73, mq_100_74, mq_100_77, mq_100_78, mq_100_80, mq_100_81, mq_100_83, mq_100_84, mq_100_87, mq_100_90, mq_100_92, mq_100_94, mq_100_96, mq_100_97, mq_100_100, mq_100_103, mq_100_104, mq_100_105, mq_100_108, mq_100_109, mq_100_111, mq_100_114, mq_100_115, mq_100_117, mq_100_120, mq_100_122, mq_100_124, mq_100_127, mq_100_129, ev_isSheet, hk, ho, Nat.reduceAdd, Nat.reduceMul, Nat.reduceSub, Nat.zero_add, sg_bi_i, sg_bi_n, sg_bz, sg_bb, sg_b_0, sg_b_1, if_true, if_false, not_true_eq_false, not_false_eq_true, true_and, and_true, false_and, and_false, and_self, Int32.reduceSub]
    · simp (decide := true) only [me_100, mq_100_0, mq_100_1, mq_100_2, mq_100_5, mq_100_6, mq_100_9, mq_100_12, mq_100_13, mq_100_16, mq_100_19, mq_100_20, mq_100_21, mq_100_22, mq_100_25, mq_100_26, mq_100_27, mq_100_29, mq_100_30, mq_100_33, mq_100_34, mq_100_35, mq_100_37, mq_100_39, mq_100_42, mq_100_45, mq_100_47, mq_100_50, mq_100_53, mq_100_54, mq_100_55, mq_100_58, mq_100_59, mq_100_61, mq_100_64, mq_100_66, mq_100_69, mq_100_72, mq_100_73, mq_100_74, mq_100_77, mq_100_78, mq_100_80, mq_100_81, mq_100_83, mq_100_84, mq_100_87, mq_100_90, mq_100_92, mq_100_94, mq_100_96, mq_100_97, mq_100_100, mq_100_103, mq_100_104, mq_100_105, mq_100_108, mq_100_109, mq_100_111, mq_100_114, mq_100_115, mq_100_117, mq_100_120, mq_100_122, mq_100_124, mq_100_127, mq_100_129, ev_isSheet, hk, Nat.reduceAdd, Nat.reduceMul, Nat.reduceSub, Nat.zero_add, sg_bi_i, sg_bi_n, sg_bz, sg_bb, sg_b_0, sg_b_1, if_true, if_false, not_true_eq_false, not_false_eq_true, true_and, and_true, false_and, and_false, and_self, Int32.reduceSub]
  · obtain ⟨hk, ho⟩ := h1
    simp (decide := true) only [me_100, mq_100_0, mq_100_1, mq_100_2, mq_100_5, mq_100_6, mq_100_9, mq_100_12, mq_100_13, mq_100_16, mq_100_19, mq_100_20, mq_100_21, mq_100_22, mq_100_25, mq_100_26, mq_100_27, mq_100_29, mq_100_30, mq_100_33, mq_100_34, mq_100_35, mq_100_37, mq_100_39, mq_100_42, mq_100_45, mq_100_47, mq_100_50, mq_100_53, mq_100_54, mq_100_55, mq_100_58, mq_100_59, mq_100_61, mq_100_64, mq_100_66, mq_100_69, mq_100_72, mq_100_73, mq_100_74, mq_100_77, mq_100_78, mq_100_80, mq_100_81, mq_100_83, mq_100_84, mq_100_87, mq_100_90, mq_100_92, mq_100_94, mq_100_96, mq_100_97, mq_100_100, mq_100_103, mq_100_104, mq_100_105, mq_100_108, mq_100_109, mq_100_111, mq_100_114, mq_100_115, mq_100_117, mq_100_120, mq_100_122, mq_100_124, mq_100_127, mq_100_129, ev_isSheet, ev_isHeld, ev_failed, sg_k4 hk, sg_k4 ho, sg_112, sg_up_up, hk, ho, Nat.reduceAdd, Nat.reduceMul, Nat.reduceSub, Nat.zero_add, sg_bi_i, sg_bi_n, sg_bz, sg_bb, sg_b_0, sg_b_1, if_true, if_false, not_true_eq_false, not_false_eq_true, true_and, and_true, false_and, and_false, and_self, Int32.reduceSub]
    by_cases g : σ (112 + 2 * k.toNatClampNeg) 2 = -1
    · simp (decide := true) only [g, Nat.reduceAdd, Nat.reduceMul, Nat.reduceSub, Nat.zero_add, sg_bi_i, sg_bi_n, sg_bz, sg_bb, sg_b_0, sg_b_1, if_true, if_false, not_true_eq_false, not_false_eq_true, true_and, and_true, false_and, and_false, and_self, Int32.reduceSub]
    · rcases h2 with h2 | h2
      · exact absurd h2 g
      · simp (decide := true) only [g, h2, Nat.reduceAdd, Nat.reduceMul, Nat.reduceSub, Nat.zero_add, sg_bi_i, sg_bi_n, sg_bz, sg_bb, sg_b_0, sg_b_1, if_true, if_false, not_true_eq_false, not_false_eq_true, true_and, and_true, false_and, and_false, and_self, Int32.reduceSub]
  · obtain ⟨hk, ho⟩ := h1
    obtain ⟨g1, g2⟩ := not_or.mp h2
    simp (decide := true) only [me_100, mq_100_0, mq_100_1, mq_100_2, mq_100_5, mq_100_6, mq_100_9, mq_100_12, mq_100_13, mq_100_16, mq_100_19, mq_100_20, mq_100_21, mq_100_22, mq_100_25, mq_100_26, mq_100_27, mq_100_29, mq_100_30, mq_100_33, mq_100_34, mq_100_35, mq_100_37, mq_100_39, mq_100_42, mq_100_45, mq_100_47, mq_100_50, mq_100_53, mq_100_54, mq_100_55, mq_100_58, mq_100_59, mq_100_61, mq_100_64, mq_100_66, mq_100_69, mq_100_72, mq_100_73, mq_100_74, mq_100_77, mq_100_78, mq_100_80, mq_100_81, mq_100_83, mq_100_84, mq_100_87, mq_100_90, mq_100_92, mq_100_94, mq_100_96, mq_100_97, mq_100_100, mq_100_103, mq_100_104, mq_100_105, mq_100_108, mq_100_109, mq_100_111, mq_100_114, mq_100_115, mq_100_117, mq_100_120, mq_100_122, mq_100_124, mq_100_127, mq_100_129, ev_isSheet, ev_isHeld, ev_failed, sg_k4 hk, sg_k4 ho, sg_112, sg_up_up, hk, ho, g1, g2, h3, Nat.reduceAdd, Nat.reduceMul, Nat.reduceSub, Nat.zero_add, sg_bi_i, sg_bi_n, sg_bz, sg_bb, sg_b_0, sg_b_1, if_true, if_false, not_true_eq_false, not_false_eq_true, true_and, and_true, false_and, and_false, and_self, Int32.reduceSub]
  · obtain ⟨hk, ho⟩ := h1
    obtain ⟨g1, g2⟩ := not_or.mp h2
    have e1 := fn_cov_cls (i := i) (n := n) (sg_held (hl hk) g1)
    have e2 := fn_cov_cls (i := j) (n := n) (sg_held (hl2 ho) g2)
    by_cases c1 : fn_cov i n (σ (112 + 2 * k.toNatClampNeg) 2)
    · have d1 := eq_true (e1.mpr c1)
      have d2 := eq_false (fun q => h4 ⟨c1, e2.mp q⟩)
      simp (decide := true) only [me_100, mq_100_0, mq_100_1, mq_100_2, mq_100_5, mq_100_6, mq_100_9, mq_100_12, mq_100_13, mq_100_16, mq_100_19, mq_100_20, mq_100_21, mq_100_22, mq_100_25, mq_100_26, mq_100_27, mq_100_29, mq_100_30, mq_100_33, mq_100_34, mq_100_35, mq_100_37, mq_100_39, mq_100_42, mq_100_45, mq_100_47, mq_100_50, mq_100_53, mq_100_54, mq_100_55, mq_100_58, mq_100_59, mq_100_61, mq_100_64, mq_100_66, mq_100_69, mq_100_72, mq_100_73, mq_100_74, mq_100_77, mq_100_78, mq_100_80, mq_100_81, mq_100_83, mq_100_84, mq_100_87, mq_100_90, mq_100_92, mq_100_94, mq_100_96, mq_100_97, mq_100_100, mq_100_103, mq_100_104, mq_100_105, mq_100_108, ev_isSheet, ev_isHeld, ev_failed, ev_covers, d1, d2, sg_k4 hk, sg_k4 ho, sg_112, sg_up_up, hk, ho, g1, g2, h3, Nat.reduceAdd, Nat.reduceMul, Nat.reduceSub, Nat.zero_add, sg_bi_i, sg_bi_n, sg_bz, sg_bb, sg_b_0, sg_b_1, if_true, if_false, not_true_eq_false, not_false_eq_true, true_and, and_true, false_and, and_false, and_self, Int32.reduceSub]
    · have d1 := eq_false (fun q => c1 (e1.mp q))
      simp (decide := true) only [me_100, mq_100_0, mq_100_1, mq_100_2, mq_100_5, mq_100_6, mq_100_9, mq_100_12, mq_100_13, mq_100_16, mq_100_19, mq_100_20, mq_100_21, mq_100_22, mq_100_25, mq_100_26, mq_100_27, mq_100_29, mq_100_30, mq_100_33, mq_100_34, mq_100_35, mq_100_37, mq_100_39, mq_100_42, mq_100_45, mq_100_47, mq_100_50, mq_100_53, mq_100_54, mq_100_55, mq_100_58, mq_100_59, mq_100_61, mq_100_64, mq_100_66, mq_100_69, mq_100_72, mq_100_73, mq_100_74, mq_100_77, mq_100_78, mq_100_80, mq_100_81, mq_100_83, mq_100_84, mq_100_87, mq_100_90, mq_100_92, mq_100_94, mq_100_96, mq_100_97, mq_100_100, mq_100_103, mq_100_104, mq_100_105, mq_100_108, ev_isSheet, ev_isHeld, ev_failed, ev_covers, d1, sg_k4 hk, sg_k4 ho, sg_112, sg_up_up, hk, ho, g1, g2, h3, Nat.reduceAdd, Nat.reduceMul, Nat.reduceSub, Nat.zero_add, sg_bi_i, sg_bi_n, sg_bz, sg_bb, sg_b_0, sg_b_1, if_true, if_false, not_true_eq_false, not_false_eq_true, true_and, and_true, false_and, and_false, and_self, Int32.reduceSub]
  · obtain ⟨hk, ho⟩ := h1
    obtain ⟨g1, g2⟩ := not_or.mp h2
    obtain ⟨c1, c2⟩ := h4
    have d1 := (fn_cov_cls (i := i) (n := n) (sg_held (hl hk) g1)).mpr c1
    have d2 := (fn_cov_cls (i := j) (n := n) (sg_held (hl2 ho) g2)).mpr c2
    simp (decide := true) only [me_100, mq_100_0, mq_100_1, mq_100_2, mq_100_5, mq_100_6, mq_100_9, mq_100_12, mq_100_13, mq_100_16, mq_100_19, mq_100_20, mq_100_21, mq_100_22, mq_100_25, mq_100_26, mq_100_27, mq_100_29, mq_100_30, mq_100_33, mq_100_34, mq_100_35, mq_100_37, mq_100_39, mq_100_42, mq_100_45, mq_100_47, mq_100_50, mq_100_53, mq_100_54, mq_100_55, mq_100_58, mq_100_59, mq_100_61, mq_100_64, mq_100_66, mq_100_69, mq_100_72, mq_100_73, mq_100_74, mq_100_77, mq_100_78, mq_100_80, mq_100_81, mq_100_83, mq_100_84, mq_100_87, mq_100_90, mq_100_92, mq_100_94, mq_100_96, mq_100_97, mq_100_100, ev_isSheet, ev_isHeld, ev_failed, ev_covers, d1, d2, sg_k4 hk, sg_k4 ho, sg_112, sg_up_up, hk, ho, g1, g2, h3, Nat.reduceAdd, Nat.reduceMul, Nat.reduceSub, Nat.zero_add, sg_bi_i, sg_bi_n, sg_bz, sg_bb, sg_b_0, sg_b_1, if_true, if_false, not_true_eq_false, not_false_eq_true, true_and, and_true, false_and, and_false, and_self, Int32.reduceSub]
    obtain ⟨a, b, rfl, rfl, hab, -⟩ := fn_cov_nat c1 (sg_held (hl hk) g1).2
    obtain ⟨a2, b2, rfl, hb2, hab2, -⟩ := fn_cov_nat c2 (sg_held (hl2 ho) g2).2
    have : b = b2 := (nI_eq (by omega) (by omega)).mp hb2
    subst this
    have p1 : ¬ nI a < 0 := nI_pos (by omega)
    have p2 : ¬ nI a2 < 0 := nI_pos (by omega)
    have p3 : ¬ nI b < 0 := nI_pos (by omega)
    simp (decide := true) only [mq_100_109, mq_100_111, mq_100_114, mq_100_115, mq_100_117, mq_100_120, mq_100_122, mq_100_124, mq_100_127, mq_100_129, p1, p2, p3, sg_nIc (show a < 2 ^ 31 by omega), sg_nIc (show a2 < 2 ^ 31 by omega), sg_nIc (show b < 2 ^ 31 by omega), hab, hab2, Nat.reduceAdd, Nat.reduceMul, Nat.reduceSub, Nat.zero_add, sg_bi_i, sg_bi_n, sg_bz, sg_bb, sg_b_0, sg_b_1, if_true, if_false, not_true_eq_false, not_false_eq_true, true_and, and_true, false_and, and_false, and_self, Int32.reduceSub]
    rw [sg_113 _ _ _ _ _ (by omega), sg_113 _ _ _ _ _ (by omega), show 112 + 2 * o.toNatClampNeg + 1 = 113 + 2 * o.toNatClampNeg by omega]
theorem sg_60c {k : Int32} {a x : Nat} (h : 0 ≤ k ∧ k ≤ 3) (ha : a + x < 60) : sg_in (60 * k + nI a + nI x) 240 = true ∧ (60 * k + nI a + nI x).toNatClampNeg = 60 * k.toNatClampNeg + a + x := by
  have e : 60 * k + nI a + nI x = 60 * k + nI (a + x) := by rw [Int32.add_assoc, nI_add]
  rw [e]
  have := sg_60 (j := a + x) h ha
  exact ⟨this.1, by rw [this.2]; omega⟩
theorem em_copy_1 (σ : sg_M) (k o j : Int32) (a b : Nat) (hk : 0 ≤ k ∧ k ≤ 3) (hb : a + b ≤ 60) : ∀ m x, x + m = b → sg_rv 188 107 (sg_set σ 145 (fun q => if q < x then σ 144 (60 * k.toNatClampNeg + a + q) else σ 145 q)) [sg_r 7 120, sg_i k, sg_i (nI a), sg_i o, sg_i j, sg_i (nI b), sg_i (nI x)] [] = sg_rv 188 141 (sg_set σ 145 (fun q => if q < b then σ 144 (60 * k.toNatClampNeg + a + q) else σ 145 q)) [sg_r 7 120, sg_i k, sg_i (nI a), sg_i o, sg_i j, sg_i (nI b), sg_i (nI b)] [] := by
  intro m
  induction m with
  | zero =>
    intro x hx
    simp only [mq_188_107, mq_188_109, mq_188_111, nI_ltI (show x < 2 ^ 31 by omega) (show b < 2 ^ 31 by omega), show ¬ x < b by omega, if_false]
    rw [show x = b by omega]
  | succ m ih =>
    intro x hx
    obtain ⟨h1, h2⟩ := sg_60c (a := a) (x := x) hk (by omega)
    have h3 : sg_in (nI x) 60 = true := sg_in_nI (by omega) (by omega)
    have h4 : sg_set σ 145 (fun q => if q < x then σ 144 (60 * k.toNatClampNeg + a + q) else σ 145 q) 144 = σ 144 := sg_set_ne (by omega)
    simp only [mq_188_107, mq_188_109, mq_188_111, nI_ltI (show x < 2 ^ 31 by omega) (show b < 2 ^ 31 by omega), show x < b by omega, if_true]
    simp only [mq_188_114, mq_188_115, mq_188_118, mq_188_120, mq_188_121, mq_188_124, mq_188_126, mq_188_127, mq_188_128, mq_188_129, mq_188_130, mq_188_132, mq_188_133, mq_188_134, mq_188_135, mq_188_138, h1, h2, h3, h4, nI_1, Nat.reduceAdd, sg_nIc (show x < 2 ^ 31 by omega), sg_up_set]
    rw [upd_lt (σ 145) x (fun q => σ 144 (60 * k.toNatClampNeg + a + q))]
    exact ih (x + 1) (by omega)
theorem em_copy_2 (σ : sg_M) (k i o : Int32) (a b : Nat) (ho : 0 ≤ o ∧ o ≤ 3) (hb : a + b ≤ 60) : ∀ m x, x + m = b → sg_rv 188 144 (sg_set σ 144 (fun q => if 60 * o.toNatClampNeg + a ≤ q ∧ q < 60 * o.toNatClampNeg + a + x then σ 145 (q - (60 * o.toNatClampNeg + a)) else σ 144 q)) [sg_r 7 120, sg_i k, sg_i i, sg_i o, sg_i (nI a), sg_i (nI b), sg_i (nI x)] [] = some (some (sg_i (nI b)), sg_up (sg_set σ 144 (fun q => if 60 * o.toNatClampNeg + a ≤ q ∧ q < 60 * o.toNatClampNeg + a + b then σ 145 (q - (60 * o.toNatClampNeg + a)) else σ 144 q)) 120 0 0) := by
  intro m
  induction m with
  | zero =>
    intro x hx
    simp only [mq_188_144, mq_188_146, mq_188_148, nI_ltI (show x < 2 ^ 31 by omega) (show b < 2 ^ 31 by omega), show ¬ x < b by omega, if_false, mq_188_179, mq_188_180, mq_188_182, mq_188_185, em_refused, sg_bi_i]
    rw [show x = b by omega]
  | succ m ih =>
    intro x hx
    obtain ⟨h1, h2⟩ := sg_60c (a := a) (x := x) ho (by omega)
    have h3 : sg_in (nI x) 60 = true := sg_in_nI (by omega) (by omega)
    have h4 : sg_set σ 144 (fun q => if 60 * o.toNatClampNeg + a ≤ q ∧ q < 60 * o.toNatClampNeg + a + x then σ 145 (q - (60 * o.toNatClampNeg + a)) else σ 144 q) 145 = σ 145 := sg_set_ne (by omega)
    simp only [mq_188_144, mq_188_146, mq_188_148, nI_ltI (show x < 2 ^ 31 by omega) (show b < 2 ^ 31 by omega), show x < b by omega, if_true]
    simp only [mq_188_151, mq_188_152, mq_188_155, mq_188_157, mq_188_158, mq_188_159, mq_188_161, mq_188_162, mq_188_164, mq_188_165, mq_188_166, mq_188_169, mq_188_171, mq_188_172, mq_188_173, mq_188_176, h1, h2, h3, h4, nI_1, Nat.reduceAdd, sg_nIc (show x < 2 ^ 31 by omega), sg_up_set]
    have e : upd (fun q => if 60 * o.toNatClampNeg + a ≤ q ∧ q < 60 * o.toNatClampNeg + a + x then σ 145 (q - (60 * o.toNatClampNeg + a)) else σ 144 q) (60 * o.toNatClampNeg + a + x) (σ 145 x) = fun q => if 60 * o.toNatClampNeg + a ≤ q ∧ q < 60 * o.toNatClampNeg + a + (x + 1) then σ 145 (q - (60 * o.toNatClampNeg + a)) else σ 144 q := by
      funext q
      by_cases hq : q = 60 * o.toNatClampNeg + a + x
      · subst hq
        have e1 : 60 * o.toNatClampNeg + a + x - (60 * o.toNatClampNeg + a) = x := by omega
        rw [upd_same, if_pos (by omega), e1]
      · rw [upd_ne hq]
        by_cases hq2 : 60 * o.toNatClampNeg + a ≤ q ∧ q < 60 * o.toNatClampNeg + a + x
        · rw [if_pos hq2, if_pos (by omega)]
        · rw [if_neg hq2, if_neg (by omega)]
    rw [e]
    exact ih (x + 1) (by omega)
theorem em_copy (σ : sg_M) (k i o j n : Int32) (hl : 0 ≤ k ∧ k ≤ 3 → iv_len (σ 142 k.toNatClampNeg)) (hl2 : 0 ≤ o ∧ o ≤ 3 → iv_len (σ 142 o.toNatClampNeg)) :
    ((¬ ((0 ≤ k ∧ k ≤ 3) ∧ (0 ≤ o ∧ o ≤ 3))) → sg_ev 188 σ [sg_r 7 120, sg_i k, sg_i i, sg_i o, sg_i j, sg_i n] = some (some (sg_i (-1)), sg_up σ 120 0 0)) ∧
    (((0 ≤ k ∧ k ≤ 3) ∧ (0 ≤ o ∧ o ≤ 3)) → (σ 142 k.toNatClampNeg = -1 ∨ σ 142 o.toNatClampNeg = -1) → sg_ev 188 σ [sg_r 7 120, sg_i k, sg_i i, sg_i o, sg_i j, sg_i n] = some (some (sg_i (-11)), sg_up σ 120 0 1)) ∧
    (((0 ≤ k ∧ k ≤ 3) ∧ (0 ≤ o ∧ o ≤ 3)) → ¬ (σ 142 k.toNatClampNeg = -1 ∨ σ 142 o.toNatClampNeg = -1) → ¬ σ 143 k.toNatClampNeg = σ 143 o.toNatClampNeg → sg_ev 188 σ [sg_r 7 120, sg_i k, sg_i i, sg_i o, sg_i j, sg_i n] = some (some (sg_i (-12)), sg_up σ 120 0 2)) ∧
    (((0 ≤ k ∧ k ≤ 3) ∧ (0 ≤ o ∧ o ≤ 3)) → ¬ (σ 142 k.toNatClampNeg = -1 ∨ σ 142 o.toNatClampNeg = -1) → σ 143 k.toNatClampNeg = σ 143 o.toNatClampNeg → ¬ (fn_cov i n (σ 142 k.toNatClampNeg) ∧ fn_cov j n (σ 142 o.toNatClampNeg)) → sg_ev 188 σ [sg_r 7 120, sg_i k, sg_i i, sg_i o, sg_i j, sg_i n] = some (some (sg_i (-13)), sg_up σ 120 0 3)) ∧
    (((0 ≤ k ∧ k ≤ 3) ∧ (0 ≤ o ∧ o ≤ 3)) → ¬ (σ 142 k.toNatClampNeg = -1 ∨ σ 142 o.toNatClampNeg = -1) → σ 143 k.toNatClampNeg = σ 143 o.toNatClampNeg → (fn_cov i n (σ 142 k.toNatClampNeg) ∧ fn_cov j n (σ 142 o.toNatClampNeg)) → sg_ev 188 σ [sg_r 7 120, sg_i k, sg_i i, sg_i o, sg_i j, sg_i n] = some (some (sg_i n), sg_up (sg_set (sg_set σ 145 (fun q => if q < n.toNatClampNeg then σ 144 (60 * k.toNatClampNeg + i.toNatClampNeg + q) else σ 145 q)) 144 (fun q => if 60 * o.toNatClampNeg + j.toNatClampNeg ≤ q ∧ q < 60 * o.toNatClampNeg + j.toNatClampNeg + n.toNatClampNeg then σ 144 (60 * k.toNatClampNeg + i.toNatClampNeg + (q - (60 * o.toNatClampNeg + j.toNatClampNeg))) else σ 144 q)) 120 0 0)) := by
  refine ⟨fun h1 => ?_, fun h1 h2 => ?_, fun h1 h2 h3 => ?_, fun h1 h2 h3 h4 => ?_, fun h1 h2 h3 h4 => ?_⟩
  · by_cases hk : 0 ≤ k ∧ k ≤ 3
    · have ho : ¬ (0 ≤ o ∧ o ≤ 3) := fun q => h1 ⟨hk, q⟩
      simp (decide := true) only [me_188, mq_188_0, mq_188_1, mq_188_4, mq_188_7, mq_188_8, mq_188_11, mq_188_14, mq_188_15, mq_188_16, mq_188_19, em_noSheet, em_refused, hk, ho, Nat.reduceAdd, Nat.reduceMul, Nat.reduceSub, Nat.zero_add, sg_bi_i, sg_bi_n, sg_bz, sg_bb, sg_b_0, sg_b_1, if_true, if_false, not_true_eq_false, not_false_eq_true, true_and, and_true, false_and, and_false, and_self, Int32.reduceSub]
    · simp (decide := true) only [me_188, mq_188_0, mq_188_1, mq_188_4, mq_188_7, mq_188_8, mq_188_11, mq_188_14, mq_188_15, mq_188_16, mq_188_19, em_noSheet, em_refused, hk, Nat.reduceAdd, Nat.reduceMul, Nat.reduceSub, Nat.zero_add, sg_bi_i, sg_bi_n, sg_bz, sg_bb, sg_b_0, sg_b_1, if_true, if_false, not_true_eq_false, not_false_eq_true, true_and, and_true, false_and, and_false, and_self, Int32.reduceSub]
  · obtain ⟨hk, ho⟩ := h1
    simp (decide := true) only [me_188, mq_188_0, mq_188_1, mq_188_4, mq_188_7, mq_188_8, mq_188_11, mq_188_14, mq_188_15, mq_188_16, mq_188_19, mq_188_20, mq_188_21, mq_188_24, mq_188_25, mq_188_26, mq_188_29, mq_188_30, mq_188_33, mq_188_34, mq_188_35, mq_188_38, mq_188_39, mq_188_40, mq_188_43, em_noSheet, em_failed, sg_held_lt (hl hk), sg_held_lt (hl2 ho), sg_k4 hk, sg_k4 ho, hk, ho, Nat.reduceAdd, Nat.reduceMul, Nat.reduceSub, Nat.zero_add, sg_bi_i, sg_bi_n, sg_bz, sg_bb, sg_b_0, sg_b_1, if_true, if_false, not_true_eq_false, not_false_eq_true, true_and, and_true, false_and, and_false, and_self, Int32.reduceSub]
    by_cases g : σ 142 k.toNatClampNeg = -1
    · simp (decide := true) only [g, Nat.reduceAdd, Nat.reduceMul, Nat.reduceSub, Nat.zero_add, sg_bi_i, sg_bi_n, sg_bz, sg_bb, sg_b_0, sg_b_1, if_true, if_false, not_true_eq_false, not_false_eq_true, true_and, and_true, false_and, and_false, and_self, Int32.reduceSub]
    · rcases h2 with h2 | h2
      · exact absurd h2 g
      · simp (decide := true) only [g, h2, Nat.reduceAdd, Nat.reduceMul, Nat.reduceSub, Nat.zero_add, sg_bi_i, sg_bi_n, sg_bz, sg_bb, sg_b_0, sg_b_1, if_true, if_false, not_true_eq_false, not_false_eq_true, true_and, and_true, false_and, and_false, and_self, Int32.reduceSub]
  · obtain ⟨hk, ho⟩ := h1
    obtain ⟨g1, g2⟩ := not_or.mp h2
    simp (decide := true) only [me_188, mq_188_0, mq_188_1, mq_188_4, mq_188_7, mq_188_8, mq_188_11, mq_188_14, mq_188_15, mq_188_16, mq_188_19, mq_188_20, mq_188_21, mq_188_24, mq_188_25, mq_188_26, mq_188_29, mq_188_30, mq_188_33, mq_188_34, mq_188_35, mq_188_38, mq_188_39, mq_188_40, mq_188_43, mq_188_44, mq_188_45, mq_188_48, mq_188_49, mq_188_50, mq_188_51, mq_188_54, mq_188_55, mq_188_56, mq_188_59, mq_188_60, mq_188_61, mq_188_64, em_noSheet, em_failed, sg_held_lt (hl hk), sg_held_lt (hl2 ho), sg_k4 hk, sg_k4 ho, hk, ho, g1, g2, h3, Nat.reduceAdd, Nat.reduceMul, Nat.reduceSub, Nat.zero_add, sg_bi_i, sg_bi_n, sg_bz, sg_bb, sg_b_0, sg_b_1, if_true, if_false, not_true_eq_false, not_false_eq_true, true_and, and_true, false_and, and_false, and_self, Int32.reduceSub]
  · obtain ⟨hk, ho⟩ := h1
    obtain ⟨g1, g2⟩ := not_or.mp h2
    by_cases c1 : fn_cov i n (σ 142 k.toNatClampNeg)
    · have d1 : ¬ (i < 0 ∨ n.toInt64 < 0 ∨ (σ 142 k.toNatClampNeg).toInt64 < i.toInt64 + n.toInt64) := fun q => (fn_cov_mod.mp q) c1
      have d2 : (j < 0 ∨ n.toInt64 < 0 ∨ (σ 142 o.toNatClampNeg).toInt64 < j.toInt64 + n.toInt64) = True := eq_true (fn_cov_mod.mpr (fun q => h4 ⟨c1, q⟩))
      simp (decide := true) only [me_188, mq_188_0, mq_188_1, mq_188_4, mq_188_7, mq_188_8, mq_188_11, mq_188_14, mq_188_15, mq_188_16, mq_188_19, mq_188_20, mq_188_21, mq_188_24, mq_188_25, mq_188_26, mq_188_29, mq_188_30, mq_188_33, mq_188_34, mq_188_35, mq_188_38, mq_188_39, mq_188_40, mq_188_43, mq_188_44, mq_188_45, mq_188_48, mq_188_49, mq_188_50, mq_188_51, mq_188_54, mq_188_55, mq_188_56, mq_188_59, mq_188_60, mq_188_61, mq_188_64, mq_188_65, mq_188_66, mq_188_68, mq_188_69, mq_188_70, mq_188_73, mq_188_74, mq_188_75, mq_188_78, mq_188_81, mq_188_83, mq_188_85, mq_188_86, mq_188_87, mq_188_90, mq_188_91, mq_188_92, mq_188_95, mq_188_98, mq_188_99, mq_188_100, mq_188_103, em_noSheet, em_failed, em_beyond, d1, d2, sg_held_lt (hl hk), sg_held_lt (hl2 ho), sg_k4 hk, sg_k4 ho, hk, ho, g1, g2, h3, Nat.reduceAdd, Nat.reduceMul, Nat.reduceSub, Nat.zero_add, sg_bi_i, sg_bi_n, sg_bz, sg_bb, sg_b_0, sg_b_1, if_true, if_false, not_true_eq_false, not_false_eq_true, true_and, and_true, false_and, and_false, and_self, Int32.reduceSub]
    · have d1 : (i < 0 ∨ n.toInt64 < 0 ∨ (σ 142 k.toNatClampNeg).toInt64 < i.toInt64 + n.toInt64) = True := eq_true (fn_cov_mod.mpr c1)
      simp (decide := true) only [me_188, mq_188_0, mq_188_1, mq_188_4, mq_188_7, mq_188_8, mq_188_11, mq_188_14, mq_188_15, mq_188_16, mq_188_19, mq_188_20, mq_188_21, mq_188_24, mq_188_25, mq_188_26, mq_188_29, mq_188_30, mq_188_33, mq_188_34, mq_188_35, mq_188_38, mq_188_39, mq_188_40, mq_188_43, mq_188_44, mq_188_45, mq_188_48, mq_188_49, mq_188_50, mq_188_51, mq_188_54, mq_188_55, mq_188_56, mq_188_59, mq_188_60, mq_188_61, mq_188_64, mq_188_65, mq_188_66, mq_188_68, mq_188_69, mq_188_70, mq_188_73, mq_188_74, mq_188_75, mq_188_78, mq_188_81, mq_188_83, mq_188_85, mq_188_86, mq_188_87, mq_188_90, mq_188_91, mq_188_92, mq_188_95, mq_188_98, mq_188_99, mq_188_100, mq_188_103, em_noSheet, em_failed, em_beyond, d1, sg_held_lt (hl hk), sg_held_lt (hl2 ho), sg_k4 hk, sg_k4 ho, hk, ho, g1, g2, h3, Nat.reduceAdd, Nat.reduceMul, Nat.reduceSub, Nat.zero_add, sg_bi_i, sg_bi_n, sg_bz, sg_bb, sg_b_0, sg_b_1, if_true, if_false, not_true_eq_false, not_false_eq_true, true_and, and_true, false_and, and_false, and_self, Int32.reduceSub]
  · obtain ⟨hk, ho⟩ := h1
    obtain ⟨g1, g2⟩ := not_or.mp h2
    obtain ⟨c1, c2⟩ := h4
    have d1 : ¬ (i < 0 ∨ n.toInt64 < 0 ∨ (σ 142 k.toNatClampNeg).toInt64 < i.toInt64 + n.toInt64) := fun q => (fn_cov_mod.mp q) c1
    have d2 : ¬ (j < 0 ∨ n.toInt64 < 0 ∨ (σ 142 o.toNatClampNeg).toInt64 < j.toInt64 + n.toInt64) := fun q => (fn_cov_mod.mp q) c2
    simp (decide := true) only [me_188, mq_188_0, mq_188_1, mq_188_4, mq_188_7, mq_188_8, mq_188_11, mq_188_14, mq_188_15, mq_188_16, mq_188_19, mq_188_20, mq_188_21, mq_188_24, mq_188_25, mq_188_26, mq_188_29, mq_188_30, mq_188_33, mq_188_34, mq_188_35, mq_188_38, mq_188_39, mq_188_40, mq_188_43, mq_188_44, mq_188_45, mq_188_48, mq_188_49, mq_188_50, mq_188_51, mq_188_54, mq_188_55, mq_188_56, mq_188_59, mq_188_60, mq_188_61, mq_188_64, mq_188_65, mq_188_66, mq_188_68, mq_188_69, mq_188_70, mq_188_73, mq_188_74, mq_188_75, mq_188_78, mq_188_81, mq_188_83, mq_188_85, mq_188_86, mq_188_87, mq_188_90, mq_188_91, mq_188_92, mq_188_95, mq_188_98, mq_188_99, mq_188_100, mq_188_103, mq_188_104, mq_188_105, em_noSheet, em_failed, em_beyond, d1, d2, sg_held_lt (hl hk), sg_held_lt (hl2 ho), sg_k4 hk, sg_k4 ho, hk, ho, g1, g2, h3, Nat.reduceAdd, Nat.reduceMul, Nat.reduceSub, Nat.zero_add, sg_bi_i, sg_bi_n, sg_bz, sg_bb, sg_b_0, sg_b_1, if_true, if_false, not_true_eq_false, not_false_eq_true, true_and, and_true, false_and, and_false, and_self, Int32.reduceSub]
    obtain ⟨a, b, rfl, rfl, hab, -⟩ := fn_cov_nat c1 (sg_held (hl hk) g1).2
    obtain ⟨a2, b2, rfl, hb2, hab2, -⟩ := fn_cov_nat c2 (sg_held (hl2 ho) g2).2
    have : b = b2 := (nI_eq (by omega) (by omega)).mp hb2
    subst this
    have q1 := em_copy_1 σ k o (nI a2) a b hk hab b 0 (by omega)
    have e1 : sg_set σ 145 (fun q => if q < 0 then σ 144 (60 * k.toNatClampNeg + a + q) else σ 145 q) = σ := by
      have : (fun q => if q < 0 then σ 144 (60 * k.toNatClampNeg + a + q) else σ 145 q) = σ 145 := by funext q; simp
      rw [this, sg_set_self]
    rw [e1] at q1
    rw [show (0 : Int32) = nI 0 from rfl, q1]
    simp only [mq_188_141, mq_188_142]
    rw [sg_nIc (show a < 2 ^ 31 by omega), sg_nIc (show a2 < 2 ^ 31 by omega), sg_nIc (show b < 2 ^ 31 by omega)]
    have q2 := em_copy_2 (sg_set σ 145 (fun q => if q < b then σ 144 (60 * k.toNatClampNeg + a + q) else σ 145 q)) k (nI a) o a2 b ho hab2 b 0 (by omega)
    have e2 : ∀ τ : sg_M, sg_set τ 144 (fun q => if 60 * o.toNatClampNeg + a2 ≤ q ∧ q < 60 * o.toNatClampNeg + a2 + 0 then τ 145 (q - (60 * o.toNatClampNeg + a2)) else τ 144 q) = τ := by
      intro τ
      have : (fun q => if 60 * o.toNatClampNeg + a2 ≤ q ∧ q < 60 * o.toNatClampNeg + a2 + 0 then τ 145 (q - (60 * o.toNatClampNeg + a2)) else τ 144 q) = τ 144 := by funext q; rw [if_neg (by omega)]
      rw [this, sg_set_self]
    rw [e2] at q2
    rw [show (0 : Int32) = nI 0 from rfl, q2, sg_set_same, sg_set_ne (by omega)]
    congr 4
    funext q
    by_cases hq : 60 * o.toNatClampNeg + a2 ≤ q ∧ q < 60 * o.toNatClampNeg + a2 + b
    · rw [if_pos hq, if_pos hq, if_pos (by omega)]
    · rw [if_neg hq, if_neg hq]
