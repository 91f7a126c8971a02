theorem sg_up_set (σ : sg_M) (c j : Nat) (f : Nat → Int32) (v : Int32) : sg_up (sg_set σ c f) c j v = sg_set σ c (upd f j v) := by
  unfold sg_up
  rw [sg_set_same, sg_set_set]
theorem sg_nIc {k : Nat} (h : k < 2 ^ 31) : (nI k).toNatClampNeg = k := nI_clamp h
theorem upd_lt (f : Nat → Int32) (k : Nat) (g : Nat → Int32) : upd (fun j => if j < k then g j else f j) k (g k) = fun j => if j < k + 1 then g j else f j := by
  funext j
  by_cases h : j = k
  · subst h; simp [upd]
  · by_cases h2 : j < k
    · simp [upd, h, h2, show j < k + 1 by omega]
    · simp [upd, h, h2, show ¬ j < k + 1 by omega]
theorem ev_fill_l (σ : sg_M) (c t n : Nat) (v : Int32) (hn : n = t + 1 - 100) (ht : 100 ≤ t + 1) (hb : n < 2 ^ 31) : ∀ m k, k + m = n → sg_rv 59 5 (sg_set σ c (fun j => if j < k then v else σ c j)) [sg_r (t + 1) c, sg_i v, sg_i (nI k), sg_i (nI n)] [] = some (none, sg_set σ c (fun j => if j < n then v else σ c j)) := by
  intro m
  induction m with
  | zero =>
    intro k hk
    simp only [mq_59_5, mq_59_6, mq_59_7, nI_ltI (show k < 2 ^ 31 by omega) hb, show ¬ k < n by omega, if_false, mq_59_20]
    rw [show k = n by omega]
  | succ m ih =>
    intro k hk
    have hin : sg_in (nI k) (t + 1 - 100) = true := sg_in_nI (by omega) (by omega)
    simp only [mq_59_5, mq_59_6, mq_59_7, nI_ltI (show k < 2 ^ 31 by omega) hb, show k < n by omega, if_true]
    simp only [mq_59_10, mq_59_11, mq_59_12, mq_59_13, mq_59_14, mq_59_17, ht, hin, sg_nIc (show k < 2 ^ 31 by omega), sg_up_set, nI_1]
    rw [upd_lt (σ c) k (fun _ => v)]
    exact ih (k + 1) (by omega)
theorem ev_fill (σ : sg_M) (c t : Nat) (v : Int32) (ht : 100 ≤ t + 1) (hb : t < 1000) : sg_ev 59 σ [sg_r (t + 1) c, sg_i v] = some (none, sg_set σ c (fun j => if j < t + 1 - 100 then v else σ c j)) := by
  simp only [me_59, me_59, mq_59_0, mq_59_1, mq_59_2, mq_59_3, mq_59_4, ht]
  have h := ev_fill_l σ c t (t + 1 - 100) v rfl ht (by omega) (t + 1 - 100) 0 (by omega)
  have e : sg_set σ c (fun j => if j < 0 then v else σ c j) = σ := by
    have : (fun j => if j < 0 then v else σ c j) = σ c := by funext j; simp
    rw [this, sg_set_self]
  rw [e] at h
  exact h
theorem sg_60 {k : Int32} {j : Nat} (h : 0 ≤ k ∧ k ≤ 3) (hj : j < 60) : sg_in (60 * k + nI j) 240 = true ∧ (60 * k + nI j).toNatClampNeg = 60 * k.toNatClampNeg + j := by
  obtain ⟨q, hq, rfl⟩ := nI_of2 (x := k) (M := 3) (n := 3) (by decide) (by rw [Int32.not_lt]; exact h.1) h.2
  have e : (60 : Int32) * nI q + nI j = nI (60 * q + j) := by
    rw [show (60 : Int32) = nI 60 from rfl, pk_mul, nI_add]
  rw [e, sg_nIc (by omega), sg_nIc (by omega)]
  exact ⟨sg_in_nI (by omega) (by omega), rfl⟩
theorem ev_renew (σ : sg_M) (c : Nat) (lane n : Int32) : sg_ev 94 σ [sg_r 6 c, sg_i lane, sg_i n] = some (none, sg_set (sg_up (sg_up σ c 1 lane) c 2 n) (c + 1) (fun j => if j < 60 then 0 else σ (c + 1) j)) := by
  simp (decide := true) only [me_94, mq_94_0, mq_94_1, mq_94_2, mq_94_5, mq_94_6, mq_94_7, mq_94_10, mq_94_11, mq_94_14, mq_94_15, mq_94_18, ev_fill, Nat.reduceAdd, Nat.reduceMul, Nat.reduceSub, Nat.zero_add, sg_bi_i, sg_bi_n, sg_bz, sg_bb, sg_b_0, sg_b_1, if_true, if_false, not_true_eq_false, not_false_eq_true, true_and, and_true, false_and, and_false, and_self, Int32.reduceSub]
  rw [sg_up_ne (by omega), sg_up_ne (by omega)]
theorem ev_clear (σ : sg_M) (c : Nat) : sg_ev 96 σ [sg_r 6 c] = some (none, sg_up σ c 2 (-1)) := by
  simp (decide := true) only [me_96, mq_96_0, mq_96_1, mq_96_2, mq_96_5]
def fn_lane (lane v : Int32) : Int32 := if lane = 0 then v.toInt8.toInt32 else if lane = 1 then v.toInt16.toInt32 else v
theorem ev_sheet (σ : sg_M) (k lane n : Int32) : sg_ev 93 σ [sg_r 1 0, sg_i k, sg_i lane, sg_i n] = if ¬ (0 ≤ k ∧ k ≤ 3) then some (some (sg_i (-1)), sg_up σ 0 12 0) else if ¬ (0 ≤ lane ∧ lane ≤ 2) ∨ 60 < n then some (some (sg_i (-2)), sg_up σ 0 12 0) else if n < 0 then some (some (sg_i (-14)), sg_up σ 0 12 4)
    else some (some (sg_i 1), sg_set (sg_up (sg_up (sg_up σ 0 12 0) (112 + 2 * k.toNatClampNeg) 1 lane) (112 + 2 * k.toNatClampNeg) 2 n) (113 + 2 * k.toNatClampNeg) (fun j => if j < 60 then 0 else σ (113 + 2 * k.toNatClampNeg) j)) := by
  simp (decide := true) only [me_93, mq_93_0, mq_93_1, mq_93_2, mq_93_5, mq_93_6, mq_93_9, mq_93_12, mq_93_13, mq_93_14, mq_93_15, mq_93_18, mq_93_21, mq_93_22, mq_93_24, mq_93_27, mq_93_29, mq_93_30, mq_93_31, mq_93_34, mq_93_35, mq_93_36, mq_93_39, mq_93_40, mq_93_41, mq_93_44, mq_93_45, mq_93_46, mq_93_47, mq_93_48, mq_93_51, mq_93_52, ev_isSheet, ev_isLane, Nat.reduceAdd, Nat.reduceMul, Nat.reduceSub, Nat.zero_add, sg_bi_i, sg_bi_n, sg_bz, sg_bb, sg_b_0, sg_b_1, if_true, if_false, not_true_eq_false, not_false_eq_true, true_and, and_true, false_and, and_false, and_self, Int32.reduceSub]
  by_cases h1 : 0 ≤ k ∧ k ≤ 3
  · by_cases h2 : 0 ≤ lane ∧ lane ≤ 2
    · by_cases h3 : 60 < n
      · simp (decide := true) only [h1, h2, h3, false_or, Nat.reduceAdd, Nat.reduceMul, Nat.reduceSub, Nat.zero_add, sg_bi_i, sg_bi_n, sg_bz, sg_bb, sg_b_0, sg_b_1, if_true, if_false, not_true_eq_false, not_false_eq_true, true_and, and_true, false_and, and_false, and_self, Int32.reduceSub]
      · by_cases h4 : n < 0
        · simp (decide := true) only [h1, h2, h3, h4, me_93, mq_93_0, mq_93_1, mq_93_2, mq_93_5, mq_93_6, mq_93_9, mq_93_12, mq_93_13, mq_93_14, mq_93_15, mq_93_18, mq_93_21, mq_93_22, mq_93_24, mq_93_27, mq_93_29, mq_93_30, mq_93_31, mq_93_34, mq_93_35, mq_93_36, mq_93_39, mq_93_40, mq_93_41, mq_93_44, mq_93_45, mq_93_46, mq_93_47, mq_93_48, mq_93_51, mq_93_52, ev_failed, sg_up_up, or_self, Nat.reduceAdd, Nat.reduceMul, Nat.reduceSub, Nat.zero_add, sg_bi_i, sg_bi_n, sg_bz, sg_bb, sg_b_0, sg_b_1, if_true, if_false, not_true_eq_false, not_false_eq_true, true_and, and_true, false_and, and_false, and_self, Int32.reduceSub]
        · simp (decide := true) only [h1, h2, h3, h4, me_93, mq_93_0, mq_93_1, mq_93_2, mq_93_5, mq_93_6, mq_93_9, mq_93_12, mq_93_13, mq_93_14, mq_93_15, mq_93_18, mq_93_21, mq_93_22, mq_93_24, mq_93_27, mq_93_29, mq_93_30, mq_93_31, mq_93_34, mq_93_35, mq_93_36, mq_93_39, mq_93_40, mq_93_41, mq_93_44, mq_93_45, mq_93_46, mq_93_47, mq_93_48, mq_93_51, mq_93_52, sg_k4 h1, ev_renew, or_self, Nat.reduceAdd, Nat.reduceMul, Nat.reduceSub, Nat.zero_add, sg_bi_i, sg_bi_n, sg_bz, sg_bb, sg_b_0, sg_b_1, if_true, if_false, not_true_eq_false, not_false_eq_true, true_and, and_true, false_and, and_false, and_self, Int32.reduceSub]
          rw [show 112 + 2 * k.toNatClampNeg + 1 = 113 + 2 * k.toNatClampNeg by omega, sg_up_ne (σ := σ) (k := 113 + 2 * k.toNatClampNeg) (by omega)]
    · simp (decide := true) only [h1, h2, true_or, Nat.reduceAdd, Nat.reduceMul, Nat.reduceSub, Nat.zero_add, sg_bi_i, sg_bi_n, sg_bz, sg_bb, sg_b_0, sg_b_1, if_true, if_false, not_true_eq_false, not_false_eq_true, true_and, and_true, false_and, and_false, and_self, Int32.reduceSub]
  · simp (decide := true) only [h1, Nat.reduceAdd, Nat.reduceMul, Nat.reduceSub, Nat.zero_add, sg_bi_i, sg_bi_n, sg_bz, sg_bb, sg_b_0, sg_b_1, if_true, if_false, not_true_eq_false, not_false_eq_true, true_and, and_true, false_and, and_false, and_self, Int32.reduceSub]
theorem em_sheet_l (σ τ : sg_M) (k lane : Int32) (n : Nat) (hk : 0 ≤ k ∧ k ≤ 3) (hn : n ≤ 60) : ∀ m j, j + m = n → sg_rv 182 65 (sg_set τ 144 (fun x => if 60 * k.toNatClampNeg ≤ x ∧ x < 60 * k.toNatClampNeg + j then 0 else σ 144 x)) [sg_r 7 120, sg_i k, sg_i lane, sg_i (nI n), sg_i (nI j)] [] = some (some (sg_i 1), sg_up (sg_set τ 144 (fun x => if 60 * k.toNatClampNeg ≤ x ∧ x < 60 * k.toNatClampNeg + n then 0 else σ 144 x)) 120 0 0) := by
  intro m
  induction m with
  | zero =>
    intro j hj
    simp only [mq_182_65, mq_182_67, mq_182_68, nI_ltI (show j < 2 ^ 31 by omega) (show n < 2 ^ 31 by omega), show ¬ j < n by omega, if_false, mq_182_90, mq_182_91, mq_182_92, mq_182_95, em_refused, sg_bi_i]
    rw [show j = n by omega]
  | succ m ih =>
    intro j hj
    obtain ⟨h1, h2⟩ := sg_60 (j := j) hk (by omega)
    simp only [mq_182_65, mq_182_67, mq_182_68, nI_ltI (show j < 2 ^ 31 by omega) (show n < 2 ^ 31 by omega), show j < n by omega, if_true]
    simp only [mq_182_71, mq_182_72, mq_182_75, mq_182_77, mq_182_78, mq_182_79, mq_182_81, mq_182_82, mq_182_83, mq_182_84, mq_182_87, h1, h2, nI_1, Nat.reduceAdd, sg_up_set]
    have e : upd (fun x => if 60 * k.toNatClampNeg ≤ x ∧ x < 60 * k.toNatClampNeg + j then 0 else σ 144 x) (60 * k.toNatClampNeg + j) 0 = fun x => if 60 * k.toNatClampNeg ≤ x ∧ x < 60 * k.toNatClampNeg + (j + 1) then 0 else σ 144 x := by
      funext x
      by_cases hx : x = 60 * k.toNatClampNeg + j
      · subst hx; simp [upd]
      · by_cases hx2 : 60 * k.toNatClampNeg ≤ x ∧ x < 60 * k.toNatClampNeg + j
        · simp [upd, hx, hx2, show x < 60 * k.toNatClampNeg + (j + 1) by omega]
        · have hx3 : ¬ (60 * k.toNatClampNeg ≤ x ∧ x < 60 * k.toNatClampNeg + (j + 1)) := by omega
          simp only [upd, hx, hx2, hx3, if_false]
    rw [e]
    exact ih (j + 1) (by omega)
