/-! MISS -/
def fn_ab (r A : Nat → Int32) (k : Nat) : Int32 := if 0 ≤ r k - A k then r k - A k else 0 - (r k - A k)
def fn_ms (n a : Nat) (r A : Nat → Int32) (o : Int32) : Int32 := (if 40 < o then 999 else 0) + (fn_sum (fn_ab r A) (min n a) + nI (99 * (max n a - min n a)))
theorem fn_ms_c {n a : Nat} {r r' A A' : Nat → Int32} {o o' : Int32} (hr : ∀ k, k < n → r k = r' k) (hA : ∀ k, k < a → A k = A' k) (ho : o = o') : fn_ms n a r A o = fn_ms n a r' A' o' := by
  unfold fn_ms
  rw [ho, fn_sum_congr (f := fn_ab r A) (g := fn_ab r' A') (min n a) (fun k hk => by unfold fn_ab; rw [hr k (by omega), hA k (by omega)])]
theorem fn_ab_rg {r A : Nat → Int32} {k : Nat} (h1 : 1 ≤ (r k).toInt ∧ (r k).toInt ≤ 99) (h2 : 1 ≤ (A k).toInt ∧ (A k).toInt ≤ 99) : ∃ s : Nat, s ≤ 99 ∧ fn_ab r A k = nI s := by
  have e := sg_sub_toInt (a := r k) (b := A k) (by omega) (by omega) (by omega) (by omega)
  have e2 : 0 ≤ (fn_ab r A k).toInt ∧ (fn_ab r A k).toInt ≤ 99 := by
    unfold fn_ab
    by_cases h : 0 ≤ r k - A k
    · rw [if_pos h]
      rw [Int32.le_iff_toInt_le, sg_t0] at h
      omega
    · rw [if_neg h, sg_sub_toInt (by decide) (by decide) (by omega) (by omega), sg_t0]
      rw [Int32.le_iff_toInt_le, sg_t0] at h
      omega
  obtain ⟨s, hs, es, et⟩ := sg_nat e2.1
  exact ⟨s, by omega, es⟩
theorem fn_sum_rg {r A : Nat → Int32} : ∀ m, (∀ k, k < m → (1 ≤ (r k).toInt ∧ (r k).toInt ≤ 99) ∧ (1 ≤ (A k).toInt ∧ (A k).toInt ≤ 99)) → ∃ s : Nat, s ≤ 99 * m ∧ fn_sum (fn_ab r A) m = nI s := by
  intro m
  induction m with
  | zero => intro _; exact ⟨0, by omega, rfl⟩
  | succ m ih =>
    intro h
    obtain ⟨s, hs, es⟩ := ih (fun k hk => h k (by omega))
    obtain ⟨t, ht, et⟩ := fn_ab_rg (h m (by omega)).1 (h m (by omega)).2
    refine ⟨s + t, by omega, ?_⟩
    show fn_sum (fn_ab r A) m + fn_ab r A m = _
    rw [es, et, nI_add]
theorem fn_ms_rg {n a : Nat} {r A : Nat → Int32} {o : Int32} (h8 : n ≤ 8) (ha : a ≤ 8) (h : ∀ k, k < min n a → (1 ≤ (r k).toInt ∧ (r k).toInt ≤ 99) ∧ (1 ≤ (A k).toInt ∧ (A k).toInt ≤ 99)) : ∃ s : Nat, s ≤ 3000 ∧ fn_ms n a r A o = nI s := by
  obtain ⟨s, hs, es⟩ := fn_sum_rg (min n a) h
  unfold fn_ms
  rw [es, nI_add]
  by_cases ho : 40 < o
  · refine ⟨999 + (s + 99 * (max n a - min n a)), by omega, ?_⟩
    rw [if_pos ho, show (999 : Int32) = nI 999 from rfl, nI_add]
  · refine ⟨0 + (s + 99 * (max n a - min n a)), by omega, ?_⟩
    rw [if_neg ho, show (0 : Int32) = nI 0 from rfl, nI_add]
theorem ev_ms_l (σ : sg_M) (c a b : Nat) (S0 : Int32) (hb : b ≤ 8) : ∀ m k (S : Int32), k + m = b → S = S0 + fn_sum (fn_ab (σ (c + 2)) (σ 18)) k → sg_rv 75 27 σ [sg_r 2 c, sg_r 108 18, sg_i (nI a), sg_i (nI b), sg_i S, sg_i (nI k)] [] = some (some (sg_i (if 40 < σ c 7 then S0 + fn_sum (fn_ab (σ (c + 2)) (σ 18)) b + 999 else S0 + fn_sum (fn_ab (σ (c + 2)) (σ 18)) b)), σ) := by
  intro m
  induction m with
  | zero =>
    intro k S hk hS
    obtain rfl : k = b := by omega
    subst hS
    by_cases hf : 40 < σ c 7
    · simp (decide := true) only [mq_75_27, mq_75_29, mq_75_30, nI_ltI (show k < 2 ^ 31 by omega) (show k < 2 ^ 31 by omega), show ¬ k < k by omega, mq_75_59, mq_75_60, mq_75_63, mq_75_66, mq_75_68, mq_75_71, mq_75_72, mq_75_75, mq_75_77, ev_hasFallen, hf, Nat.reduceAdd, Nat.reduceMul, Nat.reduceSub, Nat.zero_add, sg_bi_i, sg_bi_n, sg_bz, sg_bb, sg_b_0, sg_b_1, if_true, if_false, not_true_eq_false, not_false_eq_true, true_and, and_true, false_and, and_false, and_self, Int32.reduceSub]
    · simp (decide := true) only [mq_75_27, mq_75_29, mq_75_30, nI_ltI (show k < 2 ^ 31 by omega) (show k < 2 ^ 31 by omega), show ¬ k < k by omega, mq_75_59, mq_75_60, mq_75_63, mq_75_66, mq_75_68, mq_75_71, mq_75_72, mq_75_75, mq_75_77, ev_hasFallen, hf, Nat.reduceAdd, Nat.reduceMul, Nat.reduceSub, Nat.zero_add, sg_bi_i, sg_bi_n, sg_bz, sg_bb, sg_b_0, sg_b_1, if_true, if_false, not_true_eq_false, not_false_eq_true, true_and, and_true, false_and, and_false, and_self, Int32.reduceSub]
  | succ m ih =>
    intro k S hk hS
    have i1 : sg_in (nI k) 8 = true := sg_in_nI (by omega) (by omega)
    simp (decide := true) only [mq_75_27, mq_75_29, mq_75_30, nI_ltI (show k < 2 ^ 31 by omega) (show b < 2 ^ 31 by omega), show k < b by omega, Nat.reduceAdd, Nat.reduceMul, Nat.reduceSub, Nat.zero_add, sg_bi_i, sg_bi_n, sg_bz, sg_bb, sg_b_0, sg_b_1, if_true, if_false, not_true_eq_false, not_false_eq_true, true_and, and_true, false_and, and_false, and_self, Int32.reduceSub]
    simp (decide := true) only [mq_75_33, mq_75_35, mq_75_36, mq_75_39, mq_75_41, mq_75_42, mq_75_43, mq_75_45, mq_75_46, mq_75_47, mq_75_50, mq_75_51, mq_75_53, mq_75_56, i1, sg_nIc (show k < 2 ^ 31 by omega), nI_1, Nat.reduceAdd, Nat.reduceMul, Nat.reduceSub, Nat.zero_add, sg_bi_i, sg_bi_n, sg_bz, sg_bb, sg_b_0, sg_b_1, if_true, if_false, not_true_eq_false, not_false_eq_true, true_and, and_true, false_and, and_false, and_self, Int32.reduceSub]
    refine ih (k + 1) _ (by omega) ?_
    rw [hS]
    show S0 + fn_sum (fn_ab (σ (c + 2)) (σ 18)) k + fn_ab (σ (c + 2)) (σ 18) k = S0 + (fn_sum (fn_ab (σ (c + 2)) (σ 18)) k + fn_ab (σ (c + 2)) (σ 18) k)
    rw [Int32.add_assoc]
theorem nI_min {a b : Nat} (ha : a < 2 ^ 31) (hb : b < 2 ^ 31) : (if nI a < nI b then nI a else nI b) = nI (min a b) := by
  simp only [show (nI a < nI b) = (a < b) by rw [eq_iff_iff]; exact nI_ltI ha hb]
  by_cases h : a < b
  · rw [if_pos h, Nat.min_eq_left (by omega)]
  · rw [if_neg h, Nat.min_eq_right (by omega)]
theorem nI_max {a b : Nat} (ha : a < 2 ^ 31) (hb : b < 2 ^ 31) : (if nI b < nI a then nI a else nI b) = nI (max a b) := by
  simp only [show (nI b < nI a) = (b < a) by rw [eq_iff_iff]; exact nI_ltI hb ha]
  by_cases h : b < a
  · rw [if_pos h, Nat.max_eq_left (by omega)]
  · rw [if_neg h, Nat.max_eq_right (by omega)]
theorem nI_max' {a b : Nat} (ha : a < 2 ^ 31) (hb : b < 2 ^ 31) : (if nI a < nI b then nI b else nI a) = nI (max a b) := by
  rw [nI_max hb ha, Nat.max_comm]
theorem ev_missOf (σ : sg_M) (c n a : Nat) (h8 : n ≤ 8) (ha : a ≤ 8) (hn : σ c 6 = nI n) : sg_ev 75 σ [sg_r 2 c, sg_r 108 18, sg_i (nI a)] = some (some (sg_i (fn_ms n a (σ (c + 2)) (σ 18) (σ c 7))), σ) := by
  have h := ev_ms_l σ c a (min n a) (99 * (nI (max n a) - nI (min n a))) (by omega) (min n a) 0 (99 * (nI (max n a) - nI (min n a))) (by omega) (by show _ = _ + 0; rw [Int32.add_zero])
  have e1 := nI_min (show n < 2 ^ 31 by omega) (show a < 2 ^ 31 by omega)
  have e2 := nI_max (show n < 2 ^ 31 by omega) (show a < 2 ^ 31 by omega)
  have e4 : (if nI a < nI n then nI a else nI n) = nI (min n a) := by rw [nI_min (by omega) (by omega), Nat.min_comm]
  have e3 := nI_max' (show n < 2 ^ 31 by omega) (show a < 2 ^ 31 by omega)
  have st : sg_ev 75 σ [sg_r 2 c, sg_r 108 18, sg_i (nI a)] = sg_rv 75 27 σ [sg_r 2 c, sg_r 108 18, sg_i (nI a), sg_i (nI (min n a)), sg_i (99 * (nI (max n a) - nI (min n a))), sg_i (nI 0)] [] := by
    simp (decide := true) only [me_75, mq_75_0, mq_75_1, mq_75_4, mq_75_5, mq_75_8, mq_75_9, mq_75_11, mq_75_12, mq_75_15, mq_75_16, mq_75_19, mq_75_20, mq_75_21, mq_75_22, mq_75_24, mq_75_25, hn, e1, e2, e3, e4, nI_0, Nat.reduceAdd, Nat.reduceMul, Nat.reduceSub, Nat.zero_add, sg_bi_i, sg_bi_n, sg_bz, sg_bb, sg_b_0, sg_b_1, if_true, if_false, not_true_eq_false, not_false_eq_true, true_and, and_true, false_and, and_false, and_self, Int32.reduceSub]
  rw [st, h]
  unfold fn_ms
  rw [pk_sub (show min n a ≤ max n a by omega), show (99 : Int32) = nI 99 from rfl, pk_mul]
  generalize fn_sum (fn_ab (σ (c + 2)) (σ 18)) (min n a) = S
  generalize nI (99 * (max n a - min n a)) = D
  by_cases hf : 40 < σ c 7
  · rw [if_pos hf, if_pos hf, Int32.add_comm (D + S) 999, Int32.add_comm D S]
  · rw [if_neg hf, if_neg hf, Int32.zero_add, Int32.add_comm D S]
/-- the model's parts -/
def fn_mi (n a : Nat) (r A : Nat → Int32) (k : Nat) : Int32 := if k < n ∧ k < a then fn_ab r A k else if k < n ∨ k < a then 99 else 0
theorem fn_mi_sum (n a : Nat) (r A : Nat → Int32) : ∀ x, fn_sum (fn_mi n a r A) x = fn_sum (fn_ab r A) (min x (min n a)) + nI (99 * (min x (max n a) - min x (min n a))) := by
  intro x
  induction x with
  | zero =>
    show (0 : Int32) = _
    rw [Nat.zero_min, Nat.zero_min]
    rfl
  | succ x ih =>
    show fn_sum (fn_mi n a r A) x + fn_mi n a r A x = _
    rw [ih]
    unfold fn_mi
    by_cases h1 : x < n ∧ x < a
    · rw [if_pos h1, show min (x + 1) (min n a) = x + 1 by omega, show min (x + 1) (max n a) = x + 1 by omega, show min x (min n a) = x by omega, show min x (max n a) = x by omega, Nat.sub_self, Nat.sub_self, Nat.mul_zero, nI_0, Int32.add_zero, Int32.add_zero]
      rfl
    · rw [if_neg h1]
      by_cases h2 : x < n ∨ x < a
      · rw [if_pos h2, show min (x + 1) (min n a) = min n a by omega, show min (x + 1) (max n a) = x + 1 by omega, show min x (min n a) = min n a by omega, show min x (max n a) = x by omega, Int32.add_assoc, show (99 : Int32) = nI 99 from rfl, nI_add]
        congr 2
        omega
      · rw [if_neg h2, show min (x + 1) (min n a) = min n a by omega, show min (x + 1) (max n a) = max n a by omega, show min x (min n a) = min n a by omega, show min x (max n a) = max n a by omega, Int32.add_zero]
theorem em_ms_l (σ : sg_M) (n a : Nat) (F : Int32) (h8 : n ≤ 8) (ha8 : a ≤ 8) (hn : σ 120 8 = nI n) (ha : σ 120 24 = nI a) : ∀ m k (S : Int32) (y3 y4 : sg_V), (y3 = sg_r 0 0 ∨ ∃ b, y3 = sg_i b) → (y4 = sg_r 0 0 ∨ ∃ b, y4 = sg_i b) → k + m = 8 → S = F + fn_sum (fn_mi n a (σ 128) (σ 137)) k → sg_rv 168 19 σ [sg_r 7 120, sg_i S, sg_i (nI k), y3, y4] [] = some (some (sg_i (F + fn_sum (fn_mi n a (σ 128) (σ 137)) 8)), σ) := by
  have c8 : ∀ k, k ≤ 8 → ((nI k < 8) = (k < 8)) := fun k hk => by rw [show (8 : Int32) = nI 8 from rfl, eq_iff_iff]; exact nI_ltI (by omega) (by omega)
  intro m
  induction m with
  | zero =>
    intro k S y3 y4 h3 h4 hk hS
    obtain rfl : k = 8 := by omega
    simp (decide := true) only [mq_168_19, mq_168_20, mq_168_22, c8 8 (by omega), show ¬ 8 < 8 by omega, mq_168_106, mq_168_107, Nat.reduceAdd, Nat.reduceMul, Nat.reduceSub, Nat.zero_add, sg_bi_i, sg_bi_n, sg_bz, sg_bb, sg_b_0, sg_b_1, if_true, if_false, not_true_eq_false, not_false_eq_true, true_and, and_true, false_and, and_false, and_self, Int32.reduceSub]
    rw [hS]
  | succ m ih =>
    intro k S y3 y4 h3 h4 hk hS
    have i1 : sg_in (nI k) 8 = true := sg_in_nI (by omega) (by omega)
    have cn : (nI k < nI n) = (k < n) := by rw [eq_iff_iff]; exact nI_ltI (by omega) (by omega)
    have ca : (nI k < nI a) = (k < a) := by rw [eq_iff_iff]; exact nI_ltI (by omega) (by omega)
    have hS2 : S + fn_mi n a (σ 128) (σ 137) k = F + fn_sum (fn_mi n a (σ 128) (σ 137)) (k + 1) := by
      rw [hS, Int32.add_assoc]; rfl
    simp (decide := true) only [mq_168_19, mq_168_20, mq_168_22, c8 k (by omega), show k < 8 by omega, Nat.reduceAdd, Nat.reduceMul, Nat.reduceSub, Nat.zero_add, sg_bi_i, sg_bi_n, sg_bz, sg_bb, sg_b_0, sg_b_1, if_true, if_false, not_true_eq_false, not_false_eq_true, true_and, and_true, false_and, and_false, and_self, Int32.reduceSub]
    have e39 : sg_rv 168 25 σ [sg_r 7 120, sg_i S, sg_i (nI k), y3, y4] [] = sg_rv 168 54 σ [sg_r 7 120, sg_i S, sg_i (nI k), sg_i (if k < n then 1 else 0), sg_i (if k < a then 1 else 0)] [] := by
      rcases h3 with rfl | ⟨b3, rfl⟩
      · by_cases h1 : k < n
        · by_cases h2 : k < a <;> simp (decide := true) only [mq_168_25, mq_168_26, mq_168_27, mq_168_30, mq_168_33, mq_168_34, mq_168_37, mq_168_38, mq_168_39, mq_168_40, mq_168_41, mq_168_44, mq_168_47, mq_168_48, mq_168_51, mq_168_52, hn, ha, cn, ca, h1, h2, Nat.reduceAdd, Nat.reduceMul, Nat.reduceSub, Nat.zero_add, sg_bi_i, sg_bi_n, sg_bz, sg_bb, sg_b_0, sg_b_1, if_true, if_false, not_true_eq_false, not_false_eq_true, true_and, and_true, false_and, and_false, and_self, Int32.reduceSub]
        · by_cases h2 : k < a <;> simp (decide := true) only [mq_168_25, mq_168_26, mq_168_27, mq_168_30, mq_168_33, mq_168_34, mq_168_37, mq_168_38, mq_168_39, mq_168_40, mq_168_41, mq_168_44, mq_168_47, mq_168_48, mq_168_51, mq_168_52, hn, ha, cn, ca, h1, h2, Nat.reduceAdd, Nat.reduceMul, Nat.reduceSub, Nat.zero_add, sg_bi_i, sg_bi_n, sg_bz, sg_bb, sg_b_0, sg_b_1, if_true, if_false, not_true_eq_false, not_false_eq_true, true_and, and_true, false_and, and_false, and_self, Int32.reduceSub]
      · by_cases h1 : k < n
        · by_cases h2 : k < a <;> simp (decide := true) only [mq_168_25, mq_168_26, mq_168_27, mq_168_30, mq_168_33, mq_168_34, mq_168_37, mq_168_38, mq_168_39, mq_168_40, mq_168_41, mq_168_44, mq_168_47, mq_168_48, mq_168_51, mq_168_52, hn, ha, cn, ca, h1, h2, Nat.reduceAdd, Nat.reduceMul, Nat.reduceSub, Nat.zero_add, sg_bi_i, sg_bi_n, sg_bz, sg_bb, sg_b_0, sg_b_1, if_true, if_false, not_true_eq_false, not_false_eq_true, true_and, and_true, false_and, and_false, and_self, Int32.reduceSub]
        · by_cases h2 : k < a <;> simp (decide := true) only [mq_168_25, mq_168_26, mq_168_27, mq_168_30, mq_168_33, mq_168_34, mq_168_37, mq_168_38, mq_168_39, mq_168_40, mq_168_41, mq_168_44, mq_168_47, mq_168_48, mq_168_51, mq_168_52, hn, ha, cn, ca, h1, h2, Nat.reduceAdd, Nat.reduceMul, Nat.reduceSub, Nat.zero_add, sg_bi_i, sg_bi_n, sg_bz, sg_bb, sg_b_0, sg_b_1, if_true, if_false, not_true_eq_false, not_false_eq_true, true_and, and_true, false_and, and_false, and_self, Int32.reduceSub]
    rw [e39]
    have hh := ih (k + 1) _ (sg_i (if k < n then 1 else 0)) (sg_i (if k < a then 1 else 0)) (Or.inr ⟨_, rfl⟩) (Or.inr ⟨_, rfl⟩) (by omega) hS2
    unfold fn_mi fn_ab at hh
    unfold fn_mi fn_ab
    by_cases h1 : k < n
    · by_cases h2 : k < a
      · simp (decide := true) only [h1, h2, Nat.reduceAdd, Nat.reduceMul, Nat.reduceSub, Nat.zero_add, sg_bi_i, sg_bi_n, sg_bz, sg_bb, sg_b_0, sg_b_1, if_true, if_false, not_true_eq_false, not_false_eq_true, true_and, and_true, false_and, and_false, and_self, Int32.reduceSub] at hh ⊢
        simp (decide := true) only [mq_168_54, mq_168_55, mq_168_56, mq_168_59, mq_168_61, mq_168_64, mq_168_65, mq_168_68, mq_168_69, mq_168_70, mq_168_71, mq_168_74, mq_168_75, mq_168_76, mq_168_77, mq_168_80, mq_168_83, mq_168_84, mq_168_87, mq_168_89, mq_168_92, mq_168_94, mq_168_97, mq_168_98, mq_168_99, mq_168_100, mq_168_103, i1, sg_nIc (show k < 2 ^ 31 by omega), em_sizeOf, nI_1, Nat.reduceAdd, Nat.reduceMul, Nat.reduceSub, Nat.zero_add, sg_bi_i, sg_bi_n, sg_bz, sg_bb, sg_b_0, sg_b_1, if_true, if_false, not_true_eq_false, not_false_eq_true, true_and, and_true, false_and, and_false, and_self, Int32.reduceSub]
        exact hh
      · simp (decide := true) only [h1, h2, or_false, Nat.reduceAdd, Nat.reduceMul, Nat.reduceSub, Nat.zero_add, sg_bi_i, sg_bi_n, sg_bz, sg_bb, sg_b_0, sg_b_1, if_true, if_false, not_true_eq_false, not_false_eq_true, true_and, and_true, false_and, and_false, and_self, Int32.reduceSub] at hh ⊢
        simp (decide := true) only [mq_168_54, mq_168_55, mq_168_56, mq_168_59, mq_168_61, mq_168_64, mq_168_65, mq_168_68, mq_168_69, mq_168_70, mq_168_71, mq_168_74, mq_168_75, mq_168_76, mq_168_77, mq_168_80, mq_168_83, mq_168_84, mq_168_87, mq_168_89, mq_168_92, mq_168_94, mq_168_97, mq_168_98, mq_168_99, mq_168_100, mq_168_103, nI_1, Nat.reduceAdd, Nat.reduceMul, Nat.reduceSub, Nat.zero_add, sg_bi_i, sg_bi_n, sg_bz, sg_bb, sg_b_0, sg_b_1, if_true, if_false, not_true_eq_false, not_false_eq_true, true_and, and_true, false_and, and_false, and_self, Int32.reduceSub]
        exact hh
    · by_cases h2 : k < a
      · simp (decide := true) only [h1, h2, false_or, Nat.reduceAdd, Nat.reduceMul, Nat.reduceSub, Nat.zero_add, sg_bi_i, sg_bi_n, sg_bz, sg_bb, sg_b_0, sg_b_1, if_true, if_false, not_true_eq_false, not_false_eq_true, true_and, and_true, false_and, and_false, and_self, Int32.reduceSub] at hh ⊢
        simp (decide := true) only [mq_168_54, mq_168_55, mq_168_56, mq_168_59, mq_168_61, mq_168_64, mq_168_65, mq_168_68, mq_168_69, mq_168_70, mq_168_71, mq_168_74, mq_168_75, mq_168_76, mq_168_77, mq_168_80, mq_168_83, mq_168_84, mq_168_87, mq_168_89, mq_168_92, mq_168_94, mq_168_97, mq_168_98, mq_168_99, mq_168_100, mq_168_103, nI_1, Nat.reduceAdd, Nat.reduceMul, Nat.reduceSub, Nat.zero_add, sg_bi_i, sg_bi_n, sg_bz, sg_bb, sg_b_0, sg_b_1, if_true, if_false, not_true_eq_false, not_false_eq_true, true_and, and_true, false_and, and_false, and_self, Int32.reduceSub]
        exact hh
      · simp (decide := true) only [h1, h2, or_self, Nat.reduceAdd, Nat.reduceMul, Nat.reduceSub, Nat.zero_add, sg_bi_i, sg_bi_n, sg_bz, sg_bb, sg_b_0, sg_b_1, if_true, if_false, not_true_eq_false, not_false_eq_true, true_and, and_true, false_and, and_false, and_self, Int32.reduceSub] at hh ⊢
        simp (decide := true) only [mq_168_54, mq_168_55, mq_168_56, mq_168_59, mq_168_61, mq_168_64, mq_168_65, mq_168_68, mq_168_69, mq_168_70, mq_168_71, mq_168_74, mq_168_75, mq_168_76, mq_168_77, mq_168_80, mq_168_83, mq_168_84, mq_168_87, mq_168_89, mq_168_92, mq_168_94, mq_168_97, mq_168_98, mq_168_99, mq_168_100, mq_168_103, nI_1, Nat.reduceAdd, Nat.reduceMul, Nat.reduceSub, Nat.zero_add, sg_bi_i, sg_bi_n, sg_bz, sg_bb, sg_b_0, sg_b_1, if_true, if_false, not_true_eq_false, not_false_eq_true, true_and, and_true, false_and, and_false, and_self, Int32.reduceSub]
        exact hh
theorem em_missed (σ : sg_M) (n a : Nat) (h8 : n ≤ 8) (ha8 : a ≤ 8) (hn : σ 120 8 = nI n) (ha : σ 120 24 = nI a) : sg_ev 168 σ [sg_r 7 120] = some (some (sg_i (fn_ms n a (σ 128) (σ 137) (σ 120 9))), σ) := by
  have h := em_ms_l σ n a (if 40 < σ 120 9 then 999 else 0) h8 ha8 hn ha 8 0 (if 40 < σ 120 9 then 999 else 0) (sg_r 0 0) (sg_r 0 0) (Or.inl rfl) (Or.inl rfl) (by omega) (by show _ = _ + 0; rw [Int32.add_zero])
  unfold fn_ms
  rw [fn_mi_sum, show min 8 (min n a) = min n a by omega, show min 8 (max n a) = max n a by omega] at h
  rw [← h]
  by_cases hf : 40 < σ 120 9
  · simp (decide := true) only [me_168, mq_168_0, mq_168_1, mq_168_4, mq_168_6, mq_168_9, mq_168_12, mq_168_15, mq_168_16, mq_168_17, mq_168_18, hf, nI_0, Nat.reduceAdd, Nat.reduceMul, Nat.reduceSub, Nat.zero_add, sg_bi_i, sg_bi_n, sg_bz, sg_bb, sg_b_0, sg_b_1, if_true, if_false, not_true_eq_false, not_false_eq_true, true_and, and_true, false_and, and_false, and_self, Int32.reduceSub]
  · simp (decide := true) only [me_168, mq_168_0, mq_168_1, mq_168_4, mq_168_6, mq_168_9, mq_168_12, mq_168_15, mq_168_16, mq_168_17, mq_168_18, hf, nI_0, Nat.reduceAdd, Nat.reduceMul, Nat.reduceSub, Nat.zero_add, sg_bi_i, sg_bi_n, sg_bz, sg_bb, sg_b_0, sg_b_1, if_true, if_false, not_true_eq_false, not_false_eq_true, true_and, and_true, false_and, and_false, and_self, Int32.reduceSub]
theorem pr_miss {B : Int} {σ : sg_M} (p : Int32) (h : iv_all B σ) : sg_pair B σ 74 167 [sg_i p] := by
  rcases pc_cases h.2.2.2.2.2 p with hno | ⟨j, m, hj, rfl, hpc, hp⟩
  · refine pair_same h (sg_i (-1)) σ σ ?_ (same_rfl σ) ?_ (same_rfl σ)
    · simp (decide := true) only [me_74, mq_74_0, mq_74_1, mq_74_2, mq_74_5, mq_74_8, mq_74_9, mq_74_10, mq_74_11, mq_74_14, mq_74_17, mq_74_19, mq_74_22, mq_74_23, mq_74_26, mq_74_27, mq_74_28, mq_74_29, mq_74_32, mq_74_33, mq_74_36, mq_74_39, (hno σ).1 rfl, Nat.reduceAdd, Nat.reduceMul, Nat.reduceSub, Nat.zero_add, sg_bi_i, sg_bi_n, sg_bz, sg_bb, sg_b_0, sg_b_1, if_true, if_false, not_true_eq_false, not_false_eq_true, true_and, and_true, false_and, and_false, and_self, Int32.reduceSub]
    · simp (decide := true) only [me_167, mq_167_0, mq_167_1, mq_167_2, mq_167_5, mq_167_8, mq_167_9, mq_167_10, mq_167_11, mq_167_14, mq_167_17, mq_167_19, mq_167_20, mq_167_21, mq_167_22, mq_167_25, mq_167_26, mq_167_29, (hno σ).2 rfl, Nat.reduceAdd, Nat.reduceMul, Nat.reduceSub, Nat.zero_add, sg_bi_i, sg_bi_n, sg_bz, sg_bb, sg_b_0, sg_b_1, if_true, if_false, not_true_eq_false, not_false_eq_true, true_and, and_true, false_and, and_false, and_self, Int32.reduceSub]
  · have e1 := (hp σ).1 rfl
    have e2 := (hp σ).2 rfl
    have i1 : sg_in (nI j) 8 = true := sg_in_nI (by omega) (by omega)
    have cj : (nI j).toNatClampNeg = j := sg_nIc (by omega)
    obtain ⟨⟨n1, n8⟩, hn, hn2, ho, -, hi, hst⟩ := id hpc
    obtain ⟨a, a8, a1, a2, a3⟩ := h.2.2.1
    have az := nI_z (show a < 2 ^ 31 by omega)
    by_cases ha0 : a = 0
    · refine pair_same h (sg_i (-3)) σ σ ?_ (same_rfl σ) ?_ (same_rfl σ)
      · simp (decide := true) only [me_74, mq_74_0, mq_74_1, mq_74_2, mq_74_5, mq_74_8, mq_74_9, mq_74_10, mq_74_11, mq_74_14, mq_74_17, mq_74_19, mq_74_22, mq_74_23, mq_74_26, mq_74_27, mq_74_28, mq_74_29, mq_74_32, mq_74_33, mq_74_36, mq_74_39, e1, a1, az, eq_true ha0, Nat.reduceAdd, Nat.reduceMul, Nat.reduceSub, Nat.zero_add, sg_bi_i, sg_bi_n, sg_bz, sg_bb, sg_b_0, sg_b_1, if_true, if_false, not_true_eq_false, not_false_eq_true, true_and, and_true, false_and, and_false, and_self, Int32.reduceSub]
      · simp (decide := true) only [me_167, mq_167_0, mq_167_1, mq_167_2, mq_167_5, mq_167_8, mq_167_9, mq_167_10, mq_167_11, mq_167_14, mq_167_17, mq_167_19, mq_167_20, mq_167_21, mq_167_22, mq_167_25, mq_167_26, mq_167_29, e2, a2, az, eq_true ha0, Nat.reduceAdd, Nat.reduceMul, Nat.reduceSub, Nat.zero_add, sg_bi_i, sg_bi_n, sg_bz, sg_bb, sg_b_0, sg_b_1, if_true, if_false, not_true_eq_false, not_false_eq_true, true_and, and_true, false_and, and_false, and_self, Int32.reduceSub]
    · obtain ⟨t1, t2, t3⟩ := em_take hj hpc
      obtain ⟨r1, r2, -⟩ := tk_rl hpc
      have f1 := ev_missOf σ (19 + 6 * j) m a n8 a8 hn
      have f2 := em_missed (sg_mP (sg_tk σ j) 0 (fn_tk σ j) (σ 131)) m a n8 a8 (by rw [mP_120 _ _ _ _ (by omega)]; exact t2) (by rw [mP_120 _ _ _ _ (by omega), tk_120 _ _ (by omega)]; exact a2)
      have e128 : sg_mP (sg_tk σ j) 0 (fn_tk σ j) (σ 131) 128 = (fn_tk σ j).2.1 := by unfold sg_mP; rw [mm_128]
      have e137 : sg_mP (sg_tk σ j) 0 (fn_tk σ j) (σ 131) 137 = σ 137 := by rw [mP_x _ _ _ _ (by omega), tk_x _ _ (by omega) (by omega)]
      rw [e128, e137, mP_9, ← fn_ms_c (n := m) (a := a) (r := σ (19 + 6 * j + 2)) (A := σ 18) (o := σ (19 + 6 * j) 7) (fun k hk => (r1.2 k hk).1) (fun k hk => (a3 k hk).1.symm) r1.1] at f2
      refine pair_same h (sg_i (fn_ms m a (σ (19 + 6 * j + 2)) (σ 18) (σ (19 + 6 * j) 7))) σ _ ?_ (same_rfl σ) ?_ (same_mP σ j 0 (fn_tk σ j) (σ 131))
      · simp (decide := true) only [me_74, mq_74_0, mq_74_1, mq_74_2, mq_74_5, mq_74_8, mq_74_9, mq_74_10, mq_74_11, mq_74_14, mq_74_17, mq_74_19, mq_74_22, mq_74_23, mq_74_26, mq_74_27, mq_74_28, mq_74_29, mq_74_32, mq_74_33, mq_74_36, mq_74_39, e1, a1, az, ha0, i1, cj, f1, Nat.reduceAdd, Nat.reduceMul, Nat.reduceSub, Nat.zero_add, sg_bi_i, sg_bi_n, sg_bz, sg_bb, sg_b_0, sg_b_1, if_true, if_false, not_true_eq_false, not_false_eq_true, true_and, and_true, false_and, and_false, and_self, Int32.reduceSub]
      · simp (decide := true) only [me_167, mq_167_0, mq_167_1, mq_167_2, mq_167_5, mq_167_8, mq_167_9, mq_167_10, mq_167_11, mq_167_14, mq_167_17, mq_167_19, mq_167_20, mq_167_21, mq_167_22, mq_167_25, mq_167_26, mq_167_29, e2, a2, az, ha0, t1, f2, Nat.reduceAdd, Nat.reduceMul, Nat.reduceSub, Nat.zero_add, sg_bi_i, sg_bi_n, sg_bz, sg_bb, sg_b_0, sg_b_1, if_true, if_false, not_true_eq_false, not_false_eq_true, true_and, and_true, false_and, and_false, and_self, Int32.reduceSub]
