theorem sg_below {x : Int32} {N : Nat} (hN : N ≤ 1000) : (0 ≤ x ∧ x ≤ nI N - 1) ↔ ∃ j : Nat, j < N ∧ x = nI j := by
  have e : (nI N - 1).toInt = (N : Int) - 1 := by
    rw [sg_sub_toInt (by rw [nI_toInt (by omega)]; omega) (by rw [nI_toInt (by omega)]; omega) (by decide) (by decide), nI_toInt (by omega), sg_t1]
  constructor
  · rintro ⟨a, b⟩
    obtain ⟨j, hj, rfl⟩ := nI_of (x := x) (by rw [Int32.not_lt]; exact a)
    rw [Int32.le_iff_toInt_le, e, nI_toInt hj] at b
    exact ⟨j, by omega, rfl⟩
  · rintro ⟨j, hj, rfl⟩
    exact ⟨nI_pos' (by omega), by rw [Int32.le_iff_toInt_le, e, nI_toInt (by omega)]; omega⟩
theorem nI_nmin {N : Nat} (hN : N ≤ 1000) : (nI N).toInt ≠ -2147483648 := by rw [nI_toInt (by omega)]; omega
theorem ev_isItem_no (σ : sg_M) (q k : Int32) (h : ¬ (0 ≤ q ∧ q ≤ σ 0 9 - 1)) : sg_ev 44 σ [sg_r 1 0, sg_i q, sg_i k] = some (some (sg_i 0), σ) := by
  simp (decide := true) only [me_44, mq_44_0, mq_44_1, mq_44_2, mq_44_5, mq_44_8, mq_44_9, mq_44_10, mq_44_11, mq_44_14, mq_44_15, mq_44_16, mq_44_19, mq_44_20, mq_44_21, mq_44_24, mq_44_27, mq_44_28, mq_44_31, mq_44_32, ev_isRecipe, h, Nat.reduceAdd, Nat.reduceMul, Nat.reduceSub, Nat.zero_add, sg_bi_i, sg_bi_n, sg_bz, sg_bb, sg_b_0, sg_b_1, if_true, if_false, not_true_eq_false, not_false_eq_true, true_and, and_true, false_and, and_false, and_self, Int32.reduceSub]
theorem ev_isItem (σ : sg_M) (q : Nat) (k : Int32) (hq : q < 6) (h : 0 ≤ nI q ∧ nI q ≤ σ 0 9 - 1) : sg_ev 44 σ [sg_r 1 0, sg_i (nI q), sg_i k] = some (some (sg_i (if 0 ≤ k ∧ k ≤ σ (91 + 3 * q) 2 - 1 then 1 else 0)), σ) := by
  have i1 : sg_in (nI q) 7 = true := sg_in_nI (by omega) (by omega)
  simp (decide := true) only [me_44, mq_44_0, mq_44_1, mq_44_2, mq_44_5, mq_44_8, mq_44_9, mq_44_10, mq_44_11, mq_44_14, mq_44_15, mq_44_16, mq_44_19, mq_44_20, mq_44_21, mq_44_24, mq_44_27, mq_44_28, mq_44_31, mq_44_32, ev_isRecipe, ev_within, h, i1, sg_nIc (show q < 2 ^ 31 by omega), Nat.reduceAdd, Nat.reduceMul, Nat.reduceSub, Nat.zero_add, sg_bi_i, sg_bi_n, sg_bz, sg_bb, sg_b_0, sg_b_1, if_true, if_false, not_true_eq_false, not_false_eq_true, true_and, and_true, false_and, and_false, and_self, Int32.reduceSub]
  by_cases h2 : 0 ≤ k ∧ k ≤ σ (91 + 3 * q) 2 - 1 <;> simp (decide := true) only [h2, Nat.reduceAdd, Nat.reduceMul, Nat.reduceSub, Nat.zero_add, sg_bi_i, sg_bi_n, sg_bz, sg_bb, sg_b_0, sg_b_1, if_true, if_false, not_true_eq_false, not_false_eq_true, true_and, and_true, false_and, and_false, and_self, Int32.reduceSub]
theorem em_noItem_no (σ : sg_M) (q k : Int32) (hc : (σ 120 16).toInt ≠ -2147483648) (h : ¬ (0 ≤ q ∧ q ≤ σ 120 16 - 1)) : sg_ev 190 σ [sg_r 7 120, sg_i q, sg_i k] = some (some (sg_i 1), σ) := by
  simp (decide := true) only [me_190, mq_190_0, mq_190_1, mq_190_2, mq_190_5, mq_190_8, mq_190_9, mq_190_10, mq_190_11, mq_190_12, mq_190_15, mq_190_16, mq_190_17, mq_190_18, mq_190_19, mq_190_20, mq_190_23, mq_190_26, mq_190_27, mq_190_30, mq_190_31, em_noRecipe σ 120 q hc, h, Nat.reduceAdd, Nat.reduceMul, Nat.reduceSub, Nat.zero_add, sg_bi_i, sg_bi_n, sg_bz, sg_bb, sg_b_0, sg_b_1, if_true, if_false, not_true_eq_false, not_false_eq_true, true_and, and_true, false_and, and_false, and_self, Int32.reduceSub]
theorem em_noItem (σ : sg_M) (q : Nat) (k : Int32) (hq : q < 6) (hc : (σ 120 16).toInt ≠ -2147483648) (h : 0 ≤ nI q ∧ nI q ≤ σ 120 16 - 1) (hc2 : (σ 132 q).toInt ≠ -2147483648) : sg_ev 190 σ [sg_r 7 120, sg_i (nI q), sg_i k] = some (some (sg_i (if 0 ≤ k ∧ k ≤ σ 132 q - 1 then 0 else 1)), σ) := by
  have i1 : sg_in (nI q) 6 = true := sg_in_nI (by omega) (by omega)
  simp (decide := true) only [me_190, mq_190_0, mq_190_1, mq_190_2, mq_190_5, mq_190_8, mq_190_9, mq_190_10, mq_190_11, mq_190_12, mq_190_15, mq_190_16, mq_190_17, mq_190_18, mq_190_19, mq_190_20, mq_190_23, mq_190_26, mq_190_27, mq_190_30, mq_190_31, em_noRecipe σ 120 (nI q) hc, em_in, sg_i64p k 0 (σ 132 q) 0 (by decide) hc2, h, i1, sg_nIc (show q < 2 ^ 31 by omega), Nat.reduceAdd, Nat.reduceMul, Nat.reduceSub, Nat.zero_add, sg_bi_i, sg_bi_n, sg_bz, sg_bb, sg_b_0, sg_b_1, if_true, if_false, not_true_eq_false, not_false_eq_true, true_and, and_true, false_and, and_false, and_self, Int32.reduceSub]
  by_cases h2 : 0 ≤ k ∧ k ≤ σ 132 q - 1 <;> simp (decide := true) only [h2, Nat.reduceAdd, Nat.reduceMul, Nat.reduceSub, Nat.zero_add, sg_bi_i, sg_bi_n, sg_bz, sg_bb, sg_b_0, sg_b_1, if_true, if_false, not_true_eq_false, not_false_eq_true, true_and, and_true, false_and, and_false, and_self, Int32.reduceSub]
theorem em_kindBy (σ : sg_M) {L : Nat} (h : L < 7) : sg_ev 192 σ [sg_i (nI L)] = some (some (sg_i (fn_kd L)), σ) := by
  rcases (show L = 0 ∨ L = 1 ∨ L = 2 ∨ L = 3 ∨ L = 4 ∨ L = 5 ∨ L = 6 by omega) with rfl | rfl | rfl | rfl | rfl | rfl | rfl
  · rw [show nI 0 = (0 : Int32) from rfl]; simp (decide := true) only [me_192, mq_192_0, mq_192_1, mq_192_2, mq_192_5, mq_192_6, mq_192_9, mq_192_10, mq_192_11, mq_192_14, mq_192_15, mq_192_18, mq_192_19, mq_192_20, mq_192_23, mq_192_24, mq_192_27, mq_192_28, if_true, if_false]; rfl
  · rw [show nI 1 = (1 : Int32) from rfl]; simp (decide := true) only [me_192, mq_192_0, mq_192_1, mq_192_2, mq_192_5, mq_192_6, mq_192_9, mq_192_10, mq_192_11, mq_192_14, mq_192_15, mq_192_18, mq_192_19, mq_192_20, mq_192_23, mq_192_24, mq_192_27, mq_192_28, if_true, if_false]; rfl
  · rw [show nI 2 = (2 : Int32) from rfl]; simp (decide := true) only [me_192, mq_192_0, mq_192_1, mq_192_2, mq_192_5, mq_192_6, mq_192_9, mq_192_10, mq_192_11, mq_192_14, mq_192_15, mq_192_18, mq_192_19, mq_192_20, mq_192_23, mq_192_24, mq_192_27, mq_192_28, if_true, if_false]; rfl
  · rw [show nI 3 = (3 : Int32) from rfl]; simp (decide := true) only [me_192, mq_192_0, mq_192_1, mq_192_2, mq_192_5, mq_192_6, mq_192_9, mq_192_10, mq_192_11, mq_192_14, mq_192_15, mq_192_18, mq_192_19, mq_192_20, mq_192_23, mq_192_24, mq_192_27, mq_192_28, if_true, if_false]; rfl
  · rw [show nI 4 = (4 : Int32) from rfl]; simp (decide := true) only [me_192, mq_192_0, mq_192_1, mq_192_2, mq_192_5, mq_192_6, mq_192_9, mq_192_10, mq_192_11, mq_192_14, mq_192_15, mq_192_18, mq_192_19, mq_192_20, mq_192_23, mq_192_24, mq_192_27, mq_192_28, if_true, if_false]; rfl
  · rw [show nI 5 = (5 : Int32) from rfl]; simp (decide := true) only [me_192, mq_192_0, mq_192_1, mq_192_2, mq_192_5, mq_192_6, mq_192_9, mq_192_10, mq_192_11, mq_192_14, mq_192_15, mq_192_18, mq_192_19, mq_192_20, mq_192_23, mq_192_24, mq_192_27, mq_192_28, if_true, if_false]; rfl
  · rw [show nI 6 = (6 : Int32) from rfl]; simp (decide := true) only [me_192, mq_192_0, mq_192_1, mq_192_2, mq_192_5, mq_192_6, mq_192_9, mq_192_10, mq_192_11, mq_192_14, mq_192_15, mq_192_18, mq_192_19, mq_192_20, mq_192_23, mq_192_24, mq_192_27, mq_192_28, if_true, if_false]; rfl
theorem em_kindOf (σ : sg_M) (q k L : Nat) (hq : q < 6) (hk : k < 8) (hL : L < 7) (h : σ 133 (8 * q + k) = nI L) : sg_ev 191 σ [sg_r 7 120, sg_i (nI q), sg_i (nI k)] = some (some (sg_i (fn_kd L)), σ) := by
  have j2 : sg_in (nI (8 * q + k)) 48 = true := sg_in_nI (by omega) (by omega)
  simp only [me_191, mq_191_0, mq_191_1, mq_191_4, mq_191_6, mq_191_7, mq_191_8, mq_191_9, mq_191_10, mq_191_11, mq_191_14, Nat.reduceAdd, sg_8q (show q < 8 by omega) hk, j2, sg_nIc (show 8 * q + k < 2 ^ 31 by omega), h, em_kindBy σ hL, sg_bi_i]
theorem ev_mark (σ : sg_M) (v : Int32) : sg_ev 103 σ [sg_r 1 0, sg_i v] = some (none, sg_up σ 0 11 (31 * σ 0 11 + v)) := by simp only [me_103, mq_103_0, mq_103_1, mq_103_3, mq_103_4, mq_103_7, mq_103_8, mq_103_9, mq_103_10, mq_103_13]
theorem em_traced (σ : sg_M) (v : Int32) : sg_ev 193 σ [sg_r 7 120, sg_i v] = some (none, sg_up σ 120 36 (31 * σ 120 36 + v)) := by simp only [me_193, mq_193_0, mq_193_1, mq_193_3, mq_193_4, mq_193_7, mq_193_8, mq_193_9, mq_193_10, mq_193_13]
/-- the trace behind the bodies of a kind -/
def fn_tr (kd t : Int32) : Int32 := if kd = 0 then 31 * t + 1 else if kd = 1 then 31 * (31 * t + 2) + 1 else if kd = 2 then 31 * (31 * (31 * (31 * t + 3) + 2) + 1) + 1 else 31 * (31 * (31 * t + 6) + 2) + 1
def fn_tl (kd v : Int32) : Int32 := if kd = 0 then v else if kd = 1 then v + 100 else if kd = 2 then v + 100 + v else v + 100 + 1000
theorem ev_wait (σ : sg_M) (v : Int32) : sg_ev 104 σ [sg_r 1 0, sg_i v] = some (some (sg_i v), sg_up σ 0 11 (31 * σ 0 11 + 1)) := by simp only [me_104, mq_104_0, mq_104_1, mq_104_2, mq_104_5, mq_104_6, ev_mark, sg_bi_n]
theorem ev_turn (σ : sg_M) (v : Int32) : sg_ev 102 σ [sg_r 1 0, sg_i v] = some (some (sg_i (v + 100)), sg_up σ 0 11 (31 * (31 * σ 0 11 + 2) + 1)) := by simp only [me_102, mq_102_0, mq_102_1, mq_102_2, mq_102_5, mq_102_6, mq_102_7, mq_102_10, mq_102_12, mq_102_13, ev_mark, ev_wait, sg_bi_n, sg_bi_i, sg_up_at, sg_up_up]
theorem ev_blow (σ : sg_M) (v : Int32) : sg_ev 105 σ [sg_r 1 0, sg_i v] = some (some (sg_i (v + 100 + v)), sg_up σ 0 11 (31 * (31 * (31 * (31 * σ 0 11 + 3) + 2) + 1) + 1)) := by simp only [me_105, mq_105_0, mq_105_1, mq_105_2, mq_105_5, mq_105_6, mq_105_7, mq_105_10, mq_105_11, mq_105_12, mq_105_13, mq_105_14, mq_105_17, mq_105_18, ev_mark, ev_turn, ev_wait, sg_bi_n, sg_bi_i, sg_up_at, sg_up_up]
theorem ev_mouth (σ : sg_M) (v : Int32) : sg_ev 106 σ [sg_r 1 0, sg_i v] = some (some (sg_i (v + 100 + 1000)), sg_up σ 0 11 (31 * (31 * (31 * σ 0 11 + 6) + 2) + 1)) := by simp only [me_106, mq_106_0, mq_106_1, mq_106_3, mq_106_6, mq_106_7, mq_106_8, mq_106_11, mq_106_14, mq_106_15, ev_mark, ev_turn, sg_bi_n, sg_bi_i, sg_up_at, sg_up_up]
theorem fn_kd_cases {L : Nat} (h : L < 7) : fn_kd L = 0 ∨ fn_kd L = 1 ∨ fn_kd L = 2 ∨ fn_kd L = 3 := by
  rcases (show L = 0 ∨ L = 1 ∨ L = 2 ∨ L = 3 ∨ L = 4 ∨ L = 5 ∨ L = 6 by omega) with rfl | rfl | rfl | rfl | rfl | rfl | rfl
  · exact Or.inl rfl
  · exact Or.inr (Or.inl rfl)
  · exact Or.inr (Or.inr (Or.inl rfl))
  · exact Or.inr (Or.inr (Or.inr rfl))
  · exact Or.inr (Or.inl rfl)
  · exact Or.inr (Or.inr (Or.inr rfl))
  · exact Or.inl rfl
/-- an item's place in both: or nowhere -/
theorem it_cases {σ : sg_M} (h : iv_R σ) (q k : Int32) : (∃ R : Nat, R ≤ 6 ∧ σ 0 9 = nI R ∧ σ 120 16 = nI R ∧ ¬ ∃ j : Nat, j < R ∧ q = nI j) ∨
    (∃ R j M : Nat, R ≤ 6 ∧ j < R ∧ q = nI j ∧ σ 0 9 = nI R ∧ σ 120 16 = nI R ∧ iv_rc σ j M ∧ ¬ ∃ i : Nat, i < M ∧ k = nI i) ∨
    (∃ R j M i : Nat, R ≤ 6 ∧ j < R ∧ q = nI j ∧ σ 0 9 = nI R ∧ σ 120 16 = nI R ∧ iv_rc σ j M ∧ i < M ∧ k = nI i) := by
  obtain ⟨R, a, b, c, d⟩ := h
  by_cases h1 : ∃ j : Nat, j < R ∧ q = nI j
  · obtain ⟨j, hj, e⟩ := h1
    obtain ⟨M, hM⟩ := d j hj
    by_cases h2 : ∃ i : Nat, i < M ∧ k = nI i
    · obtain ⟨i, hi, e2⟩ := h2
      exact Or.inr (Or.inr ⟨R, j, M, i, a, hj, e, b, c, hM, hi, e2⟩)
    · exact Or.inr (Or.inl ⟨R, j, M, a, hj, e, b, c, hM, h2⟩)
  · exact Or.inl ⟨R, a, b, c, h1⟩
theorem ev_isItem_c {σ : sg_M} (h : iv_R σ) (q k : Int32) (τ : sg_M) (h0 : τ 0 9 = σ 0 9) (h1 : ∀ y, 91 ≤ y → y < 109 → τ y = σ y) (h2 : τ 120 16 = σ 120 16) (h3 : τ 132 = σ 132) : (sg_ev 44 τ [sg_r 1 0, sg_i q, sg_i k] = some (some (sg_i 0), τ) ∧ sg_ev 190 τ [sg_r 7 120, sg_i q, sg_i k] = some (some (sg_i 1), τ)) ∨
    (∃ R j M i : Nat, R ≤ 6 ∧ j < R ∧ q = nI j ∧ σ 0 9 = nI R ∧ iv_rc σ j M ∧ i < M ∧ k = nI i ∧ sg_ev 44 τ [sg_r 1 0, sg_i q, sg_i k] = some (some (sg_i 1), τ) ∧ sg_ev 190 τ [sg_r 7 120, sg_i q, sg_i k] = some (some (sg_i 0), τ)) := by
  rcases it_cases h q k with ⟨R, a, b, c, d⟩ | ⟨R, j, M, a, hj, rfl, b, c, hM, d⟩ | ⟨R, j, M, i, a, hj, rfl, b, c, hM, hi, rfl⟩
  · left
    refine ⟨ev_isItem_no τ q k ?_, em_noItem_no τ q k ?_ ?_⟩
    · rw [h0, b, sg_below (by omega)]; exact d
    · rw [h2, c]; exact nI_nmin (by omega)
    · rw [h2, c, sg_below (by omega)]; exact d
  · left
    have hb : 0 ≤ nI j ∧ nI j ≤ nI R - 1 := (sg_below (by omega)).mpr ⟨j, hj, rfl⟩
    have hd : ¬ (0 ≤ k ∧ k ≤ nI M - 1) := by rw [sg_below (by have := hM.2.1; omega)]; exact d
    have e1 := ev_isItem τ j k (by omega) (by rw [h0, b]; exact hb)
    have e2 := em_noItem τ j k (by omega) (by rw [h2, c]; exact nI_nmin (by omega)) (by rw [h2, c]; exact hb) (by rw [h3, hM.2.2.2.1]; exact nI_nmin (by have := hM.2.1; omega))
    rw [h1 _ (by omega) (by omega), hM.2.2.1, if_neg hd] at e1
    rw [h3, hM.2.2.2.1, if_neg hd] at e2
    exact ⟨e1, e2⟩
  · right
    have hb : 0 ≤ nI j ∧ nI j ≤ nI R - 1 := (sg_below (by omega)).mpr ⟨j, hj, rfl⟩
    have hd : (0 ≤ nI i ∧ nI i ≤ nI M - 1) := (sg_below (by have := hM.2.1; omega)).mpr ⟨i, hi, rfl⟩
    have e1 := ev_isItem τ j (nI i) (by omega) (by rw [h0, b]; exact hb)
    have e2 := em_noItem τ j (nI i) (by omega) (by rw [h2, c]; exact nI_nmin (by omega)) (by rw [h2, c]; exact hb) (by rw [h3, hM.2.2.2.1]; exact nI_nmin (by have := hM.2.1; omega))
    rw [h1 _ (by omega) (by omega), hM.2.2.1, if_pos hd] at e1
    rw [h3, hM.2.2.2.1, if_pos hd] at e2
    exact ⟨R, j, M, i, a, hj, rfl, b, hM, hi, rfl, e1, e2⟩
/-- only the trace is told anew -/
theorem iv_all_t {B : Int} {σ : sg_M} (t : Int32) (h : iv_all B σ) : iv_all B (sg_up (sg_up σ 0 11 t) 120 36 t) ∧ (sg_up (sg_up σ 0 11 t) 120 36 t) 1000 = σ 1000 ∧ (sg_up (sg_up σ 0 11 t) 120 36 t) 999 = σ 999 := by
  generalize hω : sg_up (sg_up σ 0 11 t) 120 36 t = ω
  have w0 : ∀ j, j ≠ 11 → ω 0 j = σ 0 j := fun j hj => by rw [← hω, sg_up_ne (by omega), sg_up_at_ne hj]
  have w1 : ∀ j, j ≠ 36 → ω 120 j = σ 120 j := fun j hj => by rw [← hω, sg_up_at_ne hj, sg_up_ne (by omega)]
  have wx : ∀ y, y ≠ 0 → y ≠ 120 → ω y = σ y := fun y a b => by rw [← hω, sg_up_ne b, sg_up_ne a]
  obtain ⟨hS, hR, hA, hF, hJ, hP⟩ := h
  refine ⟨⟨?_, ?_, ?_, ⟨?_, ?_⟩, ?_, ?_⟩, wx _ (by omega) (by omega), wx _ (by omega) (by omega)⟩
  · exact iv_S_c hS (fun y _ _ => wx y (by omega) (by omega)) (wx _ (by omega) (by omega)) (wx _ (by omega) (by omega)) (wx _ (by omega) (by omega))
  · exact iv_R_c hR (w0 9 (by omega)) (w1 16 (by omega)) (fun y _ _ => wx y (by omega) (by omega)) (wx _ (by omega) (by omega)) (wx _ (by omega) (by omega)) (wx _ (by omega) (by omega))
  · exact iv_A_c hA (w0 10 (by omega)) (w1 24 (by omega)) (wx _ (by omega) (by omega)) (wx _ (by omega) (by omega))
  · rw [w0 12 (by omega), w1 0 (by omega)]; exact hF.1
  · rw [← hω, sg_up_ne (by omega), sg_up_at, sg_up_at]
  · exact iv_J_c hJ (by rw [wx 12 (by omega) (by omega)]) (w1 26 (by omega)) (fun y _ _ => wx y (by omega) (by omega)) (wx _ (by omega) (by omega)) (wx _ (by omega) (by omega)) (wx _ (by omega) (by omega))
  · exact iv_P_c hP (w0 8 (by omega)) (w1 1 (by omega)) (fun y _ _ => wx y (by omega) (by omega)) (fun y _ _ => wx y (by omega) (by omega)) (fun i hi => by rw [wx _ (by omega) (by omega)]) (by rw [wx 3 (by omega) (by omega)])
