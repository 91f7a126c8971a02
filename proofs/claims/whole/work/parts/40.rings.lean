/-! RINGS: what is read off a piece -/
def fn_soft (h : Int32) : Int32 := if h < 600 then 0 else (h - 500) / 100
theorem ev_softAt (σ : sg_M) (h : Int32) : sg_ev 18 σ [sg_i h] = some (some (sg_i (fn_soft h)), σ) := by
  simp (decide := true) only [me_18, mq_18_0, mq_18_1, mq_18_4, mq_18_7, mq_18_8, mq_18_11, mq_18_12, mq_18_15, mq_18_16, mq_18_18, mq_18_19, fn_soft]
  split <;> rfl
theorem em_soft (σ : sg_M) (h : Int32) : sg_ev 125 σ [sg_i h] = some (some (sg_i (fn_soft h)), σ) := em_softOf σ h
/-- the softest of the first k rings -/
def fn_sb (h : Nat → Int32) : Nat → Nat
  | 0 => 0
  | k + 1 => if k = 0 then 0 else if fn_soft (h (fn_sb h k)) < fn_soft (h k) then k else fn_sb h k
theorem fn_sb_1 (h : Nat → Int32) : fn_sb h 1 = 0 := rfl
theorem fn_sb_s (h : Nat → Int32) {k : Nat} (hk : 1 ≤ k) : fn_sb h (k + 1) = if fn_soft (h (fn_sb h k)) < fn_soft (h k) then k else fn_sb h k := by
  show (if k = 0 then 0 else _) = _
  rw [if_neg (by omega)]
theorem fn_sb_lt (h : Nat → Int32) : ∀ k, 1 ≤ k → fn_sb h k < k := by
  intro k
  induction k with
  | zero => intro q; omega
  | succ k ih =>
    intro _
    by_cases hk : k = 0
    · subst hk; rw [fn_sb_1]; omega
    · rw [fn_sb_s h (by omega)]
      have := ih (by omega)
      split <;> omega
theorem fn_sb_congr {f g : Nat → Int32} : ∀ k, (∀ j, j < k → f j = g j) → fn_sb f k = fn_sb g k := by
  intro k
  induction k with
  | zero => intro _; rfl
  | succ k ih =>
    intro hj
    by_cases hk : k = 0
    · subst hk; rw [fn_sb_1, fn_sb_1]
    · have e := ih (fun j h => hj j (by omega))
      have hb := fn_sb_lt g k (by omega)
      rw [fn_sb_s f (by omega), fn_sb_s g (by omega), e, hj _ (by omega), hj _ (by omega)]
theorem ev_sb_l (σ : sg_M) (c n : Nat) (h8 : n ≤ 8) (hn : σ c 6 = nI n) : ∀ m k, 1 ≤ k → k + m = n → sg_rv 23 4 σ [sg_r 2 c, sg_i (nI (fn_sb (σ (c + 3)) k)), sg_i (nI k)] [] = some (some (sg_i (nI (fn_sb (σ (c + 3)) n))), σ) := by
  intro m
  induction m with
  | zero =>
    intro k h1 hk
    simp only [mq_23_4, mq_23_5, mq_23_6, mq_23_9, hn, nI_ltI (show k < 2 ^ 31 by omega) (show n < 2 ^ 31 by omega), show ¬ k < n by omega, if_false, mq_23_41, mq_23_42]
    rw [show k = n by omega]
  | succ m ih =>
    intro k h1 hk
    have hb := fn_sb_lt (σ (c + 3)) k h1
    have i1 : sg_in (nI k) 8 = true := sg_in_nI (by omega) (by omega)
    have i2 : sg_in (nI (fn_sb (σ (c + 3)) k)) 8 = true := sg_in_nI (by omega) (by omega)
    have hs := fn_sb_s (σ (c + 3)) h1
    have ih := ih (k + 1) (by omega) (by omega)
    simp only [mq_23_4, mq_23_5, mq_23_6, mq_23_9, hn, nI_ltI (show k < 2 ^ 31 by omega) (show n < 2 ^ 31 by omega), show k < n by omega, if_true]
    simp only [mq_23_12, mq_23_13, mq_23_16, mq_23_17, mq_23_18, mq_23_21, mq_23_22, mq_23_25, mq_23_26, mq_23_27, mq_23_30, i1, i2, ev_softAt, sg_bi_i, sg_nIc (show k < 2 ^ 31 by omega), sg_nIc (show fn_sb (σ (c + 3)) k < 2 ^ 31 by omega)]
    by_cases hlt : fn_soft (σ (c + 3) (fn_sb (σ (c + 3)) k)) < fn_soft (σ (c + 3) k)
    · rw [if_pos hlt] at hs
      rw [hs] at ih
      simp only [hlt, if_true, mq_23_33, mq_23_34, mq_23_35, mq_23_38, nI_1]
      exact ih
    · rw [if_neg hlt] at hs
      rw [hs] at ih
      simp only [hlt, if_false, mq_23_35, mq_23_38, nI_1]
      exact ih
theorem ev_sb (σ : sg_M) (c n : Nat) (h1 : 1 ≤ n) (h8 : n ≤ 8) (hn : σ c 6 = nI n) : sg_ev 23 σ [sg_r 2 c] = some (some (sg_i (nI (fn_sb (σ (c + 3)) n))), σ) := by
  simp only [me_23, me_23, mq_23_0, mq_23_1, mq_23_2, mq_23_3]
  exact ev_sb_l σ c n h8 hn (n - 1) 1 (by omega) (by omega)
theorem em_sb_l (σ : sg_M) (n : Nat) (h8 : n ≤ 8) (hn : σ 120 8 = nI n) : ∀ m k, 1 ≤ k → k + m = n → sg_rv 129 4 σ [sg_r 7 120, sg_i (nI (fn_sb (σ 129) k)), sg_i (nI k)] [] = some (some (sg_i (nI (fn_sb (σ 129) n))), σ) := by
  intro m
  induction m with
  | zero =>
    intro k h1 hk
    simp only [mq_129_4, mq_129_5, mq_129_6, mq_129_9, hn, nI_ltI (show k < 2 ^ 31 by omega) (show n < 2 ^ 31 by omega), show ¬ k < n by omega, if_false, mq_129_45, mq_129_46]
    rw [show k = n by omega]
  | succ m ih =>
    intro k h1 hk
    have hb := fn_sb_lt (σ 129) k h1
    have i1 : sg_in (nI k) 8 = true := sg_in_nI (by omega) (by omega)
    have i2 : sg_in (nI (fn_sb (σ 129) k)) 8 = true := sg_in_nI (by omega) (by omega)
    have hs := fn_sb_s (σ 129) h1
    have ih := ih (k + 1) (by omega) (by omega)
    simp only [mq_129_4, mq_129_5, mq_129_6, mq_129_9, hn, nI_ltI (show k < 2 ^ 31 by omega) (show n < 2 ^ 31 by omega), show k < n by omega, if_true]
    simp only [mq_129_12, mq_129_13, mq_129_16, mq_129_17, mq_129_18, mq_129_21, mq_129_22, mq_129_25, mq_129_26, mq_129_27, mq_129_30, i1, i2, em_soft, sg_bi_i, Nat.reduceAdd, sg_nIc (show k < 2 ^ 31 by omega), sg_nIc (show fn_sb (σ 129) k < 2 ^ 31 by omega)]
    by_cases hlt : fn_soft (σ 129 (fn_sb (σ 129) k)) < fn_soft (σ 129 k)
    · rw [if_pos hlt] at hs
      rw [hs] at ih
      simp only [hlt, if_true, mq_129_33, mq_129_34, mq_129_37, mq_129_38, mq_129_39, mq_129_42, nI_1]
      exact ih
    · rw [if_neg hlt] at hs
      rw [hs] at ih
      simp only [hlt, if_false, mq_129_33, mq_129_34, mq_129_37, mq_129_38, mq_129_39, mq_129_42, nI_1]
      exact ih
theorem em_sb (σ : sg_M) (n : Nat) (h1 : 1 ≤ n) (h8 : n ≤ 8) (hn : σ 120 8 = nI n) : sg_ev 129 σ [sg_r 7 120] = some (some (sg_i (nI (fn_sb (σ 129) n))), σ) := by
  simp only [me_129, me_129, mq_129_0, mq_129_1, mq_129_2, mq_129_3]
  exact em_sb_l σ n h8 hn (n - 1) 1 (by omega) (by omega)
/-- the greatest soft -/
def fn_gs (h : Nat → Int32) (n : Nat) : Int32 := fn_soft (h (fn_sb h n))
theorem ev_gs (σ : sg_M) (c n : Nat) (h1 : 1 ≤ n) (h8 : n ≤ 8) (hn : σ c 6 = nI n) : sg_ev 22 σ [sg_r 2 c] = some (some (sg_i (fn_gs (σ (c + 3)) n)), σ) := by
  have hb := fn_sb_lt (σ (c + 3)) n h1
  have i2 : sg_in (nI (fn_sb (σ (c + 3)) n)) 8 = true := sg_in_nI (by omega) (by omega)
  simp only [me_22, mq_22_0, mq_22_1, mq_22_4, mq_22_5, mq_22_8, mq_22_9, mq_22_12, ev_sb σ c n h1 h8 hn, ev_softAt, i2, sg_bi_i, sg_nIc (show fn_sb (σ (c + 3)) n < 2 ^ 31 by omega), fn_gs]
theorem em_gs (σ : sg_M) (n : Nat) (h1 : 1 ≤ n) (h8 : n ≤ 8) (hn : σ 120 8 = nI n) : sg_ev 128 σ [sg_r 7 120] = some (some (sg_i (fn_gs (σ 129) n)), σ) := by
  have hb := fn_sb_lt (σ 129) n h1
  have i2 : sg_in (nI (fn_sb (σ 129) n)) 8 = true := sg_in_nI (by omega) (by omega)
  simp only [me_128, mq_128_0, mq_128_1, mq_128_4, mq_128_5, mq_128_8, mq_128_9, mq_128_12, em_sb σ n h1 h8 hn, em_soft, i2, sg_bi_i, Nat.reduceAdd, sg_nIc (show fn_sb (σ 129) n < 2 ^ 31 by omega), fn_gs]
/-- the greatest of k numbers, or 0 -/
def fn_mx (s : Nat → Int32) : Nat → Int32
  | 0 => 0
  | k + 1 => if fn_mx s k < s k then s k else fn_mx s k
theorem fn_mx_congr {f g : Nat → Int32} : ∀ k, (∀ j, j < k → f j = g j) → fn_mx f k = fn_mx g k := by
  intro k
  induction k with
  | zero => intro _; rfl
  | succ k ih =>
    intro hj
    simp only [fn_mx, ih (fun j h => hj j (by omega)), hj k (by omega)]
theorem ev_mx_l (σ : sg_M) (c n : Nat) (h1 : 1 ≤ n) (h8 : n ≤ 8) (hn : σ c 6 = nI n) : ∀ m k, k + m + 1 = n → sg_rv 24 4 σ [sg_r 2 c, sg_i (fn_mx (σ (c + 4)) k), sg_i (nI k)] [] = some (some (sg_i (fn_mx (σ (c + 4)) (n - 1))), σ) := by
  intro m
  induction m with
  | zero =>
    intro k hk
    simp only [mq_24_4, mq_24_5, mq_24_6, mq_24_7, mq_24_8, mq_24_11, hn, nI_1, nI_ltI (show k + 1 < 2 ^ 31 by omega) (show n < 2 ^ 31 by omega), show ¬ k + 1 < n by omega, if_false, mq_24_31, mq_24_32]
    rw [show k = n - 1 by omega]
  | succ m ih =>
    intro k hk
    have i1 : sg_in (nI k) 8 = true := sg_in_nI (by omega) (by omega)
    simp only [mq_24_4, mq_24_5, mq_24_6, mq_24_7, mq_24_8, mq_24_11, hn, nI_1, nI_ltI (show k + 1 < 2 ^ 31 by omega) (show n < 2 ^ 31 by omega), show k + 1 < n by omega, if_true]
    simp only [mq_24_14, mq_24_15, mq_24_16, mq_24_19, mq_24_20, mq_24_21, mq_24_24, mq_24_25, mq_24_28, i1, sg_nIc (show k < 2 ^ 31 by omega), nI_1]
    exact ih (k + 1) (by omega)
theorem ev_mx (σ : sg_M) (c n : Nat) (h1 : 1 ≤ n) (h8 : n ≤ 8) (hn : σ c 6 = nI n) : sg_ev 24 σ [sg_r 2 c] = some (some (sg_i (fn_mx (σ (c + 4)) (n - 1))), σ) := by
  simp only [me_24, me_24, mq_24_0, mq_24_1, mq_24_2, mq_24_3]
  exact ev_mx_l σ c n h1 h8 hn (n - 1) 0 (by omega)
theorem em_mx_l (σ : sg_M) (n : Nat) (h1 : 1 ≤ n) (h8 : n ≤ 8) (hn : σ 120 8 = nI n) : ∀ m k, k + m + 1 = n → sg_rv 130 4 σ [sg_r 7 120, sg_i (fn_mx (σ 130) k), sg_i (nI k)] [] = some (some (sg_i (fn_mx (σ 130) (n - 1))), σ) := by
  intro m
  induction m with
  | zero =>
    intro k hk
    simp only [mq_130_4, mq_130_5, mq_130_6, mq_130_7, mq_130_8, mq_130_11, hn, nI_1, nI_ltI (show k + 1 < 2 ^ 31 by omega) (show n < 2 ^ 31 by omega), show ¬ k + 1 < n by omega, if_false, mq_130_31, mq_130_32]
    rw [show k = n - 1 by omega]
  | succ m ih =>
    intro k hk
    have i1 : sg_in (nI k) 8 = true := sg_in_nI (by omega) (by omega)
    simp only [mq_130_4, mq_130_5, mq_130_6, mq_130_7, mq_130_8, mq_130_11, hn, nI_1, nI_ltI (show k + 1 < 2 ^ 31 by omega) (show n < 2 ^ 31 by omega), show k + 1 < n by omega, if_true]
    simp only [mq_130_14, mq_130_15, mq_130_16, mq_130_19, mq_130_20, mq_130_21, mq_130_24, mq_130_25, mq_130_28, i1, em_greater, sg_bi_i, Nat.reduceAdd, sg_nIc (show k < 2 ^ 31 by omega), nI_1]
    exact ih (k + 1) (by omega)
theorem em_mx (σ : sg_M) (n : Nat) (h1 : 1 ≤ n) (h8 : n ≤ 8) (hn : σ 120 8 = nI n) : sg_ev 130 σ [sg_r 7 120] = some (some (sg_i (fn_mx (σ 130) (n - 1))), σ) := by
  simp only [me_130, me_130, mq_130_0, mq_130_1, mq_130_2, mq_130_3]
  exact em_mx_l σ n h1 h8 hn (n - 1) 0 (by omega)
def fn_sum (g : Nat → Int32) : Nat → Int32
  | 0 => 0
  | k + 1 => fn_sum g k + g k
theorem fn_sum_congr {f g : Nat → Int32} : ∀ k, (∀ j, j < k → f j = g j) → fn_sum f k = fn_sum g k := by
  intro k
  induction k with
  | zero => intro _; rfl
  | succ k ih =>
    intro hj
    simp only [fn_sum, ih (fun j h => hj j (by omega)), hj k (by omega)]
theorem ev_sum_l (σ : sg_M) (c n : Nat) (h8 : n ≤ 8) (hn : σ c 6 = nI n) : ∀ m k, k + m = n → sg_rv 25 4 σ [sg_r 2 c, sg_i (fn_sum (σ (c + 1)) k), sg_i (nI k)] [] = some (some (sg_i (fn_sum (σ (c + 1)) n)), σ) := by
  intro m
  induction m with
  | zero =>
    intro k hk
    simp only [mq_25_4, mq_25_5, mq_25_6, mq_25_9, hn, nI_ltI (show k < 2 ^ 31 by omega) (show n < 2 ^ 31 by omega), show ¬ k < n by omega, if_false, mq_25_27, mq_25_28]
    rw [show k = n by omega]
  | succ m ih =>
    intro k hk
    have i1 : sg_in (nI k) 8 = true := sg_in_nI (by omega) (by omega)
    simp only [mq_25_4, mq_25_5, mq_25_6, mq_25_9, hn, nI_ltI (show k < 2 ^ 31 by omega) (show n < 2 ^ 31 by omega), show k < n by omega, if_true]
    simp only [mq_25_12, mq_25_13, mq_25_14, mq_25_17, mq_25_18, mq_25_19, mq_25_20, mq_25_21, mq_25_24, i1, sg_nIc (show k < 2 ^ 31 by omega), nI_1]
    exact ih (k + 1) (by omega)
theorem ev_sum (σ : sg_M) (c n : Nat) (h8 : n ≤ 8) (hn : σ c 6 = nI n) : sg_ev 25 σ [sg_r 2 c] = some (some (sg_i (fn_sum (σ (c + 1)) n)), σ) := by
  simp only [me_25, me_25, mq_25_0, mq_25_1, mq_25_2, mq_25_3]
  exact ev_sum_l σ c n h8 hn n 0 (by omega)
theorem em_sum_l (σ : sg_M) (n : Nat) (h8 : n ≤ 8) (hn : σ 120 8 = nI n) : ∀ m k, k + m = n → sg_rv 132 4 σ [sg_r 7 120, sg_i (fn_sum (σ 127) k), sg_i (nI k)] [] = some (some (sg_i (fn_sum (σ 127) n)), σ) := by
  intro m
  induction m with
  | zero =>
    intro k hk
    simp only [mq_132_4, mq_132_5, mq_132_6, mq_132_9, hn, nI_ltI (show k < 2 ^ 31 by omega) (show n < 2 ^ 31 by omega), show ¬ k < n by omega, if_false, mq_132_27, mq_132_28]
    rw [show k = n by omega]
  | succ m ih =>
    intro k hk
    have i1 : sg_in (nI k) 8 = true := sg_in_nI (by omega) (by omega)
    simp only [mq_132_4, mq_132_5, mq_132_6, mq_132_9, hn, nI_ltI (show k < 2 ^ 31 by omega) (show n < 2 ^ 31 by omega), show k < n by omega, if_true]
    simp only [mq_132_12, mq_132_13, mq_132_14, mq_132_17, mq_132_18, mq_132_19, mq_132_20, mq_132_21, mq_132_24, i1, Nat.reduceAdd, sg_nIc (show k < 2 ^ 31 by omega), nI_1]
    exact ih (k + 1) (by omega)
theorem em_sum (σ : sg_M) (n : Nat) (h8 : n ≤ 8) (hn : σ 120 8 = nI n) : sg_ev 132 σ [sg_r 7 120] = some (some (sg_i (fn_sum (σ 127) n)), σ) := by
  simp only [me_132, me_132, mq_132_0, mq_132_1, mq_132_2, mq_132_3]
  exact em_sum_l σ n h8 hn n 0 (by omega)
