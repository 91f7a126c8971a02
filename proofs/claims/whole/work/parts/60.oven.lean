/-! OVENS -/
def fn_bk (t s : Int32) : Int32 := s - s * (t - 390) / 200
def fn_bkn (t : Int32) : Nat → Int32 → Int32
  | 0, s => s
  | m + 1, s => fn_bkn t m (fn_bk t s)
theorem fn_bkn_s (t : Int32) : ∀ m s, fn_bkn t (m + 1) s = fn_bk t (fn_bkn t m s) := by
  intro m
  induction m with
  | zero => intro s; rfl
  | succ m ih => intro s; exact ih (fn_bk t s)
theorem ev_bh_l (σ : sg_M) (c n : Nat) (t : Int32) (h8 : n ≤ 8) (hn : σ c 6 = nI n) : ∀ m k, k + m + 1 = n → sg_rv 56 2 (sg_set σ (c + 4) (fun j => if j < k then fn_bk t (σ (c + 4) j) else σ (c + 4) j)) [sg_r 2 c, sg_i t, sg_i (nI k)] [] = some (none, sg_set σ (c + 4) (fun j => if j < n - 1 then fn_bk t (σ (c + 4) j) else σ (c + 4) j)) := by
  intro m
  induction m with
  | zero =>
    intro k hk
    simp only [mq_56_2, mq_56_3, mq_56_4, mq_56_5, mq_56_6, mq_56_9, nI_1, sg_set_ne (show c ≠ c + 4 by omega), hn, nI_ltI (show k + 1 < 2 ^ 31 by omega) (show n < 2 ^ 31 by omega), show ¬ k + 1 < n by omega, if_false, mq_56_43]
    rw [show k = n - 1 by omega]
  | succ m ih =>
    intro k hk
    have i1 : sg_in (nI k) 8 = true := sg_in_nI (by omega) (by omega)
    have ef : (fun j => if j < k then fn_bk t (σ (c + 4) j) else σ (c + 4) j) k = σ (c + 4) k := by show (if k < k then _ else _) = _; rw [if_neg (by omega)]
    have eu := upd_lt (σ (c + 4)) k (fun j => fn_bk t (σ (c + 4) j))
    have hh := ih (k + 1) (by omega)
    generalize hf : (fun j => if j < k then fn_bk t (σ (c + 4) j) else σ (c + 4) j) = f at ef eu ⊢
    simp only [mq_56_2, mq_56_3, mq_56_4, mq_56_5, mq_56_6, mq_56_9, nI_1, sg_set_ne (show c ≠ c + 4 by omega), hn, nI_ltI (show k + 1 < 2 ^ 31 by omega) (show n < 2 ^ 31 by omega), show k + 1 < n by omega, if_true]
    simp (decide := true) only [mq_56_12, mq_56_13, mq_56_16, mq_56_17, mq_56_18, mq_56_19, mq_56_20, mq_56_23, mq_56_24, mq_56_25, mq_56_26, mq_56_29, mq_56_30, mq_56_31, mq_56_34, mq_56_35, mq_56_36, mq_56_37, mq_56_40, i1, sg_nIc (show k < 2 ^ 31 by omega), sg_set_same, ef, sg_up_set, nI_1, Nat.reduceAdd, Nat.reduceMul, Nat.reduceSub, Nat.zero_add, sg_bi_i, sg_bi_n, sg_bz, sg_bb, sg_b_0, sg_b_1, if_true, if_false, not_true_eq_false, not_false_eq_true, true_and, and_true, false_and, and_false, and_self, Int32.reduceSub]
    unfold fn_bk at hh eu
    rw [eu]
    exact hh
theorem ev_bh (σ : sg_M) (c n : Nat) (t : Int32) (h1 : 1 ≤ n) (h8 : n ≤ 8) (hn : σ c 6 = nI n) : sg_ev 56 σ [sg_r 2 c, sg_i t] = some (none, sg_set σ (c + 4) (fun j => if j < n - 1 then fn_bk t (σ (c + 4) j) else σ (c + 4) j)) := by
  have h := ev_bh_l σ c n t h8 hn (n - 1) 0 (by omega)
  have f0 : (fun j => if j < 0 then fn_bk t (σ (c + 4) j) else σ (c + 4) j) = σ (c + 4) := by funext j; simp
  rw [f0, sg_set_self] at h
  rw [← h]
  simp only [me_56, me_56, mq_56_0, mq_56_1]
  rfl
theorem ev_so (σ : sg_M) (t : Int32) : sg_ev 58 σ [sg_i t] = some (some (sg_i ((t - 400) / 40)), σ) := by
  simp (decide := true) only [me_58, mq_58_0, mq_58_1, mq_58_4, mq_58_5, mq_58_7, mq_58_8, Nat.reduceAdd, Nat.reduceMul, Nat.reduceSub, Nat.zero_add, sg_bi_i, sg_bi_n, sg_bz, sg_bb, sg_b_0, sg_b_1, if_true, if_false, not_true_eq_false, not_false_eq_true, true_and, and_true, false_and, and_false, and_self, Int32.reduceSub]
theorem ev_lo_l (σ : sg_M) (c n : Nat) (t : Int32) (h8 : n ≤ 8) (hn : σ c 6 = nI n) : ∀ m k, k + m + 1 = n → sg_rv 57 2 (sg_set σ (c + 4) (fun j => if j < k then σ (c + 4) j + (t - 400) / 40 else σ (c + 4) j)) [sg_r 2 c, sg_i t, sg_i (nI k)] [] = some (none, sg_set (sg_set σ (c + 4) (fun j => if j < n - 1 then σ (c + 4) j + (t - 400) / 40 else σ (c + 4) j)) (c + 3) (fun j => if j < 8 then 20 else σ (c + 3) j)) := by
  intro m
  induction m with
  | zero =>
    intro k hk
    simp (decide := true) only [mq_57_2, mq_57_3, mq_57_4, mq_57_5, mq_57_6, mq_57_9, nI_1, sg_set_ne (show c ≠ c + 4 by omega), hn, nI_ltI (show k + 1 < 2 ^ 31 by omega) (show n < 2 ^ 31 by omega), show ¬ k + 1 < n by omega, if_false, mq_57_31, mq_57_32, mq_57_35, mq_57_37, mq_57_40, ev_fill, Nat.reduceAdd, Nat.reduceMul, Nat.reduceSub, Nat.zero_add, sg_bi_i, sg_bi_n, sg_bz, sg_bb, sg_b_0, sg_b_1, if_true, if_false, not_true_eq_false, not_false_eq_true, true_and, and_true, false_and, and_false, and_self, Int32.reduceSub, sg_set_ne (show c + 3 ≠ c + 4 by omega)]
    rw [show k = n - 1 by omega]
  | succ m ih =>
    intro k hk
    have i1 : sg_in (nI k) 8 = true := sg_in_nI (by omega) (by omega)
    have ef : (fun j => if j < k then σ (c + 4) j + (t - 400) / 40 else σ (c + 4) j) k = σ (c + 4) k := by show (if k < k then _ else _) = _; rw [if_neg (by omega)]
    have eu := upd_lt (σ (c + 4)) k (fun j => σ (c + 4) j + (t - 400) / 40)
    have hh := ih (k + 1) (by omega)
    generalize hf : (fun j => if j < k then σ (c + 4) j + (t - 400) / 40 else σ (c + 4) j) = f at ef eu ⊢
    simp only [mq_57_2, mq_57_3, mq_57_4, mq_57_5, mq_57_6, mq_57_9, nI_1, sg_set_ne (show c ≠ c + 4 by omega), hn, nI_ltI (show k + 1 < 2 ^ 31 by omega) (show n < 2 ^ 31 by omega), show k + 1 < n by omega, if_true]
    simp (decide := true) only [mq_57_12, mq_57_13, mq_57_16, mq_57_17, mq_57_18, mq_57_19, mq_57_20, mq_57_23, mq_57_24, mq_57_25, mq_57_28, i1, sg_nIc (show k < 2 ^ 31 by omega), sg_set_same, ef, ev_so, sg_up_set, nI_1, Nat.reduceAdd, Nat.reduceMul, Nat.reduceSub, Nat.zero_add, sg_bi_i, sg_bi_n, sg_bz, sg_bb, sg_b_0, sg_b_1, if_true, if_false, not_true_eq_false, not_false_eq_true, true_and, and_true, false_and, and_false, and_self, Int32.reduceSub]
    rw [eu]
    exact hh
theorem ev_lo (σ : sg_M) (c n : Nat) (t : Int32) (h1 : 1 ≤ n) (h8 : n ≤ 8) (hn : σ c 6 = nI n) : sg_ev 57 σ [sg_r 2 c, sg_i t] = some (none, sg_set (sg_set σ (c + 4) (fun j => if j < n - 1 then σ (c + 4) j + (t - 400) / 40 else σ (c + 4) j)) (c + 3) (fun j => if j < 8 then 20 else σ (c + 3) j)) := by
  have h := ev_lo_l σ c n t h8 hn (n - 1) 0 (by omega)
  have f0 : (fun j => if j < 0 then σ (c + 4) j + (t - 400) / 40 else σ (c + 4) j) = σ (c + 4) := by funext j; simp
  rw [f0, sg_set_self] at h
  rw [← h]
  simp only [me_57, me_57, mq_57_0, mq_57_1]
  rfl
def fn_bhn (t : Int32) (n h : Nat) (P : fn_PS) : fn_PS := (P.1, P.2.1, P.2.2.1, fun j => if j < n - 1 then fn_bkn t h (P.2.2.2 j) else P.2.2.2 j)
def fn_lo (t : Int32) (n : Nat) (P : fn_PS) : fn_PS := (P.1, P.2.1, fun j => if j < 8 then 20 else P.2.2.1 j, fun j => if j < n - 1 then P.2.2.2 j + (t - 400) / 40 else P.2.2.2 j)
theorem pP_set4 (σ : sg_M) (c : Nat) (P : fn_PS) (w s : Nat → Int32) : sg_set (sg_pP σ c P w) (c + 4) s = sg_pP σ c (P.1, P.2.1, P.2.2.1, s) w := by
  unfold sg_pP
  refine pm_ext ?_ ?_ ?_ ?_ ?_ (fun x hx => ?_)
  · rw [sg_set_ne (by omega), pm_c]
  · rw [sg_set_ne (by omega), pm_2]
  · rw [sg_set_ne (by omega), pm_3]
  · rw [sg_set_same]
  · rw [sg_set_ne (by omega), pm_5]
  · rw [sg_set_ne (by omega), pm_ne hx]
theorem pP_set3 (σ : sg_M) (c : Nat) (P : fn_PS) (w s : Nat → Int32) : sg_set (sg_pP σ c P w) (c + 3) s = sg_pP σ c (P.1, P.2.1, s, P.2.2.2) w := by
  unfold sg_pP
  refine pm_ext ?_ ?_ ?_ ?_ ?_ (fun x hx => ?_)
  · rw [sg_set_ne (by omega), pm_c]
  · rw [sg_set_ne (by omega), pm_2]
  · rw [sg_set_same]
  · rw [sg_set_ne (by omega), pm_4]
  · rw [sg_set_ne (by omega), pm_5]
  · rw [sg_set_ne (by omega), pm_ne hx]
theorem fn_bhn_0 (t : Int32) (n : Nat) (P : fn_PS) : fn_bhn t n 0 P = P := by
  unfold fn_bhn
  have : (fun j => if j < n - 1 then fn_bkn t 0 (P.2.2.2 j) else P.2.2.2 j) = P.2.2.2 := by funext j; simp [fn_bkn]
  rw [this]
theorem ev_bhP (σ : sg_M) (c n h : Nat) (t : Int32) (P : fn_PS) (w : Nat → Int32) (h1 : 1 ≤ n) (h8 : n ≤ 8) (hn : σ c 6 = nI n) : sg_ev 56 (sg_pP σ c (fn_bhn t n h P) w) [sg_r 2 c, sg_i t] = some (none, sg_pP σ c (fn_bhn t n (h + 1) P) w) := by
  rw [ev_bh _ c n t h1 h8 (by rw [pP_c _ _ _ _ (by omega)]; exact hn), pP_set4, pP_4]
  congr 2
  have : (fun j => if j < n - 1 then fn_bk t ((fn_bhn t n h P).2.2.2 j) else (fn_bhn t n h P).2.2.2 j) = (fn_bhn t n (h + 1) P).2.2.2 := by
    funext j
    unfold fn_bhn
    by_cases hj : j < n - 1
    · simp only [hj, if_true, fn_bkn_s]
    · simp only [hj, if_false]
  rw [this]
  rfl
theorem ev_loP (σ : sg_M) (c n : Nat) (t : Int32) (P : fn_PS) (w : Nat → Int32) (h1 : 1 ≤ n) (h8 : n ≤ 8) (hn : σ c 6 = nI n) : sg_ev 57 (sg_pP σ c P w) [sg_r 2 c, sg_i t] = some (none, sg_pP σ c (fn_lo t n P) w) := by
  rw [ev_lo _ c n t h1 h8 (by rw [pP_c _ _ _ _ (by omega)]; exact hn), pP_set4, pP_set3, pP_4, pP_3]
  rfl
/-! stiff -/
theorem fn_gs_max (h : Nat → Int32) : ∀ n, ∀ k, k < n → (fn_soft (h k)).toInt ≤ (fn_gs h n).toInt := by
  intro n
  induction n with
  | zero => intro k hk; omega
  | succ n ih =>
    intro k hk
    unfold fn_gs at ih ⊢
    by_cases h0 : n = 0
    · subst h0
      obtain rfl : k = 0 := by omega
      rw [fn_sb_1]
      exact Int.le_refl _
    · rw [fn_sb_s h (by omega)]
      by_cases hc : fn_soft (h (fn_sb h n)) < fn_soft (h n)
      · rw [if_pos hc]
        rw [Int32.lt_iff_toInt_lt] at hc
        by_cases hkn : k = n
        · subst hkn; exact Int.le_refl _
        · have := ih k (by omega); omega
      · rw [if_neg hc]
        rw [Int32.lt_iff_toInt_lt] at hc
        by_cases hkn : k = n
        · subst hkn; omega
        · exact ih k (by omega)
theorem fn_gs0 (h : Nat → Int32) (n : Nat) (h1 : 1 ≤ n) : fn_gs h n = 0 ↔ ∀ k, k < n → fn_soft (h k) = 0 := by
  constructor
  · intro e k hk
    have a := fn_gs_max h n k hk
    have b := fn_soft_nn (h k)
    rw [e, sg_t0] at a
    exact Int32.toInt_inj.mp (by rw [sg_t0]; omega)
  · intro e
    exact e _ (fn_sb_lt h n h1)
theorem ev_mayBake (σ : sg_M) (c n : Nat) (h1 : 1 ≤ n) (h8 : n ≤ 8) (hn : σ c 6 = nI n) : sg_ev 55 σ [sg_r 2 c] = some (some (sg_i (if fn_gs (σ (c + 3)) n = 0 ∧ ¬ 40 < σ c 7 then 1 else 0)), σ) := by
  by_cases g0 : fn_gs (σ (c + 3)) n = 0
  · by_cases hf : 40 < σ c 7 <;> simp (decide := true) only [me_55, mq_55_0, mq_55_1, mq_55_4, mq_55_7, mq_55_8, mq_55_11, mq_55_14, mq_55_15, mq_55_18, mq_55_19, ev_gs σ c n h1 h8 hn, ev_hasFallen, g0, hf, Nat.reduceAdd, Nat.reduceMul, Nat.reduceSub, Nat.zero_add, sg_bi_i, sg_bi_n, sg_bz, sg_bb, sg_b_0, sg_b_1, if_true, if_false, not_true_eq_false, not_false_eq_true, true_and, and_true, false_and, and_false, and_self, Int32.reduceSub]
  · simp (decide := true) only [me_55, mq_55_0, mq_55_1, mq_55_4, mq_55_7, mq_55_8, mq_55_11, mq_55_14, mq_55_15, mq_55_18, mq_55_19, ev_gs σ c n h1 h8 hn, g0, Nat.reduceAdd, Nat.reduceMul, Nat.reduceSub, Nat.zero_add, sg_bi_i, sg_bi_n, sg_bz, sg_bb, sg_b_0, sg_b_1, if_true, if_false, not_true_eq_false, not_false_eq_true, true_and, and_true, false_and, and_false, and_self, Int32.reduceSub]
theorem em_st0 (σ : sg_M) (p n : Nat) (hp : p < 8) (h8 : n ≤ 8) (hn : σ 121 p = nI n) : ∀ m k, k + m = n → sg_rv 154 16 σ [sg_r 7 120, sg_i (nI p), sg_i 0, sg_i (nI k)] [] = some (some (sg_i 0), σ) := by
  have i1 : sg_in (nI p) 8 = true := sg_in_nI (by omega) (by omega)
  intro m
  induction m with
  | zero =>
    intro k hk
    simp (decide := true) only [mq_154_16, mq_154_17, mq_154_18, mq_154_21, mq_154_22, mq_154_23, i1, sg_nIc (show p < 2 ^ 31 by omega), hn, nI_ltI (show k < 2 ^ 31 by omega) (show n < 2 ^ 31 by omega), show ¬ k < n by omega, mq_154_59, mq_154_60, Nat.reduceAdd, Nat.reduceMul, Nat.reduceSub, Nat.zero_add, sg_bi_i, sg_bi_n, sg_bz, sg_bb, sg_b_0, sg_b_1, if_true, if_false, not_true_eq_false, not_false_eq_true, true_and, and_true, false_and, and_false, and_self, Int32.reduceSub]
  | succ m ih =>
    intro k hk
    simp (decide := true) only [mq_154_16, mq_154_17, mq_154_18, mq_154_21, mq_154_22, mq_154_23, i1, sg_nIc (show p < 2 ^ 31 by omega), hn, nI_ltI (show k < 2 ^ 31 by omega) (show n < 2 ^ 31 by omega), show k < n by omega, Nat.reduceAdd, Nat.reduceMul, Nat.reduceSub, Nat.zero_add, sg_bi_i, sg_bi_n, sg_bz, sg_bb, sg_b_0, sg_b_1, if_true, if_false, not_true_eq_false, not_false_eq_true, true_and, and_true, false_and, and_false, and_self, Int32.reduceSub]
    simp (decide := true) only [mq_154_26, mq_154_27, mq_154_30, mq_154_31, mq_154_34, mq_154_36, mq_154_37, mq_154_38, mq_154_39, mq_154_40, mq_154_41, mq_154_44, mq_154_47, mq_154_48, mq_154_51, mq_154_52, mq_154_53, mq_154_56, nI_1, Nat.reduceAdd, Nat.reduceMul, Nat.reduceSub, Nat.zero_add, sg_bi_i, sg_bi_n, sg_bz, sg_bb, sg_b_0, sg_b_1, if_true, if_false, not_true_eq_false, not_false_eq_true, true_and, and_true, false_and, and_false, and_self, Int32.reduceSub]
    exact ih (k + 1) (by omega)
theorem em_st1 (σ : sg_M) (p n : Nat) (hp : p < 8) (h8 : n ≤ 8) (hn : σ 121 p = nI n) : ∀ m k, k + m = n → (∀ i, k ≤ i → i < n → fn_soft (σ 124 (8 * p + i)) = 0) → sg_rv 154 16 σ [sg_r 7 120, sg_i (nI p), sg_i 1, sg_i (nI k)] [] = some (some (sg_i 1), σ) := by
  have i1 : sg_in (nI p) 8 = true := sg_in_nI (by omega) (by omega)
  intro m
  induction m with
  | zero =>
    intro k hk _
    simp (decide := true) only [mq_154_16, mq_154_17, mq_154_18, mq_154_21, mq_154_22, mq_154_23, i1, sg_nIc (show p < 2 ^ 31 by omega), hn, nI_ltI (show k < 2 ^ 31 by omega) (show n < 2 ^ 31 by omega), show ¬ k < n by omega, mq_154_59, mq_154_60, Nat.reduceAdd, Nat.reduceMul, Nat.reduceSub, Nat.zero_add, sg_bi_i, sg_bi_n, sg_bz, sg_bb, sg_b_0, sg_b_1, if_true, if_false, not_true_eq_false, not_false_eq_true, true_and, and_true, false_and, and_false, and_self, Int32.reduceSub]
  | succ m ih =>
    intro k hk hs
    have i2 : sg_in (nI (8 * p + k)) 64 = true := sg_in_nI (by omega) (by omega)
    simp (decide := true) only [mq_154_16, mq_154_17, mq_154_18, mq_154_21, mq_154_22, mq_154_23, i1, sg_nIc (show p < 2 ^ 31 by omega), hn, nI_ltI (show k < 2 ^ 31 by omega) (show n < 2 ^ 31 by omega), show k < n by omega, Nat.reduceAdd, Nat.reduceMul, Nat.reduceSub, Nat.zero_add, sg_bi_i, sg_bi_n, sg_bz, sg_bb, sg_b_0, sg_b_1, if_true, if_false, not_true_eq_false, not_false_eq_true, true_and, and_true, false_and, and_false, and_self, Int32.reduceSub]
    simp (decide := true) only [mq_154_26, mq_154_27, mq_154_30, mq_154_31, mq_154_34, mq_154_36, mq_154_37, mq_154_38, mq_154_39, mq_154_40, mq_154_41, mq_154_44, mq_154_47, mq_154_48, mq_154_51, mq_154_52, mq_154_53, mq_154_56, sg_8q hp (show k < 8 by omega), i2, sg_nIc (show 8 * p + k < 2 ^ 31 by omega), em_soft, hs k (Nat.le_refl k) (by omega), nI_1, Nat.reduceAdd, Nat.reduceMul, Nat.reduceSub, Nat.zero_add, sg_bi_i, sg_bi_n, sg_bz, sg_bb, sg_b_0, sg_b_1, if_true, if_false, not_true_eq_false, not_false_eq_true, true_and, and_true, false_and, and_false, and_self, Int32.reduceSub]
    exact ih (k + 1) (by omega) (fun i a b => hs i (by omega) b)
theorem em_st2 (σ : sg_M) (p n : Nat) (hp : p < 8) (h8 : n ≤ 8) (hn : σ 121 p = nI n) : ∀ m k, k + m = n → (∃ i, k ≤ i ∧ i < n ∧ ¬ fn_soft (σ 124 (8 * p + i)) = 0) → sg_rv 154 16 σ [sg_r 7 120, sg_i (nI p), sg_i 1, sg_i (nI k)] [] = some (some (sg_i 0), σ) := by
  have i1 : sg_in (nI p) 8 = true := sg_in_nI (by omega) (by omega)
  intro m
  induction m with
  | zero =>
    rintro k hk ⟨i, a, b, -⟩
    omega
  | succ m ih =>
    rintro k hk ⟨i, a, b, hs⟩
    have i2 : sg_in (nI (8 * p + k)) 64 = true := sg_in_nI (by omega) (by omega)
    simp (decide := true) only [mq_154_16, mq_154_17, mq_154_18, mq_154_21, mq_154_22, mq_154_23, i1, sg_nIc (show p < 2 ^ 31 by omega), hn, nI_ltI (show k < 2 ^ 31 by omega) (show n < 2 ^ 31 by omega), show k < n by omega, Nat.reduceAdd, Nat.reduceMul, Nat.reduceSub, Nat.zero_add, sg_bi_i, sg_bi_n, sg_bz, sg_bb, sg_b_0, sg_b_1, if_true, if_false, not_true_eq_false, not_false_eq_true, true_and, and_true, false_and, and_false, and_self, Int32.reduceSub]
    by_cases hk0 : fn_soft (σ 124 (8 * p + k)) = 0
    · simp (decide := true) only [mq_154_26, mq_154_27, mq_154_30, mq_154_31, mq_154_34, mq_154_36, mq_154_37, mq_154_38, mq_154_39, mq_154_40, mq_154_41, mq_154_44, mq_154_47, mq_154_48, mq_154_51, mq_154_52, mq_154_53, mq_154_56, sg_8q hp (show k < 8 by omega), i2, sg_nIc (show 8 * p + k < 2 ^ 31 by omega), em_soft, hk0, nI_1, Nat.reduceAdd, Nat.reduceMul, Nat.reduceSub, Nat.zero_add, sg_bi_i, sg_bi_n, sg_bz, sg_bb, sg_b_0, sg_b_1, if_true, if_false, not_true_eq_false, not_false_eq_true, true_and, and_true, false_and, and_false, and_self, Int32.reduceSub]
      refine ih (k + 1) (by omega) ⟨i, ?_, b, hs⟩
      by_cases hki : k = i
      · subst hki; exact absurd hk0 hs
      · omega
    · simp (decide := true) only [mq_154_26, mq_154_27, mq_154_30, mq_154_31, mq_154_34, mq_154_36, mq_154_37, mq_154_38, mq_154_39, mq_154_40, mq_154_41, mq_154_44, mq_154_47, mq_154_48, mq_154_51, mq_154_52, mq_154_53, mq_154_56, sg_8q hp (show k < 8 by omega), i2, sg_nIc (show 8 * p + k < 2 ^ 31 by omega), em_soft, hk0, nI_1, Nat.reduceAdd, Nat.reduceMul, Nat.reduceSub, Nat.zero_add, sg_bi_i, sg_bi_n, sg_bz, sg_bb, sg_b_0, sg_b_1, if_true, if_false, not_true_eq_false, not_false_eq_true, true_and, and_true, false_and, and_false, and_self, Int32.reduceSub]
      exact em_st0 σ p n hp h8 hn m (k + 1) (by omega)
theorem em_stiff {B : Int} {σ : sg_M} {p n : Nat} (hp : p < 8) (h : iv_pc B σ p n) (τ : sg_M) (s : sg_same σ τ) : sg_ev 154 τ [sg_r 7 120, sg_i (nI p)] = some (some (sg_i (if fn_gs (σ (19 + 6 * p + 3)) n = 0 ∧ ¬ 40 < σ (19 + 6 * p) 7 then 1 else 0)), τ) := by
  obtain ⟨⟨n1, n8⟩, hn, hn2, ho, he, hi, hst⟩ := id h
  have f := em_fallen hp h τ (s.sx 126 (by unfold sg_kp; omega))
  have t1 : τ 121 p = nI n := by rw [s.sx 121 (by unfold sg_kp; omega)]; exact hn2
  have t4 : ∀ k, k < n → τ 124 (8 * p + k) = σ (19 + 6 * p + 3) k := fun k hk => by rw [s.sx 124 (by unfold sg_kp; omega)]; exact (he k hk).2.2.1
  by_cases hf : 40 < σ (19 + 6 * p) 7
  · rw [if_neg (fun z => z.2 hf)]
    simp (decide := true) only [me_154, mq_154_0, mq_154_1, mq_154_2, mq_154_5, mq_154_8, mq_154_9, mq_154_12, mq_154_13, mq_154_14, mq_154_15, f, hf, Nat.reduceAdd, Nat.reduceMul, Nat.reduceSub, Nat.zero_add, sg_bi_i, sg_bi_n, sg_bz, sg_bb, sg_b_0, sg_b_1, if_true, if_false, not_true_eq_false, not_false_eq_true, true_and, and_true, false_and, and_false, and_self, Int32.reduceSub]
    exact em_st0 τ p n hp n8 t1 n 0 (by omega)
  · by_cases g0 : fn_gs (σ (19 + 6 * p + 3)) n = 0
    · rw [if_pos ⟨g0, hf⟩]
      simp (decide := true) only [me_154, mq_154_0, mq_154_1, mq_154_2, mq_154_5, mq_154_8, mq_154_9, mq_154_12, mq_154_13, mq_154_14, mq_154_15, f, hf, Nat.reduceAdd, Nat.reduceMul, Nat.reduceSub, Nat.zero_add, sg_bi_i, sg_bi_n, sg_bz, sg_bb, sg_b_0, sg_b_1, if_true, if_false, not_true_eq_false, not_false_eq_true, true_and, and_true, false_and, and_false, and_self, Int32.reduceSub]
      exact em_st1 τ p n hp n8 t1 n 0 (by omega) (fun i _ b => by rw [t4 i b]; exact (fn_gs0 _ n n1).mp g0 i b)
    · rw [if_neg (fun z => g0 z.1)]
      simp (decide := true) only [me_154, mq_154_0, mq_154_1, mq_154_2, mq_154_5, mq_154_8, mq_154_9, mq_154_12, mq_154_13, mq_154_14, mq_154_15, f, hf, Nat.reduceAdd, Nat.reduceMul, Nat.reduceSub, Nat.zero_add, sg_bi_i, sg_bi_n, sg_bz, sg_bb, sg_b_0, sg_b_1, if_true, if_false, not_true_eq_false, not_false_eq_true, true_and, and_true, false_and, and_false, and_self, Int32.reduceSub]
      refine em_st2 τ p n hp n8 t1 n 0 (by omega) ?_
      have : ¬ ∀ k, k < n → fn_soft (σ (19 + 6 * p + 3) k) = 0 := fun z => g0 ((fn_gs0 _ n n1).mpr z)
      obtain ⟨i, hi⟩ := Classical.not_forall.mp this
      obtain ⟨hin, hs⟩ := Classical.not_imp.mp hi
      exact ⟨i, Nat.zero_le i, hin, by rw [t4 i hin]; exact hs⟩
/-! the model bakes -/
theorem em_bh (σ : sg_M) (n x N : Nat) (t : Int32) (hx : x + 1 < n) (h8 : n ≤ 8) (hN : N < 2 ^ 31) : ∀ m h (M : sg_M), h + m = N → M 120 8 = nI n → sg_rv 155 13 M [sg_r 7 120, sg_i t, sg_i (nI N), sg_i (nI x), sg_i (nI h)] [] = sg_rv 155 60 (sg_up M 130 x (fn_bkn t m (M 130 x))) [sg_r 7 120, sg_i t, sg_i (nI N), sg_i (nI x), sg_i (nI N)] [] := by
  have i1 : sg_in (nI x) 8 = true := sg_in_nI (by omega) (by omega)
  intro m
  induction m with
  | zero =>
    intro h M hh hn
    simp (decide := true) only [mq_155_13, mq_155_15, mq_155_16, nI_ltI (show h < 2 ^ 31 by omega) hN, show ¬ h < N by omega, if_false, fn_bkn]
    rw [show h = N by omega]
    congr 1
    funext y
    by_cases hy : y = 130
    · subst hy
      rw [sg_up_row]
      funext i
      by_cases hi : i = x
      · subst hi; rw [upd_same]
      · rw [upd_ne hi]
    · rw [sg_up_ne hy]
  | succ m ih =>
    intro h M hh hn
    simp (decide := true) only [mq_155_13, mq_155_15, mq_155_16, nI_ltI (show h < 2 ^ 31 by omega) hN, show h < N by omega, if_true]
    simp (decide := true) only [mq_155_19, mq_155_20, mq_155_21, mq_155_22, mq_155_23, mq_155_26, mq_155_29, mq_155_30, mq_155_33, mq_155_34, mq_155_35, mq_155_36, mq_155_37, mq_155_40, mq_155_41, mq_155_42, mq_155_43, mq_155_46, mq_155_47, mq_155_48, mq_155_51, mq_155_52, mq_155_53, mq_155_54, mq_155_57, hn, nI_1, nI_ltI (show x + 1 < 2 ^ 31 by omega) (show n < 2 ^ 31 by omega), hx, i1, sg_nIc (show x < 2 ^ 31 by omega), Nat.reduceAdd, Nat.reduceMul, Nat.reduceSub, Nat.zero_add, sg_bi_i, sg_bi_n, sg_bz, sg_bb, sg_b_0, sg_b_1, if_true, if_false, not_true_eq_false, not_false_eq_true, true_and, and_true, false_and, and_false, and_self, Int32.reduceSub]
    rw [ih (h + 1) _ (by omega) (by rw [sg_up_ne (by omega)]; exact hn), sg_up_at, sg_up_up]
    rfl
def fn_bm (t : Int32) (N n : Nat) (s : Nat → Int32) (j : Nat) : Int32 := if j + 1 < n then fn_bkn t N (s j) + (t - 400) / 40 else s j + 0
theorem em_bk_l (σ : sg_M) (n N : Nat) (t : Int32) (h8 : n ≤ 8) (hn : σ 120 8 = nI n) (hN : N < 2 ^ 31) : ∀ m x (y4 : sg_V), (y4 = sg_r 0 0 ∨ ∃ a, y4 = sg_i a) → x + m = n → sg_rv 155 2 (sg_set (sg_set σ 129 (fun j => if j < x then 20 else σ 129 j)) 130 (fun j => if j < x then fn_bm t N n (σ 130) j else σ 130 j)) [sg_r 7 120, sg_i t, sg_i (nI N), sg_i (nI x), y4] [] = some (none, sg_set (sg_set σ 129 (fun j => if j < n then 20 else σ 129 j)) 130 (fun j => if j < n then fn_bm t N n (σ 130) j else σ 130 j)) := by
  intro m
  induction m with
  | zero =>
    intro x y4 hy hx
    simp (decide := true) only [mq_155_2, mq_155_3, mq_155_4, mq_155_7, sg_set_ne (show 120 ≠ 130 by omega), sg_set_ne (show 120 ≠ 129 by omega), hn, nI_ltI (show x < 2 ^ 31 by omega) (show n < 2 ^ 31 by omega), show ¬ x < n by omega, if_false, mq_155_105]
    rw [show x = n by omega]
  | succ m ih =>
    intro x y4 hy hx
    have i1 : sg_in (nI x) 8 = true := sg_in_nI (by omega) (by omega)
    have cx : (nI x).toNatClampNeg = x := sg_nIc (by omega)
    have u1 := upd_lt (σ 129) x (fun _ => (20 : Int32))
    have u2 := upd_lt (σ 130) x (fn_bm t N n (σ 130))
    have ef : (fun j => if j < x then fn_bm t N n (σ 130) j else σ 130 j) x = σ 130 x := by show (if x < x then _ else _) = _; rw [if_neg (by omega)]
    have hh := fun a => ih (x + 1) (sg_i a) (Or.inr ⟨a, rfl⟩) (by omega)
    rw [← u1, ← u2] at hh
    generalize (fun j => if j < x then fn_bm t N n (σ 130) j else σ 130 j) = f at ef hh ⊢
    generalize (fun j => if j < x then (20 : Int32) else σ 129 j) = g at hh ⊢
    simp (decide := true) only [mq_155_2, mq_155_3, mq_155_4, mq_155_7, sg_set_ne (show 120 ≠ 130 by omega), sg_set_ne (show 120 ≠ 129 by omega), hn, nI_ltI (show x < 2 ^ 31 by omega) (show n < 2 ^ 31 by omega), show x < n by omega, if_true]
    have e10 : sg_rv 155 10 (sg_set (sg_set σ 129 g) 130 f) [sg_r 7 120, sg_i t, sg_i (nI N), sg_i (nI x), y4] [] = sg_rv 155 13 (sg_set (sg_set σ 129 g) 130 f) [sg_r 7 120, sg_i t, sg_i (nI N), sg_i (nI x), sg_i (nI 0)] [] := by
      rcases hy with rfl | ⟨a, rfl⟩ <;> simp (decide := true) only [mq_155_10, mq_155_11, nI_0]
    rw [e10]
    have fin : ∀ (h : Nat) (v : Int32), fn_bm t N n (σ 130) x = v + (if x + 1 < n then (t - 400) / 40 else 0) → sg_rv 155 60 (sg_set (sg_set σ 129 g) 130 (upd f x v)) [sg_r 7 120, sg_i t, sg_i (nI N), sg_i (nI x), sg_i (nI h)] [] = some (none, sg_set (sg_set σ 129 (fun j => if j < n then 20 else σ 129 j)) 130 (fun j => if j < n then fn_bm t N n (σ 130) j else σ 130 j)) := by
      intro h v hv
      have e120 : ∀ u, sg_set (sg_set σ 129 g) 130 u 120 = σ 120 := fun u => by rw [sg_set_ne (by omega), sg_set_ne (by omega)]
      rw [← hh (nI h), hv]
      by_cases hx1 : x + 1 < n
      · simp (decide := true) only [mq_155_60, mq_155_61, mq_155_64, mq_155_65, mq_155_66, mq_155_67, mq_155_68, mq_155_69, mq_155_70, mq_155_71, mq_155_74, mq_155_77, mq_155_78, mq_155_81, mq_155_82, mq_155_84, mq_155_85, mq_155_88, mq_155_89, mq_155_90, mq_155_91, mq_155_92, mq_155_95, mq_155_96, mq_155_98, mq_155_99, mq_155_102, i1, cx, sg_set_same, upd_same, e120, hn, nI_1, nI_ltI (show x + 1 < 2 ^ 31 by omega) (show n < 2 ^ 31 by omega), hx1, sg_up_set, upd_upd, Nat.reduceAdd, Nat.reduceMul, Nat.reduceSub, Nat.zero_add, sg_bi_i, sg_bi_n, sg_bz, sg_bb, sg_b_0, sg_b_1, if_true, if_false, not_true_eq_false, not_false_eq_true, true_and, and_true, false_and, and_false, and_self, Int32.reduceSub]
        congr 1
        rw [sg_set_comm (σ := σ) (show (129 : Nat) ≠ 130 by omega), sg_up_set, sg_set_comm (σ := σ) (show (130 : Nat) ≠ 129 by omega)]
      · simp (decide := true) only [mq_155_60, mq_155_61, mq_155_64, mq_155_65, mq_155_66, mq_155_67, mq_155_68, mq_155_69, mq_155_70, mq_155_71, mq_155_74, mq_155_77, mq_155_78, mq_155_81, mq_155_82, mq_155_84, mq_155_85, mq_155_88, mq_155_89, mq_155_90, mq_155_91, mq_155_92, mq_155_95, mq_155_96, mq_155_98, mq_155_99, mq_155_102, i1, cx, sg_set_same, upd_same, e120, hn, nI_1, nI_ltI (show x + 1 < 2 ^ 31 by omega) (show n < 2 ^ 31 by omega), hx1, sg_up_set, upd_upd, Nat.reduceAdd, Nat.reduceMul, Nat.reduceSub, Nat.zero_add, sg_bi_i, sg_bi_n, sg_bz, sg_bb, sg_b_0, sg_b_1, if_true, if_false, not_true_eq_false, not_false_eq_true, true_and, and_true, false_and, and_false, and_self, Int32.reduceSub]
        congr 1
        rw [sg_set_comm (σ := σ) (show (129 : Nat) ≠ 130 by omega), sg_up_set, sg_set_comm (σ := σ) (show (130 : Nat) ≠ 129 by omega)]
    by_cases hx1 : x + 1 < n
    · rw [em_bh σ n x N t hx1 h8 hN N 0 _ (by omega) (by rw [sg_set_ne (by omega), sg_set_ne (by omega)]; exact hn), sg_set_same, ef, sg_up_set]
      refine fin N _ ?_
      unfold fn_bm
      rw [if_pos hx1, if_pos hx1]
    · have e60 : sg_rv 155 13 (sg_set (sg_set σ 129 g) 130 f) [sg_r 7 120, sg_i t, sg_i (nI N), sg_i (nI x), sg_i (nI 0)] [] = sg_rv 155 60 (sg_set (sg_set σ 129 g) 130 (upd f x (σ 130 x))) [sg_r 7 120, sg_i t, sg_i (nI N), sg_i (nI x), sg_i (nI 0)] [] := by
        have eu : upd f x (σ 130 x) = f := by
          funext i
          by_cases hi : i = x
          · subst hi; rw [upd_same, ef]
          · rw [upd_ne hi]
        rw [eu]
        by_cases hN0 : nI 0 < nI N
        · simp (decide := true) only [mq_155_13, mq_155_15, mq_155_16, mq_155_19, mq_155_20, mq_155_21, mq_155_22, mq_155_23, mq_155_26, hN0, sg_set_ne (show 120 ≠ 130 by omega), sg_set_ne (show 120 ≠ 129 by omega), hn, nI_1, nI_ltI (show x + 1 < 2 ^ 31 by omega) (show n < 2 ^ 31 by omega), hx1, Nat.reduceAdd, Nat.reduceMul, Nat.reduceSub, Nat.zero_add, sg_bi_i, sg_bi_n, sg_bz, sg_bb, sg_b_0, sg_b_1, if_true, if_false, not_true_eq_false, not_false_eq_true, true_and, and_true, false_and, and_false, and_self, Int32.reduceSub]
        · simp (decide := true) only [mq_155_13, mq_155_15, mq_155_16, hN0, if_false]
      rw [e60]
      refine fin 0 _ ?_
      unfold fn_bm
      rw [if_neg hx1, if_neg hx1]
def fn_bM (t : Int32) (N n : Nat) (Q : fn_PS) : fn_PS := (Q.1, Q.2.1, fun j => if j < n then 20 else Q.2.2.1 j, fun j => if j < n then fn_bm t N n Q.2.2.2 j else Q.2.2.2 j)
theorem em_bake (σ : sg_M) (n N : Nat) (t T : Int32) (Q : fn_PS) (w : Nat → Int32) (h8 : n ≤ 8) (hn : σ 120 8 = nI n) (hN : N < 2 ^ 31) : sg_ev 155 (sg_mP σ T Q w) [sg_r 7 120, sg_i t, sg_i (nI N)] = some (none, sg_mP σ T (fn_bM t N n Q) w) := by
  have h := em_bk_l (sg_mP σ T Q w) n N t h8 (by rw [mP_120 _ _ _ _ (by omega)]; exact hn) hN n 0 (sg_r 0 0) (Or.inl rfl) (by omega)
  have f0 : (fun j => if j < 0 then (20 : Int32) else sg_mP σ T Q w 129 j) = sg_mP σ T Q w 129 := by funext j; simp
  have f1 : (fun j => if j < 0 then fn_bm t N n (sg_mP σ T Q w 130) j else sg_mP σ T Q w 130 j) = sg_mP σ T Q w 130 := by funext j; simp
  rw [f0, f1, sg_set_self, sg_set_self] at h
  have e129 : sg_mP σ T Q w 129 = Q.2.2.1 := by unfold sg_mP; rw [mm_129]
  have e130 : sg_mP σ T Q w 130 = Q.2.2.2 := by unfold sg_mP; rw [mm_130]
  rw [e129, e130] at h
  rw [show sg_ev 155 (sg_mP σ T Q w) [sg_r 7 120, sg_i t, sg_i (nI N)] = sg_rv 155 2 (sg_mP σ T Q w) [sg_r 7 120, sg_i t, sg_i (nI N), sg_i (nI 0), sg_r 0 0] [] by simp only [me_155, mq_155_0, mq_155_1, nI_0], h]
  congr 2
  unfold sg_mP
  refine mm_ext ?_ ?_ ?_ ?_ ?_ (fun x hx => ?_)
  · rw [sg_set_ne (by omega), sg_set_ne (by omega), mm_120]
    rfl
  · rw [sg_set_ne (by omega), sg_set_ne (by omega), mm_128]
    rfl
  · rw [sg_set_ne (by omega), sg_set_same]
    rfl
  · rw [sg_set_same]
    rfl
  · rw [sg_set_ne (by omega), sg_set_ne (by omega), mm_131]
  · rw [sg_set_ne (by omega), sg_set_ne (by omega), mm_ne hx]
theorem bake_rl {n N : Nat} {t : Int32} {P Q : fn_PS} (h8 : n ≤ 8) (h : rl_ps n P Q) : rl_ps n (fn_lo t n (fn_bhn t n N P)) (fn_bM t N n Q) := by
  refine ⟨h.1, fun k hk => ⟨(h.2 k hk).1, ?_, ?_⟩⟩
  · show (if k < 8 then (20 : Int32) else _) = (if k < n then 20 else _)
    rw [if_pos (by omega), if_pos hk]
  · show (if k < n - 1 then (if k < n - 1 then fn_bkn t N (P.2.2.2 k) else P.2.2.2 k) + (t - 400) / 40 else (if k < n - 1 then fn_bkn t N (P.2.2.2 k) else P.2.2.2 k)) = (if k < n then (if k + 1 < n then fn_bkn t N (Q.2.2.2 k) + (t - 400) / 40 else Q.2.2.2 k + 0) else Q.2.2.2 k)
    rw [if_pos hk, (h.2 k hk).2.2]
    by_cases hk1 : k + 1 < n
    · rw [if_pos (by omega), if_pos (by omega), if_pos hk1]
    · rw [if_neg (by omega), if_neg (by omega), if_neg hk1, Int32.add_zero]
