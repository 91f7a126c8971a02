/-! A TENTH OF THE MODEL -/
theorem fn_soft_nI {j : Nat} (h : 600 ≤ j) (hj : j < 2 ^ 31) : fn_soft (nI j) = nI ((j - 500) / 100) := by
  unfold fn_soft
  rw [if_neg (by rw [show (600 : Int32) = nI 600 from rfl, nI_ltI hj (by omega)]; omega), show (500 : Int32) = nI 500 from rfl, pk_sub (by omega), show (100 : Int32) = nI 100 from rfl, pk_div (by omega) (by omega) (by omega)]
theorem fn_soft_lo {h : Int32} (hh : h < 600) : fn_soft h = 0 := by
  unfold fn_soft
  rw [if_pos hh]
theorem fn_soft_cases (h : Int32) : fn_soft h = 0 ∨ ∃ j : Nat, 600 ≤ j ∧ j < 2 ^ 31 ∧ h = nI j ∧ fn_soft h = nI ((j - 500) / 100) := by
  by_cases hh : h < 600
  · exact Or.inl (fn_soft_lo hh)
  · have h0 : ¬ h < 0 := fun q => hh (Int32.lt_trans q (by decide))
    obtain ⟨j, hj, rfl⟩ := nI_of h0
    rw [show (600 : Int32) = nI 600 from rfl, nI_ltI hj (by omega)] at hh
    exact Or.inr ⟨j, by omega, hj, rfl, fn_soft_nI (by omega) hj⟩
theorem fn_soft_nn (h : Int32) : 0 ≤ (fn_soft h).toInt := by
  rcases fn_soft_cases h with q | ⟨j, h1, h2, -, q⟩
  · rw [q, sg_t0]; omega
  · rw [q, nI_toInt (by omega)]; omega
theorem fn_soft_pos (h : Int32) : (fn_soft h = 0) = ¬ (0 < fn_soft h) := by
  have h1 := fn_soft_nn h
  rw [eq_iff_iff, Int32.lt_iff_toInt_lt, sg_t0]
  constructor
  · intro q; rw [q, sg_t0]; omega
  · intro q
    apply Int32.toInt_inj.mp
    rw [sg_t0]
    omega
theorem em_warm (σ : sg_M) (v th mo : Int32) (h2 : ¬ 2 + th = 0) (h10 : ¬ 10 + th = 0) : sg_ev 138 σ [sg_i v, sg_i th, sg_i mo] = some (some (sg_i (fn_warm mo v th)), σ) := by
  unfold fn_warm
  simp only [me_138, mq_138_0, mq_138_1, mq_138_4, mq_138_5, mq_138_8, mq_138_9, mq_138_10, mq_138_11, mq_138_12, mq_138_13, mq_138_14, mq_138_15, mq_138_18, mq_138_19, mq_138_20, mq_138_22, mq_138_23, mq_138_25, mq_138_26, mq_138_27, mq_138_28, mq_138_29, h2, h10, not_false_eq_true]
  split <;> rfl
theorem fn_cl_held (d : Int32) : (if d < 0 then 0 else if 1500 < d then 1500 else d) = fn_cl d := by
  unfold fn_cl
  simp only [Int32.lt_iff_toInt_lt, sg_t0, sg_t1500]
  by_cases h1 : d.toInt < 0
  · have h2 : d.toInt < 1500 := by omega
    have h3 : ¬ 0 < d.toInt := by omega
    simp [h1, h2, h3]
  · by_cases h2 : 1500 < d.toInt
    · have h3 : ¬ d.toInt < 1500 := by omega
      simp (decide := true) [h1, h2, h3]
    · by_cases h3 : d.toInt < 1500
      · by_cases h4 : 0 < d.toInt
        · simp [h1, h2, h3, h4]
        · have : d = 0 := Int32.toInt_inj.mp (by rw [sg_t0]; omega)
          subst this
          simp (decide := true)
      · have : d = 1500 := Int32.toInt_inj.mp (by rw [sg_t1500]; omega)
        subst this
        simp (decide := true)
theorem em_t0 (σ : sg_M) (n : Nat) (mo : Int32) (h8 : n ≤ 8) (hn : σ 120 8 = nI n) : ∀ m k, k + m = n → sg_rv 137 2 (sg_set σ 131 (fun j => if j < k then σ 129 j else σ 131 j)) [sg_r 7 120, sg_i mo, sg_i (nI k), sg_r 0 0, sg_r 0 0] [] = sg_rv 137 28 (sg_set σ 131 (fun j => if j < n then σ 129 j else σ 131 j)) [sg_r 7 120, sg_i mo, sg_i (nI n), sg_r 0 0, sg_r 0 0] [] := by
  intro m
  induction m with
  | zero =>
    intro k hk
    simp only [mq_137_2, mq_137_3, mq_137_4, mq_137_7, sg_set_ne (show (120 : Nat) ≠ 131 by omega), hn, nI_ltI (show k < 2 ^ 31 by omega) (show n < 2 ^ 31 by omega), show ¬ k < n by omega, if_false]
    rw [show k = n by omega]
  | succ m ih =>
    intro k hk
    have i1 : sg_in (nI k) 8 = true := sg_in_nI (by omega) (by omega)
    have ih := ih (k + 1) (by omega)
    rw [← upd_lt (σ 131) k (σ 129)] at ih
    simp only [mq_137_2, mq_137_3, mq_137_4, mq_137_7, sg_set_ne (show (120 : Nat) ≠ 131 by omega), hn, nI_ltI (show k < 2 ^ 31 by omega) (show n < 2 ^ 31 by omega), show k < n by omega, if_true]
    simp only [mq_137_10, mq_137_11, mq_137_14, mq_137_15, mq_137_16, mq_137_19, mq_137_20, mq_137_21, mq_137_22, mq_137_25, Nat.reduceAdd, i1, sg_nIc (show k < 2 ^ 31 by omega), sg_set_ne (show (129 : Nat) ≠ 131 by omega), sg_up_set, nI_1]
    exact ih
theorem em_t1 (σ : sg_M) (n : Nat) (mo : Int32) (h8 : n ≤ 8) (hn : σ 120 8 = nI n) (hok : ∀ k, k < n → fn_okr (σ 127) (σ 128) k) : ∀ m k (x3 x4 : sg_V), (x3 = sg_r 0 0 ∨ ∃ a, x3 = sg_i a) → (x4 = sg_r 0 0 ∨ ∃ a, x4 = sg_i a) → k + m = n → ∃ y3 y4, (y3 = sg_r 0 0 ∨ ∃ a, y3 = sg_i a) ∧ (y4 = sg_r 0 0 ∨ ∃ a, y4 = sg_i a) ∧ sg_rv 137 30 (sg_set σ 129 (fun j => if j < k then fn_nh 1 mo n (σ 127) (σ 128) (σ 131) j else σ 129 j)) [sg_r 7 120, sg_i mo, sg_i (nI k), x3, x4] [] = sg_rv 137 151 (sg_set σ 129 (fun j => if j < n then fn_nh 1 mo n (σ 127) (σ 128) (σ 131) j else σ 129 j)) [sg_r 7 120, sg_i mo, sg_i (nI n), y3, y4] [] := by
  intro m
  induction m with
  | zero =>
    intro k x3 x4 g3 g4 hk
    refine ⟨x3, x4, g3, g4, ?_⟩
    simp only [mq_137_30, mq_137_31, mq_137_32, mq_137_35, sg_set_ne (show (120 : Nat) ≠ 129 by omega), hn, nI_ltI (show k < 2 ^ 31 by omega) (show n < 2 ^ 31 by omega), show ¬ k < n by omega, if_false]
    rw [show k = n by omega]
  | succ m ih =>
    intro k x3 x4 g3 g4 hk
    obtain ⟨o1, o2, o3⟩ := hok k (by omega)
    have i1 : sg_in (nI k) 8 = true := sg_in_nI (by omega) (by omega)
    have ck : (nI k).toNatClampNeg = k := sg_nIc (by omega)
    have p1 : (0 < nI k) = (0 < k) := by rw [show (0 : Int32) = nI 0 from rfl, eq_iff_iff]; exact nI_ltI (by omega) (by omega)
    have p2 : (nI (k + 1) < nI n) = (k + 1 < n) := by rw [eq_iff_iff]; exact nI_ltI (by omega) (by omega)
    obtain ⟨y3, y4, k3, k4, ih⟩ := ih (k + 1) (sg_i (σ 131 k)) (sg_i (fn_next n (σ 131) k (fn_side 1 (σ 131) k (fn_warm mo (σ 131 k) (σ 127 k / σ 128 k))))) (Or.inr ⟨_, rfl⟩) (Or.inr ⟨_, rfl⟩) (by omega)
    refine ⟨y3, y4, k3, k4, ?_⟩
    rw [← upd_lt (σ 129) k (fn_nh 1 mo n (σ 127) (σ 128) (σ 131))] at ih
    generalize hf : (fun j => if j < k then fn_nh 1 mo n (σ 127) (σ 128) (σ 131) j else σ 129 j) = f at ih ⊢
    have e0 : sg_set σ 129 f 120 = σ 120 := sg_set_ne (by omega)
    have e1 : sg_set σ 129 f 127 = σ 127 := sg_set_ne (by omega)
    have e2 : sg_set σ 129 f 128 = σ 128 := sg_set_ne (by omega)
    have e5 : sg_set σ 129 f 131 = σ 131 := sg_set_ne (by omega)
    rw [show fn_nh 1 mo n (σ 127) (σ 128) (σ 131) k = fn_cl (fn_next n (σ 131) k (fn_side 1 (σ 131) k (fn_warm mo (σ 131 k) (σ 127 k / σ 128 k)))) from rfl] at ih
    -- the end of a round
    have tail : ∀ (v : Int32), sg_rv 137 98 (sg_set σ 129 f) [sg_r 7 120, sg_i mo, sg_i (nI k), sg_i (σ 131 k), sg_i v] [] = sg_rv 137 30 (sg_set σ 129 (upd f k (fn_cl (fn_next n (σ 131) k v)))) [sg_r 7 120, sg_i mo, sg_i (nI (k + 1)), sg_i (σ 131 k), sg_i (fn_next n (σ 131) k v)] [] := by
      intro v
      simp only [mq_137_98, mq_137_100, mq_137_101, mq_137_102, mq_137_103, mq_137_104, mq_137_107, e0, hn, nI_1, p2]
      unfold fn_next
      by_cases h1 : k + 1 < n
      · have i2 : sg_in (nI (k + 1)) 8 = true := sg_in_nI (by omega) (by omega)
        simp (decide := true) only [h1, if_true, mq_137_110, mq_137_111, mq_137_114, mq_137_115, mq_137_116, mq_137_117, mq_137_118, mq_137_119, mq_137_120, mq_137_122, mq_137_123, mq_137_126, mq_137_127, mq_137_128, mq_137_130, mq_137_131, mq_137_134, mq_137_135, mq_137_137, mq_137_138, mq_137_141, mq_137_144, mq_137_145, mq_137_148, Nat.reduceAdd, e5, i1, i2, nI_1, ck, sg_nIc (show k + 1 < 2 ^ 31 by omega), em_held, sg_bi_i, fn_cl_held, sg_up_set]
      · simp (decide := true) only [h1, if_false, mq_137_110, mq_137_111, mq_137_114, mq_137_115, mq_137_116, mq_137_117, mq_137_118, mq_137_119, mq_137_120, mq_137_122, mq_137_123, mq_137_126, mq_137_127, mq_137_128, mq_137_130, mq_137_131, mq_137_134, mq_137_135, mq_137_137, mq_137_138, mq_137_141, mq_137_144, mq_137_145, mq_137_148, Nat.reduceAdd, Int32.add_zero, i1, nI_1, ck, em_held, sg_bi_i, fn_cl_held, sg_up_set]
    have mid : ∀ (v : Int32), sg_rv 137 65 (sg_set σ 129 f) [sg_r 7 120, sg_i mo, sg_i (nI k), sg_i (σ 131 k), sg_i v] [] = sg_rv 137 98 (sg_set σ 129 f) [sg_r 7 120, sg_i mo, sg_i (nI k), sg_i (σ 131 k), sg_i (fn_side 1 (σ 131) k v)] [] := by
      intro v
      simp only [mq_137_65, mq_137_67, mq_137_68, p1]
      unfold fn_side
      by_cases h1 : 0 < k
      · obtain ⟨j, rfl⟩ : ∃ j, k = j + 1 := ⟨k - 1, by omega⟩
        have i2 : sg_in (nI j) 8 = true := sg_in_nI (by omega) (by omega)
        simp (decide := true) only [h1, if_true, mq_137_71, mq_137_72, mq_137_75, mq_137_76, mq_137_77, mq_137_78, mq_137_79, mq_137_80, mq_137_81, mq_137_83, mq_137_84, mq_137_87, mq_137_90, mq_137_91, mq_137_92, mq_137_94, mq_137_95, mq_137_96, Nat.reduceAdd, e5, nI_pred, i2, sg_nIc (show j < 2 ^ 31 by omega), Nat.add_sub_cancel]
      · simp (decide := true) only [h1, if_false, mq_137_71, mq_137_72, mq_137_75, mq_137_76, mq_137_77, mq_137_78, mq_137_79, mq_137_80, mq_137_81, mq_137_83, mq_137_84, mq_137_87, mq_137_90, mq_137_91, mq_137_92, mq_137_94, mq_137_95, mq_137_96]
    have hw := em_warm (sg_set σ 129 f) (σ 131 k) (σ 127 k / σ 128 k) mo o2 o3
    simp only [mq_137_30, mq_137_31, mq_137_32, mq_137_35, e0, hn, nI_ltI (show k < 2 ^ 31 by omega) (show n < 2 ^ 31 by omega), show k < n by omega, if_true]
    simp only [mq_137_38, mq_137_39, mq_137_42, mq_137_43, mq_137_44, mq_137_45, mq_137_46, mq_137_47, mq_137_50, mq_137_51, mq_137_52, mq_137_53, mq_137_56, mq_137_57, mq_137_58, mq_137_59, mq_137_60, mq_137_63, Nat.reduceAdd, e1, e2, e5, i1, ck, sg_ne0 o1, not_false_eq_true, hw, sg_bi_i]
    rcases g3 with rfl | ⟨a3, rfl⟩ <;> rcases g4 with rfl | ⟨a4, rfl⟩ <;> (simp only [mid, tail]; exact ih)
