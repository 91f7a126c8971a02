/-! CELLS of a sheet, taken: AIM -/
theorem fn_bar_neg {k lane i : Int32} {n : Int64} {ln len : Int32} (h : ¬ (fn_bar k lane i n ln len).1 = 0) : (fn_bar k lane i n ln len).1 < 0 := by
  unfold fn_bar at h ⊢
  by_cases h1 : 0 ≤ k ∧ k ≤ 3
  · by_cases h2 : 0 ≤ lane ∧ lane ≤ 2
    · by_cases h3 : len = -1
      · simp (decide := true) only [h1, h2, h3, Nat.reduceAdd, Nat.reduceMul, Nat.reduceSub, Nat.zero_add, sg_bi_i, sg_bi_n, sg_bz, sg_bb, sg_b_0, sg_b_1, if_true, if_false, not_true_eq_false, not_false_eq_true, true_and, and_true, false_and, and_false, and_self, Int32.reduceSub]
      · by_cases h4 : ln = lane
        · by_cases h5 : n < 0
          · simp (decide := true) only [h1, h2, h3, h4, h5, Nat.reduceAdd, Nat.reduceMul, Nat.reduceSub, Nat.zero_add, sg_bi_i, sg_bi_n, sg_bz, sg_bb, sg_b_0, sg_b_1, if_true, if_false, not_true_eq_false, not_false_eq_true, true_and, and_true, false_and, and_false, and_self, Int32.reduceSub]
          · by_cases h6 : 0 ≤ i ∧ i ≤ len ∧ n ≤ (len - i).toInt64
            · simp (decide := true) only [h1, h2, h3, h4, h5, h6, Nat.reduceAdd, Nat.reduceMul, Nat.reduceSub, Nat.zero_add, sg_bi_i, sg_bi_n, sg_bz, sg_bb, sg_b_0, sg_b_1, if_true, if_false, not_true_eq_false, not_false_eq_true, true_and, and_true, false_and, and_false, and_self, Int32.reduceSub] at h
            · simp (decide := true) only [h1, h2, h3, h4, h5, h6, Nat.reduceAdd, Nat.reduceMul, Nat.reduceSub, Nat.zero_add, sg_bi_i, sg_bi_n, sg_bz, sg_bb, sg_b_0, sg_b_1, if_true, if_false, not_true_eq_false, not_false_eq_true, true_and, and_true, false_and, and_false, and_self, Int32.reduceSub]
        · simp (decide := true) only [h1, h2, h3, h4, Nat.reduceAdd, Nat.reduceMul, Nat.reduceSub, Nat.zero_add, sg_bi_i, sg_bi_n, sg_bz, sg_bb, sg_b_0, sg_b_1, if_true, if_false, not_true_eq_false, not_false_eq_true, true_and, and_true, false_and, and_false, and_self, Int32.reduceSub]
    · simp (decide := true) only [h1, h2, Nat.reduceAdd, Nat.reduceMul, Nat.reduceSub, Nat.zero_add, sg_bi_i, sg_bi_n, sg_bz, sg_bb, sg_b_0, sg_b_1, if_true, if_false, not_true_eq_false, not_false_eq_true, true_and, and_true, false_and, and_false, and_self, Int32.reduceSub]
  · simp (decide := true) only [h1, Nat.reduceAdd, Nat.reduceMul, Nat.reduceSub, Nat.zero_add, sg_bi_i, sg_bi_n, sg_bz, sg_bb, sg_b_0, sg_b_1, if_true, if_false, not_true_eq_false, not_false_eq_true, true_and, and_true, false_and, and_false, and_self, Int32.reduceSub]
theorem tk_mul {n : Int32} {G : Nat} (hG : G = 1 ∨ G = 3) : (n.toInt64 * (nI G).toInt64).toInt = n.toInt * G := by
  have b1 := Int32.le_toInt n
  have b2 := Int32.toInt_lt n
  rw [Int64.toInt_mul, Int32.toInt_toInt64, Int32.toInt_toInt64, nI_toInt (by omega)]
  rcases hG with rfl | rfl
  · rw [Int.bmod_eq_of_le (by omega) (by omega)]
  · rw [Int.bmod_eq_of_le (by omega) (by omega)]
/-- cells that are taken: barred alike, or they are there -/
theorem tk_cases {B : Int} {σ : sg_M} (h : iv_all B σ) (k lane i n : Int32) (G : Nat) (hG : G = 1 ∨ G = 3) :
    (∃ r f : Int32, ¬ r = 0 ∧ sg_ev 1 σ [sg_r 1 0, sg_i k, sg_i lane, sg_i i, sg_i n, sg_i (nI G)] = some (some (sg_i r), sg_up σ 0 12 f) ∧ ((¬ (0 ≤ k ∧ k ≤ 3) ∧ r = -1 ∧ f = 0) ∨ ((0 ≤ k ∧ k ≤ 3) ∧ r < 0 ∧ ∀ τ : sg_M, τ 142 = σ 142 → τ 143 = σ 143 → sg_ev 117 τ [sg_r 7 120, sg_i k, sg_i lane, sg_i i, sg_l (n.toInt64 * (nI G).toInt64)] = some (some (sg_i r), sg_up τ 120 0 f)))) ∨
    (∃ q a b : Nat, q < 4 ∧ k = nI q ∧ i = nI a ∧ n = nI b ∧ a + G * b ≤ 60 ∧ ((a + G * b : Nat) : Int) ≤ (σ (112 + 2 * q) 2).toInt ∧ sg_ev 1 σ [sg_r 1 0, sg_i k, sg_i lane, sg_i i, sg_i n, sg_i (nI G)] = some (some (sg_i 0), sg_up σ 0 12 0) ∧ ∀ τ : sg_M, τ 142 = σ 142 → τ 143 = σ 143 → sg_ev 117 τ [sg_r 7 120, sg_i k, sg_i lane, sg_i i, sg_l (n.toInt64 * (nI G).toInt64)] = some (some (sg_i 0), τ)) := by
  have b1 := Int32.le_toInt n
  have b2 := Int32.toInt_lt n
  have hN := tk_mul (n := n) hG
  have hev := ev_bar σ k lane i n (nI G) (by rcases hG with rfl | rfl; exact Or.inl rfl; exact Or.inr rfl)
  generalize n.toInt64 * (nI G).toInt64 = N at hN hev ⊢
  by_cases h1 : 0 ≤ k ∧ k ≤ 3
  · obtain ⟨q, hq, hkq, hqk⟩ := sg_k3 h1
    obtain ⟨s1, s2, s3, s4⟩ := h.1 q hq
    have hem : ∀ τ : sg_M, τ 142 = σ 142 → τ 143 = σ 143 → _ := fun τ e1 e2 => em_barred τ k lane i N h1 (by rcases hG with rfl | rfl <;> omega) (by rw [e1, hqk, s2]; exact s1)
    rw [hqk] at hev
    by_cases hF : (fn_bar k lane i N (σ (112 + 2 * q) 1) (σ (112 + 2 * q) 2)).1 = 0
    · obtain ⟨-, -, g3, -, g5, g6, g7⟩ := fn_bar_0 hF
      right
      rw [hF, g7] at hev
      have hl := sg_held s1 g3
      obtain ⟨g6a, g6b, g6c⟩ := g6
      rw [Int32.le_iff_toInt_le, sg_t0] at g6a
      rw [Int32.le_iff_toInt_le] at g6b
      rw [Int64.lt_iff_toInt_lt, sg_T0, hN] at g5
      rw [Int64.le_iff_toInt_le, hN, Int32.toInt_toInt64, sg_sub_toInt (by omega) (by omega) (by omega) (by omega)] at g6c
      have n0 : 0 ≤ n.toInt := by rcases hG with rfl | rfl <;> omega
      obtain ⟨a, ha, rfl, ea⟩ := sg_nat g6a
      obtain ⟨b, hb, rfl, eb⟩ := sg_nat n0
      rw [ea, eb] at g6c
      refine ⟨q, a, b, hq, hkq, rfl, rfl, ?_, ?_, hev, fun τ e1 e2 => ?_⟩
      · rcases hG with rfl | rfl <;> omega
      · rcases hG with rfl | rfl <;> omega
      · rw [hem τ e1 e2, e1, e2, hqk, s2, s3, if_pos hF, hF]
    · left
      refine ⟨_, _, hF, hev, Or.inr ⟨h1, fn_bar_neg hF, fun τ e1 e2 => ?_⟩⟩
      rw [hem τ e1 e2, e1, e2, hqk, s2, s3, if_neg hF]
  · left
    have e : ∀ ln len, fn_bar k lane i N ln len = (-1, 0) := fun ln len => by unfold fn_bar; rw [if_pos h1]
    rw [e] at hev
    exact ⟨-1, 0, by decide, hev, Or.inl ⟨h1, rfl, rfl⟩⟩
/-- all of m numbers from x on -/
def fn_al (P : Nat → Bool) : Nat → Nat → Bool
  | 0, _ => true
  | m + 1, x => P x && fn_al P m (x + 1)
theorem fn_al_of {P : Nat → Bool} : ∀ m x, fn_al P m x = true → ∀ y, x ≤ y → y < x + m → P y = true := by
  intro m
  induction m with
  | zero => intro x _ y h1 h2; omega
  | succ m ih =>
    intro x h y h1 h2
    simp only [fn_al, Bool.and_eq_true] at h
    by_cases hy : y = x
    · rw [hy]; exact h.1
    · exact ih (x + 1) h.2 y (by omega) (by omega)
theorem fn_al_congr {P Q : Nat → Bool} : ∀ m x, (∀ y, x ≤ y → y < x + m → P y = Q y) → fn_al P m x = fn_al Q m x := by
  intro m
  induction m with
  | zero => intro x _; rfl
  | succ m ih =>
    intro x h
    show (P x && fn_al P m (x + 1)) = (Q x && fn_al Q m (x + 1))
    rw [h x (by omega) (by omega), ih (x + 1) (fun y h1 h2 => h y (by omega) (by omega))]
def fn_rad (f : Nat → Int32) (a : Nat) (x : Nat) : Bool := decide (1 ≤ f (a + x) ∧ f (a + x) ≤ 99)
theorem n18 {b : Nat} (hb : b < 2 ^ 31) : (1 ≤ nI b ∧ nI b ≤ 8) = (1 ≤ b ∧ b ≤ 8) := by
  rw [show (1 : Int32) = nI 1 from rfl, show (8 : Int32) = nI 8 from rfl, nI_leI (by omega) hb, nI_leI hb (by omega)]
theorem ev_radii_l (σ : sg_M) (c a b : Nat) (hb : a + b ≤ 60) : ∀ m x, x + m = b → sg_rv 73 14 σ [sg_r 6 c, sg_i (nI a), sg_i (nI b), sg_i (nI x)] [] = some (some (sg_i (if fn_al (fn_rad (σ (c + 1)) a) m x = true then 1 else 0)), σ) := by
  intro m
  induction m with
  | zero =>
    intro x hx
    simp (decide := true) only [mq_73_14, mq_73_15, mq_73_16, mq_73_19, mq_73_20, mq_73_23, mq_73_24, mq_73_25, mq_73_26, mq_73_27, mq_73_28, mq_73_30, mq_73_33, mq_73_36, mq_73_37, mq_73_38, mq_73_41, mq_73_44, mq_73_45, nI_ltI (show x < 2 ^ 31 by omega) (show b < 2 ^ 31 by omega), show ¬ x < b by omega, fn_al, Nat.reduceAdd, Nat.reduceMul, Nat.reduceSub, Nat.zero_add, sg_bi_i, sg_bi_n, sg_bz, sg_bb, sg_b_0, sg_b_1, if_true, if_false, not_true_eq_false, not_false_eq_true, true_and, and_true, false_and, and_false, and_self, Int32.reduceSub]
  | succ m ih =>
    intro x hx
    have i1 : sg_in (nI (a + x)) 60 = true := sg_in_nI (by omega) (by omega)
    have cx : (nI (a + x)).toNatClampNeg = a + x := sg_nIc (by omega)
    have hh := ih (x + 1) (by omega)
    by_cases hr : 1 ≤ σ (c + 1) (a + x) ∧ σ (c + 1) (a + x) ≤ 99
    · have e : fn_rad (σ (c + 1)) a x = true := decide_eq_true hr
      simp (decide := true) only [mq_73_14, mq_73_15, mq_73_16, nI_ltI (show x < 2 ^ 31 by omega) (show b < 2 ^ 31 by omega), show x < b by omega, Nat.reduceAdd, Nat.reduceMul, Nat.reduceSub, Nat.zero_add, sg_bi_i, sg_bi_n, sg_bz, sg_bb, sg_b_0, sg_b_1, if_true, if_false, not_true_eq_false, not_false_eq_true, true_and, and_true, false_and, and_false, and_self, Int32.reduceSub]
      simp (decide := true) only [mq_73_19, mq_73_20, mq_73_23, mq_73_24, mq_73_25, mq_73_26, mq_73_27, mq_73_28, mq_73_30, mq_73_33, mq_73_36, mq_73_37, mq_73_38, mq_73_41, nI_add, i1, cx, ev_within, hr, nI_1, Nat.reduceAdd, Nat.reduceMul, Nat.reduceSub, Nat.zero_add, sg_bi_i, sg_bi_n, sg_bz, sg_bb, sg_b_0, sg_b_1, if_true, if_false, not_true_eq_false, not_false_eq_true, true_and, and_true, false_and, and_false, and_self, Int32.reduceSub]
      rw [hh]
      simp only [fn_al, e, Bool.true_and]
    · have e : fn_rad (σ (c + 1)) a x = false := decide_eq_false hr
      simp (decide := true) only [mq_73_14, mq_73_15, mq_73_16, mq_73_19, mq_73_20, mq_73_23, mq_73_24, mq_73_25, mq_73_26, mq_73_27, mq_73_28, mq_73_30, mq_73_33, mq_73_36, mq_73_37, mq_73_38, mq_73_41, nI_ltI (show x < 2 ^ 31 by omega) (show b < 2 ^ 31 by omega), show x < b by omega, nI_add, i1, cx, ev_within, hr, fn_al, e, Bool.false_and, Bool.false_eq_true, Nat.reduceAdd, Nat.reduceMul, Nat.reduceSub, Nat.zero_add, sg_bi_i, sg_bi_n, sg_bz, sg_bb, sg_b_0, sg_b_1, if_true, if_false, not_true_eq_false, not_false_eq_true, true_and, and_true, false_and, and_false, and_self, Int32.reduceSub]
theorem ev_radii (σ : sg_M) (c a b : Nat) (hb : a + b ≤ 60) : sg_ev 73 σ [sg_r 6 c, sg_i (nI a), sg_i (nI b)] = some (some (sg_i (if (1 ≤ b ∧ b ≤ 8) ∧ fn_al (fn_rad (σ (c + 1)) a) b 0 = true then 1 else 0)), σ) := by
  have e := n18 (show b < 2 ^ 31 by omega)
  by_cases h : 1 ≤ b ∧ b ≤ 8
  · have hh := ev_radii_l σ c a b hb b 0 (by omega)
    rw [nI_0] at hh
    simp (decide := true) only [me_73, mq_73_0, mq_73_1, mq_73_2, mq_73_4, mq_73_7, mq_73_10, mq_73_11, mq_73_12, mq_73_13, ev_within, e, h, hh, Nat.reduceAdd, Nat.reduceMul, Nat.reduceSub, Nat.zero_add, sg_bi_i, sg_bi_n, sg_bz, sg_bb, sg_b_0, sg_b_1, if_true, if_false, not_true_eq_false, not_false_eq_true, true_and, and_true, false_and, and_false, and_self, Int32.reduceSub]
  · simp (decide := true) only [me_73, mq_73_0, mq_73_1, mq_73_2, mq_73_4, mq_73_7, mq_73_10, mq_73_11, mq_73_12, mq_73_13, ev_within, e, h, Nat.reduceAdd, Nat.reduceMul, Nat.reduceSub, Nat.zero_add, sg_bi_i, sg_bi_n, sg_bz, sg_bb, sg_b_0, sg_b_1, if_true, if_false, not_true_eq_false, not_false_eq_true, true_and, and_true, false_and, and_false, and_self, Int32.reduceSub]
theorem sg_60d {q a x : Nat} (hq : q < 4) (ha : a + x < 60) : sg_in (60 * nI q + nI a + nI x) 240 = true ∧ (60 * nI q + nI a + nI x).toNatClampNeg = 60 * q + a + x := by
  have e : (60 : Int32) * nI q + nI a + nI x = nI (60 * q + a + x) := by rw [show (60 : Int32) = nI 60 from rfl, pk_mul, nI_add, nI_add]
  rw [e]
  exact ⟨sg_in_nI (by omega) (by omega), sg_nIc (by omega)⟩
theorem em_radii_l (σ : sg_M) (q a b : Nat) (lane x5 : Int32) (hq : q < 4) (hb : a + b ≤ 60) : ∀ m x (good : Bool), x + m = b → ∃ y : Int32, sg_rv 166 48 σ [sg_r 7 120, sg_i (nI q), sg_i lane, sg_i (nI a), sg_i (nI b), sg_i x5, sg_i (if good = true then 1 else 0), sg_i (nI x)] [] = sg_rv 166 90 σ [sg_r 7 120, sg_i (nI q), sg_i lane, sg_i (nI a), sg_i (nI b), sg_i x5, sg_i (if good = true ∧ fn_al (fn_rad (σ 144) (60 * q + a)) m x = true then 1 else 0), sg_i y] [] := by
  intro m
  induction m with
  | zero =>
    intro x good hx
    refine ⟨nI x, ?_⟩
    simp (decide := true) only [mq_166_48, mq_166_50, mq_166_52, mq_166_55, mq_166_57, nI_ltI (show x < 2 ^ 31 by omega) (show b < 2 ^ 31 by omega), show ¬ x < b by omega, fn_al, Nat.reduceAdd, Nat.reduceMul, Nat.reduceSub, Nat.zero_add, sg_bi_i, sg_bi_n, sg_bz, sg_bb, sg_b_0, sg_b_1, if_true, if_false, not_true_eq_false, not_false_eq_true, true_and, and_true, false_and, and_false, and_self, Int32.reduceSub]
  | succ m ih =>
    intro x good hx
    cases good with
    | false =>
      refine ⟨nI x, ?_⟩
      simp (decide := true) only [mq_166_48, mq_166_50, mq_166_52, mq_166_55, mq_166_57, nI_ltI (show x < 2 ^ 31 by omega) (show b < 2 ^ 31 by omega), show x < b by omega, Bool.false_eq_true, Nat.reduceAdd, Nat.reduceMul, Nat.reduceSub, Nat.zero_add, sg_bi_i, sg_bi_n, sg_bz, sg_bb, sg_b_0, sg_b_1, if_true, if_false, not_true_eq_false, not_false_eq_true, true_and, and_true, false_and, and_false, and_self, Int32.reduceSub]
    | true =>
      obtain ⟨i1, cx⟩ := sg_60d hq (show a + x < 60 by omega)
      obtain ⟨y, hy⟩ := ih (x + 1) (fn_rad (σ 144) (60 * q + a) x) (by omega)
      have e64 := sg_i64 (σ 144 (60 * q + a + x)) 1 99 1 99 (by decide) (by decide)
      refine ⟨y, ?_⟩
      simp (decide := true) only [mq_166_48, mq_166_50, mq_166_52, mq_166_55, mq_166_57, nI_ltI (show x < 2 ^ 31 by omega) (show b < 2 ^ 31 by omega), show x < b by omega, Nat.reduceAdd, Nat.reduceMul, Nat.reduceSub, Nat.zero_add, sg_bi_i, sg_bi_n, sg_bz, sg_bb, sg_b_0, sg_b_1, if_true, if_false, not_true_eq_false, not_false_eq_true, true_and, and_true, false_and, and_false, and_self, Int32.reduceSub]
      simp (decide := true) only [mq_166_60, mq_166_61, mq_166_64, mq_166_66, mq_166_67, mq_166_68, mq_166_69, mq_166_70, mq_166_72, mq_166_73, mq_166_74, mq_166_75, mq_166_76, mq_166_79, mq_166_82, mq_166_84, mq_166_87, i1, cx, em_in, e64, nI_1, Nat.reduceAdd, Nat.reduceMul, Nat.reduceSub, Nat.zero_add, sg_bi_i, sg_bi_n, sg_bz, sg_bb, sg_b_0, sg_b_1, if_true, if_false, not_true_eq_false, not_false_eq_true, true_and, and_true, false_and, and_false, and_self, Int32.reduceSub]
      have er : (fn_rad (σ 144) (60 * q + a) x = true) = (1 ≤ σ 144 (60 * q + a + x) ∧ σ 144 (60 * q + a + x) ≤ 99) := by unfold fn_rad; rw [decide_eq_true_eq]
      simp only [fn_al, Bool.and_eq_true]
      simp only [er] at hy ⊢
      exact hy
theorem ev_aim_l (σ : sg_M) (q a b : Nat) (lane x5 : Int32) (hq : q < 4) (hb : a + b ≤ 60) (hb8 : b ≤ 8) : ∀ m x, x + m = b → sg_rv 72 41 (sg_set σ 18 (fun j => if j < x then σ (113 + 2 * q) (a + j) else σ 18 j)) [sg_r 1 0, sg_i (nI q), sg_i lane, sg_i (nI a), sg_i (nI b), sg_i x5, sg_i (nI x)] [] = some (some (sg_i (nI b)), sg_up (sg_set σ 18 (fun j => if j < b then σ (113 + 2 * q) (a + j) else σ 18 j)) 0 10 (nI b)) := by
  have iq : sg_in (nI q) 4 = true := sg_in_nI (by omega) (by omega)
  have cq : (nI q).toNatClampNeg = q := sg_nIc (by omega)
  intro m
  induction m with
  | zero =>
    intro x hx
    obtain rfl : x = b := by omega
    simp (decide := true) only [mq_72_41, mq_72_43, mq_72_45, mq_72_75, mq_72_76, mq_72_78, mq_72_81, mq_72_83, nI_ltI (show x < 2 ^ 31 by omega) (show x < 2 ^ 31 by omega), show ¬ x < x by omega, Nat.reduceAdd, Nat.reduceMul, Nat.reduceSub, Nat.zero_add, sg_bi_i, sg_bi_n, sg_bz, sg_bb, sg_b_0, sg_b_1, if_true, if_false, not_true_eq_false, not_false_eq_true, true_and, and_true, false_and, and_false, and_self, Int32.reduceSub]
  | succ m ih =>
    intro x hx
    have i1 : sg_in (nI (a + x)) 60 = true := sg_in_nI (by omega) (by omega)
    have cx : (nI (a + x)).toNatClampNeg = a + x := sg_nIc (by omega)
    have i2 : sg_in (nI x) 8 = true := sg_in_nI (by omega) (by omega)
    have c2 : (nI x).toNatClampNeg = x := sg_nIc (by omega)
    have er : ∀ f, sg_set σ 18 f (112 + 2 * q + 1) = σ (113 + 2 * q) := fun f => by rw [show 112 + 2 * q + 1 = 113 + 2 * q by omega, sg_set_ne (by omega)]
    simp (decide := true) only [mq_72_41, mq_72_43, mq_72_45, nI_ltI (show x < 2 ^ 31 by omega) (show b < 2 ^ 31 by omega), show x < b by omega, Nat.reduceAdd, Nat.reduceMul, Nat.reduceSub, Nat.zero_add, sg_bi_i, sg_bi_n, sg_bz, sg_bb, sg_b_0, sg_b_1, if_true, if_false, not_true_eq_false, not_false_eq_true, true_and, and_true, false_and, and_false, and_self, Int32.reduceSub]
    simp (decide := true) only [mq_72_48, mq_72_49, mq_72_52, mq_72_54, mq_72_55, mq_72_58, mq_72_59, mq_72_60, mq_72_63, mq_72_64, mq_72_66, mq_72_67, mq_72_68, mq_72_69, mq_72_72, iq, cq, nI_add, i1, cx, i2, c2, er, sg_up_set, nI_1, Nat.reduceAdd, Nat.reduceMul, Nat.reduceSub, Nat.zero_add, sg_bi_i, sg_bi_n, sg_bz, sg_bb, sg_b_0, sg_b_1, if_true, if_false, not_true_eq_false, not_false_eq_true, true_and, and_true, false_and, and_false, and_self, Int32.reduceSub]
    rw [upd_lt (σ 18) x (fun j => σ (113 + 2 * q) (a + j))]
    exact ih (x + 1) (by omega)
theorem em_aim_l (σ : sg_M) (q a b : Nat) (lane x5 x6 : Int32) (hq : q < 4) (hb : a + b ≤ 60) (hb8 : b ≤ 8) : ∀ m x, x + m = b → sg_rv 166 111 (sg_set σ 137 (fun j => if j < x then σ 144 (60 * q + a + j) else σ 137 j)) [sg_r 7 120, sg_i (nI q), sg_i lane, sg_i (nI a), sg_i (nI b), sg_i x5, sg_i x6, sg_i (nI x)] [] = some (some (sg_i (nI b)), sg_up (sg_set σ 137 (fun j => if j < b then σ 144 (60 * q + a + j) else σ 137 j)) 120 0 0) := by
  intro m
  induction m with
  | zero =>
    intro x hx
    obtain rfl : x = b := by omega
    simp (decide := true) only [mq_166_111, mq_166_113, mq_166_115, mq_166_145, mq_166_146, mq_166_148, mq_166_151, em_refused, nI_ltI (show x < 2 ^ 31 by omega) (show x < 2 ^ 31 by omega), show ¬ x < x by omega, Nat.reduceAdd, Nat.reduceMul, Nat.reduceSub, Nat.zero_add, sg_bi_i, sg_bi_n, sg_bz, sg_bb, sg_b_0, sg_b_1, if_true, if_false, not_true_eq_false, not_false_eq_true, true_and, and_true, false_and, and_false, and_self, Int32.reduceSub]
  | succ m ih =>
    intro x hx
    obtain ⟨i1, cx⟩ := sg_60d hq (show a + x < 60 by omega)
    have i2 : sg_in (nI x) 8 = true := sg_in_nI (by omega) (by omega)
    have c2 : (nI x).toNatClampNeg = x := sg_nIc (by omega)
    have er : ∀ f, sg_set σ 137 f 144 = σ 144 := fun f => sg_set_ne (by omega)
    simp (decide := true) only [mq_166_111, mq_166_113, mq_166_115, nI_ltI (show x < 2 ^ 31 by omega) (show b < 2 ^ 31 by omega), show x < b by omega, Nat.reduceAdd, Nat.reduceMul, Nat.reduceSub, Nat.zero_add, sg_bi_i, sg_bi_n, sg_bz, sg_bb, sg_b_0, sg_b_1, if_true, if_false, not_true_eq_false, not_false_eq_true, true_and, and_true, false_and, and_false, and_self, Int32.reduceSub]
    simp (decide := true) only [mq_166_118, mq_166_119, mq_166_122, mq_166_124, mq_166_125, mq_166_128, mq_166_130, mq_166_131, mq_166_132, mq_166_133, mq_166_134, mq_166_136, mq_166_137, mq_166_138, mq_166_139, mq_166_142, i1, cx, i2, c2, er, sg_up_set, nI_1, Nat.reduceAdd, Nat.reduceMul, Nat.reduceSub, Nat.zero_add, sg_bi_i, sg_bi_n, sg_bz, sg_bb, sg_b_0, sg_b_1, if_true, if_false, not_true_eq_false, not_false_eq_true, true_and, and_true, false_and, and_false, and_self, Int32.reduceSub]
    rw [upd_lt (σ 137) x (fun j => σ 144 (60 * q + a + j))]
    exact ih (x + 1) (by omega)
theorem set_lt0 (σ : sg_M) (c : Nat) (g : Nat → Int32) : sg_set σ c (fun j => if j < 0 then g j else σ c j) = σ := by
  have : (fun j => if j < 0 then g j else σ c j) = σ c := by funext j; rw [if_neg (by omega)]
  rw [this, sg_set_self]
theorem pr_aim {B : Int} {σ : sg_M} (k lane i n : Int32) (h : iv_all B σ) : sg_pair B σ 72 166 [sg_i k, sg_i lane, sg_i i, sg_i n] := by
  have e1L : n.toInt64 * (nI 1).toInt64 = n.toInt64 := by
    apply Int64.toInt_inj.mp
    rw [tk_mul (Or.inl rfl), Int32.toInt_toInt64]
    omega
  rcases tk_cases h k lane i n 1 (Or.inl rfl) with ⟨r, f, hr, he, hc⟩ | ⟨q, a, b, hq, rfl, rfl, rfl, hab, hlen, he, hm⟩
  · rw [show nI 1 = (1 : Int32) from rfl] at he
    refine ⟨sg_i r, sg_up σ 0 12 f, sg_up (sg_up σ 0 12 f) 120 0 f, ?_, ?_, iv_all_f f h⟩
    · simp (decide := true) only [me_72, mq_72_0, mq_72_1, mq_72_2, mq_72_3, mq_72_4, mq_72_6, mq_72_7, mq_72_10, mq_72_12, mq_72_14, mq_72_17, mq_72_19, he, hr, Nat.reduceAdd, Nat.reduceMul, Nat.reduceSub, Nat.zero_add, sg_bi_i, sg_bi_n, sg_bz, sg_bb, sg_b_0, sg_b_1, if_true, if_false, not_true_eq_false, not_false_eq_true, true_and, and_true, false_and, and_false, and_self, Int32.reduceSub]
    · rcases hc with ⟨hk, rfl, rfl⟩ | ⟨hk, hr0, hm⟩
      · simp (decide := true) only [me_166, mq_166_0, mq_166_1, mq_166_4, mq_166_7, mq_166_8, mq_166_9, mq_166_12, em_noSheet, em_refused, hk, Nat.reduceAdd, Nat.reduceMul, Nat.reduceSub, Nat.zero_add, sg_bi_i, sg_bi_n, sg_bz, sg_bb, sg_b_0, sg_b_1, if_true, if_false, not_true_eq_false, not_false_eq_true, true_and, and_true, false_and, and_false, and_self, Int32.reduceSub]
      · have hm := hm (sg_up σ 0 12 f) (sg_up_ne (by omega)) (sg_up_ne (by omega))
        rw [e1L] at hm
        simp (decide := true) only [me_166, mq_166_0, mq_166_1, mq_166_4, mq_166_7, mq_166_8, mq_166_9, mq_166_12, mq_166_13, mq_166_14, mq_166_15, mq_166_16, mq_166_17, mq_166_19, mq_166_20, mq_166_23, mq_166_25, mq_166_27, mq_166_30, mq_166_32, em_noSheet, hk, hm, hr0, Nat.reduceAdd, Nat.reduceMul, Nat.reduceSub, Nat.zero_add, sg_bi_i, sg_bi_n, sg_bz, sg_bb, sg_b_0, sg_b_1, if_true, if_false, not_true_eq_false, not_false_eq_true, true_and, and_true, false_and, and_false, and_self, Int32.reduceSub]
  · rw [show nI 1 = (1 : Int32) from rfl] at he
    rw [Nat.one_mul] at hab hlen
    obtain ⟨s1, s2, s3, s4⟩ := h.1 q hq
    have iq : sg_in (nI q) 4 = true := sg_in_nI (by omega) (by omega)
    have cq : (nI q).toNatClampNeg = q := sg_nIc (by omega)
    have hk : 0 ≤ nI q ∧ nI q ≤ 3 := ⟨nI_pos' (by omega), nI_le (b := 3) (by omega) (by omega)⟩
    have e18 := n18 (show b < 2 ^ 31 by omega)
    have e64 := sg_i64 (nI b) 1 8 1 8 (by decide) (by decide)
    have hrd := ev_radii (sg_up σ 0 12 0) (112 + 2 * q) a b hab
    have er : sg_up σ 0 12 0 (112 + 2 * q + 1) = σ (113 + 2 * q) := sg_113 q σ 0 12 0 (by omega)
    rw [er] at hrd
    have hsame : fn_al (fn_rad (σ 144) (60 * q + a)) b 0 = fn_al (fn_rad (σ (113 + 2 * q)) a) b 0 := by
      refine fn_al_congr b 0 (fun y _ hy => ?_)
      unfold fn_rad
      rw [show 60 * q + a + y = 60 * q + (a + y) by omega, s4 (a + y) (by omega)]
    by_cases hg : (1 ≤ b ∧ b ≤ 8) ∧ fn_al (fn_rad (σ (113 + 2 * q)) a) b 0 = true
    · have hcl := ev_aim_l (sg_up σ 0 12 0) q a b lane 0 hq hab hg.1.2 b 0 (by omega)
      rw [set_lt0, nI_0] at hcl
      generalize hσ1 : sg_up (sg_set (sg_up σ 0 12 0) 18 (fun j => if j < b then sg_up σ 0 12 0 (113 + 2 * q) (a + j) else sg_up σ 0 12 0 18 j)) 0 10 (nI b) = σ1 at hcl
      have t0 : σ1 0 = upd (upd (σ 0) 12 0) 10 (nI b) := by rw [← hσ1, sg_up_row, sg_set_ne (by omega), sg_up_row]
      have t18 : σ1 18 = fun j => if j < b then σ (113 + 2 * q) (a + j) else σ 18 j := by rw [← hσ1, sg_up_ne (by omega), sg_set_same, sg_up_ne (by omega), sg_up_ne (by omega)]
      have tx : ∀ y, y ≠ 0 → y ≠ 18 → σ1 y = σ y := fun y c d => by rw [← hσ1, sg_up_ne c, sg_set_ne d, sg_up_ne c]
      obtain ⟨y, hy⟩ := em_radii_l σ1 q a b lane 0 hq hab b 0 true (by omega)
      rw [tx 144 (by omega) (by omega), hsame, nI_0] at hy
      have hcm := em_aim_l (sg_up σ1 120 24 (nI b)) q a b lane 0 1 hq hab hg.1.2 b 0 (by omega)
      rw [set_lt0, nI_0] at hcm
      have hmb := hm σ1 (tx _ (by omega) (by omega)) (tx _ (by omega) (by omega))
      rw [e1L] at hmb
      refine ⟨sg_i (nI b), σ1, sg_up (sg_set (sg_up σ1 120 24 (nI b)) 137 (fun j => if j < b then sg_up σ1 120 24 (nI b) 144 (60 * q + a + j) else sg_up σ1 120 24 (nI b) 137 j)) 120 0 0, ?_, ?_, ?_⟩
      · simp (decide := true) only [me_72, mq_72_0, mq_72_1, mq_72_2, mq_72_3, mq_72_4, mq_72_6, mq_72_7, mq_72_10, mq_72_12, mq_72_14, mq_72_17, mq_72_19, mq_72_20, mq_72_21, mq_72_24, mq_72_25, mq_72_26, mq_72_27, mq_72_29, mq_72_32, mq_72_35, mq_72_37, mq_72_38, mq_72_39, he, iq, cq, hrd, hg, hcl, Nat.reduceAdd, Nat.reduceMul, Nat.reduceSub, Nat.zero_add, sg_bi_i, sg_bi_n, sg_bz, sg_bb, sg_b_0, sg_b_1, if_true, if_false, not_true_eq_false, not_false_eq_true, true_and, and_true, false_and, and_false, and_self, Int32.reduceSub]
      · simp (decide := true) only [hg, Nat.reduceAdd, Nat.reduceMul, Nat.reduceSub, Nat.zero_add, sg_bi_i, sg_bi_n, sg_bz, sg_bb, sg_b_0, sg_b_1, if_true, if_false, not_true_eq_false, not_false_eq_true, true_and, and_true, false_and, and_false, and_self, Int32.reduceSub] at hy
        simp (decide := true) only [me_166, mq_166_0, mq_166_1, mq_166_4, mq_166_7, mq_166_8, mq_166_9, mq_166_12, mq_166_13, mq_166_14, mq_166_15, mq_166_16, mq_166_17, mq_166_19, mq_166_20, mq_166_23, mq_166_25, mq_166_27, mq_166_30, mq_166_32, mq_166_33, mq_166_35, mq_166_36, mq_166_37, mq_166_40, mq_166_43, mq_166_45, mq_166_46, em_noSheet, hk, hmb, em_in, e64, e18, hg, hy, Nat.reduceAdd, Nat.reduceMul, Nat.reduceSub, Nat.zero_add, sg_bi_i, sg_bi_n, sg_bz, sg_bb, sg_b_0, sg_b_1, if_true, if_false, not_true_eq_false, not_false_eq_true, true_and, and_true, false_and, and_false, and_self, Int32.reduceSub]
        simp (decide := true) only [mq_166_90, mq_166_92, mq_166_95, mq_166_96, mq_166_98, mq_166_101, mq_166_102, mq_166_103, mq_166_105, mq_166_108, mq_166_109, hcm, Nat.reduceAdd, Nat.reduceMul, Nat.reduceSub, Nat.zero_add, sg_bi_i, sg_bi_n, sg_bz, sg_bb, sg_b_0, sg_b_1, if_true, if_false, not_true_eq_false, not_false_eq_true, true_and, and_true, false_and, and_false, and_self, Int32.reduceSub]
      · generalize hω : sg_up (sg_set (sg_up σ1 120 24 (nI b)) 137 (fun j => if j < b then sg_up σ1 120 24 (nI b) 144 (60 * q + a + j) else sg_up σ1 120 24 (nI b) 137 j)) 120 0 0 = ω
        have w120 : ω 120 = upd (upd (σ 120) 24 (nI b)) 0 0 := by rw [← hω, sg_up_row, sg_set_ne (by omega), sg_up_row, tx 120 (by omega) (by omega)]
        have w137 : ω 137 = fun j => if j < b then σ 144 (60 * q + a + j) else σ 137 j := by rw [← hω, sg_up_ne (by omega), sg_set_same, sg_up_ne (by omega), sg_up_ne (by omega), tx 144 (by omega) (by omega), tx 137 (by omega) (by omega)]
        have wx : ∀ y, y ≠ 120 → y ≠ 137 → ω y = σ1 y := fun y c d => by rw [← hω, sg_up_ne c, sg_set_ne d, sg_up_ne c]
        have wz : ∀ y, y ≠ 0 → y ≠ 18 → y ≠ 120 → y ≠ 137 → ω y = σ y := fun y c d e f => by rw [wx y e f, tx y c d]
        have w0 : ∀ j, j ≠ 12 → j ≠ 10 → ω 0 j = σ 0 j := fun j c d => by rw [wx 0 (by omega) (by omega), t0, upd_ne d, upd_ne c]
        have wm : ∀ j, j ≠ 24 → j ≠ 0 → ω 120 j = σ 120 j := fun j c d => by rw [w120, upd_ne d, upd_ne c]
        obtain ⟨hS, hR, hA, hF, hJ, hP⟩ := h
        refine ⟨⟨?_, ?_, ?_, ⟨?_, ?_⟩, ?_, ?_⟩, wz _ (by omega) (by omega) (by omega) (by omega), wz _ (by omega) (by omega) (by omega) (by omega)⟩
        · exact iv_S_c hS (fun y _ _ => wz y (by omega) (by omega) (by omega) (by omega)) (wz _ (by omega) (by omega) (by omega) (by omega)) (wz _ (by omega) (by omega) (by omega) (by omega)) (wz _ (by omega) (by omega) (by omega) (by omega))
        · exact iv_R_c hR (w0 9 (by omega) (by omega)) (wm 16 (by omega) (by omega)) (fun y _ _ => wz y (by omega) (by omega) (by omega) (by omega)) (wz _ (by omega) (by omega) (by omega) (by omega)) (wz _ (by omega) (by omega) (by omega) (by omega)) (wz _ (by omega) (by omega) (by omega) (by omega))
        · refine ⟨b, hg.1.2, ?_, ?_, fun x hx => ?_⟩
          · rw [wx 0 (by omega) (by omega), t0, upd_same]
          · rw [w120, upd_ne (by omega), upd_same]
          · rw [wx 18 (by omega) (by omega), t18, w137]
            show (if x < b then σ 144 (60 * q + a + x) else σ 137 x) = (if x < b then σ (113 + 2 * q) (a + x) else σ 18 x) ∧ 1 ≤ (if x < b then σ (113 + 2 * q) (a + x) else σ 18 x).toInt ∧ (if x < b then σ (113 + 2 * q) (a + x) else σ 18 x).toInt ≤ 99
            rw [if_pos hx, if_pos hx, show 60 * q + a + x = 60 * q + (a + x) by omega]
            have hrx := of_decide_eq_true (fn_al_of b 0 hg.2 x (by omega) (by omega))
            rw [Int32.le_iff_toInt_le, Int32.le_iff_toInt_le, sg_t1, sg_t99] at hrx
            exact ⟨s4 (a + x) (by omega), hrx⟩
        · rw [wx 0 (by omega) (by omega), t0, w120, upd_ne (by omega), upd_same, upd_same]
        · rw [w0 11 (by omega) (by omega), wm 36 (by omega) (by omega)]; exact hF.2
        · exact iv_J_c hJ (by rw [wz 12 (by omega) (by omega) (by omega) (by omega)]) (wm 26 (by omega) (by omega)) (fun y _ _ => wz y (by omega) (by omega) (by omega) (by omega)) (wz _ (by omega) (by omega) (by omega) (by omega)) (wz _ (by omega) (by omega) (by omega) (by omega)) (wz _ (by omega) (by omega) (by omega) (by omega))
        · exact iv_P_c hP (w0 8 (by omega) (by omega)) (wm 1 (by omega) (by omega)) (fun y _ _ => wz y (by omega) (by omega) (by omega) (by omega)) (fun y _ _ => wz y (by omega) (by omega) (by omega) (by omega)) (fun i hi => by rw [wz _ (by omega) (by omega) (by omega) (by omega)]) (by rw [wz 3 (by omega) (by omega) (by omega) (by omega)])
    · refine ⟨sg_i (-2), sg_up σ 0 12 0, sg_up (sg_up σ 0 12 0) 120 0 0, ?_, ?_, iv_all_f 0 h⟩
      · simp (decide := true) only [me_72, mq_72_0, mq_72_1, mq_72_2, mq_72_3, mq_72_4, mq_72_6, mq_72_7, mq_72_10, mq_72_12, mq_72_14, mq_72_17, mq_72_19, mq_72_20, mq_72_21, mq_72_24, mq_72_25, mq_72_26, mq_72_27, mq_72_29, mq_72_32, mq_72_35, mq_72_37, he, iq, cq, hrd, hg, Nat.reduceAdd, Nat.reduceMul, Nat.reduceSub, Nat.zero_add, sg_bi_i, sg_bi_n, sg_bz, sg_bb, sg_b_0, sg_b_1, if_true, if_false, not_true_eq_false, not_false_eq_true, true_and, and_true, false_and, and_false, and_self, Int32.reduceSub]
      · have hmb := hm (sg_up σ 0 12 0) (sg_up_ne (by omega)) (sg_up_ne (by omega))
        rw [e1L] at hmb
        have t144 : sg_up σ 0 12 0 144 = σ 144 := sg_up_ne (by omega)
        by_cases hb : 1 ≤ b ∧ b ≤ 8
        · obtain ⟨y, hy⟩ := em_radii_l (sg_up σ 0 12 0) q a b lane 0 hq hab b 0 true (by omega)
          rw [t144, hsame, nI_0] at hy
          have hg2 : ¬ fn_al (fn_rad (σ (113 + 2 * q)) a) b 0 = true := fun z => hg ⟨hb, z⟩
          simp (decide := true) only [hg2, Nat.reduceAdd, Nat.reduceMul, Nat.reduceSub, Nat.zero_add, sg_bi_i, sg_bi_n, sg_bz, sg_bb, sg_b_0, sg_b_1, if_true, if_false, not_true_eq_false, not_false_eq_true, true_and, and_true, false_and, and_false, and_self, Int32.reduceSub] at hy
          simp (decide := true) only [me_166, mq_166_0, mq_166_1, mq_166_4, mq_166_7, mq_166_8, mq_166_9, mq_166_12, mq_166_13, mq_166_14, mq_166_15, mq_166_16, mq_166_17, mq_166_19, mq_166_20, mq_166_23, mq_166_25, mq_166_27, mq_166_30, mq_166_32, mq_166_33, mq_166_35, mq_166_36, mq_166_37, mq_166_40, mq_166_43, mq_166_45, mq_166_46, em_noSheet, hk, hmb, em_in, e64, e18, hb, hy, Nat.reduceAdd, Nat.reduceMul, Nat.reduceSub, Nat.zero_add, sg_bi_i, sg_bi_n, sg_bz, sg_bb, sg_b_0, sg_b_1, if_true, if_false, not_true_eq_false, not_false_eq_true, true_and, and_true, false_and, and_false, and_self, Int32.reduceSub]
          simp (decide := true) only [mq_166_90, mq_166_92, mq_166_95, mq_166_96, mq_166_98, mq_166_101, em_refused, Nat.reduceAdd, Nat.reduceMul, Nat.reduceSub, Nat.zero_add, sg_bi_i, sg_bi_n, sg_bz, sg_bb, sg_b_0, sg_b_1, if_true, if_false, not_true_eq_false, not_false_eq_true, true_and, and_true, false_and, and_false, and_self, Int32.reduceSub]
        · obtain ⟨y, hy⟩ := em_radii_l (sg_up σ 0 12 0) q a b lane 0 hq hab b 0 false (by omega)
          rw [nI_0] at hy
          simp (decide := true) only [Bool.false_eq_true, Nat.reduceAdd, Nat.reduceMul, Nat.reduceSub, Nat.zero_add, sg_bi_i, sg_bi_n, sg_bz, sg_bb, sg_b_0, sg_b_1, if_true, if_false, not_true_eq_false, not_false_eq_true, true_and, and_true, false_and, and_false, and_self, Int32.reduceSub] at hy
          simp (decide := true) only [me_166, mq_166_0, mq_166_1, mq_166_4, mq_166_7, mq_166_8, mq_166_9, mq_166_12, mq_166_13, mq_166_14, mq_166_15, mq_166_16, mq_166_17, mq_166_19, mq_166_20, mq_166_23, mq_166_25, mq_166_27, mq_166_30, mq_166_32, mq_166_33, mq_166_35, mq_166_36, mq_166_37, mq_166_40, mq_166_43, mq_166_45, mq_166_46, em_noSheet, hk, hmb, em_in, e64, e18, hb, hy, Nat.reduceAdd, Nat.reduceMul, Nat.reduceSub, Nat.zero_add, sg_bi_i, sg_bi_n, sg_bz, sg_bb, sg_b_0, sg_b_1, if_true, if_false, not_true_eq_false, not_false_eq_true, true_and, and_true, false_and, and_false, and_self, Int32.reduceSub]
          simp (decide := true) only [mq_166_90, mq_166_92, mq_166_95, mq_166_96, mq_166_98, mq_166_101, em_refused, Nat.reduceAdd, Nat.reduceMul, Nat.reduceSub, Nat.zero_add, sg_bi_i, sg_bi_n, sg_bz, sg_bb, sg_b_0, sg_b_1, if_true, if_false, not_true_eq_false, not_false_eq_true, true_and, and_true, false_and, and_false, and_self, Int32.reduceSub]
