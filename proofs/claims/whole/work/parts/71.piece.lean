/-! PIECE -/
def fn_rg (f : Nat → Int32) (a : Nat) (x : Nat) : Bool := decide ((1 ≤ f (a + 3 * x) ∧ f (a + 3 * x) ≤ 999) ∧ (1 ≤ f (a + 3 * x + 1) ∧ f (a + 3 * x + 1) ≤ 99) ∧ f (a + 3 * x + 1) ≤ f (a + 3 * x) ∧ (0 ≤ f (a + 3 * x + 2) ∧ f (a + 3 * x + 2) ≤ 1500))
theorem nI_3 (a x : Nat) : nI a + 3 * nI x = nI (a + 3 * x) := by
  rw [show (3 : Int32) = nI 3 from rfl, pk_mul, nI_add]
theorem nI_p2 (a : Nat) : nI a + 2 = nI (a + 2) := by
  rw [show (2 : Int32) = nI 2 from rfl, nI_add]
theorem ev_rings_l (σ : sg_M) (c a b : Nat) (hb : a + 3 * b ≤ 60) : ∀ m x (y4 : sg_V), x + m = b → sg_rv 8 14 σ [sg_r 6 c, sg_i (nI a), sg_i (nI b), sg_i (nI x), y4] [] = some (some (sg_i (if fn_al (fn_rg (σ (c + 1)) a) m x = true then 1 else 0)), σ) := by
  intro m
  induction m with
  | zero =>
    intro x y4 hx
    simp (decide := true) only [mq_8_14, mq_8_15, mq_8_16, mq_8_65, mq_8_66, nI_ltI (show x < 2 ^ 31 by omega) (show b < 2 ^ 31 by omega), show ¬ x < b by omega, fn_al, Nat.reduceAdd, Nat.reduceMul, Nat.reduceSub, Nat.zero_add, sg_bi_i, sg_bi_n, sg_bz, sg_bb, sg_b_0, sg_b_1, if_true, if_false, not_true_eq_false, not_false_eq_true, true_and, and_true, false_and, and_false, and_self, Int32.reduceSub]
  | succ m ih =>
    intro x y4 hx
    have i1 : sg_in (nI (a + 3 * x)) 60 = true := sg_in_nI (by omega) (by omega)
    have c1 : (nI (a + 3 * x)).toNatClampNeg = a + 3 * x := sg_nIc (by omega)
    have i2 : sg_in (nI (a + 3 * x + 1)) 60 = true := sg_in_nI (by omega) (by omega)
    have c2 : (nI (a + 3 * x + 1)).toNatClampNeg = a + 3 * x + 1 := sg_nIc (by omega)
    have i3 : sg_in (nI (a + 3 * x + 2)) 60 = true := sg_in_nI (by omega) (by omega)
    have c3 : (nI (a + 3 * x + 2)).toNatClampNeg = a + 3 * x + 2 := sg_nIc (by omega)
    have hh := ih (x + 1) (sg_i (nI (a + 3 * x))) (by omega)
    simp (decide := true) only [mq_8_14, mq_8_15, mq_8_16, nI_ltI (show x < 2 ^ 31 by omega) (show b < 2 ^ 31 by omega), show x < b by omega, Nat.reduceAdd, Nat.reduceMul, Nat.reduceSub, Nat.zero_add, sg_bi_i, sg_bi_n, sg_bz, sg_bb, sg_b_0, sg_b_1, if_true, if_false, not_true_eq_false, not_false_eq_true, true_and, and_true, false_and, and_false, and_self, Int32.reduceSub]
    by_cases hr : fn_rg (σ (c + 1)) a x = true
    · have hr' := of_decide_eq_true hr
      simp (decide := true) only [mq_8_19, mq_8_20, mq_8_21, mq_8_22, mq_8_23, mq_8_24, mq_8_26, mq_8_27, mq_8_30, mq_8_32, mq_8_33, mq_8_34, mq_8_37, mq_8_39, mq_8_40, mq_8_41, mq_8_42, mq_8_43, mq_8_46, mq_8_48, mq_8_49, mq_8_50, mq_8_51, mq_8_54, mq_8_57, mq_8_58, mq_8_59, mq_8_62, nI_3, nI_1, nI_p2, i1, c1, i2, c2, i3, c3, ev_isRing, hr', Nat.reduceAdd, Nat.reduceMul, Nat.reduceSub, Nat.zero_add, sg_bi_i, sg_bi_n, sg_bz, sg_bb, sg_b_0, sg_b_1, if_true, if_false, not_true_eq_false, not_false_eq_true, true_and, and_true, false_and, and_false, and_self, Int32.reduceSub]
      rw [hh]
      simp only [fn_al, hr, Bool.true_and]
    · have hr' := fun z => hr (decide_eq_true z)
      simp (decide := true) only [mq_8_19, mq_8_20, mq_8_21, mq_8_22, mq_8_23, mq_8_24, mq_8_26, mq_8_27, mq_8_30, mq_8_32, mq_8_33, mq_8_34, mq_8_37, mq_8_39, mq_8_40, mq_8_41, mq_8_42, mq_8_43, mq_8_46, mq_8_48, mq_8_49, mq_8_50, mq_8_51, mq_8_54, mq_8_57, mq_8_58, mq_8_59, mq_8_62, nI_3, nI_1, nI_p2, i1, c1, i2, c2, i3, c3, ev_isRing, fn_al, hr, Nat.reduceAdd, Nat.reduceMul, Nat.reduceSub, Nat.zero_add, sg_bi_i, sg_bi_n, sg_bz, sg_bb, sg_b_0, sg_b_1, if_true, if_false, not_true_eq_false, not_false_eq_true, true_and, and_true, false_and, and_false, and_self, Int32.reduceSub]
      rw [if_pos hr']
      simp (decide := true) only [mq_8_19, mq_8_20, mq_8_21, mq_8_22, mq_8_23, mq_8_24, mq_8_26, mq_8_27, mq_8_30, mq_8_32, mq_8_33, mq_8_34, mq_8_37, mq_8_39, mq_8_40, mq_8_41, mq_8_42, mq_8_43, mq_8_46, mq_8_48, mq_8_49, mq_8_50, mq_8_51, mq_8_54, mq_8_57, mq_8_58, mq_8_59, mq_8_62, Bool.false_and, Bool.false_eq_true, Nat.reduceAdd, Nat.reduceMul, Nat.reduceSub, Nat.zero_add, sg_bi_i, sg_bi_n, sg_bz, sg_bb, sg_b_0, sg_b_1, if_true, if_false, not_true_eq_false, not_false_eq_true, true_and, and_true, false_and, and_false, and_self, Int32.reduceSub]
theorem ev_rings (σ : sg_M) (c a b : Nat) (hb : a + 3 * b ≤ 60) : sg_ev 8 σ [sg_r 6 c, sg_i (nI a), sg_i (nI b)] = some (some (sg_i (if (1 ≤ b ∧ b ≤ 8) ∧ fn_al (fn_rg (σ (c + 1)) a) b 0 = true then 1 else 0)), σ) := by
  have e := n18 (show b < 2 ^ 31 by omega)
  by_cases h : 1 ≤ b ∧ b ≤ 8
  · have hh := ev_rings_l σ c a b hb b 0 (sg_r 0 0) (by omega)
    rw [nI_0] at hh
    simp (decide := true) only [me_8, mq_8_0, mq_8_1, mq_8_2, mq_8_4, mq_8_7, mq_8_10, mq_8_11, mq_8_12, mq_8_13, ev_within, e, h, hh, Nat.reduceAdd, Nat.reduceMul, Nat.reduceSub, Nat.zero_add, sg_bi_i, sg_bi_n, sg_bz, sg_bb, sg_b_0, sg_b_1, if_true, if_false, not_true_eq_false, not_false_eq_true, true_and, and_true, false_and, and_false, and_self, Int32.reduceSub]
  · simp (decide := true) only [me_8, mq_8_0, mq_8_1, mq_8_2, mq_8_4, mq_8_7, mq_8_10, mq_8_11, mq_8_12, mq_8_13, ev_within, e, h, Nat.reduceAdd, Nat.reduceMul, Nat.reduceSub, Nat.zero_add, sg_bi_i, sg_bi_n, sg_bz, sg_bb, sg_b_0, sg_b_1, if_true, if_false, not_true_eq_false, not_false_eq_true, true_and, and_true, false_and, and_false, and_self, Int32.reduceSub]
theorem sg_60e {q a x j : Nat} (hq : q < 4) (ha : a + 3 * x + j < 60) : sg_in (nI (60 * q + a + 3 * x + j)) 240 = true ∧ (nI (60 * q + a + 3 * x + j)).toNatClampNeg = 60 * q + a + 3 * x + j := ⟨sg_in_nI (by omega) (by omega), sg_nIc (by omega)⟩
theorem em_rings_l (σ : sg_M) (q a b : Nat) (k lane i x5 : Int32) (y9 : sg_V) (hq : q < 4) (hb : a + 3 * b ≤ 60) : ∀ m x (good : Bool), x + m = b → ∃ y : Int32, sg_rv 113 60 σ [sg_r 7 120, sg_i k, sg_i lane, sg_i i, sg_i (nI b), sg_i x5, sg_i (nI (60 * q + a)), sg_i (if good = true then 1 else 0), sg_i (nI x), y9] [] = sg_rv 113 123 σ [sg_r 7 120, sg_i k, sg_i lane, sg_i i, sg_i (nI b), sg_i x5, sg_i (nI (60 * q + a)), sg_i (if good = true ∧ fn_al (fn_rg (σ 144) (60 * q + a)) m x = true then 1 else 0), sg_i y, y9] [] := by
  intro m
  induction m with
  | zero =>
    intro x good hx
    refine ⟨nI x, ?_⟩
    simp (decide := true) only [mq_113_60, mq_113_62, mq_113_64, mq_113_67, mq_113_69, nI_ltI (show x < 2 ^ 31 by omega) (show b < 2 ^ 31 by omega), show ¬ x < b by omega, fn_al, Nat.reduceAdd, Nat.reduceMul, Nat.reduceSub, Nat.zero_add, sg_bi_i, sg_bi_n, sg_bz, sg_bb, sg_b_0, sg_b_1, if_true, if_false, not_true_eq_false, not_false_eq_true, true_and, and_true, false_and, and_false, and_self, Int32.reduceSub]
  | succ m ih =>
    intro x good hx
    cases good with
    | false =>
      refine ⟨nI x, ?_⟩
      simp (decide := true) only [mq_113_60, mq_113_62, mq_113_64, mq_113_67, mq_113_69, nI_ltI (show x < 2 ^ 31 by omega) (show b < 2 ^ 31 by omega), show x < b by omega, Bool.false_eq_true, Nat.reduceAdd, Nat.reduceMul, Nat.reduceSub, Nat.zero_add, sg_bi_i, sg_bi_n, sg_bz, sg_bb, sg_b_0, sg_b_1, if_true, if_false, not_true_eq_false, not_false_eq_true, true_and, and_true, false_and, and_false, and_self, Int32.reduceSub]
    | true =>
      obtain ⟨i1, c1⟩ := sg_60e (j := 0) hq (show a + 3 * x + 0 < 60 by omega)
      obtain ⟨i2, c2⟩ := sg_60e (j := 1) hq (show a + 3 * x + 1 < 60 by omega)
      obtain ⟨i3, c3⟩ := sg_60e (j := 2) hq (show a + 3 * x + 2 < 60 by omega)
      rw [Nat.add_zero] at i1 c1
      obtain ⟨y, hy⟩ := ih (x + 1) (fn_rg (σ 144) (60 * q + a) x) (by omega)
      refine ⟨y, ?_⟩
      simp (decide := true) only [mq_113_60, mq_113_62, mq_113_64, mq_113_67, mq_113_69, nI_ltI (show x < 2 ^ 31 by omega) (show b < 2 ^ 31 by omega), show x < b by omega, Nat.reduceAdd, Nat.reduceMul, Nat.reduceSub, Nat.zero_add, sg_bi_i, sg_bi_n, sg_bz, sg_bb, sg_b_0, sg_b_1, if_true, if_false, not_true_eq_false, not_false_eq_true, true_and, and_true, false_and, and_false, and_self, Int32.reduceSub]
      simp (decide := true) only [mq_113_72, mq_113_73, mq_113_76, mq_113_78, mq_113_79, mq_113_81, mq_113_82, mq_113_83, mq_113_84, mq_113_85, mq_113_88, mq_113_90, mq_113_91, mq_113_93, mq_113_94, mq_113_95, mq_113_96, mq_113_97, mq_113_98, mq_113_99, mq_113_102, mq_113_104, mq_113_105, mq_113_107, mq_113_108, mq_113_109, mq_113_110, mq_113_111, mq_113_112, mq_113_115, mq_113_117, mq_113_120, nI_3, nI_1, nI_p2, i1, c1, i2, c2, i3, c3, em_isRing, Nat.reduceAdd, Nat.reduceMul, Nat.reduceSub, Nat.zero_add, sg_bi_i, sg_bi_n, sg_bz, sg_bb, sg_b_0, sg_b_1, if_true, if_false, not_true_eq_false, not_false_eq_true, true_and, and_true, false_and, and_false, and_self, Int32.reduceSub]
      simp only [fn_al, Bool.and_eq_true]
      simp only [fn_rg, decide_eq_true_eq] at hy ⊢
      exact hy
/-- the class gathers -/
theorem ev_gather_l (σ : sg_M) (c s a b : Nat) (hs : c + 5 ≤ s) (hb : a + 3 * b ≤ 60) (hb8 : b ≤ 8) : ∀ m x (M : sg_M) (y5 : sg_V), x + m = b → M c 6 = nI x → M c 7 = 0 → (∀ j, j ≠ 6 → j ≠ 7 → M c j = σ c j) → M (c + 1) = (fun j => if j < x then σ (s + 1) (a + 3 * j) else σ (c + 1) j) → M (c + 2) = (fun j => if j < x then σ (s + 1) (a + 3 * j + 1) else σ (c + 2) j) → M (c + 3) = (fun j => if j < x then σ (s + 1) (a + 3 * j + 2) else σ (c + 3) j) → M (c + 4) = (fun j => if j < x then 0 else σ (c + 4) j) → (∀ y, (y < c ∨ c + 5 ≤ y) → M y = σ y) →
    ∃ M' : sg_M, sg_rv 10 13 M [sg_r 2 c, sg_r 6 s, sg_i (nI a), sg_i (nI b), sg_i (nI x), y5] [] = some (none, M') ∧ M' c 6 = nI b ∧ M' c 7 = 0 ∧ (∀ j, j ≠ 6 → j ≠ 7 → M' c j = σ c j) ∧ M' (c + 1) = (fun j => if j < b then σ (s + 1) (a + 3 * j) else σ (c + 1) j) ∧ M' (c + 2) = (fun j => if j < b then σ (s + 1) (a + 3 * j + 1) else σ (c + 2) j) ∧ M' (c + 3) = (fun j => if j < b then σ (s + 1) (a + 3 * j + 2) else σ (c + 3) j) ∧ M' (c + 4) = (fun j => if j < b then 0 else σ (c + 4) j) ∧ (∀ y, (y < c ∨ c + 5 ≤ y) → M' y = σ y) := by
  intro m
  induction m with
  | zero =>
    intro x M y5 hx h6 h7 h0 h1 h2 h3 h4 hy
    obtain rfl : x = b := by omega
    refine ⟨M, ?_, h6, h7, h0, h1, h2, h3, h4, hy⟩
    simp (decide := true) only [mq_10_13, mq_10_15, mq_10_16, mq_10_62, nI_ltI (show x < 2 ^ 31 by omega) (show x < 2 ^ 31 by omega), show ¬ x < x by omega, Nat.reduceAdd, Nat.reduceMul, Nat.reduceSub, Nat.zero_add, sg_bi_i, sg_bi_n, sg_bz, sg_bb, sg_b_0, sg_b_1, if_true, if_false, not_true_eq_false, not_false_eq_true, true_and, and_true, false_and, and_false, and_self, Int32.reduceSub]
  | succ m ih =>
    intro x M y5 hx h6 h7 h0 h1 h2 h3 h4 hy
    have i1 : sg_in (nI (a + 3 * x)) 60 = true := sg_in_nI (by omega) (by omega)
    have c1 : (nI (a + 3 * x)).toNatClampNeg = a + 3 * x := sg_nIc (by omega)
    have i2 : sg_in (nI (a + 3 * x + 1)) 60 = true := sg_in_nI (by omega) (by omega)
    have c2 : (nI (a + 3 * x + 1)).toNatClampNeg = a + 3 * x + 1 := sg_nIc (by omega)
    have i3 : sg_in (nI (a + 3 * x + 2)) 60 = true := sg_in_nI (by omega) (by omega)
    have c3 : (nI (a + 3 * x + 2)).toNatClampNeg = a + 3 * x + 2 := sg_nIc (by omega)
    have es : M (s + 1) = σ (s + 1) := hy _ (by omega)
    have ad := ev_addRing M c x (σ (s + 1) (a + 3 * x)) (σ (s + 1) (a + 3 * x + 1)) (σ (s + 1) (a + 3 * x + 2)) (by omega) h6
    generalize hN : sg_up (sg_up (sg_up (sg_up (sg_up M (c + 1) x (σ (s + 1) (a + 3 * x))) (c + 2) x (σ (s + 1) (a + 3 * x + 1))) (c + 3) x (σ (s + 1) (a + 3 * x + 2))) (c + 4) x 0) c 6 (nI (x + 1)) = N at ad
    obtain ⟨M', g⟩ := ih (x + 1) N (sg_i (nI (a + 3 * x))) (by omega) (by rw [← hN, sg_up_at]) (by rw [← hN, sg_up_at_ne (by omega), sg_up_ne (by omega), sg_up_ne (by omega), sg_up_ne (by omega), sg_up_ne (by omega)]; exact h7) (fun j j6 j7 => by rw [← hN, sg_up_at_ne j6, sg_up_ne (by omega), sg_up_ne (by omega), sg_up_ne (by omega), sg_up_ne (by omega)]; exact h0 j j6 j7)
      (by rw [← hN, sg_up_ne (by omega), sg_up_ne (by omega), sg_up_ne (by omega), sg_up_ne (by omega), sg_up_row, h1, upd_lt (σ (c + 1)) x (fun j => σ (s + 1) (a + 3 * j))])
      (by rw [← hN, sg_up_ne (by omega), sg_up_ne (by omega), sg_up_ne (by omega), sg_up_row, sg_up_ne (by omega), h2, upd_lt (σ (c + 2)) x (fun j => σ (s + 1) (a + 3 * j + 1))])
      (by rw [← hN, sg_up_ne (by omega), sg_up_ne (by omega), sg_up_row, sg_up_ne (by omega), sg_up_ne (by omega), h3, upd_lt (σ (c + 3)) x (fun j => σ (s + 1) (a + 3 * j + 2))])
      (by rw [← hN, sg_up_ne (by omega), sg_up_row, sg_up_ne (by omega), sg_up_ne (by omega), sg_up_ne (by omega), h4, upd_lt (σ (c + 4)) x (fun _ => 0)])
      (fun y q => by rw [← hN, sg_up_ne (by omega), sg_up_ne (by omega), sg_up_ne (by omega), sg_up_ne (by omega), sg_up_ne (by omega)]; exact hy y q)
    refine ⟨M', ?_, g.2⟩
    simp (decide := true) only [mq_10_13, mq_10_15, mq_10_16, nI_ltI (show x < 2 ^ 31 by omega) (show b < 2 ^ 31 by omega), show x < b by omega, Nat.reduceAdd, Nat.reduceMul, Nat.reduceSub, Nat.zero_add, sg_bi_i, sg_bi_n, sg_bz, sg_bb, sg_b_0, sg_b_1, if_true, if_false, not_true_eq_false, not_false_eq_true, true_and, and_true, false_and, and_false, and_self, Int32.reduceSub]
    rw [← g.1]
    simp (decide := true) only [mq_10_19, mq_10_20, mq_10_21, mq_10_23, mq_10_24, mq_10_25, mq_10_27, mq_10_28, mq_10_29, mq_10_32, mq_10_34, mq_10_35, mq_10_36, mq_10_39, mq_10_41, mq_10_42, mq_10_43, mq_10_44, mq_10_45, mq_10_48, mq_10_50, mq_10_51, mq_10_52, mq_10_53, mq_10_56, mq_10_59, nI_3, nI_1, nI_p2, i1, c1, i2, c2, i3, c3, es, ad, Nat.reduceAdd, Nat.reduceMul, Nat.reduceSub, Nat.zero_add, sg_bi_i, sg_bi_n, sg_bz, sg_bb, sg_b_0, sg_b_1, if_true, if_false, not_true_eq_false, not_false_eq_true, true_and, and_true, false_and, and_false, and_self, Int32.reduceSub]
theorem ev_gather (σ : sg_M) (c s a b : Nat) (hs : c + 5 ≤ s) (hb : a + 3 * b ≤ 60) (hb8 : b ≤ 8) : ∃ M' : sg_M, sg_ev 10 σ [sg_r 2 c, sg_r 6 s, sg_i (nI a), sg_i (nI b)] = some (none, M') ∧ M' c 6 = nI b ∧ M' c 7 = 0 ∧ (∀ j, j ≠ 6 → j ≠ 7 → M' c j = σ c j) ∧ M' (c + 1) = (fun j => if j < b then σ (s + 1) (a + 3 * j) else σ (c + 1) j) ∧ M' (c + 2) = (fun j => if j < b then σ (s + 1) (a + 3 * j + 1) else σ (c + 2) j) ∧ M' (c + 3) = (fun j => if j < b then σ (s + 1) (a + 3 * j + 2) else σ (c + 3) j) ∧ M' (c + 4) = (fun j => if j < b then 0 else σ (c + 4) j) ∧ (∀ y, (y < c ∨ c + 5 ≤ y) → M' y = σ y) := by
  have z : ∀ (f g : Nat → Int32), g = fun j => if j < 0 then f j else g j := fun f g => by funext j; rw [if_neg (by omega)]
  obtain ⟨M', g⟩ := ev_gather_l σ c s a b hs hb hb8 b 0 (sg_up (sg_up σ c 6 0) c 7 0) (sg_r 0 0) (by omega) (by rw [sg_up_at_ne (by omega), sg_up_at]; rfl) (by rw [sg_up_at]) (fun j j6 j7 => by rw [sg_up_at_ne j7, sg_up_at_ne j6]) (by rw [sg_up_ne (by omega), sg_up_ne (by omega)]; exact z _ _) (by rw [sg_up_ne (by omega), sg_up_ne (by omega)]; exact z _ _) (by rw [sg_up_ne (by omega), sg_up_ne (by omega)]; exact z _ _) (by rw [sg_up_ne (by omega), sg_up_ne (by omega)]; exact z (fun _ => 0) _) (fun y q => by rw [sg_up_ne (by omega), sg_up_ne (by omega)])
  refine ⟨M', ?_, g.2⟩
  rw [← g.1]
  simp (decide := true) only [me_10, mq_10_0, mq_10_1, mq_10_2, mq_10_5, mq_10_6, mq_10_7, mq_10_10, mq_10_11, nI_0, Nat.reduceAdd, Nat.reduceMul, Nat.reduceSub, Nat.zero_add, sg_bi_i, sg_bi_n, sg_bz, sg_bb, sg_b_0, sg_b_1, if_true, if_false, not_true_eq_false, not_false_eq_true, true_and, and_true, false_and, and_false, and_self, Int32.reduceSub]
/-- the model gathers -/
theorem em_gather_l (σ : sg_M) (p q a b : Nat) (k lane i x5 x7 : Int32) (hp : p < 8) (hq : q < 4) (hb : a + 3 * b ≤ 60) (hb8 : b ≤ 8) (hN : σ 120 1 = nI p) : ∀ m x (M : sg_M) (y9 : sg_V), x + m = b → M 122 = fn_lay p x (fun j => σ 144 (60 * q + a + 3 * j)) (σ 122) → M 123 = fn_lay p x (fun j => σ 144 (60 * q + a + 3 * j + 1)) (σ 123) → M 124 = fn_lay p x (fun j => σ 144 (60 * q + a + 3 * j + 2)) (σ 124) → M 125 = fn_lay p x (fun _ => 0) (σ 125) → (∀ y, (y < 122 ∨ 125 < y) → M y = σ y) →
    ∃ M' : sg_M, sg_rv 113 175 M [sg_r 7 120, sg_i k, sg_i lane, sg_i i, sg_i (nI b), sg_i x5, sg_i (nI (60 * q + a)), sg_i x7, sg_i (nI x), y9] [] = some (some (sg_i (nI p)), sg_up (sg_up M' 120 1 (nI (p + 1))) 120 0 0) ∧ M' 122 = fn_lay p b (fun j => σ 144 (60 * q + a + 3 * j)) (σ 122) ∧ M' 123 = fn_lay p b (fun j => σ 144 (60 * q + a + 3 * j + 1)) (σ 123) ∧ M' 124 = fn_lay p b (fun j => σ 144 (60 * q + a + 3 * j + 2)) (σ 124) ∧ M' 125 = fn_lay p b (fun _ => 0) (σ 125) ∧ (∀ y, (y < 122 ∨ 125 < y) → M' y = σ y) := by
  intro m
  induction m with
  | zero =>
    intro x M y9 hx h2 h3 h4 h5 hy
    obtain rfl : x = b := by omega
    refine ⟨M, ?_, h2, h3, h4, h5, hy⟩
    have e1 : M 120 1 = nI p := by rw [hy 120 (by omega)]; exact hN
    simp (decide := true) only [mq_113_175, mq_113_177, mq_113_179, mq_113_269, mq_113_270, mq_113_271, mq_113_274, mq_113_275, mq_113_276, mq_113_279, mq_113_280, mq_113_281, mq_113_284, mq_113_285, mq_113_286, mq_113_289, em_refused, nI_ltI (show x < 2 ^ 31 by omega) (show x < 2 ^ 31 by omega), show ¬ x < x by omega, e1, sg_up_at, nI_1, nI_pred, Nat.reduceAdd, Nat.reduceMul, Nat.reduceSub, Nat.zero_add, sg_bi_i, sg_bi_n, sg_bz, sg_bb, sg_b_0, sg_b_1, if_true, if_false, not_true_eq_false, not_false_eq_true, true_and, and_true, false_and, and_false, and_self, Int32.reduceSub]
  | succ m ih =>
    intro x M y9 hx h2 h3 h4 h5 hy
    obtain ⟨i1, c1⟩ := sg_60e (j := 0) hq (show a + 3 * x + 0 < 60 by omega)
    obtain ⟨i2, c2⟩ := sg_60e (j := 1) hq (show a + 3 * x + 1 < 60 by omega)
    obtain ⟨i3, c3⟩ := sg_60e (j := 2) hq (show a + 3 * x + 2 < 60 by omega)
    rw [Nat.add_zero] at i1 c1
    have i4 : sg_in (nI (8 * p + x)) 64 = true := sg_in_nI (by omega) (by omega)
    have c4 : (nI (8 * p + x)).toNatClampNeg = 8 * p + x := sg_nIc (by omega)
    have e1 : M 120 1 = nI p := by rw [hy 120 (by omega)]; exact hN
    have e144 : M 144 = σ 144 := hy _ (by omega)
    have f1 : ∀ (N : sg_M) j v, sg_up N 122 j v 144 = N 144 := fun N j v => sg_up_ne (by omega)
    have f2 : ∀ (N : sg_M) j v, sg_up N 123 j v 144 = N 144 := fun N j v => sg_up_ne (by omega)
    have f3 : ∀ (N : sg_M) c j v, (c = 122 ∨ c = 123 ∨ c = 124) → sg_up N c j v 120 = N 120 := fun N c j v hc => sg_up_ne (by omega)
    have g := ih (x + 1) (sg_up (sg_up (sg_up (sg_up M 122 (8 * p + x) (σ 144 (60 * q + a + 3 * x))) 123 (8 * p + x) (σ 144 (60 * q + a + 3 * x + 1))) 124 (8 * p + x) (σ 144 (60 * q + a + 3 * x + 2))) 125 (8 * p + x) 0) (sg_i (nI (8 * p + x))) (by omega)
      (by rw [sg_up_ne (by omega), sg_up_ne (by omega), sg_up_ne (by omega), sg_up_row, h2]; exact fn_lay_s p x (fun j => σ 144 (60 * q + a + 3 * j)) (σ 122))
      (by rw [sg_up_ne (by omega), sg_up_ne (by omega), sg_up_row, sg_up_ne (by omega), h3]; exact fn_lay_s p x (fun j => σ 144 (60 * q + a + 3 * j + 1)) (σ 123))
      (by rw [sg_up_ne (by omega), sg_up_row, sg_up_ne (by omega), sg_up_ne (by omega), h4]; exact fn_lay_s p x (fun j => σ 144 (60 * q + a + 3 * j + 2)) (σ 124))
      (by rw [sg_up_row, sg_up_ne (by omega), sg_up_ne (by omega), sg_up_ne (by omega), h5]; exact fn_lay_s p x (fun _ => 0) (σ 125))
      (fun y q => by rw [sg_up_ne (by omega), sg_up_ne (by omega), sg_up_ne (by omega), sg_up_ne (by omega)]; exact hy y q)
    obtain ⟨M', g⟩ := g
    refine ⟨M', ?_, g.2⟩
    simp (decide := true) only [mq_113_175, mq_113_177, mq_113_179, nI_ltI (show x < 2 ^ 31 by omega) (show b < 2 ^ 31 by omega), show x < b by omega, Nat.reduceAdd, Nat.reduceMul, Nat.reduceSub, Nat.zero_add, sg_bi_i, sg_bi_n, sg_bz, sg_bb, sg_b_0, sg_b_1, if_true, if_false, not_true_eq_false, not_false_eq_true, true_and, and_true, false_and, and_false, and_self, Int32.reduceSub]
    rw [← g.1]
    simp (decide := true) only [mq_113_182, mq_113_184, mq_113_185, mq_113_188, mq_113_189, mq_113_191, mq_113_192, mq_113_194, mq_113_195, mq_113_198, mq_113_200, mq_113_201, mq_113_204, mq_113_206, mq_113_207, mq_113_209, mq_113_210, mq_113_211, mq_113_212, mq_113_213, mq_113_214, mq_113_217, mq_113_219, mq_113_220, mq_113_223, mq_113_225, mq_113_226, mq_113_228, mq_113_229, mq_113_230, mq_113_231, mq_113_232, mq_113_233, mq_113_234, mq_113_235, mq_113_238, mq_113_240, mq_113_241, mq_113_244, mq_113_246, mq_113_247, mq_113_249, mq_113_250, mq_113_251, mq_113_252, mq_113_253, mq_113_254, mq_113_255, mq_113_256, mq_113_259, mq_113_261, mq_113_262, mq_113_263, mq_113_266, e1, sg_8q hp (show x < 8 by omega), nI_3, nI_1, nI_p2, i1, c1, i2, c2, i3, c3, i4, c4, e144, f1, f2, Nat.reduceAdd, Nat.reduceMul, Nat.reduceSub, Nat.zero_add, sg_bi_i, sg_bi_n, sg_bz, sg_bb, sg_b_0, sg_b_1, if_true, if_false, not_true_eq_false, not_false_eq_true, true_and, and_true, false_and, and_false, and_self, Int32.reduceSub]
theorem pr_piece {B : Int} {σ : sg_M} (hB : 0 ≤ B) (k lane i n : Int32) (h : iv_all B σ) : sg_pair B σ 0 113 [sg_i k, sg_i lane, sg_i i, sg_i n] := by
  have e3L : n.toInt64 * (nI 3).toInt64 = 3 * n.toInt64 := by
    rw [Int64.mul_comm]; rfl
  rcases tk_cases h k lane i n 3 (Or.inr rfl) with ⟨r, f, hr, he, hc⟩ | ⟨q, a, b, hq, rfl, rfl, rfl, hab, hlen, he, hm⟩
  · rw [show nI 3 = (3 : Int32) from rfl] at he
    refine ⟨sg_i r, sg_up σ 0 12 f, sg_up (sg_up σ 0 12 f) 120 0 f, ?_, ?_, iv_all_f f h⟩
    · simp (decide := true) only [me_0, mq_0_0, mq_0_1, mq_0_2, mq_0_3, mq_0_4, mq_0_6, mq_0_7, mq_0_10, mq_0_12, mq_0_14, mq_0_17, mq_0_19, he, hr, Nat.reduceAdd, Nat.reduceMul, Nat.reduceSub, Nat.zero_add, sg_bi_i, sg_bi_n, sg_bz, sg_bb, sg_b_0, sg_b_1, if_true, if_false, not_true_eq_false, not_false_eq_true, true_and, and_true, false_and, and_false, and_self, Int32.reduceSub]
    · rcases hc with ⟨hk, rfl, rfl⟩ | ⟨hk, hr0, hm⟩
      · simp (decide := true) only [me_113, mq_113_0, mq_113_1, mq_113_4, mq_113_7, mq_113_8, mq_113_9, mq_113_12, em_noSheet, em_refused, hk, Nat.reduceAdd, Nat.reduceMul, Nat.reduceSub, Nat.zero_add, sg_bi_i, sg_bi_n, sg_bz, sg_bb, sg_b_0, sg_b_1, if_true, if_false, not_true_eq_false, not_false_eq_true, true_and, and_true, false_and, and_false, and_self, Int32.reduceSub]
      · have hm := hm (sg_up σ 0 12 f) (sg_up_ne (by omega)) (sg_up_ne (by omega))
        rw [e3L] at hm
        simp (decide := true) only [me_113, mq_113_0, mq_113_1, mq_113_4, mq_113_7, mq_113_8, mq_113_9, mq_113_12, mq_113_13, mq_113_14, mq_113_15, mq_113_16, mq_113_17, mq_113_20, mq_113_22, mq_113_23, mq_113_24, mq_113_27, mq_113_29, mq_113_31, mq_113_34, mq_113_36, em_noSheet, hk, hm, hr0, Nat.reduceAdd, Nat.reduceMul, Nat.reduceSub, Nat.zero_add, sg_bi_i, sg_bi_n, sg_bz, sg_bb, sg_b_0, sg_b_1, if_true, if_false, not_true_eq_false, not_false_eq_true, true_and, and_true, false_and, and_false, and_self, Int32.reduceSub]
  · rw [show nI 3 = (3 : Int32) from rfl] at he
    obtain ⟨s1, s2, s3, s4⟩ := h.1 q hq
    have iq : sg_in (nI q) 4 = true := sg_in_nI (by omega) (by omega)
    have cq : (nI q).toNatClampNeg = q := sg_nIc (by omega)
    have hk : 0 ≤ nI q ∧ nI q ≤ 3 := ⟨nI_pos' (by omega), nI_le (b := 3) (by omega) (by omega)⟩
    have e18 := n18 (show b < 2 ^ 31 by omega)
    have e64 := sg_i64 (nI b) 1 8 1 8 (by decide) (by decide)
    have e60 : (60 : Int32) * nI q + nI a = nI (60 * q + a) := by rw [show (60 : Int32) = nI 60 from rfl, pk_mul, nI_add]
    have hrd := ev_rings (sg_up σ 0 12 0) (112 + 2 * q) a b hab
    have er : sg_up σ 0 12 0 (112 + 2 * q + 1) = σ (113 + 2 * q) := sg_113 q σ 0 12 0 (by omega)
    rw [er] at hrd
    have hsame : fn_al (fn_rg (σ 144) (60 * q + a)) b 0 = fn_al (fn_rg (σ (113 + 2 * q)) a) b 0 := by
      refine fn_al_congr b 0 (fun y _ hy => ?_)
      unfold fn_rg
      rw [show 60 * q + a + 3 * y = 60 * q + (a + 3 * y) by omega, show 60 * q + (a + 3 * y) + 1 = 60 * q + (a + 3 * y + 1) by omega, show 60 * q + (a + 3 * y) + 2 = 60 * q + (a + 3 * y + 2) by omega, s4 (a + 3 * y) (by omega), s4 (a + 3 * y + 1) (by omega), s4 (a + 3 * y + 2) (by omega)]
    obtain ⟨hS, hR, hA, hF, hJ, ho, N, n8, hN1, hN2, hN3⟩ := id h
    have mb : ∀ τ : sg_M, τ 142 = σ 142 → τ 143 = σ 143 → τ 144 = σ 144 → ∀ good : Bool, (good = true ↔ (1 ≤ b ∧ b ≤ 8)) → ∃ y : Int32, sg_ev 113 τ [sg_r 7 120, sg_i (nI q), sg_i lane, sg_i (nI a), sg_i (nI b)] = sg_rv 113 123 τ [sg_r 7 120, sg_i (nI q), sg_i lane, sg_i (nI a), sg_i (nI b), sg_i 0, sg_i (nI (60 * q + a)), sg_i (if good = true ∧ fn_al (fn_rg (σ (113 + 2 * q)) a) b 0 = true then 1 else 0), sg_i y, sg_r 0 0] [] := by
      intro τ e1 e2 e3 good hgd
      obtain ⟨y, hy⟩ := em_rings_l τ q a b (nI q) lane (nI a) 0 (sg_r 0 0) hq hab b 0 good (by omega)
      rw [e3, hsame, nI_0] at hy
      have hmb := hm τ e1 e2
      rw [e3L] at hmb
      refine ⟨y, ?_⟩
      rw [← hy]
      simp (decide := true) only [hgd]
      simp (decide := true) only [me_113, mq_113_0, mq_113_1, mq_113_4, mq_113_7, mq_113_8, mq_113_9, mq_113_12, mq_113_13, mq_113_14, mq_113_15, mq_113_16, mq_113_17, mq_113_20, mq_113_22, mq_113_23, mq_113_24, mq_113_27, mq_113_29, mq_113_31, mq_113_34, mq_113_36, mq_113_37, mq_113_39, mq_113_40, mq_113_41, mq_113_42, mq_113_43, mq_113_45, mq_113_47, mq_113_48, mq_113_49, mq_113_52, mq_113_55, mq_113_57, mq_113_58, em_noSheet, hk, hmb, em_in, e64, e18, e60, Nat.reduceAdd, Nat.reduceMul, Nat.reduceSub, Nat.zero_add, sg_bi_i, sg_bi_n, sg_bz, sg_bb, sg_b_0, sg_b_1, if_true, if_false, not_true_eq_false, not_false_eq_true, true_and, and_true, false_and, and_false, and_self, Int32.reduceSub]
    by_cases hg : (1 ≤ b ∧ b ≤ 8) ∧ fn_al (fn_rg (σ (113 + 2 * q)) a) b 0 = true
    · by_cases h8 : N = 8
      · subst h8
        refine ⟨sg_i (-4), sg_up σ 0 12 0, sg_up (sg_up σ 0 12 0) 120 0 0, ?_, ?_, iv_all_f 0 h⟩
        · have ec : sg_up σ 0 12 0 0 8 = nI 8 := by rw [sg_up_at_ne (by omega)]; exact hN1
          have c8 : nI 8 < 8 ↔ False := by decide
          simp (decide := true) only [me_0, mq_0_0, mq_0_1, mq_0_2, mq_0_3, mq_0_4, mq_0_6, mq_0_7, mq_0_10, mq_0_12, mq_0_14, mq_0_17, mq_0_19, mq_0_20, mq_0_21, mq_0_24, mq_0_25, mq_0_26, mq_0_27, mq_0_29, mq_0_32, mq_0_35, mq_0_37, mq_0_38, mq_0_39, mq_0_42, mq_0_44, mq_0_47, mq_0_49, he, iq, cq, hrd, hg, ec, c8, Nat.reduceAdd, Nat.reduceMul, Nat.reduceSub, Nat.zero_add, sg_bi_i, sg_bi_n, sg_bz, sg_bb, sg_b_0, sg_b_1, if_true, if_false, not_true_eq_false, not_false_eq_true, true_and, and_true, false_and, and_false, and_self, Int32.reduceSub]
        · obtain ⟨y, hy⟩ := mb (sg_up σ 0 12 0) (sg_up_ne (by omega)) (sg_up_ne (by omega)) (sg_up_ne (by omega)) true (by simp [hg.1])
          have ec : sg_up σ 0 12 0 120 1 = nI 8 := by rw [sg_up_ne (by omega)]; exact hN2
          have c8 : nI 8 = 8 := rfl
          rw [hy]
          simp (decide := true) only [mq_113_123, mq_113_125, mq_113_128, mq_113_129, mq_113_131, mq_113_134, mq_113_135, mq_113_136, mq_113_139, mq_113_141, mq_113_144, mq_113_145, mq_113_147, mq_113_150, em_refused, hg, ec, c8, Nat.reduceAdd, Nat.reduceMul, Nat.reduceSub, Nat.zero_add, sg_bi_i, sg_bi_n, sg_bz, sg_bb, sg_b_0, sg_b_1, if_true, if_false, not_true_eq_false, not_false_eq_true, true_and, and_true, false_and, and_false, and_self, Int32.reduceSub]
      · have hN8 : N < 8 := by omega
        have iN : sg_in (nI N) 8 = true := sg_in_nI (by omega) (by omega)
        have cN : (nI N).toNatClampNeg = N := sg_nIc (by omega)
        have c8 : nI N < 8 := nI_lt (b := 8) hN8 (by omega)
        have c8' : ¬ nI N = 8 := fun z => h8 ((nI_eq (b := 8) (by omega) (by omega)).mp z)
        obtain ⟨M1, g0, g6, g7, gj, g1, g2, g3, g4, gx⟩ := ev_gather (sg_up σ 0 12 0) (19 + 6 * N) (112 + 2 * q) a b (by omega) hab hg.1.2
        have er' : sg_up σ 0 12 0 (112 + 2 * q + 1) = σ (113 + 2 * q) := er
        rw [er'] at g1 g2 g3
        have u0 : ∀ y, y ≠ 0 → sg_up σ 0 12 0 y = σ y := fun y hy => sg_up_ne hy
        have ec : sg_up σ 0 12 0 0 8 = nI N := by rw [sg_up_at_ne (by omega)]; exact hN1
        have ec' : M1 0 8 = nI N := by rw [gx 0 (by omega)]; exact ec
        generalize hσ1 : sg_up M1 0 8 (nI (N + 1)) = σ1
        have t0 : σ1 0 = upd (upd (σ 0) 12 0) 8 (nI (N + 1)) := by rw [← hσ1, sg_up_row, gx 0 (by omega), sg_up_row]
        have tx : ∀ y, y ≠ 0 → σ1 y = M1 y := fun y c => by rw [← hσ1, sg_up_ne c]
        have tz : ∀ y, y ≠ 0 → (y < 19 + 6 * N ∨ 19 + 6 * N + 5 ≤ y) → σ1 y = σ y := fun y c d => by rw [tx y c, gx y d, u0 y c]
        obtain ⟨y, hy⟩ := mb σ1 (tz _ (by omega) (by omega)) (tz _ (by omega) (by omega)) (tz _ (by omega) (by omega)) true (by simp [hg.1])
        generalize hτ : sg_up (sg_up σ1 121 N (nI b)) 126 N 0 = τ
        have τx : ∀ y, y ≠ 121 → y ≠ 126 → τ y = σ1 y := fun y c d => by rw [← hτ, sg_up_ne d, sg_up_ne c]
        obtain ⟨M2, m0, m2, m3, m4, m5, mx⟩ := em_gather_l τ N q a b (nI q) lane (nI a) 0 1 hN8 hq hab hg.1.2 (by rw [τx 120 (by omega) (by omega), tz 120 (by omega) (by omega)]; exact hN2) b 0 τ (sg_r 0 0) (by omega) (by rw [fn_lay_0]) (by rw [fn_lay_0]) (by rw [fn_lay_0]) (by rw [fn_lay_0]) (fun y _ => rfl)
        refine ⟨sg_i (nI N), σ1, sg_up (sg_up M2 120 1 (nI (N + 1))) 120 0 0, ?_, ?_, ?_⟩
        · simp (decide := true) only [me_0, mq_0_0, mq_0_1, mq_0_2, mq_0_3, mq_0_4, mq_0_6, mq_0_7, mq_0_10, mq_0_12, mq_0_14, mq_0_17, mq_0_19, mq_0_20, mq_0_21, mq_0_24, mq_0_25, mq_0_26, mq_0_27, mq_0_29, mq_0_32, mq_0_35, mq_0_37, mq_0_38, mq_0_39, mq_0_42, mq_0_44, mq_0_47, mq_0_49, mq_0_50, mq_0_51, mq_0_54, mq_0_55, mq_0_58, mq_0_59, mq_0_60, mq_0_63, mq_0_64, mq_0_65, mq_0_66, mq_0_68, mq_0_71, mq_0_72, mq_0_73, mq_0_76, mq_0_77, mq_0_78, mq_0_79, mq_0_82, he, iq, cq, hrd, hg, ec, c8, iN, cN, g0, ec', nI_1, hσ1, Nat.reduceAdd, Nat.reduceMul, Nat.reduceSub, Nat.zero_add, sg_bi_i, sg_bi_n, sg_bz, sg_bb, sg_b_0, sg_b_1, if_true, if_false, not_true_eq_false, not_false_eq_true, true_and, and_true, false_and, and_false, and_self, Int32.reduceSub]
        · have e1 : σ1 120 1 = nI N := by rw [tz 120 (by omega) (by omega)]; exact hN2
          have e2 : ∀ v, sg_up σ1 121 N v 120 = σ1 120 := fun v => sg_up_ne (by omega)
          rw [hy]
          rw [nI_0] at m0
          simp (decide := true) only [mq_113_123, mq_113_125, mq_113_128, mq_113_129, mq_113_131, mq_113_134, mq_113_135, mq_113_136, mq_113_139, mq_113_141, mq_113_144, mq_113_145, mq_113_147, mq_113_150, mq_113_151, mq_113_152, mq_113_155, mq_113_156, mq_113_159, mq_113_161, mq_113_162, mq_113_163, mq_113_166, mq_113_167, mq_113_170, mq_113_171, mq_113_172, mq_113_173, hg, e1, e2, c8', iN, cN, hτ, m0, Nat.reduceAdd, Nat.reduceMul, Nat.reduceSub, Nat.zero_add, sg_bi_i, sg_bi_n, sg_bz, sg_bb, sg_b_0, sg_b_1, if_true, if_false, not_true_eq_false, not_false_eq_true, true_and, and_true, false_and, and_false, and_self, Int32.reduceSub]
        · generalize hω : sg_up (sg_up M2 120 1 (nI (N + 1))) 120 0 0 = ω
          have w120 : ω 120 = upd (upd (σ 120) 1 (nI (N + 1))) 0 0 := by rw [← hω, sg_up_row, sg_up_row, mx 120 (by omega), τx 120 (by omega) (by omega), tz 120 (by omega) (by omega)]
          have wx : ∀ y, y ≠ 120 → ω y = M2 y := fun y c => by rw [← hω, sg_up_ne c, sg_up_ne c]
          have wy : ∀ y, y ≠ 120 → (y < 121 ∨ 126 < y) → ω y = σ1 y := fun y c d => by rw [wx y c, mx y (by omega), τx y (by omega) (by omega)]
          have wz : ∀ y, y ≠ 0 → y ≠ 120 → (y < 19 + 6 * N ∨ 19 + 6 * N + 5 ≤ y) → (y < 121 ∨ 126 < y) → ω y = σ y := fun y c d e f => by rw [wy y d f, tz y c e]
          have w0 : ∀ j, j ≠ 12 → j ≠ 8 → ω 0 j = σ 0 j := fun j c d => by rw [wy 0 (by omega) (by omega), t0, upd_ne d, upd_ne c]
          have wm : ∀ j, j ≠ 1 → j ≠ 0 → ω 120 j = σ 120 j := fun j c d => by rw [w120, upd_ne d, upd_ne c]
          have w121 : ω 121 = upd (σ 121) N (nI b) := by rw [wx 121 (by omega), mx 121 (by omega), ← hτ, sg_up_ne (by omega), sg_up_row, tz 121 (by omega) (by omega)]
          have w126 : ω 126 = upd (σ 126) N 0 := by rw [wx 126 (by omega), mx 126 (by omega), ← hτ, sg_up_row, sg_up_ne (by omega), tz 126 (by omega) (by omega)]
          have τ144 : τ 144 = σ 144 := by rw [τx 144 (by omega) (by omega), tz 144 (by omega) (by omega)]
          have τr : ∀ y, 122 ≤ y → y ≤ 125 → τ y = σ y := fun y c d => by rw [τx y (by omega) (by omega), tz y (by omega) (by omega)]
          rw [τ144, τr 122 (by omega) (by omega)] at m2
          rw [τ144, τr 123 (by omega) (by omega)] at m3
          rw [τ144, τr 124 (by omega) (by omega)] at m4
          rw [τr 125 (by omega) (by omega)] at m5
          refine ⟨⟨?_, ?_, ?_, ⟨?_, ?_⟩, ?_, ?_⟩, wz _ (by omega) (by omega) (by omega) (by omega), wz _ (by omega) (by omega) (by omega) (by omega)⟩
          · exact iv_S_c hS (fun y _ _ => wz y (by omega) (by omega) (by omega) (by omega)) (wz _ (by omega) (by omega) (by omega) (by omega)) (wz _ (by omega) (by omega) (by omega) (by omega)) (wz _ (by omega) (by omega) (by omega) (by omega))
          · exact iv_R_c hR (w0 9 (by omega) (by omega)) (wm 16 (by omega) (by omega)) (fun y _ _ => wz y (by omega) (by omega) (by omega) (by omega)) (wz _ (by omega) (by omega) (by omega) (by omega)) (wz _ (by omega) (by omega) (by omega) (by omega)) (wz _ (by omega) (by omega) (by omega) (by omega))
          · exact iv_A_c hA (w0 10 (by omega) (by omega)) (wm 24 (by omega) (by omega)) (wz _ (by omega) (by omega) (by omega) (by omega)) (wz _ (by omega) (by omega) (by omega) (by omega))
          · rw [wy 0 (by omega) (by omega), t0, w120, upd_ne (by omega), upd_same, upd_same]
          · rw [w0 11 (by omega) (by omega), wm 36 (by omega) (by omega)]; exact hF.2
          · exact iv_J_c hJ (by rw [wz 12 (by omega) (by omega) (by omega) (by omega)]) (wm 26 (by omega) (by omega)) (fun y _ _ => wz y (by omega) (by omega) (by omega) (by omega)) (wz _ (by omega) (by omega) (by omega) (by omega)) (wz _ (by omega) (by omega) (by omega) (by omega)) (wz _ (by omega) (by omega) (by omega) (by omega))
          · refine ⟨⟨fun i hi => ?_, ?_⟩, N + 1, by omega, ?_, ?_, fun p hp => ?_⟩
            · by_cases hiN : i = N
              · subst hiN
                rw [wy _ (by omega) (by omega), tx _ (by omega), gj 0 (by omega) (by omega), u0 _ (by omega)]
                exact ho.1 i hi
              · rw [wz _ (by omega) (by omega) (by omega) (by omega)]
                exact ho.1 i hi
            · rw [wz 3 (by omega) (by omega) (by omega) (by omega)]; exact ho.2
            · rw [wy 0 (by omega) (by omega), t0, upd_same]
            · rw [w120, upd_ne (by omega), upd_same]
            · by_cases hpN : p = N
              · subst hpN
                refine ⟨b, hg.1, ?_, ?_, ?_, fun x hx => ?_, fun x hx => ?_, fun x hx => ?_, ?_⟩
                · rw [wy _ (by omega) (by omega), tx _ (by omega)]; exact g6
                · rw [w121, upd_same]
                · rw [w126, upd_same, wy _ (by omega) (by omega), tx _ (by omega), g7]
                · have l1 : 8 * p ≤ 8 * p + x ∧ 8 * p + x < 8 * p + b := by omega
                  have l2 : 8 * p + x - 8 * p = x := by omega
                  rw [wx 122 (by omega), wx 123 (by omega), wx 124 (by omega), wx 125 (by omega), m2, m3, m4, m5, wy (19 + 6 * p + 1) (by omega) (by omega), wy (19 + 6 * p + 2) (by omega) (by omega), wy (19 + 6 * p + 3) (by omega) (by omega), wy (19 + 6 * p + 4) (by omega) (by omega), tx (19 + 6 * p + 1) (by omega), tx (19 + 6 * p + 2) (by omega), tx (19 + 6 * p + 3) (by omega), tx (19 + 6 * p + 4) (by omega), g1, g2, g3, g4]
                  simp only [fn_lay, if_pos l1, if_pos hx, l2, if_true]
                  refine ⟨?_, ?_, ?_, trivial⟩
                  · rw [show 60 * q + a + 3 * x = 60 * q + (a + 3 * x) by omega]; exact s4 _ (by omega)
                  · rw [show 60 * q + a + 3 * x + 1 = 60 * q + (a + 3 * x + 1) by omega]; exact s4 _ (by omega)
                  · rw [show 60 * q + a + 3 * x + 2 = 60 * q + (a + 3 * x + 2) by omega]; exact s4 _ (by omega)
                · have hrx := of_decide_eq_true (fn_al_of b 0 hg.2 x (by omega) (by omega))
                  simp only [Int32.le_iff_toInt_le, sg_t0, sg_t1, sg_t99, sg_t999, sg_t1500] at hrx
                  unfold fn_cp
                  rw [wy (19 + 6 * p + 1) (by omega) (by omega), wy (19 + 6 * p + 2) (by omega) (by omega), wy (19 + 6 * p + 3) (by omega) (by omega), tx (19 + 6 * p + 1) (by omega), tx (19 + 6 * p + 2) (by omega), tx (19 + 6 * p + 3) (by omega), g1, g2, g3]
                  simp only [if_pos hx]
                  exact ⟨hrx.1, hrx.2.1, hrx.2.2.2⟩
                · unfold fn_cp
                  rw [wy (19 + 6 * p + 4) (by omega) (by omega), tx (19 + 6 * p + 4) (by omega), g4]
                  simp only [if_pos (show x < b by omega), sg_t0]
                  exact ⟨Int.le_refl 0, hB⟩
                · unfold fn_cp
                  rw [wy (19 + 6 * p + 4) (by omega) (by omega), tx (19 + 6 * p + 4) (by omega), g4]
                  simp only [if_pos (show b - 1 < b by omega)]
              · obtain ⟨n, hpc⟩ := hN3 p (by omega)
                refine ⟨n, iv_pc_c (by omega) hpc (fun y _ _ => wz y (by omega) (by omega) (by omega) (by omega)) (by rw [w121, upd_ne hpN]) (by rw [w126, upd_ne hpN]) (fun y j y1 y2 hj => ?_)⟩
                have l1 : ¬ (8 * N ≤ 8 * p + j ∧ 8 * p + j < 8 * N + b) := by omega
                rcases (show y = 122 ∨ y = 123 ∨ y = 124 ∨ y = 125 by omega) with rfl | rfl | rfl | rfl
                · rw [wx 122 (by omega), m2]; simp only [fn_lay, if_neg l1]
                · rw [wx 123 (by omega), m3]; simp only [fn_lay, if_neg l1]
                · rw [wx 124 (by omega), m4]; simp only [fn_lay, if_neg l1]
                · rw [wx 125 (by omega), m5]; simp only [fn_lay, if_neg l1]
    · refine ⟨sg_i (-2), sg_up σ 0 12 0, sg_up (sg_up σ 0 12 0) 120 0 0, ?_, ?_, iv_all_f 0 h⟩
      · simp (decide := true) only [me_0, mq_0_0, mq_0_1, mq_0_2, mq_0_3, mq_0_4, mq_0_6, mq_0_7, mq_0_10, mq_0_12, mq_0_14, mq_0_17, mq_0_19, mq_0_20, mq_0_21, mq_0_24, mq_0_25, mq_0_26, mq_0_27, mq_0_29, mq_0_32, mq_0_35, mq_0_37, he, iq, cq, hrd, hg, Nat.reduceAdd, Nat.reduceMul, Nat.reduceSub, Nat.zero_add, sg_bi_i, sg_bi_n, sg_bz, sg_bb, sg_b_0, sg_b_1, if_true, if_false, not_true_eq_false, not_false_eq_true, true_and, and_true, false_and, and_false, and_self, Int32.reduceSub]
      · obtain ⟨y, hy⟩ := mb (sg_up σ 0 12 0) (sg_up_ne (by omega)) (sg_up_ne (by omega)) (sg_up_ne (by omega)) (decide (1 ≤ b ∧ b ≤ 8)) (by rw [decide_eq_true_eq])
        rw [hy]
        simp (decide := true) only [decide_eq_true_eq, hg, Nat.reduceAdd, Nat.reduceMul, Nat.reduceSub, Nat.zero_add, sg_bi_i, sg_bi_n, sg_bz, sg_bb, sg_b_0, sg_b_1, if_true, if_false, not_true_eq_false, not_false_eq_true, true_and, and_true, false_and, and_false, and_self, Int32.reduceSub]
        simp (decide := true) only [mq_113_123, mq_113_125, mq_113_128, mq_113_129, mq_113_131, mq_113_134, em_refused, Nat.reduceAdd, Nat.reduceMul, Nat.reduceSub, Nat.zero_add, sg_bi_i, sg_bi_n, sg_bz, sg_bb, sg_b_0, sg_b_1, if_true, if_false, not_true_eq_false, not_false_eq_true, true_and, and_true, false_and, and_false, and_self, Int32.reduceSub]
