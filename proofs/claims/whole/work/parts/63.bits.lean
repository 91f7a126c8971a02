/-! BITS -/
def fn_it {α : Type} (f : α → α) : Nat → α → α
  | 0, a => a
  | m + 1, a => fn_it f m (f a)
theorem fn_it_s {α : Type} (f : α → α) : ∀ m a, fn_it f (m + 1) a = f (fn_it f m a) := by
  intro m
  induction m with
  | zero => intro a; rfl
  | succ m ih => intro a; exact ih (f a)
theorem it_iv {α : Type} {f : α → α} {I : α → Prop} (hf : ∀ a, I a → I (f a)) : ∀ m a, I a → I (fn_it f m a) := by
  intro m
  induction m with
  | zero => intro a h; exact h
  | succ m ih => intro a h; exact ih _ (hf a h)
theorem it_rl {α β : Type} {f : α → α} {g : β → β} {I : α → β → Prop} (hf : ∀ a b, I a b → I (f a) (g b)) : ∀ m a b, I a b → I (fn_it f m a) (fn_it g m b) := by
  intro m
  induction m with
  | zero => intro a b h; exact h
  | succ m ih => intro a b h; exact ih _ _ (hf a b h)
def fn_bt (th b : Int32) : Int32 := fn_cl (fn_warm 0 b th)
def fn_hd (a b : Int32) : Bool := decide (¬ fn_soft a < 2 ∧ ¬ fn_soft b < 2 ∧ ¬ 200 < (if 0 ≤ a - b then a - b else 0 - (a - b)))
theorem ev_holdsBit (σ : sg_M) (c n : Nat) (h1 : 1 ≤ n) (h8 : n ≤ 8) (hn : σ c 6 = nI n) : sg_ev 67 σ [sg_r 2 c, sg_r 2 3] = some (some (sg_i (if fn_hd (σ (c + 3) (n - 1)) (σ 6 0) = true then 1 else 0)), σ) := by
  obtain ⟨k, rfl⟩ : ∃ k, n = k + 1 := ⟨n - 1, by omega⟩
  have i1 : sg_in (nI k) 8 = true := sg_in_nI (by omega) (by omega)
  have i0 : sg_in (0 : Int32) 8 = true := by decide
  have c1 : (nI (k + 1) < 1) = False := eq_false (by rw [show (1 : Int32) = nI 1 from rfl, nI_ltI (by omega) (by omega)]; omega)
  unfold fn_hd
  rw [Nat.add_sub_cancel]
  by_cases a1 : fn_soft (σ (c + 3) k) < 2
  · simp (decide := true) only [me_67, mq_67_0, mq_67_1, mq_67_4, mq_67_5, mq_67_8, mq_67_9, mq_67_10, mq_67_11, mq_67_14, mq_67_15, mq_67_18, mq_67_19, mq_67_20, mq_67_21, mq_67_22, mq_67_23, mq_67_26, mq_67_27, mq_67_28, mq_67_29, mq_67_30, mq_67_33, mq_67_34, mq_67_37, mq_67_38, mq_67_41, mq_67_42, mq_67_45, mq_67_46, mq_67_47, mq_67_48, mq_67_51, mq_67_54, mq_67_57, mq_67_58, mq_67_61, mq_67_62, hn, c1, nI_pred, i1, i0, sg_nIc (show k < 2 ^ 31 by omega), show (0 : Int32).toNatClampNeg = 0 from rfl, ev_softAt, a1, decide_false, Bool.false_eq_true, Nat.reduceAdd, Nat.reduceMul, Nat.reduceSub, Nat.zero_add, sg_bi_i, sg_bi_n, sg_bz, sg_bb, sg_b_0, sg_b_1, if_true, if_false, not_true_eq_false, not_false_eq_true, true_and, and_true, false_and, and_false, and_self, Int32.reduceSub]
  · by_cases a2 : fn_soft (σ 6 0) < 2
    · simp (decide := true) only [me_67, mq_67_0, mq_67_1, mq_67_4, mq_67_5, mq_67_8, mq_67_9, mq_67_10, mq_67_11, mq_67_14, mq_67_15, mq_67_18, mq_67_19, mq_67_20, mq_67_21, mq_67_22, mq_67_23, mq_67_26, mq_67_27, mq_67_28, mq_67_29, mq_67_30, mq_67_33, mq_67_34, mq_67_37, mq_67_38, mq_67_41, mq_67_42, mq_67_45, mq_67_46, mq_67_47, mq_67_48, mq_67_51, mq_67_54, mq_67_57, mq_67_58, mq_67_61, mq_67_62, hn, c1, nI_pred, i1, i0, sg_nIc (show k < 2 ^ 31 by omega), show (0 : Int32).toNatClampNeg = 0 from rfl, ev_softAt, a1, a2, decide_false, Bool.false_eq_true, Nat.reduceAdd, Nat.reduceMul, Nat.reduceSub, Nat.zero_add, sg_bi_i, sg_bi_n, sg_bz, sg_bb, sg_b_0, sg_b_1, if_true, if_false, not_true_eq_false, not_false_eq_true, true_and, and_true, false_and, and_false, and_self, Int32.reduceSub]
    · by_cases a3 : 200 < (if 0 ≤ σ (c + 3) k - σ 6 0 then σ (c + 3) k - σ 6 0 else 0 - (σ (c + 3) k - σ 6 0))
      · simp (decide := true) only [me_67, mq_67_0, mq_67_1, mq_67_4, mq_67_5, mq_67_8, mq_67_9, mq_67_10, mq_67_11, mq_67_14, mq_67_15, mq_67_18, mq_67_19, mq_67_20, mq_67_21, mq_67_22, mq_67_23, mq_67_26, mq_67_27, mq_67_28, mq_67_29, mq_67_30, mq_67_33, mq_67_34, mq_67_37, mq_67_38, mq_67_41, mq_67_42, mq_67_45, mq_67_46, mq_67_47, mq_67_48, mq_67_51, mq_67_54, mq_67_57, mq_67_58, mq_67_61, mq_67_62, hn, c1, nI_pred, i1, i0, sg_nIc (show k < 2 ^ 31 by omega), show (0 : Int32).toNatClampNeg = 0 from rfl, ev_softAt, a1, a2, a3, decide_false, Bool.false_eq_true, Nat.reduceAdd, Nat.reduceMul, Nat.reduceSub, Nat.zero_add, sg_bi_i, sg_bi_n, sg_bz, sg_bb, sg_b_0, sg_b_1, if_true, if_false, not_true_eq_false, not_false_eq_true, true_and, and_true, false_and, and_false, and_self, Int32.reduceSub]
      · simp (decide := true) only [me_67, mq_67_0, mq_67_1, mq_67_4, mq_67_5, mq_67_8, mq_67_9, mq_67_10, mq_67_11, mq_67_14, mq_67_15, mq_67_18, mq_67_19, mq_67_20, mq_67_21, mq_67_22, mq_67_23, mq_67_26, mq_67_27, mq_67_28, mq_67_29, mq_67_30, mq_67_33, mq_67_34, mq_67_37, mq_67_38, mq_67_41, mq_67_42, mq_67_45, mq_67_46, mq_67_47, mq_67_48, mq_67_51, mq_67_54, mq_67_57, mq_67_58, mq_67_61, mq_67_62, hn, c1, nI_pred, i1, i0, sg_nIc (show k < 2 ^ 31 by omega), show (0 : Int32).toNatClampNeg = 0 from rfl, ev_softAt, a1, a2, a3, decide_true, Nat.reduceAdd, Nat.reduceMul, Nat.reduceSub, Nat.zero_add, sg_bi_i, sg_bi_n, sg_bz, sg_bb, sg_b_0, sg_b_1, if_true, if_false, not_true_eq_false, not_false_eq_true, true_and, and_true, false_and, and_false, and_self, Int32.reduceSub]
theorem sg_soft2 (h : Int32) : (1 < fn_soft h) = ¬ (fn_soft h < 2) := by
  rw [Int32.lt_iff_toInt_lt, Int32.lt_iff_toInt_lt, sg_t1, sg_t2, eq_iff_iff]
  omega
theorem em_doesHold (σ : sg_M) (n : Nat) (h1 : 1 ≤ n) (h8 : n ≤ 8) (hn : σ 120 8 = nI n) : sg_ev 160 σ [sg_r 7 120] = some (some (sg_i (if fn_hd (σ 129 (n - 1)) (σ 120 23) = true then 1 else 0)), σ) := by
  obtain ⟨k, rfl⟩ : ∃ k, n = k + 1 := ⟨n - 1, by omega⟩
  have i1 : sg_in (nI k) 8 = true := sg_in_nI (by omega) (by omega)
  unfold fn_hd
  rw [Nat.add_sub_cancel]
  by_cases a1 : fn_soft (σ 129 k) < 2
  · simp (decide := true) only [me_160, mq_160_0, mq_160_1, mq_160_4, mq_160_5, mq_160_8, mq_160_9, mq_160_10, mq_160_11, mq_160_12, mq_160_13, mq_160_16, mq_160_17, mq_160_20, mq_160_21, mq_160_24, mq_160_27, mq_160_28, mq_160_31, mq_160_32, mq_160_33, mq_160_36, mq_160_37, mq_160_40, mq_160_43, mq_160_46, mq_160_47, mq_160_50, mq_160_51, hn, nI_pred, i1, sg_nIc (show k < 2 ^ 31 by omega), em_soft, sg_soft2, a1, decide_false, Bool.false_eq_true, Nat.reduceAdd, Nat.reduceMul, Nat.reduceSub, Nat.zero_add, sg_bi_i, sg_bi_n, sg_bz, sg_bb, sg_b_0, sg_b_1, if_true, if_false, not_true_eq_false, not_false_eq_true, true_and, and_true, false_and, and_false, and_self, Int32.reduceSub]
  · by_cases a2 : fn_soft (σ 120 23) < 2
    · simp (decide := true) only [me_160, mq_160_0, mq_160_1, mq_160_4, mq_160_5, mq_160_8, mq_160_9, mq_160_10, mq_160_11, mq_160_12, mq_160_13, mq_160_16, mq_160_17, mq_160_20, mq_160_21, mq_160_24, mq_160_27, mq_160_28, mq_160_31, mq_160_32, mq_160_33, mq_160_36, mq_160_37, mq_160_40, mq_160_43, mq_160_46, mq_160_47, mq_160_50, mq_160_51, hn, nI_pred, i1, sg_nIc (show k < 2 ^ 31 by omega), em_soft, sg_soft2, a1, a2, decide_false, Bool.false_eq_true, Nat.reduceAdd, Nat.reduceMul, Nat.reduceSub, Nat.zero_add, sg_bi_i, sg_bi_n, sg_bz, sg_bb, sg_b_0, sg_b_1, if_true, if_false, not_true_eq_false, not_false_eq_true, true_and, and_true, false_and, and_false, and_self, Int32.reduceSub]
    · by_cases a3 : 200 < (if 0 ≤ σ 129 k - σ 120 23 then σ 129 k - σ 120 23 else 0 - (σ 129 k - σ 120 23))
      · simp (decide := true) only [me_160, mq_160_0, mq_160_1, mq_160_4, mq_160_5, mq_160_8, mq_160_9, mq_160_10, mq_160_11, mq_160_12, mq_160_13, mq_160_16, mq_160_17, mq_160_20, mq_160_21, mq_160_24, mq_160_27, mq_160_28, mq_160_31, mq_160_32, mq_160_33, mq_160_36, mq_160_37, mq_160_40, mq_160_43, mq_160_46, mq_160_47, mq_160_50, mq_160_51, hn, nI_pred, i1, sg_nIc (show k < 2 ^ 31 by omega), em_soft, em_sizeOf, sg_soft2, a1, a2, a3, decide_false, Bool.false_eq_true, Nat.reduceAdd, Nat.reduceMul, Nat.reduceSub, Nat.zero_add, sg_bi_i, sg_bi_n, sg_bz, sg_bb, sg_b_0, sg_b_1, if_true, if_false, not_true_eq_false, not_false_eq_true, true_and, and_true, false_and, and_false, and_self, Int32.reduceSub]
      · simp (decide := true) only [me_160, mq_160_0, mq_160_1, mq_160_4, mq_160_5, mq_160_8, mq_160_9, mq_160_10, mq_160_11, mq_160_12, mq_160_13, mq_160_16, mq_160_17, mq_160_20, mq_160_21, mq_160_24, mq_160_27, mq_160_28, mq_160_31, mq_160_32, mq_160_33, mq_160_36, mq_160_37, mq_160_40, mq_160_43, mq_160_46, mq_160_47, mq_160_50, mq_160_51, hn, nI_pred, i1, sg_nIc (show k < 2 ^ 31 by omega), em_soft, em_sizeOf, sg_soft2, a1, a2, a3, decide_true, Nat.reduceAdd, Nat.reduceMul, Nat.reduceSub, Nat.zero_add, sg_bi_i, sg_bi_n, sg_bz, sg_bb, sg_b_0, sg_b_1, if_true, if_false, not_true_eq_false, not_false_eq_true, true_and, and_true, false_and, and_false, and_self, Int32.reduceSub]
/-- a ring is added -/
theorem ev_addRing (σ : sg_M) (c n : Nat) (g r h : Int32) (hn8 : n < 8) (hn : σ c 6 = nI n) : sg_ev 11 σ [sg_r 2 c, sg_i g, sg_i r, sg_i h] = some (none, sg_up (sg_up (sg_up (sg_up (sg_up σ (c + 1) n g) (c + 2) n r) (c + 3) n h) (c + 4) n 0) c 6 (nI (n + 1))) := by
  have i1 : sg_in (nI n) 8 = true := sg_in_nI (by omega) (by omega)
  have c8 : (nI n < 8) = True := eq_true (by rw [show (8 : Int32) = nI 8 from rfl, nI_ltI (by omega) (by omega)]; omega)
  have e : ∀ (M : sg_M) (y j : Nat) (v : Int32), c < y → sg_up M y j v c = M c := fun M y j v hy => sg_up_ne (by omega)
  simp (decide := true) only [me_11, mq_11_0, mq_11_1, mq_11_4, mq_11_6, mq_11_9, mq_11_10, mq_11_11, mq_11_14, mq_11_15, mq_11_18, mq_11_19, mq_11_20, mq_11_21, mq_11_24, mq_11_25, mq_11_28, mq_11_29, mq_11_30, mq_11_31, mq_11_34, mq_11_35, mq_11_38, mq_11_39, mq_11_40, mq_11_41, mq_11_44, mq_11_45, mq_11_48, mq_11_49, mq_11_50, mq_11_51, mq_11_52, mq_11_55, mq_11_56, mq_11_57, mq_11_60, hn, c8, i1, sg_nIc (show n < 2 ^ 31 by omega), e _ _ _ _ (show c < c + 1 by omega), e _ _ _ _ (show c < c + 2 by omega), e _ _ _ _ (show c < c + 3 by omega), e _ _ _ _ (show c < c + 4 by omega), nI_1, Nat.reduceAdd, Nat.reduceMul, Nat.reduceSub, Nat.zero_add, sg_bi_i, sg_bi_n, sg_bz, sg_bb, sg_b_0, sg_b_1, if_true, if_false, not_true_eq_false, not_false_eq_true, true_and, and_true, false_and, and_false, and_self, Int32.reduceSub]
/-- the bit's frame -/
def sg_bf (σ : sg_M) (g : Int32) : sg_M := sg_up (sg_up σ 3 6 1) 4 0 g
def fn_bP (σ : sg_M) (r h : Int32) : fn_PS := (0, upd (σ 5) 0 r, upd (σ 6) 0 h, upd (σ 7) 0 0)
theorem ev_becomeBit (σ : sg_M) (g r h : Int32) : sg_ev 65 σ [sg_r 2 3, sg_i g, sg_i r, sg_i h] = some (none, sg_pP (sg_bf σ g) 3 (fn_bP σ r h) (σ 8)) := by
  have a := ev_addRing (sg_up (sg_up σ 3 6 0) 3 7 0) 3 0 g r h (by omega) (by rw [sg_up_at_ne (by omega), sg_up_at]; rfl)
  simp only [Nat.reduceAdd] at a
  simp (decide := true) only [me_65, mq_65_0, mq_65_1, mq_65_2, mq_65_5, mq_65_6, mq_65_7, mq_65_10, mq_65_11, mq_65_12, mq_65_13, mq_65_14, mq_65_17, a, Nat.reduceAdd, Nat.reduceMul, Nat.reduceSub, Nat.zero_add, sg_bi_i, sg_bi_n, sg_bz, sg_bb, sg_b_0, sg_b_1, if_true, if_false, not_true_eq_false, not_false_eq_true, true_and, and_true, false_and, and_false, and_self, Int32.reduceSub]
  congr 2
  unfold sg_pP fn_bP
  refine pm_ext ?_ ?_ ?_ ?_ ?_ (fun x hx => ?_)
  · rw [sg_up_row, sg_up_ne (by omega), sg_up_ne (by omega), sg_up_ne (by omega), sg_up_ne (by omega), sg_up_row, sg_up_row]
    unfold sg_bf
    rw [sg_up_ne (by omega), sg_up_row]
    funext j
    by_cases h6 : j = 6
    · subst h6; rw [upd_same, upd_ne (by omega), upd_same]; rfl
    · by_cases h7 : j = 7
      · subst h7; rw [upd_ne (by omega), upd_same, upd_same]
      · rw [upd_ne h6, upd_ne h7, upd_ne h6, upd_ne h7, upd_ne h6]
  · rw [sg_up_ne (by omega), sg_up_ne (by omega), sg_up_ne (by omega), sg_up_row, sg_up_ne (by omega), sg_up_ne (by omega), sg_up_ne (by omega)]
  · rw [sg_up_ne (by omega), sg_up_ne (by omega), sg_up_row, sg_up_ne (by omega), sg_up_ne (by omega), sg_up_ne (by omega), sg_up_ne (by omega)]
  · rw [sg_up_ne (by omega), sg_up_row, sg_up_ne (by omega), sg_up_ne (by omega), sg_up_ne (by omega), sg_up_ne (by omega), sg_up_ne (by omega)]
  · rw [sg_up_ne (by omega), sg_up_ne (by omega), sg_up_ne (by omega), sg_up_ne (by omega), sg_up_ne (by omega), sg_up_ne (by omega), sg_up_ne (by omega)]
  · unfold sg_bf
    by_cases hx4 : x = 4
    · subst hx4
      rw [sg_up_ne (by omega), sg_up_ne (by omega), sg_up_ne (by omega), sg_up_ne (by omega), sg_up_row, sg_up_row, sg_up_ne (by omega), sg_up_ne (by omega), sg_up_ne (by omega)]
    · rw [sg_up_ne (by omega), sg_up_ne (by omega), sg_up_ne (by omega), sg_up_ne (by omega), sg_up_ne (by omega), sg_up_ne (by omega), sg_up_ne (by omega), sg_up_ne (by omega), sg_up_ne (by omega)]
theorem bf_3 (σ : sg_M) (g : Int32) {j : Nat} (hj : j ≠ 6) : sg_bf σ g 3 j = σ 3 j := by
  unfold sg_bf; rw [sg_up_ne (by omega), sg_up_at_ne hj]
theorem bf_36 (σ : sg_M) (g : Int32) : sg_bf σ g 3 6 = 1 := by
  unfold sg_bf; rw [sg_up_ne (by omega), sg_up_at]
theorem bf_40 (σ : sg_M) (g : Int32) : sg_bf σ g 4 0 = g := by
  unfold sg_bf; rw [sg_up_at]
theorem bf_x (σ : sg_M) (g : Int32) {x : Nat} (h3 : x ≠ 3) (h4 : x ≠ 4) : sg_bf σ g x = σ x := by
  unfold sg_bf; rw [sg_up_ne h4, sg_up_ne h3]
/-- piece and bit -/
def sg_2 (M : sg_M) (c : Nat) (P : fn_PS) (w : Nat → Int32) (R : fn_PS) (v : Nat → Int32) : sg_M := sg_pP (sg_pP M c P w) 3 R v
theorem pP_ext {τ σ : sg_M} {c : Nat} {P : fn_PS} {w : Nat → Int32} (hc : τ c = upd (σ c) 7 P.1) (h2 : τ (c + 2) = P.2.1) (h3 : τ (c + 3) = P.2.2.1) (h4 : τ (c + 4) = P.2.2.2) (h5 : τ (c + 5) = w) (hx : ∀ x, (x < c ∨ x = c + 1 ∨ c + 6 ≤ x) → τ x = σ x) : τ = sg_pP σ c P w := pm_ext hc h2 h3 h4 h5 hx
theorem pP_row0 (σ : sg_M) (c : Nat) (P : fn_PS) (w : Nat → Int32) : sg_pP σ c P w c = upd (σ c) 7 P.1 := by unfold sg_pP; rw [pm_c]
theorem pP_comm (M : sg_M) (c : Nat) (P : fn_PS) (w : Nat → Int32) (R : fn_PS) (v : Nat → Int32) (hc : 9 ≤ c) : sg_pP (sg_pP M c P w) 3 R v = sg_pP (sg_pP M 3 R v) c P w := by
  refine pP_ext ?_ ?_ ?_ ?_ ?_ (fun x hx => ?_)
  · rw [pP_x _ 3 _ _ (by omega), pP_row0, pP_x _ 3 _ _ (by omega)]
  · rw [pP_x _ 3 _ _ (by omega), pP_2]
  · rw [pP_x _ 3 _ _ (by omega), pP_3]
  · rw [pP_x _ 3 _ _ (by omega), pP_4]
  · rw [pP_x _ 3 _ _ (by omega), pP_5]
  · have lc : ∀ y, y < 9 → sg_pP M c P w y = M y := fun y hy => pP_x _ _ _ _ (by omega)
    by_cases h3 : x = 3
    · subst h3; rw [pP_row0, pP_row0, lc 3 (by omega)]
    · by_cases h5 : x = 5
      · subst h5; exact (pP_2 _ 3 _ _).trans (pP_2 _ 3 _ _).symm
      · by_cases h6 : x = 6
        · subst h6; exact (pP_3 _ 3 _ _).trans (pP_3 _ 3 _ _).symm
        · by_cases h7 : x = 7
          · subst h7; exact (pP_4 _ 3 _ _).trans (pP_4 _ 3 _ _).symm
          · by_cases h8 : x = 8
            · subst h8; exact (pP_5 _ 3 _ _).trans (pP_5 _ 3 _ _).symm
            · rw [pP_x _ 3 _ _ (by omega), pP_x M 3 _ _ (by omega), pP_x _ _ _ _ hx]
theorem pP_pP (M : sg_M) (c : Nat) (P P2 : fn_PS) (w w2 : Nat → Int32) : sg_pP (sg_pP M c P w) c P2 w2 = sg_pP M c P2 w2 := by
  unfold sg_pP; rw [pm_pm]
/-- what a bit is: one ring, of this glass and radius -/
def iv_bt (R : fn_PS) (r : Int32) : Prop := R.2.1 0 = r
theorem bit_step {M : sg_M} {R : fn_PS} {g r : Int32} (h4 : M 4 0 = g) (hr : R.2.1 0 = r) : (fn_step 0 1 (M 4) 1 R).2.1 0 = r ∧ (fn_step 0 1 (M 4) 1 R).2.2.1 0 = fn_bt (g / r) (R.2.2.1 0) := by
  refine ⟨hr, ?_⟩
  show fn_H 0 (fn_mo 1) 1 (M 4) R.2.1 R.2.2.1 0 = _
  unfold fn_H
  show (if 0 < 1 then fn_nh 0 (fn_mo 1) 1 (M 4) R.2.1 R.2.2.1 0 else R.2.2.1 0) = _
  rw [if_pos (by omega)]
  unfold fn_nh fn_bt fn_side fn_next
  rw [if_neg (by omega), if_neg (by omega), if_pos rfl, h4, hr]
  rfl
theorem ev_2step (M : sg_M) (c n : Nat) (g r : Int32) (P R : fn_PS) (w v : Nat → Int32) (hc : 9 ≤ c) (h1 : 1 ≤ n) (h8 : n ≤ 8) (hn : M c 6 = nI n) (hon : M c 0 = 1) (hi : iv_ps (M (c + 1)) n P) (b6 : M 3 6 = 1) (b0 : M 3 0 = 0) (b4 : M 4 0 = g) (hb : iv_ps (M 4) 1 R) (hr : R.2.1 0 = r) : ∃ w' v' R', sg_ev 29 (sg_2 M c P w R v) [sg_r 2 c, sg_i 1] = some (none, sg_2 M c (fn_step 1 n (M (c + 1)) 1 P) w' R v) ∧ sg_ev 29 (sg_2 M c (fn_step 1 n (M (c + 1)) 1 P) w' R v) [sg_r 2 3, sg_i 1] = some (none, sg_2 M c (fn_step 1 n (M (c + 1)) 1 P) w' R' v') ∧ iv_ps (M 4) 1 R' ∧ R'.2.1 0 = r ∧ R'.2.2.1 0 = fn_bt (g / r) (R.2.2.1 0) := by
  have lx : ∀ y, 9 ≤ y → sg_pP M 3 R v y = M y := fun y hy => pP_x _ _ _ _ (by omega)
  obtain ⟨w', s1⟩ := ev_step (sg_pP M 3 R v) c n 1 P w h1 h8 (by rw [lx _ hc]; exact hn) (by rw [lx _ (by omega)]; exact hi)
  rw [lx _ hc, lx _ (by omega), hon] at s1
  have ly : ∀ y, y < 9 → sg_pP M c (fn_step 1 n (M (c + 1)) 1 P) w' y = M y := fun y hy => pP_x _ _ _ _ (by omega)
  obtain ⟨v', s2⟩ := ev_step (sg_pP M c (fn_step 1 n (M (c + 1)) 1 P) w') 3 1 1 R v (by omega) (by omega) (by rw [ly _ (by omega)]; exact b6) (by rw [ly _ (by omega)]; exact hb)
  rw [ly _ (by omega), ly _ (by omega), b0] at s2
  obtain ⟨q1, q2⟩ := bit_step (M := M) b4 hr
  refine ⟨w', v', fn_step 0 1 (M 4) 1 R, ?_, s2, step_iv (by omega) hb, q1, q2⟩
  unfold sg_2
  rw [pP_comm _ _ _ _ _ _ hc, pP_comm _ _ _ _ _ _ hc]
  exact s1
theorem ev_2l (M : sg_M) (c n N : Nat) (g r : Int32) (hc : 9 ≤ c) (h1 : 1 ≤ n) (h8 : n ≤ 8) (hn : M c 6 = nI n) (hon : M c 0 = 1) (b6 : M 3 6 = 1) (b0 : M 3 0 = 0) (b4 : M 4 0 = g) (hN : N < 2 ^ 31) : ∀ m t (P R : fn_PS) (w v : Nat → Int32), t + m = N → iv_ps (M (c + 1)) n P → iv_ps (M 4) 1 R → R.2.1 0 = r → ∃ w' v' R', sg_rv 66 2 (sg_2 M c P w R v) [sg_r 1 0, sg_r 2 c, sg_i (nI N), sg_i (nI t)] [] = some (none, sg_2 M c (fn_it (fn_step 1 n (M (c + 1)) 1) m P) w' R' v') ∧ iv_ps (M 4) 1 R' ∧ R'.2.1 0 = r ∧ R'.2.2.1 0 = fn_it (fn_bt (g / r)) m (R.2.2.1 0) := by
  intro m
  induction m with
  | zero =>
    intro t P R w v ht hi hb hr
    refine ⟨w, v, R, ?_, hb, hr, rfl⟩
    simp only [mq_66_2, mq_66_3, mq_66_4, nI_ltI (show t < 2 ^ 31 by omega) hN, show ¬ t < N by omega, if_false, mq_66_26]
    rfl
  | succ m ih =>
    intro t P R w v ht hi hb hr
    obtain ⟨w1, v1, R1, s1, s2, q1, q2, q3⟩ := ev_2step M c n g r P R w v hc h1 h8 hn hon hi b6 b0 b4 hb hr
    obtain ⟨w2, v2, R2, s3, q4, q5, q6⟩ := ih (t + 1) _ R1 w1 v1 (by omega) (step_iv h1 hi) q1 q2
    refine ⟨w2, v2, R2, ?_, q4, q5, by rw [q6, q3]; rfl⟩
    simp (decide := true) only [mq_66_2, mq_66_3, mq_66_4, nI_ltI (show t < 2 ^ 31 by omega) hN, show t < N by omega, if_true]
    simp (decide := true) only [mq_66_7, mq_66_8, mq_66_9, mq_66_12, mq_66_13, mq_66_16, mq_66_17, mq_66_20, mq_66_23, s1, s2, nI_1, Nat.reduceAdd, Nat.reduceMul, Nat.reduceSub, Nat.zero_add, sg_bi_i, sg_bi_n, sg_bz, sg_bb, sg_b_0, sg_b_1, if_true, if_false, not_true_eq_false, not_false_eq_true, true_and, and_true, false_and, and_false, and_self, Int32.reduceSub]
    exact s3
theorem ev_turnBoth (M : sg_M) (c n N : Nat) (g r : Int32) (P R : fn_PS) (w v : Nat → Int32) (hc : 9 ≤ c) (h1 : 1 ≤ n) (h8 : n ≤ 8) (hn : M c 6 = nI n) (hon : M c 0 = 1) (b6 : M 3 6 = 1) (b0 : M 3 0 = 0) (b4 : M 4 0 = g) (hN : N < 2 ^ 31) (hi : iv_ps (M (c + 1)) n P) (hb : iv_ps (M 4) 1 R) (hr : R.2.1 0 = r) : ∃ w' v' R', sg_ev 66 (sg_2 M c P w R v) [sg_r 1 0, sg_r 2 c, sg_i (nI N)] = some (none, sg_2 M c (fn_it (fn_step 1 n (M (c + 1)) 1) N P) w' R' v') ∧ iv_ps (M 4) 1 R' ∧ R'.2.1 0 = r ∧ R'.2.2.1 0 = fn_it (fn_bt (g / r)) N (R.2.2.1 0) := by
  obtain ⟨w', v', R', s, q⟩ := ev_2l M c n N g r hc h1 h8 hn hon b6 b0 b4 hN N 0 P R w v (by omega) hi hb hr
  refine ⟨w', v', R', ?_, q⟩
  rw [← s]
  simp only [me_66, me_66, mq_66_0, mq_66_1]
  rfl
/-! the model's bit -/
theorem mP_up23 (σ : sg_M) (b b' T : Int32) (Q : fn_PS) (w : Nat → Int32) : sg_up (sg_mP (sg_up σ 120 23 b) T Q w) 120 23 b' = sg_mP (sg_up σ 120 23 b') T Q w := by
  unfold sg_mP
  refine mm_ext ?_ ?_ ?_ ?_ ?_ (fun x hx => ?_)
  · rw [sg_up_row, mm_120, sg_up_row, sg_up_row, upd_comm (show (10 : Nat) ≠ 23 by omega), upd_comm (show (9 : Nat) ≠ 23 by omega), upd_upd]
  · rw [sg_up_ne (by omega), mm_128]
  · rw [sg_up_ne (by omega), mm_129]
  · rw [sg_up_ne (by omega), mm_130]
  · rw [sg_up_ne (by omega), mm_131]
  · rw [sg_up_ne (by omega), mm_ne hx, sg_up_ne (by omega), sg_up_ne (by omega)]
theorem mP_up23' (σ : sg_M) (b' T : Int32) (Q : fn_PS) (w : Nat → Int32) : sg_up (sg_mP σ T Q w) 120 23 b' = sg_mP (sg_up σ 120 23 b') T Q w := by
  have h := mP_up23 σ (σ 120 23) b' T Q w
  have e : sg_up σ 120 23 (σ 120 23) = σ := by
    funext y
    by_cases hy : y = 120
    · subst hy
      rw [sg_up_row]
      funext i
      by_cases hi : i = 23
      · subst hi; rw [upd_same]
      · rw [upd_ne hi]
    · rw [sg_up_ne hy]
  rw [e] at h
  exact h
theorem em_both_l (σ : sg_M) (n N : Nat) (th : Int32) (h1 : 1 ≤ n) (h8 : n ≤ 8) (hn : σ 120 8 = nI n) (hN : N < 2 ^ 31) (o2 : ¬ 2 + th = 0) (o10 : ¬ 10 + th = 0) : ∀ m t (T b : Int32) (Q : fn_PS) (w : Nat → Int32), t + m = N → iv_ps (σ 127) n Q → ∃ w' T', sg_rv 159 2 (sg_mP (sg_up σ 120 23 b) T Q w) [sg_r 7 120, sg_i th, sg_i (nI N), sg_i (nI t)] [] = some (none, sg_mP (sg_up σ 120 23 (fn_it (fn_bt th) m b)) T' (fn_it (fn_step 1 n (σ 127) 1) m Q) w') := by
  intro m
  induction m with
  | zero =>
    intro t T b Q w ht hi
    refine ⟨w, T, ?_⟩
    simp only [mq_159_2, mq_159_3, mq_159_4, nI_ltI (show t < 2 ^ 31 by omega) hN, show ¬ t < N by omega, if_false, mq_159_38]
    rfl
  | succ m ih =>
    intro t T b Q w ht hi
    have e127 : sg_up σ 120 23 b 127 = σ 127 := sg_up_ne (by omega)
    obtain ⟨w1, s1⟩ := em_step (sg_up σ 120 23 b) n 1 T Q w h1 h8 (by rw [sg_up_at_ne (by omega)]; exact hn) (by rw [e127]; exact hi)
    rw [e127] at s1
    have e23 : ∀ T Q w, sg_mP (sg_up σ 120 23 b) T Q w 120 23 = b := fun T Q w => by rw [mP_120 _ _ _ _ (by omega), sg_up_at]
    obtain ⟨w2, T2, s2⟩ := ih (t + 1) (T + 1) (fn_bt th b) (fn_step 1 n (σ 127) 1 Q) w1 (by omega) (step_iv h1 hi)
    refine ⟨w2, T2, ?_⟩
    simp (decide := true) only [mq_159_2, mq_159_3, mq_159_4, nI_ltI (show t < 2 ^ 31 by omega) hN, show t < N by omega, if_true]
    simp (decide := true) only [mq_159_7, mq_159_8, mq_159_9, mq_159_12, mq_159_13, mq_159_14, mq_159_17, mq_159_18, mq_159_19, mq_159_22, mq_159_23, mq_159_26, mq_159_29, mq_159_32, mq_159_35, s1, e23, em_warm _ b th 0 o2 o10, em_held, fn_cl_held, mP_up23, nI_1, Nat.reduceAdd, Nat.reduceMul, Nat.reduceSub, Nat.zero_add, sg_bi_i, sg_bi_n, sg_bz, sg_bb, sg_b_0, sg_b_1, if_true, if_false, not_true_eq_false, not_false_eq_true, true_and, and_true, false_and, and_false, and_self, Int32.reduceSub]
    exact s2
theorem em_goBoth (σ : sg_M) (n N : Nat) (th T b : Int32) (Q : fn_PS) (w : Nat → Int32) (h1 : 1 ≤ n) (h8 : n ≤ 8) (hn : σ 120 8 = nI n) (hN : N < 2 ^ 31) (o2 : ¬ 2 + th = 0) (o10 : ¬ 10 + th = 0) (hi : iv_ps (σ 127) n Q) : ∃ w' T', sg_ev 159 (sg_mP (sg_up σ 120 23 b) T Q w) [sg_r 7 120, sg_i th, sg_i (nI N)] = some (none, sg_mP (sg_up σ 120 23 (fn_it (fn_bt th) N b)) T' (fn_it (fn_step 1 n (σ 127) 1) N Q) w') := by
  obtain ⟨w', T', s⟩ := em_both_l σ n N th h1 h8 hn hN o2 o10 N 0 T b Q w (by omega) hi
  refine ⟨w', T', ?_⟩
  rw [← s]
  simp only [me_159, me_159, mq_159_0, mq_159_1]
  rfl
