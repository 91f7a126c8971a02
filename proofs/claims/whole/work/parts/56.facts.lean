/-! facts of a ring, of a piece -/
def fn_fr (n : Nat) (g : Nat → Int32) (P : fn_PS) (k : Nat) (what : Int32) : Int32 := if what = 0 then g k else if what = 1 then P.2.1 k else if what = 2 then P.2.2.1 k else if what = 3 then g k / P.2.1 k else if what = 4 then fn_soft (P.2.2.1 k) else if k + 1 < n then P.2.2.2 k else 0
def fn_fa (n : Nat) (g : Nat → Int32) (P : fn_PS) (what : Int32) : Int32 := if what = 0 then nI n else if what = 1 then P.1 else if what = 2 then (if 40 < P.1 then 1 else 0) else if what = 3 then fn_gs P.2.2.1 n else if what = 4 then fn_mx P.2.2.2 (n - 1) else fn_sum g n
theorem fn_fr_c {n : Nat} {g g' : Nat → Int32} {P Q : fn_PS} {k : Nat} (hk : k < n) (hg : ∀ j, j < n → g j = g' j) (h : rl_ps n P Q) (what : Int32) : fn_fr n g P k what = fn_fr n g' Q k what := by
  obtain ⟨a, b, c⟩ := h.2 k hk
  unfold fn_fr
  rw [hg k hk, a, b, c]
theorem fn_fa_c {n : Nat} {g g' : Nat → Int32} {P Q : fn_PS} (h1 : 1 ≤ n) (hg : ∀ j, j < n → g j = g' j) (h : rl_ps n P Q) (what : Int32) : fn_fa n g P what = fn_fa n g' Q what := by
  have hb := fn_sb_congr n (fun j hj => (h.2 j hj).2.1)
  unfold fn_fa fn_gs
  rw [h.1, hb, (h.2 _ (fn_sb_lt _ n h1)).2.1, fn_mx_congr (n - 1) (fun j hj => (h.2 j (by omega)).2.2), fn_sum_congr n hg]
theorem sg_w5 {w : Int32} (h : 0 ≤ w ∧ w ≤ 5) : w = 0 ∨ w = 1 ∨ w = 2 ∨ w = 3 ∨ w = 4 ∨ w = 5 := by
  obtain ⟨q, hq, rfl⟩ := nI_of2 (x := w) (M := 5) (n := 5) (by decide) (by rw [Int32.not_lt]; exact h.1) h.2
  rcases (show q = 0 ∨ q = 1 ∨ q = 2 ∨ q = 3 ∨ q = 4 ∨ q = 5 by omega) with rfl | rfl | rfl | rfl | rfl | rfl
  · exact Or.inl rfl
  · exact Or.inr (Or.inl rfl)
  · exact Or.inr (Or.inr (Or.inl rfl))
  · exact Or.inr (Or.inr (Or.inr (Or.inl rfl)))
  · exact Or.inr (Or.inr (Or.inr (Or.inr (Or.inl rfl))))
  · exact Or.inr (Or.inr (Or.inr (Or.inr (Or.inr rfl))))
theorem sg_w5n {w : Int32} (h : ¬ (0 ≤ w ∧ w ≤ 5)) : w.toInt < 0 ∨ 5 < w.toInt := by
  rw [Int32.le_iff_toInt_le, Int32.le_iff_toInt_le, sg_t0, sg_t5] at h
  omega
theorem ev_factR (σ : sg_M) (c n k : Nat) (what : Int32) (h8 : n ≤ 8) (hn : σ c 6 = nI n) (hk : k < n) (hi : iv_ps (σ (c + 1)) n (fn_cp σ c)) (hw : 0 ≤ what ∧ what ≤ 5) : sg_ev 16 σ [sg_r 2 c, sg_i (nI k), sg_i what] = some (some (sg_i (fn_fr n (σ (c + 1)) (fn_cp σ c) k what)), σ) := by
  have i1 : sg_in (nI k) 8 = true := sg_in_nI (by omega) (by omega)
  have ck : (nI k).toNatClampNeg = k := sg_nIc (by omega)
  have ht := ev_thick σ c (nI k) i1 (by rw [ck]; exact (iv_okr hi k hk).1)
  rw [ck] at ht
  unfold fn_fr fn_cp
  rcases sg_w5 hw with rfl | rfl | rfl | rfl | rfl | rfl
  · simp (decide := true) only [me_16, mq_16_0, mq_16_1_0, mq_16_1_1, mq_16_1_2, mq_16_1_3, mq_16_1_4, mq_16_1_d, mq_16_36, mq_16_37, mq_16_40, mq_16_41, mq_16_42, mq_16_43, mq_16_44, mq_16_47, mq_16_48, mq_16_49, mq_16_50, mq_16_51, mq_16_54, mq_16_55, mq_16_56, mq_16_57, mq_16_58, mq_16_59, mq_16_62, mq_16_63, mq_16_64, mq_16_67, mq_16_68, mq_16_69, mq_16_72, mq_16_73, mq_16_74, mq_16_75, mq_16_76, mq_16_77, mq_16_80, mq_16_83, mq_16_84, mq_16_87, mq_16_88, mq_16_89, mq_16_92, mq_16_93, i1, ck, Nat.reduceAdd, Nat.reduceMul, Nat.reduceSub, Nat.zero_add, sg_bi_i, sg_bi_n, sg_bz, sg_bb, sg_b_0, sg_b_1, if_true, if_false, not_true_eq_false, not_false_eq_true, true_and, and_true, false_and, and_false, and_self, Int32.reduceSub]
  · simp (decide := true) only [me_16, mq_16_0, mq_16_1_0, mq_16_1_1, mq_16_1_2, mq_16_1_3, mq_16_1_4, mq_16_1_d, mq_16_36, mq_16_37, mq_16_40, mq_16_41, mq_16_42, mq_16_43, mq_16_44, mq_16_47, mq_16_48, mq_16_49, mq_16_50, mq_16_51, mq_16_54, mq_16_55, mq_16_56, mq_16_57, mq_16_58, mq_16_59, mq_16_62, mq_16_63, mq_16_64, mq_16_67, mq_16_68, mq_16_69, mq_16_72, mq_16_73, mq_16_74, mq_16_75, mq_16_76, mq_16_77, mq_16_80, mq_16_83, mq_16_84, mq_16_87, mq_16_88, mq_16_89, mq_16_92, mq_16_93, i1, ck, Nat.reduceAdd, Nat.reduceMul, Nat.reduceSub, Nat.zero_add, sg_bi_i, sg_bi_n, sg_bz, sg_bb, sg_b_0, sg_b_1, if_true, if_false, not_true_eq_false, not_false_eq_true, true_and, and_true, false_and, and_false, and_self, Int32.reduceSub]
  · simp (decide := true) only [me_16, mq_16_0, mq_16_1_0, mq_16_1_1, mq_16_1_2, mq_16_1_3, mq_16_1_4, mq_16_1_d, mq_16_36, mq_16_37, mq_16_40, mq_16_41, mq_16_42, mq_16_43, mq_16_44, mq_16_47, mq_16_48, mq_16_49, mq_16_50, mq_16_51, mq_16_54, mq_16_55, mq_16_56, mq_16_57, mq_16_58, mq_16_59, mq_16_62, mq_16_63, mq_16_64, mq_16_67, mq_16_68, mq_16_69, mq_16_72, mq_16_73, mq_16_74, mq_16_75, mq_16_76, mq_16_77, mq_16_80, mq_16_83, mq_16_84, mq_16_87, mq_16_88, mq_16_89, mq_16_92, mq_16_93, i1, ck, Nat.reduceAdd, Nat.reduceMul, Nat.reduceSub, Nat.zero_add, sg_bi_i, sg_bi_n, sg_bz, sg_bb, sg_b_0, sg_b_1, if_true, if_false, not_true_eq_false, not_false_eq_true, true_and, and_true, false_and, and_false, and_self, Int32.reduceSub]
  · simp (decide := true) only [me_16, mq_16_0, mq_16_1_0, mq_16_1_1, mq_16_1_2, mq_16_1_3, mq_16_1_4, mq_16_1_d, mq_16_36, mq_16_37, mq_16_40, mq_16_41, mq_16_42, mq_16_43, mq_16_44, mq_16_47, mq_16_48, mq_16_49, mq_16_50, mq_16_51, mq_16_54, mq_16_55, mq_16_56, mq_16_57, mq_16_58, mq_16_59, mq_16_62, mq_16_63, mq_16_64, mq_16_67, mq_16_68, mq_16_69, mq_16_72, mq_16_73, mq_16_74, mq_16_75, mq_16_76, mq_16_77, mq_16_80, mq_16_83, mq_16_84, mq_16_87, mq_16_88, mq_16_89, mq_16_92, mq_16_93, i1, ck, ht, Nat.reduceAdd, Nat.reduceMul, Nat.reduceSub, Nat.zero_add, sg_bi_i, sg_bi_n, sg_bz, sg_bb, sg_b_0, sg_b_1, if_true, if_false, not_true_eq_false, not_false_eq_true, true_and, and_true, false_and, and_false, and_self, Int32.reduceSub]
  · simp (decide := true) only [me_16, mq_16_0, mq_16_1_0, mq_16_1_1, mq_16_1_2, mq_16_1_3, mq_16_1_4, mq_16_1_d, mq_16_36, mq_16_37, mq_16_40, mq_16_41, mq_16_42, mq_16_43, mq_16_44, mq_16_47, mq_16_48, mq_16_49, mq_16_50, mq_16_51, mq_16_54, mq_16_55, mq_16_56, mq_16_57, mq_16_58, mq_16_59, mq_16_62, mq_16_63, mq_16_64, mq_16_67, mq_16_68, mq_16_69, mq_16_72, mq_16_73, mq_16_74, mq_16_75, mq_16_76, mq_16_77, mq_16_80, mq_16_83, mq_16_84, mq_16_87, mq_16_88, mq_16_89, mq_16_92, mq_16_93, i1, ck, ev_softAt, Nat.reduceAdd, Nat.reduceMul, Nat.reduceSub, Nat.zero_add, sg_bi_i, sg_bi_n, sg_bz, sg_bb, sg_b_0, sg_b_1, if_true, if_false, not_true_eq_false, not_false_eq_true, true_and, and_true, false_and, and_false, and_self, Int32.reduceSub]
  · simp (decide := true) only [me_16, me_16, mq_16_0, mq_16_1_d _ _ 5 _ (show (5 : Int32).toInt < 0 ∨ 4 < (5 : Int32).toInt by decide), mq_16_73, mq_16_74, mq_16_75, mq_16_76, mq_16_77, mq_16_80, mq_16_83, mq_16_84, mq_16_87, mq_16_88, mq_16_89, mq_16_92, mq_16_93, i1, ck, hn, nI_1, nI_ltI (show k + 1 < 2 ^ 31 by omega) (show n < 2 ^ 31 by omega), Nat.reduceAdd, Nat.reduceMul, Nat.reduceSub, Nat.zero_add, sg_bi_i, sg_bi_n, sg_bz, sg_bb, sg_b_0, sg_b_1, if_true, if_false, not_true_eq_false, not_false_eq_true, true_and, and_true, false_and, and_false, and_self, Int32.reduceSub]
    by_cases h : k + 1 < n <;> simp (decide := true) only [h, Nat.reduceAdd, Nat.reduceMul, Nat.reduceSub, Nat.zero_add, sg_bi_i, sg_bi_n, sg_bz, sg_bb, sg_b_0, sg_b_1, if_true, if_false, not_true_eq_false, not_false_eq_true, true_and, and_true, false_and, and_false, and_self, Int32.reduceSub]
theorem ev_factA (σ : sg_M) (c n : Nat) (what : Int32) (h1 : 1 ≤ n) (h8 : n ≤ 8) (hn : σ c 6 = nI n) (hw : 0 ≤ what ∧ what ≤ 5) : sg_ev 20 σ [sg_r 2 c, sg_i what] = some (some (sg_i (fn_fa n (σ (c + 1)) (fn_cp σ c) what)), σ) := by
  unfold fn_fa fn_cp
  rcases sg_w5 hw with rfl | rfl | rfl | rfl | rfl | rfl
  · simp (decide := true) only [me_20, mq_20_0, mq_20_1_0, mq_20_1_1, mq_20_1_2, mq_20_1_3, mq_20_1_4, mq_20_1_d, mq_20_36, mq_20_37, mq_20_40, mq_20_41, mq_20_42, mq_20_45, mq_20_46, mq_20_47, mq_20_50, mq_20_53, mq_20_54, mq_20_57, mq_20_58, mq_20_59, mq_20_60, mq_20_63, mq_20_64, mq_20_65, mq_20_68, mq_20_69, mq_20_70, mq_20_73, hn, Nat.reduceAdd, Nat.reduceMul, Nat.reduceSub, Nat.zero_add, sg_bi_i, sg_bi_n, sg_bz, sg_bb, sg_b_0, sg_b_1, if_true, if_false, not_true_eq_false, not_false_eq_true, true_and, and_true, false_and, and_false, and_self, Int32.reduceSub]
  · simp (decide := true) only [me_20, mq_20_0, mq_20_1_0, mq_20_1_1, mq_20_1_2, mq_20_1_3, mq_20_1_4, mq_20_1_d, mq_20_36, mq_20_37, mq_20_40, mq_20_41, mq_20_42, mq_20_45, mq_20_46, mq_20_47, mq_20_50, mq_20_53, mq_20_54, mq_20_57, mq_20_58, mq_20_59, mq_20_60, mq_20_63, mq_20_64, mq_20_65, mq_20_68, mq_20_69, mq_20_70, mq_20_73, Nat.reduceAdd, Nat.reduceMul, Nat.reduceSub, Nat.zero_add, sg_bi_i, sg_bi_n, sg_bz, sg_bb, sg_b_0, sg_b_1, if_true, if_false, not_true_eq_false, not_false_eq_true, true_and, and_true, false_and, and_false, and_self, Int32.reduceSub]
  · by_cases h : 40 < σ c 7 <;> simp (decide := true) only [me_20, mq_20_0, mq_20_1_0, mq_20_1_1, mq_20_1_2, mq_20_1_3, mq_20_1_4, mq_20_1_d, mq_20_36, mq_20_37, mq_20_40, mq_20_41, mq_20_42, mq_20_45, mq_20_46, mq_20_47, mq_20_50, mq_20_53, mq_20_54, mq_20_57, mq_20_58, mq_20_59, mq_20_60, mq_20_63, mq_20_64, mq_20_65, mq_20_68, mq_20_69, mq_20_70, mq_20_73, ev_hasFallen, h, Nat.reduceAdd, Nat.reduceMul, Nat.reduceSub, Nat.zero_add, sg_bi_i, sg_bi_n, sg_bz, sg_bb, sg_b_0, sg_b_1, if_true, if_false, not_true_eq_false, not_false_eq_true, true_and, and_true, false_and, and_false, and_self, Int32.reduceSub]
  · simp (decide := true) only [me_20, mq_20_0, mq_20_1_0, mq_20_1_1, mq_20_1_2, mq_20_1_3, mq_20_1_4, mq_20_1_d, mq_20_36, mq_20_37, mq_20_40, mq_20_41, mq_20_42, mq_20_45, mq_20_46, mq_20_47, mq_20_50, mq_20_53, mq_20_54, mq_20_57, mq_20_58, mq_20_59, mq_20_60, mq_20_63, mq_20_64, mq_20_65, mq_20_68, mq_20_69, mq_20_70, mq_20_73, ev_gs σ c n h1 h8 hn, Nat.reduceAdd, Nat.reduceMul, Nat.reduceSub, Nat.zero_add, sg_bi_i, sg_bi_n, sg_bz, sg_bb, sg_b_0, sg_b_1, if_true, if_false, not_true_eq_false, not_false_eq_true, true_and, and_true, false_and, and_false, and_self, Int32.reduceSub]
  · simp (decide := true) only [me_20, mq_20_0, mq_20_1_0, mq_20_1_1, mq_20_1_2, mq_20_1_3, mq_20_1_4, mq_20_1_d, mq_20_36, mq_20_37, mq_20_40, mq_20_41, mq_20_42, mq_20_45, mq_20_46, mq_20_47, mq_20_50, mq_20_53, mq_20_54, mq_20_57, mq_20_58, mq_20_59, mq_20_60, mq_20_63, mq_20_64, mq_20_65, mq_20_68, mq_20_69, mq_20_70, mq_20_73, ev_mx σ c n h1 h8 hn, Nat.reduceAdd, Nat.reduceMul, Nat.reduceSub, Nat.zero_add, sg_bi_i, sg_bi_n, sg_bz, sg_bb, sg_b_0, sg_b_1, if_true, if_false, not_true_eq_false, not_false_eq_true, true_and, and_true, false_and, and_false, and_self, Int32.reduceSub]
  · simp (decide := true) only [me_20, me_20, mq_20_0, mq_20_1_d _ _ 5 _ (show (5 : Int32).toInt < 0 ∨ 4 < (5 : Int32).toInt by decide), mq_20_69, mq_20_70, mq_20_73, ev_sum σ c n h8 hn, Nat.reduceAdd, Nat.reduceMul, Nat.reduceSub, Nat.zero_add, sg_bi_i, sg_bi_n, sg_bz, sg_bb, sg_b_0, sg_b_1, if_true, if_false, not_true_eq_false, not_false_eq_true, true_and, and_true, false_and, and_false, and_self, Int32.reduceSub]
/-- what the model has in hand -/
def fn_mp (σ : sg_M) : fn_PS := (σ 120 9, σ 128, σ 129, σ 130)
theorem em_factR (σ : sg_M) (n k : Nat) (what : Int32) (h8 : n ≤ 8) (hn : σ 120 8 = nI n) (hk : k < n) (hi : iv_ps (σ 127) n (fn_mp σ)) : sg_ev 124 σ [sg_r 7 120, sg_i (nI k), sg_i what] = some (some (sg_i (if 0 ≤ what ∧ what ≤ 5 then fn_fr n (σ 127) (fn_mp σ) k what else -2)), σ) := by
  have i1 : sg_in (nI k) 8 = true := sg_in_nI (by omega) (by omega)
  have ck : (nI k).toNatClampNeg = k := sg_nIc (by omega)
  have h0 : ¬ σ 128 k = 0 := sg_ne0 (iv_okr hi k hk).1
  unfold fn_fr fn_mp
  by_cases hw : 0 ≤ what ∧ what ≤ 5
  · rw [if_pos hw]
    rcases sg_w5 hw with rfl | rfl | rfl | rfl | rfl | rfl
    · simp (decide := true) only [me_124, mq_124_0, mq_124_1_0, mq_124_1_1, mq_124_1_2, mq_124_1_3, mq_124_1_4, mq_124_1_5, mq_124_1_d, mq_124_40, mq_124_41, mq_124_44, mq_124_45, mq_124_46, mq_124_47, mq_124_48, mq_124_51, mq_124_52, mq_124_53, mq_124_54, mq_124_55, mq_124_58, mq_124_59, mq_124_60, mq_124_61, mq_124_62, mq_124_65, mq_124_66, mq_124_67, mq_124_68, mq_124_71, mq_124_72, mq_124_73, mq_124_74, mq_124_75, mq_124_76, mq_124_79, mq_124_80, mq_124_81, mq_124_84, mq_124_85, mq_124_86, mq_124_87, mq_124_88, mq_124_89, mq_124_92, mq_124_95, mq_124_96, mq_124_99, mq_124_100, mq_124_101, mq_124_104, mq_124_105, mq_124_106, mq_124_108, i1, ck, Nat.reduceAdd, Nat.reduceMul, Nat.reduceSub, Nat.zero_add, sg_bi_i, sg_bi_n, sg_bz, sg_bb, sg_b_0, sg_b_1, if_true, if_false, not_true_eq_false, not_false_eq_true, true_and, and_true, false_and, and_false, and_self, Int32.reduceSub]
    · simp (decide := true) only [me_124, mq_124_0, mq_124_1_0, mq_124_1_1, mq_124_1_2, mq_124_1_3, mq_124_1_4, mq_124_1_5, mq_124_1_d, mq_124_40, mq_124_41, mq_124_44, mq_124_45, mq_124_46, mq_124_47, mq_124_48, mq_124_51, mq_124_52, mq_124_53, mq_124_54, mq_124_55, mq_124_58, mq_124_59, mq_124_60, mq_124_61, mq_124_62, mq_124_65, mq_124_66, mq_124_67, mq_124_68, mq_124_71, mq_124_72, mq_124_73, mq_124_74, mq_124_75, mq_124_76, mq_124_79, mq_124_80, mq_124_81, mq_124_84, mq_124_85, mq_124_86, mq_124_87, mq_124_88, mq_124_89, mq_124_92, mq_124_95, mq_124_96, mq_124_99, mq_124_100, mq_124_101, mq_124_104, mq_124_105, mq_124_106, mq_124_108, i1, ck, Nat.reduceAdd, Nat.reduceMul, Nat.reduceSub, Nat.zero_add, sg_bi_i, sg_bi_n, sg_bz, sg_bb, sg_b_0, sg_b_1, if_true, if_false, not_true_eq_false, not_false_eq_true, true_and, and_true, false_and, and_false, and_self, Int32.reduceSub]
    · simp (decide := true) only [me_124, mq_124_0, mq_124_1_0, mq_124_1_1, mq_124_1_2, mq_124_1_3, mq_124_1_4, mq_124_1_5, mq_124_1_d, mq_124_40, mq_124_41, mq_124_44, mq_124_45, mq_124_46, mq_124_47, mq_124_48, mq_124_51, mq_124_52, mq_124_53, mq_124_54, mq_124_55, mq_124_58, mq_124_59, mq_124_60, mq_124_61, mq_124_62, mq_124_65, mq_124_66, mq_124_67, mq_124_68, mq_124_71, mq_124_72, mq_124_73, mq_124_74, mq_124_75, mq_124_76, mq_124_79, mq_124_80, mq_124_81, mq_124_84, mq_124_85, mq_124_86, mq_124_87, mq_124_88, mq_124_89, mq_124_92, mq_124_95, mq_124_96, mq_124_99, mq_124_100, mq_124_101, mq_124_104, mq_124_105, mq_124_106, mq_124_108, i1, ck, Nat.reduceAdd, Nat.reduceMul, Nat.reduceSub, Nat.zero_add, sg_bi_i, sg_bi_n, sg_bz, sg_bb, sg_b_0, sg_b_1, if_true, if_false, not_true_eq_false, not_false_eq_true, true_and, and_true, false_and, and_false, and_self, Int32.reduceSub]
    · simp (decide := true) only [me_124, mq_124_0, mq_124_1_0, mq_124_1_1, mq_124_1_2, mq_124_1_3, mq_124_1_4, mq_124_1_5, mq_124_1_d, mq_124_40, mq_124_41, mq_124_44, mq_124_45, mq_124_46, mq_124_47, mq_124_48, mq_124_51, mq_124_52, mq_124_53, mq_124_54, mq_124_55, mq_124_58, mq_124_59, mq_124_60, mq_124_61, mq_124_62, mq_124_65, mq_124_66, mq_124_67, mq_124_68, mq_124_71, mq_124_72, mq_124_73, mq_124_74, mq_124_75, mq_124_76, mq_124_79, mq_124_80, mq_124_81, mq_124_84, mq_124_85, mq_124_86, mq_124_87, mq_124_88, mq_124_89, mq_124_92, mq_124_95, mq_124_96, mq_124_99, mq_124_100, mq_124_101, mq_124_104, mq_124_105, mq_124_106, mq_124_108, i1, ck, h0, Nat.reduceAdd, Nat.reduceMul, Nat.reduceSub, Nat.zero_add, sg_bi_i, sg_bi_n, sg_bz, sg_bb, sg_b_0, sg_b_1, if_true, if_false, not_true_eq_false, not_false_eq_true, true_and, and_true, false_and, and_false, and_self, Int32.reduceSub]
    · simp (decide := true) only [me_124, mq_124_0, mq_124_1_0, mq_124_1_1, mq_124_1_2, mq_124_1_3, mq_124_1_4, mq_124_1_5, mq_124_1_d, mq_124_40, mq_124_41, mq_124_44, mq_124_45, mq_124_46, mq_124_47, mq_124_48, mq_124_51, mq_124_52, mq_124_53, mq_124_54, mq_124_55, mq_124_58, mq_124_59, mq_124_60, mq_124_61, mq_124_62, mq_124_65, mq_124_66, mq_124_67, mq_124_68, mq_124_71, mq_124_72, mq_124_73, mq_124_74, mq_124_75, mq_124_76, mq_124_79, mq_124_80, mq_124_81, mq_124_84, mq_124_85, mq_124_86, mq_124_87, mq_124_88, mq_124_89, mq_124_92, mq_124_95, mq_124_96, mq_124_99, mq_124_100, mq_124_101, mq_124_104, mq_124_105, mq_124_106, mq_124_108, i1, ck, em_soft, Nat.reduceAdd, Nat.reduceMul, Nat.reduceSub, Nat.zero_add, sg_bi_i, sg_bi_n, sg_bz, sg_bb, sg_b_0, sg_b_1, if_true, if_false, not_true_eq_false, not_false_eq_true, true_and, and_true, false_and, and_false, and_self, Int32.reduceSub]
    · simp (decide := true) only [me_124, mq_124_0, mq_124_1_0, mq_124_1_1, mq_124_1_2, mq_124_1_3, mq_124_1_4, mq_124_1_5, mq_124_1_d, mq_124_40, mq_124_41, mq_124_44, mq_124_45, mq_124_46, mq_124_47, mq_124_48, mq_124_51, mq_124_52, mq_124_53, mq_124_54, mq_124_55, mq_124_58, mq_124_59, mq_124_60, mq_124_61, mq_124_62, mq_124_65, mq_124_66, mq_124_67, mq_124_68, mq_124_71, mq_124_72, mq_124_73, mq_124_74, mq_124_75, mq_124_76, mq_124_79, mq_124_80, mq_124_81, mq_124_84, mq_124_85, mq_124_86, mq_124_87, mq_124_88, mq_124_89, mq_124_92, mq_124_95, mq_124_96, mq_124_99, mq_124_100, mq_124_101, mq_124_104, mq_124_105, mq_124_106, mq_124_108, i1, ck, hn, nI_1, nI_ltI (show k + 1 < 2 ^ 31 by omega) (show n < 2 ^ 31 by omega), Nat.reduceAdd, Nat.reduceMul, Nat.reduceSub, Nat.zero_add, sg_bi_i, sg_bi_n, sg_bz, sg_bb, sg_b_0, sg_b_1, if_true, if_false, not_true_eq_false, not_false_eq_true, true_and, and_true, false_and, and_false, and_self, Int32.reduceSub]
      by_cases h : k + 1 < n <;> simp (decide := true) only [h, Nat.reduceAdd, Nat.reduceMul, Nat.reduceSub, Nat.zero_add, sg_bi_i, sg_bi_n, sg_bz, sg_bb, sg_b_0, sg_b_1, if_true, if_false, not_true_eq_false, not_false_eq_true, true_and, and_true, false_and, and_false, and_self, Int32.reduceSub]
  · rw [if_neg hw]
    simp (decide := true) only [me_124, me_124, mq_124_0, mq_124_1_d _ _ what _ (sg_w5n hw), mq_124_106, mq_124_108]
theorem em_factA (σ : sg_M) (n : Nat) (what : Int32) (h1 : 1 ≤ n) (h8 : n ≤ 8) (hn : σ 120 8 = nI n) : sg_ev 127 σ [sg_r 7 120, sg_i what] = some (some (sg_i (if 0 ≤ what ∧ what ≤ 5 then fn_fa n (σ 127) (fn_mp σ) what else -2)), σ) := by
  unfold fn_fa fn_mp
  by_cases hw : 0 ≤ what ∧ what ≤ 5
  · rw [if_pos hw]
    rcases sg_w5 hw with rfl | rfl | rfl | rfl | rfl | rfl
    · simp (decide := true) only [me_127, mq_127_0, mq_127_1_0, mq_127_1_1, mq_127_1_2, mq_127_1_3, mq_127_1_4, mq_127_1_5, mq_127_1_d, mq_127_40, mq_127_41, mq_127_44, mq_127_45, mq_127_46, mq_127_49, mq_127_50, mq_127_51, mq_127_54, mq_127_56, mq_127_59, mq_127_60, mq_127_63, mq_127_64, mq_127_65, mq_127_66, mq_127_69, mq_127_70, mq_127_71, mq_127_74, mq_127_75, mq_127_76, mq_127_79, mq_127_80, mq_127_82, hn, Nat.reduceAdd, Nat.reduceMul, Nat.reduceSub, Nat.zero_add, sg_bi_i, sg_bi_n, sg_bz, sg_bb, sg_b_0, sg_b_1, if_true, if_false, not_true_eq_false, not_false_eq_true, true_and, and_true, false_and, and_false, and_self, Int32.reduceSub]
    · simp (decide := true) only [me_127, mq_127_0, mq_127_1_0, mq_127_1_1, mq_127_1_2, mq_127_1_3, mq_127_1_4, mq_127_1_5, mq_127_1_d, mq_127_40, mq_127_41, mq_127_44, mq_127_45, mq_127_46, mq_127_49, mq_127_50, mq_127_51, mq_127_54, mq_127_56, mq_127_59, mq_127_60, mq_127_63, mq_127_64, mq_127_65, mq_127_66, mq_127_69, mq_127_70, mq_127_71, mq_127_74, mq_127_75, mq_127_76, mq_127_79, mq_127_80, mq_127_82, Nat.reduceAdd, Nat.reduceMul, Nat.reduceSub, Nat.zero_add, sg_bi_i, sg_bi_n, sg_bz, sg_bb, sg_b_0, sg_b_1, if_true, if_false, not_true_eq_false, not_false_eq_true, true_and, and_true, false_and, and_false, and_self, Int32.reduceSub]
    · by_cases h : 40 < σ 120 9 <;> simp (decide := true) only [me_127, mq_127_0, mq_127_1_0, mq_127_1_1, mq_127_1_2, mq_127_1_3, mq_127_1_4, mq_127_1_5, mq_127_1_d, mq_127_40, mq_127_41, mq_127_44, mq_127_45, mq_127_46, mq_127_49, mq_127_50, mq_127_51, mq_127_54, mq_127_56, mq_127_59, mq_127_60, mq_127_63, mq_127_64, mq_127_65, mq_127_66, mq_127_69, mq_127_70, mq_127_71, mq_127_74, mq_127_75, mq_127_76, mq_127_79, mq_127_80, mq_127_82, h, Nat.reduceAdd, Nat.reduceMul, Nat.reduceSub, Nat.zero_add, sg_bi_i, sg_bi_n, sg_bz, sg_bb, sg_b_0, sg_b_1, if_true, if_false, not_true_eq_false, not_false_eq_true, true_and, and_true, false_and, and_false, and_self, Int32.reduceSub]
    · simp (decide := true) only [me_127, mq_127_0, mq_127_1_0, mq_127_1_1, mq_127_1_2, mq_127_1_3, mq_127_1_4, mq_127_1_5, mq_127_1_d, mq_127_40, mq_127_41, mq_127_44, mq_127_45, mq_127_46, mq_127_49, mq_127_50, mq_127_51, mq_127_54, mq_127_56, mq_127_59, mq_127_60, mq_127_63, mq_127_64, mq_127_65, mq_127_66, mq_127_69, mq_127_70, mq_127_71, mq_127_74, mq_127_75, mq_127_76, mq_127_79, mq_127_80, mq_127_82, em_gs σ n h1 h8 hn, Nat.reduceAdd, Nat.reduceMul, Nat.reduceSub, Nat.zero_add, sg_bi_i, sg_bi_n, sg_bz, sg_bb, sg_b_0, sg_b_1, if_true, if_false, not_true_eq_false, not_false_eq_true, true_and, and_true, false_and, and_false, and_self, Int32.reduceSub]
    · simp (decide := true) only [me_127, mq_127_0, mq_127_1_0, mq_127_1_1, mq_127_1_2, mq_127_1_3, mq_127_1_4, mq_127_1_5, mq_127_1_d, mq_127_40, mq_127_41, mq_127_44, mq_127_45, mq_127_46, mq_127_49, mq_127_50, mq_127_51, mq_127_54, mq_127_56, mq_127_59, mq_127_60, mq_127_63, mq_127_64, mq_127_65, mq_127_66, mq_127_69, mq_127_70, mq_127_71, mq_127_74, mq_127_75, mq_127_76, mq_127_79, mq_127_80, mq_127_82, em_mx σ n h1 h8 hn, Nat.reduceAdd, Nat.reduceMul, Nat.reduceSub, Nat.zero_add, sg_bi_i, sg_bi_n, sg_bz, sg_bb, sg_b_0, sg_b_1, if_true, if_false, not_true_eq_false, not_false_eq_true, true_and, and_true, false_and, and_false, and_self, Int32.reduceSub]
    · simp (decide := true) only [me_127, mq_127_0, mq_127_1_0, mq_127_1_1, mq_127_1_2, mq_127_1_3, mq_127_1_4, mq_127_1_5, mq_127_1_d, mq_127_40, mq_127_41, mq_127_44, mq_127_45, mq_127_46, mq_127_49, mq_127_50, mq_127_51, mq_127_54, mq_127_56, mq_127_59, mq_127_60, mq_127_63, mq_127_64, mq_127_65, mq_127_66, mq_127_69, mq_127_70, mq_127_71, mq_127_74, mq_127_75, mq_127_76, mq_127_79, mq_127_80, mq_127_82, em_sum σ n h8 hn, Nat.reduceAdd, Nat.reduceMul, Nat.reduceSub, Nat.zero_add, sg_bi_i, sg_bi_n, sg_bz, sg_bb, sg_b_0, sg_b_1, if_true, if_false, not_true_eq_false, not_false_eq_true, true_and, and_true, false_and, and_false, and_self, Int32.reduceSub]
  · rw [if_neg hw]
    simp (decide := true) only [me_127, me_127, mq_127_0, mq_127_1_d _ _ what _ (sg_w5n hw), mq_127_80, mq_127_82]
/-! a piece in the model's hand -/
theorem mp_mP (σ : sg_M) (t : Int32) (P : fn_PS) (w : Nat → Int32) : fn_mp (sg_mP σ t P w) = P := by
  unfold fn_mp
  rw [mP_9]
  unfold sg_mP
  rw [mm_128, mm_129, mm_130]
theorem mP_x (σ : sg_M) (t : Int32) (P : fn_PS) (w : Nat → Int32) {x : Nat} (hx : x ≠ 120 ∧ (x < 128 ∨ 131 < x)) : sg_mP σ t P w x = σ x := by
  unfold sg_mP; rw [mm_ne hx]
theorem tk_8 (σ : sg_M) (p : Nat) : sg_tk σ p 120 8 = σ 121 p := by
  unfold sg_tk; rw [sg_set_ne (by omega), sg_up_at]
theorem tk_120 (σ : sg_M) (p : Nat) {j : Nat} (hj : j ≠ 8) : sg_tk σ p 120 j = σ 120 j := by
  unfold sg_tk; rw [sg_set_ne (by omega), sg_up_at_ne hj]
theorem tk_127 (σ : sg_M) (p : Nat) : sg_tk σ p 127 = fn_cut p 8 (σ 122) (σ 127) := by
  unfold sg_tk; rw [sg_set_same]
theorem tk_x (σ : sg_M) (p : Nat) {x : Nat} (h1 : x ≠ 120) (h2 : x ≠ 127) : sg_tk σ p x = σ x := by
  unfold sg_tk; rw [sg_set_ne h2, sg_up_ne h1]
theorem same_mP (σ : sg_M) (p : Nat) (t : Int32) (P : fn_PS) (w : Nat → Int32) : sg_same σ (sg_mP (sg_tk σ p) t P w) := by
  refine ⟨?_, fun j hj => ?_, fun y hy => ?_, fun i hi => ?_, ?_⟩
  · rw [mP_x _ _ _ _ (by omega), tk_x _ _ (by omega) (by omega)]
  · rw [mP_120 _ _ _ _ (by omega), tk_120 _ _ (by omega)]
  · unfold sg_kp at hy
    rw [mP_x _ _ _ _ (by omega), tk_x _ _ (by omega) (by omega)]
  · rw [mP_x _ _ _ _ (by omega), tk_x _ _ (by omega) (by omega)]
  · rw [mP_x _ _ _ _ (by omega), tk_x _ _ (by omega) (by omega)]
/-- taken up: alike the class's piece -/
theorem tk_rl {B : Int} {σ : sg_M} {p n : Nat} (h : iv_pc B σ p n) : rl_ps n (fn_cp σ (19 + 6 * p)) (fn_tk σ p) ∧ (∀ k, k < n → σ (19 + 6 * p + 1) k = fn_cut p 8 (σ 122) (σ 127) k) ∧ iv_ps (fn_cut p 8 (σ 122) (σ 127)) n (fn_tk σ p) := by
  obtain ⟨a, b, c, d, e, f, g⟩ := h
  have cut : ∀ (u v : Nat → Int32) k, k < n → fn_cut p 8 u v k = u (8 * p + k) := fun u v k hk => by unfold fn_cut; rw [if_pos (by omega)]
  have h1 : rl_ps n (fn_cp σ (19 + 6 * p)) (fn_tk σ p) := by
    refine ⟨d.symm, fun k hk => ?_⟩
    obtain ⟨e1, e2, e3, e4⟩ := e k hk
    unfold fn_tk fn_cp
    refine ⟨?_, ?_, ?_⟩
    · show σ (19 + 6 * p + 2) k = fn_cut p 8 (σ 123) (σ 128) k
      rw [cut _ _ k hk, e2]
    · show σ (19 + 6 * p + 3) k = fn_cut p 8 (σ 124) (σ 129) k
      rw [cut _ _ k hk, e3]
    · show σ (19 + 6 * p + 4) k = fn_cut p 8 (σ 125) (σ 130) k
      rw [cut _ _ k hk, e4]
  have h2 : ∀ k, k < n → σ (19 + 6 * p + 1) k = fn_cut p 8 (σ 122) (σ 127) k := fun k hk => by rw [cut _ _ k hk, (e k hk).1]
  refine ⟨h1, h2, fun k hk => ?_⟩
  obtain ⟨q1, q2, q3⟩ := f k hk
  obtain ⟨r1, r2, r3⟩ := h1.2 k hk
  rw [← h2 k hk, ← r1, ← r2]
  exact ⟨q1, q2, q3⟩
theorem pc_same {B : Int} {σ τ : sg_M} {p n : Nat} (hp : p < 8) (h : iv_pc B σ p n) (s : sg_same σ τ) : iv_pc B τ p n :=
  iv_pc_c hp h (fun y _ _ => s.sx y (by unfold sg_kp; omega)) (by rw [s.sx 121 (by unfold sg_kp; omega)]) (by rw [s.sx 126 (by unfold sg_kp; omega)]) (fun y k _ _ _ => by rw [s.sx y (by unfold sg_kp; omega)])
/-- the model's takeUp of a piece that holds -/
theorem em_take {B : Int} {σ : sg_M} {p n : Nat} (hp : p < 8) (h : iv_pc B σ p n) : sg_ev 123 σ [sg_r 7 120, sg_i (nI p)] = some (none, sg_mP (sg_tk σ p) 0 (fn_tk σ p) (σ 131)) ∧ sg_tk σ p 120 8 = nI n ∧ iv_ps (sg_tk σ p 127) n (fn_tk σ p) := by
  refine ⟨em_takeUp σ p hp, by rw [tk_8]; exact h.2.2.1, ?_⟩
  rw [tk_127]
  exact (tk_rl h).2.2
theorem sg_19 (σ : sg_M) (p : Nat) {B : Int} {n : Nat} (h : iv_pc B σ p n) (k : Int32) : sg_ev 14 σ [sg_r 2 (19 + 6 * p), sg_i k] = some (some (sg_i (if 0 ≤ k ∧ k ≤ nI n - 1 then 1 else 0)), σ) := by
  rw [ev_hasRing, h.2.1]
theorem pr_ring {B : Int} {σ : sg_M} (p k what : Int32) (h : iv_all B σ) : sg_pair B σ 12 121 [sg_i p, sg_i k, sg_i what] := by
  rcases pc_cases h.2.2.2.2.2 p with hno | ⟨j, n, hj, rfl, hpc, hp⟩
  · refine pair_same h (sg_i (-1)) σ σ ?_ (same_rfl σ) ?_ (same_rfl σ)
    · simp (decide := true) only [me_12, mq_12_0, mq_12_1, mq_12_2, mq_12_5, mq_12_8, mq_12_9, mq_12_12, mq_12_13, mq_12_14, mq_12_15, mq_12_18, mq_12_21, mq_12_22, mq_12_23, mq_12_24, mq_12_27, mq_12_30, mq_12_31, mq_12_34, mq_12_35, mq_12_36, mq_12_37, mq_12_38, mq_12_41, mq_12_44, mq_12_46, (hno σ).1 rfl, Nat.reduceAdd, Nat.reduceMul, Nat.reduceSub, Nat.zero_add, sg_bi_i, sg_bi_n, sg_bz, sg_bb, sg_b_0, sg_b_1, if_true, if_false, not_true_eq_false, not_false_eq_true, true_and, and_true, false_and, and_false, and_self, Int32.reduceSub]
    · simp (decide := true) only [me_121, mq_121_0, mq_121_1, mq_121_2, mq_121_5, mq_121_8, mq_121_9, mq_121_10, mq_121_11, mq_121_12, mq_121_15, mq_121_16, mq_121_17, mq_121_18, mq_121_19, mq_121_20, mq_121_23, mq_121_26, mq_121_27, mq_121_28, mq_121_29, mq_121_30, mq_121_33, mq_121_34, mq_121_35, mq_121_36, mq_121_39, (hno σ).2 rfl, Nat.reduceAdd, Nat.reduceMul, Nat.reduceSub, Nat.zero_add, sg_bi_i, sg_bi_n, sg_bz, sg_bb, sg_b_0, sg_b_1, if_true, if_false, not_true_eq_false, not_false_eq_true, true_and, and_true, false_and, and_false, and_self, Int32.reduceSub]
  · have e1 := (hp σ).1 rfl
    have e2 := (hp σ).2 rfl
    have i1 : sg_in (nI j) 8 = true := sg_in_nI (by omega) (by omega)
    have cj : (nI j).toNatClampNeg = j := sg_nIc (by omega)
    have e3 := sg_19 σ j hpc k
    obtain ⟨⟨n1, n8⟩, hn, hn2, -, -, hi, -⟩ := id hpc
    have i64 := sg_i64p k 0 (nI n) 0 (by decide) (nI_nmin (by omega))
    by_cases hk : 0 ≤ k ∧ k ≤ nI n - 1
    · obtain ⟨x, hx, rfl⟩ := (sg_below (by omega)).mp hk
      obtain ⟨t1, t2, t3⟩ := em_take hj hpc
      obtain ⟨r1, r2, -⟩ := tk_rl hpc
      have f2 := em_factR (sg_mP (sg_tk σ j) 0 (fn_tk σ j) (σ 131)) n x what n8 (by rw [mP_120 _ _ _ _ (by omega)]; exact t2) hx (by rw [mp_mP, mP_x _ _ _ _ (by omega)]; exact t3)
      rw [mp_mP, mP_x _ _ _ _ (by omega), tk_127, ← fn_fr_c hx r2 r1] at f2
      by_cases hw : 0 ≤ what ∧ what ≤ 5
      · have f1 := ev_factR σ (19 + 6 * j) n x what n8 hn hx hi hw
        rw [if_pos hw] at f2
        refine pair_same h (sg_i (fn_fr n (σ (19 + 6 * j + 1)) (fn_cp σ (19 + 6 * j)) x what)) σ _ ?_ (same_rfl σ) ?_ (same_mP σ j 0 (fn_tk σ j) (σ 131))
        · simp (decide := true) only [me_12, mq_12_0, mq_12_1, mq_12_2, mq_12_5, mq_12_8, mq_12_9, mq_12_12, mq_12_13, mq_12_14, mq_12_15, mq_12_18, mq_12_21, mq_12_22, mq_12_23, mq_12_24, mq_12_27, mq_12_30, mq_12_31, mq_12_34, mq_12_35, mq_12_36, mq_12_37, mq_12_38, mq_12_41, mq_12_44, mq_12_46, e1, i1, cj, e3, hk, ev_isFact, hw, f1, Nat.reduceAdd, Nat.reduceMul, Nat.reduceSub, Nat.zero_add, sg_bi_i, sg_bi_n, sg_bz, sg_bb, sg_b_0, sg_b_1, if_true, if_false, not_true_eq_false, not_false_eq_true, true_and, and_true, false_and, and_false, and_self, Int32.reduceSub]
        · simp (decide := true) only [me_121, mq_121_0, mq_121_1, mq_121_2, mq_121_5, mq_121_8, mq_121_9, mq_121_10, mq_121_11, mq_121_12, mq_121_15, mq_121_16, mq_121_17, mq_121_18, mq_121_19, mq_121_20, mq_121_23, mq_121_26, mq_121_27, mq_121_28, mq_121_29, mq_121_30, mq_121_33, mq_121_34, mq_121_35, mq_121_36, mq_121_39, e2, i1, cj, hn2, em_in, i64, hk, t1, f2, Nat.reduceAdd, Nat.reduceMul, Nat.reduceSub, Nat.zero_add, sg_bi_i, sg_bi_n, sg_bz, sg_bb, sg_b_0, sg_b_1, if_true, if_false, not_true_eq_false, not_false_eq_true, true_and, and_true, false_and, and_false, and_self, Int32.reduceSub]
      · rw [if_neg hw] at f2
        refine pair_same h (sg_i (-2)) σ _ ?_ (same_rfl σ) ?_ (same_mP σ j 0 (fn_tk σ j) (σ 131))
        · simp (decide := true) only [me_12, mq_12_0, mq_12_1, mq_12_2, mq_12_5, mq_12_8, mq_12_9, mq_12_12, mq_12_13, mq_12_14, mq_12_15, mq_12_18, mq_12_21, mq_12_22, mq_12_23, mq_12_24, mq_12_27, mq_12_30, mq_12_31, mq_12_34, mq_12_35, mq_12_36, mq_12_37, mq_12_38, mq_12_41, mq_12_44, mq_12_46, e1, i1, cj, e3, hk, ev_isFact, hw, Nat.reduceAdd, Nat.reduceMul, Nat.reduceSub, Nat.zero_add, sg_bi_i, sg_bi_n, sg_bz, sg_bb, sg_b_0, sg_b_1, if_true, if_false, not_true_eq_false, not_false_eq_true, true_and, and_true, false_and, and_false, and_self, Int32.reduceSub]
        · simp (decide := true) only [me_121, mq_121_0, mq_121_1, mq_121_2, mq_121_5, mq_121_8, mq_121_9, mq_121_10, mq_121_11, mq_121_12, mq_121_15, mq_121_16, mq_121_17, mq_121_18, mq_121_19, mq_121_20, mq_121_23, mq_121_26, mq_121_27, mq_121_28, mq_121_29, mq_121_30, mq_121_33, mq_121_34, mq_121_35, mq_121_36, mq_121_39, e2, i1, cj, hn2, em_in, i64, hk, t1, f2, Nat.reduceAdd, Nat.reduceMul, Nat.reduceSub, Nat.zero_add, sg_bi_i, sg_bi_n, sg_bz, sg_bb, sg_b_0, sg_b_1, if_true, if_false, not_true_eq_false, not_false_eq_true, true_and, and_true, false_and, and_false, and_self, Int32.reduceSub]
    · refine pair_same h (sg_i (-1)) σ σ ?_ (same_rfl σ) ?_ (same_rfl σ)
      · simp (decide := true) only [me_12, mq_12_0, mq_12_1, mq_12_2, mq_12_5, mq_12_8, mq_12_9, mq_12_12, mq_12_13, mq_12_14, mq_12_15, mq_12_18, mq_12_21, mq_12_22, mq_12_23, mq_12_24, mq_12_27, mq_12_30, mq_12_31, mq_12_34, mq_12_35, mq_12_36, mq_12_37, mq_12_38, mq_12_41, mq_12_44, mq_12_46, e1, i1, cj, e3, hk, Nat.reduceAdd, Nat.reduceMul, Nat.reduceSub, Nat.zero_add, sg_bi_i, sg_bi_n, sg_bz, sg_bb, sg_b_0, sg_b_1, if_true, if_false, not_true_eq_false, not_false_eq_true, true_and, and_true, false_and, and_false, and_self, Int32.reduceSub]
      · simp (decide := true) only [me_121, mq_121_0, mq_121_1, mq_121_2, mq_121_5, mq_121_8, mq_121_9, mq_121_10, mq_121_11, mq_121_12, mq_121_15, mq_121_16, mq_121_17, mq_121_18, mq_121_19, mq_121_20, mq_121_23, mq_121_26, mq_121_27, mq_121_28, mq_121_29, mq_121_30, mq_121_33, mq_121_34, mq_121_35, mq_121_36, mq_121_39, e2, i1, cj, hn2, em_in, i64, hk, Nat.reduceAdd, Nat.reduceMul, Nat.reduceSub, Nat.zero_add, sg_bi_i, sg_bi_n, sg_bz, sg_bb, sg_b_0, sg_b_1, if_true, if_false, not_true_eq_false, not_false_eq_true, true_and, and_true, false_and, and_false, and_self, Int32.reduceSub]
theorem pr_ofPiece {B : Int} {σ : sg_M} (p what : Int32) (h : iv_all B σ) : sg_pair B σ 19 126 [sg_i p, sg_i what] := by
  rcases pc_cases h.2.2.2.2.2 p with hno | ⟨j, n, hj, rfl, hpc, hp⟩
  · refine pair_same h (sg_i (-1)) σ σ ?_ (same_rfl σ) ?_ (same_rfl σ)
    · simp (decide := true) only [me_19, mq_19_0, mq_19_1, mq_19_2, mq_19_5, mq_19_8, mq_19_9, mq_19_10, mq_19_11, mq_19_14, mq_19_17, mq_19_18, mq_19_21, mq_19_22, mq_19_23, mq_19_24, mq_19_27, mq_19_30, mq_19_32, (hno σ).1 rfl, Nat.reduceAdd, Nat.reduceMul, Nat.reduceSub, Nat.zero_add, sg_bi_i, sg_bi_n, sg_bz, sg_bb, sg_b_0, sg_b_1, if_true, if_false, not_true_eq_false, not_false_eq_true, true_and, and_true, false_and, and_false, and_self, Int32.reduceSub]
    · simp (decide := true) only [me_126, mq_126_0, mq_126_1, mq_126_2, mq_126_5, mq_126_8, mq_126_9, mq_126_10, mq_126_11, mq_126_12, mq_126_15, mq_126_16, mq_126_17, mq_126_20, (hno σ).2 rfl, Nat.reduceAdd, Nat.reduceMul, Nat.reduceSub, Nat.zero_add, sg_bi_i, sg_bi_n, sg_bz, sg_bb, sg_b_0, sg_b_1, if_true, if_false, not_true_eq_false, not_false_eq_true, true_and, and_true, false_and, and_false, and_self, Int32.reduceSub]
  · have e1 := (hp σ).1 rfl
    have e2 := (hp σ).2 rfl
    have i1 : sg_in (nI j) 8 = true := sg_in_nI (by omega) (by omega)
    have cj : (nI j).toNatClampNeg = j := sg_nIc (by omega)
    obtain ⟨⟨n1, n8⟩, hn, hn2, -, -, hi, -⟩ := id hpc
    obtain ⟨t1, t2, t3⟩ := em_take hj hpc
    obtain ⟨r1, r2, -⟩ := tk_rl hpc
    have f2 := em_factA (sg_mP (sg_tk σ j) 0 (fn_tk σ j) (σ 131)) n what n1 n8 (by rw [mP_120 _ _ _ _ (by omega)]; exact t2)
    rw [mp_mP, mP_x _ _ _ _ (by omega), tk_127, ← fn_fa_c n1 r2 r1] at f2
    by_cases hw : 0 ≤ what ∧ what ≤ 5
    · have f1 := ev_factA σ (19 + 6 * j) n what n1 n8 hn hw
      rw [if_pos hw] at f2
      refine pair_same h (sg_i (fn_fa n (σ (19 + 6 * j + 1)) (fn_cp σ (19 + 6 * j)) what)) σ _ ?_ (same_rfl σ) ?_ (same_mP σ j 0 (fn_tk σ j) (σ 131))
      · simp (decide := true) only [me_19, mq_19_0, mq_19_1, mq_19_2, mq_19_5, mq_19_8, mq_19_9, mq_19_10, mq_19_11, mq_19_14, mq_19_17, mq_19_18, mq_19_21, mq_19_22, mq_19_23, mq_19_24, mq_19_27, mq_19_30, mq_19_32, e1, i1, cj, ev_isFact, hw, f1, Nat.reduceAdd, Nat.reduceMul, Nat.reduceSub, Nat.zero_add, sg_bi_i, sg_bi_n, sg_bz, sg_bb, sg_b_0, sg_b_1, if_true, if_false, not_true_eq_false, not_false_eq_true, true_and, and_true, false_and, and_false, and_self, Int32.reduceSub]
      · simp (decide := true) only [me_126, mq_126_0, mq_126_1, mq_126_2, mq_126_5, mq_126_8, mq_126_9, mq_126_10, mq_126_11, mq_126_12, mq_126_15, mq_126_16, mq_126_17, mq_126_20, e2, t1, f2, Nat.reduceAdd, Nat.reduceMul, Nat.reduceSub, Nat.zero_add, sg_bi_i, sg_bi_n, sg_bz, sg_bb, sg_b_0, sg_b_1, if_true, if_false, not_true_eq_false, not_false_eq_true, true_and, and_true, false_and, and_false, and_self, Int32.reduceSub]
    · rw [if_neg hw] at f2
      refine pair_same h (sg_i (-2)) σ _ ?_ (same_rfl σ) ?_ (same_mP σ j 0 (fn_tk σ j) (σ 131))
      · simp (decide := true) only [me_19, mq_19_0, mq_19_1, mq_19_2, mq_19_5, mq_19_8, mq_19_9, mq_19_10, mq_19_11, mq_19_14, mq_19_17, mq_19_18, mq_19_21, mq_19_22, mq_19_23, mq_19_24, mq_19_27, mq_19_30, mq_19_32, e1, i1, cj, ev_isFact, hw, Nat.reduceAdd, Nat.reduceMul, Nat.reduceSub, Nat.zero_add, sg_bi_i, sg_bi_n, sg_bz, sg_bb, sg_b_0, sg_b_1, if_true, if_false, not_true_eq_false, not_false_eq_true, true_and, and_true, false_and, and_false, and_self, Int32.reduceSub]
      · simp (decide := true) only [me_126, mq_126_0, mq_126_1, mq_126_2, mq_126_5, mq_126_8, mq_126_9, mq_126_10, mq_126_11, mq_126_12, mq_126_15, mq_126_16, mq_126_17, mq_126_20, e2, t1, f2, Nat.reduceAdd, Nat.reduceMul, Nat.reduceSub, Nat.zero_add, sg_bi_i, sg_bi_n, sg_bz, sg_bb, sg_b_0, sg_b_1, if_true, if_false, not_true_eq_false, not_false_eq_true, true_and, and_true, false_and, and_false, and_self, Int32.reduceSub]
