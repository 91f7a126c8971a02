/-! RECIPE -/
def fn_pl (e : Int32) (o : Option Nat) : Int32 := match o with
  | none => e
  | some p => nI p
theorem ev_read_l (b c : Nat) (hb : b ≤ 60) (hc : 91 ≤ c) : ∀ m a k (M : sg_M) (y4 y5 y6 : sg_V), k + m = 8 → a ≤ b → (m = 0 → 1 ≤ a) → M 10 1 = nI b → M c 2 = nI k →
    ∃ M' : sg_M, sg_rv 35 9 M [sg_r 3 c, sg_r 4 10, sg_i (nI a), sg_i (nI k), y4, y5, y6] [] = some (some (sg_i (fn_pl (-1) (fn_rd (fn_co (M 11) b) b m a k (M (c + 1)) (M (c + 2))).1)), M') ∧ M' c 2 = nI (fn_rd (fn_co (M 11) b) b m a k (M (c + 1)) (M (c + 2))).2.1 ∧ M' (c + 1) = (fn_rd (fn_co (M 11) b) b m a k (M (c + 1)) (M (c + 2))).2.2.1 ∧ M' (c + 2) = (fn_rd (fn_co (M 11) b) b m a k (M (c + 1)) (M (c + 2))).2.2.2 ∧ (∀ j, j ≠ 2 → M' c j = M c j) ∧ (∀ y, y ≠ c → y ≠ c + 1 → y ≠ c + 2 → M' y = M y) := by
  have c8 : ∀ k, k ≤ 8 → ((nI k < 8) = (k < 8)) := fun k hk => by rw [show (8 : Int32) = nI 8 from rfl, eq_iff_iff]; exact nI_ltI (by omega) (by omega)
  intro m
  induction m with
  | zero =>
    intro a k M y4 y5 y6 hk ha h1 hl hm
    obtain rfl : k = 8 := by omega
    obtain ⟨x, rfl⟩ : ∃ x, a = x + 1 := ⟨a - 1, by have := h1 rfl; omega⟩
    refine ⟨M, ?_, hm, rfl, rfl, fun _ _ => rfl, fun _ _ _ _ => rfl⟩
    simp (decide := true) only [mq_35_9, mq_35_10, mq_35_12, mq_35_143, mq_35_144, mq_35_145, mq_35_146, c8 8 (by omega), show ¬ 8 < 8 by omega, nI_pred, fn_rd, fn_pl, Nat.add_sub_cancel, Nat.reduceAdd, Nat.reduceMul, Nat.reduceSub, Nat.zero_add, sg_bi_i, sg_bi_n, sg_bz, sg_bb, sg_b_0, sg_b_1, if_true, if_false, not_true_eq_false, not_false_eq_true, true_and, and_true, false_and, and_false, and_self, Int32.reduceSub]
  | succ m ih =>
    intro a k M y4 y5 y6 hk ha h1 hl hm
    have hle := ev_letter M b a hb (by omega) hl
    generalize hC : fn_co (M 11) b = C at hle ⊢
    have l7 := fn_le_7 (C a)
    have head : sg_rv 35 9 M [sg_r 3 c, sg_r 4 10, sg_i (nI a), sg_i (nI k), y4, y5, y6] [] = sg_rv 35 22 M [sg_r 3 c, sg_r 4 10, sg_i (nI a), sg_i (nI k), sg_i (if fn_le (C a) = 7 then -1 else nI (fn_le (C a))), y5, y6] [] := by
      simp (decide := true) only [mq_35_9, mq_35_10, mq_35_12, mq_35_15, mq_35_16, mq_35_17, mq_35_20, c8 k (by omega), show k < 8 by omega, hle, Nat.reduceAdd, Nat.reduceMul, Nat.reduceSub, Nat.zero_add, sg_bi_i, sg_bi_n, sg_bz, sg_bb, sg_b_0, sg_b_1, if_true, if_false, not_true_eq_false, not_false_eq_true, true_and, and_true, false_and, and_false, and_self, Int32.reduceSub]
    rw [head]
    simp only [fn_rd]
    by_cases g1 : fn_le (C a) = 7
    · rw [if_pos g1, if_pos g1]
      refine ⟨M, ?_, hm, rfl, rfl, fun _ _ => rfl, fun _ _ _ _ => rfl⟩
      simp (decide := true) only [mq_35_22, mq_35_24, mq_35_27, mq_35_28, fn_pl, Nat.reduceAdd, Nat.reduceMul, Nat.reduceSub, Nat.zero_add, sg_bi_i, sg_bi_n, sg_bz, sg_bb, sg_b_0, sg_b_1, if_true, if_false, not_true_eq_false, not_false_eq_true, true_and, and_true, false_and, and_false, and_self, Int32.reduceSub]
    · rw [if_neg g1, if_neg g1]
      have hL : fn_le (C a) < 7 := by omega
      have iL : sg_in (nI (fn_le (C a))) 7 = true := sg_in_nI hL (by omega)
      have cL : (nI (fn_le (C a))).toNatClampNeg = fn_le (C a) := sg_nIc (by omega)
      have nL : ¬ nI (fn_le (C a)) < 0 := nI_pos (by omega)
      have hdg : sg_ev 38 M [sg_r 4 10, sg_i (nI (a + 1)), sg_i (nI (fn_md (fn_le (C a))))] = some (some (sg_i (nI (fn_D C a).1)), M) := by
        have := ev_digits_l M b (a + 1) (fn_md (fn_le (C a))) hb (by omega) (fn_md_2 _) hl (fn_md (fn_le (C a))) 0 0 (by omega)
        rw [hC, nI_0] at this
        simp (decide := true) only [me_38, mq_38_0, mq_38_1, this, fn_D, Nat.reduceAdd, Nat.reduceMul, Nat.reduceSub, Nat.zero_add, sg_bi_i, sg_bi_n, sg_bz, sg_bb, sg_b_0, sg_b_1, if_true, if_false, not_true_eq_false, not_false_eq_true, true_and, and_true, false_and, and_false, and_self, Int32.reduceSub]
      have hd2 := (fn_dn_ge C (a + 1) (fn_md (fn_le (C a))) 0 0).2
      have hd2 : (fn_D C a).1 ≤ 2 := by
        have := fn_md_2 (fn_le (C a))
        unfold fn_D
        omega
      have hnm : sg_ev 39 M [sg_r 4 10, sg_i (nI (a + 1)), sg_i (nI (fn_D C a).1)] = some (some (sg_i (fn_D C a).2), M) := by
        have := ev_number_l M b (a + 1) (fn_D C a).1 hb (by omega) hd2 hl (fn_md (fn_le (C a))) 0 0 (by rw [hC]; rfl)
        rw [hC, nI_0] at this
        change _ = some (some (sg_i (fn_D C a).2), M) at this
        simp (decide := true) only [me_39, mq_39_0, mq_39_1, mq_39_2, mq_39_3, this, Nat.reduceAdd, Nat.reduceMul, Nat.reduceSub, Nat.zero_add, sg_bi_i, sg_bi_n, sg_bz, sg_bb, sg_b_0, sg_b_1, if_true, if_false, not_true_eq_false, not_false_eq_true, true_and, and_true, false_and, and_false, and_self, Int32.reduceSub]
      have hin : a < b → a + 1 + (fn_D C a).1 ≤ b := fun h => by
        have := fn_dn_in (M 11) b (a + 1) (fn_md (fn_le (C a))) 0 0 (by omega)
        rw [hC] at this
        exact this
      have hab : a < b := by
        refine Nat.lt_of_not_le fun h => g1 ?_
        rw [← hC]
        unfold fn_co
        rw [if_neg (by omega)]
        exact fn_le_m1
      have hin := hin hab
      have h2' : sg_rv 35 22 M [sg_r 3 c, sg_r 4 10, sg_i (nI a), sg_i (nI k), sg_i (nI (fn_le (C a))), y5, y6] [] = sg_rv 35 55 M [sg_r 3 c, sg_r 4 10, sg_i (nI a), sg_i (nI k), sg_i (nI (fn_le (C a))), sg_i (nI (fn_D C a).1), sg_i (fn_D C a).2] [] := by
        simp (decide := true) only [mq_35_22, mq_35_24, mq_35_27, mq_35_28, mq_35_29, mq_35_30, mq_35_31, mq_35_32, mq_35_33, mq_35_36, mq_35_38, mq_35_39, mq_35_42, mq_35_44, mq_35_45, mq_35_46, mq_35_47, mq_35_48, mq_35_50, mq_35_53, nL, iL, cL, fn_md_ro M hL, nI_1, hdg, hnm, Nat.reduceAdd, Nat.reduceMul, Nat.reduceSub, Nat.zero_add, sg_bi_i, sg_bi_n, sg_bz, sg_bb, sg_b_0, sg_b_1, if_true, if_false, not_true_eq_false, not_false_eq_true, true_and, and_true, false_and, and_false, and_self, Int32.reduceSub]
      rw [h2']
      have d0 : (nI (fn_D C a).1 = 0) = ((fn_D C a).1 = 0) := by rw [show (0 : Int32) = nI 0 from rfl, eq_iff_iff]; exact nI_eq (by omega) (by omega)
      have okE := fn_ok_lm M (fn_le (C a)) (fn_D C a).2 hL
      by_cases g2 : (fn_D C a).1 = 0 ∨ fn_ok (fn_le (C a)) (fn_D C a).2 = false
      · rw [if_pos g2]
        refine ⟨M, ?_, hm, rfl, rfl, fun _ _ => rfl, fun _ _ _ _ => rfl⟩
        rcases g2 with g2 | g2
        · simp (decide := true) only [mq_35_55, mq_35_57, mq_35_60, mq_35_62, mq_35_65, mq_35_67, mq_35_68, mq_35_71, mq_35_73, mq_35_74, mq_35_77, mq_35_80, mq_35_81, mq_35_82, mq_35_83, d0, eq_true g2, nI_1, fn_pl, Nat.reduceAdd, Nat.reduceMul, Nat.reduceSub, Nat.zero_add, sg_bi_i, sg_bi_n, sg_bz, sg_bb, sg_b_0, sg_b_1, if_true, if_false, not_true_eq_false, not_false_eq_true, true_and, and_true, false_and, and_false, and_self, Int32.reduceSub]
        · by_cases g3 : (fn_D C a).1 = 0
          · simp (decide := true) only [mq_35_55, mq_35_57, mq_35_60, mq_35_62, mq_35_65, mq_35_67, mq_35_68, mq_35_71, mq_35_73, mq_35_74, mq_35_77, mq_35_80, mq_35_81, mq_35_82, mq_35_83, d0, eq_true g3, nI_1, fn_pl, Nat.reduceAdd, Nat.reduceMul, Nat.reduceSub, Nat.zero_add, sg_bi_i, sg_bi_n, sg_bz, sg_bb, sg_b_0, sg_b_1, if_true, if_false, not_true_eq_false, not_false_eq_true, true_and, and_true, false_and, and_false, and_self, Int32.reduceSub]
          · simp (decide := true) only [mq_35_55, mq_35_57, mq_35_60, mq_35_62, mq_35_65, mq_35_67, mq_35_68, mq_35_71, mq_35_73, mq_35_74, mq_35_77, mq_35_80, mq_35_81, mq_35_82, mq_35_83, d0, g3, iL, cL, ev_within, okE, g2, Bool.false_eq_true, nI_1, fn_pl, Nat.reduceAdd, Nat.reduceMul, Nat.reduceSub, Nat.zero_add, sg_bi_i, sg_bi_n, sg_bz, sg_bb, sg_b_0, sg_b_1, if_true, if_false, not_true_eq_false, not_false_eq_true, true_and, and_true, false_and, and_false, and_self, Int32.reduceSub]
      · rw [if_neg g2]
        obtain ⟨g3, g4⟩ := not_or.mp g2
        have g4 : fn_ok (fn_le (C a)) (fn_D C a).2 = true := by simpa using g4
        have ik : sg_in (nI k) 8 = true := sg_in_nI (by omega) (by omega)
        have ck : (nI k).toNatClampNeg = k := sg_nIc (by omega)
        have e1 : (1 : Int32) + nI (fn_D C a).1 = nI (1 + (fn_D C a).1) := nI_add 1 _
        have e2 : nI a + nI (1 + (fn_D C a).1) = nI (a + 1 + (fn_D C a).1) := by rw [nI_add, Nat.add_assoc]
        generalize hN : sg_up (sg_up (sg_up M (c + 1) k (nI (fn_le (C a)))) (c + 2) k (fn_D C a).2) c 2 (nI (k + 1)) = N
        have n2 : N c 2 = nI (k + 1) := by rw [← hN, sg_up_at]
        have nr1 : N (c + 1) = upd (M (c + 1)) k (nI (fn_le (C a))) := by rw [← hN, sg_up_ne (by omega), sg_up_ne (by omega), sg_up_row]
        have nr2 : N (c + 2) = upd (M (c + 2)) k (fn_D C a).2 := by rw [← hN, sg_up_ne (by omega), sg_up_row, sg_up_ne (by omega)]
        have nj : ∀ j, j ≠ 2 → N c j = M c j := fun j hj => by rw [← hN, sg_up_at_ne hj, sg_up_ne (by omega), sg_up_ne (by omega)]
        have nx : ∀ y, y ≠ c → y ≠ c + 1 → y ≠ c + 2 → N y = M y := fun y q1 q2 q3 => by rw [← hN, sg_up_ne q1, sg_up_ne q3, sg_up_ne q2]
        have nl : N 10 1 = nI b := by rw [nx 10 (by omega) (by omega) (by omega)]; exact hl
        have n11 : N 11 = M 11 := nx 11 (by omega) (by omega) (by omega)
        have h3 : sg_rv 35 55 M [sg_r 3 c, sg_r 4 10, sg_i (nI a), sg_i (nI k), sg_i (nI (fn_le (C a))), sg_i (nI (fn_D C a).1), sg_i (fn_D C a).2] [] = sg_rv 35 114 N [sg_r 3 c, sg_r 4 10, sg_i (nI (a + 1 + (fn_D C a).1)), sg_i (nI k), sg_i (nI (fn_le (C a))), sg_i (nI (fn_D C a).1), sg_i (fn_D C a).2] [] := by
          simp (decide := true) only [mq_35_55, mq_35_57, mq_35_60, mq_35_62, mq_35_65, mq_35_67, mq_35_68, mq_35_71, mq_35_73, mq_35_74, mq_35_77, mq_35_80, mq_35_81, mq_35_82, mq_35_83, mq_35_84, mq_35_85, mq_35_88, mq_35_89, mq_35_91, mq_35_92, mq_35_93, mq_35_96, mq_35_97, mq_35_99, mq_35_100, mq_35_101, mq_35_102, mq_35_103, mq_35_104, mq_35_107, mq_35_108, mq_35_109, mq_35_111, mq_35_112, mq_35_113, d0, g3, iL, cL, ev_within, okE, g4, ik, ck, nI_1, e1, e2, hN, Nat.reduceAdd, Nat.reduceMul, Nat.reduceSub, Nat.zero_add, sg_bi_i, sg_bi_n, sg_bz, sg_bb, sg_b_0, sg_b_1, if_true, if_false, not_true_eq_false, not_false_eq_true, true_and, and_true, false_and, and_false, and_self, Int32.reduceSub]
        rw [h3]
        have hco := ev_co N b (a + 1 + (fn_D C a).1) hb (by omega) nl
        rw [n11, hC] at hco
        have eb : (nI (a + 1 + (fn_D C a).1) = nI b) = (a + 1 + (fn_D C a).1 = b) := by rw [eq_iff_iff]; exact nI_eq (by omega) (by omega)
        by_cases g5 : a + 1 + (fn_D C a).1 = b
        · rw [if_pos g5]
          refine ⟨N, ?_, n2, nr1, nr2, nj, nx⟩
          simp (decide := true) only [mq_35_114, mq_35_115, mq_35_116, mq_35_119, mq_35_122, mq_35_123, me_40, mq_40_0, mq_40_1, mq_40_2, mq_40_5, mq_40_8, mq_40_9, mq_40_12, mq_40_13, nl, eb, eq_true g5, fn_pl, Nat.reduceAdd, Nat.reduceMul, Nat.reduceSub, Nat.zero_add, sg_bi_i, sg_bi_n, sg_bz, sg_bb, sg_b_0, sg_b_1, if_true, if_false, not_true_eq_false, not_false_eq_true, true_and, and_true, false_and, and_false, and_self, Int32.reduceSub]
        · rw [if_neg g5]
          by_cases g6 : C (a + 1 + (fn_D C a).1) = 59
          · rw [if_pos g6]
            obtain ⟨M', q1, q2, q3, q4, q5, q6⟩ := ih (a + 1 + (fn_D C a).1 + 1) (k + 1) N (sg_i (nI (fn_le (C a)))) (sg_i (nI (fn_D C a).1)) (sg_i (fn_D C a).2) (by omega) (by omega) (by omega) nl n2
            rw [n11, hC, nr1, nr2] at q1 q2 q3 q4
            refine ⟨M', ?_, q2, q3, q4, fun j hj => by rw [q5 j hj, nj j hj], fun y z1 z2 z3 => by rw [q6 y z1 z2 z3, nx y z1 z2 z3]⟩
            rw [← q1]
            simp (decide := true) only [mq_35_114, mq_35_115, mq_35_116, mq_35_119, mq_35_122, mq_35_123, mq_35_124, mq_35_125, mq_35_126, mq_35_129, mq_35_132, mq_35_133, mq_35_134, mq_35_137, mq_35_140, me_40, mq_40_0, mq_40_1, mq_40_2, mq_40_5, mq_40_8, mq_40_9, mq_40_12, mq_40_13, me_41, mq_41_0, mq_41_1, mq_41_2, mq_41_5, mq_41_7, mq_41_10, mq_41_11, mq_41_14, mq_41_15, nl, eb, g5, hco, g6, nI_1, Nat.reduceAdd, Nat.reduceMul, Nat.reduceSub, Nat.zero_add, sg_bi_i, sg_bi_n, sg_bz, sg_bb, sg_b_0, sg_b_1, if_true, if_false, not_true_eq_false, not_false_eq_true, true_and, and_true, false_and, and_false, and_self, Int32.reduceSub]
          · rw [if_neg g6]
            refine ⟨N, ?_, n2, nr1, nr2, nj, nx⟩
            simp (decide := true) only [mq_35_114, mq_35_115, mq_35_116, mq_35_119, mq_35_122, mq_35_123, mq_35_124, mq_35_125, mq_35_126, mq_35_129, mq_35_132, mq_35_133, me_40, mq_40_0, mq_40_1, mq_40_2, mq_40_5, mq_40_8, mq_40_9, mq_40_12, mq_40_13, me_41, mq_41_0, mq_41_1, mq_41_2, mq_41_5, mq_41_7, mq_41_10, mq_41_11, mq_41_14, mq_41_15, nl, eb, g5, hco, g6, fn_pl, Nat.reduceAdd, Nat.reduceMul, Nat.reduceSub, Nat.zero_add, sg_bi_i, sg_bi_n, sg_bz, sg_bb, sg_b_0, sg_b_1, if_true, if_false, not_true_eq_false, not_false_eq_true, true_and, and_true, false_and, and_false, and_self, Int32.reduceSub]
/-- the model's digits -/
theorem em_dn_l (M : sg_M) (F b s L : Nat) (y4 : sg_V) (hF : F + b ≤ 240) (hb : b ≤ 60) (hL : L < 7) : ∀ m d (v : Int32), d + m = fn_md L → s + d ≤ b → sg_rv 143 54 M [sg_r 7 120, sg_i (nI F), sg_i (nI b), sg_i (nI (s + d)), y4, sg_i (nI L), sg_i (nI s), sg_i v] [] = sg_rv 143 123 M [sg_r 7 120, sg_i (nI F), sg_i (nI b), sg_i (nI (s + (fn_dn (fn_co (fun j => M 144 (F + j)) b) s m d v).1)), y4, sg_i (nI L), sg_i (nI s), sg_i (fn_dn (fn_co (fun j => M 144 (F + j)) b) s m d v).2] [] := by
  have md : fn_md L = 2 ∨ fn_md L = 1 := by unfold fn_md; split <;> omega
  have e4 : (nI L < 4) = (L < 4) := by rw [show (4 : Int32) = nI 4 from rfl, eq_iff_iff]; exact nI_ltI (by omega) (by omega)
  have s2 : nI s + 2 = nI (s + 2) := nI_p2 s
  intro m
  induction m with
  | zero =>
    intro d v hd hs
    simp only [fn_dn]
    by_cases hb2 : s + d < b
    · by_cases h4 : L < 4
      · have e : fn_md L = 2 := by unfold fn_md; rw [if_pos h4]
        have c2 : (nI (s + d) < nI (s + 2)) = False := eq_false (by rw [nI_ltI (by omega) (by omega)]; omega)
        simp (decide := true) only [mq_143_54, mq_143_55, mq_143_56, mq_143_59, mq_143_60, mq_143_62, mq_143_64, mq_143_65, mq_143_68, mq_143_69, mq_143_72, mq_143_73, mq_143_74, nI_ltI (show s + d < 2 ^ 31 by omega) (show b < 2 ^ 31 by omega), hb2, e4, h4, s2, c2, Nat.reduceAdd, Nat.reduceMul, Nat.reduceSub, Nat.zero_add, sg_bi_i, sg_bi_n, sg_bz, sg_bb, sg_b_0, sg_b_1, if_true, if_false, not_true_eq_false, not_false_eq_true, true_and, and_true, false_and, and_false, and_self, Int32.reduceSub]
      · have e : fn_md L = 1 := by unfold fn_md; rw [if_neg h4]
        have c2 : (nI (s + d) < nI (s + 1)) = False := eq_false (by rw [nI_ltI (by omega) (by omega)]; omega)
        simp (decide := true) only [mq_143_54, mq_143_55, mq_143_56, mq_143_59, mq_143_60, mq_143_62, mq_143_64, mq_143_65, mq_143_68, mq_143_69, mq_143_72, mq_143_73, mq_143_74, nI_ltI (show s + d < 2 ^ 31 by omega) (show b < 2 ^ 31 by omega), hb2, e4, h4, nI_1, c2, Nat.reduceAdd, Nat.reduceMul, Nat.reduceSub, Nat.zero_add, sg_bi_i, sg_bi_n, sg_bz, sg_bb, sg_b_0, sg_b_1, if_true, if_false, not_true_eq_false, not_false_eq_true, true_and, and_true, false_and, and_false, and_self, Int32.reduceSub]
    · simp (decide := true) only [mq_143_54, mq_143_55, mq_143_56, nI_ltI (show s + d < 2 ^ 31 by omega) (show b < 2 ^ 31 by omega), hb2, Nat.reduceAdd, Nat.reduceMul, Nat.reduceSub, Nat.zero_add, sg_bi_i, sg_bi_n, sg_bz, sg_bb, sg_b_0, sg_b_1, if_true, if_false, not_true_eq_false, not_false_eq_true, true_and, and_true, false_and, and_false, and_self, Int32.reduceSub]
  | succ m ih =>
    intro d v hd hs
    simp only [fn_dn]
    by_cases hb2 : s + d < b
    · have eC : fn_co (fun j => M 144 (F + j)) b (s + d) = M 144 (F + (s + d)) := by unfold fn_co; rw [if_pos hb2]
      have e64 := sg_i64 (M 144 (F + (s + d))) 48 57 48 57 (by decide) (by decide)
      have i1 : sg_in (nI (F + (s + d))) 240 = true := sg_in_nI (by omega) (by omega)
      have c1 : (nI (F + (s + d))).toNatClampNeg = F + (s + d) := sg_nIc (by omega)
      have hd3 : s + d + 1 = s + (d + 1) := by omega
      have bnd : sg_rv 143 54 M [sg_r 7 120, sg_i (nI F), sg_i (nI b), sg_i (nI (s + d)), y4, sg_i (nI L), sg_i (nI s), sg_i v] [] = sg_rv 143 77 M [sg_r 7 120, sg_i (nI F), sg_i (nI b), sg_i (nI (s + d)), y4, sg_i (nI L), sg_i (nI s), sg_i v] [] := by
        by_cases h4 : L < 4
        · have e : fn_md L = 2 := by unfold fn_md; rw [if_pos h4]
          have c2 : (nI (s + d) < nI (s + 2)) = True := eq_true (by rw [nI_ltI (by omega) (by omega)]; omega)
          simp (decide := true) only [mq_143_54, mq_143_55, mq_143_56, mq_143_59, mq_143_60, mq_143_62, mq_143_64, mq_143_65, mq_143_68, mq_143_69, mq_143_72, mq_143_73, mq_143_74, nI_ltI (show s + d < 2 ^ 31 by omega) (show b < 2 ^ 31 by omega), hb2, e4, h4, s2, c2, Nat.reduceAdd, Nat.reduceMul, Nat.reduceSub, Nat.zero_add, sg_bi_i, sg_bi_n, sg_bz, sg_bb, sg_b_0, sg_b_1, if_true, if_false, not_true_eq_false, not_false_eq_true, true_and, and_true, false_and, and_false, and_self, Int32.reduceSub]
        · have e : fn_md L = 1 := by unfold fn_md; rw [if_neg h4]
          have c2 : (nI (s + d) < nI (s + 1)) = True := eq_true (by rw [nI_ltI (by omega) (by omega)]; omega)
          simp (decide := true) only [mq_143_54, mq_143_55, mq_143_56, mq_143_59, mq_143_60, mq_143_62, mq_143_64, mq_143_65, mq_143_68, mq_143_69, mq_143_72, mq_143_73, mq_143_74, nI_ltI (show s + d < 2 ^ 31 by omega) (show b < 2 ^ 31 by omega), hb2, e4, h4, nI_1, c2, Nat.reduceAdd, Nat.reduceMul, Nat.reduceSub, Nat.zero_add, sg_bi_i, sg_bi_n, sg_bz, sg_bb, sg_b_0, sg_b_1, if_true, if_false, not_true_eq_false, not_false_eq_true, true_and, and_true, false_and, and_false, and_self, Int32.reduceSub]
      rw [bnd, eC]
      by_cases hg : 48 ≤ M 144 (F + (s + d)) ∧ M 144 (F + (s + d)) ≤ 57
      · rw [if_pos hg]
        have := ih (d + 1) (10 * v + M 144 (F + (s + d)) - 48) (by omega) (by omega)
        rw [← this]
        simp (decide := true) only [mq_143_77, mq_143_78, mq_143_81, mq_143_82, mq_143_83, mq_143_84, mq_143_85, mq_143_86, mq_143_89, mq_143_92, mq_143_95, mq_143_98, mq_143_100, mq_143_102, mq_143_103, mq_143_104, mq_143_107, mq_143_108, mq_143_109, mq_143_110, mq_143_111, mq_143_112, mq_143_114, mq_143_115, mq_143_117, mq_143_120, nI_add, i1, c1, em_in, e64, hg, nI_1, hd3, Nat.reduceAdd, Nat.reduceMul, Nat.reduceSub, Nat.zero_add, sg_bi_i, sg_bi_n, sg_bz, sg_bb, sg_b_0, sg_b_1, if_true, if_false, not_true_eq_false, not_false_eq_true, true_and, and_true, false_and, and_false, and_self, Int32.reduceSub]
      · rw [if_neg hg]
        simp (decide := true) only [mq_143_77, mq_143_78, mq_143_81, mq_143_82, mq_143_83, mq_143_84, mq_143_85, mq_143_86, mq_143_89, mq_143_92, mq_143_95, nI_add, i1, c1, em_in, e64, hg, Nat.reduceAdd, Nat.reduceMul, Nat.reduceSub, Nat.zero_add, sg_bi_i, sg_bi_n, sg_bz, sg_bb, sg_b_0, sg_b_1, if_true, if_false, not_true_eq_false, not_false_eq_true, true_and, and_true, false_and, and_false, and_self, Int32.reduceSub]
    · have eC : fn_co (fun j => M 144 (F + j)) b (s + d) = -1 := by unfold fn_co; rw [if_neg hb2]
      rw [eC, if_neg (by decide)]
      simp (decide := true) only [mq_143_54, mq_143_55, mq_143_56, nI_ltI (show s + d < 2 ^ 31 by omega) (show b < 2 ^ 31 by omega), hb2, Nat.reduceAdd, Nat.reduceMul, Nat.reduceSub, Nat.zero_add, sg_bi_i, sg_bi_n, sg_bz, sg_bb, sg_b_0, sg_b_1, if_true, if_false, not_true_eq_false, not_false_eq_true, true_and, and_true, false_and, and_false, and_self, Int32.reduceSub]
def em_rdP (F b m : Nat) : Prop := ∀ a k (M : sg_M) (y5 y6 y7 : sg_V), k + (m + 1) = 8 → a ≤ b → M 120 20 = nI k →
    ∃ M' : sg_M, sg_rv 143 10 M [sg_r 7 120, sg_i (nI F), sg_i (nI b), sg_i (nI a), sg_i 1, y5, y6, y7] [] = some (some (sg_i (fn_pl (-9) (fn_rd (fn_co (fun j => M 144 (F + j)) b) b (m + 1) a k (M 135) (M 136)).1)), M') ∧ M' 120 20 = nI (fn_rd (fn_co (fun j => M 144 (F + j)) b) b (m + 1) a k (M 135) (M 136)).2.1 ∧ M' 135 = (fn_rd (fn_co (fun j => M 144 (F + j)) b) b (m + 1) a k (M 135) (M 136)).2.2.1 ∧ M' 136 = (fn_rd (fn_co (fun j => M 144 (F + j)) b) b (m + 1) a k (M 135) (M 136)).2.2.2 ∧ (∀ j, j ≠ 20 → M' 120 j = M 120 j) ∧ (∀ y, y ≠ 120 → y ≠ 135 → y ≠ 136 → M' y = M y)
theorem em_read_s (F b : Nat) (hF : F + b ≤ 240) (hb : b ≤ 60) (m : Nat) (ih : ∀ m', m = m' + 1 → em_rdP F b m') : em_rdP F b m := by
  intro a k M y5 y6 y7 hk ha hm
  generalize hC : fn_co (fun j => M 144 (F + j)) b = C
  have l7 := fn_le_7 (C a)
  have nL9 : (-9 : Int32) < 0 := by decide
  have head : sg_rv 143 10 M [sg_r 7 120, sg_i (nI F), sg_i (nI b), sg_i (nI a), sg_i 1, y5, y6, y7] [] = sg_rv 143 38 M [sg_r 7 120, sg_i (nI F), sg_i (nI b), sg_i (nI a), sg_i 1, sg_i (if fn_le (C a) = 7 then -9 else nI (fn_le (C a))), y6, y7] [] := by
    by_cases hab : a < b
    · have i1 : sg_in (nI (F + a)) 240 = true := sg_in_nI (by omega) (by omega)
      have c1 : (nI (F + a)).toNatClampNeg = F + a := sg_nIc (by omega)
      have eC : C a = M 144 (F + a) := by rw [← hC]; unfold fn_co; rw [if_pos hab]
      simp (decide := true) only [mq_143_10, mq_143_12, mq_143_15, mq_143_16, mq_143_17, mq_143_20, mq_143_21, mq_143_24, mq_143_25, mq_143_26, mq_143_27, mq_143_28, mq_143_31, mq_143_34, mq_143_36, nI_ltI (show a < 2 ^ 31 by omega) (show b < 2 ^ 31 by omega), hab, nI_add, i1, c1, em_letter, eC, Nat.reduceAdd, Nat.reduceMul, Nat.reduceSub, Nat.zero_add, sg_bi_i, sg_bi_n, sg_bz, sg_bb, sg_b_0, sg_b_1, if_true, if_false, not_true_eq_false, not_false_eq_true, true_and, and_true, false_and, and_false, and_self, Int32.reduceSub]
    · have eC : fn_le (C a) = 7 := by rw [← hC]; unfold fn_co; rw [if_neg hab]; exact fn_le_m1
      simp (decide := true) only [mq_143_10, mq_143_12, mq_143_15, mq_143_16, mq_143_17, mq_143_20, mq_143_21, mq_143_24, mq_143_25, mq_143_26, mq_143_27, mq_143_28, mq_143_31, mq_143_34, mq_143_36, nI_ltI (show a < 2 ^ 31 by omega) (show b < 2 ^ 31 by omega), hab, eC, Nat.reduceAdd, Nat.reduceMul, Nat.reduceSub, Nat.zero_add, sg_bi_i, sg_bi_n, sg_bz, sg_bb, sg_b_0, sg_b_1, if_true, if_false, not_true_eq_false, not_false_eq_true, true_and, and_true, false_and, and_false, and_self, Int32.reduceSub]
  rw [head]
  simp only [fn_rd]
  by_cases g1 : fn_le (C a) = 7
  · rw [if_pos g1, if_pos g1]
    refine ⟨M, ?_, hm, rfl, rfl, fun _ _ => rfl, fun _ _ _ _ => rfl⟩
    simp (decide := true) only [mq_143_38, mq_143_40, mq_143_43, mq_143_44, fn_pl, Nat.reduceAdd, Nat.reduceMul, Nat.reduceSub, Nat.zero_add, sg_bi_i, sg_bi_n, sg_bz, sg_bb, sg_b_0, sg_b_1, if_true, if_false, not_true_eq_false, not_false_eq_true, true_and, and_true, false_and, and_false, and_self, Int32.reduceSub]
  · rw [if_neg g1, if_neg g1]
    have hL : fn_le (C a) < 7 := by omega
    have nL : ¬ nI (fn_le (C a)) < 0 := nI_pos (by omega)
    have hab : a < b := by
      refine Nat.lt_of_not_le fun h => g1 ?_
      rw [← hC]
      unfold fn_co
      rw [if_neg (by omega)]
      exact fn_le_m1
    have hin : a + 1 + (fn_D C a).1 ≤ b := by
      have := fn_dn_in (fun j => M 144 (F + j)) b (a + 1) (fn_md (fn_le (C a))) 0 0 (by omega)
      rw [hC] at this
      exact this
    have h2' : sg_rv 143 38 M [sg_r 7 120, sg_i (nI F), sg_i (nI b), sg_i (nI a), sg_i 1, sg_i (nI (fn_le (C a))), y6, y7] [] = sg_rv 143 123 M [sg_r 7 120, sg_i (nI F), sg_i (nI b), sg_i (nI (a + 1 + (fn_D C a).1)), sg_i 1, sg_i (nI (fn_le (C a))), sg_i (nI (a + 1)), sg_i (fn_D C a).2] [] := by
      have := em_dn_l M F b (a + 1) (fn_le (C a)) (sg_i 1) hF hb hL (fn_md (fn_le (C a))) 0 0 (by omega) (by omega)
      rw [hC, Nat.add_zero] at this
      simp (decide := true) only [mq_143_38, mq_143_40, mq_143_43, mq_143_44, mq_143_45, mq_143_48, mq_143_49, mq_143_51, mq_143_52, nL, nI_1, this, fn_D, Nat.reduceAdd, Nat.reduceMul, Nat.reduceSub, Nat.zero_add, sg_bi_i, sg_bi_n, sg_bz, sg_bb, sg_b_0, sg_b_1, if_true, if_false, not_true_eq_false, not_false_eq_true, true_and, and_true, false_and, and_false, and_self, Int32.reduceSub]
    rw [h2']
    have d0 : (nI (a + 1 + (fn_D C a).1) = nI (a + 1)) = ((fn_D C a).1 = 0) := by rw [eq_iff_iff, nI_eq (by omega) (by omega)]; omega
    by_cases g2 : (fn_D C a).1 = 0 ∨ fn_ok (fn_le (C a)) (fn_D C a).2 = false
    · rw [if_pos g2]
      refine ⟨M, ?_, hm, rfl, rfl, fun _ _ => rfl, fun _ _ _ _ => rfl⟩
      by_cases g3 : (fn_D C a).1 = 0
      · simp (decide := true) only [mq_143_123, mq_143_124, mq_143_126, mq_143_129, mq_143_131, mq_143_133, mq_143_136, mq_143_139, mq_143_141, d0, eq_true g3, fn_pl, Nat.reduceAdd, Nat.reduceMul, Nat.reduceSub, Nat.zero_add, sg_bi_i, sg_bi_n, sg_bz, sg_bb, sg_b_0, sg_b_1, if_true, if_false, not_true_eq_false, not_false_eq_true, true_and, and_true, false_and, and_false, and_self, Int32.reduceSub]
      · have g4 := g2.resolve_left g3
        simp (decide := true) only [mq_143_123, mq_143_124, mq_143_126, mq_143_129, mq_143_131, mq_143_133, mq_143_136, mq_143_139, mq_143_141, d0, g3, em_isNumber M (fn_le (C a)) (fn_D C a).2 hL, g4, Bool.false_eq_true, fn_pl, Nat.reduceAdd, Nat.reduceMul, Nat.reduceSub, Nat.zero_add, sg_bi_i, sg_bi_n, sg_bz, sg_bb, sg_b_0, sg_b_1, if_true, if_false, not_true_eq_false, not_false_eq_true, true_and, and_true, false_and, and_false, and_self, Int32.reduceSub]
    · rw [if_neg g2]
      obtain ⟨g3, g4⟩ := not_or.mp g2
      have g4 : fn_ok (fn_le (C a)) (fn_D C a).2 = true := by simpa using g4
      have ik : sg_in (nI k) 8 = true := sg_in_nI (by omega) (by omega)
      have ck : (nI k).toNatClampNeg = k := sg_nIc (by omega)
      generalize hN : sg_up (sg_up (sg_up M 135 k (nI (fn_le (C a)))) 136 k (fn_D C a).2) 120 20 (nI (k + 1)) = N
      have n2 : N 120 20 = nI (k + 1) := by rw [← hN, sg_up_at]
      have nr1 : N 135 = upd (M 135) k (nI (fn_le (C a))) := by rw [← hN, sg_up_ne (by omega), sg_up_ne (by omega), sg_up_row]
      have nr2 : N 136 = upd (M 136) k (fn_D C a).2 := by rw [← hN, sg_up_ne (by omega), sg_up_row, sg_up_ne (by omega)]
      have nj : ∀ j, j ≠ 20 → N 120 j = M 120 j := fun j hj => by rw [← hN, sg_up_at_ne hj, sg_up_ne (by omega), sg_up_ne (by omega)]
      have nx : ∀ y, y ≠ 120 → y ≠ 135 → y ≠ 136 → N y = M y := fun y q1 q2 q3 => by rw [← hN, sg_up_ne q1, sg_up_ne q3, sg_up_ne q2]
      have u1 : ∀ v, sg_up M 135 k v 120 = M 120 := fun v => sg_up_ne (by omega)
      have u2 : ∀ v w, sg_up (sg_up M 135 k v) 136 k w 120 = M 120 := fun v w => by rw [sg_up_ne (by omega), sg_up_ne (by omega)]
      have h3 : sg_rv 143 123 M [sg_r 7 120, sg_i (nI F), sg_i (nI b), sg_i (nI (a + 1 + (fn_D C a).1)), sg_i 1, sg_i (nI (fn_le (C a))), sg_i (nI (a + 1)), sg_i (fn_D C a).2] [] = sg_rv 143 174 N [sg_r 7 120, sg_i (nI F), sg_i (nI b), sg_i (nI (a + 1 + (fn_D C a).1)), sg_i 1, sg_i (nI (fn_le (C a))), sg_i (nI (a + 1)), sg_i (fn_D C a).2] [] := by
        simp (decide := true) only [mq_143_123, mq_143_124, mq_143_126, mq_143_129, mq_143_131, mq_143_133, mq_143_136, mq_143_139, mq_143_141, mq_143_142, mq_143_143, mq_143_146, mq_143_147, mq_143_150, mq_143_152, mq_143_153, mq_143_154, mq_143_157, mq_143_158, mq_143_161, mq_143_163, mq_143_164, mq_143_165, mq_143_166, mq_143_169, mq_143_170, mq_143_171, d0, g3, em_isNumber M (fn_le (C a)) (fn_D C a).2 hL, g4, hm, u1, u2, ik, ck, nI_1, hN, Nat.reduceAdd, Nat.reduceMul, Nat.reduceSub, Nat.zero_add, sg_bi_i, sg_bi_n, sg_bz, sg_bb, sg_b_0, sg_b_1, if_true, if_false, not_true_eq_false, not_false_eq_true, true_and, and_true, false_and, and_false, and_self, Int32.reduceSub]
      rw [h3]
      by_cases g5 : a + 1 + (fn_D C a).1 = b
      · rw [if_pos g5]
        refine ⟨N, ?_, n2, nr1, nr2, nj, nx⟩
        simp (decide := true) only [g5, mq_143_174, mq_143_175, mq_143_176, mq_143_179, mq_143_180, mq_143_183, mq_143_184, mq_143_186, mq_143_188, nI_ltI (show b < 2 ^ 31 by omega) (show b < 2 ^ 31 by omega), show ¬ b < b by omega, mq_143_215, mq_143_216, mq_143_218, mq_143_221, mq_143_222, mq_143_225, mq_143_226, mq_143_227, mq_143_228, mq_143_231, mq_143_233, mq_143_10, mq_143_12, fn_pl, Int32.add_zero, Nat.reduceAdd, Nat.reduceMul, Nat.reduceSub, Nat.zero_add, sg_bi_i, sg_bi_n, sg_bz, sg_bb, sg_b_0, sg_b_1, if_true, if_false, not_true_eq_false, not_false_eq_true, true_and, and_true, false_and, and_false, and_self, Int32.reduceSub]
      · rw [if_neg g5]
        have hlt : a + 1 + (fn_D C a).1 < b := by omega
        have i1 : sg_in (nI (F + (a + 1 + (fn_D C a).1))) 240 = true := sg_in_nI (by omega) (by omega)
        have c1 : (nI (F + (a + 1 + (fn_D C a).1))).toNatClampNeg = F + (a + 1 + (fn_D C a).1) := sg_nIc (by omega)
        have n144 : N 144 = M 144 := nx 144 (by omega) (by omega) (by omega)
        have eCg : ∀ j, j < b → M 144 (F + j) = C j := fun j hj => by rw [← hC]; unfold fn_co; rw [if_pos hj]
        have eC := eCg _ hlt
        have c8 : (nI (k + 1) = 8) = (k + 1 = 8) := by rw [show (8 : Int32) = nI 8 from rfl, eq_iff_iff]; exact nI_eq (by omega) (by omega)
        have st : sg_rv 143 174 N [sg_r 7 120, sg_i (nI F), sg_i (nI b), sg_i (nI (a + 1 + (fn_D C a).1)), sg_i 1, sg_i (nI (fn_le (C a))), sg_i (nI (a + 1)), sg_i (fn_D C a).2] [] = sg_rv 143 191 N [sg_r 7 120, sg_i (nI F), sg_i (nI b), sg_i (nI (a + 1 + (fn_D C a).1)), sg_i 1, sg_i (nI (fn_le (C a))), sg_i (nI (a + 1)), sg_i (fn_D C a).2] [] := by
          simp (decide := true) only [mq_143_174, mq_143_175, mq_143_176, mq_143_179, mq_143_180, mq_143_183, mq_143_184, mq_143_186, mq_143_188, nI_ltI (show a + 1 + (fn_D C a).1 < 2 ^ 31 by omega) (show b < 2 ^ 31 by omega), hlt, Nat.reduceAdd, Nat.reduceMul, Nat.reduceSub, Nat.zero_add, sg_bi_i, sg_bi_n, sg_bz, sg_bb, sg_b_0, sg_b_1, if_true, if_false, not_true_eq_false, not_false_eq_true, true_and, and_true, false_and, and_false, and_self, Int32.reduceSub]
        rw [st]
        by_cases g6 : C (a + 1 + (fn_D C a).1) = 59
        · rw [if_pos g6]
          cases m with
          | zero =>
            have k7 : k + 1 = 8 := by omega
            refine ⟨N, ?_, ?_, nr1, nr2, nj, nx⟩
            · simp (decide := true) only [mq_143_191, mq_143_192, mq_143_195, mq_143_196, mq_143_197, mq_143_198, mq_143_199, mq_143_201, mq_143_204, mq_143_205, mq_143_208, mq_143_210, mq_143_213, mq_143_214, nI_add, i1, c1, n144, eC, g6, n2, c8, eq_true k7, fn_rd, fn_pl, Nat.add_sub_cancel, Nat.reduceAdd, Nat.reduceMul, Nat.reduceSub, Nat.zero_add, sg_bi_i, sg_bi_n, sg_bz, sg_bb, sg_b_0, sg_b_1, if_true, if_false, not_true_eq_false, not_false_eq_true, true_and, and_true, false_and, and_false, and_self, Int32.reduceSub]
            · simp only [fn_rd]; exact n2
          | succ m' =>
            have k7 : ¬ k + 1 = 8 := by omega
            obtain ⟨M', q1, q2, q3, q4, q5, q6⟩ := ih m' rfl (a + 1 + (fn_D C a).1 + 1) (k + 1) N (sg_i (nI (fn_le (C a)))) (sg_i (nI (a + 1))) (sg_i (fn_D C a).2) (by omega) (by omega) n2
            rw [n144, hC, nr1, nr2] at q1 q2 q3 q4
            refine ⟨M', ?_, q2, q3, q4, fun j hj => by rw [q5 j hj, nj j hj], fun y z1 z2 z3 => by rw [q6 y z1 z2 z3, nx y z1 z2 z3]⟩
            rw [← q1]
            simp (decide := true) only [mq_143_191, mq_143_192, mq_143_195, mq_143_196, mq_143_197, mq_143_198, mq_143_199, mq_143_201, mq_143_204, mq_143_205, mq_143_208, mq_143_210, mq_143_213, mq_143_214, mq_143_215, mq_143_216, mq_143_218, mq_143_221, mq_143_222, mq_143_225, mq_143_226, mq_143_227, mq_143_228, nI_add, i1, c1, n144, eC, g6, n2, c8, k7, nI_1, Nat.reduceAdd, Nat.reduceMul, Nat.reduceSub, Nat.zero_add, sg_bi_i, sg_bi_n, sg_bz, sg_bb, sg_b_0, sg_b_1, if_true, if_false, not_true_eq_false, not_false_eq_true, true_and, and_true, false_and, and_false, and_self, Int32.reduceSub]
        · rw [if_neg g6]
          refine ⟨N, ?_, n2, nr1, nr2, nj, nx⟩
          simp (decide := true) only [mq_143_191, mq_143_192, mq_143_195, mq_143_196, mq_143_197, mq_143_198, mq_143_199, mq_143_201, mq_143_204, mq_143_205, mq_143_208, mq_143_210, mq_143_213, mq_143_214, nI_add, i1, c1, n144, eC, g6, fn_pl, Nat.reduceAdd, Nat.reduceMul, Nat.reduceSub, Nat.zero_add, sg_bi_i, sg_bi_n, sg_bz, sg_bb, sg_b_0, sg_b_1, if_true, if_false, not_true_eq_false, not_false_eq_true, true_and, and_true, false_and, and_false, and_self, Int32.reduceSub]
theorem em_read_l (F b : Nat) (hF : F + b ≤ 240) (hb : b ≤ 60) : ∀ m, em_rdP F b m := by
  intro m
  induction m with
  | zero => exact em_read_s F b hF hb 0 (fun m' h => absurd h (by omega))
  | succ m ih => exact em_read_s F b hF hb (m + 1) (fun m' h => by obtain rfl : m = m' := by omega
                                                                   exact ih)
theorem em_cpr_l (σ : sg_M) (R K : Nat) (k lane i n x5 x6 : Int32) (hR : R < 6) (hK : K ≤ 8) (h20 : σ 120 20 = nI K) (h16 : σ 120 16 = nI R) : ∀ m x (M : sg_M), x + m = K → M 133 = fn_lay R x (σ 135) (σ 133) → M 134 = fn_lay R x (σ 136) (σ 134) → (∀ y, y ≠ 133 → y ≠ 134 → M y = σ y) →
    ∃ M' : sg_M, sg_rv 142 94 M [sg_r 7 120, sg_i k, sg_i lane, sg_i i, sg_i n, sg_i x5, sg_i x6, sg_i (nI x)] [] = some (some (sg_i (nI R)), sg_up (sg_up M' 120 16 (nI (R + 1))) 120 0 0) ∧ M' 133 = fn_lay R K (σ 135) (σ 133) ∧ M' 134 = fn_lay R K (σ 136) (σ 134) ∧ (∀ y, y ≠ 133 → y ≠ 134 → M' y = σ y) := by
  intro m
  induction m with
  | zero =>
    intro x M hx h3 h4 hy
    obtain rfl : x = K := by omega
    refine ⟨M, ?_, h3, h4, hy⟩
    have e1 : M 120 = σ 120 := hy 120 (by omega) (by omega)
    simp (decide := true) only [mq_142_94, mq_142_96, mq_142_97, mq_142_100, mq_142_153, mq_142_154, mq_142_155, mq_142_158, mq_142_159, mq_142_160, mq_142_163, mq_142_164, mq_142_165, mq_142_168, mq_142_169, mq_142_170, mq_142_173, em_refused, nI_ltI (show x < 2 ^ 31 by omega) (show x < 2 ^ 31 by omega), show ¬ x < x by omega, e1, h20, h16, sg_up_at, nI_1, nI_pred, Nat.reduceAdd, Nat.reduceMul, Nat.reduceSub, Nat.zero_add, sg_bi_i, sg_bi_n, sg_bz, sg_bb, sg_b_0, sg_b_1, if_true, if_false, not_true_eq_false, not_false_eq_true, true_and, and_true, false_and, and_false, and_self, Int32.reduceSub]
  | succ m ih =>
    intro x M hx h3 h4 hy
    have e1 : M 120 = σ 120 := hy 120 (by omega) (by omega)
    have i4 : sg_in (nI (8 * R + x)) 48 = true := sg_in_nI (by omega) (by omega)
    have c4 : (nI (8 * R + x)).toNatClampNeg = 8 * R + x := sg_nIc (by omega)
    have ix : sg_in (nI x) 8 = true := sg_in_nI (by omega) (by omega)
    have cx : (nI x).toNatClampNeg = x := sg_nIc (by omega)
    have u1 : ∀ v, sg_up M 133 (8 * R + x) v 120 = M 120 := fun v => sg_up_ne (by omega)
    have u2 : ∀ v, sg_up M 133 (8 * R + x) v 136 = M 136 := fun v => sg_up_ne (by omega)
    have e135 : M 135 = σ 135 := hy 135 (by omega) (by omega)
    have e136 : M 136 = σ 136 := hy 136 (by omega) (by omega)
    obtain ⟨M', g⟩ := ih (x + 1) (sg_up (sg_up M 133 (8 * R + x) (σ 135 x)) 134 (8 * R + x) (σ 136 x)) (by omega)
      (by rw [sg_up_ne (by omega), sg_up_row, h3]; exact fn_lay_s R x (σ 135) (σ 133))
      (by rw [sg_up_row, sg_up_ne (by omega), h4]; exact fn_lay_s R x (σ 136) (σ 134))
      (fun y q1 q2 => by rw [sg_up_ne q2, sg_up_ne q1]; exact hy y q1 q2)
    refine ⟨M', ?_, g.2⟩
    simp (decide := true) only [mq_142_94, mq_142_96, mq_142_97, mq_142_100, nI_ltI (show x < 2 ^ 31 by omega) (show K < 2 ^ 31 by omega), show x < K by omega, e1, h20, Nat.reduceAdd, Nat.reduceMul, Nat.reduceSub, Nat.zero_add, sg_bi_i, sg_bi_n, sg_bz, sg_bb, sg_b_0, sg_b_1, if_true, if_false, not_true_eq_false, not_false_eq_true, true_and, and_true, false_and, and_false, and_self, Int32.reduceSub]
    rw [← g.1]
    simp (decide := true) only [mq_142_103, mq_142_104, mq_142_107, mq_142_109, mq_142_110, mq_142_113, mq_142_114, mq_142_116, mq_142_117, mq_142_118, mq_142_121, mq_142_123, mq_142_124, mq_142_125, mq_142_126, mq_142_129, mq_142_131, mq_142_132, mq_142_135, mq_142_136, mq_142_138, mq_142_139, mq_142_140, mq_142_143, mq_142_145, mq_142_146, mq_142_147, mq_142_150, u1, u2, e1, h16, sg_8q (show R < 8 by omega) (show x < 8 by omega), i4, c4, ix, cx, e135, e136, nI_1, Nat.reduceAdd, Nat.reduceMul, Nat.reduceSub, Nat.zero_add, sg_bi_i, sg_bi_n, sg_bz, sg_bb, sg_b_0, sg_b_1, if_true, if_false, not_true_eq_false, not_false_eq_true, true_and, and_true, false_and, and_false, and_self, Int32.reduceSub]
theorem iv_all_R {B : Int} {σ τ : sg_M} (h : iv_all B σ) (h0 : ∀ j, j ≠ 12 → j ≠ 9 → τ 0 j = σ 0 j) (h1 : ∀ j, j ≠ 0 → j ≠ 20 → j ≠ 16 → τ 120 j = σ 120 j) (hf : τ 0 12 = τ 120 0) (hx : ∀ y, y ≠ 0 → y ≠ 120 → (y < 10 ∨ 11 < y) → (y < 91 ∨ 111 < y) → (y < 132 ∨ 136 < y) → τ y = σ y) (hR : iv_R τ) : iv_all B τ ∧ τ 1000 = σ 1000 ∧ τ 999 = σ 999 := by
  obtain ⟨hS, -, hA, hF, hJ, hP⟩ := h
  have hz : ∀ y, y ≠ 0 ∧ y ≠ 120 ∧ (y < 10 ∨ 11 < y) ∧ (y < 91 ∨ 111 < y) ∧ (y < 132 ∨ 136 < y) → τ y = σ y := fun y z => hx y z.1 z.2.1 z.2.2.1 z.2.2.2.1 z.2.2.2.2
  refine ⟨⟨?_, hR, ?_, ⟨hf, ?_⟩, ?_, ?_⟩, hz _ (by omega), hz _ (by omega)⟩
  · exact iv_S_c hS (fun y _ _ => hz y (by omega)) (hz _ (by omega)) (hz _ (by omega)) (hz _ (by omega))
  · exact iv_A_c hA (h0 10 (by omega) (by omega)) (h1 24 (by omega) (by omega) (by omega)) (hz _ (by omega)) (hz _ (by omega))
  · rw [h0 11 (by omega) (by omega), h1 36 (by omega) (by omega) (by omega)]; exact hF.2
  · exact iv_J_c hJ (by rw [hz 12 (by omega)]) (h1 26 (by omega) (by omega) (by omega)) (fun y _ _ => hz y (by omega)) (hz _ (by omega)) (hz _ (by omega)) (hz _ (by omega))
  · exact iv_P_c hP (h0 8 (by omega) (by omega)) (h1 1 (by omega) (by omega) (by omega)) (fun y _ _ => hz y (by omega)) (fun y _ _ => hz y (by omega)) (fun i hi => by rw [hz _ (by omega)]) (by rw [hz 3 (by omega)])
theorem ev_take (σ : sg_M) (q a b : Nat) (hab : a + b ≤ 60) : sg_ev 34 σ [sg_r 4 10, sg_r 6 (112 + 2 * q), sg_i (nI a), sg_i (nI b)] = some (none, sg_set (sg_up σ 10 1 (nI b)) 11 (va_cpy (σ (113 + 2 * q)) (σ 11) a 0 b)) := by
  have m60 : (if (60 : Int32) < nI b then (60 : Int32) else nI b) = nI b := if_neg (by rw [show (60 : Int32) = nI 60 from rfl, nI_ltI (by omega) (by omega)]; omega)
  have n1 : ¬ nI a < 0 := nI_pos (by omega)
  have n2 : ¬ nI b < 0 := nI_pos (by omega)
  have ca : (nI a).toNatClampNeg = a := sg_nIc (by omega)
  have cb : (nI b).toNatClampNeg = b := sg_nIc (by omega)
  have c0 : (0 : Int32).toNatClampNeg = 0 := rfl
  have n0 : ¬ (0 : Int32) < 0 := by decide
  have er : sg_up σ 10 1 (nI b) (112 + 2 * q + 1) = σ (113 + 2 * q) := sg_113 q σ 10 1 (nI b) (by omega)
  have e11 : sg_up σ 10 1 (nI b) 11 = σ 11 := sg_up_ne (by omega)
  have l1 : a + b ≤ 60 := hab
  have l2 : b ≤ 60 := by omega
  simp (decide := true) only [me_34, mq_34_0, mq_34_1, mq_34_2, mq_34_4, mq_34_7, mq_34_10, mq_34_11, mq_34_14, mq_34_15, mq_34_16, mq_34_19, mq_34_20, mq_34_21, mq_34_24, mq_34_27, m60, sg_up_at, n1, n2, n0, ca, cb, c0, l1, l2, er, e11, Nat.reduceAdd, Nat.reduceMul, Nat.reduceSub, Nat.zero_add, sg_bi_i, sg_bi_n, sg_bz, sg_bb, sg_b_0, sg_b_1, if_true, if_false, not_true_eq_false, not_false_eq_true, true_and, and_true, false_and, and_false, and_self, Int32.reduceSub]
