/-! JOB -/
theorem le_not (a b : Int32) : (b < a) = ¬ (a ≤ b) := by rw [Int32.not_le]
theorem ev_ahead (τ : sg_M) (x y : Nat) (hx : x < 7) (hy : y < 7) : sg_ev 83 τ [sg_r 5 12, sg_i (nI x), sg_i (nI y)] = some (some (sg_i (if fn_ah (τ 13) (τ 14) x y = true then 1 else 0)), τ) := by
  have i1 : sg_in (nI x) 7 = true := sg_in_nI (by omega) (by omega)
  have i2 : sg_in (nI y) 7 = true := sg_in_nI (by omega) (by omega)
  have c1 : (nI x).toNatClampNeg = x := sg_nIc (by omega)
  have c2 : (nI y).toNatClampNeg = y := sg_nIc (by omega)
  have n1 := le_not (τ 13 x) (τ 14 x)
  have n2 := le_not (τ 13 y) (τ 14 y)
  unfold fn_ah
  by_cases h1 : τ 13 x ≤ τ 14 x
  · by_cases h2 : τ 13 y ≤ τ 14 y
    · by_cases h3 : τ 13 x < τ 13 y <;> simp (decide := true) only [me_83, mq_83_0, mq_83_1, mq_83_4, mq_83_5, mq_83_6, mq_83_7, mq_83_10, mq_83_11, mq_83_12, mq_83_15, mq_83_16, mq_83_19, mq_83_20, mq_83_21, mq_83_22, mq_83_23, mq_83_26, mq_83_27, mq_83_28, mq_83_29, mq_83_32, mq_83_33, mq_83_34, mq_83_37, mq_83_38, mq_83_41, mq_83_42, mq_83_45, mq_83_46, mq_83_47, mq_83_48, mq_83_51, mq_83_52, mq_83_55, mq_83_56, mq_83_57, mq_83_58, mq_83_61, mq_83_62, mq_83_63, mq_83_66, mq_83_67, mq_83_70, mq_83_71, mq_83_74, mq_83_75, mq_83_78, mq_83_79, mq_83_80, mq_83_81, mq_83_84, mq_83_85, mq_83_86, mq_83_89, mq_83_90, mq_83_93, mq_83_94, i1, i2, c1, c2, n1, n2, h1, h2, h3, decide_true, decide_false, bne_self_eq_false, Bool.false_eq_true, Nat.reduceAdd, Nat.reduceMul, Nat.reduceSub, Nat.zero_add, sg_bi_i, sg_bi_n, sg_bz, sg_bb, sg_b_0, sg_b_1, if_true, if_false, not_true_eq_false, not_false_eq_true, true_and, and_true, false_and, and_false, and_self, Int32.reduceSub]
    · simp (decide := true) only [me_83, mq_83_0, mq_83_1, mq_83_4, mq_83_5, mq_83_6, mq_83_7, mq_83_10, mq_83_11, mq_83_12, mq_83_15, mq_83_16, mq_83_19, mq_83_20, mq_83_21, mq_83_22, mq_83_23, mq_83_26, mq_83_27, mq_83_28, mq_83_29, mq_83_32, mq_83_33, mq_83_34, mq_83_37, mq_83_38, mq_83_41, mq_83_42, mq_83_45, mq_83_46, mq_83_47, mq_83_48, mq_83_51, mq_83_52, mq_83_55, mq_83_56, mq_83_57, mq_83_58, mq_83_61, mq_83_62, mq_83_63, mq_83_66, mq_83_67, mq_83_70, mq_83_71, mq_83_74, mq_83_75, mq_83_78, mq_83_79, mq_83_80, mq_83_81, mq_83_84, mq_83_85, mq_83_86, mq_83_89, mq_83_90, mq_83_93, mq_83_94, i1, i2, c1, c2, n1, n2, h1, h2, decide_true, decide_false, Bool.false_eq_true, Nat.reduceAdd, Nat.reduceMul, Nat.reduceSub, Nat.zero_add, sg_bi_i, sg_bi_n, sg_bz, sg_bb, sg_b_0, sg_b_1, if_true, if_false, not_true_eq_false, not_false_eq_true, true_and, and_true, false_and, and_false, and_self, Int32.reduceSub]
  · by_cases h2 : τ 13 y ≤ τ 14 y
    · simp (decide := true) only [me_83, mq_83_0, mq_83_1, mq_83_4, mq_83_5, mq_83_6, mq_83_7, mq_83_10, mq_83_11, mq_83_12, mq_83_15, mq_83_16, mq_83_19, mq_83_20, mq_83_21, mq_83_22, mq_83_23, mq_83_26, mq_83_27, mq_83_28, mq_83_29, mq_83_32, mq_83_33, mq_83_34, mq_83_37, mq_83_38, mq_83_41, mq_83_42, mq_83_45, mq_83_46, mq_83_47, mq_83_48, mq_83_51, mq_83_52, mq_83_55, mq_83_56, mq_83_57, mq_83_58, mq_83_61, mq_83_62, mq_83_63, mq_83_66, mq_83_67, mq_83_70, mq_83_71, mq_83_74, mq_83_75, mq_83_78, mq_83_79, mq_83_80, mq_83_81, mq_83_84, mq_83_85, mq_83_86, mq_83_89, mq_83_90, mq_83_93, mq_83_94, i1, i2, c1, c2, n1, n2, h1, h2, decide_true, decide_false, Bool.false_eq_true, Nat.reduceAdd, Nat.reduceMul, Nat.reduceSub, Nat.zero_add, sg_bi_i, sg_bi_n, sg_bz, sg_bb, sg_b_0, sg_b_1, if_true, if_false, not_true_eq_false, not_false_eq_true, true_and, and_true, false_and, and_false, and_self, Int32.reduceSub]
    · by_cases h3 : τ 14 y < τ 14 x <;> simp (decide := true) only [me_83, mq_83_0, mq_83_1, mq_83_4, mq_83_5, mq_83_6, mq_83_7, mq_83_10, mq_83_11, mq_83_12, mq_83_15, mq_83_16, mq_83_19, mq_83_20, mq_83_21, mq_83_22, mq_83_23, mq_83_26, mq_83_27, mq_83_28, mq_83_29, mq_83_32, mq_83_33, mq_83_34, mq_83_37, mq_83_38, mq_83_41, mq_83_42, mq_83_45, mq_83_46, mq_83_47, mq_83_48, mq_83_51, mq_83_52, mq_83_55, mq_83_56, mq_83_57, mq_83_58, mq_83_61, mq_83_62, mq_83_63, mq_83_66, mq_83_67, mq_83_70, mq_83_71, mq_83_74, mq_83_75, mq_83_78, mq_83_79, mq_83_80, mq_83_81, mq_83_84, mq_83_85, mq_83_86, mq_83_89, mq_83_90, mq_83_93, mq_83_94, i1, i2, c1, c2, n1, n2, h1, h2, h3, decide_true, decide_false, bne_self_eq_false, Bool.false_eq_true, Nat.reduceAdd, Nat.reduceMul, Nat.reduceSub, Nat.zero_add, sg_bi_i, sg_bi_n, sg_bz, sg_bb, sg_b_0, sg_b_1, if_true, if_false, not_true_eq_false, not_false_eq_true, true_and, and_true, false_and, and_false, and_self, Int32.reduceSub]
theorem getD_app {A C : List Nat} {k : Nat} : (A ++ C).getD k 0 = if k < A.length then A.getD k 0 else C.getD (k - A.length) 0 := by
  by_cases h : k < A.length
  · rw [if_pos h, List.getD_eq_getElem?_getD, List.getD_eq_getElem?_getD, List.getElem?_append_left h]
  · rw [if_neg h, List.getD_eq_getElem?_getD, List.getD_eq_getElem?_getD, List.getElem?_append_right (by omega)]
theorem getD_take {l : List Nat} {p k : Nat} (h : k < p) : (l.take p).getD k 0 = l.getD k 0 := by
  rw [List.getD_eq_getElem?_getD, List.getD_eq_getElem?_getD, List.getElem?_take, if_pos h]
theorem getD_drop {l : List Nat} {p k : Nat} : (l.drop p).getD k 0 = l.getD (p + k) 0 := by
  rw [List.getD_eq_getElem?_getD, List.getD_eq_getElem?_getD, List.getElem?_drop]
theorem getD_ins {l : List Nat} {p x k : Nat} (hp : p ≤ l.length) : (l.take p ++ x :: l.drop p).getD k 0 = if k < p then l.getD k 0 else if k = p then x else l.getD (k - 1) 0 := by
  have hl : (l.take p).length = p := by rw [List.length_take]; omega
  rw [getD_app, hl]
  by_cases h : k < p
  · rw [if_pos h, if_pos h, getD_take h]
  · rw [if_neg h, if_neg h]
    by_cases h2 : k = p
    · rw [if_pos h2, h2, Nat.sub_self]; rfl
    · rw [if_neg h2]
      obtain ⟨j, hj⟩ : ∃ j, k - p = j + 1 := ⟨k - p - 1, by omega⟩
      rw [hj, List.getD_cons_succ, getD_drop]
      congr 1
      omega
theorem getD_mem {l : List Nat} {k : Nat} (h : k < l.length) : l.getD k 0 ∈ l := by
  rw [List.getD_eq_getElem?_getD, List.getElem?_eq_getElem h, Option.getD_some]
  exact List.getElem_mem h
theorem rk_len (m b : Nat → Int32) (j : Nat) : (fn_rk m b j).length = j := by
  rw [(rk_perm j).length_eq, List.length_range]
theorem rk_lt {m b : Nat → Int32} {j k : Nat} (h : k < j) : (fn_rk m b j).getD k 0 < j := by
  have := (rk_perm (m := m) (b := b) j).mem_iff.mp (getD_mem (by rw [rk_len]; exact h))
  exact List.mem_range.mp this
theorem fn_pos_congr {ah ah' : Nat → Nat → Bool} {i : Nat} {l : List Nat} : ∀ n, (∀ k, k < n → ah i (l.getD k 0) = ah' i (l.getD k 0)) → fn_pos ah i l n = fn_pos ah' i l n := by
  intro n
  induction n with
  | zero => intro _; rfl
  | succ n ih =>
    intro h
    simp only [fn_pos]
    rw [h n (by omega), ih (fun k hk => h k (by omega))]
theorem ah_congr {m b m' b' : Nat → Int32} {x y : Nat} (h1 : m x = m' x) (h2 : b x = b' x) (h3 : m y = m' y) (h4 : b y = b' y) : fn_ah m b x y = fn_ah m' b' x y := by
  unfold fn_ah
  rw [h1, h2, h3, h4]
theorem rk_congr {m b m' b' : Nat → Int32} : ∀ j, (∀ x, x < j → m x = m' x ∧ b x = b' x) → fn_rk m b j = fn_rk m' b' j := by
  intro j
  induction j with
  | zero => intro _; rfl
  | succ j ih =>
    intro h
    show fn_ins (fn_ah m b) j (fn_rk m b j) = fn_ins (fn_ah m' b') j (fn_rk m' b' j)
    rw [ih (fun x hx => h x (by omega)), fn_ins_pos, fn_ins_pos, rk_len, fn_pos_congr (ah := fn_ah m b) (ah' := fn_ah m' b') j (fun k hk => ?_)]
    have hk' := rk_lt (m := m') (b := b') hk
    exact ah_congr (h j (by omega)).1 (h j (by omega)).2 (h _ (by omega)).1 (h _ (by omega)).2
theorem ev_add_l (j : Nat) (hj : j < 7) (l : List Nat) (hl : l.length = j) (hlt : ∀ k, k < j → l.getD k 0 < j) (x1 x2 x3 : Int32) : ∀ n (M : sg_M), n ≤ j → (∀ k, k < n → M 16 k = nI (l.getD k 0)) → (∀ k, n ≤ k → k < j → M 16 (k + 1) = nI (l.getD k 0)) → M 12 4 = nI j →
    ∃ M' : sg_M, sg_rv 82 48 M [sg_r 5 12, sg_i x1, sg_i x2, sg_i x3, sg_i (nI n)] [] = some (some (sg_i (nI j)), sg_up M' 12 4 (nI (j + 1))) ∧ (∀ k, k < j + 1 → M' 16 k = nI ((l.take (fn_pos (fn_ah (M 13) (M 14)) j l n) ++ j :: l.drop (fn_pos (fn_ah (M 13) (M 14)) j l n)).getD k 0)) ∧ (∀ y, y ≠ 16 → M' y = M y) := by
  have ij : sg_in (nI j) 7 = true := sg_in_nI (by omega) (by omega)
  have fin : ∀ n (M : sg_M), n ≤ j → (∀ k, k < n → M 16 k = nI (l.getD k 0)) → (∀ k, n ≤ k → k < j → M 16 (k + 1) = nI (l.getD k 0)) → M 12 4 = nI j → ∃ M' : sg_M, sg_rv 82 95 M [sg_r 5 12, sg_i x1, sg_i x2, sg_i x3, sg_i (nI n)] [] = some (some (sg_i (nI j)), sg_up M' 12 4 (nI (j + 1))) ∧ (∀ k, k < j + 1 → M' 16 k = nI ((l.take n ++ j :: l.drop n).getD k 0)) ∧ (∀ y, y ≠ 16 → M' y = M y) := by
    intro n M hn h1 h2 h4
    have i1 : sg_in (nI n) 7 = true := sg_in_nI (by omega) (by omega)
    have c1 : (nI n).toNatClampNeg = n := sg_nIc (by omega)
    have u1 : sg_up M 16 n (nI j) 12 = M 12 := sg_up_ne (by omega)
    refine ⟨sg_up M 16 n (nI j), ?_, fun k hk => ?_, fun y hy => sg_up_ne hy⟩
    · simp (decide := true) only [mq_82_95, mq_82_96, mq_82_99, mq_82_101, mq_82_102, mq_82_105, mq_82_106, mq_82_107, mq_82_108, mq_82_111, mq_82_112, mq_82_113, mq_82_114, mq_82_117, h4, u1, i1, c1, nI_1, Nat.reduceAdd, Nat.reduceMul, Nat.reduceSub, Nat.zero_add, sg_bi_i, sg_bi_n, sg_bz, sg_bb, sg_b_0, sg_b_1, if_true, if_false, not_true_eq_false, not_false_eq_true, true_and, and_true, false_and, and_false, and_self, Int32.reduceSub]
    · rw [getD_ins (by omega), sg_up_row]
      by_cases a1 : k < n
      · rw [if_pos a1, upd_ne (by omega)]; exact h1 k a1
      · rw [if_neg a1]
        by_cases a2 : k = n
        · rw [if_pos a2, a2, upd_same]
        · rw [if_neg a2, upd_ne a2]
          have := h2 (k - 1) (by omega) (by omega)
          rw [show k - 1 + 1 = k by omega] at this
          exact this
  intro n
  induction n with
  | zero =>
    intro M hn h1 h2 h4
    obtain ⟨M', g1, g2, g3⟩ := fin 0 M hn h1 h2 h4
    refine ⟨M', ?_, g2, g3⟩
    have z : (0 : Int32) < nI 0 ↔ False := by decide
    rw [← g1]
    simp (decide := true) only [mq_82_48, mq_82_50, z, Nat.reduceAdd, Nat.reduceMul, Nat.reduceSub, Nat.zero_add, sg_bi_i, sg_bi_n, sg_bz, sg_bb, sg_b_0, sg_b_1, if_true, if_false, not_true_eq_false, not_false_eq_true, true_and, and_true, false_and, and_false, and_self, Int32.reduceSub]
  | succ n ih =>
    intro M hn h1 h2 h4
    have i1 : sg_in (nI n) 7 = true := sg_in_nI (by omega) (by omega)
    have c1 : (nI n).toNatClampNeg = n := sg_nIc (by omega)
    have i2 : sg_in (nI (n + 1)) 7 = true := sg_in_nI (by omega) (by omega)
    have c2 : (nI (n + 1)).toNatClampNeg = n + 1 := sg_nIc (by omega)
    have hr := h1 n (by omega)
    have hln := hlt n (by omega)
    have ha := ev_ahead M j (l.getD n 0) hj (by omega)
    have pz : (0 : Int32) < nI (n + 1) := nI_lt (a := 0) (by omega) (by omega)
    simp only [fn_pos]
    by_cases hah : fn_ah (M 13) (M 14) j (l.getD n 0) = true
    · rw [if_pos hah]
      obtain ⟨M', g1, g2, g3⟩ := ih (sg_up M 16 (n + 1) (nI (l.getD n 0))) (by omega) (fun k hk => by rw [sg_up_row, upd_ne (by omega)]; exact h1 k (by omega)) (fun k hk1 hk2 => by
        rw [sg_up_row]
        by_cases hkn : k = n
        · rw [hkn, upd_same]
        · rw [upd_ne (by omega)]; exact h2 k (by omega) hk2) (by rw [sg_up_ne (by omega)]; exact h4)
      rw [sg_up_ne (show (13 : Nat) ≠ 16 by omega), sg_up_ne (show (14 : Nat) ≠ 16 by omega)] at g2
      refine ⟨M', ?_, g2, fun y hy => by rw [g3 y hy, sg_up_ne hy]⟩
      simp (decide := true) only [mq_82_48, mq_82_50, pz, Nat.reduceAdd, Nat.reduceMul, Nat.reduceSub, Nat.zero_add, sg_bi_i, sg_bi_n, sg_bz, sg_bb, sg_b_0, sg_b_1, if_true, if_false, not_true_eq_false, not_false_eq_true, true_and, and_true, false_and, and_false, and_self, Int32.reduceSub]
      rw [← g1]
      simp (decide := true) only [mq_82_53, mq_82_54, mq_82_55, mq_82_58, mq_82_59, mq_82_62, mq_82_64, mq_82_65, mq_82_66, mq_82_67, mq_82_70, mq_82_73, mq_82_74, mq_82_77, mq_82_79, mq_82_80, mq_82_83, mq_82_85, mq_82_86, mq_82_87, mq_82_88, mq_82_89, mq_82_92, h4, nI_pred, i1, c1, i2, c2, hr, ha, hah, pk_m1, Nat.reduceAdd, Nat.reduceMul, Nat.reduceSub, Nat.zero_add, sg_bi_i, sg_bi_n, sg_bz, sg_bb, sg_b_0, sg_b_1, if_true, if_false, not_true_eq_false, not_false_eq_true, true_and, and_true, false_and, and_false, and_self, Int32.reduceSub]
    · rw [if_neg hah]
      obtain ⟨M', g1, g2, g3⟩ := fin (n + 1) M hn h1 h2 h4
      refine ⟨M', ?_, g2, g3⟩
      rw [← g1]
      simp (decide := true) only [mq_82_48, mq_82_50, mq_82_53, mq_82_54, mq_82_55, mq_82_58, mq_82_59, mq_82_62, mq_82_64, mq_82_65, mq_82_66, mq_82_67, mq_82_70, pz, h4, nI_pred, i1, c1, hr, ha, hah, Nat.reduceAdd, Nat.reduceMul, Nat.reduceSub, Nat.zero_add, sg_bi_i, sg_bi_n, sg_bz, sg_bb, sg_b_0, sg_b_1, if_true, if_false, not_true_eq_false, not_false_eq_true, true_and, and_true, false_and, and_false, and_self, Int32.reduceSub]
theorem iv_all_J {B : Int} {σ τ : sg_M} (h : iv_all B σ) (h0 : τ 0 = σ 0) (h1 : ∀ j, j ≠ 26 → j ≠ 30 → τ 120 j = σ 120 j) (hx : ∀ y, y ≠ 120 → (y < 12 ∨ 16 < y) → (y < 138 ∨ 141 < y) → τ y = σ y) (hJ : iv_J τ) : iv_all B τ ∧ τ 1000 = σ 1000 ∧ τ 999 = σ 999 := by
  obtain ⟨hS, hR, hA, hF, -, hP⟩ := h
  have hz : ∀ y, y ≠ 120 ∧ (y < 12 ∨ 16 < y) ∧ (y < 138 ∨ 141 < y) → τ y = σ y := fun y z => hx y z.1 z.2.1 z.2.2
  refine ⟨⟨?_, ?_, ?_, ⟨?_, ?_⟩, hJ, ?_⟩, hz _ (by omega), hz _ (by omega)⟩
  · exact iv_S_c hS (fun y _ _ => hz y (by omega)) (hz _ (by omega)) (hz _ (by omega)) (hz _ (by omega))
  · exact iv_R_c hR (by rw [h0]) (h1 16 (by omega) (by omega)) (fun y _ _ => hz y (by omega)) (hz _ (by omega)) (hz _ (by omega)) (hz _ (by omega))
  · exact iv_A_c hA (by rw [h0]) (h1 24 (by omega) (by omega)) (hz _ (by omega)) (hz _ (by omega))
  · rw [h0, h1 0 (by omega) (by omega)]; exact hF.1
  · rw [h0, h1 36 (by omega) (by omega)]; exact hF.2
  · exact iv_P_c hP (by rw [h0]) (h1 1 (by omega) (by omega)) (fun y _ _ => hz y (by omega)) (fun y _ _ => hz y (by omega)) (fun i hi => by rw [hz _ (by omega)]) (by rw [hz 3 (by omega)])
theorem pr_job {B : Int} {σ : sg_M} (m b w : Int32) (h : iv_all B σ) : sg_pair B σ 81 172 [sg_i m, sg_i b, sg_i w] := by
  have m64 := sg_i64 m 0 99 0 99 (by decide) (by decide)
  have b64 := sg_i64 b 0 99 0 99 (by decide) (by decide)
  have w64 := sg_i64 w 0 99 0 99 (by decide) (by decide)
  by_cases hm : 0 ≤ m ∧ m ≤ 99
  · by_cases hb : 0 ≤ b ∧ b ≤ 99
    · by_cases hw : 0 ≤ w ∧ w ≤ 99
      · obtain ⟨j, j7, j1, j2, j3, j4⟩ := h.2.2.2.2.1
        by_cases h7 : j = 7
        · have c7 : (nI j < 7) = False := eq_false (by rw [h7]; decide)
          have c7' : nI j = 7 := by rw [h7]; rfl
          refine pair_same h (sg_i (-4)) σ σ ?_ (same_rfl σ) ?_ (same_rfl σ)
          · simp (decide := true) only [me_81, mq_81_0, mq_81_1, mq_81_2, mq_81_4, mq_81_7, mq_81_10, mq_81_11, mq_81_12, mq_81_14, mq_81_17, mq_81_20, mq_81_21, mq_81_22, mq_81_24, mq_81_27, mq_81_30, mq_81_32, mq_81_33, mq_81_34, mq_81_37, mq_81_38, mq_81_39, mq_81_40, mq_81_43, me_82, mq_82_0, mq_82_1, mq_82_4, mq_82_6, mq_82_9, mq_82_11, ev_within, hm, hb, hw, j1, c7, Nat.reduceAdd, Nat.reduceMul, Nat.reduceSub, Nat.zero_add, sg_bi_i, sg_bi_n, sg_bz, sg_bb, sg_b_0, sg_b_1, if_true, if_false, not_true_eq_false, not_false_eq_true, true_and, and_true, false_and, and_false, and_self, Int32.reduceSub]
          · simp (decide := true) only [me_172, mq_172_0, mq_172_1, mq_172_2, mq_172_3, mq_172_6, mq_172_9, mq_172_12, mq_172_13, mq_172_14, mq_172_15, mq_172_18, mq_172_21, mq_172_24, mq_172_25, mq_172_26, mq_172_27, mq_172_30, mq_172_33, mq_172_36, mq_172_38, mq_172_39, mq_172_40, mq_172_43, mq_172_45, mq_172_48, mq_172_50, em_in, m64, b64, w64, hm, hb, hw, j2, c7', Nat.reduceAdd, Nat.reduceMul, Nat.reduceSub, Nat.zero_add, sg_bi_i, sg_bi_n, sg_bz, sg_bb, sg_b_0, sg_b_1, if_true, if_false, not_true_eq_false, not_false_eq_true, true_and, and_true, false_and, and_false, and_self, Int32.reduceSub]
        · have hj : j < 7 := by omega
          have c7 : (nI j < 7) = True := eq_true (nI_lt (b := 7) hj (by omega))
          have c7' : ¬ nI j = 7 := fun z => h7 ((nI_eq (b := 7) (by omega) (by omega)).mp z)
          have ij : sg_in (nI j) 7 = true := sg_in_nI (by omega) (by omega)
          have cj : (nI j).toNatClampNeg = j := sg_nIc (by omega)
          generalize hτ : sg_up (sg_up (sg_up σ 13 j m) 14 j b) 15 j w = τ
          have t13 : τ 13 = upd (σ 13) j m := by rw [← hτ, sg_up_ne (by omega), sg_up_ne (by omega), sg_up_row]
          have t14 : τ 14 = upd (σ 14) j b := by rw [← hτ, sg_up_ne (by omega), sg_up_row, sg_up_ne (by omega)]
          have t15 : τ 15 = upd (σ 15) j w := by rw [← hτ, sg_up_row, sg_up_ne (by omega), sg_up_ne (by omega)]
          have tx : ∀ y, (y < 13 ∨ 15 < y) → τ y = σ y := fun y c => by rw [← hτ, sg_up_ne (by omega), sg_up_ne (by omega), sg_up_ne (by omega)]
          have hrk : fn_rk (τ 13) (τ 14) j = fn_rk (σ 13) (σ 14) j := rk_congr j (fun x hx => by rw [t13, t14, upd_ne (by omega), upd_ne (by omega)]; exact ⟨rfl, rfl⟩)
          obtain ⟨M', g1, g2, g3⟩ := ev_add_l j hj (fn_rk (τ 13) (τ 14) j) (rk_len _ _ _) (fun k hk => rk_lt hk) m b w j τ (Nat.le_refl j) (fun k hk => by rw [tx 16 (by omega), hrk]; exact j4 k hk) (fun k a1 a2 => absurd a1 (by omega)) (by rw [tx 12 (by omega)]; exact j1)
          have hins : fn_rk (τ 13) (τ 14) (j + 1) = (fn_rk (τ 13) (τ 14) j).take (fn_pos (fn_ah (τ 13) (τ 14)) j (fn_rk (τ 13) (τ 14) j) j) ++ j :: (fn_rk (τ 13) (τ 14) j).drop (fn_pos (fn_ah (τ 13) (τ 14)) j (fn_rk (τ 13) (τ 14) j) j) := by
            show fn_ins (fn_ah (τ 13) (τ 14)) j (fn_rk (τ 13) (τ 14) j) = _
            rw [fn_ins_pos, rk_len]
          rw [← hins] at g2
          generalize hσ1 : sg_up M' 12 4 (nI (j + 1)) = σ1 at g1
          have sx : ∀ y, (y < 12 ∨ 16 < y) → σ1 y = σ y := fun y c => by rw [← hσ1, sg_up_ne (by omega), g3 y (by omega), tx y (by omega)]
          have s120 : σ1 120 = σ 120 := sx 120 (by omega)
          refine ⟨sg_i (nI j), σ1, sg_up (sg_up (sg_up (sg_up σ1 138 j m) 139 j b) 140 j w) 120 26 (nI (j + 1)), ?_, ?_, ?_⟩
          · have u1 : ∀ v, sg_up σ 13 j v 12 = σ 12 := fun v => sg_up_ne (by omega)
            have u2 : ∀ v w, sg_up (sg_up σ 13 j v) 14 j w 12 = σ 12 := fun v w => by rw [sg_up_ne (by omega), sg_up_ne (by omega)]
            have u3 : τ 12 4 = nI j := by rw [tx 12 (by omega)]; exact j1
            simp (decide := true) only [me_81, mq_81_0, mq_81_1, mq_81_2, mq_81_4, mq_81_7, mq_81_10, mq_81_11, mq_81_12, mq_81_14, mq_81_17, mq_81_20, mq_81_21, mq_81_22, mq_81_24, mq_81_27, mq_81_30, mq_81_32, mq_81_33, mq_81_34, mq_81_37, mq_81_38, mq_81_39, mq_81_40, mq_81_43, me_82, mq_82_0, mq_82_1, mq_82_4, mq_82_6, mq_82_9, mq_82_11, mq_82_12, mq_82_13, mq_82_16, mq_82_17, mq_82_20, mq_82_21, mq_82_22, mq_82_23, mq_82_26, mq_82_27, mq_82_30, mq_82_31, mq_82_32, mq_82_33, mq_82_36, mq_82_37, mq_82_40, mq_82_41, mq_82_42, mq_82_43, mq_82_46, ev_within, hm, hb, hw, j1, c7, ij, cj, u1, u2, hτ, u3, g1, Nat.reduceAdd, Nat.reduceMul, Nat.reduceSub, Nat.zero_add, sg_bi_i, sg_bi_n, sg_bz, sg_bb, sg_b_0, sg_b_1, if_true, if_false, not_true_eq_false, not_false_eq_true, true_and, and_true, false_and, and_false, and_self, Int32.reduceSub]
          · have e26 : σ1 120 26 = nI j := by rw [s120]; exact j2
            have u1 : ∀ v, sg_up σ1 138 j v 120 = σ1 120 := fun v => sg_up_ne (by omega)
            have u2 : ∀ v w, sg_up (sg_up σ1 138 j v) 139 j w 120 = σ1 120 := fun v w => by rw [sg_up_ne (by omega), sg_up_ne (by omega)]
            have u3 : ∀ v w x, sg_up (sg_up (sg_up σ1 138 j v) 139 j w) 140 j x 120 = σ1 120 := fun v w x => by rw [sg_up_ne (by omega), sg_up_ne (by omega), sg_up_ne (by omega)]
            simp (decide := true) only [me_172, mq_172_0, mq_172_1, mq_172_2, mq_172_3, mq_172_6, mq_172_9, mq_172_12, mq_172_13, mq_172_14, mq_172_15, mq_172_18, mq_172_21, mq_172_24, mq_172_25, mq_172_26, mq_172_27, mq_172_30, mq_172_33, mq_172_36, mq_172_38, mq_172_39, mq_172_40, mq_172_43, mq_172_45, mq_172_48, mq_172_50, mq_172_51, mq_172_52, mq_172_55, mq_172_56, mq_172_59, mq_172_60, mq_172_61, mq_172_62, mq_172_65, mq_172_66, mq_172_69, mq_172_70, mq_172_71, mq_172_72, mq_172_75, mq_172_76, mq_172_79, mq_172_80, mq_172_81, mq_172_82, mq_172_83, mq_172_86, mq_172_87, mq_172_88, mq_172_91, mq_172_92, mq_172_95, mq_172_96, mq_172_97, em_in, m64, b64, w64, hm, hb, hw, e26, c7', ij, cj, u1, u2, u3, nI_1, sg_up_at, nI_pred, Nat.reduceAdd, Nat.reduceMul, Nat.reduceSub, Nat.zero_add, sg_bi_i, sg_bi_n, sg_bz, sg_bb, sg_b_0, sg_b_1, if_true, if_false, not_true_eq_false, not_false_eq_true, true_and, and_true, false_and, and_false, and_self, Int32.reduceSub]
          · generalize hω : sg_up (sg_up (sg_up (sg_up σ1 138 j m) 139 j b) 140 j w) 120 26 (nI (j + 1)) = ω
            have wx : ∀ y, y ≠ 120 → (y < 138 ∨ 140 < y) → ω y = σ1 y := fun y c d => by rw [← hω, sg_up_ne c, sg_up_ne (by omega), sg_up_ne (by omega), sg_up_ne (by omega)]
            have w138 : ω 138 = upd (σ 138) j m := by rw [← hω, sg_up_ne (by omega), sg_up_ne (by omega), sg_up_ne (by omega), sg_up_row, sx 138 (by omega)]
            have w139 : ω 139 = upd (σ 139) j b := by rw [← hω, sg_up_ne (by omega), sg_up_ne (by omega), sg_up_row, sg_up_ne (by omega), sx 139 (by omega)]
            have w140 : ω 140 = upd (σ 140) j w := by rw [← hω, sg_up_ne (by omega), sg_up_row, sg_up_ne (by omega), sg_up_ne (by omega), sx 140 (by omega)]
            have w13 : ω 13 = upd (σ 13) j m := by rw [wx 13 (by omega) (by omega), ← hσ1, sg_up_ne (by omega), g3 13 (by omega), t13]
            have w14 : ω 14 = upd (σ 14) j b := by rw [wx 14 (by omega) (by omega), ← hσ1, sg_up_ne (by omega), g3 14 (by omega), t14]
            have w15 : ω 15 = upd (σ 15) j w := by rw [wx 15 (by omega) (by omega), ← hσ1, sg_up_ne (by omega), g3 15 (by omega), t15]
            have w16 : ω 16 = M' 16 := by rw [wx 16 (by omega) (by omega), ← hσ1, sg_up_ne (by omega)]
            have rg : ∀ {x : Int32}, 0 ≤ x ∧ x ≤ 99 → 0 ≤ x.toInt ∧ x.toInt ≤ 99 := fun q => by
              rw [Int32.le_iff_toInt_le, Int32.le_iff_toInt_le, sg_t0, sg_t99] at q
              exact q
            refine iv_all_J h ?_ (fun i a _ => ?_) (fun y c d e => ?_) ⟨j + 1, by omega, ?_, ?_, fun k hk => ?_, fun k hk => ?_⟩
            · rw [wx 0 (by omega) (by omega), sx 0 (by omega)]
            · rw [← hω, sg_up_at_ne a, sg_up_ne (by omega), sg_up_ne (by omega), sg_up_ne (by omega), s120]
            · rw [wx y c (by omega), sx y (by omega)]
            · rw [wx 12 (by omega) (by omega), ← hσ1, sg_up_at]
            · rw [← hω, sg_up_at]
            · rw [w13, w14, w15, w138, w139, w140]
              by_cases hkj : k = j
              · subst hkj
                rw [upd_same, upd_same, upd_same, upd_same, upd_same, upd_same]
                exact ⟨⟨rfl, rfl, rfl⟩, rg hm, rg hb, rg hw⟩
              · rw [upd_ne hkj, upd_ne hkj, upd_ne hkj, upd_ne hkj, upd_ne hkj, upd_ne hkj]
                exact j3 k (by omega)
            · rw [w16, g2 k hk, w13, w14, ← t13, ← t14]
      · refine pair_same h (sg_i (-2)) σ σ ?_ (same_rfl σ) ?_ (same_rfl σ)
        · simp (decide := true) only [me_81, mq_81_0, mq_81_1, mq_81_2, mq_81_4, mq_81_7, mq_81_10, mq_81_11, mq_81_12, mq_81_14, mq_81_17, mq_81_20, mq_81_21, mq_81_22, mq_81_24, mq_81_27, mq_81_30, mq_81_32, mq_81_33, mq_81_34, mq_81_37, mq_81_38, mq_81_39, mq_81_40, mq_81_43, ev_within, hm, hb, hw, Nat.reduceAdd, Nat.reduceMul, Nat.reduceSub, Nat.zero_add, sg_bi_i, sg_bi_n, sg_bz, sg_bb, sg_b_0, sg_b_1, if_true, if_false, not_true_eq_false, not_false_eq_true, true_and, and_true, false_and, and_false, and_self, Int32.reduceSub]
        · simp (decide := true) only [me_172, mq_172_0, mq_172_1, mq_172_2, mq_172_3, mq_172_6, mq_172_9, mq_172_12, mq_172_13, mq_172_14, mq_172_15, mq_172_18, mq_172_21, mq_172_24, mq_172_25, mq_172_26, mq_172_27, mq_172_30, mq_172_33, mq_172_36, mq_172_38, mq_172_39, mq_172_40, mq_172_43, mq_172_45, mq_172_48, mq_172_50, em_in, m64, b64, w64, hm, hb, hw, Nat.reduceAdd, Nat.reduceMul, Nat.reduceSub, Nat.zero_add, sg_bi_i, sg_bi_n, sg_bz, sg_bb, sg_b_0, sg_b_1, if_true, if_false, not_true_eq_false, not_false_eq_true, true_and, and_true, false_and, and_false, and_self, Int32.reduceSub]
    · refine pair_same h (sg_i (-2)) σ σ ?_ (same_rfl σ) ?_ (same_rfl σ)
      · simp (decide := true) only [me_81, mq_81_0, mq_81_1, mq_81_2, mq_81_4, mq_81_7, mq_81_10, mq_81_11, mq_81_12, mq_81_14, mq_81_17, mq_81_20, mq_81_21, mq_81_22, mq_81_24, mq_81_27, mq_81_30, mq_81_32, mq_81_33, mq_81_34, mq_81_37, mq_81_38, mq_81_39, mq_81_40, mq_81_43, ev_within, hm, hb, Nat.reduceAdd, Nat.reduceMul, Nat.reduceSub, Nat.zero_add, sg_bi_i, sg_bi_n, sg_bz, sg_bb, sg_b_0, sg_b_1, if_true, if_false, not_true_eq_false, not_false_eq_true, true_and, and_true, false_and, and_false, and_self, Int32.reduceSub]
      · simp (decide := true) only [me_172, mq_172_0, mq_172_1, mq_172_2, mq_172_3, mq_172_6, mq_172_9, mq_172_12, mq_172_13, mq_172_14, mq_172_15, mq_172_18, mq_172_21, mq_172_24, mq_172_25, mq_172_26, mq_172_27, mq_172_30, mq_172_33, mq_172_36, mq_172_38, mq_172_39, mq_172_40, mq_172_43, mq_172_45, mq_172_48, mq_172_50, em_in, m64, b64, hm, hb, Nat.reduceAdd, Nat.reduceMul, Nat.reduceSub, Nat.zero_add, sg_bi_i, sg_bi_n, sg_bz, sg_bb, sg_b_0, sg_b_1, if_true, if_false, not_true_eq_false, not_false_eq_true, true_and, and_true, false_and, and_false, and_self, Int32.reduceSub]
  · refine pair_same h (sg_i (-2)) σ σ ?_ (same_rfl σ) ?_ (same_rfl σ)
    · simp (decide := true) only [me_81, mq_81_0, mq_81_1, mq_81_2, mq_81_4, mq_81_7, mq_81_10, mq_81_11, mq_81_12, mq_81_14, mq_81_17, mq_81_20, mq_81_21, mq_81_22, mq_81_24, mq_81_27, mq_81_30, mq_81_32, mq_81_33, mq_81_34, mq_81_37, mq_81_38, mq_81_39, mq_81_40, mq_81_43, ev_within, hm, Nat.reduceAdd, Nat.reduceMul, Nat.reduceSub, Nat.zero_add, sg_bi_i, sg_bi_n, sg_bz, sg_bb, sg_b_0, sg_b_1, if_true, if_false, not_true_eq_false, not_false_eq_true, true_and, and_true, false_and, and_false, and_self, Int32.reduceSub]
    · simp (decide := true) only [me_172, mq_172_0, mq_172_1, mq_172_2, mq_172_3, mq_172_6, mq_172_9, mq_172_12, mq_172_13, mq_172_14, mq_172_15, mq_172_18, mq_172_21, mq_172_24, mq_172_25, mq_172_26, mq_172_27, mq_172_30, mq_172_33, mq_172_36, mq_172_38, mq_172_39, mq_172_40, mq_172_43, mq_172_45, mq_172_48, mq_172_50, em_in, m64, hm, Nat.reduceAdd, Nat.reduceMul, Nat.reduceSub, Nat.zero_add, sg_bi_i, sg_bi_n, sg_bz, sg_bb, sg_b_0, sg_b_1, if_true, if_false, not_true_eq_false, not_false_eq_true, true_and, and_true, false_and, and_false, and_self, Int32.reduceSub]
