theorem sg_91 (x : Nat) (σ : sg_M) (c j : Nat) (v : Int32) (hc : c < 91 ∨ 112 ≤ c) (hx : x < 7) {y : Nat} (hy : y ≤ 2) : sg_up σ c j v (91 + 3 * x + y) = σ (91 + 3 * x + y) := sg_up_ne (by omega)
theorem ev_tell_y (σ : sg_M) (j M i : Nat) (hj : j < 6) (hi : i < M) (hM : iv_rc σ j M) (hit : sg_ev 44 σ [sg_r 1 0, sg_i (nI j), sg_i (nI i)] = some (some (sg_i 1), σ)) : sg_ev 101 σ [sg_r 1 0, sg_i (nI j), sg_i (nI i)] = some (some (sg_i (fn_tl (fn_kd (fn_lt σ j i)) (nI (fn_nu σ j i)))), sg_up σ 0 11 (fn_tr (fn_kd (fn_lt σ j i)) (σ 0 11))) := by
  obtain ⟨m1, m2, m3, m4, m5⟩ := hM
  obtain ⟨t1, t2, t3, t4, t5, t6⟩ := m5 i hi
  have i1 : sg_in (nI j) 7 = true := sg_in_nI (by omega) (by omega)
  have i2 : sg_in (nI i) 8 = true := sg_in_nI (by omega) (by omega)
  have hk := ev_kindOf σ (91 + 3 * j) i (fn_lt σ j i) (by omega) t1 t3
  generalize fn_lt σ j i = L at *
  generalize fn_nu σ j i = v at *
  unfold fn_tl fn_tr
  rcases fn_kd_cases t1 with e | e | e | e
  · rw [e] at hk ⊢
    have h0 : (0 : Int32).toInt < 1 ∨ 3 < (0 : Int32).toInt := by decide
    simp (decide := true) only [me_101, mq_101_0, mq_101_1, mq_101_2, mq_101_3, mq_101_6, mq_101_9, mq_101_10, mq_101_11, mq_101_12, mq_101_15, mq_101_16, mq_101_17, mq_101_20, mq_101_21, mq_101_22, mq_101_23, mq_101_24, mq_101_27, mq_101_28, mq_101_29, mq_101_30, hit, i1, i2, sg_nIc (show j < 2 ^ 31 by omega), sg_nIc (show i < 2 ^ 31 by omega), t4, hk, Nat.reduceAdd, Nat.reduceMul, Nat.reduceSub, Nat.zero_add, sg_bi_i, sg_bi_n, sg_bz, sg_bb, sg_b_0, sg_b_1, if_true, if_false, not_true_eq_false, not_false_eq_true, true_and, and_true, false_and, and_false, and_self, Int32.reduceSub]
    rw [mq_101_33_d _ _ _ _ h0]
    simp (decide := true) only [mq_101_78, mq_101_79, mq_101_80, mq_101_83, ev_wait, sg_bi_i, if_true]
  · rw [e] at hk ⊢
    simp (decide := true) only [me_101, mq_101_0, mq_101_1, mq_101_2, mq_101_3, mq_101_6, mq_101_9, mq_101_10, mq_101_11, mq_101_12, mq_101_15, mq_101_16, mq_101_17, mq_101_20, mq_101_21, mq_101_22, mq_101_23, mq_101_24, mq_101_27, mq_101_28, mq_101_29, mq_101_30, mq_101_33_1, mq_101_33_2, mq_101_33_3, mq_101_33_d, mq_101_60, mq_101_61, mq_101_62, mq_101_65, mq_101_66, mq_101_67, mq_101_68, mq_101_71, mq_101_72, mq_101_73, mq_101_74, mq_101_77, mq_101_78, mq_101_79, mq_101_80, mq_101_83, hit, i1, i2, sg_nIc (show j < 2 ^ 31 by omega), sg_nIc (show i < 2 ^ 31 by omega), t4, hk, ev_turn, Nat.reduceAdd, Nat.reduceMul, Nat.reduceSub, Nat.zero_add, sg_bi_i, sg_bi_n, sg_bz, sg_bb, sg_b_0, sg_b_1, if_true, if_false, not_true_eq_false, not_false_eq_true, true_and, and_true, false_and, and_false, and_self, Int32.reduceSub]
  · rw [e] at hk ⊢
    simp (decide := true) only [me_101, mq_101_0, mq_101_1, mq_101_2, mq_101_3, mq_101_6, mq_101_9, mq_101_10, mq_101_11, mq_101_12, mq_101_15, mq_101_16, mq_101_17, mq_101_20, mq_101_21, mq_101_22, mq_101_23, mq_101_24, mq_101_27, mq_101_28, mq_101_29, mq_101_30, mq_101_33_1, mq_101_33_2, mq_101_33_3, mq_101_33_d, mq_101_60, mq_101_61, mq_101_62, mq_101_65, mq_101_66, mq_101_67, mq_101_68, mq_101_71, mq_101_72, mq_101_73, mq_101_74, mq_101_77, mq_101_78, mq_101_79, mq_101_80, mq_101_83, hit, i1, i2, sg_nIc (show j < 2 ^ 31 by omega), sg_nIc (show i < 2 ^ 31 by omega), t4, hk, ev_blow, Nat.reduceAdd, Nat.reduceMul, Nat.reduceSub, Nat.zero_add, sg_bi_i, sg_bi_n, sg_bz, sg_bb, sg_b_0, sg_b_1, if_true, if_false, not_true_eq_false, not_false_eq_true, true_and, and_true, false_and, and_false, and_self, Int32.reduceSub]
  · rw [e] at hk ⊢
    simp (decide := true) only [me_101, mq_101_0, mq_101_1, mq_101_2, mq_101_3, mq_101_6, mq_101_9, mq_101_10, mq_101_11, mq_101_12, mq_101_15, mq_101_16, mq_101_17, mq_101_20, mq_101_21, mq_101_22, mq_101_23, mq_101_24, mq_101_27, mq_101_28, mq_101_29, mq_101_30, mq_101_33_1, mq_101_33_2, mq_101_33_3, mq_101_33_d, mq_101_60, mq_101_61, mq_101_62, mq_101_65, mq_101_66, mq_101_67, mq_101_68, mq_101_71, mq_101_72, mq_101_73, mq_101_74, mq_101_77, mq_101_78, mq_101_79, mq_101_80, mq_101_83, hit, i1, i2, sg_nIc (show j < 2 ^ 31 by omega), sg_nIc (show i < 2 ^ 31 by omega), t4, hk, ev_mouth, Nat.reduceAdd, Nat.reduceMul, Nat.reduceSub, Nat.zero_add, sg_bi_i, sg_bi_n, sg_bz, sg_bb, sg_b_0, sg_b_1, if_true, if_false, not_true_eq_false, not_false_eq_true, true_and, and_true, false_and, and_false, and_self, Int32.reduceSub]
theorem em_tell_y (σ : sg_M) (j i L v : Nat) (hj : j < 6) (hi : i < 8) (hL : L < 7) (hl : σ 133 (8 * j + i) = nI L) (hv : σ 134 (8 * j + i) = nI v) (hit : sg_ev 190 σ [sg_r 7 120, sg_i (nI j), sg_i (nI i)] = some (some (sg_i 0), σ)) : sg_ev 189 σ [sg_r 7 120, sg_i (nI j), sg_i (nI i)] = some (some (sg_i (fn_tl (fn_kd L) (nI v))), sg_up σ 120 36 (fn_tr (fn_kd L) (σ 120 36))) := by
  have j2 : sg_in (nI (8 * j + i)) 48 = true := sg_in_nI (by omega) (by omega)
  have cj : (nI (8 * j + i)).toNatClampNeg = 8 * j + i := sg_nIc (by omega)
  have e134 : ∀ w, sg_up σ 120 36 w 134 = σ 134 := fun w => sg_up_ne (by omega)
  have hk := em_kindOf σ j i L hj hi hL hl
  have two : ∀ x : Int32, 2 * x + 100 = x + 100 + x := fun x => by
    rw [show (2 : Int32) = 1 + 1 by decide, Int32.add_mul, Int32.one_mul, Int32.add_assoc, Int32.add_comm x 100, ← Int32.add_assoc, Int32.add_comm x 100]
  have el : ∀ x : Int32, x + 1100 = x + 100 + 1000 := fun x => by rw [Int32.add_assoc, show (100 : Int32) + 1000 = 1100 by decide]
  unfold fn_tl fn_tr
  rcases fn_kd_cases hL with e | e | e | e
  · rw [e] at hk ⊢
    simp (decide := true) only [me_189, mq_189_0, mq_189_1, mq_189_2, mq_189_3, mq_189_6, mq_189_9, mq_189_10, mq_189_11, mq_189_12, mq_189_13, mq_189_14, mq_189_17, mq_189_18, mq_189_19, mq_189_20, mq_189_23, mq_189_24, mq_189_25, mq_189_26, mq_189_29, mq_189_30, mq_189_33, mq_189_35, mq_189_38, mq_189_39, mq_189_42, mq_189_43, mq_189_44, mq_189_47, mq_189_48, mq_189_49, mq_189_52, mq_189_53, mq_189_54, mq_189_57, mq_189_58, mq_189_59, mq_189_62, mq_189_63, mq_189_66, mq_189_68, mq_189_69, mq_189_70, mq_189_71, mq_189_72, mq_189_73, mq_189_75, mq_189_76, mq_189_79, mq_189_81, mq_189_84, mq_189_85, mq_189_86, mq_189_89, mq_189_91, mq_189_93, mq_189_94, mq_189_97, mq_189_98, mq_189_99, mq_189_102, mq_189_103, mq_189_105, mq_189_106, mq_189_108, mq_189_109, mq_189_112, mq_189_114, mq_189_117, mq_189_118, hit, hk, em_traced, sg_up_at, sg_up_up, e134, sg_8q (show j < 8 by omega) hi, j2, cj, hv, two, el, Nat.reduceAdd, Nat.reduceMul, Nat.reduceSub, Nat.zero_add, sg_bi_i, sg_bi_n, sg_bz, sg_bb, sg_b_0, sg_b_1, if_true, if_false, not_true_eq_false, not_false_eq_true, true_and, and_true, false_and, and_false, and_self, Int32.reduceSub]
  · rw [e] at hk ⊢
    simp (decide := true) only [me_189, mq_189_0, mq_189_1, mq_189_2, mq_189_3, mq_189_6, mq_189_9, mq_189_10, mq_189_11, mq_189_12, mq_189_13, mq_189_14, mq_189_17, mq_189_18, mq_189_19, mq_189_20, mq_189_23, mq_189_24, mq_189_25, mq_189_26, mq_189_29, mq_189_30, mq_189_33, mq_189_35, mq_189_38, mq_189_39, mq_189_42, mq_189_43, mq_189_44, mq_189_47, mq_189_48, mq_189_49, mq_189_52, mq_189_53, mq_189_54, mq_189_57, mq_189_58, mq_189_59, mq_189_62, mq_189_63, mq_189_66, mq_189_68, mq_189_69, mq_189_70, mq_189_71, mq_189_72, mq_189_73, mq_189_75, mq_189_76, mq_189_79, mq_189_81, mq_189_84, mq_189_85, mq_189_86, mq_189_89, mq_189_91, mq_189_93, mq_189_94, mq_189_97, mq_189_98, mq_189_99, mq_189_102, mq_189_103, mq_189_105, mq_189_106, mq_189_108, mq_189_109, mq_189_112, mq_189_114, mq_189_117, mq_189_118, hit, hk, em_traced, sg_up_at, sg_up_up, e134, sg_8q (show j < 8 by omega) hi, j2, cj, hv, two, el, Nat.reduceAdd, Nat.reduceMul, Nat.reduceSub, Nat.zero_add, sg_bi_i, sg_bi_n, sg_bz, sg_bb, sg_b_0, sg_b_1, if_true, if_false, not_true_eq_false, not_false_eq_true, true_and, and_true, false_and, and_false, and_self, Int32.reduceSub]
  · rw [e] at hk ⊢
    simp (decide := true) only [me_189, mq_189_0, mq_189_1, mq_189_2, mq_189_3, mq_189_6, mq_189_9, mq_189_10, mq_189_11, mq_189_12, mq_189_13, mq_189_14, mq_189_17, mq_189_18, mq_189_19, mq_189_20, mq_189_23, mq_189_24, mq_189_25, mq_189_26, mq_189_29, mq_189_30, mq_189_33, mq_189_35, mq_189_38, mq_189_39, mq_189_42, mq_189_43, mq_189_44, mq_189_47, mq_189_48, mq_189_49, mq_189_52, mq_189_53, mq_189_54, mq_189_57, mq_189_58, mq_189_59, mq_189_62, mq_189_63, mq_189_66, mq_189_68, mq_189_69, mq_189_70, mq_189_71, mq_189_72, mq_189_73, mq_189_75, mq_189_76, mq_189_79, mq_189_81, mq_189_84, mq_189_85, mq_189_86, mq_189_89, mq_189_91, mq_189_93, mq_189_94, mq_189_97, mq_189_98, mq_189_99, mq_189_102, mq_189_103, mq_189_105, mq_189_106, mq_189_108, mq_189_109, mq_189_112, mq_189_114, mq_189_117, mq_189_118, hit, hk, em_traced, sg_up_at, sg_up_up, e134, sg_8q (show j < 8 by omega) hi, j2, cj, hv, two, el, Nat.reduceAdd, Nat.reduceMul, Nat.reduceSub, Nat.zero_add, sg_bi_i, sg_bi_n, sg_bz, sg_bb, sg_b_0, sg_b_1, if_true, if_false, not_true_eq_false, not_false_eq_true, true_and, and_true, false_and, and_false, and_self, Int32.reduceSub]
  · rw [e] at hk ⊢
    simp (decide := true) only [me_189, mq_189_0, mq_189_1, mq_189_2, mq_189_3, mq_189_6, mq_189_9, mq_189_10, mq_189_11, mq_189_12, mq_189_13, mq_189_14, mq_189_17, mq_189_18, mq_189_19, mq_189_20, mq_189_23, mq_189_24, mq_189_25, mq_189_26, mq_189_29, mq_189_30, mq_189_33, mq_189_35, mq_189_38, mq_189_39, mq_189_42, mq_189_43, mq_189_44, mq_189_47, mq_189_48, mq_189_49, mq_189_52, mq_189_53, mq_189_54, mq_189_57, mq_189_58, mq_189_59, mq_189_62, mq_189_63, mq_189_66, mq_189_68, mq_189_69, mq_189_70, mq_189_71, mq_189_72, mq_189_73, mq_189_75, mq_189_76, mq_189_79, mq_189_81, mq_189_84, mq_189_85, mq_189_86, mq_189_89, mq_189_91, mq_189_93, mq_189_94, mq_189_97, mq_189_98, mq_189_99, mq_189_102, mq_189_103, mq_189_105, mq_189_106, mq_189_108, mq_189_109, mq_189_112, mq_189_114, mq_189_117, mq_189_118, hit, hk, em_traced, sg_up_at, sg_up_up, e134, sg_8q (show j < 8 by omega) hi, j2, cj, hv, two, el, Nat.reduceAdd, Nat.reduceMul, Nat.reduceSub, Nat.zero_add, sg_bi_i, sg_bi_n, sg_bz, sg_bb, sg_b_0, sg_b_1, if_true, if_false, not_true_eq_false, not_false_eq_true, true_and, and_true, false_and, and_false, and_self, Int32.reduceSub]
theorem pr_tell {B : Int} {σ : sg_M} (q k : Int32) (h : iv_all B σ) : sg_pair B σ 101 189 [sg_i q, sg_i k] := by
  unfold sg_pair
  rcases ev_isItem_c h.2.1 q k σ rfl (fun _ _ _ => rfl) rfl rfl with ⟨e1, e2⟩ | ⟨R, j, M, i, hR, hj, rfl, e9, hM, hi, rfl, e1, -⟩
  · refine ⟨sg_i (-1), σ, σ, ?_, ?_, h, rfl, rfl⟩
    · simp (decide := true) only [me_101, mq_101_0, mq_101_1, mq_101_2, mq_101_3, mq_101_6, mq_101_9, mq_101_10, e1, Nat.reduceAdd, Nat.reduceMul, Nat.reduceSub, Nat.zero_add, sg_bi_i, sg_bi_n, sg_bz, sg_bb, sg_b_0, sg_b_1, if_true, if_false, not_true_eq_false, not_false_eq_true, true_and, and_true, false_and, and_false, and_self, Int32.reduceSub]
    · simp (decide := true) only [me_189, mq_189_0, mq_189_1, mq_189_2, mq_189_3, mq_189_6, mq_189_9, mq_189_10, e2, Nat.reduceAdd, Nat.reduceMul, Nat.reduceSub, Nat.zero_add, sg_bi_i, sg_bi_n, sg_bz, sg_bb, sg_b_0, sg_b_1, if_true, if_false, not_true_eq_false, not_false_eq_true, true_and, and_true, false_and, and_false, and_self, Int32.reduceSub]
  · have hev := ev_tell_y σ j M i (by omega) hi hM e1
    generalize ht : fn_tr (fn_kd (fn_lt σ j i)) (σ 0 11) = t at hev
    refine ⟨_, _, _, hev, ?_, iv_all_t t h⟩
    obtain ⟨m1, m2, m3, m4, m5⟩ := id hM
    obtain ⟨t1, t2, t3, t4, t5, t6⟩ := m5 i hi
    rcases ev_isItem_c h.2.1 (nI j) (nI i) (sg_up σ 0 11 t) (sg_up_at_ne (by omega)) (fun y _ _ => sg_up_ne (by omega)) (by rw [sg_up_ne (by omega)]) (sg_up_ne (by omega)) with ⟨f1, f2⟩ | ⟨_, _, _, _, _, _, _, _, _, _, _, _, f2⟩
    · exfalso
      rcases ev_isItem_c h.2.1 (nI j) (nI i) σ rfl (fun _ _ _ => rfl) rfl rfl with ⟨g1, -⟩ | ⟨R2, j2, M2, i2, a2, b2, c2, d2, k2, l2, n2, -, -⟩
      · rw [e1] at g1; simp at g1
      · have hb : 0 ≤ nI j ∧ nI j ≤ nI R - 1 := (sg_below (by omega)).mpr ⟨j, hj, rfl⟩
        have hd : (0 ≤ nI i ∧ nI i ≤ nI M - 1) := (sg_below (by omega)).mpr ⟨i, hi, rfl⟩
        have := ev_isItem (sg_up σ 0 11 t) j (nI i) (by omega) (by rw [sg_up_at_ne (by omega), e9]; exact hb)
        rw [sg_up_ne (by omega), m3, if_pos hd, f1] at this
        simp at this
    · have := em_tell_y (sg_up σ 0 11 t) j i (fn_lt σ j i) (fn_nu σ j i) (by omega) (by omega) t1 (by rw [sg_up_ne (by omega)]; exact t5) (by rw [sg_up_ne (by omega)]; exact t6) f2
      rw [this, sg_up_ne (by omega), ← h.2.2.2.1.2, ht]
theorem pr_call {B : Int} {σ : sg_M} (q k : Int32) (h : iv_all B σ) : sg_pair B σ 107 194 [sg_i q, sg_i k] := by
  unfold sg_pair
  rcases ev_isItem_c h.2.1 q k σ rfl (fun _ _ _ => rfl) rfl rfl with ⟨e1, e2⟩ | ⟨R, j, M, i, hR, hj, rfl, e9, hM, hi, rfl, e1, e2⟩
  · refine ⟨sg_i (-1), σ, σ, ?_, ?_, h, rfl, rfl⟩
    · simp (decide := true) only [me_107, mq_107_0, mq_107_1, mq_107_2, mq_107_3, mq_107_6, mq_107_9, mq_107_10, e1, Nat.reduceAdd, Nat.reduceMul, Nat.reduceSub, Nat.zero_add, sg_bi_i, sg_bi_n, sg_bz, sg_bb, sg_b_0, sg_b_1, if_true, if_false, not_true_eq_false, not_false_eq_true, true_and, and_true, false_and, and_false, and_self, Int32.reduceSub]
    · simp (decide := true) only [me_194, mq_194_0, mq_194_1, mq_194_2, mq_194_3, mq_194_6, mq_194_9, mq_194_10, e2, Nat.reduceAdd, Nat.reduceMul, Nat.reduceSub, Nat.zero_add, sg_bi_i, sg_bi_n, sg_bz, sg_bb, sg_b_0, sg_b_1, if_true, if_false, not_true_eq_false, not_false_eq_true, true_and, and_true, false_and, and_false, and_self, Int32.reduceSub]
  · obtain ⟨m1, m2, m3, m4, m5⟩ := id hM
    obtain ⟨t1, t2, t3, t4, t5, t6⟩ := m5 i hi
    have i1 : sg_in (nI j) 7 = true := sg_in_nI (by omega) (by omega)
    have hk := ev_kindOf σ (91 + 3 * j) i (fn_lt σ j i) (by omega) t1 t3
    -- the model's side, over any memory with these rows
    have hem : ∀ τ : sg_M, τ 133 = σ 133 → sg_ev 190 τ [sg_r 7 120, sg_i (nI j), sg_i (nI i)] = some (some (sg_i 0), τ) → sg_ev 194 τ [sg_r 7 120, sg_i (nI j), sg_i (nI i)] = some (some (sg_i (if fn_kd (fn_lt σ j i) = 2 then 80 else nI i)), sg_up τ 120 36 (31 * τ 120 36 + (if fn_kd (fn_lt σ j i) = 2 then 5 else 4))) := by
      intro τ e3 hno
      have hk2 := em_kindOf τ j i (fn_lt σ j i) (by omega) (by omega) t1 (by rw [e3]; exact t5)
      have hk3 := fun w => em_kindOf (sg_up τ 120 36 w) j i (fn_lt σ j i) (by omega) (by omega) t1 (by rw [sg_up_ne (by omega), e3]; exact t5)
      by_cases c2 : fn_kd (fn_lt σ j i) = 2
      · rw [c2] at hk2 hk3
        simp (decide := true) only [me_194, mq_194_0, mq_194_1, mq_194_2, mq_194_3, mq_194_6, mq_194_9, mq_194_10, mq_194_11, mq_194_12, mq_194_13, mq_194_14, mq_194_15, mq_194_18, mq_194_19, mq_194_22, mq_194_23, mq_194_26, mq_194_27, mq_194_30, mq_194_31, mq_194_32, mq_194_33, mq_194_36, mq_194_37, mq_194_40, mq_194_42, mq_194_45, mq_194_46, hno, hk2, hk3, em_traced, c2, Nat.reduceAdd, Nat.reduceMul, Nat.reduceSub, Nat.zero_add, sg_bi_i, sg_bi_n, sg_bz, sg_bb, sg_b_0, sg_b_1, if_true, if_false, not_true_eq_false, not_false_eq_true, true_and, and_true, false_and, and_false, and_self, Int32.reduceSub]
      · simp (decide := true) only [me_194, mq_194_0, mq_194_1, mq_194_2, mq_194_3, mq_194_6, mq_194_9, mq_194_10, mq_194_11, mq_194_12, mq_194_13, mq_194_14, mq_194_15, mq_194_18, mq_194_19, mq_194_22, mq_194_23, mq_194_26, mq_194_27, mq_194_30, mq_194_31, mq_194_32, mq_194_33, mq_194_36, mq_194_37, mq_194_40, mq_194_42, mq_194_45, mq_194_46, hno, hk2, hk3, em_traced, c2, Nat.reduceAdd, Nat.reduceMul, Nat.reduceSub, Nat.zero_add, sg_bi_i, sg_bi_n, sg_bz, sg_bb, sg_b_0, sg_b_1, if_true, if_false, not_true_eq_false, not_false_eq_true, true_and, and_true, false_and, and_false, and_self, Int32.reduceSub]
    have hev : sg_ev 107 σ [sg_r 1 0, sg_i (nI j), sg_i (nI i)] = some (some (sg_i (if fn_kd (fn_lt σ j i) = 2 then 80 else nI i)), sg_up σ 0 11 (31 * σ 0 11 + (if fn_kd (fn_lt σ j i) = 2 then 5 else 4))) := by
      by_cases c2 : fn_kd (fn_lt σ j i) = 2
      · rw [c2] at hk
        simp (decide := true) only [me_107, mq_107_0, mq_107_1, mq_107_2, mq_107_3, mq_107_6, mq_107_9, mq_107_10, mq_107_11, mq_107_12, mq_107_15, mq_107_16, mq_107_17, mq_107_18, mq_107_21, mq_107_22, mq_107_25, mq_107_26, mq_107_27, mq_107_30, mq_107_32, mq_107_33, mq_107_34, mq_107_35, mq_107_38, mq_107_39, e1, i1, sg_nIc (show j < 2 ^ 31 by omega), hk, ev_mark, c2, Nat.reduceAdd, Nat.reduceMul, Nat.reduceSub, Nat.zero_add, sg_bi_i, sg_bi_n, sg_bz, sg_bb, sg_b_0, sg_b_1, if_true, if_false, not_true_eq_false, not_false_eq_true, true_and, and_true, false_and, and_false, and_self, Int32.reduceSub]
      · simp (decide := true) only [me_107, mq_107_0, mq_107_1, mq_107_2, mq_107_3, mq_107_6, mq_107_9, mq_107_10, mq_107_11, mq_107_12, mq_107_15, mq_107_16, mq_107_17, mq_107_18, mq_107_21, mq_107_22, mq_107_25, mq_107_26, mq_107_27, mq_107_30, mq_107_32, mq_107_33, mq_107_34, mq_107_35, mq_107_38, mq_107_39, e1, i1, sg_nIc (show j < 2 ^ 31 by omega), hk, ev_mark, c2, Nat.reduceAdd, Nat.reduceMul, Nat.reduceSub, Nat.zero_add, sg_bi_i, sg_bi_n, sg_bz, sg_bb, sg_b_0, sg_b_1, if_true, if_false, not_true_eq_false, not_false_eq_true, true_and, and_true, false_and, and_false, and_self, Int32.reduceSub]
    generalize ht : 31 * σ 0 11 + (if fn_kd (fn_lt σ j i) = 2 then 5 else 4) = t at hev
    refine ⟨_, _, _, hev, ?_, iv_all_t t h⟩
    have hno := em_noItem (sg_up σ 0 11 t) j (nI i) (by omega) (by
      obtain ⟨R', r1, r2, r3, -⟩ := h.2.1
      rw [sg_up_ne (by omega), r3]; exact nI_nmin (by omega)) (by
      obtain ⟨R', r1, r2, r3, -⟩ := h.2.1
      rw [sg_up_ne (by omega), r3, ← r2, e9]; exact (sg_below (by omega)).mpr ⟨j, hj, rfl⟩) (by rw [sg_up_ne (by omega), m4]; exact nI_nmin (by omega))
    rw [sg_up_ne (show 132 ≠ 0 by omega), m4, if_pos ((sg_below (by omega)).mpr ⟨i, hi, rfl⟩)] at hno
    rw [hem _ (sg_up_ne (by omega)) hno, sg_up_ne (show 120 ≠ 0 by omega), ← h.2.2.2.1.2, ht]
