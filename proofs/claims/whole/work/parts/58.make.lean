/-- a recipe, as both have it -/
theorem rc_it {σ : sg_M} {q M : Nat} (h : iv_rc σ q M) : (∀ k, k < M → fn_lt σ q k < 7 ∧ fn_nu σ q k < 2 ^ 31 ∧ σ (91 + 3 * q + 1) k = nI (fn_lt σ q k) ∧ σ (91 + 3 * q + 2) k = nI (fn_nu σ q k)) ∧ (∀ k, k < M → fn_lt σ q k < 7 ∧ fn_nu σ q k < 2 ^ 31 ∧ σ 133 (8 * q + k) = nI (fn_lt σ q k) ∧ σ 134 (8 * q + k) = nI (fn_nu σ q k)) := by
  obtain ⟨a, b, c, d, e⟩ := h
  exact ⟨fun k hk => ⟨(e k hk).1, by have := (e k hk).2.1; omega, (e k hk).2.2.1, (e k hk).2.2.2.1⟩, fun k hk => ⟨(e k hk).1, by have := (e k hk).2.1; omega, (e k hk).2.2.2.2.1, (e k hk).2.2.2.2.2⟩⟩
theorem wh_le {cond : fn_PS → Bool} {st : fn_PS → fn_PS} : ∀ m P, (fn_wh cond st m P).1 ≤ m := by
  intro m
  induction m with
  | zero => intro P; exact Nat.le_refl 0
  | succ m ih =>
    intro P
    simp only [fn_wh]
    split
    · have := ih (st P); show _ + 1 ≤ _; omega
    · exact Nat.zero_le _
theorem sg_nlate {k : Nat} (hk : k < 8) : (nI k = (-1 : Int32)) = False ∧ (nI k = (-9 : Int32)) = False := by
  refine ⟨eq_false fun q => ?_, eq_false fun q => ?_⟩
  · have := congrArg Int32.toInt q
    rw [nI_toInt (by omega), sg_tm1] at this
    omega
  · have := congrArg Int32.toInt q
    rw [nI_toInt (by omega), sg_tm9] at this
    omega
theorem pr_make {B : Int} {σ : sg_M} (hB : 150 ≤ B) (p q : Int32) (h : iv_all B σ) : sg_pair B σ 45 148 [sg_i p, sg_i q] := by
  rcases pc_cases h.2.2.2.2.2 p with hno | ⟨j, m, hj, rfl, hpc, hp⟩
  · refine pair_same h (sg_i (-1)) σ σ ?_ (same_rfl σ) ?_ (same_rfl σ)
    · simp (decide := true) only [me_45, mq_45_0, mq_45_1, mq_45_2, mq_45_5, mq_45_8, mq_45_9, mq_45_10, mq_45_13, mq_45_16, mq_45_17, mq_45_18, mq_45_19, mq_45_22, mq_45_23, mq_45_24, mq_45_27, mq_45_30, mq_45_32, mq_45_35, mq_45_36, mq_45_39, mq_45_40, mq_45_41, mq_45_42, mq_45_45, mq_45_46, mq_45_47, mq_45_48, mq_45_49, mq_45_52, (hno σ).1 rfl, Nat.reduceAdd, Nat.reduceMul, Nat.reduceSub, Nat.zero_add, sg_bi_i, sg_bi_n, sg_bz, sg_bb, sg_b_0, sg_b_1, if_true, if_false, not_true_eq_false, not_false_eq_true, true_and, and_true, false_and, and_false, and_self, Int32.reduceSub]
    · simp (decide := true) only [me_148, mq_148_0, mq_148_1, mq_148_2, mq_148_5, mq_148_8, mq_148_9, mq_148_10, mq_148_13, mq_148_16, mq_148_17, mq_148_18, mq_148_19, mq_148_20, mq_148_23, mq_148_26, mq_148_28, mq_148_29, mq_148_30, mq_148_31, mq_148_34, mq_148_35, mq_148_36, mq_148_38, mq_148_39, mq_148_42, mq_148_43, mq_148_44, mq_148_47, mq_148_48, mq_148_51, (hno σ).2 rfl, Nat.reduceAdd, Nat.reduceMul, Nat.reduceSub, Nat.zero_add, sg_bi_i, sg_bi_n, sg_bz, sg_bb, sg_b_0, sg_b_1, if_true, if_false, not_true_eq_false, not_false_eq_true, true_and, and_true, false_and, and_false, and_self, Int32.reduceSub]
  · have e1 := (hp σ).1 rfl
    have e2 := (hp σ).2 rfl
    have i1 : sg_in (nI j) 8 = true := sg_in_nI (by omega) (by omega)
    have cj : (nI j).toNatClampNeg = j := sg_nIc (by omega)
    obtain ⟨⟨n1, n8⟩, hn, hn2, ho, -, hi, hst⟩ := id hpc
    rcases rc_cases h.2.1 q with hno | ⟨x, M, hx, rfl, hM, hr⟩
    · refine pair_same h (sg_i (-1)) σ σ ?_ (same_rfl σ) ?_ (same_rfl σ)
      · simp (decide := true) only [me_45, mq_45_0, mq_45_1, mq_45_2, mq_45_5, mq_45_8, mq_45_9, mq_45_10, mq_45_13, mq_45_16, mq_45_17, mq_45_18, mq_45_19, mq_45_22, mq_45_23, mq_45_24, mq_45_27, mq_45_30, mq_45_32, mq_45_35, mq_45_36, mq_45_39, mq_45_40, mq_45_41, mq_45_42, mq_45_45, mq_45_46, mq_45_47, mq_45_48, mq_45_49, mq_45_52, e1, (hno σ).1 rfl, Nat.reduceAdd, Nat.reduceMul, Nat.reduceSub, Nat.zero_add, sg_bi_i, sg_bi_n, sg_bz, sg_bb, sg_b_0, sg_b_1, if_true, if_false, not_true_eq_false, not_false_eq_true, true_and, and_true, false_and, and_false, and_self, Int32.reduceSub]
      · simp (decide := true) only [me_148, mq_148_0, mq_148_1, mq_148_2, mq_148_5, mq_148_8, mq_148_9, mq_148_10, mq_148_13, mq_148_16, mq_148_17, mq_148_18, mq_148_19, mq_148_20, mq_148_23, mq_148_26, mq_148_28, mq_148_29, mq_148_30, mq_148_31, mq_148_34, mq_148_35, mq_148_36, mq_148_38, mq_148_39, mq_148_42, mq_148_43, mq_148_44, mq_148_47, mq_148_48, mq_148_51, e2, (hno σ).2 rfl, Nat.reduceAdd, Nat.reduceMul, Nat.reduceSub, Nat.zero_add, sg_bi_i, sg_bi_n, sg_bz, sg_bb, sg_b_0, sg_b_1, if_true, if_false, not_true_eq_false, not_false_eq_true, true_and, and_true, false_and, and_false, and_self, Int32.reduceSub]
    · have r1 := (hr σ).1 rfl
      have r2 := (hr σ).2 rfl
      have i2 : sg_in (nI x) 7 = true := sg_in_nI (by omega) (by omega)
      have cx : (nI x).toNatClampNeg = x := sg_nIc (by omega)
      by_cases hf : 40 < σ (19 + 6 * j) 7
      · have f1 := em_fallen hj hpc σ rfl
        refine pair_same h (sg_i (-3)) σ σ ?_ (same_rfl σ) ?_ (same_rfl σ)
        · simp (decide := true) only [me_45, mq_45_0, mq_45_1, mq_45_2, mq_45_5, mq_45_8, mq_45_9, mq_45_10, mq_45_13, mq_45_16, mq_45_17, mq_45_18, mq_45_19, mq_45_22, mq_45_23, mq_45_24, mq_45_27, mq_45_30, mq_45_32, mq_45_35, mq_45_36, mq_45_39, mq_45_40, mq_45_41, mq_45_42, mq_45_45, mq_45_46, mq_45_47, mq_45_48, mq_45_49, mq_45_52, e1, r1, i1, cj, ev_hasFallen, hf, Nat.reduceAdd, Nat.reduceMul, Nat.reduceSub, Nat.zero_add, sg_bi_i, sg_bi_n, sg_bz, sg_bb, sg_b_0, sg_b_1, if_true, if_false, not_true_eq_false, not_false_eq_true, true_and, and_true, false_and, and_false, and_self, Int32.reduceSub]
        · simp (decide := true) only [me_148, mq_148_0, mq_148_1, mq_148_2, mq_148_5, mq_148_8, mq_148_9, mq_148_10, mq_148_13, mq_148_16, mq_148_17, mq_148_18, mq_148_19, mq_148_20, mq_148_23, mq_148_26, mq_148_28, mq_148_29, mq_148_30, mq_148_31, mq_148_34, mq_148_35, mq_148_36, mq_148_38, mq_148_39, mq_148_42, mq_148_43, mq_148_44, mq_148_47, mq_148_48, mq_148_51, e2, r2, f1, hf, Nat.reduceAdd, Nat.reduceMul, Nat.reduceSub, Nat.zero_add, sg_bi_i, sg_bi_n, sg_bz, sg_bb, sg_b_0, sg_b_1, if_true, if_false, not_true_eq_false, not_false_eq_true, true_and, and_true, false_and, and_false, and_self, Int32.reduceSub]
      · have on1 := h.2.2.2.2.2.1.1 j (by omega)
        obtain ⟨it1, it2⟩ := rc_it hM
        obtain ⟨m1, m8, m2, m3, -⟩ := id hM
        obtain ⟨w1, g1⟩ := ev_doOn σ (19 + 6 * j) (91 + 3 * x) m M 0 (-1) (fn_lt σ x) (fn_nu σ x) (fn_cp σ (19 + 6 * j)) (σ (19 + 6 * j + 5)) n1 n8 hn (by omega) m8 m2 (by omega) it1 hi
        rw [cp_self, on1, nI_0] at g1
        generalize hP : (fn_do 1 m (σ (19 + 6 * j + 1)) (fn_lt σ x) (fn_nu σ x) (-1) 0 M 0 (fn_cp σ (19 + 6 * j))).2 = P at g1
        have hPi : iv_ps (σ (19 + 6 * j + 1)) m P := by rw [← hP]; exact do_iv n1 M 0 _ hi
        have hPs : iv_st B m P := by rw [← hP]; exact do_st hB n1 M 0 _ hst
        obtain ⟨q1, q2, q3⟩ := tk_pP (σ := σ) hj P w1
        obtain ⟨s1, s2, s3⟩ := tk_rl hpc
        have e2' := (hp (sg_pP σ (19 + 6 * j) P w1)).2 (by rw [pP_x _ _ _ _ (by omega)])
        have r2' := (hr (sg_pP σ (19 + 6 * j) P w1)).2 (by rw [pP_x _ _ _ _ (by omega)])
        have f1 := em_fallen hj hpc (sg_pP σ (19 + 6 * j) P w1) (pP_x _ _ _ _ (by omega))
        have t1 := em_takeUp (sg_pP σ (19 + 6 * j) P w1) j hj
        have lc : ∀ y, 132 ≤ y → sg_tk (sg_pP σ (19 + 6 * j) P w1) j y = σ y := fun y hy => by rw [tk_x _ _ (by omega) (by omega), pP_x _ _ _ _ (by omega)]
        obtain ⟨w2, g2⟩ := em_doRecipe (sg_tk (sg_pP σ (19 + 6 * j) P w1) j) x m M 0 (-9) 0 (fn_lt σ x) (fn_nu σ x) (fn_tk (sg_pP σ (19 + 6 * j) P w1) j) (sg_pP σ (19 + 6 * j) P w1 131) n1 n8 (by rw [q1]; exact hn2) hx m8 (by rw [lc _ (by omega)]; exact m3) (by omega) (by rw [lc _ (by omega), lc _ (by omega)]; exact it2) (by rw [q2, q3]; exact s3)
        rw [q2, q3, nI_0] at g2
        have rel := do_rl (on := 1) (lt := fn_lt σ x) (nu := fn_nu σ x) (lt' := fn_lt σ x) (nu' := fn_nu σ x) (late := -1) (late' := -9) (d := 0) n1 s2 M (fun k hk => ⟨rfl, rfl, by rw [(sg_nlate (show k < 8 by omega)).1, (sg_nlate (show k < 8 by omega)).2]⟩) M 0 _ _ (by omega) s1
        rw [hP] at rel
        generalize hQ : (fn_do 1 m (fn_cut j 8 (σ 122) (σ 127)) (fn_lt σ x) (fn_nu σ x) (-9) 0 M 0 (fn_tk σ j)).2 = Q at g2 rel
        generalize hT : (fn_do 1 m (fn_cut j 8 (σ 122) (σ 127)) (fn_lt σ x) (fn_nu σ x) (-9) 0 M 0 (fn_tk σ j)).1 = T at g2 rel
        rw [rel.1] at g1
        have fin := go_all h hj hpc P Q w1 w2 (0 + nI T) rel.2 hPi hPs
        refine ⟨sg_i (nI T), sg_pP σ (19 + 6 * j) P w1, _, ?_, ?_, fin⟩
        · simp (decide := true) only [me_45, mq_45_0, mq_45_1, mq_45_2, mq_45_5, mq_45_8, mq_45_9, mq_45_10, mq_45_13, mq_45_16, mq_45_17, mq_45_18, mq_45_19, mq_45_22, mq_45_23, mq_45_24, mq_45_27, mq_45_30, mq_45_32, mq_45_35, mq_45_36, mq_45_39, mq_45_40, mq_45_41, mq_45_42, mq_45_45, mq_45_46, mq_45_47, mq_45_48, mq_45_49, mq_45_52, e1, r1, i1, i2, cj, cx, ev_hasFallen, hf, g1, Nat.reduceAdd, Nat.reduceMul, Nat.reduceSub, Nat.zero_add, sg_bi_i, sg_bi_n, sg_bz, sg_bb, sg_b_0, sg_b_1, if_true, if_false, not_true_eq_false, not_false_eq_true, true_and, and_true, false_and, and_false, and_self, Int32.reduceSub]
        · rw [q3] at t1
          simp (decide := true) only [me_148, mq_148_0, mq_148_1, mq_148_2, mq_148_5, mq_148_8, mq_148_9, mq_148_10, mq_148_13, mq_148_16, mq_148_17, mq_148_18, mq_148_19, mq_148_20, mq_148_23, mq_148_26, mq_148_28, mq_148_29, mq_148_30, mq_148_31, mq_148_34, mq_148_35, mq_148_36, mq_148_38, mq_148_39, mq_148_42, mq_148_43, mq_148_44, mq_148_47, mq_148_48, mq_148_51, e2', r2', f1, hf, t1, g2, em_lb _ j hj, lb_x _ _ (show 120 < 121 ∨ 126 < 120 by omega), mP_10, Int32.zero_add, Nat.reduceAdd, Nat.reduceMul, Nat.reduceSub, Nat.zero_add, sg_bi_i, sg_bi_n, sg_bz, sg_bb, sg_b_0, sg_b_1, if_true, if_false, not_true_eq_false, not_false_eq_true, true_and, and_true, false_and, and_false, and_self, Int32.reduceSub]
/-! a piece that is only looked at: stage 0 -/
/-- stage x becomes like a piece: the frame, without what is going on -/
def sg_lk (σ : sg_M) (c e : Nat) : sg_M := sg_set (sg_up σ c 6 (σ e 6)) (c + 1) (va_cpy (σ (e + 1)) (σ (c + 1)) 0 0 8)
def fn_lkP (σ : sg_M) (c e : Nat) : fn_PS := (σ e 7, va_cpy (σ (e + 2)) (σ (c + 2)) 0 0 8, va_cpy (σ (e + 3)) (σ (c + 3)) 0 0 8, va_cpy (σ (e + 4)) (σ (c + 4)) 0 0 8)
theorem ev_likeP (σ : sg_M) (c e : Nat) (hce : e + 6 ≤ c ∨ c + 6 ≤ e) : sg_ev 53 σ [sg_r 2 c, sg_r 2 e] = some (none, sg_pP (sg_lk σ c e) c (fn_lkP σ c e) (σ (c + 5))) := ev_like σ c e hce
theorem lk_6 (σ : sg_M) (c e : Nat) : sg_lk σ c e c 6 = σ e 6 := by
  unfold sg_lk; rw [sg_set_ne (by omega), sg_up_at]
theorem lk_c (σ : sg_M) (c e : Nat) {j : Nat} (hj : j ≠ 6) : sg_lk σ c e c j = σ c j := by
  unfold sg_lk; rw [sg_set_ne (by omega), sg_up_at_ne hj]
theorem lk_1 (σ : sg_M) (c e : Nat) : sg_lk σ c e (c + 1) = va_cpy (σ (e + 1)) (σ (c + 1)) 0 0 8 := by
  unfold sg_lk; rw [sg_set_same]
theorem lk_x (σ : sg_M) (c e : Nat) {y : Nat} (h : y ≠ c) (h1 : y ≠ c + 1) : sg_lk σ c e y = σ y := by
  unfold sg_lk; rw [sg_set_ne h1, sg_up_ne h]
theorem lkP_rl (σ : sg_M) (c e n : Nat) (h8 : n ≤ 8) : rl_ps n (fn_cp σ e) (fn_lkP σ c e) := by
  refine ⟨rfl, fun k hk => ⟨?_, ?_, ?_⟩⟩
  · show σ (e + 2) k = va_cpy (σ (e + 2)) (σ (c + 2)) 0 0 8 k
    rw [va_cpy8 _ _ k (by omega)]
  · show σ (e + 3) k = va_cpy (σ (e + 3)) (σ (c + 3)) 0 0 8 k
    rw [va_cpy8 _ _ k (by omega)]
  · show σ (e + 4) k = va_cpy (σ (e + 4)) (σ (c + 4)) 0 0 8 k
    rw [va_cpy8 _ _ k (by omega)]
theorem rl_iv {n : Nat} {g g' : Nat → Int32} {P Q : fn_PS} (hg : ∀ k, k < n → g k = g' k) (h : rl_ps n P Q) (hi : iv_ps g n P) : iv_ps g' n Q := by
  intro k hk
  obtain ⟨a, b, c⟩ := hi k hk
  obtain ⟨d, e, f⟩ := h.2 k hk
  rw [← hg k hk, ← d, ← e]
  exact ⟨a, b, c⟩
theorem rl_tr {n : Nat} {P Q R : fn_PS} (h : rl_ps n P Q) (k : rl_ps n Q R) : rl_ps n P R := ⟨h.1.trans k.1, fun j hj => ⟨((h.2 j hj).1).trans (k.2 j hj).1, ((h.2 j hj).2.1).trans (k.2 j hj).2.1, ((h.2 j hj).2.2).trans (k.2 j hj).2.2⟩⟩
theorem rl_sy {n : Nat} {P Q : fn_PS} (h : rl_ps n P Q) : rl_ps n Q P := ⟨h.1.symm, fun j hj => ⟨(h.2 j hj).1.symm, (h.2 j hj).2.1.symm, (h.2 j hj).2.2.symm⟩⟩
/-- stages are nobody's -/
theorem same_lk (σ : sg_M) (x e : Nat) (hx : x < 4) (P : fn_PS) (w : Nat → Int32) : sg_same σ (sg_pP (sg_lk σ (67 + 6 * x) e) (67 + 6 * x) P w) := by
  refine ⟨?_, fun j hj => ?_, fun y hy => ?_, fun i hi => ?_, ?_⟩
  · rw [pP_x _ _ _ _ (by omega), lk_x _ _ _ (by omega) (by omega)]
  · rw [pP_x _ _ _ _ (by omega), lk_x _ _ _ (by omega) (by omega)]
  · unfold sg_kp at hy
    rw [pP_x _ _ _ _ (by omega), lk_x _ _ _ (by omega) (by omega)]
  · by_cases h : i = 8 + x
    · subst h
      rw [show 19 + 6 * (8 + x) = 67 + 6 * x by omega, pP_c _ _ _ _ (by omega), lk_c _ _ _ (by omega)]
    · rw [pP_x _ _ _ _ (by omega), lk_x _ _ _ (by omega) (by omega)]
  · rw [pP_x _ _ _ _ (by omega), lk_x _ _ _ (by omega) (by omega)]
theorem sg_fact10 (w : Int32) : (10 ≤ w.toInt64 ∧ w.toInt64 ≤ 15) = (0 ≤ w - 10 ∧ w - 10 ≤ 5) := by
  rw [sg_i64 w 10 15 10 15 (by decide) (by decide), eq_iff_iff]
  have b1 := Int32.le_toInt w
  have b2 := Int32.toInt_lt w
  have e15 : (15 : Int32).toInt = 15 := by decide
  rw [Int32.le_iff_toInt_le, Int32.le_iff_toInt_le, Int32.le_iff_toInt_le, Int32.le_iff_toInt_le, Int32.toInt_sub, sg_t10, sg_t0, sg_t5, e15]
  by_cases h : w.toInt - 10 < -2147483648
  · rw [show (w.toInt - 10).bmod (2 ^ 32) = w.toInt - 10 + 2 ^ 32 by
      rw [Int.bmod_def]
      split <;> omega]
    omega
  · rw [Int.bmod_eq_of_le (by omega) (by omega)]
    omega
