theorem fn_rd_pl (C : Nat → Int32) (b : Nat) : ∀ m a k f g p, (fn_rd C b m a k f g).1 = some p → p ≤ a + 4 * m := by
  intro m
  induction m with
  | zero =>
    intro a k f g p h
    simp only [fn_rd, Option.some.injEq] at h
    omega
  | succ m ih =>
    intro a k f g p h
    have d2 : (fn_D C a).1 ≤ 2 := by
      have h1 := (fn_dn_ge C (a + 1) (fn_md (fn_le (C a))) 0 0).2
      have h2 := fn_md_2 (fn_le (C a))
      unfold fn_D
      omega
    simp only [fn_rd] at h
    split at h
    · simp only [Option.some.injEq] at h; omega
    split at h
    · simp only [Option.some.injEq] at h; omega
    split at h
    · simp at h
    split at h
    · have := ih _ _ _ _ _ h; omega
    · simp only [Option.some.injEq] at h; omega
theorem iv_R_w {σ τ : sg_M} {R : Nat} (h : ∀ q, q < R → ∃ M, iv_rc σ q M) (h2 : ∀ y, 91 ≤ y → y < 91 + 3 * R → τ y = σ y) (h3 : ∀ q, q < R → τ 132 q = σ 132 q) (h4 : ∀ y, y < 8 * R → τ 133 y = σ 133 y) (h5 : ∀ y, y < 8 * R → τ 134 y = σ 134 y) : ∀ q, q < R → ∃ M, iv_rc τ q M := by
  intro q hq
  obtain ⟨M, e⟩ := h q hq
  refine ⟨M, ?_⟩
  obtain ⟨e1, e2, e3, e4, e5⟩ := e
  have r0 := h2 (91 + 3 * q) (by omega) (by omega)
  have r1 := h2 (91 + 3 * q + 1) (by omega) (by omega)
  have r2 := h2 (91 + 3 * q + 2) (by omega) (by omega)
  refine ⟨e1, e2, by rw [r0]; exact e3, by rw [h3 q hq]; exact e4, fun k hk => ?_⟩
  have := e5 k hk
  unfold fn_lt fn_nu at this ⊢
  rw [r1, r2, h4 _ (by omega), h5 _ (by omega)]
  exact this
theorem pr_recipe {B : Int} {σ : sg_M} (k lane i n : Int32) (h : iv_all B σ) : sg_pair B σ 33 142 [sg_i k, sg_i lane, sg_i i, sg_i n] := by
  have e1L : n.toInt64 * (nI 1).toInt64 = n.toInt64 := by
    apply Int64.toInt_inj.mp
    rw [tk_mul (Or.inl rfl), Int32.toInt_toInt64]
    omega
  rcases tk_cases h k lane i n 1 (Or.inl rfl) with ⟨r, f, hr, he, hc⟩ | ⟨q, a, b, hq, rfl, rfl, rfl, hab, hlen, he, hm⟩
  · rw [show nI 1 = (1 : Int32) from rfl] at he
    refine ⟨sg_i r, sg_up σ 0 12 f, sg_up (sg_up σ 0 12 f) 120 0 f, ?_, ?_, iv_all_f f h⟩
    · simp (decide := true) only [me_33, mq_33_0, mq_33_1, mq_33_2, mq_33_3, mq_33_4, mq_33_6, mq_33_7, mq_33_10, mq_33_12, mq_33_14, mq_33_17, mq_33_19, he, hr, Nat.reduceAdd, Nat.reduceMul, Nat.reduceSub, Nat.zero_add, sg_bi_i, sg_bi_n, sg_bz, sg_bb, sg_b_0, sg_b_1, if_true, if_false, not_true_eq_false, not_false_eq_true, true_and, and_true, false_and, and_false, and_self, Int32.reduceSub]
    · rcases hc with ⟨hk, rfl, rfl⟩ | ⟨hk, hr0, hm⟩
      · simp (decide := true) only [me_142, mq_142_0, mq_142_1, mq_142_4, mq_142_7, mq_142_8, mq_142_9, mq_142_12, em_noSheet, em_refused, hk, Nat.reduceAdd, Nat.reduceMul, Nat.reduceSub, Nat.zero_add, sg_bi_i, sg_bi_n, sg_bz, sg_bb, sg_b_0, sg_b_1, if_true, if_false, not_true_eq_false, not_false_eq_true, true_and, and_true, false_and, and_false, and_self, Int32.reduceSub]
      · have hm := hm (sg_up σ 0 12 f) (sg_up_ne (by omega)) (sg_up_ne (by omega))
        rw [e1L] at hm
        simp (decide := true) only [me_142, mq_142_0, mq_142_1, mq_142_4, mq_142_7, mq_142_8, mq_142_9, mq_142_12, mq_142_13, mq_142_14, mq_142_15, mq_142_16, mq_142_17, mq_142_19, mq_142_20, mq_142_23, mq_142_25, mq_142_27, mq_142_30, mq_142_32, em_noSheet, hk, hm, hr0, Nat.reduceAdd, Nat.reduceMul, Nat.reduceSub, Nat.zero_add, sg_bi_i, sg_bi_n, sg_bz, sg_bb, sg_b_0, sg_b_1, if_true, if_false, not_true_eq_false, not_false_eq_true, true_and, and_true, false_and, and_false, and_self, Int32.reduceSub]
  · rw [show nI 1 = (1 : Int32) from rfl] at he
    rw [Nat.one_mul] at hab hlen
    obtain ⟨s1, s2, s3, s4⟩ := h.1 q hq
    have iq : sg_in (nI q) 4 = true := sg_in_nI (by omega) (by omega)
    have cq : (nI q).toNatClampNeg = q := sg_nIc (by omega)
    have hk : 0 ≤ nI q ∧ nI q ≤ 3 := ⟨nI_pos' (by omega), nI_le (b := 3) (by omega) (by omega)⟩
    have e60 : (60 : Int32) * nI q + nI a = nI (60 * q + a) := by rw [show (60 : Int32) = nI 60 from rfl, pk_mul, nI_add]
    obtain ⟨hS, ⟨R, R6, hR1, hR2, hR3⟩, hA, hF, hJ, hP⟩ := id h
    have iR : sg_in (nI R) 7 = true := sg_in_nI (by omega) (by omega)
    have cR : (nI R).toNatClampNeg = R := sg_nIc (by omega)
    have htk := ev_take (sg_up σ 0 12 0) q a b hab
    rw [sg_up_ne (show 113 + 2 * q ≠ 0 by omega), sg_up_ne (show (11 : Nat) ≠ 0 by omega)] at htk
    generalize hσb : sg_set (sg_up (sg_up σ 0 12 0) 10 1 (nI b)) 11 (va_cpy (σ (113 + 2 * q)) (σ 11) a 0 b) = σb at htk
    have b0 : σb 0 = upd (σ 0) 12 0 := by rw [← hσb, sg_set_ne (by omega), sg_up_ne (by omega), sg_up_row]
    have b10 : σb 10 1 = nI b := by rw [← hσb, sg_set_ne (by omega), sg_up_at]
    have b11 : σb 11 = va_cpy (σ (113 + 2 * q)) (σ 11) a 0 b := by rw [← hσb, sg_set_same]
    have bx : ∀ y, y ≠ 0 → y ≠ 10 → y ≠ 11 → σb y = σ y := fun y c d e => by rw [← hσb, sg_set_ne e, sg_up_ne d, sg_up_ne c]
    have b9 : σb 0 9 = nI R := by rw [b0, upd_ne (by omega)]; exact hR1
    -- the class reads
    generalize hσc : sg_up σb (91 + 3 * R) 2 0 = σc
    have cx : ∀ y, y ≠ 91 + 3 * R → σc y = σb y := fun y c => by rw [← hσc, sg_up_ne c]
    have hCc : fn_co (σc 11) b = fn_co (fun j => σ (113 + 2 * q) (a + j)) b := fn_co_congr (fun j hj => by rw [cx 11 (by omega), b11, pk_cpy_in (by omega) (by omega), Nat.sub_zero])
    obtain ⟨M1, g1, g2, g3, g4, g5, g6⟩ := ev_read_l b (91 + 3 * R) (by omega) (by omega) 8 0 0 σc (sg_r 0 0) (sg_r 0 0) (sg_r 0 0) (by omega) (by omega) (by omega) (by rw [cx 10 (by omega)]; exact b10) (by rw [← hσc, sg_up_at]; rfl)
    rw [hCc] at g1 g2 g3 g4
    generalize hC : fn_co (fun j => σ (113 + 2 * q) (a + j)) b = C at g1 g2 g3 g4
    have hrd : sg_ev 35 σb [sg_r 3 (91 + 3 * R), sg_r 4 10] = some (some (sg_i (fn_pl (-1) (fn_rd C b 8 0 0 (σc (91 + 3 * R + 1)) (σc (91 + 3 * R + 2))).1)), M1) := by
      rw [← g1]
      simp (decide := true) only [me_35, mq_35_0, mq_35_1, mq_35_2, mq_35_5, mq_35_6, mq_35_7, mq_35_8, hσc, nI_0, Nat.reduceAdd, Nat.reduceMul, Nat.reduceSub, Nat.zero_add, sg_bi_i, sg_bi_n, sg_bz, sg_bb, sg_b_0, sg_b_1, if_true, if_false, not_true_eq_false, not_false_eq_true, true_and, and_true, false_and, and_false, and_self, Int32.reduceSub]
    generalize hR1' : fn_rd C b 8 0 0 (σc (91 + 3 * R + 1)) (σc (91 + 3 * R + 2)) = X at g1 g2 g3 g4 hrd
    have M10 : M1 0 = upd (σ 0) 12 0 := by rw [g6 0 (by omega) (by omega) (by omega), cx 0 (by omega), b0]
    have M1x : ∀ y, y ≠ 0 → y ≠ 10 → y ≠ 11 → (y < 91 + 3 * R ∨ 91 + 3 * R + 2 < y) → M1 y = σ y := fun y c d e f => by rw [g6 y (by omega) (by omega) (by omega), cx y (by omega), bx y c d e]
    have M19 : M1 0 9 = nI R := by rw [M10, upd_ne (by omega)]; exact hR1
    -- the model reads
    have key : ∀ τ : sg_M, τ 142 = σ 142 → τ 143 = σ 143 → τ 144 = σ 144 → ∃ M2 : sg_M, sg_ev 142 τ [sg_r 7 120, sg_i (nI q), sg_i lane, sg_i (nI a), sg_i (nI b)] = sg_rv 142 47 M2 [sg_r 7 120, sg_i (nI q), sg_i lane, sg_i (nI a), sg_i (nI b), sg_i 0, sg_i (fn_pl (-9) X.1), sg_r 0 0] [] ∧ M2 120 20 = nI X.2.1 ∧ (∀ j, j < X.2.1 → M2 135 j = X.2.2.1 j ∧ M2 136 j = X.2.2.2 j) ∧ (∀ j, j ≠ 20 → M2 120 j = τ 120 j) ∧ (∀ y, y ≠ 120 → y ≠ 135 → y ≠ 136 → M2 y = τ y) := by
      intro τ t1 t2 t3
      generalize hτc : sg_up τ 120 20 0 = τc
      have tx : ∀ y, y ≠ 120 → τc y = τ y := fun y c => by rw [← hτc, sg_up_ne c]
      have hCm : fn_co (fun j => τc 144 (60 * q + a + j)) b = C := by
        rw [← hC]
        refine fn_co_congr (fun j hj => ?_)
        rw [tx 144 (by omega), t3, show 60 * q + a + j = 60 * q + (a + j) by omega]
        exact s4 (a + j) (by omega)
      obtain ⟨M2, m1, m2, m3, m4, m5, m6⟩ := em_read_l (60 * q + a) b (by omega) (by omega) 7 0 0 τc (sg_r 0 0) (sg_r 0 0) (sg_r 0 0) (by omega) (by omega) (by rw [← hτc, sg_up_at]; rfl)
      rw [hCm] at m1 m2 m3 m4
      obtain ⟨q1, q2, q3⟩ := fn_rd_rl C b 8 0 0 (σc (91 + 3 * R + 1)) (σc (91 + 3 * R + 2)) (τc 135) (τc 136) (fun j hj => absurd hj (by omega))
      rw [hR1'] at q1 q2 q3
      rw [← q1] at m1
      rw [← q2] at m2
      have hmr : sg_ev 143 τ [sg_r 7 120, sg_i (nI (60 * q + a)), sg_i (nI b)] = some (some (sg_i (fn_pl (-9) X.1)), M2) := by
        rw [← m1]
        simp (decide := true) only [me_143, mq_143_0, mq_143_1, mq_143_2, mq_143_5, mq_143_6, mq_143_7, mq_143_8, hτc, nI_0, Nat.reduceAdd, Nat.reduceMul, Nat.reduceSub, Nat.zero_add, sg_bi_i, sg_bi_n, sg_bz, sg_bb, sg_b_0, sg_b_1, if_true, if_false, not_true_eq_false, not_false_eq_true, true_and, and_true, false_and, and_false, and_self, Int32.reduceSub]
      have hmb := hm τ t1 t2
      rw [e1L] at hmb
      refine ⟨M2, ?_, m2, fun j hj => ?_, fun j hj => ?_, fun y c d e => by rw [m6 y c d e, tx y c]⟩
      · simp (decide := true) only [me_142, mq_142_0, mq_142_1, mq_142_4, mq_142_7, mq_142_8, mq_142_9, mq_142_12, mq_142_13, mq_142_14, mq_142_15, mq_142_16, mq_142_17, mq_142_19, mq_142_20, mq_142_23, mq_142_25, mq_142_27, mq_142_30, mq_142_32, mq_142_33, mq_142_34, mq_142_36, mq_142_37, mq_142_38, mq_142_39, mq_142_40, mq_142_42, mq_142_45, em_noSheet, hk, hmb, e60, hmr, Nat.reduceAdd, Nat.reduceMul, Nat.reduceSub, Nat.zero_add, sg_bi_i, sg_bi_n, sg_bz, sg_bb, sg_b_0, sg_b_1, if_true, if_false, not_true_eq_false, not_false_eq_true, true_and, and_true, false_and, and_false, and_self, Int32.reduceSub]
      · rw [m3, m4]; exact ⟨((q3 j hj).1).symm, ((q3 j hj).2).symm⟩
      · rw [m5 j hj, ← hτc, sg_up_at_ne hj]
    have hok := fn_rd_ok C b 8 0 0 (σc (91 + 3 * R + 1)) (σc (91 + 3 * R + 2)) (fun j hj => absurd hj (by omega))
    rw [hR1'] at hok
    obtain ⟨-, ok2, ok3, ok4⟩ := hok
    have hclass : sg_ev 33 σ [sg_r 1 0, sg_i (nI q), sg_i lane, sg_i (nI a), sg_i (nI b)] = sg_rv 33 54 M1 [sg_r 1 0, sg_i (nI q), sg_i lane, sg_i (nI a), sg_i (nI b), sg_i 0, sg_i (fn_pl (-1) X.1)] [] := by
      simp (decide := true) only [me_33, mq_33_0, mq_33_1, mq_33_2, mq_33_3, mq_33_4, mq_33_6, mq_33_7, mq_33_10, mq_33_12, mq_33_14, mq_33_17, mq_33_19, mq_33_20, mq_33_21, mq_33_24, mq_33_25, mq_33_28, mq_33_29, mq_33_30, mq_33_31, mq_33_33, mq_33_36, mq_33_37, mq_33_40, mq_33_41, mq_33_44, mq_33_45, mq_33_46, mq_33_49, mq_33_52, he, iq, cq, htk, b9, iR, cR, hrd, Nat.reduceAdd, Nat.reduceMul, Nat.reduceSub, Nat.zero_add, sg_bi_i, sg_bi_n, sg_bz, sg_bb, sg_b_0, sg_b_1, if_true, if_false, not_true_eq_false, not_false_eq_true, true_and, and_true, false_and, and_false, and_self, Int32.reduceSub]
    -- nothing is kept of it
    have keep : ∀ M2 : sg_M, (∀ j, j ≠ 20 → M2 120 j = M1 120 j) → (∀ y, y ≠ 120 → y ≠ 135 → y ≠ 136 → M2 y = M1 y) → iv_all B (sg_up M2 120 0 0) ∧ sg_up M2 120 0 0 1000 = σ 1000 ∧ sg_up M2 120 0 0 999 = σ 999 := by
      intro M2 n1 n2
      have wx : ∀ y, y ≠ 120 → y ≠ 135 → y ≠ 136 → sg_up M2 120 0 0 y = M1 y := fun y c d e => by rw [sg_up_ne c, n2 y c d e]
      have wy : ∀ y, y ≠ 120 → y ≠ 135 → y ≠ 136 → y ≠ 0 → y ≠ 10 → y ≠ 11 → (y < 91 + 3 * R ∨ 91 + 3 * R + 2 < y) → sg_up M2 120 0 0 y = σ y := fun y c d e f1 f2 f3 f4 => by rw [wx y c d e, M1x y f1 f2 f3 f4]
      have wm : ∀ j, j ≠ 0 → j ≠ 20 → sg_up M2 120 0 0 120 j = σ 120 j := fun j c d => by rw [sg_up_at_ne c, n1 j d, M1x 120 (by omega) (by omega) (by omega) (by omega)]
      refine iv_all_R h (fun j c d => ?_) (fun j c d e => wm j c d) ?_ (fun y c d e f g => wy y (by omega) (by omega) (by omega) (by omega) (by omega) (by omega) (by omega)) ⟨R, R6, ?_, ?_, ?_⟩
      · rw [wx 0 (by omega) (by omega) (by omega), M10, upd_ne c]
      · rw [wx 0 (by omega) (by omega) (by omega), M10, upd_same, sg_up_at]
      · rw [wx 0 (by omega) (by omega) (by omega)]; exact M19
      · rw [wm 16 (by omega) (by omega)]; exact hR2
      · exact iv_R_w hR3 (fun y c d => wy y (by omega) (by omega) (by omega) (by omega) (by omega) (by omega) (by omega)) (fun x _ => by rw [wy 132 (by omega) (by omega) (by omega) (by omega) (by omega) (by omega) (by omega)]) (fun x _ => by rw [wy 133 (by omega) (by omega) (by omega) (by omega) (by omega) (by omega) (by omega)]) (fun x _ => by rw [wy 134 (by omega) (by omega) (by omega) (by omega) (by omega) (by omega) (by omega)])
    have t14 : ∀ y, 142 ≤ y → y ≤ 144 → M1 y = σ y := fun y c d => M1x y (by omega) (by omega) (by omega) (by omega)
    cases hX : X.1 with
    | some p =>
      have hp := fn_rd_pl C b 8 0 0 (σc (91 + 3 * R + 1)) (σc (91 + 3 * R + 2)) p (by rw [hR1']; exact hX)
      have np : ¬ nI p < 0 := nI_pos (by omega)
      obtain ⟨M2, n0, -, -, n3, n4⟩ := key M1 (t14 _ (by omega) (by omega)) (t14 _ (by omega) (by omega)) (t14 _ (by omega) (by omega))
      refine ⟨sg_i (-100 - nI p), M1, sg_up M2 120 0 0, ?_, ?_, keep M2 n3 n4⟩
      · rw [hclass, hX]
        simp (decide := true) only [mq_33_54, mq_33_56, mq_33_59, mq_33_61, mq_33_63, mq_33_64, fn_pl, np, Nat.reduceAdd, Nat.reduceMul, Nat.reduceSub, Nat.zero_add, sg_bi_i, sg_bi_n, sg_bz, sg_bb, sg_b_0, sg_b_1, if_true, if_false, not_true_eq_false, not_false_eq_true, true_and, and_true, false_and, and_false, and_self, Int32.reduceSub]
      · rw [n0, hX]
        simp (decide := true) only [mq_142_47, mq_142_49, mq_142_52, mq_142_53, mq_142_55, mq_142_57, mq_142_58, mq_142_61, fn_pl, np, em_refused, Nat.reduceAdd, Nat.reduceMul, Nat.reduceSub, Nat.zero_add, sg_bi_i, sg_bi_n, sg_bz, sg_bb, sg_b_0, sg_b_1, if_true, if_false, not_true_eq_false, not_false_eq_true, true_and, and_true, false_and, and_false, and_self, Int32.reduceSub]
    | none =>
      have hK := ok3 hX
      by_cases h6 : R = 6
      · have c6 : (nI R < 6) = False := eq_false (by rw [h6]; decide)
        have c6' : nI R = 6 := by rw [h6]; rfl
        obtain ⟨M2, n0, -, -, n3, n4⟩ := key M1 (t14 _ (by omega) (by omega)) (t14 _ (by omega) (by omega)) (t14 _ (by omega) (by omega))
        have e16 : M2 120 16 = nI R := by rw [n3 16 (by omega), M1x 120 (by omega) (by omega) (by omega) (by omega)]; exact hR2
        refine ⟨sg_i (-4), M1, sg_up M2 120 0 0, ?_, ?_, keep M2 n3 n4⟩
        · rw [hclass, hX]
          simp (decide := true) only [mq_33_54, mq_33_56, mq_33_59, mq_33_61, mq_33_63, mq_33_64, mq_33_65, mq_33_66, mq_33_69, mq_33_71, mq_33_74, mq_33_75, mq_33_76, mq_33_79, mq_33_80, mq_33_81, mq_33_82, mq_33_85, mq_33_88, mq_33_90, fn_pl, M19, c6, Nat.reduceAdd, Nat.reduceMul, Nat.reduceSub, Nat.zero_add, sg_bi_i, sg_bi_n, sg_bz, sg_bb, sg_b_0, sg_b_1, if_true, if_false, not_true_eq_false, not_false_eq_true, true_and, and_true, false_and, and_false, and_self, Int32.reduceSub]
        · rw [n0, hX]
          simp (decide := true) only [mq_142_47, mq_142_49, mq_142_52, mq_142_53, mq_142_55, mq_142_57, mq_142_58, mq_142_61, mq_142_62, mq_142_63, mq_142_66, mq_142_68, mq_142_71, mq_142_72, mq_142_74, mq_142_77, fn_pl, em_refused, e16, c6', Nat.reduceAdd, Nat.reduceMul, Nat.reduceSub, Nat.zero_add, sg_bi_i, sg_bi_n, sg_bz, sg_bb, sg_b_0, sg_b_1, if_true, if_false, not_true_eq_false, not_false_eq_true, true_and, and_true, false_and, and_false, and_self, Int32.reduceSub]
      · have hR5 : R < 6 := by omega
        have c6 : (nI R < 6) = True := eq_true (nI_lt (b := 6) hR5 (by omega))
        have c6' : ¬ nI R = 6 := fun z => h6 ((nI_eq (b := 6) (by omega) (by omega)).mp z)
        have iR6 : sg_in (nI R) 6 = true := sg_in_nI (by omega) (by omega)
        generalize hσ1 : sg_up M1 0 9 (nI (R + 1)) = σ1
        have t0 : σ1 0 = upd (upd (σ 0) 12 0) 9 (nI (R + 1)) := by rw [← hσ1, sg_up_row, M10]
        have tx : ∀ y, y ≠ 0 → σ1 y = M1 y := fun y c => by rw [← hσ1, sg_up_ne c]
        obtain ⟨M2, n0, n1, n2, n3, n4⟩ := key σ1 (by rw [tx _ (by omega)]; exact t14 _ (by omega) (by omega)) (by rw [tx _ (by omega)]; exact t14 _ (by omega) (by omega)) (by rw [tx _ (by omega)]; exact t14 _ (by omega) (by omega))
        have e16 : M2 120 16 = nI R := by rw [n3 16 (by omega), tx 120 (by omega), M1x 120 (by omega) (by omega) (by omega) (by omega)]; exact hR2
        generalize hτ : sg_up M2 132 R (nI X.2.1) = τ
        have τx : ∀ y, y ≠ 132 → τ y = M2 y := fun y c => by rw [← hτ, sg_up_ne c]
        obtain ⟨M3, p0, p3, p4, px⟩ := em_cpr_l τ R X.2.1 (nI q) lane (nI a) (nI b) 0 (-9) hR5 (by omega) (by rw [τx 120 (by omega)]; exact n1) (by rw [τx 120 (by omega)]; exact e16) X.2.1 0 τ (by omega) (by rw [fn_lay_0]) (by rw [fn_lay_0]) (fun y _ _ => rfl)
        refine ⟨sg_i (nI R), σ1, sg_up (sg_up M3 120 16 (nI (R + 1))) 120 0 0, ?_, ?_, ?_⟩
        · rw [hclass, hX]
          simp (decide := true) only [mq_33_54, mq_33_56, mq_33_59, mq_33_61, mq_33_63, mq_33_64, mq_33_65, mq_33_66, mq_33_69, mq_33_71, mq_33_74, mq_33_75, mq_33_76, mq_33_79, mq_33_80, mq_33_81, mq_33_82, mq_33_85, mq_33_88, mq_33_90, fn_pl, M19, c6, nI_1, hσ1, Nat.reduceAdd, Nat.reduceMul, Nat.reduceSub, Nat.zero_add, sg_bi_i, sg_bi_n, sg_bz, sg_bb, sg_b_0, sg_b_1, if_true, if_false, not_true_eq_false, not_false_eq_true, true_and, and_true, false_and, and_false, and_self, Int32.reduceSub]
        · rw [n0, hX]
          rw [nI_0] at p0
          simp (decide := true) only [mq_142_47, mq_142_49, mq_142_52, mq_142_53, mq_142_55, mq_142_57, mq_142_58, mq_142_61, mq_142_62, mq_142_63, mq_142_66, mq_142_68, mq_142_71, mq_142_72, mq_142_74, mq_142_77, mq_142_78, mq_142_79, mq_142_82, mq_142_83, mq_142_86, mq_142_87, mq_142_90, mq_142_91, mq_142_92, fn_pl, e16, c6', iR6, cR, n1, hτ, p0, Nat.reduceAdd, Nat.reduceMul, Nat.reduceSub, Nat.zero_add, sg_bi_i, sg_bi_n, sg_bz, sg_bb, sg_b_0, sg_b_1, if_true, if_false, not_true_eq_false, not_false_eq_true, true_and, and_true, false_and, and_false, and_self, Int32.reduceSub]
        · generalize hω : sg_up (sg_up M3 120 16 (nI (R + 1))) 120 0 0 = ω
          have wx : ∀ y, y ≠ 120 → (y < 132 ∨ 136 < y) → ω y = σ1 y := fun y c d => by rw [← hω, sg_up_ne c, sg_up_ne c, px y (by omega) (by omega), τx y (by omega), n4 y c (by omega) (by omega)]
          have wz : ∀ y, y ≠ 0 → y ≠ 10 → y ≠ 11 → y ≠ 120 → (y < 132 ∨ 136 < y) → (y < 91 + 3 * R ∨ 91 + 3 * R + 2 < y) → ω y = σ y := fun y c d e f g i => by rw [wx y f g, tx y c, M1x y c d e i]
          have wm : ∀ j, j ≠ 0 → j ≠ 20 → j ≠ 16 → ω 120 j = σ 120 j := fun j c d e => by rw [← hω, sg_up_at_ne c, sg_up_at_ne e, px 120 (by omega) (by omega), τx 120 (by omega), n3 j d, tx 120 (by omega), M1x 120 (by omega) (by omega) (by omega) (by omega)]
          have w132 : ω 132 = upd (σ 132) R (nI X.2.1) := by rw [← hω, sg_up_ne (by omega), sg_up_ne (by omega), px 132 (by omega) (by omega), ← hτ, sg_up_row, n4 132 (by omega) (by omega) (by omega), tx 132 (by omega), M1x 132 (by omega) (by omega) (by omega) (by omega)]
          have w133 : ω 133 = fn_lay R X.2.1 (M2 135) (σ 133) := by rw [← hω, sg_up_ne (by omega), sg_up_ne (by omega), p3, τx 135 (by omega), τx 133 (by omega), n4 133 (by omega) (by omega) (by omega), tx 133 (by omega), M1x 133 (by omega) (by omega) (by omega) (by omega)]
          have w134 : ω 134 = fn_lay R X.2.1 (M2 136) (σ 134) := by rw [← hω, sg_up_ne (by omega), sg_up_ne (by omega), p4, τx 136 (by omega), τx 134 (by omega), n4 134 (by omega) (by omega) (by omega), tx 134 (by omega), M1x 134 (by omega) (by omega) (by omega) (by omega)]
          refine iv_all_R h (fun j c d => ?_) (fun j c d e => wm j c d e) ?_ (fun y c d e f g => wz y (by omega) (by omega) (by omega) (by omega) (by omega) (by omega)) ⟨R + 1, by omega, ?_, ?_, fun x hx => ?_⟩
          · rw [wx 0 (by omega) (by omega), t0, upd_ne d, upd_ne c]
          · rw [wx 0 (by omega) (by omega), t0, upd_ne (by omega), upd_same, ← hω, sg_up_at]
          · rw [wx 0 (by omega) (by omega), t0, upd_same]
          · rw [← hω, sg_up_at_ne (by omega), sg_up_at]
          · by_cases hxR : x = R
            · subst hxR
              have r0 : ω (91 + 3 * x) = M1 (91 + 3 * x) := by rw [wx _ (by omega) (by omega), tx _ (by omega)]
              have r1 : ω (91 + 3 * x + 1) = X.2.2.1 := by rw [wx _ (by omega) (by omega), tx _ (by omega), g3]
              have r2 : ω (91 + 3 * x + 2) = X.2.2.2 := by rw [wx _ (by omega) (by omega), tx _ (by omega), g4]
              refine ⟨X.2.1, by omega, by omega, by rw [r0]; exact g2, by rw [w132, upd_same], fun j hj => ?_⟩
              obtain ⟨L, v, hL, hv, eL, ev⟩ := ok4 j hj
              have l1 : 8 * x ≤ 8 * x + j ∧ 8 * x + j < 8 * x + X.2.1 := by omega
              have l2 : 8 * x + j - 8 * x = j := by omega
              unfold fn_lt fn_nu
              rw [r1, r2, w133, w134, eL, ev, sg_nIc (show L < 2 ^ 31 by omega), sg_nIc (show v < 2 ^ 31 by omega)]
              simp only [fn_lay, if_pos l1, l2]
              rw [(n2 j hj).1, (n2 j hj).2, eL, ev]
              exact ⟨hL, hv, trivial, trivial, rfl, rfl⟩
            · refine iv_R_w (R := R) hR3 (fun y c d => wz y (by omega) (by omega) (by omega) (by omega) (by omega) (by omega)) (fun z hz => by rw [w132, upd_ne (by omega)]) (fun z hz => ?_) (fun z hz => ?_) x (by omega)
              · rw [w133]; unfold fn_lay; rw [if_neg (by omega)]
              · rw [w134]; unfold fn_lay; rw [if_neg (by omega)]
