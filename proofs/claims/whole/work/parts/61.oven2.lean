theorem bk_rg {s t : Int32} (h0 : 0 ≤ s.toInt) (h1 : s.toInt ≤ 1000000) (ht : 400 ≤ t ∧ t ≤ 560) : 0 ≤ (fn_bk t s).toInt ∧ (fn_bk t s).toInt ≤ s.toInt := by
  obtain ⟨a, ha, rfl, ea⟩ := sg_nat h0
  have t0 := Int32.le_iff_toInt_le.mp ht.1
  have t1 := Int32.le_iff_toInt_le.mp ht.2
  rw [sg_t400] at t0
  rw [sg_t560] at t1
  obtain ⟨b, hb, rfl, eb⟩ := sg_nat (x := t) (by omega)
  have hm : a * (b - 390) ≤ a * 170 := Nat.mul_le_mul_left a (by omega)
  have hd : a * (b - 390) / 200 ≤ a := by omega
  unfold fn_bk
  rw [show (390 : Int32) = nI 390 from rfl, pk_sub (by omega), pk_mul, show (200 : Int32) = nI 200 from rfl, pk_div (by omega) (by omega) (by omega), pk_sub hd, nI_toInt (by omega), nI_toInt (by omega)]
  omega
theorem bkn_rg {t : Int32} (ht : 400 ≤ t ∧ t ≤ 560) : ∀ m s, 0 ≤ s.toInt → s.toInt ≤ 1000000 → 0 ≤ (fn_bkn t m s).toInt ∧ (fn_bkn t m s).toInt ≤ s.toInt := by
  intro m
  induction m with
  | zero => intro s a b; exact ⟨a, Int.le_refl _⟩
  | succ m ih =>
    intro s a b
    have c := bk_rg a b ht
    have d := ih (fn_bk t s) c.1 (by omega)
    show 0 ≤ (fn_bkn t m (fn_bk t s)).toInt ∧ _
    exact ⟨d.1, Int.le_trans d.2 c.2⟩
theorem so_rg {t : Int32} (ht : 400 ≤ t ∧ t ≤ 560) : 0 ≤ ((t - 400) / 40).toInt ∧ ((t - 400) / 40).toInt ≤ 4 := by
  have t0 := Int32.le_iff_toInt_le.mp ht.1
  have t1 := Int32.le_iff_toInt_le.mp ht.2
  rw [sg_t400] at t0
  rw [sg_t560] at t1
  obtain ⟨b, hb, rfl, eb⟩ := sg_nat (x := t) (by omega)
  rw [show (400 : Int32) = nI 400 from rfl, pk_sub (by omega), show (40 : Int32) = nI 40 from rfl, pk_div (by omega) (by omega) (by omega), nI_toInt (by omega)]
  omega
theorem lo_st {B : Int} {n N : Nat} {t : Int32} {P : fn_PS} (ht : 400 ≤ t ∧ t ≤ 560) (hB : B ≤ 1000000) (h : iv_st B n P) : iv_st (B + 4) n (fn_lo t n (fn_bhn t n N P)) := by
  refine ⟨fun k hk => ?_, ?_⟩
  · show 0 ≤ (if k < n - 1 then (if k < n - 1 then fn_bkn t N (P.2.2.2 k) else P.2.2.2 k) + (t - 400) / 40 else (if k < n - 1 then fn_bkn t N (P.2.2.2 k) else P.2.2.2 k)).toInt ∧ (if k < n - 1 then (if k < n - 1 then fn_bkn t N (P.2.2.2 k) else P.2.2.2 k) + (t - 400) / 40 else (if k < n - 1 then fn_bkn t N (P.2.2.2 k) else P.2.2.2 k)).toInt ≤ B + 4
    rw [if_pos (by omega), if_pos (by omega)]
    have a := h.1 k hk
    have b := bkn_rg ht N (P.2.2.2 k) a.1 (by omega)
    have c := so_rg ht
    rw [sg_add_toInt (by omega) (by omega) (by omega) (by omega)]
    omega
  · show (if n - 1 < n - 1 then (if n - 1 < n - 1 then fn_bkn t N (P.2.2.2 (n - 1)) else P.2.2.2 (n - 1)) + (t - 400) / 40 else (if n - 1 < n - 1 then fn_bkn t N (P.2.2.2 (n - 1)) else P.2.2.2 (n - 1))) = 0
    rw [if_neg (by omega), if_neg (by omega)]
    exact h.2
theorem lo_iv {n N : Nat} {t : Int32} {g : Nat → Int32} {P : fn_PS} (h8 : n ≤ 8) (h : iv_ps g n P) : iv_ps g n (fn_lo t n (fn_bhn t n N P)) := by
  intro k hk
  obtain ⟨a, b, c⟩ := h k hk
  refine ⟨a, b, ?_⟩
  show 0 ≤ (if k < 8 then (20 : Int32) else P.2.2.1 k).toInt ∧ (if k < 8 then (20 : Int32) else P.2.2.1 k).toInt ≤ 1500
  rw [if_pos (by omega), sg_t20]
  omega
theorem ev_oven_l (σ : sg_M) (c n N : Nat) (t : Int32) (x0 x1 : sg_V) (P : fn_PS) (w : Nat → Int32) (h1 : 1 ≤ n) (h8 : n ≤ 8) (hn : σ c 6 = nI n) (hN : N < 2 ^ 31) : ∀ m h, h + m = N → sg_rv 54 58 (sg_pP σ c (fn_bhn t n h P) w) [x0, x1, sg_i t, sg_i (nI N), sg_r 2 c, sg_i (nI h)] [] = some (some (sg_i (fn_mx (fn_lo t n (fn_bhn t n N P)).2.2.2 (n - 1))), sg_pP σ c (fn_lo t n (fn_bhn t n N P)) w) := by
  intro m
  induction m with
  | zero =>
    intro h hh
    have e := ev_mx (sg_pP σ c (fn_lo t n (fn_bhn t n N P)) w) c n h1 h8 (by rw [pP_c _ _ _ _ (by omega)]; exact hn)
    rw [pP_4] at e
    obtain rfl : h = N := by omega
    simp (decide := true) only [mq_54_58, mq_54_60, mq_54_61, nI_ltI (show h < 2 ^ 31 by omega) hN, show ¬ h < h by omega, mq_54_76, mq_54_78, mq_54_79, mq_54_82, mq_54_84, mq_54_87, ev_loP σ c n t _ w h1 h8 hn, e, Nat.reduceAdd, Nat.reduceMul, Nat.reduceSub, Nat.zero_add, sg_bi_i, sg_bi_n, sg_bz, sg_bb, sg_b_0, sg_b_1, if_true, if_false, not_true_eq_false, not_false_eq_true, true_and, and_true, false_and, and_false, and_self, Int32.reduceSub]
  | succ m ih =>
    intro h hh
    simp (decide := true) only [mq_54_58, mq_54_60, mq_54_61, nI_ltI (show h < 2 ^ 31 by omega) hN, show h < N by omega, Nat.reduceAdd, Nat.reduceMul, Nat.reduceSub, Nat.zero_add, sg_bi_i, sg_bi_n, sg_bz, sg_bb, sg_b_0, sg_b_1, if_true, if_false, not_true_eq_false, not_false_eq_true, true_and, and_true, false_and, and_false, and_self, Int32.reduceSub]
    simp (decide := true) only [mq_54_64, mq_54_66, mq_54_67, mq_54_70, mq_54_73, ev_bhP σ c n h t P w h1 h8 hn, nI_1, Nat.reduceAdd, Nat.reduceMul, Nat.reduceSub, Nat.zero_add, sg_bi_i, sg_bi_n, sg_bz, sg_bb, sg_b_0, sg_b_1, if_true, if_false, not_true_eq_false, not_false_eq_true, true_and, and_true, false_and, and_false, and_self, Int32.reduceSub]
    exact ih (h + 1) (by omega)
theorem pr_oven {B : Int} {σ : sg_M} (hB : B ≤ 1000000) (p t n : Int32) (h : iv_all B σ) : sg_pair (B + 4) σ 54 152 [sg_i p, sg_i t, sg_i n] := by
  have h4 : iv_all (B + 4) σ := iv_all_mono (by omega) h
  rcases pc_cases h.2.2.2.2.2 p with hno | ⟨j, m, hj, rfl, hpc, hp⟩
  · refine pair_same h4 (sg_i (-1)) σ σ ?_ (same_rfl σ) ?_ (same_rfl σ)
    · simp (decide := true) only [me_54, mq_54_0, mq_54_1, mq_54_2, mq_54_5, mq_54_8, mq_54_9, (hno σ).1 rfl, Nat.reduceAdd, Nat.reduceMul, Nat.reduceSub, Nat.zero_add, sg_bi_i, sg_bi_n, sg_bz, sg_bb, sg_b_0, sg_b_1, if_true, if_false, not_true_eq_false, not_false_eq_true, true_and, and_true, false_and, and_false, and_self, Int32.reduceSub]
    · simp (decide := true) only [me_152, mq_152_0, mq_152_1, mq_152_2, mq_152_5, mq_152_8, mq_152_9, (hno σ).2 rfl, Nat.reduceAdd, Nat.reduceMul, Nat.reduceSub, Nat.zero_add, sg_bi_i, sg_bi_n, sg_bz, sg_bb, sg_b_0, sg_b_1, if_true, if_false, not_true_eq_false, not_false_eq_true, true_and, and_true, false_and, and_false, and_self, Int32.reduceSub]
  · have e1 := (hp σ).1 rfl
    have e2 := (hp σ).2 rfl
    have i1 : sg_in (nI j) 8 = true := sg_in_nI (by omega) (by omega)
    have cj : (nI j).toNatClampNeg = j := sg_nIc (by omega)
    obtain ⟨⟨n1, n8⟩, hn, hn2, ho, -, hi, hst⟩ := id hpc
    have t64 := sg_i64 t 400 560 400 560 (by decide) (by decide)
    have n64 := sg_i64 n 0 40 0 40 (by decide) (by decide)
    have ov : ∀ τ : sg_M, sg_ev 153 τ [sg_i t] = some (some (sg_i (if 400 ≤ t ∧ t ≤ 560 then 1 else 0)), τ) := fun τ => by
      simp (decide := true) only [me_153, mq_153_0, mq_153_1, mq_153_2, mq_153_5, mq_153_8, mq_153_11, em_in, t64, Nat.reduceAdd, Nat.reduceMul, Nat.reduceSub, Nat.zero_add, sg_bi_i, sg_bi_n, sg_bz, sg_bb, sg_b_0, sg_b_1, if_true, if_false, not_true_eq_false, not_false_eq_true, true_and, and_true, false_and, and_false, and_self, Int32.reduceSub]
    by_cases ht : 400 ≤ t ∧ t ≤ 560
    · by_cases hnn : 0 ≤ n ∧ n ≤ 40
      · have mb := ev_mayBake σ (19 + 6 * j) m n1 n8 hn
        by_cases hst2 : fn_gs (σ (19 + 6 * j + 3)) m = 0 ∧ ¬ 40 < σ (19 + 6 * j) 7
        · obtain ⟨N, hN, rfl⟩ := nI_of2 (x := n) (M := 40) (n := 40) (by decide) (by rw [Int32.not_lt]; exact hnn.1) hnn.2
          have lp := ev_oven_l σ (19 + 6 * j) m N t (sg_r 1 0) (sg_i (nI j)) (fn_cp σ (19 + 6 * j)) (σ (19 + 6 * j + 5)) n1 n8 hn (by omega) N 0 (by omega)
          rw [fn_bhn_0, cp_self] at lp
          have sm := em_stiff hj hpc
          have hPi := lo_iv (N := N) (t := t) n8 hi
          have hPs := lo_st (N := N) ht hB hst
          generalize hP : fn_lo t m (fn_bhn t m N (fn_cp σ (19 + 6 * j))) = P at lp hPi hPs
          obtain ⟨q1, q2, q3⟩ := tk_pP (σ := σ) hj P (σ (19 + 6 * j + 5))
          obtain ⟨r1, r2, r3⟩ := tk_rl hpc
          have rel := bake_rl (N := N) (t := t) n8 r1
          rw [hP] at rel
          -- the model's piece is as it was: only the class has baked
          generalize hω : sg_pP σ (19 + 6 * j) P (σ (19 + 6 * j + 5)) = ω at *
          have ox : ∀ y, y < 19 + 6 * j ∨ 19 + 6 * j + 6 ≤ y → ω y = σ y := fun y hy => by rw [← hω]; exact pP_x _ _ _ _ (by omega)
          have e2' := (hp ω).2 (by rw [ox _ (by omega)])
          have st2 : sg_ev 154 ω [sg_r 7 120, sg_i (nI j)] = some (some (sg_i 1), ω) := by
            have f : sg_ev 134 ω [sg_r 7 120, sg_i (nI j)] = _ := em_fallen hj hpc ω (ox _ (by omega))
            simp (decide := true) only [me_154, mq_154_0, mq_154_1, mq_154_2, mq_154_5, mq_154_8, mq_154_9, mq_154_12, mq_154_13, mq_154_14, mq_154_15, f, hst2.2, Nat.reduceAdd, Nat.reduceMul, Nat.reduceSub, Nat.zero_add, sg_bi_i, sg_bi_n, sg_bz, sg_bb, sg_b_0, sg_b_1, if_true, if_false, not_true_eq_false, not_false_eq_true, true_and, and_true, false_and, and_false, and_self, Int32.reduceSub]
            refine em_st1 ω j m hj n8 (by rw [ox _ (by omega)]; exact hn2) m 0 (by omega) (fun i _ b => ?_)
            rw [ox _ (by omega), (hpc.2.2.2.2.1 i b).2.2.1]
            exact (fn_gs0 _ m n1).mp hst2.1 i b
          have t1 := em_takeUp ω j hj
          have bkm := em_bake (sg_tk ω j) m N t 0 (fn_tk ω j) (ω 131) n8 (by rw [q1]; exact hn2) (by omega)
          rw [q3] at bkm t1
          generalize hQ : fn_bM t N m (fn_tk σ j) = Q at bkm rel
          have mxm := em_mx (sg_lb (sg_mP (sg_tk ω j) 0 Q (ω 131)) j) m n1 n8 (by rw [lb_x _ _ (by omega), mP_120 _ _ _ _ (by omega), q1]; exact hn2)
          have e130 : sg_lb (sg_mP (sg_tk ω j) 0 Q (ω 131)) j 130 = Q.2.2.2 := by
            rw [lb_x _ _ (by omega)]; unfold sg_mP; rw [mm_130]
          rw [e130, ← fn_mx_congr (m - 1) (fun i hi => (rel.2 i (by omega)).2.2)] at mxm
          have fin := go_all (B := B + 4) h4 hj (iv_pc_mono (by omega) hpc) P Q (σ (19 + 6 * j + 5)) (ω 131) 0 rel hPi hPs
          rw [hω] at fin
          refine ⟨sg_i (fn_mx P.2.2.2 (m - 1)), ω, _, ?_, ?_, fin⟩
          · simp (decide := true) only [me_54, mq_54_0, mq_54_1, mq_54_2, mq_54_5, mq_54_8, mq_54_9, mq_54_10, mq_54_11, mq_54_14, mq_54_17, mq_54_20, mq_54_23, mq_54_24, mq_54_25, mq_54_27, mq_54_30, mq_54_33, mq_54_35, mq_54_36, mq_54_37, mq_54_40, mq_54_41, mq_54_42, mq_54_44, mq_54_46, mq_54_49, mq_54_52, mq_54_54, mq_54_55, mq_54_56, e1, ev_within, ht, hnn, i1, cj, mb, hst2, Nat.reduceAdd, Nat.reduceMul, Nat.reduceSub, Nat.zero_add, sg_bi_i, sg_bi_n, sg_bz, sg_bb, sg_b_0, sg_b_1, if_true, if_false, not_true_eq_false, not_false_eq_true, true_and, and_true, false_and, and_false, and_self, Int32.reduceSub]
            exact lp
          · simp (decide := true) only [me_152, mq_152_0, mq_152_1, mq_152_2, mq_152_5, mq_152_8, mq_152_9, mq_152_10, mq_152_11, mq_152_14, mq_152_17, mq_152_18, mq_152_19, mq_152_20, mq_152_23, mq_152_26, mq_152_29, mq_152_31, mq_152_32, mq_152_33, mq_152_34, mq_152_37, mq_152_40, mq_152_42, mq_152_43, mq_152_44, mq_152_45, mq_152_48, mq_152_49, mq_152_50, mq_152_51, mq_152_54, mq_152_55, mq_152_56, mq_152_59, mq_152_60, mq_152_63, e2', ov, em_in, n64, ht, hnn, st2, t1, bkm, em_lb _ j hj, mxm, Nat.reduceAdd, Nat.reduceMul, Nat.reduceSub, Nat.zero_add, sg_bi_i, sg_bi_n, sg_bz, sg_bb, sg_b_0, sg_b_1, if_true, if_false, not_true_eq_false, not_false_eq_true, true_and, and_true, false_and, and_false, and_self, Int32.reduceSub]
        · have st1 := em_stiff hj hpc σ (same_rfl σ)
          refine pair_same h4 (sg_i (-3)) σ σ ?_ (same_rfl σ) ?_ (same_rfl σ)
          · simp (decide := true) only [me_54, mq_54_0, mq_54_1, mq_54_2, mq_54_5, mq_54_8, mq_54_9, mq_54_10, mq_54_11, mq_54_14, mq_54_17, mq_54_20, mq_54_23, mq_54_24, mq_54_25, mq_54_27, mq_54_30, mq_54_33, mq_54_35, mq_54_36, mq_54_37, mq_54_40, mq_54_41, mq_54_42, mq_54_44, mq_54_46, mq_54_49, mq_54_52, mq_54_54, e1, ev_within, ht, hnn, i1, cj, mb, hst2, Nat.reduceAdd, Nat.reduceMul, Nat.reduceSub, Nat.zero_add, sg_bi_i, sg_bi_n, sg_bz, sg_bb, sg_b_0, sg_b_1, if_true, if_false, not_true_eq_false, not_false_eq_true, true_and, and_true, false_and, and_false, and_self, Int32.reduceSub]
          · simp (decide := true) only [me_152, mq_152_0, mq_152_1, mq_152_2, mq_152_5, mq_152_8, mq_152_9, mq_152_10, mq_152_11, mq_152_14, mq_152_17, mq_152_18, mq_152_19, mq_152_20, mq_152_23, mq_152_26, mq_152_29, mq_152_31, mq_152_32, mq_152_33, mq_152_34, mq_152_37, mq_152_40, mq_152_42, e2, ov, em_in, n64, ht, hnn, st1, hst2, Nat.reduceAdd, Nat.reduceMul, Nat.reduceSub, Nat.zero_add, sg_bi_i, sg_bi_n, sg_bz, sg_bb, sg_b_0, sg_b_1, if_true, if_false, not_true_eq_false, not_false_eq_true, true_and, and_true, false_and, and_false, and_self, Int32.reduceSub]
      · refine pair_same h4 (sg_i (-2)) σ σ ?_ (same_rfl σ) ?_ (same_rfl σ)
        · simp (decide := true) only [me_54, mq_54_0, mq_54_1, mq_54_2, mq_54_5, mq_54_8, mq_54_9, mq_54_10, mq_54_11, mq_54_14, mq_54_17, mq_54_20, mq_54_23, mq_54_24, mq_54_25, mq_54_27, mq_54_30, mq_54_33, mq_54_35, e1, ev_within, ht, hnn, Nat.reduceAdd, Nat.reduceMul, Nat.reduceSub, Nat.zero_add, sg_bi_i, sg_bi_n, sg_bz, sg_bb, sg_b_0, sg_b_1, if_true, if_false, not_true_eq_false, not_false_eq_true, true_and, and_true, false_and, and_false, and_self, Int32.reduceSub]
        · simp (decide := true) only [me_152, mq_152_0, mq_152_1, mq_152_2, mq_152_5, mq_152_8, mq_152_9, mq_152_10, mq_152_11, mq_152_14, mq_152_17, mq_152_18, mq_152_19, mq_152_20, mq_152_23, mq_152_26, mq_152_29, mq_152_31, e2, ov, em_in, n64, ht, hnn, Nat.reduceAdd, Nat.reduceMul, Nat.reduceSub, Nat.zero_add, sg_bi_i, sg_bi_n, sg_bz, sg_bb, sg_b_0, sg_b_1, if_true, if_false, not_true_eq_false, not_false_eq_true, true_and, and_true, false_and, and_false, and_self, Int32.reduceSub]
    · refine pair_same h4 (sg_i (-2)) σ σ ?_ (same_rfl σ) ?_ (same_rfl σ)
      · simp (decide := true) only [me_54, mq_54_0, mq_54_1, mq_54_2, mq_54_5, mq_54_8, mq_54_9, mq_54_10, mq_54_11, mq_54_14, mq_54_17, mq_54_20, mq_54_23, mq_54_24, mq_54_25, mq_54_27, mq_54_30, mq_54_33, mq_54_35, e1, ev_within, ht, Nat.reduceAdd, Nat.reduceMul, Nat.reduceSub, Nat.zero_add, sg_bi_i, sg_bi_n, sg_bz, sg_bb, sg_b_0, sg_b_1, if_true, if_false, not_true_eq_false, not_false_eq_true, true_and, and_true, false_and, and_false, and_self, Int32.reduceSub]
      · simp (decide := true) only [me_152, mq_152_0, mq_152_1, mq_152_2, mq_152_5, mq_152_8, mq_152_9, mq_152_10, mq_152_11, mq_152_14, mq_152_17, mq_152_18, mq_152_19, mq_152_20, mq_152_23, mq_152_26, mq_152_29, mq_152_31, e2, ov, ht, Nat.reduceAdd, Nat.reduceMul, Nat.reduceSub, Nat.zero_add, sg_bi_i, sg_bi_n, sg_bz, sg_bb, sg_b_0, sg_b_1, if_true, if_false, not_true_eq_false, not_false_eq_true, true_and, and_true, false_and, and_false, and_self, Int32.reduceSub]
