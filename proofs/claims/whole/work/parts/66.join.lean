/-! JOIN -/
theorem fn_g_upd {f : Nat → Int32} {n : Nat} {v : Int32} : upd f n v n = v := upd_same f n v
/-- a piece that has a ring more -/
def fn_add (n : Nat) (P : fn_PS) (r b : Int32) : fn_PS := (P.1, upd P.2.1 n r, upd P.2.2.1 n b, upd P.2.2.2 n 0)
theorem add_iv {n : Nat} {g0 : Nat → Int32} {P : fn_PS} {g r b : Int32} (h : iv_ps g0 n P) (q : (1 ≤ g.toInt ∧ g.toInt ≤ 999) ∧ (1 ≤ r.toInt ∧ r.toInt ≤ 99) ∧ (0 ≤ b.toInt ∧ b.toInt ≤ 1500)) : iv_ps (upd g0 n g) (n + 1) (fn_add n P r b) := by
  intro k hk
  show (1 ≤ (upd g0 n g k).toInt ∧ (upd g0 n g k).toInt ≤ 999) ∧ (1 ≤ (upd P.2.1 n r k).toInt ∧ (upd P.2.1 n r k).toInt ≤ 99) ∧ (0 ≤ (upd P.2.2.1 n b k).toInt ∧ (upd P.2.2.1 n b k).toInt ≤ 1500)
  by_cases hkn : k = n
  · subst hkn
    rw [upd_same, upd_same, upd_same]
    exact q
  · rw [upd_ne hkn, upd_ne hkn, upd_ne hkn]
    exact h k (by omega)
theorem add_st {B : Int} {n : Nat} {P : fn_PS} {r b : Int32} (hB : 0 ≤ B) (h1 : 1 ≤ n) (h : iv_st B n P) : iv_st B (n + 1) (fn_add n P r b) := by
  refine ⟨fun k hk => ?_, ?_⟩
  · show 0 ≤ (upd P.2.2.2 n 0 k).toInt ∧ (upd P.2.2.2 n 0 k).toInt ≤ B
    rw [upd_ne (by omega)]
    by_cases hkn : k = n - 1
    · subst hkn
      rw [h.2, sg_t0]
      omega
    · exact h.1 k (by omega)
  · show upd P.2.2.2 n 0 (n + 1 - 1) = 0
    rw [Nat.add_sub_cancel, upd_same]
/-- the class adds the bit to the piece at c -/
theorem ev_add2 (M : sg_M) (c n : Nat) (P : fn_PS) (w : Nat → Int32) (R : fn_PS) (v : Nat → Int32) (g r b : Int32) (hc : 9 ≤ c) (hn8 : n < 8) (hn : M c 6 = nI n) : sg_ev 11 (sg_2 M c P w R v) [sg_r 2 c, sg_i g, sg_i r, sg_i b] = some (none, sg_2 (sg_up (sg_up M c 6 (nI (n + 1))) (c + 1) n g) c (fn_add n P r b) w R v) := by
  rw [ev_addRing _ c n g r b hn8 (by rw [r2_7 _ _ _ _ _ _ hc (by omega)]; exact hn)]
  congr 2
  unfold sg_2
  rw [pP_comm _ _ _ _ _ _ hc, pP_comm _ _ _ _ _ _ hc]
  refine pP_ext ?_ ?_ ?_ ?_ ?_ (fun x hx => ?_)
  · rw [sg_up_row, sg_up_ne (by omega), sg_up_ne (by omega), sg_up_ne (by omega), sg_up_ne (by omega), pP_row0, pP_x _ 3 _ _ (by omega), pP_x _ 3 _ _ (by omega), sg_up_ne (by omega), sg_up_row]
    show upd (upd (M c) 7 P.1) 6 (nI (n + 1)) = upd (upd (M c) 6 (nI (n + 1))) 7 P.1
    rw [upd_comm (by omega)]
  · rw [sg_up_ne (by omega), sg_up_ne (by omega), sg_up_ne (by omega), sg_up_row, sg_up_ne (by omega), pP_2]
    rfl
  · rw [sg_up_ne (by omega), sg_up_ne (by omega), sg_up_row, sg_up_ne (by omega), sg_up_ne (by omega), pP_3]
    rfl
  · rw [sg_up_ne (by omega), sg_up_row, sg_up_ne (by omega), sg_up_ne (by omega), sg_up_ne (by omega), pP_4]
    rfl
  · rw [sg_up_ne (by omega), sg_up_ne (by omega), sg_up_ne (by omega), sg_up_ne (by omega), sg_up_ne (by omega), pP_5]
  · by_cases h1 : x = c + 1
    · subst h1
      rw [sg_up_ne (by omega), sg_up_ne (by omega), sg_up_ne (by omega), sg_up_ne (by omega), sg_up_row, pP_1, pP_x _ 3 _ _ (by omega), pP_x _ 3 _ _ (by omega), sg_up_row, sg_up_ne (by omega)]
    · rw [sg_up_ne (by omega), sg_up_ne (by omega), sg_up_ne (by omega), sg_up_ne (by omega), sg_up_ne (by omega), pP_x _ c _ _ (by omega)]
      by_cases h3 : x = 3
      · subst h3; rw [pP_row0, pP_row0, sg_up_ne (by omega), sg_up_ne (by omega)]
      · by_cases h5 : x = 5
        · subst h5; exact (pP_2 _ 3 _ _).trans (pP_2 _ 3 _ _).symm
        · by_cases h6 : x = 6
          · subst h6; exact (pP_3 _ 3 _ _).trans (pP_3 _ 3 _ _).symm
          · by_cases h7 : x = 7
            · subst h7; exact (pP_4 _ 3 _ _).trans (pP_4 _ 3 _ _).symm
            · by_cases h8 : x = 8
              · subst h8; exact (pP_5 _ 3 _ _).trans (pP_5 _ 3 _ _).symm
              · rw [pP_x _ 3 _ _ (by omega), pP_x _ 3 _ _ (by omega), sg_up_ne (by omega), sg_up_ne (by omega)]
/-- with the bit, all but the piece is as it was -/
theorem sm_2 (σ M : sg_M) (p : Nat) (hp : p < 8) (P : fn_PS) (w : Nat → Int32) (R : fn_PS) (v : Nat → Int32) (hM : ∀ x, x ≠ 3 → x ≠ 4 → x ≠ 19 + 6 * p → x ≠ 19 + 6 * p + 1 → M x = σ x) (h0 : M 3 0 = σ 3 0) (h1 : M (19 + 6 * p) 0 = σ (19 + 6 * p) 0) : sg_sm p σ (sg_2 M (19 + 6 * p) P w R v) := by
  refine ⟨?_, fun j hj => ?_, fun y hy hq => ?_, fun i hi => ?_, ?_⟩
  · rw [r2_x _ _ _ _ _ _ (by omega) (by omega) (by omega), hM _ (by omega) (by omega) (by omega) (by omega)]
  · rw [r2_x _ _ _ _ _ _ (by omega) (by omega) (by omega), hM _ (by omega) (by omega) (by omega) (by omega)]
  · unfold sg_kp at hy
    rw [r2_x _ _ _ _ _ _ (by omega) (by omega) (by omega), hM _ (by omega) (by omega) (by omega) (by omega)]
  · by_cases h : i = p
    · subst h
      rw [r2_7 _ _ _ _ _ _ (by omega) (by omega), h1]
    · rw [r2_x _ _ _ _ _ _ (by omega) (by omega) (by omega), hM _ (by omega) (by omega) (by omega) (by omega)]
  · unfold sg_2
    rw [pP_c _ _ _ _ (by omega), pP_x _ _ _ _ (by omega), h0]
/-- laid back beside a bit -/
theorem lb_2 {B : Int} {σ M : sg_M} {p n n0 : Nat} (h : iv_all B σ) (hp : p < 8) (h0 : iv_pc B σ p n0) (hb : 1 ≤ n ∧ n ≤ 8) (P : fn_PS) (w : Nat → Int32) (R : fn_PS) (v : Nat → Int32) (hM : ∀ x, x ≠ 3 → x ≠ 4 → x ≠ 19 + 6 * p → x ≠ 19 + 6 * p + 1 → M x = σ x) (hM0 : M 3 0 = σ 3 0) (hM1 : M (19 + 6 * p) 0 = σ (19 + 6 * p) 0) (hn : M (19 + 6 * p) 6 = nI n) (ω : sg_M) (hω : ∀ x, x < 120 → ω x = sg_2 M (19 + 6 * p) P w R v x) (sω : sg_same (sg_2 M (19 + 6 * p) P w R v) ω) (hm : ω 120 8 = nI n) (hg : ∀ k, k < n → M (19 + 6 * p + 1) k = ω 127 k) (hr : rl_ps n P (fn_mp ω)) (hi : iv_ps (M (19 + 6 * p + 1)) n P) (ht : iv_st B n P) : iv_all B (sg_lb ω p) ∧ sg_lb ω p 1000 = σ 1000 ∧ sg_lb ω p 999 = σ 999 := by
  have cpe : fn_cp ω (19 + 6 * p) = P := by
    unfold fn_cp
    rw [hω _ (by omega), hω _ (by omega), hω _ (by omega), hω _ (by omega)]
    unfold sg_2
    rw [pP_x _ 3 _ _ (by omega), pP_x _ 3 _ _ (by omega), pP_x _ 3 _ _ (by omega), pP_x _ 3 _ _ (by omega), pP_c7, pP_2, pP_3, pP_4]
  have e1 : ω (19 + 6 * p + 1) = M (19 + 6 * p + 1) := by
    rw [hω _ (by omega)]
    unfold sg_2
    rw [pP_x _ 3 _ _ (by omega), pP_1]
  refine lb_all h hp h0 (sm_same hp (sm_2 σ M p hp P w R v hM hM0 hM1) sω) hb ?_ hm (fun k hk => ?_) ?_ ?_ ?_
  · rw [hω _ (by omega), r2_7 _ _ _ _ _ _ (by omega) (by omega)]; exact hn
  · rw [e1]; exact hg k hk
  · rw [cpe]; exact hr
  · rw [cpe, e1]; exact hi
  · rw [cpe]; exact ht
theorem bt_rg (th b : Int32) : 0 ≤ (fn_bt th b).toInt ∧ (fn_bt th b).toInt ≤ 1500 := fn_cl_rg _
theorem btn_rg (th : Int32) : ∀ N b, (0 ≤ b.toInt ∧ b.toInt ≤ 1500) → 0 ≤ (fn_it (fn_bt th) N b).toInt ∧ (fn_it (fn_bt th) N b).toInt ≤ 1500 := fun N b h => it_iv (I := fun b => 0 ≤ b.toInt ∧ b.toInt ≤ 1500) (fun a _ => bt_rg th a) N b h
theorem pr_join {B : Int} {σ : sg_M} (hB : 150 ≤ B) (p g r b t : Int32) (h : iv_all B σ) : sg_pair B σ 71 165 [sg_i p, sg_i g, sg_i r, sg_i b, sg_i t] := by
  rcases pc_cases h.2.2.2.2.2 p with hno | ⟨j, m, hj, rfl, hpc, hp⟩
  · refine pair_same h (sg_i (-1)) σ σ ?_ (same_rfl σ) ?_ (same_rfl σ)
    · simp (decide := true) only [me_71, mq_71_0, mq_71_1, mq_71_2, mq_71_3, mq_71_4, mq_71_6, mq_71_8, mq_71_9, mq_71_11, mq_71_14, mq_71_17, mq_71_19, mq_71_21, mq_71_24, mq_71_26, ev_within, ev_barNo ((hno σ).1 rfl), Nat.reduceAdd, Nat.reduceMul, Nat.reduceSub, Nat.zero_add, sg_bi_i, sg_bi_n, sg_bz, sg_bb, sg_b_0, sg_b_1, if_true, if_false, not_true_eq_false, not_false_eq_true, true_and, and_true, false_and, and_false, and_self, Int32.reduceSub]
    · simp (decide := true) only [me_165, mq_165_0, mq_165_1, mq_165_2, mq_165_5, mq_165_8, mq_165_9, (hno σ).2 rfl, Nat.reduceAdd, Nat.reduceMul, Nat.reduceSub, Nat.zero_add, sg_bi_i, sg_bi_n, sg_bz, sg_bb, sg_b_0, sg_b_1, if_true, if_false, not_true_eq_false, not_false_eq_true, true_and, and_true, false_and, and_false, and_self, Int32.reduceSub]
  · have e1 := (hp σ).1 rfl
    have e2 := (hp σ).2 rfl
    have i1 : sg_in (nI j) 8 = true := sg_in_nI (by omega) (by omega)
    have cj : (nI j).toNatClampNeg = j := sg_nIc (by omega)
    obtain ⟨⟨n1, n8⟩, hn, hn2, ho, -, hi, hst⟩ := id hpc
    have t64 := sg_i64 t 0 100 0 100 (by decide) (by decide)
    have br := ev_barBit (B := B) (m := m) hj e1 g r b
    have c8 : (nI m < 8) = (m < 8) := by rw [show (8 : Int32) = nI 8 from rfl, eq_iff_iff]; exact nI_ltI (by omega) (by omega)
    have d8 : (nI m = 8) = (m = 8) := by rw [show (8 : Int32) = nI 8 from rfl, eq_iff_iff]; exact nI_eq (by omega) (by omega)
    by_cases hr : (1 ≤ g ∧ g ≤ 999) ∧ (1 ≤ r ∧ r ≤ 99) ∧ r ≤ g ∧ (0 ≤ b ∧ b ≤ 1500)
    · have hr' := eq_true hr
      have hR : iv_ring g r b := hr
      by_cases ht : 0 ≤ t ∧ t ≤ 100
      · by_cases hf : 40 < σ (19 + 6 * j) 7
        · have f1 := em_fallen hj hpc σ rfl
          refine pair_same h (sg_i (-3)) σ σ ?_ (same_rfl σ) ?_ (same_rfl σ)
          · simp (decide := true) only [me_71, mq_71_0, mq_71_1, mq_71_2, mq_71_3, mq_71_4, mq_71_6, mq_71_8, mq_71_9, mq_71_11, mq_71_14, mq_71_17, mq_71_19, mq_71_21, mq_71_24, mq_71_26, ev_within, ht, br, hr', hf, Nat.reduceAdd, Nat.reduceMul, Nat.reduceSub, Nat.zero_add, sg_bi_i, sg_bi_n, sg_bz, sg_bb, sg_b_0, sg_b_1, if_true, if_false, not_true_eq_false, not_false_eq_true, true_and, and_true, false_and, and_false, and_self, Int32.reduceSub]
          · simp (decide := true) only [me_165, mq_165_0, mq_165_1, mq_165_2, mq_165_5, mq_165_8, mq_165_9, mq_165_10, mq_165_11, mq_165_12, mq_165_14, mq_165_17, mq_165_20, mq_165_22, mq_165_23, mq_165_24, mq_165_27, mq_165_30, mq_165_33, mq_165_35, mq_165_36, mq_165_37, mq_165_38, mq_165_41, mq_165_44, mq_165_46, e2, em_isRing, hr', em_in, t64, ht, f1, hf, Nat.reduceAdd, Nat.reduceMul, Nat.reduceSub, Nat.zero_add, sg_bi_i, sg_bi_n, sg_bz, sg_bb, sg_b_0, sg_b_1, if_true, if_false, not_true_eq_false, not_false_eq_true, true_and, and_true, false_and, and_false, and_self, Int32.reduceSub]
        · by_cases hm8 : m < 8
          · obtain ⟨N, hN, rfl⟩ := nI_of2 (x := t) (M := 100) (n := 100) (by decide) (by rw [Int32.not_lt]; exact ht.1) ht.2
            have on1 := h.2.2.2.2.2.1.1 j (by omega)
            have onb := h.2.2.2.2.2.1.2
            -- the class
            have lb0 := ev_bit2 σ (19 + 6 * j) (fn_cp σ (19 + 6 * j)) (σ (19 + 6 * j + 5)) g r b (by omega)
            rw [cp_self] at lb0
            obtain ⟨q1, q2, q3⟩ := bP_iv σ hR
            have bx : ∀ x, x ≠ 3 → x ≠ 4 → sg_bf σ g x = σ x := fun x a c => bf_x _ _ a c
            obtain ⟨w1, v1, R1, g1, g2, g3, g4⟩ := ev_turnBoth (sg_bf σ g) (19 + 6 * j) m N g r (fn_cp σ (19 + 6 * j)) (fn_bP σ r b) (σ (19 + 6 * j + 5)) (σ 8) (by omega) n1 n8 (by rw [bx _ (by omega) (by omega)]; exact hn) (by rw [bx _ (by omega) (by omega)]; exact on1) (bf_36 _ _) (by rw [bf_3 _ _ (by omega)]; exact onb) (bf_40 _ _) (by omega) (by rw [bx _ (by omega) (by omega)]; exact hi) q1 q2
            rw [q3] at g4
            rw [bx _ (by omega) (by omega)] at g1
            have hPi := it_iv (fun _ q => step_iv (on := 1) (kind := 1) n1 q) N _ hi
            have hPs := it_iv (fun _ q => step_st (on := 1) (kind := 1) (g := σ (19 + 6 * j + 1)) hB n1 q) N _ hst
            generalize hP : fn_it (fn_step 1 m (σ (19 + 6 * j + 1)) 1) N (fn_cp σ (19 + 6 * j)) = P at g1 hPi hPs
            have hh : sg_ev 67 (sg_2 (sg_bf σ g) (19 + 6 * j) P w1 R1 v1) [sg_r 2 (19 + 6 * j), sg_r 2 3] = some (some (sg_i (if fn_hb σ j m g r b N = true then 1 else 0)), sg_2 (sg_bf σ g) (19 + 6 * j) P w1 R1 v1) := by
              rw [ev_holdsBit _ (19 + 6 * j) m n1 n8 (by rw [r2_7 _ _ _ _ _ _ (by omega) (by omega), bx _ (by omega) (by omega)]; exact hn), r2_3 _ _ _ _ _ _ (by omega), r2_6, g4]
              unfold fn_hb
              rw [hP]
            have C1 : sg_ev 71 σ [sg_r 1 0, sg_i (nI j), sg_i g, sg_i r, sg_i b, sg_i (nI N)] = sg_rv 71 76 (sg_2 (sg_bf σ g) (19 + 6 * j) P w1 R1 v1) [sg_r 1 0, sg_i (nI j), sg_i g, sg_i r, sg_i b, sg_i (nI N), sg_i 0, sg_r 2 (19 + 6 * j)] [sg_i (if fn_hb σ j m g r b N = true then 1 else 0)] := by
              simp (decide := true) only [me_71, mq_71_0, mq_71_1, mq_71_2, mq_71_3, mq_71_4, mq_71_6, mq_71_8, mq_71_9, mq_71_11, mq_71_14, mq_71_17, mq_71_19, mq_71_21, mq_71_24, mq_71_26, mq_71_27, mq_71_28, mq_71_31, mq_71_32, mq_71_33, mq_71_35, mq_71_37, mq_71_40, mq_71_42, mq_71_45, mq_71_47, mq_71_48, mq_71_49, mq_71_52, mq_71_53, mq_71_54, mq_71_56, mq_71_59, mq_71_60, mq_71_62, mq_71_64, mq_71_67, mq_71_69, mq_71_70, mq_71_73, ev_within, ht, br, hr', hf, i1, cj, hn, c8, hm8, lb0, g1, hh, Nat.reduceAdd, Nat.reduceMul, Nat.reduceSub, Nat.zero_add, sg_bi_i, sg_bi_n, sg_bz, sg_bb, sg_b_0, sg_b_1, if_true, if_false, not_true_eq_false, not_false_eq_true, true_and, and_true, false_and, and_false, and_self, Int32.reduceSub]
            -- the model, on whatever the class left
            have MOD : ∀ (τ : sg_M), (∀ y, 120 ≤ y → τ y = σ y) → ∃ T w2 e2', e2' = sg_ev 165 τ [sg_r 7 120, sg_i (nI j), sg_i g, sg_i r, sg_i b, sg_i (nI N)] ∧ e2' = sg_rv 165 74 (sg_mP (sg_up (sg_tk τ j) 120 23 (fn_it (fn_bt (g / r)) N b)) T (fn_it (fn_step 1 m (sg_tk τ j 127) 1) N (fn_tk τ j)) w2) [sg_r 7 120, sg_i (nI j), sg_i g, sg_i r, sg_i b, sg_i (nI N), sg_i (if fn_hb σ j m g r b N = true then 1 else 0)] [] ∧ sg_tk τ j 127 = sg_tk σ j 127 ∧ fn_tk τ j = fn_tk σ j := by
              intro τ hτ
              sorry
            sorry
          · have em8 : m = 8 := by omega
            have f1 := em_fallen hj hpc σ rfl
            refine pair_same h (sg_i (-4)) σ σ ?_ (same_rfl σ) ?_ (same_rfl σ)
            · simp (decide := true) only [me_71, mq_71_0, mq_71_1, mq_71_2, mq_71_3, mq_71_4, mq_71_6, mq_71_8, mq_71_9, mq_71_11, mq_71_14, mq_71_17, mq_71_19, mq_71_21, mq_71_24, mq_71_26, mq_71_27, mq_71_28, mq_71_31, mq_71_32, mq_71_33, mq_71_35, mq_71_37, mq_71_40, mq_71_42, mq_71_45, mq_71_47, ev_within, ht, br, hr', hf, i1, cj, hn, c8, hm8, Nat.reduceAdd, Nat.reduceMul, Nat.reduceSub, Nat.zero_add, sg_bi_i, sg_bi_n, sg_bz, sg_bb, sg_b_0, sg_b_1, if_true, if_false, not_true_eq_false, not_false_eq_true, true_and, and_true, false_and, and_false, and_self, Int32.reduceSub]
            · simp (decide := true) only [me_165, mq_165_0, mq_165_1, mq_165_2, mq_165_5, mq_165_8, mq_165_9, mq_165_10, mq_165_11, mq_165_12, mq_165_14, mq_165_17, mq_165_20, mq_165_22, mq_165_23, mq_165_24, mq_165_27, mq_165_30, mq_165_33, mq_165_35, mq_165_36, mq_165_37, mq_165_38, mq_165_41, mq_165_44, mq_165_46, mq_165_47, mq_165_48, mq_165_51, mq_165_52, mq_165_53, mq_165_55, mq_165_58, mq_165_60, e2, em_isRing, hr', em_in, t64, ht, f1, hf, i1, cj, hn2, d8, eq_true em8, Nat.reduceAdd, Nat.reduceMul, Nat.reduceSub, Nat.zero_add, sg_bi_i, sg_bi_n, sg_bz, sg_bb, sg_b_0, sg_b_1, if_true, if_false, not_true_eq_false, not_false_eq_true, true_and, and_true, false_and, and_false, and_self, Int32.reduceSub]
      · refine pair_same h (sg_i (-2)) σ σ ?_ (same_rfl σ) ?_ (same_rfl σ)
        · simp (decide := true) only [me_71, mq_71_0, mq_71_1, mq_71_2, mq_71_3, mq_71_4, mq_71_6, mq_71_8, mq_71_9, mq_71_11, mq_71_14, mq_71_17, mq_71_19, mq_71_21, mq_71_24, mq_71_26, ev_within, ht, br, hr', Nat.reduceAdd, Nat.reduceMul, Nat.reduceSub, Nat.zero_add, sg_bi_i, sg_bi_n, sg_bz, sg_bb, sg_b_0, sg_b_1, if_true, if_false, not_true_eq_false, not_false_eq_true, true_and, and_true, false_and, and_false, and_self, Int32.reduceSub]
        · simp (decide := true) only [me_165, mq_165_0, mq_165_1, mq_165_2, mq_165_5, mq_165_8, mq_165_9, mq_165_10, mq_165_11, mq_165_12, mq_165_14, mq_165_17, mq_165_20, mq_165_22, mq_165_23, mq_165_24, mq_165_27, mq_165_30, mq_165_33, mq_165_35, e2, em_isRing, hr', em_in, t64, ht, Nat.reduceAdd, Nat.reduceMul, Nat.reduceSub, Nat.zero_add, sg_bi_i, sg_bi_n, sg_bz, sg_bb, sg_b_0, sg_b_1, if_true, if_false, not_true_eq_false, not_false_eq_true, true_and, and_true, false_and, and_false, and_self, Int32.reduceSub]
    · have hr' := eq_false hr
      refine pair_same h (sg_i (-2)) σ σ ?_ (same_rfl σ) ?_ (same_rfl σ)
      · simp (decide := true) only [me_71, mq_71_0, mq_71_1, mq_71_2, mq_71_3, mq_71_4, mq_71_6, mq_71_8, mq_71_9, mq_71_11, mq_71_14, mq_71_17, mq_71_19, mq_71_21, mq_71_24, mq_71_26, ev_within, br, hr', Nat.reduceAdd, Nat.reduceMul, Nat.reduceSub, Nat.zero_add, sg_bi_i, sg_bi_n, sg_bz, sg_bb, sg_b_0, sg_b_1, if_true, if_false, not_true_eq_false, not_false_eq_true, true_and, and_true, false_and, and_false, and_self, Int32.reduceSub]
      · simp (decide := true) only [me_165, mq_165_0, mq_165_1, mq_165_2, mq_165_5, mq_165_8, mq_165_9, mq_165_10, mq_165_11, mq_165_12, mq_165_14, mq_165_17, mq_165_20, mq_165_22, mq_165_23, mq_165_24, mq_165_27, mq_165_30, mq_165_33, mq_165_35, e2, em_isRing, hr', Nat.reduceAdd, Nat.reduceMul, Nat.reduceSub, Nat.zero_add, sg_bi_i, sg_bi_n, sg_bz, sg_bb, sg_b_0, sg_b_1, if_true, if_false, not_true_eq_false, not_false_eq_true, true_and, and_true, false_and, and_false, and_self, Int32.reduceSub]
