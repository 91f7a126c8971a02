/-! JOIN -/
theorem fn_g_upd {f : Nat → Int32} {n : Nat} {v : Int32} : upd f n v n = v := upd_same f n v
/-- a piece that has a ring more -/
def fn_add (n : Nat) (P : fn_PS) (r b : Int32) : fn_PS := (P.1, upd P.2.1 n r, upd P.2.2.1 n b, upd P.2.2.2 n 0)
theorem add_iv {n : Nat} {g0 : Nat → Int32} {P : fn_PS} {g r b : Int32} (h : iv_ps g0 n P) (q : (1 ≤ g.toInt ∧ g.toInt ≤ 999) ∧ (1 ≤ r.toInt ∧ r.toInt ≤ 99) ∧ (0 ≤ b.toInt ∧ b.toInt ≤ 1500)) : iv_ps (upd g0 n g) (n + 1) (fn_add n P r b) := by
  intro k hk
  show (1 ≤ (upd g0 n g k).toInt ∧ (upd g0 n g k).toInt ≤ 999) ∧ (1 ≤ (upd P.2.1 n r k).toInt ∧ (upd P.2.1 n r k).toInt ≤ 99) ∧ (0 ≤ (upd P.2.2.1 n b k).toInt ∧ (upd P.2.2.1 n b k).toInt ≤ 1500)
  by_cases hkn : k = n
  · subst hkn
    rw [upd_same, upd_same, upd_same]
    exact q
  · rw [upd_ne hkn, upd_ne hkn, upd_ne hkn]
    exact h k (by omega)
theorem add_st {B : Int} {n : Nat} {P : fn_PS} {r b : Int32} (hB : 0 ≤ B) (h1 : 1 ≤ n) (h : iv_st B n P) : iv_st B (n + 1) (fn_add n P r b) := by
  refine ⟨fun k hk => ?_, ?_⟩
  · show 0 ≤ (upd P.2.2.2 n 0 k).toInt ∧ (upd P.2.2.2 n 0 k).toInt ≤ B
    rw [upd_ne (by omega)]
    by_cases hkn : k = n - 1
    · subst hkn
      rw [h.2, sg_t0]
      omega
    · exact h.1 k (by omega)
  · show upd P.2.2.2 n 0 (n + 1 - 1) = 0
    rw [Nat.add_sub_cancel, upd_same]
/-- the class adds the bit to the piece at c -/
theorem ev_add2 (M : sg_M) (c n : Nat) (P : fn_PS) (w : Nat → Int32) (R : fn_PS) (v : Nat → Int32) (g r b : Int32) (hc : 9 ≤ c) (hn8 : n < 8) (hn : M c 6 = nI n) : sg_ev 11 (sg_2 M c P w R v) [sg_r 2 c, sg_i g, sg_i r, sg_i b] = some (none, sg_2 (sg_up (sg_up M c 6 (nI (n + 1))) (c + 1) n g) c (fn_add n P r b) w R v) := by
  rw [ev_addRing _ c n g r b hn8 (by rw [r2_7 _ _ _ _ _ _ hc (by omega)]; exact hn)]
  congr 2
  unfold sg_2
  rw [pP_comm _ _ _ _ _ _ hc, pP_comm _ _ _ _ _ _ hc]
  refine pP_ext ?_ ?_ ?_ ?_ ?_ (fun x hx => ?_)
  · rw [sg_up_row, sg_up_ne (by omega), sg_up_ne (by omega), sg_up_ne (by omega), sg_up_ne (by omega), pP_row0, pP_x _ 3 _ _ (by omega), pP_x _ 3 _ _ (by omega), sg_up_ne (by omega), sg_up_row]
    show upd (upd (M c) 7 P.1) 6 (nI (n + 1)) = upd (upd (M c) 6 (nI (n + 1))) 7 P.1
    rw [upd_comm (by omega)]
  · rw [sg_up_ne (by omega), sg_up_ne (by omega), sg_up_ne (by omega), sg_up_row, sg_up_ne (by omega), pP_2]
    rfl
  · rw [sg_up_ne (by omega), sg_up_ne (by omega), sg_up_row, sg_up_ne (by omega), sg_up_ne (by omega), pP_3]
    rfl
  · rw [sg_up_ne (by omega), sg_up_row, sg_up_ne (by omega), sg_up_ne (by omega), sg_up_ne (by omega), pP_4]
    rfl
  · rw [sg_up_ne (by omega), sg_up_ne (by omega), sg_up_ne (by omega), sg_up_ne (by omega), sg_up_ne (by omega), pP_5]
  · by_cases h1 : x = c + 1
    · subst h1
      rw [sg_up_ne (by omega), sg_up_ne (by omega), sg_up_ne (by omega), sg_up_ne (by omega), sg_up_row, pP_1, pP_x _ 3 _ _ (by omega), pP_x _ 3 _ _ (by omega), sg_up_row, sg_up_ne (by omega)]
    · rw [sg_up_ne (by omega), sg_up_ne (by omega), sg_up_ne (by omega), sg_up_ne (by omega), sg_up_ne (by omega), pP_x _ c _ _ (by omega)]
      by_cases h3 : x = 3
      · subst h3; rw [pP_row0, pP_row0, sg_up_ne (by omega), sg_up_ne (by omega)]
      · by_cases h5 : x = 5
        · subst h5; exact (pP_2 _ 3 _ _).trans (pP_2 _ 3 _ _).symm
        · by_cases h6 : x = 6
          · subst h6; exact (pP_3 _ 3 _ _).trans (pP_3 _ 3 _ _).symm
          · by_cases h7 : x = 7
            · subst h7; exact (pP_4 _ 3 _ _).trans (pP_4 _ 3 _ _).symm
            · by_cases h8 : x = 8
              · subst h8; exact (pP_5 _ 3 _ _).trans (pP_5 _ 3 _ _).symm
              · rw [pP_x _ 3 _ _ (by omega), pP_x _ 3 _ _ (by omega), sg_up_ne (by omega), sg_up_ne (by omega)]
/-- with the bit, all but the piece is as it was -/
theorem sm_2 (σ M : sg_M) (p : Nat) (hp : p < 8) (P : fn_PS) (w : Nat → Int32) (R : fn_PS) (v : Nat → Int32) (hM : ∀ x, x ≠ 3 → x ≠ 4 → x ≠ 19 + 6 * p → x ≠ 19 + 6 * p + 1 → M x = σ x) (h0 : M 3 0 = σ 3 0) (h1 : M (19 + 6 * p) 0 = σ (19 + 6 * p) 0) : sg_sm p σ (sg_2 M (19 + 6 * p) P w R v) := by
  refine ⟨?_, fun j hj => ?_, fun y hy hq => ?_, fun i hi => ?_, ?_⟩
  · rw [r2_x _ _ _ _ _ _ (by omega) (by omega) (by omega), hM _ (by omega) (by omega) (by omega) (by omega)]
  · rw [r2_x _ _ _ _ _ _ (by omega) (by omega) (by omega), hM _ (by omega) (by omega) (by omega) (by omega)]
  · unfold sg_kp at hy
    rw [r2_x _ _ _ _ _ _ (by omega) (by omega) (by omega), hM _ (by omega) (by omega) (by omega) (by omega)]
  · by_cases h : i = p
    · subst h
      rw [r2_7 _ _ _ _ _ _ (by omega) (by omega), h1]
    · rw [r2_x _ _ _ _ _ _ (by omega) (by omega) (by omega), hM _ (by omega) (by omega) (by omega) (by omega)]
  · unfold sg_2
    rw [pP_c _ _ _ _ (by omega), pP_x _ _ _ _ (by omega), h0]
/-- laid back beside a bit -/
theorem lb_2 {B : Int} {σ M : sg_M} {p n n0 : Nat} (h : iv_all B σ) (hp : p < 8) (h0 : iv_pc B σ p n0) (hb : 1 ≤ n ∧ n ≤ 8) (P : fn_PS) (w : Nat → Int32) (R : fn_PS) (v : Nat → Int32) (hM : ∀ x, x ≠ 3 → x ≠ 4 → x ≠ 19 + 6 * p → x ≠ 19 + 6 * p + 1 → M x = σ x) (hM0 : M 3 0 = σ 3 0) (hM1 : M (19 + 6 * p) 0 = σ (19 + 6 * p) 0) (hn : M (19 + 6 * p) 6 = nI n) (ω : sg_M) (hω : ∀ x, x < 120 → ω x = sg_2 M (19 + 6 * p) P w R v x) (sω : sg_same (sg_2 M (19 + 6 * p) P w R v) ω) (hm : ω 120 8 = nI n) (hg : ∀ k, k < n → M (19 + 6 * p + 1) k = ω 127 k) (hr : rl_ps n P (fn_mp ω)) (hi : iv_ps (M (19 + 6 * p + 1)) n P) (ht : iv_st B n P) : iv_all B (sg_lb ω p) ∧ sg_lb ω p 1000 = σ 1000 ∧ sg_lb ω p 999 = σ 999 := by
  have cpe : fn_cp ω (19 + 6 * p) = P := by
    unfold fn_cp
    rw [hω _ (by omega), hω _ (by omega), hω _ (by omega), hω _ (by omega)]
    unfold sg_2
    rw [pP_x _ 3 _ _ (by omega), pP_x _ 3 _ _ (by omega), pP_x _ 3 _ _ (by omega), pP_x _ 3 _ _ (by omega), pP_c7, pP_2, pP_3, pP_4]
  have e1 : ω (19 + 6 * p + 1) = M (19 + 6 * p + 1) := by
    rw [hω _ (by omega)]
    unfold sg_2
    rw [pP_x _ 3 _ _ (by omega), pP_1]
  refine lb_all h hp h0 (sm_same hp (sm_2 σ M p hp P w R v hM hM0 hM1) sω) hb ?_ hm (fun k hk => ?_) ?_ ?_ ?_
  · rw [hω _ (by omega), r2_7 _ _ _ _ _ _ (by omega) (by omega)]; exact hn
  · rw [e1]; exact hg k hk
  · rw [cpe]; exact hr
  · rw [cpe, e1]; exact hi
  · rw [cpe]; exact ht
theorem same_up {τ Z : sg_M} {c i : Nat} {v : Int32} (s : sg_same τ Z) (h : 127 ≤ c ∧ c ≤ 131) : sg_same τ (sg_up Z c i v) :=
  ⟨by rw [sg_up_ne (by omega)]; exact s.s0, fun j hj => by rw [sg_up_ne (by omega)]; exact s.s120 j hj, fun y hy => by rw [sg_up_ne (by unfold sg_kp at hy; omega)]; exact s.sx y hy, fun k hk => by rw [sg_up_ne (by omega)]; exact s.so k hk, by rw [sg_up_ne (by omega)]; exact s.sb⟩
theorem same_up120 {τ Z : sg_M} {i : Nat} {v : Int32} (s : sg_same τ Z) (h : ¬ (i = 0 ∨ i = 1 ∨ i = 16 ∨ i = 24 ∨ i = 26 ∨ i = 36)) : sg_same τ (sg_up Z 120 i v) :=
  ⟨by rw [sg_up_ne (by omega)]; exact s.s0, fun j hj => by rw [sg_up_at_ne (by omega)]; exact s.s120 j hj, fun y hy => by rw [sg_up_ne (by unfold sg_kp at hy; omega)]; exact s.sx y hy, fun k hk => by rw [sg_up_ne (by omega)]; exact s.so k hk, by rw [sg_up_ne (by omega)]; exact s.sb⟩
/-- the model's answer hangs on its own rows alone -/
theorem em_hb3 {B : Int} {σ : sg_M} {p n N : Nat} (hp : p < 8) (h : iv_pc B σ p n) (τ : sg_M) (hτ : ∀ y, 120 ≤ y → τ y = σ y) {g r b : Int32} (q : iv_ring g r b) (hN : N < 2 ^ 31) : ∃ T w, sg_ev 158 τ [sg_r 7 120, sg_i (nI p), sg_i g, sg_i r, sg_i b, sg_i (nI N)] = some (some (sg_i (if fn_hb σ p n g r b N = true then 1 else 0)), sg_mP (sg_up (sg_tk τ p) 120 23 (fn_it (fn_bt (g / r)) N b)) T (fn_it (fn_step 1 n (fn_cut p 8 (σ 122) (σ 127)) 1) N (fn_tk σ p)) w) := by
  obtain ⟨⟨n1, n8⟩, -, hn2, -⟩ := id h
  obtain ⟨r1, r2, r3⟩ := tk_rl h
  obtain ⟨o0, o2, o10⟩ := ring_ok q
  have t1 := em_takeUp τ p hp
  have e8 : sg_tk τ p 120 8 = nI n := by rw [tk_8, hτ _ (by omega)]; exact hn2
  have e127 : sg_tk τ p 127 = fn_cut p 8 (σ 122) (σ 127) := by rw [tk_127, hτ _ (by omega), hτ _ (by omega)]
  have etk : fn_tk τ p = fn_tk σ p := by
    unfold fn_tk
    rw [hτ _ (by omega), hτ _ (by omega), hτ _ (by omega), hτ _ (by omega), hτ _ (by omega), hτ _ (by omega), hτ _ (by omega)]
  obtain ⟨w, T, g1⟩ := em_goBoth (sg_tk τ p) n N (g / r) 0 b (fn_tk τ p) (τ 131) n1 n8 e8 hN o2 o10 (by rw [e127, etk]; exact r3)
  rw [e127, etk] at g1
  rw [etk] at t1
  have rel := it_step_rl (N := N) n1 r2 r1
  have hh : ∀ T w, sg_ev 160 (sg_mP (sg_up (sg_tk τ p) 120 23 (fn_it (fn_bt (g / r)) N b)) T (fn_it (fn_step 1 n (fn_cut p 8 (σ 122) (σ 127)) 1) N (fn_tk σ p)) w) [sg_r 7 120] = some (some (sg_i (if fn_hb σ p n g r b N = true then 1 else 0)), sg_mP (sg_up (sg_tk τ p) 120 23 (fn_it (fn_bt (g / r)) N b)) T (fn_it (fn_step 1 n (fn_cut p 8 (σ 122) (σ 127)) 1) N (fn_tk σ p)) w) := by
    intro T w
    rw [em_doesHold _ n n1 n8 (by rw [mP_120 _ _ _ _ (by omega), sg_up_at_ne (by omega)]; exact e8)]
    have e129 : ∀ (M : sg_M) (T : Int32) (Q : fn_PS) w, sg_mP M T Q w 129 = Q.2.2.1 := fun M T Q w => by unfold sg_mP; rw [mm_129]
    rw [e129, mP_120 _ _ _ _ (by omega), sg_up_at]
    unfold fn_hb
    rw [(rel.2 (n - 1) (by omega)).2.1]
  refine ⟨T, w, ?_⟩
  simp (decide := true) only [me_158, mq_158_0, mq_158_1, mq_158_2, mq_158_5, mq_158_6, mq_158_8, mq_158_11, mq_158_12, mq_158_13, mq_158_14, mq_158_15, mq_158_17, mq_158_20, mq_158_21, mq_158_24, t1, mP_up23', o0, g1, hh, sg_bb, Nat.reduceAdd, Nat.reduceMul, Nat.reduceSub, Nat.zero_add, sg_bi_i, sg_bi_n, sg_bz, sg_bb, sg_b_0, sg_b_1, if_true, if_false, not_true_eq_false, not_false_eq_true, true_and, and_true, false_and, and_false, and_self, Int32.reduceSub]
theorem bt_rg (th b : Int32) : 0 ≤ (fn_bt th b).toInt ∧ (fn_bt th b).toInt ≤ 1500 := fn_cl_rg _
theorem btn_rg (th : Int32) : ∀ N b, (0 ≤ b.toInt ∧ b.toInt ≤ 1500) → 0 ≤ (fn_it (fn_bt th) N b).toInt ∧ (fn_it (fn_bt th) N b).toInt ≤ 1500 := fun N b h => it_iv (I := fun b => 0 ≤ b.toInt ∧ b.toInt ≤ 1500) (fun a _ => bt_rg th a) N b h
theorem pr_join {B : Int} {σ : sg_M} (hB : 150 ≤ B) (p g r b t : Int32) (h : iv_all B σ) : sg_pair B σ 71 165 [sg_i p, sg_i g, sg_i r, sg_i b, sg_i t] := by
  rcases pc_cases h.2.2.2.2.2 p with hno | ⟨j, m, hj, rfl, hpc, hp⟩
  · refine pair_same h (sg_i (-1)) σ σ ?_ (same_rfl σ) ?_ (same_rfl σ)
    · simp (decide := true) only [me_71, mq_71_0, mq_71_1, mq_71_2, mq_71_3, mq_71_4, mq_71_6, mq_71_8, mq_71_9, mq_71_11, mq_71_14, mq_71_17, mq_71_19, mq_71_21, mq_71_24, mq_71_26, ev_within, ev_barNo ((hno σ).1 rfl), Nat.reduceAdd, Nat.reduceMul, Nat.reduceSub, Nat.zero_add, sg_bi_i, sg_bi_n, sg_bz, sg_bb, sg_b_0, sg_b_1, if_true, if_false, not_true_eq_false, not_false_eq_true, true_and, and_true, false_and, and_false, and_self, Int32.reduceSub]
    · simp (decide := true) only [me_165, mq_165_0, mq_165_1, mq_165_2, mq_165_5, mq_165_8, mq_165_9, (hno σ).2 rfl, Nat.reduceAdd, Nat.reduceMul, Nat.reduceSub, Nat.zero_add, sg_bi_i, sg_bi_n, sg_bz, sg_bb, sg_b_0, sg_b_1, if_true, if_false, not_true_eq_false, not_false_eq_true, true_and, and_true, false_and, and_false, and_self, Int32.reduceSub]
  · have e1 := (hp σ).1 rfl
    have e2 := (hp σ).2 rfl
    have i1 : sg_in (nI j) 8 = true := sg_in_nI (by omega) (by omega)
    have cj : (nI j).toNatClampNeg = j := sg_nIc (by omega)
    obtain ⟨⟨n1, n8⟩, hn, hn2, ho, -, hi, hst⟩ := id hpc
    have t64 := sg_i64 t 0 100 0 100 (by decide) (by decide)
    have br := ev_barBit (B := B) (m := m) hj e1 g r b
    have c8 : (nI m < 8) = (m < 8) := by rw [show (8 : Int32) = nI 8 from rfl, eq_iff_iff]; exact nI_ltI (by omega) (by omega)
    have d8 : (nI m = 8) = (m = 8) := by rw [show (8 : Int32) = nI 8 from rfl, eq_iff_iff]; exact nI_eq (by omega) (by omega)
    by_cases hr : (1 ≤ g ∧ g ≤ 999) ∧ (1 ≤ r ∧ r ≤ 99) ∧ r ≤ g ∧ (0 ≤ b ∧ b ≤ 1500)
    · have hr' := eq_true hr
      have hR : iv_ring g r b := hr
      by_cases ht : 0 ≤ t ∧ t ≤ 100
      · by_cases hf : 40 < σ (19 + 6 * j) 7
        · have f1 := em_fallen hj hpc σ rfl
          refine pair_same h (sg_i (-3)) σ σ ?_ (same_rfl σ) ?_ (same_rfl σ)
          · simp (decide := true) only [me_71, mq_71_0, mq_71_1, mq_71_2, mq_71_3, mq_71_4, mq_71_6, mq_71_8, mq_71_9, mq_71_11, mq_71_14, mq_71_17, mq_71_19, mq_71_21, mq_71_24, mq_71_26, ev_within, ht, br, hr', hf, Nat.reduceAdd, Nat.reduceMul, Nat.reduceSub, Nat.zero_add, sg_bi_i, sg_bi_n, sg_bz, sg_bb, sg_b_0, sg_b_1, if_true, if_false, not_true_eq_false, not_false_eq_true, true_and, and_true, false_and, and_false, and_self, Int32.reduceSub]
          · simp (decide := true) only [me_165, mq_165_0, mq_165_1, mq_165_2, mq_165_5, mq_165_8, mq_165_9, mq_165_10, mq_165_11, mq_165_12, mq_165_14, mq_165_17, mq_165_20, mq_165_22, mq_165_23, mq_165_24, mq_165_27, mq_165_30, mq_165_33, mq_165_35, mq_165_36, mq_165_37, mq_165_38, mq_165_41, mq_165_44, mq_165_46, e2, em_isRing, hr', em_in, t64, ht, f1, hf, Nat.reduceAdd, Nat.reduceMul, Nat.reduceSub, Nat.zero_add, sg_bi_i, sg_bi_n, sg_bz, sg_bb, sg_b_0, sg_b_1, if_true, if_false, not_true_eq_false, not_false_eq_true, true_and, and_true, false_and, and_false, and_self, Int32.reduceSub]
        · by_cases hm8 : m < 8
          · obtain ⟨N, hN, rfl⟩ := nI_of2 (x := t) (M := 100) (n := 100) (by decide) (by rw [Int32.not_lt]; exact ht.1) ht.2
            have on1 := h.2.2.2.2.2.1.1 j (by omega)
            have onb := h.2.2.2.2.2.1.2
            -- the class
            have lb0 := ev_bit2 σ (19 + 6 * j) (fn_cp σ (19 + 6 * j)) (σ (19 + 6 * j + 5)) g r b (by omega)
            rw [cp_self] at lb0
            obtain ⟨q1, q2, q3⟩ := bP_iv σ hR
            have bx : ∀ x, x ≠ 3 → x ≠ 4 → sg_bf σ g x = σ x := fun x a c => bf_x _ _ a c
            obtain ⟨w1, v1, R1, g1, g2, g3, g4⟩ := ev_turnBoth (sg_bf σ g) (19 + 6 * j) m N g r (fn_cp σ (19 + 6 * j)) (fn_bP σ r b) (σ (19 + 6 * j + 5)) (σ 8) (by omega) n1 n8 (by rw [bx _ (by omega) (by omega)]; exact hn) (by rw [bx _ (by omega) (by omega)]; exact on1) (bf_36 _ _) (by rw [bf_3 _ _ (by omega)]; exact onb) (bf_40 _ _) (by omega) (by rw [bx _ (by omega) (by omega)]; exact hi) q1 q2
            rw [q3] at g4
            rw [bx _ (by omega) (by omega)] at g1
            have hPi := it_iv (fun _ q => step_iv (on := 1) (kind := 1) n1 q) N _ hi
            have hPs := it_iv (fun _ q => step_st (on := 1) (kind := 1) (g := σ (19 + 6 * j + 1)) hB n1 q) N _ hst
            generalize hP : fn_it (fn_step 1 m (σ (19 + 6 * j + 1)) 1) N (fn_cp σ (19 + 6 * j)) = P at g1 hPi hPs
            have hh : sg_ev 67 (sg_2 (sg_bf σ g) (19 + 6 * j) P w1 R1 v1) [sg_r 2 (19 + 6 * j), sg_r 2 3] = some (some (sg_i (if fn_hb σ j m g r b N = true then 1 else 0)), sg_2 (sg_bf σ g) (19 + 6 * j) P w1 R1 v1) := by
              rw [ev_holdsBit _ (19 + 6 * j) m n1 n8 (by rw [r2_7 _ _ _ _ _ _ (by omega) (by omega), bx _ (by omega) (by omega)]; exact hn), r2_3 _ _ _ _ _ _ (by omega), r2_6, g4]
              unfold fn_hb
              rw [hP]
            have C1 : sg_ev 71 σ [sg_r 1 0, sg_i (nI j), sg_i g, sg_i r, sg_i b, sg_i (nI N)] = sg_rv 71 76 (sg_2 (sg_bf σ g) (19 + 6 * j) P w1 R1 v1) [sg_r 1 0, sg_i (nI j), sg_i g, sg_i r, sg_i b, sg_i (nI N), sg_i 0, sg_r 2 (19 + 6 * j)] [sg_i (if fn_hb σ j m g r b N = true then 1 else 0)] := by
              simp (decide := true) only [me_71, mq_71_0, mq_71_1, mq_71_2, mq_71_3, mq_71_4, mq_71_6, mq_71_8, mq_71_9, mq_71_11, mq_71_14, mq_71_17, mq_71_19, mq_71_21, mq_71_24, mq_71_26, mq_71_27, mq_71_28, mq_71_31, mq_71_32, mq_71_33, mq_71_35, mq_71_37, mq_71_40, mq_71_42, mq_71_45, mq_71_47, mq_71_48, mq_71_49, mq_71_52, mq_71_53, mq_71_54, mq_71_56, mq_71_59, mq_71_60, mq_71_62, mq_71_64, mq_71_67, mq_71_69, mq_71_70, mq_71_73, ev_within, ht, br, hr', hf, i1, cj, hn, c8, hm8, lb0, g1, hh, Nat.reduceAdd, Nat.reduceMul, Nat.reduceSub, Nat.zero_add, sg_bi_i, sg_bi_n, sg_bz, sg_bb, sg_b_0, sg_b_1, if_true, if_false, not_true_eq_false, not_false_eq_true, true_and, and_true, false_and, and_false, and_self, Int32.reduceSub]
            by_cases hb1 : fn_hb σ j m g r b N = true
            · -- it holds: the class has a ring more
              have ad := ev_add2 (sg_bf σ g) (19 + 6 * j) m P w1 R1 v1 g r (fn_it (fn_bt (g / r)) N b) (by omega) hm8 (by rw [bx _ (by omega) (by omega)]; exact hn)
              have r6 : sg_2 (sg_bf σ g) (19 + 6 * j) P w1 R1 v1 6 0 = fn_it (fn_bt (g / r)) N b := by rw [r2_6, g4]
              have i0 : sg_in (0 : Int32) 8 = true := by decide
              generalize hM : sg_up (sg_up (sg_bf σ g) (19 + 6 * j) 6 (nI (m + 1))) (19 + 6 * j + 1) m g = M at ad
              have Mx : ∀ x, x ≠ 3 → x ≠ 4 → x ≠ 19 + 6 * j → x ≠ 19 + 6 * j + 1 → M x = σ x := fun x a1 a2 a3 a4 => by rw [← hM, sg_up_ne a4, sg_up_ne a3, bx x a1 a2]
              generalize hτ : sg_2 M (19 + 6 * j) (fn_add m P r (fn_it (fn_bt (g / r)) N b)) w1 R1 v1 = τ at ad
              have tx : ∀ y, 120 ≤ y → τ y = σ y := fun y hy => by rw [← hτ, r2_x _ _ _ _ _ _ (by omega) (by omega) (by omega), Mx y (by omega) (by omega) (by omega) (by omega)]
              have A : sg_ev 71 σ [sg_r 1 0, sg_i (nI j), sg_i g, sg_i r, sg_i b, sg_i (nI N)] = some (some (sg_i 1), τ) := by
                rw [C1, if_pos hb1]
                simp (decide := true) only [mq_71_76, mq_71_79, mq_71_80, mq_71_81, mq_71_83, mq_71_84, mq_71_85, mq_71_86, mq_71_89, mq_71_92, mq_71_93, mq_71_94, mq_71_97, mq_71_98, i0, show (0 : Int32).toNatClampNeg = 0 from rfl, r6, ad, Nat.reduceAdd, Nat.reduceMul, Nat.reduceSub, Nat.zero_add, sg_bi_i, sg_bi_n, sg_bz, sg_bb, sg_b_0, sg_b_1, if_true, if_false, not_true_eq_false, not_false_eq_true, true_and, and_true, false_and, and_false, and_self, Int32.reduceSub]
              obtain ⟨T, w2, k1⟩ := em_hb3 (N := N) hj hpc τ tx hR (by omega)
              rw [if_pos hb1] at k1
              have e2' := (hp τ).2 (by rw [tx _ (by omega)])
              have f1 := em_fallen hj hpc τ (tx _ (by omega))
              have ht121 : τ 121 j = nI m := by rw [tx _ (by omega)]; exact hn2
              have sZ := same_m23 τ j (fn_it (fn_bt (g / r)) N b) T (fn_it (fn_step 1 m (fn_cut j 8 (σ 122) (σ 127)) 1) N (fn_tk σ j)) w2
              obtain ⟨r1, r2, r3⟩ := tk_rl hpc
              have rel := it_step_rl (N := N) n1 r2 r1
              rw [hP] at rel
              generalize hQ : fn_it (fn_step 1 m (fn_cut j 8 (σ 122) (σ 127)) 1) N (fn_tk σ j) = Q at k1 sZ rel
              generalize hbh : fn_it (fn_bt (g / r)) N b = bh at *
              have z8 : sg_mP (sg_up (sg_tk τ j) 120 23 bh) T Q w2 120 8 = nI m := by rw [mP_120 _ _ _ _ (by omega), sg_up_at_ne (by omega), tk_8]; exact ht121
              have z23 : sg_mP (sg_up (sg_tk τ j) 120 23 bh) T Q w2 120 23 = bh := by rw [mP_120 _ _ _ _ (by omega), sg_up_at]
              have z9 : sg_mP (sg_up (sg_tk τ j) 120 23 bh) T Q w2 120 9 = Q.1 := mP_9 _ _ _ _
              have z127 : sg_mP (sg_up (sg_tk τ j) 120 23 bh) T Q w2 127 = fn_cut j 8 (σ 122) (σ 127) := by rw [mP_x _ _ _ _ (by omega), sg_up_ne (by omega), tk_127, tx _ (by omega), tx _ (by omega)]
              have z128 : sg_mP (sg_up (sg_tk τ j) 120 23 bh) T Q w2 128 = Q.2.1 := by unfold sg_mP; rw [mm_128]
              have z129 : sg_mP (sg_up (sg_tk τ j) 120 23 bh) T Q w2 129 = Q.2.2.1 := by unfold sg_mP; rw [mm_129]
              have z130 : sg_mP (sg_up (sg_tk τ j) 120 23 bh) T Q w2 130 = Q.2.2.2 := by unfold sg_mP; rw [mm_130]
              have zx : ∀ x, x < 120 → sg_mP (sg_up (sg_tk τ j) 120 23 bh) T Q w2 x = τ x := fun x hx => by rw [mP_x _ _ _ _ (by omega), sg_up_ne (by omega), tk_x _ _ (by omega) (by omega)]
              generalize sg_mP (sg_up (sg_tk τ j) 120 23 bh) T Q w2 = Z at *
              have i2 : sg_in (nI m) 8 = true := sg_in_nI (by omega) (by omega)
              have cm : (nI m).toNatClampNeg = m := sg_nIc (by omega)
              have im : nI m - 1 = nI (m - 1) := by obtain ⟨u, rfl⟩ : ∃ u, m = u + 1 := ⟨m - 1, by omega⟩; rw [nI_pred, Nat.add_sub_cancel]
              have i3 : sg_in (nI (m - 1)) 8 = true := sg_in_nI (by omega) (by omega)
              have cm1 : (nI (m - 1)).toNatClampNeg = m - 1 := sg_nIc (by omega)
              have u120 : ∀ (X : sg_M) (y i : Nat) (v : Int32), 127 ≤ y → sg_up X y i v 120 = X 120 := fun X y i v hy => sg_up_ne (by omega)
              generalize hω : sg_up (sg_up (sg_up (sg_up (sg_up (sg_up Z 127 m g) 128 m r) 129 m bh) 130 (m - 1) 0) 130 m 0) 120 8 (nI (m + 1)) = ω
              have MB : sg_ev 165 τ [sg_r 7 120, sg_i (nI j), sg_i g, sg_i r, sg_i b, sg_i (nI N)] = some (some (sg_i 1), sg_lb ω j) := by
                have m8 : ¬ m = 8 := by omega
                simp (decide := true) only [me_165, mq_165_0, mq_165_1, mq_165_2, mq_165_5, mq_165_8, mq_165_9, mq_165_10, mq_165_11, mq_165_12, mq_165_14, mq_165_17, mq_165_20, mq_165_22, mq_165_23, mq_165_24, mq_165_27, mq_165_30, mq_165_33, mq_165_35, mq_165_36, mq_165_37, mq_165_38, mq_165_41, mq_165_44, mq_165_46, mq_165_47, mq_165_48, mq_165_51, mq_165_52, mq_165_53, mq_165_55, mq_165_58, mq_165_60, mq_165_61, mq_165_62, mq_165_63, mq_165_64, mq_165_65, mq_165_67, mq_165_69, mq_165_72, mq_165_74, mq_165_76, mq_165_79, mq_165_80, mq_165_83, mq_165_84, mq_165_87, mq_165_88, mq_165_89, mq_165_90, mq_165_93, mq_165_94, mq_165_97, mq_165_98, mq_165_99, mq_165_100, mq_165_103, mq_165_104, mq_165_107, mq_165_108, mq_165_111, mq_165_112, mq_165_113, mq_165_116, mq_165_117, mq_165_120, mq_165_121, mq_165_122, mq_165_123, mq_165_124, mq_165_125, mq_165_128, mq_165_129, mq_165_132, mq_165_133, mq_165_134, mq_165_135, mq_165_136, mq_165_139, mq_165_140, mq_165_141, mq_165_144, mq_165_145, mq_165_146, mq_165_149, mq_165_151, mq_165_154, mq_165_155, mq_165_158, mq_165_159, e2', em_isRing, hr', em_in, t64, ht, f1, hf, i1, cj, ht121, d8, m8, k1, u120 _ 127 _ _ (by omega), u120 _ 128 _ _ (by omega), u120 _ 129 _ _ (by omega), u120 _ 130 _ _ (by omega), z8, z23, i2, i3, cm, cm1, im, nI_1, hω, em_lb _ j hj, Nat.reduceAdd, Nat.reduceMul, Nat.reduceSub, Nat.zero_add, sg_bi_i, sg_bi_n, sg_bz, sg_bb, sg_b_0, sg_b_1, if_true, if_false, not_true_eq_false, not_false_eq_true, true_and, and_true, false_and, and_false, and_self, Int32.reduceSub]
              have w127 : ω 127 = upd (fn_cut j 8 (σ 122) (σ 127)) m g := by rw [← hω, sg_up_ne (by omega), sg_up_ne (by omega), sg_up_ne (by omega), sg_up_ne (by omega), sg_up_ne (by omega), sg_up_row, z127]
              have w128 : ω 128 = upd Q.2.1 m r := by rw [← hω, sg_up_ne (by omega), sg_up_ne (by omega), sg_up_ne (by omega), sg_up_ne (by omega), sg_up_row, sg_up_ne (by omega), z128]
              have w129 : ω 129 = upd Q.2.2.1 m bh := by rw [← hω, sg_up_ne (by omega), sg_up_ne (by omega), sg_up_ne (by omega), sg_up_row, sg_up_ne (by omega), sg_up_ne (by omega), z129]
              have w130 : ω 130 = upd (upd Q.2.2.2 (m - 1) 0) m 0 := by rw [← hω, sg_up_ne (by omega), sg_up_row, sg_up_row, sg_up_ne (by omega), sg_up_ne (by omega), sg_up_ne (by omega), z130]
              have w8 : ω 120 8 = nI (m + 1) := by rw [← hω, sg_up_at]
              have w9 : ω 120 9 = Q.1 := by rw [← hω, sg_up_at_ne (by omega), u120 _ _ _ _ (by omega), u120 _ _ _ _ (by omega), u120 _ _ _ _ (by omega), u120 _ _ _ _ (by omega), u120 _ _ _ _ (by omega), z9]
              have wx : ∀ x, x < 120 → ω x = τ x := fun x hx => by rw [← hω, sg_up_ne (by omega), sg_up_ne (by omega), sg_up_ne (by omega), sg_up_ne (by omega), sg_up_ne (by omega), sg_up_ne (by omega), zx x hx]
              have sω : sg_same τ ω := by
                rw [← hω]
                exact same_up120 (same_up (same_up (same_up (same_up (same_up sZ (by omega)) (by omega)) (by omega)) (by omega)) (by omega)) (by omega)
              have rgb := ring_rg hR
              have hbr := btn_rg (g / r) N b rgb.2.2
              rw [hbh] at hbr
              have fin := lb_2 (n := m + 1) (M := M) h hj hpc ⟨by omega, by omega⟩ (fn_add m P r bh) w1 R1 v1 Mx (by rw [← hM, sg_up_ne (by omega), sg_up_ne (by omega), bf_3 _ _ (by omega)]) (by rw [← hM, sg_up_ne (by omega), sg_up_at_ne (by omega), bx _ (by omega) (by omega)]) (by rw [← hM, sg_up_ne (by omega), sg_up_at]) ω (fun x hx => by rw [wx x hx, hτ]) (by rw [hτ]; exact sω) w8 (fun k hk => by
                  rw [w127, ← hM, sg_up_row, sg_up_ne (by omega), bx _ (by omega) (by omega)]
                  by_cases hkm : k = m
                  · subst hkm; rw [upd_same, upd_same]
                  · rw [upd_ne hkm, upd_ne hkm]; exact r2 k (by omega)) (by
                  refine ⟨?_, fun k hk => ?_⟩
                  · show P.1 = ω 120 9
                    rw [w9]; exact rel.1
                  · show upd P.2.1 m r k = ω 128 k ∧ upd P.2.2.1 m bh k = ω 129 k ∧ upd P.2.2.2 m 0 k = ω 130 k
                    rw [w128, w129, w130]
                    by_cases hkm : k = m
                    · subst hkm; rw [upd_same, upd_same, upd_same, upd_same, upd_same, upd_same]; exact ⟨rfl, rfl, rfl⟩
                    · rw [upd_ne hkm, upd_ne hkm, upd_ne hkm, upd_ne hkm, upd_ne hkm, upd_ne hkm]
                      obtain ⟨x1, x2, x3⟩ := rel.2 k (by omega)
                      refine ⟨x1, x2, ?_⟩
                      by_cases hk1 : k = m - 1
                      · subst hk1; rw [upd_same]; exact hPs.2
                      · rw [upd_ne hk1]; exact x3) (by
                  rw [← hM, sg_up_row, sg_up_ne (by omega), bx _ (by omega) (by omega)]
                  exact add_iv hPi ⟨rgb.1, rgb.2.1, hbr⟩) (add_st (by omega) n1 hPs)
              exact ⟨sg_i 1, τ, sg_lb ω j, A, MB, fin⟩
            · generalize hτ : sg_2 (sg_bf σ g) (19 + 6 * j) P w1 R1 v1 = τ at C1
              have tx : ∀ y, 120 ≤ y → τ y = σ y := fun y hy => by rw [← hτ, r2_x _ _ _ _ _ _ (by omega) (by omega) (by omega), bx y (by omega) (by omega)]
              have A : sg_ev 71 σ [sg_r 1 0, sg_i (nI j), sg_i g, sg_i r, sg_i b, sg_i (nI N)] = some (some (sg_i 0), τ) := by
                rw [C1, if_neg hb1]
                simp (decide := true) only [mq_71_76, mq_71_79, mq_71_80, Nat.reduceAdd, Nat.reduceMul, Nat.reduceSub, Nat.zero_add, sg_bi_i, sg_bi_n, sg_bz, sg_bb, sg_b_0, sg_b_1, if_true, if_false, not_true_eq_false, not_false_eq_true, true_and, and_true, false_and, and_false, and_self, Int32.reduceSub]
              obtain ⟨T, w2, k1⟩ := em_hb3 (N := N) hj hpc τ tx hR (by omega)
              rw [if_neg hb1] at k1
              have e2' := (hp τ).2 (by rw [tx _ (by omega)])
              have f1 := em_fallen hj hpc τ (tx _ (by omega))
              have ht121 : τ 121 j = nI m := by rw [tx _ (by omega)]; exact hn2
              have sZ := same_m23 τ j (fn_it (fn_bt (g / r)) N b) T (fn_it (fn_step 1 m (fn_cut j 8 (σ 122) (σ 127)) 1) N (fn_tk σ j)) w2
              obtain ⟨r1, r2, r3⟩ := tk_rl hpc
              have rel := it_step_rl (N := N) n1 r2 r1
              rw [hP] at rel
              generalize hQ : fn_it (fn_step 1 m (fn_cut j 8 (σ 122) (σ 127)) 1) N (fn_tk σ j) = Q at k1 sZ rel
              generalize hbh : fn_it (fn_bt (g / r)) N b = bh at *
              have z8 : sg_mP (sg_up (sg_tk τ j) 120 23 bh) T Q w2 120 8 = nI m := by rw [mP_120 _ _ _ _ (by omega), sg_up_at_ne (by omega), tk_8]; exact ht121
              have z127 : sg_mP (sg_up (sg_tk τ j) 120 23 bh) T Q w2 127 = fn_cut j 8 (σ 122) (σ 127) := by rw [mP_x _ _ _ _ (by omega), sg_up_ne (by omega), tk_127, tx _ (by omega), tx _ (by omega)]
              have zmp : fn_mp (sg_mP (sg_up (sg_tk τ j) 120 23 bh) T Q w2) = Q := mp_mP _ _ _ _
              have zx : ∀ x, x < 120 → sg_mP (sg_up (sg_tk τ j) 120 23 bh) T Q w2 x = τ x := fun x hx => by rw [mP_x _ _ _ _ (by omega), sg_up_ne (by omega), tk_x _ _ (by omega) (by omega)]
              generalize sg_mP (sg_up (sg_tk τ j) 120 23 bh) T Q w2 = Z at *
              have MB : sg_ev 165 τ [sg_r 7 120, sg_i (nI j), sg_i g, sg_i r, sg_i b, sg_i (nI N)] = some (some (sg_i 0), sg_lb Z j) := by
                have m8 : ¬ m = 8 := by omega
                simp (decide := true) only [me_165, mq_165_0, mq_165_1, mq_165_2, mq_165_5, mq_165_8, mq_165_9, mq_165_10, mq_165_11, mq_165_12, mq_165_14, mq_165_17, mq_165_20, mq_165_22, mq_165_23, mq_165_24, mq_165_27, mq_165_30, mq_165_33, mq_165_35, mq_165_36, mq_165_37, mq_165_38, mq_165_41, mq_165_44, mq_165_46, mq_165_47, mq_165_48, mq_165_51, mq_165_52, mq_165_53, mq_165_55, mq_165_58, mq_165_60, mq_165_61, mq_165_62, mq_165_63, mq_165_64, mq_165_65, mq_165_67, mq_165_69, mq_165_72, mq_165_74, mq_165_76, mq_165_79, mq_165_80, mq_165_83, mq_165_84, mq_165_87, mq_165_88, mq_165_89, mq_165_90, mq_165_93, mq_165_94, mq_165_97, mq_165_98, mq_165_99, mq_165_100, mq_165_103, mq_165_104, mq_165_107, mq_165_108, mq_165_111, mq_165_112, mq_165_113, mq_165_116, mq_165_117, mq_165_120, mq_165_121, mq_165_122, mq_165_123, mq_165_124, mq_165_125, mq_165_128, mq_165_129, mq_165_132, mq_165_133, mq_165_134, mq_165_135, mq_165_136, mq_165_139, mq_165_140, mq_165_141, mq_165_144, mq_165_145, mq_165_146, mq_165_149, mq_165_151, mq_165_154, mq_165_155, mq_165_158, mq_165_159, e2', em_isRing, hr', em_in, t64, ht, f1, hf, i1, cj, ht121, d8, m8, k1, em_lb _ j hj, Nat.reduceAdd, Nat.reduceMul, Nat.reduceSub, Nat.zero_add, sg_bi_i, sg_bi_n, sg_bz, sg_bb, sg_b_0, sg_b_1, if_true, if_false, not_true_eq_false, not_false_eq_true, true_and, and_true, false_and, and_false, and_self, Int32.reduceSub]
              have fin := lb_2 (n := m) (M := sg_bf σ g) h hj hpc ⟨n1, n8⟩ P w1 R1 v1 (fun x a1 a2 _ _ => bx x a1 a2) (bf_3 _ _ (by omega)) (by rw [bx _ (by omega) (by omega)]) (by rw [bx _ (by omega) (by omega)]; exact hn) Z (fun x hx => by rw [zx x hx, hτ]) (by rw [hτ]; exact sZ) z8 (fun k hk => by rw [z127, bx _ (by omega) (by omega)]; exact r2 k hk) (by rw [zmp]; exact rel) (by rw [bx _ (by omega) (by omega)]; exact hPi) hPs
              exact ⟨sg_i 0, τ, sg_lb Z j, A, MB, fin⟩
          · have em8 : m = 8 := by omega
            have f1 := em_fallen hj hpc σ rfl
            refine pair_same h (sg_i (-4)) σ σ ?_ (same_rfl σ) ?_ (same_rfl σ)
            · simp (decide := true) only [me_71, mq_71_0, mq_71_1, mq_71_2, mq_71_3, mq_71_4, mq_71_6, mq_71_8, mq_71_9, mq_71_11, mq_71_14, mq_71_17, mq_71_19, mq_71_21, mq_71_24, mq_71_26, mq_71_27, mq_71_28, mq_71_31, mq_71_32, mq_71_33, mq_71_35, mq_71_37, mq_71_40, mq_71_42, mq_71_45, mq_71_47, ev_within, ht, br, hr', hf, i1, cj, hn, c8, hm8, Nat.reduceAdd, Nat.reduceMul, Nat.reduceSub, Nat.zero_add, sg_bi_i, sg_bi_n, sg_bz, sg_bb, sg_b_0, sg_b_1, if_true, if_false, not_true_eq_false, not_false_eq_true, true_and, and_true, false_and, and_false, and_self, Int32.reduceSub]
            · simp (decide := true) only [me_165, mq_165_0, mq_165_1, mq_165_2, mq_165_5, mq_165_8, mq_165_9, mq_165_10, mq_165_11, mq_165_12, mq_165_14, mq_165_17, mq_165_20, mq_165_22, mq_165_23, mq_165_24, mq_165_27, mq_165_30, mq_165_33, mq_165_35, mq_165_36, mq_165_37, mq_165_38, mq_165_41, mq_165_44, mq_165_46, mq_165_47, mq_165_48, mq_165_51, mq_165_52, mq_165_53, mq_165_55, mq_165_58, mq_165_60, e2, em_isRing, hr', em_in, t64, ht, f1, hf, i1, cj, hn2, d8, eq_true em8, Nat.reduceAdd, Nat.reduceMul, Nat.reduceSub, Nat.zero_add, sg_bi_i, sg_bi_n, sg_bz, sg_bb, sg_b_0, sg_b_1, if_true, if_false, not_true_eq_false, not_false_eq_true, true_and, and_true, false_and, and_false, and_self, Int32.reduceSub]
      · refine pair_same h (sg_i (-2)) σ σ ?_ (same_rfl σ) ?_ (same_rfl σ)
        · simp (decide := true) only [me_71, mq_71_0, mq_71_1, mq_71_2, mq_71_3, mq_71_4, mq_71_6, mq_71_8, mq_71_9, mq_71_11, mq_71_14, mq_71_17, mq_71_19, mq_71_21, mq_71_24, mq_71_26, ev_within, ht, br, hr', Nat.reduceAdd, Nat.reduceMul, Nat.reduceSub, Nat.zero_add, sg_bi_i, sg_bi_n, sg_bz, sg_bb, sg_b_0, sg_b_1, if_true, if_false, not_true_eq_false, not_false_eq_true, true_and, and_true, false_and, and_false, and_self, Int32.reduceSub]
        · simp (decide := true) only [me_165, mq_165_0, mq_165_1, mq_165_2, mq_165_5, mq_165_8, mq_165_9, mq_165_10, mq_165_11, mq_165_12, mq_165_14, mq_165_17, mq_165_20, mq_165_22, mq_165_23, mq_165_24, mq_165_27, mq_165_30, mq_165_33, mq_165_35, e2, em_isRing, hr', em_in, t64, ht, Nat.reduceAdd, Nat.reduceMul, Nat.reduceSub, Nat.zero_add, sg_bi_i, sg_bi_n, sg_bz, sg_bb, sg_b_0, sg_b_1, if_true, if_false, not_true_eq_false, not_false_eq_true, true_and, and_true, false_and, and_false, and_self, Int32.reduceSub]
    · have hr' := eq_false hr
      refine pair_same h (sg_i (-2)) σ σ ?_ (same_rfl σ) ?_ (same_rfl σ)
      · simp (decide := true) only [me_71, mq_71_0, mq_71_1, mq_71_2, mq_71_3, mq_71_4, mq_71_6, mq_71_8, mq_71_9, mq_71_11, mq_71_14, mq_71_17, mq_71_19, mq_71_21, mq_71_24, mq_71_26, ev_within, br, hr', Nat.reduceAdd, Nat.reduceMul, Nat.reduceSub, Nat.zero_add, sg_bi_i, sg_bi_n, sg_bz, sg_bb, sg_b_0, sg_b_1, if_true, if_false, not_true_eq_false, not_false_eq_true, true_and, and_true, false_and, and_false, and_self, Int32.reduceSub]
      · simp (decide := true) only [me_165, mq_165_0, mq_165_1, mq_165_2, mq_165_5, mq_165_8, mq_165_9, mq_165_10, mq_165_11, mq_165_12, mq_165_14, mq_165_17, mq_165_20, mq_165_22, mq_165_23, mq_165_24, mq_165_27, mq_165_30, mq_165_33, mq_165_35, e2, em_isRing, hr', Nat.reduceAdd, Nat.reduceMul, Nat.reduceSub, Nat.zero_add, sg_bi_i, sg_bi_n, sg_bz, sg_bb, sg_b_0, sg_b_1, if_true, if_false, not_true_eq_false, not_false_eq_true, true_and, and_true, false_and, and_false, and_self, Int32.reduceSub]
