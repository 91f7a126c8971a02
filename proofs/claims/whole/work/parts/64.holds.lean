/-- what a bit must be -/
def iv_ring (g r h : Int32) : Prop := (1 ≤ g ∧ g ≤ 999) ∧ (1 ≤ r ∧ r ≤ 99) ∧ r ≤ g ∧ (0 ≤ h ∧ h ≤ 1500)
theorem ring_rg {g r h : Int32} (q : iv_ring g r h) : (1 ≤ g.toInt ∧ g.toInt ≤ 999) ∧ (1 ≤ r.toInt ∧ r.toInt ≤ 99) ∧ (0 ≤ h.toInt ∧ h.toInt ≤ 1500) := by
  obtain ⟨⟨a1, a2⟩, ⟨b1, b2⟩, -, ⟨c1, c2⟩⟩ := q
  rw [Int32.le_iff_toInt_le, sg_t1] at a1 b1
  rw [Int32.le_iff_toInt_le, sg_t999] at a2
  rw [Int32.le_iff_toInt_le, sg_t99] at b2
  rw [Int32.le_iff_toInt_le, sg_t0] at c1
  rw [Int32.le_iff_toInt_le, sg_t1500] at c2
  exact ⟨⟨a1, a2⟩, ⟨b1, b2⟩, ⟨c1, c2⟩⟩
theorem ring_ok {g r h : Int32} (q : iv_ring g r h) : ¬ r = 0 ∧ ¬ 2 + g / r = 0 ∧ ¬ 10 + g / r = 0 := by
  obtain ⟨a, b, c⟩ := ring_rg q
  obtain ⟨o1, o2, o3⟩ := okr_of (g := fun _ => g) (r := fun _ => r) (k := 0) a b
  exact ⟨sg_ne0 o1, o2, o3⟩
theorem ev_barBit {B : Int} {σ : sg_M} {j m : Nat} (hj : j < 8) (hp : sg_ev 13 σ [sg_r 1 0, sg_i (nI j)] = some (some (sg_i 1), σ)) (g r h a : Int32) : sg_ev 64 σ [sg_r 1 0, sg_i (nI j), sg_i g, sg_i r, sg_i h, sg_i a] = some (some (sg_i (if ¬ (((1 ≤ g ∧ g ≤ 999) ∧ (1 ≤ r ∧ r ≤ 99) ∧ r ≤ g ∧ (0 ≤ h ∧ h ≤ 1500)) ∧ ¬ a = 0) then -2 else if 40 < σ (19 + 6 * j) 7 then -3 else 0)), σ) := by
  have i1 : sg_in (nI j) 8 = true := sg_in_nI (by omega) (by omega)
  by_cases hr : (1 ≤ g ∧ g ≤ 999) ∧ (1 ≤ r ∧ r ≤ 99) ∧ r ≤ g ∧ (0 ≤ h ∧ h ≤ 1500)
  · have hr' := eq_true hr
    by_cases ha : a = 0
    · simp (decide := true) only [me_64, mq_64_0, mq_64_1, mq_64_2, mq_64_5, mq_64_8, mq_64_9, mq_64_10, mq_64_11, mq_64_12, mq_64_14, mq_64_17, mq_64_20, mq_64_22, mq_64_25, mq_64_27, mq_64_28, mq_64_29, mq_64_32, mq_64_33, mq_64_34, mq_64_37, mq_64_40, mq_64_42, mq_64_45, mq_64_46, hp, ev_isRing, hr', ha, Nat.reduceAdd, Nat.reduceMul, Nat.reduceSub, Nat.zero_add, sg_bi_i, sg_bi_n, sg_bz, sg_bb, sg_b_0, sg_b_1, if_true, if_false, not_true_eq_false, not_false_eq_true, true_and, and_true, false_and, and_false, and_self, Int32.reduceSub]
    · by_cases hf : 40 < σ (19 + 6 * j) 7
      · simp (decide := true) only [me_64, mq_64_0, mq_64_1, mq_64_2, mq_64_5, mq_64_8, mq_64_9, mq_64_10, mq_64_11, mq_64_12, mq_64_14, mq_64_17, mq_64_20, mq_64_22, mq_64_25, mq_64_27, mq_64_28, mq_64_29, mq_64_32, mq_64_33, mq_64_34, mq_64_37, mq_64_40, mq_64_42, mq_64_45, mq_64_46, hp, ev_isRing, hr', ha, i1, sg_nIc (show j < 2 ^ 31 by omega), ev_hasFallen, hf, Nat.reduceAdd, Nat.reduceMul, Nat.reduceSub, Nat.zero_add, sg_bi_i, sg_bi_n, sg_bz, sg_bb, sg_b_0, sg_b_1, if_true, if_false, not_true_eq_false, not_false_eq_true, true_and, and_true, false_and, and_false, and_self, Int32.reduceSub]
      · simp (decide := true) only [me_64, mq_64_0, mq_64_1, mq_64_2, mq_64_5, mq_64_8, mq_64_9, mq_64_10, mq_64_11, mq_64_12, mq_64_14, mq_64_17, mq_64_20, mq_64_22, mq_64_25, mq_64_27, mq_64_28, mq_64_29, mq_64_32, mq_64_33, mq_64_34, mq_64_37, mq_64_40, mq_64_42, mq_64_45, mq_64_46, hp, ev_isRing, hr', ha, i1, sg_nIc (show j < 2 ^ 31 by omega), ev_hasFallen, hf, Nat.reduceAdd, Nat.reduceMul, Nat.reduceSub, Nat.zero_add, sg_bi_i, sg_bi_n, sg_bz, sg_bb, sg_b_0, sg_b_1, if_true, if_false, not_true_eq_false, not_false_eq_true, true_and, and_true, false_and, and_false, and_self, Int32.reduceSub]
  · have hr' := eq_false hr
    simp (decide := true) only [me_64, mq_64_0, mq_64_1, mq_64_2, mq_64_5, mq_64_8, mq_64_9, mq_64_10, mq_64_11, mq_64_12, mq_64_14, mq_64_17, mq_64_20, mq_64_22, mq_64_25, mq_64_27, mq_64_28, mq_64_29, mq_64_32, mq_64_33, mq_64_34, mq_64_37, mq_64_40, mq_64_42, mq_64_45, mq_64_46, hp, ev_isRing, hr', Nat.reduceAdd, Nat.reduceMul, Nat.reduceSub, Nat.zero_add, sg_bi_i, sg_bi_n, sg_bz, sg_bb, sg_b_0, sg_b_1, if_true, if_false, not_true_eq_false, not_false_eq_true, true_and, and_true, false_and, and_false, and_self, Int32.reduceSub]
theorem ev_barNo {σ : sg_M} {p : Int32} (hp : sg_ev 13 σ [sg_r 1 0, sg_i p] = some (some (sg_i 0), σ)) (g r h a : Int32) : sg_ev 64 σ [sg_r 1 0, sg_i p, sg_i g, sg_i r, sg_i h, sg_i a] = some (some (sg_i (-1)), σ) := by
  simp (decide := true) only [me_64, mq_64_0, mq_64_1, mq_64_2, mq_64_5, mq_64_8, mq_64_9, mq_64_10, mq_64_11, mq_64_12, mq_64_14, mq_64_17, mq_64_20, mq_64_22, mq_64_25, mq_64_27, mq_64_28, mq_64_29, mq_64_32, mq_64_33, mq_64_34, mq_64_37, mq_64_40, mq_64_42, mq_64_45, mq_64_46, hp, Nat.reduceAdd, Nat.reduceMul, Nat.reduceSub, Nat.zero_add, sg_bi_i, sg_bi_n, sg_bz, sg_bb, sg_b_0, sg_b_1, if_true, if_false, not_true_eq_false, not_false_eq_true, true_and, and_true, false_and, and_false, and_self, Int32.reduceSub]
theorem bf_pP (L : sg_M) (c : Nat) (P : fn_PS) (w : Nat → Int32) (g : Int32) (hc : 9 ≤ c) : sg_bf (sg_pP L c P w) g = sg_pP (sg_bf L g) c P w := by
  have lc : ∀ y, y < 9 → sg_pP L c P w y = L y := fun y hy => pP_x _ _ _ _ (by omega)
  refine pP_ext ?_ ?_ ?_ ?_ ?_ (fun x hx => ?_)
  · rw [bf_x _ _ (by omega) (by omega), pP_row0, bf_x _ _ (by omega) (by omega)]
  · rw [bf_x _ _ (by omega) (by omega), pP_2]
  · rw [bf_x _ _ (by omega) (by omega), pP_3]
  · rw [bf_x _ _ (by omega) (by omega), pP_4]
  · rw [bf_x _ _ (by omega) (by omega), pP_5]
  · by_cases h3 : x = 3
    · subst h3
      unfold sg_bf
      rw [sg_up_ne (by omega), sg_up_row, lc 3 (by omega), sg_up_ne (by omega), sg_up_row]
    · by_cases h4 : x = 4
      · subst h4
        unfold sg_bf
        rw [sg_up_row, sg_up_ne (by omega), lc 4 (by omega), sg_up_row, sg_up_ne (by omega)]
      · rw [bf_x _ _ h3 h4, pP_x _ _ _ _ hx, bf_x _ _ h3 h4]
theorem ev_bit2 (L : sg_M) (c : Nat) (P : fn_PS) (w : Nat → Int32) (g r h : Int32) (hc : 9 ≤ c) : sg_ev 65 (sg_pP L c P w) [sg_r 2 3, sg_i g, sg_i r, sg_i h] = some (none, sg_2 (sg_bf L g) c P w (fn_bP L r h) (L 8)) := by
  rw [ev_becomeBit, bf_pP _ _ _ _ _ hc]
  have lc : ∀ y, y < 9 → sg_pP L c P w y = L y := fun y hy => pP_x _ _ _ _ (by omega)
  unfold sg_2 fn_bP
  rw [lc 5 (by omega), lc 6 (by omega), lc 7 (by omega), lc 8 (by omega)]
theorem bP_iv (L : sg_M) {g r h : Int32} (q : iv_ring g r h) : iv_ps (sg_bf L g 4) 1 (fn_bP L r h) ∧ (fn_bP L r h).2.1 0 = r ∧ (fn_bP L r h).2.2.1 0 = h := by
  obtain ⟨a, b, c⟩ := ring_rg q
  have e1 : (fn_bP L r h).2.1 0 = r := by show upd (L 5) 0 r 0 = r; rw [upd_same]
  have e2 : (fn_bP L r h).2.2.1 0 = h := by show upd (L 6) 0 h 0 = h; rw [upd_same]
  refine ⟨fun k hk => ?_, e1, e2⟩
  obtain rfl : k = 0 := by omega
  rw [bf_40, e1, e2]
  exact ⟨a, b, c⟩
theorem r2_7 (M : sg_M) (c : Nat) (P : fn_PS) (w : Nat → Int32) (R : fn_PS) (v : Nat → Int32) (hc : 9 ≤ c) {j : Nat} (hj : j ≠ 7) : sg_2 M c P w R v c j = M c j := by
  unfold sg_2; rw [pP_x _ 3 _ _ (by omega), pP_c _ _ _ _ hj]
theorem r2_3 (M : sg_M) (c : Nat) (P : fn_PS) (w : Nat → Int32) (R : fn_PS) (v : Nat → Int32) (hc : 9 ≤ c) : sg_2 M c P w R v (c + 3) = P.2.2.1 := by
  unfold sg_2; rw [pP_x _ 3 _ _ (by omega), pP_3]
theorem r2_6 (M : sg_M) (c : Nat) (P : fn_PS) (w : Nat → Int32) (R : fn_PS) (v : Nat → Int32) : sg_2 M c P w R v 6 = R.2.2.1 := by
  unfold sg_2; exact pP_3 _ 3 _ _
theorem r2_x (M : sg_M) (c : Nat) (P : fn_PS) (w : Nat → Int32) (R : fn_PS) (v : Nat → Int32) (hc : 9 ≤ c) {x : Nat} (hx : x < c ∨ c + 6 ≤ x) (h9 : x < 3 ∨ 9 ≤ x) : sg_2 M c P w R v x = M x := by
  unfold sg_2; rw [pP_x _ 3 _ _ (by omega), pP_x _ _ _ _ (by omega)]
theorem same_2 (σ : sg_M) (e : Nat) (g : Int32) (P : fn_PS) (w : Nat → Int32) (R : fn_PS) (v : Nat → Int32) : sg_same σ (sg_2 (sg_bf (sg_lk σ 67 e) g) 67 P w R v) := by
  refine ⟨?_, fun j hj => ?_, fun y hy => ?_, fun i hi => ?_, ?_⟩
  · rw [r2_x _ _ _ _ _ _ (by omega) (by omega) (by omega), bf_x _ _ (by omega) (by omega), lk_x _ _ _ (by omega) (by omega)]
  · rw [r2_x _ _ _ _ _ _ (by omega) (by omega) (by omega), bf_x _ _ (by omega) (by omega), lk_x _ _ _ (by omega) (by omega)]
  · unfold sg_kp at hy
    rw [r2_x _ _ _ _ _ _ (by omega) (by omega) (by omega), bf_x _ _ (by omega) (by omega), lk_x _ _ _ (by omega) (by omega)]
  · by_cases h : i = 8
    · subst h
      show sg_2 _ 67 P w R v 67 0 = σ 67 0
      rw [r2_7 _ _ _ _ _ _ (by omega) (by omega), bf_x _ _ (by omega) (by omega), lk_c _ _ _ (by omega)]
    · rw [r2_x _ _ _ _ _ _ (by omega) (by omega) (by omega), bf_x _ _ (by omega) (by omega), lk_x _ _ _ (by omega) (by omega)]
  · unfold sg_2
    rw [pP_c _ _ _ _ (by omega), pP_x _ _ _ _ (by omega), bf_3 _ _ (by omega), lk_x _ _ _ (by omega) (by omega)]
/-- the class, a bit beside a piece at stage 0 -/
theorem bit_start {B : Int} {σ : sg_M} {p n : Nat} (h : iv_all B σ) (hp : p < 8) (hpc : iv_pc B σ p n) {g r b : Int32} (q : iv_ring g r b) : ∃ M P0 w0 R0 v0 M1, sg_ev 53 σ [sg_r 2 67, sg_r 2 (19 + 6 * p)] = some (none, M1) ∧ sg_ev 65 M1 [sg_r 2 3, sg_i g, sg_i r, sg_i b] = some (none, sg_2 M 67 P0 w0 R0 v0) ∧
    (M 67 6 = nI n ∧ M 67 0 = 1 ∧ M 3 6 = 1 ∧ M 3 0 = 0 ∧ M 4 0 = g) ∧ iv_ps (M 68) n P0 ∧ iv_ps (M 4) 1 R0 ∧ R0.2.1 0 = r ∧ R0.2.2.1 0 = b ∧ (∀ k, k < n → σ (19 + 6 * p + 1) k = M 68 k) ∧ rl_ps n (fn_cp σ (19 + 6 * p)) P0 ∧ ∀ P w R v, sg_same σ (sg_2 M 67 P w R v) := by
  obtain ⟨l1, l2, l3, l4, l5⟩ := st_like hp hpc σ (same_rfl σ) 0 (by omega)
  have on1 := lk_on h σ (same_rfl σ) 0 (19 + 6 * p) (by omega)
  simp only [Nat.mul_zero, Nat.add_zero, Nat.reduceAdd] at l1 l2 l3 l4 l5 on1
  obtain ⟨q1, q2, q3⟩ := bP_iv (sg_lk σ 67 (19 + 6 * p)) q
  refine ⟨sg_bf (sg_lk σ 67 (19 + 6 * p)) g, fn_lkP σ 67 (19 + 6 * p), σ 72, fn_bP (sg_lk σ 67 (19 + 6 * p)) r b, _, _, l1, ev_bit2 _ 67 _ _ g r b (by omega), ⟨?_, ?_, bf_36 _ _, ?_, bf_40 _ _⟩, ?_, q1, q2, q3, ?_, l4, fun P w R v => same_2 σ _ g P w R v⟩
  · rw [bf_x _ _ (by omega) (by omega)]; exact l2
  · rw [bf_x _ _ (by omega) (by omega)]; exact on1
  · rw [bf_3 _ _ (by omega), lk_x _ _ _ (by omega) (by omega)]; exact h.2.2.2.2.2.1.2
  · rw [bf_x _ _ (by omega) (by omega)]; exact l5
  · rw [bf_x _ _ (by omega) (by omega)]; exact l3
/-- does it hold behind N tenths -/
def fn_hb (σ : sg_M) (p n : Nat) (g r b : Int32) (N : Nat) : Bool := fn_hd ((fn_it (fn_step 1 n (σ (19 + 6 * p + 1)) 1) N (fn_cp σ (19 + 6 * p))).2.2.1 (n - 1)) (fn_it (fn_bt (g / r)) N b)
theorem it_step_rl {n N : Nat} {g g' : Nat → Int32} {P Q : fn_PS} (h1 : 1 ≤ n) (hg : ∀ k, k < n → g k = g' k) (h : rl_ps n P Q) : rl_ps n (fn_it (fn_step 1 n g 1) N P) (fn_it (fn_step 1 n g' 1) N Q) := it_rl (fun _ _ q => step_rl h1 hg q) N P Q h
theorem ev_hb {σ M : sg_M} {p n N : Nat} {g r b : Int32} {P0 : fn_PS} (h1 : 1 ≤ n) (h8 : n ≤ 8) (hn : M 67 6 = nI n) (hg : ∀ k, k < n → σ (19 + 6 * p + 1) k = M 68 k) (hr : rl_ps n (fn_cp σ (19 + 6 * p)) P0) (R : fn_PS) (w v : Nat → Int32) (hR : R.2.2.1 0 = fn_it (fn_bt (g / r)) N b) : sg_ev 67 (sg_2 M 67 (fn_it (fn_step 1 n (M 68) 1) N P0) w R v) [sg_r 2 67, sg_r 2 3] = some (some (sg_i (if fn_hb σ p n g r b N = true then 1 else 0)), sg_2 M 67 (fn_it (fn_step 1 n (M 68) 1) N P0) w R v) := by
  rw [ev_holdsBit _ 67 n h1 h8 (by rw [r2_7 _ _ _ _ _ _ (by omega) (by omega)]; exact hn)]
  have e := r2_3 M 67 (fn_it (fn_step 1 n (M 68) 1) N P0) w R v (by omega)
  simp only [Nat.reduceAdd] at e
  simp only [Nat.reduceAdd]
  rw [e, r2_6, hR]
  unfold fn_hb
  rw [((it_step_rl (N := N) h1 hg hr).2 (n - 1) (by omega)).2.1]
/-- the model, a bit beside a piece in hand -/
theorem same_m23 (τ : sg_M) (p : Nat) (b T : Int32) (Q : fn_PS) (w : Nat → Int32) : sg_same τ (sg_mP (sg_up (sg_tk τ p) 120 23 b) T Q w) := by
  refine ⟨?_, fun j hj => ?_, fun y hy => ?_, fun i hi => ?_, ?_⟩
  · rw [mP_x _ _ _ _ (by omega), sg_up_ne (by omega), tk_x _ _ (by omega) (by omega)]
  · rw [mP_120 _ _ _ _ (by omega), sg_up_at_ne (by omega), tk_120 _ _ (by omega)]
  · unfold sg_kp at hy
    rw [mP_x _ _ _ _ (by omega), sg_up_ne (by omega), tk_x _ _ (by omega) (by omega)]
  · rw [mP_x _ _ _ _ (by omega), sg_up_ne (by omega), tk_x _ _ (by omega) (by omega)]
  · rw [mP_x _ _ _ _ (by omega), sg_up_ne (by omega), tk_x _ _ (by omega) (by omega)]
theorem em_hold {B : Int} {σ τ : sg_M} {p n N : Nat} (hp : p < 8) (h : iv_pc B σ p n) (s : sg_same σ τ) (g r b T : Int32) (w : Nat → Int32) : sg_ev 160 (sg_mP (sg_up (sg_tk τ p) 120 23 (fn_it (fn_bt (g / r)) N b)) T (fn_it (fn_step 1 n (sg_tk τ p 127) 1) N (fn_tk τ p)) w) [sg_r 7 120] = some (some (sg_i (if fn_hb σ p n g r b N = true then 1 else 0)), sg_mP (sg_up (sg_tk τ p) 120 23 (fn_it (fn_bt (g / r)) N b)) T (fn_it (fn_step 1 n (sg_tk τ p 127) 1) N (fn_tk τ p)) w) := by
  have h' := pc_same hp h s
  obtain ⟨⟨n1, n8⟩, -, hn2, -⟩ := id h'
  obtain ⟨r1, r2, -⟩ := tk_rl h'
  rw [em_doesHold _ n n1 n8 (by rw [mP_120 _ _ _ _ (by omega), sg_up_at_ne (by omega), tk_8]; exact hn2)]
  have e129 : ∀ (M : sg_M) (T : Int32) (Q : fn_PS) w, sg_mP M T Q w 129 = Q.2.2.1 := fun M T Q w => by unfold sg_mP; rw [mm_129]
  rw [e129, mP_120 _ _ _ _ (by omega), sg_up_at]
  have ec : fn_cp τ (19 + 6 * p) = fn_cp σ (19 + 6 * p) := by
    unfold fn_cp
    rw [s.sx _ (by unfold sg_kp; omega), s.sx _ (by unfold sg_kp; omega), s.sx _ (by unfold sg_kp; omega), s.sx _ (by unfold sg_kp; omega)]
  rw [ec] at r1
  rw [s.sx (19 + 6 * p + 1) (by unfold sg_kp; omega), ← tk_127] at r2
  unfold fn_hb
  rw [((it_step_rl (N := N) n1 r2 r1).2 (n - 1) (by omega)).2.1]
theorem em_hb {B : Int} {σ τ : sg_M} {p n N : Nat} (hp : p < 8) (h : iv_pc B σ p n) (s : sg_same σ τ) {g r b : Int32} (q : iv_ring g r b) (hN : N < 2 ^ 31) : ∃ ω T w, ω = sg_mP (sg_up (sg_tk τ p) 120 23 (fn_it (fn_bt (g / r)) N b)) T (fn_it (fn_step 1 n (sg_tk τ p 127) 1) N (fn_tk τ p)) w ∧ sg_ev 158 τ [sg_r 7 120, sg_i (nI p), sg_i g, sg_i r, sg_i b, sg_i (nI N)] = some (some (sg_i (if fn_hb σ p n g r b N = true then 1 else 0)), ω) := by
  have h' := pc_same hp h s
  obtain ⟨t1, t2, t3⟩ := em_take hp h'
  obtain ⟨⟨n1, n8⟩, -⟩ := id h
  obtain ⟨o0, o2, o10⟩ := ring_ok q
  obtain ⟨w, T, g1⟩ := em_goBoth (sg_tk τ p) n N (g / r) 0 b (fn_tk τ p) (τ 131) n1 n8 t2 hN o2 o10 t3
  refine ⟨_, T, w, rfl, ?_⟩
  have hh := em_hold (N := N) hp h s g r b T w
  simp (decide := true) only [me_158, mq_158_0, mq_158_1, mq_158_2, mq_158_5, mq_158_6, mq_158_8, mq_158_11, mq_158_12, mq_158_13, mq_158_14, mq_158_15, mq_158_17, mq_158_20, mq_158_21, mq_158_24, t1, mP_up23', o0, g1, hh, sg_bb, Nat.reduceAdd, Nat.reduceMul, Nat.reduceSub, Nat.zero_add, sg_bi_i, sg_bi_n, sg_bz, sg_bb, sg_b_0, sg_b_1, if_true, if_false, not_true_eq_false, not_false_eq_true, true_and, and_true, false_and, and_false, and_self, Int32.reduceSub]
theorem pr_holds {B : Int} {σ : sg_M} (p g r b t : Int32) (h : iv_all B σ) : sg_pair B σ 63 157 [sg_i p, sg_i g, sg_i r, sg_i b, sg_i t] := by
  rcases pc_cases h.2.2.2.2.2 p with hno | ⟨j, m, hj, rfl, hpc, hp⟩
  · refine pair_same h (sg_i (-1)) σ σ ?_ (same_rfl σ) ?_ (same_rfl σ)
    · simp (decide := true) only [me_63, mq_63_0, mq_63_1, mq_63_2, mq_63_3, mq_63_4, mq_63_6, mq_63_8, mq_63_9, mq_63_11, mq_63_14, mq_63_17, mq_63_19, mq_63_21, mq_63_24, mq_63_26, ev_within, ev_barNo ((hno σ).1 rfl), Nat.reduceAdd, Nat.reduceMul, Nat.reduceSub, Nat.zero_add, sg_bi_i, sg_bi_n, sg_bz, sg_bb, sg_b_0, sg_b_1, if_true, if_false, not_true_eq_false, not_false_eq_true, true_and, and_true, false_and, and_false, and_self, Int32.reduceSub]
    · simp (decide := true) only [me_157, mq_157_0, mq_157_1, mq_157_2, mq_157_5, mq_157_8, mq_157_9, (hno σ).2 rfl, Nat.reduceAdd, Nat.reduceMul, Nat.reduceSub, Nat.zero_add, sg_bi_i, sg_bi_n, sg_bz, sg_bb, sg_b_0, sg_b_1, if_true, if_false, not_true_eq_false, not_false_eq_true, true_and, and_true, false_and, and_false, and_self, Int32.reduceSub]
  · have e1 := (hp σ).1 rfl
    have e2 := (hp σ).2 rfl
    have i1 : sg_in (nI j) 8 = true := sg_in_nI (by omega) (by omega)
    have cj : (nI j).toNatClampNeg = j := sg_nIc (by omega)
    obtain ⟨⟨n1, n8⟩, hn, hn2, ho, -, hi, hst⟩ := id hpc
    have t64 := sg_i64 t 0 100 0 100 (by decide) (by decide)
    have br := ev_barBit (B := B) (m := m) hj e1 g r b
    by_cases hr : (1 ≤ g ∧ g ≤ 999) ∧ (1 ≤ r ∧ r ≤ 99) ∧ r ≤ g ∧ (0 ≤ b ∧ b ≤ 1500)
    · have hr' := eq_true hr
      by_cases ht : 0 ≤ t ∧ t ≤ 100
      · by_cases hf : 40 < σ (19 + 6 * j) 7
        · have f1 := em_fallen hj hpc σ rfl
          refine pair_same h (sg_i (-3)) σ σ ?_ (same_rfl σ) ?_ (same_rfl σ)
          · simp (decide := true) only [me_63, mq_63_0, mq_63_1, mq_63_2, mq_63_3, mq_63_4, mq_63_6, mq_63_8, mq_63_9, mq_63_11, mq_63_14, mq_63_17, mq_63_19, mq_63_21, mq_63_24, mq_63_26, ev_within, ht, br, hr', hf, Nat.reduceAdd, Nat.reduceMul, Nat.reduceSub, Nat.zero_add, sg_bi_i, sg_bi_n, sg_bz, sg_bb, sg_b_0, sg_b_1, if_true, if_false, not_true_eq_false, not_false_eq_true, true_and, and_true, false_and, and_false, and_self, Int32.reduceSub]
          · simp (decide := true) only [me_157, mq_157_0, mq_157_1, mq_157_2, mq_157_5, mq_157_8, mq_157_9, mq_157_10, mq_157_11, mq_157_12, mq_157_14, mq_157_17, mq_157_20, mq_157_22, mq_157_23, mq_157_24, mq_157_27, mq_157_30, mq_157_33, mq_157_35, mq_157_36, mq_157_37, mq_157_38, mq_157_41, mq_157_44, mq_157_46, e2, em_isRing, hr', em_in, t64, ht, f1, hf, Nat.reduceAdd, Nat.reduceMul, Nat.reduceSub, Nat.zero_add, sg_bi_i, sg_bi_n, sg_bz, sg_bb, sg_b_0, sg_b_1, if_true, if_false, not_true_eq_false, not_false_eq_true, true_and, and_true, false_and, and_false, and_self, Int32.reduceSub]
        · obtain ⟨N, hN, rfl⟩ := nI_of2 (x := t) (M := 100) (n := 100) (by decide) (by rw [Int32.not_lt]; exact ht.1) ht.2
          obtain ⟨M, P0, w0, R0, v0, M1, l1, l2, ⟨m1, m2, m3, m4, m5⟩, l3, l4, l5, l6, l7, l8, l9⟩ := bit_start h hj hpc (show iv_ring g r b from hr)
          obtain ⟨w1, v1, R1, g1, g2, g3, g4⟩ := ev_turnBoth M 67 m N g r P0 R0 w0 v0 (by omega) n1 n8 m1 m2 m3 m4 m5 (by omega) l3 l4 l5
          simp only [Nat.reduceAdd] at g1
          rw [l6] at g4
          have hh := ev_hb (σ := σ) (p := j) n1 n8 m1 l7 l8 R1 w1 v1 g4
          have s1 := l9 (fn_it (fn_step 1 m (M 68) 1) N P0) w1 R1 v1
          have i0 : sg_in (0 : Int32) 4 = true := by decide
          generalize sg_2 M 67 (fn_it (fn_step 1 m (M 68) 1) N P0) w1 R1 v1 = ω at g1 hh s1
          obtain ⟨ω2, T, w2, eω, g5⟩ := em_hb (N := N) hj hpc s1 (show iv_ring g r b from hr) (by omega)
          have s2 : sg_same ω ω2 := by rw [eω]; exact same_m23 _ _ _ _ _ _
          have e2' := (hp ω).2 (s1.s120 1 (by omega))
          have f1 := em_fallen hj hpc ω (s1.sx 126 (by unfold sg_kp; omega))
          refine pair_same h (sg_i (if fn_hb σ j m g r b N = true then 1 else 0)) ω ω2 ?_ s1 ?_ s2
          · by_cases hbb : fn_hb σ j m g r b N = true
            · simp (decide := true) only [me_63, mq_63_0, mq_63_1, mq_63_2, mq_63_3, mq_63_4, mq_63_6, mq_63_8, mq_63_9, mq_63_11, mq_63_14, mq_63_17, mq_63_19, mq_63_21, mq_63_24, mq_63_26, mq_63_27, mq_63_28, mq_63_31, mq_63_32, mq_63_33, mq_63_35, mq_63_37, mq_63_38, mq_63_41, mq_63_42, mq_63_43, mq_63_46, mq_63_47, mq_63_50, mq_63_51, mq_63_52, mq_63_54, mq_63_57, mq_63_58, mq_63_60, mq_63_62, mq_63_65, mq_63_67, mq_63_68, mq_63_71, mq_63_74, mq_63_77, mq_63_78, mq_63_81, mq_63_82, ev_within, ht, br, hr', hf, i0, i1, cj, show (0 : Int32).toNatClampNeg = 0 from rfl, l1, l2, g1, hh, hbb, Nat.reduceAdd, Nat.reduceMul, Nat.reduceSub, Nat.zero_add, sg_bi_i, sg_bi_n, sg_bz, sg_bb, sg_b_0, sg_b_1, if_true, if_false, not_true_eq_false, not_false_eq_true, true_and, and_true, false_and, and_false, and_self, Int32.reduceSub]
            · simp (decide := true) only [me_63, mq_63_0, mq_63_1, mq_63_2, mq_63_3, mq_63_4, mq_63_6, mq_63_8, mq_63_9, mq_63_11, mq_63_14, mq_63_17, mq_63_19, mq_63_21, mq_63_24, mq_63_26, mq_63_27, mq_63_28, mq_63_31, mq_63_32, mq_63_33, mq_63_35, mq_63_37, mq_63_38, mq_63_41, mq_63_42, mq_63_43, mq_63_46, mq_63_47, mq_63_50, mq_63_51, mq_63_52, mq_63_54, mq_63_57, mq_63_58, mq_63_60, mq_63_62, mq_63_65, mq_63_67, mq_63_68, mq_63_71, mq_63_74, mq_63_77, mq_63_78, mq_63_81, mq_63_82, ev_within, ht, br, hr', hf, i0, i1, cj, show (0 : Int32).toNatClampNeg = 0 from rfl, l1, l2, g1, hh, hbb, Nat.reduceAdd, Nat.reduceMul, Nat.reduceSub, Nat.zero_add, sg_bi_i, sg_bi_n, sg_bz, sg_bb, sg_b_0, sg_b_1, if_true, if_false, not_true_eq_false, not_false_eq_true, true_and, and_true, false_and, and_false, and_self, Int32.reduceSub]
          · by_cases hbb : fn_hb σ j m g r b N = true
            · simp (decide := true) only [me_157, mq_157_0, mq_157_1, mq_157_2, mq_157_5, mq_157_8, mq_157_9, mq_157_10, mq_157_11, mq_157_12, mq_157_14, mq_157_17, mq_157_20, mq_157_22, mq_157_23, mq_157_24, mq_157_27, mq_157_30, mq_157_33, mq_157_35, mq_157_36, mq_157_37, mq_157_38, mq_157_41, mq_157_44, mq_157_46, mq_157_47, mq_157_48, mq_157_49, mq_157_50, mq_157_51, mq_157_53, mq_157_55, mq_157_58, mq_157_61, mq_157_62, mq_157_65, mq_157_66, e2', em_isRing, hr', em_in, t64, ht, f1, hf, g5, hbb, Nat.reduceAdd, Nat.reduceMul, Nat.reduceSub, Nat.zero_add, sg_bi_i, sg_bi_n, sg_bz, sg_bb, sg_b_0, sg_b_1, if_true, if_false, not_true_eq_false, not_false_eq_true, true_and, and_true, false_and, and_false, and_self, Int32.reduceSub]
            · simp (decide := true) only [me_157, mq_157_0, mq_157_1, mq_157_2, mq_157_5, mq_157_8, mq_157_9, mq_157_10, mq_157_11, mq_157_12, mq_157_14, mq_157_17, mq_157_20, mq_157_22, mq_157_23, mq_157_24, mq_157_27, mq_157_30, mq_157_33, mq_157_35, mq_157_36, mq_157_37, mq_157_38, mq_157_41, mq_157_44, mq_157_46, mq_157_47, mq_157_48, mq_157_49, mq_157_50, mq_157_51, mq_157_53, mq_157_55, mq_157_58, mq_157_61, mq_157_62, mq_157_65, mq_157_66, e2', em_isRing, hr', em_in, t64, ht, f1, hf, g5, hbb, Nat.reduceAdd, Nat.reduceMul, Nat.reduceSub, Nat.zero_add, sg_bi_i, sg_bi_n, sg_bz, sg_bb, sg_b_0, sg_b_1, if_true, if_false, not_true_eq_false, not_false_eq_true, true_and, and_true, false_and, and_false, and_self, Int32.reduceSub]
      · refine pair_same h (sg_i (-2)) σ σ ?_ (same_rfl σ) ?_ (same_rfl σ)
        · simp (decide := true) only [me_63, mq_63_0, mq_63_1, mq_63_2, mq_63_3, mq_63_4, mq_63_6, mq_63_8, mq_63_9, mq_63_11, mq_63_14, mq_63_17, mq_63_19, mq_63_21, mq_63_24, mq_63_26, ev_within, ht, br, hr', Nat.reduceAdd, Nat.reduceMul, Nat.reduceSub, Nat.zero_add, sg_bi_i, sg_bi_n, sg_bz, sg_bb, sg_b_0, sg_b_1, if_true, if_false, not_true_eq_false, not_false_eq_true, true_and, and_true, false_and, and_false, and_self, Int32.reduceSub]
        · simp (decide := true) only [me_157, mq_157_0, mq_157_1, mq_157_2, mq_157_5, mq_157_8, mq_157_9, mq_157_10, mq_157_11, mq_157_12, mq_157_14, mq_157_17, mq_157_20, mq_157_22, mq_157_23, mq_157_24, mq_157_27, mq_157_30, mq_157_33, mq_157_35, e2, em_isRing, hr', em_in, t64, ht, Nat.reduceAdd, Nat.reduceMul, Nat.reduceSub, Nat.zero_add, sg_bi_i, sg_bi_n, sg_bz, sg_bb, sg_b_0, sg_b_1, if_true, if_false, not_true_eq_false, not_false_eq_true, true_and, and_true, false_and, and_false, and_self, Int32.reduceSub]
    · have hr' := eq_false hr
      refine pair_same h (sg_i (-2)) σ σ ?_ (same_rfl σ) ?_ (same_rfl σ)
      · simp (decide := true) only [me_63, mq_63_0, mq_63_1, mq_63_2, mq_63_3, mq_63_4, mq_63_6, mq_63_8, mq_63_9, mq_63_11, mq_63_14, mq_63_17, mq_63_19, mq_63_21, mq_63_24, mq_63_26, ev_within, br, hr', Nat.reduceAdd, Nat.reduceMul, Nat.reduceSub, Nat.zero_add, sg_bi_i, sg_bi_n, sg_bz, sg_bb, sg_b_0, sg_b_1, if_true, if_false, not_true_eq_false, not_false_eq_true, true_and, and_true, false_and, and_false, and_self, Int32.reduceSub]
      · simp (decide := true) only [me_157, mq_157_0, mq_157_1, mq_157_2, mq_157_5, mq_157_8, mq_157_9, mq_157_10, mq_157_11, mq_157_12, mq_157_14, mq_157_17, mq_157_20, mq_157_22, mq_157_23, mq_157_24, mq_157_27, mq_157_30, mq_157_33, mq_157_35, e2, em_isRing, hr', Nat.reduceAdd, Nat.reduceMul, Nat.reduceSub, Nat.zero_add, sg_bi_i, sg_bi_n, sg_bz, sg_bb, sg_b_0, sg_b_1, if_true, if_false, not_true_eq_false, not_false_eq_true, true_and, and_true, false_and, and_false, and_self, Int32.reduceSub]
