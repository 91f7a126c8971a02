/-! NEAREST: rows of recipes -/
def fn_rM (σ : sg_M) (q : Nat) : Nat := (σ (91 + 3 * q) 2).toNatClampNeg
theorem rM_eq {σ : sg_M} {q M : Nat} (h : iv_rc σ q M) : fn_rM σ q = M := by
  unfold fn_rM
  rw [h.2.2.1, sg_nIc (by have := h.2.1; omega)]
/-- a recipe is done, as both have it -/
def fn_rc (σ : sg_M) (p n q : Nat) (P : fn_PS) : fn_PS := (fn_do 1 n (σ (19 + 6 * p + 1)) (fn_lt σ q) (fn_nu σ q) (-1) 0 (fn_rM σ q) 0 P).2
def fn_dg (R N row k : Nat) : Nat := row / R ^ (N - 1 - k) % R
def fn_stg (σ : sg_M) (p n R N row : Nat) : Nat → fn_PS
  | 0 => fn_cp σ (19 + 6 * p)
  | k + 1 => fn_rc σ p n (fn_dg R N row k) (fn_stg σ p n R N row k)
theorem stg_congr {σ : sg_M} {p n R N row row' : Nat} : ∀ k, (∀ j, j < k → fn_dg R N row j = fn_dg R N row' j) → fn_stg σ p n R N row k = fn_stg σ p n R N row' k := by
  intro k
  induction k with
  | zero => intro _; rfl
  | succ k ih =>
    intro h
    simp only [fn_stg]
    rw [h k (by omega), ih (fun j hj => h j (by omega))]
theorem stg_iv {σ : sg_M} {p n R N row : Nat} (h1 : 1 ≤ n) (hi : iv_ps (σ (19 + 6 * p + 1)) n (fn_cp σ (19 + 6 * p))) : ∀ k, iv_ps (σ (19 + 6 * p + 1)) n (fn_stg σ p n R N row k) := by
  intro k
  induction k with
  | zero => exact hi
  | succ k ih => exact do_iv h1 _ 0 _ ih
theorem div_pred {row d : Nat} (hd : 0 < d) (h : ¬ row % d = 0) : (row - 1) / d = row / d := by
  have e := Nat.div_add_mod row d
  have l := Nat.mod_lt row hd
  have : row - 1 = d * (row / d) + (row % d - 1) := by omega
  rw [this, Nat.mul_add_div hd, Nat.div_eq_of_lt (show row % d - 1 < d by omega), Nat.add_zero]
theorem dg_pred {R N row k : Nat} (hR : 1 ≤ R) (hk : k < N) (h : ¬ row % R ^ (N - 1 - k) = 0) : ∀ j, j < k + 1 → fn_dg R N (row - 1) j = fn_dg R N row j := by
  intro j hj
  unfold fn_dg
  have hd : R ^ (N - 1 - k) ∣ R ^ (N - 1 - j) := Nat.pow_dvd_pow R (by omega)
  rw [div_pred (Nat.pow_pos hR) (fun z => h ?_)]
  exact Nat.mod_eq_zero_of_dvd (Nat.dvd_trans hd (Nat.dvd_of_mod_eq_zero z))
theorem pow_b {R j : Nat} (h1 : 1 ≤ R) (h6 : R ≤ 6) (hj : j ≤ 3) : 1 ≤ R ^ j ∧ R ^ j ≤ 216 := by
  refine ⟨Nat.pow_pos h1, ?_⟩
  have h2 : R ^ j ≤ 6 ^ j := Nat.pow_le_pow_left h6 j
  have h3 : 6 ^ j ≤ 6 ^ 3 := Nat.pow_le_pow_right (by omega) hj
  exact Nat.le_trans h2 h3
theorem ev_power_l (σ : sg_M) (R n : Nat) (hn : n < 2 ^ 31) : ∀ m k, k + m = n → sg_rv 77 4 σ [sg_i (nI R), sg_i (nI n), sg_i (nI (R ^ k)), sg_i (nI k)] [] = some (some (sg_i (nI (R ^ n))), σ) := by
  intro m
  induction m with
  | zero =>
    intro k hk
    obtain rfl : k = n := by omega
    simp (decide := true) only [mq_77_4, mq_77_5, mq_77_6, mq_77_19, mq_77_20, nI_ltI hn hn, show ¬ k < k by omega, Nat.reduceAdd, Nat.reduceMul, Nat.reduceSub, Nat.zero_add, sg_bi_i, sg_bi_n, sg_bz, sg_bb, sg_b_0, sg_b_1, if_true, if_false, not_true_eq_false, not_false_eq_true, true_and, and_true, false_and, and_false, and_self, Int32.reduceSub]
  | succ m ih =>
    intro k hk
    simp (decide := true) only [mq_77_4, mq_77_5, mq_77_6, nI_ltI (show k < 2 ^ 31 by omega) hn, show k < n by omega, Nat.reduceAdd, Nat.reduceMul, Nat.reduceSub, Nat.zero_add, sg_bi_i, sg_bi_n, sg_bz, sg_bb, sg_b_0, sg_b_1, if_true, if_false, not_true_eq_false, not_false_eq_true, true_and, and_true, false_and, and_false, and_self, Int32.reduceSub]
    rw [← ih (k + 1) (by omega), Nat.pow_succ]
    simp (decide := true) only [mq_77_9, mq_77_10, mq_77_11, mq_77_12, mq_77_13, mq_77_16, pk_mul, nI_1, Nat.reduceAdd, Nat.reduceMul, Nat.reduceSub, Nat.zero_add, sg_bi_i, sg_bi_n, sg_bz, sg_bb, sg_b_0, sg_b_1, if_true, if_false, not_true_eq_false, not_false_eq_true, true_and, and_true, false_and, and_false, and_self, Int32.reduceSub]
theorem ev_power (σ : sg_M) (R n : Nat) (hn : n < 2 ^ 31) : sg_ev 77 σ [sg_i (nI R), sg_i (nI n)] = some (some (sg_i (nI (R ^ n))), σ) := by
  have := ev_power_l σ R n hn n 0 (by omega)
  rw [← this]
  simp (decide := true) only [me_77, mq_77_0, mq_77_1, mq_77_2, mq_77_3, nI_0, Nat.reduceAdd, Nat.reduceMul, Nat.reduceSub, Nat.zero_add, sg_bi_i, sg_bi_n, sg_bz, sg_bb, sg_b_0, sg_b_1, if_true, if_false, not_true_eq_false, not_false_eq_true, true_and, and_true, false_and, and_false, and_self, Int32.reduceSub]
  rfl
theorem sub_nk {N k : Nat} (h : k < N) : nI N - 1 - nI k = nI (N - 1 - k) := by
  rw [show (1 : Int32) = nI 1 from rfl, pk_sub (by omega), pk_sub (by omega)]
theorem ev_inRow (σ : sg_M) (R N row k : Nat) (h1 : 1 ≤ R) (h6 : R ≤ 6) (hN : N ≤ 3) (hk : k < N) (hr : row < 2 ^ 31) (hc : σ 0 9 = nI R) : sg_ev 79 σ [sg_r 1 0, sg_i (nI row), sg_i (nI N), sg_i (nI k)] = some (some (sg_i (nI (fn_dg R N row k))), σ) := by
  obtain ⟨p1, p2⟩ := pow_b (j := N - 1 - k) h1 h6 (by omega)
  have hp := ev_power σ R (N - 1 - k) (by omega)
  unfold fn_dg
  generalize R ^ (N - 1 - k) = u at *
  have q1 : (0 : Int32) < nI u := nI_lt (a := 0) (by omega) (by omega)
  have q2 : (0 : Int32) < nI R := nI_lt (a := 0) (by omega) (by omega)
  have z1 : ¬ nI u = 0 := nI_ne0 (by omega) (by omega)
  have z2 : ¬ nI R = 0 := nI_ne0 (by omega) (by omega)
  have dv : nI row / nI u = nI (row / u) := pk_div hr (by omega) (by omega)
  have lt : row / u < 2 ^ 31 := Nat.lt_of_le_of_lt (Nat.div_le_self _ _) hr
  have rm : nI (row / u) - nI (row / u) / nI R * nI R = nI (row / u % R) := pk_rem lt (by omega) (by omega)
  simp (decide := true) only [me_79, mq_79_0, mq_79_1, mq_79_4, mq_79_5, mq_79_6, mq_79_7, mq_79_8, mq_79_9, mq_79_12, mq_79_14, mq_79_16, mq_79_19, mq_79_20, mq_79_23, mq_79_26, mq_79_27, mq_79_29, mq_79_30, mq_79_31, mq_79_34, mq_79_35, mq_79_38, mq_79_39, hc, sub_nk hk, hp, q1, q2, z1, z2, dv, rm, Nat.reduceAdd, Nat.reduceMul, Nat.reduceSub, Nat.zero_add, sg_bi_i, sg_bi_n, sg_bz, sg_bb, sg_b_0, sg_b_1, if_true, if_false, not_true_eq_false, not_false_eq_true, true_and, and_true, false_and, and_false, and_self, Int32.reduceSub]
theorem em_in_l (σ : sg_M) (R : Nat) (row N k : Int32) (kN : Nat) (h1 : 1 ≤ R) (h6 : R ≤ 6) (hk : k = nI kN) (hkb : kN ≤ 3) (hc : σ 120 16 = nI R) : ∀ m x left, x = kN + m → x ≤ 3 → left < 2 ^ 31 → sg_rv 170 8 σ [sg_r 7 120, sg_i row, sg_i N, sg_i k, sg_i (nI left), sg_i (nI x)] [] = some (some (sg_i (nI (left / R ^ m % R))), σ) := by
  have z2 : ¬ nI R = 0 := nI_ne0 (by omega) (by omega)
  subst hk
  intro m
  induction m with
  | zero =>
    intro x left hx x3 hl
    obtain rfl : x = kN := by omega
    have rm : nI left - nI left / nI R * nI R = nI (left % R) := pk_rem hl (by omega) (by omega)
    rw [Nat.pow_zero, Nat.div_one]
    simp (decide := true) only [mq_170_8, mq_170_10, mq_170_11, mq_170_29, mq_170_31, mq_170_32, mq_170_35, mq_170_36, nI_ltI (show x < 2 ^ 31 by omega) (show x < 2 ^ 31 by omega), show ¬ x < x by omega, hc, z2, rm, Nat.reduceAdd, Nat.reduceMul, Nat.reduceSub, Nat.zero_add, sg_bi_i, sg_bi_n, sg_bz, sg_bb, sg_b_0, sg_b_1, if_true, if_false, not_true_eq_false, not_false_eq_true, true_and, and_true, false_and, and_false, and_self, Int32.reduceSub]
  | succ m ih =>
    intro x left hx x3 hl
    obtain ⟨y, rfl⟩ : ∃ y, x = y + 1 := ⟨x - 1, by omega⟩
    have dv : nI left / nI R = nI (left / R) := pk_div hl (by omega) (by omega)
    have e : left / R ^ (m + 1) = left / R / R ^ m := by rw [Nat.pow_succ, Nat.mul_comm, Nat.div_div_eq_div_mul]
    simp (decide := true) only [mq_170_8, mq_170_10, mq_170_11, nI_ltI (show kN < 2 ^ 31 by omega) (show y + 1 < 2 ^ 31 by omega), show kN < y + 1 by omega, Nat.reduceAdd, Nat.reduceMul, Nat.reduceSub, Nat.zero_add, sg_bi_i, sg_bi_n, sg_bz, sg_bb, sg_b_0, sg_b_1, if_true, if_false, not_true_eq_false, not_false_eq_true, true_and, and_true, false_and, and_false, and_self, Int32.reduceSub]
    rw [e, ← ih y (left / R) (by omega) (by omega) (Nat.lt_of_le_of_lt (Nat.div_le_self _ _) hl)]
    simp (decide := true) only [mq_170_14, mq_170_16, mq_170_17, mq_170_20, mq_170_21, mq_170_23, mq_170_26, hc, z2, dv, pk_m1, Nat.reduceAdd, Nat.reduceMul, Nat.reduceSub, Nat.zero_add, sg_bi_i, sg_bi_n, sg_bz, sg_bb, sg_b_0, sg_b_1, if_true, if_false, not_true_eq_false, not_false_eq_true, true_and, and_true, false_and, and_false, and_self, Int32.reduceSub]
theorem em_recipeIn (σ : sg_M) (R N row k : Nat) (h1 : 1 ≤ R) (h6 : R ≤ 6) (hN : N ≤ 3) (hk : k < N) (hr : row < 2 ^ 31) (hc : σ 120 16 = nI R) : sg_ev 170 σ [sg_r 7 120, sg_i (nI row), sg_i (nI N), sg_i (nI k)] = some (some (sg_i (nI (fn_dg R N row k))), σ) := by
  have := em_in_l σ R (nI row) (nI N) (nI k) k h1 h6 rfl (by omega) hc (N - 1 - k) (N - 1) row (by omega) (by omega) hr
  have s1 : nI N - 1 = nI (N - 1) := by rw [show (1 : Int32) = nI 1 from rfl, pk_sub (by omega)]
  unfold fn_dg
  rw [← this]
  simp (decide := true) only [me_170, mq_170_0, mq_170_1, mq_170_3, mq_170_4, mq_170_5, mq_170_6, s1, Nat.reduceAdd, Nat.reduceMul, Nat.reduceSub, Nat.zero_add, sg_bi_i, sg_bi_n, sg_bz, sg_bb, sg_b_0, sg_b_1, if_true, if_false, not_true_eq_false, not_false_eq_true, true_and, and_true, false_and, and_false, and_self, Int32.reduceSub]
/-- stage k of the class holds P -/
def iv_sg (σ : sg_M) (p n : Nat) (τ : sg_M) (k : Nat) (P : fn_PS) : Prop := τ (67 + 6 * k) 6 = nI n ∧ (∀ i, i < n → σ (19 + 6 * p + 1) i = τ (67 + 6 * k + 1) i) ∧ rl_ps n P (fn_cp τ (67 + 6 * k))
theorem sg_frame {σ : sg_M} {p n : Nat} {τ ω : sg_M} {k : Nat} {P : fn_PS} (h : iv_sg σ p n τ k P) (e : ∀ y, 67 + 6 * k ≤ y → y < 67 + 6 * k + 6 → ω y = τ y) : iv_sg σ p n ω k P := by
  obtain ⟨a, b, c⟩ := h
  refine ⟨by rw [e _ (by omega) (by omega)]; exact a, fun i hi => by rw [e _ (by omega) (by omega)]; exact b i hi, ?_⟩
  have : fn_cp ω (67 + 6 * k) = fn_cp τ (67 + 6 * k) := by
    unfold fn_cp
    rw [e _ (by omega) (by omega), e _ (by omega) (by omega), e _ (by omega) (by omega), e _ (by omega) (by omega)]
  rw [this]
  exact c
section NEAR
variable {B : Int} {σ : sg_M} {p n : Nat}
theorem st_step (h : iv_all B σ) (hp : p < 8) (hpc : iv_pc B σ p n) {q M : Nat} (hq : q < 6) (hM : iv_rc σ q M) (τ : sg_M) (s : sg_same σ τ) (k : Nat) (hk : k < 3) (P : fn_PS) (hs : iv_sg σ p n τ k P) (hi : iv_ps (σ (19 + 6 * p + 1)) n P) : ∃ (M1 ω : sg_M) (u : Int32), sg_ev 53 τ [sg_r 2 (67 + 6 * (k + 1)), sg_r 2 (67 + 6 * k)] = some (none, M1) ∧ sg_ev 46 M1 [sg_r 3 (91 + 3 * q), sg_r 2 (67 + 6 * (k + 1)), sg_i (-1), sg_i 0] = some (some (sg_i u), ω) ∧ sg_same σ ω ∧ iv_sg σ p n ω (k + 1) (fn_rc σ p n q P) ∧ (∀ y, (y < 67 + 6 * (k + 1) ∨ 67 + 6 * (k + 1) + 6 ≤ y) → ω y = τ y) ∧ (∀ y, M1 0 y = τ 0 y) := by
  obtain ⟨⟨n1, n8⟩, -⟩ := id hpc
  obtain ⟨it1, it2⟩ := rc_it hM
  obtain ⟨m1, m8, m2, m3, -⟩ := id hM
  obtain ⟨s6, sg, sr⟩ := hs
  generalize hc : 67 + 6 * (k + 1) = c
  generalize he : 67 + 6 * k = e at *
  have l1 := ev_likeP τ c e (by omega)
  have on1 := lk_on h τ s (k + 1) e (by omega)
  rw [hc] at on1
  have l6 : sg_lk τ c e c 6 = nI n := by rw [lk_6]; exact s6
  have lg : ∀ i, i < n → σ (19 + 6 * p + 1) i = sg_lk τ c e (c + 1) i := fun i hi => by rw [lk_1, va_cpy8 _ _ i (by omega)]; exact sg i hi
  have lr : rl_ps n P (fn_lkP τ c e) := rl_tr sr (lkP_rl τ c e n n8)
  have li := rl_iv lg lr hi
  have lx : ∀ y, 91 ≤ y → y < 109 → sg_lk τ c e y = σ y := fun y a b => by rw [lk_x _ _ _ (by omega) (by omega), s.sx y (by unfold sg_kp; omega)]
  obtain ⟨w, g⟩ := ev_doOnD (sg_lk τ c e) c (91 + 3 * q) n M 0 (-1) 0 (fn_lt σ q) (fn_nu σ q) (fn_lkP τ c e) (τ (c + 5)) n1 n8 l6 (by omega) m8 (by rw [lx _ (by omega) (by omega)]; exact m2) (by omega) (fun j hj e => by rw [(sg_nlate (by omega)).1] at e; exact e.elim) (by rw [lx _ (by omega) (by omega), lx _ (by omega) (by omega)]; exact it1) li
  rw [on1] at g
  have rel := (do_rl (on := 1) (lt := fn_lt σ q) (nu := fn_nu σ q) (lt' := fn_lt σ q) (nu' := fn_nu σ q) (late := -1) (late' := -1) (d := 0) n1 lg M (fun k hk => ⟨rfl, rfl, rfl⟩) M 0 _ _ (by omega) lr).2
  generalize hQ : (fn_do 1 n (sg_lk τ c e (c + 1)) (fn_lt σ q) (fn_nu σ q) (-1) 0 M 0 (fn_lkP τ c e)).2 = Q at g rel
  have fx : ∀ y, (y < c ∨ c + 6 ≤ y) → sg_pP (sg_lk τ c e) c Q w y = τ y := fun y z => by rw [pP_x _ _ _ _ (by omega), lk_x _ _ _ (by omega) (by omega)]
  refine ⟨_, _, _, l1, g, ?_, ⟨?_, fun i hi => ?_, ?_⟩, fx, fun y => ?_⟩
  · rw [← hc]; exact same_tr s (same_lk τ (k + 1) e (by omega) Q w)
  · rw [hc, pP_c _ _ _ _ (by omega)]; exact l6
  · rw [hc, pP_1]; exact lg i hi
  · rw [hc]
    have : fn_cp (sg_pP (sg_lk τ c e) c Q w) c = Q := by
      unfold fn_cp
      rw [pP_c7, pP_2, pP_3, pP_4]
    rw [this]
    unfold fn_rc
    rw [rM_eq hM]
    exact rel
  · rw [pP_x _ _ _ _ (by omega), lk_x _ _ _ (by omega) (by omega)]
/-- the miss behind a row -/
def fn_nm (σ : sg_M) (p n R N a row : Nat) : Int32 := fn_ms n a (fn_stg σ p n R N row N).2.1 (σ 18) (fn_stg σ p n R N row N).1
def iv_sgs (σ : sg_M) (p n R N : Nat) (τ : sg_M) (row k : Nat) : Prop := ∀ j, j ≤ N → (j ≤ k → iv_sg σ p n τ j (fn_stg σ p n R N row j)) ∧ (k < j → 0 < row → iv_sg σ p n τ j (fn_stg σ p n R N (row - 1) j))
theorem ev_mr_l (h : iv_all B σ) (hp : p < 8) (hpc : iv_pc B σ p n) {R N a : Nat} (hR1 : 1 ≤ R) (hR6 : R ≤ 6) (hRc : σ 0 9 = nI R) (hRr : ∀ q, q < R → ∃ M, iv_rc σ q M) (hN : N ≤ 3) (ha : a ≤ 8) (ha1 : σ 0 10 = nI a) (row : Nat) (hrow : row < 1000) : ∀ m k (τ : sg_M) (y4 : sg_V), k + m = N → sg_same σ τ → iv_sgs σ p n R N τ row k → ∃ ω : sg_M, sg_rv 78 2 τ [sg_r 1 0, sg_i (nI row), sg_i (nI N), sg_i (nI k), y4] [] = some (some (sg_i (fn_nm σ p n R N a row)), ω) ∧ sg_same σ ω ∧ iv_sgs σ p n R N ω row N := by
  obtain ⟨⟨n1, n8⟩, -, -, -, -, hi, -⟩ := id hpc
  have siv := fun row k => stg_iv (R := R) (N := N) (row := row) n1 hi k
  intro m
  induction m with
  | zero =>
    intro k τ y4 hk s hv
    obtain rfl : k = N := by omega
    refine ⟨τ, ?_, s, hv⟩
    obtain ⟨v1, v2, v3⟩ := (hv k (Nat.le_refl k)).1 (Nat.le_refl k)
    have iN : sg_in (nI k) 4 = true := sg_in_nI (by omega) (by omega)
    have cN : (nI k).toNatClampNeg = k := sg_nIc (by omega)
    have f := ev_missOf τ (67 + 6 * k) n a n8 ha v1
    have eA : τ 0 10 = nI a := by rw [s.s0]; exact ha1
    rw [s.sx 18 (by unfold sg_kp; omega)] at f
    have ef : fn_ms n a (τ (67 + 6 * k + 2)) (σ 18) (τ (67 + 6 * k) 7) = fn_nm σ p n R k a row := by
      unfold fn_nm
      exact fn_ms_c (fun i hi => (v3.2 i hi).1.symm) (fun _ _ => rfl) v3.1.symm
    rw [ef] at f
    simp (decide := true) only [mq_78_2, mq_78_3, mq_78_4, mq_78_82, mq_78_83, mq_78_86, mq_78_87, mq_78_88, mq_78_89, mq_78_92, mq_78_93, mq_78_96, mq_78_99, nI_ltI (show k < 2 ^ 31 by omega) (show k < 2 ^ 31 by omega), show ¬ k < k by omega, iN, cN, eA, f, Nat.reduceAdd, Nat.reduceMul, Nat.reduceSub, Nat.zero_add, sg_bi_i, sg_bi_n, sg_bz, sg_bb, sg_b_0, sg_b_1, if_true, if_false, not_true_eq_false, not_false_eq_true, true_and, and_true, false_and, and_false, and_self, Int32.reduceSub]
  | succ m ih =>
    intro k τ y4 hk s hv
    have hkN : k < N := by omega
    have e9 : τ 0 9 = nI R := by rw [s.s0]; exact hRc
    obtain ⟨p1, p2⟩ := pow_b (j := N - 1 - k) hR1 hR6 (by omega)
    have hpw := ev_power τ R (N - 1 - k) (by omega)
    have hin : ∀ M : sg_M, M 0 9 = nI R → _ := fun M e => ev_inRow M R N row k hR1 hR6 hN hkN (by omega) e
    have q1 : (0 : Int32) < nI (R ^ (N - 1 - k)) := nI_lt (a := 0) (by omega) (by omega)
    have z1 : ¬ nI (R ^ (N - 1 - k)) = 0 := nI_ne0 (by omega) (by omega)
    have rm : nI row - nI row / nI (R ^ (N - 1 - k)) * nI (R ^ (N - 1 - k)) = nI (row % R ^ (N - 1 - k)) := pk_rem (by omega) (by omega) (by omega)
    have rlt : row % R ^ (N - 1 - k) < 2 ^ 31 := Nat.lt_of_le_of_lt (Nat.mod_le _ _) (by omega)
    have rz := nI_z rlt
    have head : sg_rv 78 2 τ [sg_r 1 0, sg_i (nI row), sg_i (nI N), sg_i (nI k), y4] [] = if row % R ^ (N - 1 - k) = 0 then sg_rv 78 33 τ [sg_r 1 0, sg_i (nI row), sg_i (nI N), sg_i (nI k), sg_i (nI (R ^ (N - 1 - k)))] [] else sg_rv 78 76 τ [sg_r 1 0, sg_i (nI row), sg_i (nI N), sg_i (nI k), sg_i (nI (R ^ (N - 1 - k)))] [] := by
      simp (decide := true) only [mq_78_2, mq_78_3, mq_78_4, mq_78_7, mq_78_8, mq_78_11, mq_78_12, mq_78_13, mq_78_14, mq_78_15, mq_78_16, mq_78_19, mq_78_21, mq_78_23, mq_78_26, mq_78_27, mq_78_29, mq_78_30, nI_ltI (show k < 2 ^ 31 by omega) (show N < 2 ^ 31 by omega), hkN, e9, sub_nk hkN, hpw, q1, z1, rm, rz, Nat.reduceAdd, Nat.reduceMul, Nat.reduceSub, Nat.zero_add, sg_bi_i, sg_bi_n, sg_bz, sg_bb, sg_b_0, sg_b_1, if_true, if_false, not_true_eq_false, not_false_eq_true, true_and, and_true, false_and, and_false, and_self, Int32.reduceSub]
    rw [head]
    by_cases hz : row % R ^ (N - 1 - k) = 0
    · rw [if_pos hz]
      have hdl : fn_dg R N row k < R := Nat.mod_lt _ (by omega)
      obtain ⟨M, hM⟩ := hRr _ hdl
      obtain ⟨M1, ω1, u, a1, a2, a3, a4, a5, a6⟩ := st_step h hp hpc (show fn_dg R N row k < 6 by omega) hM τ s k (by omega) (fn_stg σ p n R N row k) ((hv k (by omega)).1 (Nat.le_refl k)) (siv row k)
      have hv' : iv_sgs σ p n R N ω1 row (k + 1) := by
        intro j hj
        refine ⟨fun hjk => ?_, fun hjk hr0 => ?_⟩
        · by_cases e : j = k + 1
          · rw [e]; exact a4
          · exact sg_frame ((hv j hj).1 (by omega)) (fun y _ _ => a5 y (by omega))
        · exact sg_frame ((hv j hj).2 (by omega) hr0) (fun y _ _ => a5 y (by omega))
      obtain ⟨ω, g1, g2, g3⟩ := ih (k + 1) ω1 (sg_i (nI (R ^ (N - 1 - k)))) (by omega) a3 hv'
      refine ⟨ω, ?_, g2, g3⟩
      rw [← g1]
      have ik : sg_in (nI k) 4 = true := sg_in_nI (by omega) (by omega)
      have ck : (nI k).toNatClampNeg = k := sg_nIc (by omega)
      have ik1 : sg_in (nI (k + 1)) 4 = true := sg_in_nI (by omega) (by omega)
      have ck1 : (nI (k + 1)).toNatClampNeg = k + 1 := sg_nIc (by omega)
      have id7 : sg_in (nI (fn_dg R N row k)) 7 = true := sg_in_nI (by omega) (by omega)
      have cd7 : (nI (fn_dg R N row k)).toNatClampNeg = fn_dg R N row k := sg_nIc (by omega)
      have hin1 := hin M1 (by rw [a6]; exact e9)
      simp (decide := true) only [mq_78_33, mq_78_34, mq_78_37, mq_78_38, mq_78_39, mq_78_40, mq_78_41, mq_78_42, mq_78_45, mq_78_46, mq_78_47, mq_78_50, mq_78_51, mq_78_54, mq_78_55, mq_78_56, mq_78_57, mq_78_58, mq_78_61, mq_78_62, mq_78_63, mq_78_66, mq_78_67, mq_78_68, mq_78_69, mq_78_70, mq_78_71, mq_78_72, mq_78_75, mq_78_76, mq_78_79, nI_1, ik, ck, ik1, ck1, a1, hin1, id7, cd7, a2, Nat.reduceAdd, Nat.reduceMul, Nat.reduceSub, Nat.zero_add, sg_bi_i, sg_bi_n, sg_bz, sg_bb, sg_b_0, sg_b_1, if_true, if_false, not_true_eq_false, not_false_eq_true, true_and, and_true, false_and, and_false, and_self, Int32.reduceSub]
    · rw [if_neg hz]
      have hr0 : 0 < row := Nat.pos_of_ne_zero (fun z => hz (by rw [z]; exact Nat.zero_mod _))
      have hdg := dg_pred (row := row) hR1 hkN hz
      have hv' : iv_sgs σ p n R N τ row (k + 1) := by
        intro j hj
        refine ⟨fun hjk => ?_, fun hjk hr0 => (hv j hj).2 (by omega) hr0⟩
        by_cases e : j = k + 1
        · have := (hv j hj).2 (by omega) hr0
          rw [e] at this ⊢
          rw [← stg_congr (k + 1) hdg]
          exact this
        · exact (hv j hj).1 (by omega)
      obtain ⟨ω, g1, g2, g3⟩ := ih (k + 1) τ (sg_i (nI (R ^ (N - 1 - k)))) (by omega) s hv'
      refine ⟨ω, ?_, g2, g3⟩
      rw [← g1]
      simp (decide := true) only [mq_78_76, mq_78_79, nI_1, Nat.reduceAdd, Nat.reduceMul, Nat.reduceSub, Nat.zero_add, sg_bi_i, sg_bi_n, sg_bz, sg_bb, sg_b_0, sg_b_1, if_true, if_false, not_true_eq_false, not_false_eq_true, true_and, and_true, false_and, and_false, and_self, Int32.reduceSub]
end NEAR
