/-! ODDS -/
theorem nI_rem {a b : Nat} (ha : a < 2 ^ 31) (hb : 0 < b) (hb2 : b < 2 ^ 31) : nI a - nI a / nI b * nI b = nI (a % b) := by
  have h1 : a / b * b ≤ a := Nat.div_mul_le_self a b
  rw [pk_div ha hb hb2, pk_mul, pk_sub h1]
  congr 1
  have := Nat.div_add_mod a b
  rw [Nat.mul_comm] at this
  omega
theorem nL_toInt {k : Nat} (h : k < 2 ^ 31) : (nI k).toInt64.toInt = k := by rw [Int32.toInt_toInt64, nI_toInt h]
theorem nL_add {a b : Nat} (h : a + b < 2 ^ 31) : (nI a).toInt64 + (nI b).toInt64 = (nI (a + b)).toInt64 := by
  apply Int64.toInt_inj.mp
  rw [Int64.toInt_add, nL_toInt (by omega), nL_toInt (by omega), nL_toInt h, Int.bmod_eq_of_le (by omega) (by omega)]
  omega
theorem nL_div {a b : Nat} (ha : a < 2 ^ 31) (hb : 0 < b) (hb2 : b < 2 ^ 31) : (nI a).toInt64 / (nI b).toInt64 = (nI (a / b)).toInt64 := by
  apply Int64.toInt_inj.mp
  have hl := Nat.div_le_self a b
  rw [Int64.toInt_div, nL_toInt ha, nL_toInt hb2, nL_toInt (by omega)]
  rw [show ((a : Int).tdiv (b : Int)) = ((a / b : Nat) : Int) from rfl]
  generalize a / b = c at hl ⊢
  rw [Int.bmod_eq_of_le (by omega) (by omega)]
theorem nL_rem {a b : Nat} (ha : a < 2 ^ 31) (hb : 0 < b) (hb2 : b < 2 ^ 31) : (nI a).toInt64 - (nI a).toInt64 / (nI b).toInt64 * (nI b).toInt64 = (nI (a % b)).toInt64 := by
  apply Int64.toInt_inj.mp
  have h1 : a / b * b ≤ a := Nat.div_mul_le_self a b
  have h2 := Nat.div_le_self a b
  have h3 := Nat.mod_lt a hb
  have e := Nat.div_add_mod a b
  rw [Nat.mul_comm] at e
  rw [nL_div ha hb hb2, Int64.toInt_sub, Int64.toInt_mul, nL_toInt ha, nL_toInt hb2, nL_toInt (show a / b < 2 ^ 31 by omega), nL_toInt (by omega)]
  have e2 : ((a / b : Nat) : Int) * (b : Int) = ((a / b * b : Nat) : Int) := by rw [Int.natCast_mul]
  rw [e2, Int.bmod_eq_of_le (n := ((a / b * b : Nat) : Int)) (by omega) (by omega), Int.bmod_eq_of_le (by omega) (by omega)]
  omega
theorem nL_0 : (nI 0).toInt64 = 0 := by decide
theorem nL_ne0 {a : Nat} (h : 0 < a) (ha : a < 2 ^ 31) : ¬ (nI a).toInt64 = 0 := fun q => by
  have := congrArg Int64.toInt q
  rw [nL_toInt ha, sg_T0] at this
  omega
def fn_gd (u d : Nat) : Nat → Nat
  | 0 => 1
  | k + 1 => if k = 0 then 1 else if u % (k + 1) = 0 ∧ d % (k + 1) = 0 then k + 1 else fn_gd u d k
def fn_eu : Nat → Nat → Nat → Nat
  | 0, x, _ => x
  | m + 1, x, y => if y = 0 then x else fn_eu m y (x % y)
theorem gd_eu : ∀ d, d < 37 → 0 < d → ∀ u, u < 37 → fn_gd u d d = fn_eu 40 u d ∧ 0 < fn_gd u d d ∧ fn_gd u d d ≤ d := by decide +kernel
theorem nI_z {k : Nat} (hk : k < 2 ^ 31) : (nI k = 0) = (k = 0) := by
  rw [show (0 : Int32) = nI 0 from rfl, eq_iff_iff]; exact nI_eq hk (by omega)
theorem ev_gd_l (σ : sg_M) (u d : Nat) (hu : u < 1000) (hd : d < 1000) : ∀ k, k < 1000 → sg_rv 70 2 σ [sg_i (nI u), sg_i (nI d), sg_i (nI k)] [] = some (some (sg_i (nI (fn_gd u d k))), σ) := by
  intro k
  induction k with
  | zero =>
    intro _
    simp (decide := true) only [mq_70_2, mq_70_3, mq_70_4, show ¬ (1 : Int32) < nI 0 by decide, mq_70_27, mq_70_28, Nat.reduceAdd, Nat.reduceMul, Nat.reduceSub, Nat.zero_add, sg_bi_i, sg_bi_n, sg_bz, sg_bb, sg_b_0, sg_b_1, if_true, if_false, not_true_eq_false, not_false_eq_true, true_and, and_true, false_and, and_false, and_self, Int32.reduceSub, fn_gd]
    rfl
  | succ k ih =>
    intro hk
    have c1 : (1 < nI (k + 1)) = (1 < k + 1) := by rw [show (1 : Int32) = nI 1 from rfl, eq_iff_iff]; exact nI_ltI (by omega) (by omega)
    have mu := Nat.mod_lt u (show 0 < k + 1 by omega)
    have md := Nat.mod_lt d (show 0 < k + 1 by omega)
    have n0 : ¬ nI (k + 1) = 0 := nI_ne0 (by omega) (by omega)
    simp only [fn_gd]
    by_cases h0 : k = 0
    · subst h0
      simp (decide := true) only [mq_70_2, mq_70_3, mq_70_4, show ¬ (1 : Int32) < nI (0 + 1) by decide, mq_70_27, mq_70_28, Nat.reduceAdd, Nat.reduceMul, Nat.reduceSub, Nat.zero_add, sg_bi_i, sg_bi_n, sg_bz, sg_bb, sg_b_0, sg_b_1, if_true, if_false, not_true_eq_false, not_false_eq_true, true_and, and_true, false_and, and_false, and_self, Int32.reduceSub]
      rfl
    · simp (decide := true) only [mq_70_2, mq_70_3, mq_70_4, c1, show 1 < k + 1 by omega, h0, Nat.reduceAdd, Nat.reduceMul, Nat.reduceSub, Nat.zero_add, sg_bi_i, sg_bi_n, sg_bz, sg_bb, sg_b_0, sg_b_1, if_true, if_false, not_true_eq_false, not_false_eq_true, true_and, and_true, false_and, and_false, and_self, Int32.reduceSub]
      have e1 : nI (k + 1) + (-1) = nI k := by
        have := nI_pred k
        rw [← this]
        rw [Int32.sub_eq_add_neg]
      by_cases a1 : u % (k + 1) = 0
      · by_cases a2 : d % (k + 1) = 0
        · simp (decide := true) only [mq_70_7, mq_70_8, mq_70_9, mq_70_10, mq_70_13, mq_70_14, mq_70_15, mq_70_16, mq_70_19, mq_70_20, n0, nI_rem (show u < 2 ^ 31 by omega) (show 0 < k + 1 by omega) (by omega), nI_rem (show d < 2 ^ 31 by omega) (show 0 < k + 1 by omega) (by omega), a1, a2, nI_0, Nat.reduceAdd, Nat.reduceMul, Nat.reduceSub, Nat.zero_add, sg_bi_i, sg_bi_n, sg_bz, sg_bb, sg_b_0, sg_b_1, if_true, if_false, not_true_eq_false, not_false_eq_true, true_and, and_true, false_and, and_false, and_self, Int32.reduceSub]
        · simp (decide := true) only [mq_70_7, mq_70_8, mq_70_9, mq_70_10, mq_70_13, mq_70_14, mq_70_15, mq_70_16, mq_70_19, mq_70_20, mq_70_21, mq_70_24, n0, nI_rem (show u < 2 ^ 31 by omega) (show 0 < k + 1 by omega) (by omega), nI_rem (show d < 2 ^ 31 by omega) (show 0 < k + 1 by omega) (by omega), nI_z (show d % (k + 1) < 2 ^ 31 by omega), a1, a2, nI_0, e1, Nat.reduceAdd, Nat.reduceMul, Nat.reduceSub, Nat.zero_add, sg_bi_i, sg_bi_n, sg_bz, sg_bb, sg_b_0, sg_b_1, if_true, if_false, not_true_eq_false, not_false_eq_true, true_and, and_true, false_and, and_false, and_self, Int32.reduceSub]
          exact ih (by omega)
      · simp (decide := true) only [mq_70_7, mq_70_8, mq_70_9, mq_70_10, mq_70_13, mq_70_14, mq_70_15, mq_70_16, mq_70_19, mq_70_20, mq_70_21, mq_70_24, n0, nI_rem (show u < 2 ^ 31 by omega) (show 0 < k + 1 by omega) (by omega), nI_z (show u % (k + 1) < 2 ^ 31 by omega), a1, e1, Nat.reduceAdd, Nat.reduceMul, Nat.reduceSub, Nat.zero_add, sg_bi_i, sg_bi_n, sg_bz, sg_bb, sg_b_0, sg_b_1, if_true, if_false, not_true_eq_false, not_false_eq_true, true_and, and_true, false_and, and_false, and_self, Int32.reduceSub]
        exact ih (by omega)
theorem ev_gd (σ : sg_M) (u d : Nat) (hu : u < 1000) (hd : d < 1000) : sg_ev 70 σ [sg_i (nI u), sg_i (nI d)] = some (some (sg_i (nI (fn_gd u d d))), σ) := by
  rw [← ev_gd_l σ u d hu hd d hd]
  simp only [me_70, mq_70_0, mq_70_1]
theorem em_sh_l (σ : sg_M) (x0 x2 : sg_V) (which : Int32) : ∀ m x y (y9 y10 : sg_V), y < m → x < 1000 → y < 1000 → 0 < fn_eu m x y → ∃ z7 z8 z9 z10, sg_rv 164 6 σ [x0, sg_r 0 0, x2, sg_r 0 0, sg_i which, sg_l (nI x).toInt64, sg_r 0 0, sg_l (nI y).toInt64, sg_r 0 0, y9, y10] [] = sg_rv 164 31 σ [x0, sg_r 0 0, x2, sg_r 0 0, sg_i which, sg_l (nI (fn_eu m x y)).toInt64, sg_r 0 0, z7, z8, z9, z10] [] := by
  intro m
  induction m with
  | zero => intro x y y9 y10 h; omega
  | succ m ih =>
    intro x y y9 y10 hy hx1 hy1 hp
    simp only [fn_eu] at hp ⊢
    by_cases h0 : y = 0
    · subst h0
      refine ⟨sg_l (nI 0).toInt64, sg_r 0 0, y9, y10, ?_⟩
      simp (decide := true) only [mq_164_6, mq_164_8, mq_164_9, mq_164_10, sg_lc_eq, nL_0, Nat.reduceAdd, Nat.reduceMul, Nat.reduceSub, Nat.zero_add, sg_bi_i, sg_bi_n, sg_bz, sg_bb, sg_b_0, sg_b_1, if_true, if_false, not_true_eq_false, not_false_eq_true, true_and, and_true, false_and, and_false, and_self, Int32.reduceSub]
    · rw [if_neg h0] at hp ⊢
      have ml := Nat.mod_lt x (show 0 < y by omega)
      obtain ⟨z7, z8, z9, z10, g⟩ := ih y (x % y) (sg_l (nI (x % y)).toInt64) (sg_r 0 0) (by omega) hy1 (by omega) hp
      refine ⟨z7, z8, z9, z10, ?_⟩
      have e1 : ((nI y).toInt64 = 0) = False := eq_false (nL_ne0 (by omega) (by omega))
      simp (decide := true) only [mq_164_6, mq_164_8, mq_164_9, mq_164_10, sg_lc_eq, e1, Nat.reduceAdd, Nat.reduceMul, Nat.reduceSub, Nat.zero_add, sg_bi_i, sg_bi_n, sg_bz, sg_bb, sg_b_0, sg_b_1, if_true, if_false, not_true_eq_false, not_false_eq_true, true_and, and_true, false_and, and_false, and_self, Int32.reduceSub]
      simp (decide := true) only [mq_164_13, mq_164_15, mq_164_17, mq_164_18, mq_164_18_i, mq_164_20, mq_164_22, mq_164_24, mq_164_26, mq_164_26_i, mq_164_28, e1, nL_rem (show x < 2 ^ 31 by omega) (show 0 < y by omega) (show y < 2 ^ 31 by omega), Nat.reduceAdd, Nat.reduceMul, Nat.reduceSub, Nat.zero_add, sg_bi_i, sg_bi_n, sg_bz, sg_bb, sg_b_0, sg_b_1, if_true, if_false, not_true_eq_false, not_false_eq_true, true_and, and_true, false_and, and_false, and_self, Int32.reduceSub]
      exact g
theorem em_share (σ : sg_M) (u d : Nat) (which : Int32) (hu : u < 37) (hd : d < 37) (h0 : 0 < d) : sg_ev 164 σ [sg_l (nI u).toInt64, sg_l (nI d).toInt64, sg_i which] = some (some (sg_l (nI ((if which = 0 then u else d) / fn_gd u d d)).toInt64), σ) := by
  obtain ⟨e, p, l⟩ := gd_eu d hd h0 u hu
  obtain ⟨z7, z8, z9, z10, g⟩ := em_sh_l σ (sg_l (nI u).toInt64) (sg_l (nI d).toInt64) which 40 u d (sg_r 0 0) (sg_r 0 0) (by omega) (by omega) (by omega) (by rw [← e]; exact p)
  rw [← e] at g
  have n0 : ((nI (fn_gd u d d)).toInt64 = 0) = False := eq_false (nL_ne0 p (by omega))
  simp (decide := true) only [me_164, mq_164_0, mq_164_1, mq_164_3, mq_164_4, mq_164_4_i, Nat.reduceAdd, Nat.reduceMul, Nat.reduceSub, Nat.zero_add, sg_bi_i, sg_bi_n, sg_bz, sg_bb, sg_b_0, sg_b_1, if_true, if_false, not_true_eq_false, not_false_eq_true, true_and, and_true, false_and, and_false, and_self, Int32.reduceSub]
  rw [g]
  by_cases w0 : which = 0
  · simp (decide := true) only [mq_164_31, mq_164_33, mq_164_36, mq_164_37, mq_164_40, mq_164_41, mq_164_43, mq_164_44, w0, n0, nL_div (show u < 2 ^ 31 by omega) p (show fn_gd u d d < 2 ^ 31 by omega), Nat.reduceAdd, Nat.reduceMul, Nat.reduceSub, Nat.zero_add, sg_bi_i, sg_bi_n, sg_bz, sg_bb, sg_b_0, sg_b_1, if_true, if_false, not_true_eq_false, not_false_eq_true, true_and, and_true, false_and, and_false, and_self, Int32.reduceSub]
  · simp (decide := true) only [mq_164_31, mq_164_33, mq_164_36, mq_164_37, mq_164_40, mq_164_41, mq_164_43, mq_164_44, w0, n0, nL_div (show d < 2 ^ 31 by omega) p (show fn_gd u d d < 2 ^ 31 by omega), Nat.reduceAdd, Nat.reduceMul, Nat.reduceSub, Nat.zero_add, sg_bi_i, sg_bi_n, sg_bz, sg_bb, sg_b_0, sg_b_1, if_true, if_false, not_true_eq_false, not_false_eq_true, true_and, and_true, false_and, and_false, and_self, Int32.reduceSub]
def fn_od (f : Nat → Bool) : Nat → Nat → Nat × Nat × Nat → Nat × Nat × Nat
  | 0, _, a => a
  | m + 1, t, a => fn_od f m (t + 1) (a.1 + (if f t then a.2.2 % 10 else 0), a.2.1 + a.2.2 % 10, a.2.2 / 10)
theorem od_spec (f : Nat → Bool) (t H : Nat) (h1 : 1 ≤ H) (h2 : H ≤ 9999) : 0 < (fn_od f 4 t (0, 0, H)).2.1 ∧ (fn_od f 4 t (0, 0, H)).2.1 < 37 ∧ (fn_od f 4 t (0, 0, H)).1 < 37 := by
  have ifl : ∀ (b : Bool) (x : Nat), (if b = true then x else 0) ≤ x := fun b x => by cases b <;> simp
  have a0 := ifl (f t) (H % 10)
  have a1 := ifl (f (t + 1)) (H / 10 % 10)
  have a2 := ifl (f (t + 1 + 1)) (H / 10 / 10 % 10)
  have a3 := ifl (f (t + 1 + 1 + 1)) (H / 10 / 10 / 10 % 10)
  simp only [fn_od]
  omega
theorem ev_od_l {σ M : sg_M} {p n N : Nat} {g r b : Int32} {P0 : fn_PS} (which : Int32) (x1 x2 x3 x4 x5 x6 x8 : sg_V) (h1 : 1 ≤ n) (h8 : n ≤ 8) (hn : M 67 6 = nI n) (hon : M 67 0 = 1) (b6 : M 3 6 = 1) (b0 : M 3 0 = 0) (b4 : M 4 0 = g) (hi : iv_ps (M 68) n P0) (hg : ∀ k, k < n → σ (19 + 6 * p + 1) k = M 68 k) (hr : rl_ps n (fn_cp σ (19 + 6 * p)) P0) (hs : ∀ P w R v, sg_same σ (sg_2 M 67 P w R v)) : ∀ m l (a : Nat × Nat × Nat) (R : fn_PS) (w v : Nat → Int32) (y14 : sg_V), (y14 = sg_r 0 0 ∨ ∃ c, y14 = sg_i c) → l + m = 4 → a.2.2 ≤ 9999 → iv_ps (M 4) 1 R → R.2.1 0 = r → R.2.2.1 0 = fn_it (fn_bt (g / r)) (N + l) b → ∃ ω z14, sg_same σ ω ∧ sg_rv 69 109 (sg_2 M 67 (fn_it (fn_step 1 n (M 68) 1) (N + l) P0) w R v) [sg_r 1 0, x1, x2, x3, x4, x5, x6, sg_i which, x8, sg_r 2 67, sg_i (nI a.1), sg_i (nI a.2.1), sg_i (nI a.2.2), sg_i (nI l), y14] [] = sg_rv 69 172 ω [sg_r 1 0, x1, x2, x3, x4, x5, x6, sg_i which, x8, sg_r 2 67, sg_i (nI (fn_od (fn_hb σ p n g r b) m (N + l) a).1), sg_i (nI (fn_od (fn_hb σ p n g r b) m (N + l) a).2.1), sg_i (nI (fn_od (fn_hb σ p n g r b) m (N + l) a).2.2), sg_i (nI 4), z14] [] := by
  have c3 : ∀ t, t ≤ 4 → ((3 < nI t) = (3 < t)) := fun t ht => by rw [show (3 : Int32) = nI 3 from rfl, eq_iff_iff]; exact nI_ltI (by omega) (by omega)
  intro m
  induction m with
  | zero =>
    intro l a R w v y14 hy hl ha hb hr0 hR
    refine ⟨_, y14, hs (fn_it (fn_step 1 n (M 68) 1) (N + l) P0) w R v, ?_⟩
    simp only [fn_od]
    obtain rfl : l = 4 := by omega
    simp (decide := true) only [mq_69_109, mq_69_111, mq_69_112, c3 4 (by omega), show 3 < 4 by omega, Nat.reduceAdd, Nat.reduceMul, Nat.reduceSub, Nat.zero_add, sg_bi_i, sg_bi_n, sg_bz, sg_bb, sg_b_0, sg_b_1, if_true, if_false, not_true_eq_false, not_false_eq_true, true_and, and_true, false_and, and_false, and_self, Int32.reduceSub]
  | succ m ih =>
    intro l a R w v y14 hy hl ha hb hr0 hR
    have hh := ev_hb (σ := σ) (p := p) (N := N + l) h1 h8 hn hg hr R w v hR
    obtain ⟨w1, v1, R1, g1, g2, g3, g4⟩ := ev_turnBoth M 67 n 1 g r (fn_it (fn_step 1 n (M 68) 1) (N + l) P0) R w v (by omega) h1 h8 hn hon b6 b0 b4 (by omega) (it_iv (fun _ q => step_iv h1 q) (N + l) _ hi) hb hr0
    simp only [Nat.reduceAdd] at g1
    have e1 : fn_it (fn_step 1 n (M 68) 1) 1 (fn_it (fn_step 1 n (M 68) 1) (N + l) P0) = fn_it (fn_step 1 n (M 68) 1) (N + l + 1) P0 := (fn_it_s _ (N + l) P0).symm
    have e2 : fn_it (fn_bt (g / r)) 1 (R.2.2.1 0) = fn_it (fn_bt (g / r)) (N + l + 1) b := by rw [hR]; exact (fn_it_s _ (N + l) b).symm
    rw [e1, show nI 1 = (1 : Int32) from rfl] at g1
    rw [e2] at g4
    have rm := nI_rem (a := a.2.2) (b := 10) (by omega) (by omega) (by omega)
    have dv := pk_div (a := a.2.2) (d := 10) (by omega) (by omega) (by omega)
    rw [show nI 10 = (10 : Int32) from rfl] at rm dv
    rw [dv] at rm
    have n10 : ¬ (10 : Int32) = 0 := by decide
    simp only [fn_od]
    obtain ⟨ω, z14, s, ih⟩ := ih (l + 1) (a.1 + (if fn_hb σ p n g r b (N + l) then a.2.2 % 10 else 0), a.2.1 + a.2.2 % 10, a.2.2 / 10) R1 w1 v1 (sg_i (nI (a.2.2 % 10))) (Or.inr ⟨_, rfl⟩) (by omega) (by show a.2.2 / 10 ≤ 9999; omega) g2 g3 g4
    refine ⟨ω, z14, s, ?_⟩
    rw [show N + l + 1 = N + (l + 1) by omega] at g1 ⊢
    simp (decide := true) only [mq_69_109, mq_69_111, mq_69_112, c3 l (by omega), show ¬ 3 < l by omega, Nat.reduceAdd, Nat.reduceMul, Nat.reduceSub, Nat.zero_add, sg_bi_i, sg_bi_n, sg_bz, sg_bb, sg_b_0, sg_b_1, if_true, if_false, not_true_eq_false, not_false_eq_true, true_and, and_true, false_and, and_false, and_self, Int32.reduceSub]
    rw [← ih]
    by_cases hb1 : fn_hb σ p n g r b (N + l) = true
    · rcases hy with rfl | ⟨c, rfl⟩ <;> simp (decide := true) only [mq_69_115, mq_69_117, mq_69_119, mq_69_120, mq_69_122, mq_69_124, mq_69_126, mq_69_127, mq_69_129, mq_69_131, mq_69_133, mq_69_134, mq_69_136, mq_69_138, mq_69_140, mq_69_141, mq_69_144, mq_69_147, mq_69_150, mq_69_152, mq_69_155, mq_69_156, mq_69_157, mq_69_159, mq_69_160, mq_69_162, mq_69_163, mq_69_166, mq_69_169, n10, rm, dv, hh, hb1, g1, nI_1, nI_add, Nat.reduceAdd, Nat.reduceMul, Nat.reduceSub, Nat.zero_add, sg_bi_i, sg_bi_n, sg_bz, sg_bb, sg_b_0, sg_b_1, if_true, if_false, not_true_eq_false, not_false_eq_true, true_and, and_true, false_and, and_false, and_self, Int32.reduceSub]
    · rcases hy with rfl | ⟨c, rfl⟩ <;> simp (decide := true) only [mq_69_115, mq_69_117, mq_69_119, mq_69_120, mq_69_122, mq_69_124, mq_69_126, mq_69_127, mq_69_129, mq_69_131, mq_69_133, mq_69_134, mq_69_136, mq_69_138, mq_69_140, mq_69_141, mq_69_144, mq_69_147, mq_69_150, mq_69_152, mq_69_155, mq_69_156, mq_69_157, mq_69_159, mq_69_160, mq_69_162, mq_69_163, mq_69_166, mq_69_169, n10, rm, dv, hh, hb1, g1, nI_1, nI_add, Int32.add_zero, Nat.add_zero, Nat.reduceAdd, Nat.reduceMul, Nat.reduceSub, Nat.zero_add, sg_bi_i, sg_bi_n, sg_bz, sg_bb, sg_b_0, sg_b_1, if_true, if_false, not_true_eq_false, not_false_eq_true, true_and, and_true, false_and, and_false, and_self, Int32.reduceSub]
theorem em_od_l {B : Int} {σ : sg_M} {p n N : Nat} {g r b : Int32} (which x6 : Int32) (hN : N ≤ 97) (hp : p < 8) (h : iv_pc B σ p n) (q : iv_ring g r b) : ∀ m l (a : Nat × Nat × Nat) (τ : sg_M), l + m = 4 → a.1 ≤ 9 * l ∧ a.2.1 ≤ 9 * l ∧ a.2.2 ≤ 9999 → sg_same σ τ → ∃ ω, sg_same σ ω ∧ sg_rv 162 80 τ [sg_r 7 120, sg_i (nI p), sg_i g, sg_i r, sg_i b, sg_i (nI N), sg_i x6, sg_i which, sg_l (nI a.1).toInt64, sg_r 0 0, sg_l (nI a.2.1).toInt64, sg_r 0 0, sg_i (nI a.2.2), sg_i (nI l)] [] = sg_rv 162 142 ω [sg_r 7 120, sg_i (nI p), sg_i g, sg_i r, sg_i b, sg_i (nI N), sg_i x6, sg_i which, sg_l (nI (fn_od (fn_hb σ p n g r b) m (N + l) a).1).toInt64, sg_r 0 0, sg_l (nI (fn_od (fn_hb σ p n g r b) m (N + l) a).2.1).toInt64, sg_r 0 0, sg_i (nI (fn_od (fn_hb σ p n g r b) m (N + l) a).2.2), sg_i (nI 4)] [] := by
  have c4 : ∀ t, t ≤ 4 → ((nI t < 4) = (t < 4)) := fun t ht => by rw [show (4 : Int32) = nI 4 from rfl, eq_iff_iff]; exact nI_ltI (by omega) (by omega)
  intro m
  induction m with
  | zero =>
    intro l a τ hl ha s
    refine ⟨τ, s, ?_⟩
    simp only [fn_od]
    obtain rfl : l = 4 := by omega
    simp (decide := true) only [mq_162_80, mq_162_82, mq_162_83, c4 4 (by omega), show ¬ 4 < 4 by omega, Nat.reduceAdd, Nat.reduceMul, Nat.reduceSub, Nat.zero_add, sg_bi_i, sg_bi_n, sg_bz, sg_bb, sg_b_0, sg_b_1, if_true, if_false, not_true_eq_false, not_false_eq_true, true_and, and_true, false_and, and_false, and_self, Int32.reduceSub]
  | succ m ih =>
    intro l a τ hl ha s
    obtain ⟨ω1, T, w, eω, g1⟩ := em_hb (N := N + l) hp h s q (by omega)
    have s1 : sg_same σ ω1 := by rw [eω]; exact same_tr s (same_m23 _ _ _ _ _ _)
    have rm := nI_rem (a := a.2.2) (b := 10) (by omega) (by omega) (by omega)
    have dv := pk_div (a := a.2.2) (d := 10) (by omega) (by omega) (by omega)
    rw [show nI 10 = (10 : Int32) from rfl] at rm dv
    rw [dv] at rm
    have n10 : ¬ (10 : Int32) = 0 := by decide
    have ml : a.2.2 % 10 < 10 := Nat.mod_lt _ (by omega)
    simp only [fn_od]
    have il : (if fn_hb σ p n g r b (N + l) = true then a.2.2 % 10 else 0) ≤ 9 := by split <;> omega
    obtain ⟨ω, s2, ih⟩ := ih (l + 1) (a.1 + (if fn_hb σ p n g r b (N + l) then a.2.2 % 10 else 0), a.2.1 + a.2.2 % 10, a.2.2 / 10) ω1 (by omega) ⟨by show a.1 + _ ≤ _; omega, by show a.2.1 + _ ≤ _; omega, by show a.2.2 / 10 ≤ 9999; omega⟩ s1
    refine ⟨ω, s2, ?_⟩
    rw [show N + l + 1 = N + (l + 1) by omega]
    simp (decide := true) only [mq_162_80, mq_162_82, mq_162_83, c4 l (by omega), show l < 4 by omega, Nat.reduceAdd, Nat.reduceMul, Nat.reduceSub, Nat.zero_add, sg_bi_i, sg_bi_n, sg_bz, sg_bb, sg_b_0, sg_b_1, if_true, if_false, not_true_eq_false, not_false_eq_true, true_and, and_true, false_and, and_false, and_self, Int32.reduceSub]
    rw [← ih]
    by_cases hb1 : fn_hb σ p n g r b (N + l) = true
    · simp (decide := true) only [mq_162_86, mq_162_88, mq_162_89, mq_162_90, mq_162_91, mq_162_92, mq_162_94, mq_162_96, mq_162_98, mq_162_99, mq_162_102, mq_162_105, mq_162_107, mq_162_109, mq_162_110, mq_162_111, mq_162_114, mq_162_115, mq_162_116, mq_162_118, mq_162_120, mq_162_122, mq_162_124, mq_162_125, mq_162_126, mq_162_127, mq_162_127_i, mq_162_129, mq_162_131, mq_162_133, mq_162_134, mq_162_134_i, mq_162_136, mq_162_139, nI_add, g1, n10, rm, dv, hb1, nL_add (show a.1 + a.2.2 % 10 < 2 ^ 31 by omega), nL_add (show a.2.1 + a.2.2 % 10 < 2 ^ 31 by omega), nI_1, Nat.reduceAdd, Nat.reduceMul, Nat.reduceSub, Nat.zero_add, sg_bi_i, sg_bi_n, sg_bz, sg_bb, sg_b_0, sg_b_1, if_true, if_false, not_true_eq_false, not_false_eq_true, true_and, and_true, false_and, and_false, and_self, Int32.reduceSub]
    · simp (decide := true) only [mq_162_86, mq_162_88, mq_162_89, mq_162_90, mq_162_91, mq_162_92, mq_162_94, mq_162_96, mq_162_98, mq_162_99, mq_162_102, mq_162_105, mq_162_107, mq_162_109, mq_162_110, mq_162_111, mq_162_114, mq_162_115, mq_162_116, mq_162_118, mq_162_120, mq_162_122, mq_162_124, mq_162_125, mq_162_126, mq_162_127, mq_162_127_i, mq_162_129, mq_162_131, mq_162_133, mq_162_134, mq_162_134_i, mq_162_136, mq_162_139, nI_add, g1, n10, rm, dv, hb1, nL_add (show a.2.1 + a.2.2 % 10 < 2 ^ 31 by omega), nI_1, Int64.add_zero, Nat.add_zero, Nat.reduceAdd, Nat.reduceMul, Nat.reduceSub, Nat.zero_add, sg_bi_i, sg_bi_n, sg_bz, sg_bb, sg_b_0, sg_b_1, if_true, if_false, not_true_eq_false, not_false_eq_true, true_and, and_true, false_and, and_false, and_self, Int32.reduceSub]
theorem pr_odds {B : Int} {σ : sg_M} (p g r b t hand which : Int32) (h : iv_all B σ) : sg_pair B σ 69 162 [sg_i p, sg_i g, sg_i r, sg_i b, sg_i t, sg_i hand, sg_i which] := by
  have t64 := sg_i64 t 0 97 0 97 (by decide) (by decide)
  have h64 := sg_i64 hand 1 9999 1 9999 (by decide) (by decide)
  have w64 := sg_i64 which 0 1 0 1 (by decide) (by decide)
  have AT : ∃ a : Int32, (¬ a = 0 ↔ (0 ≤ t ∧ t ≤ 97) ∧ (1 ≤ hand ∧ hand ≤ 9999) ∧ (0 ≤ which ∧ which ≤ 1)) ∧ sg_ev 69 σ [sg_r 1 0, sg_i p, sg_i g, sg_i r, sg_i b, sg_i t, sg_i hand, sg_i which] = sg_rv 69 40 σ [sg_r 1 0, sg_i p, sg_i g, sg_i r, sg_i b, sg_i t, sg_i hand, sg_i which, sg_i a, sg_r 0 0, sg_r 0 0, sg_r 0 0, sg_r 0 0, sg_r 0 0, sg_r 0 0] [] := by
    by_cases a1 : 0 ≤ t ∧ t ≤ 97
    · by_cases a2 : 1 ≤ hand ∧ hand ≤ 9999
      · by_cases a3 : 0 ≤ which ∧ which ≤ 1
        · exact ⟨1, ⟨fun _ => ⟨a1, a2, a3⟩, fun _ => by decide⟩, by simp (decide := true) only [me_69, mq_69_0, mq_69_2, mq_69_3, mq_69_5, mq_69_8, mq_69_11, mq_69_13, mq_69_14, mq_69_17, mq_69_20, mq_69_23, mq_69_25, mq_69_26, mq_69_27, mq_69_30, mq_69_33, mq_69_34, mq_69_37, mq_69_38, ev_within, a1, a2, a3, Nat.reduceAdd, Nat.reduceMul, Nat.reduceSub, Nat.zero_add, sg_bi_i, sg_bi_n, sg_bz, sg_bb, sg_b_0, sg_b_1, if_true, if_false, not_true_eq_false, not_false_eq_true, true_and, and_true, false_and, and_false, and_self, Int32.reduceSub]⟩
        · exact ⟨0, ⟨fun z => absurd rfl z, fun z => absurd z.2.2 a3⟩, by simp (decide := true) only [me_69, mq_69_0, mq_69_2, mq_69_3, mq_69_5, mq_69_8, mq_69_11, mq_69_13, mq_69_14, mq_69_17, mq_69_20, mq_69_23, mq_69_25, mq_69_26, mq_69_27, mq_69_30, mq_69_33, mq_69_34, mq_69_37, mq_69_38, ev_within, a1, a2, a3, Nat.reduceAdd, Nat.reduceMul, Nat.reduceSub, Nat.zero_add, sg_bi_i, sg_bi_n, sg_bz, sg_bb, sg_b_0, sg_b_1, if_true, if_false, not_true_eq_false, not_false_eq_true, true_and, and_true, false_and, and_false, and_self, Int32.reduceSub]⟩
      · exact ⟨0, ⟨fun z => absurd rfl z, fun z => absurd z.2.1 a2⟩, by simp (decide := true) only [me_69, mq_69_0, mq_69_2, mq_69_3, mq_69_5, mq_69_8, mq_69_11, mq_69_13, mq_69_14, mq_69_17, mq_69_20, mq_69_23, mq_69_25, mq_69_26, mq_69_27, mq_69_30, mq_69_33, mq_69_34, mq_69_37, mq_69_38, ev_within, a1, a2, Nat.reduceAdd, Nat.reduceMul, Nat.reduceSub, Nat.zero_add, sg_bi_i, sg_bi_n, sg_bz, sg_bb, sg_b_0, sg_b_1, if_true, if_false, not_true_eq_false, not_false_eq_true, true_and, and_true, false_and, and_false, and_self, Int32.reduceSub]⟩
    · exact ⟨0, ⟨fun z => absurd rfl z, fun z => absurd z.1 a1⟩, by simp (decide := true) only [me_69, mq_69_0, mq_69_2, mq_69_3, mq_69_5, mq_69_8, mq_69_11, mq_69_13, mq_69_14, mq_69_17, mq_69_20, mq_69_23, mq_69_25, mq_69_26, mq_69_27, mq_69_30, mq_69_33, mq_69_34, mq_69_37, mq_69_38, ev_within, a1, Nat.reduceAdd, Nat.reduceMul, Nat.reduceSub, Nat.zero_add, sg_bi_i, sg_bi_n, sg_bz, sg_bb, sg_b_0, sg_b_1, if_true, if_false, not_true_eq_false, not_false_eq_true, true_and, and_true, false_and, and_false, and_self, Int32.reduceSub]⟩
  obtain ⟨a, ha, A0⟩ := AT
  rcases pc_cases h.2.2.2.2.2 p with hno | ⟨j, m, hj, rfl, hpc, hp⟩
  · refine pair_same h (sg_l (-9223372036854775808)) σ σ ?_ (same_rfl σ) ?_ (same_rfl σ)
    · rw [A0]
      simp (decide := true) only [mq_69_40, mq_69_41, mq_69_42, mq_69_43, mq_69_44, mq_69_46, mq_69_48, mq_69_51, mq_69_54, mq_69_57, ev_barNo ((hno σ).1 rfl), Nat.reduceAdd, Nat.reduceMul, Nat.reduceSub, Nat.zero_add, sg_bi_i, sg_bi_n, sg_bz, sg_bb, sg_b_0, sg_b_1, if_true, if_false, not_true_eq_false, not_false_eq_true, true_and, and_true, false_and, and_false, and_self, Int32.reduceSub]
    · simp (decide := true) only [me_162, mq_162_0, mq_162_1, mq_162_2, mq_162_5, mq_162_8, mq_162_9, mq_162_10, mq_162_12, mq_162_15, mq_162_18, mq_162_20, mq_162_21, mq_162_22, mq_162_25, mq_162_28, mq_162_31, mq_162_33, mq_162_34, mq_162_35, mq_162_38, mq_162_41, mq_162_44, mq_162_46, mq_162_47, mq_162_48, mq_162_49, mq_162_52, mq_162_55, mq_162_56, mq_162_57, mq_162_60, mq_162_63, mq_162_66, (hno σ).2 rfl, em_lost, Nat.reduceAdd, Nat.reduceMul, Nat.reduceSub, Nat.zero_add, sg_bi_i, sg_bi_n, sg_bz, sg_bb, sg_b_0, sg_b_1, if_true, if_false, not_true_eq_false, not_false_eq_true, true_and, and_true, false_and, and_false, and_self, Int32.reduceSub]
  · have e1 := (hp σ).1 rfl
    have e2 := (hp σ).2 rfl
    have i1 : sg_in (nI j) 8 = true := sg_in_nI (by omega) (by omega)
    have cj : (nI j).toNatClampNeg = j := sg_nIc (by omega)
    obtain ⟨⟨n1, n8⟩, hn, hn2, ho, -, hi, hst⟩ := id hpc
    have br := ev_barBit (B := B) (m := m) hj e1 g r b a
    by_cases hr : (1 ≤ g ∧ g ≤ 999) ∧ (1 ≤ r ∧ r ≤ 99) ∧ r ≤ g ∧ (0 ≤ b ∧ b ≤ 1500)
    · have hr' := eq_true hr
      by_cases ht : 0 ≤ t ∧ t ≤ 97
      · by_cases hh : 1 ≤ hand ∧ hand ≤ 9999
        · by_cases hw : 0 ≤ which ∧ which ≤ 1
          · have a0 : (a = 0) = False := eq_false (ha.mpr ⟨ht, hh, hw⟩)
            by_cases hf : 40 < σ (19 + 6 * j) 7
            · have f1 := em_fallen hj hpc σ rfl
              refine pair_same h (sg_l (-9223372036854775808)) σ σ ?_ (same_rfl σ) ?_ (same_rfl σ)
              · rw [A0]
                simp (decide := true) only [mq_69_40, mq_69_41, mq_69_42, mq_69_43, mq_69_44, mq_69_46, mq_69_48, mq_69_51, mq_69_54, mq_69_57, br, hr', a0, hf, Nat.reduceAdd, Nat.reduceMul, Nat.reduceSub, Nat.zero_add, sg_bi_i, sg_bi_n, sg_bz, sg_bb, sg_b_0, sg_b_1, if_true, if_false, not_true_eq_false, not_false_eq_true, true_and, and_true, false_and, and_false, and_self, Int32.reduceSub]
              · simp (decide := true) only [me_162, mq_162_0, mq_162_1, mq_162_2, mq_162_5, mq_162_8, mq_162_9, mq_162_10, mq_162_12, mq_162_15, mq_162_18, mq_162_20, mq_162_21, mq_162_22, mq_162_25, mq_162_28, mq_162_31, mq_162_33, mq_162_34, mq_162_35, mq_162_38, mq_162_41, mq_162_44, mq_162_46, mq_162_47, mq_162_48, mq_162_49, mq_162_52, mq_162_55, mq_162_56, mq_162_57, mq_162_60, mq_162_63, mq_162_66, e2, em_isRing, hr', em_in, t64, h64, w64, ht, hh, hw, f1, hf, em_lost, Nat.reduceAdd, Nat.reduceMul, Nat.reduceSub, Nat.zero_add, sg_bi_i, sg_bi_n, sg_bz, sg_bb, sg_b_0, sg_b_1, if_true, if_false, not_true_eq_false, not_false_eq_true, true_and, and_true, false_and, and_false, and_self, Int32.reduceSub]
            · obtain ⟨N, hN, rfl⟩ := nI_of2 (x := t) (M := 97) (n := 97) (by decide) (by rw [Int32.not_lt]; exact ht.1) ht.2
              have hnn : ¬ hand < 0 := fun z => by
                have h1 := Int32.le_iff_toInt_le.mp hh.1
                rw [Int32.lt_iff_toInt_lt, sg_t0] at z
                rw [sg_t1] at h1
                omega
              obtain ⟨H, hH, rfl⟩ := nI_of2 (x := hand) (M := 9999) (n := 9999) (by decide) hnn hh.2
              have hH1 : 1 ≤ H := by
                have h1 := Int32.le_iff_toInt_le.mp hh.1
                rw [sg_t1, nI_toInt (by omega)] at h1
                omega
              obtain ⟨M, P0, w0, R0, v0, M1, l1, l2, ⟨m1, m2, m3, m4, m5⟩, l3, l4, l5, l6, l7, l8, l9⟩ := bit_start h hj hpc (show iv_ring g r b from hr)
              obtain ⟨w1, v1, R1, g1, g2, g3, g4⟩ := ev_turnBoth M 67 m N g r P0 R0 w0 v0 (by omega) n1 n8 m1 m2 m3 m4 m5 (by omega) l3 l4 l5
              simp only [Nat.reduceAdd] at g1
              rw [l6] at g4
              have i0 : sg_in (0 : Int32) 4 = true := by decide
              obtain ⟨ω, z14, s1, k1⟩ := ev_od_l (σ := σ) (p := j) (b := b) (N := N) which (sg_i (nI j)) (sg_i g) (sg_i r) (sg_i b) (sg_i (nI N)) (sg_i (nI H)) (sg_i a) n1 n8 m1 m2 m3 m4 m5 l3 l7 l8 l9 4 0 (0, 0, H) R1 w1 v1 (sg_r 0 0) (Or.inl rfl) (by omega) (by show H ≤ 9999; omega) g2 g3 g4
              obtain ⟨ω2, s2, k2⟩ := em_od_l (N := N) which (nI H) (by omega) hj hpc (show iv_ring g r b from hr) 4 0 (0, 0, H) ω (by omega) ⟨Nat.le_refl 0, Nat.le_refl 0, by show H ≤ 9999; omega⟩ s1
              obtain ⟨d1, d2, d3⟩ := od_spec (fn_hb σ j m g r b) (N + 0) H hH1 hH
              generalize fn_od (fn_hb σ j m g r b) 4 (N + 0) (0, 0, H) = q at k1 k2 d1 d2 d3
              obtain ⟨gd1, gd2, gd3⟩ := gd_eu q.2.1 d2 d1 q.1 d3
              have gd := ev_gd ω q.1 q.2.1 (by omega) (by omega)
              have gn0 : ¬ nI (fn_gd q.1 q.2.1 q.2.1) = 0 := nI_ne0 (by omega) (by omega)
              have e2' := (hp ω).2 (s1.s120 1 (by omega))
              have f1 := em_fallen hj hpc ω (s1.sx 126 (by unfold sg_kp; omega))
              refine pair_same h (sg_l (nI ((if which = 0 then q.1 else q.2.1) / fn_gd q.1 q.2.1 q.2.1)).toInt64) ω ω2 ?_ s1 ?_ (same_tr (same_sym s1) s2)
              · have st : sg_ev 69 σ [sg_r 1 0, sg_i (nI j), sg_i g, sg_i r, sg_i b, sg_i (nI N), sg_i (nI H), sg_i which] = sg_rv 69 109 (sg_2 M 67 (fn_it (fn_step 1 m (M 68) 1) N P0) w1 R1 v1) [sg_r 1 0, sg_i (nI j), sg_i g, sg_i r, sg_i b, sg_i (nI N), sg_i (nI H), sg_i which, sg_i a, sg_r 2 67, sg_i 0, sg_i 0, sg_i (nI H), sg_i 0, sg_r 0 0] [] := by
                  rw [A0]
                  simp (decide := true) only [mq_69_40, mq_69_41, mq_69_42, mq_69_43, mq_69_44, mq_69_46, mq_69_48, mq_69_51, mq_69_54, mq_69_57, mq_69_58, mq_69_59, mq_69_62, mq_69_63, mq_69_64, mq_69_66, mq_69_68, mq_69_69, mq_69_72, mq_69_73, mq_69_74, mq_69_77, mq_69_78, mq_69_81, mq_69_82, mq_69_83, mq_69_85, mq_69_88, mq_69_89, mq_69_91, mq_69_93, mq_69_96, mq_69_97, mq_69_99, mq_69_100, mq_69_102, mq_69_104, mq_69_106, mq_69_107, br, hr', a0, hf, i0, i1, cj, show (0 : Int32).toNatClampNeg = 0 from rfl, l1, l2, g1, Nat.reduceAdd, Nat.reduceMul, Nat.reduceSub, Nat.zero_add, sg_bi_i, sg_bi_n, sg_bz, sg_bb, sg_b_0, sg_b_1, if_true, if_false, not_true_eq_false, not_false_eq_true, true_and, and_true, false_and, and_false, and_self, Int32.reduceSub]
                rw [st]
                refine Eq.trans k1 ?_
                by_cases w0 : which = 0
                · simp (decide := true) only [mq_69_172, mq_69_174, mq_69_176, mq_69_179, mq_69_181, mq_69_183, mq_69_186, mq_69_188, mq_69_191, mq_69_193, mq_69_195, mq_69_196, mq_69_197, gd, w0, gn0, pk_div (show q.1 < 2 ^ 31 by omega) gd2 (show fn_gd q.1 q.2.1 q.2.1 < 2 ^ 31 by omega), Nat.reduceAdd, Nat.reduceMul, Nat.reduceSub, Nat.zero_add, sg_bi_i, sg_bi_n, sg_bz, sg_bb, sg_b_0, sg_b_1, if_true, if_false, not_true_eq_false, not_false_eq_true, true_and, and_true, false_and, and_false, and_self, Int32.reduceSub]
                · simp (decide := true) only [mq_69_172, mq_69_174, mq_69_176, mq_69_179, mq_69_181, mq_69_183, mq_69_186, mq_69_188, mq_69_191, mq_69_193, mq_69_195, mq_69_196, mq_69_197, gd, w0, gn0, pk_div (show q.2.1 < 2 ^ 31 by omega) gd2 (show fn_gd q.1 q.2.1 q.2.1 < 2 ^ 31 by omega), Nat.reduceAdd, Nat.reduceMul, Nat.reduceSub, Nat.zero_add, sg_bi_i, sg_bi_n, sg_bz, sg_bb, sg_b_0, sg_b_1, if_true, if_false, not_true_eq_false, not_false_eq_true, true_and, and_true, false_and, and_false, and_self, Int32.reduceSub]
              · have st : sg_ev 162 ω [sg_r 7 120, sg_i (nI j), sg_i g, sg_i r, sg_i b, sg_i (nI N), sg_i (nI H), sg_i which] = sg_rv 162 80 ω [sg_r 7 120, sg_i (nI j), sg_i g, sg_i r, sg_i b, sg_i (nI N), sg_i (nI H), sg_i which, sg_l 0, sg_r 0 0, sg_l 0, sg_r 0 0, sg_i (nI H), sg_i 0] [] := by
                  simp (decide := true) only [me_162, mq_162_0, mq_162_1, mq_162_2, mq_162_5, mq_162_8, mq_162_9, mq_162_10, mq_162_12, mq_162_15, mq_162_18, mq_162_20, mq_162_21, mq_162_22, mq_162_25, mq_162_28, mq_162_31, mq_162_33, mq_162_34, mq_162_35, mq_162_38, mq_162_41, mq_162_44, mq_162_46, mq_162_47, mq_162_48, mq_162_49, mq_162_52, mq_162_55, mq_162_56, mq_162_57, mq_162_60, mq_162_63, mq_162_66, mq_162_67, mq_162_68, mq_162_70, mq_162_71, mq_162_71_i, mq_162_73, mq_162_75, mq_162_75_i, mq_162_77, mq_162_78, e2', em_isRing, hr', em_in, t64, h64, w64, ht, hh, hw, f1, hf, Nat.reduceAdd, Nat.reduceMul, Nat.reduceSub, Nat.zero_add, sg_bi_i, sg_bi_n, sg_bz, sg_bb, sg_b_0, sg_b_1, if_true, if_false, not_true_eq_false, not_false_eq_true, true_and, and_true, false_and, and_false, and_self, Int32.reduceSub]
                rw [st]
                refine Eq.trans k2 ?_
                simp (decide := true) only [mq_162_142, mq_162_144, mq_162_146, mq_162_148, mq_162_151, em_share ω2 q.1 q.2.1 which d3 d2 d1, Nat.reduceAdd, Nat.reduceMul, Nat.reduceSub, Nat.zero_add, sg_bi_i, sg_bi_n, sg_bz, sg_bb, sg_b_0, sg_b_1, if_true, if_false, not_true_eq_false, not_false_eq_true, true_and, and_true, false_and, and_false, and_self, Int32.reduceSub]
          · have a0 : (a = 0) = True := eq_true (Classical.byContradiction fun z => hw (ha.mp z).2.2)
            refine pair_same h (sg_l (-9223372036854775808)) σ σ ?_ (same_rfl σ) ?_ (same_rfl σ)
            · rw [A0]
              simp (decide := true) only [mq_69_40, mq_69_41, mq_69_42, mq_69_43, mq_69_44, mq_69_46, mq_69_48, mq_69_51, mq_69_54, mq_69_57, br, hr', a0, Nat.reduceAdd, Nat.reduceMul, Nat.reduceSub, Nat.zero_add, sg_bi_i, sg_bi_n, sg_bz, sg_bb, sg_b_0, sg_b_1, if_true, if_false, not_true_eq_false, not_false_eq_true, true_and, and_true, false_and, and_false, and_self, Int32.reduceSub]
            · simp (decide := true) only [me_162, mq_162_0, mq_162_1, mq_162_2, mq_162_5, mq_162_8, mq_162_9, mq_162_10, mq_162_12, mq_162_15, mq_162_18, mq_162_20, mq_162_21, mq_162_22, mq_162_25, mq_162_28, mq_162_31, mq_162_33, mq_162_34, mq_162_35, mq_162_38, mq_162_41, mq_162_44, mq_162_46, mq_162_47, mq_162_48, mq_162_49, mq_162_52, mq_162_55, mq_162_56, mq_162_57, mq_162_60, mq_162_63, mq_162_66, e2, em_isRing, hr', em_in, t64, h64, w64, ht, hh, hw, em_lost, Nat.reduceAdd, Nat.reduceMul, Nat.reduceSub, Nat.zero_add, sg_bi_i, sg_bi_n, sg_bz, sg_bb, sg_b_0, sg_b_1, if_true, if_false, not_true_eq_false, not_false_eq_true, true_and, and_true, false_and, and_false, and_self, Int32.reduceSub]
        · have a0 : (a = 0) = True := eq_true (Classical.byContradiction fun z => hh (ha.mp z).2.1)
          refine pair_same h (sg_l (-9223372036854775808)) σ σ ?_ (same_rfl σ) ?_ (same_rfl σ)
          · rw [A0]
            simp (decide := true) only [mq_69_40, mq_69_41, mq_69_42, mq_69_43, mq_69_44, mq_69_46, mq_69_48, mq_69_51, mq_69_54, mq_69_57, br, hr', a0, Nat.reduceAdd, Nat.reduceMul, Nat.reduceSub, Nat.zero_add, sg_bi_i, sg_bi_n, sg_bz, sg_bb, sg_b_0, sg_b_1, if_true, if_false, not_true_eq_false, not_false_eq_true, true_and, and_true, false_and, and_false, and_self, Int32.reduceSub]
          · simp (decide := true) only [me_162, mq_162_0, mq_162_1, mq_162_2, mq_162_5, mq_162_8, mq_162_9, mq_162_10, mq_162_12, mq_162_15, mq_162_18, mq_162_20, mq_162_21, mq_162_22, mq_162_25, mq_162_28, mq_162_31, mq_162_33, mq_162_34, mq_162_35, mq_162_38, mq_162_41, mq_162_44, mq_162_46, mq_162_47, mq_162_48, mq_162_49, mq_162_52, mq_162_55, mq_162_56, mq_162_57, mq_162_60, mq_162_63, mq_162_66, e2, em_isRing, hr', em_in, t64, h64, w64, ht, hh, em_lost, Nat.reduceAdd, Nat.reduceMul, Nat.reduceSub, Nat.zero_add, sg_bi_i, sg_bi_n, sg_bz, sg_bb, sg_b_0, sg_b_1, if_true, if_false, not_true_eq_false, not_false_eq_true, true_and, and_true, false_and, and_false, and_self, Int32.reduceSub]
      · have a0 : (a = 0) = True := eq_true (Classical.byContradiction fun z => ht (ha.mp z).1)
        refine pair_same h (sg_l (-9223372036854775808)) σ σ ?_ (same_rfl σ) ?_ (same_rfl σ)
        · rw [A0]
          simp (decide := true) only [mq_69_40, mq_69_41, mq_69_42, mq_69_43, mq_69_44, mq_69_46, mq_69_48, mq_69_51, mq_69_54, mq_69_57, br, hr', a0, Nat.reduceAdd, Nat.reduceMul, Nat.reduceSub, Nat.zero_add, sg_bi_i, sg_bi_n, sg_bz, sg_bb, sg_b_0, sg_b_1, if_true, if_false, not_true_eq_false, not_false_eq_true, true_and, and_true, false_and, and_false, and_self, Int32.reduceSub]
        · simp (decide := true) only [me_162, mq_162_0, mq_162_1, mq_162_2, mq_162_5, mq_162_8, mq_162_9, mq_162_10, mq_162_12, mq_162_15, mq_162_18, mq_162_20, mq_162_21, mq_162_22, mq_162_25, mq_162_28, mq_162_31, mq_162_33, mq_162_34, mq_162_35, mq_162_38, mq_162_41, mq_162_44, mq_162_46, mq_162_47, mq_162_48, mq_162_49, mq_162_52, mq_162_55, mq_162_56, mq_162_57, mq_162_60, mq_162_63, mq_162_66, e2, em_isRing, hr', em_in, t64, h64, w64, ht, em_lost, Nat.reduceAdd, Nat.reduceMul, Nat.reduceSub, Nat.zero_add, sg_bi_i, sg_bi_n, sg_bz, sg_bb, sg_b_0, sg_b_1, if_true, if_false, not_true_eq_false, not_false_eq_true, true_and, and_true, false_and, and_false, and_self, Int32.reduceSub]
    · have hr' := eq_false hr
      refine pair_same h (sg_l (-9223372036854775808)) σ σ ?_ (same_rfl σ) ?_ (same_rfl σ)
      · rw [A0]
        simp (decide := true) only [mq_69_40, mq_69_41, mq_69_42, mq_69_43, mq_69_44, mq_69_46, mq_69_48, mq_69_51, mq_69_54, mq_69_57, br, hr', Nat.reduceAdd, Nat.reduceMul, Nat.reduceSub, Nat.zero_add, sg_bi_i, sg_bi_n, sg_bz, sg_bb, sg_b_0, sg_b_1, if_true, if_false, not_true_eq_false, not_false_eq_true, true_and, and_true, false_and, and_false, and_self, Int32.reduceSub]
      · simp (decide := true) only [me_162, mq_162_0, mq_162_1, mq_162_2, mq_162_5, mq_162_8, mq_162_9, mq_162_10, mq_162_12, mq_162_15, mq_162_18, mq_162_20, mq_162_21, mq_162_22, mq_162_25, mq_162_28, mq_162_31, mq_162_33, mq_162_34, mq_162_35, mq_162_38, mq_162_41, mq_162_44, mq_162_46, mq_162_47, mq_162_48, mq_162_49, mq_162_52, mq_162_55, mq_162_56, mq_162_57, mq_162_60, mq_162_63, mq_162_66, e2, em_isRing, hr', em_lost, Nat.reduceAdd, Nat.reduceMul, Nat.reduceSub, Nat.zero_add, sg_bi_i, sg_bi_n, sg_bz, sg_bb, sg_b_0, sg_b_1, if_true, if_false, not_true_eq_false, not_false_eq_true, true_and, and_true, false_and, and_false, and_self, Int32.reduceSub]
