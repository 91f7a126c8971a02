/-! MORNING -/
theorem L8 {J : Nat} (h : J ≤ 7) : J = 0 ∨ J = 1 ∨ J = 2 ∨ J = 3 ∨ J = 4 ∨ J = 5 ∨ J = 6 ∨ J = 7 := by omega
theorem shl1 {J : Nat} (h : J ≤ 7) : (1 : Int32) <<< (nI J &&& 31) = nI (2 ^ J) := by
  rcases L8 h with rfl | rfl | rfl | rfl | rfl | rfl | rfl | rfl <;> decide
theorem p2J {J : Nat} (h : J ≤ 7) : 1 ≤ 2 ^ J ∧ 2 ^ J ≤ 128 := ⟨Nat.one_le_two_pow, Nat.pow_le_pow_right (n := 2) (by omega) h⟩
theorem ev_sets {σ : sg_M} {J : Nat} (h : J ≤ 7) (hc : σ 12 4 = nI J) : sg_ev 85 σ [sg_r 5 12] = some (some (sg_i (nI (2 ^ J))), σ) := by
  simp (decide := true) only [me_85, mq_85_0, mq_85_1, mq_85_2, mq_85_5, mq_85_6, hc, shl1 h, Nat.reduceAdd, Nat.reduceMul, Nat.reduceSub, Nat.zero_add, sg_bi_i, sg_bi_n, sg_bz, sg_bb, sg_b_0, sg_b_1, if_true, if_false, not_true_eq_false, not_false_eq_true, true_and, and_true, false_and, and_false, and_self, Int32.reduceSub]
def jb_W (w : Nat → Int32) (S x : Nat) : Int32 := fn_sum (fun j => if jb_has S j = true then w j else 0) x
theorem W_s (w : Nat → Int32) (S x : Nat) : jb_W w S (x + 1) = jb_W w S x + (if jb_has S x = true then w x else 0) := rfl
theorem W_0 (w : Nat → Int32) (x : Nat) : jb_W w 0 x = 0 := by
  induction x with
  | zero => rfl
  | succ x ih =>
    rw [W_s, ih]
    have : jb_has 0 x = false := by unfold jb_has; rw [Nat.zero_div]; rfl
    rw [this]
    rfl
theorem ev_worth_l {σ : sg_M} {J S : Nat} (hJ : J ≤ 7) (hS : S < 128) (hc : σ 12 4 = nI J) : ∀ n x, x + n = J → sg_rv 92 4 σ [sg_r 5 12, sg_i (nI S), sg_i (jb_W (σ 15) S x), sg_i (nI x)] [] = some (some (sg_i (jb_W (σ 15) S J)), σ) := by
  intro n
  induction n with
  | zero =>
    intro x hx
    obtain rfl : x = J := by omega
    simp (decide := true) only [mq_92_4, mq_92_5, mq_92_6, mq_92_9, mq_92_39, mq_92_40, hc, nI_ltI (show x < 2 ^ 31 by omega) (show x < 2 ^ 31 by omega), show ¬ x < x by omega, Nat.reduceAdd, Nat.reduceMul, Nat.reduceSub, Nat.zero_add, sg_bi_i, sg_bi_n, sg_bz, sg_bb, sg_b_0, sg_b_1, if_true, if_false, not_true_eq_false, not_false_eq_true, true_and, and_true, false_and, and_false, and_self, Int32.reduceSub]
  | succ n ih =>
    intro x hx
    have i1 : sg_in (nI x) 7 = true := sg_in_nI (by omega) (by omega)
    have c1 : (nI x).toNatClampNeg = x := sg_nIc (by omega)
    have hh := ev_hasS σ (S := S) (x := x) hS (by omega)
    simp (decide := true) only [mq_92_4, mq_92_5, mq_92_6, mq_92_9, hc, nI_ltI (show x < 2 ^ 31 by omega) (show J < 2 ^ 31 by omega), show x < J by omega, Nat.reduceAdd, Nat.reduceMul, Nat.reduceSub, Nat.zero_add, sg_bi_i, sg_bi_n, sg_bz, sg_bb, sg_b_0, sg_b_1, if_true, if_false, not_true_eq_false, not_false_eq_true, true_and, and_true, false_and, and_false, and_self, Int32.reduceSub]
    rw [← ih (x + 1) (by omega), W_s]
    by_cases hb : jb_has S x = true <;> simp (decide := true) only [mq_92_12, mq_92_13, mq_92_14, mq_92_15, mq_92_18, mq_92_21, mq_92_22, mq_92_25, mq_92_26, mq_92_27, mq_92_30, mq_92_31, mq_92_32, mq_92_33, mq_92_36, i1, c1, hh, hb, nI_1, Nat.reduceAdd, Nat.reduceMul, Nat.reduceSub, Nat.zero_add, sg_bi_i, sg_bi_n, sg_bz, sg_bb, sg_b_0, sg_b_1, if_true, if_false, not_true_eq_false, not_false_eq_true, true_and, and_true, false_and, and_false, and_self, Int32.reduceSub]
theorem ev_worth {σ : sg_M} {J S : Nat} (hJ : J ≤ 7) (hS : S < 128) (hc : σ 12 4 = nI J) : sg_ev 92 σ [sg_r 5 12, sg_i (nI S)] = some (some (sg_i (jb_W (σ 15) S J)), σ) := by
  have := ev_worth_l (σ := σ) hJ hS hc J 0 (by omega)
  rw [← this]
  simp (decide := true) only [me_92, mq_92_0, mq_92_1, mq_92_2, mq_92_3, nI_0, Nat.reduceAdd, Nat.reduceMul, Nat.reduceSub, Nat.zero_add, sg_bi_i, sg_bi_n, sg_bz, sg_bb, sg_b_0, sg_b_1, if_true, if_false, not_true_eq_false, not_false_eq_true, true_and, and_true, false_and, and_false, and_self, Int32.reduceSub]
  rfl
def jb_wo (W : Nat → Int32) (D : Nat → Nat) (t : Int32) : Nat → Nat → Nat → Nat
  | 0, _, a => a
  | n + 1, S, a => jb_wo W D t n (S + 1) (if W a < W S ∧ ¬ t < nI (D S) then S else a)
theorem wo_lt (W : Nat → Int32) (D : Nat → Nat) (t : Int32) : ∀ n S a X, S + n ≤ X → a < X → jb_wo W D t n S a < X := by
  intro n
  induction n with
  | zero => intro S a X _ h; exact h
  | succ n ih =>
    intro S a X h1 h2
    simp only [jb_wo]
    refine ih _ _ _ (by omega) ?_
    split <;> omega
section MORN
variable {J : Nat} {mN bN : Nat → Nat}
theorem ev_wo_l {σ : sg_M} (hj : iv_jb σ J mN bN) (t : Int32) : ∀ n S a, S + n = 2 ^ J → a < 2 ^ J → sg_rv 91 4 σ [sg_r 5 12, sg_i t, sg_i (nI a), sg_i (nI S)] [] = some (some (sg_i (nI (jb_wo (fun S => jb_W (σ 15) S J) (fun S => jb_best (σ 13) (σ 14) mN bN J S (0, 0)) t n S a))), σ) := by
  obtain ⟨J7, hc, -⟩ := id hj
  obtain ⟨p1, p2⟩ := p2J J7
  have hsets := ev_sets (σ := σ) J7 hc
  generalize 2 ^ J = T at p1 p2 hsets
  intro n
  induction n with
  | zero =>
    intro S a hS ha
    obtain rfl : S = T := by omega
    simp (decide := true) only [mq_91_4, mq_91_5, mq_91_6, mq_91_9, mq_91_44, mq_91_45, hsets, nI_ltI (show S < 2 ^ 31 by omega) (show S < 2 ^ 31 by omega), show ¬ S < S by omega, jb_wo, Nat.reduceAdd, Nat.reduceMul, Nat.reduceSub, Nat.zero_add, sg_bi_i, sg_bi_n, sg_bz, sg_bb, sg_b_0, sg_b_1, if_true, if_false, not_true_eq_false, not_false_eq_true, true_and, and_true, false_and, and_false, and_self, Int32.reduceSub]
  | succ n ih =>
    intro S a hS ha
    have w1 := ev_worth (σ := σ) (S := S) J7 (by omega) hc
    have w2 := ev_worth (σ := σ) (S := a) J7 (by omega) hc
    have hd := ev_done hj S (by omega) (0, 0) (by omega) (by omega)
    change sg_ev 86 σ [sg_r 5 12, sg_i (nI S), sg_i 0, sg_i 0] = _ at hd
    simp (decide := true) only [mq_91_4, mq_91_5, mq_91_6, mq_91_9, hsets, nI_ltI (show S < 2 ^ 31 by omega) (show T < 2 ^ 31 by omega), show S < T by omega, jb_wo, Nat.reduceAdd, Nat.reduceMul, Nat.reduceSub, Nat.zero_add, sg_bi_i, sg_bi_n, sg_bz, sg_bb, sg_b_0, sg_b_1, if_true, if_false, not_true_eq_false, not_false_eq_true, true_and, and_true, false_and, and_false, and_self, Int32.reduceSub]
    by_cases h1 : jb_W (σ 15) a J < jb_W (σ 15) S J
    · by_cases h2 : t < nI (jb_best (σ 13) (σ 14) mN bN J S (0, 0))
      · rw [if_neg (fun z => z.2 h2), ← ih (S + 1) a (by omega) ha]
        simp (decide := true) only [mq_91_12, mq_91_13, mq_91_14, mq_91_17, mq_91_18, mq_91_19, mq_91_22, mq_91_25, mq_91_26, mq_91_27, mq_91_28, mq_91_29, mq_91_32, mq_91_33, mq_91_36, mq_91_37, mq_91_38, mq_91_41, w1, w2, hd, h1, h2, nI_1, Nat.reduceAdd, Nat.reduceMul, Nat.reduceSub, Nat.zero_add, sg_bi_i, sg_bi_n, sg_bz, sg_bb, sg_b_0, sg_b_1, if_true, if_false, not_true_eq_false, not_false_eq_true, true_and, and_true, false_and, and_false, and_self, Int32.reduceSub]
      · rw [if_pos ⟨h1, h2⟩, ← ih (S + 1) S (by omega) (by omega)]
        simp (decide := true) only [mq_91_12, mq_91_13, mq_91_14, mq_91_17, mq_91_18, mq_91_19, mq_91_22, mq_91_25, mq_91_26, mq_91_27, mq_91_28, mq_91_29, mq_91_32, mq_91_33, mq_91_36, mq_91_37, mq_91_38, mq_91_41, w1, w2, hd, h1, h2, nI_1, Nat.reduceAdd, Nat.reduceMul, Nat.reduceSub, Nat.zero_add, sg_bi_i, sg_bi_n, sg_bz, sg_bb, sg_b_0, sg_b_1, if_true, if_false, not_true_eq_false, not_false_eq_true, true_and, and_true, false_and, and_false, and_self, Int32.reduceSub]
    · rw [if_neg (fun z => h1 z.1), ← ih (S + 1) a (by omega) ha]
      simp (decide := true) only [mq_91_12, mq_91_13, mq_91_14, mq_91_17, mq_91_18, mq_91_19, mq_91_22, mq_91_25, mq_91_26, mq_91_27, mq_91_28, mq_91_29, mq_91_32, mq_91_33, mq_91_36, mq_91_37, mq_91_38, mq_91_41, w1, w2, h1, nI_1, Nat.reduceAdd, Nat.reduceMul, Nat.reduceSub, Nat.zero_add, sg_bi_i, sg_bi_n, sg_bz, sg_bb, sg_b_0, sg_b_1, if_true, if_false, not_true_eq_false, not_false_eq_true, true_and, and_true, false_and, and_false, and_self, Int32.reduceSub]
theorem em_worth_l {M : sg_M} {S : Nat} (w : Nat → Int32) (t what x3 x4 : Int32) (hJ : J ≤ 7) (hS : S < 128) (hc : M 120 26 = nI J) (hw : ∀ x, x < J → M 140 x = w x) : ∀ n x, x + n = J → sg_rv 181 50 M [sg_r 7 120, sg_i t, sg_i what, sg_i x3, sg_i x4, sg_i (nI S), sg_i (jb_W w S x), sg_i (nI x)] [] = sg_rv 181 91 M [sg_r 7 120, sg_i t, sg_i what, sg_i x3, sg_i x4, sg_i (nI S), sg_i (jb_W w S J), sg_i (nI J)] [] := by
  intro n
  induction n with
  | zero =>
    intro x hx
    obtain rfl : x = J := by omega
    simp (decide := true) only [mq_181_50, mq_181_52, mq_181_53, mq_181_56, hc, nI_ltI (show x < 2 ^ 31 by omega) (show x < 2 ^ 31 by omega), show ¬ x < x by omega, Nat.reduceAdd, Nat.reduceMul, Nat.reduceSub, Nat.zero_add, sg_bi_i, sg_bi_n, sg_bz, sg_bb, sg_b_0, sg_b_1, if_true, if_false, not_true_eq_false, not_false_eq_true, true_and, and_true, false_and, and_false, and_self, Int32.reduceSub]
  | succ n ih =>
    intro x hx
    have i1 : sg_in (nI x) 7 = true := sg_in_nI (by omega) (by omega)
    have c1 : (nI x).toNatClampNeg = x := sg_nIc (by omega)
    have hh := em_hasS M (S := S) (x := x) hS (by omega)
    have e := hw x (by omega)
    simp (decide := true) only [mq_181_50, mq_181_52, mq_181_53, mq_181_56, hc, nI_ltI (show x < 2 ^ 31 by omega) (show J < 2 ^ 31 by omega), show x < J by omega, Nat.reduceAdd, Nat.reduceMul, Nat.reduceSub, Nat.zero_add, sg_bi_i, sg_bi_n, sg_bz, sg_bb, sg_b_0, sg_b_1, if_true, if_false, not_true_eq_false, not_false_eq_true, true_and, and_true, false_and, and_false, and_self, Int32.reduceSub]
    rw [← ih (x + 1) (by omega), W_s]
    by_cases hb : jb_has S x = true <;> simp (decide := true) only [mq_181_59, mq_181_61, mq_181_63, mq_181_65, mq_181_68, mq_181_71, mq_181_72, mq_181_75, mq_181_77, mq_181_78, mq_181_81, mq_181_82, mq_181_83, mq_181_85, mq_181_88, i1, c1, hh, hb, e, nI_1, Nat.reduceAdd, Nat.reduceMul, Nat.reduceSub, Nat.zero_add, sg_bi_i, sg_bi_n, sg_bz, sg_bb, sg_b_0, sg_b_1, if_true, if_false, not_true_eq_false, not_false_eq_true, true_and, and_true, false_and, and_false, and_self, Int32.reduceSub]
theorem em_wo_l {m b : Nat → Int32} (w : Nat → Int32) (t what : Int32) : ∀ n S a (M : sg_M) (y6 y7 : sg_V), S + n = 2 ^ J → a < 2 ^ J → iv_jm M J m b mN bN → (∀ x, x < J → M 140 x = w x) → ∃ M' : sg_M, sg_rv 181 33 M [sg_r 7 120, sg_i t, sg_i what, sg_i (nI a), sg_i (jb_W w a J), sg_i (nI S), y6, y7] [] = some (some (sg_i (if what = 0 then nI (jb_wo (fun S => jb_W w S J) (fun S => jb_best m b mN bN J S (0, 0)) t n S a) else jb_W w (jb_wo (fun S => jb_W w S J) (fun S => jb_best m b mN bN J S (0, 0)) t n S a) J)), M') ∧ sg_rw M M' := by
  intro n
  induction n with
  | zero =>
    intro S a M y6 y7 hS ha hj hw
    obtain ⟨J7, hc, -⟩ := id hj
    obtain ⟨p1, p2⟩ := p2J J7
    refine ⟨M, ?_, rw_rfl M⟩
    have e := shl1 J7
    have hS' : S = 2 ^ J := by omega
    simp only [jb_wo]
    by_cases hq : what = 0 <;> simp (decide := true) only [mq_181_33, mq_181_35, mq_181_36, mq_181_37, mq_181_40, mq_181_41, mq_181_121, mq_181_122, mq_181_125, mq_181_126, mq_181_129, mq_181_131, hc, e, hS', nI_ltI (show 2 ^ J < 2 ^ 31 by omega) (show 2 ^ J < 2 ^ 31 by omega), show ¬ 2 ^ J < 2 ^ J by omega, hq, Nat.reduceAdd, Nat.reduceMul, Nat.reduceSub, Nat.zero_add, sg_bi_i, sg_bi_n, sg_bz, sg_bb, sg_b_0, sg_b_1, if_true, if_false, not_true_eq_false, not_false_eq_true, true_and, and_true, false_and, and_false, and_self, Int32.reduceSub]
  | succ n ih =>
    intro S a M y6 y7 hS ha hj hw
    obtain ⟨J7, hc, -⟩ := id hj
    obtain ⟨p1, p2⟩ := p2J J7
    have e := shl1 J7
    have hlt : S < 2 ^ J := by omega
    have wl := em_worth_l (M := M) (S := S) w t what (nI a) (jb_W w a J) J7 (by omega) hc hw J 0 (by omega)
    rw [nI_0, show jb_W w S 0 = 0 from rfl] at wl
    have st : sg_rv 181 33 M [sg_r 7 120, sg_i t, sg_i what, sg_i (nI a), sg_i (jb_W w a J), sg_i (nI S), y6, y7] [] = sg_rv 181 91 M [sg_r 7 120, sg_i t, sg_i what, sg_i (nI a), sg_i (jb_W w a J), sg_i (nI S), sg_i (jb_W w S J), sg_i (nI J)] [] := by
      rw [← wl]
      simp (decide := true) only [mq_181_33, mq_181_35, mq_181_36, mq_181_37, mq_181_40, mq_181_41, mq_181_44, mq_181_45, mq_181_47, mq_181_48, hc, e, nI_ltI (show S < 2 ^ 31 by omega) (show 2 ^ J < 2 ^ 31 by omega), hlt, Nat.reduceAdd, Nat.reduceMul, Nat.reduceSub, Nat.zero_add, sg_bi_i, sg_bi_n, sg_bz, sg_bb, sg_b_0, sg_b_1, if_true, if_false, not_true_eq_false, not_false_eq_true, true_and, and_true, false_and, and_false, and_self, Int32.reduceSub]
    rw [st]
    simp only [jb_wo]
    by_cases h1 : jb_W w a J < jb_W w S J
    · obtain ⟨M1, d1, d2⟩ := em_early hj S hlt
      have hw1 : ∀ x, x < J → M1 140 x = w x := fun x hx => by rw [d2.2 140 (by omega) (by omega)]; exact hw x hx
      by_cases h2 : t < nI (jb_best m b mN bN J S (0, 0))
      · obtain ⟨M', g1, g2⟩ := ih (S + 1) a M1 (sg_i (jb_W w S J)) (sg_i (nI J)) (by omega) ha (jm_rw hj d2) hw1
        refine ⟨M', ?_, rw_tr d2 g2⟩
        rw [show (if jb_W w a J < jb_W w S J ∧ ¬ t < nI (jb_best m b mN bN J S (0, 0)) then S else a) = a from if_neg (fun z => z.2 h2), ← g1]
        simp (decide := true) only [mq_181_91, mq_181_93, mq_181_95, mq_181_98, mq_181_99, mq_181_101, mq_181_104, mq_181_105, mq_181_108, mq_181_110, mq_181_111, mq_181_113, mq_181_115, mq_181_118, d1, h1, h2, nI_1, Nat.reduceAdd, Nat.reduceMul, Nat.reduceSub, Nat.zero_add, sg_bi_i, sg_bi_n, sg_bz, sg_bb, sg_b_0, sg_b_1, if_true, if_false, not_true_eq_false, not_false_eq_true, true_and, and_true, false_and, and_false, and_self, Int32.reduceSub]
      · obtain ⟨M', g1, g2⟩ := ih (S + 1) S M1 (sg_i (jb_W w S J)) (sg_i (nI J)) (by omega) hlt (jm_rw hj d2) hw1
        refine ⟨M', ?_, rw_tr d2 g2⟩
        rw [show (if jb_W w a J < jb_W w S J ∧ ¬ t < nI (jb_best m b mN bN J S (0, 0)) then S else a) = S from if_pos ⟨h1, h2⟩, ← g1]
        simp (decide := true) only [mq_181_91, mq_181_93, mq_181_95, mq_181_98, mq_181_99, mq_181_101, mq_181_104, mq_181_105, mq_181_108, mq_181_110, mq_181_111, mq_181_113, mq_181_115, mq_181_118, d1, h1, h2, nI_1, Nat.reduceAdd, Nat.reduceMul, Nat.reduceSub, Nat.zero_add, sg_bi_i, sg_bi_n, sg_bz, sg_bb, sg_b_0, sg_b_1, if_true, if_false, not_true_eq_false, not_false_eq_true, true_and, and_true, false_and, and_false, and_self, Int32.reduceSub]
    · obtain ⟨M', g1, g2⟩ := ih (S + 1) a M (sg_i (jb_W w S J)) (sg_i (nI J)) (by omega) ha hj hw
      refine ⟨M', ?_, g2⟩
      rw [show (if jb_W w a J < jb_W w S J ∧ ¬ t < nI (jb_best m b mN bN J S (0, 0)) then S else a) = a from if_neg (fun z => h1 z.1), ← g1]
      simp (decide := true) only [mq_181_91, mq_181_93, mq_181_95, mq_181_98, mq_181_99, mq_181_101, mq_181_104, mq_181_105, mq_181_108, mq_181_110, mq_181_111, mq_181_113, mq_181_115, mq_181_118, h1, nI_1, Nat.reduceAdd, Nat.reduceMul, Nat.reduceSub, Nat.zero_add, sg_bi_i, sg_bi_n, sg_bz, sg_bb, sg_b_0, sg_b_1, if_true, if_false, not_true_eq_false, not_false_eq_true, true_and, and_true, false_and, and_false, and_self, Int32.reduceSub]
end MORN
/-- the jobs of both -/
theorem J_both {σ : sg_M} (h : iv_J σ) : ∃ (J : Nat) (mN bN : Nat → Nat), iv_jb σ J mN bN ∧ iv_jm σ J (σ 13) (σ 14) mN bN ∧ (∀ x, x < J → σ 140 x = σ 15 x) ∧ ∀ x, x < J → (σ 13 x).toInt = mN x ∧ (σ 14 x).toInt = bN x := by
  obtain ⟨J, J7, j1, j2, j3, j4⟩ := h
  have key : ∀ f : Nat → Int32, (∀ k, k < J → 0 ≤ (f k).toInt ∧ (f k).toInt ≤ 99) → ∃ g : Nat → Nat, (∀ x, g x ≤ 99) ∧ ∀ x, x < J → f x = nI (g x) ∧ (f x).toInt = g x := by
    intro f hf
    refine ⟨fun x => if x < J then (f x).toNatClampNeg else 0, fun x => ?_, fun x hx => ?_⟩
    · show (if x < J then (f x).toNatClampNeg else 0) ≤ 99
      by_cases hx : x < J
      · rw [if_pos hx]
        obtain ⟨j, hj, e1, e2⟩ := sg_nat (hf x hx).1
        have := hf x hx
        rw [e1, sg_nIc hj]
        omega
      · rw [if_neg hx]; omega
    · show f x = nI (if x < J then (f x).toNatClampNeg else 0) ∧ (f x).toInt = ((if x < J then (f x).toNatClampNeg else 0 : Nat) : Int)
      rw [if_pos hx]
      obtain ⟨j, hj, e1, e2⟩ := sg_nat (hf x hx).1
      have : (f x).toNatClampNeg = j := by rw [e1, sg_nIc hj]
      rw [this]
      exact ⟨e1, e2⟩
  obtain ⟨mN, m1, m2⟩ := key (σ 13) (fun k hk => (j3 k hk).2.1)
  obtain ⟨bN, b1, b2⟩ := key (σ 14) (fun k hk => (j3 k hk).2.2.1)
  refine ⟨J, mN, bN, ⟨J7, j1, fun x => ⟨m1 x, b1 x⟩, fun x hx => ⟨(m2 x hx).1, (b2 x hx).1⟩, j4⟩, ⟨J7, j2, fun x => ⟨m1 x, b1 x⟩, fun x hx => ⟨⟨(m2 x hx).1, (b2 x hx).1⟩, (j3 x hx).1.1, (j3 x hx).1.2.1⟩⟩, fun x hx => (j3 x hx).1.2.2, fun x hx => ⟨(m2 x hx).2, (b2 x hx).2⟩⟩
theorem pr_morning {B : Int} {σ : sg_M} (t what : Int32) (h : iv_all B σ) : sg_pair B σ 90 181 [sg_i t, sg_i what] := by
  have t64 := sg_i64 t 0 999 0 999 (by decide) (by decide)
  have w64 := sg_i64 what 0 1 0 1 (by decide) (by decide)
  by_cases ht : 0 ≤ t ∧ t ≤ 999
  · by_cases hw : 0 ≤ what ∧ what ≤ 1
    · obtain ⟨J, mN, bN, hj, hm, hwt, -⟩ := J_both h.2.2.2.2.1
      obtain ⟨J7, hc, -⟩ := id hj
      obtain ⟨p1, p2⟩ := p2J J7
      have e1 := ev_wo_l hj t (2 ^ J - 1) 1 0 (by omega) (by omega)
      obtain ⟨M', g1, g2⟩ := em_wo_l (σ 15) t what (2 ^ J - 1) 1 0 σ (sg_r 0 0) (sg_r 0 0) (by omega) (by omega) hm hwt
      rw [W_0] at g1
      have lt := wo_lt (fun S => jb_W (σ 15) S J) (fun S => jb_best (σ 13) (σ 14) mN bN J S (0, 0)) t (2 ^ J - 1) 1 0 (2 ^ J) (by omega) (by omega)
      generalize hX : jb_wo (fun S => jb_W (σ 15) S J) (fun S => jb_best (σ 13) (σ 14) mN bN J S (0, 0)) t (2 ^ J - 1) 1 0 = X at e1 g1 lt
      rw [nI_0, show nI 1 = (1 : Int32) from rfl] at e1 g1
      have wX := ev_worth (σ := σ) (S := X) J7 (by omega) hc
      refine pair_same h (sg_i (if what = 0 then nI X else jb_W (σ 15) X J)) σ M' ?_ (same_rfl σ) ?_ (rw_same g2)
      · by_cases hq : what = 0
        · simp (decide := true) only [me_90, mq_90_0, mq_90_1, mq_90_2, mq_90_5, mq_90_8, mq_90_11, mq_90_12, mq_90_13, mq_90_14, mq_90_17, mq_90_20, mq_90_22, mq_90_23, mq_90_24, mq_90_27, mq_90_28, mq_90_31, mq_90_32, mq_90_33, mq_90_36, mq_90_37, mq_90_40, mq_90_41, mq_90_44, mq_90_45, mq_90_48, me_91, mq_91_0, mq_91_1, mq_91_2, mq_91_3, ev_within, ht, hw, e1, hq, Nat.reduceAdd, Nat.reduceMul, Nat.reduceSub, Nat.zero_add, sg_bi_i, sg_bi_n, sg_bz, sg_bb, sg_b_0, sg_b_1, if_true, if_false, not_true_eq_false, not_false_eq_true, true_and, and_true, false_and, and_false, and_self, Int32.reduceSub]
        · simp (decide := true) only [me_90, mq_90_0, mq_90_1, mq_90_2, mq_90_5, mq_90_8, mq_90_11, mq_90_12, mq_90_13, mq_90_14, mq_90_17, mq_90_20, mq_90_22, mq_90_23, mq_90_24, mq_90_27, mq_90_28, mq_90_31, mq_90_32, mq_90_33, mq_90_36, mq_90_37, mq_90_40, mq_90_41, mq_90_44, mq_90_45, mq_90_48, me_91, mq_91_0, mq_91_1, mq_91_2, mq_91_3, ev_within, ht, hw, e1, hq, wX, Nat.reduceAdd, Nat.reduceMul, Nat.reduceSub, Nat.zero_add, sg_bi_i, sg_bi_n, sg_bz, sg_bb, sg_b_0, sg_b_1, if_true, if_false, not_true_eq_false, not_false_eq_true, true_and, and_true, false_and, and_false, and_self, Int32.reduceSub]
      · simp (decide := true) only [me_181, mq_181_0, mq_181_1, mq_181_2, mq_181_3, mq_181_6, mq_181_9, mq_181_12, mq_181_13, mq_181_14, mq_181_15, mq_181_16, mq_181_19, mq_181_22, mq_181_24, mq_181_25, mq_181_26, mq_181_27, mq_181_28, mq_181_30, mq_181_31, em_in, t64, w64, ht, hw, g1, Nat.reduceAdd, Nat.reduceMul, Nat.reduceSub, Nat.zero_add, sg_bi_i, sg_bi_n, sg_bz, sg_bb, sg_b_0, sg_b_1, if_true, if_false, not_true_eq_false, not_false_eq_true, true_and, and_true, false_and, and_false, and_self, Int32.reduceSub]
    · refine pair_same h (sg_i (-2)) σ σ ?_ (same_rfl σ) ?_ (same_rfl σ)
      · simp (decide := true) only [me_90, mq_90_0, mq_90_1, mq_90_2, mq_90_5, mq_90_8, mq_90_11, mq_90_12, mq_90_13, mq_90_14, mq_90_17, mq_90_20, mq_90_22, mq_90_23, mq_90_24, mq_90_27, mq_90_28, mq_90_31, mq_90_32, mq_90_33, mq_90_36, mq_90_37, mq_90_40, mq_90_41, mq_90_44, mq_90_45, mq_90_48, ev_within, ht, hw, Nat.reduceAdd, Nat.reduceMul, Nat.reduceSub, Nat.zero_add, sg_bi_i, sg_bi_n, sg_bz, sg_bb, sg_b_0, sg_b_1, if_true, if_false, not_true_eq_false, not_false_eq_true, true_and, and_true, false_and, and_false, and_self, Int32.reduceSub]
      · simp (decide := true) only [me_181, mq_181_0, mq_181_1, mq_181_2, mq_181_3, mq_181_6, mq_181_9, mq_181_12, mq_181_13, mq_181_14, mq_181_15, mq_181_16, mq_181_19, mq_181_22, mq_181_24, mq_181_25, mq_181_26, mq_181_27, mq_181_28, mq_181_30, mq_181_31, em_in, t64, w64, ht, hw, Nat.reduceAdd, Nat.reduceMul, Nat.reduceSub, Nat.zero_add, sg_bi_i, sg_bi_n, sg_bz, sg_bb, sg_b_0, sg_b_1, if_true, if_false, not_true_eq_false, not_false_eq_true, true_and, and_true, false_and, and_false, and_self, Int32.reduceSub]
  · refine pair_same h (sg_i (-2)) σ σ ?_ (same_rfl σ) ?_ (same_rfl σ)
    · simp (decide := true) only [me_90, mq_90_0, mq_90_1, mq_90_2, mq_90_5, mq_90_8, mq_90_11, mq_90_12, mq_90_13, mq_90_14, mq_90_17, mq_90_20, mq_90_22, mq_90_23, mq_90_24, mq_90_27, mq_90_28, mq_90_31, mq_90_32, mq_90_33, mq_90_36, mq_90_37, mq_90_40, mq_90_41, mq_90_44, mq_90_45, mq_90_48, ev_within, ht, Nat.reduceAdd, Nat.reduceMul, Nat.reduceSub, Nat.zero_add, sg_bi_i, sg_bi_n, sg_bz, sg_bb, sg_b_0, sg_b_1, if_true, if_false, not_true_eq_false, not_false_eq_true, true_and, and_true, false_and, and_false, and_self, Int32.reduceSub]
    · simp (decide := true) only [me_181, mq_181_0, mq_181_1, mq_181_2, mq_181_3, mq_181_6, mq_181_9, mq_181_12, mq_181_13, mq_181_14, mq_181_15, mq_181_16, mq_181_19, mq_181_22, mq_181_24, mq_181_25, mq_181_26, mq_181_27, mq_181_28, mq_181_30, mq_181_31, em_in, t64, ht, Nat.reduceAdd, Nat.reduceMul, Nat.reduceSub, Nat.zero_add, sg_bi_i, sg_bi_n, sg_bz, sg_bb, sg_b_0, sg_b_1, if_true, if_false, not_true_eq_false, not_false_eq_true, true_and, and_true, false_and, and_false, and_self, Int32.reduceSub]
