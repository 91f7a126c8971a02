/-! ORDER -/
def fn_at (l : List Nat) (k : Nat) : Int32 := match l[k]? with
  | some x => nI x
  | none => -9
theorem at_cons0 (x : Nat) (l : List Nat) : fn_at (x :: l) 0 = nI x := rfl
theorem at_consS (x : Nat) (l : List Nat) (k : Nat) : fn_at (x :: l) (k + 1) = fn_at l k := rfl
theorem at_nil (k : Nat) : fn_at [] k = -9 := rfl
theorem at_lt {l : List Nat} {k : Nat} (h : k < l.length) : fn_at l k = nI (l.getD k 0) := by
  unfold fn_at
  rw [List.getElem?_eq_getElem h, List.getD_eq_getElem?_getD, List.getElem?_eq_getElem h]
  rfl
theorem at_ge {l : List Nat} {k : Nat} (h : l.length ≤ k) : fn_at l k = -9 := by
  unfold fn_at
  rw [List.getElem?_eq_none h]
def fn_o9 (o : Option Nat) : Int32 := match o with
  | none => -9
  | some x => nI x
section ORD
variable {J : Nat} {mN bN : Nat → Nat}
theorem best_bnd (m b : Nat → Int32) (hbd : ∀ x, mN x ≤ 99 ∧ bN x ≤ 99) (hJ : J ≤ 7) (S : Nat) (s : Nat × Nat) (h1 : s.1 ≤ 10000) (h2 : s.2 ≤ 10000) : jb_best m b mN bN J S s ≤ 20000 := by
  have := (run_bnd mN bN hbd (jb_srt m b J S) s 10000 h1 h2).2
  have hl : (jb_srt m b J S).length ≤ J := by
    have := List.length_filter_le (jb_has S) (fn_rk m b J)
    rw [rk_len] at this
    exact this
  unfold jb_best
  omega
theorem ev_next_l {σ : sg_M} (hj : iv_jb σ J mN bN) (S goal : Nat) (hS : S < 2 ^ J) (hg : goal ≤ 20000) (s : Nat × Nat) (h1 : s.1 ≤ 9000) (h2 : s.2 ≤ 9000) : ∀ n x (y6 : sg_V), x + n = J → sg_rv 89 3 σ [sg_r 5 12, sg_i (nI S), sg_i (nI s.1), sg_i (nI s.2), sg_i (nI goal), sg_i (nI x), y6] [] = some (some (sg_i (fn_o9 (((List.range' x n).filter (jb_has S)).find? (fun x => Nat.beq (jb_best (σ 13) (σ 14) mN bN J (S - 2 ^ x) (jb_sp mN bN s x)) goal)))), σ) := by
  obtain ⟨J7, hc, hbd, hab, -⟩ := id hj
  have h128 : S < 128 := Nat.lt_of_lt_of_le hS (p2J J7).2
  intro n
  induction n with
  | zero =>
    intro x y6 hx
    obtain rfl : x = J := by omega
    simp (decide := true) only [mq_89_3, mq_89_5, mq_89_6, mq_89_9, mq_89_72, mq_89_74, hc, nI_ltI (show x < 2 ^ 31 by omega) (show x < 2 ^ 31 by omega), show ¬ x < x by omega, Nat.reduceAdd, Nat.reduceMul, Nat.reduceSub, Nat.zero_add, sg_bi_i, sg_bi_n, sg_bz, sg_bb, sg_b_0, sg_b_1, if_true, if_false, not_true_eq_false, not_false_eq_true, true_and, and_true, false_and, and_false, and_self, Int32.reduceSub]
    rfl
  | succ n ih =>
    intro x y6 hx
    have hh := ev_hasS σ (S := S) (x := x) h128 (by omega)
    rw [List.range'_succ, List.filter_cons]
    simp (decide := true) only [mq_89_3, mq_89_5, mq_89_6, mq_89_9, hc, nI_ltI (show x < 2 ^ 31 by omega) (show J < 2 ^ 31 by omega), show x < J by omega, Nat.reduceAdd, Nat.reduceMul, Nat.reduceSub, Nat.zero_add, sg_bi_i, sg_bi_n, sg_bz, sg_bb, sg_b_0, sg_b_1, if_true, if_false, not_true_eq_false, not_false_eq_true, true_and, and_true, false_and, and_false, and_self, Int32.reduceSub]
    by_cases hb : jb_has S x = true
    · have hmem : x ∈ jb_mem S := by
        rw [jb_mem_range J7 hS]
        exact List.mem_filter.mpr ⟨List.mem_range.mpr (by omega), hb⟩
      obtain ⟨f1, f2, f3, f4, f5, f6⟩ := jb_fin' h128 hmem
      obtain ⟨em, eb⟩ := hab x (by omega)
      obtain ⟨bm, bb⟩ := hbd x
      have i1 : sg_in (nI x) 7 = true := sg_in_nI (by omega) (by omega)
      have c1 : (nI x).toNatClampNeg = x := sg_nIc (by omega)
      have sh := shl1 (J := x) (by omega)
      have sb : nI S - nI (2 ^ x) = nI (S - 2 ^ x) := pk_sub f3
      have mx := nI_max' (a := s.2) (b := s.1 + mN x) (by omega) (by omega)
      have s1 : (jb_sp mN bN s x).1 ≤ 10000 := by show s.1 + mN x ≤ _; omega
      have s2 : (jb_sp mN bN s x).2 ≤ 10000 := by show max s.2 (s.1 + mN x) + bN x ≤ _; omega
      have hd := ev_done hj (S - 2 ^ x) (Nat.lt_of_le_of_lt (Nat.sub_le _ _) h128) (jb_sp mN bN s x) s1 s2
      change sg_ev 86 σ [sg_r 5 12, sg_i (nI (S - 2 ^ x)), sg_i (nI (s.1 + mN x)), sg_i (nI (max s.2 (s.1 + mN x) + bN x))] = _ at hd
      have bd := best_bnd (σ 13) (σ 14) hbd J7 (S - 2 ^ x) (jb_sp mN bN s x) s1 s2
      have eg : (nI (jb_best (σ 13) (σ 14) mN bN J (S - 2 ^ x) (jb_sp mN bN s x)) = nI goal) = (jb_best (σ 13) (σ 14) mN bN J (S - 2 ^ x) (jb_sp mN bN s x) = goal) := by rw [eq_iff_iff]; exact nI_eq (by omega) (by omega)
      rw [if_pos hb, List.find?_cons]
      by_cases h : jb_best (σ 13) (σ 14) mN bN J (S - 2 ^ x) (jb_sp mN bN s x) = goal
      · have hbeq : Nat.beq (jb_best (σ 13) (σ 14) mN bN J (S - 2 ^ x) (jb_sp mN bN s x)) goal = true := by rw [h]; exact Nat.beq_refl goal
        rw [hbeq]
        simp (decide := true) only [mq_89_12, mq_89_13, mq_89_15, mq_89_18, mq_89_21, mq_89_22, mq_89_23, mq_89_26, mq_89_28, mq_89_29, mq_89_30, mq_89_32, mq_89_33, mq_89_34, mq_89_35, mq_89_37, mq_89_38, mq_89_39, mq_89_41, mq_89_42, mq_89_44, mq_89_47, mq_89_48, mq_89_51, mq_89_53, mq_89_54, mq_89_55, mq_89_58, mq_89_60, mq_89_63, mq_89_65, hh, hb, em, i1, c1, nI_add, sh, sb, mx, eb, hd, eg, eq_true h, fn_o9, Nat.reduceAdd, Nat.reduceMul, Nat.reduceSub, Nat.zero_add, sg_bi_i, sg_bi_n, sg_bz, sg_bb, sg_b_0, sg_b_1, if_true, if_false, not_true_eq_false, not_false_eq_true, true_and, and_true, false_and, and_false, and_self, Int32.reduceSub]
      · have hbeq : Nat.beq (jb_best (σ 13) (σ 14) mN bN J (S - 2 ^ x) (jb_sp mN bN s x)) goal = false := by
          cases hq : Nat.beq (jb_best (σ 13) (σ 14) mN bN J (S - 2 ^ x) (jb_sp mN bN s x)) goal with
          | false => rfl
          | true => exact absurd (Nat.eq_of_beq_eq_true hq) h
        rw [hbeq]
        have hi := ih (x + 1) (sg_i (nI (s.1 + mN x))) (by omega)
        simp only
        rw [← hi]
        simp (decide := true) only [mq_89_12, mq_89_13, mq_89_15, mq_89_18, mq_89_21, mq_89_22, mq_89_23, mq_89_26, mq_89_28, mq_89_29, mq_89_30, mq_89_32, mq_89_33, mq_89_34, mq_89_35, mq_89_37, mq_89_38, mq_89_39, mq_89_41, mq_89_42, mq_89_44, mq_89_47, mq_89_48, mq_89_51, mq_89_53, mq_89_54, mq_89_55, mq_89_58, mq_89_60, mq_89_63, mq_89_65, mq_89_66, mq_89_69, hh, hb, em, i1, c1, nI_add, sh, sb, mx, eb, hd, eg, h, nI_1, Nat.reduceAdd, Nat.reduceMul, Nat.reduceSub, Nat.zero_add, sg_bi_i, sg_bi_n, sg_bz, sg_bb, sg_b_0, sg_b_1, if_true, if_false, not_true_eq_false, not_false_eq_true, true_and, and_true, false_and, and_false, and_self, Int32.reduceSub]
    · rw [if_neg hb, ← ih (x + 1) y6 (by omega)]
      simp (decide := true) only [mq_89_12, mq_89_13, mq_89_15, mq_89_18, mq_89_21, mq_89_22, mq_89_23, mq_89_26, mq_89_28, mq_89_29, mq_89_30, mq_89_32, mq_89_33, mq_89_34, mq_89_35, mq_89_37, mq_89_38, mq_89_39, mq_89_41, mq_89_42, mq_89_44, mq_89_47, mq_89_48, mq_89_51, mq_89_53, mq_89_54, mq_89_55, mq_89_58, mq_89_60, mq_89_63, mq_89_65, mq_89_66, mq_89_69, hh, hb, nI_1, Nat.reduceAdd, Nat.reduceMul, Nat.reduceSub, Nat.zero_add, sg_bi_i, sg_bi_n, sg_bz, sg_bb, sg_b_0, sg_b_1, if_true, if_false, not_true_eq_false, not_false_eq_true, true_and, and_true, false_and, and_false, and_self, Int32.reduceSub]
theorem ev_next {σ : sg_M} (hj : iv_jb σ J mN bN) (S goal : Nat) (hS : S < 2 ^ J) (hg : goal ≤ 20000) (s : Nat × Nat) (h1 : s.1 ≤ 9000) (h2 : s.2 ≤ 9000) : sg_ev 89 σ [sg_r 5 12, sg_i (nI S), sg_i (nI s.1), sg_i (nI s.2), sg_i (nI goal)] = some (some (sg_i (fn_o9 (jb_nt (σ 13) (σ 14) mN bN J goal S s))), σ) := by
  have := ev_next_l hj S goal hS hg s h1 h2 J 0 (sg_r 0 0) (by omega)
  unfold jb_nt
  rw [jb_mem_range hj.1 hS, List.range_eq_range', ← this]
  simp (decide := true) only [me_89, mq_89_0, mq_89_1, nI_0, Nat.reduceAdd, Nat.reduceMul, Nat.reduceSub, Nat.zero_add, sg_bi_i, sg_bi_n, sg_bz, sg_bb, sg_b_0, sg_b_1, if_true, if_false, not_true_eq_false, not_false_eq_true, true_and, and_true, false_and, and_false, and_self, Int32.reduceSub]
theorem ev_row_l {σ : sg_M} (hj : iv_jb σ J mN bN) (S0 k goal : Nat) (hk : k ≤ 6) (hg : goal ≤ 20000) : ∀ n place S (s : Nat × Nat) (jl : Int32) (X : Nat), place + n = k → S < 2 ^ J → s.1 ≤ X → s.2 ≤ X → X + 198 * n ≤ 9000 → sg_rv 88 24 σ [sg_r 5 12, sg_i (nI S0), sg_i (nI k), sg_i (nI goal), sg_i (nI S), sg_i (nI s.1), sg_i (nI s.2), sg_i jl, sg_i (nI place)] [] = some (some (sg_i (fn_at (jb_gy (σ 13) (σ 14) mN bN J goal (jb_mem S).length S s) n)), σ) := by
  obtain ⟨J7, hc, hbd, hab, -⟩ := id hj
  have gy : ∀ S (s : Nat × Nat), S < 2 ^ J → jb_gy (σ 13) (σ 14) mN bN J goal (jb_mem S).length S s = match jb_nt (σ 13) (σ 14) mN bN J goal S s with
      | none => []
      | some x => x :: jb_gy (σ 13) (σ 14) mN bN J goal (jb_mem (S - 2 ^ x)).length (S - 2 ^ x) (jb_sp mN bN s x) := by
    intro S s hS
    have h128 : S < 128 := Nat.lt_of_lt_of_le hS (p2J J7).2
    cases hl : (jb_mem S).length with
    | zero =>
      have h0 := List.eq_nil_of_length_eq_zero hl
      unfold jb_nt
      rw [h0]
      rfl
    | succ N =>
      simp only [jb_gy]
      cases hn : jb_nt (σ 13) (σ 14) mN bN J goal S s with
      | none => rfl
      | some x =>
        have hx : x ∈ jb_mem S := List.mem_of_find?_eq_some hn
        obtain ⟨f1, f2, f3, f4, f5, f6⟩ := jb_fin' h128 hx
        simp only
        rw [show (jb_mem (S - 2 ^ x)).length = N by omega]
  -- one step
  have step : ∀ place S (s : Nat × Nat) (jl : Int32), place ≤ k → S < 2 ^ J → s.1 ≤ 9000 → s.2 ≤ 9000 → (jb_nt (σ 13) (σ 14) mN bN J goal S s = none ∧ sg_rv 88 24 σ [sg_r 5 12, sg_i (nI S0), sg_i (nI k), sg_i (nI goal), sg_i (nI S), sg_i (nI s.1), sg_i (nI s.2), sg_i jl, sg_i (nI place)] [] = some (some (sg_i (-9)), σ)) ∨ ∃ x, jb_nt (σ 13) (σ 14) mN bN J goal S s = some x ∧ x < J ∧ S - 2 ^ x < 2 ^ J ∧ sg_rv 88 24 σ [sg_r 5 12, sg_i (nI S0), sg_i (nI k), sg_i (nI goal), sg_i (nI S), sg_i (nI s.1), sg_i (nI s.2), sg_i jl, sg_i (nI place)] [] = sg_rv 88 24 σ [sg_r 5 12, sg_i (nI S0), sg_i (nI k), sg_i (nI goal), sg_i (nI (S - 2 ^ x)), sg_i (nI (jb_sp mN bN s x).1), sg_i (nI (jb_sp mN bN s x).2), sg_i (nI x), sg_i (nI (place + 1))] [] := by
    intro place S s jl hp hS h1 h2
    have h128 : S < 128 := Nat.lt_of_lt_of_le hS (p2J J7).2
    have hnx := ev_next hj S goal hS hg s h1 h2
    have cp : (nI k < nI place) = False := eq_false (by rw [nI_ltI (by omega) (by omega)]; omega)
    cases hn : jb_nt (σ 13) (σ 14) mN bN J goal S s with
    | none =>
      left
      rw [hn] at hnx
      refine ⟨rfl, ?_⟩
      simp (decide := true) only [mq_88_24, mq_88_26, mq_88_27, mq_88_30, mq_88_31, mq_88_33, mq_88_35, mq_88_37, mq_88_38, mq_88_41, mq_88_43, mq_88_45, mq_88_48, mq_88_50, cp, hnx, fn_o9, Nat.reduceAdd, Nat.reduceMul, Nat.reduceSub, Nat.zero_add, sg_bi_i, sg_bi_n, sg_bz, sg_bb, sg_b_0, sg_b_1, if_true, if_false, not_true_eq_false, not_false_eq_true, true_and, and_true, false_and, and_false, and_self, Int32.reduceSub]
    | some x =>
      right
      have hx : x ∈ jb_mem S := List.mem_of_find?_eq_some hn
      have hxJ : x < J := by
        rw [jb_mem_range J7 hS] at hx
        exact List.mem_range.mp (List.mem_filter.mp hx).1
      obtain ⟨f1, f2, f3, f4, f5, f6⟩ := jb_fin' h128 hx
      obtain ⟨em, eb⟩ := hab x hxJ
      obtain ⟨bm, bb⟩ := hbd x
      rw [hn] at hnx
      have nx : ¬ nI x < 0 := nI_pos (by omega)
      have i1 : sg_in (nI x) 7 = true := sg_in_nI (by omega) (by omega)
      have c1 : (nI x).toNatClampNeg = x := sg_nIc (by omega)
      have sh := shl1 (J := x) (by omega)
      have sb : nI S - nI (2 ^ x) = nI (S - 2 ^ x) := pk_sub f3
      have mx := nI_max' (a := s.2) (b := s.1 + mN x) (by omega) (by omega)
      refine ⟨x, rfl, hxJ, Nat.lt_of_le_of_lt (Nat.sub_le _ _) hS, ?_⟩
      generalize hX : sg_rv 88 24 σ [sg_r 5 12, sg_i (nI S0), sg_i (nI k), sg_i (nI goal), sg_i (nI (S - 2 ^ x)), sg_i (nI (jb_sp mN bN s x).1), sg_i (nI (jb_sp mN bN s x).2), sg_i (nI x), sg_i (nI (place + 1))] [] = Y
      change sg_rv 88 24 σ [sg_r 5 12, sg_i (nI S0), sg_i (nI k), sg_i (nI goal), sg_i (nI (S - 2 ^ x)), sg_i (nI (s.1 + mN x)), sg_i (nI (max s.2 (s.1 + mN x) + bN x)), sg_i (nI x), sg_i (nI (place + 1))] [] = Y at hX
      simp (decide := true) only [mq_88_24, mq_88_26, mq_88_27, cp, Nat.reduceAdd, Nat.reduceMul, Nat.reduceSub, Nat.zero_add, sg_bi_i, sg_bi_n, sg_bz, sg_bb, sg_b_0, sg_b_1, if_true, if_false, not_true_eq_false, not_false_eq_true, true_and, and_true, false_and, and_false, and_self, Int32.reduceSub]
      simp (decide := true) only [mq_88_30, mq_88_31, mq_88_33, mq_88_35, mq_88_37, mq_88_38, mq_88_41, mq_88_43, mq_88_45, mq_88_48, mq_88_50, mq_88_51, mq_88_53, mq_88_54, mq_88_56, mq_88_57, mq_88_58, mq_88_60, mq_88_62, mq_88_63, mq_88_66, mq_88_68, mq_88_69, mq_88_70, mq_88_72, mq_88_74, mq_88_76, mq_88_79, mq_88_80, mq_88_83, mq_88_85, mq_88_86, mq_88_87, mq_88_89, mq_88_92, hnx, fn_o9, nx, i1, c1, sh, sb, em, eb, nI_add, mx, nI_1, hX, Nat.reduceAdd, Nat.reduceMul, Nat.reduceSub, Nat.zero_add, sg_bi_i, sg_bi_n, sg_bz, sg_bb, sg_b_0, sg_b_1, if_true, if_false, not_true_eq_false, not_false_eq_true, true_and, and_true, false_and, and_false, and_self, Int32.reduceSub]
  intro n
  induction n with
  | zero =>
    intro place S s jl X hp hS h1 h2 hX
    obtain rfl : place = k := by omega
    rw [gy S s hS]
    rcases step place S s jl (Nat.le_refl _) hS (by omega) (by omega) with ⟨a1, a2⟩ | ⟨x, a1, a2, a3, a4⟩
    · rw [a1, a2]; rfl
    · rw [a1, a4]
      have cp : (nI place < nI (place + 1)) = True := eq_true (by rw [nI_ltI (by omega) (by omega)]; omega)
      simp (decide := true) only [mq_88_24, mq_88_26, mq_88_27, mq_88_95, mq_88_97, cp, at_cons0, Nat.reduceAdd, Nat.reduceMul, Nat.reduceSub, Nat.zero_add, sg_bi_i, sg_bi_n, sg_bz, sg_bb, sg_b_0, sg_b_1, if_true, if_false, not_true_eq_false, not_false_eq_true, true_and, and_true, false_and, and_false, and_self, Int32.reduceSub]
  | succ n ih =>
    intro place S s jl X hp hS h1 h2 hX
    rw [gy S s hS]
    rcases step place S s jl (by omega) hS (by omega) (by omega) with ⟨a1, a2⟩ | ⟨x, a1, a2, a3, a4⟩
    · rw [a1, a2]; rfl
    · obtain ⟨bm, bb⟩ := hbd x
      rw [a1, a4, ih (place + 1) (S - 2 ^ x) (jb_sp mN bN s x) (nI x) (X + 198) (by omega) a3 (by show s.1 + mN x ≤ _; omega) (by show max s.2 (s.1 + mN x) + bN x ≤ _; omega) (by omega)]
      rfl
theorem ev_row {σ : sg_M} (hj : iv_jb σ J mN bN) (S k : Nat) (hS : S < 2 ^ J) (hk : k ≤ 6) : sg_ev 88 σ [sg_r 5 12, sg_i (nI S), sg_i (nI k)] = some (some (sg_i (fn_at (jb_gy (σ 13) (σ 14) mN bN J (jb_best (σ 13) (σ 14) mN bN J S (0, 0)) (jb_mem S).length S (0, 0)) k)), σ) := by
  have h128 : S < 128 := Nat.lt_of_lt_of_le hS (p2J hj.1).2
  have hd := ev_done hj S h128 (0, 0) (by omega) (by omega)
  change sg_ev 86 σ [sg_r 5 12, sg_i (nI S), sg_i 0, sg_i 0] = _ at hd
  have bd := best_bnd (σ 13) (σ 14) hj.2.2.1 hj.1 S (0, 0) (by omega) (by omega)
  have := ev_row_l hj S k _ hk bd k 0 S (0, 0) (-9) 0 (by omega) hS (Nat.le_refl _) (Nat.le_refl _) (by omega)
  rw [← this]
  simp (decide := true) only [me_88, mq_88_0, mq_88_1, mq_88_2, mq_88_3, mq_88_4, mq_88_7, mq_88_8, mq_88_9, mq_88_11, mq_88_12, mq_88_14, mq_88_15, mq_88_17, mq_88_19, mq_88_21, mq_88_22, hd, nI_0, Nat.reduceAdd, Nat.reduceMul, Nat.reduceSub, Nat.zero_add, sg_bi_i, sg_bi_n, sg_bz, sg_bb, sg_b_0, sg_b_1, if_true, if_false, not_true_eq_false, not_false_eq_true, true_and, and_true, false_and, and_false, and_self, Int32.reduceSub]
end ORD
/-! the model's next row -/
theorem ls_g_D : ∀ (l : List Nat) (k : Nat), ls_g l k = l.getD k 0 := by
  intro l
  induction l with
  | nil => intro k; rfl
  | cons a l ih => intro k; cases k with
    | zero => rfl
    | succ k => simp only [ls_g, List.getD_cons_succ]; exact ih k
theorem ls_s_len : ∀ (l : List Nat) (i v : Nat), (ls_s l i v).length = l.length := by
  intro l
  induction l with
  | nil => intro i v; rfl
  | cons a l ih => intro i v; cases i with
    | zero => rfl
    | succ i => simp only [ls_s, List.length_cons, ih]
theorem ls_s_D : ∀ (l : List Nat) (i v k : Nat), i < l.length → (ls_s l i v).getD k 0 = if k = i then v else l.getD k 0 := by
  intro l
  induction l with
  | nil => intro i v k h; simp at h
  | cons a l ih =>
    intro i v k h
    cases i with
    | zero => cases k with
      | zero => rfl
      | succ k => simp only [ls_s, List.getD_cons_succ]; rw [if_neg (by omega)]
    | succ i => cases k with
      | zero => simp only [ls_s, List.getD_cons_zero]; rw [if_neg (by omega)]
      | succ k =>
        simp only [ls_s, List.getD_cons_succ]
        rw [ih i v k (by simp at h; omega)]
        by_cases hk : k = i
        · rw [if_pos hk, if_pos (by omega)]
        · rw [if_neg hk, if_neg (by omega)]
theorem sw_len (l : List Nat) (x y : Nat) : (ls_sw l x y).length = l.length := by unfold ls_sw; rw [ls_s_len, ls_s_len]
theorem em_swap (M : sg_M) (l : List Nat) (x y : Nat) (h7 : l.length ≤ 7) (hx : x < l.length) (hy : y < l.length) (hr : iv_row M l) : ∃ M' : sg_M, sg_ev 180 M [sg_r 7 120, sg_i (nI x), sg_i (nI y)] = some (none, M') ∧ iv_row M' (ls_sw l x y) ∧ sg_rw M M' := by
  obtain ⟨r1, r2⟩ := hr
  have i1 : sg_in (nI x) 7 = true := sg_in_nI (by omega) (by omega)
  have c1 : (nI x).toNatClampNeg = x := sg_nIc (by omega)
  have i2 : sg_in (nI y) 7 = true := sg_in_nI (by omega) (by omega)
  have c2 : (nI y).toNatClampNeg = y := sg_nIc (by omega)
  refine ⟨sg_up (sg_up M 141 x (M 141 y)) 141 y (M 141 x), ?_, ⟨?_, fun k hk => ?_⟩, fun j _ => ?_, fun z _ z2 => ?_⟩
  · simp (decide := true) only [me_180, mq_180_0, mq_180_1, mq_180_4, mq_180_5, mq_180_6, mq_180_7, mq_180_8, mq_180_11, mq_180_12, mq_180_13, mq_180_16, mq_180_17, mq_180_18, mq_180_19, mq_180_20, mq_180_23, mq_180_24, mq_180_25, mq_180_26, i1, c1, i2, c2, Nat.reduceAdd, Nat.reduceMul, Nat.reduceSub, Nat.zero_add, sg_bi_i, sg_bi_n, sg_bz, sg_bb, sg_b_0, sg_b_1, if_true, if_false, not_true_eq_false, not_false_eq_true, true_and, and_true, false_and, and_false, and_self, Int32.reduceSub]
  · rw [sw_len, sg_up_ne (by omega), sg_up_ne (by omega)]; exact r1
  · rw [sw_len] at hk
    unfold ls_sw
    rw [ls_s_D _ _ _ _ (by rw [ls_s_len]; exact hy), ls_s_D _ _ _ _ hx, ls_g_D, ls_g_D, sg_up_row, sg_up_row]
    by_cases k1 : k = y
    · rw [if_pos k1, k1, upd_same]; exact r2 x hx
    · rw [if_neg k1, upd_ne k1]
      by_cases k2 : k = x
      · rw [if_pos k2, k2, upd_same]; exact r2 y hy
      · rw [if_neg k2, upd_ne k2]; exact r2 k hk
  · rw [sg_up_ne (by omega), sg_up_ne (by omega)]
  · rw [sg_up_ne z2, sg_up_ne z2]
section NEXT
variable {M : sg_M} {l : List Nat}
theorem em_piv (h7 : l.length ≤ 7) (hlt : ∀ k, k < l.length → l.getD k 0 < 7) (hr : iv_row M l) (y2 y3 y4 : sg_V) : ∀ x z, x + 1 < l.length → nx_p l x = some z → z ≤ x ∧ sg_rv 179 7 M [sg_r 7 120, sg_i (nI x), y2, y3, y4] [] = sg_rv 179 30 M [sg_r 7 120, sg_i (nI z), y2, y3, y4] [] := by
  obtain ⟨r1, r2⟩ := hr
  intro x
  induction x with
  | zero =>
    intro z hx hz
    simp only [nx_p, ls_g_D] at hz
    have e0 := r2 0 (by omega)
    have e1 := r2 1 (by omega)
    have b0 := hlt 0 (by omega)
    have b1 := hlt 1 (by omega)
    have z0 : sg_in (nI 0) 7 = true := by decide
    have z1 : sg_in (nI 1) 7 = true := by decide
    have lt := nI_ltI (show l.getD 1 0 < 2 ^ 31 by omega) (show l.getD 0 0 < 2 ^ 31 by omega)
    by_cases h : l.getD 1 0 < l.getD 0 0
    · rw [show Nat.blt (l.getD 1 0) (l.getD 0 0) = true from Nat.ble_eq_true_of_le h] at hz
      simp at hz
    · have hb : Nat.blt (l.getD 1 0) (l.getD 0 0) = false := by
        cases hq : Nat.blt (l.getD 1 0) (l.getD 0 0) with
        | false => rfl
        | true => exact absurd (Nat.le_of_ble_eq_true hq) h
      rw [hb] at hz
      simp only [cond_false, Option.some.injEq] at hz
      subst hz
      refine ⟨Nat.le_refl 0, ?_⟩
      simp (decide := true) only [mq_179_7, mq_179_8, mq_179_11, mq_179_12, mq_179_13, mq_179_14, mq_179_17, mq_179_18, mq_179_19, mq_179_20, mq_179_21, z0, z1, nI_1, Nat.zero_add, sg_nIc (show (0 : Nat) < 2 ^ 31 by omega), sg_nIc (show (1 : Nat) < 2 ^ 31 by omega), e0, e1, lt, h, Nat.reduceAdd, Nat.reduceMul, Nat.reduceSub, Nat.zero_add, sg_bi_i, sg_bi_n, sg_bz, sg_bb, sg_b_0, sg_b_1, if_true, if_false, not_true_eq_false, not_false_eq_true, true_and, and_true, false_and, and_false, and_self, Int32.reduceSub]
  | succ x ih =>
    intro z hx hz
    simp only [nx_p, ls_g_D] at hz
    have e0 := r2 (x + 1) (by omega)
    have e1 := r2 (x + 2) (by omega)
    have b0 := hlt (x + 1) (by omega)
    have b1 := hlt (x + 2) (by omega)
    have i1 : sg_in (nI (x + 1)) 7 = true := sg_in_nI (by omega) (by omega)
    have c1 : (nI (x + 1)).toNatClampNeg = x + 1 := sg_nIc (by omega)
    have i2 : sg_in (nI (x + 1 + 1)) 7 = true := sg_in_nI (by omega) (by omega)
    have c2 : (nI (x + 1 + 1)).toNatClampNeg = x + 2 := sg_nIc (by omega)
    have lt := nI_ltI (show l.getD (x + 2) 0 < 2 ^ 31 by omega) (show l.getD (x + 1) 0 < 2 ^ 31 by omega)
    by_cases h : l.getD (x + 2) 0 < l.getD (x + 1) 0
    · rw [show Nat.blt (l.getD (x + 2) 0) (l.getD (x + 1) 0) = true from Nat.ble_eq_true_of_le h] at hz
      obtain ⟨g1, g2⟩ := ih z (by omega) hz
      refine ⟨by omega, ?_⟩
      rw [← g2]
      generalize hX : sg_rv 179 7 M [sg_r 7 120, sg_i (nI x), y2, y3, y4] [] = X
      simp (decide := true) only [mq_179_7, mq_179_8, mq_179_11, mq_179_12, mq_179_13, mq_179_14, mq_179_17, mq_179_18, mq_179_19, mq_179_20, mq_179_21, i1, c1, i2, c2, nI_1, e0, e1, lt, h, Nat.reduceAdd, Nat.reduceMul, Nat.reduceSub, Nat.zero_add, sg_bi_i, sg_bi_n, sg_bz, sg_bb, sg_b_0, sg_b_1, if_true, if_false, not_true_eq_false, not_false_eq_true, true_and, and_true, false_and, and_false, and_self, Int32.reduceSub]
      simp (decide := true) only [mq_179_24, mq_179_27, pk_m1, hX, Nat.reduceAdd, Nat.reduceMul, Nat.reduceSub, Nat.zero_add, sg_bi_i, sg_bi_n, sg_bz, sg_bb, sg_b_0, sg_b_1, if_true, if_false, not_true_eq_false, not_false_eq_true, true_and, and_true, false_and, and_false, and_self, Int32.reduceSub]
    · have hb : Nat.blt (l.getD (x + 2) 0) (l.getD (x + 1) 0) = false := by
        cases hq : Nat.blt (l.getD (x + 2) 0) (l.getD (x + 1) 0) with
        | false => rfl
        | true => exact absurd (Nat.le_of_ble_eq_true hq) h
      rw [hb] at hz
      simp only [cond_false, Option.some.injEq] at hz
      subst hz
      refine ⟨Nat.le_refl _, ?_⟩
      simp (decide := true) only [mq_179_7, mq_179_8, mq_179_11, mq_179_12, mq_179_13, mq_179_14, mq_179_17, mq_179_18, mq_179_19, mq_179_20, mq_179_21, i1, c1, i2, c2, nI_1, e0, e1, lt, h, Nat.reduceAdd, Nat.reduceMul, Nat.reduceSub, Nat.zero_add, sg_bi_i, sg_bi_n, sg_bz, sg_bb, sg_b_0, sg_b_1, if_true, if_false, not_true_eq_false, not_false_eq_true, true_and, and_true, false_and, and_false, and_self, Int32.reduceSub]
theorem em_py (h7 : l.length ≤ 7) (hlt : ∀ k, k < l.length → l.getD k 0 < 7) (hr : iv_row M l) (x : Nat) (hx : x < l.length) (y3 y4 : sg_V) : ∀ y z, y < l.length → nx_y l (l.getD x 0) y = some z → z ≤ y ∧ sg_rv 179 37 M [sg_r 7 120, sg_i (nI x), sg_i (nI y), y3, y4] [] = sg_rv 179 58 M [sg_r 7 120, sg_i (nI x), sg_i (nI z), y3, y4] [] := by
  obtain ⟨r1, r2⟩ := hr
  have ex := r2 x hx
  have bx := hlt x hx
  have ix : sg_in (nI x) 7 = true := sg_in_nI (by omega) (by omega)
  have cx : (nI x).toNatClampNeg = x := sg_nIc (by omega)
  have stop : ∀ y, y < l.length → ¬ l.getD y 0 < l.getD x 0 → sg_rv 179 37 M [sg_r 7 120, sg_i (nI x), sg_i (nI y), y3, y4] [] = sg_rv 179 58 M [sg_r 7 120, sg_i (nI x), sg_i (nI y), y3, y4] [] := by
    intro y hy h
    have ey := r2 y hy
    have b := hlt y hy
    have iy : sg_in (nI y) 7 = true := sg_in_nI (by omega) (by omega)
    have cy : (nI y).toNatClampNeg = y := sg_nIc (by omega)
    simp (decide := true) only [mq_179_37, mq_179_38, mq_179_41, mq_179_42, mq_179_43, mq_179_44, mq_179_47, mq_179_48, mq_179_49, ix, cx, iy, cy, ex, ey, nI_ltI (show l.getD y 0 < 2 ^ 31 by omega) (show l.getD x 0 < 2 ^ 31 by omega), h, Nat.reduceAdd, Nat.reduceMul, Nat.reduceSub, Nat.zero_add, sg_bi_i, sg_bi_n, sg_bz, sg_bb, sg_b_0, sg_b_1, if_true, if_false, not_true_eq_false, not_false_eq_true, true_and, and_true, false_and, and_false, and_self, Int32.reduceSub]
  have blt : ∀ {a c : Nat}, ¬ a < c → Nat.blt a c = false := fun {a c} h => by
    cases hq : Nat.blt a c with
    | false => rfl
    | true => exact absurd (Nat.le_of_ble_eq_true hq) h
  intro y
  induction y with
  | zero =>
    intro z hy hz
    simp only [nx_y, ls_g_D] at hz
    by_cases h : l.getD 0 0 < l.getD x 0
    · rw [show Nat.blt (l.getD 0 0) (l.getD x 0) = true from Nat.ble_eq_true_of_le h] at hz
      simp at hz
    · rw [blt h] at hz
      simp only [cond_false, Option.some.injEq] at hz
      subst hz
      exact ⟨Nat.le_refl 0, stop 0 hy h⟩
  | succ y ih =>
    intro z hy hz
    simp only [nx_y, ls_g_D] at hz
    by_cases h : l.getD (y + 1) 0 < l.getD x 0
    · rw [show Nat.blt (l.getD (y + 1) 0) (l.getD x 0) = true from Nat.ble_eq_true_of_le h] at hz
      obtain ⟨g1, g2⟩ := ih z (by omega) hz
      refine ⟨by omega, ?_⟩
      have ey := r2 (y + 1) hy
      have b := hlt (y + 1) hy
      have iy : sg_in (nI (y + 1)) 7 = true := sg_in_nI (by omega) (by omega)
      have cy : (nI (y + 1)).toNatClampNeg = y + 1 := sg_nIc (by omega)
      rw [← g2]
      generalize hX : sg_rv 179 37 M [sg_r 7 120, sg_i (nI x), sg_i (nI y), y3, y4] [] = X
      simp (decide := true) only [mq_179_37, mq_179_38, mq_179_41, mq_179_42, mq_179_43, mq_179_44, mq_179_47, mq_179_48, mq_179_49, ix, cx, iy, cy, ex, ey, nI_ltI (show l.getD (y + 1) 0 < 2 ^ 31 by omega) (show l.getD x 0 < 2 ^ 31 by omega), h, Nat.reduceAdd, Nat.reduceMul, Nat.reduceSub, Nat.zero_add, sg_bi_i, sg_bi_n, sg_bz, sg_bb, sg_b_0, sg_b_1, if_true, if_false, not_true_eq_false, not_false_eq_true, true_and, and_true, false_and, and_false, and_self, Int32.reduceSub]
      simp (decide := true) only [mq_179_52, mq_179_55, pk_m1, hX, Nat.reduceAdd, Nat.reduceMul, Nat.reduceSub, Nat.zero_add, sg_bi_i, sg_bi_n, sg_bz, sg_bb, sg_b_0, sg_b_1, if_true, if_false, not_true_eq_false, not_false_eq_true, true_and, and_true, false_and, and_false, and_self, Int32.reduceSub]
    · rw [blt h] at hz
      simp only [cond_false, Option.some.injEq] at hz
      subst hz
      exact ⟨Nat.le_refl _, stop _ hy h⟩
end NEXT
theorem em_rev (x1 x2 : Int32) : ∀ f (l : List Nat) (k e : Nat) (M : sg_M), l.length ≤ 7 → k + f ≤ 100 → e ≤ k + f → e < l.length → iv_row M l → ∃ M' : sg_M, sg_rv 179 76 M [sg_r 7 120, sg_i x1, sg_i x2, sg_i (nI e), sg_i (nI k)] [] = some (none, M') ∧ iv_row M' (nx_r f l k e) ∧ sg_rw M M' := by
  intro f
  induction f with
  | zero =>
    intro l k e M h7 hkf he hl hr
    refine ⟨M, ?_, hr, rw_rfl M⟩
    have c : (nI k < nI e) = False := eq_false (fun z => by
      rw [nI_ltI (by omega) (by omega)] at z; omega)
    simp (decide := true) only [mq_179_76, mq_179_78, mq_179_79, mq_179_98, c, Nat.reduceAdd, Nat.reduceMul, Nat.reduceSub, Nat.zero_add, sg_bi_i, sg_bi_n, sg_bz, sg_bb, sg_b_0, sg_b_1, if_true, if_false, not_true_eq_false, not_false_eq_true, true_and, and_true, false_and, and_false, and_self, Int32.reduceSub]
  | succ f ih =>
    intro l k e M h7 hkf he hl hr
    simp only [nx_r]
    by_cases h : k < e
    · rw [show Nat.blt k e = true from Nat.ble_eq_true_of_le h]
      obtain ⟨e', rfl⟩ : ∃ e', e = e' + 1 := ⟨e - 1, by omega⟩
      obtain ⟨M1, s1, s2, s3⟩ := em_swap M l k (e' + 1) h7 (by omega) hl hr
      obtain ⟨M', g1, g2, g3⟩ := ih (ls_sw l k (e' + 1)) (k + 1) e' M1 (by rw [sw_len]; exact h7) (by omega) (by omega) (by rw [sw_len]; omega) s2
      refine ⟨M', ?_, g2, rw_tr s3 g3⟩
      rw [← g1]
      generalize hX : sg_rv 179 76 M1 [sg_r 7 120, sg_i x1, sg_i x2, sg_i (nI e'), sg_i (nI (k + 1))] [] = X
      simp (decide := true) only [mq_179_76, mq_179_78, mq_179_79, nI_ltI (show k < 2 ^ 31 by omega) (show e' + 1 < 2 ^ 31 by omega), h, Nat.reduceAdd, Nat.reduceMul, Nat.reduceSub, Nat.zero_add, sg_bi_i, sg_bi_n, sg_bz, sg_bb, sg_b_0, sg_b_1, if_true, if_false, not_true_eq_false, not_false_eq_true, true_and, and_true, false_and, and_false, and_self, Int32.reduceSub]
      simp (decide := true) only [mq_179_82, mq_179_83, mq_179_85, mq_179_86, mq_179_89, mq_179_92, mq_179_95, s1, pk_m1, nI_1, hX, Nat.reduceAdd, Nat.reduceMul, Nat.reduceSub, Nat.zero_add, sg_bi_i, sg_bi_n, sg_bz, sg_bb, sg_b_0, sg_b_1, if_true, if_false, not_true_eq_false, not_false_eq_true, true_and, and_true, false_and, and_false, and_self, Int32.reduceSub]
    · have hb : Nat.blt k e = false := by
        cases hq : Nat.blt k e with
        | false => rfl
        | true => exact absurd (Nat.le_of_ble_eq_true hq) h
      rw [hb]
      refine ⟨M, ?_, hr, rw_rfl M⟩
      have c : (nI k < nI e) = False := eq_false (fun z => by
        rw [nI_ltI (by omega) (by omega)] at z; omega)
      simp (decide := true) only [mq_179_76, mq_179_78, mq_179_79, mq_179_98, c, Nat.reduceAdd, Nat.reduceMul, Nat.reduceSub, Nat.zero_add, sg_bi_i, sg_bi_n, sg_bz, sg_bb, sg_b_0, sg_b_1, if_true, if_false, not_true_eq_false, not_false_eq_true, true_and, and_true, false_and, and_false, and_self, Int32.reduceSub]
