/-! WHEN a set is done with -/
theorem smod_x {x : Nat} (hx : x < 7) : ((nI x &&& 31).toBitVec.smod 32).toNat = x := by
  rcases L7 hx with rfl | rfl | rfl | rfl | rfl | rfl | rfl <;> decide
theorem has_eq {S x : Nat} (hS : S < 128) (hx : x < 7) : ((nI S >>> (nI x &&& 31)) &&& 1 = 1) = (jb_has S x = true) := by
  rw [pk_shrN (by omega) _ x (smod_x hx)]
  have : S / 2 ^ x ≤ S := Nat.div_le_self _ _
  rw [pk_andN (show S / 2 ^ x < 2 ^ 32 by omega) 1 (by decide), eq_iff_iff]
  unfold jb_has
  rw [show (1 : Int32) = nI 1 from rfl, nI_eq (show S / 2 ^ x % 2 ^ 1 < 2 ^ 31 by omega) (by omega)]
  constructor
  · intro h; rw [Nat.pow_one] at h; rw [h]; rfl
  · intro h; rw [Nat.pow_one]; exact Nat.eq_of_beq_eq_true h
theorem ev_hasS (σ : sg_M) {S x : Nat} (hS : S < 128) (hx : x < 7) : sg_ev 87 σ [sg_i (nI S), sg_i (nI x)] = some (some (sg_i (if jb_has S x = true then 1 else 0)), σ) := by
  rw [ev_has]; simp only [has_eq hS hx]
theorem em_hasS (σ : sg_M) {S x : Nat} (hS : S < 128) (hx : x < 7) : sg_ev 176 σ [sg_i (nI S), sg_i (nI x)] = some (some (sg_i (if jb_has S x = true then 1 else 0)), σ) := by
  rw [em_hasBit]; simp only [has_eq hS hx]
/-- the jobs of the class, as numbers -/
def iv_jb (σ : sg_M) (J : Nat) (mN bN : Nat → Nat) : Prop := J ≤ 7 ∧ σ 12 4 = nI J ∧ (∀ x, mN x ≤ 99 ∧ bN x ≤ 99) ∧ (∀ x, x < J → σ 13 x = nI (mN x) ∧ σ 14 x = nI (bN x)) ∧ ∀ k, k < J → σ 16 k = nI ((fn_rk (σ 13) (σ 14) J).getD k 0)
theorem drop_c {l : List Nat} {k : Nat} (h : k < l.length) : l.drop k = l.getD k 0 :: l.drop (k + 1) := by
  rw [List.drop_eq_getElem_cons h, List.getD_eq_getElem?_getD, List.getElem?_eq_getElem h, Option.getD_some]
theorem ev_done_l {σ : sg_M} {J : Nat} {mN bN : Nat → Nat} (hj : iv_jb σ J mN bN) (S : Nat) (hS : S < 128) (x2 x3 : Int32) : ∀ n k (s : Nat × Nat) (y7 : sg_V) (X : Nat), k + n = J → s.1 ≤ X → s.2 ≤ X → X + 198 * n ≤ 1000000 → sg_rv 86 9 σ [sg_r 5 12, sg_i (nI S), sg_i x2, sg_i x3, sg_i (nI s.1), sg_i (nI s.2), sg_i (nI k), y7] [] = some (some (sg_i (nI (jb_run mN bN s (((fn_rk (σ 13) (σ 14) J).drop k).filter (jb_has S))).2)), σ) := by
  obtain ⟨J7, hc, hbd, hab, hrk⟩ := hj
  intro n
  induction n with
  | zero =>
    intro k s y7 X hk h1 h2 hX
    obtain rfl : k = J := by omega
    rw [List.drop_eq_nil_of_le (by rw [rk_len]; exact Nat.le_refl _)]
    simp (decide := true) only [mq_86_9, mq_86_11, mq_86_12, mq_86_15, mq_86_71, mq_86_73, hc, nI_ltI (show k < 2 ^ 31 by omega) (show k < 2 ^ 31 by omega), show ¬ k < k by omega, List.filter_nil, Nat.reduceAdd, Nat.reduceMul, Nat.reduceSub, Nat.zero_add, sg_bi_i, sg_bi_n, sg_bz, sg_bb, sg_b_0, sg_b_1, if_true, if_false, not_true_eq_false, not_false_eq_true, true_and, and_true, false_and, and_false, and_self, Int32.reduceSub]
    rfl
  | succ n ih =>
    intro k s y7 X hk h1 h2 hX
    have hkJ : k < J := by omega
    have hx := rk_lt (m := σ 13) (b := σ 14) hkJ
    rw [drop_c (by rw [rk_len]; exact hkJ), List.filter_cons]
    have hr := hrk k hkJ
    generalize (fn_rk (σ 13) (σ 14) J).getD k 0 = x at hx hr
    obtain ⟨em, eb⟩ := hab x hx
    obtain ⟨bm, bb⟩ := hbd x
    have i1 : sg_in (nI k) 7 = true := sg_in_nI (by omega) (by omega)
    have c1 : (nI k).toNatClampNeg = k := sg_nIc (by omega)
    have i2 : sg_in (nI x) 7 = true := sg_in_nI (by omega) (by omega)
    have c2 : (nI x).toNatClampNeg = x := sg_nIc (by omega)
    have hh := ev_hasS σ (S := S) (x := x) hS (by omega)
    simp (decide := true) only [mq_86_9, mq_86_11, mq_86_12, mq_86_15, hc, nI_ltI (show k < 2 ^ 31 by omega) (show J < 2 ^ 31 by omega), hkJ, Nat.reduceAdd, Nat.reduceMul, Nat.reduceSub, Nat.zero_add, sg_bi_i, sg_bi_n, sg_bz, sg_bb, sg_b_0, sg_b_1, if_true, if_false, not_true_eq_false, not_false_eq_true, true_and, and_true, false_and, and_false, and_self, Int32.reduceSub]
    by_cases hb : jb_has S x = true
    · rw [if_pos hb, run_cons, ← ih (k + 1) (jb_sp mN bN s x) (sg_i (nI x)) (X + 198) (by omega) (by show s.1 + mN x ≤ _; omega) (by show max s.2 (s.1 + mN x) + bN x ≤ _; omega) (by omega)]
      have mx := nI_max' (a := s.2) (b := s.1 + mN x) (by omega) (by omega)
      simp (decide := true) only [mq_86_18, mq_86_19, mq_86_22, mq_86_24, mq_86_25, mq_86_27, mq_86_28, mq_86_30, mq_86_33, mq_86_36, mq_86_38, mq_86_39, mq_86_42, mq_86_44, mq_86_45, mq_86_46, mq_86_48, mq_86_50, mq_86_52, mq_86_55, mq_86_56, mq_86_59, mq_86_61, mq_86_62, mq_86_63, mq_86_65, mq_86_68, hr, i1, c1, i2, c2, hh, hb, em, eb, nI_add, mx, nI_1, jb_sp, Nat.reduceAdd, Nat.reduceMul, Nat.reduceSub, Nat.zero_add, sg_bi_i, sg_bi_n, sg_bz, sg_bb, sg_b_0, sg_b_1, if_true, if_false, not_true_eq_false, not_false_eq_true, true_and, and_true, false_and, and_false, and_self, Int32.reduceSub]
    · rw [if_neg hb, ← ih (k + 1) s (sg_i (nI x)) X (by omega) h1 h2 (by omega)]
      simp (decide := true) only [mq_86_18, mq_86_19, mq_86_22, mq_86_24, mq_86_25, mq_86_27, mq_86_28, mq_86_30, mq_86_33, mq_86_36, mq_86_38, mq_86_39, mq_86_42, mq_86_44, mq_86_45, mq_86_46, mq_86_48, mq_86_50, mq_86_52, mq_86_55, mq_86_56, mq_86_59, mq_86_61, mq_86_62, mq_86_63, mq_86_65, mq_86_68, hr, i1, c1, i2, c2, hh, hb, nI_1, Nat.reduceAdd, Nat.reduceMul, Nat.reduceSub, Nat.zero_add, sg_bi_i, sg_bi_n, sg_bz, sg_bb, sg_b_0, sg_b_1, if_true, if_false, not_true_eq_false, not_false_eq_true, true_and, and_true, false_and, and_false, and_self, Int32.reduceSub]
theorem ev_done {σ : sg_M} {J : Nat} {mN bN : Nat → Nat} (hj : iv_jb σ J mN bN) (S : Nat) (hS : S < 128) (s : Nat × Nat) (h1 : s.1 ≤ 10000) (h2 : s.2 ≤ 10000) : sg_ev 86 σ [sg_r 5 12, sg_i (nI S), sg_i (nI s.1), sg_i (nI s.2)] = some (some (sg_i (nI (jb_best (σ 13) (σ 14) mN bN J S s))), σ) := by
  have := ev_done_l hj S hS (nI s.1) (nI s.2) J 0 s (sg_r 0 0) 10000 (by omega) h1 h2 (by have := hj.1; omega)
  rw [List.drop_zero, nI_0] at this
  unfold jb_best jb_srt
  rw [← this]
  simp (decide := true) only [me_86, mq_86_0, mq_86_1, mq_86_3, mq_86_4, mq_86_6, mq_86_7, Nat.reduceAdd, Nat.reduceMul, Nat.reduceSub, Nat.zero_add, sg_bi_i, sg_bi_n, sg_bz, sg_bb, sg_b_0, sg_b_1, if_true, if_false, not_true_eq_false, not_false_eq_true, true_and, and_true, false_and, and_false, and_self, Int32.reduceSub]
/-! the model's rows -/
def iv_row (M : sg_M) (l : List Nat) : Prop := M 120 30 = nI l.length ∧ ∀ k, k < l.length → M 141 k = nI (l.getD k 0)
def sg_rw (σ τ : sg_M) : Prop := (∀ j, j ≠ 30 → τ 120 j = σ 120 j) ∧ ∀ y, y ≠ 120 → y ≠ 141 → τ y = σ y
theorem rw_rfl (σ : sg_M) : sg_rw σ σ := ⟨fun _ _ => rfl, fun _ _ _ => rfl⟩
theorem rw_tr {σ τ ω : sg_M} (h : sg_rw σ τ) (k : sg_rw τ ω) : sg_rw σ ω := ⟨fun j hj => by rw [k.1 j hj, h.1 j hj], fun y h1 h2 => by rw [k.2 y h1 h2, h.2 y h1 h2]⟩
theorem rw_same {σ τ : sg_M} (h : sg_rw σ τ) : sg_same σ τ := ⟨h.2 0 (by omega) (by omega), fun j hj => h.1 j (by omega), fun y hy => h.2 y hy.2.1 (by unfold sg_kp at hy; omega), fun i hi => by rw [h.2 _ (by omega) (by omega)], by rw [h.2 3 (by omega) (by omega)]⟩
theorem getD_snoc (l : List Nat) (x k : Nat) (h : k ≤ l.length) : (l ++ [x]).getD k 0 = if k < l.length then l.getD k 0 else x := by
  rw [getD_app]
  by_cases hk : k < l.length
  · rw [if_pos hk, if_pos hk]
  · rw [if_neg hk, if_neg hk, show k - l.length = 0 by omega]; rfl
theorem em_lay (σ : sg_M) (J S : Nat) (hJ : J ≤ 7) (hS : S < 128) (hc : σ 120 26 = nI J) : ∀ n x (M : sg_M), x + n = J → sg_rw σ M → iv_row M ((List.range x).filter (jb_has S)) → ∃ M' : sg_M, sg_rv 175 7 M [sg_r 7 120, sg_i (nI S), sg_i (nI x)] [] = some (none, M') ∧ sg_rw σ M' ∧ iv_row M' ((List.range J).filter (jb_has S)) := by
  intro n
  induction n with
  | zero =>
    intro x M hx hw hr
    obtain rfl : x = J := by omega
    refine ⟨M, ?_, hw, hr⟩
    have e : M 120 26 = nI x := by rw [hw.1 26 (by omega)]; exact hc
    simp (decide := true) only [mq_175_7, mq_175_8, mq_175_9, mq_175_12, mq_175_49, e, nI_ltI (show x < 2 ^ 31 by omega) (show x < 2 ^ 31 by omega), show ¬ x < x by omega, Nat.reduceAdd, Nat.reduceMul, Nat.reduceSub, Nat.zero_add, sg_bi_i, sg_bi_n, sg_bz, sg_bb, sg_b_0, sg_b_1, if_true, if_false, not_true_eq_false, not_false_eq_true, true_and, and_true, false_and, and_false, and_self, Int32.reduceSub]
  | succ n ih =>
    intro x M hx hw hr
    have e : M 120 26 = nI J := by rw [hw.1 26 (by omega)]; exact hc
    have hh := em_hasS M (S := S) (x := x) hS (by omega)
    have hlen : ((List.range x).filter (jb_has S)).length ≤ x := by
      have := List.length_filter_le (jb_has S) (List.range x)
      rw [List.length_range] at this
      exact this
    obtain ⟨r1, r2⟩ := hr
    simp (decide := true) only [mq_175_7, mq_175_8, mq_175_9, mq_175_12, e, nI_ltI (show x < 2 ^ 31 by omega) (show J < 2 ^ 31 by omega), show x < J by omega, Nat.reduceAdd, Nat.reduceMul, Nat.reduceSub, Nat.zero_add, sg_bi_i, sg_bi_n, sg_bz, sg_bb, sg_b_0, sg_b_1, if_true, if_false, not_true_eq_false, not_false_eq_true, true_and, and_true, false_and, and_false, and_self, Int32.reduceSub]
    by_cases hb : jb_has S x = true
    · have es : (List.range (x + 1)).filter (jb_has S) = (List.range x).filter (jb_has S) ++ [x] := by rw [List.range_succ, List.filter_append, List.filter_cons, if_pos hb, List.filter_nil]
      generalize hl : (List.range x).filter (jb_has S) = l at *
      have i1 : sg_in (nI l.length) 7 = true := sg_in_nI (by omega) (by omega)
      have c1 : (nI l.length).toNatClampNeg = l.length := sg_nIc (by omega)
      have u1 : sg_up M 141 l.length (nI x) 120 = M 120 := sg_up_ne (by omega)
      obtain ⟨M', g1, g2, g3⟩ := ih (x + 1) (sg_up (sg_up M 141 l.length (nI x)) 120 30 (nI (l.length + 1))) (by omega) ⟨fun j hj => by rw [sg_up_at_ne hj, u1]; exact hw.1 j hj, fun y y1 y2 => by rw [sg_up_ne y1, sg_up_ne y2]; exact hw.2 y y1 y2⟩ (by
        rw [es]
        refine ⟨by rw [sg_up_at, List.length_append]; rfl, fun k hk => ?_⟩
        rw [List.length_append] at hk
        have hk : k < l.length + 1 := hk
        rw [sg_up_ne (by omega), sg_up_row, getD_snoc l x k (by omega)]
        by_cases hkl : k < l.length
        · rw [if_pos hkl, upd_ne (by omega)]; exact r2 k hkl
        · rw [if_neg hkl, show k = l.length by omega, upd_same])
      refine ⟨M', ?_, g2, g3⟩
      rw [← g1]
      simp (decide := true) only [mq_175_15, mq_175_16, mq_175_17, mq_175_20, mq_175_23, mq_175_24, mq_175_27, mq_175_28, mq_175_31, mq_175_32, mq_175_33, mq_175_34, mq_175_35, mq_175_38, mq_175_39, mq_175_40, mq_175_43, mq_175_46, hh, hb, r1, u1, i1, c1, nI_1, Nat.reduceAdd, Nat.reduceMul, Nat.reduceSub, Nat.zero_add, sg_bi_i, sg_bi_n, sg_bz, sg_bb, sg_b_0, sg_b_1, if_true, if_false, not_true_eq_false, not_false_eq_true, true_and, and_true, false_and, and_false, and_self, Int32.reduceSub]
    · have es : (List.range (x + 1)).filter (jb_has S) = (List.range x).filter (jb_has S) := by rw [List.range_succ, List.filter_append, List.filter_cons, if_neg hb, List.filter_nil, List.append_nil]
      obtain ⟨M', g1, g2, g3⟩ := ih (x + 1) M (by omega) hw (by rw [es]; exact ⟨r1, r2⟩)
      refine ⟨M', ?_, g2, g3⟩
      rw [← g1]
      simp (decide := true) only [mq_175_15, mq_175_16, mq_175_17, mq_175_20, mq_175_23, mq_175_24, mq_175_27, mq_175_28, mq_175_31, mq_175_32, mq_175_33, mq_175_34, mq_175_35, mq_175_38, mq_175_39, mq_175_40, mq_175_43, mq_175_46, hh, hb, nI_1, Nat.reduceAdd, Nat.reduceMul, Nat.reduceSub, Nat.zero_add, sg_bi_i, sg_bi_n, sg_bz, sg_bb, sg_b_0, sg_b_1, if_true, if_false, not_true_eq_false, not_false_eq_true, true_and, and_true, false_and, and_false, and_self, Int32.reduceSub]
theorem em_layRow (σ : sg_M) (J S : Nat) (hJ : J ≤ 7) (hS : S < 2 ^ J) (hc : σ 120 26 = nI J) : ∃ M' : sg_M, sg_ev 175 σ [sg_r 7 120, sg_i (nI S)] = some (none, M') ∧ sg_rw σ M' ∧ iv_row M' (jb_mem S) := by
  have h128 : S < 128 := Nat.lt_of_lt_of_le hS (Nat.pow_le_pow_right (n := 2) (by omega) hJ)
  obtain ⟨M', g1, g2, g3⟩ := em_lay σ J S hJ h128 hc J 0 (sg_up σ 120 30 0) (by omega) ⟨fun j hj => sg_up_at_ne hj, fun y y1 _ => sg_up_ne y1⟩ ⟨by rw [sg_up_at]; rfl, fun k hk => absurd hk (by simp)⟩
  rw [jb_mem_range hJ hS]
  refine ⟨M', ?_, g2, g3⟩
  rw [← g1]
  simp (decide := true) only [me_175, mq_175_0, mq_175_1, mq_175_2, mq_175_5, mq_175_6, nI_0, Nat.reduceAdd, Nat.reduceMul, Nat.reduceSub, Nat.zero_add, sg_bi_i, sg_bi_n, sg_bz, sg_bb, sg_b_0, sg_b_1, if_true, if_false, not_true_eq_false, not_false_eq_true, true_and, and_true, false_and, and_false, and_self, Int32.reduceSub]
theorem em_ahead (τ : sg_M) (m b : Nat → Int32) (x y : Nat) (hx : x < 7) (hy : y < 7) (h1 : τ 138 x = m x) (h2 : τ 139 x = b x) (h3 : τ 138 y = m y) (h4 : τ 139 y = b y) : sg_ev 177 τ [sg_r 7 120, sg_i (nI x), sg_i (nI y)] = some (some (sg_i (if fn_ah m b x y = true then 1 else 0)), τ) := by
  have i1 : sg_in (nI x) 7 = true := sg_in_nI (by omega) (by omega)
  have i2 : sg_in (nI y) 7 = true := sg_in_nI (by omega) (by omega)
  have c1 : (nI x).toNatClampNeg = x := sg_nIc (by omega)
  have c2 : (nI y).toNatClampNeg = y := sg_nIc (by omega)
  have n1 := le_not (m x) (b x)
  have n2 := le_not (m y) (b y)
  unfold fn_ah
  by_cases a1 : m x ≤ b x
  · by_cases a2 : m y ≤ b y
    · by_cases a3 : m x < m y <;> simp (decide := true) only [me_177, mq_177_0, mq_177_1, mq_177_4, mq_177_5, mq_177_6, mq_177_7, mq_177_10, mq_177_11, mq_177_12, mq_177_15, mq_177_16, mq_177_19, mq_177_20, mq_177_21, mq_177_22, mq_177_25, mq_177_26, mq_177_27, mq_177_28, mq_177_31, mq_177_32, mq_177_33, mq_177_36, mq_177_37, mq_177_40, mq_177_41, mq_177_43, mq_177_44, mq_177_46, mq_177_49, mq_177_50, mq_177_53, mq_177_54, mq_177_57, mq_177_58, mq_177_61, mq_177_62, mq_177_63, mq_177_64, mq_177_67, mq_177_68, mq_177_69, mq_177_72, mq_177_73, mq_177_76, mq_177_77, mq_177_80, mq_177_81, mq_177_84, mq_177_85, mq_177_86, mq_177_87, mq_177_90, mq_177_91, mq_177_92, mq_177_95, mq_177_96, mq_177_99, mq_177_100, i1, i2, c1, c2, h1, h2, h3, h4, n1, n2, a1, a2, a3, decide_true, decide_false, bne_self_eq_false, Bool.false_eq_true, Nat.reduceAdd, Nat.reduceMul, Nat.reduceSub, Nat.zero_add, sg_bi_i, sg_bi_n, sg_bz, sg_bb, sg_b_0, sg_b_1, if_true, if_false, not_true_eq_false, not_false_eq_true, true_and, and_true, false_and, and_false, and_self, Int32.reduceSub]
    · simp (decide := true) only [me_177, mq_177_0, mq_177_1, mq_177_4, mq_177_5, mq_177_6, mq_177_7, mq_177_10, mq_177_11, mq_177_12, mq_177_15, mq_177_16, mq_177_19, mq_177_20, mq_177_21, mq_177_22, mq_177_25, mq_177_26, mq_177_27, mq_177_28, mq_177_31, mq_177_32, mq_177_33, mq_177_36, mq_177_37, mq_177_40, mq_177_41, mq_177_43, mq_177_44, mq_177_46, mq_177_49, mq_177_50, mq_177_53, mq_177_54, mq_177_57, mq_177_58, mq_177_61, mq_177_62, mq_177_63, mq_177_64, mq_177_67, mq_177_68, mq_177_69, mq_177_72, mq_177_73, mq_177_76, mq_177_77, mq_177_80, mq_177_81, mq_177_84, mq_177_85, mq_177_86, mq_177_87, mq_177_90, mq_177_91, mq_177_92, mq_177_95, mq_177_96, mq_177_99, mq_177_100, i1, i2, c1, c2, h1, h2, h3, h4, n1, n2, a1, a2, decide_true, decide_false, Bool.false_eq_true, Nat.reduceAdd, Nat.reduceMul, Nat.reduceSub, Nat.zero_add, sg_bi_i, sg_bi_n, sg_bz, sg_bb, sg_b_0, sg_b_1, if_true, if_false, not_true_eq_false, not_false_eq_true, true_and, and_true, false_and, and_false, and_self, Int32.reduceSub]
  · by_cases a2 : m y ≤ b y
    · simp (decide := true) only [me_177, mq_177_0, mq_177_1, mq_177_4, mq_177_5, mq_177_6, mq_177_7, mq_177_10, mq_177_11, mq_177_12, mq_177_15, mq_177_16, mq_177_19, mq_177_20, mq_177_21, mq_177_22, mq_177_25, mq_177_26, mq_177_27, mq_177_28, mq_177_31, mq_177_32, mq_177_33, mq_177_36, mq_177_37, mq_177_40, mq_177_41, mq_177_43, mq_177_44, mq_177_46, mq_177_49, mq_177_50, mq_177_53, mq_177_54, mq_177_57, mq_177_58, mq_177_61, mq_177_62, mq_177_63, mq_177_64, mq_177_67, mq_177_68, mq_177_69, mq_177_72, mq_177_73, mq_177_76, mq_177_77, mq_177_80, mq_177_81, mq_177_84, mq_177_85, mq_177_86, mq_177_87, mq_177_90, mq_177_91, mq_177_92, mq_177_95, mq_177_96, mq_177_99, mq_177_100, i1, i2, c1, c2, h1, h2, h3, h4, n1, n2, a1, a2, decide_true, decide_false, Bool.false_eq_true, Nat.reduceAdd, Nat.reduceMul, Nat.reduceSub, Nat.zero_add, sg_bi_i, sg_bi_n, sg_bz, sg_bb, sg_b_0, sg_b_1, if_true, if_false, not_true_eq_false, not_false_eq_true, true_and, and_true, false_and, and_false, and_self, Int32.reduceSub]
    · by_cases a3 : b y < b x <;> simp (decide := true) only [me_177, mq_177_0, mq_177_1, mq_177_4, mq_177_5, mq_177_6, mq_177_7, mq_177_10, mq_177_11, mq_177_12, mq_177_15, mq_177_16, mq_177_19, mq_177_20, mq_177_21, mq_177_22, mq_177_25, mq_177_26, mq_177_27, mq_177_28, mq_177_31, mq_177_32, mq_177_33, mq_177_36, mq_177_37, mq_177_40, mq_177_41, mq_177_43, mq_177_44, mq_177_46, mq_177_49, mq_177_50, mq_177_53, mq_177_54, mq_177_57, mq_177_58, mq_177_61, mq_177_62, mq_177_63, mq_177_64, mq_177_67, mq_177_68, mq_177_69, mq_177_72, mq_177_73, mq_177_76, mq_177_77, mq_177_80, mq_177_81, mq_177_84, mq_177_85, mq_177_86, mq_177_87, mq_177_90, mq_177_91, mq_177_92, mq_177_95, mq_177_96, mq_177_99, mq_177_100, i1, i2, c1, c2, h1, h2, h3, h4, n1, n2, a1, a2, a3, decide_true, decide_false, bne_self_eq_false, Bool.false_eq_true, Nat.reduceAdd, Nat.reduceMul, Nat.reduceSub, Nat.zero_add, sg_bi_i, sg_bi_n, sg_bz, sg_bb, sg_b_0, sg_b_1, if_true, if_false, not_true_eq_false, not_false_eq_true, true_and, and_true, false_and, and_false, and_self, Int32.reduceSub]
/-- the jobs of the model -/
def iv_jm (σ : sg_M) (J : Nat) (m b : Nat → Int32) (mN bN : Nat → Nat) : Prop := J ≤ 7 ∧ σ 120 26 = nI J ∧ (∀ x, mN x ≤ 99 ∧ bN x ≤ 99) ∧ ∀ x, x < J → (m x = nI (mN x) ∧ b x = nI (bN x)) ∧ σ 138 x = m x ∧ σ 139 x = b x
theorem jm_rw {σ τ : sg_M} {J : Nat} {m b : Nat → Int32} {mN bN : Nat → Nat} (h : iv_jm σ J m b mN bN) (w : sg_rw σ τ) : iv_jm τ J m b mN bN := ⟨h.1, by rw [w.1 26 (by omega)]; exact h.2.1, h.2.2.1, fun x hx => by rw [w.2 138 (by omega) (by omega), w.2 139 (by omega) (by omega)]; exact h.2.2.2 x hx⟩
theorem em_done_l {σ : sg_M} {J : Nat} {m b : Nat → Int32} {mN bN : Nat → Nat} (hj : iv_jm σ J m b mN bN) (l : List Nat) (hl : l.length ≤ 7) (hlt : ∀ k, k < l.length → l.getD k 0 < J) (hr : iv_row σ l) : ∀ n k (s : Nat × Nat) (X : Nat), k + n = l.length → s.1 ≤ X → s.2 ≤ X → X + 198 * n ≤ 1000000 → sg_rv 178 6 σ [sg_r 7 120, sg_i (nI s.1), sg_i (nI s.2), sg_i (nI k)] [] = some (some (sg_i (nI (jb_run mN bN s (l.drop k)).2)), σ) := by
  obtain ⟨J7, hc, hbd, hab⟩ := hj
  obtain ⟨r1, r2⟩ := hr
  intro n
  induction n with
  | zero =>
    intro k s X hk h1 h2 hX
    obtain rfl : k = l.length := by omega
    rw [List.drop_length]
    simp (decide := true) only [mq_178_6, mq_178_7, mq_178_8, mq_178_11, mq_178_52, mq_178_53, r1, nI_ltI (show l.length < 2 ^ 31 by omega) (show l.length < 2 ^ 31 by omega), show ¬ l.length < l.length by omega, Nat.reduceAdd, Nat.reduceMul, Nat.reduceSub, Nat.zero_add, sg_bi_i, sg_bi_n, sg_bz, sg_bb, sg_b_0, sg_b_1, if_true, if_false, not_true_eq_false, not_false_eq_true, true_and, and_true, false_and, and_false, and_self, Int32.reduceSub]
    rfl
  | succ n ih =>
    intro k s X hk h1 h2 hX
    have hkl : k < l.length := by omega
    have hx := hlt k hkl
    have hr := r2 k hkl
    rw [drop_c hkl]
    generalize l.getD k 0 = x at hx hr
    obtain ⟨⟨em, eb⟩, e1, e2⟩ := hab x hx
    rw [em] at e1
    rw [eb] at e2
    obtain ⟨bm, bb⟩ := hbd x
    have i1 : sg_in (nI k) 7 = true := sg_in_nI (by omega) (by omega)
    have c1 : (nI k).toNatClampNeg = k := sg_nIc (by omega)
    have i2 : sg_in (nI x) 7 = true := sg_in_nI (by omega) (by omega)
    have c2 : (nI x).toNatClampNeg = x := sg_nIc (by omega)
    simp (decide := true) only [mq_178_6, mq_178_7, mq_178_8, mq_178_11, r1, nI_ltI (show k < 2 ^ 31 by omega) (show l.length < 2 ^ 31 by omega), hkl, Nat.reduceAdd, Nat.reduceMul, Nat.reduceSub, Nat.zero_add, sg_bi_i, sg_bi_n, sg_bz, sg_bb, sg_b_0, sg_b_1, if_true, if_false, not_true_eq_false, not_false_eq_true, true_and, and_true, false_and, and_false, and_self, Int32.reduceSub]
    rw [run_cons, ← ih (k + 1) (jb_sp mN bN s x) (X + 198) (by omega) (by show s.1 + mN x ≤ _; omega) (by show max s.2 (s.1 + mN x) + bN x ≤ _; omega) (by omega)]
    have mx : (if nI (s.1 + mN x) < nI s.2 then nI s.2 else nI (s.1 + mN x)) = nI (max s.2 (s.1 + mN x)) := by rw [nI_max' (by omega) (by omega), Nat.max_comm]
    simp (decide := true) only [mq_178_14, mq_178_15, mq_178_16, mq_178_19, mq_178_20, mq_178_23, mq_178_24, mq_178_25, mq_178_26, mq_178_27, mq_178_28, mq_178_29, mq_178_30, mq_178_33, mq_178_34, mq_178_37, mq_178_38, mq_178_41, mq_178_42, mq_178_43, mq_178_44, mq_178_45, mq_178_46, mq_178_49, hr, i1, c1, i2, c2, e1, e2, nI_add, em_greater, mx, nI_1, jb_sp, Nat.reduceAdd, Nat.reduceMul, Nat.reduceSub, Nat.zero_add, sg_bi_i, sg_bi_n, sg_bz, sg_bb, sg_b_0, sg_b_1, if_true, if_false, not_true_eq_false, not_false_eq_true, true_and, and_true, false_and, and_false, and_self, Int32.reduceSub]
theorem em_done {σ : sg_M} {J : Nat} {m b : Nat → Int32} {mN bN : Nat → Nat} (hj : iv_jm σ J m b mN bN) (l : List Nat) (hl : l.length ≤ 7) (hlt : ∀ k, k < l.length → l.getD k 0 < J) (hr : iv_row σ l) : sg_ev 178 σ [sg_r 7 120] = some (some (sg_i (nI (jb_run mN bN (0, 0) l).2)), σ) := by
  have := em_done_l hj l hl hlt hr l.length 0 (0, 0) 0 (by omega) (Nat.le_refl _) (Nat.le_refl _) (by omega)
  rw [List.drop_zero] at this
  rw [← this]
  simp (decide := true) only [me_178, mq_178_0, mq_178_1, mq_178_2, mq_178_3, mq_178_4, mq_178_5, nI_0, Nat.reduceAdd, Nat.reduceMul, Nat.reduceSub, Nat.zero_add, sg_bi_i, sg_bi_n, sg_bz, sg_bb, sg_b_0, sg_b_1, if_true, if_false, not_true_eq_false, not_false_eq_true, true_and, and_true, false_and, and_false, and_self, Int32.reduceSub]
