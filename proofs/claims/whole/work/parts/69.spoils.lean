/-! SPOILS -/
def fn_sl (f : Nat → Int32) : Nat → Nat → Int32 × Int32 → Int32 × Int32
  | 0, _, a => a
  | m + 1, k, a => fn_sl f m (k + 1) (if a.1 < f k then (f k, nI k) else a)
/-- the miss behind recipe q on piece p, late by d at k -/
def fn_lm (σ : sg_M) (p n q M a : Nat) (k d : Nat) : Int32 := fn_ms n a (fn_do 1 n (σ (19 + 6 * p + 1)) (fn_lt σ q) (fn_nu σ q) (nI k) d M 0 (fn_cp σ (19 + 6 * p))).2.2.1 (σ 18) (fn_do 1 n (σ (19 + 6 * p + 1)) (fn_lt σ q) (fn_nu σ q) (nI k) d M 0 (fn_cp σ (19 + 6 * p))).2.1
theorem rc_same {σ τ : sg_M} {q M : Nat} (hq : q < 6) (h : iv_rc σ q M) (s : sg_same σ τ) : iv_rc τ q M ∧ (∀ k, fn_lt τ q k = fn_lt σ q k) ∧ (∀ k, fn_nu τ q k = fn_nu σ q k) := by
  have e0 := s.sx (91 + 3 * q) (by unfold sg_kp; omega)
  have e1 := s.sx (91 + 3 * q + 1) (by unfold sg_kp; omega)
  have e2 := s.sx (91 + 3 * q + 2) (by unfold sg_kp; omega)
  have e3 := s.sx 132 (by unfold sg_kp; omega)
  have e4 := s.sx 133 (by unfold sg_kp; omega)
  have e5 := s.sx 134 (by unfold sg_kp; omega)
  refine ⟨?_, fun k => by unfold fn_lt; rw [e1], fun k => by unfold fn_nu; rw [e2]⟩
  unfold iv_rc fn_lt fn_nu at h ⊢
  rw [e0, e1, e2, e3, e4, e5]
  exact h
/-- the class: like a piece, then the recipe, then its miss -/
theorem ev_lm {B : Int} {σ : sg_M} {p n q M a d : Nat} (h : iv_all B σ) (hp : p < 8) (hpc : iv_pc B σ p n) (hq : q < 6) (hM : iv_rc σ q M) (ha : a ≤ 8) (k : Nat) (hd : d < 2 ^ 31) (τ : sg_M) (s : sg_same σ τ) : ∃ M1 ω u, sg_same σ ω ∧ sg_ev 53 τ [sg_r 2 67, sg_r 2 (19 + 6 * p)] = some (none, M1) ∧ sg_ev 46 M1 [sg_r 3 (91 + 3 * q), sg_r 2 67, sg_i (nI k), sg_i (nI d)] = some (some (sg_i u), ω) ∧ sg_ev 75 ω [sg_r 2 67, sg_r 108 18, sg_i (nI a)] = some (some (sg_i (fn_lm σ p n q M a k d)), ω) := by
  obtain ⟨l1, l2, l3, l4, l5⟩ := st_like hp hpc τ s 0 (by omega)
  simp only [Nat.mul_zero, Nat.add_zero, Nat.reduceAdd] at l1 l2 l3 l4 l5
  obtain ⟨⟨n1, n8⟩, -⟩ := id hpc
  obtain ⟨P, w, g1, g2, g3⟩ := do_both h hp hpc hq hM (nI k) (nI k) (nI d) hd (fun _ _ _ => rfl) (fun _ _ => rfl) τ s
  have sω := same_tr s (same_lk0 τ (19 + 6 * p) P w)
  refine ⟨_, _, _, sω, l1, g1, ?_⟩
  have f := ev_missOf (sg_pP (sg_lk τ 67 (19 + 6 * p)) 67 P w) 67 n a n8 ha (by rw [pP_c _ _ _ _ (by omega)]; exact l2)
  rw [f]
  have e69 : sg_pP (sg_lk τ 67 (19 + 6 * p)) 67 P w (67 + 2) = P.2.1 := pP_2 _ _ _ _
  rw [e69, pP_c7, sω.sx 18 (by unfold sg_kp; omega)]
  unfold fn_lm
  rw [fn_ms_c (n := n) (a := a) (r := P.2.1) (A := σ 18) (o := P.1) (fun i hi => (g3.2 i hi).1.symm) (fun _ _ => rfl) g3.1.symm]
theorem em_lm {B : Int} {σ : sg_M} {p n q M a d : Nat} (hp : p < 8) (hpc : iv_pc B σ p n) (hq : q < 6) (hM : iv_rc σ q M) (ha : a ≤ 8) (ha2 : σ 120 24 = nI a) (ha3 : ∀ k, k < a → σ 137 k = σ 18 k) (k : Nat) (hd : d < 2 ^ 31) (τ : sg_M) (s : sg_same σ τ) : ∃ M1 ω, sg_same σ ω ∧ sg_ev 123 τ [sg_r 7 120, sg_i (nI p)] = some (none, M1) ∧ sg_ev 149 M1 [sg_r 7 120, sg_i (nI q), sg_i (nI k), sg_i (nI d)] = some (none, ω) ∧ sg_ev 168 ω [sg_r 7 120] = some (some (sg_i (fn_lm σ p n q M a k d)), ω) := by
  have hpc' := pc_same hp hpc s
  obtain ⟨t1, t2, t3⟩ := em_take hp hpc'
  obtain ⟨r1, r2, -⟩ := tk_rl hpc'
  obtain ⟨⟨n1, n8⟩, -⟩ := id hpc
  obtain ⟨w, T, g4⟩ := em_do_of hp hpc hq hM (nI k) (nI d) 0 hd (fun _ _ _ => rfl) τ s (fn_tk τ p) (τ 131) t3
  have ec : fn_cp τ (19 + 6 * p) = fn_cp σ (19 + 6 * p) := by
    unfold fn_cp
    rw [s.sx _ (by unfold sg_kp; omega), s.sx _ (by unfold sg_kp; omega), s.sx _ (by unfold sg_kp; omega), s.sx _ (by unfold sg_kp; omega)]
  rw [ec] at r1
  rw [s.sx (19 + 6 * p + 1) (by unfold sg_kp; omega), ← tk_127] at r2
  have rel := (do_rl (on := 1) (lt := fn_lt σ q) (nu := fn_nu σ q) (lt' := fn_lt σ q) (nu' := fn_nu σ q) (late := nI k) (late' := nI k) (d := d) n1 r2 M (fun k hk => ⟨rfl, rfl, rfl⟩) M 0 _ _ (by omega) r1).2
  generalize hQ : (fn_do 1 n (sg_tk τ p 127) (fn_lt σ q) (fn_nu σ q) (nI k) d M 0 (fn_tk τ p)).2 = Q at g4 rel
  have sω := same_tr s (same_mP τ p T Q w)
  refine ⟨_, _, sω, t1, g4, ?_⟩
  have f := em_missed (sg_mP (sg_tk τ p) T Q w) n a n8 ha (by rw [mP_120 _ _ _ _ (by omega)]; exact t2) (by rw [sω.s120 24 (by omega)]; exact ha2)
  rw [f]
  have e128 : sg_mP (sg_tk τ p) T Q w 128 = Q.2.1 := by unfold sg_mP; rw [mm_128]
  rw [e128, mP_9, sω.sx 137 (by unfold sg_kp; omega)]
  unfold fn_lm
  rw [fn_ms_c (n := n) (a := a) (r := Q.2.1) (A := σ 137) (o := Q.1) (fun i hi => (rel.2 i hi).1.symm) ha3 rel.1.symm]
theorem lm_rg {B : Int} {σ : sg_M} {p n q M a d : Nat} (hpc : iv_pc B σ p n) (ha : a ≤ 8) (hA : ∀ k, k < a → 1 ≤ (σ 18 k).toInt ∧ (σ 18 k).toInt ≤ 99) (k : Nat) : ∃ s : Nat, s ≤ 3000 ∧ fn_lm σ p n q M a k d = nI s := by
  obtain ⟨⟨n1, n8⟩, -, -, -, -, hi, -⟩ := id hpc
  have hP := do_iv (on := 1) (lt := fn_lt σ q) (nu := fn_nu σ q) (late := nI k) (d := d) n1 M 0 _ hi
  unfold fn_lm
  exact fn_ms_rg n8 ha (fun i hi => ⟨(hP i (by omega)).2.1, hA i (by omega)⟩)
theorem ev_sl_l {B : Int} {σ : sg_M} {p n q M a d : Nat} (h : iv_all B σ) (hp : p < 8) (hpc : iv_pc B σ p n) (hq : q < 6) (hM : iv_rc σ q M) (ha : a ≤ 8) (ha1 : σ 0 10 = nI a) (hd : d < 2 ^ 31) (what : Int32) : ∀ m k (c : Int32 × Int32) (τ : sg_M) (y8 : sg_V), (y8 = sg_r 0 0 ∨ ∃ b, y8 = sg_i b) → k + m = M → sg_same σ τ → ∃ ω, sg_same σ ω ∧ sg_rv 80 69 τ [sg_r 1 0, sg_i (nI p), sg_i (nI q), sg_i (nI d), sg_i what, sg_i c.1, sg_i c.2, sg_i (nI k), y8] [] = some (some (sg_i (if what = 0 then (fn_sl (fun k => fn_lm σ p n q M a k d) m k c).2 else (fn_sl (fun k => fn_lm σ p n q M a k d) m k c).1)), ω) := by
  have i1 : sg_in (nI p) 8 = true := sg_in_nI (by omega) (by omega)
  have i2 : sg_in (nI q) 7 = true := sg_in_nI (by omega) (by omega)
  have i0 : sg_in (0 : Int32) 4 = true := by decide
  have cp : (nI p).toNatClampNeg = p := sg_nIc (by omega)
  have cq : (nI q).toNatClampNeg = q := sg_nIc (by omega)
  obtain ⟨m1, m8, -⟩ := id hM
  intro m
  induction m with
  | zero =>
    intro k c τ y8 hy hk s
    have e2 : τ (91 + 3 * q) 2 = nI M := (rc_same hq hM s).1.2.2.1
    refine ⟨τ, s, ?_⟩
    simp only [fn_sl]
    simp (decide := true) only [mq_80_69, mq_80_71, mq_80_72, mq_80_75, mq_80_76, mq_80_77, mq_80_80, i2, cq, e2, nI_ltI (show k < 2 ^ 31 by omega) (show M < 2 ^ 31 by omega), show ¬ k < M by omega, Nat.reduceAdd, Nat.reduceMul, Nat.reduceSub, Nat.zero_add, sg_bi_i, sg_bi_n, sg_bz, sg_bb, sg_b_0, sg_b_1, if_true, if_false, not_true_eq_false, not_false_eq_true, true_and, and_true, false_and, and_false, and_self, Int32.reduceSub]
    by_cases hw : what = 0 <;> simp (decide := true) only [mq_80_157, mq_80_159, mq_80_162, mq_80_164, mq_80_167, mq_80_169, hw, Nat.reduceAdd, Nat.reduceMul, Nat.reduceSub, Nat.zero_add, sg_bi_i, sg_bi_n, sg_bz, sg_bb, sg_b_0, sg_b_1, if_true, if_false, not_true_eq_false, not_false_eq_true, true_and, and_true, false_and, and_false, and_self, Int32.reduceSub]
  | succ m ih =>
    intro k c τ y8 hy hk s
    have e2 : τ (91 + 3 * q) 2 = nI M := (rc_same hq hM s).1.2.2.1
    obtain ⟨M1, ω1, u, s1, g1, g2, g3⟩ := ev_lm h hp hpc hq hM ha k hd τ s
    have eA : ω1 0 10 = nI a := by rw [s1.s0]; exact ha1
    simp only [fn_sl]
    simp (decide := true) only [mq_80_69, mq_80_71, mq_80_72, mq_80_75, mq_80_76, mq_80_77, mq_80_80, i2, cq, e2, nI_ltI (show k < 2 ^ 31 by omega) (show M < 2 ^ 31 by omega), show k < M by omega, Nat.reduceAdd, Nat.reduceMul, Nat.reduceSub, Nat.zero_add, sg_bi_i, sg_bi_n, sg_bz, sg_bb, sg_b_0, sg_b_1, if_true, if_false, not_true_eq_false, not_false_eq_true, true_and, and_true, false_and, and_false, and_self, Int32.reduceSub]
    by_cases hl : c.1 < fn_lm σ p n q M a k d
    · obtain ⟨ω, s2, g4⟩ := ih (k + 1) (fn_lm σ p n q M a k d, nI k) ω1 (sg_i (fn_lm σ p n q M a k d)) (Or.inr ⟨_, rfl⟩) (by omega) s1
      refine ⟨ω, s2, ?_⟩
      rw [if_pos hl, ← g4]
      rcases hy with rfl | ⟨b, rfl⟩ <;> simp (decide := true) only [mq_80_83, mq_80_84, mq_80_87, mq_80_88, mq_80_89, mq_80_90, mq_80_93, mq_80_94, mq_80_95, mq_80_98, mq_80_99, mq_80_102, mq_80_103, mq_80_104, mq_80_105, mq_80_108, mq_80_109, mq_80_110, mq_80_112, mq_80_113, mq_80_116, mq_80_117, mq_80_118, mq_80_121, mq_80_122, mq_80_123, mq_80_124, mq_80_127, mq_80_128, mq_80_131, mq_80_134, mq_80_136, mq_80_138, mq_80_140, mq_80_143, mq_80_145, mq_80_147, mq_80_149, mq_80_151, mq_80_154, i0, i1, i2, cp, cq, show (0 : Int32).toNatClampNeg = 0 from rfl, g1, g2, eA, g3, hl, nI_1, Nat.reduceAdd, Nat.reduceMul, Nat.reduceSub, Nat.zero_add, sg_bi_i, sg_bi_n, sg_bz, sg_bb, sg_b_0, sg_b_1, if_true, if_false, not_true_eq_false, not_false_eq_true, true_and, and_true, false_and, and_false, and_self, Int32.reduceSub]
    · obtain ⟨ω, s2, g4⟩ := ih (k + 1) c ω1 (sg_i (fn_lm σ p n q M a k d)) (Or.inr ⟨_, rfl⟩) (by omega) s1
      refine ⟨ω, s2, ?_⟩
      rw [if_neg hl, ← g4]
      rcases hy with rfl | ⟨b, rfl⟩ <;> simp (decide := true) only [mq_80_83, mq_80_84, mq_80_87, mq_80_88, mq_80_89, mq_80_90, mq_80_93, mq_80_94, mq_80_95, mq_80_98, mq_80_99, mq_80_102, mq_80_103, mq_80_104, mq_80_105, mq_80_108, mq_80_109, mq_80_110, mq_80_112, mq_80_113, mq_80_116, mq_80_117, mq_80_118, mq_80_121, mq_80_122, mq_80_123, mq_80_124, mq_80_127, mq_80_128, mq_80_131, mq_80_134, mq_80_136, mq_80_138, mq_80_140, mq_80_143, mq_80_145, mq_80_147, mq_80_149, mq_80_151, mq_80_154, i0, i1, i2, cp, cq, show (0 : Int32).toNatClampNeg = 0 from rfl, g1, g2, eA, g3, hl, nI_1, Nat.reduceAdd, Nat.reduceMul, Nat.reduceSub, Nat.zero_add, sg_bi_i, sg_bi_n, sg_bz, sg_bb, sg_b_0, sg_b_1, if_true, if_false, not_true_eq_false, not_false_eq_true, true_and, and_true, false_and, and_false, and_self, Int32.reduceSub]
theorem em_sl_l {B : Int} {σ : sg_M} {p n q M a d : Nat} (hp : p < 8) (hpc : iv_pc B σ p n) (hq : q < 6) (hM : iv_rc σ q M) (ha : a ≤ 8) (ha2 : σ 120 24 = nI a) (ha3 : ∀ k, k < a → σ 137 k = σ 18 k) (hd : d < 2 ^ 31) (what : Int32) : ∀ m k (c : Int32 × Int32) (τ : sg_M) (y8 : sg_V), (y8 = sg_r 0 0 ∨ ∃ b, y8 = sg_i b) → k + m = M → sg_same σ τ → ∃ ω, sg_same σ ω ∧ sg_rv 171 72 τ [sg_r 7 120, sg_i (nI p), sg_i (nI q), sg_i (nI d), sg_i what, sg_i c.2, sg_i c.1, sg_i (nI k), y8] [] = some (some (sg_i (if what = 0 then (fn_sl (fun k => fn_lm σ p n q M a k d) m k c).2 else (fn_sl (fun k => fn_lm σ p n q M a k d) m k c).1)), ω) := by
  have i2 : sg_in (nI q) 6 = true := sg_in_nI (by omega) (by omega)
  have cq : (nI q).toNatClampNeg = q := sg_nIc (by omega)
  obtain ⟨m1, m8, -⟩ := id hM
  intro m
  induction m with
  | zero =>
    intro k c τ y8 hy hk s
    have e2 : τ 132 q = nI M := (rc_same hq hM s).1.2.2.2.1
    refine ⟨τ, s, ?_⟩
    simp only [fn_sl]
    simp (decide := true) only [mq_171_72, mq_171_74, mq_171_75, mq_171_78, mq_171_79, mq_171_80, i2, cq, e2, nI_ltI (show k < 2 ^ 31 by omega) (show M < 2 ^ 31 by omega), show ¬ k < M by omega, Nat.reduceAdd, Nat.reduceMul, Nat.reduceSub, Nat.zero_add, sg_bi_i, sg_bi_n, sg_bz, sg_bb, sg_b_0, sg_b_1, if_true, if_false, not_true_eq_false, not_false_eq_true, true_and, and_true, false_and, and_false, and_self, Int32.reduceSub]
    by_cases hw : what = 0 <;> simp (decide := true) only [mq_171_123, mq_171_125, mq_171_128, mq_171_130, mq_171_133, mq_171_135, hw, Nat.reduceAdd, Nat.reduceMul, Nat.reduceSub, Nat.zero_add, sg_bi_i, sg_bi_n, sg_bz, sg_bb, sg_b_0, sg_b_1, if_true, if_false, not_true_eq_false, not_false_eq_true, true_and, and_true, false_and, and_false, and_self, Int32.reduceSub]
  | succ m ih =>
    intro k c τ y8 hy hk s
    have e2 : τ 132 q = nI M := (rc_same hq hM s).1.2.2.2.1
    obtain ⟨M1, ω1, s1, g1, g2, g3⟩ := em_lm hp hpc hq hM ha ha2 ha3 k hd τ s
    simp only [fn_sl]
    simp (decide := true) only [mq_171_72, mq_171_74, mq_171_75, mq_171_78, mq_171_79, mq_171_80, i2, cq, e2, nI_ltI (show k < 2 ^ 31 by omega) (show M < 2 ^ 31 by omega), show k < M by omega, Nat.reduceAdd, Nat.reduceMul, Nat.reduceSub, Nat.zero_add, sg_bi_i, sg_bi_n, sg_bz, sg_bb, sg_b_0, sg_b_1, if_true, if_false, not_true_eq_false, not_false_eq_true, true_and, and_true, false_and, and_false, and_self, Int32.reduceSub]
    by_cases hl : c.1 < fn_lm σ p n q M a k d
    · obtain ⟨ω, s2, g4⟩ := ih (k + 1) (fn_lm σ p n q M a k d, nI k) ω1 (sg_i (fn_lm σ p n q M a k d)) (Or.inr ⟨_, rfl⟩) (by omega) s1
      refine ⟨ω, s2, ?_⟩
      rw [if_pos hl, ← g4]
      rcases hy with rfl | ⟨b, rfl⟩ <;> simp (decide := true) only [mq_171_83, mq_171_84, mq_171_85, mq_171_88, mq_171_89, mq_171_90, mq_171_92, mq_171_93, mq_171_96, mq_171_97, mq_171_100, mq_171_102, mq_171_104, mq_171_106, mq_171_109, mq_171_111, mq_171_113, mq_171_115, mq_171_117, mq_171_120, g1, g2, g3, hl, nI_1, Nat.reduceAdd, Nat.reduceMul, Nat.reduceSub, Nat.zero_add, sg_bi_i, sg_bi_n, sg_bz, sg_bb, sg_b_0, sg_b_1, if_true, if_false, not_true_eq_false, not_false_eq_true, true_and, and_true, false_and, and_false, and_self, Int32.reduceSub]
    · obtain ⟨ω, s2, g4⟩ := ih (k + 1) c ω1 (sg_i (fn_lm σ p n q M a k d)) (Or.inr ⟨_, rfl⟩) (by omega) s1
      refine ⟨ω, s2, ?_⟩
      rw [if_neg hl, ← g4]
      rcases hy with rfl | ⟨b, rfl⟩ <;> simp (decide := true) only [mq_171_83, mq_171_84, mq_171_85, mq_171_88, mq_171_89, mq_171_90, mq_171_92, mq_171_93, mq_171_96, mq_171_97, mq_171_100, mq_171_102, mq_171_104, mq_171_106, mq_171_109, mq_171_111, mq_171_113, mq_171_115, mq_171_117, mq_171_120, g1, g2, g3, hl, nI_1, Nat.reduceAdd, Nat.reduceMul, Nat.reduceSub, Nat.zero_add, sg_bi_i, sg_bi_n, sg_bz, sg_bb, sg_b_0, sg_b_1, if_true, if_false, not_true_eq_false, not_false_eq_true, true_and, and_true, false_and, and_false, and_self, Int32.reduceSub]
theorem pr_spoils {B : Int} {σ : sg_M} (p q d what : Int32) (h : iv_all B σ) : sg_pair B σ 80 171 [sg_i p, sg_i q, sg_i d, sg_i what] := by
  rcases pc_cases h.2.2.2.2.2 p with hno | ⟨j, m, hj, rfl, hpc, hp⟩
  · refine pair_same h (sg_i (-1)) σ σ ?_ (same_rfl σ) ?_ (same_rfl σ)
    · simp (decide := true) only [me_80, mq_80_0, mq_80_1, mq_80_2, mq_80_5, mq_80_8, mq_80_9, mq_80_10, mq_80_13, mq_80_16, mq_80_17, (hno σ).1 rfl, Nat.reduceAdd, Nat.reduceMul, Nat.reduceSub, Nat.zero_add, sg_bi_i, sg_bi_n, sg_bz, sg_bb, sg_b_0, sg_b_1, if_true, if_false, not_true_eq_false, not_false_eq_true, true_and, and_true, false_and, and_false, and_self, Int32.reduceSub]
    · simp (decide := true) only [me_171, mq_171_0, mq_171_1, mq_171_2, mq_171_5, mq_171_8, mq_171_9, mq_171_10, mq_171_13, mq_171_16, mq_171_17, (hno σ).2 rfl, Nat.reduceAdd, Nat.reduceMul, Nat.reduceSub, Nat.zero_add, sg_bi_i, sg_bi_n, sg_bz, sg_bb, sg_b_0, sg_b_1, if_true, if_false, not_true_eq_false, not_false_eq_true, true_and, and_true, false_and, and_false, and_self, Int32.reduceSub]
  · have e1 := (hp σ).1 rfl
    have e2 := (hp σ).2 rfl
    have i1 : sg_in (nI j) 8 = true := sg_in_nI (by omega) (by omega)
    have cj : (nI j).toNatClampNeg = j := sg_nIc (by omega)
    obtain ⟨⟨n1, n8⟩, hn, hn2, ho, -, hi, hst⟩ := id hpc
    rcases rc_cases h.2.1 q with hno | ⟨x, M, hx, rfl, hM, hr⟩
    · refine pair_same h (sg_i (-1)) σ σ ?_ (same_rfl σ) ?_ (same_rfl σ)
      · simp (decide := true) only [me_80, mq_80_0, mq_80_1, mq_80_2, mq_80_5, mq_80_8, mq_80_9, mq_80_10, mq_80_13, mq_80_16, mq_80_17, e1, (hno σ).1 rfl, Nat.reduceAdd, Nat.reduceMul, Nat.reduceSub, Nat.zero_add, sg_bi_i, sg_bi_n, sg_bz, sg_bb, sg_b_0, sg_b_1, if_true, if_false, not_true_eq_false, not_false_eq_true, true_and, and_true, false_and, and_false, and_self, Int32.reduceSub]
      · simp (decide := true) only [me_171, mq_171_0, mq_171_1, mq_171_2, mq_171_5, mq_171_8, mq_171_9, mq_171_10, mq_171_13, mq_171_16, mq_171_17, e2, (hno σ).2 rfl, Nat.reduceAdd, Nat.reduceMul, Nat.reduceSub, Nat.zero_add, sg_bi_i, sg_bi_n, sg_bz, sg_bb, sg_b_0, sg_b_1, if_true, if_false, not_true_eq_false, not_false_eq_true, true_and, and_true, false_and, and_false, and_self, Int32.reduceSub]
    · have r1 := (hr σ).1 rfl
      have r2 := (hr σ).2 rfl
      have d64 := sg_i64 d 0 20 0 20 (by decide) (by decide)
      have w64 := sg_i64 what 0 1 0 1 (by decide) (by decide)
      obtain ⟨a, a8, a1, a2, a3⟩ := h.2.2.1
      have az := nI_z (show a < 2 ^ 31 by omega)
      by_cases hd : 0 ≤ d ∧ d ≤ 20
      · by_cases hw : 0 ≤ what ∧ what ≤ 1
        · have f1 := em_fallen hj hpc σ rfl
          by_cases ha0 : a = 0
          · refine pair_same h (sg_i (-3)) σ σ ?_ (same_rfl σ) ?_ (same_rfl σ)
            · simp (decide := true) only [me_80, mq_80_0, mq_80_1, mq_80_2, mq_80_5, mq_80_8, mq_80_9, mq_80_10, mq_80_13, mq_80_16, mq_80_17, mq_80_18, mq_80_19, mq_80_22, mq_80_25, mq_80_27, mq_80_28, mq_80_29, mq_80_32, mq_80_35, mq_80_37, mq_80_38, mq_80_39, mq_80_42, mq_80_45, mq_80_46, mq_80_49, mq_80_50, mq_80_51, mq_80_54, mq_80_57, mq_80_59, e1, r1, ev_isLate, ev_within, hd, hw, a1, az, eq_true ha0, Nat.reduceAdd, Nat.reduceMul, Nat.reduceSub, Nat.zero_add, sg_bi_i, sg_bi_n, sg_bz, sg_bb, sg_b_0, sg_b_1, if_true, if_false, not_true_eq_false, not_false_eq_true, true_and, and_true, false_and, and_false, and_self, Int32.reduceSub]
            · simp (decide := true) only [me_171, mq_171_0, mq_171_1, mq_171_2, mq_171_5, mq_171_8, mq_171_9, mq_171_10, mq_171_13, mq_171_16, mq_171_17, mq_171_18, mq_171_19, mq_171_20, mq_171_21, mq_171_24, mq_171_27, mq_171_30, mq_171_32, mq_171_33, mq_171_34, mq_171_35, mq_171_38, mq_171_41, mq_171_43, mq_171_44, mq_171_45, mq_171_48, mq_171_51, mq_171_52, mq_171_53, mq_171_56, mq_171_59, mq_171_61, e2, r2, em_in, d64, w64, hd, hw, a2, az, eq_true ha0, Nat.reduceAdd, Nat.reduceMul, Nat.reduceSub, Nat.zero_add, sg_bi_i, sg_bi_n, sg_bz, sg_bb, sg_b_0, sg_b_1, if_true, if_false, not_true_eq_false, not_false_eq_true, true_and, and_true, false_and, and_false, and_self, Int32.reduceSub]
          · by_cases hf : 40 < σ (19 + 6 * j) 7
            · refine pair_same h (sg_i (-3)) σ σ ?_ (same_rfl σ) ?_ (same_rfl σ)
              · simp (decide := true) only [me_80, mq_80_0, mq_80_1, mq_80_2, mq_80_5, mq_80_8, mq_80_9, mq_80_10, mq_80_13, mq_80_16, mq_80_17, mq_80_18, mq_80_19, mq_80_22, mq_80_25, mq_80_27, mq_80_28, mq_80_29, mq_80_32, mq_80_35, mq_80_37, mq_80_38, mq_80_39, mq_80_42, mq_80_45, mq_80_46, mq_80_49, mq_80_50, mq_80_51, mq_80_54, mq_80_57, mq_80_59, e1, r1, ev_isLate, ev_within, hd, hw, a1, az, ha0, i1, cj, ev_hasFallen, hf, Nat.reduceAdd, Nat.reduceMul, Nat.reduceSub, Nat.zero_add, sg_bi_i, sg_bi_n, sg_bz, sg_bb, sg_b_0, sg_b_1, if_true, if_false, not_true_eq_false, not_false_eq_true, true_and, and_true, false_and, and_false, and_self, Int32.reduceSub]
              · simp (decide := true) only [me_171, mq_171_0, mq_171_1, mq_171_2, mq_171_5, mq_171_8, mq_171_9, mq_171_10, mq_171_13, mq_171_16, mq_171_17, mq_171_18, mq_171_19, mq_171_20, mq_171_21, mq_171_24, mq_171_27, mq_171_30, mq_171_32, mq_171_33, mq_171_34, mq_171_35, mq_171_38, mq_171_41, mq_171_43, mq_171_44, mq_171_45, mq_171_48, mq_171_51, mq_171_52, mq_171_53, mq_171_56, mq_171_59, mq_171_61, e2, r2, em_in, d64, w64, hd, hw, a2, az, ha0, f1, hf, Nat.reduceAdd, Nat.reduceMul, Nat.reduceSub, Nat.zero_add, sg_bi_i, sg_bi_n, sg_bz, sg_bb, sg_b_0, sg_b_1, if_true, if_false, not_true_eq_false, not_false_eq_true, true_and, and_true, false_and, and_false, and_self, Int32.reduceSub]
            · obtain ⟨D, hD, rfl⟩ := nI_of2 (x := d) (M := 20) (n := 20) (by decide) (by rw [Int32.not_lt]; exact hd.1) hd.2
              obtain ⟨ω, s1, g1⟩ := ev_sl_l h hj hpc hx hM a8 a1 (show D < 2 ^ 31 by omega) what M 0 (-1, 0) σ (sg_r 0 0) (Or.inl rfl) (by omega) (same_rfl σ)
              have e2' := (hp ω).2 (s1.s120 1 (by omega))
              have r2' := (hr ω).2 (s1.s120 16 (by omega))
              have a2' : ω 120 24 = nI a := by rw [s1.s120 24 (by omega)]; exact a2
              have f1' := em_fallen hj hpc ω (s1.sx 126 (by unfold sg_kp; omega))
              obtain ⟨ω2, s2, g2⟩ := em_sl_l hj hpc hx hM a8 a2 (fun k hk => (a3 k hk).1) (show D < 2 ^ 31 by omega) what M 0 (-9, 0) ω (sg_r 0 0) (Or.inl rfl) (by omega) s1
              have same0 : fn_sl (fun k => fn_lm σ j m x M a k D) M 0 (-1, 0) = fn_sl (fun k => fn_lm σ j m x M a k D) M 0 (-9, 0) := by
                obtain ⟨y, hy⟩ : ∃ y, M = y + 1 := ⟨M - 1, by have := hM.1; omega⟩
                obtain ⟨s, hs, es⟩ := lm_rg (q := x) (M := M) (d := D) hpc a8 (fun k hk => (a3 k hk).2) 0
                have p1 : (-1 : Int32) < fn_lm σ j m x M a 0 D := by rw [es, Int32.lt_iff_toInt_lt, sg_tm1, nI_toInt (by omega)]; omega
                have p9 : (-9 : Int32) < fn_lm σ j m x M a 0 D := by rw [es, Int32.lt_iff_toInt_lt, sg_tm9, nI_toInt (by omega)]; omega
                generalize hf : (fun k => fn_lm σ j m x M a k D) = F
                have hf0 : F 0 = fn_lm σ j m x M a 0 D := by rw [← hf]
                rw [hy]
                simp only [fn_sl]
                rw [hf0, if_pos p1, if_pos p9]
              rw [← same0] at g2
              refine pair_same h (sg_i (if what = 0 then (fn_sl (fun k => fn_lm σ j m x M a k D) M 0 (-1, 0)).2 else (fn_sl (fun k => fn_lm σ j m x M a k D) M 0 (-1, 0)).1)) ω ω2 ?_ s1 ?_ (same_tr (same_sym s1) s2)
              · rw [← g1]
                simp (decide := true) only [me_80, mq_80_0, mq_80_1, mq_80_2, mq_80_5, mq_80_8, mq_80_9, mq_80_10, mq_80_13, mq_80_16, mq_80_17, mq_80_18, mq_80_19, mq_80_22, mq_80_25, mq_80_27, mq_80_28, mq_80_29, mq_80_32, mq_80_35, mq_80_37, mq_80_38, mq_80_39, mq_80_42, mq_80_45, mq_80_46, mq_80_49, mq_80_50, mq_80_51, mq_80_54, mq_80_57, mq_80_59, mq_80_60, mq_80_61, mq_80_63, mq_80_64, mq_80_66, mq_80_67, e1, r1, ev_isLate, ev_within, hd, hw, a1, az, ha0, i1, cj, ev_hasFallen, hf, Nat.reduceAdd, Nat.reduceMul, Nat.reduceSub, Nat.zero_add, sg_bi_i, sg_bi_n, sg_bz, sg_bb, sg_b_0, sg_b_1, if_true, if_false, not_true_eq_false, not_false_eq_true, true_and, and_true, false_and, and_false, and_self, Int32.reduceSub]
                rfl
              · rw [← g2]
                simp (decide := true) only [me_171, mq_171_0, mq_171_1, mq_171_2, mq_171_5, mq_171_8, mq_171_9, mq_171_10, mq_171_13, mq_171_16, mq_171_17, mq_171_18, mq_171_19, mq_171_20, mq_171_21, mq_171_24, mq_171_27, mq_171_30, mq_171_32, mq_171_33, mq_171_34, mq_171_35, mq_171_38, mq_171_41, mq_171_43, mq_171_44, mq_171_45, mq_171_48, mq_171_51, mq_171_52, mq_171_53, mq_171_56, mq_171_59, mq_171_61, mq_171_62, mq_171_63, mq_171_65, mq_171_67, mq_171_69, mq_171_70, e2', r2', em_in, d64, w64, hd, hw, a2', az, ha0, f1', hf, Nat.reduceAdd, Nat.reduceMul, Nat.reduceSub, Nat.zero_add, sg_bi_i, sg_bi_n, sg_bz, sg_bb, sg_b_0, sg_b_1, if_true, if_false, not_true_eq_false, not_false_eq_true, true_and, and_true, false_and, and_false, and_self, Int32.reduceSub]
                rfl
        · refine pair_same h (sg_i (-2)) σ σ ?_ (same_rfl σ) ?_ (same_rfl σ)
          · simp (decide := true) only [me_80, mq_80_0, mq_80_1, mq_80_2, mq_80_5, mq_80_8, mq_80_9, mq_80_10, mq_80_13, mq_80_16, mq_80_17, mq_80_18, mq_80_19, mq_80_22, mq_80_25, mq_80_27, mq_80_28, mq_80_29, mq_80_32, mq_80_35, mq_80_37, e1, r1, ev_isLate, ev_within, hd, hw, Nat.reduceAdd, Nat.reduceMul, Nat.reduceSub, Nat.zero_add, sg_bi_i, sg_bi_n, sg_bz, sg_bb, sg_b_0, sg_b_1, if_true, if_false, not_true_eq_false, not_false_eq_true, true_and, and_true, false_and, and_false, and_self, Int32.reduceSub]
          · simp (decide := true) only [me_171, mq_171_0, mq_171_1, mq_171_2, mq_171_5, mq_171_8, mq_171_9, mq_171_10, mq_171_13, mq_171_16, mq_171_17, mq_171_18, mq_171_19, mq_171_20, mq_171_21, mq_171_24, mq_171_27, mq_171_30, mq_171_32, mq_171_33, mq_171_34, mq_171_35, mq_171_38, mq_171_41, mq_171_43, e2, r2, em_in, d64, w64, hd, hw, Nat.reduceAdd, Nat.reduceMul, Nat.reduceSub, Nat.zero_add, sg_bi_i, sg_bi_n, sg_bz, sg_bb, sg_b_0, sg_b_1, if_true, if_false, not_true_eq_false, not_false_eq_true, true_and, and_true, false_and, and_false, and_self, Int32.reduceSub]
      · refine pair_same h (sg_i (-2)) σ σ ?_ (same_rfl σ) ?_ (same_rfl σ)
        · simp (decide := true) only [me_80, mq_80_0, mq_80_1, mq_80_2, mq_80_5, mq_80_8, mq_80_9, mq_80_10, mq_80_13, mq_80_16, mq_80_17, mq_80_18, mq_80_19, mq_80_22, mq_80_25, mq_80_27, mq_80_28, mq_80_29, mq_80_32, mq_80_35, mq_80_37, e1, r1, ev_isLate, ev_within, hd, Nat.reduceAdd, Nat.reduceMul, Nat.reduceSub, Nat.zero_add, sg_bi_i, sg_bi_n, sg_bz, sg_bb, sg_b_0, sg_b_1, if_true, if_false, not_true_eq_false, not_false_eq_true, true_and, and_true, false_and, and_false, and_self, Int32.reduceSub]
        · simp (decide := true) only [me_171, mq_171_0, mq_171_1, mq_171_2, mq_171_5, mq_171_8, mq_171_9, mq_171_10, mq_171_13, mq_171_16, mq_171_17, mq_171_18, mq_171_19, mq_171_20, mq_171_21, mq_171_24, mq_171_27, mq_171_30, mq_171_32, mq_171_33, mq_171_34, mq_171_35, mq_171_38, mq_171_41, mq_171_43, e2, r2, em_in, d64, w64, hd, Nat.reduceAdd, Nat.reduceMul, Nat.reduceSub, Nat.zero_add, sg_bi_i, sg_bi_n, sg_bz, sg_bb, sg_b_0, sg_b_1, if_true, if_false, not_true_eq_false, not_false_eq_true, true_and, and_true, false_and, and_false, and_self, Int32.reduceSub]
