def fn_nl (F : Nat → Int32) : Nat → Nat → Int32 × Nat → Int32 × Nat
  | 0, _, c => c
  | m + 1, row, c => fn_nl F m (row + 1) (if row = 0 ∨ F row < c.1 then (F row, row) else c)
theorem nl_lt (F : Nat → Int32) : ∀ m row c X, row + m ≤ X → c.2 < X → (fn_nl F m row c).2 < X := by
  intro m
  induction m with
  | zero => intro row c X _ h; exact h
  | succ m ih =>
    intro row c X h1 h2
    simp only [fn_nl]
    refine ih _ _ _ (by omega) ?_
    split
    · show row < X; omega
    · exact h2
section NEAR2
variable {B : Int} {σ : sg_M} {p n : Nat}
theorem ev_nl_l (h : iv_all B σ) (hp : p < 8) (hpc : iv_pc B σ p n) {R N a : Nat} (hR1 : 1 ≤ R) (hR6 : R ≤ 6) (hRc : σ 0 9 = nI R) (hRr : ∀ q, q < R → ∃ M, iv_rc σ q M) (hN : N ≤ 3) (ha : a ≤ 8) (ha1 : σ 0 10 = nI a) (kk : Int32) (T : Nat) (hT : T ≤ 216) : ∀ m row (c : Int32 × Nat) (τ : sg_M) (y8 : sg_V), row + m = T → sg_same σ τ → (∀ j, j ≤ N → (j = 0 → iv_sg σ p n τ 0 (fn_cp σ (19 + 6 * p))) ∧ (0 < row → iv_sg σ p n τ j (fn_stg σ p n R N (row - 1) j))) → ∃ (ω : sg_M) (y8' : sg_V), sg_rv 76 98 τ [sg_r 1 0, sg_i (nI p), sg_i (nI N), sg_i kk, sg_i (nI T), sg_i c.1, sg_i (nI c.2), sg_i (nI row), y8] [] = sg_rv 76 140 ω [sg_r 1 0, sg_i (nI p), sg_i (nI N), sg_i kk, sg_i (nI T), sg_i (fn_nl (fn_nm σ p n R N a) m row c).1, sg_i (nI (fn_nl (fn_nm σ p n R N a) m row c).2), sg_i (nI T), y8'] [] ∧ sg_same σ ω := by
  intro m
  induction m with
  | zero =>
    intro row c τ y8 hr s hv
    obtain rfl : row = T := by omega
    refine ⟨τ, y8, ?_, s⟩
    simp only [fn_nl]
    simp (decide := true) only [mq_76_98, mq_76_100, mq_76_102, nI_ltI (show row < 2 ^ 31 by omega) (show row < 2 ^ 31 by omega), show ¬ row < row by omega, Nat.reduceAdd, Nat.reduceMul, Nat.reduceSub, Nat.zero_add, sg_bi_i, sg_bi_n, sg_bz, sg_bb, sg_b_0, sg_b_1, if_true, if_false, not_true_eq_false, not_false_eq_true, true_and, and_true, false_and, and_false, and_self, Int32.reduceSub]
  | succ m ih =>
    intro row c τ y8 hr s hv
    have hv0 : iv_sgs σ p n R N τ row 0 := fun j hj => ⟨fun hj0 => by
      obtain rfl : j = 0 := by omega
      exact (hv 0 hj).1 rfl, fun _ hr0 => (hv j hj).2 hr0⟩
    obtain ⟨ω1, g1, g2, g3⟩ := ev_mr_l h hp hpc hR1 hR6 hRc hRr hN ha ha1 row (by omega) N 0 τ (sg_r 0 0) (by omega) s hv0
    have hmr : sg_ev 78 τ [sg_r 1 0, sg_i (nI row), sg_i (nI N)] = some (some (sg_i (fn_nm σ p n R N a row)), ω1) := by
      rw [← g1]
      simp (decide := true) only [me_78, mq_78_0, mq_78_1, nI_0, Nat.reduceAdd, Nat.reduceMul, Nat.reduceSub, Nat.zero_add, sg_bi_i, sg_bi_n, sg_bz, sg_bb, sg_b_0, sg_b_1, if_true, if_false, not_true_eq_false, not_false_eq_true, true_and, and_true, false_and, and_false, and_self, Int32.reduceSub]
    have hv1 : ∀ j, j ≤ N → (j = 0 → iv_sg σ p n ω1 0 (fn_cp σ (19 + 6 * p))) ∧ (0 < row + 1 → iv_sg σ p n ω1 j (fn_stg σ p n R N (row + 1 - 1) j)) := fun j hj => ⟨fun _ => (g3 0 (by omega)).1 (by omega), fun _ => by rw [Nat.add_sub_cancel]; exact (g3 j hj).1 hj⟩
    have rz := nI_z (show row < 2 ^ 31 by omega)
    simp only [fn_nl]
    have cl : (nI row < nI T) = True := eq_true (nI_lt (by omega) (by omega))
    by_cases hr0 : row = 0
    · obtain ⟨ω, y8', e1, e2⟩ := ih (row + 1) (fn_nm σ p n R N a row, row) ω1 (sg_i (fn_nm σ p n R N a row)) (by omega) g2 hv1
      refine ⟨ω, y8', ?_, e2⟩
      rw [if_pos (Or.inl hr0), ← e1]
      generalize hX : sg_rv 76 98 ω1 [sg_r 1 0, sg_i (nI p), sg_i (nI N), sg_i kk, sg_i (nI T), sg_i (fn_nm σ p n R N a row, row).1, sg_i (nI (fn_nm σ p n R N a row, row).2), sg_i (nI (row + 1)), sg_i (fn_nm σ p n R N a row)] [] = X
      simp (decide := true) only [mq_76_98, mq_76_100, mq_76_102, cl, Nat.reduceAdd, Nat.reduceMul, Nat.reduceSub, Nat.zero_add, sg_bi_i, sg_bi_n, sg_bz, sg_bb, sg_b_0, sg_b_1, if_true, if_false, not_true_eq_false, not_false_eq_true, true_and, and_true, false_and, and_false, and_self, Int32.reduceSub]
      simp (decide := true) only [mq_76_105, mq_76_106, mq_76_108, mq_76_109, mq_76_112, mq_76_114, mq_76_116, mq_76_119, mq_76_121, mq_76_123, mq_76_126, mq_76_128, mq_76_130, mq_76_132, mq_76_134, mq_76_137, hmr, rz, eq_true hr0, nI_1, hX, Nat.reduceAdd, Nat.reduceMul, Nat.reduceSub, Nat.zero_add, sg_bi_i, sg_bi_n, sg_bz, sg_bb, sg_b_0, sg_b_1, if_true, if_false, not_true_eq_false, not_false_eq_true, true_and, and_true, false_and, and_false, and_self, Int32.reduceSub]
    · by_cases hl : fn_nm σ p n R N a row < c.1
      · obtain ⟨ω, y8', e1, e2⟩ := ih (row + 1) (fn_nm σ p n R N a row, row) ω1 (sg_i (fn_nm σ p n R N a row)) (by omega) g2 hv1
        refine ⟨ω, y8', ?_, e2⟩
        rw [if_pos (Or.inr hl), ← e1]
        generalize hX : sg_rv 76 98 ω1 [sg_r 1 0, sg_i (nI p), sg_i (nI N), sg_i kk, sg_i (nI T), sg_i (fn_nm σ p n R N a row, row).1, sg_i (nI (fn_nm σ p n R N a row, row).2), sg_i (nI (row + 1)), sg_i (fn_nm σ p n R N a row)] [] = X
        simp (decide := true) only [mq_76_98, mq_76_100, mq_76_102, cl, Nat.reduceAdd, Nat.reduceMul, Nat.reduceSub, Nat.zero_add, sg_bi_i, sg_bi_n, sg_bz, sg_bb, sg_b_0, sg_b_1, if_true, if_false, not_true_eq_false, not_false_eq_true, true_and, and_true, false_and, and_false, and_self, Int32.reduceSub]
        simp (decide := true) only [mq_76_105, mq_76_106, mq_76_108, mq_76_109, mq_76_112, mq_76_114, mq_76_116, mq_76_119, mq_76_121, mq_76_123, mq_76_126, mq_76_128, mq_76_130, mq_76_132, mq_76_134, mq_76_137, hmr, rz, hr0, hl, nI_1, hX, Nat.reduceAdd, Nat.reduceMul, Nat.reduceSub, Nat.zero_add, sg_bi_i, sg_bi_n, sg_bz, sg_bb, sg_b_0, sg_b_1, if_true, if_false, not_true_eq_false, not_false_eq_true, true_and, and_true, false_and, and_false, and_self, Int32.reduceSub]
      · obtain ⟨ω, y8', e1, e2⟩ := ih (row + 1) c ω1 (sg_i (fn_nm σ p n R N a row)) (by omega) g2 hv1
        refine ⟨ω, y8', ?_, e2⟩
        rw [if_neg (not_or.mpr ⟨hr0, hl⟩), ← e1]
        generalize hX : sg_rv 76 98 ω1 [sg_r 1 0, sg_i (nI p), sg_i (nI N), sg_i kk, sg_i (nI T), sg_i c.1, sg_i (nI c.2), sg_i (nI (row + 1)), sg_i (fn_nm σ p n R N a row)] [] = X
        simp (decide := true) only [mq_76_98, mq_76_100, mq_76_102, cl, Nat.reduceAdd, Nat.reduceMul, Nat.reduceSub, Nat.zero_add, sg_bi_i, sg_bi_n, sg_bz, sg_bb, sg_b_0, sg_b_1, if_true, if_false, not_true_eq_false, not_false_eq_true, true_and, and_true, false_and, and_false, and_self, Int32.reduceSub]
        simp (decide := true) only [mq_76_105, mq_76_106, mq_76_108, mq_76_109, mq_76_112, mq_76_114, mq_76_116, mq_76_119, mq_76_121, mq_76_123, mq_76_126, mq_76_128, mq_76_130, mq_76_132, mq_76_134, mq_76_137, hmr, rz, hr0, hl, nI_1, hX, Nat.reduceAdd, Nat.reduceMul, Nat.reduceSub, Nat.zero_add, sg_bi_i, sg_bi_n, sg_bz, sg_bb, sg_b_0, sg_b_1, if_true, if_false, not_true_eq_false, not_false_eq_true, true_and, and_true, false_and, and_false, and_self, Int32.reduceSub]
/-- the model's recipes of a row -/
theorem em_mr_l (hp : p < 8) (hpc : iv_pc B σ p n) {R N : Nat} (hR1 : 1 ≤ R) (hR6 : R ≤ 6) (hRc : σ 120 16 = nI R) (hRr : ∀ q, q < R → ∃ M, iv_rc σ q M) (hN : N ≤ 3) (row : Nat) (hrow : row < 1000) (τ : sg_M) (s : sg_same σ τ) (kk x4 x5 x6 : Int32) : ∀ m x (T : Int32) (Q : fn_PS) (w : Nat → Int32), x + m = N → rl_ps n (fn_stg σ p n R N row x) Q → ∃ (T' : Int32) (Q' : fn_PS) (w' : Nat → Int32), sg_rv 169 137 (sg_mP (sg_tk τ p) T Q w) [sg_r 7 120, sg_i (nI p), sg_i (nI N), sg_i kk, sg_i x4, sg_i x5, sg_i x6, sg_i (nI row), sg_i (nI x)] [] = sg_rv 169 165 (sg_mP (sg_tk τ p) T' Q' w') [sg_r 7 120, sg_i (nI p), sg_i (nI N), sg_i kk, sg_i x4, sg_i x5, sg_i x6, sg_i (nI row), sg_i (nI N)] [] ∧ rl_ps n (fn_stg σ p n R N row N) Q' := by
  obtain ⟨⟨n1, n8⟩, -, -, -, -, hi, -⟩ := id hpc
  have hpc' := pc_same hp hpc s
  obtain ⟨r1, r2, -⟩ := tk_rl hpc'
  rw [s.sx (19 + 6 * p + 1) (by unfold sg_kp; omega), ← tk_127] at r2
  intro m
  induction m with
  | zero =>
    intro x T Q w hx hr
    obtain rfl : x = N := by omega
    refine ⟨T, Q, w, ?_, hr⟩
    simp (decide := true) only [mq_169_137, mq_169_139, mq_169_140, nI_ltI (show x < 2 ^ 31 by omega) (show x < 2 ^ 31 by omega), show ¬ x < x by omega, Nat.reduceAdd, Nat.reduceMul, Nat.reduceSub, Nat.zero_add, sg_bi_i, sg_bi_n, sg_bz, sg_bb, sg_b_0, sg_b_1, if_true, if_false, not_true_eq_false, not_false_eq_true, true_and, and_true, false_and, and_false, and_self, Int32.reduceSub]
  | succ m ih =>
    intro x T Q w hx hr
    have hxN : x < N := by omega
    have hdl : fn_dg R N row x < R := Nat.mod_lt _ (by omega)
    obtain ⟨M, hM⟩ := hRr _ hdl
    have e16 : sg_mP (sg_tk τ p) T Q w 120 16 = nI R := by rw [mP_120 _ _ _ _ (by omega), tk_120 _ _ (by omega), s.s120 16 (by omega)]; exact hRc
    have hin := em_recipeIn (sg_mP (sg_tk τ p) T Q w) R N row x hR1 hR6 hN hxN (by omega) e16
    have siv := stg_iv (σ := σ) (p := p) (R := R) (N := N) (row := row) n1 hi x
    have hQ := rl_iv r2 hr siv
    obtain ⟨w1, T1, g⟩ := em_do_of hp hpc (show fn_dg R N row x < 6 by omega) hM (-9) 0 T (show 0 < 2 ^ 31 by omega) (fun j hj e => by rw [(sg_nlate (by have := hM.2.1; omega)).2] at e; exact e.elim) τ s Q w hQ
    have rel := (do_rl (on := 1) (lt := fn_lt σ (fn_dg R N row x)) (nu := fn_nu σ (fn_dg R N row x)) (lt' := fn_lt σ (fn_dg R N row x)) (nu' := fn_nu σ (fn_dg R N row x)) (late := -1) (late' := -9) (d := 0) n1 r2 M (fun k hk => ⟨rfl, rfl, by rw [(sg_nlate (by have := hM.2.1; omega)).1, (sg_nlate (by have := hM.2.1; omega)).2]⟩) M 0 _ _ (by omega) hr).2
    have rel' : rl_ps n (fn_stg σ p n R N row (x + 1)) (fn_do 1 n (sg_tk τ p 127) (fn_lt σ (fn_dg R N row x)) (fn_nu σ (fn_dg R N row x)) (-9) 0 M 0 Q).2 := by
      simp only [fn_stg]
      unfold fn_rc
      rw [rM_eq hM]
      exact rel
    obtain ⟨T', Q', w', e1, e2⟩ := ih (x + 1) T1 _ w1 (by omega) rel'
    refine ⟨T', Q', w', ?_, e2⟩
    rw [← e1]
    generalize hX : sg_rv 169 137 (sg_mP (sg_tk τ p) T1 (fn_do 1 n (sg_tk τ p 127) (fn_lt σ (fn_dg R N row x)) (fn_nu σ (fn_dg R N row x)) (-9) 0 M 0 Q).2 w1) [sg_r 7 120, sg_i (nI p), sg_i (nI N), sg_i kk, sg_i x4, sg_i x5, sg_i x6, sg_i (nI row), sg_i (nI (x + 1))] [] = X
    simp (decide := true) only [mq_169_137, mq_169_139, mq_169_140, nI_ltI (show x < 2 ^ 31 by omega) (show N < 2 ^ 31 by omega), hxN, Nat.reduceAdd, Nat.reduceMul, Nat.reduceSub, Nat.zero_add, sg_bi_i, sg_bi_n, sg_bz, sg_bb, sg_b_0, sg_b_1, if_true, if_false, not_true_eq_false, not_false_eq_true, true_and, and_true, false_and, and_false, and_self, Int32.reduceSub]
    simp (decide := true) only [mq_169_143, mq_169_144, mq_169_145, mq_169_147, mq_169_148, mq_169_150, mq_169_153, mq_169_155, mq_169_156, mq_169_159, mq_169_162, hin, g, nI_1, hX, Nat.reduceAdd, Nat.reduceMul, Nat.reduceSub, Nat.zero_add, sg_bi_i, sg_bi_n, sg_bz, sg_bb, sg_b_0, sg_b_1, if_true, if_false, not_true_eq_false, not_false_eq_true, true_and, and_true, false_and, and_false, and_self, Int32.reduceSub]
theorem nm_rg (hpc : iv_pc B σ p n) {R N a : Nat} (ha : a ≤ 8) (hA : ∀ k, k < a → 1 ≤ (σ 18 k).toInt ∧ (σ 18 k).toInt ≤ 99) (row : Nat) : ∃ s : Nat, s ≤ 3000 ∧ fn_nm σ p n R N a row = nI s := by
  obtain ⟨⟨n1, n8⟩, -, -, -, -, hi, -⟩ := id hpc
  have hP := stg_iv (σ := σ) (p := p) (R := R) (N := N) (row := row) n1 hi N
  unfold fn_nm
  exact fn_ms_rg n8 ha (fun i hi => ⟨(hP i (by omega)).2.1, hA i (by omega)⟩)
theorem em_nl_l (hp : p < 8) (hpc : iv_pc B σ p n) {R N a : Nat} (hR1 : 1 ≤ R) (hR6 : R ≤ 6) (hRc : σ 120 16 = nI R) (hRr : ∀ q, q < R → ∃ M, iv_rc σ q M) (hN : N ≤ 3) (ha : a ≤ 8) (ha2 : σ 120 24 = nI a) (ha3 : ∀ k, k < a → σ 137 k = σ 18 k) (hA : ∀ k, k < a → 1 ≤ (σ 18 k).toInt ∧ (σ 18 k).toInt ≤ 99) (kk : Int32) (T : Nat) (hT : T ≤ 216) : ∀ m row (c : Int32 × Nat) (τ : sg_M) (y8 : sg_V), row + m = T → sg_same σ τ → (row = 0 → c.1 < 0) → (0 < row → ¬ c.1 < 0) → ∃ (ω : sg_M) (y8' : sg_V), sg_rv 169 122 τ [sg_r 7 120, sg_i (nI p), sg_i (nI N), sg_i kk, sg_i (nI T), sg_i (nI c.2), sg_i c.1, sg_i (nI row), y8] [] = sg_rv 169 197 ω [sg_r 7 120, sg_i (nI p), sg_i (nI N), sg_i kk, sg_i (nI T), sg_i (nI (fn_nl (fn_nm σ p n R N a) m row c).2), sg_i (fn_nl (fn_nm σ p n R N a) m row c).1, sg_i (nI T), y8'] [] ∧ sg_same σ ω := by
  obtain ⟨⟨n1, n8⟩, -⟩ := id hpc
  intro m
  induction m with
  | zero =>
    intro row c τ y8 hr s _ _
    obtain rfl : row = T := by omega
    refine ⟨τ, y8, ?_, s⟩
    simp only [fn_nl]
    simp (decide := true) only [mq_169_122, mq_169_124, mq_169_126, nI_ltI (show row < 2 ^ 31 by omega) (show row < 2 ^ 31 by omega), show ¬ row < row by omega, Nat.reduceAdd, Nat.reduceMul, Nat.reduceSub, Nat.zero_add, sg_bi_i, sg_bi_n, sg_bz, sg_bb, sg_b_0, sg_b_1, if_true, if_false, not_true_eq_false, not_false_eq_true, true_and, and_true, false_and, and_false, and_self, Int32.reduceSub]
  | succ m ih =>
    intro row c τ y8 hr s hc0 hc1
    have hpc' := pc_same hp hpc s
    obtain ⟨t1, t2, t3⟩ := em_take hp hpc'
    obtain ⟨r1, r2, -⟩ := tk_rl hpc'
    have ec : fn_cp τ (19 + 6 * p) = fn_cp σ (19 + 6 * p) := by
      unfold fn_cp
      rw [s.sx _ (by unfold sg_kp; omega), s.sx _ (by unfold sg_kp; omega), s.sx _ (by unfold sg_kp; omega), s.sx _ (by unfold sg_kp; omega)]
    rw [ec] at r1
    obtain ⟨T', Q, w, g1, g2⟩ := em_mr_l hp hpc hR1 hR6 hRc hRr hN row (by omega) τ s kk (nI T) (nI c.2) c.1 N 0 0 (fn_tk τ p) (τ 131) (by omega) r1
    have sω := same_tr s (same_mP τ p T' Q w)
    have f := em_missed (sg_mP (sg_tk τ p) T' Q w) n a n8 ha (by rw [mP_120 _ _ _ _ (by omega)]; exact t2) (by rw [sω.s120 24 (by omega)]; exact ha2)
    have e128 : sg_mP (sg_tk τ p) T' Q w 128 = Q.2.1 := by unfold sg_mP; rw [mm_128]
    have ef : fn_ms n a (sg_mP (sg_tk τ p) T' Q w 128) (sg_mP (sg_tk τ p) T' Q w 137) (sg_mP (sg_tk τ p) T' Q w 120 9) = fn_nm σ p n R N a row := by
      rw [e128, mP_9, sω.sx 137 (by unfold sg_kp; omega)]
      unfold fn_nm
      exact fn_ms_c (fun i hi => (g2.2 i hi).1.symm) ha3 g2.1.symm
    rw [ef] at f
    obtain ⟨v, hv, ev⟩ := nm_rg (R := R) (N := N) hpc ha hA row
    have nn : ¬ fn_nm σ p n R N a row < 0 := by rw [ev]; exact nI_pos (by omega)
    have cl : (nI row < nI T) = True := eq_true (nI_lt (by omega) (by omega))
    have head : sg_rv 169 122 τ [sg_r 7 120, sg_i (nI p), sg_i (nI N), sg_i kk, sg_i (nI T), sg_i (nI c.2), sg_i c.1, sg_i (nI row), y8] [] = sg_rv 169 171 (sg_mP (sg_tk τ p) T' Q w) [sg_r 7 120, sg_i (nI p), sg_i (nI N), sg_i kk, sg_i (nI T), sg_i (nI c.2), sg_i c.1, sg_i (nI row), sg_i (fn_nm σ p n R N a row)] [] := by
      rw [nI_0] at g1
      simp (decide := true) only [mq_169_122, mq_169_124, mq_169_126, mq_169_129, mq_169_130, mq_169_131, mq_169_134, mq_169_135, cl, t1, g1, Nat.reduceAdd, Nat.reduceMul, Nat.reduceSub, Nat.zero_add, sg_bi_i, sg_bi_n, sg_bz, sg_bb, sg_b_0, sg_b_1, if_true, if_false, not_true_eq_false, not_false_eq_true, true_and, and_true, false_and, and_false, and_self, Int32.reduceSub]
      simp (decide := true) only [mq_169_165, mq_169_166, mq_169_169, f, Nat.reduceAdd, Nat.reduceMul, Nat.reduceSub, Nat.zero_add, sg_bi_i, sg_bi_n, sg_bz, sg_bb, sg_b_0, sg_b_1, if_true, if_false, not_true_eq_false, not_false_eq_true, true_and, and_true, false_and, and_false, and_self, Int32.reduceSub]
    rw [head]
    simp only [fn_nl]
    by_cases hr0 : row = 0
    · have c0 := hc0 hr0
      obtain ⟨ω, y8', e1, e2⟩ := ih (row + 1) (fn_nm σ p n R N a row, row) (sg_mP (sg_tk τ p) T' Q w) (sg_i (fn_nm σ p n R N a row)) (by omega) sω (fun z => absurd z (by omega)) (fun _ => nn)
      refine ⟨ω, y8', ?_, e2⟩
      rw [if_pos (Or.inl hr0), ← e1]
      simp (decide := true) only [mq_169_171, mq_169_173, mq_169_176, mq_169_178, mq_169_180, mq_169_183, mq_169_185, mq_169_187, mq_169_189, mq_169_191, mq_169_194, c0, nI_1, Nat.reduceAdd, Nat.reduceMul, Nat.reduceSub, Nat.zero_add, sg_bi_i, sg_bi_n, sg_bz, sg_bb, sg_b_0, sg_b_1, if_true, if_false, not_true_eq_false, not_false_eq_true, true_and, and_true, false_and, and_false, and_self, Int32.reduceSub]
    · have c1 := hc1 (by omega)
      by_cases hl : fn_nm σ p n R N a row < c.1
      · obtain ⟨ω, y8', e1, e2⟩ := ih (row + 1) (fn_nm σ p n R N a row, row) (sg_mP (sg_tk τ p) T' Q w) (sg_i (fn_nm σ p n R N a row)) (by omega) sω (fun z => absurd z (by omega)) (fun _ => nn)
        refine ⟨ω, y8', ?_, e2⟩
        rw [if_pos (Or.inr hl), ← e1]
        simp (decide := true) only [mq_169_171, mq_169_173, mq_169_176, mq_169_178, mq_169_180, mq_169_183, mq_169_185, mq_169_187, mq_169_189, mq_169_191, mq_169_194, c1, hl, nI_1, Nat.reduceAdd, Nat.reduceMul, Nat.reduceSub, Nat.zero_add, sg_bi_i, sg_bi_n, sg_bz, sg_bb, sg_b_0, sg_b_1, if_true, if_false, not_true_eq_false, not_false_eq_true, true_and, and_true, false_and, and_false, and_self, Int32.reduceSub]
      · obtain ⟨ω, y8', e1, e2⟩ := ih (row + 1) c (sg_mP (sg_tk τ p) T' Q w) (sg_i (fn_nm σ p n R N a row)) (by omega) sω (fun z => absurd z (by omega)) (fun _ => c1)
        refine ⟨ω, y8', ?_, e2⟩
        rw [if_neg (not_or.mpr ⟨hr0, hl⟩), ← e1]
        simp (decide := true) only [mq_169_171, mq_169_173, mq_169_176, mq_169_178, mq_169_180, mq_169_183, mq_169_185, mq_169_187, mq_169_189, mq_169_191, mq_169_194, c1, hl, nI_1, Nat.reduceAdd, Nat.reduceMul, Nat.reduceSub, Nat.zero_add, sg_bi_i, sg_bi_n, sg_bz, sg_bb, sg_b_0, sg_b_1, if_true, if_false, not_true_eq_false, not_false_eq_true, true_and, and_true, false_and, and_false, and_self, Int32.reduceSub]
end NEAR2
theorem em_rows {R N : Nat} (h1 : 1 ≤ N) (h3 : N ≤ 3) : (if nI N = 1 then nI R else if nI N = 2 then nI R * nI R else nI R * nI R * nI R) = nI (R ^ N) := by
  rcases (show N = 1 ∨ N = 2 ∨ N = 3 by omega) with rfl | rfl | rfl
  · rw [if_pos (show nI 1 = 1 from rfl), Nat.pow_one]
  · rw [if_neg (by decide), if_pos (show nI 2 = 2 from rfl), pk_mul, Nat.pow_two]
  · rw [if_neg (by decide), if_neg (by decide), pk_mul, pk_mul, Nat.pow_succ, Nat.pow_two]
theorem pr_nearest {B : Int} {σ : sg_M} (pc N k : Int32) (h : iv_all B σ) : sg_pair B σ 76 169 [sg_i pc, sg_i N, sg_i k] := by
  rcases pc_cases h.2.2.2.2.2 pc with hno | ⟨p, n, hp8, rfl, hpc, hp⟩
  · refine pair_same h (sg_i (-1)) σ σ ?_ (same_rfl σ) ?_ (same_rfl σ)
    · simp (decide := true) only [me_76, mq_76_0, mq_76_1, mq_76_2, mq_76_5, mq_76_8, mq_76_9, (hno σ).1 rfl, Nat.reduceAdd, Nat.reduceMul, Nat.reduceSub, Nat.zero_add, sg_bi_i, sg_bi_n, sg_bz, sg_bb, sg_b_0, sg_b_1, if_true, if_false, not_true_eq_false, not_false_eq_true, true_and, and_true, false_and, and_false, and_self, Int32.reduceSub]
    · simp (decide := true) only [me_169, mq_169_0, mq_169_1, mq_169_2, mq_169_5, mq_169_8, mq_169_9, (hno σ).2 rfl, Nat.reduceAdd, Nat.reduceMul, Nat.reduceSub, Nat.zero_add, sg_bi_i, sg_bi_n, sg_bz, sg_bb, sg_b_0, sg_b_1, if_true, if_false, not_true_eq_false, not_false_eq_true, true_and, and_true, false_and, and_false, and_self, Int32.reduceSub]
  · have e1 := (hp σ).1 rfl
    have e2 := (hp σ).2 rfl
    have i1 : sg_in (nI p) 8 = true := sg_in_nI (by omega) (by omega)
    have cp : (nI p).toNatClampNeg = p := sg_nIc (by omega)
    have i0 : sg_in (0 : Int32) 4 = true := by decide
    have N64 := sg_i64 N 1 3 1 3 (by decide) (by decide)
    by_cases hN : 1 ≤ N ∧ N ≤ 3
    · obtain ⟨N', hN3, rfl⟩ := nI_of2 (x := N) (M := 3) (n := 3) (by decide) (fun z => by
        have := hN.1
        rw [Int32.le_iff_toInt_le, sg_t1] at this
        rw [Int32.lt_iff_toInt_lt, sg_t0] at z
        omega) hN.2
      have hN1 : 1 ≤ N' := by
        have := hN.1
        rw [show (1 : Int32) = nI 1 from rfl, nI_leI (by omega) (by omega)] at this
        exact this
      have k64 : (-1 ≤ k.toInt64 ∧ k.toInt64 ≤ (nI N').toInt64 - 1) = (-1 ≤ k ∧ k ≤ nI N' - 1) := sg_i64p k (-1) (nI N') (-1) (by decide) (nI_nmin (by omega))
      by_cases hk : -1 ≤ k ∧ k ≤ nI N' - 1
      · obtain ⟨a, a8, a1, a2, a3⟩ := h.2.2.1
        obtain ⟨R, R6, hR1, hR2, hR3⟩ := h.2.1
        have az := nI_z (show a < 2 ^ 31 by omega)
        have rz := nI_z (show R < 2 ^ 31 by omega)
        have f1 := em_fallen hp8 hpc σ rfl
        by_cases ha0 : a = 0
        · refine pair_same h (sg_i (-3)) σ σ ?_ (same_rfl σ) ?_ (same_rfl σ)
          · simp (decide := true) only [me_76, mq_76_0, mq_76_1, mq_76_2, mq_76_5, mq_76_8, mq_76_9, mq_76_10, mq_76_11, mq_76_12, mq_76_13, mq_76_16, mq_76_19, mq_76_21, mq_76_22, mq_76_23, mq_76_24, mq_76_25, mq_76_26, mq_76_27, mq_76_30, mq_76_33, mq_76_34, mq_76_35, mq_76_36, mq_76_39, mq_76_42, mq_76_43, mq_76_46, mq_76_49, mq_76_50, mq_76_53, mq_76_54, mq_76_55, mq_76_58, mq_76_61, mq_76_63, e1, ev_within, hN, hk, a1, az, eq_true ha0, Nat.reduceAdd, Nat.reduceMul, Nat.reduceSub, Nat.zero_add, sg_bi_i, sg_bi_n, sg_bz, sg_bb, sg_b_0, sg_b_1, if_true, if_false, not_true_eq_false, not_false_eq_true, true_and, and_true, false_and, and_false, and_self, Int32.reduceSub]
          · simp (decide := true) only [me_169, mq_169_0, mq_169_1, mq_169_2, mq_169_5, mq_169_8, mq_169_9, mq_169_10, mq_169_11, mq_169_12, mq_169_13, mq_169_16, mq_169_19, mq_169_22, mq_169_24, mq_169_25, mq_169_26, mq_169_27, mq_169_30, mq_169_31, mq_169_32, mq_169_33, mq_169_34, mq_169_37, mq_169_40, mq_169_41, mq_169_42, mq_169_43, mq_169_46, mq_169_49, mq_169_50, mq_169_53, mq_169_56, mq_169_57, mq_169_58, mq_169_61, mq_169_64, mq_169_66, e2, em_in, N64, hN, k64, hk, a2, az, eq_true ha0, Nat.reduceAdd, Nat.reduceMul, Nat.reduceSub, Nat.zero_add, sg_bi_i, sg_bi_n, sg_bz, sg_bb, sg_b_0, sg_b_1, if_true, if_false, not_true_eq_false, not_false_eq_true, true_and, and_true, false_and, and_false, and_self, Int32.reduceSub]
        · by_cases hR0 : R = 0
          · refine pair_same h (sg_i (-3)) σ σ ?_ (same_rfl σ) ?_ (same_rfl σ)
            · simp (decide := true) only [me_76, mq_76_0, mq_76_1, mq_76_2, mq_76_5, mq_76_8, mq_76_9, mq_76_10, mq_76_11, mq_76_12, mq_76_13, mq_76_16, mq_76_19, mq_76_21, mq_76_22, mq_76_23, mq_76_24, mq_76_25, mq_76_26, mq_76_27, mq_76_30, mq_76_33, mq_76_34, mq_76_35, mq_76_36, mq_76_39, mq_76_42, mq_76_43, mq_76_46, mq_76_49, mq_76_50, mq_76_53, mq_76_54, mq_76_55, mq_76_58, mq_76_61, mq_76_63, e1, ev_within, hN, hk, a1, az, ha0, hR1, rz, eq_true hR0, Nat.reduceAdd, Nat.reduceMul, Nat.reduceSub, Nat.zero_add, sg_bi_i, sg_bi_n, sg_bz, sg_bb, sg_b_0, sg_b_1, if_true, if_false, not_true_eq_false, not_false_eq_true, true_and, and_true, false_and, and_false, and_self, Int32.reduceSub]
            · simp (decide := true) only [me_169, mq_169_0, mq_169_1, mq_169_2, mq_169_5, mq_169_8, mq_169_9, mq_169_10, mq_169_11, mq_169_12, mq_169_13, mq_169_16, mq_169_19, mq_169_22, mq_169_24, mq_169_25, mq_169_26, mq_169_27, mq_169_30, mq_169_31, mq_169_32, mq_169_33, mq_169_34, mq_169_37, mq_169_40, mq_169_41, mq_169_42, mq_169_43, mq_169_46, mq_169_49, mq_169_50, mq_169_53, mq_169_56, mq_169_57, mq_169_58, mq_169_61, mq_169_64, mq_169_66, e2, em_in, N64, hN, k64, hk, a2, az, ha0, hR2, rz, eq_true hR0, Nat.reduceAdd, Nat.reduceMul, Nat.reduceSub, Nat.zero_add, sg_bi_i, sg_bi_n, sg_bz, sg_bb, sg_b_0, sg_b_1, if_true, if_false, not_true_eq_false, not_false_eq_true, true_and, and_true, false_and, and_false, and_self, Int32.reduceSub]
          · by_cases hf : 40 < σ (19 + 6 * p) 7
            · refine pair_same h (sg_i (-3)) σ σ ?_ (same_rfl σ) ?_ (same_rfl σ)
              · simp (decide := true) only [me_76, mq_76_0, mq_76_1, mq_76_2, mq_76_5, mq_76_8, mq_76_9, mq_76_10, mq_76_11, mq_76_12, mq_76_13, mq_76_16, mq_76_19, mq_76_21, mq_76_22, mq_76_23, mq_76_24, mq_76_25, mq_76_26, mq_76_27, mq_76_30, mq_76_33, mq_76_34, mq_76_35, mq_76_36, mq_76_39, mq_76_42, mq_76_43, mq_76_46, mq_76_49, mq_76_50, mq_76_53, mq_76_54, mq_76_55, mq_76_58, mq_76_61, mq_76_63, e1, ev_within, hN, hk, a1, az, ha0, hR1, rz, hR0, i1, cp, ev_hasFallen, hf, Nat.reduceAdd, Nat.reduceMul, Nat.reduceSub, Nat.zero_add, sg_bi_i, sg_bi_n, sg_bz, sg_bb, sg_b_0, sg_b_1, if_true, if_false, not_true_eq_false, not_false_eq_true, true_and, and_true, false_and, and_false, and_self, Int32.reduceSub]
              · simp (decide := true) only [me_169, mq_169_0, mq_169_1, mq_169_2, mq_169_5, mq_169_8, mq_169_9, mq_169_10, mq_169_11, mq_169_12, mq_169_13, mq_169_16, mq_169_19, mq_169_22, mq_169_24, mq_169_25, mq_169_26, mq_169_27, mq_169_30, mq_169_31, mq_169_32, mq_169_33, mq_169_34, mq_169_37, mq_169_40, mq_169_41, mq_169_42, mq_169_43, mq_169_46, mq_169_49, mq_169_50, mq_169_53, mq_169_56, mq_169_57, mq_169_58, mq_169_61, mq_169_64, mq_169_66, e2, em_in, N64, hN, k64, hk, a2, az, ha0, hR2, rz, hR0, f1, hf, Nat.reduceAdd, Nat.reduceMul, Nat.reduceSub, Nat.zero_add, sg_bi_i, sg_bi_n, sg_bz, sg_bb, sg_b_0, sg_b_1, if_true, if_false, not_true_eq_false, not_false_eq_true, true_and, and_true, false_and, and_false, and_self, Int32.reduceSub]
            · have R1 : 1 ≤ R := by omega
              obtain ⟨q1, q2⟩ := pow_b (R := R) (j := N') R1 R6 hN3
              -- the class
              obtain ⟨l1, l2, l3, l4, l5⟩ := st_like hp8 hpc σ (same_rfl σ) 0 (by omega)
              have sl := same_lk σ 0 (19 + 6 * p) (by omega) (fn_lkP σ (67 + 6 * 0) (19 + 6 * p)) (σ (67 + 6 * 0 + 5))
              generalize hS : sg_pP (sg_lk σ (67 + 6 * 0) (19 + 6 * p)) (67 + 6 * 0) (fn_lkP σ (67 + 6 * 0) (19 + 6 * p)) (σ (67 + 6 * 0 + 5)) = S at l1 sl
              have v0 : iv_sg σ p n S 0 (fn_cp σ (19 + 6 * p)) := by
                refine ⟨?_, fun i hi => ?_, ?_⟩
                · rw [← hS, pP_c _ _ _ _ (by omega)]; exact l2
                · rw [← hS, pP_1]; exact l3 i hi
                · have : fn_cp S (67 + 6 * 0) = fn_lkP σ (67 + 6 * 0) (19 + 6 * p) := by
                    rw [← hS]
                    unfold fn_cp
                    rw [pP_c7, pP_2, pP_3, pP_4]
                  rw [this]; exact l4
              obtain ⟨ω1, y8, g1, g2⟩ := ev_nl_l h hp8 hpc R1 R6 hR1 hR3 hN3 a8 a1 k (R ^ N') q2 (R ^ N') 0 (0, 0) S (sg_r 0 0) (by omega) sl (fun j _ => ⟨fun _ => v0, fun z => absurd z (by omega)⟩)
              -- the model
              obtain ⟨ω2, z8, m1, m2⟩ := em_nl_l hp8 hpc R1 R6 hR2 hR3 hN3 a8 a2 (fun i hi => (a3 i hi).1) (fun i hi => (a3 i hi).2) k (R ^ N') q2 (R ^ N') 0 (-9, 0) ω1 (sg_r 0 0) (by omega) g2 (fun _ => by decide) (fun z => absurd z (by omega))
              have same0 : fn_nl (fn_nm σ p n R N' a) (R ^ N') 0 (0, 0) = fn_nl (fn_nm σ p n R N' a) (R ^ N') 0 (-9, 0) := by
                obtain ⟨y, hy⟩ : ∃ y, R ^ N' = y + 1 := ⟨R ^ N' - 1, by omega⟩
                rw [hy]
                simp only [fn_nl, true_or, if_true]
              rw [← same0] at m1
              have lt := nl_lt (fn_nm σ p n R N' a) (R ^ N') 0 (0, 0) (R ^ N') (by omega) (by show 0 < R ^ N'; omega)
              generalize hX : fn_nl (fn_nm σ p n R N' a) (R ^ N') 0 (0, 0) = X at g1 m1 lt
              have e9 : S 0 9 = nI R := by rw [sl.s0]; exact hR1
              have hpw := ev_power S R N' (by omega)
              have e2' := (hp ω1).2 (g2.s120 1 (by omega))
              have a2' : ω1 120 24 = nI a := by rw [g2.s120 24 (by omega)]; exact a2
              have r2' : ω1 120 16 = nI R := by rw [g2.s120 16 (by omega)]; exact hR2
              have f1' := em_fallen hp8 hpc ω1 (g2.sx 126 (by unfold sg_kp; omega))
              have er := em_rows (R := R) hN1 hN3
              simp only [Nat.mul_zero, Nat.add_zero] at l1
              have cl : sg_ev 76 σ [sg_r 1 0, sg_i (nI p), sg_i (nI N'), sg_i k] = sg_rv 76 140 ω1 [sg_r 1 0, sg_i (nI p), sg_i (nI N'), sg_i k, sg_i (nI (R ^ N')), sg_i X.1, sg_i (nI X.2), sg_i (nI (R ^ N')), y8] [] := by
                rw [← g1]
                simp (decide := true) only [me_76, mq_76_0, mq_76_1, mq_76_2, mq_76_5, mq_76_8, mq_76_9, mq_76_10, mq_76_11, mq_76_12, mq_76_13, mq_76_16, mq_76_19, mq_76_21, mq_76_22, mq_76_23, mq_76_24, mq_76_25, mq_76_26, mq_76_27, mq_76_30, mq_76_33, mq_76_34, mq_76_35, mq_76_36, mq_76_39, mq_76_42, mq_76_43, mq_76_46, mq_76_49, mq_76_50, mq_76_53, mq_76_54, mq_76_55, mq_76_58, mq_76_61, mq_76_63, mq_76_64, mq_76_65, mq_76_68, mq_76_69, mq_76_70, mq_76_71, mq_76_74, mq_76_75, mq_76_76, mq_76_79, mq_76_80, mq_76_83, mq_76_84, mq_76_87, mq_76_89, mq_76_90, mq_76_92, mq_76_93, mq_76_95, mq_76_96, e1, ev_within, hN, hk, a1, az, ha0, hR1, rz, hR0, i1, cp, ev_hasFallen, hf, i0, show (0 : Int32).toNatClampNeg = 0 from rfl, l1, e9, hpw, nI_0, Nat.reduceAdd, Nat.reduceMul, Nat.reduceSub, Nat.zero_add, sg_bi_i, sg_bi_n, sg_bz, sg_bb, sg_b_0, sg_b_1, if_true, if_false, not_true_eq_false, not_false_eq_true, true_and, and_true, false_and, and_false, and_self, Int32.reduceSub]
              have cm : sg_ev 169 ω1 [sg_r 7 120, sg_i (nI p), sg_i (nI N'), sg_i k] = sg_rv 169 197 ω2 [sg_r 7 120, sg_i (nI p), sg_i (nI N'), sg_i k, sg_i (nI (R ^ N')), sg_i (nI X.2), sg_i X.1, sg_i (nI (R ^ N')), z8] [] := by
                rw [← m1, ← er]
                rcases (show N' = 1 ∨ N' = 2 ∨ N' = 3 by omega) with rfl | rfl | rfl
                · simp (decide := true) only [me_169, mq_169_0, mq_169_1, mq_169_2, mq_169_5, mq_169_8, mq_169_9, mq_169_10, mq_169_11, mq_169_12, mq_169_13, mq_169_16, mq_169_19, mq_169_22, mq_169_24, mq_169_25, mq_169_26, mq_169_27, mq_169_30, mq_169_31, mq_169_32, mq_169_33, mq_169_34, mq_169_37, mq_169_40, mq_169_41, mq_169_42, mq_169_43, mq_169_46, mq_169_49, mq_169_50, mq_169_53, mq_169_56, mq_169_57, mq_169_58, mq_169_61, mq_169_64, mq_169_66, mq_169_67, mq_169_68, mq_169_69, mq_169_72, mq_169_73, mq_169_76, mq_169_79, mq_169_80, mq_169_81, mq_169_84, mq_169_85, mq_169_88, mq_169_89, mq_169_92, mq_169_93, mq_169_96, mq_169_97, mq_169_100, mq_169_101, mq_169_104, mq_169_105, mq_169_106, mq_169_109, mq_169_110, mq_169_112, mq_169_113, mq_169_115, mq_169_117, mq_169_119, mq_169_120, e2', em_in, N64, hN, k64, hk, a2', az, ha0, r2', rz, hR0, f1', hf, nI_0, Nat.reduceAdd, Nat.reduceMul, Nat.reduceSub, Nat.zero_add, sg_bi_i, sg_bi_n, sg_bz, sg_bb, sg_b_0, sg_b_1, if_true, if_false, not_true_eq_false, not_false_eq_true, true_and, and_true, false_and, and_false, and_self, Int32.reduceSub]
                · simp (decide := true) only [me_169, mq_169_0, mq_169_1, mq_169_2, mq_169_5, mq_169_8, mq_169_9, mq_169_10, mq_169_11, mq_169_12, mq_169_13, mq_169_16, mq_169_19, mq_169_22, mq_169_24, mq_169_25, mq_169_26, mq_169_27, mq_169_30, mq_169_31, mq_169_32, mq_169_33, mq_169_34, mq_169_37, mq_169_40, mq_169_41, mq_169_42, mq_169_43, mq_169_46, mq_169_49, mq_169_50, mq_169_53, mq_169_56, mq_169_57, mq_169_58, mq_169_61, mq_169_64, mq_169_66, mq_169_67, mq_169_68, mq_169_69, mq_169_72, mq_169_73, mq_169_76, mq_169_79, mq_169_80, mq_169_81, mq_169_84, mq_169_85, mq_169_88, mq_169_89, mq_169_92, mq_169_93, mq_169_96, mq_169_97, mq_169_100, mq_169_101, mq_169_104, mq_169_105, mq_169_106, mq_169_109, mq_169_110, mq_169_112, mq_169_113, mq_169_115, mq_169_117, mq_169_119, mq_169_120, e2', em_in, N64, hN, k64, hk, a2', az, ha0, r2', rz, hR0, f1', hf, nI_0, Nat.reduceAdd, Nat.reduceMul, Nat.reduceSub, Nat.zero_add, sg_bi_i, sg_bi_n, sg_bz, sg_bb, sg_b_0, sg_b_1, if_true, if_false, not_true_eq_false, not_false_eq_true, true_and, and_true, false_and, and_false, and_self, Int32.reduceSub]
                · simp (decide := true) only [me_169, mq_169_0, mq_169_1, mq_169_2, mq_169_5, mq_169_8, mq_169_9, mq_169_10, mq_169_11, mq_169_12, mq_169_13, mq_169_16, mq_169_19, mq_169_22, mq_169_24, mq_169_25, mq_169_26, mq_169_27, mq_169_30, mq_169_31, mq_169_32, mq_169_33, mq_169_34, mq_169_37, mq_169_40, mq_169_41, mq_169_42, mq_169_43, mq_169_46, mq_169_49, mq_169_50, mq_169_53, mq_169_56, mq_169_57, mq_169_58, mq_169_61, mq_169_64, mq_169_66, mq_169_67, mq_169_68, mq_169_69, mq_169_72, mq_169_73, mq_169_76, mq_169_79, mq_169_80, mq_169_81, mq_169_84, mq_169_85, mq_169_88, mq_169_89, mq_169_92, mq_169_93, mq_169_96, mq_169_97, mq_169_100, mq_169_101, mq_169_104, mq_169_105, mq_169_106, mq_169_109, mq_169_110, mq_169_112, mq_169_113, mq_169_115, mq_169_117, mq_169_119, mq_169_120, e2', em_in, N64, hN, k64, hk, a2', az, ha0, r2', rz, hR0, f1', hf, nI_0, Nat.reduceAdd, Nat.reduceMul, Nat.reduceSub, Nat.zero_add, sg_bi_i, sg_bi_n, sg_bz, sg_bb, sg_b_0, sg_b_1, if_true, if_false, not_true_eq_false, not_false_eq_true, true_and, and_true, false_and, and_false, and_self, Int32.reduceSub]
              by_cases hk1 : k = -1
              · refine pair_same h (sg_i X.1) ω1 ω2 ?_ g2 ?_ (same_tr (same_sym g2) m2)
                · rw [cl, hk1]
                  simp (decide := true) only [mq_76_140, mq_76_141, mq_76_142, mq_76_145, mq_76_147, mq_76_150, mq_76_151, mq_76_153, mq_76_154, mq_76_155, mq_76_158, Nat.reduceAdd, Nat.reduceMul, Nat.reduceSub, Nat.zero_add, sg_bi_i, sg_bi_n, sg_bz, sg_bb, sg_b_0, sg_b_1, if_true, if_false, not_true_eq_false, not_false_eq_true, true_and, and_true, false_and, and_false, and_self, Int32.reduceSub]
                · rw [cm, hk1]
                  simp (decide := true) only [mq_169_197, mq_169_198, mq_169_201, mq_169_203, mq_169_206, mq_169_207, mq_169_209, mq_169_210, mq_169_211, mq_169_214, Nat.reduceAdd, Nat.reduceMul, Nat.reduceSub, Nat.zero_add, sg_bi_i, sg_bi_n, sg_bz, sg_bb, sg_b_0, sg_b_1, if_true, if_false, not_true_eq_false, not_false_eq_true, true_and, and_true, false_and, and_false, and_self, Int32.reduceSub]
              · have hkp : 0 ≤ k.toInt := by
                  have h1 := hk.1
                  rw [Int32.le_iff_toInt_le, sg_tm1] at h1
                  rcases Int.lt_or_le k.toInt 0 with z | z
                  · exact absurd (Int32.toInt_inj.mp (by rw [sg_tm1]; omega)) hk1
                  · exact z
                obtain ⟨K, hK, rfl, eK⟩ := sg_nat hkp
                have hKN : K < N' := by
                  have h2 := hk.2
                  rw [show (1 : Int32) = nI 1 from rfl, pk_sub hN1, nI_leI hK (by omega)] at h2
                  omega
                have c1 := ev_inRow ω1 R N' X.2 K R1 R6 hN3 hKN (by omega) (by rw [g2.s0]; exact hR1)
                have c2 := em_recipeIn ω2 R N' X.2 K R1 R6 hN3 hKN (by omega) (by rw [m2.s120 16 (by omega)]; exact hR2)
                have nk : ¬ nI K < 0 := nI_pos hK
                refine pair_same h (sg_i (nI (fn_dg R N' X.2 K))) ω1 ω2 ?_ g2 ?_ (same_tr (same_sym g2) m2)
                · rw [cl]
                  simp (decide := true) only [mq_76_140, mq_76_141, mq_76_142, mq_76_145, mq_76_147, mq_76_150, mq_76_151, mq_76_153, mq_76_154, mq_76_155, mq_76_158, hk1, c1, Nat.reduceAdd, Nat.reduceMul, Nat.reduceSub, Nat.zero_add, sg_bi_i, sg_bi_n, sg_bz, sg_bb, sg_b_0, sg_b_1, if_true, if_false, not_true_eq_false, not_false_eq_true, true_and, and_true, false_and, and_false, and_self, Int32.reduceSub]
                · rw [cm]
                  simp (decide := true) only [mq_169_197, mq_169_198, mq_169_201, mq_169_203, mq_169_206, mq_169_207, mq_169_209, mq_169_210, mq_169_211, mq_169_214, nk, c2, Nat.reduceAdd, Nat.reduceMul, Nat.reduceSub, Nat.zero_add, sg_bi_i, sg_bi_n, sg_bz, sg_bb, sg_b_0, sg_b_1, if_true, if_false, not_true_eq_false, not_false_eq_true, true_and, and_true, false_and, and_false, and_self, Int32.reduceSub]
      · refine pair_same h (sg_i (-1)) σ σ ?_ (same_rfl σ) ?_ (same_rfl σ)
        · simp (decide := true) only [me_76, mq_76_0, mq_76_1, mq_76_2, mq_76_5, mq_76_8, mq_76_9, mq_76_10, mq_76_11, mq_76_12, mq_76_13, mq_76_16, mq_76_19, mq_76_21, mq_76_22, mq_76_23, mq_76_24, mq_76_25, mq_76_26, mq_76_27, mq_76_30, mq_76_33, mq_76_34, e1, ev_within, hN, hk, Nat.reduceAdd, Nat.reduceMul, Nat.reduceSub, Nat.zero_add, sg_bi_i, sg_bi_n, sg_bz, sg_bb, sg_b_0, sg_b_1, if_true, if_false, not_true_eq_false, not_false_eq_true, true_and, and_true, false_and, and_false, and_self, Int32.reduceSub]
        · simp (decide := true) only [me_169, mq_169_0, mq_169_1, mq_169_2, mq_169_5, mq_169_8, mq_169_9, mq_169_10, mq_169_11, mq_169_12, mq_169_13, mq_169_16, mq_169_19, mq_169_22, mq_169_24, mq_169_25, mq_169_26, mq_169_27, mq_169_30, mq_169_31, mq_169_32, mq_169_33, mq_169_34, mq_169_37, mq_169_40, mq_169_41, e2, em_in, N64, hN, k64, hk, Nat.reduceAdd, Nat.reduceMul, Nat.reduceSub, Nat.zero_add, sg_bi_i, sg_bi_n, sg_bz, sg_bb, sg_b_0, sg_b_1, if_true, if_false, not_true_eq_false, not_false_eq_true, true_and, and_true, false_and, and_false, and_self, Int32.reduceSub]
    · refine pair_same h (sg_i (-2)) σ σ ?_ (same_rfl σ) ?_ (same_rfl σ)
      · simp (decide := true) only [me_76, mq_76_0, mq_76_1, mq_76_2, mq_76_5, mq_76_8, mq_76_9, mq_76_10, mq_76_11, mq_76_12, mq_76_13, mq_76_16, mq_76_19, mq_76_21, e1, ev_within, hN, Nat.reduceAdd, Nat.reduceMul, Nat.reduceSub, Nat.zero_add, sg_bi_i, sg_bi_n, sg_bz, sg_bb, sg_b_0, sg_b_1, if_true, if_false, not_true_eq_false, not_false_eq_true, true_and, and_true, false_and, and_false, and_self, Int32.reduceSub]
      · simp (decide := true) only [me_169, mq_169_0, mq_169_1, mq_169_2, mq_169_5, mq_169_8, mq_169_9, mq_169_10, mq_169_11, mq_169_12, mq_169_13, mq_169_16, mq_169_19, mq_169_22, mq_169_24, e2, em_in, N64, hN, Nat.reduceAdd, Nat.reduceMul, Nat.reduceSub, Nat.zero_add, sg_bi_i, sg_bi_n, sg_bz, sg_bb, sg_b_0, sg_b_1, if_true, if_false, not_true_eq_false, not_false_eq_true, true_and, and_true, false_and, and_false, and_self, Int32.reduceSub]
