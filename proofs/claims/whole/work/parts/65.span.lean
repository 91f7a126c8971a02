/-! SPAN -/
def fn_sp (f : Nat → Bool) : Nat → Nat → Int32 × Int32 × Nat → Int32 × Int32 × Nat
  | 0, _, a => a
  | m + 1, t, a => fn_sp f m (t + 1) (if f t then (if a.2.2 = 0 then nI t else a.1, nI t, a.2.2 + 1) else a)
def fn_sr (what : Int32) (a : Int32 × Int32 × Nat) : Int32 := if what = 2 then nI a.2.2 else if what = 0 then a.1 else a.2.1
theorem it_pred {α : Type} (f : α → α) (a : α) {t : Nat} (ht : 0 < t) : fn_it f 1 (fn_it f (t - 1) a) = fn_it f t a := by
  obtain ⟨u, rfl⟩ : ∃ u, t = u + 1 := ⟨t - 1, by omega⟩
  rw [Nat.add_sub_cancel]
  exact (fn_it_s f u a).symm
theorem ev_sp_l {σ M : sg_M} {p n : Nat} {g r b : Int32} {P0 : fn_PS} (what : Int32) (x1 x2 x3 x4 x6 : sg_V) (h1 : 1 ≤ n) (h8 : n ≤ 8) (hn : M 67 6 = nI n) (hon : M 67 0 = 1) (b6 : M 3 6 = 1) (b0 : M 3 0 = 0) (b4 : M 4 0 = g) (hi : iv_ps (M 68) n P0) (hg : ∀ k, k < n → σ (19 + 6 * p + 1) k = M 68 k) (hr : rl_ps n (fn_cp σ (19 + 6 * p)) P0) (hs : ∀ P w R v, sg_same σ (sg_2 M 67 P w R v)) : ∀ m t (a : Int32 × Int32 × Nat) (R : fn_PS) (w v : Nat → Int32), t + m = 101 → a.2.2 ≤ t → iv_ps (M 4) 1 R → R.2.1 0 = r → R.2.2.1 0 = fn_it (fn_bt (g / r)) t b → ∃ ω, sg_same σ ω ∧ sg_rv 68 70 (sg_2 M 67 (fn_it (fn_step 1 n (M 68) 1) t P0) w R v) [sg_r 1 0, x1, x2, x3, x4, sg_i what, x6, sg_r 2 67, sg_i a.1, sg_i a.2.1, sg_i (nI a.2.2), sg_i (nI t)] [] = some (some (sg_i (fn_sr what (fn_sp (fn_hb σ p n g r b) m t a))), ω) := by
  have c100 : ∀ t, t ≤ 101 → ((100 < nI t) = (100 < t)) := fun t ht => by rw [show (100 : Int32) = nI 100 from rfl, eq_iff_iff]; exact nI_ltI (by omega) (by omega)
  intro m
  induction m with
  | zero =>
    intro t a R w v ht ha hb hr0 hR
    refine ⟨_, hs (fn_it (fn_step 1 n (M 68) 1) t P0) w R v, ?_⟩
    simp only [fn_sp]
    unfold fn_sr
    simp (decide := true) only [mq_68_70, mq_68_72, mq_68_74, c100 t (by omega), show 100 < t by omega, Nat.reduceAdd, Nat.reduceMul, Nat.reduceSub, Nat.zero_add, sg_bi_i, sg_bi_n, sg_bz, sg_bb, sg_b_0, sg_b_1, if_true, if_false, not_true_eq_false, not_false_eq_true, true_and, and_true, false_and, and_false, and_self, Int32.reduceSub]
    by_cases w2 : what = 2
    · simp (decide := true) only [mq_68_123, mq_68_125, mq_68_126, mq_68_129, mq_68_131, w2, Nat.reduceAdd, Nat.reduceMul, Nat.reduceSub, Nat.zero_add, sg_bi_i, sg_bi_n, sg_bz, sg_bb, sg_b_0, sg_b_1, if_true, if_false, not_true_eq_false, not_false_eq_true, true_and, and_true, false_and, and_false, and_self, Int32.reduceSub]
    · by_cases w0 : what = 0
      · simp (decide := true) only [mq_68_123, mq_68_125, mq_68_126, mq_68_129, mq_68_131, mq_68_132, mq_68_134, mq_68_137, mq_68_139, mq_68_142, mq_68_144, w2, w0, Nat.reduceAdd, Nat.reduceMul, Nat.reduceSub, Nat.zero_add, sg_bi_i, sg_bi_n, sg_bz, sg_bb, sg_b_0, sg_b_1, if_true, if_false, not_true_eq_false, not_false_eq_true, true_and, and_true, false_and, and_false, and_self, Int32.reduceSub]
      · simp (decide := true) only [mq_68_123, mq_68_125, mq_68_126, mq_68_129, mq_68_131, mq_68_132, mq_68_134, mq_68_137, mq_68_139, mq_68_142, mq_68_144, w2, w0, Nat.reduceAdd, Nat.reduceMul, Nat.reduceSub, Nat.zero_add, sg_bi_i, sg_bi_n, sg_bz, sg_bb, sg_b_0, sg_b_1, if_true, if_false, not_true_eq_false, not_false_eq_true, true_and, and_true, false_and, and_false, and_self, Int32.reduceSub]
  | succ m ih =>
    intro t a R w v ht ha hb hr0 hR
    have hh := ev_hb (σ := σ) (p := p) (N := t) h1 h8 hn hg hr R w v hR
    obtain ⟨w1, v1, R1, g1, g2, g3, g4⟩ := ev_turnBoth M 67 n 1 g r (fn_it (fn_step 1 n (M 68) 1) t P0) R w v (by omega) h1 h8 hn hon b6 b0 b4 (by omega) (it_iv (fun _ q => step_iv h1 q) t _ hi) hb hr0
    simp only [Nat.reduceAdd] at g1
    have e1 : fn_it (fn_step 1 n (M 68) 1) 1 (fn_it (fn_step 1 n (M 68) 1) t P0) = fn_it (fn_step 1 n (M 68) 1) (t + 1) P0 := (fn_it_s _ t P0).symm
    have e2 : fn_it (fn_bt (g / r)) 1 (R.2.2.1 0) = fn_it (fn_bt (g / r)) (t + 1) b := by rw [hR]; exact (fn_it_s _ t b).symm
    rw [e1, show nI 1 = (1 : Int32) from rfl] at g1
    rw [e2] at g4
    simp only [fn_sp]
    simp (decide := true) only [mq_68_70, mq_68_72, mq_68_74, c100 t (by omega), show ¬ 100 < t by omega, Nat.reduceAdd, Nat.reduceMul, Nat.reduceSub, Nat.zero_add, sg_bi_i, sg_bi_n, sg_bz, sg_bb, sg_b_0, sg_b_1, if_true, if_false, not_true_eq_false, not_false_eq_true, true_and, and_true, false_and, and_false, and_self, Int32.reduceSub]
    by_cases hb1 : fn_hb σ p n g r b t = true
    · obtain ⟨ω, s, ih⟩ := ih (t + 1) (if a.2.2 = 0 then nI t else a.1, nI t, a.2.2 + 1) R1 w1 v1 (by omega) (by show a.2.2 + 1 ≤ t + 1; omega) g2 g3 g4
      refine ⟨ω, s, ?_⟩
      rw [if_pos hb1, ← ih]
      by_cases h0 : a.2.2 = 0
      · have n0 : (nI a.2.2 = 0) = True := eq_true (by rw [h0]; rfl)
        simp (decide := true) only [mq_68_77, mq_68_79, mq_68_80, mq_68_83, mq_68_86, mq_68_89, mq_68_91, mq_68_94, mq_68_96, mq_68_99, mq_68_101, mq_68_103, mq_68_105, mq_68_107, mq_68_110, mq_68_111, mq_68_113, mq_68_114, mq_68_117, mq_68_120, hh, hb1, n0, h0, g1, nI_1, Nat.reduceAdd, Nat.reduceMul, Nat.reduceSub, Nat.zero_add, sg_bi_i, sg_bi_n, sg_bz, sg_bb, sg_b_0, sg_b_1, if_true, if_false, not_true_eq_false, not_false_eq_true, true_and, and_true, false_and, and_false, and_self, Int32.reduceSub]
      · have n0 : (nI a.2.2 = 0) = False := eq_false (nI_ne0 (by omega) (by omega))
        simp (decide := true) only [mq_68_77, mq_68_79, mq_68_80, mq_68_83, mq_68_86, mq_68_89, mq_68_91, mq_68_94, mq_68_96, mq_68_99, mq_68_101, mq_68_103, mq_68_105, mq_68_107, mq_68_110, mq_68_111, mq_68_113, mq_68_114, mq_68_117, mq_68_120, hh, hb1, n0, h0, g1, nI_1, Nat.reduceAdd, Nat.reduceMul, Nat.reduceSub, Nat.zero_add, sg_bi_i, sg_bi_n, sg_bz, sg_bb, sg_b_0, sg_b_1, if_true, if_false, not_true_eq_false, not_false_eq_true, true_and, and_true, false_and, and_false, and_self, Int32.reduceSub]
    · obtain ⟨ω, s, ih⟩ := ih (t + 1) a R1 w1 v1 (by omega) (by omega) g2 g3 g4
      refine ⟨ω, s, ?_⟩
      rw [if_neg hb1, ← ih]
      simp (decide := true) only [mq_68_77, mq_68_79, mq_68_80, mq_68_83, mq_68_86, mq_68_89, mq_68_91, mq_68_94, mq_68_96, mq_68_99, mq_68_101, mq_68_103, mq_68_105, mq_68_107, mq_68_110, mq_68_111, mq_68_113, mq_68_114, mq_68_117, mq_68_120, hh, hb1, g1, nI_1, Nat.reduceAdd, Nat.reduceMul, Nat.reduceSub, Nat.zero_add, sg_bi_i, sg_bi_n, sg_bz, sg_bb, sg_b_0, sg_b_1, if_true, if_false, not_true_eq_false, not_false_eq_true, true_and, and_true, false_and, and_false, and_self, Int32.reduceSub]
theorem em_sp_l {B : Int} {σ τ : sg_M} {p n : Nat} (what : Int32) {g r b : Int32} (hp : p < 8) (h : iv_pc B σ p n) (s : sg_same σ τ) (q : iv_ring g r b) : ∀ m t (a : Int32 × Int32 × Nat) (T : Int32) (w : Nat → Int32) (y10 : sg_V), (y10 = sg_r 0 0 ∨ ∃ c, y10 = sg_i c) → t + m = 101 → a.2.2 ≤ t → ((a.1 < 0) = (a.2.2 = 0)) → ∃ ω, sg_same σ ω ∧ sg_rv 161 72 (sg_mP (sg_up (sg_tk τ p) 120 23 (fn_it (fn_bt (g / r)) (t - 1) b)) T (fn_it (fn_step 1 n (sg_tk τ p 127) 1) (t - 1) (fn_tk τ p)) w) [sg_r 7 120, sg_i (nI p), sg_i g, sg_i r, sg_i b, sg_i what, sg_i (nI a.2.2), sg_i a.1, sg_i a.2.1, sg_i (nI t), y10] [] = some (some (sg_i (if what = 0 then (fn_sp (fn_hb σ p n g r b) m t a).1 else if what = 1 then (fn_sp (fn_hb σ p n g r b) m t a).2.1 else nI (fn_sp (fn_hb σ p n g r b) m t a).2.2)), ω) := by
  have c101 : ∀ t, t ≤ 101 → ((nI t < 101) = (t < 101)) := fun t ht => by rw [show (101 : Int32) = nI 101 from rfl, eq_iff_iff]; exact nI_ltI (by omega) (by omega)
  have c0 : ∀ t, t ≤ 101 → ((0 < nI t) = (0 < t)) := fun t ht => by rw [show (0 : Int32) = nI 0 from rfl, eq_iff_iff]; exact nI_ltI (by omega) (by omega)
  have h' := pc_same hp h s
  obtain ⟨t1, t2, t3⟩ := em_take hp h'
  obtain ⟨⟨n1, n8⟩, -⟩ := id h
  obtain ⟨o0, o2, o10⟩ := ring_ok q
  intro m
  induction m with
  | zero =>
    intro t a T w y10 hy ht ha hinv
    refine ⟨_, same_tr s (same_m23 τ p (fn_it (fn_bt (g / r)) (t - 1) b) T (fn_it (fn_step 1 n (sg_tk τ p 127) 1) (t - 1) (fn_tk τ p)) w), ?_⟩
    simp only [fn_sp]
    simp (decide := true) only [mq_161_72, mq_161_74, mq_161_76, c101 t (by omega), show ¬ t < 101 by omega, Nat.reduceAdd, Nat.reduceMul, Nat.reduceSub, Nat.zero_add, sg_bi_i, sg_bi_n, sg_bz, sg_bb, sg_b_0, sg_b_1, if_true, if_false, not_true_eq_false, not_false_eq_true, true_and, and_true, false_and, and_false, and_self, Int32.reduceSub]
    by_cases w0 : what = 0
    · simp (decide := true) only [mq_161_156, mq_161_158, mq_161_161, mq_161_163, mq_161_166, mq_161_168, mq_161_169, mq_161_172, mq_161_174, mq_161_177, mq_161_179, w0, Nat.reduceAdd, Nat.reduceMul, Nat.reduceSub, Nat.zero_add, sg_bi_i, sg_bi_n, sg_bz, sg_bb, sg_b_0, sg_b_1, if_true, if_false, not_true_eq_false, not_false_eq_true, true_and, and_true, false_and, and_false, and_self, Int32.reduceSub]
    · by_cases w1 : what = 1
      · simp (decide := true) only [mq_161_156, mq_161_158, mq_161_161, mq_161_163, mq_161_166, mq_161_168, mq_161_169, mq_161_172, mq_161_174, mq_161_177, mq_161_179, w0, w1, Nat.reduceAdd, Nat.reduceMul, Nat.reduceSub, Nat.zero_add, sg_bi_i, sg_bi_n, sg_bz, sg_bb, sg_b_0, sg_b_1, if_true, if_false, not_true_eq_false, not_false_eq_true, true_and, and_true, false_and, and_false, and_self, Int32.reduceSub]
      · simp (decide := true) only [mq_161_156, mq_161_158, mq_161_161, mq_161_163, mq_161_166, mq_161_168, mq_161_169, mq_161_172, mq_161_174, mq_161_177, mq_161_179, w0, w1, Nat.reduceAdd, Nat.reduceMul, Nat.reduceSub, Nat.zero_add, sg_bi_i, sg_bi_n, sg_bz, sg_bb, sg_b_0, sg_b_1, if_true, if_false, not_true_eq_false, not_false_eq_true, true_and, and_true, false_and, and_false, and_self, Int32.reduceSub]
  | succ m ih =>
    intro t a T w y10 hy ht ha hinv
    simp only [fn_sp]
    -- one tenth on, but for the first
    obtain ⟨w1, T1, gb⟩ : ∃ w1 T1, ∀ z, z = (if 0 < t then (1 : Int32) else 0) → sg_ev 159 (sg_mP (sg_up (sg_tk τ p) 120 23 (fn_it (fn_bt (g / r)) (t - 1) b)) T (fn_it (fn_step 1 n (sg_tk τ p 127) 1) (t - 1) (fn_tk τ p)) w) [sg_r 7 120, sg_i (g / r), sg_i z] = some (none, sg_mP (sg_up (sg_tk τ p) 120 23 (fn_it (fn_bt (g / r)) t b)) T1 (fn_it (fn_step 1 n (sg_tk τ p 127) 1) t (fn_tk τ p)) w1) := by
      by_cases ht0 : 0 < t
      · obtain ⟨w1, T1, e⟩ := em_goBoth (sg_tk τ p) n 1 (g / r) T (fn_it (fn_bt (g / r)) (t - 1) b) (fn_it (fn_step 1 n (sg_tk τ p 127) 1) (t - 1) (fn_tk τ p)) w n1 n8 t2 (by omega) o2 o10 (it_iv (fun _ q => step_iv n1 q) (t - 1) _ t3)
        refine ⟨w1, T1, fun z hz => ?_⟩
        have e1 : fn_it (fn_step 1 n (sg_tk τ p 127) 1) 1 (fn_it (fn_step 1 n (sg_tk τ p 127) 1) (t - 1) (fn_tk τ p)) = fn_it (fn_step 1 n (sg_tk τ p 127) 1) t (fn_tk τ p) := it_pred _ _ ht0
        have e2 : fn_it (fn_bt (g / r)) 1 (fn_it (fn_bt (g / r)) (t - 1) b) = fn_it (fn_bt (g / r)) t b := it_pred _ _ ht0
        rw [e1, e2] at e
        rw [hz, if_pos ht0]
        exact e
      · obtain rfl : t = 0 := by omega
        obtain ⟨w1, T1, e⟩ := em_goBoth (sg_tk τ p) n 0 (g / r) T b (fn_tk τ p) w n1 n8 t2 (by omega) o2 o10 t3
        refine ⟨w1, T1, fun z hz => ?_⟩
        rw [hz, if_neg (by omega)]
        exact e
    have hh := em_hold (N := t) hp h s g r b T1 w1
    have gb := gb _ rfl
    have e92 : ∀ y10, (y10 = sg_r 0 0 ∨ ∃ c, y10 = sg_i c) → sg_rv 161 72 (sg_mP (sg_up (sg_tk τ p) 120 23 (fn_it (fn_bt (g / r)) (t - 1) b)) T (fn_it (fn_step 1 n (sg_tk τ p 127) 1) (t - 1) (fn_tk τ p)) w) [sg_r 7 120, sg_i (nI p), sg_i g, sg_i r, sg_i b, sg_i what, sg_i (nI a.2.2), sg_i a.1, sg_i a.2.1, sg_i (nI t), y10] [] = sg_rv 161 96 (sg_mP (sg_up (sg_tk τ p) 120 23 (fn_it (fn_bt (g / r)) t b)) T1 (fn_it (fn_step 1 n (sg_tk τ p 127) 1) t (fn_tk τ p)) w1) [sg_r 7 120, sg_i (nI p), sg_i g, sg_i r, sg_i b, sg_i what, sg_i (nI a.2.2), sg_i a.1, sg_i a.2.1, sg_i (nI t), y10] [] := by
      intro y10 _
      by_cases ht0 : 0 < t
      · rw [if_pos ht0] at gb
        simp (decide := true) only [mq_161_72, mq_161_74, mq_161_76, mq_161_79, mq_161_80, mq_161_81, mq_161_82, mq_161_83, mq_161_85, mq_161_88, mq_161_89, mq_161_92, mq_161_93, c101 t (by omega), show t < 101 by omega, c0 t (by omega), ht0, o0, gb, Nat.reduceAdd, Nat.reduceMul, Nat.reduceSub, Nat.zero_add, sg_bi_i, sg_bi_n, sg_bz, sg_bb, sg_b_0, sg_b_1, if_true, if_false, not_true_eq_false, not_false_eq_true, true_and, and_true, false_and, and_false, and_self, Int32.reduceSub]
      · rw [if_neg ht0] at gb
        simp (decide := true) only [mq_161_72, mq_161_74, mq_161_76, mq_161_79, mq_161_80, mq_161_81, mq_161_82, mq_161_83, mq_161_85, mq_161_88, mq_161_89, mq_161_92, mq_161_93, c101 t (by omega), show t < 101 by omega, c0 t (by omega), ht0, o0, gb, Nat.reduceAdd, Nat.reduceMul, Nat.reduceSub, Nat.zero_add, sg_bi_i, sg_bi_n, sg_bz, sg_bb, sg_b_0, sg_b_1, if_true, if_false, not_true_eq_false, not_false_eq_true, true_and, and_true, false_and, and_false, and_self, Int32.reduceSub]
    rw [e92 y10 hy]
    by_cases hb1 : fn_hb σ p n g r b t = true
    · rw [if_pos hb1]
      have neg : ((if a.2.2 = 0 then nI t else a.1) < 0) = ((a.2.2 + 1) = 0) := by
        rw [show (a.2.2 + 1 = 0) = False by simp]
        apply eq_false
        by_cases h0 : a.2.2 = 0
        · rw [if_pos h0]; exact Int32.not_lt.mpr (nI_pos' (by omega))
        · rw [if_neg h0]
          rw [hinv]; exact h0
      obtain ⟨ω, s2, ih⟩ := ih (t + 1) (if a.2.2 = 0 then nI t else a.1, nI t, a.2.2 + 1) T1 w1 (sg_i 1) (Or.inr ⟨_, rfl⟩) (by omega) (by show a.2.2 + 1 ≤ t + 1; omega) neg
      refine ⟨ω, s2, ?_⟩
      rw [← ih]
      simp only [Nat.add_sub_cancel]
      rcases hy with rfl | ⟨c, rfl⟩
      · by_cases h0 : a.2.2 = 0
        · have n0 : (a.1 < 0) = True := by rw [hinv]; exact eq_true h0
          simp (decide := true) only [mq_161_96, mq_161_97, mq_161_100, mq_161_102, mq_161_104, mq_161_106, mq_161_109, mq_161_110, mq_161_113, mq_161_114, mq_161_115, mq_161_117, mq_161_119, mq_161_122, mq_161_124, mq_161_127, mq_161_129, mq_161_132, mq_161_134, mq_161_136, mq_161_138, mq_161_141, mq_161_143, mq_161_146, mq_161_148, mq_161_150, mq_161_153, hh, hb1, n0, h0, nI_1, Nat.reduceAdd, Nat.reduceMul, Nat.reduceSub, Nat.zero_add, sg_bi_i, sg_bi_n, sg_bz, sg_bb, sg_b_0, sg_b_1, if_true, if_false, not_true_eq_false, not_false_eq_true, true_and, and_true, false_and, and_false, and_self, Int32.reduceSub]
        · have n0 : (a.1 < 0) = False := by rw [hinv]; exact eq_false h0
          simp (decide := true) only [mq_161_96, mq_161_97, mq_161_100, mq_161_102, mq_161_104, mq_161_106, mq_161_109, mq_161_110, mq_161_113, mq_161_114, mq_161_115, mq_161_117, mq_161_119, mq_161_122, mq_161_124, mq_161_127, mq_161_129, mq_161_132, mq_161_134, mq_161_136, mq_161_138, mq_161_141, mq_161_143, mq_161_146, mq_161_148, mq_161_150, mq_161_153, hh, hb1, n0, h0, nI_1, Nat.reduceAdd, Nat.reduceMul, Nat.reduceSub, Nat.zero_add, sg_bi_i, sg_bi_n, sg_bz, sg_bb, sg_b_0, sg_b_1, if_true, if_false, not_true_eq_false, not_false_eq_true, true_and, and_true, false_and, and_false, and_self, Int32.reduceSub]
      · by_cases h0 : a.2.2 = 0
        · have n0 : (a.1 < 0) = True := by rw [hinv]; exact eq_true h0
          simp (decide := true) only [mq_161_96, mq_161_97, mq_161_100, mq_161_102, mq_161_104, mq_161_106, mq_161_109, mq_161_110, mq_161_113, mq_161_114, mq_161_115, mq_161_117, mq_161_119, mq_161_122, mq_161_124, mq_161_127, mq_161_129, mq_161_132, mq_161_134, mq_161_136, mq_161_138, mq_161_141, mq_161_143, mq_161_146, mq_161_148, mq_161_150, mq_161_153, hh, hb1, n0, h0, nI_1, Nat.reduceAdd, Nat.reduceMul, Nat.reduceSub, Nat.zero_add, sg_bi_i, sg_bi_n, sg_bz, sg_bb, sg_b_0, sg_b_1, if_true, if_false, not_true_eq_false, not_false_eq_true, true_and, and_true, false_and, and_false, and_self, Int32.reduceSub]
        · have n0 : (a.1 < 0) = False := by rw [hinv]; exact eq_false h0
          simp (decide := true) only [mq_161_96, mq_161_97, mq_161_100, mq_161_102, mq_161_104, mq_161_106, mq_161_109, mq_161_110, mq_161_113, mq_161_114, mq_161_115, mq_161_117, mq_161_119, mq_161_122, mq_161_124, mq_161_127, mq_161_129, mq_161_132, mq_161_134, mq_161_136, mq_161_138, mq_161_141, mq_161_143, mq_161_146, mq_161_148, mq_161_150, mq_161_153, hh, hb1, n0, h0, nI_1, Nat.reduceAdd, Nat.reduceMul, Nat.reduceSub, Nat.zero_add, sg_bi_i, sg_bi_n, sg_bz, sg_bb, sg_b_0, sg_b_1, if_true, if_false, not_true_eq_false, not_false_eq_true, true_and, and_true, false_and, and_false, and_self, Int32.reduceSub]
    · rw [if_neg hb1]
      obtain ⟨ω, s2, ih⟩ := ih (t + 1) a T1 w1 (sg_i 0) (Or.inr ⟨_, rfl⟩) (by omega) (by omega) hinv
      refine ⟨ω, s2, ?_⟩
      rw [← ih]
      simp only [Nat.add_sub_cancel]
      rcases hy with rfl | ⟨c, rfl⟩ <;> simp (decide := true) only [mq_161_96, mq_161_97, mq_161_100, mq_161_102, mq_161_104, mq_161_106, mq_161_109, mq_161_110, mq_161_113, mq_161_114, mq_161_115, mq_161_117, mq_161_119, mq_161_122, mq_161_124, mq_161_127, mq_161_129, mq_161_132, mq_161_134, mq_161_136, mq_161_138, mq_161_141, mq_161_143, mq_161_146, mq_161_148, mq_161_150, mq_161_153, hh, hb1, nI_1, Int32.add_zero, Nat.reduceAdd, Nat.reduceMul, Nat.reduceSub, Nat.zero_add, sg_bi_i, sg_bi_n, sg_bz, sg_bb, sg_b_0, sg_b_1, if_true, if_false, not_true_eq_false, not_false_eq_true, true_and, and_true, false_and, and_false, and_self, Int32.reduceSub]
theorem pr_span {B : Int} {σ : sg_M} (p g r b what : Int32) (h : iv_all B σ) : sg_pair B σ 68 161 [sg_i p, sg_i g, sg_i r, sg_i b, sg_i what] := by
  rcases pc_cases h.2.2.2.2.2 p with hno | ⟨j, m, hj, rfl, hpc, hp⟩
  · refine pair_same h (sg_i (-1)) σ σ ?_ (same_rfl σ) ?_ (same_rfl σ)
    · simp (decide := true) only [me_68, mq_68_0, mq_68_1, mq_68_2, mq_68_3, mq_68_4, mq_68_6, mq_68_8, mq_68_9, mq_68_10, mq_68_13, mq_68_16, mq_68_18, mq_68_20, mq_68_23, mq_68_25, ev_within, ev_barNo ((hno σ).1 rfl), Nat.reduceAdd, Nat.reduceMul, Nat.reduceSub, Nat.zero_add, sg_bi_i, sg_bi_n, sg_bz, sg_bb, sg_b_0, sg_b_1, if_true, if_false, not_true_eq_false, not_false_eq_true, true_and, and_true, false_and, and_false, and_self, Int32.reduceSub]
    · simp (decide := true) only [me_161, mq_161_0, mq_161_1, mq_161_2, mq_161_5, mq_161_8, mq_161_9, (hno σ).2 rfl, Nat.reduceAdd, Nat.reduceMul, Nat.reduceSub, Nat.zero_add, sg_bi_i, sg_bi_n, sg_bz, sg_bb, sg_b_0, sg_b_1, if_true, if_false, not_true_eq_false, not_false_eq_true, true_and, and_true, false_and, and_false, and_self, Int32.reduceSub]
  · have e1 := (hp σ).1 rfl
    have e2 := (hp σ).2 rfl
    have i1 : sg_in (nI j) 8 = true := sg_in_nI (by omega) (by omega)
    have cj : (nI j).toNatClampNeg = j := sg_nIc (by omega)
    obtain ⟨⟨n1, n8⟩, hn, hn2, ho, -, hi, hst⟩ := id hpc
    have t64 := sg_i64 what 0 2 0 2 (by decide) (by decide)
    have br := ev_barBit (B := B) (m := m) hj e1 g r b
    by_cases hr : (1 ≤ g ∧ g ≤ 999) ∧ (1 ≤ r ∧ r ≤ 99) ∧ r ≤ g ∧ (0 ≤ b ∧ b ≤ 1500)
    · have hr' := eq_true hr
      by_cases ht : 0 ≤ what ∧ what ≤ 2
      · by_cases hf : 40 < σ (19 + 6 * j) 7
        · have f1 := em_fallen hj hpc σ rfl
          refine pair_same h (sg_i (-3)) σ σ ?_ (same_rfl σ) ?_ (same_rfl σ)
          · simp (decide := true) only [me_68, mq_68_0, mq_68_1, mq_68_2, mq_68_3, mq_68_4, mq_68_6, mq_68_8, mq_68_9, mq_68_10, mq_68_13, mq_68_16, mq_68_18, mq_68_20, mq_68_23, mq_68_25, ev_within, ht, br, hr', hf, Nat.reduceAdd, Nat.reduceMul, Nat.reduceSub, Nat.zero_add, sg_bi_i, sg_bi_n, sg_bz, sg_bb, sg_b_0, sg_b_1, if_true, if_false, not_true_eq_false, not_false_eq_true, true_and, and_true, false_and, and_false, and_self, Int32.reduceSub]
          · simp (decide := true) only [me_161, mq_161_0, mq_161_1, mq_161_2, mq_161_5, mq_161_8, mq_161_9, mq_161_10, mq_161_11, mq_161_12, mq_161_14, mq_161_17, mq_161_20, mq_161_22, mq_161_23, mq_161_24, mq_161_27, mq_161_30, mq_161_33, mq_161_35, mq_161_36, mq_161_37, mq_161_38, mq_161_41, mq_161_44, mq_161_46, e2, em_isRing, hr', em_in, t64, ht, f1, hf, Nat.reduceAdd, Nat.reduceMul, Nat.reduceSub, Nat.zero_add, sg_bi_i, sg_bi_n, sg_bz, sg_bb, sg_b_0, sg_b_1, if_true, if_false, not_true_eq_false, not_false_eq_true, true_and, and_true, false_and, and_false, and_self, Int32.reduceSub]
        · obtain ⟨M, P0, w0, R0, v0, M1, l1, l2, ⟨m1, m2, m3, m4, m5⟩, l3, l4, l5, l6, l7, l8, l9⟩ := bit_start h hj hpc (show iv_ring g r b from hr)
          have i0 : sg_in (0 : Int32) 4 = true := by decide
          obtain ⟨ω, s1, g1⟩ := ev_sp_l (σ := σ) (p := j) (b := b) what (sg_i (nI j)) (sg_i g) (sg_i r) (sg_i b) (sg_i 0) n1 n8 m1 m2 m3 m4 m5 l3 l7 l8 l9 101 0 (-9, -9, 0) R0 w0 v0 (by omega) (Nat.le_refl 0) l4 l5 l6
          have e2' := (hp ω).2 (s1.s120 1 (by omega))
          have f1 := em_fallen hj hpc ω (s1.sx 126 (by unfold sg_kp; omega))
          have t1 := em_takeUp ω j hj
          obtain ⟨ω2, s2, g2⟩ := em_sp_l what hj hpc s1 (show iv_ring g r b from hr) 101 0 (-9, -9, 0) 0 (ω 131) (sg_r 0 0) (Or.inl rfl) (by omega) (Nat.le_refl 0) (by decide)
          have A : sg_ev 68 σ [sg_r 1 0, sg_i (nI j), sg_i g, sg_i r, sg_i b, sg_i what] = some (some (sg_i (fn_sr what (fn_sp (fn_hb σ j m g r b) 101 0 (-9, -9, 0)))), ω) := by
            rw [← g1]
            simp (decide := true) only [me_68, mq_68_0, mq_68_1, mq_68_2, mq_68_3, mq_68_4, mq_68_6, mq_68_8, mq_68_9, mq_68_10, mq_68_13, mq_68_16, mq_68_18, mq_68_20, mq_68_23, mq_68_25, mq_68_26, mq_68_27, mq_68_30, mq_68_31, mq_68_32, mq_68_34, mq_68_36, mq_68_37, mq_68_40, mq_68_41, mq_68_42, mq_68_45, mq_68_46, mq_68_49, mq_68_50, mq_68_51, mq_68_53, mq_68_56, mq_68_58, mq_68_60, mq_68_62, mq_68_64, mq_68_65, mq_68_67, mq_68_68, ev_within, ht, br, hr', hf, i0, i1, cj, show (0 : Int32).toNatClampNeg = 0 from rfl, l1, l2, Nat.reduceAdd, Nat.reduceMul, Nat.reduceSub, Nat.zero_add, sg_bi_i, sg_bi_n, sg_bz, sg_bb, sg_b_0, sg_b_1, if_true, if_false, not_true_eq_false, not_false_eq_true, true_and, and_true, false_and, and_false, and_self, Int32.reduceSub]
            rfl
          have B : sg_ev 161 ω [sg_r 7 120, sg_i (nI j), sg_i g, sg_i r, sg_i b, sg_i what] = some (some (sg_i (fn_sr what (fn_sp (fn_hb σ j m g r b) 101 0 (-9, -9, 0)))), ω2) := by
            have ew : fn_sr what (fn_sp (fn_hb σ j m g r b) 101 0 (-9, -9, 0)) = (if what = 0 then (fn_sp (fn_hb σ j m g r b) 101 0 (-9, -9, 0)).1 else if what = 1 then (fn_sp (fn_hb σ j m g r b) 101 0 (-9, -9, 0)).2.1 else nI (fn_sp (fn_hb σ j m g r b) 101 0 (-9, -9, 0)).2.2) := by
              unfold fn_sr
              obtain ⟨x, hx, rfl⟩ := nI_of2 (x := what) (M := 2) (n := 2) (by decide) (by rw [Int32.not_lt]; exact ht.1) ht.2
              rcases (show x = 0 ∨ x = 1 ∨ x = 2 by omega) with rfl | rfl | rfl
              · rw [show nI 0 = (0 : Int32) from rfl]; simp (decide := true) only [if_true, if_false]
              · rw [show nI 1 = (1 : Int32) from rfl]; simp (decide := true) only [if_true, if_false]
              · rw [show nI 2 = (2 : Int32) from rfl]; simp (decide := true) only [if_true, if_false]
            rw [ew, ← g2]
            simp (decide := true) only [me_161, mq_161_0, mq_161_1, mq_161_2, mq_161_5, mq_161_8, mq_161_9, mq_161_10, mq_161_11, mq_161_12, mq_161_14, mq_161_17, mq_161_20, mq_161_22, mq_161_23, mq_161_24, mq_161_27, mq_161_30, mq_161_33, mq_161_35, mq_161_36, mq_161_37, mq_161_38, mq_161_41, mq_161_44, mq_161_46, mq_161_47, mq_161_48, mq_161_50, mq_161_52, mq_161_54, mq_161_56, mq_161_58, mq_161_59, mq_161_60, mq_161_63, mq_161_64, mq_161_66, mq_161_69, mq_161_70, e2', em_isRing, hr', em_in, t64, ht, f1, hf, t1, mP_up23', Nat.reduceAdd, Nat.reduceMul, Nat.reduceSub, Nat.zero_add, sg_bi_i, sg_bi_n, sg_bz, sg_bb, sg_b_0, sg_b_1, if_true, if_false, not_true_eq_false, not_false_eq_true, true_and, and_true, false_and, and_false, and_self, Int32.reduceSub]
            rfl
          exact pair_same h _ ω ω2 A s1 B (same_tr (same_sym s1) s2)
      · refine pair_same h (sg_i (-2)) σ σ ?_ (same_rfl σ) ?_ (same_rfl σ)
        · simp (decide := true) only [me_68, mq_68_0, mq_68_1, mq_68_2, mq_68_3, mq_68_4, mq_68_6, mq_68_8, mq_68_9, mq_68_10, mq_68_13, mq_68_16, mq_68_18, mq_68_20, mq_68_23, mq_68_25, ev_within, ht, br, hr', Nat.reduceAdd, Nat.reduceMul, Nat.reduceSub, Nat.zero_add, sg_bi_i, sg_bi_n, sg_bz, sg_bb, sg_b_0, sg_b_1, if_true, if_false, not_true_eq_false, not_false_eq_true, true_and, and_true, false_and, and_false, and_self, Int32.reduceSub]
        · simp (decide := true) only [me_161, mq_161_0, mq_161_1, mq_161_2, mq_161_5, mq_161_8, mq_161_9, mq_161_10, mq_161_11, mq_161_12, mq_161_14, mq_161_17, mq_161_20, mq_161_22, mq_161_23, mq_161_24, mq_161_27, mq_161_30, mq_161_33, mq_161_35, e2, em_isRing, hr', em_in, t64, ht, Nat.reduceAdd, Nat.reduceMul, Nat.reduceSub, Nat.zero_add, sg_bi_i, sg_bi_n, sg_bz, sg_bb, sg_b_0, sg_b_1, if_true, if_false, not_true_eq_false, not_false_eq_true, true_and, and_true, false_and, and_false, and_self, Int32.reduceSub]
    · have hr' := eq_false hr
      refine pair_same h (sg_i (-2)) σ σ ?_ (same_rfl σ) ?_ (same_rfl σ)
      · simp (decide := true) only [me_68, mq_68_0, mq_68_1, mq_68_2, mq_68_3, mq_68_4, mq_68_6, mq_68_8, mq_68_9, mq_68_10, mq_68_13, mq_68_16, mq_68_18, mq_68_20, mq_68_23, mq_68_25, ev_within, br, hr', Nat.reduceAdd, Nat.reduceMul, Nat.reduceSub, Nat.zero_add, sg_bi_i, sg_bi_n, sg_bz, sg_bb, sg_b_0, sg_b_1, if_true, if_false, not_true_eq_false, not_false_eq_true, true_and, and_true, false_and, and_false, and_self, Int32.reduceSub]
      · simp (decide := true) only [me_161, mq_161_0, mq_161_1, mq_161_2, mq_161_5, mq_161_8, mq_161_9, mq_161_10, mq_161_11, mq_161_12, mq_161_14, mq_161_17, mq_161_20, mq_161_22, mq_161_23, mq_161_24, mq_161_27, mq_161_30, mq_161_33, mq_161_35, e2, em_isRing, hr', Nat.reduceAdd, Nat.reduceMul, Nat.reduceSub, Nat.zero_add, sg_bi_i, sg_bi_n, sg_bz, sg_bb, sg_b_0, sg_b_1, if_true, if_false, not_true_eq_false, not_false_eq_true, true_and, and_true, false_and, and_false, and_self, Int32.reduceSub]
