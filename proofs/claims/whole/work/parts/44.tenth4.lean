theorem em_sn (σ : sg_M) (mo : Int32) (x3 x4 : sg_V) (k : Nat) (hk : k + 1 < 8) : ∃ y3, sg_rv 137 163 σ [sg_r 7 120, sg_i mo, sg_i (nI k), x3, x4] [] = sg_rv 137 153 (sg_up σ 130 k (fn_sn (σ 131) (σ 129) (σ 130) k)) [sg_r 7 120, sg_i mo, sg_i (nI (k + 1)), y3, x4] [] := by
  have i1 : sg_in (nI k) 8 = true := sg_in_nI (by omega) (by omega)
  have i2 : sg_in (nI (k + 1)) 8 = true := sg_in_nI (by omega) (by omega)
  have ck : (nI k).toNatClampNeg = k := sg_nIc (by omega)
  have ck2 : (nI (k + 1)).toNatClampNeg = k + 1 := sg_nIc (by omega)
  have self : sg_up σ 130 k (σ 130 k) = σ := by
    funext x
    by_cases hx : x = 130
    · subst hx
      rw [sg_up_row]
      funext j
      by_cases hj : j = k
      · subst hj; rw [upd_same]
      · rw [upd_ne hj]
    · rw [sg_up_ne hx]
  have body : ∀ b : Int32, (b = 0 ∨ b = 1) → sg_rv 137 195 σ [sg_r 7 120, sg_i mo, sg_i (nI k), sg_i b, x4] [] = sg_rv 137 153 (if b = 1 ∧ ¬ (0 < fn_soft (σ 129 k) ∨ 0 < fn_soft (σ 129 (k + 1))) then sg_up σ 130 k (if σ 130 k < (if 0 ≤ σ 129 k - σ 129 (k + 1) then σ 129 k - σ 129 (k + 1) else 0 - (σ 129 k - σ 129 (k + 1))) / 10 then (if 0 ≤ σ 129 k - σ 129 (k + 1) then σ 129 k - σ 129 (k + 1) else 0 - (σ 129 k - σ 129 (k + 1))) / 10 else σ 130 k) else σ) [sg_r 7 120, sg_i mo, sg_i (nI (k + 1)), sg_i b, x4] [] := by
    intro b hb
    rcases hb with rfl | rfl
    · simp (decide := true) only [mq_137_195, mq_137_196, mq_137_261, mq_137_264, nI_1, if_true, if_false, false_and]
    · by_cases h3 : 0 < fn_soft (σ 129 k)
      · simp (decide := true) only [mq_137_195, mq_137_196, mq_137_199, mq_137_200, mq_137_203, mq_137_204, mq_137_205, mq_137_208, mq_137_211, mq_137_212, mq_137_215, mq_137_216, mq_137_217, mq_137_218, mq_137_219, mq_137_222, mq_137_225, mq_137_226, mq_137_229, mq_137_230, mq_137_231, mq_137_234, mq_137_235, mq_137_236, mq_137_237, mq_137_240, mq_137_241, mq_137_242, mq_137_243, mq_137_246, mq_137_247, mq_137_248, mq_137_249, mq_137_250, mq_137_251, mq_137_254, mq_137_256, mq_137_257, mq_137_260, mq_137_261, mq_137_264, Nat.reduceAdd, em_soft, sg_bi_i, i1, i2, ck, ck2, nI_1, fn_soft_pos, h3, true_or, not_true_eq_false, and_false, if_true, if_false]
      · by_cases h4 : 0 < fn_soft (σ 129 (k + 1))
        · simp (decide := true) only [mq_137_195, mq_137_196, mq_137_199, mq_137_200, mq_137_203, mq_137_204, mq_137_205, mq_137_208, mq_137_211, mq_137_212, mq_137_215, mq_137_216, mq_137_217, mq_137_218, mq_137_219, mq_137_222, mq_137_225, mq_137_226, mq_137_229, mq_137_230, mq_137_231, mq_137_234, mq_137_235, mq_137_236, mq_137_237, mq_137_240, mq_137_241, mq_137_242, mq_137_243, mq_137_246, mq_137_247, mq_137_248, mq_137_249, mq_137_250, mq_137_251, mq_137_254, mq_137_256, mq_137_257, mq_137_260, mq_137_261, mq_137_264, Nat.reduceAdd, em_soft, sg_bi_i, i1, i2, ck, ck2, nI_1, fn_soft_pos, h3, h4, or_true, not_true_eq_false, not_false_eq_true, and_false, if_true, if_false]
        · simp (decide := true) only [mq_137_195, mq_137_196, mq_137_199, mq_137_200, mq_137_203, mq_137_204, mq_137_205, mq_137_208, mq_137_211, mq_137_212, mq_137_215, mq_137_216, mq_137_217, mq_137_218, mq_137_219, mq_137_222, mq_137_225, mq_137_226, mq_137_229, mq_137_230, mq_137_231, mq_137_234, mq_137_235, mq_137_236, mq_137_237, mq_137_240, mq_137_241, mq_137_242, mq_137_243, mq_137_246, mq_137_247, mq_137_248, mq_137_249, mq_137_250, mq_137_251, mq_137_254, mq_137_256, mq_137_257, mq_137_260, mq_137_261, mq_137_264, Nat.reduceAdd, em_soft, em_sizeOf, em_greater, sg_bi_i, i1, i2, ck, ck2, nI_1, fn_soft_pos, h3, h4, or_self, not_false_eq_true, and_self, if_true, if_false]
  have fin : ∀ b : Int32, (b = 0 ∨ b = 1) → ((b = 1) = (0 < fn_soft (σ 131 k) ∨ 0 < fn_soft (σ 131 (k + 1)))) → sg_rv 137 195 σ [sg_r 7 120, sg_i mo, sg_i (nI k), sg_i b, x4] [] = sg_rv 137 153 (sg_up σ 130 k (fn_sn (σ 131) (σ 129) (σ 130) k)) [sg_r 7 120, sg_i mo, sg_i (nI (k + 1)), sg_i b, x4] [] := by
    intro b hb he
    rw [body b hb]
    congr 1
    unfold fn_sn
    by_cases hc : b = 1 ∧ ¬ (0 < fn_soft (σ 129 k) ∨ 0 < fn_soft (σ 129 (k + 1)))
    · have hc2 : (0 < fn_soft (σ 131 k) ∨ 0 < fn_soft (σ 131 (k + 1))) ∧ ¬ (0 < fn_soft (σ 129 k) ∨ 0 < fn_soft (σ 129 (k + 1))) := ⟨he ▸ hc.1, hc.2⟩
      rw [if_pos hc, if_pos hc2]
    · have hc2 : ¬ ((0 < fn_soft (σ 131 k) ∨ 0 < fn_soft (σ 131 (k + 1))) ∧ ¬ (0 < fn_soft (σ 129 k) ∨ 0 < fn_soft (σ 129 (k + 1)))) := fun q => hc ⟨he.symm ▸ q.1, q.2⟩
      rw [if_neg hc, if_neg hc2, self]
  by_cases h1 : 0 < fn_soft (σ 131 k)
  · refine ⟨sg_i 1, ?_⟩
    rw [← fin 1 (Or.inr rfl) (by simp [h1])]
    simp (decide := true) only [mq_137_163, mq_137_164, mq_137_167, mq_137_168, mq_137_169, mq_137_172, mq_137_175, mq_137_176, mq_137_179, mq_137_180, mq_137_181, mq_137_182, mq_137_183, mq_137_186, mq_137_189, mq_137_190, mq_137_193, mq_137_194, Nat.reduceAdd, em_soft, sg_bi_i, i1, i2, ck, ck2, nI_1, h1, if_true]
  · by_cases h2 : 0 < fn_soft (σ 131 (k + 1))
    · refine ⟨sg_i 1, ?_⟩
      rw [← fin 1 (Or.inr rfl) (by simp [h2])]
      simp (decide := true) only [mq_137_163, mq_137_164, mq_137_167, mq_137_168, mq_137_169, mq_137_172, mq_137_175, mq_137_176, mq_137_179, mq_137_180, mq_137_181, mq_137_182, mq_137_183, mq_137_186, mq_137_189, mq_137_190, mq_137_193, mq_137_194, Nat.reduceAdd, em_soft, sg_bi_i, i1, i2, ck, ck2, nI_1, h1, h2, if_true, if_false]
    · refine ⟨sg_i 0, ?_⟩
      rw [← fin 0 (Or.inl rfl) (by simp (decide := true) [h1, h2])]
      simp (decide := true) only [mq_137_163, mq_137_164, mq_137_167, mq_137_168, mq_137_169, mq_137_172, mq_137_175, mq_137_176, mq_137_179, mq_137_180, mq_137_181, mq_137_182, mq_137_183, mq_137_186, mq_137_189, mq_137_190, mq_137_193, mq_137_194, Nat.reduceAdd, em_soft, sg_bi_i, i1, i2, ck, ck2, nI_1, h1, h2, if_false]
theorem em_t2 (σ : sg_M) (n : Nat) (mo : Int32) (x4 : sg_V) (h1 : 1 ≤ n) (h8 : n ≤ 8) (hn : σ 120 8 = nI n) : ∀ m k (x3 : sg_V), k + m + 1 = n → sg_rv 137 153 (sg_set σ 130 (fun j => if j < k then fn_sn (σ 131) (σ 129) (σ 130) j else σ 130 j)) [sg_r 7 120, sg_i mo, sg_i (nI k), x3, x4] [] = some (none, sg_set σ 130 (fun j => if j < n - 1 then fn_sn (σ 131) (σ 129) (σ 130) j else σ 130 j)) := by
  intro m
  induction m with
  | zero =>
    intro k x3 hk
    simp only [mq_137_153, mq_137_154, mq_137_155, mq_137_156, mq_137_157, mq_137_160, nI_1, sg_set_ne (show (120 : Nat) ≠ 130 by omega), hn, nI_ltI (show k + 1 < 2 ^ 31 by omega) (show n < 2 ^ 31 by omega), show ¬ k + 1 < n by omega, if_false, mq_137_267]
    rw [show k = n - 1 by omega]
  | succ m ih =>
    intro k x3 hk
    have ef : ∀ j, k ≤ j → (fun j => if j < k then fn_sn (σ 131) (σ 129) (σ 130) j else σ 130 j) j = σ 130 j := fun j hj => by show (if j < k then _ else _) = _; rw [if_neg (by omega)]
    have eu := upd_lt (σ 130) k (fn_sn (σ 131) (σ 129) (σ 130))
    generalize hf : (fun j => if j < k then fn_sn (σ 131) (σ 129) (σ 130) j else σ 130 j) = f at ef eu ⊢
    have e0 : sg_set σ 130 f 120 = σ 120 := sg_set_ne (by omega)
    have e3 : sg_set σ 130 f 129 = σ 129 := sg_set_ne (by omega)
    have e5 : sg_set σ 130 f 131 = σ 131 := sg_set_ne (by omega)
    obtain ⟨y3, hh⟩ := em_sn (sg_set σ 130 f) mo x3 x4 k (by omega)
    have esn : fn_sn (σ 131) (σ 129) f k = fn_sn (σ 131) (σ 129) (σ 130) k := by
      unfold fn_sn
      rw [ef k (Nat.le_refl k)]
    rw [e3, e5, sg_set_same, sg_up_set, esn, eu] at hh
    simp only [mq_137_153, mq_137_154, mq_137_155, mq_137_156, mq_137_157, mq_137_160, nI_1, e0, hn, nI_ltI (show k + 1 < 2 ^ 31 by omega) (show n < 2 ^ 31 by omega), show k + 1 < n by omega, if_true]
    rw [hh]
    exact ih (k + 1) y3 (by omega)
/-- what the model has of a piece in hand -/
def sg_mm (σ : sg_M) (o t : Int32) (r h s w : Nat → Int32) : sg_M := sg_set (sg_set (sg_set (sg_set (sg_up (sg_up σ 120 9 o) 120 10 t) 128 r) 129 h) 130 s) 131 w
theorem mm_120 (σ : sg_M) (o t : Int32) (r h s w : Nat → Int32) : sg_mm σ o t r h s w 120 = upd (upd (σ 120) 9 o) 10 t := by
  unfold sg_mm
  rw [sg_set_ne (by omega), sg_set_ne (by omega), sg_set_ne (by omega), sg_set_ne (by omega), sg_up_row, sg_up_row]
theorem mm_128 (σ : sg_M) (o t : Int32) (r h s w : Nat → Int32) : sg_mm σ o t r h s w 128 = r := by
  unfold sg_mm
  rw [sg_set_ne (by omega), sg_set_ne (by omega), sg_set_ne (by omega), sg_set_same]
theorem mm_129 (σ : sg_M) (o t : Int32) (r h s w : Nat → Int32) : sg_mm σ o t r h s w 129 = h := by
  unfold sg_mm
  rw [sg_set_ne (by omega), sg_set_ne (by omega), sg_set_same]
theorem mm_130 (σ : sg_M) (o t : Int32) (r h s w : Nat → Int32) : sg_mm σ o t r h s w 130 = s := by
  unfold sg_mm
  rw [sg_set_ne (by omega), sg_set_same]
theorem mm_131 (σ : sg_M) (o t : Int32) (r h s w : Nat → Int32) : sg_mm σ o t r h s w 131 = w := by
  unfold sg_mm
  rw [sg_set_same]
theorem mm_ne {σ : sg_M} {x : Nat} {o t : Int32} {r h s w : Nat → Int32} (hx : x ≠ 120 ∧ (x < 128 ∨ 131 < x)) : sg_mm σ o t r h s w x = σ x := by
  unfold sg_mm
  rw [sg_set_ne (by omega), sg_set_ne (by omega), sg_set_ne (by omega), sg_set_ne (by omega), sg_up_ne hx.1, sg_up_ne hx.1]
theorem mm_ext {τ σ : sg_M} {o t : Int32} {r h s w : Nat → Int32} (hc : τ 120 = upd (upd (σ 120) 9 o) 10 t) (h2 : τ 128 = r) (h3 : τ 129 = h) (h4 : τ 130 = s) (h5 : τ 131 = w) (hx : ∀ x, (x ≠ 120 ∧ (x < 128 ∨ 131 < x)) → τ x = σ x) : τ = sg_mm σ o t r h s w := by
  funext x
  rcases (show x = 120 ∨ x = 128 ∨ x = 129 ∨ x = 130 ∨ x = 131 ∨ (x ≠ 120 ∧ (x < 128 ∨ 131 < x)) by omega) with rfl | rfl | rfl | rfl | rfl | q
  · rw [hc, mm_120]
  · rw [h2, mm_128]
  · rw [h3, mm_129]
  · rw [h4, mm_130]
  · rw [h5, mm_131]
  · rw [hx x q, mm_ne q]
theorem upd_comm {f : Nat → Int32} {a b : Nat} {x y : Int32} (h : a ≠ b) : upd (upd f a x) b y = upd (upd f b y) a x := by
  funext j
  by_cases h1 : j = a
  · subst h1; simp [upd, h]
  · by_cases h2 : j = b
    · subst h2; simp [upd, h1]
    · simp [upd, h1, h2]
theorem mm_self (σ : sg_M) : sg_mm σ (σ 120 9) (σ 120 10) (σ 128) (σ 129) (σ 130) (σ 131) = σ := by
  refine (mm_ext ?_ rfl rfl rfl rfl (fun _ _ => rfl)).symm
  funext j
  by_cases hj : j = 10
  · subst hj; rw [upd_same]
  · rw [upd_ne hj]
    by_cases hj : j = 9
    · subst hj; rw [upd_same]
    · rw [upd_ne hj]
theorem mm_mm (σ : sg_M) (o t o2 t2 : Int32) (r h s w r2 h2 s2 w2 : Nat → Int32) : sg_mm (sg_mm σ o t r h s w) o2 t2 r2 h2 s2 w2 = sg_mm σ o2 t2 r2 h2 s2 w2 := by
  refine mm_ext ?_ (mm_128 _ _ _ _ _ _ _) (mm_129 _ _ _ _ _ _ _) (mm_130 _ _ _ _ _ _ _) (mm_131 _ _ _ _ _ _ _) (fun x q => ?_)
  · rw [mm_120, mm_120, upd_comm (show (10 : Nat) ≠ 9 by omega), upd_upd, upd_upd]
  · rw [mm_ne q, mm_ne q]
theorem em_cool (σ : sg_M) (n : Nat) (mo : Int32) (h1 : 1 ≤ n) (h8 : n ≤ 8) (hn : σ 120 8 = nI n) (hok : ∀ k, k < n → fn_okr (σ 127) (σ 128) k) : sg_ev 137 σ [sg_r 7 120, sg_i mo] = some (none, sg_mm σ (σ 120 9) (σ 120 10) (σ 128) (fn_H 1 mo n (σ 127) (σ 128) (σ 129)) (fn_S n (σ 129) (fn_H 1 mo n (σ 127) (σ 128) (σ 129)) (σ 130)) (fun j => if j < n then σ 129 j else σ 131 j)) := by
  simp only [me_137, me_137, mq_137_0, mq_137_1]
  have q0 := em_t0 σ n mo h8 hn n 0 (by omega)
  have f0 : (fun j => if j < 0 then σ 129 j else σ 131 j) = σ 131 := by funext j; simp
  rw [f0, sg_set_self] at q0
  rw [show (0 : Int32) = nI 0 from rfl, q0]
  simp only [mq_137_28, mq_137_29]
  generalize hW : (fun j => if j < n then σ 129 j else σ 131 j) = W0
  have hWj : ∀ j, j < n → W0 j = σ 129 j := fun j hj => by rw [← hW]; show (if j < n then _ else _) = _; rw [if_pos hj]
  have a0 : sg_set σ 131 W0 120 = σ 120 := sg_set_ne (by omega)
  have a1 : sg_set σ 131 W0 127 = σ 127 := sg_set_ne (by omega)
  have a2 : sg_set σ 131 W0 128 = σ 128 := sg_set_ne (by omega)
  have a3 : sg_set σ 131 W0 129 = σ 129 := sg_set_ne (by omega)
  have a4 : sg_set σ 131 W0 130 = σ 130 := sg_set_ne (by omega)
  obtain ⟨y3, y4, -, -, q1⟩ := em_t1 (sg_set σ 131 W0) n mo h8 (by rw [a0]; exact hn) (by rw [a1, a2]; exact hok) n 0 (sg_r 0 0) (sg_r 0 0) (Or.inl rfl) (Or.inl rfl) (by omega)
  rw [a1, a2, a3, sg_set_same] at q1
  have f0 : (fun j => if j < 0 then fn_nh 1 mo n (σ 127) (σ 128) W0 j else σ 129 j) = sg_set σ 131 W0 129 := by rw [a3]; funext j; simp
  rw [f0, sg_set_self] at q1
  have fH : (fun j => if j < n then fn_nh 1 mo n (σ 127) (σ 128) W0 j else σ 129 j) = fn_H 1 mo n (σ 127) (σ 128) (σ 129) := by
    funext j
    unfold fn_H
    by_cases hj : j < n
    · rw [if_pos hj, if_pos hj]
      exact fn_nh_congr hj (fun i hi => hWj i hi)
    · rw [if_neg hj, if_neg hj]
  rw [fH] at q1
  generalize fn_H 1 mo n (σ 127) (σ 128) (σ 129) = Hh at q1 ⊢
  rw [show (0 : Int32) = nI 0 from rfl, q1]
  simp only [mq_137_151, mq_137_152]
  generalize hτ : sg_set (sg_set σ 131 W0) 129 Hh = τ
  have b0 : τ 120 = σ 120 := by rw [← hτ, sg_set_ne (by omega), a0]
  have b2 : τ 128 = σ 128 := by rw [← hτ, sg_set_ne (by omega), a2]
  have b3 : τ 129 = Hh := by rw [← hτ, sg_set_same]
  have b4 : τ 130 = σ 130 := by rw [← hτ, sg_set_ne (by omega), a4]
  have b5 : τ 131 = W0 := by rw [← hτ, sg_set_ne (by omega), sg_set_same]
  have q2 := em_t2 τ n mo y4 h1 h8 (by rw [b0]; exact hn) (n - 1) 0 y3 (by omega)
  have f0 : (fun j => if j < 0 then fn_sn (τ 131) (τ 129) (τ 130) j else τ 130 j) = τ 130 := by funext j; simp
  rw [f0, sg_set_self, b3, b4, b5] at q2
  have fS : (fun j => if j < n - 1 then fn_sn W0 Hh (σ 130) j else σ 130 j) = fn_S n (σ 129) Hh (σ 130) := by
    funext j
    unfold fn_S
    by_cases hj : j < n - 1
    · rw [if_pos hj, if_pos hj]
      unfold fn_sn
      rw [hWj j (by omega), hWj (j + 1) (by omega)]
    · rw [if_neg hj, if_neg hj]
  rw [fS] at q2
  rw [show (0 : Int32) = nI 0 from rfl, q2]
  congr 2
  refine mm_ext ?_ ?_ ?_ ?_ ?_ (fun x hx => ?_)
  · rw [sg_set_ne (by omega), b0]
    funext j
    by_cases hj : j = 10
    · subst hj; rw [upd_same]
    · rw [upd_ne hj]
      by_cases hj : j = 9
      · subst hj; rw [upd_same]
      · rw [upd_ne hj]
  · rw [sg_set_ne (by omega), b2]
  · rw [sg_set_ne (by omega), b3]
  · rw [sg_set_same]
  · rw [sg_set_ne (by omega), b5]
  · rw [sg_set_ne (by omega), ← hτ, sg_set_ne (by omega), sg_set_ne (by omega)]
