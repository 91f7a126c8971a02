/-! THE LAW's loop -/
theorem run_ty : ∀ (n y pc : Nat) (σ : sg_M) (lv st : List sg_V) (o : sg_O), sg_run n y pc σ lv st = some o → (match o.1 with
    | some (.inl v) => sg_z (sg_rt y) v = true
    | some (.inr (.inl _)) => sg_rt y = some .long
    | none => sg_rt y = none
    | _ => False) := by
  intro n
  induction n with
  | zero => intro y pc σ lv st o h; cases h
  | succ n ih =>
    intro y pc σ lv st o h
    simp only [sg_run] at h
    split at h
    · cases h
    · split at h
      · split at h
        · cases h
        · exact ih _ _ _ _ _ _ h
        · rename_i o' ho'
          cases h
          have h3 := (sg_ret_i ho').2.2
          obtain ⟨o1, σ'⟩ := o
          rcases o1 with _ | v | v | q
          · exact h3.2
          · exact h3.2
          · exact h3.2
          · exact h3
        · split at h
          · cases h
          · exact ih _ _ _ _ _ _ h
      · cases h
theorem ev_int {z : Nat} {σ σ' : sg_M} {as : List sg_V} {r : sg_V} (h : sg_ev z σ as = some (some r, σ')) (hz : sg_rt z = some .int) : ∃ v, r = sg_i v := by
  obtain ⟨n, hn⟩ := sg_rv_iff.mp h
  have := run_ty n _ _ _ _ _ _ hn
  rcases r with v | v | q
  · exact ⟨v, rfl⟩
  · simp only [hz] at this; cases this
  · exact this.elim
theorem ev_long {z : Nat} {σ σ' : sg_M} {as : List sg_V} {r : sg_V} (h : sg_ev z σ as = some (some r, σ')) (hz : sg_rt z = some .long) : ∃ v, r = sg_l v := by
  obtain ⟨n, hn⟩ := sg_rv_iff.mp h
  have := run_ty n _ _ _ _ _ _ hn
  rcases r with v | v | q
  · simp only [hz, sg_z] at this; cases this
  · exact ⟨v, rfl⟩
  · exact this.elim
theorem roV0 (σ : sg_M) (j : Nat) : sg_roV 0 σ j = σ 1000 j := rfl
theorem okL_args (l : List sg_V) (h : l.all (fun v => match v with
  | .inr (.inr _) => false
  | _ => true) = true) : sg_okL (sg_r 1 0 :: l) := by
  refine sg_okL_cons.mpr ⟨Or.inr (Or.inl ⟨by omega, by decide⟩), fun v hv => ?_⟩
  have := List.all_eq_true.mp h v hv
  rcases v with x | x | q
  · trivial
  · trivial
  · cases this
noncomputable def lw_at (σ : sg_M) (pc c : Nat) : Option sg_O := sg_rv 199 pc σ [sg_r 90 1000, sg_r 1 0, sg_r 7 120, sg_i (nI (8 * c))] []
def lw_ok (B : Int) (σ : sg_M) (pc c : Nat) : Prop := ∃ σ' : sg_M, lw_at σ pc c = lw_at σ' 1560 c ∧ iv_all (B + 4) σ' ∧ σ' 1000 = σ 1000 ∧ σ' 999 = σ 999
section LAW
variable {B : Int} {σ : sg_M} {c L : Nat}

theorem lw_c0 (hB : 150 ≤ B) (hU : B ≤ 1000000) (hL : 8 * c + 8 ≤ L) (hL2 : L ≤ 4096) (hl : σ 999 0 = nI L) (h : iv_all B σ) : lw_ok B σ 176 c := by
  obtain ⟨r, σ1, σ2, g1, g2, g3, g4, g5⟩ := pr_piece (by omega) (σ 1000 (8 * c + 1)) (σ 1000 (8 * c + 2)) (σ 1000 (8 * c + 3)) (σ 1000 (8 * c + 4)) h
  have kp := sg_ev_keep g1 (okL_args [sg_i (σ 1000 (8 * c + 1)), sg_i (σ 1000 (8 * c + 2)), sg_i (σ 1000 (8 * c + 3)), sg_i (σ 1000 (8 * c + 4))] (by rfl))
  have k1 : σ1 1000 = σ 1000 := kp 1000 (by omega)
  have k9 : σ1 999 = σ 999 := kp 999 (by omega)
  obtain ⟨v, rfl⟩ := ev_int g1 (by rfl)
  have n0 : sg_roN 0 σ = L := by show (σ 999 0).toNatClampNeg = L; rw [hl, sg_nIc (by omega)]
  have n1 : sg_roN 0 σ1 = L := by show (σ1 999 0).toNatClampNeg = L; rw [k9, hl, sg_nIc (by omega)]
  have e1 : nI (8 * c) + 1 = nI (8 * c + 1) := nI_add (8 * c) 1
  have i1 : sg_in (nI (8 * c + 1)) L = true := sg_in_nI (by omega) (by omega)
  have c1 : (nI (8 * c + 1)).toNatClampNeg = 8 * c + 1 := sg_nIc (by omega)
  have e2 : nI (8 * c) + 2 = nI (8 * c + 2) := nI_add (8 * c) 2
  have i2 : sg_in (nI (8 * c + 2)) L = true := sg_in_nI (by omega) (by omega)
  have c2 : (nI (8 * c + 2)).toNatClampNeg = 8 * c + 2 := sg_nIc (by omega)
  have e3 : nI (8 * c) + 3 = nI (8 * c + 3) := nI_add (8 * c) 3
  have i3 : sg_in (nI (8 * c + 3)) L = true := sg_in_nI (by omega) (by omega)
  have c3 : (nI (8 * c + 3)).toNatClampNeg = 8 * c + 3 := sg_nIc (by omega)
  have e4 : nI (8 * c) + 4 = nI (8 * c + 4) := nI_add (8 * c) 4
  have i4 : sg_in (nI (8 * c + 4)) L = true := sg_in_nI (by omega) (by omega)
  have c4 : (nI (8 * c + 4)).toNatClampNeg = 8 * c + 4 := sg_nIc (by omega)
  refine ⟨σ2, ?_, iv_all_mono (show B ≤ B + 4 by omega) g3, g4, g5⟩
  unfold lw_at
  simp (decide := true) only [mq_199_176, mq_199_177, mq_199_178, mq_199_179, mq_199_180, mq_199_181, mq_199_182, mq_199_183, mq_199_184, mq_199_185, mq_199_186, mq_199_187, mq_199_188, mq_199_189, mq_199_190, mq_199_191, mq_199_192, mq_199_193, mq_199_194, mq_199_195, mq_199_196, mq_199_197, n0, roV0, e1, i1, c1, e2, i2, c2, e3, i3, c3, e4, i4, c4, g1, Nat.reduceAdd, Nat.reduceMul, Nat.reduceSub, Nat.zero_add, sg_bi_i, sg_bi_n, sg_bz, sg_bb, sg_b_0, sg_b_1, if_true, if_false, not_true_eq_false, not_false_eq_true, true_and, and_true, false_and, and_false, and_self, Int32.reduceSub]
  simp (decide := true) only [mq_199_200, mq_199_201, mq_199_202, mq_199_203, mq_199_204, mq_199_205, mq_199_206, mq_199_207, mq_199_208, mq_199_209, mq_199_210, mq_199_211, mq_199_212, mq_199_213, mq_199_214, mq_199_215, mq_199_216, mq_199_217, mq_199_218, mq_199_219, mq_199_220, mq_199_221, mq_199_224, n1, roV0, k1, e1, i1, c1, e2, i2, c2, e3, i3, c3, e4, i4, c4, g2, sg_lc_eq, Nat.reduceAdd, Nat.reduceMul, Nat.reduceSub, Nat.zero_add, sg_bi_i, sg_bi_n, sg_bz, sg_bb, sg_b_0, sg_b_1, if_true, if_false, not_true_eq_false, not_false_eq_true, true_and, and_true, false_and, and_false, and_self, Int32.reduceSub]
theorem lw_c1 (hB : 150 ≤ B) (hU : B ≤ 1000000) (hL : 8 * c + 8 ≤ L) (hL2 : L ≤ 4096) (hl : σ 999 0 = nI L) (h : iv_all B σ) : lw_ok B σ 229 c := by
  obtain ⟨r, σ1, σ2, g1, g2, g3, g4, g5⟩ := pr_ring (σ 1000 (8 * c + 1)) (σ 1000 (8 * c + 2)) (σ 1000 (8 * c + 3)) h
  have kp := sg_ev_keep g1 (okL_args [sg_i (σ 1000 (8 * c + 1)), sg_i (σ 1000 (8 * c + 2)), sg_i (σ 1000 (8 * c + 3))] (by rfl))
  have k1 : σ1 1000 = σ 1000 := kp 1000 (by omega)
  have k9 : σ1 999 = σ 999 := kp 999 (by omega)
  obtain ⟨v, rfl⟩ := ev_int g1 (by rfl)
  have n0 : sg_roN 0 σ = L := by show (σ 999 0).toNatClampNeg = L; rw [hl, sg_nIc (by omega)]
  have n1 : sg_roN 0 σ1 = L := by show (σ1 999 0).toNatClampNeg = L; rw [k9, hl, sg_nIc (by omega)]
  have e1 : nI (8 * c) + 1 = nI (8 * c + 1) := nI_add (8 * c) 1
  have i1 : sg_in (nI (8 * c + 1)) L = true := sg_in_nI (by omega) (by omega)
  have c1 : (nI (8 * c + 1)).toNatClampNeg = 8 * c + 1 := sg_nIc (by omega)
  have e2 : nI (8 * c) + 2 = nI (8 * c + 2) := nI_add (8 * c) 2
  have i2 : sg_in (nI (8 * c + 2)) L = true := sg_in_nI (by omega) (by omega)
  have c2 : (nI (8 * c + 2)).toNatClampNeg = 8 * c + 2 := sg_nIc (by omega)
  have e3 : nI (8 * c) + 3 = nI (8 * c + 3) := nI_add (8 * c) 3
  have i3 : sg_in (nI (8 * c + 3)) L = true := sg_in_nI (by omega) (by omega)
  have c3 : (nI (8 * c + 3)).toNatClampNeg = 8 * c + 3 := sg_nIc (by omega)
  refine ⟨σ2, ?_, iv_all_mono (show B ≤ B + 4 by omega) g3, g4, g5⟩
  unfold lw_at
  simp (decide := true) only [mq_199_229, mq_199_230, mq_199_231, mq_199_232, mq_199_233, mq_199_234, mq_199_235, mq_199_236, mq_199_237, mq_199_238, mq_199_239, mq_199_240, mq_199_241, mq_199_242, mq_199_243, mq_199_244, mq_199_245, n0, roV0, e1, i1, c1, e2, i2, c2, e3, i3, c3, g1, Nat.reduceAdd, Nat.reduceMul, Nat.reduceSub, Nat.zero_add, sg_bi_i, sg_bi_n, sg_bz, sg_bb, sg_b_0, sg_b_1, if_true, if_false, not_true_eq_false, not_false_eq_true, true_and, and_true, false_and, and_false, and_self, Int32.reduceSub]
  simp (decide := true) only [mq_199_248, mq_199_249, mq_199_250, mq_199_251, mq_199_252, mq_199_253, mq_199_254, mq_199_255, mq_199_256, mq_199_257, mq_199_258, mq_199_259, mq_199_260, mq_199_261, mq_199_262, mq_199_263, mq_199_264, mq_199_267, n1, roV0, k1, e1, i1, c1, e2, i2, c2, e3, i3, c3, g2, sg_lc_eq, Nat.reduceAdd, Nat.reduceMul, Nat.reduceSub, Nat.zero_add, sg_bi_i, sg_bi_n, sg_bz, sg_bb, sg_b_0, sg_b_1, if_true, if_false, not_true_eq_false, not_false_eq_true, true_and, and_true, false_and, and_false, and_self, Int32.reduceSub]
theorem lw_c2 (hB : 150 ≤ B) (hU : B ≤ 1000000) (hL : 8 * c + 8 ≤ L) (hL2 : L ≤ 4096) (hl : σ 999 0 = nI L) (h : iv_all B σ) : lw_ok B σ 272 c := by
  obtain ⟨r, σ1, σ2, g1, g2, g3, g4, g5⟩ := pr_ofPiece (σ 1000 (8 * c + 1)) (σ 1000 (8 * c + 2)) h
  have kp := sg_ev_keep g1 (okL_args [sg_i (σ 1000 (8 * c + 1)), sg_i (σ 1000 (8 * c + 2))] (by rfl))
  have k1 : σ1 1000 = σ 1000 := kp 1000 (by omega)
  have k9 : σ1 999 = σ 999 := kp 999 (by omega)
  obtain ⟨v, rfl⟩ := ev_int g1 (by rfl)
  have n0 : sg_roN 0 σ = L := by show (σ 999 0).toNatClampNeg = L; rw [hl, sg_nIc (by omega)]
  have n1 : sg_roN 0 σ1 = L := by show (σ1 999 0).toNatClampNeg = L; rw [k9, hl, sg_nIc (by omega)]
  have e1 : nI (8 * c) + 1 = nI (8 * c + 1) := nI_add (8 * c) 1
  have i1 : sg_in (nI (8 * c + 1)) L = true := sg_in_nI (by omega) (by omega)
  have c1 : (nI (8 * c + 1)).toNatClampNeg = 8 * c + 1 := sg_nIc (by omega)
  have e2 : nI (8 * c) + 2 = nI (8 * c + 2) := nI_add (8 * c) 2
  have i2 : sg_in (nI (8 * c + 2)) L = true := sg_in_nI (by omega) (by omega)
  have c2 : (nI (8 * c + 2)).toNatClampNeg = 8 * c + 2 := sg_nIc (by omega)
  refine ⟨σ2, ?_, iv_all_mono (show B ≤ B + 4 by omega) g3, g4, g5⟩
  unfold lw_at
  simp (decide := true) only [mq_199_272, mq_199_273, mq_199_274, mq_199_275, mq_199_276, mq_199_277, mq_199_278, mq_199_279, mq_199_280, mq_199_281, mq_199_282, mq_199_283, n0, roV0, e1, i1, c1, e2, i2, c2, g1, Nat.reduceAdd, Nat.reduceMul, Nat.reduceSub, Nat.zero_add, sg_bi_i, sg_bi_n, sg_bz, sg_bb, sg_b_0, sg_b_1, if_true, if_false, not_true_eq_false, not_false_eq_true, true_and, and_true, false_and, and_false, and_self, Int32.reduceSub]
  simp (decide := true) only [mq_199_286, mq_199_287, mq_199_288, mq_199_289, mq_199_290, mq_199_291, mq_199_292, mq_199_293, mq_199_294, mq_199_295, mq_199_296, mq_199_297, mq_199_300, n1, roV0, k1, e1, i1, c1, e2, i2, c2, g2, sg_lc_eq, Nat.reduceAdd, Nat.reduceMul, Nat.reduceSub, Nat.zero_add, sg_bi_i, sg_bi_n, sg_bz, sg_bb, sg_b_0, sg_b_1, if_true, if_false, not_true_eq_false, not_false_eq_true, true_and, and_true, false_and, and_false, and_self, Int32.reduceSub]
theorem lw_c3 (hB : 150 ≤ B) (hU : B ≤ 1000000) (hL : 8 * c + 8 ≤ L) (hL2 : L ≤ 4096) (hl : σ 999 0 = nI L) (h : iv_all B σ) : lw_ok B σ 305 c := by
  obtain ⟨r, σ1, σ2, g1, g2, g3, g4, g5⟩ := pr_tenth hB (σ 1000 (8 * c + 1)) (σ 1000 (8 * c + 2)) (σ 1000 (8 * c + 3)) h
  have kp := sg_ev_keep g1 (okL_args [sg_i (σ 1000 (8 * c + 1)), sg_i (σ 1000 (8 * c + 2)), sg_i (σ 1000 (8 * c + 3))] (by rfl))
  have k1 : σ1 1000 = σ 1000 := kp 1000 (by omega)
  have k9 : σ1 999 = σ 999 := kp 999 (by omega)
  obtain ⟨v, rfl⟩ := ev_int g1 (by rfl)
  have n0 : sg_roN 0 σ = L := by show (σ 999 0).toNatClampNeg = L; rw [hl, sg_nIc (by omega)]
  have n1 : sg_roN 0 σ1 = L := by show (σ1 999 0).toNatClampNeg = L; rw [k9, hl, sg_nIc (by omega)]
  have e1 : nI (8 * c) + 1 = nI (8 * c + 1) := nI_add (8 * c) 1
  have i1 : sg_in (nI (8 * c + 1)) L = true := sg_in_nI (by omega) (by omega)
  have c1 : (nI (8 * c + 1)).toNatClampNeg = 8 * c + 1 := sg_nIc (by omega)
  have e2 : nI (8 * c) + 2 = nI (8 * c + 2) := nI_add (8 * c) 2
  have i2 : sg_in (nI (8 * c + 2)) L = true := sg_in_nI (by omega) (by omega)
  have c2 : (nI (8 * c + 2)).toNatClampNeg = 8 * c + 2 := sg_nIc (by omega)
  have e3 : nI (8 * c) + 3 = nI (8 * c + 3) := nI_add (8 * c) 3
  have i3 : sg_in (nI (8 * c + 3)) L = true := sg_in_nI (by omega) (by omega)
  have c3 : (nI (8 * c + 3)).toNatClampNeg = 8 * c + 3 := sg_nIc (by omega)
  refine ⟨σ2, ?_, iv_all_mono (show B ≤ B + 4 by omega) g3, g4, g5⟩
  unfold lw_at
  simp (decide := true) only [mq_199_305, mq_199_306, mq_199_307, mq_199_308, mq_199_309, mq_199_310, mq_199_311, mq_199_312, mq_199_313, mq_199_314, mq_199_315, mq_199_316, mq_199_317, mq_199_318, mq_199_319, mq_199_320, mq_199_321, n0, roV0, e1, i1, c1, e2, i2, c2, e3, i3, c3, g1, Nat.reduceAdd, Nat.reduceMul, Nat.reduceSub, Nat.zero_add, sg_bi_i, sg_bi_n, sg_bz, sg_bb, sg_b_0, sg_b_1, if_true, if_false, not_true_eq_false, not_false_eq_true, true_and, and_true, false_and, and_false, and_self, Int32.reduceSub]
  simp (decide := true) only [mq_199_324, mq_199_325, mq_199_326, mq_199_327, mq_199_328, mq_199_329, mq_199_330, mq_199_331, mq_199_332, mq_199_333, mq_199_334, mq_199_335, mq_199_336, mq_199_337, mq_199_338, mq_199_339, mq_199_340, mq_199_343, n1, roV0, k1, e1, i1, c1, e2, i2, c2, e3, i3, c3, g2, sg_lc_eq, Nat.reduceAdd, Nat.reduceMul, Nat.reduceSub, Nat.zero_add, sg_bi_i, sg_bi_n, sg_bz, sg_bb, sg_b_0, sg_b_1, if_true, if_false, not_true_eq_false, not_false_eq_true, true_and, and_true, false_and, and_false, and_self, Int32.reduceSub]
theorem lw_c4 (hB : 150 ≤ B) (hU : B ≤ 1000000) (hL : 8 * c + 8 ≤ L) (hL2 : L ≤ 4096) (hl : σ 999 0 = nI L) (h : iv_all B σ) : lw_ok B σ 348 c := by
  obtain ⟨r, σ1, σ2, g1, g2, g3, g4, g5⟩ := pr_recipe (σ 1000 (8 * c + 1)) (σ 1000 (8 * c + 2)) (σ 1000 (8 * c + 3)) (σ 1000 (8 * c + 4)) h
  have kp := sg_ev_keep g1 (okL_args [sg_i (σ 1000 (8 * c + 1)), sg_i (σ 1000 (8 * c + 2)), sg_i (σ 1000 (8 * c + 3)), sg_i (σ 1000 (8 * c + 4))] (by rfl))
  have k1 : σ1 1000 = σ 1000 := kp 1000 (by omega)
  have k9 : σ1 999 = σ 999 := kp 999 (by omega)
  obtain ⟨v, rfl⟩ := ev_int g1 (by rfl)
  have n0 : sg_roN 0 σ = L := by show (σ 999 0).toNatClampNeg = L; rw [hl, sg_nIc (by omega)]
  have n1 : sg_roN 0 σ1 = L := by show (σ1 999 0).toNatClampNeg = L; rw [k9, hl, sg_nIc (by omega)]
  have e1 : nI (8 * c) + 1 = nI (8 * c + 1) := nI_add (8 * c) 1
  have i1 : sg_in (nI (8 * c + 1)) L = true := sg_in_nI (by omega) (by omega)
  have c1 : (nI (8 * c + 1)).toNatClampNeg = 8 * c + 1 := sg_nIc (by omega)
  have e2 : nI (8 * c) + 2 = nI (8 * c + 2) := nI_add (8 * c) 2
  have i2 : sg_in (nI (8 * c + 2)) L = true := sg_in_nI (by omega) (by omega)
  have c2 : (nI (8 * c + 2)).toNatClampNeg = 8 * c + 2 := sg_nIc (by omega)
  have e3 : nI (8 * c) + 3 = nI (8 * c + 3) := nI_add (8 * c) 3
  have i3 : sg_in (nI (8 * c + 3)) L = true := sg_in_nI (by omega) (by omega)
  have c3 : (nI (8 * c + 3)).toNatClampNeg = 8 * c + 3 := sg_nIc (by omega)
  have e4 : nI (8 * c) + 4 = nI (8 * c + 4) := nI_add (8 * c) 4
  have i4 : sg_in (nI (8 * c + 4)) L = true := sg_in_nI (by omega) (by omega)
  have c4 : (nI (8 * c + 4)).toNatClampNeg = 8 * c + 4 := sg_nIc (by omega)
  refine ⟨σ2, ?_, iv_all_mono (show B ≤ B + 4 by omega) g3, g4, g5⟩
  unfold lw_at
  simp (decide := true) only [mq_199_348, mq_199_349, mq_199_350, mq_199_351, mq_199_352, mq_199_353, mq_199_354, mq_199_355, mq_199_356, mq_199_357, mq_199_358, mq_199_359, mq_199_360, mq_199_361, mq_199_362, mq_199_363, mq_199_364, mq_199_365, mq_199_366, mq_199_367, mq_199_368, mq_199_369, n0, roV0, e1, i1, c1, e2, i2, c2, e3, i3, c3, e4, i4, c4, g1, Nat.reduceAdd, Nat.reduceMul, Nat.reduceSub, Nat.zero_add, sg_bi_i, sg_bi_n, sg_bz, sg_bb, sg_b_0, sg_b_1, if_true, if_false, not_true_eq_false, not_false_eq_true, true_and, and_true, false_and, and_false, and_self, Int32.reduceSub]
  simp (decide := true) only [mq_199_372, mq_199_373, mq_199_374, mq_199_375, mq_199_376, mq_199_377, mq_199_378, mq_199_379, mq_199_380, mq_199_381, mq_199_382, mq_199_383, mq_199_384, mq_199_385, mq_199_386, mq_199_387, mq_199_388, mq_199_389, mq_199_390, mq_199_391, mq_199_392, mq_199_393, mq_199_396, n1, roV0, k1, e1, i1, c1, e2, i2, c2, e3, i3, c3, e4, i4, c4, g2, sg_lc_eq, Nat.reduceAdd, Nat.reduceMul, Nat.reduceSub, Nat.zero_add, sg_bi_i, sg_bi_n, sg_bz, sg_bb, sg_b_0, sg_b_1, if_true, if_false, not_true_eq_false, not_false_eq_true, true_and, and_true, false_and, and_false, and_self, Int32.reduceSub]
theorem lw_c5 (hB : 150 ≤ B) (hU : B ≤ 1000000) (hL : 8 * c + 8 ≤ L) (hL2 : L ≤ 4096) (hl : σ 999 0 = nI L) (h : iv_all B σ) : lw_ok B σ 401 c := by
  obtain ⟨r, σ1, σ2, g1, g2, g3, g4, g5⟩ := pr_item (σ 1000 (8 * c + 1)) (σ 1000 (8 * c + 2)) h
  have kp := sg_ev_keep g1 (okL_args [sg_i (σ 1000 (8 * c + 1)), sg_i (σ 1000 (8 * c + 2))] (by rfl))
  have k1 : σ1 1000 = σ 1000 := kp 1000 (by omega)
  have k9 : σ1 999 = σ 999 := kp 999 (by omega)
  obtain ⟨v, rfl⟩ := ev_int g1 (by rfl)
  have n0 : sg_roN 0 σ = L := by show (σ 999 0).toNatClampNeg = L; rw [hl, sg_nIc (by omega)]
  have n1 : sg_roN 0 σ1 = L := by show (σ1 999 0).toNatClampNeg = L; rw [k9, hl, sg_nIc (by omega)]
  have e1 : nI (8 * c) + 1 = nI (8 * c + 1) := nI_add (8 * c) 1
  have i1 : sg_in (nI (8 * c + 1)) L = true := sg_in_nI (by omega) (by omega)
  have c1 : (nI (8 * c + 1)).toNatClampNeg = 8 * c + 1 := sg_nIc (by omega)
  have e2 : nI (8 * c) + 2 = nI (8 * c + 2) := nI_add (8 * c) 2
  have i2 : sg_in (nI (8 * c + 2)) L = true := sg_in_nI (by omega) (by omega)
  have c2 : (nI (8 * c + 2)).toNatClampNeg = 8 * c + 2 := sg_nIc (by omega)
  refine ⟨σ2, ?_, iv_all_mono (show B ≤ B + 4 by omega) g3, g4, g5⟩
  unfold lw_at
  simp (decide := true) only [mq_199_401, mq_199_402, mq_199_403, mq_199_404, mq_199_405, mq_199_406, mq_199_407, mq_199_408, mq_199_409, mq_199_410, mq_199_411, mq_199_412, n0, roV0, e1, i1, c1, e2, i2, c2, g1, Nat.reduceAdd, Nat.reduceMul, Nat.reduceSub, Nat.zero_add, sg_bi_i, sg_bi_n, sg_bz, sg_bb, sg_b_0, sg_b_1, if_true, if_false, not_true_eq_false, not_false_eq_true, true_and, and_true, false_and, and_false, and_self, Int32.reduceSub]
  simp (decide := true) only [mq_199_415, mq_199_416, mq_199_417, mq_199_418, mq_199_419, mq_199_420, mq_199_421, mq_199_422, mq_199_423, mq_199_424, mq_199_425, mq_199_426, mq_199_429, n1, roV0, k1, e1, i1, c1, e2, i2, c2, g2, sg_lc_eq, Nat.reduceAdd, Nat.reduceMul, Nat.reduceSub, Nat.zero_add, sg_bi_i, sg_bi_n, sg_bz, sg_bb, sg_b_0, sg_b_1, if_true, if_false, not_true_eq_false, not_false_eq_true, true_and, and_true, false_and, and_false, and_self, Int32.reduceSub]
theorem lw_c6 (hB : 150 ≤ B) (hU : B ≤ 1000000) (hL : 8 * c + 8 ≤ L) (hL2 : L ≤ 4096) (hl : σ 999 0 = nI L) (h : iv_all B σ) : lw_ok B σ 434 c := by
  obtain ⟨r, σ1, σ2, g1, g2, g3, g4, g5⟩ := pr_make hB (σ 1000 (8 * c + 1)) (σ 1000 (8 * c + 2)) h
  have kp := sg_ev_keep g1 (okL_args [sg_i (σ 1000 (8 * c + 1)), sg_i (σ 1000 (8 * c + 2))] (by rfl))
  have k1 : σ1 1000 = σ 1000 := kp 1000 (by omega)
  have k9 : σ1 999 = σ 999 := kp 999 (by omega)
  obtain ⟨v, rfl⟩ := ev_int g1 (by rfl)
  have n0 : sg_roN 0 σ = L := by show (σ 999 0).toNatClampNeg = L; rw [hl, sg_nIc (by omega)]
  have n1 : sg_roN 0 σ1 = L := by show (σ1 999 0).toNatClampNeg = L; rw [k9, hl, sg_nIc (by omega)]
  have e1 : nI (8 * c) + 1 = nI (8 * c + 1) := nI_add (8 * c) 1
  have i1 : sg_in (nI (8 * c + 1)) L = true := sg_in_nI (by omega) (by omega)
  have c1 : (nI (8 * c + 1)).toNatClampNeg = 8 * c + 1 := sg_nIc (by omega)
  have e2 : nI (8 * c) + 2 = nI (8 * c + 2) := nI_add (8 * c) 2
  have i2 : sg_in (nI (8 * c + 2)) L = true := sg_in_nI (by omega) (by omega)
  have c2 : (nI (8 * c + 2)).toNatClampNeg = 8 * c + 2 := sg_nIc (by omega)
  refine ⟨σ2, ?_, iv_all_mono (show B ≤ B + 4 by omega) g3, g4, g5⟩
  unfold lw_at
  simp (decide := true) only [mq_199_434, mq_199_435, mq_199_436, mq_199_437, mq_199_438, mq_199_439, mq_199_440, mq_199_441, mq_199_442, mq_199_443, mq_199_444, mq_199_445, n0, roV0, e1, i1, c1, e2, i2, c2, g1, Nat.reduceAdd, Nat.reduceMul, Nat.reduceSub, Nat.zero_add, sg_bi_i, sg_bi_n, sg_bz, sg_bb, sg_b_0, sg_b_1, if_true, if_false, not_true_eq_false, not_false_eq_true, true_and, and_true, false_and, and_false, and_self, Int32.reduceSub]
  simp (decide := true) only [mq_199_448, mq_199_449, mq_199_450, mq_199_451, mq_199_452, mq_199_453, mq_199_454, mq_199_455, mq_199_456, mq_199_457, mq_199_458, mq_199_459, mq_199_462, n1, roV0, k1, e1, i1, c1, e2, i2, c2, g2, sg_lc_eq, Nat.reduceAdd, Nat.reduceMul, Nat.reduceSub, Nat.zero_add, sg_bi_i, sg_bi_n, sg_bz, sg_bb, sg_b_0, sg_b_1, if_true, if_false, not_true_eq_false, not_false_eq_true, true_and, and_true, false_and, and_false, and_self, Int32.reduceSub]
theorem lw_c7 (hB : 150 ≤ B) (hU : B ≤ 1000000) (hL : 8 * c + 8 ≤ L) (hL2 : L ≤ 4096) (hl : σ 999 0 = nI L) (h : iv_all B σ) : lw_ok B σ 467 c := by
  obtain ⟨r, σ1, σ2, g1, g2, g3, g4, g5⟩ := pr_look (σ 1000 (8 * c + 1)) (σ 1000 (8 * c + 2)) (σ 1000 (8 * c + 3)) (σ 1000 (8 * c + 4)) (σ 1000 (8 * c + 5)) (σ 1000 (8 * c + 6)) h
  have kp := sg_ev_keep g1 (okL_args [sg_i (σ 1000 (8 * c + 1)), sg_i (σ 1000 (8 * c + 2)), sg_i (σ 1000 (8 * c + 3)), sg_i (σ 1000 (8 * c + 4)), sg_i (σ 1000 (8 * c + 5)), sg_i (σ 1000 (8 * c + 6))] (by rfl))
  have k1 : σ1 1000 = σ 1000 := kp 1000 (by omega)
  have k9 : σ1 999 = σ 999 := kp 999 (by omega)
  obtain ⟨v, rfl⟩ := ev_int g1 (by rfl)
  have n0 : sg_roN 0 σ = L := by show (σ 999 0).toNatClampNeg = L; rw [hl, sg_nIc (by omega)]
  have n1 : sg_roN 0 σ1 = L := by show (σ1 999 0).toNatClampNeg = L; rw [k9, hl, sg_nIc (by omega)]
  have e1 : nI (8 * c) + 1 = nI (8 * c + 1) := nI_add (8 * c) 1
  have i1 : sg_in (nI (8 * c + 1)) L = true := sg_in_nI (by omega) (by omega)
  have c1 : (nI (8 * c + 1)).toNatClampNeg = 8 * c + 1 := sg_nIc (by omega)
  have e2 : nI (8 * c) + 2 = nI (8 * c + 2) := nI_add (8 * c) 2
  have i2 : sg_in (nI (8 * c + 2)) L = true := sg_in_nI (by omega) (by omega)
  have c2 : (nI (8 * c + 2)).toNatClampNeg = 8 * c + 2 := sg_nIc (by omega)
  have e3 : nI (8 * c) + 3 = nI (8 * c + 3) := nI_add (8 * c) 3
  have i3 : sg_in (nI (8 * c + 3)) L = true := sg_in_nI (by omega) (by omega)
  have c3 : (nI (8 * c + 3)).toNatClampNeg = 8 * c + 3 := sg_nIc (by omega)
  have e4 : nI (8 * c) + 4 = nI (8 * c + 4) := nI_add (8 * c) 4
  have i4 : sg_in (nI (8 * c + 4)) L = true := sg_in_nI (by omega) (by omega)
  have c4 : (nI (8 * c + 4)).toNatClampNeg = 8 * c + 4 := sg_nIc (by omega)
  have e5 : nI (8 * c) + 5 = nI (8 * c + 5) := nI_add (8 * c) 5
  have i5 : sg_in (nI (8 * c + 5)) L = true := sg_in_nI (by omega) (by omega)
  have c5 : (nI (8 * c + 5)).toNatClampNeg = 8 * c + 5 := sg_nIc (by omega)
  have e6 : nI (8 * c) + 6 = nI (8 * c + 6) := nI_add (8 * c) 6
  have i6 : sg_in (nI (8 * c + 6)) L = true := sg_in_nI (by omega) (by omega)
  have c6 : (nI (8 * c + 6)).toNatClampNeg = 8 * c + 6 := sg_nIc (by omega)
  refine ⟨σ2, ?_, iv_all_mono (show B ≤ B + 4 by omega) g3, g4, g5⟩
  unfold lw_at
  simp (decide := true) only [mq_199_467, mq_199_468, mq_199_469, mq_199_470, mq_199_471, mq_199_472, mq_199_473, mq_199_474, mq_199_475, mq_199_476, mq_199_477, mq_199_478, mq_199_479, mq_199_480, mq_199_481, mq_199_482, mq_199_483, mq_199_484, mq_199_485, mq_199_486, mq_199_487, mq_199_488, mq_199_489, mq_199_490, mq_199_491, mq_199_492, mq_199_493, mq_199_494, mq_199_495, mq_199_497, mq_199_498, mq_199_499, n0, roV0, e1, i1, c1, e2, i2, c2, e3, i3, c3, e4, i4, c4, e5, i5, c5, e6, i6, c6, g1, Nat.reduceAdd, Nat.reduceMul, Nat.reduceSub, Nat.zero_add, sg_bi_i, sg_bi_n, sg_bz, sg_bb, sg_b_0, sg_b_1, if_true, if_false, not_true_eq_false, not_false_eq_true, true_and, and_true, false_and, and_false, and_self, Int32.reduceSub]
  simp (decide := true) only [mq_199_502, mq_199_503, mq_199_504, mq_199_505, mq_199_506, mq_199_507, mq_199_508, mq_199_509, mq_199_510, mq_199_511, mq_199_512, mq_199_513, mq_199_514, mq_199_515, mq_199_516, mq_199_517, mq_199_518, mq_199_519, mq_199_520, mq_199_521, mq_199_522, mq_199_523, mq_199_524, mq_199_525, mq_199_526, mq_199_527, mq_199_528, mq_199_529, mq_199_530, mq_199_532, mq_199_533, mq_199_534, mq_199_537, n1, roV0, k1, e1, i1, c1, e2, i2, c2, e3, i3, c3, e4, i4, c4, e5, i5, c5, e6, i6, c6, g2, sg_lc_eq, Nat.reduceAdd, Nat.reduceMul, Nat.reduceSub, Nat.zero_add, sg_bi_i, sg_bi_n, sg_bz, sg_bb, sg_b_0, sg_b_1, if_true, if_false, not_true_eq_false, not_false_eq_true, true_and, and_true, false_and, and_false, and_self, Int32.reduceSub]
theorem lw_c8 (hB : 150 ≤ B) (hU : B ≤ 1000000) (hL : 8 * c + 8 ≤ L) (hL2 : L ≤ 4096) (hl : σ 999 0 = nI L) (h : iv_all B σ) : lw_ok B σ 542 c := by
  obtain ⟨r, σ1, σ2, g1, g2, g3, g4, g5⟩ := pr_oven hU (σ 1000 (8 * c + 1)) (σ 1000 (8 * c + 2)) (σ 1000 (8 * c + 3)) h
  have kp := sg_ev_keep g1 (okL_args [sg_i (σ 1000 (8 * c + 1)), sg_i (σ 1000 (8 * c + 2)), sg_i (σ 1000 (8 * c + 3))] (by rfl))
  have k1 : σ1 1000 = σ 1000 := kp 1000 (by omega)
  have k9 : σ1 999 = σ 999 := kp 999 (by omega)
  obtain ⟨v, rfl⟩ := ev_int g1 (by rfl)
  have n0 : sg_roN 0 σ = L := by show (σ 999 0).toNatClampNeg = L; rw [hl, sg_nIc (by omega)]
  have n1 : sg_roN 0 σ1 = L := by show (σ1 999 0).toNatClampNeg = L; rw [k9, hl, sg_nIc (by omega)]
  have e1 : nI (8 * c) + 1 = nI (8 * c + 1) := nI_add (8 * c) 1
  have i1 : sg_in (nI (8 * c + 1)) L = true := sg_in_nI (by omega) (by omega)
  have c1 : (nI (8 * c + 1)).toNatClampNeg = 8 * c + 1 := sg_nIc (by omega)
  have e2 : nI (8 * c) + 2 = nI (8 * c + 2) := nI_add (8 * c) 2
  have i2 : sg_in (nI (8 * c + 2)) L = true := sg_in_nI (by omega) (by omega)
  have c2 : (nI (8 * c + 2)).toNatClampNeg = 8 * c + 2 := sg_nIc (by omega)
  have e3 : nI (8 * c) + 3 = nI (8 * c + 3) := nI_add (8 * c) 3
  have i3 : sg_in (nI (8 * c + 3)) L = true := sg_in_nI (by omega) (by omega)
  have c3 : (nI (8 * c + 3)).toNatClampNeg = 8 * c + 3 := sg_nIc (by omega)
  refine ⟨σ2, ?_, iv_all_mono (show B + 4 ≤ B + 4 by omega) g3, g4, g5⟩
  unfold lw_at
  simp (decide := true) only [mq_199_542, mq_199_543, mq_199_544, mq_199_545, mq_199_546, mq_199_547, mq_199_548, mq_199_549, mq_199_550, mq_199_551, mq_199_552, mq_199_553, mq_199_554, mq_199_555, mq_199_556, mq_199_557, mq_199_558, n0, roV0, e1, i1, c1, e2, i2, c2, e3, i3, c3, g1, Nat.reduceAdd, Nat.reduceMul, Nat.reduceSub, Nat.zero_add, sg_bi_i, sg_bi_n, sg_bz, sg_bb, sg_b_0, sg_b_1, if_true, if_false, not_true_eq_false, not_false_eq_true, true_and, and_true, false_and, and_false, and_self, Int32.reduceSub]
  simp (decide := true) only [mq_199_561, mq_199_562, mq_199_563, mq_199_564, mq_199_565, mq_199_566, mq_199_567, mq_199_568, mq_199_569, mq_199_570, mq_199_571, mq_199_572, mq_199_573, mq_199_574, mq_199_575, mq_199_576, mq_199_577, mq_199_580, n1, roV0, k1, e1, i1, c1, e2, i2, c2, e3, i3, c3, g2, sg_lc_eq, Nat.reduceAdd, Nat.reduceMul, Nat.reduceSub, Nat.zero_add, sg_bi_i, sg_bi_n, sg_bz, sg_bb, sg_b_0, sg_b_1, if_true, if_false, not_true_eq_false, not_false_eq_true, true_and, and_true, false_and, and_false, and_self, Int32.reduceSub]
theorem lw_c9 (hB : 150 ≤ B) (hU : B ≤ 1000000) (hL : 8 * c + 8 ≤ L) (hL2 : L ≤ 4096) (hl : σ 999 0 = nI L) (h : iv_all B σ) : lw_ok B σ 585 c := by
  obtain ⟨r, σ1, σ2, g1, g2, g3, g4, g5⟩ := pr_quickest hU (σ 1000 (8 * c + 1)) (σ 1000 (8 * c + 2)) (σ 1000 (8 * c + 3)) h
  have kp := sg_ev_keep g1 (okL_args [sg_i (σ 1000 (8 * c + 1)), sg_i (σ 1000 (8 * c + 2)), sg_i (σ 1000 (8 * c + 3))] (by rfl))
  have k1 : σ1 1000 = σ 1000 := kp 1000 (by omega)
  have k9 : σ1 999 = σ 999 := kp 999 (by omega)
  obtain ⟨v, rfl⟩ := ev_int g1 (by rfl)
  have n0 : sg_roN 0 σ = L := by show (σ 999 0).toNatClampNeg = L; rw [hl, sg_nIc (by omega)]
  have n1 : sg_roN 0 σ1 = L := by show (σ1 999 0).toNatClampNeg = L; rw [k9, hl, sg_nIc (by omega)]
  have e1 : nI (8 * c) + 1 = nI (8 * c + 1) := nI_add (8 * c) 1
  have i1 : sg_in (nI (8 * c + 1)) L = true := sg_in_nI (by omega) (by omega)
  have c1 : (nI (8 * c + 1)).toNatClampNeg = 8 * c + 1 := sg_nIc (by omega)
  have e2 : nI (8 * c) + 2 = nI (8 * c + 2) := nI_add (8 * c) 2
  have i2 : sg_in (nI (8 * c + 2)) L = true := sg_in_nI (by omega) (by omega)
  have c2 : (nI (8 * c + 2)).toNatClampNeg = 8 * c + 2 := sg_nIc (by omega)
  have e3 : nI (8 * c) + 3 = nI (8 * c + 3) := nI_add (8 * c) 3
  have i3 : sg_in (nI (8 * c + 3)) L = true := sg_in_nI (by omega) (by omega)
  have c3 : (nI (8 * c + 3)).toNatClampNeg = 8 * c + 3 := sg_nIc (by omega)
  refine ⟨σ2, ?_, iv_all_mono (show B ≤ B + 4 by omega) g3, g4, g5⟩
  unfold lw_at
  simp (decide := true) only [mq_199_585, mq_199_586, mq_199_587, mq_199_588, mq_199_589, mq_199_590, mq_199_591, mq_199_592, mq_199_593, mq_199_594, mq_199_595, mq_199_596, mq_199_597, mq_199_598, mq_199_599, mq_199_600, mq_199_601, n0, roV0, e1, i1, c1, e2, i2, c2, e3, i3, c3, g1, Nat.reduceAdd, Nat.reduceMul, Nat.reduceSub, Nat.zero_add, sg_bi_i, sg_bi_n, sg_bz, sg_bb, sg_b_0, sg_b_1, if_true, if_false, not_true_eq_false, not_false_eq_true, true_and, and_true, false_and, and_false, and_self, Int32.reduceSub]
  simp (decide := true) only [mq_199_604, mq_199_605, mq_199_606, mq_199_607, mq_199_608, mq_199_609, mq_199_610, mq_199_611, mq_199_612, mq_199_613, mq_199_614, mq_199_615, mq_199_616, mq_199_617, mq_199_618, mq_199_619, mq_199_620, mq_199_623, n1, roV0, k1, e1, i1, c1, e2, i2, c2, e3, i3, c3, g2, sg_lc_eq, Nat.reduceAdd, Nat.reduceMul, Nat.reduceSub, Nat.zero_add, sg_bi_i, sg_bi_n, sg_bz, sg_bb, sg_b_0, sg_b_1, if_true, if_false, not_true_eq_false, not_false_eq_true, true_and, and_true, false_and, and_false, and_self, Int32.reduceSub]
theorem lw_c10 (hB : 150 ≤ B) (hU : B ≤ 1000000) (hL : 8 * c + 8 ≤ L) (hL2 : L ≤ 4096) (hl : σ 999 0 = nI L) (h : iv_all B σ) : lw_ok B σ 628 c := by
  obtain ⟨r, σ1, σ2, g1, g2, g3, g4, g5⟩ := pr_holds (σ 1000 (8 * c + 1)) (σ 1000 (8 * c + 2)) (σ 1000 (8 * c + 3)) (σ 1000 (8 * c + 4)) (σ 1000 (8 * c + 5)) h
  have kp := sg_ev_keep g1 (okL_args [sg_i (σ 1000 (8 * c + 1)), sg_i (σ 1000 (8 * c + 2)), sg_i (σ 1000 (8 * c + 3)), sg_i (σ 1000 (8 * c + 4)), sg_i (σ 1000 (8 * c + 5))] (by rfl))
  have k1 : σ1 1000 = σ 1000 := kp 1000 (by omega)
  have k9 : σ1 999 = σ 999 := kp 999 (by omega)
  obtain ⟨v, rfl⟩ := ev_int g1 (by rfl)
  have n0 : sg_roN 0 σ = L := by show (σ 999 0).toNatClampNeg = L; rw [hl, sg_nIc (by omega)]
  have n1 : sg_roN 0 σ1 = L := by show (σ1 999 0).toNatClampNeg = L; rw [k9, hl, sg_nIc (by omega)]
  have e1 : nI (8 * c) + 1 = nI (8 * c + 1) := nI_add (8 * c) 1
  have i1 : sg_in (nI (8 * c + 1)) L = true := sg_in_nI (by omega) (by omega)
  have c1 : (nI (8 * c + 1)).toNatClampNeg = 8 * c + 1 := sg_nIc (by omega)
  have e2 : nI (8 * c) + 2 = nI (8 * c + 2) := nI_add (8 * c) 2
  have i2 : sg_in (nI (8 * c + 2)) L = true := sg_in_nI (by omega) (by omega)
  have c2 : (nI (8 * c + 2)).toNatClampNeg = 8 * c + 2 := sg_nIc (by omega)
  have e3 : nI (8 * c) + 3 = nI (8 * c + 3) := nI_add (8 * c) 3
  have i3 : sg_in (nI (8 * c + 3)) L = true := sg_in_nI (by omega) (by omega)
  have c3 : (nI (8 * c + 3)).toNatClampNeg = 8 * c + 3 := sg_nIc (by omega)
  have e4 : nI (8 * c) + 4 = nI (8 * c + 4) := nI_add (8 * c) 4
  have i4 : sg_in (nI (8 * c + 4)) L = true := sg_in_nI (by omega) (by omega)
  have c4 : (nI (8 * c + 4)).toNatClampNeg = 8 * c + 4 := sg_nIc (by omega)
  have e5 : nI (8 * c) + 5 = nI (8 * c + 5) := nI_add (8 * c) 5
  have i5 : sg_in (nI (8 * c + 5)) L = true := sg_in_nI (by omega) (by omega)
  have c5 : (nI (8 * c + 5)).toNatClampNeg = 8 * c + 5 := sg_nIc (by omega)
  refine ⟨σ2, ?_, iv_all_mono (show B ≤ B + 4 by omega) g3, g4, g5⟩
  unfold lw_at
  simp (decide := true) only [mq_199_628, mq_199_629, mq_199_630, mq_199_631, mq_199_632, mq_199_633, mq_199_634, mq_199_635, mq_199_636, mq_199_637, mq_199_638, mq_199_639, mq_199_640, mq_199_641, mq_199_642, mq_199_643, mq_199_644, mq_199_645, mq_199_646, mq_199_647, mq_199_648, mq_199_649, mq_199_650, mq_199_651, mq_199_652, mq_199_653, mq_199_654, n0, roV0, e1, i1, c1, e2, i2, c2, e3, i3, c3, e4, i4, c4, e5, i5, c5, g1, Nat.reduceAdd, Nat.reduceMul, Nat.reduceSub, Nat.zero_add, sg_bi_i, sg_bi_n, sg_bz, sg_bb, sg_b_0, sg_b_1, if_true, if_false, not_true_eq_false, not_false_eq_true, true_and, and_true, false_and, and_false, and_self, Int32.reduceSub]
  simp (decide := true) only [mq_199_657, mq_199_658, mq_199_659, mq_199_660, mq_199_661, mq_199_662, mq_199_663, mq_199_664, mq_199_665, mq_199_666, mq_199_667, mq_199_668, mq_199_669, mq_199_670, mq_199_671, mq_199_672, mq_199_673, mq_199_674, mq_199_675, mq_199_676, mq_199_677, mq_199_678, mq_199_679, mq_199_680, mq_199_681, mq_199_682, mq_199_683, mq_199_686, n1, roV0, k1, e1, i1, c1, e2, i2, c2, e3, i3, c3, e4, i4, c4, e5, i5, c5, g2, sg_lc_eq, Nat.reduceAdd, Nat.reduceMul, Nat.reduceSub, Nat.zero_add, sg_bi_i, sg_bi_n, sg_bz, sg_bb, sg_b_0, sg_b_1, if_true, if_false, not_true_eq_false, not_false_eq_true, true_and, and_true, false_and, and_false, and_self, Int32.reduceSub]
theorem lw_c11 (hB : 150 ≤ B) (hU : B ≤ 1000000) (hL : 8 * c + 8 ≤ L) (hL2 : L ≤ 4096) (hl : σ 999 0 = nI L) (h : iv_all B σ) : lw_ok B σ 691 c := by
  obtain ⟨r, σ1, σ2, g1, g2, g3, g4, g5⟩ := pr_span (σ 1000 (8 * c + 1)) (σ 1000 (8 * c + 2)) (σ 1000 (8 * c + 3)) (σ 1000 (8 * c + 4)) (σ 1000 (8 * c + 5)) h
  have kp := sg_ev_keep g1 (okL_args [sg_i (σ 1000 (8 * c + 1)), sg_i (σ 1000 (8 * c + 2)), sg_i (σ 1000 (8 * c + 3)), sg_i (σ 1000 (8 * c + 4)), sg_i (σ 1000 (8 * c + 5))] (by rfl))
  have k1 : σ1 1000 = σ 1000 := kp 1000 (by omega)
  have k9 : σ1 999 = σ 999 := kp 999 (by omega)
  obtain ⟨v, rfl⟩ := ev_int g1 (by rfl)
  have n0 : sg_roN 0 σ = L := by show (σ 999 0).toNatClampNeg = L; rw [hl, sg_nIc (by omega)]
  have n1 : sg_roN 0 σ1 = L := by show (σ1 999 0).toNatClampNeg = L; rw [k9, hl, sg_nIc (by omega)]
  have e1 : nI (8 * c) + 1 = nI (8 * c + 1) := nI_add (8 * c) 1
  have i1 : sg_in (nI (8 * c + 1)) L = true := sg_in_nI (by omega) (by omega)
  have c1 : (nI (8 * c + 1)).toNatClampNeg = 8 * c + 1 := sg_nIc (by omega)
  have e2 : nI (8 * c) + 2 = nI (8 * c + 2) := nI_add (8 * c) 2
  have i2 : sg_in (nI (8 * c + 2)) L = true := sg_in_nI (by omega) (by omega)
  have c2 : (nI (8 * c + 2)).toNatClampNeg = 8 * c + 2 := sg_nIc (by omega)
  have e3 : nI (8 * c) + 3 = nI (8 * c + 3) := nI_add (8 * c) 3
  have i3 : sg_in (nI (8 * c + 3)) L = true := sg_in_nI (by omega) (by omega)
  have c3 : (nI (8 * c + 3)).toNatClampNeg = 8 * c + 3 := sg_nIc (by omega)
  have e4 : nI (8 * c) + 4 = nI (8 * c + 4) := nI_add (8 * c) 4
  have i4 : sg_in (nI (8 * c + 4)) L = true := sg_in_nI (by omega) (by omega)
  have c4 : (nI (8 * c + 4)).toNatClampNeg = 8 * c + 4 := sg_nIc (by omega)
  have e5 : nI (8 * c) + 5 = nI (8 * c + 5) := nI_add (8 * c) 5
  have i5 : sg_in (nI (8 * c + 5)) L = true := sg_in_nI (by omega) (by omega)
  have c5 : (nI (8 * c + 5)).toNatClampNeg = 8 * c + 5 := sg_nIc (by omega)
  refine ⟨σ2, ?_, iv_all_mono (show B ≤ B + 4 by omega) g3, g4, g5⟩
  unfold lw_at
  simp (decide := true) only [mq_199_691, mq_199_692, mq_199_693, mq_199_694, mq_199_695, mq_199_696, mq_199_697, mq_199_698, mq_199_699, mq_199_700, mq_199_701, mq_199_702, mq_199_703, mq_199_704, mq_199_705, mq_199_706, mq_199_707, mq_199_708, mq_199_709, mq_199_710, mq_199_711, mq_199_712, mq_199_713, mq_199_714, mq_199_715, mq_199_716, mq_199_717, n0, roV0, e1, i1, c1, e2, i2, c2, e3, i3, c3, e4, i4, c4, e5, i5, c5, g1, Nat.reduceAdd, Nat.reduceMul, Nat.reduceSub, Nat.zero_add, sg_bi_i, sg_bi_n, sg_bz, sg_bb, sg_b_0, sg_b_1, if_true, if_false, not_true_eq_false, not_false_eq_true, true_and, and_true, false_and, and_false, and_self, Int32.reduceSub]
  simp (decide := true) only [mq_199_720, mq_199_721, mq_199_722, mq_199_723, mq_199_724, mq_199_725, mq_199_726, mq_199_727, mq_199_728, mq_199_729, mq_199_730, mq_199_731, mq_199_732, mq_199_733, mq_199_734, mq_199_735, mq_199_736, mq_199_737, mq_199_738, mq_199_739, mq_199_740, mq_199_741, mq_199_742, mq_199_743, mq_199_744, mq_199_745, mq_199_746, mq_199_749, n1, roV0, k1, e1, i1, c1, e2, i2, c2, e3, i3, c3, e4, i4, c4, e5, i5, c5, g2, sg_lc_eq, Nat.reduceAdd, Nat.reduceMul, Nat.reduceSub, Nat.zero_add, sg_bi_i, sg_bi_n, sg_bz, sg_bb, sg_b_0, sg_b_1, if_true, if_false, not_true_eq_false, not_false_eq_true, true_and, and_true, false_and, and_false, and_self, Int32.reduceSub]
theorem lw_c12 (hB : 150 ≤ B) (hU : B ≤ 1000000) (hL : 8 * c + 8 ≤ L) (hL2 : L ≤ 4096) (hl : σ 999 0 = nI L) (h : iv_all B σ) : lw_ok B σ 754 c := by
  obtain ⟨r, σ1, σ2, g1, g2, g3, g4, g5⟩ := pr_odds (σ 1000 (8 * c + 1)) (σ 1000 (8 * c + 2)) (σ 1000 (8 * c + 3)) (σ 1000 (8 * c + 4)) (σ 1000 (8 * c + 5)) (σ 1000 (8 * c + 6)) (σ 1000 (8 * c + 7)) h
  have kp := sg_ev_keep g1 (okL_args [sg_i (σ 1000 (8 * c + 1)), sg_i (σ 1000 (8 * c + 2)), sg_i (σ 1000 (8 * c + 3)), sg_i (σ 1000 (8 * c + 4)), sg_i (σ 1000 (8 * c + 5)), sg_i (σ 1000 (8 * c + 6)), sg_i (σ 1000 (8 * c + 7))] (by rfl))
  have k1 : σ1 1000 = σ 1000 := kp 1000 (by omega)
  have k9 : σ1 999 = σ 999 := kp 999 (by omega)
  obtain ⟨v, rfl⟩ := ev_long g1 (by rfl)
  have n0 : sg_roN 0 σ = L := by show (σ 999 0).toNatClampNeg = L; rw [hl, sg_nIc (by omega)]
  have n1 : sg_roN 0 σ1 = L := by show (σ1 999 0).toNatClampNeg = L; rw [k9, hl, sg_nIc (by omega)]
  have e1 : nI (8 * c) + 1 = nI (8 * c + 1) := nI_add (8 * c) 1
  have i1 : sg_in (nI (8 * c + 1)) L = true := sg_in_nI (by omega) (by omega)
  have c1 : (nI (8 * c + 1)).toNatClampNeg = 8 * c + 1 := sg_nIc (by omega)
  have e2 : nI (8 * c) + 2 = nI (8 * c + 2) := nI_add (8 * c) 2
  have i2 : sg_in (nI (8 * c + 2)) L = true := sg_in_nI (by omega) (by omega)
  have c2 : (nI (8 * c + 2)).toNatClampNeg = 8 * c + 2 := sg_nIc (by omega)
  have e3 : nI (8 * c) + 3 = nI (8 * c + 3) := nI_add (8 * c) 3
  have i3 : sg_in (nI (8 * c + 3)) L = true := sg_in_nI (by omega) (by omega)
  have c3 : (nI (8 * c + 3)).toNatClampNeg = 8 * c + 3 := sg_nIc (by omega)
  have e4 : nI (8 * c) + 4 = nI (8 * c + 4) := nI_add (8 * c) 4
  have i4 : sg_in (nI (8 * c + 4)) L = true := sg_in_nI (by omega) (by omega)
  have c4 : (nI (8 * c + 4)).toNatClampNeg = 8 * c + 4 := sg_nIc (by omega)
  have e5 : nI (8 * c) + 5 = nI (8 * c + 5) := nI_add (8 * c) 5
  have i5 : sg_in (nI (8 * c + 5)) L = true := sg_in_nI (by omega) (by omega)
  have c5 : (nI (8 * c + 5)).toNatClampNeg = 8 * c + 5 := sg_nIc (by omega)
  have e6 : nI (8 * c) + 6 = nI (8 * c + 6) := nI_add (8 * c) 6
  have i6 : sg_in (nI (8 * c + 6)) L = true := sg_in_nI (by omega) (by omega)
  have c6 : (nI (8 * c + 6)).toNatClampNeg = 8 * c + 6 := sg_nIc (by omega)
  have e7 : nI (8 * c) + 7 = nI (8 * c + 7) := nI_add (8 * c) 7
  have i7 : sg_in (nI (8 * c + 7)) L = true := sg_in_nI (by omega) (by omega)
  have c7 : (nI (8 * c + 7)).toNatClampNeg = 8 * c + 7 := sg_nIc (by omega)
  refine ⟨σ2, ?_, iv_all_mono (show B ≤ B + 4 by omega) g3, g4, g5⟩
  unfold lw_at
  simp (decide := true) only [mq_199_754, mq_199_755, mq_199_756, mq_199_757, mq_199_758, mq_199_759, mq_199_760, mq_199_761, mq_199_762, mq_199_763, mq_199_764, mq_199_765, mq_199_766, mq_199_767, mq_199_768, mq_199_769, mq_199_770, mq_199_771, mq_199_772, mq_199_773, mq_199_774, mq_199_775, mq_199_776, mq_199_777, mq_199_778, mq_199_779, mq_199_780, mq_199_781, mq_199_782, mq_199_784, mq_199_785, mq_199_786, mq_199_787, mq_199_788, mq_199_790, mq_199_791, mq_199_792, n0, roV0, e1, i1, c1, e2, i2, c2, e3, i3, c3, e4, i4, c4, e5, i5, c5, e6, i6, c6, e7, i7, c7, g1, Nat.reduceAdd, Nat.reduceMul, Nat.reduceSub, Nat.zero_add, sg_bi_i, sg_bi_n, sg_bz, sg_bb, sg_b_0, sg_b_1, if_true, if_false, not_true_eq_false, not_false_eq_true, true_and, and_true, false_and, and_false, and_self, Int32.reduceSub]
  simp (decide := true) only [mq_199_795, mq_199_796, mq_199_797, mq_199_798, mq_199_799, mq_199_800, mq_199_801, mq_199_802, mq_199_803, mq_199_804, mq_199_805, mq_199_806, mq_199_807, mq_199_808, mq_199_809, mq_199_810, mq_199_811, mq_199_812, mq_199_813, mq_199_814, mq_199_815, mq_199_816, mq_199_817, mq_199_818, mq_199_819, mq_199_820, mq_199_821, mq_199_822, mq_199_823, mq_199_825, mq_199_826, mq_199_827, mq_199_828, mq_199_829, mq_199_831, mq_199_832, mq_199_833, mq_199_836, mq_199_837, n1, roV0, k1, e1, i1, c1, e2, i2, c2, e3, i3, c3, e4, i4, c4, e5, i5, c5, e6, i6, c6, e7, i7, c7, g2, sg_lc_eq, Nat.reduceAdd, Nat.reduceMul, Nat.reduceSub, Nat.zero_add, sg_bi_i, sg_bi_n, sg_bz, sg_bb, sg_b_0, sg_b_1, if_true, if_false, not_true_eq_false, not_false_eq_true, true_and, and_true, false_and, and_false, and_self, Int32.reduceSub]
theorem lw_c13 (hB : 150 ≤ B) (hU : B ≤ 1000000) (hL : 8 * c + 8 ≤ L) (hL2 : L ≤ 4096) (hl : σ 999 0 = nI L) (h : iv_all B σ) : lw_ok B σ 842 c := by
  obtain ⟨r, σ1, σ2, g1, g2, g3, g4, g5⟩ := pr_join hB (σ 1000 (8 * c + 1)) (σ 1000 (8 * c + 2)) (σ 1000 (8 * c + 3)) (σ 1000 (8 * c + 4)) (σ 1000 (8 * c + 5)) h
  have kp := sg_ev_keep g1 (okL_args [sg_i (σ 1000 (8 * c + 1)), sg_i (σ 1000 (8 * c + 2)), sg_i (σ 1000 (8 * c + 3)), sg_i (σ 1000 (8 * c + 4)), sg_i (σ 1000 (8 * c + 5))] (by rfl))
  have k1 : σ1 1000 = σ 1000 := kp 1000 (by omega)
  have k9 : σ1 999 = σ 999 := kp 999 (by omega)
  obtain ⟨v, rfl⟩ := ev_int g1 (by rfl)
  have n0 : sg_roN 0 σ = L := by show (σ 999 0).toNatClampNeg = L; rw [hl, sg_nIc (by omega)]
  have n1 : sg_roN 0 σ1 = L := by show (σ1 999 0).toNatClampNeg = L; rw [k9, hl, sg_nIc (by omega)]
  have e1 : nI (8 * c) + 1 = nI (8 * c + 1) := nI_add (8 * c) 1
  have i1 : sg_in (nI (8 * c + 1)) L = true := sg_in_nI (by omega) (by omega)
  have c1 : (nI (8 * c + 1)).toNatClampNeg = 8 * c + 1 := sg_nIc (by omega)
  have e2 : nI (8 * c) + 2 = nI (8 * c + 2) := nI_add (8 * c) 2
  have i2 : sg_in (nI (8 * c + 2)) L = true := sg_in_nI (by omega) (by omega)
  have c2 : (nI (8 * c + 2)).toNatClampNeg = 8 * c + 2 := sg_nIc (by omega)
  have e3 : nI (8 * c) + 3 = nI (8 * c + 3) := nI_add (8 * c) 3
  have i3 : sg_in (nI (8 * c + 3)) L = true := sg_in_nI (by omega) (by omega)
  have c3 : (nI (8 * c + 3)).toNatClampNeg = 8 * c + 3 := sg_nIc (by omega)
  have e4 : nI (8 * c) + 4 = nI (8 * c + 4) := nI_add (8 * c) 4
  have i4 : sg_in (nI (8 * c + 4)) L = true := sg_in_nI (by omega) (by omega)
  have c4 : (nI (8 * c + 4)).toNatClampNeg = 8 * c + 4 := sg_nIc (by omega)
  have e5 : nI (8 * c) + 5 = nI (8 * c + 5) := nI_add (8 * c) 5
  have i5 : sg_in (nI (8 * c + 5)) L = true := sg_in_nI (by omega) (by omega)
  have c5 : (nI (8 * c + 5)).toNatClampNeg = 8 * c + 5 := sg_nIc (by omega)
  refine ⟨σ2, ?_, iv_all_mono (show B ≤ B + 4 by omega) g3, g4, g5⟩
  unfold lw_at
  simp (decide := true) only [mq_199_842, mq_199_843, mq_199_844, mq_199_845, mq_199_846, mq_199_847, mq_199_848, mq_199_849, mq_199_850, mq_199_851, mq_199_852, mq_199_853, mq_199_854, mq_199_855, mq_199_856, mq_199_857, mq_199_858, mq_199_859, mq_199_860, mq_199_861, mq_199_862, mq_199_863, mq_199_864, mq_199_865, mq_199_866, mq_199_867, mq_199_868, n0, roV0, e1, i1, c1, e2, i2, c2, e3, i3, c3, e4, i4, c4, e5, i5, c5, g1, Nat.reduceAdd, Nat.reduceMul, Nat.reduceSub, Nat.zero_add, sg_bi_i, sg_bi_n, sg_bz, sg_bb, sg_b_0, sg_b_1, if_true, if_false, not_true_eq_false, not_false_eq_true, true_and, and_true, false_and, and_false, and_self, Int32.reduceSub]
  simp (decide := true) only [mq_199_871, mq_199_872, mq_199_873, mq_199_874, mq_199_875, mq_199_876, mq_199_877, mq_199_878, mq_199_879, mq_199_880, mq_199_881, mq_199_882, mq_199_883, mq_199_884, mq_199_885, mq_199_886, mq_199_887, mq_199_888, mq_199_889, mq_199_890, mq_199_891, mq_199_892, mq_199_893, mq_199_894, mq_199_895, mq_199_896, mq_199_897, mq_199_900, n1, roV0, k1, e1, i1, c1, e2, i2, c2, e3, i3, c3, e4, i4, c4, e5, i5, c5, g2, sg_lc_eq, Nat.reduceAdd, Nat.reduceMul, Nat.reduceSub, Nat.zero_add, sg_bi_i, sg_bi_n, sg_bz, sg_bb, sg_b_0, sg_b_1, if_true, if_false, not_true_eq_false, not_false_eq_true, true_and, and_true, false_and, and_false, and_self, Int32.reduceSub]
theorem lw_c14 (hB : 150 ≤ B) (hU : B ≤ 1000000) (hL : 8 * c + 8 ≤ L) (hL2 : L ≤ 4096) (hl : σ 999 0 = nI L) (h : iv_all B σ) : lw_ok B σ 905 c := by
  obtain ⟨r, σ1, σ2, g1, g2, g3, g4, g5⟩ := pr_aim (σ 1000 (8 * c + 1)) (σ 1000 (8 * c + 2)) (σ 1000 (8 * c + 3)) (σ 1000 (8 * c + 4)) h
  have kp := sg_ev_keep g1 (okL_args [sg_i (σ 1000 (8 * c + 1)), sg_i (σ 1000 (8 * c + 2)), sg_i (σ 1000 (8 * c + 3)), sg_i (σ 1000 (8 * c + 4))] (by rfl))
  have k1 : σ1 1000 = σ 1000 := kp 1000 (by omega)
  have k9 : σ1 999 = σ 999 := kp 999 (by omega)
  obtain ⟨v, rfl⟩ := ev_int g1 (by rfl)
  have n0 : sg_roN 0 σ = L := by show (σ 999 0).toNatClampNeg = L; rw [hl, sg_nIc (by omega)]
  have n1 : sg_roN 0 σ1 = L := by show (σ1 999 0).toNatClampNeg = L; rw [k9, hl, sg_nIc (by omega)]
  have e1 : nI (8 * c) + 1 = nI (8 * c + 1) := nI_add (8 * c) 1
  have i1 : sg_in (nI (8 * c + 1)) L = true := sg_in_nI (by omega) (by omega)
  have c1 : (nI (8 * c + 1)).toNatClampNeg = 8 * c + 1 := sg_nIc (by omega)
  have e2 : nI (8 * c) + 2 = nI (8 * c + 2) := nI_add (8 * c) 2
  have i2 : sg_in (nI (8 * c + 2)) L = true := sg_in_nI (by omega) (by omega)
  have c2 : (nI (8 * c + 2)).toNatClampNeg = 8 * c + 2 := sg_nIc (by omega)
  have e3 : nI (8 * c) + 3 = nI (8 * c + 3) := nI_add (8 * c) 3
  have i3 : sg_in (nI (8 * c + 3)) L = true := sg_in_nI (by omega) (by omega)
  have c3 : (nI (8 * c + 3)).toNatClampNeg = 8 * c + 3 := sg_nIc (by omega)
  have e4 : nI (8 * c) + 4 = nI (8 * c + 4) := nI_add (8 * c) 4
  have i4 : sg_in (nI (8 * c + 4)) L = true := sg_in_nI (by omega) (by omega)
  have c4 : (nI (8 * c + 4)).toNatClampNeg = 8 * c + 4 := sg_nIc (by omega)
  refine ⟨σ2, ?_, iv_all_mono (show B ≤ B + 4 by omega) g3, g4, g5⟩
  unfold lw_at
  simp (decide := true) only [mq_199_905, mq_199_906, mq_199_907, mq_199_908, mq_199_909, mq_199_910, mq_199_911, mq_199_912, mq_199_913, mq_199_914, mq_199_915, mq_199_916, mq_199_917, mq_199_918, mq_199_919, mq_199_920, mq_199_921, mq_199_922, mq_199_923, mq_199_924, mq_199_925, mq_199_926, n0, roV0, e1, i1, c1, e2, i2, c2, e3, i3, c3, e4, i4, c4, g1, Nat.reduceAdd, Nat.reduceMul, Nat.reduceSub, Nat.zero_add, sg_bi_i, sg_bi_n, sg_bz, sg_bb, sg_b_0, sg_b_1, if_true, if_false, not_true_eq_false, not_false_eq_true, true_and, and_true, false_and, and_false, and_self, Int32.reduceSub]
  simp (decide := true) only [mq_199_929, mq_199_930, mq_199_931, mq_199_932, mq_199_933, mq_199_934, mq_199_935, mq_199_936, mq_199_937, mq_199_938, mq_199_939, mq_199_940, mq_199_941, mq_199_942, mq_199_943, mq_199_944, mq_199_945, mq_199_946, mq_199_947, mq_199_948, mq_199_949, mq_199_950, mq_199_953, n1, roV0, k1, e1, i1, c1, e2, i2, c2, e3, i3, c3, e4, i4, c4, g2, sg_lc_eq, Nat.reduceAdd, Nat.reduceMul, Nat.reduceSub, Nat.zero_add, sg_bi_i, sg_bi_n, sg_bz, sg_bb, sg_b_0, sg_b_1, if_true, if_false, not_true_eq_false, not_false_eq_true, true_and, and_true, false_and, and_false, and_self, Int32.reduceSub]
theorem lw_c15 (hB : 150 ≤ B) (hU : B ≤ 1000000) (hL : 8 * c + 8 ≤ L) (hL2 : L ≤ 4096) (hl : σ 999 0 = nI L) (h : iv_all B σ) : lw_ok B σ 958 c := by
  obtain ⟨r, σ1, σ2, g1, g2, g3, g4, g5⟩ := pr_miss (σ 1000 (8 * c + 1)) h
  have kp := sg_ev_keep g1 (okL_args [sg_i (σ 1000 (8 * c + 1))] (by rfl))
  have k1 : σ1 1000 = σ 1000 := kp 1000 (by omega)
  have k9 : σ1 999 = σ 999 := kp 999 (by omega)
  obtain ⟨v, rfl⟩ := ev_int g1 (by rfl)
  have n0 : sg_roN 0 σ = L := by show (σ 999 0).toNatClampNeg = L; rw [hl, sg_nIc (by omega)]
  have n1 : sg_roN 0 σ1 = L := by show (σ1 999 0).toNatClampNeg = L; rw [k9, hl, sg_nIc (by omega)]
  have e1 : nI (8 * c) + 1 = nI (8 * c + 1) := nI_add (8 * c) 1
  have i1 : sg_in (nI (8 * c + 1)) L = true := sg_in_nI (by omega) (by omega)
  have c1 : (nI (8 * c + 1)).toNatClampNeg = 8 * c + 1 := sg_nIc (by omega)
  refine ⟨σ2, ?_, iv_all_mono (show B ≤ B + 4 by omega) g3, g4, g5⟩
  unfold lw_at
  simp (decide := true) only [mq_199_958, mq_199_959, mq_199_960, mq_199_961, mq_199_962, mq_199_963, mq_199_964, n0, roV0, e1, i1, c1, g1, Nat.reduceAdd, Nat.reduceMul, Nat.reduceSub, Nat.zero_add, sg_bi_i, sg_bi_n, sg_bz, sg_bb, sg_b_0, sg_b_1, if_true, if_false, not_true_eq_false, not_false_eq_true, true_and, and_true, false_and, and_false, and_self, Int32.reduceSub]
  simp (decide := true) only [mq_199_967, mq_199_968, mq_199_969, mq_199_970, mq_199_971, mq_199_972, mq_199_973, mq_199_976, n1, roV0, k1, e1, i1, c1, g2, sg_lc_eq, Nat.reduceAdd, Nat.reduceMul, Nat.reduceSub, Nat.zero_add, sg_bi_i, sg_bi_n, sg_bz, sg_bb, sg_b_0, sg_b_1, if_true, if_false, not_true_eq_false, not_false_eq_true, true_and, and_true, false_and, and_false, and_self, Int32.reduceSub]
theorem lw_c16 (hB : 150 ≤ B) (hU : B ≤ 1000000) (hL : 8 * c + 8 ≤ L) (hL2 : L ≤ 4096) (hl : σ 999 0 = nI L) (h : iv_all B σ) : lw_ok B σ 981 c := by
  obtain ⟨r, σ1, σ2, g1, g2, g3, g4, g5⟩ := pr_nearest (σ 1000 (8 * c + 1)) (σ 1000 (8 * c + 2)) (σ 1000 (8 * c + 3)) h
  have kp := sg_ev_keep g1 (okL_args [sg_i (σ 1000 (8 * c + 1)), sg_i (σ 1000 (8 * c + 2)), sg_i (σ 1000 (8 * c + 3))] (by rfl))
  have k1 : σ1 1000 = σ 1000 := kp 1000 (by omega)
  have k9 : σ1 999 = σ 999 := kp 999 (by omega)
  obtain ⟨v, rfl⟩ := ev_int g1 (by rfl)
  have n0 : sg_roN 0 σ = L := by show (σ 999 0).toNatClampNeg = L; rw [hl, sg_nIc (by omega)]
  have n1 : sg_roN 0 σ1 = L := by show (σ1 999 0).toNatClampNeg = L; rw [k9, hl, sg_nIc (by omega)]
  have e1 : nI (8 * c) + 1 = nI (8 * c + 1) := nI_add (8 * c) 1
  have i1 : sg_in (nI (8 * c + 1)) L = true := sg_in_nI (by omega) (by omega)
  have c1 : (nI (8 * c + 1)).toNatClampNeg = 8 * c + 1 := sg_nIc (by omega)
  have e2 : nI (8 * c) + 2 = nI (8 * c + 2) := nI_add (8 * c) 2
  have i2 : sg_in (nI (8 * c + 2)) L = true := sg_in_nI (by omega) (by omega)
  have c2 : (nI (8 * c + 2)).toNatClampNeg = 8 * c + 2 := sg_nIc (by omega)
  have e3 : nI (8 * c) + 3 = nI (8 * c + 3) := nI_add (8 * c) 3
  have i3 : sg_in (nI (8 * c + 3)) L = true := sg_in_nI (by omega) (by omega)
  have c3 : (nI (8 * c + 3)).toNatClampNeg = 8 * c + 3 := sg_nIc (by omega)
  refine ⟨σ2, ?_, iv_all_mono (show B ≤ B + 4 by omega) g3, g4, g5⟩
  unfold lw_at
  simp (decide := true) only [mq_199_981, mq_199_982, mq_199_983, mq_199_984, mq_199_985, mq_199_986, mq_199_987, mq_199_988, mq_199_989, mq_199_990, mq_199_991, mq_199_992, mq_199_993, mq_199_994, mq_199_995, mq_199_996, mq_199_997, n0, roV0, e1, i1, c1, e2, i2, c2, e3, i3, c3, g1, Nat.reduceAdd, Nat.reduceMul, Nat.reduceSub, Nat.zero_add, sg_bi_i, sg_bi_n, sg_bz, sg_bb, sg_b_0, sg_b_1, if_true, if_false, not_true_eq_false, not_false_eq_true, true_and, and_true, false_and, and_false, and_self, Int32.reduceSub]
  simp (decide := true) only [mq_199_1000, mq_199_1001, mq_199_1002, mq_199_1003, mq_199_1004, mq_199_1005, mq_199_1006, mq_199_1007, mq_199_1008, mq_199_1009, mq_199_1010, mq_199_1011, mq_199_1012, mq_199_1013, mq_199_1014, mq_199_1015, mq_199_1016, mq_199_1019, n1, roV0, k1, e1, i1, c1, e2, i2, c2, e3, i3, c3, g2, sg_lc_eq, Nat.reduceAdd, Nat.reduceMul, Nat.reduceSub, Nat.zero_add, sg_bi_i, sg_bi_n, sg_bz, sg_bb, sg_b_0, sg_b_1, if_true, if_false, not_true_eq_false, not_false_eq_true, true_and, and_true, false_and, and_false, and_self, Int32.reduceSub]
theorem lw_c17 (hB : 150 ≤ B) (hU : B ≤ 1000000) (hL : 8 * c + 8 ≤ L) (hL2 : L ≤ 4096) (hl : σ 999 0 = nI L) (h : iv_all B σ) : lw_ok B σ 1024 c := by
  obtain ⟨r, σ1, σ2, g1, g2, g3, g4, g5⟩ := pr_spoils (σ 1000 (8 * c + 1)) (σ 1000 (8 * c + 2)) (σ 1000 (8 * c + 3)) (σ 1000 (8 * c + 4)) h
  have kp := sg_ev_keep g1 (okL_args [sg_i (σ 1000 (8 * c + 1)), sg_i (σ 1000 (8 * c + 2)), sg_i (σ 1000 (8 * c + 3)), sg_i (σ 1000 (8 * c + 4))] (by rfl))
  have k1 : σ1 1000 = σ 1000 := kp 1000 (by omega)
  have k9 : σ1 999 = σ 999 := kp 999 (by omega)
  obtain ⟨v, rfl⟩ := ev_int g1 (by rfl)
  have n0 : sg_roN 0 σ = L := by show (σ 999 0).toNatClampNeg = L; rw [hl, sg_nIc (by omega)]
  have n1 : sg_roN 0 σ1 = L := by show (σ1 999 0).toNatClampNeg = L; rw [k9, hl, sg_nIc (by omega)]
  have e1 : nI (8 * c) + 1 = nI (8 * c + 1) := nI_add (8 * c) 1
  have i1 : sg_in (nI (8 * c + 1)) L = true := sg_in_nI (by omega) (by omega)
  have c1 : (nI (8 * c + 1)).toNatClampNeg = 8 * c + 1 := sg_nIc (by omega)
  have e2 : nI (8 * c) + 2 = nI (8 * c + 2) := nI_add (8 * c) 2
  have i2 : sg_in (nI (8 * c + 2)) L = true := sg_in_nI (by omega) (by omega)
  have c2 : (nI (8 * c + 2)).toNatClampNeg = 8 * c + 2 := sg_nIc (by omega)
  have e3 : nI (8 * c) + 3 = nI (8 * c + 3) := nI_add (8 * c) 3
  have i3 : sg_in (nI (8 * c + 3)) L = true := sg_in_nI (by omega) (by omega)
  have c3 : (nI (8 * c + 3)).toNatClampNeg = 8 * c + 3 := sg_nIc (by omega)
  have e4 : nI (8 * c) + 4 = nI (8 * c + 4) := nI_add (8 * c) 4
  have i4 : sg_in (nI (8 * c + 4)) L = true := sg_in_nI (by omega) (by omega)
  have c4 : (nI (8 * c + 4)).toNatClampNeg = 8 * c + 4 := sg_nIc (by omega)
  refine ⟨σ2, ?_, iv_all_mono (show B ≤ B + 4 by omega) g3, g4, g5⟩
  unfold lw_at
  simp (decide := true) only [mq_199_1024, mq_199_1025, mq_199_1026, mq_199_1027, mq_199_1028, mq_199_1029, mq_199_1030, mq_199_1031, mq_199_1032, mq_199_1033, mq_199_1034, mq_199_1035, mq_199_1036, mq_199_1037, mq_199_1038, mq_199_1039, mq_199_1040, mq_199_1041, mq_199_1042, mq_199_1043, mq_199_1044, mq_199_1045, n0, roV0, e1, i1, c1, e2, i2, c2, e3, i3, c3, e4, i4, c4, g1, Nat.reduceAdd, Nat.reduceMul, Nat.reduceSub, Nat.zero_add, sg_bi_i, sg_bi_n, sg_bz, sg_bb, sg_b_0, sg_b_1, if_true, if_false, not_true_eq_false, not_false_eq_true, true_and, and_true, false_and, and_false, and_self, Int32.reduceSub]
  simp (decide := true) only [mq_199_1048, mq_199_1049, mq_199_1050, mq_199_1051, mq_199_1052, mq_199_1053, mq_199_1054, mq_199_1055, mq_199_1056, mq_199_1057, mq_199_1058, mq_199_1059, mq_199_1060, mq_199_1061, mq_199_1062, mq_199_1063, mq_199_1064, mq_199_1065, mq_199_1066, mq_199_1067, mq_199_1068, mq_199_1069, mq_199_1072, n1, roV0, k1, e1, i1, c1, e2, i2, c2, e3, i3, c3, e4, i4, c4, g2, sg_lc_eq, Nat.reduceAdd, Nat.reduceMul, Nat.reduceSub, Nat.zero_add, sg_bi_i, sg_bi_n, sg_bz, sg_bb, sg_b_0, sg_b_1, if_true, if_false, not_true_eq_false, not_false_eq_true, true_and, and_true, false_and, and_false, and_self, Int32.reduceSub]
theorem lw_c18 (hB : 150 ≤ B) (hU : B ≤ 1000000) (hL : 8 * c + 8 ≤ L) (hL2 : L ≤ 4096) (hl : σ 999 0 = nI L) (h : iv_all B σ) : lw_ok B σ 1077 c := by
  obtain ⟨r, σ1, σ2, g1, g2, g3, g4, g5⟩ := pr_job (σ 1000 (8 * c + 1)) (σ 1000 (8 * c + 2)) (σ 1000 (8 * c + 3)) h
  have kp := sg_ev_keep g1 (okL_args [sg_i (σ 1000 (8 * c + 1)), sg_i (σ 1000 (8 * c + 2)), sg_i (σ 1000 (8 * c + 3))] (by rfl))
  have k1 : σ1 1000 = σ 1000 := kp 1000 (by omega)
  have k9 : σ1 999 = σ 999 := kp 999 (by omega)
  obtain ⟨v, rfl⟩ := ev_int g1 (by rfl)
  have n0 : sg_roN 0 σ = L := by show (σ 999 0).toNatClampNeg = L; rw [hl, sg_nIc (by omega)]
  have n1 : sg_roN 0 σ1 = L := by show (σ1 999 0).toNatClampNeg = L; rw [k9, hl, sg_nIc (by omega)]
  have e1 : nI (8 * c) + 1 = nI (8 * c + 1) := nI_add (8 * c) 1
  have i1 : sg_in (nI (8 * c + 1)) L = true := sg_in_nI (by omega) (by omega)
  have c1 : (nI (8 * c + 1)).toNatClampNeg = 8 * c + 1 := sg_nIc (by omega)
  have e2 : nI (8 * c) + 2 = nI (8 * c + 2) := nI_add (8 * c) 2
  have i2 : sg_in (nI (8 * c + 2)) L = true := sg_in_nI (by omega) (by omega)
  have c2 : (nI (8 * c + 2)).toNatClampNeg = 8 * c + 2 := sg_nIc (by omega)
  have e3 : nI (8 * c) + 3 = nI (8 * c + 3) := nI_add (8 * c) 3
  have i3 : sg_in (nI (8 * c + 3)) L = true := sg_in_nI (by omega) (by omega)
  have c3 : (nI (8 * c + 3)).toNatClampNeg = 8 * c + 3 := sg_nIc (by omega)
  refine ⟨σ2, ?_, iv_all_mono (show B ≤ B + 4 by omega) g3, g4, g5⟩
  unfold lw_at
  simp (decide := true) only [mq_199_1077, mq_199_1078, mq_199_1079, mq_199_1080, mq_199_1081, mq_199_1082, mq_199_1083, mq_199_1084, mq_199_1085, mq_199_1086, mq_199_1087, mq_199_1088, mq_199_1089, mq_199_1090, mq_199_1091, mq_199_1092, mq_199_1093, n0, roV0, e1, i1, c1, e2, i2, c2, e3, i3, c3, g1, Nat.reduceAdd, Nat.reduceMul, Nat.reduceSub, Nat.zero_add, sg_bi_i, sg_bi_n, sg_bz, sg_bb, sg_b_0, sg_b_1, if_true, if_false, not_true_eq_false, not_false_eq_true, true_and, and_true, false_and, and_false, and_self, Int32.reduceSub]
  simp (decide := true) only [mq_199_1096, mq_199_1097, mq_199_1098, mq_199_1099, mq_199_1100, mq_199_1101, mq_199_1102, mq_199_1103, mq_199_1104, mq_199_1105, mq_199_1106, mq_199_1107, mq_199_1108, mq_199_1109, mq_199_1110, mq_199_1111, mq_199_1112, mq_199_1115, n1, roV0, k1, e1, i1, c1, e2, i2, c2, e3, i3, c3, g2, sg_lc_eq, Nat.reduceAdd, Nat.reduceMul, Nat.reduceSub, Nat.zero_add, sg_bi_i, sg_bi_n, sg_bz, sg_bb, sg_b_0, sg_b_1, if_true, if_false, not_true_eq_false, not_false_eq_true, true_and, and_true, false_and, and_false, and_self, Int32.reduceSub]
theorem lw_c19 (hB : 150 ≤ B) (hU : B ≤ 1000000) (hL : 8 * c + 8 ≤ L) (hL2 : L ≤ 4096) (hl : σ 999 0 = nI L) (h : iv_all B σ) : lw_ok B σ 1120 c := by
  obtain ⟨r, σ1, σ2, g1, g2, g3, g4, g5⟩ := pr_order (σ 1000 (8 * c + 1)) (σ 1000 (8 * c + 2)) h
  have kp := sg_ev_keep g1 (okL_args [sg_i (σ 1000 (8 * c + 1)), sg_i (σ 1000 (8 * c + 2))] (by rfl))
  have k1 : σ1 1000 = σ 1000 := kp 1000 (by omega)
  have k9 : σ1 999 = σ 999 := kp 999 (by omega)
  obtain ⟨v, rfl⟩ := ev_int g1 (by rfl)
  have n0 : sg_roN 0 σ = L := by show (σ 999 0).toNatClampNeg = L; rw [hl, sg_nIc (by omega)]
  have n1 : sg_roN 0 σ1 = L := by show (σ1 999 0).toNatClampNeg = L; rw [k9, hl, sg_nIc (by omega)]
  have e1 : nI (8 * c) + 1 = nI (8 * c + 1) := nI_add (8 * c) 1
  have i1 : sg_in (nI (8 * c + 1)) L = true := sg_in_nI (by omega) (by omega)
  have c1 : (nI (8 * c + 1)).toNatClampNeg = 8 * c + 1 := sg_nIc (by omega)
  have e2 : nI (8 * c) + 2 = nI (8 * c + 2) := nI_add (8 * c) 2
  have i2 : sg_in (nI (8 * c + 2)) L = true := sg_in_nI (by omega) (by omega)
  have c2 : (nI (8 * c + 2)).toNatClampNeg = 8 * c + 2 := sg_nIc (by omega)
  refine ⟨σ2, ?_, iv_all_mono (show B ≤ B + 4 by omega) g3, g4, g5⟩
  unfold lw_at
  simp (decide := true) only [mq_199_1120, mq_199_1121, mq_199_1122, mq_199_1123, mq_199_1124, mq_199_1125, mq_199_1126, mq_199_1127, mq_199_1128, mq_199_1129, mq_199_1130, mq_199_1131, n0, roV0, e1, i1, c1, e2, i2, c2, g1, Nat.reduceAdd, Nat.reduceMul, Nat.reduceSub, Nat.zero_add, sg_bi_i, sg_bi_n, sg_bz, sg_bb, sg_b_0, sg_b_1, if_true, if_false, not_true_eq_false, not_false_eq_true, true_and, and_true, false_and, and_false, and_self, Int32.reduceSub]
  simp (decide := true) only [mq_199_1134, mq_199_1135, mq_199_1136, mq_199_1137, mq_199_1138, mq_199_1139, mq_199_1140, mq_199_1141, mq_199_1142, mq_199_1143, mq_199_1144, mq_199_1145, mq_199_1148, n1, roV0, k1, e1, i1, c1, e2, i2, c2, g2, sg_lc_eq, Nat.reduceAdd, Nat.reduceMul, Nat.reduceSub, Nat.zero_add, sg_bi_i, sg_bi_n, sg_bz, sg_bb, sg_b_0, sg_b_1, if_true, if_false, not_true_eq_false, not_false_eq_true, true_and, and_true, false_and, and_false, and_self, Int32.reduceSub]
theorem lw_c20 (hB : 150 ≤ B) (hU : B ≤ 1000000) (hL : 8 * c + 8 ≤ L) (hL2 : L ≤ 4096) (hl : σ 999 0 = nI L) (h : iv_all B σ) : lw_ok B σ 1153 c := by
  obtain ⟨r, σ1, σ2, g1, g2, g3, g4, g5⟩ := pr_morning (σ 1000 (8 * c + 1)) (σ 1000 (8 * c + 2)) h
  have kp := sg_ev_keep g1 (okL_args [sg_i (σ 1000 (8 * c + 1)), sg_i (σ 1000 (8 * c + 2))] (by rfl))
  have k1 : σ1 1000 = σ 1000 := kp 1000 (by omega)
  have k9 : σ1 999 = σ 999 := kp 999 (by omega)
  obtain ⟨v, rfl⟩ := ev_int g1 (by rfl)
  have n0 : sg_roN 0 σ = L := by show (σ 999 0).toNatClampNeg = L; rw [hl, sg_nIc (by omega)]
  have n1 : sg_roN 0 σ1 = L := by show (σ1 999 0).toNatClampNeg = L; rw [k9, hl, sg_nIc (by omega)]
  have e1 : nI (8 * c) + 1 = nI (8 * c + 1) := nI_add (8 * c) 1
  have i1 : sg_in (nI (8 * c + 1)) L = true := sg_in_nI (by omega) (by omega)
  have c1 : (nI (8 * c + 1)).toNatClampNeg = 8 * c + 1 := sg_nIc (by omega)
  have e2 : nI (8 * c) + 2 = nI (8 * c + 2) := nI_add (8 * c) 2
  have i2 : sg_in (nI (8 * c + 2)) L = true := sg_in_nI (by omega) (by omega)
  have c2 : (nI (8 * c + 2)).toNatClampNeg = 8 * c + 2 := sg_nIc (by omega)
  refine ⟨σ2, ?_, iv_all_mono (show B ≤ B + 4 by omega) g3, g4, g5⟩
  unfold lw_at
  simp (decide := true) only [mq_199_1153, mq_199_1154, mq_199_1155, mq_199_1156, mq_199_1157, mq_199_1158, mq_199_1159, mq_199_1160, mq_199_1161, mq_199_1162, mq_199_1163, mq_199_1164, n0, roV0, e1, i1, c1, e2, i2, c2, g1, Nat.reduceAdd, Nat.reduceMul, Nat.reduceSub, Nat.zero_add, sg_bi_i, sg_bi_n, sg_bz, sg_bb, sg_b_0, sg_b_1, if_true, if_false, not_true_eq_false, not_false_eq_true, true_and, and_true, false_and, and_false, and_self, Int32.reduceSub]
  simp (decide := true) only [mq_199_1167, mq_199_1168, mq_199_1169, mq_199_1170, mq_199_1171, mq_199_1172, mq_199_1173, mq_199_1174, mq_199_1175, mq_199_1176, mq_199_1177, mq_199_1178, mq_199_1181, n1, roV0, k1, e1, i1, c1, e2, i2, c2, g2, sg_lc_eq, Nat.reduceAdd, Nat.reduceMul, Nat.reduceSub, Nat.zero_add, sg_bi_i, sg_bi_n, sg_bz, sg_bb, sg_b_0, sg_b_1, if_true, if_false, not_true_eq_false, not_false_eq_true, true_and, and_true, false_and, and_false, and_self, Int32.reduceSub]
theorem lw_c21 (hB : 150 ≤ B) (hU : B ≤ 1000000) (hL : 8 * c + 8 ≤ L) (hL2 : L ≤ 4096) (hl : σ 999 0 = nI L) (h : iv_all B σ) : lw_ok B σ 1186 c := by
  obtain ⟨r, σ1, σ2, g1, g2, g3, g4, g5⟩ := pr_sheet (σ 1000 (8 * c + 1)) (σ 1000 (8 * c + 2)) (σ 1000 (8 * c + 3)) h
  have kp := sg_ev_keep g1 (okL_args [sg_i (σ 1000 (8 * c + 1)), sg_i (σ 1000 (8 * c + 2)), sg_i (σ 1000 (8 * c + 3))] (by rfl))
  have k1 : σ1 1000 = σ 1000 := kp 1000 (by omega)
  have k9 : σ1 999 = σ 999 := kp 999 (by omega)
  obtain ⟨v, rfl⟩ := ev_int g1 (by rfl)
  have n0 : sg_roN 0 σ = L := by show (σ 999 0).toNatClampNeg = L; rw [hl, sg_nIc (by omega)]
  have n1 : sg_roN 0 σ1 = L := by show (σ1 999 0).toNatClampNeg = L; rw [k9, hl, sg_nIc (by omega)]
  have e1 : nI (8 * c) + 1 = nI (8 * c + 1) := nI_add (8 * c) 1
  have i1 : sg_in (nI (8 * c + 1)) L = true := sg_in_nI (by omega) (by omega)
  have c1 : (nI (8 * c + 1)).toNatClampNeg = 8 * c + 1 := sg_nIc (by omega)
  have e2 : nI (8 * c) + 2 = nI (8 * c + 2) := nI_add (8 * c) 2
  have i2 : sg_in (nI (8 * c + 2)) L = true := sg_in_nI (by omega) (by omega)
  have c2 : (nI (8 * c + 2)).toNatClampNeg = 8 * c + 2 := sg_nIc (by omega)
  have e3 : nI (8 * c) + 3 = nI (8 * c + 3) := nI_add (8 * c) 3
  have i3 : sg_in (nI (8 * c + 3)) L = true := sg_in_nI (by omega) (by omega)
  have c3 : (nI (8 * c + 3)).toNatClampNeg = 8 * c + 3 := sg_nIc (by omega)
  refine ⟨σ2, ?_, iv_all_mono (show B ≤ B + 4 by omega) g3, g4, g5⟩
  unfold lw_at
  simp (decide := true) only [mq_199_1186, mq_199_1187, mq_199_1188, mq_199_1189, mq_199_1190, mq_199_1191, mq_199_1192, mq_199_1193, mq_199_1194, mq_199_1195, mq_199_1196, mq_199_1197, mq_199_1198, mq_199_1199, mq_199_1200, mq_199_1201, mq_199_1202, n0, roV0, e1, i1, c1, e2, i2, c2, e3, i3, c3, g1, Nat.reduceAdd, Nat.reduceMul, Nat.reduceSub, Nat.zero_add, sg_bi_i, sg_bi_n, sg_bz, sg_bb, sg_b_0, sg_b_1, if_true, if_false, not_true_eq_false, not_false_eq_true, true_and, and_true, false_and, and_false, and_self, Int32.reduceSub]
  simp (decide := true) only [mq_199_1205, mq_199_1206, mq_199_1207, mq_199_1208, mq_199_1209, mq_199_1210, mq_199_1211, mq_199_1212, mq_199_1213, mq_199_1214, mq_199_1215, mq_199_1216, mq_199_1217, mq_199_1218, mq_199_1219, mq_199_1220, mq_199_1221, mq_199_1224, n1, roV0, k1, e1, i1, c1, e2, i2, c2, e3, i3, c3, g2, sg_lc_eq, Nat.reduceAdd, Nat.reduceMul, Nat.reduceSub, Nat.zero_add, sg_bi_i, sg_bi_n, sg_bz, sg_bb, sg_b_0, sg_b_1, if_true, if_false, not_true_eq_false, not_false_eq_true, true_and, and_true, false_and, and_false, and_self, Int32.reduceSub]
theorem lw_c22 (hB : 150 ≤ B) (hU : B ≤ 1000000) (hL : 8 * c + 8 ≤ L) (hL2 : L ≤ 4096) (hl : σ 999 0 = nI L) (h : iv_all B σ) : lw_ok B σ 1229 c := by
  obtain ⟨r, σ1, σ2, g1, g2, g3, g4, g5⟩ := pr_lose (σ 1000 (8 * c + 1)) h
  have kp := sg_ev_keep g1 (okL_args [sg_i (σ 1000 (8 * c + 1))] (by rfl))
  have k1 : σ1 1000 = σ 1000 := kp 1000 (by omega)
  have k9 : σ1 999 = σ 999 := kp 999 (by omega)
  obtain ⟨v, rfl⟩ := ev_int g1 (by rfl)
  have n0 : sg_roN 0 σ = L := by show (σ 999 0).toNatClampNeg = L; rw [hl, sg_nIc (by omega)]
  have n1 : sg_roN 0 σ1 = L := by show (σ1 999 0).toNatClampNeg = L; rw [k9, hl, sg_nIc (by omega)]
  have e1 : nI (8 * c) + 1 = nI (8 * c + 1) := nI_add (8 * c) 1
  have i1 : sg_in (nI (8 * c + 1)) L = true := sg_in_nI (by omega) (by omega)
  have c1 : (nI (8 * c + 1)).toNatClampNeg = 8 * c + 1 := sg_nIc (by omega)
  refine ⟨σ2, ?_, iv_all_mono (show B ≤ B + 4 by omega) g3, g4, g5⟩
  unfold lw_at
  simp (decide := true) only [mq_199_1229, mq_199_1230, mq_199_1231, mq_199_1232, mq_199_1233, mq_199_1234, mq_199_1235, n0, roV0, e1, i1, c1, g1, Nat.reduceAdd, Nat.reduceMul, Nat.reduceSub, Nat.zero_add, sg_bi_i, sg_bi_n, sg_bz, sg_bb, sg_b_0, sg_b_1, if_true, if_false, not_true_eq_false, not_false_eq_true, true_and, and_true, false_and, and_false, and_self, Int32.reduceSub]
  simp (decide := true) only [mq_199_1238, mq_199_1239, mq_199_1240, mq_199_1241, mq_199_1242, mq_199_1243, mq_199_1244, mq_199_1247, n1, roV0, k1, e1, i1, c1, g2, sg_lc_eq, Nat.reduceAdd, Nat.reduceMul, Nat.reduceSub, Nat.zero_add, sg_bi_i, sg_bi_n, sg_bz, sg_bb, sg_b_0, sg_b_1, if_true, if_false, not_true_eq_false, not_false_eq_true, true_and, and_true, false_and, and_false, and_self, Int32.reduceSub]
theorem lw_c23 (hB : 150 ≤ B) (hU : B ≤ 1000000) (hL : 8 * c + 8 ≤ L) (hL2 : L ≤ 4096) (hl : σ 999 0 = nI L) (h : iv_all B σ) : lw_ok B σ 1252 c := by
  obtain ⟨r, σ1, σ2, g1, g2, g3, g4, g5⟩ := pr_put (σ 1000 (8 * c + 1)) (σ 1000 (8 * c + 2)) (σ 1000 (8 * c + 3)) h
  have kp := sg_ev_keep g1 (okL_args [sg_i (σ 1000 (8 * c + 1)), sg_i (σ 1000 (8 * c + 2)), sg_i (σ 1000 (8 * c + 3))] (by rfl))
  have k1 : σ1 1000 = σ 1000 := kp 1000 (by omega)
  have k9 : σ1 999 = σ 999 := kp 999 (by omega)
  obtain ⟨v, rfl⟩ := ev_int g1 (by rfl)
  have n0 : sg_roN 0 σ = L := by show (σ 999 0).toNatClampNeg = L; rw [hl, sg_nIc (by omega)]
  have n1 : sg_roN 0 σ1 = L := by show (σ1 999 0).toNatClampNeg = L; rw [k9, hl, sg_nIc (by omega)]
  have e1 : nI (8 * c) + 1 = nI (8 * c + 1) := nI_add (8 * c) 1
  have i1 : sg_in (nI (8 * c + 1)) L = true := sg_in_nI (by omega) (by omega)
  have c1 : (nI (8 * c + 1)).toNatClampNeg = 8 * c + 1 := sg_nIc (by omega)
  have e2 : nI (8 * c) + 2 = nI (8 * c + 2) := nI_add (8 * c) 2
  have i2 : sg_in (nI (8 * c + 2)) L = true := sg_in_nI (by omega) (by omega)
  have c2 : (nI (8 * c + 2)).toNatClampNeg = 8 * c + 2 := sg_nIc (by omega)
  have e3 : nI (8 * c) + 3 = nI (8 * c + 3) := nI_add (8 * c) 3
  have i3 : sg_in (nI (8 * c + 3)) L = true := sg_in_nI (by omega) (by omega)
  have c3 : (nI (8 * c + 3)).toNatClampNeg = 8 * c + 3 := sg_nIc (by omega)
  refine ⟨σ2, ?_, iv_all_mono (show B ≤ B + 4 by omega) g3, g4, g5⟩
  unfold lw_at
  simp (decide := true) only [mq_199_1252, mq_199_1253, mq_199_1254, mq_199_1255, mq_199_1256, mq_199_1257, mq_199_1258, mq_199_1259, mq_199_1260, mq_199_1261, mq_199_1262, mq_199_1263, mq_199_1264, mq_199_1265, mq_199_1266, mq_199_1267, mq_199_1268, n0, roV0, e1, i1, c1, e2, i2, c2, e3, i3, c3, g1, Nat.reduceAdd, Nat.reduceMul, Nat.reduceSub, Nat.zero_add, sg_bi_i, sg_bi_n, sg_bz, sg_bb, sg_b_0, sg_b_1, if_true, if_false, not_true_eq_false, not_false_eq_true, true_and, and_true, false_and, and_false, and_self, Int32.reduceSub]
  simp (decide := true) only [mq_199_1271, mq_199_1272, mq_199_1273, mq_199_1274, mq_199_1275, mq_199_1276, mq_199_1277, mq_199_1278, mq_199_1279, mq_199_1280, mq_199_1281, mq_199_1282, mq_199_1283, mq_199_1284, mq_199_1285, mq_199_1286, mq_199_1287, mq_199_1290, n1, roV0, k1, e1, i1, c1, e2, i2, c2, e3, i3, c3, g2, sg_lc_eq, Nat.reduceAdd, Nat.reduceMul, Nat.reduceSub, Nat.zero_add, sg_bi_i, sg_bi_n, sg_bz, sg_bb, sg_b_0, sg_b_1, if_true, if_false, not_true_eq_false, not_false_eq_true, true_and, and_true, false_and, and_false, and_self, Int32.reduceSub]
theorem lw_c24 (hB : 150 ≤ B) (hU : B ≤ 1000000) (hL : 8 * c + 8 ≤ L) (hL2 : L ≤ 4096) (hl : σ 999 0 = nI L) (h : iv_all B σ) : lw_ok B σ 1295 c := by
  obtain ⟨r, σ1, σ2, g1, g2, g3, g4, g5⟩ := pr_cell (σ 1000 (8 * c + 1)) (σ 1000 (8 * c + 2)) (σ 1000 (8 * c + 3)) h
  have kp := sg_ev_keep g1 (okL_args [sg_i (σ 1000 (8 * c + 1)), sg_i (σ 1000 (8 * c + 2)), sg_i (σ 1000 (8 * c + 3))] (by rfl))
  have k1 : σ1 1000 = σ 1000 := kp 1000 (by omega)
  have k9 : σ1 999 = σ 999 := kp 999 (by omega)
  obtain ⟨v, rfl⟩ := ev_long g1 (by rfl)
  have n0 : sg_roN 0 σ = L := by show (σ 999 0).toNatClampNeg = L; rw [hl, sg_nIc (by omega)]
  have n1 : sg_roN 0 σ1 = L := by show (σ1 999 0).toNatClampNeg = L; rw [k9, hl, sg_nIc (by omega)]
  have e1 : nI (8 * c) + 1 = nI (8 * c + 1) := nI_add (8 * c) 1
  have i1 : sg_in (nI (8 * c + 1)) L = true := sg_in_nI (by omega) (by omega)
  have c1 : (nI (8 * c + 1)).toNatClampNeg = 8 * c + 1 := sg_nIc (by omega)
  have e2 : nI (8 * c) + 2 = nI (8 * c + 2) := nI_add (8 * c) 2
  have i2 : sg_in (nI (8 * c + 2)) L = true := sg_in_nI (by omega) (by omega)
  have c2 : (nI (8 * c + 2)).toNatClampNeg = 8 * c + 2 := sg_nIc (by omega)
  have e3 : nI (8 * c) + 3 = nI (8 * c + 3) := nI_add (8 * c) 3
  have i3 : sg_in (nI (8 * c + 3)) L = true := sg_in_nI (by omega) (by omega)
  have c3 : (nI (8 * c + 3)).toNatClampNeg = 8 * c + 3 := sg_nIc (by omega)
  refine ⟨σ2, ?_, iv_all_mono (show B ≤ B + 4 by omega) g3, g4, g5⟩
  unfold lw_at
  simp (decide := true) only [mq_199_1295, mq_199_1296, mq_199_1297, mq_199_1298, mq_199_1299, mq_199_1300, mq_199_1301, mq_199_1302, mq_199_1303, mq_199_1304, mq_199_1305, mq_199_1306, mq_199_1307, mq_199_1308, mq_199_1309, mq_199_1310, mq_199_1311, n0, roV0, e1, i1, c1, e2, i2, c2, e3, i3, c3, g1, Nat.reduceAdd, Nat.reduceMul, Nat.reduceSub, Nat.zero_add, sg_bi_i, sg_bi_n, sg_bz, sg_bb, sg_b_0, sg_b_1, if_true, if_false, not_true_eq_false, not_false_eq_true, true_and, and_true, false_and, and_false, and_self, Int32.reduceSub]
  simp (decide := true) only [mq_199_1314, mq_199_1315, mq_199_1316, mq_199_1317, mq_199_1318, mq_199_1319, mq_199_1320, mq_199_1321, mq_199_1322, mq_199_1323, mq_199_1324, mq_199_1325, mq_199_1326, mq_199_1327, mq_199_1328, mq_199_1329, mq_199_1330, mq_199_1333, mq_199_1334, n1, roV0, k1, e1, i1, c1, e2, i2, c2, e3, i3, c3, g2, sg_lc_eq, Nat.reduceAdd, Nat.reduceMul, Nat.reduceSub, Nat.zero_add, sg_bi_i, sg_bi_n, sg_bz, sg_bb, sg_b_0, sg_b_1, if_true, if_false, not_true_eq_false, not_false_eq_true, true_and, and_true, false_and, and_false, and_self, Int32.reduceSub]
theorem lw_c25 (hB : 150 ≤ B) (hU : B ≤ 1000000) (hL : 8 * c + 8 ≤ L) (hL2 : L ≤ 4096) (hl : σ 999 0 = nI L) (h : iv_all B σ) : lw_ok B σ 1339 c := by
  obtain ⟨r, σ1, σ2, g1, g2, g3, g4, g5⟩ := pr_copy (σ 1000 (8 * c + 1)) (σ 1000 (8 * c + 2)) (σ 1000 (8 * c + 3)) (σ 1000 (8 * c + 4)) (σ 1000 (8 * c + 5)) h
  have kp := sg_ev_keep g1 (okL_args [sg_i (σ 1000 (8 * c + 1)), sg_i (σ 1000 (8 * c + 2)), sg_i (σ 1000 (8 * c + 3)), sg_i (σ 1000 (8 * c + 4)), sg_i (σ 1000 (8 * c + 5))] (by rfl))
  have k1 : σ1 1000 = σ 1000 := kp 1000 (by omega)
  have k9 : σ1 999 = σ 999 := kp 999 (by omega)
  obtain ⟨v, rfl⟩ := ev_int g1 (by rfl)
  have n0 : sg_roN 0 σ = L := by show (σ 999 0).toNatClampNeg = L; rw [hl, sg_nIc (by omega)]
  have n1 : sg_roN 0 σ1 = L := by show (σ1 999 0).toNatClampNeg = L; rw [k9, hl, sg_nIc (by omega)]
  have e1 : nI (8 * c) + 1 = nI (8 * c + 1) := nI_add (8 * c) 1
  have i1 : sg_in (nI (8 * c + 1)) L = true := sg_in_nI (by omega) (by omega)
  have c1 : (nI (8 * c + 1)).toNatClampNeg = 8 * c + 1 := sg_nIc (by omega)
  have e2 : nI (8 * c) + 2 = nI (8 * c + 2) := nI_add (8 * c) 2
  have i2 : sg_in (nI (8 * c + 2)) L = true := sg_in_nI (by omega) (by omega)
  have c2 : (nI (8 * c + 2)).toNatClampNeg = 8 * c + 2 := sg_nIc (by omega)
  have e3 : nI (8 * c) + 3 = nI (8 * c + 3) := nI_add (8 * c) 3
  have i3 : sg_in (nI (8 * c + 3)) L = true := sg_in_nI (by omega) (by omega)
  have c3 : (nI (8 * c + 3)).toNatClampNeg = 8 * c + 3 := sg_nIc (by omega)
  have e4 : nI (8 * c) + 4 = nI (8 * c + 4) := nI_add (8 * c) 4
  have i4 : sg_in (nI (8 * c + 4)) L = true := sg_in_nI (by omega) (by omega)
  have c4 : (nI (8 * c + 4)).toNatClampNeg = 8 * c + 4 := sg_nIc (by omega)
  have e5 : nI (8 * c) + 5 = nI (8 * c + 5) := nI_add (8 * c) 5
  have i5 : sg_in (nI (8 * c + 5)) L = true := sg_in_nI (by omega) (by omega)
  have c5 : (nI (8 * c + 5)).toNatClampNeg = 8 * c + 5 := sg_nIc (by omega)
  refine ⟨σ2, ?_, iv_all_mono (show B ≤ B + 4 by omega) g3, g4, g5⟩
  unfold lw_at
  simp (decide := true) only [mq_199_1339, mq_199_1340, mq_199_1341, mq_199_1342, mq_199_1343, mq_199_1344, mq_199_1345, mq_199_1346, mq_199_1347, mq_199_1348, mq_199_1349, mq_199_1350, mq_199_1351, mq_199_1352, mq_199_1353, mq_199_1354, mq_199_1355, mq_199_1356, mq_199_1357, mq_199_1358, mq_199_1359, mq_199_1360, mq_199_1361, mq_199_1362, mq_199_1363, mq_199_1364, mq_199_1365, n0, roV0, e1, i1, c1, e2, i2, c2, e3, i3, c3, e4, i4, c4, e5, i5, c5, g1, Nat.reduceAdd, Nat.reduceMul, Nat.reduceSub, Nat.zero_add, sg_bi_i, sg_bi_n, sg_bz, sg_bb, sg_b_0, sg_b_1, if_true, if_false, not_true_eq_false, not_false_eq_true, true_and, and_true, false_and, and_false, and_self, Int32.reduceSub]
  simp (decide := true) only [mq_199_1368, mq_199_1369, mq_199_1370, mq_199_1371, mq_199_1372, mq_199_1373, mq_199_1374, mq_199_1375, mq_199_1376, mq_199_1377, mq_199_1378, mq_199_1379, mq_199_1380, mq_199_1381, mq_199_1382, mq_199_1383, mq_199_1384, mq_199_1385, mq_199_1386, mq_199_1387, mq_199_1388, mq_199_1389, mq_199_1390, mq_199_1391, mq_199_1392, mq_199_1393, mq_199_1394, mq_199_1397, n1, roV0, k1, e1, i1, c1, e2, i2, c2, e3, i3, c3, e4, i4, c4, e5, i5, c5, g2, sg_lc_eq, Nat.reduceAdd, Nat.reduceMul, Nat.reduceSub, Nat.zero_add, sg_bi_i, sg_bi_n, sg_bz, sg_bb, sg_b_0, sg_b_1, if_true, if_false, not_true_eq_false, not_false_eq_true, true_and, and_true, false_and, and_false, and_self, Int32.reduceSub]
theorem lw_c26 (hB : 150 ≤ B) (hU : B ≤ 1000000) (hL : 8 * c + 8 ≤ L) (hL2 : L ≤ 4096) (hl : σ 999 0 = nI L) (h : iv_all B σ) : lw_ok B σ 1402 c := by
  obtain ⟨r, σ1, σ2, g1, g2, g3, g4, g5⟩ := pr_tell (σ 1000 (8 * c + 1)) (σ 1000 (8 * c + 2)) h
  have kp := sg_ev_keep g1 (okL_args [sg_i (σ 1000 (8 * c + 1)), sg_i (σ 1000 (8 * c + 2))] (by rfl))
  have k1 : σ1 1000 = σ 1000 := kp 1000 (by omega)
  have k9 : σ1 999 = σ 999 := kp 999 (by omega)
  obtain ⟨v, rfl⟩ := ev_int g1 (by rfl)
  have n0 : sg_roN 0 σ = L := by show (σ 999 0).toNatClampNeg = L; rw [hl, sg_nIc (by omega)]
  have n1 : sg_roN 0 σ1 = L := by show (σ1 999 0).toNatClampNeg = L; rw [k9, hl, sg_nIc (by omega)]
  have e1 : nI (8 * c) + 1 = nI (8 * c + 1) := nI_add (8 * c) 1
  have i1 : sg_in (nI (8 * c + 1)) L = true := sg_in_nI (by omega) (by omega)
  have c1 : (nI (8 * c + 1)).toNatClampNeg = 8 * c + 1 := sg_nIc (by omega)
  have e2 : nI (8 * c) + 2 = nI (8 * c + 2) := nI_add (8 * c) 2
  have i2 : sg_in (nI (8 * c + 2)) L = true := sg_in_nI (by omega) (by omega)
  have c2 : (nI (8 * c + 2)).toNatClampNeg = 8 * c + 2 := sg_nIc (by omega)
  refine ⟨σ2, ?_, iv_all_mono (show B ≤ B + 4 by omega) g3, g4, g5⟩
  unfold lw_at
  simp (decide := true) only [mq_199_1402, mq_199_1403, mq_199_1404, mq_199_1405, mq_199_1406, mq_199_1407, mq_199_1408, mq_199_1409, mq_199_1410, mq_199_1411, mq_199_1412, mq_199_1413, n0, roV0, e1, i1, c1, e2, i2, c2, g1, Nat.reduceAdd, Nat.reduceMul, Nat.reduceSub, Nat.zero_add, sg_bi_i, sg_bi_n, sg_bz, sg_bb, sg_b_0, sg_b_1, if_true, if_false, not_true_eq_false, not_false_eq_true, true_and, and_true, false_and, and_false, and_self, Int32.reduceSub]
  simp (decide := true) only [mq_199_1416, mq_199_1417, mq_199_1418, mq_199_1419, mq_199_1420, mq_199_1421, mq_199_1422, mq_199_1423, mq_199_1424, mq_199_1425, mq_199_1426, mq_199_1427, mq_199_1430, n1, roV0, k1, e1, i1, c1, e2, i2, c2, g2, sg_lc_eq, Nat.reduceAdd, Nat.reduceMul, Nat.reduceSub, Nat.zero_add, sg_bi_i, sg_bi_n, sg_bz, sg_bb, sg_b_0, sg_b_1, if_true, if_false, not_true_eq_false, not_false_eq_true, true_and, and_true, false_and, and_false, and_self, Int32.reduceSub]
theorem lw_c27 (hB : 150 ≤ B) (hU : B ≤ 1000000) (hL : 8 * c + 8 ≤ L) (hL2 : L ≤ 4096) (hl : σ 999 0 = nI L) (h : iv_all B σ) : lw_ok B σ 1435 c := by
  obtain ⟨r, σ1, σ2, g1, g2, g3, g4, g5⟩ := pr_call (σ 1000 (8 * c + 1)) (σ 1000 (8 * c + 2)) h
  have kp := sg_ev_keep g1 (okL_args [sg_i (σ 1000 (8 * c + 1)), sg_i (σ 1000 (8 * c + 2))] (by rfl))
  have k1 : σ1 1000 = σ 1000 := kp 1000 (by omega)
  have k9 : σ1 999 = σ 999 := kp 999 (by omega)
  obtain ⟨v, rfl⟩ := ev_int g1 (by rfl)
  have n0 : sg_roN 0 σ = L := by show (σ 999 0).toNatClampNeg = L; rw [hl, sg_nIc (by omega)]
  have n1 : sg_roN 0 σ1 = L := by show (σ1 999 0).toNatClampNeg = L; rw [k9, hl, sg_nIc (by omega)]
  have e1 : nI (8 * c) + 1 = nI (8 * c + 1) := nI_add (8 * c) 1
  have i1 : sg_in (nI (8 * c + 1)) L = true := sg_in_nI (by omega) (by omega)
  have c1 : (nI (8 * c + 1)).toNatClampNeg = 8 * c + 1 := sg_nIc (by omega)
  have e2 : nI (8 * c) + 2 = nI (8 * c + 2) := nI_add (8 * c) 2
  have i2 : sg_in (nI (8 * c + 2)) L = true := sg_in_nI (by omega) (by omega)
  have c2 : (nI (8 * c + 2)).toNatClampNeg = 8 * c + 2 := sg_nIc (by omega)
  refine ⟨σ2, ?_, iv_all_mono (show B ≤ B + 4 by omega) g3, g4, g5⟩
  unfold lw_at
  simp (decide := true) only [mq_199_1435, mq_199_1436, mq_199_1437, mq_199_1438, mq_199_1439, mq_199_1440, mq_199_1441, mq_199_1442, mq_199_1443, mq_199_1444, mq_199_1445, mq_199_1446, n0, roV0, e1, i1, c1, e2, i2, c2, g1, Nat.reduceAdd, Nat.reduceMul, Nat.reduceSub, Nat.zero_add, sg_bi_i, sg_bi_n, sg_bz, sg_bb, sg_b_0, sg_b_1, if_true, if_false, not_true_eq_false, not_false_eq_true, true_and, and_true, false_and, and_false, and_self, Int32.reduceSub]
  simp (decide := true) only [mq_199_1449, mq_199_1450, mq_199_1451, mq_199_1452, mq_199_1453, mq_199_1454, mq_199_1455, mq_199_1456, mq_199_1457, mq_199_1458, mq_199_1459, mq_199_1460, mq_199_1463, n1, roV0, k1, e1, i1, c1, e2, i2, c2, g2, sg_lc_eq, Nat.reduceAdd, Nat.reduceMul, Nat.reduceSub, Nat.zero_add, sg_bi_i, sg_bi_n, sg_bz, sg_bb, sg_b_0, sg_b_1, if_true, if_false, not_true_eq_false, not_false_eq_true, true_and, and_true, false_and, and_false, and_self, Int32.reduceSub]
theorem lw_c28 (hB : 150 ≤ B) (hU : B ≤ 1000000) (hL : 8 * c + 8 ≤ L) (hL2 : L ≤ 4096) (hl : σ 999 0 = nI L) (h : iv_all B σ) : lw_ok B σ 1468 c := by
  obtain ⟨r, σ1, σ2, g1, g2, g3, g4, g5⟩ := pr_as (σ 1000 (8 * c + 1)) (σ 1000 (8 * c + 2)) (σ 1000 (8 * c + 3)) h
  have kp := sg_ev_keep g1 (okL_args [sg_i (σ 1000 (8 * c + 1)), sg_i (σ 1000 (8 * c + 2)), sg_i (σ 1000 (8 * c + 3))] (by rfl))
  have k1 : σ1 1000 = σ 1000 := kp 1000 (by omega)
  have k9 : σ1 999 = σ 999 := kp 999 (by omega)
  obtain ⟨v, rfl⟩ := ev_int g1 (by rfl)
  have n0 : sg_roN 0 σ = L := by show (σ 999 0).toNatClampNeg = L; rw [hl, sg_nIc (by omega)]
  have n1 : sg_roN 0 σ1 = L := by show (σ1 999 0).toNatClampNeg = L; rw [k9, hl, sg_nIc (by omega)]
  have e1 : nI (8 * c) + 1 = nI (8 * c + 1) := nI_add (8 * c) 1
  have i1 : sg_in (nI (8 * c + 1)) L = true := sg_in_nI (by omega) (by omega)
  have c1 : (nI (8 * c + 1)).toNatClampNeg = 8 * c + 1 := sg_nIc (by omega)
  have e2 : nI (8 * c) + 2 = nI (8 * c + 2) := nI_add (8 * c) 2
  have i2 : sg_in (nI (8 * c + 2)) L = true := sg_in_nI (by omega) (by omega)
  have c2 : (nI (8 * c + 2)).toNatClampNeg = 8 * c + 2 := sg_nIc (by omega)
  have e3 : nI (8 * c) + 3 = nI (8 * c + 3) := nI_add (8 * c) 3
  have i3 : sg_in (nI (8 * c + 3)) L = true := sg_in_nI (by omega) (by omega)
  have c3 : (nI (8 * c + 3)).toNatClampNeg = 8 * c + 3 := sg_nIc (by omega)
  refine ⟨σ2, ?_, iv_all_mono (show B ≤ B + 4 by omega) g3, g4, g5⟩
  unfold lw_at
  simp (decide := true) only [mq_199_1468, mq_199_1469, mq_199_1470, mq_199_1471, mq_199_1472, mq_199_1473, mq_199_1474, mq_199_1475, mq_199_1476, mq_199_1477, mq_199_1478, mq_199_1479, mq_199_1480, mq_199_1481, mq_199_1482, mq_199_1483, mq_199_1484, n0, roV0, e1, i1, c1, e2, i2, c2, e3, i3, c3, g1, Nat.reduceAdd, Nat.reduceMul, Nat.reduceSub, Nat.zero_add, sg_bi_i, sg_bi_n, sg_bz, sg_bb, sg_b_0, sg_b_1, if_true, if_false, not_true_eq_false, not_false_eq_true, true_and, and_true, false_and, and_false, and_self, Int32.reduceSub]
  simp (decide := true) only [mq_199_1487, mq_199_1488, mq_199_1489, mq_199_1490, mq_199_1491, mq_199_1492, mq_199_1493, mq_199_1494, mq_199_1495, mq_199_1496, mq_199_1497, mq_199_1498, mq_199_1499, mq_199_1500, mq_199_1501, mq_199_1502, mq_199_1503, mq_199_1506, n1, roV0, k1, e1, i1, c1, e2, i2, c2, e3, i3, c3, g2, sg_lc_eq, Nat.reduceAdd, Nat.reduceMul, Nat.reduceSub, Nat.zero_add, sg_bi_i, sg_bi_n, sg_bz, sg_bb, sg_b_0, sg_b_1, if_true, if_false, not_true_eq_false, not_false_eq_true, true_and, and_true, false_and, and_false, and_self, Int32.reduceSub]
theorem lw_c29 (hB : 150 ≤ B) (hU : B ≤ 1000000) (hL : 8 * c + 8 ≤ L) (hL2 : L ≤ 4096) (hl : σ 999 0 = nI L) (h : iv_all B σ) : lw_ok B σ 1511 c := by
  obtain ⟨r, σ1, σ2, g1, g2, g3, g4, g5⟩ := pr_trace h
  have kp := sg_ev_keep g1 (okL_args [] (by rfl))
  have k1 : σ1 1000 = σ 1000 := kp 1000 (by omega)
  have k9 : σ1 999 = σ 999 := kp 999 (by omega)
  obtain ⟨v, rfl⟩ := ev_int g1 (by rfl)
  have n0 : sg_roN 0 σ = L := by show (σ 999 0).toNatClampNeg = L; rw [hl, sg_nIc (by omega)]
  have n1 : sg_roN 0 σ1 = L := by show (σ1 999 0).toNatClampNeg = L; rw [k9, hl, sg_nIc (by omega)]
  refine ⟨σ2, ?_, iv_all_mono (show B ≤ B + 4 by omega) g3, g4, g5⟩
  unfold lw_at
  simp (decide := true) only [mq_199_1511, mq_199_1512, n0, roV0, g1, Nat.reduceAdd, Nat.reduceMul, Nat.reduceSub, Nat.zero_add, sg_bi_i, sg_bi_n, sg_bz, sg_bb, sg_b_0, sg_b_1, if_true, if_false, not_true_eq_false, not_false_eq_true, true_and, and_true, false_and, and_false, and_self, Int32.reduceSub]
  simp (decide := true) only [mq_199_1515, mq_199_1516, mq_199_1519, n1, roV0, k1, g2, sg_lc_eq, Nat.reduceAdd, Nat.reduceMul, Nat.reduceSub, Nat.zero_add, sg_bi_i, sg_bi_n, sg_bz, sg_bb, sg_b_0, sg_b_1, if_true, if_false, not_true_eq_false, not_false_eq_true, true_and, and_true, false_and, and_false, and_self, Int32.reduceSub]
theorem lw_c30 (hB : 150 ≤ B) (hU : B ≤ 1000000) (hL : 8 * c + 8 ≤ L) (hL2 : L ≤ 4096) (hl : σ 999 0 = nI L) (h : iv_all B σ) : lw_ok B σ 1524 c := by
  obtain ⟨r, σ1, σ2, g1, g2, g3, g4, g5⟩ := pr_fault h
  have kp := sg_ev_keep g1 (okL_args [] (by rfl))
  have k1 : σ1 1000 = σ 1000 := kp 1000 (by omega)
  have k9 : σ1 999 = σ 999 := kp 999 (by omega)
  obtain ⟨v, rfl⟩ := ev_int g1 (by rfl)
  have n0 : sg_roN 0 σ = L := by show (σ 999 0).toNatClampNeg = L; rw [hl, sg_nIc (by omega)]
  have n1 : sg_roN 0 σ1 = L := by show (σ1 999 0).toNatClampNeg = L; rw [k9, hl, sg_nIc (by omega)]
  refine ⟨σ2, ?_, iv_all_mono (show B ≤ B + 4 by omega) g3, g4, g5⟩
  unfold lw_at
  simp (decide := true) only [mq_199_1524, mq_199_1525, n0, roV0, g1, Nat.reduceAdd, Nat.reduceMul, Nat.reduceSub, Nat.zero_add, sg_bi_i, sg_bi_n, sg_bz, sg_bb, sg_b_0, sg_b_1, if_true, if_false, not_true_eq_false, not_false_eq_true, true_and, and_true, false_and, and_false, and_self, Int32.reduceSub]
  simp (decide := true) only [mq_199_1528, mq_199_1529, mq_199_1532, n1, roV0, k1, g2, sg_lc_eq, Nat.reduceAdd, Nat.reduceMul, Nat.reduceSub, Nat.zero_add, sg_bi_i, sg_bi_n, sg_bz, sg_bb, sg_b_0, sg_b_1, if_true, if_false, not_true_eq_false, not_false_eq_true, true_and, and_true, false_and, and_false, and_self, Int32.reduceSub]
theorem lw_c31 (hB : 150 ≤ B) (hU : B ≤ 1000000) (hL : 8 * c + 8 ≤ L) (hL2 : L ≤ 4096) (hl : σ 999 0 = nI L) (h : iv_all B σ) : lw_ok B σ 1537 c := by
  obtain ⟨r, σ1, σ2, g1, g2, g3, g4, g5⟩ := pr_many (σ 1000 (8 * c + 1)) h
  have kp := sg_ev_keep g1 (okL_args [sg_i (σ 1000 (8 * c + 1))] (by rfl))
  have k1 : σ1 1000 = σ 1000 := kp 1000 (by omega)
  have k9 : σ1 999 = σ 999 := kp 999 (by omega)
  obtain ⟨v, rfl⟩ := ev_int g1 (by rfl)
  have n0 : sg_roN 0 σ = L := by show (σ 999 0).toNatClampNeg = L; rw [hl, sg_nIc (by omega)]
  have n1 : sg_roN 0 σ1 = L := by show (σ1 999 0).toNatClampNeg = L; rw [k9, hl, sg_nIc (by omega)]
  have e1 : nI (8 * c) + 1 = nI (8 * c + 1) := nI_add (8 * c) 1
  have i1 : sg_in (nI (8 * c + 1)) L = true := sg_in_nI (by omega) (by omega)
  have c1 : (nI (8 * c + 1)).toNatClampNeg = 8 * c + 1 := sg_nIc (by omega)
  refine ⟨σ2, ?_, iv_all_mono (show B ≤ B + 4 by omega) g3, g4, g5⟩
  unfold lw_at
  simp (decide := true) only [mq_199_1537, mq_199_1538, mq_199_1539, mq_199_1540, mq_199_1541, mq_199_1542, mq_199_1543, n0, roV0, e1, i1, c1, g1, Nat.reduceAdd, Nat.reduceMul, Nat.reduceSub, Nat.zero_add, sg_bi_i, sg_bi_n, sg_bz, sg_bb, sg_b_0, sg_b_1, if_true, if_false, not_true_eq_false, not_false_eq_true, true_and, and_true, false_and, and_false, and_self, Int32.reduceSub]
  simp (decide := true) only [mq_199_1546, mq_199_1547, mq_199_1548, mq_199_1549, mq_199_1550, mq_199_1551, mq_199_1552, mq_199_1555, n1, roV0, k1, e1, i1, c1, g2, sg_lc_eq, Nat.reduceAdd, Nat.reduceMul, Nat.reduceSub, Nat.zero_add, sg_bi_i, sg_bi_n, sg_bz, sg_bb, sg_b_0, sg_b_1, if_true, if_false, not_true_eq_false, not_false_eq_true, true_and, and_true, false_and, and_false, and_self, Int32.reduceSub]
end LAW
theorem law_l : ∀ n c (B : Int) (σ : sg_M) (L : Nat), 8 * (c + n) ≤ L → L < 8 * (c + n) + 8 → L ≤ 4096 → σ 999 0 = nI L → 150 ≤ B → B + 4 * n ≤ 1000000 → iv_all B σ → ∃ σ' : sg_M, lw_at σ 18 c = some (some (sg_i 1), σ') := by
  intro n
  induction n with
  | zero =>
    intro c B σ L h1 h2 h3 hl hB hU h
    refine ⟨σ, ?_⟩
    have n0 : sg_roN 0 σ = L := by show (σ 999 0).toNatClampNeg = L; rw [hl, sg_nIc (by omega)]
    have s8 : (nI L - 8 < nI (8 * c)) = True := by
      refine eq_true ?_
      rw [show (8 : Int32) = nI 8 from rfl, Int32.lt_iff_toInt_lt, pk_sub_toInt (by omega) (by omega), nI_toInt (by omega)]
      omega
    unfold lw_at
    simp (decide := true) only [mq_199_18, mq_199_19, mq_199_20, mq_199_21, mq_199_23, mq_199_24, mq_199_1566, mq_199_1567, n0, show Int32.ofNat L = nI L from rfl, s8, Nat.reduceAdd, Nat.reduceMul, Nat.reduceSub, Nat.zero_add, sg_bi_i, sg_bi_n, sg_bz, sg_bb, sg_b_0, sg_b_1, if_true, if_false, not_true_eq_false, not_false_eq_true, true_and, and_true, false_and, and_false, and_self, Int32.reduceSub]
  | succ n ih =>
    intro c B σ L h1 h2 h3 hl hB hU h
    have n0 : sg_roN 0 σ = L := by show (σ 999 0).toNatClampNeg = L; rw [hl, sg_nIc (by omega)]
    have s8 : (nI L - 8 < nI (8 * c)) = False := by
      refine eq_false ?_
      rw [show (8 : Int32) = nI 8 from rfl, Int32.lt_iff_toInt_lt, pk_sub_toInt (by omega) (by omega), nI_toInt (by omega)]
      omega
    have i0 : sg_in (nI (8 * c)) L = true := sg_in_nI (by omega) (by omega)
    have c0 : (nI (8 * c)).toNatClampNeg = 8 * c := sg_nIc (by omega)
    have head : lw_at σ 18 c = sg_rv 199 33 σ [sg_r 90 1000, sg_r 1 0, sg_r 7 120, sg_i (nI (8 * c))] [sg_i (σ 1000 (8 * c) &&& 31)] := by
      unfold lw_at
      simp (decide := true) only [mq_199_18, mq_199_19, mq_199_20, mq_199_21, mq_199_23, mq_199_24, mq_199_27, mq_199_28, mq_199_29, mq_199_30, mq_199_32, n0, show Int32.ofNat L = nI L from rfl, s8, i0, c0, roV0, Nat.reduceAdd, Nat.reduceMul, Nat.reduceSub, Nat.zero_add, sg_bi_i, sg_bi_n, sg_bz, sg_bb, sg_b_0, sg_b_1, if_true, if_false, not_true_eq_false, not_false_eq_true, true_and, and_true, false_and, and_false, and_self, Int32.reduceSub]
    have key : ∀ pc, sg_rv 199 33 σ [sg_r 90 1000, sg_r 1 0, sg_r 7 120, sg_i (nI (8 * c))] [sg_i (σ 1000 (8 * c) &&& 31)] = lw_at σ pc c → lw_ok B σ pc c → ∃ σ' : sg_M, lw_at σ 18 c = some (some (sg_i 1), σ') := by
      intro pc e ⟨σ2, e2, h2', k1, k9⟩
      obtain ⟨σ', hσ⟩ := ih (c + 1) (B + 4) σ2 L (by omega) (by omega) h3 (by rw [k9]; exact hl) (by omega) (by omega) h2'
      refine ⟨σ', ?_⟩
      rw [head, e, e2, ← hσ]
      have e8 : nI (8 * c) + 8 = nI (8 * (c + 1)) := nI_add (8 * c) 8
      unfold lw_at
      simp (decide := true) only [mq_199_1560, mq_199_1563, e8, Nat.reduceAdd, Nat.reduceMul, Nat.reduceSub, Nat.zero_add, sg_bi_i, sg_bi_n, sg_bz, sg_bb, sg_b_0, sg_b_1, if_true, if_false, not_true_eq_false, not_false_eq_true, true_and, and_true, false_and, and_false, and_self, Int32.reduceSub]
    obtain ⟨j, hj, ej⟩ := pk_andE (σ 1000 (8 * c)) (m := 31) 5 (by decide)
    have hj : j < 32 := hj
    rcases (show j = 0 ∨ j = 1 ∨ j = 2 ∨ j = 3 ∨ j = 4 ∨ j = 5 ∨ j = 6 ∨ j = 7 ∨ j = 8 ∨ j = 9 ∨ j = 10 ∨ j = 11 ∨ j = 12 ∨ j = 13 ∨ j = 14 ∨ j = 15 ∨ j = 16 ∨ j = 17 ∨ j = 18 ∨ j = 19 ∨ j = 20 ∨ j = 21 ∨ j = 22 ∨ j = 23 ∨ j = 24 ∨ j = 25 ∨ j = 26 ∨ j = 27 ∨ j = 28 ∨ j = 29 ∨ j = 30 ∨ j = 31 by omega) with rfl | rfl | rfl | rfl | rfl | rfl | rfl | rfl | rfl | rfl | rfl | rfl | rfl | rfl | rfl | rfl | rfl | rfl | rfl | rfl | rfl | rfl | rfl | rfl | rfl | rfl | rfl | rfl | rfl | rfl | rfl | rfl
    · exact key 176 (by rw [ej]; exact mq_199_33_0 σ _ []) (lw_c0 hB (by omega) (by omega) h3 hl h)
    · exact key 229 (by rw [ej]; exact mq_199_33_1 σ _ []) (lw_c1 hB (by omega) (by omega) h3 hl h)
    · exact key 272 (by rw [ej]; exact mq_199_33_2 σ _ []) (lw_c2 hB (by omega) (by omega) h3 hl h)
    · exact key 305 (by rw [ej]; exact mq_199_33_3 σ _ []) (lw_c3 hB (by omega) (by omega) h3 hl h)
    · exact key 348 (by rw [ej]; exact mq_199_33_4 σ _ []) (lw_c4 hB (by omega) (by omega) h3 hl h)
    · exact key 401 (by rw [ej]; exact mq_199_33_5 σ _ []) (lw_c5 hB (by omega) (by omega) h3 hl h)
    · exact key 434 (by rw [ej]; exact mq_199_33_6 σ _ []) (lw_c6 hB (by omega) (by omega) h3 hl h)
    · exact key 467 (by rw [ej]; exact mq_199_33_7 σ _ []) (lw_c7 hB (by omega) (by omega) h3 hl h)
    · exact key 542 (by rw [ej]; exact mq_199_33_8 σ _ []) (lw_c8 hB (by omega) (by omega) h3 hl h)
    · exact key 585 (by rw [ej]; exact mq_199_33_9 σ _ []) (lw_c9 hB (by omega) (by omega) h3 hl h)
    · exact key 628 (by rw [ej]; exact mq_199_33_10 σ _ []) (lw_c10 hB (by omega) (by omega) h3 hl h)
    · exact key 691 (by rw [ej]; exact mq_199_33_11 σ _ []) (lw_c11 hB (by omega) (by omega) h3 hl h)
    · exact key 754 (by rw [ej]; exact mq_199_33_12 σ _ []) (lw_c12 hB (by omega) (by omega) h3 hl h)
    · exact key 842 (by rw [ej]; exact mq_199_33_13 σ _ []) (lw_c13 hB (by omega) (by omega) h3 hl h)
    · exact key 905 (by rw [ej]; exact mq_199_33_14 σ _ []) (lw_c14 hB (by omega) (by omega) h3 hl h)
    · exact key 958 (by rw [ej]; exact mq_199_33_15 σ _ []) (lw_c15 hB (by omega) (by omega) h3 hl h)
    · exact key 981 (by rw [ej]; exact mq_199_33_16 σ _ []) (lw_c16 hB (by omega) (by omega) h3 hl h)
    · exact key 1024 (by rw [ej]; exact mq_199_33_17 σ _ []) (lw_c17 hB (by omega) (by omega) h3 hl h)
    · exact key 1077 (by rw [ej]; exact mq_199_33_18 σ _ []) (lw_c18 hB (by omega) (by omega) h3 hl h)
    · exact key 1120 (by rw [ej]; exact mq_199_33_19 σ _ []) (lw_c19 hB (by omega) (by omega) h3 hl h)
    · exact key 1153 (by rw [ej]; exact mq_199_33_20 σ _ []) (lw_c20 hB (by omega) (by omega) h3 hl h)
    · exact key 1186 (by rw [ej]; exact mq_199_33_21 σ _ []) (lw_c21 hB (by omega) (by omega) h3 hl h)
    · exact key 1229 (by rw [ej]; exact mq_199_33_22 σ _ []) (lw_c22 hB (by omega) (by omega) h3 hl h)
    · exact key 1252 (by rw [ej]; exact mq_199_33_23 σ _ []) (lw_c23 hB (by omega) (by omega) h3 hl h)
    · exact key 1295 (by rw [ej]; exact mq_199_33_24 σ _ []) (lw_c24 hB (by omega) (by omega) h3 hl h)
    · exact key 1339 (by rw [ej]; exact mq_199_33_25 σ _ []) (lw_c25 hB (by omega) (by omega) h3 hl h)
    · exact key 1402 (by rw [ej]; exact mq_199_33_26 σ _ []) (lw_c26 hB (by omega) (by omega) h3 hl h)
    · exact key 1435 (by rw [ej]; exact mq_199_33_27 σ _ []) (lw_c27 hB (by omega) (by omega) h3 hl h)
    · exact key 1468 (by rw [ej]; exact mq_199_33_28 σ _ []) (lw_c28 hB (by omega) (by omega) h3 hl h)
    · exact key 1511 (by rw [ej]; exact mq_199_33_29 σ _ []) (lw_c29 hB (by omega) (by omega) h3 hl h)
    · exact key 1524 (by rw [ej]; exact mq_199_33_30 σ _ []) (lw_c30 hB (by omega) (by omega) h3 hl h)
    · exact key 1537 (by rw [ej]; exact mq_199_33_31 σ _ []) (lw_c31 hB (by omega) (by omega) h3 hl h)
