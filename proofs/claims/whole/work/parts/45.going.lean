theorem fn_min_sym (a b : Int32) : (if a < b then a else b) = (if b < a then b else a) := by
  by_cases h1 : a < b
  · have h2 : ¬ b < a := fun q => Int32.lt_irrefl (Int32.lt_trans h1 q)
    rw [if_pos h1, if_neg h2]
  · rw [if_neg h1]
    by_cases h2 : b < a
    · rw [if_pos h2]
    · rw [if_neg h2]
      exact Int32.le_antisymm (Int32.not_lt.mp h1) (Int32.not_lt.mp h2)
theorem em_tenth (σ : sg_M) (n : Nat) (kind : Int32) (h1 : 1 ≤ n) (h8 : n ≤ 8) (hn : σ 120 8 = nI n) (hok : ∀ k, k < n → fn_okr (σ 127) (σ 128) k) : sg_ev 136 σ [sg_r 7 120, sg_i kind] = some (none, sg_mm σ (fn_O kind (σ 120 9) n (fn_H 1 (fn_mo kind) n (σ 127) (σ 128) (σ 129))) (σ 120 10 + 1)
    (fn_R kind n (σ 127) (σ 128) (fn_H 1 (fn_mo kind) n (σ 127) (σ 128) (σ 129))) (fn_H 1 (fn_mo kind) n (σ 127) (σ 128) (σ 129)) (fn_S n (σ 129) (fn_H 1 (fn_mo kind) n (σ 127) (σ 128) (σ 129)) (σ 130)) (fun j => if j < n then σ 129 j else σ 131 j)) := by
  have hcool := em_cool σ n (fn_mo kind) h1 h8 hn hok
  generalize hH : fn_H 1 (fn_mo kind) n (σ 127) (σ 128) (σ 129) = Hh at hcool ⊢
  generalize fn_S n (σ 129) Hh (σ 130) = Ss at hcool ⊢
  generalize (fun j => if j < n then σ 129 j else σ 131 j) = W0 at hcool ⊢
  have st : sg_ev 136 σ [sg_r 7 120, sg_i kind] = sg_rv 136 14 (sg_mm σ (σ 120 9) (σ 120 10) (σ 128) Hh Ss W0) [sg_r 7 120, sg_i kind, sg_r 0 0, sg_r 0 0, sg_r 0 0] [] := by
    unfold fn_mo at hcool
    by_cases h3 : kind = 3
    · subst h3
      simp only [if_true] at hcool
      simp (decide := true) only [me_136, mq_136_0, mq_136_1, mq_136_2, mq_136_3, mq_136_6, mq_136_7, mq_136_10, mq_136_11, hcool, sg_bi_n, if_true]
    · simp only [h3, if_false] at hcool
      simp (decide := true) only [me_136, mq_136_0, mq_136_1, mq_136_2, mq_136_3, mq_136_6, mq_136_7, mq_136_10, mq_136_11, h3, hcool, sg_bi_n, if_false]
  rw [st]
  generalize hτ : sg_mm σ (σ 120 9) (σ 120 10) (σ 128) Hh Ss W0 = τ
  have b0 : τ 120 = σ 120 := by
    rw [← hτ, mm_120]
    funext j
    by_cases hj : j = 10
    · subst hj; rw [upd_same]
    · rw [upd_ne hj]
      by_cases hj : j = 9
      · subst hj; rw [upd_same]
      · rw [upd_ne hj]
  have b1 : τ 127 = σ 127 := by rw [← hτ, mm_ne (by omega)]
  have b2 : τ 128 = σ 128 := by rw [← hτ, mm_128]
  have b3 : τ 129 = Hh := by rw [← hτ, mm_129]
  have b4 : τ 130 = Ss := by rw [← hτ, mm_130]
  have b5 : τ 131 = W0 := by rw [← hτ, mm_131]
  have bx : ∀ x, (x ≠ 120 ∧ (x < 128 ∨ 131 < x)) → τ x = σ x := fun x hx => by rw [← hτ, mm_ne hx]
  have hgs := em_gs τ n h1 h8 (by rw [b0]; exact hn)
  rw [b3] at hgs
  have fin : ∀ v : Int32, sg_rv 136 44 (sg_up τ 120 9 v) [sg_r 7 120, sg_i kind, sg_r 0 0, sg_r 0 0, sg_r 0 0] [] = some (none, sg_mm σ v (σ 120 10 + 1) (fn_R kind n (σ 127) (σ 128) Hh) Hh Ss W0) := by
    intro v
    have d0 : sg_up τ 120 9 v 120 = upd (σ 120) 9 v := by rw [sg_up_row, b0]
    have dx : ∀ x, x ≠ 120 → sg_up τ 120 9 v x = τ x := fun x hx => sg_up_ne hx
    have hsb := em_sb (sg_up τ 120 9 v) n h1 h8 (by rw [d0, upd_ne (by omega)]; exact hn)
    rw [dx 129 (by omega), b3] at hsb
    have hb := fn_sb_lt Hh n h1
    have i2 : sg_in (nI (fn_sb Hh n)) 8 = true := sg_in_nI (by omega) (by omega)
    have ck : (nI (fn_sb Hh n)).toNatClampNeg = fn_sb Hh n := sg_nIc (by omega)
    have d10 : (upd (σ 120) 9 v) 10 = σ 120 10 := upd_ne (by omega)
    simp only [mq_136_44, mq_136_45, mq_136_46]
    unfold fn_R
    by_cases h2 : kind = 2
    · have hend : ∀ (u : Int32) (x2 x3 x4 : sg_V), sg_rv 136 113 (sg_up (sg_up τ 120 9 v) 128 (fn_sb Hh n) u) [sg_r 7 120, sg_i kind, x2, x3, x4] [] = some (none, sg_mm σ v (σ 120 10 + 1) (upd (σ 128) (fn_sb Hh n) u) Hh Ss W0) := by
        intro u x2 x3 x4
        have g0 : sg_up (sg_up τ 120 9 v) 128 (fn_sb Hh n) u 120 = upd (σ 120) 9 v := by rw [sg_up_ne (by omega), d0]
        simp only [mq_136_113, mq_136_114, mq_136_115, mq_136_118, mq_136_119, mq_136_120, mq_136_123, g0, d10]
        congr 2
        refine mm_ext ?_ ?_ ?_ ?_ ?_ (fun x hx => ?_)
        · rw [sg_up_row, g0]
        · rw [sg_up_ne (by omega), sg_up_row, dx _ (by omega), b2]
        · rw [sg_up_ne (by omega), sg_up_ne (by omega), dx _ (by omega), b3]
        · rw [sg_up_ne (by omega), sg_up_ne (by omega), dx _ (by omega), b4]
        · rw [sg_up_ne (by omega), sg_up_ne (by omega), dx _ (by omega), b5]
        · rw [sg_up_ne (by omega), sg_up_ne (by omega), dx _ (by omega), bx x hx]
      have e127 : sg_up τ 120 9 v 127 = σ 127 := by rw [dx _ (by omega), b1]
      have e128 : sg_up τ 120 9 v 128 = σ 128 := by rw [dx _ (by omega), b2]
      have e129 : sg_up τ 120 9 v 129 = Hh := by rw [dx _ (by omega), b3]
      unfold fn_sw
      rw [fn_min_sym (σ 128 (fn_sb Hh n) + fn_soft (Hh (fn_sb Hh n)))]
      subst h2
      simp (decide := true) only [if_true]
      by_cases g9 : σ 127 (fn_sb Hh n) < 99
      · by_cases t9 : σ 127 (fn_sb Hh n) < σ 128 (fn_sb Hh n) + fn_soft (Hh (fn_sb Hh n))
        · simp (decide := true) only [mq_136_49, mq_136_50, mq_136_53, mq_136_54, mq_136_55, mq_136_58, mq_136_59, mq_136_60, mq_136_62, mq_136_65, mq_136_66, mq_136_69, mq_136_70, mq_136_71, mq_136_74, mq_136_76, mq_136_77, mq_136_78, mq_136_81, mq_136_82, mq_136_83, mq_136_84, mq_136_87, mq_136_88, mq_136_89, mq_136_92, mq_136_93, mq_136_95, mq_136_96, mq_136_99, mq_136_100, mq_136_102, mq_136_103, mq_136_106, mq_136_107, mq_136_110, mq_136_112, Nat.reduceAdd, hsb, sg_bi_i, i2, ck, e127, e128, e129, em_soft, g9, t9, if_true, hend]
        · simp (decide := true) only [mq_136_49, mq_136_50, mq_136_53, mq_136_54, mq_136_55, mq_136_58, mq_136_59, mq_136_60, mq_136_62, mq_136_65, mq_136_66, mq_136_69, mq_136_70, mq_136_71, mq_136_74, mq_136_76, mq_136_77, mq_136_78, mq_136_81, mq_136_82, mq_136_83, mq_136_84, mq_136_87, mq_136_88, mq_136_89, mq_136_92, mq_136_93, mq_136_95, mq_136_96, mq_136_99, mq_136_100, mq_136_102, mq_136_103, mq_136_106, mq_136_107, mq_136_110, mq_136_112, Nat.reduceAdd, hsb, sg_bi_i, i2, ck, e127, e128, e129, em_soft, g9, t9, if_true, if_false, hend]
      · by_cases t9 : 99 < σ 128 (fn_sb Hh n) + fn_soft (Hh (fn_sb Hh n))
        · simp (decide := true) only [mq_136_49, mq_136_50, mq_136_53, mq_136_54, mq_136_55, mq_136_58, mq_136_59, mq_136_60, mq_136_62, mq_136_65, mq_136_66, mq_136_69, mq_136_70, mq_136_71, mq_136_74, mq_136_76, mq_136_77, mq_136_78, mq_136_81, mq_136_82, mq_136_83, mq_136_84, mq_136_87, mq_136_88, mq_136_89, mq_136_92, mq_136_93, mq_136_95, mq_136_96, mq_136_99, mq_136_100, mq_136_102, mq_136_103, mq_136_106, mq_136_107, mq_136_110, mq_136_112, Nat.reduceAdd, hsb, sg_bi_i, i2, ck, e127, e128, e129, em_soft, g9, t9, if_true, if_false, hend]
        · simp (decide := true) only [mq_136_49, mq_136_50, mq_136_53, mq_136_54, mq_136_55, mq_136_58, mq_136_59, mq_136_60, mq_136_62, mq_136_65, mq_136_66, mq_136_69, mq_136_70, mq_136_71, mq_136_74, mq_136_76, mq_136_77, mq_136_78, mq_136_81, mq_136_82, mq_136_83, mq_136_84, mq_136_87, mq_136_88, mq_136_89, mq_136_92, mq_136_93, mq_136_95, mq_136_96, mq_136_99, mq_136_100, mq_136_102, mq_136_103, mq_136_106, mq_136_107, mq_136_110, mq_136_112, Nat.reduceAdd, hsb, sg_bi_i, i2, ck, e127, e128, e129, em_soft, g9, t9, if_true, if_false, hend]
    · simp only [h2, if_false, mq_136_113, mq_136_114, mq_136_115, mq_136_118, mq_136_119, mq_136_120, mq_136_123, d0, d10]
      congr 2
      refine mm_ext ?_ ?_ ?_ ?_ ?_ (fun x hx => ?_)
      · rw [sg_up_row, d0]
      · rw [sg_up_ne (by omega), dx _ (by omega), b2]
      · rw [sg_up_ne (by omega), dx _ (by omega), b3]
      · rw [sg_up_ne (by omega), dx _ (by omega), b4]
      · rw [sg_up_ne (by omega), dx _ (by omega), b5]
      · rw [sg_up_ne (by omega), dx _ (by omega), bx x hx]
  unfold fn_O
  by_cases hk0 : kind = 0
  · simp only [mq_136_14, mq_136_15, mq_136_16, mq_136_19, mq_136_20, mq_136_23, mq_136_24, mq_136_27, mq_136_28, mq_136_31, mq_136_32, mq_136_33, mq_136_36, mq_136_37, mq_136_38, mq_136_41, hk0, if_true, hgs, sg_bi_i, b0]
    rw [← hk0]
    exact fin _
  · simp only [mq_136_14, mq_136_15, mq_136_16, mq_136_19, mq_136_20, mq_136_23, mq_136_24, mq_136_27, mq_136_28, mq_136_31, mq_136_32, mq_136_33, mq_136_36, mq_136_37, mq_136_38, mq_136_41, hk0, if_false, em_greater, sg_bi_i, b0]
    exact fin _
