/-! A TENTH -/
def fn_cl (d : Int32) : Int32 := if 0 < (if d < 1500 then d else 1500) then (if d < 1500 then d else 1500) else 0
def fn_warm (mo v th : Int32) : Int32 := if mo = 0 then v - (v - 20) / (10 + th) else v + (1200 - v) / (2 + th)
def fn_side (on : Int32) (w : Nat → Int32) (k : Nat) (a : Int32) : Int32 := if 0 < k then a + (w (k - 1) - w k) / 8 else if on = 0 then a else a + (300 - w k) / 8
def fn_next (n : Nat) (w : Nat → Int32) (k : Nat) (a : Int32) : Int32 := if k + 1 < n then a + (w (k + 1) - w k) / 8 else a
/-- a ring's next heat -/
def fn_nh (on mo : Int32) (n : Nat) (g r w : Nat → Int32) (k : Nat) : Int32 := fn_cl (fn_next n w k (fn_side on w k (fn_warm mo (w k) (g k / r k))))
def fn_okr (g r : Nat → Int32) (k : Nat) : Prop := 0 < r k ∧ ¬ 2 + g k / r k = 0 ∧ ¬ 10 + g k / r k = 0
theorem sg_ne0 {x : Int32} (h : 0 < x) : ¬ x = 0 := fun q => by rw [q] at h; exact absurd h (by decide)
theorem ev_thick (σ : sg_M) (c : Nat) (k : Int32) (h : sg_in k 8 = true) (h0 : 0 < σ (c + 2) k.toNatClampNeg) : sg_ev 17 σ [sg_r 2 c, sg_i k] = some (some (sg_i (σ (c + 1) k.toNatClampNeg / σ (c + 2) k.toNatClampNeg)), σ) := by
  simp (decide := true) only [me_17, mq_17_0, mq_17_1, mq_17_4, mq_17_5, mq_17_6, mq_17_9, mq_17_10, mq_17_13, mq_17_14, mq_17_15, mq_17_16, mq_17_19, mq_17_20, mq_17_21, mq_17_22, mq_17_25, mq_17_26, h, h0, sg_ne0 h0, if_true]
theorem ev_nh (σ : sg_M) (c n k : Nat) (mo : Int32) (hk : k < n) (h8 : n ≤ 8) (hn : σ c 6 = nI n) (hok : fn_okr (σ (c + 1)) (σ (c + 2)) k) : sg_ev 30 σ [sg_r 2 c, sg_i (nI k), sg_i mo] = some (some (sg_i (fn_nh (σ c 0) mo n (σ (c + 1)) (σ (c + 2)) (σ (c + 5)) k)), σ) := by
  obtain ⟨o1, o2, o3⟩ := hok
  have i1 : sg_in (nI k) 8 = true := sg_in_nI (by omega) (by omega)
  have ck : (nI k).toNatClampNeg = k := sg_nIc (by omega)
  have ht := ev_thick σ c (nI k) i1 (by rw [ck]; exact o1)
  rw [ck] at ht
  have p1 : (0 < nI k) = (0 < k) := by rw [show (0 : Int32) = nI 0 from rfl, eq_iff_iff]; exact nI_ltI (by omega) (by omega)
  have p2 : (nI (k + 1) < nI n) = (k + 1 < n) := by rw [eq_iff_iff]; exact nI_ltI (by omega) (by omega)
  have tail : ∀ v : Int32, sg_rv 30 98 σ [sg_r 2 c, sg_i (nI k), sg_i mo, sg_i (σ (c + 5) k), sg_i v] [] = some (some (sg_i (fn_cl (fn_next n (σ (c + 5)) k v))), σ) := by
    intro v
    simp (decide := true) only [mq_30_98, mq_30_99, mq_30_100, mq_30_101, mq_30_102, mq_30_105, hn, nI_1, p2]
    unfold fn_cl fn_next
    by_cases h1 : k + 1 < n
    · have i2 : sg_in (nI (k + 1)) 8 = true := sg_in_nI (by omega) (by omega)
      simp (decide := true) only [h1, if_true, mq_30_108, mq_30_110, mq_30_111, mq_30_114, mq_30_115, mq_30_116, mq_30_117, mq_30_118, mq_30_119, mq_30_120, mq_30_122, mq_30_123, mq_30_124, mq_30_126, mq_30_127, mq_30_130, mq_30_132, mq_30_135, mq_30_138, i2, nI_1, sg_nIc (show k + 1 < 2 ^ 31 by omega)]
    · simp (decide := true) only [h1, if_false, mq_30_126, mq_30_127, mq_30_130, mq_30_132, mq_30_135, mq_30_138]
  have mid : ∀ v : Int32, sg_rv 30 53 σ [sg_r 2 c, sg_i (nI k), sg_i mo, sg_i (σ (c + 5) k), sg_i v] [] = some (some (sg_i (fn_cl (fn_next n (σ (c + 5)) k (fn_side (σ c 0) (σ (c + 5)) k v)))), σ) := by
    intro v
    simp (decide := true) only [mq_30_53, mq_30_54, p1]
    unfold fn_side
    by_cases h1 : 0 < k
    · obtain ⟨j, rfl⟩ : ∃ j, k = j + 1 := ⟨k - 1, by omega⟩
      have i2 : sg_in (nI j) 8 = true := sg_in_nI (by omega) (by omega)
      simp (decide := true) only [h1, if_true, mq_30_57, mq_30_59, mq_30_60, mq_30_63, mq_30_64, mq_30_65, mq_30_66, mq_30_67, mq_30_68, mq_30_69, mq_30_71, mq_30_72, mq_30_73, mq_30_75, nI_pred, i2, sg_nIc (show j < 2 ^ 31 by omega), Nat.add_sub_cancel, tail]
    · by_cases h2 : σ c 0 = 0
      · simp (decide := true) only [h1, h2, if_true, if_false, mq_30_78, mq_30_79, mq_30_82, tail]
      · simp (decide := true) only [h1, h2, if_true, if_false, mq_30_78, mq_30_79, mq_30_82, mq_30_85, mq_30_87, mq_30_90, mq_30_91, mq_30_92, mq_30_94, mq_30_95, mq_30_96, tail]
  unfold fn_nh fn_warm
  by_cases h1 : mo = 0
  · subst h1
    simp (decide := true) only [me_30, mq_30_0, mq_30_1, mq_30_4, mq_30_5, mq_30_6, mq_30_7, mq_30_8, mq_30_10, mq_30_11, mq_30_14, mq_30_16, mq_30_19, mq_30_20, mq_30_21, mq_30_22, mq_30_23, mq_30_24, mq_30_27, mq_30_28, mq_30_29, mq_30_30, mq_30_32, mq_30_35, mq_30_37, mq_30_38, mq_30_40, mq_30_41, mq_30_43, mq_30_44, mq_30_45, mq_30_48, mq_30_49, mq_30_50, mq_30_51, i1, ck, ht, o3, sg_bi_i, if_true, mid]
  · simp (decide := true) only [me_30, mq_30_0, mq_30_1, mq_30_4, mq_30_5, mq_30_6, mq_30_7, mq_30_8, mq_30_10, mq_30_11, mq_30_14, mq_30_16, mq_30_19, mq_30_20, mq_30_21, mq_30_22, mq_30_23, mq_30_24, mq_30_27, mq_30_28, mq_30_29, mq_30_30, mq_30_32, mq_30_35, mq_30_37, mq_30_38, mq_30_40, mq_30_41, mq_30_43, mq_30_44, mq_30_45, mq_30_48, mq_30_49, mq_30_50, mq_30_51, i1, ck, ht, h1, o2, sg_bi_i, if_false, mid]
/-- the strain between ring k and the next, behind a tenth -/
def fn_sn (w h s : Nat → Int32) (k : Nat) : Int32 := if (0 < fn_soft (w k) ∨ 0 < fn_soft (w (k + 1))) ∧ ¬ (0 < fn_soft (h k) ∨ 0 < fn_soft (h (k + 1))) then (if s k < (if 0 ≤ h k - h (k + 1) then h k - h (k + 1) else 0 - (h k - h (k + 1))) / 10 then (if 0 ≤ h k - h (k + 1) then h k - h (k + 1) else 0 - (h k - h (k + 1))) / 10 else s k) else s k
theorem ev_sn (σ : sg_M) (c k : Nat) (hk : k + 1 < 8) : sg_ev 31 σ [sg_r 2 c, sg_i (nI k)] = some (none, sg_up σ (c + 4) k (fn_sn (σ (c + 5)) (σ (c + 3)) (σ (c + 4)) k)) := by
  have i1 : sg_in (nI k) 8 = true := sg_in_nI (by omega) (by omega)
  have i2 : sg_in (nI (k + 1)) 8 = true := sg_in_nI (by omega) (by omega)
  have ck : (nI k).toNatClampNeg = k := sg_nIc (by omega)
  have ck2 : (nI (k + 1)).toNatClampNeg = k + 1 := sg_nIc (by omega)
  have self : sg_up σ (c + 4) k (σ (c + 4) k) = σ := by
    funext x
    by_cases hx : x = c + 4
    · subst hx
      rw [sg_up_row]
      funext j
      by_cases hj : j = k
      · subst hj; rw [upd_same]
      · rw [upd_ne hj]
    · rw [sg_up_ne hx]
  unfold fn_sn
  by_cases h1 : 0 < fn_soft (σ (c + 5) k)
  · by_cases h3 : 0 < fn_soft (σ (c + 3) k)
    · simp (decide := true) only [me_31, mq_31_0, mq_31_1, mq_31_4, mq_31_5, mq_31_6, mq_31_9, mq_31_12, mq_31_13, mq_31_16, mq_31_17, mq_31_18, mq_31_19, mq_31_20, mq_31_23, mq_31_26, mq_31_27, mq_31_30, mq_31_31, mq_31_32, mq_31_33, mq_31_36, mq_31_37, mq_31_38, mq_31_41, mq_31_44, mq_31_45, mq_31_48, mq_31_49, mq_31_50, mq_31_51, mq_31_52, mq_31_55, mq_31_58, mq_31_59, mq_31_62, mq_31_63, mq_31_64, mq_31_65, mq_31_68, mq_31_69, mq_31_72, mq_31_73, mq_31_76, mq_31_77, mq_31_78, mq_31_81, mq_31_82, mq_31_83, mq_31_84, mq_31_87, mq_31_88, mq_31_89, mq_31_90, mq_31_93, mq_31_94, mq_31_95, mq_31_96, mq_31_97, mq_31_98, mq_31_101, mq_31_103, mq_31_104, mq_31_107, mq_31_108, ev_softAt, sg_bi_i, i1, i2, ck, ck2, nI_1, h1, h3, true_or, not_true_eq_false, and_false, if_true, if_false, self]
    · by_cases h4 : 0 < fn_soft (σ (c + 3) (k + 1))
      · simp (decide := true) only [me_31, mq_31_0, mq_31_1, mq_31_4, mq_31_5, mq_31_6, mq_31_9, mq_31_12, mq_31_13, mq_31_16, mq_31_17, mq_31_18, mq_31_19, mq_31_20, mq_31_23, mq_31_26, mq_31_27, mq_31_30, mq_31_31, mq_31_32, mq_31_33, mq_31_36, mq_31_37, mq_31_38, mq_31_41, mq_31_44, mq_31_45, mq_31_48, mq_31_49, mq_31_50, mq_31_51, mq_31_52, mq_31_55, mq_31_58, mq_31_59, mq_31_62, mq_31_63, mq_31_64, mq_31_65, mq_31_68, mq_31_69, mq_31_72, mq_31_73, mq_31_76, mq_31_77, mq_31_78, mq_31_81, mq_31_82, mq_31_83, mq_31_84, mq_31_87, mq_31_88, mq_31_89, mq_31_90, mq_31_93, mq_31_94, mq_31_95, mq_31_96, mq_31_97, mq_31_98, mq_31_101, mq_31_103, mq_31_104, mq_31_107, mq_31_108, ev_softAt, sg_bi_i, i1, i2, ck, ck2, nI_1, h1, h3, h4, true_or, or_true, not_true_eq_false, and_false, if_true, if_false, self]
      · simp (decide := true) only [me_31, mq_31_0, mq_31_1, mq_31_4, mq_31_5, mq_31_6, mq_31_9, mq_31_12, mq_31_13, mq_31_16, mq_31_17, mq_31_18, mq_31_19, mq_31_20, mq_31_23, mq_31_26, mq_31_27, mq_31_30, mq_31_31, mq_31_32, mq_31_33, mq_31_36, mq_31_37, mq_31_38, mq_31_41, mq_31_44, mq_31_45, mq_31_48, mq_31_49, mq_31_50, mq_31_51, mq_31_52, mq_31_55, mq_31_58, mq_31_59, mq_31_62, mq_31_63, mq_31_64, mq_31_65, mq_31_68, mq_31_69, mq_31_72, mq_31_73, mq_31_76, mq_31_77, mq_31_78, mq_31_81, mq_31_82, mq_31_83, mq_31_84, mq_31_87, mq_31_88, mq_31_89, mq_31_90, mq_31_93, mq_31_94, mq_31_95, mq_31_96, mq_31_97, mq_31_98, mq_31_101, mq_31_103, mq_31_104, mq_31_107, mq_31_108, ev_softAt, sg_bi_i, i1, i2, ck, ck2, nI_1, h1, h3, h4, true_or, or_self, not_false_eq_true, and_self, if_true, if_false]
  · by_cases h2 : 0 < fn_soft (σ (c + 5) (k + 1))
    · by_cases h3 : 0 < fn_soft (σ (c + 3) k)
      · simp (decide := true) only [me_31, mq_31_0, mq_31_1, mq_31_4, mq_31_5, mq_31_6, mq_31_9, mq_31_12, mq_31_13, mq_31_16, mq_31_17, mq_31_18, mq_31_19, mq_31_20, mq_31_23, mq_31_26, mq_31_27, mq_31_30, mq_31_31, mq_31_32, mq_31_33, mq_31_36, mq_31_37, mq_31_38, mq_31_41, mq_31_44, mq_31_45, mq_31_48, mq_31_49, mq_31_50, mq_31_51, mq_31_52, mq_31_55, mq_31_58, mq_31_59, mq_31_62, mq_31_63, mq_31_64, mq_31_65, mq_31_68, mq_31_69, mq_31_72, mq_31_73, mq_31_76, mq_31_77, mq_31_78, mq_31_81, mq_31_82, mq_31_83, mq_31_84, mq_31_87, mq_31_88, mq_31_89, mq_31_90, mq_31_93, mq_31_94, mq_31_95, mq_31_96, mq_31_97, mq_31_98, mq_31_101, mq_31_103, mq_31_104, mq_31_107, mq_31_108, ev_softAt, sg_bi_i, i1, i2, ck, ck2, nI_1, h1, h2, h3, true_or, or_true, not_true_eq_false, and_false, if_true, if_false, self]
      · by_cases h4 : 0 < fn_soft (σ (c + 3) (k + 1))
        · simp (decide := true) only [me_31, mq_31_0, mq_31_1, mq_31_4, mq_31_5, mq_31_6, mq_31_9, mq_31_12, mq_31_13, mq_31_16, mq_31_17, mq_31_18, mq_31_19, mq_31_20, mq_31_23, mq_31_26, mq_31_27, mq_31_30, mq_31_31, mq_31_32, mq_31_33, mq_31_36, mq_31_37, mq_31_38, mq_31_41, mq_31_44, mq_31_45, mq_31_48, mq_31_49, mq_31_50, mq_31_51, mq_31_52, mq_31_55, mq_31_58, mq_31_59, mq_31_62, mq_31_63, mq_31_64, mq_31_65, mq_31_68, mq_31_69, mq_31_72, mq_31_73, mq_31_76, mq_31_77, mq_31_78, mq_31_81, mq_31_82, mq_31_83, mq_31_84, mq_31_87, mq_31_88, mq_31_89, mq_31_90, mq_31_93, mq_31_94, mq_31_95, mq_31_96, mq_31_97, mq_31_98, mq_31_101, mq_31_103, mq_31_104, mq_31_107, mq_31_108, ev_softAt, sg_bi_i, i1, i2, ck, ck2, nI_1, h1, h2, h3, h4, true_or, or_true, not_true_eq_false, and_false, if_true, if_false, self]
        · simp (decide := true) only [me_31, mq_31_0, mq_31_1, mq_31_4, mq_31_5, mq_31_6, mq_31_9, mq_31_12, mq_31_13, mq_31_16, mq_31_17, mq_31_18, mq_31_19, mq_31_20, mq_31_23, mq_31_26, mq_31_27, mq_31_30, mq_31_31, mq_31_32, mq_31_33, mq_31_36, mq_31_37, mq_31_38, mq_31_41, mq_31_44, mq_31_45, mq_31_48, mq_31_49, mq_31_50, mq_31_51, mq_31_52, mq_31_55, mq_31_58, mq_31_59, mq_31_62, mq_31_63, mq_31_64, mq_31_65, mq_31_68, mq_31_69, mq_31_72, mq_31_73, mq_31_76, mq_31_77, mq_31_78, mq_31_81, mq_31_82, mq_31_83, mq_31_84, mq_31_87, mq_31_88, mq_31_89, mq_31_90, mq_31_93, mq_31_94, mq_31_95, mq_31_96, mq_31_97, mq_31_98, mq_31_101, mq_31_103, mq_31_104, mq_31_107, mq_31_108, ev_softAt, sg_bi_i, i1, i2, ck, ck2, nI_1, h1, h2, h3, h4, true_or, or_true, or_self, not_false_eq_true, and_self, if_true, if_false]
    · by_cases h3 : 0 < fn_soft (σ (c + 3) k)
      · simp (decide := true) only [me_31, mq_31_0, mq_31_1, mq_31_4, mq_31_5, mq_31_6, mq_31_9, mq_31_12, mq_31_13, mq_31_16, mq_31_17, mq_31_18, mq_31_19, mq_31_20, mq_31_23, mq_31_26, mq_31_27, mq_31_30, mq_31_31, mq_31_32, mq_31_33, mq_31_36, mq_31_37, mq_31_38, mq_31_41, mq_31_44, mq_31_45, mq_31_48, mq_31_49, mq_31_50, mq_31_51, mq_31_52, mq_31_55, mq_31_58, mq_31_59, mq_31_62, mq_31_63, mq_31_64, mq_31_65, mq_31_68, mq_31_69, mq_31_72, mq_31_73, mq_31_76, mq_31_77, mq_31_78, mq_31_81, mq_31_82, mq_31_83, mq_31_84, mq_31_87, mq_31_88, mq_31_89, mq_31_90, mq_31_93, mq_31_94, mq_31_95, mq_31_96, mq_31_97, mq_31_98, mq_31_101, mq_31_103, mq_31_104, mq_31_107, mq_31_108, ev_softAt, sg_bi_i, i1, i2, ck, ck2, nI_1, h1, h2, h3, or_self, false_and, if_true, if_false, self]
      · by_cases h4 : 0 < fn_soft (σ (c + 3) (k + 1)) <;> simp (decide := true) only [me_31, mq_31_0, mq_31_1, mq_31_4, mq_31_5, mq_31_6, mq_31_9, mq_31_12, mq_31_13, mq_31_16, mq_31_17, mq_31_18, mq_31_19, mq_31_20, mq_31_23, mq_31_26, mq_31_27, mq_31_30, mq_31_31, mq_31_32, mq_31_33, mq_31_36, mq_31_37, mq_31_38, mq_31_41, mq_31_44, mq_31_45, mq_31_48, mq_31_49, mq_31_50, mq_31_51, mq_31_52, mq_31_55, mq_31_58, mq_31_59, mq_31_62, mq_31_63, mq_31_64, mq_31_65, mq_31_68, mq_31_69, mq_31_72, mq_31_73, mq_31_76, mq_31_77, mq_31_78, mq_31_81, mq_31_82, mq_31_83, mq_31_84, mq_31_87, mq_31_88, mq_31_89, mq_31_90, mq_31_93, mq_31_94, mq_31_95, mq_31_96, mq_31_97, mq_31_98, mq_31_101, mq_31_103, mq_31_104, mq_31_107, mq_31_108, ev_softAt, sg_bi_i, i1, i2, ck, ck2, nI_1, h1, h2, h3, h4, or_self, false_and, if_true, if_false, self]
/-- the softest ring swells -/
def fn_sw (n : Nat) (g r h : Nat → Int32) : Nat → Int32 := upd r (fn_sb h n) (if r (fn_sb h n) + fn_soft (h (fn_sb h n)) < (if g (fn_sb h n) < 99 then g (fn_sb h n) else 99) then r (fn_sb h n) + fn_soft (h (fn_sb h n)) else (if g (fn_sb h n) < 99 then g (fn_sb h n) else 99))
theorem ev_sw (σ : sg_M) (c n : Nat) (h1 : 1 ≤ n) (h8 : n ≤ 8) (hn : σ c 6 = nI n) : sg_ev 32 σ [sg_r 2 c] = some (none, sg_set σ (c + 2) (fn_sw n (σ (c + 1)) (σ (c + 2)) (σ (c + 3)))) := by
  have hb := fn_sb_lt (σ (c + 3)) n h1
  have i2 : sg_in (nI (fn_sb (σ (c + 3)) n)) 8 = true := sg_in_nI (by omega) (by omega)
  simp (decide := true) only [me_32, mq_32_0, mq_32_1, mq_32_4, mq_32_5, mq_32_7, mq_32_8, mq_32_11, mq_32_12, mq_32_13, mq_32_16, mq_32_17, mq_32_18, mq_32_21, mq_32_22, mq_32_23, mq_32_24, mq_32_27, mq_32_28, mq_32_29, mq_32_30, mq_32_33, mq_32_34, mq_32_35, mq_32_38, mq_32_39, mq_32_42, mq_32_43, ev_sb σ c n h1 h8 hn, ev_softAt, sg_bi_i, i2, sg_nIc (show fn_sb (σ (c + 3)) n < 2 ^ 31 by omega), fn_sw]
  rfl
