/-! the model takes a piece up, and lays it back -/
def fn_cut (p x : Nat) (f g : Nat → Int32) : Nat → Int32 := fun j => if j < x then f (8 * p + j) else g j
theorem fn_cut_s (p x : Nat) (f g : Nat → Int32) : upd (fn_cut p x f g) x (f (8 * p + x)) = fn_cut p (x + 1) f g := by
  unfold fn_cut
  exact upd_lt g x (fun j => f (8 * p + j))
theorem fn_cut_0 (p : Nat) (f g : Nat → Int32) : fn_cut p 0 f g = g := by
  funext j; simp [fn_cut]
def fn_lay (p x : Nat) (f g : Nat → Int32) : Nat → Int32 := fun y => if 8 * p ≤ y ∧ y < 8 * p + x then f (y - 8 * p) else g y
theorem fn_lay_s (p x : Nat) (f g : Nat → Int32) : upd (fn_lay p x f g) (8 * p + x) (f x) = fn_lay p (x + 1) f g := by
  funext y
  unfold fn_lay
  by_cases hy : y = 8 * p + x
  · subst hy
    rw [upd_same, if_pos (by omega)]
    congr 1
    omega
  · rw [upd_ne hy]
    by_cases h2 : 8 * p ≤ y ∧ y < 8 * p + x
    · rw [if_pos h2, if_pos (by omega)]
    · rw [if_neg h2, if_neg (by omega)]
theorem fn_lay_0 (p : Nat) (f g : Nat → Int32) : fn_lay p 0 f g = g := by
  funext y; unfold fn_lay; rw [if_neg (by omega)]
theorem em_take_l (σ τ : sg_M) (p : Nat) (hp : p < 8) (hr : ∀ y, 122 ≤ y → y ≤ 130 → y ≠ 126 → τ y = σ y) : ∀ m x (M : sg_M), x + m = 8 → M 127 = fn_cut p x (σ 122) (σ 127) → M 128 = fn_cut p x (σ 123) (σ 128) → M 129 = fn_cut p x (σ 124) (σ 129) → M 130 = fn_cut p x (σ 125) (σ 130) → (∀ y, y < 127 ∨ 130 < y → M y = τ y) →
    sg_rv 123 27 M [sg_r 7 120, sg_i (nI p), sg_i (nI x)] [] = some (none, sg_set (sg_set (sg_set (sg_set τ 127 (fn_cut p 8 (σ 122) (σ 127))) 128 (fn_cut p 8 (σ 123) (σ 128))) 129 (fn_cut p 8 (σ 124) (σ 129))) 130 (fn_cut p 8 (σ 125) (σ 130))) := by
  have c8 : ∀ x, x < 2 ^ 31 → ((nI x < 8) = (x < 8)) := fun x hx => by rw [show (8 : Int32) = nI 8 from rfl, eq_iff_iff]; exact nI_ltI hx (by omega)
  intro m
  induction m with
  | zero =>
    intro x M hx g1 g2 g3 g4 g5
    obtain rfl : x = 8 := by omega
    simp (decide := true) only [mq_123_27, mq_123_28, mq_123_30, c8 8 (by omega), show ¬ (8 : Nat) < 8 by omega, if_false, mq_123_107]
    congr 2
    funext y
    rcases (show y = 127 ∨ y = 128 ∨ y = 129 ∨ y = 130 ∨ (y < 127 ∨ 130 < y) by omega) with rfl | rfl | rfl | rfl | q
    · rw [g1, sg_set_ne (by omega), sg_set_ne (by omega), sg_set_ne (by omega), sg_set_same]
    · rw [g2, sg_set_ne (by omega), sg_set_ne (by omega), sg_set_same]
    · rw [g3, sg_set_ne (by omega), sg_set_same]
    · rw [g4, sg_set_same]
    · rw [g5 y q, sg_set_ne (by omega), sg_set_ne (by omega), sg_set_ne (by omega), sg_set_ne (by omega)]
  | succ m ih =>
    intro x M hx g1 g2 g3 g4 g5
    have i1 : sg_in (nI x) 8 = true := sg_in_nI (by omega) (by omega)
    have i2 : sg_in (nI (8 * p + x)) 64 = true := sg_in_nI (by omega) (by omega)
    have cx : (nI x).toNatClampNeg = x := sg_nIc (by omega)
    have cy : (nI (8 * p + x)).toNatClampNeg = 8 * p + x := sg_nIc (by omega)
    have e2 : M 122 = σ 122 := by rw [g5 _ (by omega), hr _ (by omega) (by omega) (by omega)]
    have e3 : M 123 = σ 123 := by rw [g5 _ (by omega), hr _ (by omega) (by omega) (by omega)]
    have e4 : M 124 = σ 124 := by rw [g5 _ (by omega), hr _ (by omega) (by omega) (by omega)]
    have e5 : M 125 = σ 125 := by rw [g5 _ (by omega), hr _ (by omega) (by omega) (by omega)]
    simp (decide := true) only [mq_123_27, mq_123_28, mq_123_30, c8 x (by omega), show x < 8 by omega, if_true]
    simp (decide := true) only [mq_123_33, mq_123_34, mq_123_37, mq_123_38, mq_123_39, mq_123_42, mq_123_44, mq_123_45, mq_123_46, mq_123_47, mq_123_48, mq_123_49, mq_123_50, mq_123_51, mq_123_54, mq_123_55, mq_123_56, mq_123_59, mq_123_61, mq_123_62, mq_123_63, mq_123_64, mq_123_65, mq_123_66, mq_123_67, mq_123_68, mq_123_71, mq_123_72, mq_123_73, mq_123_76, mq_123_78, mq_123_79, mq_123_80, mq_123_81, mq_123_82, mq_123_83, mq_123_84, mq_123_85, mq_123_88, mq_123_89, mq_123_90, mq_123_93, mq_123_95, mq_123_96, mq_123_97, mq_123_98, mq_123_99, mq_123_100, mq_123_101, mq_123_104, Nat.reduceAdd, sg_8q hp (show x < 8 by omega), i1, i2, cx, cy, nI_1]
    refine ih (x + 1) _ (by omega) ?_ ?_ ?_ ?_ (fun y hy => ?_)
    · rw [sg_up_ne (by omega), sg_up_ne (by omega), sg_up_ne (by omega), sg_up_row, g1, e2, fn_cut_s]
    · rw [sg_up_ne (by omega), sg_up_ne (by omega), sg_up_row, sg_up_ne (by omega), sg_up_ne (by omega), g2, e3, fn_cut_s]
    · rw [sg_up_ne (by omega), sg_up_row, sg_up_ne (by omega), sg_up_ne (by omega), sg_up_ne (by omega), sg_up_ne (by omega), g3, e4, fn_cut_s]
    · rw [sg_up_row, sg_up_ne (by omega), sg_up_ne (by omega), sg_up_ne (by omega), sg_up_ne (by omega), sg_up_ne (by omega), sg_up_ne (by omega), g4, e5, fn_cut_s]
    · rw [sg_up_ne (by omega), sg_up_ne (by omega), sg_up_ne (by omega), sg_up_ne (by omega), g5 y hy]
/-- in hand: the piece's glass and number of rings, the rest as sg_mP -/
def sg_tk (σ : sg_M) (p : Nat) : sg_M := sg_set (sg_up σ 120 8 (σ 121 p)) 127 (fn_cut p 8 (σ 122) (σ 127))
def fn_tk (σ : sg_M) (p : Nat) : fn_PS := (σ 126 p, fn_cut p 8 (σ 123) (σ 128), fn_cut p 8 (σ 124) (σ 129), fn_cut p 8 (σ 125) (σ 130))
theorem em_takeUp (σ : sg_M) (p : Nat) (hp : p < 8) : sg_ev 123 σ [sg_r 7 120, sg_i (nI p)] = some (none, sg_mP (sg_tk σ p) 0 (fn_tk σ p) (σ 131)) := by
  have i1 : sg_in (nI p) 8 = true := sg_in_nI (by omega) (by omega)
  have cp : (nI p).toNatClampNeg = p := sg_nIc (by omega)
  have e126 : ∀ v, sg_up σ 120 8 v 126 = σ 126 := fun v => sg_up_ne (by omega)
  simp (decide := true) only [me_123, me_123, mq_123_0, mq_123_1, mq_123_2, mq_123_5, mq_123_6, mq_123_7, mq_123_10, mq_123_11, mq_123_12, mq_123_15, mq_123_16, mq_123_17, mq_123_20, mq_123_21, mq_123_22, mq_123_25, mq_123_26, Nat.reduceAdd, i1, cp, e126]
  generalize hτ : sg_up (sg_up (sg_up σ 120 8 (σ 121 p)) 120 9 (σ 126 p)) 120 10 0 = τ
  have hx : ∀ y, y ≠ 120 → τ y = σ y := fun y hy => by rw [← hτ, sg_up_ne hy, sg_up_ne hy, sg_up_ne hy]
  rw [show (0 : Int32) = nI 0 from rfl, em_take_l σ τ p hp (fun y h1 h2 h3 => hx y (by omega)) 8 0 τ (by omega) (by rw [fn_cut_0]; exact hx _ (by omega)) (by rw [fn_cut_0]; exact hx _ (by omega)) (by rw [fn_cut_0]; exact hx _ (by omega)) (by rw [fn_cut_0]; exact hx _ (by omega)) (fun y _ => rfl)]
  congr 2
  unfold sg_mP fn_tk
  refine mm_ext ?_ ?_ ?_ ?_ ?_ (fun y hy => ?_)
  · rw [sg_set_ne (by omega), sg_set_ne (by omega), sg_set_ne (by omega), sg_set_ne (by omega), ← hτ, sg_up_row, sg_up_row, sg_up_row]
    unfold sg_tk
    rw [sg_set_ne (by omega), sg_up_row]
    rfl
  · rw [sg_set_ne (by omega), sg_set_ne (by omega), sg_set_same]
  · rw [sg_set_ne (by omega), sg_set_same]
  · rw [sg_set_same]
  · rw [sg_set_ne (by omega), sg_set_ne (by omega), sg_set_ne (by omega), sg_set_ne (by omega), hx _ (by omega)]
  · unfold sg_tk
    by_cases h7 : y = 127
    · subst h7
      rw [sg_set_ne (by omega), sg_set_ne (by omega), sg_set_ne (by omega), sg_set_same, sg_set_same]
    · rw [sg_set_ne (by omega), sg_set_ne (by omega), sg_set_ne (by omega), sg_set_ne (by omega), hx _ (by omega), sg_set_ne h7, sg_up_ne (by omega)]
theorem em_lay_l (σ τ : sg_M) (p : Nat) (hp : p < 8) (hr : ∀ y, 122 ≤ y → y ≤ 130 → y ≠ 126 → τ y = σ y) : ∀ m x (M : sg_M), x + m = 8 → M 122 = fn_lay p x (σ 127) (σ 122) → M 123 = fn_lay p x (σ 128) (σ 123) → M 124 = fn_lay p x (σ 129) (σ 124) → M 125 = fn_lay p x (σ 130) (σ 125) → (∀ y, y < 122 ∨ 125 < y → M y = τ y) →
    sg_rv 141 22 M [sg_r 7 120, sg_i (nI p), sg_i (nI x)] [] = some (none, sg_set (sg_set (sg_set (sg_set τ 122 (fn_lay p 8 (σ 127) (σ 122))) 123 (fn_lay p 8 (σ 128) (σ 123))) 124 (fn_lay p 8 (σ 129) (σ 124))) 125 (fn_lay p 8 (σ 130) (σ 125))) := by
  have c8 : ∀ x, x < 2 ^ 31 → ((nI x < 8) = (x < 8)) := fun x hx => by rw [show (8 : Int32) = nI 8 from rfl, eq_iff_iff]; exact nI_ltI hx (by omega)
  intro m
  induction m with
  | zero =>
    intro x M hx g1 g2 g3 g4 g5
    obtain rfl : x = 8 := by omega
    simp (decide := true) only [mq_141_22, mq_141_23, mq_141_25, c8 8 (by omega), show ¬ (8 : Nat) < 8 by omega, if_false, mq_141_102]
    congr 2
    funext y
    rcases (show y = 122 ∨ y = 123 ∨ y = 124 ∨ y = 125 ∨ (y < 122 ∨ 125 < y) by omega) with rfl | rfl | rfl | rfl | q
    · rw [g1, sg_set_ne (by omega), sg_set_ne (by omega), sg_set_ne (by omega), sg_set_same]
    · rw [g2, sg_set_ne (by omega), sg_set_ne (by omega), sg_set_same]
    · rw [g3, sg_set_ne (by omega), sg_set_same]
    · rw [g4, sg_set_same]
    · rw [g5 y q, sg_set_ne (by omega), sg_set_ne (by omega), sg_set_ne (by omega), sg_set_ne (by omega)]
  | succ m ih =>
    intro x M hx g1 g2 g3 g4 g5
    have i1 : sg_in (nI x) 8 = true := sg_in_nI (by omega) (by omega)
    have i2 : sg_in (nI (8 * p + x)) 64 = true := sg_in_nI (by omega) (by omega)
    have cx : (nI x).toNatClampNeg = x := sg_nIc (by omega)
    have cy : (nI (8 * p + x)).toNatClampNeg = 8 * p + x := sg_nIc (by omega)
    have e2 : M 127 = σ 127 := by rw [g5 _ (by omega), hr _ (by omega) (by omega) (by omega)]
    have e3 : M 128 = σ 128 := by rw [g5 _ (by omega), hr _ (by omega) (by omega) (by omega)]
    have e4 : M 129 = σ 129 := by rw [g5 _ (by omega), hr _ (by omega) (by omega) (by omega)]
    have e5 : M 130 = σ 130 := by rw [g5 _ (by omega), hr _ (by omega) (by omega) (by omega)]
    simp (decide := true) only [mq_141_22, mq_141_23, mq_141_25, c8 x (by omega), show x < 8 by omega, if_true]
    simp (decide := true) only [mq_141_28, mq_141_29, mq_141_32, mq_141_34, mq_141_35, mq_141_36, mq_141_37, mq_141_38, mq_141_39, mq_141_42, mq_141_43, mq_141_44, mq_141_45, mq_141_46, mq_141_49, mq_141_51, mq_141_52, mq_141_53, mq_141_54, mq_141_55, mq_141_56, mq_141_59, mq_141_60, mq_141_61, mq_141_62, mq_141_63, mq_141_66, mq_141_68, mq_141_69, mq_141_70, mq_141_71, mq_141_72, mq_141_73, mq_141_76, mq_141_77, mq_141_78, mq_141_79, mq_141_80, mq_141_83, mq_141_85, mq_141_86, mq_141_87, mq_141_88, mq_141_89, mq_141_90, mq_141_93, mq_141_94, mq_141_95, mq_141_96, mq_141_99, Nat.reduceAdd, sg_8q hp (show x < 8 by omega), i1, i2, cx, cy, nI_1]
    refine ih (x + 1) _ (by omega) ?_ ?_ ?_ ?_ (fun y hy => ?_)
    · rw [sg_up_ne (by omega), sg_up_ne (by omega), sg_up_ne (by omega), sg_up_row, g1, e2, fn_lay_s]
    · rw [sg_up_ne (by omega), sg_up_ne (by omega), sg_up_row, sg_up_ne (by omega), sg_up_ne (by omega), g2, e3, fn_lay_s]
    · rw [sg_up_ne (by omega), sg_up_row, sg_up_ne (by omega), sg_up_ne (by omega), sg_up_ne (by omega), sg_up_ne (by omega), g3, e4, fn_lay_s]
    · rw [sg_up_row, sg_up_ne (by omega), sg_up_ne (by omega), sg_up_ne (by omega), sg_up_ne (by omega), sg_up_ne (by omega), sg_up_ne (by omega), g4, e5, fn_lay_s]
    · rw [sg_up_ne (by omega), sg_up_ne (by omega), sg_up_ne (by omega), sg_up_ne (by omega), g5 y hy]
theorem em_layBack (σ : sg_M) (p : Nat) (hp : p < 8) : sg_ev 141 σ [sg_r 7 120, sg_i (nI p)] = some (none, sg_set (sg_set (sg_set (sg_set (sg_up (sg_up σ 121 p (σ 120 8)) 126 p (σ 120 9)) 122 (fn_lay p 8 (σ 127) (σ 122))) 123 (fn_lay p 8 (σ 128) (σ 123))) 124 (fn_lay p 8 (σ 129) (σ 124))) 125 (fn_lay p 8 (σ 130) (σ 125))) := by
  have i1 : sg_in (nI p) 8 = true := sg_in_nI (by omega) (by omega)
  have cp : (nI p).toNatClampNeg = p := sg_nIc (by omega)
  have e120 : ∀ v, sg_up σ 121 p v 120 = σ 120 := fun v => sg_up_ne (by omega)
  simp (decide := true) only [me_141, me_141, mq_141_0, mq_141_1, mq_141_4, mq_141_5, mq_141_6, mq_141_9, mq_141_10, mq_141_11, mq_141_14, mq_141_15, mq_141_16, mq_141_19, mq_141_20, mq_141_21, Nat.reduceAdd, i1, cp, e120]
  generalize hτ : sg_up (sg_up σ 121 p (σ 120 8)) 126 p (σ 120 9) = τ
  have hx : ∀ y, y ≠ 121 → y ≠ 126 → τ y = σ y := fun y h1 h2 => by rw [← hτ, sg_up_ne h2, sg_up_ne h1]
  rw [show (0 : Int32) = nI 0 from rfl]
  exact em_lay_l σ τ p hp (fun y h1 h2 h3 => hx y (by omega) h3) 8 0 τ (by omega) (by rw [fn_lay_0]; exact hx _ (by omega) (by omega)) (by rw [fn_lay_0]; exact hx _ (by omega) (by omega)) (by rw [fn_lay_0]; exact hx _ (by omega) (by omega)) (by rw [fn_lay_0]; exact hx _ (by omega) (by omega)) (fun y _ => rfl)
