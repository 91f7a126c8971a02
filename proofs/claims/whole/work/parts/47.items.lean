/-! ITEMS -/
def fn_jack (n v : Nat) (P : fn_PS) : fn_PS := if v < n ∧ ¬ 40 < P.1 then (P.1, upd P.2.1 v (if 1 < P.2.1 v - fn_soft (P.2.2.1 v) then P.2.1 v - fn_soft (P.2.2.1 v) else 1), P.2.2.1, P.2.2.2) else P
/-- does an item look on: letter, number -/
def fn_lk (n L v : Nat) (P : fn_PS) : Bool := if L = 4 then decide (nI v < fn_gs P.2.2.1 n) else if L = 5 then decide (fn_gs P.2.2.1 n < nI v) else true
def fn_kd (L : Nat) : Int32 := if L < 4 then nI L else if L = 4 then 1 else if L = 5 then 3 else 0
def fn_item (on : Int32) (n : Nat) (g : Nat → Int32) (L v : Nat) (P : fn_PS) : Nat × fn_PS :=
  if L = 6 then (0, fn_jack n v P) else fn_wh (fun P => fn_nf P && fn_lk n L v P) (fn_step on n g (fn_kd L)) (if L = 4 ∨ L = 5 then 99 else v) P
theorem pP_row (σ : sg_M) (c : Nat) (P : fn_PS) (w : Nat → Int32) {x : Nat} (hx : c + 6 ≤ x) : sg_pP σ c P w x = σ x := by
  unfold sg_pP; exact pm_ne (by omega)
theorem pP_1 (σ : sg_M) (c : Nat) (P : fn_PS) (w : Nat → Int32) : sg_pP σ c P w (c + 1) = σ (c + 1) := by unfold sg_pP; rw [pm_1]
theorem pP_2 (σ : sg_M) (c : Nat) (P : fn_PS) (w : Nat → Int32) : sg_pP σ c P w (c + 2) = P.2.1 := by unfold sg_pP; rw [pm_2]
theorem pP_3 (σ : sg_M) (c : Nat) (P : fn_PS) (w : Nat → Int32) : sg_pP σ c P w (c + 3) = P.2.2.1 := by unfold sg_pP; rw [pm_3]
theorem pP_4 (σ : sg_M) (c : Nat) (P : fn_PS) (w : Nat → Int32) : sg_pP σ c P w (c + 4) = P.2.2.2 := by unfold sg_pP; rw [pm_4]
theorem pP_5 (σ : sg_M) (c : Nat) (P : fn_PS) (w : Nat → Int32) : sg_pP σ c P w (c + 5) = w := by unfold sg_pP; rw [pm_5]
theorem sg_hasRing {n v : Nat} (h8 : n ≤ 8) (hv : v < 2 ^ 31) : (0 ≤ nI v ∧ nI v ≤ nI n - 1) = (v < n) := by
  rw [eq_iff_iff, Int32.le_iff_toInt_le, Int32.le_iff_toInt_le, sg_t0, sg_sub_toInt (by rw [nI_toInt (by omega)]; omega) (by rw [nI_toInt (by omega)]; omega) (by decide) (by decide), nI_toInt hv, nI_toInt (by omega), sg_t1]
  omega
theorem ev_jack (σ : sg_M) (c n v : Nat) (P : fn_PS) (w : Nat → Int32) (h8 : n ≤ 8) (hn : σ c 6 = nI n) (hv : v < 2 ^ 31) : sg_ev 48 (sg_pP σ c P w) [sg_r 2 c, sg_i (nI v)] = some (none, sg_pP σ c (fn_jack n v P) w) := by
  have e6 : sg_pP σ c P w c 6 = nI n := by rw [pP_c _ _ _ _ (by omega)]; exact hn
  have hr : (0 ≤ nI v ∧ nI v ≤ sg_pP σ c P w c 6 - 1) = (v < n) := by rw [e6]; exact sg_hasRing h8 hv
  unfold fn_jack
  by_cases h1 : v < n
  · have i1 : sg_in (nI v) 8 = true := sg_in_nI (by omega) (by omega)
    by_cases h2 : 40 < P.1
    · simp (decide := true) only [me_48, mq_48_0, mq_48_1, mq_48_2, mq_48_5, mq_48_8, mq_48_9, mq_48_12, mq_48_15, mq_48_16, mq_48_19, mq_48_20, mq_48_21, mq_48_22, mq_48_25, mq_48_26, mq_48_27, mq_48_28, mq_48_31, mq_48_32, mq_48_33, mq_48_36, mq_48_37, mq_48_40, mq_48_41, ev_hasRing, ev_hasFallen, hr, sg_bi_i, sg_bz, pP_c7, h1, h2, not_true_eq_false, not_false_eq_true, and_false, if_true, if_false]
    · simp (decide := true) only [me_48, mq_48_0, mq_48_1, mq_48_2, mq_48_5, mq_48_8, mq_48_9, mq_48_12, mq_48_15, mq_48_16, mq_48_19, mq_48_20, mq_48_21, mq_48_22, mq_48_25, mq_48_26, mq_48_27, mq_48_28, mq_48_31, mq_48_32, mq_48_33, mq_48_36, mq_48_37, mq_48_40, mq_48_41, ev_hasRing, ev_hasFallen, ev_softAt, hr, sg_bi_i, sg_bz, pP_c7, pP_2, pP_3, i1, sg_nIc (show v < 2 ^ 31 by omega), h1, h2, not_true_eq_false, not_false_eq_true, and_self, if_true, if_false]
      congr 2
      unfold sg_pP
      refine pm_ext ?_ ?_ ?_ ?_ ?_ (fun x hx => ?_)
      · rw [sg_up_ne (by omega), pm_c]
      · rw [sg_up_row, pm_2]
      · rw [sg_up_ne (by omega), pm_3]
      · rw [sg_up_ne (by omega), pm_4]
      · rw [sg_up_ne (by omega), pm_5]
      · rw [sg_up_ne (by omega), pm_ne hx]
  · simp (decide := true) only [me_48, mq_48_0, mq_48_1, mq_48_2, mq_48_5, mq_48_8, mq_48_9, mq_48_12, mq_48_15, mq_48_16, mq_48_19, mq_48_20, mq_48_21, mq_48_22, mq_48_25, mq_48_26, mq_48_27, mq_48_28, mq_48_31, mq_48_32, mq_48_33, mq_48_36, mq_48_37, mq_48_40, mq_48_41, ev_hasRing, hr, sg_bi_i, sg_bz, h1, not_false_eq_true, false_and, if_true, if_false]
theorem ro_kinds (σ : sg_M) {L : Nat} (h : L < 7) : sg_roV 4 σ L = fn_kd L := by
  rcases (show L = 0 ∨ L = 1 ∨ L = 2 ∨ L = 3 ∨ L = 4 ∨ L = 5 ∨ L = 6 by omega) with rfl | rfl | rfl | rfl | rfl | rfl | rfl <;> rfl
theorem ev_kindOf (σ : sg_M) (q k L : Nat) (hk : k < 8) (hL : L < 7) (h : σ (q + 1) k = nI L) : sg_ev 50 σ [sg_r 3 q, sg_i (nI k)] = some (some (sg_i (fn_kd L)), σ) := by
  have i1 : sg_in (nI k) 8 = true := sg_in_nI (by omega) (by omega)
  have i2 : sg_in (nI L) 7 = true := sg_in_nI (by omega) (by omega)
  simp (decide := true) only [me_50, mq_50_0, mq_50_3, mq_50_4, mq_50_7, mq_50_8, mq_50_9, mq_50_10, i1, sg_nIc (show k < 2 ^ 31 by omega), h, i2, sg_nIc (show L < 2 ^ 31 by omega), ro_kinds σ hL]
theorem ev_goesOn (σ : sg_M) (c q n k L v : Nat) (P : fn_PS) (w : Nat → Int32) (h1 : 1 ≤ n) (h8 : n ≤ 8) (hn : σ c 6 = nI n) (hq : c + 6 ≤ q) (hk : k < 8) (hL : L < 7) (hl : σ (q + 1) k = nI L) (hv : σ (q + 2) k = nI v) : sg_ev 49 (sg_pP σ c P w) [sg_r 3 q, sg_r 2 c, sg_i (nI k)] = some (some (sg_i (if fn_lk n L v P = true then 1 else 0)), sg_pP σ c P w) := by
  have i1 : sg_in (nI k) 8 = true := sg_in_nI (by omega) (by omega)
  have e1 : sg_pP σ c P w (q + 1) = σ (q + 1) := pP_row _ _ _ _ (by omega)
  have e2 : sg_pP σ c P w (q + 2) = σ (q + 2) := pP_row _ _ _ _ (by omega)
  have hgs := ev_gs (sg_pP σ c P w) c n h1 h8 (by rw [pP_c _ _ _ _ (by omega)]; exact hn)
  rw [pP_3] at hgs
  simp only [me_49, mq_49_0, mq_49_1, mq_49_4, mq_49_5, i1, sg_nIc (show k < 2 ^ 31 by omega), e1, hl]
  unfold fn_lk
  by_cases l4 : L = 4
  · subst l4
    rw [show nI 4 = (4 : Int32) from rfl]
    by_cases hc : nI v < fn_gs P.2.2.1 n <;> simp (decide := true) only [mq_49_6_4, mq_49_6_5, mq_49_6_d, mq_49_32, mq_49_33, mq_49_36, mq_49_37, mq_49_40, mq_49_41, mq_49_42, mq_49_45, mq_49_46, mq_49_49, mq_49_50, mq_49_51, mq_49_52, mq_49_55, mq_49_56, mq_49_59, mq_49_60, mq_49_61, mq_49_64, mq_49_65, mq_49_68, mq_49_69, mq_49_70, mq_49_71, hgs, sg_bi_i, i1, sg_nIc (show k < 2 ^ 31 by omega), e2, hv, hc, decide_true, decide_false, sg_b_0, sg_b_1, if_true, if_false]
  · by_cases l5 : L = 5
    · subst l5
      rw [show nI 5 = (5 : Int32) from rfl]
      by_cases hc : fn_gs P.2.2.1 n < nI v <;> simp (decide := true) only [mq_49_6_4, mq_49_6_5, mq_49_6_d, mq_49_32, mq_49_33, mq_49_36, mq_49_37, mq_49_40, mq_49_41, mq_49_42, mq_49_45, mq_49_46, mq_49_49, mq_49_50, mq_49_51, mq_49_52, mq_49_55, mq_49_56, mq_49_59, mq_49_60, mq_49_61, mq_49_64, mq_49_65, mq_49_68, mq_49_69, mq_49_70, mq_49_71, hgs, sg_bi_i, i1, sg_nIc (show k < 2 ^ 31 by omega), e2, hv, hc, decide_true, decide_false, sg_b_0, sg_b_1, if_true, if_false]
    · have n4 : ¬ nI L = 4 := by rw [show (4 : Int32) = nI 4 from rfl, nI_eq (by omega) (by omega)]; exact l4
      have n5 : ¬ nI L = 5 := by rw [show (5 : Int32) = nI 5 from rfl, nI_eq (by omega) (by omega)]; exact l5
      simp (decide := true) only [mq_49_6_d _ _ _ _ n4 n5, mq_49_70, mq_49_71, l4, l5, sg_b_1, if_true, if_false]
theorem ev_item_l (σ : sg_M) (c q n k L v M : Nat) (by0 : Int32) (h1 : 1 ≤ n) (h8 : n ≤ 8) (hn : σ c 6 = nI n) (hq : c + 6 ≤ q) (hk : k < 8) (hL : L < 7) (hl : σ (q + 1) k = nI L) (hv : σ (q + 2) k = nI v) (hM : M < 2 ^ 31) : ∀ m t (P : fn_PS) (w : Nat → Int32), t + m = M → iv_ps (σ (c + 1)) n P → ∃ w', sg_rv 47 69 (sg_pP σ c P w) [sg_r 3 q, sg_r 2 c, sg_i (nI k), sg_i by0, sg_i (nI M), sg_i (nI t)] [] = some (some (sg_i (nI (t + (fn_wh (fun P => fn_nf P && fn_lk n L v P) (fn_step (σ c 0) n (σ (c + 1)) (fn_kd L)) m P).1))), sg_pP σ c (fn_wh (fun P => fn_nf P && fn_lk n L v P) (fn_step (σ c 0) n (σ (c + 1)) (fn_kd L)) m P).2 w') := by
  intro m
  induction m with
  | zero =>
    intro t P w ht hi
    refine ⟨w, ?_⟩
    simp only [mq_47_69, mq_47_71, mq_47_73, nI_ltI (show t < 2 ^ 31 by omega) hM, show ¬ t < M by omega, if_false, mq_47_107, mq_47_109, fn_wh, Nat.add_zero]
  | succ m ih =>
    intro t P w ht hi
    simp only [mq_47_69, mq_47_71, mq_47_73, nI_ltI (show t < 2 ^ 31 by omega) hM, show t < M by omega, if_true]
    by_cases hf : 40 < P.1
    · refine ⟨w, ?_⟩
      have hc : fn_nf P = false := by simp [fn_nf, hf]
      simp only [mq_47_76, mq_47_77, mq_47_80, ev_hasFallen, sg_bi_i, sg_bz, pP_c7, hf, not_true_eq_false, if_false, mq_47_107, mq_47_109, fn_wh, hc, Bool.false_and, Bool.false_eq_true, Nat.add_zero]
    · have hc : fn_nf P = true := by simp [fn_nf, hf]
      have hgo := ev_goesOn σ c q n k L v P w h1 h8 hn hq hk hL hl hv
      by_cases hlk : fn_lk n L v P = true
      · have hkd := ev_kindOf (sg_pP σ c P w) q k L hk hL (by rw [pP_row _ _ _ _ (by omega)]; exact hl)
        obtain ⟨w1, hs⟩ := ev_step σ c n (fn_kd L) P w h1 h8 hn hi
        obtain ⟨w2, ih⟩ := ih (t + 1) (fn_step (σ c 0) n (σ (c + 1)) (fn_kd L) P) w1 (by omega) (step_iv h1 hi)
        refine ⟨w2, ?_⟩
        simp (decide := true) only [mq_47_76, mq_47_77, mq_47_80, mq_47_83, mq_47_84, mq_47_85, mq_47_86, mq_47_89, mq_47_92, mq_47_93, mq_47_94, mq_47_95, mq_47_98, mq_47_101, mq_47_104, ev_hasFallen, sg_bi_i, sg_bi_n, sg_bz, pP_c7, hf, hgo, hlk, hkd, hs, not_false_eq_true, not_true_eq_false, if_true, if_false, nI_1, fn_wh, hc, Bool.and_self]
        rw [ih, show t + 1 + (fn_wh (fun P => fn_nf P && fn_lk n L v P) (fn_step (σ c 0) n (σ (c + 1)) (fn_kd L)) m (fn_step (σ c 0) n (σ (c + 1)) (fn_kd L) P)).1 = t + ((fn_wh (fun P => fn_nf P && fn_lk n L v P) (fn_step (σ c 0) n (σ (c + 1)) (fn_kd L)) m (fn_step (σ c 0) n (σ (c + 1)) (fn_kd L) P)).1 + 1) by omega]
      · refine ⟨w, ?_⟩
        simp (decide := true) only [mq_47_76, mq_47_77, mq_47_80, mq_47_83, mq_47_84, mq_47_85, mq_47_86, mq_47_89, ev_hasFallen, sg_bi_i, sg_bz, pP_c7, hf, hgo, hlk, not_false_eq_true, not_true_eq_false, if_true, if_false, mq_47_107, mq_47_109, fn_wh, hc, Bool.true_and, Nat.add_zero]
theorem ev_item (σ : sg_M) (c q n k L v : Nat) (P : fn_PS) (w : Nat → Int32) (h1 : 1 ≤ n) (h8 : n ≤ 8) (hn : σ c 6 = nI n) (hq : c + 6 ≤ q) (hk : k < 8) (hL : L < 7) (hl : σ (q + 1) k = nI L) (hv : σ (q + 2) k = nI v) (hvb : v < 2 ^ 31) (hi : iv_ps (σ (c + 1)) n P) : ∃ w', sg_ev 47 (sg_pP σ c P w) [sg_r 3 q, sg_r 2 c, sg_i (nI k)] = some (some (sg_i (nI (fn_item (σ c 0) n (σ (c + 1)) L v P).1)), sg_pP σ c (fn_item (σ c 0) n (σ (c + 1)) L v P).2 w') := by
  have i1 : sg_in (nI k) 8 = true := sg_in_nI (by omega) (by omega)
  have e1 : sg_pP σ c P w (q + 1) = σ (q + 1) := pP_row _ _ _ _ (by omega)
  have e2 : sg_pP σ c P w (q + 2) = σ (q + 2) := pP_row _ _ _ _ (by omega)
  have n6 : (nI L = 6) = (L = 6) := by rw [show (6 : Int32) = nI 6 from rfl, eq_iff_iff]; exact nI_eq (by omega) (by omega)
  have n4 : (nI L = 4) = (L = 4) := by rw [show (4 : Int32) = nI 4 from rfl, eq_iff_iff]; exact nI_eq (by omega) (by omega)
  have n5 : (nI L = 5) = (L = 5) := by rw [show (5 : Int32) = nI 5 from rfl, eq_iff_iff]; exact nI_eq (by omega) (by omega)
  unfold fn_item
  by_cases l6 : L = 6
  · refine ⟨w, ?_⟩
    simp (decide := true) only [me_47, mq_47_0, mq_47_1, mq_47_4, mq_47_5, mq_47_6, mq_47_8, mq_47_11, mq_47_12, mq_47_13, mq_47_16, mq_47_17, mq_47_18, mq_47_21, mq_47_22, i1, sg_nIc (show k < 2 ^ 31 by omega), e1, e2, hl, hv, n6, l6, if_true, ev_jack σ c n v P w h8 hn hvb, sg_bi_n]
    rfl
  · by_cases hby : L = 4 ∨ L = 5
    · obtain ⟨w', h⟩ := ev_item_l σ c q n k L v 99 1 h1 h8 hn hq hk hL hl hv (by omega) 99 0 P w (by omega) hi
      refine ⟨w', ?_⟩
      rw [if_neg l6, if_pos hby]
      rw [Nat.zero_add] at h
      rw [← h]
      rcases hby with l4 | l5
      · simp (decide := true) only [me_47, mq_47_0, mq_47_1, mq_47_4, mq_47_5, mq_47_6, mq_47_8, mq_47_11, mq_47_12, mq_47_13, mq_47_16, mq_47_17, mq_47_18, mq_47_21, mq_47_22, mq_47_23, mq_47_24, mq_47_27, mq_47_28, mq_47_29, mq_47_30, mq_47_33, mq_47_34, mq_47_37, mq_47_38, mq_47_39, mq_47_40, mq_47_43, mq_47_44, mq_47_47, mq_47_48, mq_47_49, mq_47_50, mq_47_53, mq_47_55, mq_47_58, mq_47_59, mq_47_62, mq_47_63, mq_47_64, mq_47_66, mq_47_67, i1, sg_nIc (show k < 2 ^ 31 by omega), e1, e2, hl, n6, l6, n4, l4, if_true, if_false]
        rfl
      · have l4 : ¬ L = 4 := by omega
        simp (decide := true) only [me_47, mq_47_0, mq_47_1, mq_47_4, mq_47_5, mq_47_6, mq_47_8, mq_47_11, mq_47_12, mq_47_13, mq_47_16, mq_47_17, mq_47_18, mq_47_21, mq_47_22, mq_47_23, mq_47_24, mq_47_27, mq_47_28, mq_47_29, mq_47_30, mq_47_33, mq_47_34, mq_47_37, mq_47_38, mq_47_39, mq_47_40, mq_47_43, mq_47_44, mq_47_47, mq_47_48, mq_47_49, mq_47_50, mq_47_53, mq_47_55, mq_47_58, mq_47_59, mq_47_62, mq_47_63, mq_47_64, mq_47_66, mq_47_67, i1, sg_nIc (show k < 2 ^ 31 by omega), e1, e2, hl, n6, l6, n4, l4, n5, l5, if_true, if_false]
        rfl
    · obtain ⟨w', h⟩ := ev_item_l σ c q n k L v v 0 h1 h8 hn hq hk hL hl hv hvb v 0 P w (by omega) hi
      refine ⟨w', ?_⟩
      rw [if_neg l6, if_neg hby]
      rw [Nat.zero_add] at h
      rw [← h]
      obtain ⟨l4, l5⟩ := not_or.mp hby
      simp (decide := true) only [me_47, mq_47_0, mq_47_1, mq_47_4, mq_47_5, mq_47_6, mq_47_8, mq_47_11, mq_47_12, mq_47_13, mq_47_16, mq_47_17, mq_47_18, mq_47_21, mq_47_22, mq_47_23, mq_47_24, mq_47_27, mq_47_28, mq_47_29, mq_47_30, mq_47_33, mq_47_34, mq_47_37, mq_47_38, mq_47_39, mq_47_40, mq_47_43, mq_47_44, mq_47_47, mq_47_48, mq_47_49, mq_47_50, mq_47_53, mq_47_55, mq_47_58, mq_47_59, mq_47_62, mq_47_63, mq_47_64, mq_47_66, mq_47_67, i1, sg_nIc (show k < 2 ^ 31 by omega), e1, e2, hl, hv, n6, l6, n4, l4, n5, l5, if_true, if_false]
      rfl
