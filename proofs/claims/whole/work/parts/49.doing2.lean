theorem ev_do_l (σ : sg_M) (c q n M d : Nat) (late D : Int32) (lt nu : Nat → Nat) (h1 : 1 ≤ n) (h8 : n ≤ 8) (hn : σ c 6 = nI n) (hq : c + 6 ≤ q) (hM : M ≤ 8) (hm : σ q 2 = nI M) (hd : d < 2 ^ 31) (hD : ∀ k, k < M → nI k = late → D = nI d) (hit : ∀ k, k < M → lt k < 7 ∧ nu k < 2 ^ 31 ∧ σ (q + 1) k = nI (lt k) ∧ σ (q + 2) k = nI (nu k)) : ∀ m k (T : Nat) (P : fn_PS) (w : Nat → Int32), k + m = M → iv_ps (σ (c + 1)) n P → ∃ w', sg_rv 46 6 (sg_pP σ c P w) [sg_r 3 q, sg_r 2 c, sg_i late, sg_i D, sg_i (nI T), sg_i (nI k)] [] = some (some (sg_i (nI (T + (fn_do (σ c 0) n (σ (c + 1)) lt nu late d m k P).1))), sg_pP σ c (fn_do (σ c 0) n (σ (c + 1)) lt nu late d m k P).2 w') := by
  intro m
  induction m with
  | zero =>
    intro k T P w hk hi
    refine ⟨w, ?_⟩
    have e2 : sg_pP σ c P w q = σ q := pP_row _ _ _ _ hq
    simp only [mq_46_6, mq_46_8, mq_46_9, mq_46_12, e2, hm, nI_ltI (show k < 2 ^ 31 by omega) (show M < 2 ^ 31 by omega), show ¬ k < M by omega, if_false, mq_46_50, mq_46_52, fn_do, Nat.add_zero]
  | succ m ih =>
    intro k T P w hk hi
    have e2 : sg_pP σ c P w q = σ q := pP_row _ _ _ _ hq
    obtain ⟨i1, i2, i3, i4⟩ := hit k (by omega)
    have item : ∀ (T2 : Nat) (P2 : fn_PS) (w2 : Nat → Int32), iv_ps (σ (c + 1)) n P2 → ∃ w', sg_rv 46 32 (sg_pP σ c P2 w2) [sg_r 3 q, sg_r 2 c, sg_i late, sg_i D, sg_i (nI T2), sg_i (nI k)] [] = some (some (sg_i (nI (T2 + (fn_item (σ c 0) n (σ (c + 1)) (lt k) (nu k) P2).1 + (fn_do (σ c 0) n (σ (c + 1)) lt nu late d m (k + 1) (fn_item (σ c 0) n (σ (c + 1)) (lt k) (nu k) P2).2).1))), sg_pP σ c (fn_do (σ c 0) n (σ (c + 1)) lt nu late d m (k + 1) (fn_item (σ c 0) n (σ (c + 1)) (lt k) (nu k) P2).2).2 w') := by
      intro T2 P2 w2 hi2
      obtain ⟨w3, h3⟩ := ev_item σ c q n k (lt k) (nu k) P2 w2 h1 h8 hn hq (by omega) i1 i3 i4 i2 hi2
      obtain ⟨w4, h4⟩ := ih (k + 1) (T2 + (fn_item (σ c 0) n (σ (c + 1)) (lt k) (nu k) P2).1) _ w3 (by omega) (item_iv (L := lt k) (v := nu k) (on := σ c 0) h1 hi2)
      refine ⟨w4, ?_⟩
      simp only [mq_46_32, mq_46_34, mq_46_35, mq_46_36, mq_46_38, mq_46_41, mq_46_42, mq_46_44, mq_46_47, h3, sg_bi_i, nI_add, nI_1]
      exact h4
    simp only [mq_46_6, mq_46_8, mq_46_9, mq_46_12, e2, hm, nI_ltI (show k < 2 ^ 31 by omega) (show M < 2 ^ 31 by omega), show k < M by omega, if_true]
    by_cases hl : nI k = late
    · obtain ⟨w1, hg⟩ := ev_goTenths σ c n d 0 P w h1 h8 hn hd hi
      obtain ⟨w2, h2⟩ := item (T + (fn_wh fn_nf (fn_step (σ c 0) n (σ (c + 1)) 0) d P).1) _ w1 (wh_iv (fun P hP => step_iv h1 hP) d P hi)
      refine ⟨w2, ?_⟩
      have hDd := hD k (by omega) hl
      subst hDd
      simp only [mq_46_15, mq_46_17, mq_46_18, mq_46_21, mq_46_23, mq_46_24, mq_46_25, mq_46_26, mq_46_29, mq_46_30, hl, if_true, hg, sg_bi_i, nI_add, fn_do]
      rw [← hl] at h2 ⊢
      rw [h2]
      simp only [Nat.add_assoc, Nat.zero_add]
    · obtain ⟨w2, h2⟩ := item T P w hi
      refine ⟨w2, ?_⟩
      simp only [mq_46_15, mq_46_17, mq_46_18, hl, if_false, fn_do, fn_wh]
      rw [h2]
      simp only [Nat.add_assoc, Nat.zero_add]
theorem ev_doOnD (σ : sg_M) (c q n M d : Nat) (late D : Int32) (lt nu : Nat → Nat) (P : fn_PS) (w : Nat → Int32) (h1 : 1 ≤ n) (h8 : n ≤ 8) (hn : σ c 6 = nI n) (hq : c + 6 ≤ q) (hM : M ≤ 8) (hm : σ q 2 = nI M) (hd : d < 2 ^ 31) (hD : ∀ k, k < M → nI k = late → D = nI d) (hit : ∀ k, k < M → lt k < 7 ∧ nu k < 2 ^ 31 ∧ σ (q + 1) k = nI (lt k) ∧ σ (q + 2) k = nI (nu k)) (hi : iv_ps (σ (c + 1)) n P) : ∃ w', sg_ev 46 (sg_pP σ c P w) [sg_r 3 q, sg_r 2 c, sg_i late, sg_i D] = some (some (sg_i (nI (fn_do (σ c 0) n (σ (c + 1)) lt nu late d M 0 P).1)), sg_pP σ c (fn_do (σ c 0) n (σ (c + 1)) lt nu late d M 0 P).2 w') := by
  obtain ⟨w', h⟩ := ev_do_l σ c q n M d late D lt nu h1 h8 hn hq hM hm hd hD hit M 0 0 P w (by omega) hi
  refine ⟨w', ?_⟩
  rw [Nat.zero_add] at h
  rw [← h]
  simp only [me_46, me_46, mq_46_0, mq_46_1, mq_46_3, mq_46_4]
  rfl
theorem ev_doOn (σ : sg_M) (c q n M d : Nat) (late : Int32) (lt nu : Nat → Nat) (P : fn_PS) (w : Nat → Int32) (h1 : 1 ≤ n) (h8 : n ≤ 8) (hn : σ c 6 = nI n) (hq : c + 6 ≤ q) (hM : M ≤ 8) (hm : σ q 2 = nI M) (hd : d < 2 ^ 31) (hit : ∀ k, k < M → lt k < 7 ∧ nu k < 2 ^ 31 ∧ σ (q + 1) k = nI (lt k) ∧ σ (q + 2) k = nI (nu k)) (hi : iv_ps (σ (c + 1)) n P) : ∃ w', sg_ev 46 (sg_pP σ c P w) [sg_r 3 q, sg_r 2 c, sg_i late, sg_i (nI d)] = some (some (sg_i (nI (fn_do (σ c 0) n (σ (c + 1)) lt nu late d M 0 P).1)), sg_pP σ c (fn_do (σ c 0) n (σ (c + 1)) lt nu late d M 0 P).2 w') :=
  ev_doOnD σ c q n M d late (nI d) lt nu P w h1 h8 hn hq hM hm hd (fun _ _ _ => rfl) hit hi
theorem sg_8q {q k : Nat} (hq : q < 8) (hk : k < 8) : (8 : Int32) * nI q + nI k = nI (8 * q + k) := by
  rw [show (8 : Int32) = nI 8 from rfl, pk_mul, nI_add]
theorem em_do_l (σ : sg_M) (q n M d : Nat) (late D : Int32) (lt nu : Nat → Nat) (h1 : 1 ≤ n) (h8 : n ≤ 8) (hn : σ 120 8 = nI n) (hq : q < 6) (hM : M ≤ 8) (hm : σ 132 q = nI M) (hd : d < 2 ^ 31) (hD : ∀ k, k < M → nI k = late → D = nI d) (hit : ∀ k, k < M → lt k < 7 ∧ nu k < 2 ^ 31 ∧ σ 133 (8 * q + k) = nI (lt k) ∧ σ 134 (8 * q + k) = nI (nu k)) : ∀ m k (T : Int32) (P : fn_PS) (w : Nat → Int32), k + m = M → iv_ps (σ 127) n P → ∃ w', sg_rv 149 3 (sg_mP σ T P w) [sg_r 7 120, sg_i (nI q), sg_i late, sg_i D, sg_i (nI k)] [] = some (none, sg_mP σ (T + nI (fn_do 1 n (σ 127) lt nu late d m k P).1) (fn_do 1 n (σ 127) lt nu late d m k P).2 w') := by
  have j1 : sg_in (nI q) 6 = true := sg_in_nI hq (by omega)
  have cq : (nI q).toNatClampNeg = q := sg_nIc (by omega)
  have hrow : ∀ T (P : fn_PS) w x, 131 < x → sg_mP σ T P w x = σ x := fun T P w x hx => by unfold sg_mP; exact mm_ne (by omega)
  intro m
  induction m with
  | zero =>
    intro k T P w hk hi
    refine ⟨w, ?_⟩
    simp only [mq_149_3, mq_149_5, mq_149_6, mq_149_9, mq_149_10, mq_149_11, Nat.reduceAdd, j1, cq, hrow T P w 132 (by omega), hm, nI_ltI (show k < 2 ^ 31 by omega) (show M < 2 ^ 31 by omega), show ¬ k < M by omega, if_false, mq_149_64, fn_do]
    rw [nI_0, Int32.add_zero]
  | succ m ih =>
    intro k T P w hk hi
    obtain ⟨i1, i2, i3, i4⟩ := hit k (by omega)
    have j2 : sg_in (nI (8 * q + k)) 48 = true := sg_in_nI (by omega) (by omega)
    have ck : (nI (8 * q + k)).toNatClampNeg = 8 * q + k := sg_nIc (by omega)
    have rest : ∀ (N : Nat), N < 2 ^ 31 → N = (if nI k = late then d else 0) → ∃ w', sg_rv 149 27 (sg_mP σ T P w) [sg_r 7 120, sg_i (nI q), sg_i late, sg_i D, sg_i (nI k)] [sg_i (nI N), sg_i 0, sg_r 7 120] = some (none, sg_mP σ (T + nI (fn_do 1 n (σ 127) lt nu late d (m + 1) k P).1) (fn_do 1 n (σ 127) lt nu late d (m + 1) k P).2 w') := by
      intro N hN eN
      obtain ⟨w1, hg⟩ := em_goTenths σ n N 0 T P w h1 h8 hn hN hi
      have hi2 : iv_ps (σ 127) n (fn_wh fn_nf (fn_step 1 n (σ 127) 0) N P).2 := wh_iv (fun P hP => step_iv h1 hP) N P hi
      obtain ⟨w2, h2⟩ := em_item σ n (lt k) (nu k) (T + nI (fn_wh fn_nf (fn_step 1 n (σ 127) 0) N P).1) _ w1 h1 h8 hn i1 i2 hi2
      obtain ⟨w3, h3⟩ := ih (k + 1) (T + nI (fn_wh fn_nf (fn_step 1 n (σ 127) 0) N P).1 + nI (fn_item 1 n (σ 127) (lt k) (nu k) (fn_wh fn_nf (fn_step 1 n (σ 127) 0) N P).2).1) _ w2 (by omega) (item_iv (L := lt k) (v := nu k) (on := 1) h1 hi2)
      refine ⟨w3, ?_⟩
      simp only [mq_149_27, mq_149_30, mq_149_31, mq_149_32, mq_149_35, mq_149_37, mq_149_38, mq_149_39, mq_149_41, mq_149_42, mq_149_43, mq_149_44, mq_149_47, mq_149_49, mq_149_50, mq_149_51, mq_149_53, mq_149_54, mq_149_55, mq_149_58, mq_149_61, Nat.reduceAdd, hg, sg_bi_n, sg_8q (show q < 8 by omega) (show k < 8 by omega), j2, ck, hrow _ _ _ 133 (by omega), hrow _ _ _ 134 (by omega), i3, i4, h2, nI_1]
      rw [h3]
      simp only [fn_do, ← eN]
      congr 3
      rw [Int32.add_assoc, Int32.add_assoc, nI_add, nI_add, Nat.add_assoc]
    simp only [mq_149_3, mq_149_5, mq_149_6, mq_149_9, mq_149_10, mq_149_11, Nat.reduceAdd, j1, cq, hrow T P w 132 (by omega), hm, nI_ltI (show k < 2 ^ 31 by omega) (show M < 2 ^ 31 by omega), show k < M by omega, if_true]
    by_cases hl : nI k = late
    · obtain ⟨w', h⟩ := rest d hd (by rw [if_pos hl])
      refine ⟨w', ?_⟩
      rw [← h]
      simp only [mq_149_14, mq_149_15, mq_149_16, mq_149_18, mq_149_19, mq_149_22, mq_149_23, mq_149_26, hl, if_true, hD k (by omega) hl]
    · obtain ⟨w', h⟩ := rest 0 (by omega) (by rw [if_neg hl])
      refine ⟨w', ?_⟩
      rw [← h]
      simp only [mq_149_14, mq_149_15, mq_149_16, mq_149_18, mq_149_19, mq_149_22, mq_149_23, mq_149_26, hl, if_false]
      rfl
theorem em_doRecipeD (σ : sg_M) (q n M d : Nat) (late D T : Int32) (lt nu : Nat → Nat) (P : fn_PS) (w : Nat → Int32) (h1 : 1 ≤ n) (h8 : n ≤ 8) (hn : σ 120 8 = nI n) (hq : q < 6) (hM : M ≤ 8) (hm : σ 132 q = nI M) (hd : d < 2 ^ 31) (hD : ∀ k, k < M → nI k = late → D = nI d) (hit : ∀ k, k < M → lt k < 7 ∧ nu k < 2 ^ 31 ∧ σ 133 (8 * q + k) = nI (lt k) ∧ σ 134 (8 * q + k) = nI (nu k)) (hi : iv_ps (σ 127) n P) : ∃ w', sg_ev 149 (sg_mP σ T P w) [sg_r 7 120, sg_i (nI q), sg_i late, sg_i D] = some (none, sg_mP σ (T + nI (fn_do 1 n (σ 127) lt nu late d M 0 P).1) (fn_do 1 n (σ 127) lt nu late d M 0 P).2 w') := by
  obtain ⟨w', h⟩ := em_do_l σ q n M d late D lt nu h1 h8 hn hq hM hm hd hD hit M 0 T P w (by omega) hi
  refine ⟨w', ?_⟩
  rw [← h]
  simp only [me_149, me_149, mq_149_0, mq_149_1]
  rfl
theorem em_doRecipe (σ : sg_M) (q n M d : Nat) (late T : Int32) (lt nu : Nat → Nat) (P : fn_PS) (w : Nat → Int32) (h1 : 1 ≤ n) (h8 : n ≤ 8) (hn : σ 120 8 = nI n) (hq : q < 6) (hM : M ≤ 8) (hm : σ 132 q = nI M) (hd : d < 2 ^ 31) (hit : ∀ k, k < M → lt k < 7 ∧ nu k < 2 ^ 31 ∧ σ 133 (8 * q + k) = nI (lt k) ∧ σ 134 (8 * q + k) = nI (nu k)) (hi : iv_ps (σ 127) n P) : ∃ w', sg_ev 149 (sg_mP σ T P w) [sg_r 7 120, sg_i (nI q), sg_i late, sg_i (nI d)] = some (none, sg_mP σ (T + nI (fn_do 1 n (σ 127) lt nu late d M 0 P).1) (fn_do 1 n (σ 127) lt nu late d M 0 P).2 w') :=
  em_doRecipeD σ q n M d late (nI d) T lt nu P w h1 h8 hn hq hM hm hd (fun _ _ _ => rfl) hit hi
/-- a piece like another -/
theorem ev_like (σ : sg_M) (c e : Nat) (hce : e + 6 ≤ c ∨ c + 6 ≤ e) : sg_ev 53 σ [sg_r 2 c, sg_r 2 e] = some (none, sg_pm (sg_set (sg_up σ c 6 (σ e 6)) (c + 1) (va_cpy (σ (e + 1)) (σ (c + 1)) 0 0 8)) c (σ e 7) (va_cpy (σ (e + 2)) (σ (c + 2)) 0 0 8) (va_cpy (σ (e + 3)) (σ (c + 3)) 0 0 8) (va_cpy (σ (e + 4)) (σ (c + 4)) 0 0 8) (σ (c + 5))) := by
  have z0 : (0 : Int32).toNatClampNeg = 0 := by decide
  have z8 : (8 : Int32).toNatClampNeg = 8 := by decide
  simp (decide := true) only [me_53, mq_53_0, mq_53_1, mq_53_4, mq_53_5, mq_53_6, mq_53_9, mq_53_10, mq_53_12, mq_53_15, mq_53_16, mq_53_19, mq_53_20, mq_53_21, mq_53_24, mq_53_25, mq_53_27, mq_53_30, mq_53_31, mq_53_34, mq_53_35, mq_53_36, mq_53_39, mq_53_40, mq_53_42, mq_53_45, mq_53_46, mq_53_49, mq_53_50, mq_53_51, mq_53_54, mq_53_55, mq_53_57, mq_53_60, mq_53_61, mq_53_62, mq_53_65, mq_53_68, mq_53_69, mq_53_70, mq_53_73, mq_53_76, z0, z8]
  congr 2
  refine pm_ext ?_ ?_ ?_ ?_ ?_ (fun x hx => ?_)
  all_goals simp only [sg_up, sg_set]
  · simp only [show ¬ c = c + 1 by omega, show ¬ c = c + 2 by omega, show ¬ c = c + 3 by omega, show ¬ c = c + 4 by omega, show ¬ e = c by omega, show ¬ e = c + 1 by omega, show ¬ e = c + 2 by omega, show ¬ e = c + 3 by omega, show ¬ e = c + 4 by omega, if_true, if_false]
  · simp only [show ¬ c + 2 = c by omega, show ¬ c + 2 = c + 3 by omega, show ¬ c + 2 = c + 4 by omega, show ¬ c + 2 = c + 1 by omega, show ¬ e + 2 = c + 1 by omega, if_true, if_false]
  · simp only [show ¬ c + 3 = c by omega, show ¬ c + 3 = c + 4 by omega, show ¬ c + 3 = c + 2 by omega, show ¬ c + 3 = c + 1 by omega, show ¬ e + 3 = c + 1 by omega, show ¬ e + 3 = c + 2 by omega, if_true, if_false]
  · simp only [show ¬ c + 4 = c by omega, show ¬ c + 4 = c + 3 by omega, show ¬ c + 4 = c + 2 by omega, show ¬ c + 4 = c + 1 by omega, show ¬ e + 4 = c + 1 by omega, show ¬ e + 4 = c + 2 by omega, show ¬ e + 4 = c + 3 by omega, if_true, if_false]
  · simp only [show ¬ c + 5 = c by omega, show ¬ c + 5 = c + 4 by omega, show ¬ c + 5 = c + 3 by omega, show ¬ c + 5 = c + 2 by omega, show ¬ c + 5 = c + 1 by omega, if_false]
  · rcases hx with hx | hx | hx
    · simp only [show ¬ x = c by omega, show ¬ x = c + 4 by omega, show ¬ x = c + 3 by omega, show ¬ x = c + 2 by omega, show ¬ x = c + 1 by omega, if_false]
    · subst hx
      simp only [show ¬ c + 1 = c by omega, show ¬ c + 1 = c + 4 by omega, show ¬ c + 1 = c + 3 by omega, show ¬ c + 1 = c + 2 by omega, if_true, if_false]
    · simp only [show ¬ x = c by omega, show ¬ x = c + 4 by omega, show ¬ x = c + 3 by omega, show ¬ x = c + 2 by omega, show ¬ x = c + 1 by omega, if_false]
