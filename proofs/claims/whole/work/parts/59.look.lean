/-- what is looked at: the class at stage 0, the model in hand, both behind the same piece -/
theorem st_like {B : Int} {σ : sg_M} {p n : Nat} (hp : p < 8) (h : iv_pc B σ p n) (τ : sg_M) (s : sg_same σ τ) (x : Nat) (hx : x < 4) : sg_ev 53 τ [sg_r 2 (67 + 6 * x), sg_r 2 (19 + 6 * p)] = some (none, sg_pP (sg_lk τ (67 + 6 * x) (19 + 6 * p)) (67 + 6 * x) (fn_lkP τ (67 + 6 * x) (19 + 6 * p)) (τ (67 + 6 * x + 5))) ∧ sg_lk τ (67 + 6 * x) (19 + 6 * p) (67 + 6 * x) 6 = nI n ∧ (∀ k, k < n → σ (19 + 6 * p + 1) k = sg_lk τ (67 + 6 * x) (19 + 6 * p) (67 + 6 * x + 1) k) ∧ rl_ps n (fn_cp σ (19 + 6 * p)) (fn_lkP τ (67 + 6 * x) (19 + 6 * p)) ∧ iv_ps (sg_lk τ (67 + 6 * x) (19 + 6 * p) (67 + 6 * x + 1)) n (fn_lkP τ (67 + 6 * x) (19 + 6 * p)) := by
  have h' := pc_same hp h s
  obtain ⟨⟨n1, n8⟩, hn, hn2, ho, he, hi, hst⟩ := id h'
  have r0 : ∀ y, 19 + 6 * p ≤ y → y < 19 + 6 * p + 6 → τ y = σ y := fun y a b => s.sx y (by unfold sg_kp; omega)
  have rc : fn_cp τ (19 + 6 * p) = fn_cp σ (19 + 6 * p) := by
    unfold fn_cp
    rw [r0 _ (by omega) (by omega), r0 _ (by omega) (by omega), r0 _ (by omega) (by omega), r0 _ (by omega) (by omega)]
  have hg : ∀ k, k < n → σ (19 + 6 * p + 1) k = sg_lk τ (67 + 6 * x) (19 + 6 * p) (67 + 6 * x + 1) k := fun k hk => by
    rw [lk_1, va_cpy8 _ _ k (by omega), r0 _ (by omega) (by omega)]
  have hr : rl_ps n (fn_cp σ (19 + 6 * p)) (fn_lkP τ (67 + 6 * x) (19 + 6 * p)) := by rw [← rc]; exact lkP_rl τ _ _ n n8
  refine ⟨ev_likeP τ _ _ (by omega), by rw [lk_6]; exact hn, hg, hr, ?_⟩
  exact rl_iv hg hr h.2.2.2.2.2.1
theorem lk_on {B : Int} {σ : sg_M} (h : iv_all B σ) (τ : sg_M) (s : sg_same σ τ) (x e : Nat) (hx : x < 4) : sg_lk τ (67 + 6 * x) e (67 + 6 * x) 0 = 1 := by
  rw [lk_c _ _ _ (by omega)]
  have := s.so (8 + x) (by omega)
  rw [show 19 + 6 * (8 + x) = 67 + 6 * x by omega] at this
  rw [this]
  have := h.2.2.2.2.2.1.1 (8 + x) (by omega)
  rw [show 19 + 6 * (8 + x) = 67 + 6 * x by omega] at this
  exact this
/-- both do a recipe on what is looked at -/
theorem do_both {B : Int} {σ : sg_M} {p n q M d : Nat} (h : iv_all B σ) (hp : p < 8) (hpc : iv_pc B σ p n) (hq : q < 6) (hM : iv_rc σ q M) (late late' D : Int32) (hd : d < 2 ^ 31) (hD : ∀ k, k < M → nI k = late → D = nI d) (hl : ∀ k, k < M → ((nI k = late) = (nI k = late'))) (τ : sg_M) (s : sg_same σ τ) :
    ∃ P w, sg_ev 46 (sg_pP (sg_lk τ 67 (19 + 6 * p)) 67 (fn_lkP τ 67 (19 + 6 * p)) (τ 72)) [sg_r 3 (91 + 3 * q), sg_r 2 67, sg_i late, sg_i D] = some (some (sg_i (nI (fn_do 1 n (sg_lk τ 67 (19 + 6 * p) 68) (fn_lt σ q) (fn_nu σ q) late d M 0 (fn_lkP τ 67 (19 + 6 * p))).1)), sg_pP (sg_lk τ 67 (19 + 6 * p)) 67 P w) ∧
      iv_ps (sg_lk τ 67 (19 + 6 * p) 68) n P ∧ rl_ps n (fn_do 1 n (σ (19 + 6 * p + 1)) (fn_lt σ q) (fn_nu σ q) late d M 0 (fn_cp σ (19 + 6 * p))).2 P := by
  obtain ⟨l1, l2, l3, l4, l5⟩ := st_like hp hpc τ s 0 (by omega)
  have on1 := lk_on h τ s 0 (19 + 6 * p) (by omega)
  simp only [Nat.mul_zero, Nat.add_zero, Nat.reduceAdd] at l1 l2 l3 l4 l5 on1
  obtain ⟨⟨n1, n8⟩, -⟩ := id hpc
  obtain ⟨it1, it2⟩ := rc_it hM
  obtain ⟨m1, m8, m2, m3, -⟩ := id hM
  have lx : ∀ y, 91 ≤ y → y < 109 → sg_lk τ 67 (19 + 6 * p) y = σ y := fun y a b => by rw [lk_x _ _ _ (by omega) (by omega), s.sx y (by unfold sg_kp; omega)]
  obtain ⟨w, g⟩ := ev_doOnD (sg_lk τ 67 (19 + 6 * p)) 67 (91 + 3 * q) n M d late D (fn_lt σ q) (fn_nu σ q) (fn_lkP τ 67 (19 + 6 * p)) (τ 72) n1 n8 l2 (by omega) m8 (by rw [lx _ (by omega) (by omega)]; exact m2) hd hD (by rw [lx _ (by omega) (by omega), lx _ (by omega) (by omega)]; exact it1) l5
  rw [on1] at g
  simp only [Nat.reduceAdd] at g
  refine ⟨_, w, g, do_iv n1 M 0 _ l5, ?_⟩
  exact (do_rl (on := 1) (lt := fn_lt σ q) (nu := fn_nu σ q) (lt' := fn_lt σ q) (nu' := fn_nu σ q) (late := late) (late' := late) (d := d) n1 l3 M (fun k hk => ⟨rfl, rfl, rfl⟩) M 0 _ _ (by omega) l4).2
theorem em_do_of {B : Int} {σ : sg_M} {p n q M d : Nat} (hp : p < 8) (hpc : iv_pc B σ p n) (hq : q < 6) (hM : iv_rc σ q M) (late D t : Int32) (hd : d < 2 ^ 31) (hD : ∀ k, k < M → nI k = late → D = nI d) (τ : sg_M) (s : sg_same σ τ) (Q0 : fn_PS) (w0 : Nat → Int32) (hQ : iv_ps (sg_tk τ p 127) n Q0) :
    ∃ w T, sg_ev 149 (sg_mP (sg_tk τ p) t Q0 w0) [sg_r 7 120, sg_i (nI q), sg_i late, sg_i D] = some (none, sg_mP (sg_tk τ p) T (fn_do 1 n (sg_tk τ p 127) (fn_lt σ q) (fn_nu σ q) late d M 0 Q0).2 w) := by
  obtain ⟨⟨n1, n8⟩, hn, hn2, -⟩ := pc_same hp hpc s
  obtain ⟨it1, it2⟩ := rc_it hM
  obtain ⟨m1, m8, m2, m3, -⟩ := id hM
  have lx : ∀ y, 132 ≤ y → y < 135 → sg_tk τ p y = σ y := fun y a b => by rw [tk_x _ _ (by omega) (by omega), s.sx y (by unfold sg_kp; omega)]
  obtain ⟨w, g⟩ := em_doRecipeD (sg_tk τ p) q n M d late D t (fn_lt σ q) (fn_nu σ q) Q0 w0 n1 n8 (by rw [tk_8]; exact hn2) hq m8 (by rw [lx _ (by omega) (by omega)]; exact m3) hd hD (by rw [lx _ (by omega) (by omega), lx _ (by omega) (by omega)]; exact it2) hQ
  exact ⟨w, _, g⟩
theorem same_lk0 (σ : sg_M) (e : Nat) (P : fn_PS) (w : Nat → Int32) : sg_same σ (sg_pP (sg_lk σ 67 e) 67 P w) := same_lk σ 0 e (by omega) P w
/-- look, past its refusals -/
theorem look_go {B : Int} {σ : sg_M} {j m x M d : Nat} (h : iv_all B σ) (hj : j < 8) (hpc : iv_pc B σ j m) (hx : x < 6) (hM : iv_rc σ x M) (k D : Int32) (hd : d < 2 ^ 31) (hD : ∀ i, i < M → nI i = k → D = nI d) :
    ∃ P w Q t w', sg_ev 53 σ [sg_r 2 67, sg_r 2 (19 + 6 * j)] = some (none, sg_pP (sg_lk σ 67 (19 + 6 * j)) 67 (fn_lkP σ 67 (19 + 6 * j)) (σ 72)) ∧ (∃ u, sg_ev 46 (sg_pP (sg_lk σ 67 (19 + 6 * j)) 67 (fn_lkP σ 67 (19 + 6 * j)) (σ 72)) [sg_r 3 (91 + 3 * x), sg_r 2 67, sg_i k, sg_i D] = some (some (sg_i u), sg_pP (sg_lk σ 67 (19 + 6 * j)) 67 P w)) ∧
      sg_lk σ 67 (19 + 6 * j) 67 6 = nI m ∧ iv_ps (sg_lk σ 67 (19 + 6 * j) 68) m P ∧
      (∀ τ, τ = sg_pP (sg_lk σ 67 (19 + 6 * j)) 67 P w → sg_ev 123 τ [sg_r 7 120, sg_i (nI j)] = some (none, sg_mP (sg_tk τ j) 0 (fn_tk τ j) (τ 131)) ∧ sg_ev 149 (sg_mP (sg_tk τ j) 0 (fn_tk τ j) (τ 131)) [sg_r 7 120, sg_i (nI x), sg_i k, sg_i D] = some (none, sg_mP (sg_tk τ j) t Q w') ∧ sg_tk τ j 120 8 = nI m ∧ iv_ps (sg_tk τ j 127) m Q ∧ (∀ i, i < m → sg_lk σ 67 (19 + 6 * j) 68 i = sg_tk τ j 127 i)) ∧ rl_ps m P Q := by
  obtain ⟨l1, l2, l3, l4, l5⟩ := st_like hj hpc σ (same_rfl σ) 0 (by omega)
  simp only [Nat.mul_zero, Nat.add_zero, Nat.reduceAdd] at l1 l2 l3 l4 l5
  obtain ⟨P, w, g1, g2, g3⟩ := do_both h hj hpc hx hM k k D hd hD (fun _ _ => rfl) σ (same_rfl σ)
  have sτ := same_lk0 σ (19 + 6 * j) P w
  have hpc' := pc_same hj hpc sτ
  obtain ⟨t1, t2, t3⟩ := em_take hj hpc'
  obtain ⟨r1, r2, -⟩ := tk_rl hpc'
  obtain ⟨w', T, g4⟩ := em_do_of hj hpc hx hM k D 0 hd hD _ sτ _ (sg_pP (sg_lk σ 67 (19 + 6 * j)) 67 P w 131) t3
  have e1 : ∀ y, 19 + 6 * j ≤ y → y < 19 + 6 * j + 6 → sg_pP (sg_lk σ 67 (19 + 6 * j)) 67 P w y = σ y := fun y a b => by rw [pP_x _ _ _ _ (by omega), lk_x _ _ _ (by omega) (by omega)]
  have ec : fn_cp (sg_pP (sg_lk σ 67 (19 + 6 * j)) 67 P w) (19 + 6 * j) = fn_cp σ (19 + 6 * j) := by
    unfold fn_cp
    rw [e1 _ (by omega) (by omega), e1 _ (by omega) (by omega), e1 _ (by omega) (by omega), e1 _ (by omega) (by omega)]
  rw [ec] at r1
  rw [e1 _ (by omega) (by omega), ← tk_127] at r2
  obtain ⟨⟨n1, n8⟩, -⟩ := id hpc
  have rel := do_rl (on := 1) (lt := fn_lt σ x) (nu := fn_nu σ x) (lt' := fn_lt σ x) (nu' := fn_nu σ x) (late := k) (late' := k) (d := d) n1 r2 M (fun k hk => ⟨rfl, rfl, rfl⟩) M 0 _ _ (by omega) r1
  refine ⟨P, w, _, T, w', l1, ⟨_, g1⟩, l2, g2, fun τ hτ => ?_, rl_tr (rl_sy g3) rel.2⟩
  subst hτ
  refine ⟨t1, g4, t2, do_iv n1 M 0 _ t3, fun i hi => ?_⟩
  rw [← l3 i hi, r2 i hi]
theorem pr_look {B : Int} {σ : sg_M} (p q k d r what : Int32) (h : iv_all B σ) : sg_pair B σ 51 151 [sg_i p, sg_i q, sg_i k, sg_i d, sg_i r, sg_i what] := by
  rcases pc_cases h.2.2.2.2.2 p with hno | ⟨j, m, hj, rfl, hpc, hp⟩
  · refine pair_same h (sg_i (-1)) σ σ ?_ (same_rfl σ) ?_ (same_rfl σ)
    · simp (decide := true) only [me_51, mq_51_0, mq_51_1, mq_51_2, mq_51_5, mq_51_8, mq_51_9, mq_51_10, mq_51_13, mq_51_16, mq_51_17, mq_51_18, mq_51_21, mq_51_22, mq_51_23, mq_51_24, mq_51_27, mq_51_30, mq_51_31, (hno σ).1 rfl, Nat.reduceAdd, Nat.reduceMul, Nat.reduceSub, Nat.zero_add, sg_bi_i, sg_bi_n, sg_bz, sg_bb, sg_b_0, sg_b_1, if_true, if_false, not_true_eq_false, not_false_eq_true, true_and, and_true, false_and, and_false, and_self, Int32.reduceSub]
    · simp (decide := true) only [me_151, mq_151_0, mq_151_1, mq_151_2, mq_151_5, mq_151_8, mq_151_9, mq_151_10, mq_151_13, mq_151_16, mq_151_17, mq_151_18, mq_151_21, mq_151_22, mq_151_25, mq_151_26, mq_151_27, mq_151_28, mq_151_29, mq_151_30, mq_151_33, mq_151_36, mq_151_37, (hno σ).2 rfl, Nat.reduceAdd, Nat.reduceMul, Nat.reduceSub, Nat.zero_add, sg_bi_i, sg_bi_n, sg_bz, sg_bb, sg_b_0, sg_b_1, if_true, if_false, not_true_eq_false, not_false_eq_true, true_and, and_true, false_and, and_false, and_self, Int32.reduceSub]
  · have e1 := (hp σ).1 rfl
    have e2 := (hp σ).2 rfl
    have i1 : sg_in (nI j) 8 = true := sg_in_nI (by omega) (by omega)
    have cj : (nI j).toNatClampNeg = j := sg_nIc (by omega)
    obtain ⟨⟨n1, n8⟩, hn, hn2, ho, -, hi, hst⟩ := id hpc
    rcases rc_cases h.2.1 q with hno | ⟨x, M, hx, rfl, hM, hr⟩
    · refine pair_same h (sg_i (-1)) σ σ ?_ (same_rfl σ) ?_ (same_rfl σ)
      · simp (decide := true) only [me_51, mq_51_0, mq_51_1, mq_51_2, mq_51_5, mq_51_8, mq_51_9, mq_51_10, mq_51_13, mq_51_16, mq_51_17, mq_51_18, mq_51_21, mq_51_22, mq_51_23, mq_51_24, mq_51_27, mq_51_30, mq_51_31, e1, (hno σ).1 rfl, Nat.reduceAdd, Nat.reduceMul, Nat.reduceSub, Nat.zero_add, sg_bi_i, sg_bi_n, sg_bz, sg_bb, sg_b_0, sg_b_1, if_true, if_false, not_true_eq_false, not_false_eq_true, true_and, and_true, false_and, and_false, and_self, Int32.reduceSub]
      · simp (decide := true) only [me_151, mq_151_0, mq_151_1, mq_151_2, mq_151_5, mq_151_8, mq_151_9, mq_151_10, mq_151_13, mq_151_16, mq_151_17, mq_151_18, mq_151_21, mq_151_22, mq_151_25, mq_151_26, mq_151_27, mq_151_28, mq_151_29, mq_151_30, mq_151_33, mq_151_36, mq_151_37, e2, (hno σ).2 rfl, Nat.reduceAdd, Nat.reduceMul, Nat.reduceSub, Nat.zero_add, sg_bi_i, sg_bi_n, sg_bz, sg_bb, sg_b_0, sg_b_1, if_true, if_false, not_true_eq_false, not_false_eq_true, true_and, and_true, false_and, and_false, and_self, Int32.reduceSub]
    · have r1 := (hr σ).1 rfl
      have r2 := (hr σ).2 rfl
      have i2 : sg_in (nI x) 7 = true := sg_in_nI (by omega) (by omega)
      have i3 : sg_in (nI x) 6 = true := sg_in_nI (by omega) (by omega)
      have cx : (nI x).toNatClampNeg = x := sg_nIc (by omega)
      obtain ⟨m1, m8, m2, m3, -⟩ := id hM
      have it := ev_item_of x M hx hM (fun τ => (hr τ).1) k σ rfl (fun _ _ _ => rfl)
      have k64 := sg_i64m k M (by omega)
      have d64 := sg_i64 d 0 20 0 20 (by decide) (by decide)
      have r64 := sg_i64p r 0 (nI m) 0 (by decide) (nI_nmin (by omega))
      have w64 := sg_i64 what 0 5 0 5 (by decide) (by decide)
      have v64 := sg_fact10 what
      have f1 := em_fallen hj hpc σ rfl
      have g1 := sg_19 σ j hpc r
      by_cases hk : k = -1 ∨ (0 ≤ k ∧ k ≤ nI M - 1)
      · have A1 : sg_ev 51 σ [sg_r 1 0, sg_i (nI j), sg_i (nI x), sg_i k, sg_i d, sg_i r, sg_i what] = sg_rv 51 32 σ [sg_r 1 0, sg_i (nI j), sg_i (nI x), sg_i k, sg_i d, sg_i r, sg_i what, sg_r 0 0] [] := by
          by_cases hk1 : k = -1
          · simp (decide := true) only [me_51, mq_51_0, mq_51_1, mq_51_2, mq_51_5, mq_51_8, mq_51_9, mq_51_10, mq_51_13, mq_51_16, mq_51_17, mq_51_18, mq_51_21, mq_51_22, mq_51_23, mq_51_24, mq_51_27, mq_51_30, mq_51_31, e1, r1, hk1, Nat.reduceAdd, Nat.reduceMul, Nat.reduceSub, Nat.zero_add, sg_bi_i, sg_bi_n, sg_bz, sg_bb, sg_b_0, sg_b_1, if_true, if_false, not_true_eq_false, not_false_eq_true, true_and, and_true, false_and, and_false, and_self, Int32.reduceSub]
          · have hk2 := hk.resolve_left hk1
            simp (decide := true) only [me_51, mq_51_0, mq_51_1, mq_51_2, mq_51_5, mq_51_8, mq_51_9, mq_51_10, mq_51_13, mq_51_16, mq_51_17, mq_51_18, mq_51_21, mq_51_22, mq_51_23, mq_51_24, mq_51_27, mq_51_30, mq_51_31, e1, r1, hk1, it, hk2, Nat.reduceAdd, Nat.reduceMul, Nat.reduceSub, Nat.zero_add, sg_bi_i, sg_bi_n, sg_bz, sg_bb, sg_b_0, sg_b_1, if_true, if_false, not_true_eq_false, not_false_eq_true, true_and, and_true, false_and, and_false, and_self, Int32.reduceSub]
        have A2 : ∀ τ, sg_same σ τ → sg_ev 151 τ [sg_r 7 120, sg_i (nI j), sg_i (nI x), sg_i k, sg_i d, sg_i r, sg_i what] = sg_rv 151 38 τ [sg_r 7 120, sg_i (nI j), sg_i (nI x), sg_i k, sg_i d, sg_i r, sg_i what] [] := by
          intro τ s
          have u1 := (hp τ).2 (s.s120 1 (by omega))
          have u2 := (hr τ).2 (s.s120 16 (by omega))
          have u3 : τ 132 x = nI M := by rw [s.sx 132 (by unfold sg_kp; omega)]; exact m3
          have kt : (k = -1 ∨ (0 ≤ k ∧ k ≤ nI M - 1)) = True := eq_true hk
          simp (decide := true) only [me_151, mq_151_0, mq_151_1, mq_151_2, mq_151_5, mq_151_8, mq_151_9, mq_151_10, mq_151_13, mq_151_16, mq_151_17, mq_151_18, mq_151_21, mq_151_22, mq_151_25, mq_151_26, mq_151_27, mq_151_28, mq_151_29, mq_151_30, mq_151_33, mq_151_36, mq_151_37, u1, u2, i3, cx, u3, em_in, k64, kt, Nat.reduceAdd, Nat.reduceMul, Nat.reduceSub, Nat.zero_add, sg_bi_i, sg_bi_n, sg_bz, sg_bb, sg_b_0, sg_b_1, if_true, if_false, not_true_eq_false, not_false_eq_true, true_and, and_true, false_and, and_false, and_self, Int32.reduceSub]
        by_cases hd : k = -1 ∨ (0 ≤ d ∧ d ≤ 20)
        · have B1 : sg_rv 51 32 σ [sg_r 1 0, sg_i (nI j), sg_i (nI x), sg_i k, sg_i d, sg_i r, sg_i what, sg_r 0 0] [] = sg_rv 51 48 σ [sg_r 1 0, sg_i (nI j), sg_i (nI x), sg_i k, sg_i d, sg_i r, sg_i what, sg_r 0 0] [] := by
            by_cases hk1 : k = -1
            · simp (decide := true) only [mq_51_32, mq_51_33, mq_51_34, mq_51_37, mq_51_39, mq_51_42, mq_51_45, mq_51_47, hk1, Nat.reduceAdd, Nat.reduceMul, Nat.reduceSub, Nat.zero_add, sg_bi_i, sg_bi_n, sg_bz, sg_bb, sg_b_0, sg_b_1, if_true, if_false, not_true_eq_false, not_false_eq_true, true_and, and_true, false_and, and_false, and_self, Int32.reduceSub]
            · have hd2 := hd.resolve_left hk1
              simp (decide := true) only [mq_51_32, mq_51_33, mq_51_34, mq_51_37, mq_51_39, mq_51_42, mq_51_45, mq_51_47, hk1, ev_isLate, hd2, Nat.reduceAdd, Nat.reduceMul, Nat.reduceSub, Nat.zero_add, sg_bi_i, sg_bi_n, sg_bz, sg_bb, sg_b_0, sg_b_1, if_true, if_false, not_true_eq_false, not_false_eq_true, true_and, and_true, false_and, and_false, and_self, Int32.reduceSub]
          have B2 : ∀ τ, sg_rv 151 38 τ [sg_r 7 120, sg_i (nI j), sg_i (nI x), sg_i k, sg_i d, sg_i r, sg_i what] [] = sg_rv 151 58 τ [sg_r 7 120, sg_i (nI j), sg_i (nI x), sg_i k, sg_i d, sg_i r, sg_i what] [] := by
            intro τ
            by_cases hk1 : k = -1
            · simp (decide := true) only [mq_151_38, mq_151_39, mq_151_42, mq_151_44, mq_151_45, mq_151_46, mq_151_49, mq_151_52, mq_151_55, mq_151_57, hk1, Nat.reduceAdd, Nat.reduceMul, Nat.reduceSub, Nat.zero_add, sg_bi_i, sg_bi_n, sg_bz, sg_bb, sg_b_0, sg_b_1, if_true, if_false, not_true_eq_false, not_false_eq_true, true_and, and_true, false_and, and_false, and_self, Int32.reduceSub]
            · have hd2 := hd.resolve_left hk1
              have hk2 := hk.resolve_left hk1
              simp (decide := true) only [mq_151_38, mq_151_39, mq_151_42, mq_151_44, mq_151_45, mq_151_46, mq_151_49, mq_151_52, mq_151_55, mq_151_57, Int32.not_lt.mpr hk2.1, em_in, d64, hd2, Nat.reduceAdd, Nat.reduceMul, Nat.reduceSub, Nat.zero_add, sg_bi_i, sg_bi_n, sg_bz, sg_bb, sg_b_0, sg_b_1, if_true, if_false, not_true_eq_false, not_false_eq_true, true_and, and_true, false_and, and_false, and_self, Int32.reduceSub]
          by_cases hr : what < 10 ∧ ¬ (0 ≤ r ∧ r ≤ nI m - 1)
          · refine pair_same h (sg_i (-1)) σ σ ?_ (same_rfl σ) ?_ (same_rfl σ)
            · rw [A1, B1]
              simp (decide := true) only [mq_51_48, mq_51_50, mq_51_52, mq_51_55, mq_51_56, mq_51_59, mq_51_60, mq_51_61, mq_51_63, mq_51_66, mq_51_69, mq_51_70, hr.1, i1, cj, g1, hr.2, Nat.reduceAdd, Nat.reduceMul, Nat.reduceSub, Nat.zero_add, sg_bi_i, sg_bi_n, sg_bz, sg_bb, sg_b_0, sg_b_1, if_true, if_false, not_true_eq_false, not_false_eq_true, true_and, and_true, false_and, and_false, and_self, Int32.reduceSub]
            · rw [A2 σ (same_rfl σ), B2]
              simp (decide := true) only [mq_151_58, mq_151_60, mq_151_62, mq_151_65, mq_151_67, mq_151_68, mq_151_69, mq_151_70, mq_151_73, mq_151_74, mq_151_75, mq_151_76, mq_151_77, mq_151_78, mq_151_81, mq_151_84, mq_151_85, hr.1, i1, cj, hn2, em_in, r64, hr.2, Nat.reduceAdd, Nat.reduceMul, Nat.reduceSub, Nat.zero_add, sg_bi_i, sg_bi_n, sg_bz, sg_bb, sg_b_0, sg_b_1, if_true, if_false, not_true_eq_false, not_false_eq_true, true_and, and_true, false_and, and_false, and_self, Int32.reduceSub]
          · have C1 : sg_rv 51 48 σ [sg_r 1 0, sg_i (nI j), sg_i (nI x), sg_i k, sg_i d, sg_i r, sg_i what, sg_r 0 0] [] = sg_rv 51 71 σ [sg_r 1 0, sg_i (nI j), sg_i (nI x), sg_i k, sg_i d, sg_i r, sg_i what, sg_r 0 0] [] := by
              by_cases h10 : what < 10
              · have hr2 : 0 ≤ r ∧ r ≤ nI m - 1 := Classical.byContradiction fun z => hr ⟨h10, z⟩
                simp (decide := true) only [mq_51_48, mq_51_50, mq_51_52, mq_51_55, mq_51_56, mq_51_59, mq_51_60, mq_51_61, mq_51_63, mq_51_66, mq_51_69, mq_51_70, h10, i1, cj, g1, hr2, Nat.reduceAdd, Nat.reduceMul, Nat.reduceSub, Nat.zero_add, sg_bi_i, sg_bi_n, sg_bz, sg_bb, sg_b_0, sg_b_1, if_true, if_false, not_true_eq_false, not_false_eq_true, true_and, and_true, false_and, and_false, and_self, Int32.reduceSub]
              · simp (decide := true) only [mq_51_48, mq_51_50, mq_51_52, mq_51_55, mq_51_56, mq_51_59, mq_51_60, mq_51_61, mq_51_63, mq_51_66, mq_51_69, mq_51_70, h10, Nat.reduceAdd, Nat.reduceMul, Nat.reduceSub, Nat.zero_add, sg_bi_i, sg_bi_n, sg_bz, sg_bb, sg_b_0, sg_b_1, if_true, if_false, not_true_eq_false, not_false_eq_true, true_and, and_true, false_and, and_false, and_self, Int32.reduceSub]
            have C2 : ∀ τ, sg_same σ τ → sg_rv 151 58 τ [sg_r 7 120, sg_i (nI j), sg_i (nI x), sg_i k, sg_i d, sg_i r, sg_i what] [] = sg_rv 151 86 τ [sg_r 7 120, sg_i (nI j), sg_i (nI x), sg_i k, sg_i d, sg_i r, sg_i what] [] := by
              intro τ s
              have u3 : τ 121 j = nI m := by rw [s.sx 121 (by unfold sg_kp; omega)]; exact hn2
              by_cases h10 : what < 10
              · have hr2 : 0 ≤ r ∧ r ≤ nI m - 1 := Classical.byContradiction fun z => hr ⟨h10, z⟩
                simp (decide := true) only [mq_151_58, mq_151_60, mq_151_62, mq_151_65, mq_151_67, mq_151_68, mq_151_69, mq_151_70, mq_151_73, mq_151_74, mq_151_75, mq_151_76, mq_151_77, mq_151_78, mq_151_81, mq_151_84, mq_151_85, h10, i1, cj, u3, em_in, r64, hr2, Nat.reduceAdd, Nat.reduceMul, Nat.reduceSub, Nat.zero_add, sg_bi_i, sg_bi_n, sg_bz, sg_bb, sg_b_0, sg_b_1, if_true, if_false, not_true_eq_false, not_false_eq_true, true_and, and_true, false_and, and_false, and_self, Int32.reduceSub]
              · simp (decide := true) only [mq_151_58, mq_151_60, mq_151_62, mq_151_65, mq_151_67, mq_151_68, mq_151_69, mq_151_70, mq_151_73, mq_151_74, mq_151_75, mq_151_76, mq_151_77, mq_151_78, mq_151_81, mq_151_84, mq_151_85, h10, Nat.reduceAdd, Nat.reduceMul, Nat.reduceSub, Nat.zero_add, sg_bi_i, sg_bi_n, sg_bz, sg_bb, sg_b_0, sg_b_1, if_true, if_false, not_true_eq_false, not_false_eq_true, true_and, and_true, false_and, and_false, and_self, Int32.reduceSub]
            by_cases hw : (0 ≤ what ∧ what ≤ 5) ∨ (0 ≤ what - 10 ∧ what - 10 ≤ 5)
            · have D1 : sg_rv 51 71 σ [sg_r 1 0, sg_i (nI j), sg_i (nI x), sg_i k, sg_i d, sg_i r, sg_i what, sg_r 0 0] [] = sg_rv 51 93 σ [sg_r 1 0, sg_i (nI j), sg_i (nI x), sg_i k, sg_i d, sg_i r, sg_i what, sg_r 0 0] [] := by
                by_cases h5 : 0 ≤ what ∧ what ≤ 5
                · simp (decide := true) only [mq_51_71, mq_51_73, mq_51_76, mq_51_79, mq_51_81, mq_51_83, mq_51_84, mq_51_87, mq_51_90, mq_51_92, ev_isFact, h5, Nat.reduceAdd, Nat.reduceMul, Nat.reduceSub, Nat.zero_add, sg_bi_i, sg_bi_n, sg_bz, sg_bb, sg_b_0, sg_b_1, if_true, if_false, not_true_eq_false, not_false_eq_true, true_and, and_true, false_and, and_false, and_self, Int32.reduceSub]
                · have h15 := hw.resolve_left h5
                  simp (decide := true) only [mq_51_71, mq_51_73, mq_51_76, mq_51_79, mq_51_81, mq_51_83, mq_51_84, mq_51_87, mq_51_90, mq_51_92, ev_isFact, h5, h15, Nat.reduceAdd, Nat.reduceMul, Nat.reduceSub, Nat.zero_add, sg_bi_i, sg_bi_n, sg_bz, sg_bb, sg_b_0, sg_b_1, if_true, if_false, not_true_eq_false, not_false_eq_true, true_and, and_true, false_and, and_false, and_self, Int32.reduceSub]
              have D2 : ∀ τ, sg_rv 151 86 τ [sg_r 7 120, sg_i (nI j), sg_i (nI x), sg_i k, sg_i d, sg_i r, sg_i what] [] = sg_rv 151 117 τ [sg_r 7 120, sg_i (nI j), sg_i (nI x), sg_i k, sg_i d, sg_i r, sg_i what] [] := by
                intro τ
                by_cases h5 : 0 ≤ what ∧ what ≤ 5
                · simp (decide := true) only [mq_151_86, mq_151_88, mq_151_89, mq_151_90, mq_151_93, mq_151_96, mq_151_99, mq_151_101, mq_151_102, mq_151_105, mq_151_108, mq_151_111, mq_151_114, mq_151_116, em_in, w64, h5, Nat.reduceAdd, Nat.reduceMul, Nat.reduceSub, Nat.zero_add, sg_bi_i, sg_bi_n, sg_bz, sg_bb, sg_b_0, sg_b_1, if_true, if_false, not_true_eq_false, not_false_eq_true, true_and, and_true, false_and, and_false, and_self, Int32.reduceSub]
                · have h15 := hw.resolve_left h5
                  simp (decide := true) only [mq_151_86, mq_151_88, mq_151_89, mq_151_90, mq_151_93, mq_151_96, mq_151_99, mq_151_101, mq_151_102, mq_151_105, mq_151_108, mq_151_111, mq_151_114, mq_151_116, em_in, w64, v64, h5, h15, Nat.reduceAdd, Nat.reduceMul, Nat.reduceSub, Nat.zero_add, sg_bi_i, sg_bi_n, sg_bz, sg_bb, sg_b_0, sg_b_1, if_true, if_false, not_true_eq_false, not_false_eq_true, true_and, and_true, false_and, and_false, and_self, Int32.reduceSub]
              by_cases hf : 40 < σ (19 + 6 * j) 7
              · refine pair_same h (sg_i (-3)) σ σ ?_ (same_rfl σ) ?_ (same_rfl σ)
                · rw [A1, B1, C1, D1]
                  simp (decide := true) only [mq_51_93, mq_51_94, mq_51_97, mq_51_98, mq_51_99, mq_51_102, mq_51_105, mq_51_107, i1, cj, ev_hasFallen, hf, Nat.reduceAdd, Nat.reduceMul, Nat.reduceSub, Nat.zero_add, sg_bi_i, sg_bi_n, sg_bz, sg_bb, sg_b_0, sg_b_1, if_true, if_false, not_true_eq_false, not_false_eq_true, true_and, and_true, false_and, and_false, and_self, Int32.reduceSub]
                · rw [A2 σ (same_rfl σ), B2, C2 σ (same_rfl σ), D2]
                  simp (decide := true) only [mq_151_117, mq_151_118, mq_151_119, mq_151_122, mq_151_125, mq_151_127, f1, hf, Nat.reduceAdd, Nat.reduceMul, Nat.reduceSub, Nat.zero_add, sg_bi_i, sg_bi_n, sg_bz, sg_bb, sg_b_0, sg_b_1, if_true, if_false, not_true_eq_false, not_false_eq_true, true_and, and_true, false_and, and_false, and_self, Int32.reduceSub]
              · -- what is told late
                obtain ⟨D, hD, hD2⟩ : ∃ D : Nat, D < 2 ^ 31 ∧ ∀ i, i < M → nI i = k → d = nI D := by
                  by_cases hk1 : k = -1
                  · refine ⟨0, by omega, fun i hi e => ?_⟩
                    rw [hk1, (sg_nlate (show i < 8 by omega)).1] at e
                    exact e.elim
                  · have hd2 := hd.resolve_left hk1
                    obtain ⟨D, q1, q2⟩ := nI_of2 (x := d) (M := 20) (n := 20) (by decide) (by rw [Int32.not_lt]; exact hd2.1) hd2.2
                    exact ⟨D, by omega, fun _ _ _ => q2⟩
                obtain ⟨P, w, Q, t, w', l1, ⟨u, l2⟩, l3, l4, l5, l6⟩ := look_go h hj hpc hx hM k d hD hD2
                obtain ⟨t1, t2, t3, t4, t5⟩ := l5 _ rfl
                have sτ := same_lk0 σ (19 + 6 * j) P w
                have i0 : sg_in (0 : Int32) 4 = true := by decide
                have E1 : sg_rv 51 93 σ [sg_r 1 0, sg_i (nI j), sg_i (nI x), sg_i k, sg_i d, sg_i r, sg_i what, sg_r 0 0] [] = sg_rv 51 142 (sg_pP (sg_lk σ 67 (19 + 6 * j)) 67 P w) [sg_r 1 0, sg_i (nI j), sg_i (nI x), sg_i k, sg_i d, sg_i r, sg_i what, sg_r 2 67] [] := by
                  simp (decide := true) only [mq_51_93, mq_51_94, mq_51_97, mq_51_98, mq_51_99, mq_51_102, mq_51_105, mq_51_107, mq_51_108, mq_51_109, mq_51_112, mq_51_113, mq_51_114, mq_51_116, mq_51_118, mq_51_119, mq_51_122, mq_51_123, mq_51_124, mq_51_127, mq_51_128, mq_51_131, mq_51_132, mq_51_133, mq_51_135, mq_51_136, mq_51_138, mq_51_141, i1, i2, i0, cj, cx, ev_hasFallen, hf, l1, l2, show (0 : Int32).toNatClampNeg = 0 from rfl, Nat.reduceAdd, Nat.reduceMul, Nat.reduceSub, Nat.zero_add, sg_bi_i, sg_bi_n, sg_bz, sg_bb, sg_b_0, sg_b_1, if_true, if_false, not_true_eq_false, not_false_eq_true, true_and, and_true, false_and, and_false, and_self, Int32.reduceSub]
                have E2 : sg_rv 151 117 (sg_pP (sg_lk σ 67 (19 + 6 * j)) 67 P w) [sg_r 7 120, sg_i (nI j), sg_i (nI x), sg_i k, sg_i d, sg_i r, sg_i what] [] = sg_rv 151 141 (sg_mP (sg_tk (sg_pP (sg_lk σ 67 (19 + 6 * j)) 67 P w) j) t Q w') [sg_r 7 120, sg_i (nI j), sg_i (nI x), sg_i k, sg_i d, sg_i r, sg_i what] [] := by
                  have f2 := em_fallen hj hpc (sg_pP (sg_lk σ 67 (19 + 6 * j)) 67 P w) (sτ.sx 126 (by unfold sg_kp; omega))
                  simp (decide := true) only [mq_151_117, mq_151_118, mq_151_119, mq_151_122, mq_151_125, mq_151_127, mq_151_128, mq_151_129, mq_151_130, mq_151_133, mq_151_134, mq_151_135, mq_151_136, mq_151_138, f2, hf, t1, t2, Nat.reduceAdd, Nat.reduceMul, Nat.reduceSub, Nat.zero_add, sg_bi_i, sg_bi_n, sg_bz, sg_bb, sg_b_0, sg_b_1, if_true, if_false, not_true_eq_false, not_false_eq_true, true_and, and_true, false_and, and_false, and_self, Int32.reduceSub]
                have hPn : sg_pP (sg_lk σ 67 (19 + 6 * j)) 67 P w 67 6 = nI m := by rw [pP_c _ _ _ _ (by omega)]; exact l3
                have hQn : sg_mP (sg_tk (sg_pP (sg_lk σ 67 (19 + 6 * j)) 67 P w) j) t Q w' 120 8 = nI m := by rw [mP_120 _ _ _ _ (by omega)]; exact t3
                by_cases h10 : what < 10
                · have hr2 : 0 ≤ r ∧ r ≤ nI m - 1 := Classical.byContradiction fun z => hr ⟨h10, z⟩
                  obtain ⟨y, hy, rfl⟩ := (sg_below (by omega)).mp hr2
                  have h5 : 0 ≤ what ∧ what ≤ 5 := by
                    refine Classical.byContradiction fun z => ?_
                    have h15 := hw.resolve_left z
                    rw [← v64, sg_i64 what 10 15 10 15 (by decide) (by decide)] at h15
                    exact absurd h15.1 (Int32.not_le.mpr h10)
                  have y1 := ev_factR (sg_pP (sg_lk σ 67 (19 + 6 * j)) 67 P w) 67 m y what n8 hPn hy (by rw [cp_pP, pP_1]; exact l4) h5
                  have y2 := em_factR (sg_mP (sg_tk (sg_pP (sg_lk σ 67 (19 + 6 * j)) 67 P w) j) t Q w') m y what n8 hQn hy (by rw [mp_mP, mP_x _ _ _ _ (by omega)]; exact t4)
                  rw [cp_pP, pP_1, fn_fr_c hy t5 l6] at y1
                  rw [mp_mP, mP_x _ _ _ _ (by omega), if_pos h5] at y2
                  refine pair_same h (sg_i (fn_fr m (sg_tk (sg_pP (sg_lk σ 67 (19 + 6 * j)) 67 P w) j 127) Q y what)) _ _ ?_ sτ ?_ (same_mP _ j t Q w')
                  · rw [A1, B1, C1, D1, E1]
                    simp (decide := true) only [mq_51_142, mq_51_144, mq_51_146, mq_51_149, mq_51_151, mq_51_153, mq_51_155, mq_51_158, mq_51_161, mq_51_163, mq_51_165, mq_51_167, mq_51_168, mq_51_171, h10, y1, Nat.reduceAdd, Nat.reduceMul, Nat.reduceSub, Nat.zero_add, sg_bi_i, sg_bi_n, sg_bz, sg_bb, sg_b_0, sg_b_1, if_true, if_false, not_true_eq_false, not_false_eq_true, true_and, and_true, false_and, and_false, and_self, Int32.reduceSub]
                  · rw [A2 _ sτ, B2, C2 _ sτ, D2, E2]
                    simp (decide := true) only [mq_151_141, mq_151_143, mq_151_145, mq_151_148, mq_151_149, mq_151_151, mq_151_153, mq_151_156, mq_151_159, mq_151_160, mq_151_162, mq_151_164, mq_151_165, mq_151_168, h10, y2, Nat.reduceAdd, Nat.reduceMul, Nat.reduceSub, Nat.zero_add, sg_bi_i, sg_bi_n, sg_bz, sg_bb, sg_b_0, sg_b_1, if_true, if_false, not_true_eq_false, not_false_eq_true, true_and, and_true, false_and, and_false, and_self, Int32.reduceSub]
                · have h5 : ¬ (0 ≤ what ∧ what ≤ 5) := fun z => h10 (Int32.lt_of_le_of_lt z.2 (by decide))
                  have h15 := hw.resolve_left h5
                  have y1 := ev_factA (sg_pP (sg_lk σ 67 (19 + 6 * j)) 67 P w) 67 m (what - 10) n1 n8 hPn h15
                  have y2 := em_factA (sg_mP (sg_tk (sg_pP (sg_lk σ 67 (19 + 6 * j)) 67 P w) j) t Q w') m (what - 10) n1 n8 hQn
                  rw [cp_pP, pP_1, fn_fa_c n1 t5 l6] at y1
                  rw [mp_mP, mP_x _ _ _ _ (by omega), if_pos h15] at y2
                  refine pair_same h (sg_i (fn_fa m (sg_tk (sg_pP (sg_lk σ 67 (19 + 6 * j)) 67 P w) j 127) Q (what - 10))) _ _ ?_ sτ ?_ (same_mP _ j t Q w')
                  · rw [A1, B1, C1, D1, E1]
                    simp (decide := true) only [mq_51_142, mq_51_144, mq_51_146, mq_51_149, mq_51_151, mq_51_153, mq_51_155, mq_51_158, mq_51_161, mq_51_163, mq_51_165, mq_51_167, mq_51_168, mq_51_171, h10, y1, Nat.reduceAdd, Nat.reduceMul, Nat.reduceSub, Nat.zero_add, sg_bi_i, sg_bi_n, sg_bz, sg_bb, sg_b_0, sg_b_1, if_true, if_false, not_true_eq_false, not_false_eq_true, true_and, and_true, false_and, and_false, and_self, Int32.reduceSub]
                  · rw [A2 _ sτ, B2, C2 _ sτ, D2, E2]
                    simp (decide := true) only [mq_151_141, mq_151_143, mq_151_145, mq_151_148, mq_151_149, mq_151_151, mq_151_153, mq_151_156, mq_151_159, mq_151_160, mq_151_162, mq_151_164, mq_151_165, mq_151_168, h10, y2, Nat.reduceAdd, Nat.reduceMul, Nat.reduceSub, Nat.zero_add, sg_bi_i, sg_bi_n, sg_bz, sg_bb, sg_b_0, sg_b_1, if_true, if_false, not_true_eq_false, not_false_eq_true, true_and, and_true, false_and, and_false, and_self, Int32.reduceSub]
            · obtain ⟨h5, h15⟩ := not_or.mp hw
              refine pair_same h (sg_i (-2)) σ σ ?_ (same_rfl σ) ?_ (same_rfl σ)
              · rw [A1, B1, C1]
                simp (decide := true) only [mq_51_71, mq_51_73, mq_51_76, mq_51_79, mq_51_81, mq_51_83, mq_51_84, mq_51_87, mq_51_90, mq_51_92, ev_isFact, h5, h15, Nat.reduceAdd, Nat.reduceMul, Nat.reduceSub, Nat.zero_add, sg_bi_i, sg_bi_n, sg_bz, sg_bb, sg_b_0, sg_b_1, if_true, if_false, not_true_eq_false, not_false_eq_true, true_and, and_true, false_and, and_false, and_self, Int32.reduceSub]
              · rw [A2 σ (same_rfl σ), B2, C2 σ (same_rfl σ)]
                simp (decide := true) only [mq_151_86, mq_151_88, mq_151_89, mq_151_90, mq_151_93, mq_151_96, mq_151_99, mq_151_101, mq_151_102, mq_151_105, mq_151_108, mq_151_111, mq_151_114, mq_151_116, em_in, w64, v64, h5, h15, Nat.reduceAdd, Nat.reduceMul, Nat.reduceSub, Nat.zero_add, sg_bi_i, sg_bi_n, sg_bz, sg_bb, sg_b_0, sg_b_1, if_true, if_false, not_true_eq_false, not_false_eq_true, true_and, and_true, false_and, and_false, and_self, Int32.reduceSub]
        · obtain ⟨hk1, hd2⟩ := not_or.mp hd
          have hk2 := hk.resolve_left hk1
          refine pair_same h (sg_i (-2)) σ σ ?_ (same_rfl σ) ?_ (same_rfl σ)
          · rw [A1]
            simp (decide := true) only [mq_51_32, mq_51_33, mq_51_34, mq_51_37, mq_51_39, mq_51_42, mq_51_45, mq_51_47, hk1, ev_isLate, hd2, Nat.reduceAdd, Nat.reduceMul, Nat.reduceSub, Nat.zero_add, sg_bi_i, sg_bi_n, sg_bz, sg_bb, sg_b_0, sg_b_1, if_true, if_false, not_true_eq_false, not_false_eq_true, true_and, and_true, false_and, and_false, and_self, Int32.reduceSub]
          · rw [A2 σ (same_rfl σ)]
            simp (decide := true) only [mq_151_38, mq_151_39, mq_151_42, mq_151_44, mq_151_45, mq_151_46, mq_151_49, mq_151_52, mq_151_55, mq_151_57, Int32.not_lt.mpr hk2.1, em_in, d64, hd2, Nat.reduceAdd, Nat.reduceMul, Nat.reduceSub, Nat.zero_add, sg_bi_i, sg_bi_n, sg_bz, sg_bb, sg_b_0, sg_b_1, if_true, if_false, not_true_eq_false, not_false_eq_true, true_and, and_true, false_and, and_false, and_self, Int32.reduceSub]
      · obtain ⟨hk1, hk2⟩ := not_or.mp hk
        refine pair_same h (sg_i (-1)) σ σ ?_ (same_rfl σ) ?_ (same_rfl σ)
        · simp (decide := true) only [me_51, mq_51_0, mq_51_1, mq_51_2, mq_51_5, mq_51_8, mq_51_9, mq_51_10, mq_51_13, mq_51_16, mq_51_17, mq_51_18, mq_51_21, mq_51_22, mq_51_23, mq_51_24, mq_51_27, mq_51_30, mq_51_31, e1, r1, hk1, it, hk2, Nat.reduceAdd, Nat.reduceMul, Nat.reduceSub, Nat.zero_add, sg_bi_i, sg_bi_n, sg_bz, sg_bb, sg_b_0, sg_b_1, if_true, if_false, not_true_eq_false, not_false_eq_true, true_and, and_true, false_and, and_false, and_self, Int32.reduceSub]
        · simp (decide := true) only [me_151, mq_151_0, mq_151_1, mq_151_2, mq_151_5, mq_151_8, mq_151_9, mq_151_10, mq_151_13, mq_151_16, mq_151_17, mq_151_18, mq_151_21, mq_151_22, mq_151_25, mq_151_26, mq_151_27, mq_151_28, mq_151_29, mq_151_30, mq_151_33, mq_151_36, mq_151_37, e2, r2, i3, cx, m3, em_in, k64, hk1, hk2, or_self, Nat.reduceAdd, Nat.reduceMul, Nat.reduceSub, Nat.zero_add, sg_bi_i, sg_bi_n, sg_bz, sg_bb, sg_b_0, sg_b_1, if_true, if_false, not_true_eq_false, not_false_eq_true, true_and, and_true, false_and, and_false, and_self, Int32.reduceSub]
