theorem iv_all_S {B : Int} {σ τ : sg_M} (h : iv_all B σ) (h0 : ∀ j, j ≠ 12 → τ 0 j = σ 0 j) (h1 : ∀ j, j ≠ 0 → τ 120 j = σ 120 j) (hf : τ 0 12 = τ 120 0) (hx : ∀ y, y ≠ 0 → y ≠ 120 → (y < 112 ∨ 120 < y) → (y < 142 ∨ 145 < y) → τ y = σ y) (hS : iv_S τ) : iv_all B τ ∧ τ 1000 = σ 1000 ∧ τ 999 = σ 999 := by
  obtain ⟨-, hR, hA, hF, hJ, hP⟩ := h
  refine ⟨⟨hS, ?_, ?_, ⟨hf, ?_⟩, ?_, ?_⟩, hx _ (by omega) (by omega) (by omega) (by omega), hx _ (by omega) (by omega) (by omega) (by omega)⟩
  · exact iv_R_c hR (h0 9 (by omega)) (h1 16 (by omega)) (fun y _ _ => hx y (by omega) (by omega) (by omega) (by omega)) (hx _ (by omega) (by omega) (by omega) (by omega)) (hx _ (by omega) (by omega) (by omega) (by omega)) (hx _ (by omega) (by omega) (by omega) (by omega))
  · exact iv_A_c hA (h0 10 (by omega)) (h1 24 (by omega)) (hx _ (by omega) (by omega) (by omega) (by omega)) (hx _ (by omega) (by omega) (by omega) (by omega))
  · rw [h0 11 (by omega), h1 36 (by omega)]; exact hF.2
  · exact iv_J_c hJ (by rw [hx 12 (by omega) (by omega) (by omega) (by omega)]) (h1 26 (by omega)) (fun y _ _ => hx y (by omega) (by omega) (by omega) (by omega)) (hx _ (by omega) (by omega) (by omega) (by omega)) (hx _ (by omega) (by omega) (by omega) (by omega)) (hx _ (by omega) (by omega) (by omega) (by omega))
  · exact iv_P_c hP (h0 8 (by omega)) (h1 1 (by omega)) (fun y _ _ => hx y (by omega) (by omega) (by omega) (by omega)) (fun y _ _ => hx y (by omega) (by omega) (by omega) (by omega)) (fun i hi => by rw [hx _ (by omega) (by omega) (by omega) (by omega)]) (by rw [hx 3 (by omega) (by omega) (by omega) (by omega)])
/-- only the fault is told anew -/
theorem iv_all_f {B : Int} {σ : sg_M} (f : Int32) (h : iv_all B σ) : iv_all B (sg_up (sg_up σ 0 12 f) 120 0 f) ∧ (sg_up (sg_up σ 0 12 f) 120 0 f) 1000 = σ 1000 ∧ (sg_up (sg_up σ 0 12 f) 120 0 f) 999 = σ 999 := by
  refine iv_all_S h (fun j hj => ?_) (fun j hj => ?_) ?_ (fun y h1 h2 _ _ => ?_) (iv_S_c h.1 (fun y _ _ => ?_) ?_ ?_ ?_)
  · rw [sg_up_ne (by omega), sg_up_at_ne hj]
  · rw [sg_up_at_ne hj, sg_up_ne (by omega)]
  · rw [sg_up_ne (by omega), sg_up_at, sg_up_at]
  · rw [sg_up_ne h2, sg_up_ne h1]
  · rw [sg_up_ne (by omega), sg_up_ne (by omega)]
  · rw [sg_up_ne (by omega), sg_up_ne (by omega)]
  · rw [sg_up_ne (by omega), sg_up_ne (by omega)]
  · rw [sg_up_ne (by omega), sg_up_ne (by omega)]
theorem sg_k3 {k : Int32} (h : 0 ≤ k ∧ k ≤ 3) : ∃ q : Nat, q < 4 ∧ k = nI q ∧ k.toNatClampNeg = q := by
  obtain ⟨q, hq, rfl⟩ := nI_of2 (x := k) (M := 3) (n := 3) (by decide) (by rw [Int32.not_lt]; exact h.1) h.2
  exact ⟨q, by omega, rfl, sg_nIc (by omega)⟩
theorem pr_sheet {B : Int} {σ : sg_M} (k lane n : Int32) (h : iv_all B σ) : sg_pair B σ 93 182 [sg_i k, sg_i lane, sg_i n] := by
  unfold sg_pair
  simp only [ev_sheet, em_sheet]
  by_cases h1 : 0 ≤ k ∧ k ≤ 3
  · by_cases h2 : ¬ (0 ≤ lane ∧ lane ≤ 2) ∨ 60 < n
    · refine ⟨sg_i (-2), sg_up σ 0 12 0, sg_up (sg_up σ 0 12 0) 120 0 0, ?_, ?_, iv_all_f 0 h⟩
      · rw [if_neg (fun z => z h1), if_pos h2]
      · rw [if_neg (fun z => z h1), if_pos h2]
    · by_cases h3 : n < 0
      · refine ⟨sg_i (-14), sg_up σ 0 12 4, sg_up (sg_up σ 0 12 4) 120 0 4, ?_, ?_, iv_all_f 4 h⟩
        · rw [if_neg (fun z => z h1), if_neg h2, if_pos h3]
        · rw [if_neg (fun z => z h1), if_neg h2, if_pos h3]
      · obtain ⟨q, hq, -, hqk⟩ := sg_k3 h1
        obtain ⟨j, hj, rfl⟩ := sg_nn h3 (not_or.mp h2).2
        refine ⟨sg_i 1, _, _, by rw [if_neg (fun z => z h1), if_neg h2, if_neg h3], by rw [if_neg (fun z => z h1), if_neg h2, if_neg h3], ?_⟩
        rw [hqk, sg_nIc (show j < 2 ^ 31 by omega)]
        generalize hτ : sg_set (sg_up (sg_up (sg_up σ 0 12 0) (112 + 2 * q) 1 lane) (112 + 2 * q) 2 (nI j)) (113 + 2 * q) (fun j => if j < 60 then 0 else σ (113 + 2 * q) j) = τ
        have t0 : τ 0 = upd (σ 0) 12 0 := by rw [← hτ, sg_set_ne (by omega), sg_up_ne (by omega), sg_up_ne (by omega), sg_up_row]
        have tq : τ (112 + 2 * q) = upd (upd (σ (112 + 2 * q)) 1 lane) 2 (nI j) := by rw [← hτ, sg_set_ne (by omega), sg_up_row, sg_up_row, sg_up_ne (by omega)]
        have tc : τ (113 + 2 * q) = fun j => if j < 60 then 0 else σ (113 + 2 * q) j := by rw [← hτ, sg_set_same]
        have tx : ∀ y, y ≠ 0 → y ≠ 112 + 2 * q → y ≠ 113 + 2 * q → τ y = σ y := fun y a b c => by rw [← hτ, sg_set_ne c, sg_up_ne b, sg_up_ne b, sg_up_ne a]
        generalize hω : sg_up (sg_set (sg_up (sg_up τ 142 q (nI j)) 143 q lane) 144 (fun x => if 60 * q ≤ x ∧ x < 60 * q + j then 0 else τ 144 x)) 120 0 0 = ω
        have w120 : ω 120 = upd (σ 120) 0 0 := by rw [← hω, sg_up_row, sg_set_ne (by omega), sg_up_ne (by omega), sg_up_ne (by omega), tx 120 (by omega) (by omega) (by omega)]
        have w142 : ω 142 = upd (σ 142) q (nI j) := by rw [← hω, sg_up_ne (by omega), sg_set_ne (by omega), sg_up_ne (by omega), sg_up_row, tx 142 (by omega) (by omega) (by omega)]
        have w143 : ω 143 = upd (σ 143) q lane := by rw [← hω, sg_up_ne (by omega), sg_set_ne (by omega), sg_up_row, sg_up_ne (by omega), tx 143 (by omega) (by omega) (by omega)]
        have w144 : ω 144 = fun x => if 60 * q ≤ x ∧ x < 60 * q + j then 0 else σ 144 x := by rw [← hω, sg_up_ne (by omega), sg_set_same, tx 144 (by omega) (by omega) (by omega)]
        have wx : ∀ y, y ≠ 120 → (y < 142 ∨ 144 < y) → ω y = τ y := fun y a b => by rw [← hω, sg_up_ne a, sg_set_ne (by omega), sg_up_ne (by omega), sg_up_ne (by omega)]
        refine iv_all_S h (fun i hi => ?_) (fun i hi => ?_) ?_ (fun y a b c d => ?_) ?_
        · rw [wx 0 (by omega) (by omega), t0, upd_ne hi]
        · rw [w120, upd_ne hi]
        · rw [wx 0 (by omega) (by omega), t0, w120, upd_same, upd_same]
        · rw [wx y b (by omega), tx y a (by omega) (by omega)]
        · intro x hx
          rw [w142, w143, w144]
          by_cases hxq : x = q
          · subst hxq
            rw [wx (112 + 2 * x) (by omega) (by omega), wx (113 + 2 * x) (by omega) (by omega), tq, tc, upd_same, upd_same, upd_same, upd_ne (show (1 : Nat) ≠ 2 by omega), upd_same, nI_toInt (by omega)]
            refine ⟨Or.inr ⟨by rw [nI_toInt (by omega)]; omega, by rw [nI_toInt (by omega)]; omega⟩, rfl, rfl, fun i hi => ?_⟩
            show (if 60 * x ≤ 60 * x + i ∧ 60 * x + i < 60 * x + j then (0 : Int32) else σ 144 (60 * x + i)) = (if i < 60 then 0 else σ (113 + 2 * x) i)
            rw [if_pos (by omega), if_pos (by omega)]
          · rw [wx (112 + 2 * x) (by omega) (by omega), wx (113 + 2 * x) (by omega) (by omega), tx _ (by omega) (by omega) (by omega), tx _ (by omega) (by omega) (by omega), upd_ne hxq, upd_ne hxq]
            obtain ⟨a, b, c, d⟩ := h.1 x hx
            refine ⟨a, b, c, fun i hi => ?_⟩
            have hi60 : i < 60 := by
              rcases a with a | a
              · rw [a, sg_tm1] at hi; omega
              · omega
            show (if 60 * q ≤ 60 * x + i ∧ 60 * x + i < 60 * q + j then (0 : Int32) else σ 144 (60 * x + i)) = _
            rw [if_neg (by omega)]
            exact d i hi
  · refine ⟨sg_i (-1), sg_up σ 0 12 0, sg_up (sg_up σ 0 12 0) 120 0 0, ?_, ?_, iv_all_f 0 h⟩
    · rw [if_pos h1]
    · rw [if_pos h1]
theorem pr_lose {B : Int} {σ : sg_M} (k : Int32) (h : iv_all B σ) : sg_pair B σ 95 183 [sg_i k] := by
  unfold sg_pair
  simp only [ev_lose, em_lose]
  by_cases h1 : 0 ≤ k ∧ k ≤ 3
  · obtain ⟨q, hq, -, hqk⟩ := sg_k3 h1
    obtain ⟨a, b, c, d⟩ := h.1 q hq
    refine ⟨_, _, _, by rw [if_neg (fun z => z h1)], by rw [if_neg (fun z => z h1), hqk, sg_up_ne (show 142 ≠ 112 + 2 * q by omega), b]; simp only [sg_held_lt a]; rfl, ?_⟩
    generalize hω : sg_up (sg_up σ (112 + 2 * q) 2 (-1)) 142 q (-1) = ω
    have wx : ∀ y, y ≠ 112 + 2 * q → y ≠ 142 → ω y = σ y := fun y a b => by rw [← hω, sg_up_ne b, sg_up_ne a]
    have wq : ω (112 + 2 * q) = upd (σ (112 + 2 * q)) 2 (-1) := by rw [← hω, sg_up_ne (by omega), sg_up_row]
    have w142 : ω 142 = upd (σ 142) q (-1) := by rw [← hω, sg_up_row, sg_up_ne (by omega)]
    refine iv_all_S h (fun i hi => by rw [wx 0 (by omega) (by omega)]) (fun i hi => by rw [wx 120 (by omega) (by omega)]) (by rw [wx 0 (by omega) (by omega), wx 120 (by omega) (by omega)]; exact h.2.2.2.1.1) (fun y a b c d => wx y (by omega) (by omega)) ?_
    intro x hx
    rw [w142, wx 143 (by omega) (by omega), wx 144 (by omega) (by omega), wx (113 + 2 * x) (by omega) (by omega)]
    by_cases hxq : x = q
    · subst hxq
      rw [wq, upd_same, upd_same, upd_ne (show (1 : Nat) ≠ 2 by omega)]
      exact ⟨Or.inl rfl, rfl, c, fun i hi => by rw [sg_tm1] at hi; omega⟩
    · rw [wx (112 + 2 * x) (by omega) (by omega), upd_ne hxq]
      exact h.1 x hx
  · refine ⟨sg_i (-1), σ, σ, by rw [if_pos h1], by rw [if_pos h1], h, rfl, rfl⟩
theorem pr_put {B : Int} {σ : sg_M} (k i v : Int32) (h : iv_all B σ) : sg_pair B σ 97 184 [sg_i k, sg_i i, sg_i v] := by
  unfold sg_pair
  have hl1 : 0 ≤ k ∧ k ≤ 3 → iv_len (σ (112 + 2 * k.toNatClampNeg) 2) := fun h1 => by
    obtain ⟨q, hq, -, hqk⟩ := sg_k3 h1
    rw [hqk]; exact (h.1 q hq).1
  have hev := ev_put σ k i v hl1
  by_cases h1 : 0 ≤ k ∧ k ≤ 3
  · obtain ⟨q, hq, -, hqk⟩ := sg_k3 h1
    obtain ⟨a, b, c, d⟩ := h.1 q hq
    rw [hqk, if_neg (fun z => z h1)] at hev
    have hem : ∀ τ : sg_M, τ 142 = σ 142 → τ 143 = σ 143 → sg_ev 184 τ [sg_r 7 120, sg_i k, sg_i i, sg_i v] = if σ (112 + 2 * q) 2 = -1 then some (some (sg_i (-11)), sg_up τ 120 0 1) else if ¬ (0 ≤ i ∧ i < σ (112 + 2 * q) 2) then some (some (sg_i (-13)), sg_up τ 120 0 3) else some (some (sg_i 1), sg_up (sg_up τ 144 (60 * q + i.toNatClampNeg) (fn_lane (σ (112 + 2 * q) 1) v)) 120 0 0) := by
      intro τ e1 e2
      have := em_put τ k i v (fun _ => by rw [e1, hqk, b]; exact a)
      rw [hqk, if_neg (fun z => z h1), e1, e2, b, c] at this
      exact this
    by_cases h2 : σ (112 + 2 * q) 2 = -1
    · rw [if_pos h2] at hev
      refine ⟨sg_i (-11), _, _, hev, by rw [hem _ (sg_up_ne (by omega)) (sg_up_ne (by omega)), if_pos h2], iv_all_f 1 h⟩
    · rw [if_neg h2] at hev
      by_cases h3 : 0 ≤ i ∧ i < σ (112 + 2 * q) 2
      · rw [if_neg (fun z => z h3)] at hev
        refine ⟨sg_i 1, _, _, hev, by rw [hem _ (by rw [sg_up_ne (by omega), sg_up_ne (by omega)]) (by rw [sg_up_ne (by omega), sg_up_ne (by omega)]), if_neg h2, if_neg (fun z => z h3)], ?_⟩
        generalize hω : sg_up (sg_up (sg_up (sg_up σ 0 12 0) (113 + 2 * q) i.toNatClampNeg (fn_lane (σ (112 + 2 * q) 1) v)) 144 (60 * q + i.toNatClampNeg) (fn_lane (σ (112 + 2 * q) 1) v)) 120 0 0 = ω
        have w0 : ω 0 = upd (σ 0) 12 0 := by rw [← hω, sg_up_ne (by omega), sg_up_ne (by omega), sg_up_ne (by omega), sg_up_row]
        have w120 : ω 120 = upd (σ 120) 0 0 := by rw [← hω, sg_up_row, sg_up_ne (by omega), sg_up_ne (by omega), sg_up_ne (by omega)]
        have wq : ω (113 + 2 * q) = upd (σ (113 + 2 * q)) i.toNatClampNeg (fn_lane (σ (112 + 2 * q) 1) v) := by rw [← hω, sg_up_ne (by omega), sg_up_ne (by omega), sg_up_row, sg_up_ne (by omega)]
        have w144 : ω 144 = upd (σ 144) (60 * q + i.toNatClampNeg) (fn_lane (σ (112 + 2 * q) 1) v) := by rw [← hω, sg_up_ne (by omega), sg_up_row, sg_up_ne (by omega), sg_up_ne (by omega)]
        have wx : ∀ y, y ≠ 0 → y ≠ 120 → y ≠ 113 + 2 * q → y ≠ 144 → ω y = σ y := fun y a b c d => by rw [← hω, sg_up_ne b, sg_up_ne d, sg_up_ne c, sg_up_ne a]
        have hi60 : i.toNatClampNeg < 60 := by
          have := sg_held a h2
          have g := (sg_60i h1 h3 this.2).2
          exact Nat.not_le.mp fun z => (sg_in_vp g) (Or.inr z)
        refine iv_all_S h (fun i hi => by rw [w0, upd_ne hi]) (fun i hi => by rw [w120, upd_ne hi]) (by rw [w0, w120, upd_same, upd_same]) (fun y a b c d => wx y a b (by omega) (by omega)) ?_
        intro x hx
        obtain ⟨a', b', c', d'⟩ := h.1 x hx
        rw [wx 142 (by omega) (by omega) (by omega) (by omega), wx 143 (by omega) (by omega) (by omega) (by omega), w144, wx (112 + 2 * x) (by omega) (by omega) (by omega) (by omega)]
        refine ⟨a', b', c', fun j hj => ?_⟩
        have hj60 : j < 60 := by
          rcases a' with a' | a'
          · rw [a', sg_tm1] at hj; omega
          · omega
        by_cases hxq : x = q
        · subst hxq
          rw [wq]
          by_cases hji : j = i.toNatClampNeg
          · subst hji; rw [upd_same, upd_same]
          · rw [upd_ne hji, upd_ne (by omega)]; exact d' j hj
        · rw [wx (113 + 2 * x) (by omega) (by omega) (by omega) (by omega), upd_ne (by omega)]
          exact d' j hj
      · rw [if_pos h3] at hev
        refine ⟨sg_i (-13), _, _, hev, by rw [hem _ (sg_up_ne (by omega)) (sg_up_ne (by omega)), if_neg h2, if_pos h3], iv_all_f 3 h⟩
  · rw [if_pos h1] at hev
    refine ⟨sg_i (-1), _, _, hev, by rw [em_put _ k i v (fun q => absurd q h1), if_pos h1], iv_all_f 0 h⟩
theorem pr_cell {B : Int} {σ : sg_M} (k i lane : Int32) (h : iv_all B σ) : sg_pair B σ 99 186 [sg_i k, sg_i i, sg_i lane] := by
  unfold sg_pair
  have hl1 : 0 ≤ k ∧ k ≤ 3 → iv_len (σ (112 + 2 * k.toNatClampNeg) 2) := fun h1 => by
    obtain ⟨q, hq, -, hqk⟩ := sg_k3 h1
    rw [hqk]; exact (h.1 q hq).1
  refine ⟨_, _, _, ev_cell σ k i lane hl1, ?_, iv_all_f (fn_bar k lane i 1 (σ (112 + 2 * k.toNatClampNeg) 1) (σ (112 + 2 * k.toNatClampNeg) 2)).2 h⟩
  generalize hf : (fn_bar k lane i 1 (σ (112 + 2 * k.toNatClampNeg) 1) (σ (112 + 2 * k.toNatClampNeg) 2)).2 = f
  have e1 : sg_up σ 0 12 f 142 = σ 142 := sg_up_ne (by omega)
  have e2 : sg_up σ 0 12 f 143 = σ 143 := sg_up_ne (by omega)
  have e3 : sg_up σ 0 12 f 144 = σ 144 := sg_up_ne (by omega)
  have hem := em_cell (sg_up σ 0 12 f) k i lane (fun h1 => by
    obtain ⟨q, hq, -, hqk⟩ := sg_k3 h1
    rw [e1, hqk, (h.1 q hq).2.1]; exact (h.1 q hq).1)
  rw [hem, e1, e2, e3]
  by_cases h1 : 0 ≤ k ∧ k ≤ 3
  · obtain ⟨q, hq, -, hqk⟩ := sg_k3 h1
    obtain ⟨a, b, c, d⟩ := h.1 q hq
    rw [hqk] at hf ⊢
    rw [b, c, hf]
    by_cases h2 : (fn_bar k lane i 1 (σ (112 + 2 * q) 1) (σ (112 + 2 * q) 2)).1 = 0
    · obtain ⟨-, -, g3, -, -, g6, -⟩ := fn_bar_0 h2
      have g := (fn_cov1 a g3).mp g6
      obtain ⟨j, hj, ej⟩ := nI_of (x := i) (by rw [Int32.not_lt]; exact g.1)
      have gl := g.2
      rw [Int32.lt_iff_toInt_lt, ej, nI_toInt hj] at gl
      rw [if_pos h2, if_pos h2, ej, sg_nIc hj, d j gl]
    · rw [if_neg h2, if_neg h2]
  · have e : ∀ ln len, fn_bar k lane i 1 ln len = (-1, 0) := fun ln len => by unfold fn_bar; rw [if_pos h1]
    rw [e] at hf
    rw [e, e, ← hf]
    simp (decide := true) only [if_false]
theorem pr_copy {B : Int} {σ : sg_M} (k i o j n : Int32) (h : iv_all B σ) : sg_pair B σ 100 188 [sg_i k, sg_i i, sg_i o, sg_i j, sg_i n] := by
  unfold sg_pair
  have hl : ∀ k : Int32, 0 ≤ k ∧ k ≤ 3 → iv_len (σ (112 + 2 * k.toNatClampNeg) 2) := fun k h1 => by
    obtain ⟨q, hq, -, hqk⟩ := sg_k3 h1
    rw [hqk]; exact (h.1 q hq).1
  have hm : ∀ k : Int32, 0 ≤ k ∧ k ≤ 3 → σ 142 k.toNatClampNeg = σ (112 + 2 * k.toNatClampNeg) 2 ∧ σ 143 k.toNatClampNeg = σ (112 + 2 * k.toNatClampNeg) 1 := fun k h1 => by
    obtain ⟨q, hq, -, hqk⟩ := sg_k3 h1
    rw [hqk]; exact ⟨(h.1 q hq).2.1, (h.1 q hq).2.2.1⟩
  obtain ⟨a1, a2, a3, a4, a5⟩ := ev_copy σ k i o j n (hl k) (hl o)
  have hem : ∀ τ : sg_M, τ 142 = σ 142 → _ := fun τ e1 => em_copy τ k i o j n (fun q => by rw [e1, (hm k q).1]; exact hl k q) (fun q => by rw [e1, (hm o q).1]; exact hl o q)
  by_cases h1 : (0 ≤ k ∧ k ≤ 3) ∧ (0 ≤ o ∧ o ≤ 3)
  · obtain ⟨hk, ho⟩ := id h1
    obtain ⟨k1, k2⟩ := hm k hk
    obtain ⟨o1, o2⟩ := hm o ho
    by_cases h2 : σ (112 + 2 * k.toNatClampNeg) 2 = -1 ∨ σ (112 + 2 * o.toNatClampNeg) 2 = -1
    · refine ⟨_, _, _, a2 h1 h2, (hem (sg_up σ 0 12 1) (sg_up_ne (by omega))).2.1 h1 ?_, iv_all_f 1 h⟩
      rw [sg_up_ne (by omega), k1, o1]; exact h2
    · by_cases h3 : σ (112 + 2 * k.toNatClampNeg) 1 = σ (112 + 2 * o.toNatClampNeg) 1
      · by_cases h4 : fn_cov i n (σ (112 + 2 * k.toNatClampNeg) 2) ∧ fn_cov j n (σ (112 + 2 * o.toNatClampNeg) 2)
        · obtain ⟨q, hq, -, hqk⟩ := sg_k3 hk
          obtain ⟨u, hu, -, huo⟩ := sg_k3 ho
          have b5 := a5 h1 h2 h3 h4
          generalize hτ : sg_set (sg_up σ 0 12 0) (113 + 2 * o.toNatClampNeg) (va_cpy (σ (113 + 2 * k.toNatClampNeg)) (σ (113 + 2 * o.toNatClampNeg)) i.toNatClampNeg j.toNatClampNeg n.toNatClampNeg) = τ at b5
          have tx : ∀ y, y ≠ 0 → y ≠ 113 + 2 * u → τ y = σ y := fun y c d => by rw [← hτ, huo, sg_set_ne d, sg_up_ne c]
          have t0 : τ 0 = upd (σ 0) 12 0 := by rw [← hτ, sg_set_ne (by omega), sg_up_row]
          have tc : τ (113 + 2 * u) = va_cpy (σ (113 + 2 * q)) (σ (113 + 2 * u)) i.toNatClampNeg j.toNatClampNeg n.toNatClampNeg := by rw [← hτ, huo, hqk, sg_set_same]
          have m5 := (hem τ (tx _ (by omega) (by omega))).2.2.2.2 h1 (by rw [tx 142 (by omega) (by omega), k1, o1]; exact h2) (by rw [tx 143 (by omega) (by omega), k2, o2]; exact h3) (by rw [tx 142 (by omega) (by omega), k1, o1]; exact h4)
          refine ⟨_, _, _, b5, m5, ?_⟩
          obtain ⟨ai, bn, rfl, rfl, hab, hab2⟩ := fn_cov_nat h4.1 (sg_held (hl k hk) (not_or.mp h2).1).2
          obtain ⟨aj, bn2, rfl, hbn, hab3, hab4⟩ := fn_cov_nat h4.2 (sg_held (hl o ho) (not_or.mp h2).2).2
          have : bn = bn2 := (nI_eq (by omega) (by omega)).mp hbn
          subst this
          rw [sg_nIc (show ai < 2 ^ 31 by omega), sg_nIc (show bn < 2 ^ 31 by omega), sg_nIc (show aj < 2 ^ 31 by omega)] at tc
          rw [hqk] at hab2
          rw [huo] at hab4
          generalize hω : sg_up _ 120 0 0 = ω
          rw [hqk, huo, sg_nIc (show ai < 2 ^ 31 by omega), sg_nIc (show bn < 2 ^ 31 by omega), sg_nIc (show aj < 2 ^ 31 by omega)] at hω
          have w120 : ω 120 = upd (σ 120) 0 0 := by rw [← hω, sg_up_row, sg_set_ne (by omega), sg_set_ne (by omega), tx 120 (by omega) (by omega)]
          have w144 : ω 144 = fun x => if 60 * u + aj ≤ x ∧ x < 60 * u + aj + bn then σ 144 (60 * q + ai + (x - (60 * u + aj))) else σ 144 x := by rw [← hω, sg_up_ne (by omega), sg_set_same, tx 144 (by omega) (by omega)]
          have wx : ∀ y, y ≠ 120 → y ≠ 144 → y ≠ 145 → ω y = τ y := fun y c d e => by rw [← hω, sg_up_ne c, sg_set_ne d, sg_set_ne e]
          refine iv_all_S h (fun x hx => by rw [wx 0 (by omega) (by omega) (by omega), t0, upd_ne hx]) (fun x hx => by rw [w120, upd_ne hx]) (by rw [wx 0 (by omega) (by omega) (by omega), t0, w120, upd_same, upd_same]) (fun y c d e f => by rw [wx y d (by omega) (by omega), tx y c (by omega)]) ?_
          intro x hx
          obtain ⟨g1, g2, g3, g4⟩ := h.1 x hx
          rw [wx 142 (by omega) (by omega) (by omega), wx 143 (by omega) (by omega) (by omega), tx 142 (by omega) (by omega), tx 143 (by omega) (by omega), wx (112 + 2 * x) (by omega) (by omega) (by omega), tx (112 + 2 * x) (by omega) (by omega), wx (113 + 2 * x) (by omega) (by omega) (by omega), w144]
          refine ⟨g1, g2, g3, fun y hy => ?_⟩
          have hy60 : y < 60 := by
            rcases g1 with g1 | g1
            · rw [g1, sg_tm1] at hy; omega
            · omega
          show (if 60 * u + aj ≤ 60 * x + y ∧ 60 * x + y < 60 * u + aj + bn then σ 144 (60 * q + ai + (60 * x + y - (60 * u + aj))) else σ 144 (60 * x + y)) = _
          by_cases hxu : x = u
          · subst hxu
            rw [tc]
            by_cases hin : aj ≤ y ∧ y < aj + bn
            · rw [if_pos (by omega), pk_cpy_in hin.1 hin.2, show 60 * q + ai + (60 * x + y - (60 * x + aj)) = 60 * q + (ai + (y - aj)) by omega]
              exact (h.1 q hq).2.2.2 _ (by omega)
            · rw [if_neg (by omega), pk_cpy_out (by omega)]
              exact g4 y hy
          · rw [if_neg (by omega), tx _ (by omega) (by omega)]
            exact g4 y hy
        · refine ⟨_, _, _, a4 h1 h2 h3 h4, (hem (sg_up σ 0 12 3) (sg_up_ne (by omega))).2.2.2.1 h1 ?_ ?_ ?_, iv_all_f 3 h⟩
          · rw [sg_up_ne (by omega), k1, o1]; exact h2
          · rw [sg_up_ne (by omega), k2, o2]; exact h3
          · rw [sg_up_ne (by omega), k1, o1]; exact h4
      · refine ⟨_, _, _, a3 h1 h2 h3, (hem (sg_up σ 0 12 2) (sg_up_ne (by omega))).2.2.1 h1 ?_ ?_, iv_all_f 2 h⟩
        · rw [sg_up_ne (by omega), k1, o1]; exact h2
        · rw [sg_up_ne (by omega), k2, o2]; exact h3
  · exact ⟨_, _, _, a1 h1, (hem (sg_up σ 0 12 0) (sg_up_ne (by omega))).1 h1, iv_all_f 0 h⟩
