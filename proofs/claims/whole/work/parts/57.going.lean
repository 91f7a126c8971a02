/-! strains stay small -/
theorem sg_div_rg {a : Int32} {b : Nat} {A : Nat} (h0 : 0 ≤ a.toInt) (hA : a.toInt ≤ A) (hb : 0 < b) (hb2 : b < 2 ^ 31) : 0 ≤ (a / nI b).toInt ∧ (a / nI b).toInt ≤ (A / b : Nat) := by
  obtain ⟨j, hj, rfl, ej⟩ := sg_nat h0
  rw [pk_div hj hb hb2, nI_toInt (by have := Nat.div_le_self j b; omega)]
  have : j / b ≤ A / b := Nat.div_le_div_right (by omega)
  exact ⟨Int.natCast_nonneg _, Int.ofNat_le.mpr this⟩
theorem sg_abs_rg {x y : Int32} (hx : 0 ≤ x.toInt ∧ x.toInt ≤ 1500) (hy : 0 ≤ y.toInt ∧ y.toInt ≤ 1500) : 0 ≤ (if 0 ≤ x - y then x - y else 0 - (x - y)).toInt ∧ (if 0 ≤ x - y then x - y else 0 - (x - y)).toInt ≤ 1500 := by
  have e := sg_sub_toInt (a := x) (b := y) (by omega) (by omega) (by omega) (by omega)
  by_cases h : 0 ≤ x - y
  · rw [if_pos h]
    rw [Int32.le_iff_toInt_le, sg_t0] at h
    omega
  · rw [if_neg h, sg_sub_toInt (by decide) (by decide) (by omega) (by omega), sg_t0]
    rw [Int32.le_iff_toInt_le, sg_t0] at h
    omega
theorem step_st {B : Int} {on : Int32} {n : Nat} {g : Nat → Int32} {kind : Int32} {P : fn_PS} (hB : 150 ≤ B) (h1 : 1 ≤ n) (h : iv_st B n P) : iv_st B n (fn_step on n g kind P) := by
  have hH : ∀ k, k < n → 0 ≤ (fn_H on (fn_mo kind) n g P.2.1 P.2.2.1 k).toInt ∧ (fn_H on (fn_mo kind) n g P.2.1 P.2.2.1 k).toInt ≤ 1500 := by
    intro k hk
    unfold fn_H
    rw [if_pos hk]
    exact fn_cl_rg _
  refine ⟨fun k hk => ?_, ?_⟩
  · show 0 ≤ (fn_S n P.2.2.1 (fn_H on (fn_mo kind) n g P.2.1 P.2.2.1) P.2.2.2 k).toInt ∧ (fn_S n P.2.2.1 (fn_H on (fn_mo kind) n g P.2.1 P.2.2.1) P.2.2.2 k).toInt ≤ B
    have hs := h.1 k hk
    have a := sg_abs_rg (hH k (by omega)) (hH (k + 1) hk)
    generalize fn_H on (fn_mo kind) n g P.2.1 P.2.2.1 = Hh at *
    unfold fn_S
    rw [if_pos (by omega)]
    unfold fn_sn
    generalize (if 0 ≤ Hh k - Hh (k + 1) then Hh k - Hh (k + 1) else 0 - (Hh k - Hh (k + 1))) = x at *
    have d := sg_div_rg (a := x) (b := 10) (A := 1500) a.1 a.2 (by omega) (by omega)
    rw [show nI 10 = (10 : Int32) from rfl] at d
    split
    · split
      · omega
      · exact hs
    · exact hs
  · show fn_S n P.2.2.1 (fn_H on (fn_mo kind) n g P.2.1 P.2.2.1) P.2.2.2 (n - 1) = 0
    unfold fn_S
    rw [if_neg (by omega)]
    exact h.2
theorem jack_st {B : Int} {n v : Nat} {P : fn_PS} (h : iv_st B n P) : iv_st B n (fn_jack n v P) := by
  unfold fn_jack
  split
  · exact h
  · exact h
theorem item_st {B : Int} {on : Int32} {n L v : Nat} {g : Nat → Int32} {P : fn_PS} (hB : 150 ≤ B) (h1 : 1 ≤ n) (h : iv_st B n P) : iv_st B n (fn_item on n g L v P).2 := by
  unfold fn_item
  split
  · exact jack_st h
  · exact wh_iv (fun P hP => step_st hB h1 hP) _ _ h
theorem do_st {B : Int} {on : Int32} {n : Nat} {g : Nat → Int32} {lt nu : Nat → Nat} {late : Int32} {d : Nat} (hB : 150 ≤ B) (h1 : 1 ≤ n) : ∀ m k (P : fn_PS), iv_st B n P → iv_st B n (fn_do on n g lt nu late d m k P).2 := by
  intro m
  induction m with
  | zero => intro k P h; exact h
  | succ m ih =>
    intro k P h
    exact ih _ _ (item_st hB h1 (wh_iv (fun P hP => step_st hB h1 hP) _ _ h))
/-! laid back -/
def sg_lb (σ : sg_M) (p : Nat) : sg_M := sg_set (sg_set (sg_set (sg_set (sg_up (sg_up σ 121 p (σ 120 8)) 126 p (σ 120 9)) 122 (fn_lay p 8 (σ 127) (σ 122))) 123 (fn_lay p 8 (σ 128) (σ 123))) 124 (fn_lay p 8 (σ 129) (σ 124))) 125 (fn_lay p 8 (σ 130) (σ 125))
theorem em_lb (σ : sg_M) (p : Nat) (hp : p < 8) : sg_ev 141 σ [sg_r 7 120, sg_i (nI p)] = some (none, sg_lb σ p) := em_layBack σ p hp
theorem lb_121 (σ : sg_M) (p : Nat) : sg_lb σ p 121 = upd (σ 121) p (σ 120 8) := by
  unfold sg_lb
  rw [sg_set_ne (by omega), sg_set_ne (by omega), sg_set_ne (by omega), sg_set_ne (by omega), sg_up_ne (by omega), sg_up_row]
theorem lb_126 (σ : sg_M) (p : Nat) : sg_lb σ p 126 = upd (σ 126) p (σ 120 9) := by
  unfold sg_lb
  rw [sg_set_ne (by omega), sg_set_ne (by omega), sg_set_ne (by omega), sg_set_ne (by omega), sg_up_row, sg_up_ne (by omega)]
theorem lb_122 (σ : sg_M) (p : Nat) : sg_lb σ p 122 = fn_lay p 8 (σ 127) (σ 122) := by
  unfold sg_lb
  rw [sg_set_ne (by omega), sg_set_ne (by omega), sg_set_ne (by omega), sg_set_same]
theorem lb_123 (σ : sg_M) (p : Nat) : sg_lb σ p 123 = fn_lay p 8 (σ 128) (σ 123) := by
  unfold sg_lb
  rw [sg_set_ne (by omega), sg_set_ne (by omega), sg_set_same]
theorem lb_124 (σ : sg_M) (p : Nat) : sg_lb σ p 124 = fn_lay p 8 (σ 129) (σ 124) := by
  unfold sg_lb
  rw [sg_set_ne (by omega), sg_set_same]
theorem lb_125 (σ : sg_M) (p : Nat) : sg_lb σ p 125 = fn_lay p 8 (σ 130) (σ 125) := by
  unfold sg_lb
  rw [sg_set_same]
theorem lb_x (σ : sg_M) (p : Nat) {x : Nat} (h : x < 121 ∨ 126 < x) : sg_lb σ p x = σ x := by
  unfold sg_lb
  rw [sg_set_ne (by omega), sg_set_ne (by omega), sg_set_ne (by omega), sg_set_ne (by omega), sg_up_ne (by omega), sg_up_ne (by omega)]
theorem lay_in {p k : Nat} (f g : Nat → Int32) (hk : k < 8) : fn_lay p 8 f g (8 * p + k) = f k := by
  unfold fn_lay
  rw [if_pos (by omega), show 8 * p + k - 8 * p = k by omega]
theorem lay_out {p q k : Nat} (f g : Nat → Int32) (hk : k < 8) (h : q ≠ p) : fn_lay p 8 f g (8 * q + k) = g (8 * q + k) := by
  unfold fn_lay
  rw [if_neg (by omega)]
/-- alike but for one piece -/
def sg_sm (p : Nat) (σ τ : sg_M) : Prop := τ 0 = σ 0 ∧ (∀ j, (j = 0 ∨ j = 1 ∨ j = 16 ∨ j = 24 ∨ j = 26 ∨ j = 36) → τ 120 j = σ 120 j) ∧ (∀ y, sg_kp y → (y < 19 + 6 * p ∨ 19 + 6 * p + 5 < y) → τ y = σ y) ∧ (∀ i, i < 12 → τ (19 + 6 * i) 0 = σ (19 + 6 * i) 0) ∧ τ 3 0 = σ 3 0
theorem sm_same {p : Nat} {σ τ ω : sg_M} (hp : p < 8) (h : sg_sm p σ τ) (s : sg_same τ ω) : sg_sm p σ ω :=
  ⟨by rw [s.s0, h.1], fun j hj => by rw [s.s120 j hj, h.2.1 j hj], fun y hy hq => by rw [s.sx y hy, h.2.2.1 y hy hq], fun i hi => by rw [s.so i hi, h.2.2.2.1 i hi], by rw [s.sb, h.2.2.2.2]⟩
theorem sm_of {p : Nat} {σ τ : sg_M} (s : sg_same σ τ) : sg_sm p σ τ := ⟨s.s0, s.s120, fun y hy _ => s.sx y hy, s.so, s.sb⟩
theorem sm_tr {p : Nat} {σ τ ω : sg_M} (h : sg_sm p σ τ) (s : sg_sm p τ ω) : sg_sm p σ ω :=
  ⟨by rw [s.1, h.1], fun j hj => by rw [s.2.1 j hj, h.2.1 j hj], fun y hy hq => by rw [s.2.2.1 y hy hq, h.2.2.1 y hy hq], fun i hi => by rw [s.2.2.2.1 i hi, h.2.2.2.1 i hi], by rw [s.2.2.2.2, h.2.2.2.2]⟩
theorem pP_x (σ : sg_M) (c : Nat) (P : fn_PS) (w : Nat → Int32) {x : Nat} (hx : x < c ∨ x = c + 1 ∨ c + 6 ≤ x) : sg_pP σ c P w x = σ x := by unfold sg_pP; exact pm_ne hx
theorem cp_pP (σ : sg_M) (c : Nat) (P : fn_PS) (w : Nat → Int32) : fn_cp (sg_pP σ c P w) c = P := by
  unfold fn_cp
  rw [pP_c7, pP_2, pP_3, pP_4]
theorem pP_on (σ : sg_M) (x : Nat) (P : fn_PS) (w : Nat → Int32) (i : Nat) : sg_pP σ (19 + 6 * x) P w (19 + 6 * i) 0 = σ (19 + 6 * i) 0 := by
  by_cases h : i = x
  · subst h; rw [pP_c _ _ _ _ (by omega)]
  · rw [pP_x _ _ _ _ (by omega)]
theorem sm_pP (σ : sg_M) (p : Nat) (hp : p < 8) (P : fn_PS) (w : Nat → Int32) : sg_sm p σ (sg_pP σ (19 + 6 * p) P w) := by
  refine ⟨pP_x _ _ _ _ (by omega), fun j hj => by rw [pP_x _ _ _ _ (by omega)], fun y hy hq => pP_x _ _ _ _ (by omega), fun i hi => pP_on _ _ _ _ _, by rw [pP_x _ _ _ _ (by omega)]⟩
theorem lb_all {B : Int} {σ τ : sg_M} {p n n0 : Nat} (h : iv_all B σ) (hp : p < 8) (h0 : iv_pc B σ p n0) (hs : sg_sm p σ τ) (hb : 1 ≤ n ∧ n ≤ 8) (hn : τ (19 + 6 * p) 6 = nI n) (hm : τ 120 8 = nI n) (hg : ∀ k, k < n → τ (19 + 6 * p + 1) k = τ 127 k) (hr : rl_ps n (fn_cp τ (19 + 6 * p)) (fn_mp τ)) (hi : iv_ps (τ (19 + 6 * p + 1)) n (fn_cp τ (19 + 6 * p))) (ht : iv_st B n (fn_cp τ (19 + 6 * p))) : iv_all B (sg_lb τ p) ∧ sg_lb τ p 1000 = σ 1000 ∧ sg_lb τ p 999 = σ 999 := by
  obtain ⟨s0, s1, sx, so, sb⟩ := hs
  have k : ∀ y, sg_kp y → (y < 19 + 6 * p ∨ 19 + 6 * p + 5 < y) → (y < 121 ∨ 126 < y) → sg_lb τ p y = σ y := fun y a b c => by rw [lb_x _ _ c, sx y a b]
  have e0 : sg_lb τ p 0 = σ 0 := by rw [lb_x _ _ (by omega), s0]
  have e1 : ∀ j, (j = 0 ∨ j = 1 ∨ j = 16 ∨ j = 24 ∨ j = 26 ∨ j = 36) → sg_lb τ p 120 j = σ 120 j := fun j hj => by rw [lb_x _ _ (by omega), s1 j hj]
  obtain ⟨hS, hR, hA, hF, hJ, hP⟩ := h
  refine ⟨⟨?_, ?_, ?_, ⟨?_, ?_⟩, ?_, ?_⟩, k _ (by unfold sg_kp; omega) (by omega) (by omega), k _ (by unfold sg_kp; omega) (by omega) (by omega)⟩
  · exact iv_S_c hS (fun y _ _ => k y (by unfold sg_kp; omega) (by omega) (by omega)) (k _ (by unfold sg_kp; omega) (by omega) (by omega)) (k _ (by unfold sg_kp; omega) (by omega) (by omega)) (k _ (by unfold sg_kp; omega) (by omega) (by omega))
  · exact iv_R_c hR (by rw [e0]) (e1 16 (by omega)) (fun y _ _ => k y (by unfold sg_kp; omega) (by omega) (by omega)) (k _ (by unfold sg_kp; omega) (by omega) (by omega)) (k _ (by unfold sg_kp; omega) (by omega) (by omega)) (k _ (by unfold sg_kp; omega) (by omega) (by omega))
  · exact iv_A_c hA (by rw [e0]) (e1 24 (by omega)) (k _ (by unfold sg_kp; omega) (by omega) (by omega)) (k _ (by unfold sg_kp; omega) (by omega) (by omega))
  · rw [e0, e1 0 (by omega)]; exact hF.1
  · rw [e0, e1 36 (by omega)]; exact hF.2
  · exact iv_J_c hJ (by rw [k 12 (by unfold sg_kp; omega) (by omega) (by omega)]) (e1 26 (by omega)) (fun y _ _ => k y (by unfold sg_kp; omega) (by omega) (by omega)) (k _ (by unfold sg_kp; omega) (by omega) (by omega)) (k _ (by unfold sg_kp; omega) (by omega) (by omega)) (k _ (by unfold sg_kp; omega) (by omega) (by omega))
  · obtain ⟨o, N, n1, n2, n3, n4⟩ := hP
    refine ⟨⟨fun i hi => by rw [lb_x _ _ (by omega), so i hi]; exact o.1 i hi, by rw [lb_x _ _ (by omega), sb]; exact o.2⟩, N, n1, by rw [e0]; exact n2, by rw [e1 1 (by omega)]; exact n3, fun q hq => ?_⟩
    by_cases hqp : q = p
    · subst hqp
      refine ⟨n, hb, ?_, ?_, ?_, fun k hk => ?_, ?_, ?_⟩
      · rw [lb_x _ _ (by omega)]; exact hn
      · rw [lb_121, upd_same]; exact hm
      · rw [lb_126, upd_same, lb_x _ _ (by omega)]; exact hr.1.symm
      · obtain ⟨r1, r2, r3⟩ := hr.2 k hk
        rw [lb_122, lb_123, lb_124, lb_125, lay_in _ _ (by omega), lay_in _ _ (by omega), lay_in _ _ (by omega), lay_in _ _ (by omega), lb_x _ _ (by omega), lb_x _ _ (by omega), lb_x _ _ (by omega), lb_x _ _ (by omega)]
        exact ⟨(hg k hk).symm, r1.symm, r2.symm, r3.symm⟩
      · have : fn_cp (sg_lb τ q) (19 + 6 * q) = fn_cp τ (19 + 6 * q) := by
          unfold fn_cp
          rw [lb_x _ _ (by omega), lb_x _ _ (by omega), lb_x _ _ (by omega), lb_x _ _ (by omega)]
        rw [this, lb_x _ _ (by omega)]; exact hi
      · have : fn_cp (sg_lb τ q) (19 + 6 * q) = fn_cp τ (19 + 6 * q) := by
          unfold fn_cp
          rw [lb_x _ _ (by omega), lb_x _ _ (by omega), lb_x _ _ (by omega), lb_x _ _ (by omega)]
        rw [this]; exact ht
    · obtain ⟨m, hm⟩ := n4 q hq
      have s121 : τ 121 = σ 121 := sx 121 (by unfold sg_kp; omega) (by omega)
      have s126 : τ 126 = σ 126 := sx 126 (by unfold sg_kp; omega) (by omega)
      refine ⟨m, iv_pc_c (by omega) hm (fun y a b => k y (by unfold sg_kp; omega) (by omega) (by omega)) (by rw [lb_121, upd_ne hqp, s121]) (by rw [lb_126, upd_ne hqp, s126]) (fun y i a b c => ?_)⟩
      rcases (show y = 122 ∨ y = 123 ∨ y = 124 ∨ y = 125 by omega) with rfl | rfl | rfl | rfl
      · rw [lb_122, lay_out _ _ c hqp, sx 122 (by unfold sg_kp; omega) (by omega)]
      · rw [lb_123, lay_out _ _ c hqp, sx 123 (by unfold sg_kp; omega) (by omega)]
      · rw [lb_124, lay_out _ _ c hqp, sx 124 (by unfold sg_kp; omega) (by omega)]
      · rw [lb_125, lay_out _ _ c hqp, sx 125 (by unfold sg_kp; omega) (by omega)]
/-- the class has gone on with a piece, the model takes it up, goes on alike, lays it back -/
theorem go_all {B : Int} {σ : sg_M} {p n : Nat} (h : iv_all B σ) (hp : p < 8) (h0 : iv_pc B σ p n) (P Q : fn_PS) (w w' : Nat → Int32) (t : Int32) (hr : rl_ps n P Q) (hi : iv_ps (σ (19 + 6 * p + 1)) n P) (ht : iv_st B n P) : iv_all B (sg_lb (sg_mP (sg_tk (sg_pP σ (19 + 6 * p) P w) p) t Q w') p) ∧ sg_lb (sg_mP (sg_tk (sg_pP σ (19 + 6 * p) P w) p) t Q w') p 1000 = σ 1000 ∧ sg_lb (sg_mP (sg_tk (sg_pP σ (19 + 6 * p) P w) p) t Q w') p 999 = σ 999 := by
  have e121 : sg_pP σ (19 + 6 * p) P w 121 = σ 121 := pP_x _ _ _ _ (by omega)
  have e122 : sg_pP σ (19 + 6 * p) P w 122 = σ 122 := pP_x _ _ _ _ (by omega)
  have e127 : sg_pP σ (19 + 6 * p) P w 127 = σ 127 := pP_x _ _ _ _ (by omega)
  obtain ⟨nb, hn, hn2, -⟩ := id h0
  have lc : ∀ x, x < 120 → sg_mP (sg_tk (sg_pP σ (19 + 6 * p) P w) p) t Q w' x = sg_pP σ (19 + 6 * p) P w x := fun x hx => by rw [mP_x _ _ _ _ (by omega), tk_x _ _ (by omega) (by omega)]
  have cpe : fn_cp (sg_mP (sg_tk (sg_pP σ (19 + 6 * p) P w) p) t Q w') (19 + 6 * p) = P := by
    have := cp_pP σ (19 + 6 * p) P w
    unfold fn_cp at this ⊢
    rw [lc _ (by omega), lc _ (by omega), lc _ (by omega), lc _ (by omega)]
    exact this
  refine lb_all h hp h0 (sm_same hp (sm_pP σ p hp P w) (same_mP _ p t Q w')) nb ?_ ?_ (fun k hk => ?_) ?_ ?_ ?_
  · rw [lc _ (by omega), pP_c _ _ _ _ (by omega)]; exact hn
  · rw [mP_120 _ _ _ _ (by omega), tk_8, e121]; exact hn2
  · rw [lc _ (by omega), pP_1, mP_x _ _ _ _ (by omega), tk_127, e122, e127]
    exact (tk_rl h0).2.1 k hk
  · rw [cpe, mp_mP]; exact hr
  · rw [cpe, lc _ (by omega), pP_1]; exact hi
  · rw [cpe]; exact ht
/-- the model takes up the piece as the class has it by now -/
theorem tk_pP {σ : sg_M} {p : Nat} (hp : p < 8) (P : fn_PS) (w : Nat → Int32) : sg_tk (sg_pP σ (19 + 6 * p) P w) p 120 8 = σ 121 p ∧ sg_tk (sg_pP σ (19 + 6 * p) P w) p 127 = fn_cut p 8 (σ 122) (σ 127) ∧ fn_tk (sg_pP σ (19 + 6 * p) P w) p = fn_tk σ p := by
  refine ⟨?_, ?_, ?_⟩
  · rw [tk_8, pP_x _ _ _ _ (by omega)]
  · rw [tk_127, pP_x _ _ _ _ (by omega), pP_x _ _ _ _ (by omega)]
  · unfold fn_tk
    rw [pP_x _ _ _ _ (by omega), pP_x _ _ _ _ (by omega), pP_x _ _ _ _ (by omega), pP_x _ _ _ _ (by omega), pP_x _ _ _ _ (by omega), pP_x _ _ _ _ (by omega), pP_x _ _ _ _ (by omega)]
theorem em_fallen {B : Int} {σ : sg_M} {p n : Nat} (hp : p < 8) (h : iv_pc B σ p n) (τ : sg_M) (e : τ 126 = σ 126) : sg_ev 134 τ [sg_r 7 120, sg_i (nI p)] = some (some (sg_i (if 40 < σ (19 + 6 * p) 7 then 1 else 0)), τ) := by
  have i1 : sg_in (nI p) 8 = true := sg_in_nI (by omega) (by omega)
  rw [em_isFallen τ 120 (nI p) i1, sg_nIc (show p < 2 ^ 31 by omega), e, h.2.2.2.1]
theorem cp_self (σ : sg_M) (c : Nat) : sg_pP σ c (fn_cp σ c) (σ (c + 5)) = σ := by
  unfold sg_pP fn_cp
  exact pm_self σ c
theorem pr_tenth {B : Int} {σ : sg_M} (hB : 150 ≤ B) (p kind n : Int32) (h : iv_all B σ) : sg_pair B σ 26 133 [sg_i p, sg_i kind, sg_i n] := by
  rcases pc_cases h.2.2.2.2.2 p with hno | ⟨j, m, hj, rfl, hpc, hp⟩
  · refine pair_same h (sg_i (-1)) σ σ ?_ (same_rfl σ) ?_ (same_rfl σ)
    · simp (decide := true) only [me_26, mq_26_0, mq_26_1, mq_26_2, mq_26_5, mq_26_8, mq_26_9, mq_26_10, mq_26_11, mq_26_14, mq_26_17, mq_26_18, mq_26_19, mq_26_22, mq_26_25, mq_26_28, mq_26_30, mq_26_31, mq_26_32, mq_26_35, mq_26_36, mq_26_37, mq_26_39, mq_26_41, mq_26_44, mq_26_47, mq_26_49, mq_26_50, mq_26_52, mq_26_53, mq_26_54, mq_26_57, mq_26_58, mq_26_60, mq_26_63, (hno σ).1 rfl, Nat.reduceAdd, Nat.reduceMul, Nat.reduceSub, Nat.zero_add, sg_bi_i, sg_bi_n, sg_bz, sg_bb, sg_b_0, sg_b_1, if_true, if_false, not_true_eq_false, not_false_eq_true, true_and, and_true, false_and, and_false, and_self, Int32.reduceSub]
    · simp (decide := true) only [me_133, mq_133_0, mq_133_1, mq_133_2, mq_133_5, mq_133_8, mq_133_9, mq_133_10, mq_133_11, mq_133_12, mq_133_13, mq_133_16, mq_133_19, mq_133_22, mq_133_23, mq_133_24, mq_133_25, mq_133_28, mq_133_31, mq_133_34, mq_133_36, mq_133_37, mq_133_38, mq_133_39, mq_133_42, mq_133_45, mq_133_47, mq_133_48, mq_133_49, mq_133_50, mq_133_53, mq_133_54, mq_133_55, mq_133_56, mq_133_59, mq_133_60, mq_133_61, mq_133_64, mq_133_65, mq_133_68, (hno σ).2 rfl, Nat.reduceAdd, Nat.reduceMul, Nat.reduceSub, Nat.zero_add, sg_bi_i, sg_bi_n, sg_bz, sg_bb, sg_b_0, sg_b_1, if_true, if_false, not_true_eq_false, not_false_eq_true, true_and, and_true, false_and, and_false, and_self, Int32.reduceSub]
  · have e1 := (hp σ).1 rfl
    have e2 := (hp σ).2 rfl
    have i1 : sg_in (nI j) 8 = true := sg_in_nI (by omega) (by omega)
    have cj : (nI j).toNatClampNeg = j := sg_nIc (by omega)
    obtain ⟨⟨n1, n8⟩, hn, hn2, ho, -, hi, hst⟩ := id hpc
    have k64 := sg_i64 kind 0 3 0 3 (by decide) (by decide)
    have n64 := sg_i64 n 0 200 0 200 (by decide) (by decide)
    by_cases hk : 0 ≤ kind ∧ kind ≤ 3
    · by_cases hnn : 0 ≤ n ∧ n ≤ 200
      · by_cases hf : 40 < σ (19 + 6 * j) 7
        · have f1 := em_fallen hj hpc σ rfl
          refine pair_same h (sg_i (-3)) σ σ ?_ (same_rfl σ) ?_ (same_rfl σ)
          · simp (decide := true) only [me_26, mq_26_0, mq_26_1, mq_26_2, mq_26_5, mq_26_8, mq_26_9, mq_26_10, mq_26_11, mq_26_14, mq_26_17, mq_26_18, mq_26_19, mq_26_22, mq_26_25, mq_26_28, mq_26_30, mq_26_31, mq_26_32, mq_26_35, mq_26_36, mq_26_37, mq_26_39, mq_26_41, mq_26_44, mq_26_47, mq_26_49, mq_26_50, mq_26_52, mq_26_53, mq_26_54, mq_26_57, mq_26_58, mq_26_60, mq_26_63, e1, ev_isKind, ev_within, hk, hnn, i1, cj, ev_hasFallen, hf, Nat.reduceAdd, Nat.reduceMul, Nat.reduceSub, Nat.zero_add, sg_bi_i, sg_bi_n, sg_bz, sg_bb, sg_b_0, sg_b_1, if_true, if_false, not_true_eq_false, not_false_eq_true, true_and, and_true, false_and, and_false, and_self, Int32.reduceSub]
          · simp (decide := true) only [me_133, mq_133_0, mq_133_1, mq_133_2, mq_133_5, mq_133_8, mq_133_9, mq_133_10, mq_133_11, mq_133_12, mq_133_13, mq_133_16, mq_133_19, mq_133_22, mq_133_23, mq_133_24, mq_133_25, mq_133_28, mq_133_31, mq_133_34, mq_133_36, mq_133_37, mq_133_38, mq_133_39, mq_133_42, mq_133_45, mq_133_47, mq_133_48, mq_133_49, mq_133_50, mq_133_53, mq_133_54, mq_133_55, mq_133_56, mq_133_59, mq_133_60, mq_133_61, mq_133_64, mq_133_65, mq_133_68, e2, em_in, k64, n64, hk, hnn, f1, hf, Nat.reduceAdd, Nat.reduceMul, Nat.reduceSub, Nat.zero_add, sg_bi_i, sg_bi_n, sg_bz, sg_bb, sg_b_0, sg_b_1, if_true, if_false, not_true_eq_false, not_false_eq_true, true_and, and_true, false_and, and_false, and_self, Int32.reduceSub]
        · obtain ⟨N, hN, rfl⟩ := nI_of2 (x := n) (M := 200) (n := 200) (by decide) (by rw [Int32.not_lt]; exact hnn.1) hnn.2
          have on1 := h.2.2.2.2.2.1.1 j (by omega)
          obtain ⟨w1, g1⟩ := ev_goTenths σ (19 + 6 * j) m N kind (fn_cp σ (19 + 6 * j)) (σ (19 + 6 * j + 5)) n1 n8 hn (by omega) hi
          rw [cp_self, on1] at g1
          generalize hP : (fn_wh fn_nf (fn_step 1 m (σ (19 + 6 * j + 1)) kind) N (fn_cp σ (19 + 6 * j))).2 = P at g1
          have hPi : iv_ps (σ (19 + 6 * j + 1)) m P := by rw [← hP]; exact wh_iv (fun P hP => step_iv n1 hP) N _ hi
          have hPs : iv_st B m P := by rw [← hP]; exact wh_iv (fun P hP => step_st hB n1 hP) N _ hst
          obtain ⟨q1, q2, q3⟩ := tk_pP (σ := σ) hj P w1
          obtain ⟨r1, r2, r3⟩ := tk_rl hpc
          have e2' := (hp (sg_pP σ (19 + 6 * j) P w1)).2 (by rw [pP_x _ _ _ _ (by omega)])
          have f1 := em_fallen hj hpc (sg_pP σ (19 + 6 * j) P w1) (pP_x _ _ _ _ (by omega))
          have t1 := em_takeUp (sg_pP σ (19 + 6 * j) P w1) j hj
          obtain ⟨w2, g2⟩ := em_goTenths (sg_tk (sg_pP σ (19 + 6 * j) P w1) j) m N kind 0 (fn_tk (sg_pP σ (19 + 6 * j) P w1) j) (sg_pP σ (19 + 6 * j) P w1 131) n1 n8 (by rw [q1]; exact hn2) (by omega) (by rw [q2, q3]; exact r3)
          have rel := wh_rel (I := rl_ps m) (c1 := fn_nf) (c2 := fn_nf) (s1 := fn_step 1 m (σ (19 + 6 * j + 1)) kind) (s2 := fn_step 1 m (fn_cut j 8 (σ 122) (σ 127)) kind) (fun P Q hPQ => by unfold fn_nf; rw [hPQ.1]) (fun P Q hPQ => step_rl n1 r2 hPQ) N _ _ r1
          rw [q2, q3] at g2
          rw [hP] at rel
          generalize hQ : (fn_wh fn_nf (fn_step 1 m (fn_cut j 8 (σ 122) (σ 127)) kind) N (fn_tk σ j)).2 = Q at g2 rel
          have fin := go_all h hj hpc P Q w1 w2 (0 + nI (fn_wh fn_nf (fn_step 1 m (fn_cut j 8 (σ 122) (σ 127)) kind) N (fn_tk σ j)).1) rel.2 hPi hPs
          refine ⟨sg_i P.1, sg_pP σ (19 + 6 * j) P w1, _, ?_, ?_, fin⟩
          · simp (decide := true) only [me_26, mq_26_0, mq_26_1, mq_26_2, mq_26_5, mq_26_8, mq_26_9, mq_26_10, mq_26_11, mq_26_14, mq_26_17, mq_26_18, mq_26_19, mq_26_22, mq_26_25, mq_26_28, mq_26_30, mq_26_31, mq_26_32, mq_26_35, mq_26_36, mq_26_37, mq_26_39, mq_26_41, mq_26_44, mq_26_47, mq_26_49, mq_26_50, mq_26_52, mq_26_53, mq_26_54, mq_26_57, mq_26_58, mq_26_60, mq_26_63, e1, ev_isKind, ev_within, hk, hnn, i1, cj, ev_hasFallen, hf, g1, pP_c7, Nat.reduceAdd, Nat.reduceMul, Nat.reduceSub, Nat.zero_add, sg_bi_i, sg_bi_n, sg_bz, sg_bb, sg_b_0, sg_b_1, if_true, if_false, not_true_eq_false, not_false_eq_true, true_and, and_true, false_and, and_false, and_self, Int32.reduceSub]
          · rw [q3] at t1
            simp (decide := true) only [me_133, mq_133_0, mq_133_1, mq_133_2, mq_133_5, mq_133_8, mq_133_9, mq_133_10, mq_133_11, mq_133_12, mq_133_13, mq_133_16, mq_133_19, mq_133_22, mq_133_23, mq_133_24, mq_133_25, mq_133_28, mq_133_31, mq_133_34, mq_133_36, mq_133_37, mq_133_38, mq_133_39, mq_133_42, mq_133_45, mq_133_47, mq_133_48, mq_133_49, mq_133_50, mq_133_53, mq_133_54, mq_133_55, mq_133_56, mq_133_59, mq_133_60, mq_133_61, mq_133_64, mq_133_65, mq_133_68, e2', em_in, k64, n64, hk, hnn, f1, hf, t1, g2, em_lb _ j hj, lb_x _ _ (show 120 < 121 ∨ 126 < 120 by omega), mP_9, rel.2.1, Nat.reduceAdd, Nat.reduceMul, Nat.reduceSub, Nat.zero_add, sg_bi_i, sg_bi_n, sg_bz, sg_bb, sg_b_0, sg_b_1, if_true, if_false, not_true_eq_false, not_false_eq_true, true_and, and_true, false_and, and_false, and_self, Int32.reduceSub]
      · refine pair_same h (sg_i (-2)) σ σ ?_ (same_rfl σ) ?_ (same_rfl σ)
        · simp (decide := true) only [me_26, mq_26_0, mq_26_1, mq_26_2, mq_26_5, mq_26_8, mq_26_9, mq_26_10, mq_26_11, mq_26_14, mq_26_17, mq_26_18, mq_26_19, mq_26_22, mq_26_25, mq_26_28, mq_26_30, mq_26_31, mq_26_32, mq_26_35, mq_26_36, mq_26_37, mq_26_39, mq_26_41, mq_26_44, mq_26_47, mq_26_49, mq_26_50, mq_26_52, mq_26_53, mq_26_54, mq_26_57, mq_26_58, mq_26_60, mq_26_63, e1, ev_isKind, ev_within, hk, hnn, Nat.reduceAdd, Nat.reduceMul, Nat.reduceSub, Nat.zero_add, sg_bi_i, sg_bi_n, sg_bz, sg_bb, sg_b_0, sg_b_1, if_true, if_false, not_true_eq_false, not_false_eq_true, true_and, and_true, false_and, and_false, and_self, Int32.reduceSub]
        · simp (decide := true) only [me_133, mq_133_0, mq_133_1, mq_133_2, mq_133_5, mq_133_8, mq_133_9, mq_133_10, mq_133_11, mq_133_12, mq_133_13, mq_133_16, mq_133_19, mq_133_22, mq_133_23, mq_133_24, mq_133_25, mq_133_28, mq_133_31, mq_133_34, mq_133_36, mq_133_37, mq_133_38, mq_133_39, mq_133_42, mq_133_45, mq_133_47, mq_133_48, mq_133_49, mq_133_50, mq_133_53, mq_133_54, mq_133_55, mq_133_56, mq_133_59, mq_133_60, mq_133_61, mq_133_64, mq_133_65, mq_133_68, e2, em_in, k64, n64, hk, hnn, Nat.reduceAdd, Nat.reduceMul, Nat.reduceSub, Nat.zero_add, sg_bi_i, sg_bi_n, sg_bz, sg_bb, sg_b_0, sg_b_1, if_true, if_false, not_true_eq_false, not_false_eq_true, true_and, and_true, false_and, and_false, and_self, Int32.reduceSub]
    · refine pair_same h (sg_i (-2)) σ σ ?_ (same_rfl σ) ?_ (same_rfl σ)
      · simp (decide := true) only [me_26, mq_26_0, mq_26_1, mq_26_2, mq_26_5, mq_26_8, mq_26_9, mq_26_10, mq_26_11, mq_26_14, mq_26_17, mq_26_18, mq_26_19, mq_26_22, mq_26_25, mq_26_28, mq_26_30, mq_26_31, mq_26_32, mq_26_35, mq_26_36, mq_26_37, mq_26_39, mq_26_41, mq_26_44, mq_26_47, mq_26_49, mq_26_50, mq_26_52, mq_26_53, mq_26_54, mq_26_57, mq_26_58, mq_26_60, mq_26_63, e1, ev_isKind, ev_within, hk, Nat.reduceAdd, Nat.reduceMul, Nat.reduceSub, Nat.zero_add, sg_bi_i, sg_bi_n, sg_bz, sg_bb, sg_b_0, sg_b_1, if_true, if_false, not_true_eq_false, not_false_eq_true, true_and, and_true, false_and, and_false, and_self, Int32.reduceSub]
      · simp (decide := true) only [me_133, mq_133_0, mq_133_1, mq_133_2, mq_133_5, mq_133_8, mq_133_9, mq_133_10, mq_133_11, mq_133_12, mq_133_13, mq_133_16, mq_133_19, mq_133_22, mq_133_23, mq_133_24, mq_133_25, mq_133_28, mq_133_31, mq_133_34, mq_133_36, mq_133_37, mq_133_38, mq_133_39, mq_133_42, mq_133_45, mq_133_47, mq_133_48, mq_133_49, mq_133_50, mq_133_53, mq_133_54, mq_133_55, mq_133_56, mq_133_59, mq_133_60, mq_133_61, mq_133_64, mq_133_65, mq_133_68, e2, em_in, k64, n64, hk, Nat.reduceAdd, Nat.reduceMul, Nat.reduceSub, Nat.zero_add, sg_bi_i, sg_bi_n, sg_bz, sg_bb, sg_b_0, sg_b_1, if_true, if_false, not_true_eq_false, not_false_eq_true, true_and, and_true, false_and, and_false, and_self, Int32.reduceSub]
