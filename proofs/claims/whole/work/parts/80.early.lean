/-! EARLIEST: the model sorts a row -/
theorem is_perm_l (ah : Nat → Nat → Bool) : ∀ (l acc : List Nat), (l.foldl (fun acc i => fn_ins ah i acc) acc).Perm (l ++ acc) := by
  intro l
  induction l with
  | nil => intro acc; exact List.Perm.refl _
  | cons i l ih =>
    intro acc
    refine (ih (fn_ins ah i acc)).trans ?_
    refine (List.Perm.append_left l (ins_perm ah i acc)).trans ?_
    exact List.perm_middle
theorem is_perm (ah : Nat → Nat → Bool) (l : List Nat) : (fn_is ah l).Perm l := by
  have := is_perm_l ah l []
  rw [List.append_nil] at this
  exact this
section EARLY
variable {m b : Nat → Int32} {mN bN : Nat → Nat} {J : Nat}
theorem em_inner (acc : List Nat) (i S x : Nat) (hx : acc.length = x) (x6 : x ≤ 6) (hi : i < J) (ha : ∀ k, k < x → acc.getD k 0 < J) : ∀ y (M : sg_M) (y4 : sg_V), y ≤ x → iv_jm M J m b mN bN → (∀ k, k ≤ x → M 141 k = nI ((acc.take y ++ i :: acc.drop y).getD k 0)) →
    ∃ (M' : sg_M) (y3 : Int32) (y4' : sg_V), sg_rv 174 17 M [sg_r 7 120, sg_i (nI S), sg_i (nI x), sg_i (nI y), y4] [] = sg_rv 174 80 M' [sg_r 7 120, sg_i (nI S), sg_i (nI x), sg_i y3, y4'] [] ∧ sg_rw M M' ∧ M' 120 30 = M 120 30 ∧ (∀ k, k ≤ x → M' 141 k = nI ((acc.take (fn_pos (fn_ah m b) i acc y) ++ i :: acc.drop (fn_pos (fn_ah m b) i acc y)).getD k 0)) ∧ ∀ k, x < k → M' 141 k = M 141 k := by
  intro y
  induction y with
  | zero =>
    intro M y4 hy hj hr
    refine ⟨M, nI 0, y4, ?_, rw_rfl M, rfl, hr, fun _ _ => rfl⟩
    have z : (0 : Int32) < nI 0 ↔ False := by decide
    simp (decide := true) only [mq_174_17, mq_174_18, z, Nat.reduceAdd, Nat.reduceMul, Nat.reduceSub, Nat.zero_add, sg_bi_i, sg_bi_n, sg_bz, sg_bb, sg_b_0, sg_b_1, if_true, if_false, not_true_eq_false, not_false_eq_true, true_and, and_true, false_and, and_false, and_self, Int32.reduceSub]
  | succ y ih =>
    intro M y4 hy hj hr
    have J7 := hj.1
    have i1 : sg_in (nI y) 7 = true := sg_in_nI (by omega) (by omega)
    have c1 : (nI y).toNatClampNeg = y := sg_nIc (by omega)
    have i2 : sg_in (nI (y + 1)) 7 = true := sg_in_nI (by omega) (by omega)
    have c2 : (nI (y + 1)).toNatClampNeg = y + 1 := sg_nIc (by omega)
    have pz : (0 : Int32) < nI (y + 1) := nI_lt (a := 0) (by omega) (by omega)
    have r1 : M 141 (y + 1) = nI i := by rw [hr (y + 1) (by omega), getD_ins (by omega), if_neg (by omega), if_pos rfl]
    have r2 : M 141 y = nI (acc.getD y 0) := by rw [hr y (by omega), getD_ins (by omega), if_pos (by omega)]
    have hy7 := ha y (by omega)
    have hah := em_ahead M m b i (acc.getD y 0) (by omega) (by omega) (hj.2.2.2 i hi).2.1 (hj.2.2.2 i hi).2.2 (hj.2.2.2 _ hy7).2.1 (hj.2.2.2 _ hy7).2.2
    simp only [fn_pos]
    by_cases h : fn_ah m b i (acc.getD y 0) = true
    · rw [if_pos h]
      generalize hN : sg_up (sg_up M 141 (y + 1) (nI (acc.getD y 0))) 141 y (nI i) = N
      have w1 : sg_rw M N := ⟨fun j _ => by rw [← hN, sg_up_ne (by omega), sg_up_ne (by omega)], fun z _ z2 => by rw [← hN, sg_up_ne z2, sg_up_ne z2]⟩
      have n30 : N 120 30 = M 120 30 := by rw [← hN, sg_up_ne (by omega), sg_up_ne (by omega)]
      have n141 : N 141 = upd (upd (M 141) (y + 1) (nI (acc.getD y 0))) y (nI i) := by rw [← hN, sg_up_row, sg_up_row]
      obtain ⟨M', y3, y4', g1, g2, g3, g4, g5⟩ := ih N (sg_i (nI i)) (by omega) (jm_rw hj w1) (fun k hk => by
        rw [n141, getD_ins (by omega)]
        by_cases k1 : k < y
        · rw [if_pos k1, upd_ne (by omega), upd_ne (by omega), hr k hk, getD_ins (by omega), if_pos (by omega)]
        · rw [if_neg k1]
          by_cases k2 : k = y
          · rw [if_pos k2, k2, upd_same]
          · rw [if_neg k2, upd_ne k2]
            by_cases k3 : k = y + 1
            · rw [k3, upd_same]; rfl
            · rw [upd_ne k3, hr k hk, getD_ins (by omega), if_neg (by omega), if_neg k3])
      refine ⟨M', y3, y4', ?_, rw_tr w1 g2, by rw [g3, n30], g4, fun k hk => by rw [g5 k hk, n141, upd_ne (by omega), upd_ne (by omega)]⟩
      simp (decide := true) only [mq_174_17, mq_174_18, pz, Nat.reduceAdd, Nat.reduceMul, Nat.reduceSub, Nat.zero_add, sg_bi_i, sg_bi_n, sg_bz, sg_bb, sg_b_0, sg_b_1, if_true, if_false, not_true_eq_false, not_false_eq_true, true_and, and_true, false_and, and_false, and_self, Int32.reduceSub]
      rw [← g1]
      have u1 : ∀ v, sg_up M 141 (y + 1) v 141 = upd (M 141) (y + 1) v := fun v => sg_up_row _ _ _ _
      simp (decide := true) only [mq_174_21, mq_174_22, mq_174_23, mq_174_26, mq_174_27, mq_174_28, mq_174_29, mq_174_32, mq_174_33, mq_174_34, mq_174_35, mq_174_36, mq_174_39, mq_174_42, mq_174_43, mq_174_46, mq_174_47, mq_174_48, mq_174_50, mq_174_51, mq_174_54, mq_174_55, mq_174_56, mq_174_59, mq_174_60, mq_174_61, mq_174_62, mq_174_63, mq_174_64, mq_174_65, mq_174_68, mq_174_69, mq_174_70, mq_174_71, mq_174_73, mq_174_74, mq_174_77, i1, c1, i2, c2, nI_pred, r1, r2, hah, h, pk_m1, hN, Nat.reduceAdd, Nat.reduceMul, Nat.reduceSub, Nat.zero_add, sg_bi_i, sg_bi_n, sg_bz, sg_bb, sg_b_0, sg_b_1, if_true, if_false, not_true_eq_false, not_false_eq_true, true_and, and_true, false_and, and_false, and_self, Int32.reduceSub]
    · rw [if_neg h]
      refine ⟨M, nI (y + 1), y4, ?_, rw_rfl M, rfl, hr, fun _ _ => rfl⟩
      simp (decide := true) only [mq_174_17, mq_174_18, mq_174_21, mq_174_22, mq_174_23, mq_174_26, mq_174_27, mq_174_28, mq_174_29, mq_174_32, mq_174_33, mq_174_34, mq_174_35, mq_174_36, mq_174_39, pz, i1, c1, i2, c2, nI_pred, r1, r2, hah, h, Nat.reduceAdd, Nat.reduceMul, Nat.reduceSub, Nat.zero_add, sg_bi_i, sg_bi_n, sg_bz, sg_bb, sg_b_0, sg_b_1, if_true, if_false, not_true_eq_false, not_false_eq_true, true_and, and_true, false_and, and_false, and_self, Int32.reduceSub]
theorem em_outer (l : List Nat) (S : Nat) (h7 : l.length ≤ 7) (hl : ∀ k, k < l.length → l.getD k 0 < J) : ∀ n x (M : sg_M) (y3 y4 : sg_V), x + n = l.length → 1 ≤ x → iv_jm M J m b mN bN → M 120 30 = nI l.length → (∀ k, k < x → M 141 k = nI ((fn_is (fn_ah m b) (l.take x)).getD k 0)) → (∀ k, x ≤ k → k < l.length → M 141 k = nI (l.getD k 0)) →
    ∃ (M' : sg_M) (y3' y4' : sg_V), sg_rv 174 7 M [sg_r 7 120, sg_i (nI S), sg_i (nI x), y3, y4] [] = sg_rv 174 86 M' [sg_r 7 120, sg_i (nI S), sg_i (nI l.length), y3', y4'] [] ∧ sg_rw M M' ∧ iv_row M' (fn_is (fn_ah m b) l) := by
  intro n
  induction n with
  | zero =>
    intro x M y3 y4 hx x1 hj h30 hr1 hr2
    obtain rfl : x = l.length := by omega
    refine ⟨M, y3, y4, ?_, rw_rfl M, by rw [(is_perm _ l).length_eq]; exact h30, fun k hk => ?_⟩
    · simp (decide := true) only [mq_174_7, mq_174_8, mq_174_9, mq_174_12, h30, nI_ltI (show l.length < 2 ^ 31 by omega) (show l.length < 2 ^ 31 by omega), show ¬ l.length < l.length by omega, Nat.reduceAdd, Nat.reduceMul, Nat.reduceSub, Nat.zero_add, sg_bi_i, sg_bi_n, sg_bz, sg_bb, sg_b_0, sg_b_1, if_true, if_false, not_true_eq_false, not_false_eq_true, true_and, and_true, false_and, and_false, and_self, Int32.reduceSub]
    · rw [(is_perm _ l).length_eq] at hk
      have := hr1 k hk
      rw [List.take_length] at this
      exact this
  | succ n ih =>
    intro x M y3 y4 hx x1 hj h30 hr1 hr2
    have hxl : x < l.length := by omega
    have hlen : (fn_is (fn_ah m b) (l.take x)).length = x := by rw [(is_perm _ _).length_eq, List.length_take]; omega
    have hacc : ∀ k, k < x → (fn_is (fn_ah m b) (l.take x)).getD k 0 < J := fun k hk => by
      have h1 := (is_perm (fn_ah m b) (l.take x)).mem_iff.mp (getD_mem (by rw [hlen]; exact hk))
      have h2 := List.mem_of_mem_take h1
      obtain ⟨z, hz, e⟩ := List.getElem_of_mem h2
      have := hl z hz
      rw [List.getD_eq_getElem?_getD, List.getElem?_eq_getElem hz, Option.getD_some, e] at this
      exact this
    obtain ⟨M1, z3, z4, g1, g2, g3, g4, g5⟩ := em_inner (m := m) (b := b) (mN := mN) (bN := bN) (fn_is (fn_ah m b) (l.take x)) (l.getD x 0) S x hlen (by omega) (hl x hxl) hacc x M y4 (Nat.le_refl x) hj (fun k hk => by
      rw [getD_ins (by omega)]
      by_cases k1 : k < x
      · rw [if_pos k1]; exact hr1 k k1
      · rw [if_neg k1, if_pos (by omega), show k = x by omega]
        exact hr2 x (Nat.le_refl x) hxl)
    obtain ⟨M', w3, w4, f1, f2, f3⟩ := ih (x + 1) M1 (sg_i z3) z4 (by omega) (by omega) (jm_rw hj g2) (by rw [g3]; exact h30) (fun k hk => by
      rw [take_s hxl, is_snoc, fn_ins_pos, hlen]
      exact g4 k (by omega)) (fun k k1 k2 => by rw [g5 k (by omega)]; exact hr2 k (by omega) k2)
    refine ⟨M', w3, w4, ?_, rw_tr g2 f2, f3⟩
    rw [← f1]
    generalize hX : sg_rv 174 7 M1 [sg_r 7 120, sg_i (nI S), sg_i (nI (x + 1)), sg_i z3, z4] [] = X
    simp (decide := true) only [mq_174_7, mq_174_8, mq_174_9, mq_174_12, mq_174_15, mq_174_16, h30, nI_ltI (show x < 2 ^ 31 by omega) (show l.length < 2 ^ 31 by omega), hxl, g1, Nat.reduceAdd, Nat.reduceMul, Nat.reduceSub, Nat.zero_add, sg_bi_i, sg_bi_n, sg_bz, sg_bb, sg_b_0, sg_b_1, if_true, if_false, not_true_eq_false, not_false_eq_true, true_and, and_true, false_and, and_false, and_self, Int32.reduceSub]
    simp (decide := true) only [mq_174_80, mq_174_83, nI_1, hX, Nat.reduceAdd, Nat.reduceMul, Nat.reduceSub, Nat.zero_add, sg_bi_i, sg_bi_n, sg_bz, sg_bb, sg_b_0, sg_b_1, if_true, if_false, not_true_eq_false, not_false_eq_true, true_and, and_true, false_and, and_false, and_self, Int32.reduceSub]
theorem em_early {σ : sg_M} (hj : iv_jm σ J m b mN bN) (S : Nat) (hS : S < 2 ^ J) : ∃ M' : sg_M, sg_ev 174 σ [sg_r 7 120, sg_i (nI S)] = some (some (sg_i (nI (jb_best m b mN bN J S (0, 0)))), M') ∧ sg_rw σ M' := by
  obtain ⟨J7, hc, hbd, hab⟩ := id hj
  obtain ⟨M1, a1, a2, a3, a4⟩ := em_layRow σ J S J7 hS hc
  have e := jb_mem_range J7 hS
  have hlt : ∀ k, k < (jb_mem S).length → (jb_mem S).getD k 0 < J := fun k hk => by
    have := getD_mem hk
    rw [e] at this ⊢
    exact List.mem_range.mp (List.mem_filter.mp this).1
  have h7 : (jb_mem S).length ≤ 7 := by
    have := List.length_filter_le (jb_has S) [0, 1, 2, 3, 4, 5, 6]
    exact this
  have hb : jb_best m b mN bN J S (0, 0) = (jb_run mN bN (0, 0) (fn_is (fn_ah m b) (jb_mem S))).2 := by
    unfold jb_best jb_srt
    rw [rk_filter, ← e]
  have key : ∃ (M2 : sg_M) (x y3 y4 : sg_V), sg_rv 174 7 M1 [sg_r 7 120, sg_i (nI S), sg_i 1, sg_r 0 0, sg_r 0 0] [] = sg_rv 174 86 M2 [sg_r 7 120, sg_i (nI S), x, y3, y4] [] ∧ sg_rw M1 M2 ∧ iv_row M2 (fn_is (fn_ah m b) (jb_mem S)) := by
    cases hm : jb_mem S with
    | nil =>
      rw [hm] at a3
      refine ⟨M1, sg_i 1, sg_r 0 0, sg_r 0 0, ?_, rw_rfl M1, ⟨a3, fun k hk => absurd hk (by simp [fn_is])⟩⟩
      have e0 : M1 120 30 = 0 := a3
      simp (decide := true) only [mq_174_7, mq_174_8, mq_174_9, mq_174_12, e0, Nat.reduceAdd, Nat.reduceMul, Nat.reduceSub, Nat.zero_add, sg_bi_i, sg_bi_n, sg_bz, sg_bb, sg_b_0, sg_b_1, if_true, if_false, not_true_eq_false, not_false_eq_true, true_and, and_true, false_and, and_false, and_self, Int32.reduceSub]
    | cons x t =>
      rw [hm] at a3 a4 hlt h7
      obtain ⟨M2, y3, y4, f1, f2, f3⟩ := em_outer (m := m) (b := b) (mN := mN) (bN := bN) (x :: t) S h7 hlt t.length 1 M1 (sg_r 0 0) (sg_r 0 0) (by rw [List.length_cons]; omega) (Nat.le_refl 1) (jm_rw hj a2) a3 (fun k hk => by
        have := a4 k (by rw [List.length_cons]; omega)
        rw [this, show k = 0 by omega]
        rfl) (fun k _ hk => a4 k hk)
      exact ⟨M2, _, y3, y4, f1, f2, f3⟩
  obtain ⟨M2, x, y3, y4, f1, f2, f3⟩ := key
  have hd := em_done (jm_rw (jm_rw hj a2) f2) (fn_is (fn_ah m b) (jb_mem S)) (by rw [(is_perm _ _).length_eq]; exact h7) (fun k hk => by
    have h1 := (is_perm (fn_ah m b) (jb_mem S)).mem_iff.mp (getD_mem hk)
    have h2 : ∀ z ∈ jb_mem S, z < J := fun z hz => by rw [e] at hz; exact List.mem_range.mp (List.mem_filter.mp hz).1
    exact h2 _ h1) f3
  refine ⟨M2, ?_, rw_tr a2 f2⟩
  rw [hb]
  simp (decide := true) only [me_174, mq_174_0, mq_174_1, mq_174_2, mq_174_5, mq_174_6, a1, f1, Nat.reduceAdd, Nat.reduceMul, Nat.reduceSub, Nat.zero_add, sg_bi_i, sg_bi_n, sg_bz, sg_bb, sg_b_0, sg_b_1, if_true, if_false, not_true_eq_false, not_false_eq_true, true_and, and_true, false_and, and_false, and_self, Int32.reduceSub]
  simp (decide := true) only [mq_174_86, mq_174_87, mq_174_90, hd, Nat.reduceAdd, Nat.reduceMul, Nat.reduceSub, Nat.zero_add, sg_bi_i, sg_bi_n, sg_bz, sg_bb, sg_b_0, sg_b_1, if_true, if_false, not_true_eq_false, not_false_eq_true, true_and, and_true, false_and, and_false, and_self, Int32.reduceSub]
end EARLY
