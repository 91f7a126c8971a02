theorem em_next (M : sg_M) (l r : List Nat) (h7 : l.length ≤ 7) (hlt : ∀ k, k < l.length → l.getD k 0 < 7) (hr : iv_row M l) (hn : jb_nx l.length l = some r) : ∃ M' : sg_M, sg_ev 179 M [sg_r 7 120] = some (none, M') ∧ iv_row M' r ∧ sg_rw M M' := by
  have r30 := hr.1
  generalize hN : l.length = N at hn r30
  match N, hN, hn, r30 with
  | 0, _, hn, _ => simp [jb_nx] at hn
  | 1, _, hn, _ => simp [jb_nx] at hn
  | n + 2, hN, hn, r30 =>
    simp only [jb_nx] at hn
    cases hp : nx_p l n with
    | none => rw [hp] at hn; simp at hn
    | some x =>
      rw [hp] at hn
      simp only [ls_g_D] at hn
      cases hy : nx_y l (l.getD x 0) (n + 1) with
      | none => rw [hy] at hn; simp at hn
      | some y =>
        rw [hy] at hn
        simp only [Option.some.injEq] at hn
        obtain ⟨a1, a2⟩ := em_piv h7 hlt hr (sg_r 0 0) (sg_r 0 0) (sg_r 0 0) n x (by omega) hp
        obtain ⟨b1, b2⟩ := em_py h7 hlt hr x (by omega) (sg_r 0 0) (sg_r 0 0) (n + 1) y (by omega) hy
        obtain ⟨M1, s1, s2, s3⟩ := em_swap M l x y h7 (by omega) (by omega) hr
        obtain ⟨M', g1, g2, g3⟩ := em_rev (nI x) (nI y) 7 (ls_sw l x y) (x + 1) (n + 1) M1 (by rw [sw_len]; exact h7) (by omega) (by omega) (by rw [sw_len]; omega) s2
        rw [hn] at g2
        have e1 : M1 120 30 = nI (n + 2) := by
          have := s2.1
          rw [sw_len, hN] at this
          exact this
        have m2 : nI (n + 2) - 2 = nI n := by rw [show (2 : Int32) = nI 2 from rfl, pk_sub (by omega)]; rfl
        have m1 : nI (n + 2) - 1 = nI (n + 1) := nI_pred (n + 1)
        refine ⟨M', ?_, g2, rw_tr s3 g3⟩
        rw [← g1]
        simp (decide := true) only [me_179, mq_179_0, mq_179_1, mq_179_4, mq_179_5, mq_179_6, r30, m2, a2, Nat.reduceAdd, Nat.reduceMul, Nat.reduceSub, Nat.zero_add, sg_bi_i, sg_bi_n, sg_bz, sg_bb, sg_b_0, sg_b_1, if_true, if_false, not_true_eq_false, not_false_eq_true, true_and, and_true, false_and, and_false, and_self, Int32.reduceSub]
        simp (decide := true) only [mq_179_30, mq_179_31, mq_179_34, mq_179_35, mq_179_36, r30, m1, b2, Nat.reduceAdd, Nat.reduceMul, Nat.reduceSub, Nat.zero_add, sg_bi_i, sg_bi_n, sg_bz, sg_bb, sg_b_0, sg_b_1, if_true, if_false, not_true_eq_false, not_false_eq_true, true_and, and_true, false_and, and_false, and_self, Int32.reduceSub]
        simp (decide := true) only [mq_179_58, mq_179_59, mq_179_60, mq_179_61, mq_179_64, mq_179_65, mq_179_68, mq_179_69, mq_179_70, mq_179_71, mq_179_72, mq_179_73, mq_179_74, s1, e1, m1, nI_1, Nat.reduceAdd, Nat.reduceMul, Nat.reduceSub, Nat.zero_add, sg_bi_i, sg_bi_n, sg_bz, sg_bb, sg_b_0, sg_b_1, if_true, if_false, not_true_eq_false, not_false_eq_true, true_and, and_true, false_and, and_false, and_self, Int32.reduceSub]
section ORD2
variable {J : Nat} {m b : Nat → Int32} {mN bN : Nat → Nat}
theorem em_ord_l (N S k least : Nat) (hN : N ≤ 7) (hl : least ≤ 20000) : ∀ (t : List (List Nat)) (a r : List Nat) (M : sg_M), jb_ck N a t = true → (∀ z ∈ a :: t, z.length = N ∧ ∀ i, i < N → z.getD i 0 < J) → (a :: t).find? (fun r => Nat.ble (jb_run mN bN (0, 0) r).2 least) = some r → iv_row M a → iv_jm M J m b mN bN → ∃ M' : sg_M, sg_rv 173 53 M [sg_r 7 120, sg_i (nI S), sg_i (nI k), sg_i (nI least)] [] = sg_rv 173 68 M' [sg_r 7 120, sg_i (nI S), sg_i (nI k), sg_i (nI least)] [] ∧ iv_row M' r ∧ sg_rw M M' := by
  have one : ∀ (a : List Nat) (M : sg_M), a.length = N → (∀ i, i < N → a.getD i 0 < J) → iv_row M a → iv_jm M J m b mN bN → sg_ev 178 M [sg_r 7 120] = some (some (sg_i (nI (jb_run mN bN (0, 0) a).2)), M) ∧ (jb_run mN bN (0, 0) a).2 ≤ 20000 := by
    intro a M h1 h2 hr hj
    refine ⟨em_done hj a (by omega) (fun k hk => h2 k (by omega)) hr, ?_⟩
    have := (run_bnd mN bN hj.2.2.1 a (0, 0) 0 (Nat.le_refl _) (Nat.le_refl _)).2
    omega
  intro t
  induction t with
  | nil =>
    intro a r M _ hz hf hr hj
    obtain ⟨z1, z2⟩ := hz a (by simp)
    obtain ⟨d1, d2⟩ := one a M z1 z2 hr hj
    rw [List.find?_cons] at hf
    cases hq : Nat.ble (jb_run mN bN (0, 0) a).2 least with
    | false => rw [hq] at hf; simp at hf
    | true =>
      rw [hq] at hf
      simp only [Option.some.injEq] at hf
      subst hf
      have hle := Nat.le_of_ble_eq_true hq
      refine ⟨M, ?_, hr, rw_rfl M⟩
      have c : (nI least < nI (jb_run mN bN (0, 0) a).2) = False := eq_false (by rw [nI_ltI (by omega) (by omega)]; omega)
      simp (decide := true) only [mq_173_53, mq_173_54, mq_173_57, mq_173_58, d1, c, Nat.reduceAdd, Nat.reduceMul, Nat.reduceSub, Nat.zero_add, sg_bi_i, sg_bi_n, sg_bz, sg_bb, sg_b_0, sg_b_1, if_true, if_false, not_true_eq_false, not_false_eq_true, true_and, and_true, false_and, and_false, and_self, Int32.reduceSub]
  | cons c t ih =>
    intro a r M hck hz hf hr hj
    obtain ⟨z1, z2⟩ := hz a (by simp)
    obtain ⟨d1, d2⟩ := one a M z1 z2 hr hj
    have J7 := hj.1
    rw [List.find?_cons] at hf
    cases hq : Nat.ble (jb_run mN bN (0, 0) a).2 least with
    | true =>
      rw [hq] at hf
      simp only [Option.some.injEq] at hf
      subst hf
      have hle := Nat.le_of_ble_eq_true hq
      refine ⟨M, ?_, hr, rw_rfl M⟩
      have cc : (nI least < nI (jb_run mN bN (0, 0) a).2) = False := eq_false (by rw [nI_ltI (by omega) (by omega)]; omega)
      simp (decide := true) only [mq_173_53, mq_173_54, mq_173_57, mq_173_58, d1, cc, Nat.reduceAdd, Nat.reduceMul, Nat.reduceSub, Nat.zero_add, sg_bi_i, sg_bi_n, sg_bz, sg_bb, sg_b_0, sg_b_1, if_true, if_false, not_true_eq_false, not_false_eq_true, true_and, and_true, false_and, and_false, and_self, Int32.reduceSub]
    | false =>
      rw [hq] at hf
      have hgt : least < (jb_run mN bN (0, 0) a).2 := by
        refine Nat.lt_of_not_le fun z => ?_
        rw [Nat.ble_eq_true_of_le z] at hq
        cases hq
      have cc : (nI least < nI (jb_run mN bN (0, 0) a).2) = True := eq_true (by rw [nI_ltI (by omega) (by omega)]; exact hgt)
      simp only [jb_ck, Bool.and_eq_true] at hck
      obtain ⟨hk1, hk2⟩ := hck
      cases hnx : jb_nx N a with
      | none => rw [hnx] at hk1; simp at hk1
      | some c' =>
        rw [hnx] at hk1
        have : c' = c := ls_eq_of _ _ hk1
        subst this
        obtain ⟨M1, n1, n2, n3⟩ := em_next M a c' (by omega) (fun k hk => by have := z2 k (by omega); omega) hr (by rw [z1]; exact hnx)
        obtain ⟨M', g1, g2, g3⟩ := ih c' r M1 hk2 (fun z hzm => hz z (by simp at hzm ⊢; exact Or.inr hzm)) hf n2 (jm_rw hj n3)
        refine ⟨M', ?_, g2, rw_tr n3 g3⟩
        rw [← g1]
        generalize hX : sg_rv 173 53 M1 [sg_r 7 120, sg_i (nI S), sg_i (nI k), sg_i (nI least)] [] = X
        simp (decide := true) only [mq_173_53, mq_173_54, mq_173_57, mq_173_58, d1, cc, Nat.reduceAdd, Nat.reduceMul, Nat.reduceSub, Nat.zero_add, sg_bi_i, sg_bi_n, sg_bz, sg_bb, sg_b_0, sg_b_1, if_true, if_false, not_true_eq_false, not_false_eq_true, true_and, and_true, false_and, and_false, and_self, Int32.reduceSub]
        simp (decide := true) only [mq_173_61, mq_173_62, mq_173_65, n1, hX, Nat.reduceAdd, Nat.reduceMul, Nat.reduceSub, Nat.zero_add, sg_bi_i, sg_bi_n, sg_bz, sg_bb, sg_b_0, sg_b_1, if_true, if_false, not_true_eq_false, not_false_eq_true, true_and, and_true, false_and, and_false, and_self, Int32.reduceSub]
theorem em_order {σ : sg_M} (hj : iv_jm σ J m b mN bN) (hab : ∀ x, x < J → (m x).toInt = mN x ∧ (b x).toInt = bN x) (S k : Nat) (hS : S < 2 ^ J) (hk : k ≤ 6) : ∃ M' : sg_M, sg_rv 173 48 σ [sg_r 7 120, sg_i (nI S), sg_i (nI k), sg_i (nI (jb_best m b mN bN J S (0, 0)))] [] = some (some (sg_i (fn_at (jb_gy m b mN bN J (jb_best m b mN bN J S (0, 0)) (jb_mem S).length S (0, 0)) k)), M') ∧ sg_rw σ M' := by
  obtain ⟨J7, hc, hbd, -⟩ := id hj
  have h128 : S < 128 := Nat.lt_of_lt_of_le hS (p2J J7).2
  obtain ⟨M1, a1, a2, a3⟩ := em_layRow σ J S J7 hS hc
  have bd := best_bnd m b hbd J7 S (0, 0) (by omega) (by omega)
  have hg := greedy (m := m) (b := b) (mN := mN) (bN := bN) J7 hab (jb_best m b mN bN J S (0, 0)) (jb_mem S).length S (0, 0) hS rfl rfl
  have hcs := jb_cs_all h128
  have h7 : (jb_mem S).length ≤ 7 := List.length_filter_le (jb_has S) [0, 1, 2, 3, 4, 5, 6]
  unfold jb_cs at hcs
  generalize hr : jb_gy m b mN bN J (jb_best m b mN bN J S (0, 0)) (jb_mem S).length S (0, 0) = r at hg
  have hpm := fun z hz => pm_perm (jb_mem S).length S h128 rfl z hz
  have hmem : ∀ z ∈ jb_mem S, z < J := fun z hz => by rw [jb_mem_range J7 hS] at hz; exact List.mem_range.mp (List.mem_filter.mp hz).1
  cases hL : jb_pm (jb_mem S).length (jb_mem S) with
  | nil => rw [hL] at hg; simp at hg
  | cons a t =>
    rw [hL] at hg hcs hpm
    simp only [Bool.and_eq_true] at hcs
    have ea : a = jb_mem S := ls_eq_of _ _ hcs.1
    have hz : ∀ z ∈ a :: t, z.length = (jb_mem S).length ∧ ∀ i, i < (jb_mem S).length → z.getD i 0 < J := fun z hzm => by
      have hp := hpm z hzm
      refine ⟨hp.length_eq, fun i hi => hmem _ (hp.mem_iff.mp (getD_mem (by rw [hp.length_eq]; exact hi)))⟩
    have hrl : r.length = (jb_mem S).length := (hz r (List.mem_of_find?_eq_some hg)).1
    obtain ⟨M', g1, g2, g3⟩ := em_ord_l (J := J) (m := m) (b := b) (mN := mN) (bN := bN) (jb_mem S).length S k _ h7 bd t a r M1 hcs.2 hz hg (by rw [ea]; exact a3) (jm_rw hj a2)
    refine ⟨M', ?_, rw_tr a2 g3⟩
    have ik : sg_in (nI k) 7 = true := sg_in_nI (by omega) (by omega)
    have ck : (nI k).toNatClampNeg = k := sg_nIc (by omega)
    obtain ⟨q1, q2⟩ := g2
    simp (decide := true) only [mq_173_48, mq_173_49, mq_173_50, a1, g1, Nat.reduceAdd, Nat.reduceMul, Nat.reduceSub, Nat.zero_add, sg_bi_i, sg_bi_n, sg_bz, sg_bb, sg_b_0, sg_b_1, if_true, if_false, not_true_eq_false, not_false_eq_true, true_and, and_true, false_and, and_false, and_self, Int32.reduceSub]
    by_cases hkl : k < r.length
    · rw [at_lt hkl]
      simp (decide := true) only [mq_173_68, mq_173_69, mq_173_70, mq_173_73, mq_173_76, mq_173_77, mq_173_80, mq_173_81, mq_173_82, mq_173_85, mq_173_87, q1, nI_ltI (show k < 2 ^ 31 by omega) (show r.length < 2 ^ 31 by omega), hkl, ik, ck, q2 k hkl, Nat.reduceAdd, Nat.reduceMul, Nat.reduceSub, Nat.zero_add, sg_bi_i, sg_bi_n, sg_bz, sg_bb, sg_b_0, sg_b_1, if_true, if_false, not_true_eq_false, not_false_eq_true, true_and, and_true, false_and, and_false, and_self, Int32.reduceSub]
    · rw [at_ge (by omega)]
      simp (decide := true) only [mq_173_68, mq_173_69, mq_173_70, mq_173_73, mq_173_76, mq_173_77, mq_173_80, mq_173_81, mq_173_82, mq_173_85, mq_173_87, q1, nI_ltI (show k < 2 ^ 31 by omega) (show r.length < 2 ^ 31 by omega), hkl, Nat.reduceAdd, Nat.reduceMul, Nat.reduceSub, Nat.zero_add, sg_bi_i, sg_bi_n, sg_bz, sg_bb, sg_b_0, sg_b_1, if_true, if_false, not_true_eq_false, not_false_eq_true, true_and, and_true, false_and, and_false, and_self, Int32.reduceSub]
end ORD2
theorem sg_i64s (v : Int32) {J : Nat} (hJ : J ≤ 7) : (0 ≤ v.toInt64 ∧ v.toInt64 ≤ (1 : Int64) <<< ((nI J).toInt64 &&& 63) - 1) = (0 ≤ v ∧ v ≤ nI (2 ^ J) - 1) := by
  rcases L8 hJ with rfl | rfl | rfl | rfl | rfl | rfl | rfl | rfl
  · exact sg_i64 v 0 (nI (2 ^ 0) - 1) 0 _ (by decide) (by decide)
  · exact sg_i64 v 0 (nI (2 ^ 1) - 1) 0 _ (by decide) (by decide)
  · exact sg_i64 v 0 (nI (2 ^ 2) - 1) 0 _ (by decide) (by decide)
  · exact sg_i64 v 0 (nI (2 ^ 3) - 1) 0 _ (by decide) (by decide)
  · exact sg_i64 v 0 (nI (2 ^ 4) - 1) 0 _ (by decide) (by decide)
  · exact sg_i64 v 0 (nI (2 ^ 5) - 1) 0 _ (by decide) (by decide)
  · exact sg_i64 v 0 (nI (2 ^ 6) - 1) 0 _ (by decide) (by decide)
  · exact sg_i64 v 0 (nI (2 ^ 7) - 1) 0 _ (by decide) (by decide)
theorem pr_order {B : Int} {σ : sg_M} (set k : Int32) (h : iv_all B σ) : sg_pair B σ 84 173 [sg_i set, sg_i k] := by
  obtain ⟨J, mN, bN, hj, hm, -, hab⟩ := J_both h.2.2.2.2.1
  obtain ⟨J7, hc, -⟩ := id hj
  have hcm := hm.2.1
  obtain ⟨p1, p2⟩ := p2J J7
  have hsets := ev_sets (σ := σ) J7 hc
  have s64 := sg_i64s set J7
  have k64 := sg_i64 k (-1) 6 (-1) 6 (by decide) (by decide)
  by_cases hs : 0 ≤ set ∧ set ≤ nI (2 ^ J) - 1
  · by_cases hk : -1 ≤ k ∧ k ≤ 6
    · obtain ⟨S, hS, rfl⟩ := (sg_below (x := set) (N := 2 ^ J) (by omega)).mp hs
      obtain ⟨M1, d1, d2⟩ := em_early hm S hS
      by_cases hk1 : k = -1
      · have hd := ev_done hj S (by omega) (0, 0) (by omega) (by omega)
        change sg_ev 86 σ [sg_r 5 12, sg_i (nI S), sg_i 0, sg_i 0] = _ at hd
        subst hk1
        refine pair_same h (sg_i (nI (jb_best (σ 13) (σ 14) mN bN J S (0, 0)))) σ M1 ?_ (same_rfl σ) ?_ (rw_same d2)
        · simp (decide := true) only [me_84, mq_84_0, mq_84_1, mq_84_2, mq_84_3, mq_84_6, mq_84_9, mq_84_10, mq_84_11, mq_84_14, mq_84_17, mq_84_19, mq_84_20, mq_84_21, mq_84_22, mq_84_24, mq_84_27, mq_84_30, mq_84_31, mq_84_32, mq_84_33, mq_84_34, mq_84_37, mq_84_38, mq_84_41, mq_84_42, mq_84_43, mq_84_44, mq_84_47, mq_84_50, mq_84_51, mq_84_54, mq_84_55, mq_84_56, mq_84_59, hsets, ev_within, hs, hd, Nat.reduceAdd, Nat.reduceMul, Nat.reduceSub, Nat.zero_add, sg_bi_i, sg_bi_n, sg_bz, sg_bb, sg_b_0, sg_b_1, if_true, if_false, not_true_eq_false, not_false_eq_true, true_and, and_true, false_and, and_false, and_self, Int32.reduceSub]
        · simp (decide := true) only [me_173, mq_173_0, mq_173_1, mq_173_2, mq_173_3, mq_173_4, mq_173_5, mq_173_8, mq_173_9, mq_173_10, mq_173_11, mq_173_14, mq_173_17, mq_173_19, mq_173_20, mq_173_21, mq_173_22, mq_173_25, mq_173_28, mq_173_31, mq_173_34, mq_173_35, mq_173_36, mq_173_37, mq_173_38, mq_173_41, mq_173_42, mq_173_43, mq_173_46, mq_173_47, hcm, em_in, s64, hs, k64, d1, Nat.reduceAdd, Nat.reduceMul, Nat.reduceSub, Nat.zero_add, sg_bi_i, sg_bi_n, sg_bz, sg_bb, sg_b_0, sg_b_1, if_true, if_false, not_true_eq_false, not_false_eq_true, true_and, and_true, false_and, and_false, and_self, Int32.reduceSub]
      · have hkp : 0 ≤ k.toInt := by
          have h1 := hk.1
          rw [Int32.le_iff_toInt_le, sg_tm1] at h1
          rcases Int.lt_or_le k.toInt 0 with z | z
          · exact absurd (Int32.toInt_inj.mp (by rw [sg_tm1]; omega)) hk1
          · exact z
        obtain ⟨K, hK, rfl, eK⟩ := sg_nat hkp
        have hK6 : K ≤ 6 := by
          have h2 := hk.2
          rw [Int32.le_iff_toInt_le, sg_t6, eK] at h2
          omega
        have hrow := ev_row hj S K hS hK6
        obtain ⟨M2, e1, e2⟩ := em_order (jm_rw hm d2) hab S K hS hK6
        have nk : ¬ nI K < 0 := nI_pos (by omega)
        refine pair_same h (sg_i (fn_at (jb_gy (σ 13) (σ 14) mN bN J (jb_best (σ 13) (σ 14) mN bN J S (0, 0)) (jb_mem S).length S (0, 0)) K)) σ M2 ?_ (same_rfl σ) ?_ (rw_same (rw_tr d2 e2))
        · simp (decide := true) only [me_84, mq_84_0, mq_84_1, mq_84_2, mq_84_3, mq_84_6, mq_84_9, mq_84_10, mq_84_11, mq_84_14, mq_84_17, mq_84_19, mq_84_20, mq_84_21, mq_84_22, mq_84_24, mq_84_27, mq_84_30, mq_84_31, mq_84_32, mq_84_33, mq_84_34, mq_84_37, mq_84_38, mq_84_41, mq_84_42, mq_84_43, mq_84_44, mq_84_47, mq_84_50, mq_84_51, mq_84_54, mq_84_55, mq_84_56, mq_84_59, hsets, ev_within, hs, hk, hk1, hrow, Nat.reduceAdd, Nat.reduceMul, Nat.reduceSub, Nat.zero_add, sg_bi_i, sg_bi_n, sg_bz, sg_bb, sg_b_0, sg_b_1, if_true, if_false, not_true_eq_false, not_false_eq_true, true_and, and_true, false_and, and_false, and_self, Int32.reduceSub]
        · simp (decide := true) only [me_173, mq_173_0, mq_173_1, mq_173_2, mq_173_3, mq_173_4, mq_173_5, mq_173_8, mq_173_9, mq_173_10, mq_173_11, mq_173_14, mq_173_17, mq_173_19, mq_173_20, mq_173_21, mq_173_22, mq_173_25, mq_173_28, mq_173_31, mq_173_34, mq_173_35, mq_173_36, mq_173_37, mq_173_38, mq_173_41, mq_173_42, mq_173_43, mq_173_46, mq_173_47, hcm, em_in, s64, hs, k64, hk, d1, nk, e1, Nat.reduceAdd, Nat.reduceMul, Nat.reduceSub, Nat.zero_add, sg_bi_i, sg_bi_n, sg_bz, sg_bb, sg_b_0, sg_b_1, if_true, if_false, not_true_eq_false, not_false_eq_true, true_and, and_true, false_and, and_false, and_self, Int32.reduceSub]
    · refine pair_same h (sg_i (-1)) σ σ ?_ (same_rfl σ) ?_ (same_rfl σ)
      · simp (decide := true) only [me_84, mq_84_0, mq_84_1, mq_84_2, mq_84_3, mq_84_6, mq_84_9, mq_84_10, mq_84_11, mq_84_14, mq_84_17, mq_84_19, mq_84_20, mq_84_21, mq_84_22, mq_84_24, mq_84_27, mq_84_30, mq_84_31, mq_84_32, mq_84_33, mq_84_34, mq_84_37, mq_84_38, mq_84_41, mq_84_42, mq_84_43, mq_84_44, mq_84_47, mq_84_50, mq_84_51, mq_84_54, mq_84_55, mq_84_56, mq_84_59, hsets, ev_within, hs, hk, Nat.reduceAdd, Nat.reduceMul, Nat.reduceSub, Nat.zero_add, sg_bi_i, sg_bi_n, sg_bz, sg_bb, sg_b_0, sg_b_1, if_true, if_false, not_true_eq_false, not_false_eq_true, true_and, and_true, false_and, and_false, and_self, Int32.reduceSub]
      · simp (decide := true) only [me_173, mq_173_0, mq_173_1, mq_173_2, mq_173_3, mq_173_4, mq_173_5, mq_173_8, mq_173_9, mq_173_10, mq_173_11, mq_173_14, mq_173_17, mq_173_19, mq_173_20, mq_173_21, mq_173_22, mq_173_25, mq_173_28, mq_173_31, mq_173_34, mq_173_35, mq_173_36, mq_173_37, mq_173_38, mq_173_41, mq_173_42, mq_173_43, mq_173_46, mq_173_47, hcm, em_in, s64, hs, k64, hk, Nat.reduceAdd, Nat.reduceMul, Nat.reduceSub, Nat.zero_add, sg_bi_i, sg_bi_n, sg_bz, sg_bb, sg_b_0, sg_b_1, if_true, if_false, not_true_eq_false, not_false_eq_true, true_and, and_true, false_and, and_false, and_self, Int32.reduceSub]
  · refine pair_same h (sg_i (-2)) σ σ ?_ (same_rfl σ) ?_ (same_rfl σ)
    · simp (decide := true) only [me_84, mq_84_0, mq_84_1, mq_84_2, mq_84_3, mq_84_6, mq_84_9, mq_84_10, mq_84_11, mq_84_14, mq_84_17, mq_84_19, mq_84_20, mq_84_21, mq_84_22, mq_84_24, mq_84_27, mq_84_30, mq_84_31, mq_84_32, mq_84_33, mq_84_34, mq_84_37, mq_84_38, mq_84_41, mq_84_42, mq_84_43, mq_84_44, mq_84_47, mq_84_50, mq_84_51, mq_84_54, mq_84_55, mq_84_56, mq_84_59, hsets, ev_within, hs, Nat.reduceAdd, Nat.reduceMul, Nat.reduceSub, Nat.zero_add, sg_bi_i, sg_bi_n, sg_bz, sg_bb, sg_b_0, sg_b_1, if_true, if_false, not_true_eq_false, not_false_eq_true, true_and, and_true, false_and, and_false, and_self, Int32.reduceSub]
    · simp (decide := true) only [me_173, mq_173_0, mq_173_1, mq_173_2, mq_173_3, mq_173_4, mq_173_5, mq_173_8, mq_173_9, mq_173_10, mq_173_11, mq_173_14, mq_173_17, mq_173_19, mq_173_20, mq_173_21, mq_173_22, mq_173_25, mq_173_28, mq_173_31, mq_173_34, mq_173_35, mq_173_36, mq_173_37, mq_173_38, mq_173_41, mq_173_42, mq_173_43, mq_173_46, mq_173_47, hcm, em_in, s64, hs, Nat.reduceAdd, Nat.reduceMul, Nat.reduceSub, Nat.zero_add, sg_bi_i, sg_bi_n, sg_bz, sg_bb, sg_b_0, sg_b_1, if_true, if_false, not_true_eq_false, not_false_eq_true, true_and, and_true, false_and, and_false, and_self, Int32.reduceSub]
