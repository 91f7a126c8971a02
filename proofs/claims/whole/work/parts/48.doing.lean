theorem lk_other {n L v : Nat} (h4 : ¬ L = 4) (h5 : ¬ L = 5) : (fun P => fn_nf P && fn_lk n L v P) = fn_nf := by
  funext P
  unfold fn_lk
  simp [h4, h5]
theorem em_item_l (σ : sg_M) (n L v : Nat) (h1 : 1 ≤ n) (h8 : n ≤ 8) (hn : σ 120 8 = nI n) (hL : L = 4 ∨ L = 5) (hvb : v < 2 ^ 31) : ∀ m t (T : Int32) (P : fn_PS) (w : Nat → Int32), t + m = 99 → iv_ps (σ 127) n P → ∃ w', sg_rv 150 68 (sg_mP σ T P w) [sg_r 7 120, sg_i (nI L), sg_i (nI v), sg_i (nI t)] [] = some (none, sg_mP σ (T + nI (fn_wh (fun P => fn_nf P && fn_lk n L v P) (fn_step 1 n (σ 127) (fn_kd L)) m P).1) (fn_wh (fun P => fn_nf P && fn_lk n L v P) (fn_step 1 n (σ 127) (fn_kd L)) m P).2 w') := by
  have n4 : (nI L = 4) = (L = 4) := by rw [show (4 : Int32) = nI 4 from rfl, eq_iff_iff]; exact nI_eq (by omega) (by omega)
  have c99 : ∀ t, t < 2 ^ 31 → ((nI t < 99) = (t < 99)) := fun t ht => by rw [show (99 : Int32) = nI 99 from rfl, eq_iff_iff]; exact nI_ltI ht (by omega)
  intro m
  induction m with
  | zero =>
    intro t T P w ht hi
    refine ⟨w, ?_⟩
    simp only [mq_150_68, mq_150_69, mq_150_71, c99 t (by omega), show ¬ t < 99 by omega, if_false, mq_150_127, fn_wh]
    rw [nI_0, Int32.add_zero]
  | succ m ih =>
    intro t T P w ht hi
    simp only [mq_150_68, mq_150_69, mq_150_71, c99 t (by omega), show t < 99 by omega, if_true]
    by_cases hf : 40 < P.1
    · refine ⟨w, ?_⟩
      have hc : fn_nf P = false := by simp [fn_nf, hf]
      simp only [mq_150_74, mq_150_75, mq_150_78, mq_150_80, mP_9, hf, if_true, mq_150_127, fn_wh, hc, Bool.false_and, Bool.false_eq_true, if_false]
      rw [nI_0, Int32.add_zero]
    · have hc : fn_nf P = true := by simp [fn_nf, hf]
      have hgs := em_gs (sg_mP σ T P w) n h1 h8 (by rw [mP_120 _ _ _ _ (by omega)]; exact hn)
      have e129 : sg_mP σ T P w 129 = P.2.2.1 := by unfold sg_mP; rw [mm_129]
      rw [e129] at hgs
      obtain ⟨w1, hs⟩ := em_step σ n (fn_kd L) T P w h1 h8 hn hi
      obtain ⟨w2, ih⟩ := ih (t + 1) (T + 1) (fn_step 1 n (σ 127) (fn_kd L) P) w1 (by omega) (step_iv h1 hi)
      have fin : sg_rv 150 107 (sg_mP σ T P w) [sg_r 7 120, sg_i (nI L), sg_i (nI v), sg_i (nI t)] [] = sg_rv 150 68 (sg_mP σ (T + 1) (fn_step 1 n (σ 127) (fn_kd L) P) w1) [sg_r 7 120, sg_i (nI L), sg_i (nI v), sg_i (nI (t + 1))] [] := by
        rcases hL with l4 | l5
        · have hkd : fn_kd L = 1 := by subst l4; rfl
          rw [hkd] at hs ⊢
          have t4 : (nI L = 4) = True := by rw [n4]; exact eq_true l4
          simp only [mq_150_107, mq_150_108, mq_150_109, mq_150_110, mq_150_113, mq_150_114, mq_150_117, mq_150_118, mq_150_121, mq_150_124, t4, if_true, hs, sg_bi_n, nI_1]
        · have l4 : ¬ L = 4 := by omega
          have hkd : fn_kd L = 3 := by subst l5; rfl
          rw [hkd] at hs ⊢
          simp only [mq_150_107, mq_150_108, mq_150_109, mq_150_110, mq_150_113, mq_150_114, mq_150_117, mq_150_118, mq_150_121, mq_150_124, n4, l4, if_false, hs, sg_bi_n, nI_1]
      by_cases hlk : fn_lk n L v P = true
      · refine ⟨w2, ?_⟩
        have hgo : sg_rv 150 74 (sg_mP σ T P w) [sg_r 7 120, sg_i (nI L), sg_i (nI v), sg_i (nI t)] [] = sg_rv 150 107 (sg_mP σ T P w) [sg_r 7 120, sg_i (nI L), sg_i (nI v), sg_i (nI t)] [] := by
          unfold fn_lk at hlk
          rcases hL with l4 | l5
          · have t4 : (nI L = 4) = True := by rw [n4]; exact eq_true l4
            simp only [l4, if_true, decide_eq_true_eq] at hlk
            simp only [mq_150_74, mq_150_75, mq_150_78, mq_150_80, mq_150_83, mq_150_84, mq_150_85, mq_150_88, mq_150_89, mq_150_92, mq_150_93, mq_150_96, mP_9, hf, t4, hgs, sg_bi_i, hlk, if_true, if_false]
          · have l4 : ¬ L = 4 := by omega
            simp only [l4, l5, if_true, if_false, decide_eq_true_eq] at hlk
            simp only [show ¬ (5 : Nat) = 4 by omega, if_false, decide_eq_true_eq] at hlk
            simp only [mq_150_74, mq_150_75, mq_150_78, mq_150_80, mq_150_83, mq_150_84, mq_150_85, mq_150_88, mq_150_89, mq_150_92, mq_150_93, mq_150_96, mq_150_99, mq_150_100, mq_150_103, mq_150_104, mP_9, hf, n4, l4, hgs, sg_bi_i, hlk, if_true, if_false]
        rw [hgo, fin, ih]
        simp only [fn_wh, hc, hlk, Bool.and_self, if_true]
        congr 3
        rw [Int32.add_assoc, show (1 : Int32) = nI 1 from rfl, nI_add, Nat.add_comm]
      · refine ⟨w, ?_⟩
        have hgo : sg_rv 150 74 (sg_mP σ T P w) [sg_r 7 120, sg_i (nI L), sg_i (nI v), sg_i (nI t)] [] = some (none, sg_mP σ T P w) := by
          unfold fn_lk at hlk
          rcases hL with l4 | l5
          · have t4 : (nI L = 4) = True := by rw [n4]; exact eq_true l4
            simp only [l4, if_true, decide_eq_true_eq] at hlk
            simp only [mq_150_74, mq_150_75, mq_150_78, mq_150_80, mq_150_83, mq_150_84, mq_150_85, mq_150_88, mq_150_89, mq_150_92, mq_150_93, mq_150_96, mP_9, hf, t4, hgs, sg_bi_i, hlk, if_true, if_false, mq_150_127]
          · have l4 : ¬ L = 4 := by omega
            simp only [l5, show ¬ (5 : Nat) = 4 by omega, if_true, if_false, decide_eq_true_eq] at hlk
            simp only [mq_150_74, mq_150_75, mq_150_78, mq_150_80, mq_150_83, mq_150_84, mq_150_85, mq_150_88, mq_150_89, mq_150_92, mq_150_93, mq_150_96, mq_150_99, mq_150_100, mq_150_103, mq_150_104, mP_9, hf, n4, l4, hgs, sg_bi_i, hlk, if_true, if_false, mq_150_127]
        rw [hgo]
        simp only [fn_wh, hc, hlk, Bool.true_and, Bool.false_eq_true, if_false]
        rw [nI_0, Int32.add_zero]
theorem em_item (σ : sg_M) (n L v : Nat) (T : Int32) (P : fn_PS) (w : Nat → Int32) (h1 : 1 ≤ n) (h8 : n ≤ 8) (hn : σ 120 8 = nI n) (hL : L < 7) (hvb : v < 2 ^ 31) (hi : iv_ps (σ 127) n P) : ∃ w', sg_ev 150 (sg_mP σ T P w) [sg_r 7 120, sg_i (nI L), sg_i (nI v)] = some (none, sg_mP σ (T + nI (fn_item 1 n (σ 127) L v P).1) (fn_item 1 n (σ 127) L v P).2 w') := by
  have n6 : (nI L = 6) = (L = 6) := by rw [show (6 : Int32) = nI 6 from rfl, eq_iff_iff]; exact nI_eq (by omega) (by omega)
  have c4 : (nI L < 4) = (L < 4) := by rw [show (4 : Int32) = nI 4 from rfl, eq_iff_iff]; exact nI_ltI (by omega) (by omega)
  unfold fn_item
  by_cases hlt : L < 4
  · have l6 : ¬ L = 6 := by omega
    have l45 : ¬ (L = 4 ∨ L = 5) := by omega
    have hkd : fn_kd L = nI L := by unfold fn_kd; rw [if_pos hlt]
    obtain ⟨w', h⟩ := em_goTenths σ n v (nI L) T P w h1 h8 hn hvb hi
    refine ⟨w', ?_⟩
    rw [if_neg l6, if_neg l45, lk_other (by omega) (by omega), hkd]
    simp only [me_150, me_150, mq_150_0, mq_150_1, mq_150_2, mq_150_5, mq_150_6, mq_150_7, mq_150_8, mq_150_11, c4, hlt, if_true, h, sg_bi_n, mq_150_127]
  · by_cases l6 : L = 6
    · refine ⟨w, ?_⟩
      rw [if_pos l6]
      have t6 : (nI L = 6) = True := by rw [n6]; exact eq_true l6
      have e6 : sg_mP σ T P w 120 8 = nI n := by rw [mP_120 _ _ _ _ (by omega)]; exact hn
      have hvn : (nI v < nI n) = (v < n) := by rw [eq_iff_iff]; exact nI_ltI hvb (by omega)
      have e128 : sg_mP σ T P w 128 = P.2.1 := by unfold sg_mP; rw [mm_128]
      have e129 : sg_mP σ T P w 129 = P.2.2.1 := by unfold sg_mP; rw [mm_129]
      unfold fn_jack
      rw [show T + nI (0, if v < n ∧ ¬ 40 < P.1 then (P.1, upd P.2.1 v (if 1 < P.2.1 v - fn_soft (P.2.2.1 v) then P.2.1 v - fn_soft (P.2.2.1 v) else 1), P.2.2.1, P.2.2.2) else P).1 = T by show T + nI 0 = T; rw [nI_0, Int32.add_zero]]
      by_cases hv : v < n
      · have i1 : sg_in (nI v) 8 = true := sg_in_nI (by omega) (by omega)
        by_cases hf : 40 < P.1
        · simp only [me_150, me_150, mq_150_0, mq_150_1, mq_150_2, mq_150_5, mq_150_6, mq_150_7, mq_150_8, mq_150_11, mq_150_14, mq_150_15, mq_150_17, mq_150_20, mq_150_21, mq_150_22, mq_150_25, mq_150_28, mq_150_29, mq_150_32, mq_150_34, c4, hlt, t6, e6, hvn, hv, mP_9, hf, not_true_eq_false, and_false, if_true, if_false, mq_150_127]
        · simp only [me_150, me_150, mq_150_0, mq_150_1, mq_150_2, mq_150_5, mq_150_6, mq_150_7, mq_150_8, mq_150_11, mq_150_14, mq_150_15, mq_150_17, mq_150_20, mq_150_21, mq_150_22, mq_150_25, mq_150_28, mq_150_29, mq_150_32, mq_150_34, mq_150_37, mq_150_38, mq_150_41, mq_150_42, mq_150_43, mq_150_44, mq_150_47, mq_150_48, mq_150_49, mq_150_50, mq_150_53, mq_150_54, mq_150_55, mq_150_58, mq_150_59, mq_150_62, mq_150_63, Nat.reduceAdd, c4, hlt, t6, e6, hvn, hv, mP_9, hf, i1, sg_nIc hvb, e128, e129, em_soft, em_greater, sg_bi_i, not_false_eq_true, and_self, if_true, if_false, mq_150_127]
          congr 2
          unfold sg_mP
          refine mm_ext ?_ ?_ ?_ ?_ ?_ (fun x hx => ?_)
          · rw [sg_up_ne (by omega), mm_120]
          · rw [sg_up_row, mm_128]
          · rw [sg_up_ne (by omega), mm_129]
          · rw [sg_up_ne (by omega), mm_130]
          · rw [sg_up_ne (by omega), mm_131]
          · rw [sg_up_ne (by omega), mm_ne hx]
      · simp only [me_150, me_150, mq_150_0, mq_150_1, mq_150_2, mq_150_5, mq_150_6, mq_150_7, mq_150_8, mq_150_11, mq_150_14, mq_150_15, mq_150_17, mq_150_20, mq_150_21, mq_150_22, mq_150_25, c4, hlt, t6, e6, hvn, hv, false_and, if_true, if_false, mq_150_127]
    · have l45 : L = 4 ∨ L = 5 := by omega
      obtain ⟨w', h⟩ := em_item_l σ n L v h1 h8 hn l45 hvb 99 0 T P w (by omega) hi
      refine ⟨w', ?_⟩
      rw [if_neg l6, if_pos l45, ← h]
      simp only [me_150, me_150, mq_150_0, mq_150_1, mq_150_2, mq_150_5, mq_150_6, mq_150_7, mq_150_8, mq_150_11, mq_150_14, mq_150_15, mq_150_17, mq_150_20, mq_150_21, mq_150_22, mq_150_25, mq_150_28, mq_150_29, mq_150_32, mq_150_34, mq_150_37, mq_150_38, mq_150_41, mq_150_42, mq_150_43, mq_150_44, mq_150_47, mq_150_48, mq_150_49, mq_150_50, mq_150_53, mq_150_54, mq_150_55, mq_150_58, mq_150_59, mq_150_62, mq_150_63, mq_150_66, mq_150_67, c4, hlt, n6, l6, if_false]
      rfl
theorem jack_iv {g : Nat → Int32} {n v : Nat} {P : fn_PS} (h : iv_ps g n P) : iv_ps g n (fn_jack n v P) := by
  unfold fn_jack
  split
  · intro k hk
    obtain ⟨a, b, d⟩ := h k hk
    refine ⟨a, ?_, d⟩
    show 1 ≤ (upd P.2.1 v _ k).toInt ∧ (upd P.2.1 v _ k).toInt ≤ 99
    by_cases hkv : k = v
    · subst hkv
      rw [upd_same]
      have s1 := fn_soft_rg d.2
      have e := sg_sub_toInt (a := P.2.1 k) (b := fn_soft (P.2.2.1 k)) (by omega) (by omega) (by omega) (by omega)
      by_cases c1 : 1 < P.2.1 k - fn_soft (P.2.2.1 k)
      · rw [if_pos c1]
        rw [Int32.lt_iff_toInt_lt, sg_t1] at c1
        omega
      · rw [if_neg c1, sg_t1]; omega
    · rw [upd_ne hkv]; exact b
  · exact h
theorem item_iv {on : Int32} {n L v : Nat} {g : Nat → Int32} {P : fn_PS} (h1 : 1 ≤ n) (h : iv_ps g n P) : iv_ps g n (fn_item on n g L v P).2 := by
  unfold fn_item
  split
  · exact jack_iv h
  · exact wh_iv (fun P hP => step_iv h1 hP) _ _ h
theorem item_rl {on : Int32} {n L v : Nat} {g g' : Nat → Int32} {P Q : fn_PS} (h1 : 1 ≤ n) (hg : ∀ k, k < n → g k = g' k) (h : rl_ps n P Q) : (fn_item on n g L v P).1 = (fn_item on n g' L v Q).1 ∧ rl_ps n (fn_item on n g L v P).2 (fn_item on n g' L v Q).2 := by
  unfold fn_item
  split
  · refine ⟨rfl, ?_⟩
    unfold fn_jack
    rw [h.1]
    split
    · rename_i hc
      obtain ⟨e1, e2, e3⟩ := h.2 v hc.1
      refine ⟨rfl, fun k hk => ⟨?_, (h.2 k hk).2⟩⟩
      show upd P.2.1 v _ k = upd Q.2.1 v _ k
      rw [e1, e2]
      by_cases hkv : k = v
      · subst hkv; rw [upd_same, upd_same]
      · rw [upd_ne hkv, upd_ne hkv]; exact (h.2 k hk).1
    · exact h
  · refine wh_rel (fun P Q hPQ => ?_) (fun P Q hPQ => step_rl h1 hg hPQ) _ _ _ h
    have hb := fn_sb_congr n (fun k hk => (hPQ.2 k hk).2.1)
    have hl := fn_sb_lt Q.2.2.1 n h1
    have hgs : fn_gs P.2.2.1 n = fn_gs Q.2.2.1 n := by unfold fn_gs; rw [hb, (hPQ.2 _ hl).2.1]
    show (fn_nf P && fn_lk n L v P) = (fn_nf Q && fn_lk n L v Q)
    unfold fn_nf fn_lk
    rw [hPQ.1, hgs]
/-- the items of a recipe, from k on, late by d at one of them -/
def fn_do (on : Int32) (n : Nat) (g : Nat → Int32) (lt nu : Nat → Nat) (late : Int32) (d : Nat) : Nat → Nat → fn_PS → Nat × fn_PS
  | 0, _, P => (0, P)
  | m + 1, k, P => ((fn_wh fn_nf (fn_step on n g 0) (if nI k = late then d else 0) P).1 + (fn_item on n g (lt k) (nu k) (fn_wh fn_nf (fn_step on n g 0) (if nI k = late then d else 0) P).2).1 + (fn_do on n g lt nu late d m (k + 1) (fn_item on n g (lt k) (nu k) (fn_wh fn_nf (fn_step on n g 0) (if nI k = late then d else 0) P).2).2).1,
      (fn_do on n g lt nu late d m (k + 1) (fn_item on n g (lt k) (nu k) (fn_wh fn_nf (fn_step on n g 0) (if nI k = late then d else 0) P).2).2).2)
theorem do_iv {on : Int32} {n : Nat} {g : Nat → Int32} {lt nu : Nat → Nat} {late : Int32} {d : Nat} (h1 : 1 ≤ n) : ∀ m k (P : fn_PS), iv_ps g n P → iv_ps g n (fn_do on n g lt nu late d m k P).2 := by
  intro m
  induction m with
  | zero => intro k P h; exact h
  | succ m ih =>
    intro k P h
    exact ih _ _ (item_iv h1 (wh_iv (fun P hP => step_iv h1 hP) _ _ h))
theorem do_rl {on : Int32} {n : Nat} {g g' : Nat → Int32} {lt nu lt' nu' : Nat → Nat} {late late' : Int32} {d : Nat} (h1 : 1 ≤ n) (hg : ∀ k, k < n → g k = g' k) (M : Nat) (hlt : ∀ k, k < M → lt k = lt' k ∧ nu k = nu' k ∧ ((nI k = late) = (nI k = late'))) : ∀ m k (P Q : fn_PS), k + m = M → rl_ps n P Q → (fn_do on n g lt nu late d m k P).1 = (fn_do on n g' lt' nu' late' d m k Q).1 ∧ rl_ps n (fn_do on n g lt nu late d m k P).2 (fn_do on n g' lt' nu' late' d m k Q).2 := by
  intro m
  induction m with
  | zero => intro k P Q _ h; exact ⟨rfl, h⟩
  | succ m ih =>
    intro k P Q hk h
    obtain ⟨e1, e2, e3⟩ := hlt k (by omega)
    have a := wh_rel (I := rl_ps n) (c1 := fn_nf) (c2 := fn_nf) (s1 := fn_step on n g 0) (s2 := fn_step on n g' 0) (fun P Q hPQ => by unfold fn_nf; rw [hPQ.1]) (fun P Q hPQ => step_rl h1 hg hPQ) (if nI k = late then d else 0) P Q h
    have b := item_rl (on := on) (L := lt k) (v := nu k) h1 hg a.2
    have c := ih (k + 1) _ _ (by omega) b.2
    have el : (if nI k = late then d else 0) = (if nI k = late' then d else 0) := by simp only [e3]
    simp only [fn_do]
    rw [el] at a b c ⊢
    rw [← e1, ← e2, a.1, b.1, c.1]
    exact ⟨rfl, c.2⟩
