/-! a piece's off, radii, heats, strains; what a tenth makes of them; how long it goes on -/
abbrev fn_PS : Type := Int32 × (Nat → Int32) × (Nat → Int32) × (Nat → Int32)
def fn_step (on : Int32) (n : Nat) (g : Nat → Int32) (kind : Int32) (P : fn_PS) : fn_PS := (fn_O kind P.1 n (fn_H on (fn_mo kind) n g P.2.1 P.2.2.1), fn_R kind n g P.2.1 (fn_H on (fn_mo kind) n g P.2.1 P.2.2.1), fn_H on (fn_mo kind) n g P.2.1 P.2.2.1, fn_S n P.2.2.1 (fn_H on (fn_mo kind) n g P.2.1 P.2.2.1) P.2.2.2)
def fn_wh (cond : fn_PS → Bool) (st : fn_PS → fn_PS) : Nat → fn_PS → Nat × fn_PS
  | 0, P => (0, P)
  | m + 1, P => if cond P then ((fn_wh cond st m (st P)).1 + 1, (fn_wh cond st m (st P)).2) else (0, P)
def iv_ps (g : Nat → Int32) (n : Nat) (P : fn_PS) : Prop := ∀ k, k < n → (1 ≤ (g k).toInt ∧ (g k).toInt ≤ 999) ∧ (1 ≤ (P.2.1 k).toInt ∧ (P.2.1 k).toInt ≤ 99) ∧ (0 ≤ (P.2.2.1 k).toInt ∧ (P.2.2.1 k).toInt ≤ 1500)
theorem sg_nat {x : Int32} (h : 0 ≤ x.toInt) : ∃ j : Nat, j < 2 ^ 31 ∧ x = nI j ∧ x.toInt = j := by
  obtain ⟨j, hj, rfl⟩ := nI_of (x := x) (by rw [Int32.lt_iff_toInt_lt, sg_t0]; omega)
  exact ⟨j, hj, rfl, nI_toInt hj⟩
theorem okr_of {g r : Nat → Int32} {k : Nat} (hg : 1 ≤ (g k).toInt ∧ (g k).toInt ≤ 999) (hr : 1 ≤ (r k).toInt ∧ (r k).toInt ≤ 99) : fn_okr g r k := by
  obtain ⟨a, ha, ea, ta⟩ := sg_nat (x := g k) (by omega)
  obtain ⟨b, hb, eb, tb⟩ := sg_nat (x := r k) (by omega)
  have hd : a / b ≤ a := Nat.div_le_self a b
  generalize hq : a / b = q at hd
  refine ⟨by rw [Int32.lt_iff_toInt_lt, sg_t0]; omega, ?_, ?_⟩
  · rw [ea, eb, pk_div (by omega) (by omega) (by omega), hq, show (2 : Int32) = nI 2 from rfl, nI_add]
    exact nI_ne0 (by omega) (by omega)
  · rw [ea, eb, pk_div (by omega) (by omega) (by omega), hq, show (10 : Int32) = nI 10 from rfl, nI_add]
    exact nI_ne0 (by omega) (by omega)
theorem fn_cl_rg (d : Int32) : 0 ≤ (fn_cl d).toInt ∧ (fn_cl d).toInt ≤ 1500 := by
  unfold fn_cl
  by_cases h1 : d < 1500
  · rw [if_pos h1]
    by_cases h2 : 0 < d
    · rw [if_pos h2]
      rw [Int32.lt_iff_toInt_lt, sg_t0] at h2
      rw [Int32.lt_iff_toInt_lt, sg_t1500] at h1
      omega
    · rw [if_neg h2, sg_t0]; omega
  · rw [if_neg h1, if_pos (by decide), sg_t1500]; omega
theorem fn_soft_rg {h : Int32} (hh : h.toInt ≤ 1500) : 0 ≤ (fn_soft h).toInt ∧ (fn_soft h).toInt ≤ 10 := by
  rcases fn_soft_cases h with q | ⟨j, h1, h2, e, q⟩
  · rw [q, sg_t0]; omega
  · rw [e, nI_toInt h2] at hh
    rw [q, nI_toInt (by omega)]
    omega
theorem sg_add_toInt {a b : Int32} (h1 : -1000000000 ≤ a.toInt) (h2 : a.toInt ≤ 1000000000) (h3 : -1000000000 ≤ b.toInt) (h4 : b.toInt ≤ 1000000000) : (a + b).toInt = a.toInt + b.toInt := by
  rw [Int32.toInt_add, Int.bmod_eq_of_le (by omega) (by omega)]
theorem sg_sub_toInt {a b : Int32} (h1 : -1000000000 ≤ a.toInt) (h2 : a.toInt ≤ 1000000000) (h3 : -1000000000 ≤ b.toInt) (h4 : b.toInt ≤ 1000000000) : (a - b).toInt = a.toInt - b.toInt := by
  rw [Int32.toInt_sub, Int.bmod_eq_of_le (by omega) (by omega)]
theorem fn_sw_rg {n : Nat} {g r h : Nat → Int32} (h1 : 1 ≤ n) (hp : ∀ k, k < n → (1 ≤ (g k).toInt ∧ (g k).toInt ≤ 999) ∧ (1 ≤ (r k).toInt ∧ (r k).toInt ≤ 99) ∧ (0 ≤ (h k).toInt ∧ (h k).toInt ≤ 1500)) : ∀ k, k < n → 1 ≤ (fn_sw n g r h k).toInt ∧ (fn_sw n g r h k).toInt ≤ 99 := by
  intro k hk
  have hb := fn_sb_lt h n h1
  unfold fn_sw
  by_cases hkb : k = fn_sb h n
  · subst hkb
    rw [upd_same]
    obtain ⟨a1, a2, a3⟩ := hp _ hb
    have s1 := fn_soft_rg a3.2
    have e := sg_add_toInt (a := r (fn_sb h n)) (b := fn_soft (h (fn_sb h n))) (by omega) (by omega) (by omega) (by omega)
    by_cases c1 : g (fn_sb h n) < 99
    · rw [if_pos c1]
      rw [Int32.lt_iff_toInt_lt, sg_t99] at c1
      by_cases c2 : r (fn_sb h n) + fn_soft (h (fn_sb h n)) < g (fn_sb h n)
      · rw [if_pos c2]
        rw [Int32.lt_iff_toInt_lt] at c2
        omega
      · rw [if_neg c2]; omega
    · rw [if_neg c1]
      by_cases c2 : r (fn_sb h n) + fn_soft (h (fn_sb h n)) < 99
      · rw [if_pos c2]
        rw [Int32.lt_iff_toInt_lt, sg_t99] at c2
        omega
      · rw [if_neg c2, sg_t99]; omega
  · rw [upd_ne hkb]
    exact (hp k hk).2.1
theorem step_iv {on : Int32} {n : Nat} {g : Nat → Int32} {kind : Int32} {P : fn_PS} (h1 : 1 ≤ n) (h : iv_ps g n P) : iv_ps g n (fn_step on n g kind P) := by
  have hH : ∀ k, k < n → 0 ≤ (fn_H on (fn_mo kind) n g P.2.1 P.2.2.1 k).toInt ∧ (fn_H on (fn_mo kind) n g P.2.1 P.2.2.1 k).toInt ≤ 1500 := by
    intro k hk
    unfold fn_H
    rw [if_pos hk]
    exact fn_cl_rg _
  intro k hk
  refine ⟨(h k hk).1, ?_, hH k hk⟩
  show 1 ≤ (fn_R kind n g P.2.1 (fn_H on (fn_mo kind) n g P.2.1 P.2.2.1) k).toInt ∧ (fn_R kind n g P.2.1 (fn_H on (fn_mo kind) n g P.2.1 P.2.2.1) k).toInt ≤ 99
  unfold fn_R
  by_cases h2 : kind = 2
  · rw [if_pos h2]
    exact fn_sw_rg h1 (fun j hj => ⟨(h j hj).1, (h j hj).2.1, hH j hj⟩) k hk
  · rw [if_neg h2]
    exact (h k hk).2.1
theorem iv_okr {g : Nat → Int32} {n : Nat} {P : fn_PS} (h : iv_ps g n P) : ∀ k, k < n → fn_okr g P.2.1 k := fun k hk => okr_of (h k hk).1 (h k hk).2.1
theorem wh_iv {I : fn_PS → Prop} {cond : fn_PS → Bool} {st : fn_PS → fn_PS} (hs : ∀ P, I P → I (st P)) : ∀ m P, I P → I (fn_wh cond st m P).2 := by
  intro m
  induction m with
  | zero => intro P h; exact h
  | succ m ih =>
    intro P h
    simp only [fn_wh]
    split
    · exact ih _ (hs P h)
    · exact h
theorem wh_rel {I : fn_PS → fn_PS → Prop} {c1 c2 : fn_PS → Bool} {s1 s2 : fn_PS → fn_PS} (hc : ∀ P Q, I P Q → c1 P = c2 Q) (hs : ∀ P Q, I P Q → I (s1 P) (s2 Q)) : ∀ m P Q, I P Q → (fn_wh c1 s1 m P).1 = (fn_wh c2 s2 m Q).1 ∧ I (fn_wh c1 s1 m P).2 (fn_wh c2 s2 m Q).2 := by
  intro m
  induction m with
  | zero => intro P Q h; exact ⟨rfl, h⟩
  | succ m ih =>
    intro P Q h
    simp only [fn_wh, hc P Q h]
    split
    · have := ih _ _ (hs P Q h)
      exact ⟨by rw [this.1], this.2⟩
    · exact ⟨rfl, h⟩
/-- alike as far as the rings go -/
def rl_ps (n : Nat) (P Q : fn_PS) : Prop := P.1 = Q.1 ∧ ∀ k, k < n → P.2.1 k = Q.2.1 k ∧ P.2.2.1 k = Q.2.2.1 k ∧ P.2.2.2 k = Q.2.2.2 k
theorem fn_H_congr {on mo : Int32} {n : Nat} {g g' r r' h h' : Nat → Int32} (hg : ∀ k, k < n → g k = g' k) (hr : ∀ k, k < n → r k = r' k) (hh : ∀ k, k < n → h k = h' k) : ∀ k, k < n → fn_H on mo n g r h k = fn_H on mo n g' r' h' k := by
  intro k hk
  unfold fn_H
  rw [if_pos hk, if_pos hk, fn_nh_congr hk hh]
  unfold fn_nh
  rw [hg k hk, hr k hk]
theorem step_rl {on : Int32} {n : Nat} {g g' : Nat → Int32} {kind : Int32} {P Q : fn_PS} (h1 : 1 ≤ n) (hg : ∀ k, k < n → g k = g' k) (h : rl_ps n P Q) : rl_ps n (fn_step on n g kind P) (fn_step on n g' kind Q) := by
  have hH := fn_H_congr (on := on) (mo := fn_mo kind) hg (fun k hk => (h.2 k hk).1) (fun k hk => (h.2 k hk).2.1)
  have hb := fn_sb_congr n hH
  have hl := fn_sb_lt (fn_H on (fn_mo kind) n g' Q.2.1 Q.2.2.1) n h1
  refine ⟨?_, fun k hk => ⟨?_, hH k hk, ?_⟩⟩
  · show fn_O kind P.1 n _ = fn_O kind Q.1 n _
    unfold fn_O fn_gs
    rw [h.1, hb, hH _ hl]
  · show fn_R kind n g P.2.1 _ k = fn_R kind n g' Q.2.1 _ k
    unfold fn_R
    by_cases h2 : kind = 2
    · rw [if_pos h2, if_pos h2]
      unfold fn_sw
      rw [hb, hH _ hl, hg _ hl, (h.2 _ hl).1]
      by_cases hk2 : k = fn_sb (fn_H on (fn_mo kind) n g' Q.2.1 Q.2.2.1) n
      · subst hk2; rw [upd_same, upd_same]
      · rw [upd_ne hk2, upd_ne hk2, (h.2 k hk).1]
    · rw [if_neg h2, if_neg h2, (h.2 k hk).1]
  · show fn_S n P.2.2.1 _ P.2.2.2 k = fn_S n Q.2.2.1 _ Q.2.2.2 k
    unfold fn_S
    by_cases h2 : k < n - 1
    · rw [if_pos h2, if_pos h2]
      unfold fn_sn
      rw [(h.2 k hk).2.1, (h.2 (k + 1) (by omega)).2.1, hH k hk, hH (k + 1) (by omega), (h.2 k hk).2.2]
    · rw [if_neg h2, if_neg h2, (h.2 k hk).2.2]
/-! going tenths -/
def sg_pP (σ : sg_M) (c : Nat) (P : fn_PS) (w : Nat → Int32) : sg_M := sg_pm σ c P.1 P.2.1 P.2.2.1 P.2.2.2 w
def sg_mP (σ : sg_M) (t : Int32) (P : fn_PS) (w : Nat → Int32) : sg_M := sg_mm σ P.1 t P.2.1 P.2.2.1 P.2.2.2 w
def fn_nf (P : fn_PS) : Bool := decide (¬ 40 < P.1)
theorem pP_c7 (σ : sg_M) (c : Nat) (P : fn_PS) (w : Nat → Int32) : sg_pP σ c P w c 7 = P.1 := by
  unfold sg_pP; rw [pm_c, upd_same]
theorem pP_c (σ : sg_M) (c : Nat) (P : fn_PS) (w : Nat → Int32) {j : Nat} (hj : j ≠ 7) : sg_pP σ c P w c j = σ c j := by
  unfold sg_pP; rw [pm_c, upd_ne hj]
theorem ev_step (σ : sg_M) (c n : Nat) (kind : Int32) (P : fn_PS) (w : Nat → Int32) (h1 : 1 ≤ n) (h8 : n ≤ 8) (hn : σ c 6 = nI n) (hi : iv_ps (σ (c + 1)) n P) : ∃ w', sg_ev 29 (sg_pP σ c P w) [sg_r 2 c, sg_i kind] = some (none, sg_pP σ c (fn_step (σ c 0) n (σ (c + 1)) kind P) w') := by
  have h := ev_tenth (sg_pP σ c P w) c n kind h1 h8 (by rw [pP_c _ _ _ _ (by omega)]; exact hn) (by
    unfold sg_pP
    rw [pm_1, pm_2]
    exact iv_okr hi)
  rw [pP_c7, pP_c _ _ _ _ (show (0 : Nat) ≠ 7 by omega)] at h
  unfold sg_pP at h
  rw [pm_1, pm_2, pm_3, pm_4, pm_5, pm_pm] at h
  exact ⟨_, h⟩
theorem ev_going (σ : sg_M) (c n N : Nat) (kind : Int32) (h1 : 1 ≤ n) (h8 : n ≤ 8) (hn : σ c 6 = nI n) (hN : N < 2 ^ 31) : ∀ m t (P : fn_PS) (w : Nat → Int32), t + m = N → iv_ps (σ (c + 1)) n P → ∃ w', sg_rv 28 2 (sg_pP σ c P w) [sg_r 2 c, sg_i kind, sg_i (nI N), sg_i (nI t)] [] = some (some (sg_i (nI (t + (fn_wh fn_nf (fn_step (σ c 0) n (σ (c + 1)) kind) m P).1))), sg_pP σ c (fn_wh fn_nf (fn_step (σ c 0) n (σ (c + 1)) kind) m P).2 w') := by
  intro m
  induction m with
  | zero =>
    intro t P w ht hi
    refine ⟨w, ?_⟩
    simp only [mq_28_2, mq_28_3, mq_28_4, nI_ltI (show t < 2 ^ 31 by omega) hN, show ¬ t < N by omega, if_false, mq_28_25, mq_28_26, fn_wh, Nat.add_zero]
  | succ m ih =>
    intro t P w ht hi
    simp only [mq_28_2, mq_28_3, mq_28_4, nI_ltI (show t < 2 ^ 31 by omega) hN, show t < N by omega, if_true]
    by_cases hf : 40 < P.1
    · refine ⟨w, ?_⟩
      have hc : fn_nf P = false := by simp [fn_nf, hf]
      simp only [mq_28_7, mq_28_8, mq_28_11, ev_hasFallen, sg_bi_i, sg_bz, pP_c7, hf, not_true_eq_false, if_false, mq_28_25, mq_28_26, fn_wh, hc, Bool.false_eq_true, Nat.add_zero]
    · have hc : fn_nf P = true := by simp [fn_nf, hf]
      obtain ⟨w1, hs⟩ := ev_step σ c n kind P w h1 h8 hn hi
      obtain ⟨w2, ih⟩ := ih (t + 1) (fn_step (σ c 0) n (σ (c + 1)) kind P) w1 (by omega) (step_iv h1 hi)
      refine ⟨w2, ?_⟩
      simp only [mq_28_7, mq_28_8, mq_28_11, ev_hasFallen, sg_bi_i, sg_bz, pP_c7, hf, not_false_eq_true, if_true, mq_28_14, mq_28_15, mq_28_16, mq_28_19, mq_28_22, hs, sg_bi_n, nI_1, fn_wh, hc]
      rw [ih, show t + 1 + (fn_wh fn_nf (fn_step (σ c 0) n (σ (c + 1)) kind) m (fn_step (σ c 0) n (σ (c + 1)) kind P)).1 = t + ((fn_wh fn_nf (fn_step (σ c 0) n (σ (c + 1)) kind) m (fn_step (σ c 0) n (σ (c + 1)) kind P)).1 + 1) by omega]
theorem ev_goTenths (σ : sg_M) (c n N : Nat) (kind : Int32) (P : fn_PS) (w : Nat → Int32) (h1 : 1 ≤ n) (h8 : n ≤ 8) (hn : σ c 6 = nI n) (hN : N < 2 ^ 31) (hi : iv_ps (σ (c + 1)) n P) : ∃ w', sg_ev 28 (sg_pP σ c P w) [sg_r 2 c, sg_i kind, sg_i (nI N)] = some (some (sg_i (nI (fn_wh fn_nf (fn_step (σ c 0) n (σ (c + 1)) kind) N P).1)), sg_pP σ c (fn_wh fn_nf (fn_step (σ c 0) n (σ (c + 1)) kind) N P).2 w') := by
  obtain ⟨w', h⟩ := ev_going σ c n N kind h1 h8 hn hN N 0 P w (by omega) hi
  refine ⟨w', ?_⟩
  simp only [me_28, me_28, mq_28_0, mq_28_1]
  rw [show (0 : Int32) = nI 0 from rfl, h, Nat.zero_add]
theorem mP_120 (σ : sg_M) (t : Int32) (P : fn_PS) (w : Nat → Int32) {j : Nat} (hj : j ≠ 9 ∧ j ≠ 10) : sg_mP σ t P w 120 j = σ 120 j := by
  unfold sg_mP; rw [mm_120, upd_ne hj.2, upd_ne hj.1]
theorem mP_9 (σ : sg_M) (t : Int32) (P : fn_PS) (w : Nat → Int32) : sg_mP σ t P w 120 9 = P.1 := by
  unfold sg_mP; rw [mm_120, upd_ne (by omega), upd_same]
theorem mP_10 (σ : sg_M) (t : Int32) (P : fn_PS) (w : Nat → Int32) : sg_mP σ t P w 120 10 = t := by
  unfold sg_mP; rw [mm_120, upd_same]
theorem em_step (σ : sg_M) (n : Nat) (kind t : Int32) (P : fn_PS) (w : Nat → Int32) (h1 : 1 ≤ n) (h8 : n ≤ 8) (hn : σ 120 8 = nI n) (hi : iv_ps (σ 127) n P) : ∃ w', sg_ev 136 (sg_mP σ t P w) [sg_r 7 120, sg_i kind] = some (none, sg_mP σ (t + 1) (fn_step 1 n (σ 127) kind P) w') := by
  have e127 : sg_mP σ t P w 127 = σ 127 := by unfold sg_mP; rw [mm_ne (by omega)]
  have h := em_tenth (sg_mP σ t P w) n kind h1 h8 (by rw [mP_120 _ _ _ _ (by omega)]; exact hn) (by
    rw [e127]
    unfold sg_mP
    rw [mm_128]
    exact iv_okr hi)
  rw [mP_9, mP_10, e127] at h
  unfold sg_mP at h
  rw [mm_128, mm_129, mm_130, mm_131, mm_mm] at h
  exact ⟨_, h⟩
theorem em_going (σ : sg_M) (n N : Nat) (kind : Int32) (h1 : 1 ≤ n) (h8 : n ≤ 8) (hn : σ 120 8 = nI n) (hN : N < 2 ^ 31) : ∀ m t (T : Int32) (P : fn_PS) (w : Nat → Int32), t + m = N → iv_ps (σ 127) n P → ∃ w', sg_rv 135 2 (sg_mP σ T P w) [sg_r 7 120, sg_i kind, sg_i (nI N), sg_i (nI t)] [] = some (none, sg_mP σ (T + nI (fn_wh fn_nf (fn_step 1 n (σ 127) kind) m P).1) (fn_wh fn_nf (fn_step 1 n (σ 127) kind) m P).2 w') := by
  intro m
  induction m with
  | zero =>
    intro t T P w ht hi
    refine ⟨w, ?_⟩
    simp only [mq_135_2, mq_135_3, mq_135_4, nI_ltI (show t < 2 ^ 31 by omega) hN, show ¬ t < N by omega, if_false, mq_135_27, fn_wh]
    rw [nI_0, Int32.add_zero]
  | succ m ih =>
    intro t T P w ht hi
    simp only [mq_135_2, mq_135_3, mq_135_4, nI_ltI (show t < 2 ^ 31 by omega) hN, show t < N by omega, if_true]
    by_cases hf : 40 < P.1
    · refine ⟨w, ?_⟩
      have hc : fn_nf P = false := by simp [fn_nf, hf]
      simp only [mq_135_7, mq_135_8, mq_135_11, mq_135_13, mP_9, hf, if_true, mq_135_27, fn_wh, hc, Bool.false_eq_true, if_false]
      rw [nI_0, Int32.add_zero]
    · have hc : fn_nf P = true := by simp [fn_nf, hf]
      obtain ⟨w1, hs⟩ := em_step σ n kind T P w h1 h8 hn hi
      obtain ⟨w2, ih⟩ := ih (t + 1) (T + 1) (fn_step 1 n (σ 127) kind P) w1 (by omega) (step_iv h1 hi)
      refine ⟨w2, ?_⟩
      simp only [mq_135_7, mq_135_8, mq_135_11, mq_135_13, mP_9, hf, if_false, mq_135_16, mq_135_17, mq_135_18, mq_135_21, mq_135_24, hs, sg_bi_n, nI_1, fn_wh, hc, if_true]
      rw [ih]
      congr 3
      rw [Int32.add_assoc, show (1 : Int32) = nI 1 from rfl, nI_add, Nat.add_comm]
theorem em_goTenths (σ : sg_M) (n N : Nat) (kind T : Int32) (P : fn_PS) (w : Nat → Int32) (h1 : 1 ≤ n) (h8 : n ≤ 8) (hn : σ 120 8 = nI n) (hN : N < 2 ^ 31) (hi : iv_ps (σ 127) n P) : ∃ w', sg_ev 135 (sg_mP σ T P w) [sg_r 7 120, sg_i kind, sg_i (nI N)] = some (none, sg_mP σ (T + nI (fn_wh fn_nf (fn_step 1 n (σ 127) kind) N P).1) (fn_wh fn_nf (fn_step 1 n (σ 127) kind) N P).2 w') := by
  obtain ⟨w', h⟩ := em_going σ n N kind h1 h8 hn hN N 0 T P w (by omega) hi
  refine ⟨w', ?_⟩
  simp only [me_135, me_135, mq_135_0, mq_135_1]
  rw [show (0 : Int32) = nI 0 from rfl, h]
