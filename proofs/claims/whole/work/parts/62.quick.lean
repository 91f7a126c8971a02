/-! QUICKEST -/
theorem mx_add {s : Nat → Int32} {c : Int32} (hc : 0 ≤ c.toInt ∧ c.toInt ≤ 4) : ∀ m, 1 ≤ m → (∀ j, j < m → 0 ≤ (s j).toInt ∧ (s j).toInt ≤ 1000000) → fn_mx (fun j => s j + c) m = fn_mx s m + c ∧ 0 ≤ (fn_mx s m).toInt ∧ (fn_mx s m).toInt ≤ 1000000 := by
  intro m
  induction m with
  | zero => intro h; omega
  | succ m ih =>
    intro _ hs
    have a := hs m (by omega)
    have ea := sg_add_toInt (a := s m) (b := c) (by omega) (by omega) (by omega) (by omega)
    by_cases h0 : m = 0
    · subst h0
      show (if (0 : Int32) < s 0 + c then s 0 + c else 0) = (if (0 : Int32) < s 0 then s 0 else 0) + c ∧ 0 ≤ (if (0 : Int32) < s 0 then s 0 else 0).toInt ∧ (if (0 : Int32) < s 0 then s 0 else 0).toInt ≤ 1000000
      have e0 : (if (0 : Int32) < s 0 then s 0 else 0) = s 0 := by
        by_cases h : (0 : Int32) < s 0
        · rw [if_pos h]
        · rw [if_neg h]
          rw [Int32.lt_iff_toInt_lt, sg_t0] at h
          exact Int32.toInt_inj.mp (by rw [sg_t0]; omega)
      rw [e0]
      refine ⟨?_, a⟩
      by_cases h : (0 : Int32) < s 0 + c
      · rw [if_pos h]
      · rw [if_neg h]
        rw [Int32.lt_iff_toInt_lt, sg_t0] at h
        exact Int32.toInt_inj.mp (by rw [sg_t0]; omega)
    · obtain ⟨i1, i2, i3⟩ := ih (by omega) (fun j hj => hs j (by omega))
      show (if fn_mx (fun j => s j + c) m < s m + c then s m + c else fn_mx (fun j => s j + c) m) = (if fn_mx s m < s m then s m else fn_mx s m) + c ∧ 0 ≤ (if fn_mx s m < s m then s m else fn_mx s m).toInt ∧ (if fn_mx s m < s m then s m else fn_mx s m).toInt ≤ 1000000
      rw [i1]
      have eb := sg_add_toInt (a := fn_mx s m) (b := c) (by omega) (by omega) (by omega) (by omega)
      have eq : (fn_mx s m + c < s m + c) = (fn_mx s m < s m) := by
        rw [Int32.lt_iff_toInt_lt, Int32.lt_iff_toInt_lt, ea, eb, eq_iff_iff]
        omega
      simp only [eq]
      by_cases h : fn_mx s m < s m
      · simp only [h, if_true]
        exact ⟨trivial, a⟩
      · simp only [h, if_false]
        exact ⟨trivial, i2, i3⟩
/-- the greatest strain behind N hours at t -/
def fn_G (s : Nat → Int32) (n : Nat) (t : Int32) (N : Nat) : Int32 := fn_mx (fun j => fn_bkn t N (s j) + (t - 400) / 40) (n - 1)
theorem ev_sbo (σ : sg_M) (c n N : Nat) (t : Int32) (P : fn_PS) (w : Nat → Int32) (h1 : 1 ≤ n) (h8 : n ≤ 8) (hn : σ c 6 = nI n) (ht : 400 ≤ t ∧ t ≤ 560) (hs : ∀ k, k + 1 < n → 0 ≤ (P.2.2.2 k).toInt ∧ (P.2.2.2 k).toInt ≤ 1000000) : sg_ev 62 (sg_pP σ c (fn_bhn t n N P) w) [sg_r 2 c, sg_i t] = some (some (sg_i (fn_G P.2.2.2 n t N)), sg_pP σ c (fn_bhn t n N P) w) := by
  have hn' : sg_pP σ c (fn_bhn t n N P) w c 6 = nI n := by rw [pP_c _ _ _ _ (by omega)]; exact hn
  have e := ev_mx (sg_pP σ c (fn_bhn t n N P) w) c n h1 h8 hn'
  rw [pP_4] at e
  have ec : fn_mx (fn_bhn t n N P).2.2.2 (n - 1) = fn_mx (fun j => fn_bkn t N (P.2.2.2 j)) (n - 1) := fn_mx_congr (n - 1) (fun j hj => by
    show (if j < n - 1 then fn_bkn t N (P.2.2.2 j) else P.2.2.2 j) = _
    rw [if_pos hj])
  rw [ec] at e
  unfold fn_G
  have c1 : ((1 : Int32) < nI n) = (1 < n) := by rw [show (1 : Int32) = nI 1 from rfl, eq_iff_iff]; exact nI_ltI (by omega) (by omega)
  by_cases hn1 : 1 < n
  · have ma := mx_add (s := fun j => fn_bkn t N (P.2.2.2 j)) (so_rg ht) (n - 1) (by omega) (fun j hj => by
      have a := hs j (by omega)
      have b := bkn_rg ht N (P.2.2.2 j) a.1 a.2
      exact ⟨b.1, Int.le_trans b.2 a.2⟩)
    rw [ma.1]
    simp (decide := true) only [me_62, mq_62_0, mq_62_1, mq_62_4, mq_62_5, mq_62_8, mq_62_9, mq_62_12, mq_62_13, mq_62_16, mq_62_17, mq_62_20, mq_62_21, hn', c1, hn1, e, ev_so, Nat.reduceAdd, Nat.reduceMul, Nat.reduceSub, Nat.zero_add, sg_bi_i, sg_bi_n, sg_bz, sg_bb, sg_b_0, sg_b_1, if_true, if_false, not_true_eq_false, not_false_eq_true, true_and, and_true, false_and, and_false, and_self, Int32.reduceSub]
  · obtain rfl : n = 1 := by omega
    simp (decide := true) only [me_62, mq_62_0, mq_62_1, mq_62_4, mq_62_5, mq_62_8, mq_62_9, mq_62_12, mq_62_13, mq_62_16, mq_62_17, mq_62_20, mq_62_21, hn', c1, hn1, Nat.reduceAdd, Nat.reduceMul, Nat.reduceSub, Nat.zero_add, sg_bi_i, sg_bi_n, sg_bz, sg_bb, sg_b_0, sg_b_1, if_true, if_false, not_true_eq_false, not_false_eq_true, true_and, and_true, false_and, and_false, and_self, Int32.reduceSub]
    rfl
def fn_first (f : Nat → Bool) : Nat → Nat → Nat
  | 0, k => k
  | m + 1, k => if f k then k else fn_first f m (k + 1)
theorem first_spec (f : Nat → Bool) : ∀ m k, k ≤ fn_first f m k ∧ fn_first f m k ≤ k + m ∧ (∀ i, k ≤ i → i < fn_first f m k → f i = false) ∧ (fn_first f m k < k + m → f (fn_first f m k) = true) := by
  intro m
  induction m with
  | zero => intro k; exact ⟨Nat.le_refl k, Nat.le_refl k, fun i a b => by simp only [fn_first] at b; omega, fun a => by simp only [fn_first] at a; omega⟩
  | succ m ih =>
    intro k
    simp only [fn_first]
    by_cases h : f k = true
    · simp only [h, if_true]
      exact ⟨Nat.le_refl k, by omega, fun i a b => by omega, fun _ => trivial⟩
    · simp only [h, if_false]
      obtain ⟨a, b, c, d⟩ := ih (k + 1)
      refine ⟨by simp; omega, by simp; omega, fun i x y => ?_, fun x => ?_⟩
      · simp at y
        by_cases hik : i = k
        · subst hik; simpa using h
        · exact c i (by omega) y
      · simp at x ⊢
        exact d (by omega)
theorem ev_htb_l (σ : sg_M) (n : Nat) (t x : Int32) (x0 x1 : sg_V) (P : fn_PS) (w : Nat → Int32) (h1 : 1 ≤ n) (h8 : n ≤ 8) (hn : σ 67 6 = nI n) (ht : 400 ≤ t ∧ t ≤ 560) (hs : ∀ k, k + 1 < n → 0 ≤ (P.2.2.2 k).toInt ∧ (P.2.2.2 k).toInt ≤ 1000000) : ∀ m h, h + m = 41 → ∃ h', sg_rv 61 17 (sg_pP σ 67 (fn_bhn t n h P) w) [x0, x1, sg_i t, sg_i x, sg_r 2 67, sg_i (nI h)] [] = some (some (sg_i (nI (fn_first (fun N => decide (fn_G P.2.2.2 n t N ≤ x)) m h))), sg_pP σ 67 (fn_bhn t n h' P) w) := by
  have c40 : ∀ h, h ≤ 41 → ((40 < nI h) = (40 < h)) := fun h hh => by rw [show (40 : Int32) = nI 40 from rfl, eq_iff_iff]; exact nI_ltI (by omega) (by omega)
  intro m
  induction m with
  | zero =>
    intro h hh
    refine ⟨h, ?_⟩
    simp (decide := true) only [mq_61_17, mq_61_19, mq_61_21, c40 h (by omega), show 40 < h by omega, mq_61_49, mq_61_51, Nat.reduceAdd, Nat.reduceMul, Nat.reduceSub, Nat.zero_add, sg_bi_i, sg_bi_n, sg_bz, sg_bb, sg_b_0, sg_b_1, if_true, if_false, not_true_eq_false, not_false_eq_true, true_and, and_true, false_and, and_false, and_self, Int32.reduceSub, fn_first]
    rw [show h = 41 by omega]
    rfl
  | succ m ih =>
    intro h hh
    simp (decide := true) only [mq_61_17, mq_61_19, mq_61_21, c40 h (by omega), show ¬ 40 < h by omega, Nat.reduceAdd, Nat.reduceMul, Nat.reduceSub, Nat.zero_add, sg_bi_i, sg_bi_n, sg_bz, sg_bb, sg_b_0, sg_b_1, if_true, if_false, not_true_eq_false, not_false_eq_true, true_and, and_true, false_and, and_false, and_self, Int32.reduceSub]
    simp only [fn_first]
    by_cases hx : fn_G P.2.2.2 n t h ≤ x
    · refine ⟨h, ?_⟩
      have hx' : ¬ x < fn_G P.2.2.2 n t h := Int32.not_lt.mpr hx
      simp (decide := true) only [mq_61_24, mq_61_26, mq_61_27, mq_61_30, mq_61_31, mq_61_34, mq_61_36, ev_sbo σ 67 n h t P w h1 h8 hn ht hs, hx, hx', decide_true, Nat.reduceAdd, Nat.reduceMul, Nat.reduceSub, Nat.zero_add, sg_bi_i, sg_bi_n, sg_bz, sg_bb, sg_b_0, sg_b_1, if_true, if_false, not_true_eq_false, not_false_eq_true, true_and, and_true, false_and, and_false, and_self, Int32.reduceSub]
    · have hx' : x < fn_G P.2.2.2 n t h := Int32.not_le.mp hx
      obtain ⟨h', ih⟩ := ih (h + 1) (by omega)
      refine ⟨h', ?_⟩
      simp (decide := true) only [mq_61_24, mq_61_26, mq_61_27, mq_61_30, mq_61_31, mq_61_34, mq_61_36, mq_61_37, mq_61_39, mq_61_40, mq_61_43, mq_61_46, ev_sbo σ 67 n h t P w h1 h8 hn ht hs, ev_bhP σ 67 n h t P w h1 h8 hn, hx, hx', decide_false, nI_1, Bool.false_eq_true, Nat.reduceAdd, Nat.reduceMul, Nat.reduceSub, Nat.zero_add, sg_bi_i, sg_bi_n, sg_bz, sg_bb, sg_b_0, sg_b_1, if_true, if_false, not_true_eq_false, not_false_eq_true, true_and, and_true, false_and, and_false, and_self, Int32.reduceSub]
      exact ih
/-- hours to bake, at any time -/
theorem ev_htb {B : Int} {σ : sg_M} {p n : Nat} (hB : B ≤ 1000000) (hp : p < 8) (h : iv_pc B σ p n) (t x : Int32) (ht : 400 ≤ t ∧ t ≤ 560) (τ : sg_M) (s : sg_same σ τ) : ∃ ω, sg_same σ ω ∧ sg_ev 61 τ [sg_r 1 0, sg_r 2 (19 + 6 * p), sg_i t, sg_i x] = some (some (sg_i (nI (fn_first (fun N => decide (fn_G (σ (19 + 6 * p + 4)) n t N ≤ x)) 41 0))), ω) := by
  obtain ⟨l1, l2, l3, l4, l5⟩ := st_like hp h τ s 0 (by omega)
  simp only [Nat.mul_zero, Nat.add_zero, Nat.reduceAdd] at l1 l2 l3 l4 l5
  obtain ⟨⟨n1, n8⟩, hn, hn2, ho, he, hi, hst⟩ := id h
  have hs : ∀ k, k + 1 < n → 0 ≤ ((fn_lkP τ 67 (19 + 6 * p)).2.2.2 k).toInt ∧ ((fn_lkP τ 67 (19 + 6 * p)).2.2.2 k).toInt ≤ 1000000 := fun k hk => by
    rw [← (l4.2 k (by omega)).2.2]
    have := hst.1 k hk
    exact ⟨this.1, by omega⟩
  obtain ⟨h', g⟩ := ev_htb_l (sg_lk τ 67 (19 + 6 * p)) n t x (sg_r 1 0) (sg_r 2 (19 + 6 * p)) (fn_lkP τ 67 (19 + 6 * p)) (τ 72) n1 n8 l2 ht hs 41 0 (by omega)
  rw [fn_bhn_0] at g
  have ef : (fun N => decide (fn_G (fn_lkP τ 67 (19 + 6 * p)).2.2.2 n t N ≤ x)) = (fun N => decide (fn_G (σ (19 + 6 * p + 4)) n t N ≤ x)) := by
    funext N
    have : fn_G (fn_lkP τ 67 (19 + 6 * p)).2.2.2 n t N = fn_G (σ (19 + 6 * p + 4)) n t N := fn_mx_congr (n - 1) (fun j hj => by
      show fn_bkn t N ((fn_lkP τ 67 (19 + 6 * p)).2.2.2 j) + (t - 400) / 40 = fn_bkn t N (σ (19 + 6 * p + 4) j) + (t - 400) / 40
      rw [← (l4.2 j (by omega)).2.2]
      rfl)
    rw [this]
  rw [ef] at g
  refine ⟨_, same_tr s (same_lk0 τ (19 + 6 * p) (fn_bhn t n h' (fn_lkP τ 67 (19 + 6 * p))) (τ 72)), ?_⟩
  have i0 : sg_in (0 : Int32) 4 = true := by decide
  simp (decide := true) only [me_61, mq_61_0, mq_61_1, mq_61_4, mq_61_5, mq_61_6, mq_61_8, mq_61_10, mq_61_11, mq_61_14, mq_61_15, i0, l1, show (0 : Int32).toNatClampNeg = 0 from rfl, Nat.reduceAdd, Nat.reduceMul, Nat.reduceSub, Nat.zero_add, sg_bi_i, sg_bi_n, sg_bz, sg_bb, sg_b_0, sg_b_1, if_true, if_false, not_true_eq_false, not_false_eq_true, true_and, and_true, false_and, and_false, and_self, Int32.reduceSub]
  exact g
def fn_qk (H : Nat → Nat) : Nat → Nat → Nat × Int32 → Nat × Int32
  | 0, _, a => a
  | m + 1, i, a => fn_qk H m (i + 1) (if H i < a.1 then (H i, nI (400 + 20 * i)) else a)
theorem qk_spec (H : Nat → Nat) : ∀ m i (a : Nat × Int32), (fn_qk H m i a).1 ≤ a.1 ∧ (∀ k, i ≤ k → k < i + m → (fn_qk H m i a).1 ≤ H k) ∧ (fn_qk H m i a = a ∨ ∃ k, i ≤ k ∧ k < i + m ∧ fn_qk H m i a = (H k, nI (400 + 20 * k)) ∧ H k < a.1 ∧ ∀ k', i ≤ k' → k' < k → H k < H k') := by
  intro m
  induction m with
  | zero => intro i a; exact ⟨Nat.le_refl _, fun k x y => by omega, Or.inl rfl⟩
  | succ m ih =>
    intro i a
    simp only [fn_qk]
    by_cases h : H i < a.1
    · rw [if_pos h]
      obtain ⟨x, y, z⟩ := ih (i + 1) (H i, nI (400 + 20 * i))
      refine ⟨by have : (fn_qk H m (i + 1) (H i, nI (400 + 20 * i))).1 ≤ H i := x; omega, fun k p q => ?_, Or.inr ?_⟩
      · by_cases hk : k = i
        · subst hk; exact x
        · exact y k (by omega) (by omega)
      · rcases z with z | ⟨k, p, q, r, s, t⟩
        · exact ⟨i, Nat.le_refl i, by omega, z, h, fun k' u v => by omega⟩
        · refine ⟨k, by omega, by omega, r, by have : H k < H i := s; omega, fun k' u v => ?_⟩
          by_cases hk : k' = i
          · subst hk; exact s
          · exact t k' (by omega) v
    · rw [if_neg h]
      obtain ⟨x, y, z⟩ := ih (i + 1) a
      refine ⟨x, fun k p q => ?_, ?_⟩
      · by_cases hk : k = i
        · subst hk; omega
        · exact y k (by omega) (by omega)
      · rcases z with z | ⟨k, p, q, r, s, t⟩
        · exact Or.inl z
        · refine Or.inr ⟨k, by omega, by omega, r, s, fun k' u v => ?_⟩
          by_cases hk : k' = i
          · subst hk; omega
          · exact t k' (by omega) v
theorem sg_ti {i : Nat} (hi : i < 9) : 400 ≤ nI (400 + 20 * i) ∧ nI (400 + 20 * i) ≤ 560 := by
  rw [Int32.le_iff_toInt_le, Int32.le_iff_toInt_le, sg_t400, sg_t560, nI_toInt (by omega)]
  omega
theorem ev_qk_l {B : Int} {σ : sg_M} {p n : Nat} (hB : B ≤ 1000000) (hp : p < 8) (h : iv_pc B σ p n) (x what : Int32) : ∀ m i (a : Nat × Int32) (y7 : sg_V) (τ : sg_M), (y7 = sg_r 0 0 ∨ ∃ b, y7 = sg_i b) → a.1 ≤ 41 → i + m = 9 → sg_same σ τ → ∃ ω, sg_same σ ω ∧ sg_rv 60 60 τ [sg_r 1 0, sg_i (nI p), sg_i x, sg_i what, sg_i (nI a.1), sg_i a.2, sg_i (nI (400 + 20 * i)), y7] [] = some (some (sg_i (if 40 < (fn_qk (fun i => fn_first (fun N => decide (fn_G (σ (19 + 6 * p + 4)) n (nI (400 + 20 * i)) N ≤ x)) 41 0) m i a).1 then -9 else if what = 0 then nI (fn_qk (fun i => fn_first (fun N => decide (fn_G (σ (19 + 6 * p + 4)) n (nI (400 + 20 * i)) N ≤ x)) 41 0) m i a).1 else (fn_qk (fun i => fn_first (fun N => decide (fn_G (σ (19 + 6 * p + 4)) n (nI (400 + 20 * i)) N ≤ x)) 41 0) m i a).2)), ω) := by
  have i1 : sg_in (nI p) 8 = true := sg_in_nI (by omega) (by omega)
  have cp : (nI p).toNatClampNeg = p := sg_nIc (by omega)
  have c560 : ∀ i, i ≤ 9 → ((560 < nI (400 + 20 * i)) = (8 < i)) := fun i hi => by
    rw [show (560 : Int32) = nI 560 from rfl, eq_iff_iff, nI_ltI (by omega) (by omega)]; omega
  intro m
  induction m with
  | zero =>
    intro i a y7 τ hy ha hi s
    refine ⟨τ, s, ?_⟩
    have c40 : ((40 < nI a.1) = (40 < a.1)) := by rw [show (40 : Int32) = nI 40 from rfl, eq_iff_iff]; exact nI_ltI (by omega) (by omega)
    simp only [fn_qk]
    simp (decide := true) only [mq_60_60, mq_60_62, mq_60_65, c560 i (by omega), show 8 < i by omega, Nat.reduceAdd, Nat.reduceMul, Nat.reduceSub, Nat.zero_add, sg_bi_i, sg_bi_n, sg_bz, sg_bb, sg_b_0, sg_b_1, if_true, if_false, not_true_eq_false, not_false_eq_true, true_and, and_true, false_and, and_false, and_self, Int32.reduceSub]
    by_cases h40 : 40 < a.1
    · simp (decide := true) only [mq_60_104, mq_60_106, mq_60_108, mq_60_111, mq_60_113, c40, h40, Nat.reduceAdd, Nat.reduceMul, Nat.reduceSub, Nat.zero_add, sg_bi_i, sg_bi_n, sg_bz, sg_bb, sg_b_0, sg_b_1, if_true, if_false, not_true_eq_false, not_false_eq_true, true_and, and_true, false_and, and_false, and_self, Int32.reduceSub]
    · by_cases hw : what = 0
      · simp (decide := true) only [mq_60_104, mq_60_106, mq_60_108, mq_60_111, mq_60_113, mq_60_114, mq_60_115, mq_60_118, mq_60_120, mq_60_123, mq_60_125, c40, h40, hw, Nat.reduceAdd, Nat.reduceMul, Nat.reduceSub, Nat.zero_add, sg_bi_i, sg_bi_n, sg_bz, sg_bb, sg_b_0, sg_b_1, if_true, if_false, not_true_eq_false, not_false_eq_true, true_and, and_true, false_and, and_false, and_self, Int32.reduceSub]
      · simp (decide := true) only [mq_60_104, mq_60_106, mq_60_108, mq_60_111, mq_60_113, mq_60_114, mq_60_115, mq_60_118, mq_60_120, mq_60_123, mq_60_125, c40, h40, hw, Nat.reduceAdd, Nat.reduceMul, Nat.reduceSub, Nat.zero_add, sg_bi_i, sg_bi_n, sg_bz, sg_bb, sg_b_0, sg_b_1, if_true, if_false, not_true_eq_false, not_false_eq_true, true_and, and_true, false_and, and_false, and_self, Int32.reduceSub]
  | succ m ih =>
    intro i a y7 τ hy ha hi s
    obtain ⟨ω1, s1, g1⟩ := ev_htb hB hp h (nI (400 + 20 * i)) x (sg_ti (by omega)) τ s
    have hH := first_spec (fun N => decide (fn_G (σ (19 + 6 * p + 4)) n (nI (400 + 20 * i)) N ≤ x)) 41 0
    simp only [fn_qk]
    generalize hh : fn_first (fun N => decide (fn_G (σ (19 + 6 * p + 4)) n (nI (400 + 20 * i)) N ≤ x)) 41 0 = H at g1 hH ⊢
    have cH : ((nI H < nI a.1) = (H < a.1)) := by rw [eq_iff_iff]; exact nI_ltI (by omega) (by omega)
    have e20 : nI (400 + 20 * i) + 20 = nI (400 + 20 * (i + 1)) := by rw [show (20 : Int32) = nI 20 from rfl, nI_add]; congr 1
    simp (decide := true) only [mq_60_60, mq_60_62, mq_60_65, c560 i (by omega), show ¬ 8 < i by omega, Nat.reduceAdd, Nat.reduceMul, Nat.reduceSub, Nat.zero_add, sg_bi_i, sg_bi_n, sg_bz, sg_bb, sg_b_0, sg_b_1, if_true, if_false, not_true_eq_false, not_false_eq_true, true_and, and_true, false_and, and_false, and_self, Int32.reduceSub]
    by_cases hl : H < a.1
    · obtain ⟨ω, s2, g2⟩ := ih (i + 1) (H, nI (400 + 20 * i)) (sg_i (nI H)) ω1 (Or.inr ⟨_, rfl⟩) (by show H ≤ 41; omega) (by omega) s1
      refine ⟨ω, s2, ?_⟩
      rw [if_pos hl]
      rw [← g2]
      rcases hy with rfl | ⟨b, rfl⟩ <;> simp (decide := true) only [mq_60_68, mq_60_69, mq_60_70, mq_60_73, mq_60_74, mq_60_75, mq_60_77, mq_60_78, mq_60_81, mq_60_83, mq_60_85, mq_60_87, mq_60_90, mq_60_92, mq_60_94, mq_60_96, mq_60_98, mq_60_101, i1, cp, g1, cH, hl, e20, Nat.reduceAdd, Nat.reduceMul, Nat.reduceSub, Nat.zero_add, sg_bi_i, sg_bi_n, sg_bz, sg_bb, sg_b_0, sg_b_1, if_true, if_false, not_true_eq_false, not_false_eq_true, true_and, and_true, false_and, and_false, and_self, Int32.reduceSub]
    · obtain ⟨ω, s2, g2⟩ := ih (i + 1) a (sg_i (nI H)) ω1 (Or.inr ⟨_, rfl⟩) ha (by omega) s1
      refine ⟨ω, s2, ?_⟩
      rw [if_neg hl]
      rw [← g2]
      rcases hy with rfl | ⟨b, rfl⟩ <;> simp (decide := true) only [mq_60_68, mq_60_69, mq_60_70, mq_60_73, mq_60_74, mq_60_75, mq_60_77, mq_60_78, mq_60_81, mq_60_83, mq_60_85, mq_60_87, mq_60_90, mq_60_92, mq_60_94, mq_60_96, mq_60_98, mq_60_101, i1, cp, g1, cH, hl, e20, Nat.reduceAdd, Nat.reduceMul, Nat.reduceSub, Nat.zero_add, sg_bi_i, sg_bi_n, sg_bz, sg_bb, sg_b_0, sg_b_1, if_true, if_false, not_true_eq_false, not_false_eq_true, true_and, and_true, false_and, and_false, and_self, Int32.reduceSub]
/-- the model: one oven, one number of hours -/
theorem em_qk_1 {B : Int} {σ : sg_M} {p n N : Nat} (hp : p < 8) (h : iv_pc B σ p n) (t : Int32) (hN : N < 2 ^ 31) (τ : sg_M) (s : sg_same σ τ) : ∃ ω1 ω, sg_same σ ω ∧ sg_ev 123 τ [sg_r 7 120, sg_i (nI p)] = some (none, ω1) ∧ sg_ev 155 ω1 [sg_r 7 120, sg_i t, sg_i (nI N)] = some (none, ω) ∧ sg_ev 130 ω [sg_r 7 120] = some (some (sg_i (fn_G (σ (19 + 6 * p + 4)) n t N)), ω) := by
  have h' := pc_same hp h s
  obtain ⟨t1, t2, t3⟩ := em_take hp h'
  obtain ⟨r1, r2, -⟩ := tk_rl h'
  obtain ⟨⟨n1, n8⟩, -⟩ := id h
  have b := em_bake (sg_tk τ p) n N t 0 (fn_tk τ p) (τ 131) n8 t2 hN
  have rel := bake_rl (N := N) (t := t) n8 r1
  refine ⟨_, _, same_tr s (same_mP τ p 0 (fn_bM t N n (fn_tk τ p)) (τ 131)), t1, b, ?_⟩
  have e := em_mx (sg_mP (sg_tk τ p) 0 (fn_bM t N n (fn_tk τ p)) (τ 131)) n n1 n8 (by rw [mP_120 _ _ _ _ (by omega)]; exact t2)
  have e130 : sg_mP (sg_tk τ p) 0 (fn_bM t N n (fn_tk τ p)) (τ 131) 130 = (fn_bM t N n (fn_tk τ p)).2.2.2 := by unfold sg_mP; rw [mm_130]
  rw [e130] at e
  rw [e]
  congr 4
  refine fn_mx_congr (n - 1) (fun j hj => ?_)
  rw [← (rel.2 j (by omega)).2.2]
  show (if j < n - 1 then (if j < n - 1 then fn_bkn t N ((fn_cp τ (19 + 6 * p)).2.2.2 j) else _) + (t - 400) / 40 else _) = fn_bkn t N (σ (19 + 6 * p + 4) j) + (t - 400) / 40
  rw [if_pos hj, if_pos hj]
  show fn_bkn t N (τ (19 + 6 * p + 4) j) + (t - 400) / 40 = _
  rw [s.sx _ (by unfold sg_kp; omega)]
theorem em_qk_hit {B : Int} {σ : sg_M} {p n : Nat} (hp : p < 8) (h : iv_pc B σ p n) (x what : Int32) (N k : Nat) (hN : N < 41) (hk : k < 9) (hit : fn_G (σ (19 + 6 * p + 4)) n (nI (400 + 20 * k)) N ≤ x) : ∀ m i (τ : sg_M), i + m = k → (∀ i', i ≤ i' → i' < k → ¬ fn_G (σ (19 + 6 * p + 4)) n (nI (400 + 20 * i')) N ≤ x) → sg_same σ τ → ∃ ω, sg_same σ ω ∧ sg_rv 156 61 τ [sg_r 7 120, sg_i (nI p), sg_i x, sg_i what, sg_i (nI N), sg_i (nI (400 + 20 * i))] [] = some (some (sg_i (if what = 0 then nI N else nI (400 + 20 * k))), ω) := by
  have c561 : ∀ i, i ≤ 9 → ((nI (400 + 20 * i) < 561) = (i < 9)) := fun i hi => by
    rw [show (561 : Int32) = nI 561 from rfl, eq_iff_iff, nI_ltI (by omega) (by omega)]; omega
  intro m
  induction m with
  | zero =>
    intro i τ hi hmiss s
    obtain rfl : i = k := by omega
    obtain ⟨ω1, ω, s1, a1, a2, a3⟩ := em_qk_1 hp h (nI (400 + 20 * i)) (show N < 2 ^ 31 by omega) τ s
    refine ⟨ω, s1, ?_⟩
    simp (decide := true) only [mq_156_61, mq_156_63, mq_156_66, c561 i (by omega), hk, Nat.reduceAdd, Nat.reduceMul, Nat.reduceSub, Nat.zero_add, sg_bi_i, sg_bi_n, sg_bz, sg_bb, sg_b_0, sg_b_1, if_true, if_false, not_true_eq_false, not_false_eq_true, true_and, and_true, false_and, and_false, and_self, Int32.reduceSub]
    by_cases hw : what = 0
    · simp (decide := true) only [mq_156_69, mq_156_70, mq_156_71, mq_156_74, mq_156_75, mq_156_77, mq_156_79, mq_156_82, mq_156_83, mq_156_86, mq_156_87, mq_156_90, mq_156_91, mq_156_94, mq_156_96, mq_156_99, mq_156_101, a1, a2, a3, Int32.not_lt.mpr hit, hw, Nat.reduceAdd, Nat.reduceMul, Nat.reduceSub, Nat.zero_add, sg_bi_i, sg_bi_n, sg_bz, sg_bb, sg_b_0, sg_b_1, if_true, if_false, not_true_eq_false, not_false_eq_true, true_and, and_true, false_and, and_false, and_self, Int32.reduceSub]
    · simp (decide := true) only [mq_156_69, mq_156_70, mq_156_71, mq_156_74, mq_156_75, mq_156_77, mq_156_79, mq_156_82, mq_156_83, mq_156_86, mq_156_87, mq_156_90, mq_156_91, mq_156_94, mq_156_96, mq_156_99, mq_156_101, a1, a2, a3, Int32.not_lt.mpr hit, hw, Nat.reduceAdd, Nat.reduceMul, Nat.reduceSub, Nat.zero_add, sg_bi_i, sg_bi_n, sg_bz, sg_bb, sg_b_0, sg_b_1, if_true, if_false, not_true_eq_false, not_false_eq_true, true_and, and_true, false_and, and_false, and_self, Int32.reduceSub]
  | succ m ih =>
    intro i τ hi hmiss s
    obtain ⟨ω1, ω, s1, a1, a2, a3⟩ := em_qk_1 hp h (nI (400 + 20 * i)) (show N < 2 ^ 31 by omega) τ s
    obtain ⟨ω2, s2, g2⟩ := ih (i + 1) ω (by omega) (fun i' a b => hmiss i' (by omega) b) s1
    refine ⟨ω2, s2, ?_⟩
    have e20 : nI (400 + 20 * i) + 20 = nI (400 + 20 * (i + 1)) := by rw [show (20 : Int32) = nI 20 from rfl, nI_add]; congr 1
    simp (decide := true) only [mq_156_61, mq_156_63, mq_156_66, c561 i (by omega), show i < 9 by omega, Nat.reduceAdd, Nat.reduceMul, Nat.reduceSub, Nat.zero_add, sg_bi_i, sg_bi_n, sg_bz, sg_bb, sg_b_0, sg_b_1, if_true, if_false, not_true_eq_false, not_false_eq_true, true_and, and_true, false_and, and_false, and_self, Int32.reduceSub]
    simp (decide := true) only [mq_156_69, mq_156_70, mq_156_71, mq_156_74, mq_156_75, mq_156_77, mq_156_79, mq_156_82, mq_156_83, mq_156_86, mq_156_87, mq_156_90, mq_156_91, mq_156_94, mq_156_96, mq_156_99, mq_156_101, mq_156_102, mq_156_105, a1, a2, a3, Int32.not_le.mp (hmiss i (Nat.le_refl i) (by omega)), e20, Nat.reduceAdd, Nat.reduceMul, Nat.reduceSub, Nat.zero_add, sg_bi_i, sg_bi_n, sg_bz, sg_bb, sg_b_0, sg_b_1, if_true, if_false, not_true_eq_false, not_false_eq_true, true_and, and_true, false_and, and_false, and_self, Int32.reduceSub]
    exact g2
theorem em_qk_miss {B : Int} {σ : sg_M} {p n : Nat} (hp : p < 8) (h : iv_pc B σ p n) (x what : Int32) (N : Nat) (hN : N < 41) : ∀ m i (τ : sg_M), i + m = 9 → (∀ i', i ≤ i' → i' < 9 → ¬ fn_G (σ (19 + 6 * p + 4)) n (nI (400 + 20 * i')) N ≤ x) → sg_same σ τ → ∃ ω, sg_same σ ω ∧ sg_rv 156 61 τ [sg_r 7 120, sg_i (nI p), sg_i x, sg_i what, sg_i (nI N), sg_i (nI (400 + 20 * i))] [] = sg_rv 156 49 ω [sg_r 7 120, sg_i (nI p), sg_i x, sg_i what, sg_i (nI (N + 1)), sg_i 580] [] := by
  have c561 : ∀ i, i ≤ 9 → ((nI (400 + 20 * i) < 561) = (i < 9)) := fun i hi => by
    rw [show (561 : Int32) = nI 561 from rfl, eq_iff_iff, nI_ltI (by omega) (by omega)]; omega
  intro m
  induction m with
  | zero =>
    intro i τ hi hmiss s
    obtain rfl : i = 9 := by omega
    refine ⟨τ, s, ?_⟩
    simp (decide := true) only [mq_156_61, mq_156_63, mq_156_66, c561 9 (by omega), show ¬ (9 : Nat) < 9 by omega, mq_156_108, mq_156_111, nI_1, Nat.reduceAdd, Nat.reduceMul, Nat.reduceSub, Nat.zero_add, sg_bi_i, sg_bi_n, sg_bz, sg_bb, sg_b_0, sg_b_1, if_true, if_false, not_true_eq_false, not_false_eq_true, true_and, and_true, false_and, and_false, and_self, Int32.reduceSub]
    rfl
  | succ m ih =>
    intro i τ hi hmiss s
    obtain ⟨ω1, ω, s1, a1, a2, a3⟩ := em_qk_1 hp h (nI (400 + 20 * i)) (show N < 2 ^ 31 by omega) τ s
    obtain ⟨ω2, s2, g2⟩ := ih (i + 1) ω (by omega) (fun i' a b => hmiss i' (by omega) b) s1
    refine ⟨ω2, s2, ?_⟩
    have e20 : nI (400 + 20 * i) + 20 = nI (400 + 20 * (i + 1)) := by rw [show (20 : Int32) = nI 20 from rfl, nI_add]; congr 1
    simp (decide := true) only [mq_156_61, mq_156_63, mq_156_66, c561 i (by omega), show i < 9 by omega, Nat.reduceAdd, Nat.reduceMul, Nat.reduceSub, Nat.zero_add, sg_bi_i, sg_bi_n, sg_bz, sg_bb, sg_b_0, sg_b_1, if_true, if_false, not_true_eq_false, not_false_eq_true, true_and, and_true, false_and, and_false, and_self, Int32.reduceSub]
    simp (decide := true) only [mq_156_69, mq_156_70, mq_156_71, mq_156_74, mq_156_75, mq_156_77, mq_156_79, mq_156_82, mq_156_83, mq_156_86, mq_156_87, mq_156_90, mq_156_91, mq_156_94, mq_156_96, mq_156_99, mq_156_101, mq_156_102, mq_156_105, a1, a2, a3, Int32.not_le.mp (hmiss i (Nat.le_refl i) (by omega)), e20, Nat.reduceAdd, Nat.reduceMul, Nat.reduceSub, Nat.zero_add, sg_bi_i, sg_bi_n, sg_bz, sg_bb, sg_b_0, sg_b_1, if_true, if_false, not_true_eq_false, not_false_eq_true, true_and, and_true, false_and, and_false, and_self, Int32.reduceSub]
    exact g2
/-- the model: rows of hours without a hit go by -/
theorem em_qk_rows {B : Int} {σ : sg_M} {p n : Nat} (hp : p < 8) (h : iv_pc B σ p n) (x what : Int32) (F : Nat) (hF : F ≤ 41) (hmiss : ∀ N i, N < F → i < 9 → ¬ fn_G (σ (19 + 6 * p + 4)) n (nI (400 + 20 * i)) N ≤ x) : ∀ m N (τ : sg_M) (y5 : sg_V), (y5 = sg_r 0 0 ∨ ∃ b, y5 = sg_i b) → N + m = F → sg_same σ τ → ∃ ω z5, (z5 = sg_r 0 0 ∨ ∃ b, z5 = sg_i b) ∧ sg_same σ ω ∧ sg_rv 156 49 τ [sg_r 7 120, sg_i (nI p), sg_i x, sg_i what, sg_i (nI N), y5] [] = sg_rv 156 49 ω [sg_r 7 120, sg_i (nI p), sg_i x, sg_i what, sg_i (nI F), z5] [] := by
  have c41 : ∀ i, i ≤ 41 → ((nI i < 41) = (i < 41)) := fun i hi => by
    rw [show (41 : Int32) = nI 41 from rfl, eq_iff_iff, nI_ltI (by omega) (by omega)]
  intro m
  induction m with
  | zero =>
    intro N τ y5 hy hN s
    obtain rfl : N = F := by omega
    exact ⟨τ, y5, hy, s, rfl⟩
  | succ m ih =>
    intro N τ y5 hy hN s
    obtain ⟨ω, s1, g1⟩ := em_qk_miss hp h x what N (by omega) 9 0 τ (by omega) (fun i _ b => hmiss N i (by omega) b) s
    obtain ⟨ω2, z5, hz, s2, g2⟩ := ih (N + 1) ω (sg_i 580) (Or.inr ⟨_, rfl⟩) (by omega) s1
    refine ⟨ω2, z5, hz, s2, ?_⟩
    rw [← g2, ← g1]
    rcases hy with rfl | ⟨b, rfl⟩ <;> simp (decide := true) only [mq_156_49, mq_156_51, mq_156_53, mq_156_56, mq_156_59, c41 N (by omega), show N < 41 by omega, Nat.reduceAdd, Nat.reduceMul, Nat.reduceSub, Nat.zero_add, sg_bi_i, sg_bi_n, sg_bz, sg_bb, sg_b_0, sg_b_1, if_true, if_false, not_true_eq_false, not_false_eq_true, true_and, and_true, false_and, and_false, and_self, Int32.reduceSub] <;> rfl
theorem pr_quickest {B : Int} {σ : sg_M} (hB : B ≤ 1000000) (p x what : Int32) (h : iv_all B σ) : sg_pair B σ 60 156 [sg_i p, sg_i x, sg_i what] := by
  rcases pc_cases h.2.2.2.2.2 p with hno | ⟨j, m, hj, rfl, hpc, hp⟩
  · refine pair_same h (sg_i (-1)) σ σ ?_ (same_rfl σ) ?_ (same_rfl σ)
    · simp (decide := true) only [me_60, mq_60_0, mq_60_1, mq_60_2, mq_60_5, mq_60_8, mq_60_9, (hno σ).1 rfl, Nat.reduceAdd, Nat.reduceMul, Nat.reduceSub, Nat.zero_add, sg_bi_i, sg_bi_n, sg_bz, sg_bb, sg_b_0, sg_b_1, if_true, if_false, not_true_eq_false, not_false_eq_true, true_and, and_true, false_and, and_false, and_self, Int32.reduceSub]
    · simp (decide := true) only [me_156, mq_156_0, mq_156_1, mq_156_2, mq_156_5, mq_156_8, mq_156_9, (hno σ).2 rfl, Nat.reduceAdd, Nat.reduceMul, Nat.reduceSub, Nat.zero_add, sg_bi_i, sg_bi_n, sg_bz, sg_bb, sg_b_0, sg_b_1, if_true, if_false, not_true_eq_false, not_false_eq_true, true_and, and_true, false_and, and_false, and_self, Int32.reduceSub]
  · have e1 := (hp σ).1 rfl
    have e2 := (hp σ).2 rfl
    have i1 : sg_in (nI j) 8 = true := sg_in_nI (by omega) (by omega)
    have cj : (nI j).toNatClampNeg = j := sg_nIc (by omega)
    obtain ⟨⟨n1, n8⟩, hn, hn2, ho, -, hi, hst⟩ := id hpc
    have x64 := sg_i64 x 0 99 0 99 (by decide) (by decide)
    have w64 := sg_i64 what 0 1 0 1 (by decide) (by decide)
    by_cases hx : 0 ≤ x ∧ x ≤ 99
    · by_cases hw : 0 ≤ what ∧ what ≤ 1
      · have mb := ev_mayBake σ (19 + 6 * j) m n1 n8 hn
        by_cases hs2 : fn_gs (σ (19 + 6 * j + 3)) m = 0 ∧ ¬ 40 < σ (19 + 6 * j) 7
        · obtain ⟨ω, s1, g1⟩ := ev_qk_l hB hj hpc x what 9 0 (41, -9) (sg_r 0 0) σ (Or.inl rfl) (Nat.le_refl 41) (by omega) (same_rfl σ)
          have sp := qk_spec (fun i => fn_first (fun N => decide (fn_G (σ (19 + 6 * j + 4)) m (nI (400 + 20 * i)) N ≤ x)) 41 0) 9 0 (41, -9)
          have fs := fun i => first_spec (fun N => decide (fn_G (σ (19 + 6 * j + 4)) m (nI (400 + 20 * i)) N ≤ x)) 41 0
          generalize hq : fn_qk (fun i => fn_first (fun N => decide (fn_G (σ (19 + 6 * j + 4)) m (nI (400 + 20 * i)) N ≤ x)) 41 0) 9 0 (41, -9) = q at g1 sp
          have A1 : sg_ev 60 σ [sg_r 1 0, sg_i (nI j), sg_i x, sg_i what] = some (some (sg_i (if 40 < q.1 then -9 else if what = 0 then nI q.1 else q.2)), ω) := by
            rw [← g1]
            simp (decide := true) only [me_60, mq_60_0, mq_60_1, mq_60_2, mq_60_5, mq_60_8, mq_60_9, mq_60_10, mq_60_11, mq_60_12, mq_60_14, mq_60_17, mq_60_20, mq_60_21, mq_60_22, mq_60_23, mq_60_26, mq_60_29, mq_60_31, mq_60_32, mq_60_33, mq_60_36, mq_60_37, mq_60_38, mq_60_41, mq_60_44, mq_60_46, mq_60_47, mq_60_49, mq_60_51, mq_60_53, mq_60_55, mq_60_58, e1, ev_within, hx, hw, i1, cj, mb, hs2, Nat.reduceAdd, Nat.reduceMul, Nat.reduceSub, Nat.zero_add, sg_bi_i, sg_bi_n, sg_bz, sg_bb, sg_b_0, sg_b_1, if_true, if_false, not_true_eq_false, not_false_eq_true, true_and, and_true, false_and, and_false, and_self, Int32.reduceSub]
            rfl
          have st2 := em_stiff hj hpc ω s1
          have e2' := (hp ω).2 (s1.s120 1 (by omega))
          have A2 : sg_ev 156 ω [sg_r 7 120, sg_i (nI j), sg_i x, sg_i what] = sg_rv 156 49 ω [sg_r 7 120, sg_i (nI j), sg_i x, sg_i what, sg_i (nI 0), sg_r 0 0] [] := by
            simp (decide := true) only [me_156, mq_156_0, mq_156_1, mq_156_2, mq_156_5, mq_156_8, mq_156_9, mq_156_10, mq_156_11, mq_156_12, mq_156_13, mq_156_16, mq_156_19, mq_156_22, mq_156_23, mq_156_24, mq_156_25, mq_156_26, mq_156_29, mq_156_32, mq_156_34, mq_156_35, mq_156_36, mq_156_37, mq_156_40, mq_156_43, mq_156_45, mq_156_46, mq_156_47, e2', em_in, x64, w64, hx, hw, st2, hs2, nI_0, Nat.reduceAdd, Nat.reduceMul, Nat.reduceSub, Nat.zero_add, sg_bi_i, sg_bi_n, sg_bz, sg_bb, sg_b_0, sg_b_1, if_true, if_false, not_true_eq_false, not_false_eq_true, true_and, and_true, false_and, and_false, and_self, Int32.reduceSub]
          have hmiss : ∀ N i, N < q.1 → i < 9 → ¬ fn_G (σ (19 + 6 * j + 4)) m (nI (400 + 20 * i)) N ≤ x := fun N i hN hi z => by
            have := (fs i).2.2.1 N (Nat.zero_le N) (by have : q.1 ≤ fn_first _ 41 0 := sp.2.1 i (Nat.zero_le i) (by omega); omega)
            simp [z] at this
          obtain ⟨ω2, z5, hz, s2, g2⟩ := em_qk_rows hj hpc x what q.1 sp.1 hmiss q.1 0 ω (sg_r 0 0) (Or.inl rfl) (by omega) s1
          have c41 : ((nI q.1 < 41) = (q.1 < 41)) := by
            rw [show (41 : Int32) = nI 41 from rfl, eq_iff_iff, nI_ltI (by have : q.1 ≤ 41 := sp.1; omega) (by omega)]
          have q41 : q.1 ≤ 41 := sp.1
          by_cases h40 : 40 < q.1
          · rw [if_pos h40] at A1
            refine pair_same h (sg_i (-9)) ω ω2 A1 s1 ?_ (same_tr (same_sym s1) s2)
            rw [A2, g2]
            simp (decide := true) only [mq_156_49, mq_156_51, mq_156_53, c41, show ¬ q.1 < 41 by omega, mq_156_114, mq_156_116, Nat.reduceAdd, Nat.reduceMul, Nat.reduceSub, Nat.zero_add, sg_bi_i, sg_bi_n, sg_bz, sg_bb, sg_b_0, sg_b_1, if_true, if_false, not_true_eq_false, not_false_eq_true, true_and, and_true, false_and, and_false, and_self, Int32.reduceSub]
          · rw [if_neg h40] at A1
            rcases sp.2.2 with z | ⟨k, k1, k2, k3, k4, k5⟩
            · rw [z] at h40; exact absurd (show 40 < 41 by omega) h40
            · have hk9 : k < 9 := by omega
              have hq1 : q.1 = fn_first (fun N => decide (fn_G (σ (19 + 6 * j + 4)) m (nI (400 + 20 * k)) N ≤ x)) 41 0 := by rw [k3]
              have hq2 : q.2 = nI (400 + 20 * k) := by rw [k3]
              have hit : fn_G (σ (19 + 6 * j + 4)) m (nI (400 + 20 * k)) q.1 ≤ x := by
                have := (fs k).2.2.2 (by rw [← hq1]; omega)
                rw [← hq1] at this
                exact of_decide_eq_true this
              have before : ∀ i', 0 ≤ i' → i' < k → ¬ fn_G (σ (19 + 6 * j + 4)) m (nI (400 + 20 * i')) q.1 ≤ x := fun i' _ b z => by
                have := (fs i').2.2.1 q.1 (Nat.zero_le _) (by rw [hq1]; exact k5 i' (Nat.zero_le _) b)
                simp [z] at this
              obtain ⟨ω3, s3, g3⟩ := em_qk_hit hj hpc x what q.1 k (by omega) hk9 hit k 0 ω2 (by omega) before s2
              rw [hq2] at A1
              refine pair_same h _ ω ω3 A1 s1 ?_ (same_tr (same_sym s1) s3)
              rw [A2, g2, ← g3]
              rcases hz with rfl | ⟨b, rfl⟩ <;> simp (decide := true) only [mq_156_49, mq_156_51, mq_156_53, mq_156_56, mq_156_59, c41, show q.1 < 41 by omega, Nat.reduceAdd, Nat.reduceMul, Nat.reduceSub, Nat.zero_add, sg_bi_i, sg_bi_n, sg_bz, sg_bb, sg_b_0, sg_b_1, if_true, if_false, not_true_eq_false, not_false_eq_true, true_and, and_true, false_and, and_false, and_self, Int32.reduceSub] <;> rfl
        · have st1 := em_stiff hj hpc σ (same_rfl σ)
          refine pair_same h (sg_i (-3)) σ σ ?_ (same_rfl σ) ?_ (same_rfl σ)
          · simp (decide := true) only [me_60, mq_60_0, mq_60_1, mq_60_2, mq_60_5, mq_60_8, mq_60_9, mq_60_10, mq_60_11, mq_60_12, mq_60_14, mq_60_17, mq_60_20, mq_60_21, mq_60_22, mq_60_23, mq_60_26, mq_60_29, mq_60_31, mq_60_32, mq_60_33, mq_60_36, mq_60_37, mq_60_38, mq_60_41, mq_60_44, mq_60_46, e1, ev_within, hx, hw, i1, cj, mb, hs2, Nat.reduceAdd, Nat.reduceMul, Nat.reduceSub, Nat.zero_add, sg_bi_i, sg_bi_n, sg_bz, sg_bb, sg_b_0, sg_b_1, if_true, if_false, not_true_eq_false, not_false_eq_true, true_and, and_true, false_and, and_false, and_self, Int32.reduceSub]
          · simp (decide := true) only [me_156, mq_156_0, mq_156_1, mq_156_2, mq_156_5, mq_156_8, mq_156_9, mq_156_10, mq_156_11, mq_156_12, mq_156_13, mq_156_16, mq_156_19, mq_156_22, mq_156_23, mq_156_24, mq_156_25, mq_156_26, mq_156_29, mq_156_32, mq_156_34, mq_156_35, mq_156_36, mq_156_37, mq_156_40, mq_156_43, mq_156_45, e2, em_in, x64, w64, hx, hw, st1, hs2, Nat.reduceAdd, Nat.reduceMul, Nat.reduceSub, Nat.zero_add, sg_bi_i, sg_bi_n, sg_bz, sg_bb, sg_b_0, sg_b_1, if_true, if_false, not_true_eq_false, not_false_eq_true, true_and, and_true, false_and, and_false, and_self, Int32.reduceSub]
      · refine pair_same h (sg_i (-2)) σ σ ?_ (same_rfl σ) ?_ (same_rfl σ)
        · simp (decide := true) only [me_60, mq_60_0, mq_60_1, mq_60_2, mq_60_5, mq_60_8, mq_60_9, mq_60_10, mq_60_11, mq_60_12, mq_60_14, mq_60_17, mq_60_20, mq_60_21, mq_60_22, mq_60_23, mq_60_26, mq_60_29, mq_60_31, e1, ev_within, hx, hw, Nat.reduceAdd, Nat.reduceMul, Nat.reduceSub, Nat.zero_add, sg_bi_i, sg_bi_n, sg_bz, sg_bb, sg_b_0, sg_b_1, if_true, if_false, not_true_eq_false, not_false_eq_true, true_and, and_true, false_and, and_false, and_self, Int32.reduceSub]
        · simp (decide := true) only [me_156, mq_156_0, mq_156_1, mq_156_2, mq_156_5, mq_156_8, mq_156_9, mq_156_10, mq_156_11, mq_156_12, mq_156_13, mq_156_16, mq_156_19, mq_156_22, mq_156_23, mq_156_24, mq_156_25, mq_156_26, mq_156_29, mq_156_32, mq_156_34, e2, em_in, x64, w64, hx, hw, Nat.reduceAdd, Nat.reduceMul, Nat.reduceSub, Nat.zero_add, sg_bi_i, sg_bi_n, sg_bz, sg_bb, sg_b_0, sg_b_1, if_true, if_false, not_true_eq_false, not_false_eq_true, true_and, and_true, false_and, and_false, and_self, Int32.reduceSub]
    · refine pair_same h (sg_i (-2)) σ σ ?_ (same_rfl σ) ?_ (same_rfl σ)
      · simp (decide := true) only [me_60, mq_60_0, mq_60_1, mq_60_2, mq_60_5, mq_60_8, mq_60_9, mq_60_10, mq_60_11, mq_60_12, mq_60_14, mq_60_17, mq_60_20, mq_60_21, mq_60_22, mq_60_23, mq_60_26, mq_60_29, mq_60_31, e1, ev_within, hx, Nat.reduceAdd, Nat.reduceMul, Nat.reduceSub, Nat.zero_add, sg_bi_i, sg_bi_n, sg_bz, sg_bb, sg_b_0, sg_b_1, if_true, if_false, not_true_eq_false, not_false_eq_true, true_and, and_true, false_and, and_false, and_self, Int32.reduceSub]
      · simp (decide := true) only [me_156, mq_156_0, mq_156_1, mq_156_2, mq_156_5, mq_156_8, mq_156_9, mq_156_10, mq_156_11, mq_156_12, mq_156_13, mq_156_16, mq_156_19, mq_156_22, mq_156_23, mq_156_24, mq_156_25, mq_156_26, mq_156_29, mq_156_32, mq_156_34, e2, em_in, x64, w64, hx, Nat.reduceAdd, Nat.reduceMul, Nat.reduceSub, Nat.zero_add, sg_bi_i, sg_bi_n, sg_bz, sg_bb, sg_b_0, sg_b_1, if_true, if_false, not_true_eq_false, not_false_eq_true, true_and, and_true, false_and, and_false, and_self, Int32.reduceSub]
