theorem sg_up_set (σ : sg_M) (c j : Nat) (f : Nat → Int32) (v : Int32) : sg_up (sg_set σ c f) c j v = sg_set σ c (upd f j v) := by
  unfold sg_up
  rw [sg_set_same, sg_set_set]
theorem sg_nIc {k : Nat} (h : k < 2 ^ 31) : (nI k).toNatClampNeg = k := nI_clamp h
theorem upd_lt (f : Nat → Int32) (k : Nat) (g : Nat → Int32) : upd (fun j => if j < k then g j else f j) k (g k) = fun j => if j < k + 1 then g j else f j := by
  funext j
  by_cases h : j = k
  · subst h; simp [upd]
  · by_cases h2 : j < k
    · simp [upd, h, h2, show j < k + 1 by omega]
    · simp [upd, h, h2, show ¬ j < k + 1 by omega]
theorem ev_fill_l (σ : sg_M) (c t n : Nat) (v : Int32) (hn : n = t + 1 - 100) (ht : 100 ≤ t + 1) (hb : n < 2 ^ 31) : ∀ m k, k + m = n → sg_rv 59 5 (sg_set σ c (fun j => if j < k then v else σ c j)) [sg_r (t + 1) c, sg_i v, sg_i (nI k), sg_i (nI n)] [] = some (none, sg_set σ c (fun j => if j < n then v else σ c j)) := by
  intro m
  induction m with
  | zero =>
    intro k hk
    simp only [mq_59_5, mq_59_6, mq_59_7, nI_ltI (show k < 2 ^ 31 by omega) hb, show ¬ k < n by omega, if_false, mq_59_20]
    rw [show k = n by omega]
  | succ m ih =>
    intro k hk
    have hin : sg_in (nI k) (t + 1 - 100) = true := sg_in_nI (by omega) (by omega)
    simp only [mq_59_5, mq_59_6, mq_59_7, nI_ltI (show k < 2 ^ 31 by omega) hb, show k < n by omega, if_true]
    simp only [mq_59_10, mq_59_11, mq_59_12, mq_59_13, mq_59_14, mq_59_17, ht, hin, sg_nIc (show k < 2 ^ 31 by omega), sg_up_set, nI_1]
    rw [upd_lt (σ c) k (fun _ => v)]
    exact ih (k + 1) (by omega)
theorem ev_fill (σ : sg_M) (c t : Nat) (v : Int32) (ht : 100 ≤ t + 1) (hb : t < 1000) : sg_ev 59 σ [sg_r (t + 1) c, sg_i v] = some (none, sg_set σ c (fun j => if j < t + 1 - 100 then v else σ c j)) := by
  simp only [me_59, me_59, mq_59_0, mq_59_1, mq_59_2, mq_59_3, mq_59_4, ht]
  have h := ev_fill_l σ c t (t + 1 - 100) v rfl ht (by omega) (t + 1 - 100) 0 (by omega)
  have e : sg_set σ c (fun j => if j < 0 then v else σ c j) = σ := by
    have : (fun j => if j < 0 then v else σ c j) = σ c := by funext j; simp
    rw [this, sg_set_self]
  rw [e] at h
  exact h
