theorem ls_eq_of : ∀ a c : List Nat, ls_eq a c = true → a = c := by
  intro a
  induction a with
  | nil => intro c h; cases c with
    | nil => rfl
    | cons _ _ => simp [ls_eq] at h
  | cons x a ih => intro c h; cases c with
    | nil => simp [ls_eq] at h
    | cons y c =>
      simp only [ls_eq, Bool.and_eq_true] at h
      rw [Nat.eq_of_beq_eq_true h.1, ih c h.2]
theorem jb_cs_all {S : Nat} (h : S < 128) : jb_cs S = true := by
  by_cases h2 : S = 127
  · rw [h2]; exact jb_cs_hi
  · exact List.all_eq_true.mp jb_cs_lo S (List.mem_range.mpr (by omega))
theorem jb_fin : (List.range 128).all (fun S => (List.range 7).all (fun x => !(jb_has S x) || (decide (2 ^ x ≤ S) && (decide (jb_mem (S - 2 ^ x) = (jb_mem S).filter (fun y => !(Nat.beq y x))) && (decide ((jb_mem (S - 2 ^ x)).length + 1 = (jb_mem S).length) && decide ((x :: (jb_mem S).filter (fun y => !(Nat.beq y x))).Perm (jb_mem S))))))) = true := by decide +kernel
theorem jb_fin' {S x : Nat} (hS : S < 128) (hx : x ∈ jb_mem S) : x < 7 ∧ jb_has S x = true ∧ 2 ^ x ≤ S ∧ jb_mem (S - 2 ^ x) = (jb_mem S).filter (fun y => !(Nat.beq y x)) ∧ (jb_mem (S - 2 ^ x)).length + 1 = (jb_mem S).length ∧ (x :: (jb_mem S).filter (fun y => !(Nat.beq y x))).Perm (jb_mem S) := by
  unfold jb_mem at hx
  obtain ⟨h1, h2⟩ := List.mem_filter.mp hx
  have h7 : x < 7 := by simp at h1; omega
  have := List.all_eq_true.mp (List.all_eq_true.mp jb_fin S (List.mem_range.mpr hS)) x (List.mem_range.mpr h7)
  rw [h2] at this
  simp only [Bool.not_true, Bool.false_or, Bool.and_eq_true, decide_eq_true_eq] at this
  exact ⟨h7, h2, this⟩
theorem jb_mem_r : (List.range 8).all (fun J => (List.range 128).all (fun S => !(Nat.blt S (2 ^ J)) || decide (jb_mem S = (List.range J).filter (jb_has S)))) = true := by decide +kernel
theorem jb_mem_range {J S : Nat} (hJ : J ≤ 7) (hS : S < 2 ^ J) : jb_mem S = (List.range J).filter (jb_has S) := by
  have h128 : S < 128 := Nat.lt_of_lt_of_le hS (Nat.pow_le_pow_right (by omega) hJ)
  have := List.all_eq_true.mp (List.all_eq_true.mp jb_mem_r J (List.mem_range.mpr (by omega))) S (List.mem_range.mpr h128)
  rw [show Nat.blt S (2 ^ J) = true from Nat.ble_eq_true_of_le hS] at this
  simpa using this
theorem pm_perm : ∀ (n S : Nat), S < 128 → (jb_mem S).length = n → ∀ r ∈ jb_pm n (jb_mem S), r.Perm (jb_mem S) := by
  intro n
  induction n with
  | zero =>
    intro S _ hn r hr
    simp only [jb_pm, List.mem_singleton] at hr
    rw [hr, List.eq_nil_of_length_eq_zero hn]
  | succ n ih =>
    intro S hS hn r hr
    simp only [jb_pm, List.mem_flatMap, List.mem_map] at hr
    obtain ⟨x, hx, r', hr', rfl⟩ := hr
    obtain ⟨f1, f2, f3, f4, f5, f6⟩ := jb_fin' hS hx
    rw [← f4] at hr' f6
    exact (List.Perm.cons x (ih (S - 2 ^ x) (Nat.lt_of_le_of_lt (Nat.sub_le _ _) hS) (by omega) r' hr')).trans f6
theorem pm_mem : ∀ (n S : Nat), S < 128 → (jb_mem S).length = n → ∀ r, r.Perm (jb_mem S) → r ∈ jb_pm n (jb_mem S) := by
  intro n
  induction n with
  | zero =>
    intro S _ hn r hr
    have h0 := List.eq_nil_of_length_eq_zero hn
    rw [h0] at hr
    rw [List.Perm.eq_nil hr]
    simp [jb_pm]
  | succ n ih =>
    intro S hS hn r hr
    cases r with
    | nil => have := hr.length_eq; rw [hn] at this; simp at this
    | cons x r =>
      have hx : x ∈ jb_mem S := hr.mem_iff.mp (by simp)
      obtain ⟨f1, f2, f3, f4, f5, f6⟩ := jb_fin' hS hx
      rw [← f4] at f6
      have hr' : r.Perm (jb_mem (S - 2 ^ x)) := (hr.trans f6.symm).cons_inv
      have := ih (S - 2 ^ x) (Nat.lt_of_le_of_lt (Nat.sub_le _ _) hS) (by omega) r hr'
      simp only [jb_pm, List.mem_flatMap, List.mem_map]
      exact ⟨x, hx, r, by rw [← f4]; exact this, rfl⟩
theorem findSome_find {α β : Type} {f : α → Option β} {p : α → Bool} {g : α → β} : ∀ l : List α, (∀ x ∈ l, f x = if p x = true then some (g x) else none) → l.findSome? f = (l.find? p).map g := by
  intro l
  induction l with
  | nil => intro _; rfl
  | cons a l ih =>
    intro h
    have ha := h a (by simp)
    rw [List.findSome?_cons, List.find?_cons, ha]
    cases hp : p a with
    | true => simp
    | false =>
      simp only [Bool.false_eq_true, if_false]
      exact ih (fun x hx => h x (by simp [hx]))
section GREEDY
variable {m b : Nat → Int32} {mN bN : Nat → Nat} {J : Nat}
/-- a set's jobs as the class goes through them -/
def jb_srt (m b : Nat → Int32) (J S : Nat) : List Nat := (fn_rk m b J).filter (jb_has S)
def jb_best (m b : Nat → Int32) (mN bN : Nat → Nat) (J S : Nat) (s : Nat × Nat) : Nat := (jb_run mN bN s (jb_srt m b J S)).2
def jb_nt (m b : Nat → Int32) (mN bN : Nat → Nat) (J goal S : Nat) (s : Nat × Nat) : Option Nat := (jb_mem S).find? (fun x => Nat.beq (jb_best m b mN bN J (S - 2 ^ x) (jb_sp mN bN s x)) goal)
def jb_gy (m b : Nat → Int32) (mN bN : Nat → Nat) (J goal : Nat) : Nat → Nat → Nat × Nat → List Nat
  | 0, _, _ => []
  | n + 1, S, s => match jb_nt m b mN bN J goal S s with
    | none => []
    | some x => x :: jb_gy m b mN bN J goal n (S - 2 ^ x) (jb_sp mN bN s x)
theorem srt_perm (hJ : J ≤ 7) {S : Nat} (hS : S < 2 ^ J) : (jb_srt m b J S).Perm (jb_mem S) := by
  rw [jb_mem_range hJ hS]
  exact (rk_perm J).filter _
theorem srt_srt (S : Nat) : ls_srt (fn_ah m b) (jb_srt m b J S) := List.Pairwise.filter _ (rk_srt J)
theorem best_le (hJ : J ≤ 7) (hab : ∀ x, x < J → (m x).toInt = mN x ∧ (b x).toInt = bN x) {S : Nat} (hS : S < 2 ^ J) (s : Nat × Nat) {r : List Nat} (hr : r.Perm (jb_mem S)) : jb_best m b mN bN J S s ≤ (jb_run mN bN s r).2 := by
  refine run_best (m := m) (b := b) _ _ _ (srt_srt S) (hr.trans (srt_perm hJ hS).symm) (fun x hx => hab x ?_)
  have := (srt_perm (m := m) (b := b) hJ hS).mem_iff.mp hx
  rw [jb_mem_range hJ hS] at this
  exact List.mem_range.mp (List.mem_filter.mp this).1
theorem greedy (hJ : J ≤ 7) (hab : ∀ x, x < J → (m x).toInt = mN x ∧ (b x).toInt = bN x) (goal : Nat) : ∀ (n S : Nat) (s : Nat × Nat), S < 2 ^ J → (jb_mem S).length = n → jb_best m b mN bN J S s = goal → (jb_pm n (jb_mem S)).find? (fun r => Nat.ble (jb_run mN bN s r).2 goal) = some (jb_gy m b mN bN J goal n S s) := by
  have h2J : 2 ^ J ≤ 128 := Nat.pow_le_pow_right (n := 2) (by omega) hJ
  intro n
  induction n with
  | zero =>
    intro S s hS hn hb
    have h0 := List.eq_nil_of_length_eq_zero hn
    have hp := srt_perm (m := m) (b := b) hJ hS
    rw [h0] at hp
    unfold jb_best at hb
    rw [List.Perm.eq_nil hp] at hb
    have : (jb_run mN bN s []).2 ≤ goal := by rw [hb]; exact Nat.le_refl _
    simp only [jb_pm, List.find?_cons, Nat.ble_eq_true_of_le this, jb_gy]
  | succ n ih =>
    intro S s hS hn hb
    have hS128 : S < 128 := by omega
    have ge : ∀ x ∈ jb_mem S, goal ≤ jb_best m b mN bN J (S - 2 ^ x) (jb_sp mN bN s x) := by
      intro x hx
      obtain ⟨f1, f2, f3, f4, f5, f6⟩ := jb_fin' hS128 hx
      rw [← f4] at f6
      have hp : (x :: jb_srt m b J (S - 2 ^ x)).Perm (jb_mem S) := (List.Perm.cons x (srt_perm hJ (show S - 2 ^ x < 2 ^ J from Nat.lt_of_le_of_lt (Nat.sub_le _ _) hS))).trans f6
      have := best_le hJ hab hS s hp
      rw [hb] at this
      exact this
    show ((jb_mem S).flatMap (fun x => (jb_pm n ((jb_mem S).filter (fun y => !(Nat.beq y x)))).map (fun r => x :: r))).find? _ = _
    rw [List.find?_flatMap]
    rw [findSome_find (p := fun x => Nat.beq (jb_best m b mN bN J (S - 2 ^ x) (jb_sp mN bN s x)) goal) (g := fun x => x :: jb_gy m b mN bN J goal n (S - 2 ^ x) (jb_sp mN bN s x)) (jb_mem S) ?_]
    · have hex : ∃ x, jb_nt m b mN bN J goal S s = some x := by
        cases hs : jb_srt m b J S with
        | nil =>
          have := (srt_perm (m := m) (b := b) hJ hS).length_eq
          rw [hs, hn] at this
          simp at this
        | cons x r =>
          have hp := srt_perm (m := m) (b := b) hJ hS
          rw [hs] at hp
          have hx : x ∈ jb_mem S := hp.mem_iff.mp (by simp)
          obtain ⟨f1, f2, f3, f4, f5, f6⟩ := jb_fin' hS128 hx
          rw [← f4] at f6
          have hr : r.Perm (jb_mem (S - 2 ^ x)) := (hp.trans f6.symm).cons_inv
          have h1 := best_le (m := m) (b := b) hJ hab (show S - 2 ^ x < 2 ^ J from Nat.lt_of_le_of_lt (Nat.sub_le _ _) hS) (jb_sp mN bN s x) hr
          have h2 : (jb_run mN bN (jb_sp mN bN s x) r).2 = goal := by
            rw [← hb]
            unfold jb_best
            rw [hs]
            rfl
          have h3 := ge x hx
          have h4 : jb_best m b mN bN J (S - 2 ^ x) (jb_sp mN bN s x) = goal := by omega
          cases hn : jb_nt m b mN bN J goal S s with
          | some y => exact ⟨y, rfl⟩
          | none =>
            have := (List.find?_eq_none.mp hn) x hx
            rw [h4] at this
            exact absurd (Nat.beq_refl goal) this
      obtain ⟨x, hx⟩ := hex
      simp only [jb_gy, hx]
      unfold jb_nt at hx
      rw [hx]
      rfl
    · intro x hx
      obtain ⟨f1, f2, f3, f4, f5, f6⟩ := jb_fin' hS128 hx
      rw [List.find?_map, ← f4]
      have eq : ((fun r => Nat.ble (jb_run mN bN s r).2 goal) ∘ fun r => x :: r) = fun r => Nat.ble (jb_run mN bN (jb_sp mN bN s x) r).2 goal := rfl
      rw [eq]
      by_cases h : jb_best m b mN bN J (S - 2 ^ x) (jb_sp mN bN s x) = goal
      · rw [ih (S - 2 ^ x) (jb_sp mN bN s x) (Nat.lt_of_le_of_lt (Nat.sub_le _ _) hS) (by omega) h, h, if_pos (Nat.beq_refl goal)]
        rfl
      · have hnb : ¬ Nat.beq (jb_best m b mN bN J (S - 2 ^ x) (jb_sp mN bN s x)) goal = true := fun z => h (Nat.eq_of_beq_eq_true z)
        rw [if_neg hnb]
        have : (jb_pm n (jb_mem (S - 2 ^ x))).find? (fun r => Nat.ble (jb_run mN bN (jb_sp mN bN s x) r).2 goal) = none := by
          refine List.find?_eq_none.mpr (fun r hr => ?_)
          have hp := pm_perm n (S - 2 ^ x) (Nat.lt_of_le_of_lt (Nat.sub_le _ _) hS128) (by omega) r hr
          have h1 := best_le (m := m) (b := b) hJ hab (show S - 2 ^ x < 2 ^ J from Nat.lt_of_le_of_lt (Nat.sub_le _ _) hS) (jb_sp mN bN s x) hp
          have h2 := ge x hx
          intro z
          have := Nat.le_of_ble_eq_true z
          omega
        rw [this]
        rfl
end GREEDY
