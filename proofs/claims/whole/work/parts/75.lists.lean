/-! JOBS: lists, without the machine -/
theorem ah_iff (m b : Nat → Int32) (x y : Nat) : (fn_ah m b x y = true) = (((m x).toInt ≤ (b x).toInt ∧ (b y).toInt < (m y).toInt) ∨ ((m x).toInt ≤ (b x).toInt ∧ (m y).toInt ≤ (b y).toInt ∧ (m x).toInt < (m y).toInt) ∨ ((b x).toInt < (m x).toInt ∧ (b y).toInt < (m y).toInt ∧ (b y).toInt < (b x).toInt)) := by
  unfold fn_ah
  have e1 : decide (m x ≤ b x) = decide ((m x).toInt ≤ (b x).toInt) := by rw [decide_eq_decide, Int32.le_iff_toInt_le]
  have e2 : decide (m y ≤ b y) = decide ((m y).toInt ≤ (b y).toInt) := by rw [decide_eq_decide, Int32.le_iff_toInt_le]
  have e3 : decide (m x < m y) = decide ((m x).toInt < (m y).toInt) := by rw [decide_eq_decide, Int32.lt_iff_toInt_lt]
  have e4 : decide (b y < b x) = decide ((b y).toInt < (b x).toInt) := by rw [decide_eq_decide, Int32.lt_iff_toInt_lt]
  have e5 : (m x ≤ b x) = ((m x).toInt ≤ (b x).toInt) := by rw [Int32.le_iff_toInt_le]
  simp only [e1, e2, e3, e4, e5]
  generalize (m x).toInt = a
  generalize (m y).toInt = c
  generalize (b x).toInt = d
  generalize (b y).toInt = e
  by_cases h1 : a ≤ d
  · by_cases h2 : c ≤ e
    · simp [h1, h2]; omega
    · simp [h1, h2]; omega
  · by_cases h2 : c ≤ e
    · simp [h1, h2]; omega
    · simp [h1, h2]; omega
theorem ah_asym {m b : Nat → Int32} {x y : Nat} (h : fn_ah m b x y = true) : fn_ah m b y x = false := by
  cases h2 : fn_ah m b y x with
  | false => rfl
  | true =>
    rw [ah_iff] at h h2
    omega
theorem ah_neg {m b : Nat → Int32} {i x y : Nat} (h : fn_ah m b i x = true) (h2 : fn_ah m b y x = false) : fn_ah m b i y = true := by
  have h3 : ¬ (fn_ah m b y x = true) := by rw [h2]; decide
  rw [ah_iff] at h h3 ⊢
  omega
def ls_srt (ah : Nat → Nat → Bool) (l : List Nat) : Prop := l.Pairwise (fun x y => ah y x = false)
/-- where i goes -/
def fn_pos (ah : Nat → Nat → Bool) (i : Nat) (l : List Nat) : Nat → Nat
  | 0 => 0
  | n + 1 => if ah i (l.getD n 0) = true then fn_pos ah i l n else n + 1
theorem fn_pos_le (ah : Nat → Nat → Bool) (i : Nat) (l : List Nat) : ∀ n, fn_pos ah i l n ≤ n := by
  intro n
  induction n with
  | zero => exact Nat.le_refl 0
  | succ n ih =>
    simp only [fn_pos]
    split
    · omega
    · exact Nat.le_refl _
theorem take_s {l : List Nat} {n : Nat} (h : n < l.length) : l.take (n + 1) = l.take n ++ [l.getD n 0] := by
  rw [List.take_succ_eq_append_getElem h, List.getD_eq_getElem?_getD, List.getElem?_eq_getElem h, Option.getD_some]
theorem fn_ins_l (ah : Nat → Nat → Bool) (i : Nat) (l : List Nat) : ∀ n, n ≤ l.length → ((l.take n).reverse.dropWhile (ah i)).reverse = l.take (fn_pos ah i l n) ∧ ((l.take n).reverse.takeWhile (ah i)).reverse = (l.take n).drop (fn_pos ah i l n) := by
  intro n
  induction n with
  | zero => intro _; simp [fn_pos]
  | succ n ih =>
    intro h
    obtain ⟨i1, i2⟩ := ih (by omega)
    have hp := fn_pos_le ah i l n
    rw [take_s (show n < l.length by omega), List.reverse_append]
    simp only [List.reverse_cons, List.reverse_nil, List.nil_append, List.cons_append, fn_pos]
    by_cases ha : ah i (l.getD n 0) = true
    · rw [if_pos ha, List.dropWhile_cons_of_pos ha, List.takeWhile_cons_of_pos ha, List.reverse_cons, i1, i2]
      refine ⟨rfl, ?_⟩
      rw [List.drop_append_of_le_length (by rw [List.length_take]; omega)]
    · rw [if_neg ha, List.dropWhile_cons_of_neg ha, List.takeWhile_cons_of_neg ha, List.reverse_cons, List.reverse_reverse]
      refine ⟨(take_s (by omega)).symm, ?_⟩
      rw [List.reverse_nil, List.drop_eq_nil_of_le]
      simp
      omega
theorem fn_ins_pos (ah : Nat → Nat → Bool) (i : Nat) (l : List Nat) : fn_ins ah i l = l.take (fn_pos ah i l l.length) ++ i :: l.drop (fn_pos ah i l l.length) := by
  obtain ⟨h1, h2⟩ := fn_ins_l ah i l l.length (Nat.le_refl _)
  unfold fn_ins
  rw [List.take_length] at h1 h2
  rw [h1, h2]
theorem fn_pos_hi (ah : Nat → Nat → Bool) (i : Nat) (l : List Nat) : ∀ n, n ≤ l.length → ∀ x ∈ (l.take n).drop (fn_pos ah i l n), ah i x = true := by
  intro n
  induction n with
  | zero => intro _ x hx; simp at hx
  | succ n ih =>
    intro h x hx
    have hp := fn_pos_le ah i l n
    rw [take_s (show n < l.length by omega)] at hx
    simp only [fn_pos] at hx
    by_cases ha : ah i (l.getD n 0) = true
    · rw [if_pos ha, List.drop_append_of_le_length (by rw [List.length_take]; omega)] at hx
      rcases List.mem_append.mp hx with hx | hx
      · exact ih (by omega) x hx
      · rw [List.mem_singleton] at hx
        rw [hx]; exact ha
    · rw [if_neg ha, List.drop_eq_nil_of_le (by simp; omega)] at hx
      simp at hx
theorem fn_pos_lo (ah : Nat → Nat → Bool) (i : Nat) (l : List Nat) : ∀ n, fn_pos ah i l n = 0 ∨ ∃ p, fn_pos ah i l n = p + 1 ∧ ah i (l.getD p 0) = false := by
  intro n
  induction n with
  | zero => exact Or.inl rfl
  | succ n ih =>
    simp only [fn_pos]
    by_cases ha : ah i (l.getD n 0) = true
    · rw [if_pos ha]; exact ih
    · rw [if_neg ha]; exact Or.inr ⟨n, rfl, by simpa using ha⟩
section JOBS
variable {m b : Nat → Int32}
/-- of a sorted list: those that i isn't ahead of, i, the rest -/
theorem ins_parts {i : Nat} {l : List Nat} (h : ls_srt (fn_ah m b) l) : (∀ x ∈ l.take (fn_pos (fn_ah m b) i l l.length), fn_ah m b i x = false) ∧ (∀ x ∈ l.drop (fn_pos (fn_ah m b) i l l.length), fn_ah m b i x = true) := by
  have hi := fn_pos_hi (fn_ah m b) i l l.length (Nat.le_refl _)
  have hle := fn_pos_le (fn_ah m b) i l l.length
  have hlo := fn_pos_lo (fn_ah m b) i l l.length
  rw [List.take_length] at hi
  refine ⟨fun x hx => ?_, hi⟩
  generalize fn_pos (fn_ah m b) i l l.length = p at hx hlo hle
  rcases hlo with rfl | ⟨p, rfl, hp⟩
  · simp at hx
  · rw [take_s (by omega)] at hx
    rcases List.mem_append.mp hx with hx | hx
    · have hs : ls_srt (fn_ah m b) (l.take (p + 1)) := List.Pairwise.sublist (List.take_sublist _ _) h
      unfold ls_srt at hs
      rw [take_s (by omega)] at hs
      have h1 := (List.pairwise_append.mp hs).2.2 x hx (l.getD p 0) (by simp)
      cases h2 : fn_ah m b i x with
      | false => rfl
      | true => rw [ah_neg h2 h1] at hp; cases hp
    · rw [List.mem_singleton] at hx
      rw [hx]; exact hp
theorem ins_srt {i : Nat} {l : List Nat} (h : ls_srt (fn_ah m b) l) : ls_srt (fn_ah m b) (fn_ins (fn_ah m b) i l) := by
  obtain ⟨h1, h2⟩ := ins_parts (i := i) h
  rw [fn_ins_pos]
  generalize fn_pos (fn_ah m b) i l l.length = p at h1 h2
  have h3 : ls_srt (fn_ah m b) (l.take p ++ l.drop p) := by rw [List.take_append_drop]; exact h
  obtain ⟨a1, a2, a3⟩ := List.pairwise_append.mp h3
  refine List.pairwise_append.mpr ⟨a1, List.pairwise_cons.mpr ⟨fun y hy => ah_asym (h2 y hy), a2⟩, fun x hx y hy => ?_⟩
  rcases List.mem_cons.mp hy with rfl | hy
  · exact h1 x hx
  · exact a3 x hx y hy
theorem ins_flt {i : Nat} {l : List Nat} (h : ls_srt (fn_ah m b) l) : fn_ins (fn_ah m b) i l = l.filter (fun x => !(fn_ah m b i x)) ++ i :: l.filter (fun x => fn_ah m b i x) := by
  obtain ⟨h1, h2⟩ := ins_parts (i := i) h
  rw [fn_ins_pos]
  generalize fn_pos (fn_ah m b) i l l.length = p at h1 h2
  have e1 : l.filter (fun x => !(fn_ah m b i x)) = l.take p := by
    conv => lhs; rw [← List.take_append_drop p l]
    rw [List.filter_append, List.filter_eq_self.mpr (fun x hx => by rw [h1 x hx]; rfl), List.filter_eq_nil_iff.mpr (fun x hx => by rw [h2 x hx]; decide), List.append_nil]
  have e2 : l.filter (fun x => fn_ah m b i x) = l.drop p := by
    conv => lhs; rw [← List.take_append_drop p l]
    rw [List.filter_append, List.filter_eq_nil_iff.mpr (fun x hx => by rw [h1 x hx]; decide), List.filter_eq_self.mpr (fun x hx => h2 x hx), List.nil_append]
  rw [e1, e2]
theorem ins_perm (ah : Nat → Nat → Bool) (i : Nat) (l : List Nat) : (fn_ins ah i l).Perm (i :: l) := by
  rw [fn_ins_pos]
  refine List.perm_middle.trans ?_
  rw [List.take_append_drop]
theorem ins_filter {i : Nat} {l : List Nat} (h : ls_srt (fn_ah m b) l) (q : Nat → Bool) : (fn_ins (fn_ah m b) i l).filter q = if q i = true then fn_ins (fn_ah m b) i (l.filter q) else l.filter q := by
  have hs : ls_srt (fn_ah m b) (l.filter q) := List.Pairwise.filter q h
  rw [ins_flt h, List.filter_append, List.filter_cons, List.filter_filter, List.filter_filter]
  by_cases hq : q i = true
  · rw [if_pos hq, if_pos hq, ins_flt hs, List.filter_filter, List.filter_filter]
    have c1 : (fun a => q a && !(fn_ah m b i a)) = (fun a => (!(fn_ah m b i a)) && q a) := by funext a; exact Bool.and_comm _ _
    have c2 : (fun a => q a && fn_ah m b i a) = (fun a => fn_ah m b i a && q a) := by funext a; exact Bool.and_comm _ _
    rw [c1, c2]
  · rw [if_neg hq, if_neg hq]
    obtain ⟨h1, h2⟩ := ins_parts (i := i) h
    generalize fn_pos (fn_ah m b) i l l.length = p at h1 h2
    have e : l.filter q = (l.take p ++ l.drop p).filter q := by rw [List.take_append_drop]
    have f1 : (l.take p).filter (fun a => q a && !(fn_ah m b i a)) = (l.take p).filter q := List.filter_congr (fun x hx => by rw [h1 x hx]; exact Bool.and_true _)
    have f2 : (l.drop p).filter (fun a => q a && !(fn_ah m b i a)) = [] := List.filter_eq_nil_iff.mpr (fun x hx => by rw [h2 x hx]; simp)
    have f3 : (l.take p).filter (fun a => q a && fn_ah m b i a) = [] := List.filter_eq_nil_iff.mpr (fun x hx => by rw [h1 x hx]; simp)
    have f4 : (l.drop p).filter (fun a => q a && fn_ah m b i a) = (l.drop p).filter q := List.filter_congr (fun x hx => by rw [h2 x hx]; exact Bool.and_true _)
    have e1 : l.filter (fun a => q a && !(fn_ah m b i a)) = (l.take p).filter q := by
      conv => lhs; rw [← List.take_append_drop p l]
      rw [List.filter_append, f1, f2, List.append_nil]
    have e2 : l.filter (fun a => q a && fn_ah m b i a) = (l.drop p).filter q := by
      conv => lhs; rw [← List.take_append_drop p l]
      rw [List.filter_append, f3, f4, List.nil_append]
    rw [e1, e2, e, List.filter_append]
/-- sorted by insertion -/
def fn_is (ah : Nat → Nat → Bool) (l : List Nat) : List Nat := l.foldl (fun acc i => fn_ins ah i acc) []
theorem is_snoc (ah : Nat → Nat → Bool) (l : List Nat) (i : Nat) : fn_is ah (l ++ [i]) = fn_ins ah i (fn_is ah l) := by
  unfold fn_is
  rw [List.foldl_append]
  rfl
theorem rk_is (j : Nat) : fn_rk m b j = fn_is (fn_ah m b) (List.range j) := by
  induction j with
  | zero => rfl
  | succ j ih =>
    rw [List.range_succ, is_snoc, ← ih]
    rfl
theorem rk_srt (j : Nat) : ls_srt (fn_ah m b) (fn_rk m b j) := by
  induction j with
  | zero => exact List.Pairwise.nil
  | succ j ih => exact ins_srt ih
theorem rk_perm (j : Nat) : (fn_rk m b j).Perm (List.range j) := by
  induction j with
  | zero => exact List.Perm.refl _
  | succ j ih =>
    rw [List.range_succ]
    refine (ins_perm _ _ _).trans ?_
    refine (List.Perm.cons j ih).trans ?_
    have : (j :: List.range j).Perm (List.range j ++ [j]) := List.perm_append_comm (l₁ := [j]) (l₂ := List.range j)
    exact this
theorem rk_filter (j : Nat) (q : Nat → Bool) : (fn_rk m b j).filter q = fn_is (fn_ah m b) ((List.range j).filter q) := by
  induction j with
  | zero => rfl
  | succ j ih =>
    show (fn_ins (fn_ah m b) j (fn_rk m b j)).filter q = _
    rw [ins_filter (rk_srt j) q, List.range_succ, List.filter_append, ih]
    by_cases hq : q j = true
    · rw [if_pos hq, List.filter_cons, if_pos hq, List.filter_nil, is_snoc]
    · rw [if_neg hq, List.filter_cons, if_neg hq, List.filter_nil, List.append_nil]
end JOBS
/-! the mouth and the bench -/
def jb_sp (m b : Nat → Nat) (s : Nat × Nat) (x : Nat) : Nat × Nat := (s.1 + m x, max s.2 (s.1 + m x) + b x)
def jb_run (m b : Nat → Nat) (s : Nat × Nat) (l : List Nat) : Nat × Nat := l.foldl (jb_sp m b) s
theorem run_cons (m b : Nat → Nat) (s : Nat × Nat) (x : Nat) (l : List Nat) : jb_run m b s (x :: l) = jb_run m b (jb_sp m b s x) l := rfl
theorem run_mono (m b : Nat → Nat) : ∀ (l : List Nat) (M B B' : Nat), B ≤ B' → (jb_run m b (M, B) l).2 ≤ (jb_run m b (M, B') l).2 := by
  intro l
  induction l with
  | nil => intro M B B' h; exact h
  | cons x l ih =>
    intro M B B' h
    rw [run_cons, run_cons]
    exact ih _ _ _ (by show max B (M + m x) + b x ≤ max B' (M + m x) + b x; omega)
theorem run_bnd (m b : Nat → Nat) (h : ∀ x, m x ≤ 99 ∧ b x ≤ 99) : ∀ (l : List Nat) (s : Nat × Nat) (X : Nat), s.1 ≤ X → s.2 ≤ X → (jb_run m b s l).1 ≤ X + 198 * l.length ∧ (jb_run m b s l).2 ≤ X + 198 * l.length := by
  intro l
  induction l with
  | nil => intro s X h1 h2; exact ⟨h1, h2⟩
  | cons x l ih =>
    intro s X h1 h2
    have hx := h x
    rw [run_cons, List.length_cons]
    have := ih (jb_sp m b s x) (X + 198) (by show s.1 + m x ≤ _; omega) (by show max s.2 (s.1 + m x) + b x ≤ _; omega)
    omega
/-- the numbers of the jobs are those of the order -/
def ls_ab (m b : Nat → Int32) (mN bN : Nat → Nat) : Prop := ∀ x, (m x).toInt = mN x ∧ (b x).toInt = bN x
theorem run_swap {m b : Nat → Int32} {mN bN : Nat → Nat} {x y : Nat} (hx : (m x).toInt = mN x ∧ (b x).toInt = bN x) (hy : (m y).toInt = mN y ∧ (b y).toInt = bN y) (h : fn_ah m b y x = false) (s : Nat × Nat) (l : List Nat) : (jb_run mN bN s (x :: y :: l)).2 ≤ (jb_run mN bN s (y :: x :: l)).2 := by
  have h3 : ¬ (fn_ah m b y x = true) := by rw [h]; decide
  rw [ah_iff] at h3
  rw [run_cons, run_cons, run_cons, run_cons]
  have e : (jb_sp mN bN (jb_sp mN bN s x) y).1 = (jb_sp mN bN (jb_sp mN bN s y) x).1 := by
    show s.1 + mN x + mN y = s.1 + mN y + mN x
    omega
  have e2 : (jb_sp mN bN (jb_sp mN bN s x) y).2 ≤ (jb_sp mN bN (jb_sp mN bN s y) x).2 := by
    show max (max s.2 (s.1 + mN x) + bN x) (s.1 + mN x + mN y) + bN y ≤ max (max s.2 (s.1 + mN y) + bN y) (s.1 + mN y + mN x) + bN x
    omega
  have := run_mono mN bN l (jb_sp mN bN (jb_sp mN bN s x) y).1 _ _ e2
  rw [show ((jb_sp mN bN (jb_sp mN bN s x) y).1, (jb_sp mN bN (jb_sp mN bN s x) y).2) = jb_sp mN bN (jb_sp mN bN s x) y from rfl] at this
  rw [e] at this
  exact this
theorem run_front {m b : Nat → Int32} {mN bN : Nat → Nat} {x : Nat} (hx : (m x).toInt = mN x ∧ (b x).toInt = bN x) (l2 : List Nat) : ∀ (l1 : List Nat) (s : Nat × Nat), (∀ y ∈ l1, ((m y).toInt = mN y ∧ (b y).toInt = bN y) ∧ fn_ah m b y x = false) → (jb_run mN bN s (x :: (l1 ++ l2))).2 ≤ (jb_run mN bN s (l1 ++ x :: l2)).2 := by
  intro l1
  induction l1 with
  | nil => intro s _; exact Nat.le_refl _
  | cons y l1 ih =>
    intro s h
    obtain ⟨hy, ha⟩ := h y (by simp)
    refine Nat.le_trans (run_swap hx hy ha s (l1 ++ l2)) ?_
    show (jb_run mN bN (jb_sp mN bN s y) (x :: (l1 ++ l2))).2 ≤ (jb_run mN bN (jb_sp mN bN s y) (l1 ++ x :: l2)).2
    exact ih _ (fun z hz => h z (by simp [hz]))
/-- a sorted row is the quickest -/
theorem run_best {m b : Nat → Int32} {mN bN : Nat → Nat} : ∀ (S l : List Nat) (s : Nat × Nat), ls_srt (fn_ah m b) S → l.Perm S → (∀ x ∈ S, (m x).toInt = mN x ∧ (b x).toInt = bN x) → (jb_run mN bN s S).2 ≤ (jb_run mN bN s l).2 := by
  intro S
  induction S with
  | nil =>
    intro l s _ hp _
    rw [List.Perm.eq_nil hp]
    exact Nat.le_refl _
  | cons x S ih =>
    intro l s hs hp hb
    obtain ⟨h1, h2⟩ := List.pairwise_cons.mp hs
    have hx : x ∈ l := hp.mem_iff.mpr (by simp)
    obtain ⟨l1, l2, rfl⟩ := List.append_of_mem hx
    have hp2 : (l1 ++ l2).Perm S := ((List.perm_middle (a := x) (l₁ := l1) (l₂ := l2)).symm.trans hp).cons_inv
    have hf := run_front (m := m) (b := b) (mN := mN) (bN := bN) (x := x) (hb x (by simp)) l2 l1 s (fun y hy => by
      have hyS : y ∈ S := hp2.mem_iff.mp (List.mem_append.mpr (Or.inl hy))
      exact ⟨hb y (by simp [hyS]), h1 y hyS⟩)
    refine Nat.le_trans ?_ hf
    rw [run_cons, run_cons]
    exact ih (l1 ++ l2) _ h2 hp2 (fun y hy => hb y (by simp [hy]))
