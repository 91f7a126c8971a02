/-! THE VALUE of a run, without a count of steps; its equations -/
theorem sg_run_mono1 : ∀ (n y pc : Nat) (σ : sg_M) (lv st : List sg_V) (o : sg_O), sg_run n y pc σ lv st = some o → sg_run (n + 1) y pc σ lv st = some o := by
  intro n
  induction n with
  | zero => intro y pc σ lv st o h; cases h
  | succ n ih =>
    intro y pc σ lv st o h
    rw [sg_run] at h ⊢
    split at h
    · cases h
    · rename_i q hq
      split at h
      · rename_i hln
        rw [if_pos hln]
        split at h
        · cases h
        · exact ih _ _ _ _ _ _ h
        · exact h
        · rename_i k hk
          split at h
          · cases h
          · rename_i o1 ho1
            simp only [ih _ _ _ _ _ _ ho1]
            exact ih _ _ _ _ _ _ h
      · cases h
theorem sg_run_mono {n k y pc : Nat} {σ : sg_M} {lv st : List sg_V} {o : sg_O} (h : sg_run n y pc σ lv st = some o) (hk : n ≤ k) : sg_run k y pc σ lv st = some o := by
  induction hk with
  | refl => exact h
  | step _ ih => exact sg_run_mono1 _ _ _ _ _ _ _ ih
noncomputable def sg_rv (y pc : Nat) (σ : sg_M) (lv st : List sg_V) : Option sg_O :=
  @dite _ (∃ n, (sg_run n y pc σ lv st).isSome = true) (Classical.propDecidable _) (fun h => sg_run (Classical.choose h) y pc σ lv st) (fun _ => none)
theorem sg_rv_iff {y pc : Nat} {σ : sg_M} {lv st : List sg_V} {o : sg_O} : sg_rv y pc σ lv st = some o ↔ ∃ n, sg_run n y pc σ lv st = some o := by
  unfold sg_rv
  constructor
  · intro h
    split at h
    · exact ⟨_, h⟩
    · cases h
  · rintro ⟨n, hn⟩
    have hex : ∃ n, (sg_run n y pc σ lv st).isSome = true := ⟨n, by rw [hn]; rfl⟩
    rw [dif_pos hex]
    have h1 := Classical.choose_spec hex
    obtain ⟨o', ho'⟩ := Option.isSome_iff_exists.mp h1
    have h2 := sg_run_mono ho' (Nat.le_max_left _ n)
    have h3 := sg_run_mono hn (Nat.le_max_right (Classical.choose hex) n)
    rw [ho', ← h2, h3]
noncomputable def sg_ev (z : Nat) (σ : sg_M) (as : List sg_V) : Option sg_O := sg_rv z 0 σ (sg_en z as) []
/-- what is behind a step -/
noncomputable def sg_nt (y : Nat) (σ : sg_M) (r : Option sg_X) : Option sg_O := match r with
  | none => none
  | some (.inl S) => sg_rv y S.1 S.2.1 S.2.2.1 S.2.2.2
  | some (.inr (.inl o)) => some o
  | some (.inr (.inr k)) => match sg_ev k.1 σ k.2.1 with
    | none => none
    | some o => sg_rv y k.2.2.1 o.2 k.2.2.2.1 (o.1.toList ++ k.2.2.2.2)
theorem sg_opt_ext {α : Type} {a b : Option α} (h : ∀ x, a = some x ↔ b = some x) : a = b := by
  cases a with
  | none =>
    cases b with
    | none => rfl
    | some y => exact absurd ((h y).mpr rfl) (by simp)
  | some x => exact ((h x).mp rfl).symm
theorem sg_q {y pc : Nat} {i : Instr} {len : Nat} (hd : decode (sg_code y) pc = .ok (i, len)) (hl : sg_ln i len = true) (σ : sg_M) (lv st : List sg_V) : sg_rv y pc σ lv st = sg_nt y σ (sg_st y i len pc σ lv st) := by
  apply sg_opt_ext
  intro o
  rw [sg_rv_iff]
  have key : ∀ n, sg_run (n + 1) y pc σ lv st = (match sg_st y i len pc σ lv st with
        | none => none
        | some (.inl S) => sg_run n y S.1 S.2.1 S.2.2.1 S.2.2.2
        | some (.inr (.inl o)) => some o
        | some (.inr (.inr k)) => (match sg_run n k.1 0 σ (sg_en k.1 k.2.1) [] with
            | none => none
            | some o => sg_run n y k.2.2.1 o.2 k.2.2.2.1 (o.1.toList ++ k.2.2.2.2))) := by
    intro n
    rw [sg_run, hd]
    simp only [hl, if_true]
    rfl
  generalize sg_st y i len pc σ lv st = r at key
  have up : (∃ n, sg_run n y pc σ lv st = some o) ↔ ∃ n, sg_run (n + 1) y pc σ lv st = some o := by
    constructor
    · rintro ⟨n, hn⟩
      exact ⟨n, sg_run_mono1 _ _ _ _ _ _ _ hn⟩
    · rintro ⟨n, hn⟩
      exact ⟨n + 1, hn⟩
  rw [up]
  rcases r with _ | S | o' | k
  · simp [key, sg_nt]
  · simp only [key, sg_nt]
    exact sg_rv_iff.symm
  · simp [key, sg_nt]
  · simp only [key, sg_nt]
    constructor
    · rintro ⟨n, hn⟩
      split at hn
      · cases hn
      · rename_i o1 ho1
        have h1 : sg_ev k.1 σ k.2.1 = some o1 := sg_rv_iff.mpr ⟨n, ho1⟩
        rw [h1]
        exact sg_rv_iff.mpr ⟨n, hn⟩
    · intro h
      split at h
      · cases h
      · rename_i o1 ho1
        obtain ⟨a, ha⟩ := sg_rv_iff.mp ho1
        obtain ⟨b, hb⟩ := sg_rv_iff.mp h
        refine ⟨max a b, ?_⟩
        rw [sg_run_mono ha (Nat.le_max_left a b)]
        exact sg_run_mono hb (Nat.le_max_right a b)
