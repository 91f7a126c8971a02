section SGV
variable {p : Program} {l : Launch} {e : Env} {R : Room} {s : State} {m : MethodId} {args : Array Value} {below : List Frame} {meth : Method} {c : Code} {cells slots : Nat} {Q : State → Prop} {ad : Nat → Nat} {kA : Nat → ClassId} {D : va_G} {A : Nat → Prop} {X : Nat × (Nat → Int32)}
variable {y pc len : Nat} {σ : sg_M} {lv st : List sg_V} {S : sg_S}
theorem sg_cats (ad : Nat → Nat) (r : List sg_V) : ((r.map (sg_cv ad)).map fun v => v.category) = r.map sg_ca := by
  rw [List.map_map]
  exact List.map_congr_left (fun v _ => sg_cv_cat ad v)
theorem sg_ml_of {o x : Nat} {q : Nat × Nat × Nat × Nat × Nat × Nat × Nat × Nat} (h : sg_ml o x = some q) : q.1 = o ∧ q.2.1 = x ∧ sg_mlc q = true ∧ ((q.2.2.1 = 2 ∨ q.2.2.1 = 3) → q.2.2.2.2.1 ∈ sg_nwp) := by
  obtain ⟨h1, h2⟩ := sg_find h
  simp only [Bool.and_eq_true, beq_iff_eq] at h2
  have h3 := List.all_eq_true.mp sg_ml_ok q h1
  have h4 := List.all_eq_true.mp sg_nw_ml q h1
  refine ⟨h2.1, h2.2, h3, fun hk => ?_⟩
  rcases hk with hk | hk <;> simpa [hk] using h4
theorem sg_bt_step {q : Nat × Nat × Nat × Nat × Nat × Nat × Nat × Nat} {n : Nat} {st' : List sg_V} (C : sg_C p R s m args c cells slots ad kA D A X y) (hd : decode (sg_code y) pc = .ok (.invokestatic n, 3)) (hq : sg_ml (sg_cn y) n = some q) (hg : 1 ≤ sg_fr y ∧ (40 ≤ sg_lc y ∧ ((st.drop 1).map sg_ca).sum ≤ 8)) (h : sg_bt q.2.2.1 st = some st') (ho : sg_okL lv) (hs : sg_okL st) (hlen : lv.length = sg_mx y) : sg_G p l e R s m args below meth c cells slots Q ad kA D A X y pc σ lv st (pc + 3, σ, lv, st') := by
  obtain ⟨⟨hx, hb, hml, hown, hts⟩, ⟨hf1, hf2, hf3, hf4⟩, hE⟩ := C
  obtain ⟨e1, e2, hmc, -⟩ := sg_ml_of hq
  unfold sg_bt at h
  split at h
  · rename_i hk
    obtain ⟨x, z, r, v, rfl, hv, rfl⟩ := sg_b2_of h
    cases hv
    simp only [sg_mlc, hk, e1, e2, Bool.and_eq_true] at hmc
    have hr : sg_okL r := (sg_okL_cons.mp (sg_okL_cons.mp hs).2).2
    have hroom : ((r.map (sg_cv ad)).map fun v => v.category).sum + 13 ≤ R.locals := by
      rw [sg_cats]
      have h9 := hg.2.2
      simp only [List.drop_succ_cons, List.drop_zero, List.map_cons, List.sum_cons] at h9
      omega
    exact ⟨⟨ho, sg_okL_cons.mpr ⟨trivial, hr⟩, hlen⟩, fun k H locs ls hP hS hl => va_mmax hx hb (by rw [hml, hl.1, hlen]) hown (hts _ (sg_has_tb hmc.1 rfl)) (hts _ (sg_has_tb hmc.2.1 rfl)) (hts _ (sg_has_tb hmc.2.2.2 rfl)) (hts _ (sg_has_tb hmc.2.2.1 rfl)) (by omega) hroom hf3 hf4 hd (k H locs ls hP hS hl)⟩
  · rename_i hk
    obtain ⟨x, z, r, v, rfl, hv, rfl⟩ := sg_b2_of h
    cases hv
    simp only [sg_mlc, hk, e1, e2, Bool.and_eq_true] at hmc
    have hr : sg_okL r := (sg_okL_cons.mp (sg_okL_cons.mp hs).2).2
    have hroom : ((r.map (sg_cv ad)).map fun v => v.category).sum + 13 ≤ R.locals := by
      rw [sg_cats]
      have h9 := hg.2.2
      simp only [List.drop_succ_cons, List.drop_zero, List.map_cons, List.sum_cons] at h9
      omega
    exact ⟨⟨ho, sg_okL_cons.mpr ⟨trivial, hr⟩, hlen⟩, fun k H locs ls hP hS hl => va_mmin hx hb (by rw [hml, hl.1, hlen]) hown (hts _ (sg_has_tb hmc.1 rfl)) (hts _ (sg_has_tb hmc.2.1 rfl)) (hts _ (sg_has_tb hmc.2.2.2 rfl)) (hts _ (sg_has_tb hmc.2.2.1 rfl)) (by omega) hroom hf3 hf4 hd (k H locs ls hP hS hl)⟩
  · rename_i hk
    obtain ⟨x, r, v, rfl, hv, rfl⟩ := sg_b1_of h
    cases hv
    simp only [sg_mlc, hk, e1, e2, Bool.and_eq_true] at hmc
    have hr : sg_okL r := (sg_okL_cons.mp hs).2
    have hroom : ((r.map (sg_cv ad)).map fun v => v.category).sum + 13 ≤ R.locals := by
      rw [sg_cats]
      have h9 := hg.2.2
      simp only [List.drop_succ_cons, List.drop_zero] at h9
      omega
    exact ⟨⟨ho, sg_okL_cons.mpr ⟨trivial, hr⟩, hlen⟩, fun k H locs ls hP hS hl => va_mabs hx hb (by rw [hml, hl.1, hlen]) hown (hts _ (sg_has_tb hmc.1 rfl)) (hts _ (sg_has_tb hmc.2.1 rfl)) (hts _ (sg_has_tb hmc.2.2.2 rfl)) (hts _ (sg_has_tb hmc.2.2.1 rfl)) (by omega) hroom hf3 hf4 hd (k H locs ls hP hS hl)⟩
  · cases h
theorem sg_cpy_step {q : Nat × Nat × Nat × Nat × Nat × Nat × Nat × Nat} {n : Nat} (C : sg_C p R s m args c cells slots ad kA D A X y) (hd : decode (sg_code y) pc = .ok (.invokestatic n, 3)) (hq : sg_ml (sg_cn y) n = some q) (h8 : q.2.2.1 = 8) (hg : 1 ≤ sg_fr y ∧ 40 ≤ sg_lc y) (h : sg_cpy (pc + 3) σ lv st = some (.inl S)) (ho : sg_okL lv) (hs : sg_okL st) (hlen : lv.length = sg_mx y) : sg_G p l e R s m args below meth c cells slots Q ad kA D A X y pc σ lv st S := by
  obtain ⟨⟨hx, hb, hml, hown, hts⟩, ⟨hf1, hf2, hf3, hf4⟩, hE⟩ := C
  obtain ⟨e1, e2, hmc, -⟩ := sg_ml_of hq
  unfold sg_cpy at h
  split at h
  · rename_i k dp q1 sp q0 r
    split at h
    · rename_i hc
      simp only [Bool.and_eq_true, decide_eq_true_eq] at hc
      obtain ⟨⟨ht0, ht1⟩, ⟨hsp, hdp, hk⟩, hb0, hb1, hcat⟩ := hc
      obtain rfl := sg_nx_of h
      obtain ⟨-, hs2⟩ := sg_okL_cons.mp hs
      obtain ⟨-, hs3⟩ := sg_okL_cons.mp hs2
      obtain ⟨hq1, hs4⟩ := sg_okL_cons.mp hs3
      obtain ⟨-, hs5⟩ := sg_okL_cons.mp hs4
      obtain ⟨hq0, hr⟩ := sg_okL_cons.mp hs5
      simp only [sg_mlc, h8, e1, e2, Bool.and_eq_true] at hmc
      have h9 := sg_ok_cell hq1 (by omega) (by omega)
      have hroom : ((r.map (sg_cv ad)).map fun v => v.category).sum + (nativeFrameWords "java/lang/System" "arraycopy" 5 + 11) ≤ R.locals := by
        rw [sg_cats]
        have hw : nativeFrameWords "java/lang/System" "arraycopy" 5 ≤ 20 := by decide +kernel
        omega
      exact ⟨⟨ho, hr, hlen⟩, fun kk H locs ls hP hS hl => va_copyi (D := D) (cl := sg_cl) hx hb (by rw [hml, hl.1, hlen]) hown (hts _ (sg_has_tb hmc.1 rfl)) (hts _ (sg_has_tb hmc.2.2.1 rfl)) (hts _ (sg_has_tb hmc.2.1 rfl)) (hts _ (sg_has_tb hmc.2.2.2 rfl)) hE.1 hP.1 hP.2.1 hS q0.2 q1.2 0 0 (ty := .int) (sg_ints hq0 ht0).2 (sg_ints hq1 ht1).2 rfl rfl rfl hsp hdp hk hb0 hb1 (fun _ _ => rfl) (by omega) hroom hd (fun H1 locs1 g1 g2 g3 => kk H1 locs1 ls (sg_P_set hP h9.1 (by rw [h9.2, sg_cell_int ht1]) g1 g2) g3 hl)⟩
    · cases h
  · cases h
/-! contracts of the small machine's methods -/
def sg_wd (z : Nat) : List Jvm.Cond := sg_cw z :: sg_tb
def sg_rm (z : Nat) : Room := { frames := sg_fr z, cells := 0, slots := 0, locals := sg_lc z }
def sg_Q (ad : Nat → Nat) (kA : Nat → ClassId) (D : va_G) (A : Nat → Prop) (X : Nat × (Nat → Int32)) (o : sg_O) : Array Value → State → Outcome → State → Prop := fun _ st oc t => oc = .returned (o.1.map (sg_cv ad)) ∧ sg_P ad kA D A X o.2 t.heap ∧ va_F A st t
def sg_Pc (ad : Nat → Nat) (kA : Nat → ClassId) (D : va_G) (A : Nat → Prop) (X : Nat × (Nat → Int32)) (as : List sg_V) (σ : sg_M) : Array Value → State → Prop := va_Pc (as.map (sg_cv ad)) (fun U => sg_E ad kA D A X U U.heap ∧ sg_P ad kA D A X σ U.heap)
def sg_Rt (p : Program) (l : Launch) (e : Env) (R : Room) (s : State) (m : MethodId) (args : Array Value) (below : List Frame) (meth : Method) (c : Code) (cells slots : Nat) (Q : State → Prop) (ad : Nat → Nat) (kA : Nat → ClassId) (D : va_G) (A : Nat → Prop) (X : Nat × (Nat → Int32)) (y : Nat) (o : sg_O) : Prop :=
  ∀ (H : Heap) (locs : List Loc) (ls : Array Slot) (pc : Nat) (i : Instr), decode (sg_code y) pc = .ok (i, 1) → (match o.1 with
    | some (.inl v) => i = .ireturn ∧ sg_z (sg_rt y) v = true
    | some (.inr (.inl _)) => i = .lreturn ∧ sg_rt y = some .long
    | none => i = .return_ ∧ sg_rt y = none
    | _ => False) → sg_P ad kA D A X o.2 H → va_S A s.heap H locs → W p l e R s m args below meth c H locs cells slots Q (F0 m pc ls (o.1.toList.map (sg_cv ad)))
theorem sg_E_kept {H : Heap} {locs : List Loc} (h : sg_E ad kA D A X s s.heap) (hS : va_S A s.heap H locs) : sg_E ad kA D A X s H :=
  ⟨h.1, h.2.1, fun k hk => (h.2.2.1 k hk).kept (fun a h1 h2 => hS.2.1 a h1 h2), fun k h1 hk => (h.2.2.2 k h1 hk).kept (fun a h1 h2 => hS.2.1 a h1 h2)⟩
theorem sg_E_moved {U V : State} {H : Heap} (hal : U.vm.Alike V.vm) (hnw : ∀ w ∈ sg_nw, va_Nw w U → va_Nw w V) (h : sg_E ad kA D A X U H) : sg_E ad kA D A X V H :=
  ⟨h.1.moved hal, fun w hw => hnw w hw (h.2.1 w hw), fun k hk => (h.2.2.1 k hk).moved hal, fun k h1 hk => (h.2.2.2 k h1 hk).moved hal⟩
theorem sg_nw_kind {w : Jvm.Cond} (h : w ∈ sg_nw) : (∃ a i b n d g, w = .fieldLinkNest a i b n d g) ∨ ∃ a i z g, w = .methodLinkNest a i z g := by
  have h1 := List.all_eq_true.mp sg_nw_ok w h
  split at h1
  · exact Or.inl ⟨_, _, _, _, _, _, rfl⟩
  · exact Or.inr ⟨_, _, _, _, rfl⟩
  · cases h1
theorem sg_E_warm {U : State} {H : Heap} (hW : s.WarmedH U.vm) (h : sg_E ad kA D A X s H) : sg_E ad kA D A X U H := by
  refine sg_E_moved hW.alike (fun w hw z => ?_) h
  rcases sg_nw_kind hw with ⟨a, i, b, n, d, g, rfl⟩ | ⟨a, i, x, g, rfl⟩
  · exact va_Nw.warmF hW z
  · exact va_Nw.warmM hW z
theorem sg_blind (as : List sg_V) : FrameBlind (sg_Pc ad kA D A X as σ) := by
  intro a U g mk h
  refine ⟨h.1, sg_E_moved (U := U) (V := U.calling g mk a) (Vm.Alike.refl U.vm) (fun w hw z => ?_) h.2.1, h.2.2⟩
  rcases sg_nw_kind hw with ⟨a, i, b, n, d, g, rfl⟩ | ⟨a, i, x, g, rfl⟩
  · exact va_Nw.same rfl rfl z
  · exact va_Nw.same rfl rfl z
/-- a call of the small machine -/
theorem sg_callW {o : sg_O} {rest st0 : List Value} {a : Array Value} {ls : Array Slot} {H : Heap} {locs : List Loc} (hr : va_Run p l e R s m args below meth c H locs cells slots 0 0 (F0 m pc ls st0) rest (sg_Q ad kA D A X o a) A) (hS : va_S A s.heap H locs)
    (kk : ∀ (H1 : Heap) (locs1 : List Loc), sg_P ad kA D A X o.2 H1 → va_S A s.heap H1 locs1 → W p l e R s m args below meth c H1 locs1 cells slots Q (F0 m (pc + 3) ls ((o.1.map (sg_cv ad)).toList ++ rest))) : W p l e R s m args below meth c H locs cells slots Q (F0 m pc ls st0) := by
  intro T hT X'
  obtain ⟨v, st₀, t, T', L, h0, X1, hL, e1, e2, ⟨hv, hp, hz, hk⟩, stp⟩ := hr T hT X'
  cases hv
  rw [h0] at hz hk
  obtain ⟨t2, a1, b1⟩ := kk T'.heap (locs ++ L) (by rw [e1]; exact hp)
    ⟨Nat.le_trans hS.1 (by rw [e1]; exact hz), fun q h1 h2 => by rw [e1, hk q (Nat.lt_of_lt_of_le h1 hS.1) h2]; exact hS.2.1 q h1 h2, fun q hq => by
      rcases List.mem_append.mp hq with h | h
      · exact hS.2.2 q h
      · exact hL q h⟩ T' rfl X1
  exact ⟨t2, stp t2 a1, b1⟩
/-! a new frame's locals -/
def sg_fla (as : List sg_V) : List sg_V := as.flatMap (fun v => if sg_ca v = 2 then [v, sg_r 0 0] else [v])
theorem sg_en_eq (z : Nat) (as : List sg_V) : sg_en z as = sg_fla as ++ List.replicate (sg_mx z - (sg_fla as).length) (sg_r 0 0) := rfl
theorem sg_ca_12 (v : sg_V) : sg_ca v = 1 ∨ sg_ca v = 2 := by rcases v with x | x | q <;> simp [sg_ca]
theorem sg_fla_len (as : List sg_V) : (sg_fla as).length = sg_enl as := by
  induction as with
  | nil => rfl
  | cons v as ih =>
    have h1 : sg_fla (v :: as) = (if sg_ca v = 2 then [v, sg_r 0 0] else [v]) ++ sg_fla as := rfl
    have h2 : sg_enl (v :: as) = sg_ca v + sg_enl as := by simp [sg_enl]
    rw [h1, h2, List.length_append, ih]
    rcases sg_ca_12 v with h | h <;> simp [h]
theorem sg_lg_len (ad : Nat → Nat) (as : List sg_V) : (lg_sl (as.map (sg_cv ad))).length = sg_enl as := by
  induction as with
  | nil => rfl
  | cons v as ih =>
    have h1 : lg_sl ((v :: as).map (sg_cv ad)) = (if (sg_cv ad v).category = 2 then [.val (sg_cv ad v), .second] else [.val (sg_cv ad v)]) ++ lg_sl (as.map (sg_cv ad)) := rfl
    have h2 : sg_enl (v :: as) = sg_ca v + sg_enl as := by simp [sg_enl]
    rw [h1, h2, List.length_append, ih, sg_cv_cat]
    rcases sg_ca_12 v with h | h <;> simp [h]
theorem sg_fla_args (ad : Nat → Nat) : ∀ (as : List sg_V) (k i : Nat) (v : sg_V), (sg_fla as)[i]? = some v → v ≠ sg_r 0 0 → (k + i, sg_cv ad v) ∈ lv_args k (as.map (sg_cv ad)) := by
  intro as
  induction as with
  | nil => intro k i v h; simp [sg_fla] at h
  | cons w as ih =>
    intro k i v h hv
    have h1 : sg_fla (w :: as) = (if sg_ca w = 2 then [w, sg_r 0 0] else [w]) ++ sg_fla as := rfl
    rw [h1] at h
    show (k + i, sg_cv ad v) ∈ (k, sg_cv ad w) :: lv_args (if (sg_cv ad w).category = 2 then k + 2 else k + 1) (as.map (sg_cv ad))
    rw [sg_cv_cat]
    rcases sg_ca_12 w with hw | hw
    · simp only [hw] at h ⊢
      cases i with
      | zero =>
        simp at h
        subst h
        exact List.mem_cons_self
      | succ i =>
        simp at h
        have h2 := ih (k + 1) i v h hv
        rw [show k + 1 + i = k + (i + 1) by omega] at h2
        exact List.mem_cons_of_mem _ h2
    · simp only [hw] at h ⊢
      match i, h with
      | 0, h =>
        simp at h
        subst h
        exact List.mem_cons_self
      | 1, h =>
        simp at h
        exact absurd h.symm hv
      | i + 2, h =>
        simp at h
        have h2 := ih (k + 2) i v h hv
        rw [show k + 2 + i = k + (i + 2) by omega] at h2
        exact List.mem_cons_of_mem _ h2
theorem sg_hl_entry {z : Nat} {as : List sg_V} (hm : sg_enl as ≤ sg_mx z) : sg_hl ad ((lg_sl (as.map (sg_cv ad)) ++ List.replicate (sg_mx z - (lg_sl (as.map (sg_cv ad))).length) Slot.unset).toArray) (sg_en z as) := by
  have h := lv_entry (as.map (sg_cv ad)) (n := sg_mx z) (by rw [sg_lg_len]; exact hm)
  refine ⟨?_, h.2.1, fun i v hi hv => ?_⟩
  · rw [h.1, sg_en_eq, List.length_append, List.length_replicate, sg_fla_len]
    omega
  · rw [sg_en_eq] at hi
    rcases Nat.lt_or_ge i (sg_fla as).length with hlt | hge
    · rw [List.getElem?_append_left hlt] at hi
      have h2 := sg_fla_args ad as 0 i v hi hv
      rw [Nat.zero_add] at h2
      exact h.2.2 _ h2
    · rw [List.getElem?_append_right hge, List.getElem?_replicate] at hi
      split at hi
      · cases hi
        exact absurd rfl hv
      · cases hi
theorem sg_en_len {z : Nat} {as : List sg_V} (hm : sg_enl as ≤ sg_mx z) : (sg_en z as).length = sg_mx z := by
  rw [sg_en_eq, List.length_append, List.length_replicate, sg_fla_len]
  omega
theorem sg_en_ok {z : Nat} {as : List sg_V} (h : sg_okL as) : sg_okL (sg_en z as) := by
  intro v hv
  rw [sg_en_eq] at hv
  rcases List.mem_append.mp hv with h1 | h1
  · obtain ⟨w, hw, h2⟩ := List.mem_flatMap.mp h1
    rcases sg_ca_12 w with hc | hc <;> simp only [hc] at h2
    · simp at h2
      rw [h2]; exact h w hw
    · simp at h2
      rcases h2 with h2 | h2
      · rw [h2]; exact h w hw
      · rw [h2]; exact Or.inl ⟨rfl, rfl⟩
  · rw [(List.mem_replicate.mp h1).2]
    exact Or.inl ⟨rfl, rfl⟩
end SGV
