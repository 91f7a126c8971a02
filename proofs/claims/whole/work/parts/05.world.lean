/-! THE WORLD: 146 cells at addresses 'ad', what they hold is told by σ; the values of the small machine as values of the machine -/
def sg_cv (ad : Nat → Nat) (v : sg_V) : Value := match v with
  | .inl x => .int x
  | .inr (.inl x) => .long x
  | .inr (.inr q) => .ref (ad q.2)
def sg_fv (ad : Nat → Nat) (c : Nat) (f : Nat → Int32) (e : Option (Nat × Nat) × Nat) : Value := match e.1 with
  | none => .int (f e.2)
  | some r => .ref (ad (c + r.2))
def sg_cell (ad : Nat → Nat) (kA : Nat → ClassId) (t c : Nat) (f : Nat → Int32) : va_E := match sg_sh t with
  | .inl n => .inl (kA 0, n, .inl f)
  | .inr (.inl q) => .inl (kA q.2.1, q.1, .inr (.inr (.inr (.inr (fun i => some (ad (c + q.2.2.1 + q.2.2.2 * i)))))))
  | .inr (.inr o) => .inr (o.1, o.2.zipIdx.map (sg_fv ad c f))
def sg_ws (ad : Nat → Nat) (kA : Nat → ClassId) (σ : sg_M) : va_W := (List.range 146).map (fun c => (ad c, sg_cell ad kA (sg_tag c) c (σ c)))
def sg_tys (kA : Nat → ClassId) : List (ClassId × FieldType) := [(kA 0, .int), (kA 2, .object "SoftGlass$Piece"), (kA 3, .object "SoftGlass$Recipe"), (kA 6, .object "SoftGlass$Sheet")]
def sg_roT (k : Nat) : FieldType := if k = 5 then .char else .int
def sg_xn (X : Nat × (Nat → Int32)) (k : Nat) : Nat := if k = 0 then X.1 else 7
def sg_xv (X : Nat × (Nat → Int32)) (k j : Nat) : Int32 := if k = 0 then X.2 j else (sg_sv.getD k []).getD j 0
def sg_sq (k : Nat) : String × String × String := sg_sn.getD k ("", "", "")
/-- what doesn't depend on the cells' contents -/
def sg_E (ad : Nat → Nat) (kA : Nat → ClassId) (D : va_G) (A : Nat → Prop) (X : Nat × (Nat → Int32)) (U : State) (H : Heap) : Prop :=
  va_K D sg_cl (sg_tys kA) U ∧ (∀ w ∈ sg_nw, va_Nw w U) ∧ (∀ k, k < 6 → va_T (sg_roT k) (ad (1000 + k)) (sg_xn X k) (fun j => .int (sg_xv X k j)) A U H) ∧ ∀ k, 1 ≤ k → k < 6 → va_Z (sg_sq k).1 (sg_sq k).2.1 (sg_sq k).2.2 (.ref (ad (1000 + k))) A U H
def sg_P (ad : Nat → Nat) (kA : Nat → ClassId) (D : va_G) (A : Nat → Prop) (X : Nat × (Nat → Int32)) (σ : sg_M) (H : Heap) : Prop :=
  va_P D sg_cl (sg_ws ad kA σ) H ∧ va_D A (sg_ws ad kA σ) ∧ σ 1000 = X.2 ∧ (σ 999 0).toNatClampNeg = X.1
def sg_ok (v : sg_V) : Prop := match v with
  | .inr (.inr q) => (q.1 = 0 ∧ q.2 = 0) ∨ (q.2 < 146 ∧ sg_tag q.2 = q.1) ∨ (q.2 = q.1 + 910 ∧ 90 ≤ q.1 ∧ q.1 < 96)
  | _ => True
def sg_okL (l : List sg_V) : Prop := ∀ v ∈ l, sg_ok v
def sg_hl (ad : Nat → Nat) (ls : Array Slot) (lv : List sg_V) : Prop := ls.size = lv.length ∧ lv_wf ls ∧ ∀ (i : Nat) (v : sg_V), lv[i]? = some v → v ≠ sg_r 0 0 → ls[i]? = some (.val (sg_cv ad v))
theorem sg_cv_cat (ad : Nat → Nat) (v : sg_V) : (sg_cv ad v).category = sg_ca v := by
  rcases v with x | x | q <;> rfl
theorem sg_ws_get {ad : Nat → Nat} {kA : Nat → ClassId} {σ : sg_M} {c : Nat} (h : c < 146) : (sg_ws ad kA σ)[c]? = some (ad c, sg_cell ad kA (sg_tag c) c (σ c)) := by
  simp [sg_ws, h]
theorem sg_ws_set {ad : Nat → Nat} {kA : Nat → ClassId} {σ : sg_M} {c : Nat} {f : Nat → Int32} {e : va_E} (he : e = sg_cell ad kA (sg_tag c) c f) : (sg_ws ad kA σ).set c (ad c, e) = sg_ws ad kA (sg_set σ c f) := by
  subst he
  apply List.ext_getElem?
  intro k
  by_cases hk : k < 146
  · rw [sg_ws_get hk, List.getElem?_set]
    by_cases hc : c = k
    · subst hc
      have hl : c < (sg_ws ad kA σ).length := by simp [sg_ws, hk]
      simp [hl, sg_set]
    · have hc' : ¬ k = c := fun q => hc q.symm
      rw [if_neg hc, sg_ws_get hk]
      simp [sg_set, hc']
  · have h1 : 146 ≤ k := Nat.le_of_not_lt hk
    rw [List.getElem?_eq_none (by simp [sg_ws]; omega), List.getElem?_eq_none (by simp [sg_ws]; omega)]
theorem sg_tagOk {c : Nat} (h : c < 146) : (decide (sg_tag c ≠ 0) && (match sg_sh (sg_tag c) with
  | .inl n => decide (100 ≤ sg_tag c) && decide (n = sg_tag c - 100)
  | .inr (.inl q) => (List.range q.1).all (fun i => decide (c + q.2.2.1 + q.2.2.2 * i < 146) && decide (sg_tag (c + q.2.2.1 + q.2.2.2 * i) = q.2.1)) && decide (q.2.1 = 2 ∨ q.2.1 = 3 ∨ q.2.1 = 6)
  | .inr (.inr o) => decide (o.1 < 7) && (decide (o.2.length = (sg_cq o.1).2.2) && o.2.all (fun f => match f with
    | none => true
    | some r => decide (c + r.2 < 146) && decide (sg_tag (c + r.2) = r.1))))) = true :=
  List.all_eq_true.mp sg_tag_ok c (List.mem_range.mpr h)
/-- a cell with a tag that isn't a row nobody writes, and isn't 'nothing' -/
theorem sg_ok_cell {t c : Nat} (h : sg_ok (sg_r t c)) (h0 : t ≠ 0) (hr : ¬ (90 ≤ t ∧ t < 96)) : c < 146 ∧ sg_tag c = t := by
  rcases h with h | h | h
  · exact absurd h.1 h0
  · exact h
  · exact absurd h.2 hr
theorem sg_sh_ints {t : Nat} (h : 100 ≤ t) : sg_sh t = .inl (t - 100) := by simp [sg_sh, h]
theorem sg_sh_small {t : Nat} (h : ¬ 100 ≤ t) : sg_sh t = sg_shL.getD t (.inl 0) := by simp [sg_sh, h]
/-- a tag of rows of references, or of objects, is below 12 -/
theorem sg_sh_lt {t : Nat} {x : (Nat × Nat × Nat × Nat) ⊕ (Nat × List (Option (Nat × Nat)))} (h : sg_sh t = .inr x) : t ≠ 0 ∧ t < 12 := by
  have h1 : ¬ 100 ≤ t := fun q => by rw [sg_sh_ints q] at h; cases h
  rw [sg_sh_small h1] at h
  refine ⟨fun q => by (rw [q] at h; exact absurd h (by simp [sg_shL])), ?_⟩
  rcases Nat.lt_or_ge t 12 with q | q
  · exact q
  · have h2 : sg_shL[t]? = none := List.getElem?_eq_none (by simpa [sg_shL] using q)
    rw [List.getD_eq_getElem?_getD, h2] at h
    cases h
theorem sg_cell_int {ad : Nat → Nat} {kA : Nat → ClassId} {t c : Nat} {f : Nat → Int32} (h : 100 ≤ t) : sg_cell ad kA t c f = .inl (kA 0, t - 100, .inl f) := by
  simp [sg_cell, sg_sh_ints h]
theorem sg_cell_row {ad : Nat → Nat} {kA : Nat → ClassId} {t c : Nat} {f : Nat → Int32} {q : Nat × Nat × Nat × Nat} (h : sg_sh t = .inr (.inl q)) : sg_cell ad kA t c f = .inl (kA q.2.1, q.1, .inr (.inr (.inr (.inr (fun i => some (ad (c + q.2.2.1 + q.2.2.2 * i))))))) := by
  simp [sg_cell, h]
theorem sg_cell_obj {ad : Nat → Nat} {kA : Nat → ClassId} {t c : Nat} {f : Nat → Int32} {o : Nat × List (Option (Nat × Nat))} (h : sg_sh t = .inr (.inr o)) : sg_cell ad kA t c f = .inr (o.1, o.2.zipIdx.map (sg_fv ad c f)) := by
  simp [sg_cell, h]
theorem sg_in_vp {i : Int32} {n : Nat} (h : sg_in i n = true) : vp_in i n := vp_in_iff.mpr (of_decide_eq_true h)
theorem sg_fv_get {ad : Nat → Nat} {c : Nat} {f : Nat → Int32} {fs : List (Option (Nat × Nat))} {k : Nat} {x : Option (Nat × Nat)} (h : fs[k]? = some x) : (fs.zipIdx.map (sg_fv ad c f))[k]? = some (sg_fv ad c f (x, k)) := by
  simp [h]
theorem sg_fv_set {ad : Nat → Nat} {c : Nat} {f : Nat → Int32} {fs : List (Option (Nat × Nat))} {k : Nat} {v : Int32} (h : fs[k]? = some none) : (fs.zipIdx.map (sg_fv ad c f)).set k (.int v) = fs.zipIdx.map (sg_fv ad c (upd f k v)) := by
  apply List.ext_getElem?
  intro j
  rw [List.getElem?_set]
  have hk : k < fs.length := (List.getElem?_eq_some_iff.mp h).1
  by_cases hj : k = j
  · subst hj
    rw [sg_fv_get (f := upd f k v) h, if_pos rfl, if_pos (by simpa using hk)]
    simp [sg_fv, upd]
  · rw [if_neg hj]
    cases hx : fs[j]? with
    | none => simp [hx]
    | some x =>
      rw [sg_fv_get hx, sg_fv_get hx]
      have hj' : ¬ j = k := fun q => hj q.symm
      cases x <;> simp [sg_fv, upd, hj']
/-! locals -/
def sg_as (ad : Nat → Nat) (lv : List sg_V) : List (Nat × Value) := lv.zipIdx.filterMap (fun e => if e.1 = sg_r 0 0 then none else some (e.2, sg_cv ad e.1))
theorem sg_as_mem {ad : Nat → Nat} {lv : List sg_V} {i : Nat} {v : sg_V} (h : lv[i]? = some v) (hv : v ≠ sg_r 0 0) : (i, sg_cv ad v) ∈ sg_as ad lv :=
  List.mem_filterMap.mpr ⟨(v, i), List.mem_of_getElem? (i := i) (by simp [h]), by simp [hv]⟩
theorem sg_hl_has {ad : Nat → Nat} {ls : Array Slot} {lv : List sg_V} (h : sg_hl ad ls lv) : lv_has ls lv.length (sg_as ad lv) := by
  refine ⟨h.1, h.2.1, fun q hq => ?_⟩
  obtain ⟨e, he, h1⟩ := List.mem_filterMap.mp hq
  by_cases hz : e.1 = sg_r 0 0
  · simp [hz] at h1
  · rw [if_neg hz] at h1
    cases h1
    have h2 := List.mem_zipIdx_iff_getElem?.mp he
    exact h.2.2 e.2 e.1 h2 hz
theorem sg_nl_cat {ad : Nat → Nat} {lv : List sg_V} {n i : Nat} {v : sg_V} (h : sg_nl lv n = true) (hi : i + 1 = n) (hv : lv[i]? = some v) : (sg_cv ad v).category ≠ 2 := by
  subst hi
  rw [sg_cv_cat]
  simp only [sg_nl, hv] at h
  rcases v with x | x | q
  · simp [sg_ca]
  · simp at h
  · simp [sg_ca]
theorem sg_hl_set {ad : Nat → Nat} {ls' : Array Slot} {lv : List sg_V} {n : Nat} {v : sg_V} (hn : n < lv.length) (hnl : sg_nl lv n = true)
    (h : lv_has ls' lv.length ((n, sg_cv ad v) :: (sg_as ad lv).filter (fun q => !(q.1 == n) && !(q.1 + 1 == n && q.2.category == 2)))) : sg_hl ad ls' (lv.set n v) := by
  refine ⟨by rw [h.1]; simp, h.2.1, fun i w hw hz => ?_⟩
  rw [List.getElem?_set] at hw
  by_cases hi : n = i
  · subst hi
    simp [hn] at hw
    subst hw
    exact h.2.2 (n, sg_cv ad v) List.mem_cons_self
  · rw [if_neg hi] at hw
    refine h.2.2 (i, sg_cv ad w) (List.mem_cons_of_mem _ (List.mem_filter.mpr ⟨sg_as_mem hw hz, ?_⟩))
    have hi' : ¬ i = n := fun q => hi q.symm
    by_cases h1 : i + 1 = n
    · have h2 := sg_nl_cat (ad := ad) hnl h1 hw
      simp [hi', h2]
    · simp [hi', h1]
theorem sg_hl_set2 {ad : Nat → Nat} {ls' : Array Slot} {lv : List sg_V} {n : Nat} {x : Int64} (hn : n + 1 < lv.length) (hnl : sg_nl lv n = true)
    (h : lv_has ls' lv.length ((n, Value.long x) :: (sg_as ad lv).filter (fun q => !(q.1 == n) && (!(q.1 == n + 1) && !(q.1 + 1 == n && q.2.category == 2))))) : sg_hl ad ls' ((lv.set n (sg_l x)).set (n + 1) (sg_r 0 0)) := by
  refine ⟨by rw [h.1]; simp, h.2.1, fun i w hw hz => ?_⟩
  rw [List.getElem?_set, List.getElem?_set] at hw
  by_cases hj : n + 1 = i
  · subst hj
    simp [hn] at hw
    exact absurd hw.symm hz
  · rw [if_neg hj] at hw
    by_cases hi : n = i
    · subst hi
      simp [show n < lv.length by omega] at hw
      subst hw
      exact h.2.2 (n, Value.long x) List.mem_cons_self
    · rw [if_neg hi] at hw
      refine h.2.2 (i, sg_cv ad w) (List.mem_cons_of_mem _ (List.mem_filter.mpr ⟨sg_as_mem hw hz, ?_⟩))
      have hi' : ¬ i = n := fun q => hi q.symm
      have hj' : ¬ i = n + 1 := fun q => hj q.symm
      by_cases h1 : i + 1 = n
      · have h2 := sg_nl_cat (ad := ad) hnl h1 hw
        simp [hi', hj', h2]
      · simp [hi', hj', h1]
theorem sg_okL_set {lv : List sg_V} {n : Nat} {v : sg_V} (h : sg_okL lv) (hv : sg_ok v) : sg_okL (lv.set n v) := by
  intro w hw
  rcases List.mem_or_eq_of_mem_set hw with h1 | h1
  · exact h w h1
  · rw [h1]; exact hv
theorem sg_okL_get {lv : List sg_V} {n : Nat} {v : sg_V} (h : sg_okL lv) (hv : lv[n]? = some v) : sg_ok v := h v (List.mem_of_getElem? hv)
theorem sg_okL_cons {v : sg_V} {l : List sg_V} : sg_okL (v :: l) ↔ sg_ok v ∧ sg_okL l := by
  simp [sg_okL]
theorem sg_b2_of {f : Int32 → Int32 → Option sg_V} {st st' : List sg_V} (h : sg_b2 f st = some st') : ∃ x y r v, st = sg_i y :: sg_i x :: r ∧ f x y = some v ∧ st' = v :: r := by
  unfold sg_b2 at h
  split at h
  · obtain ⟨v, hv, rfl⟩ := Option.map_eq_some_iff.mp h
    exact ⟨_, _, _, v, rfl, hv, rfl⟩
  · cases h
theorem sg_b1_of {f : Int32 → Option sg_V} {st st' : List sg_V} (h : sg_b1 f st = some st') : ∃ x r v, st = sg_i x :: r ∧ f x = some v ∧ st' = v :: r := by
  unfold sg_b1 at h
  split at h
  · obtain ⟨v, hv, rfl⟩ := Option.map_eq_some_iff.mp h
    exact ⟨_, _, v, rfl, hv, rfl⟩
  · cases h
theorem sg_b3_of {f : Int64 → Int64 → Option sg_V} {st st' : List sg_V} (h : sg_b3 f st = some st') : ∃ x y r v, st = sg_l y :: sg_l x :: r ∧ f x y = some v ∧ st' = v :: r := by
  unfold sg_b3 at h
  split at h
  · obtain ⟨v, hv, rfl⟩ := Option.map_eq_some_iff.mp h
    exact ⟨_, _, _, v, rfl, hv, rfl⟩
  · cases h
theorem sg_b4_of {f : Int64 → Int32 → Option sg_V} {st st' : List sg_V} (h : sg_b4 f st = some st') : ∃ x y r v, st = sg_i y :: sg_l x :: r ∧ f x y = some v ∧ st' = v :: r := by
  unfold sg_b4 at h
  split at h
  · obtain ⟨v, hv, rfl⟩ := Option.map_eq_some_iff.mp h
    exact ⟨_, _, _, v, rfl, hv, rfl⟩
  · cases h
/-! the context of a walk -/
def sg_C (p : Program) (R : Room) (s : State) (m : MethodId) (args : Array Value) (c : Code) (cells slots : Nat) (ad : Nat → Nat) (kA : Nat → ClassId) (D : va_G) (A : Nat → Prop) (X : Nat × (Nat → Int32)) (y : Nat) : Prop :=
  (p.tables.exec = Jvm.exec ∧ c.code = sg_code y ∧ c.maxLocals = sg_mx y ∧ s.vm.findClass (sg_cs (sg_cn y)) = some m.cls ∧ ∀ w ∈ sg_tb, w.before args s = true) ∧
  (sg_fr y ≤ R.frames ∧ sg_lc y ≤ R.locals ∧ cells ≤ R.cells ∧ slots ≤ R.slots) ∧ sg_E ad kA D A X s s.heap
def sg_J (p : Program) (l : Launch) (e : Env) (R : Room) (s : State) (m : MethodId) (args : Array Value) (below : List Frame) (meth : Method) (c : Code) (cells slots : Nat) (Q : State → Prop) (ad : Nat → Nat) (kA : Nat → ClassId) (D : va_G) (A : Nat → Prop) (X : Nat × (Nat → Int32)) (S : sg_S) : Prop :=
  ∀ (H : Heap) (locs : List Loc) (ls : Array Slot), sg_P ad kA D A X S.2.1 H → va_S A s.heap H locs → sg_hl ad ls S.2.2.1 → W p l e R s m args below meth c H locs cells slots Q (F0 m S.1 ls (S.2.2.2.map (sg_cv ad)))
def sg_G (p : Program) (l : Launch) (e : Env) (R : Room) (s : State) (m : MethodId) (args : Array Value) (below : List Frame) (meth : Method) (c : Code) (cells slots : Nat) (Q : State → Prop) (ad : Nat → Nat) (kA : Nat → ClassId) (D : va_G) (A : Nat → Prop) (X : Nat × (Nat → Int32)) (y pc : Nat) (σ : sg_M) (lv st : List sg_V) (S : sg_S) : Prop :=
  (sg_okL S.2.2.1 ∧ sg_okL S.2.2.2 ∧ S.2.2.1.length = sg_mx y) ∧ (sg_J p l e R s m args below meth c cells slots Q ad kA D A X S → sg_J p l e R s m args below meth c cells slots Q ad kA D A X (pc, σ, lv, st))
