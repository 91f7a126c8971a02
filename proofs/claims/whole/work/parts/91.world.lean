/-! THE TWO OBJECTS ARE MADE: the world as the small machine tells it -/
theorem cz_set {D : va_G} {cl : List vw_C} {A : Nat → Prop} {ws : va_W} {H : Heap} {k a n : Nat} {kc : ClassId} {f g : Nat → Option Nat} (hk : ws[k]? = some (a, cq_ref kc n f)) (hf : ∀ i, i < n → f i = g i) (h : va_P D cl ws H ∧ va_D A ws) : va_P D cl (ws.set k (a, cq_ref kc n g)) H ∧ va_D A (ws.set k (a, cq_ref kc n g)) := by
  have hl : k < ws.length := (List.getElem?_eq_some_iff.mp hk).1
  have key : ∀ (j : Nat) (q : Nat × va_E), (ws.set k (a, cq_ref kc n g))[j]? = some q → ∃ q0, ws[j]? = some q0 ∧ q0.1 = q.1 ∧ (va_at D cl q0 H → va_at D cl q H) := by
    intro j q hq
    rw [List.getElem?_set] at hq
    by_cases hj : k = j
    · subst hj
      rw [if_pos rfl, if_pos hl] at hq
      cases hq
      refine ⟨_, hk, rfl, fun h9 => ?_⟩
      have h9 : H[a]? = some (arrV kc n (fun j => va_rf (f j))) := h9
      show H[a]? = some (arrV kc n (fun j => va_rf (g j)))
      have e : (fun (j : Fin n) => va_rf (f j.val)) = (fun (j : Fin n) => va_rf (g j.val)) := funext (fun j => by rw [hf j.val j.isLt])
      rw [h9]
      unfold arrV
      rw [e]
    · rw [if_neg hj] at hq
      exact ⟨q, hq, rfl, id⟩
  refine ⟨fun j q hq => ?_, fun i j p q hp hq e => ?_, fun j q hq => ?_⟩
  · obtain ⟨q0, h1, -, h3⟩ := key j q hq
    exact h3 (h.1 j q0 h1)
  · obtain ⟨p0, h1, h2, -⟩ := key i p hp
    obtain ⟨q0, h3, h4, -⟩ := key j q hq
    exact h.2.1 i j p0 q0 h1 h3 (by rw [h2, h4]; exact e)
  · obtain ⟨q0, h1, h2, -⟩ := key j q hq
    rw [← h2]
    exact h.2.2 j q0 h1
def cz_0 (L : Nat) (xs : Nat → Int32) : sg_M := fun c =>
  if c = 1000 then xs else if c = 999 then (fun _ => nI L) else if c = 142 then va_up (va_up (va_up (va_up (fun _ => 0) 0 (-1)) 1 (-1)) 2 (-1)) 3 (-1)
  else if 19 ≤ c ∧ c < 91 ∧ (c - 19) % 6 = 0 then (fun k => if k = 0 then 1 else 0) else if 112 ≤ c ∧ c < 120 ∧ c % 2 = 0 then (fun k => if k = 2 then -1 else 0) else fun _ => 0
theorem cz_0_iv (L : Nat) (xs : Nat → Int32) : iv_all 150 (cz_0 L xs) := by
  refine ⟨fun k hk => ?_, ⟨0, by omega, nI_0.symm, nI_0.symm, fun q hq => absurd hq (by omega)⟩, ⟨0, by omega, nI_0.symm, nI_0.symm, fun q hq => absurd hq (by omega)⟩, ⟨rfl, rfl⟩, ⟨0, by omega, nI_0.symm, nI_0.symm, fun q hq => absurd hq (by omega), fun q hq => absurd hq (by omega)⟩, ⟨fun i hi => ?_, rfl⟩, ⟨0, by omega, nI_0.symm, nI_0.symm, fun q hq => absurd hq (by omega)⟩⟩
  · have hm : (-1 : Int32).toInt = -1 := by decide
    rcases (show k = 0 ∨ k = 1 ∨ k = 2 ∨ k = 3 by omega) with rfl | rfl | rfl | rfl <;> exact ⟨Or.inl rfl, rfl, rfl, fun j hj => absurd (show (j : Int) < (-1 : Int32).toInt from hj) (by rw [hm]; omega)⟩
  · rcases (show i = 0 ∨ i = 1 ∨ i = 2 ∨ i = 3 ∨ i = 4 ∨ i = 5 ∨ i = 6 ∨ i = 7 ∨ i = 8 ∨ i = 9 ∨ i = 10 ∨ i = 11 by omega) with rfl | rfl | rfl | rfl | rfl | rfl | rfl | rfl | rfl | rfl | rfl | rfl <;> rfl
def cz_ad (h0 a1 a2 a9 a17 a18 : Nat) (gb gt gs : Nat → Nat) (gp gq gr gh : Nat → Nat → Nat) (gm t : Nat → Nat) (c : Nat) : Nat := if c < 146 then ([h0, a1, a2, gb 0, gb 1, gb 2, gb 3, gb 4, gb 5, a9, gt 0, gt 1, gs 0, gs 1, gs 2, gs 3, gs 4, a17, a18, gp 0 0, gp 0 1, gp 0 2, gp 0 3, gp 0 4, gp 0 5, gp 1 0, gp 1 1, gp 1 2, gp 1 3, gp 1 4, gp 1 5, gp 2 0, gp 2 1, gp 2 2, gp 2 3, gp 2 4, gp 2 5, gp 3 0, gp 3 1, gp 3 2, gp 3 3, gp 3 4, gp 3 5, gp 4 0, gp 4 1, gp 4 2, gp 4 3, gp 4 4, gp 4 5, gp 5 0, gp 5 1, gp 5 2, gp 5 3, gp 5 4, gp 5 5, gp 6 0, gp 6 1, gp 6 2, gp 6 3, gp 6 4, gp 6 5, gp 7 0, gp 7 1, gp 7 2, gp 7 3, gp 7 4, gp 7 5, gq 0 0, gq 0 1, gq 0 2, gq 0 3, gq 0 4, gq 0 5, gq 1 0, gq 1 1, gq 1 2, gq 1 3, gq 1 4, gq 1 5, gq 2 0, gq 2 1, gq 2 2, gq 2 3, gq 2 4, gq 2 5, gq 3 0, gq 3 1, gq 3 2, gq 3 3, gq 3 4, gq 3 5, gr 0 0, gr 0 1, gr 0 2, gr 1 0, gr 1 1, gr 1 2, gr 2 0, gr 2 1, gr 2 2, gr 3 0, gr 3 1, gr 3 2, gr 4 0, gr 4 1, gr 4 2, gr 5 0, gr 5 1, gr 5 2, gr 6 0, gr 6 1, gr 6 2, gh 0 0, gh 0 1, gh 1 0, gh 1 1, gh 2 0, gh 2 1, gh 3 0, gh 3 1, gm 0, gm 1, gm 2, gm 3, gm 4, gm 5, gm 6, gm 7, gm 8, gm 9, gm 10, gm 11, gm 12, gm 13, gm 14, gm 15, gm 16, gm 17, gm 18, gm 19, gm 20, gm 21, gm 22, gm 23, gm 24, gm 25] : List Nat).getD c 0 else t (c - 1000)
theorem cz_ad_t (h0 a1 a2 a9 a17 a18 : Nat) (gb gt gs : Nat → Nat) (gp gq gr gh : Nat → Nat → Nat) (gm t : Nat → Nat) (k : Nat) : cz_ad h0 a1 a2 a9 a17 a18 gb gt gs gp gq gr gh gm t (1000 + k) = t k := by
  unfold cz_ad
  rw [if_neg (by omega), Nat.add_sub_cancel_left]
set_option maxHeartbeats 8000000 in
set_option maxRecDepth 100000 in
theorem cz_ws (h0 a1 a2 a9 a17 a18 : Nat) (gb gt gs : Nat → Nat) (gp gq gr gh : Nat → Nat → Nat) (gm t : Nat → Nat) (f1 f2 f9 f17 : Nat → Option Nat) (kA : Nat → ClassId) (L : Nat) (xs : Nat → Int32) : (((((cw_Glass kA h0 a1 a2 a9 a17 a18 gb gt gs gp gq gr gh f1 f2 f9 f17 ++ cb_Model kA gm).set 1 (a1, cq_ref (kA 2) 8 (fun i => some (cz_ad h0 a1 a2 a9 a17 a18 gb gt gs gp gq gr gh gm t (1 + 18 + 6 * i))))).set 2 (a2, cq_ref (kA 2) 4 (fun i => some (cz_ad h0 a1 a2 a9 a17 a18 gb gt gs gp gq gr gh gm t (2 + 65 + 6 * i))))).set 9 (a9, cq_ref (kA 3) 7 (fun i => some (cz_ad h0 a1 a2 a9 a17 a18 gb gt gs gp gq gr gh gm t (9 + 82 + 3 * i))))).set 17 (a17, cq_ref (kA 6) 4 (fun i => some (cz_ad h0 a1 a2 a9 a17 a18 gb gt gs gp gq gr gh gm t (17 + 95 + 2 * i))))) = sg_ws (cz_ad h0 a1 a2 a9 a17 a18 gb gt gs gp gq gr gh gm t) kA (cz_0 L xs) := by
  rfl
set_option maxHeartbeats 8000000 in
set_option maxRecDepth 100000 in
theorem cz_P {D : va_G} {kA : Nat → ClassId} {A : Nat → Prop} {H : Heap} (h0 a1 a2 a9 a17 a18 : Nat) (gb gt gs : Nat → Nat) (gp gq gr gh : Nat → Nat → Nat) (gm t : Nat → Nat) (f1 f2 f9 f17 : Nat → Option Nat) (L : Nat) (hL : L ≤ 4096) (xs : Nat → Int32) (h1 : ∀ i, i < 8 → f1 i = some (gp i 0)) (h2 : ∀ i, i < 4 → f2 i = some (gq i 0)) (h9 : ∀ i, i < 7 → f9 i = some (gr i 0)) (h17 : ∀ i, i < 4 → f17 i = some (gh i 0)) (hP : va_P D sg_cl (cw_Glass kA h0 a1 a2 a9 a17 a18 gb gt gs gp gq gr gh f1 f2 f9 f17 ++ cb_Model kA gm) H) (hD : va_D A (cw_Glass kA h0 a1 a2 a9 a17 a18 gb gt gs gp gq gr gh f1 f2 f9 f17 ++ cb_Model kA gm)) : sg_P (cz_ad h0 a1 a2 a9 a17 a18 gb gt gs gp gq gr gh gm t) kA D A (L, xs) (cz_0 L xs) H := by
  have z0 := And.intro hP hD
  have z1 := cz_set (k := 1) (a := a1) (n := 8) (kc := kA 2) (f := f1) (g := fun i => some (cz_ad h0 a1 a2 a9 a17 a18 gb gt gs gp gq gr gh gm t (1 + 18 + 6 * i))) rfl (fun i hi => by
    rw [h1 i hi]
    rcases (show i = 0 ∨ i = 1 ∨ i = 2 ∨ i = 3 ∨ i = 4 ∨ i = 5 ∨ i = 6 ∨ i = 7 by omega) with rfl | rfl | rfl | rfl | rfl | rfl | rfl | rfl <;> rfl) z0
  have z2 := cz_set (k := 2) (a := a2) (n := 4) (kc := kA 2) (f := f2) (g := fun i => some (cz_ad h0 a1 a2 a9 a17 a18 gb gt gs gp gq gr gh gm t (2 + 65 + 6 * i))) rfl (fun i hi => by
    rw [h2 i hi]
    rcases (show i = 0 ∨ i = 1 ∨ i = 2 ∨ i = 3 by omega) with rfl | rfl | rfl | rfl <;> rfl) z1
  have z3 := cz_set (k := 9) (a := a9) (n := 7) (kc := kA 3) (f := f9) (g := fun i => some (cz_ad h0 a1 a2 a9 a17 a18 gb gt gs gp gq gr gh gm t (9 + 82 + 3 * i))) rfl (fun i hi => by
    rw [h9 i hi]
    rcases (show i = 0 ∨ i = 1 ∨ i = 2 ∨ i = 3 ∨ i = 4 ∨ i = 5 ∨ i = 6 by omega) with rfl | rfl | rfl | rfl | rfl | rfl | rfl <;> rfl) z2
  have z4 := cz_set (k := 17) (a := a17) (n := 4) (kc := kA 6) (f := f17) (g := fun i => some (cz_ad h0 a1 a2 a9 a17 a18 gb gt gs gp gq gr gh gm t (17 + 95 + 2 * i))) rfl (fun i hi => by
    rw [h17 i hi]
    rcases (show i = 0 ∨ i = 1 ∨ i = 2 ∨ i = 3 by omega) with rfl | rfl | rfl | rfl <;> rfl) z3
  rw [cz_ws] at z4
  exact ⟨z4.1, z4.2, rfl, by show (nI L).toNatClampNeg = L; rw [sg_nIc (by omega)]⟩
