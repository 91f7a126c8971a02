/-- a piece at cell c with these rows -/
def sg_pm (σ : sg_M) (c : Nat) (o : Int32) (r h s w : Nat → Int32) : sg_M := sg_set (sg_set (sg_set (sg_set (sg_up σ c 7 o) (c + 2) r) (c + 3) h) (c + 4) s) (c + 5) w
theorem pm_c (σ : sg_M) (c : Nat) (o : Int32) (r h s w : Nat → Int32) : sg_pm σ c o r h s w c = upd (σ c) 7 o := by
  unfold sg_pm
  rw [sg_set_ne (by omega), sg_set_ne (by omega), sg_set_ne (by omega), sg_set_ne (by omega), sg_up_row]
theorem pm_1 (σ : sg_M) (c : Nat) (o : Int32) (r h s w : Nat → Int32) : sg_pm σ c o r h s w (c + 1) = σ (c + 1) := by
  unfold sg_pm
  rw [sg_set_ne (by omega), sg_set_ne (by omega), sg_set_ne (by omega), sg_set_ne (by omega), sg_up_ne (by omega)]
theorem pm_2 (σ : sg_M) (c : Nat) (o : Int32) (r h s w : Nat → Int32) : sg_pm σ c o r h s w (c + 2) = r := by
  unfold sg_pm
  rw [sg_set_ne (by omega), sg_set_ne (by omega), sg_set_ne (by omega), sg_set_same]
theorem pm_3 (σ : sg_M) (c : Nat) (o : Int32) (r h s w : Nat → Int32) : sg_pm σ c o r h s w (c + 3) = h := by
  unfold sg_pm
  rw [sg_set_ne (by omega), sg_set_ne (by omega), sg_set_same]
theorem pm_4 (σ : sg_M) (c : Nat) (o : Int32) (r h s w : Nat → Int32) : sg_pm σ c o r h s w (c + 4) = s := by
  unfold sg_pm
  rw [sg_set_ne (by omega), sg_set_same]
theorem pm_5 (σ : sg_M) (c : Nat) (o : Int32) (r h s w : Nat → Int32) : sg_pm σ c o r h s w (c + 5) = w := by
  unfold sg_pm
  rw [sg_set_same]
theorem pm_ne {σ : sg_M} {c x : Nat} {o : Int32} {r h s w : Nat → Int32} (hx : x < c ∨ x = c + 1 ∨ c + 6 ≤ x) : sg_pm σ c o r h s w x = σ x := by
  unfold sg_pm
  rw [sg_set_ne (by omega), sg_set_ne (by omega), sg_set_ne (by omega), sg_set_ne (by omega), sg_up_ne (by omega)]
theorem pm_ext {τ σ : sg_M} {c : Nat} {o : Int32} {r h s w : Nat → Int32} (hc : τ c = upd (σ c) 7 o) (h2 : τ (c + 2) = r) (h3 : τ (c + 3) = h) (h4 : τ (c + 4) = s) (h5 : τ (c + 5) = w) (hx : ∀ x, (x < c ∨ x = c + 1 ∨ c + 6 ≤ x) → τ x = σ x) : τ = sg_pm σ c o r h s w := by
  funext x
  rcases (show x = c ∨ x = c + 2 ∨ x = c + 3 ∨ x = c + 4 ∨ x = c + 5 ∨ (x < c ∨ x = c + 1 ∨ c + 6 ≤ x) by omega) with rfl | rfl | rfl | rfl | rfl | q
  · rw [hc, pm_c]
  · rw [h2, pm_2]
  · rw [h3, pm_3]
  · rw [h4, pm_4]
  · rw [h5, pm_5]
  · rw [hx x q, pm_ne q]
theorem pm_self (σ : sg_M) (c : Nat) : sg_pm σ c (σ c 7) (σ (c + 2)) (σ (c + 3)) (σ (c + 4)) (σ (c + 5)) = σ := by
  refine (pm_ext ?_ rfl rfl rfl rfl (fun _ _ => rfl)).symm
  funext j
  by_cases hj : j = 7
  · subst hj; rw [upd_same]
  · rw [upd_ne hj]
theorem upd_upd (f : Nat → Int32) (k : Nat) (x y : Int32) : upd (upd f k x) k y = upd f k y := by
  funext j
  by_cases hj : j = k <;> simp [upd, hj]
theorem pm_pm (σ : sg_M) (c : Nat) (o o2 : Int32) (r h s w r2 h2 s2 w2 : Nat → Int32) : sg_pm (sg_pm σ c o r h s w) c o2 r2 h2 s2 w2 = sg_pm σ c o2 r2 h2 s2 w2 := by
  refine pm_ext ?_ (pm_2 _ _ _ _ _ _ _) (pm_3 _ _ _ _ _ _ _) (pm_4 _ _ _ _ _ _ _) (pm_5 _ _ _ _ _ _ _) (fun x q => ?_)
  · rw [pm_c, pm_c, upd_upd]
  · rw [pm_ne q, pm_ne q]
/-- the heats behind a tenth -/
def fn_H (on mo : Int32) (n : Nat) (g r h : Nat → Int32) : Nat → Int32 := fun k => if k < n then fn_nh on mo n g r h k else h k
def fn_S (n : Nat) (w h s : Nat → Int32) : Nat → Int32 := fun k => if k < n - 1 then fn_sn w h s k else s k
def fn_O (kind o : Int32) (n : Nat) (h : Nat → Int32) : Int32 := if kind = 0 then o + fn_gs h n else (if 0 < o - 5 then o - 5 else 0)
def fn_R (kind : Int32) (n : Nat) (g r h : Nat → Int32) : Nat → Int32 := if kind = 2 then fn_sw n g r h else r
def fn_mo (kind : Int32) : Int32 := if kind = 3 then 1 else 0
theorem fn_nh_congr {on mo : Int32} {n k : Nat} {g r w w' : Nat → Int32} (hk : k < n) (h : ∀ j, j < n → w j = w' j) : fn_nh on mo n g r w k = fn_nh on mo n g r w' k := by
  unfold fn_nh fn_next fn_side fn_warm
  rw [h k hk]
  by_cases h1 : k + 1 < n
  · rw [h (k + 1) h1, h (k - 1) (by omega)]
  · simp only [if_neg h1]
    rw [h (k - 1) (by omega)]
theorem ev_t1 (σ : sg_M) (c n : Nat) (kind : Int32) (h8 : n ≤ 8) (hn : σ c 6 = nI n) (hok : ∀ k, k < n → fn_okr (σ (c + 1)) (σ (c + 2)) k) : ∀ m k, k + m = n → sg_rv 29 17 (sg_set σ (c + 3) (fun j => if j < k then fn_nh (σ c 0) (fn_mo kind) n (σ (c + 1)) (σ (c + 2)) (σ (c + 5)) j else σ (c + 3) j)) [sg_r 2 c, sg_i kind, sg_i (nI k)] [] = sg_rv 29 52 (sg_set σ (c + 3) (fun j => if j < n then fn_nh (σ c 0) (fn_mo kind) n (σ (c + 1)) (σ (c + 2)) (σ (c + 5)) j else σ (c + 3) j)) [sg_r 2 c, sg_i kind, sg_i (nI n)] [] := by
  intro m
  induction m with
  | zero =>
    intro k hk
    simp only [mq_29_17, mq_29_18, mq_29_19, mq_29_22, sg_set_ne (show c ≠ c + 3 by omega), hn, nI_ltI (show k < 2 ^ 31 by omega) (show n < 2 ^ 31 by omega), show ¬ k < n by omega, if_false]
    rw [show k = n by omega]
  | succ m ih =>
    intro k hk
    have ih := ih (k + 1) (by omega)
    have i1 : sg_in (nI k) 8 = true := sg_in_nI (by omega) (by omega)
    rw [← upd_lt (σ (c + 3)) k (fn_nh (σ c 0) (fn_mo kind) n (σ (c + 1)) (σ (c + 2)) (σ (c + 5)))] at ih
    generalize hf : (fun j => if j < k then fn_nh (σ c 0) (fn_mo kind) n (σ (c + 1)) (σ (c + 2)) (σ (c + 5)) j else σ (c + 3) j) = f at ih ⊢
    have e0 : sg_set σ (c + 3) f c = σ c := sg_set_ne (by omega)
    have e1 : sg_set σ (c + 3) f (c + 1) = σ (c + 1) := sg_set_ne (by omega)
    have e2 : sg_set σ (c + 3) f (c + 2) = σ (c + 2) := sg_set_ne (by omega)
    have e5 : sg_set σ (c + 3) f (c + 5) = σ (c + 5) := sg_set_ne (by omega)
    have hh := fun mo => ev_nh (sg_set σ (c + 3) f) c n k mo (by omega) h8 (by rw [e0]; exact hn) (by rw [e1, e2]; exact hok k (by omega))
    rw [e0, e1, e2, e5] at hh
    simp only [mq_29_17, mq_29_18, mq_29_19, mq_29_22, e0, hn, nI_ltI (show k < 2 ^ 31 by omega) (show n < 2 ^ 31 by omega), show k < n by omega, if_true]
    unfold fn_mo at ih ⊢
    by_cases h3 : kind = 3
    · subst h3
      simp only [if_true] at ih ⊢
      simp (decide := true) only [mq_29_25, mq_29_26, mq_29_29, mq_29_30, mq_29_31, mq_29_32, mq_29_33, mq_29_34, mq_29_37, mq_29_38, mq_29_41, mq_29_42, mq_29_45, mq_29_46, mq_29_49, hh, sg_bi_i, i1, sg_nIc (show k < 2 ^ 31 by omega), sg_up_set, nI_1, if_true]
      exact ih
    · simp only [h3, if_false] at ih ⊢
      simp (decide := true) only [mq_29_25, mq_29_26, mq_29_29, mq_29_30, mq_29_31, mq_29_32, mq_29_33, mq_29_34, mq_29_37, mq_29_38, mq_29_41, mq_29_42, mq_29_45, mq_29_46, mq_29_49, h3, hh, sg_bi_i, i1, sg_nIc (show k < 2 ^ 31 by omega), sg_up_set, nI_1, if_false]
      exact ih
theorem ev_t2 (σ : sg_M) (c n : Nat) (kind : Int32) (h1 : 1 ≤ n) (h8 : n ≤ 8) (hn : σ c 6 = nI n) : ∀ m k, k + m + 1 = n → sg_rv 29 54 (sg_set σ (c + 4) (fun j => if j < k then fn_sn (σ (c + 5)) (σ (c + 3)) (σ (c + 4)) j else σ (c + 4) j)) [sg_r 2 c, sg_i kind, sg_i (nI k)] [] = sg_rv 29 75 (sg_set σ (c + 4) (fun j => if j < n - 1 then fn_sn (σ (c + 5)) (σ (c + 3)) (σ (c + 4)) j else σ (c + 4) j)) [sg_r 2 c, sg_i kind, sg_i (nI (n - 1))] [] := by
  intro m
  induction m with
  | zero =>
    intro k hk
    simp only [mq_29_54, mq_29_55, mq_29_56, mq_29_57, mq_29_58, mq_29_61, nI_1, sg_set_ne (show c ≠ c + 4 by omega), hn, nI_ltI (show k + 1 < 2 ^ 31 by omega) (show n < 2 ^ 31 by omega), show ¬ k + 1 < n by omega, if_false]
    rw [show k = n - 1 by omega]
  | succ m ih =>
    intro k hk
    have ih := ih (k + 1) (by omega)
    rw [← upd_lt (σ (c + 4)) k (fn_sn (σ (c + 5)) (σ (c + 3)) (σ (c + 4)))] at ih
    have ef : ∀ j, k ≤ j → (fun j => if j < k then fn_sn (σ (c + 5)) (σ (c + 3)) (σ (c + 4)) j else σ (c + 4) j) j = σ (c + 4) j := fun j hj => by show (if j < k then _ else _) = _; rw [if_neg (by omega)]
    generalize hf : (fun j => if j < k then fn_sn (σ (c + 5)) (σ (c + 3)) (σ (c + 4)) j else σ (c + 4) j) = f at ih ef ⊢
    have e0 : sg_set σ (c + 4) f c = σ c := sg_set_ne (by omega)
    have e3 : sg_set σ (c + 4) f (c + 3) = σ (c + 3) := sg_set_ne (by omega)
    have e5 : sg_set σ (c + 4) f (c + 5) = σ (c + 5) := sg_set_ne (by omega)
    have hh := ev_sn (sg_set σ (c + 4) f) c k (by omega)
    rw [e3, e5, sg_set_same, sg_up_set] at hh
    have esn : fn_sn (σ (c + 5)) (σ (c + 3)) f k = fn_sn (σ (c + 5)) (σ (c + 3)) (σ (c + 4)) k := by
      unfold fn_sn
      rw [ef k (Nat.le_refl k)]
    rw [esn] at hh
    simp only [mq_29_54, mq_29_55, mq_29_56, mq_29_57, mq_29_58, mq_29_61, nI_1, e0, hn, nI_ltI (show k + 1 < 2 ^ 31 by omega) (show n < 2 ^ 31 by omega), show k + 1 < n by omega, if_true]
    simp only [mq_29_64, mq_29_65, mq_29_66, mq_29_69, mq_29_72, hh, sg_bi_n, nI_1]
    exact ih
theorem va_cpy8 (f g : Nat → Int32) (j : Nat) (h : j < 8) : va_cpy f g 0 0 8 j = f j := by
  rw [pk_cpy_in (by omega) (by omega)]
  congr 1
  omega
theorem ev_tenth (σ : sg_M) (c n : Nat) (kind : Int32) (h1 : 1 ≤ n) (h8 : n ≤ 8) (hn : σ c 6 = nI n) (hok : ∀ k, k < n → fn_okr (σ (c + 1)) (σ (c + 2)) k) : sg_ev 29 σ [sg_r 2 c, sg_i kind] = some (none, sg_pm σ c (fn_O kind (σ c 7) n (fn_H (σ c 0) (fn_mo kind) n (σ (c + 1)) (σ (c + 2)) (σ (c + 3))))
    (fn_R kind n (σ (c + 1)) (σ (c + 2)) (fn_H (σ c 0) (fn_mo kind) n (σ (c + 1)) (σ (c + 2)) (σ (c + 3)))) (fn_H (σ c 0) (fn_mo kind) n (σ (c + 1)) (σ (c + 2)) (σ (c + 3)))
    (fn_S n (σ (c + 3)) (fn_H (σ c 0) (fn_mo kind) n (σ (c + 1)) (σ (c + 2)) (σ (c + 3))) (σ (c + 4))) (va_cpy (σ (c + 3)) (σ (c + 5)) 0 0 8)) := by
  have z0 : (0 : Int32).toNatClampNeg = 0 := by decide
  have z8 : (8 : Int32).toNatClampNeg = 8 := by decide
  simp (decide := true) only [me_29, me_29, mq_29_0, mq_29_1, mq_29_4, mq_29_5, mq_29_6, mq_29_9, mq_29_10, mq_29_12, mq_29_15, mq_29_16, z0, z8]
  generalize hW : va_cpy (σ (c + 3)) (σ (c + 5)) 0 0 8 = W0
  have hWj : ∀ j, j < 8 → W0 j = σ (c + 3) j := fun j hj => by rw [← hW]; exact va_cpy8 _ _ j hj
  -- the first loop
  have a0 : sg_set σ (c + 5) W0 c = σ c := sg_set_ne (by omega)
  have a1 : sg_set σ (c + 5) W0 (c + 1) = σ (c + 1) := sg_set_ne (by omega)
  have a2 : sg_set σ (c + 5) W0 (c + 2) = σ (c + 2) := sg_set_ne (by omega)
  have a3 : sg_set σ (c + 5) W0 (c + 3) = σ (c + 3) := sg_set_ne (by omega)
  have a4 : sg_set σ (c + 5) W0 (c + 4) = σ (c + 4) := sg_set_ne (by omega)
  have q1 := ev_t1 (sg_set σ (c + 5) W0) c n kind h8 (by rw [a0]; exact hn) (by rw [a1, a2]; exact hok) n 0 (by omega)
  rw [a0, a1, a2, a3, sg_set_same] at q1
  have f0 : (fun j => if j < 0 then fn_nh (σ c 0) (fn_mo kind) n (σ (c + 1)) (σ (c + 2)) W0 j else σ (c + 3) j) = sg_set σ (c + 5) W0 (c + 3) := by rw [a3]; funext j; simp
  rw [f0, sg_set_self] at q1
  have fH : (fun j => if j < n then fn_nh (σ c 0) (fn_mo kind) n (σ (c + 1)) (σ (c + 2)) W0 j else σ (c + 3) j) = fn_H (σ c 0) (fn_mo kind) n (σ (c + 1)) (σ (c + 2)) (σ (c + 3)) := by
    funext j
    unfold fn_H
    by_cases hj : j < n
    · rw [if_pos hj, if_pos hj]
      exact fn_nh_congr hj (fun i hi => hWj i (by omega))
    · rw [if_neg hj, if_neg hj]
  rw [fH] at q1
  generalize fn_H (σ c 0) (fn_mo kind) n (σ (c + 1)) (σ (c + 2)) (σ (c + 3)) = Hh at q1 ⊢
  rw [show (0 : Int32) = nI 0 from rfl, q1]
  simp only [mq_29_52, mq_29_53]
  -- the second loop
  generalize hτ : sg_set (sg_set σ (c + 5) W0) (c + 3) Hh = τ
  have b0 : τ c = σ c := by rw [← hτ, sg_set_ne (by omega), a0]
  have b1 : τ (c + 1) = σ (c + 1) := by rw [← hτ, sg_set_ne (by omega), a1]
  have b2 : τ (c + 2) = σ (c + 2) := by rw [← hτ, sg_set_ne (by omega), a2]
  have b3 : τ (c + 3) = Hh := by rw [← hτ, sg_set_same]
  have b4 : τ (c + 4) = σ (c + 4) := by rw [← hτ, sg_set_ne (by omega), a4]
  have b5 : τ (c + 5) = W0 := by rw [← hτ, sg_set_ne (by omega), sg_set_same]
  have q2 := ev_t2 τ c n kind h1 h8 (by rw [b0]; exact hn) (n - 1) 0 (by omega)
  have f0 : (fun j => if j < 0 then fn_sn (τ (c + 5)) (τ (c + 3)) (τ (c + 4)) j else τ (c + 4) j) = τ (c + 4) := by funext j; simp
  rw [f0, sg_set_self, b3, b4, b5] at q2
  have fS : (fun j => if j < n - 1 then fn_sn W0 Hh (σ (c + 4)) j else σ (c + 4) j) = fn_S n (σ (c + 3)) Hh (σ (c + 4)) := by
    funext j
    unfold fn_S
    by_cases hj : j < n - 1
    · rw [if_pos hj, if_pos hj]
      unfold fn_sn
      rw [hWj j (by omega), hWj (j + 1) (by omega)]
    · rw [if_neg hj, if_neg hj]
  rw [fS] at q2
  generalize fn_S n (σ (c + 3)) Hh (σ (c + 4)) = Ss at q2 ⊢
  rw [show (0 : Int32) = nI 0 from rfl, q2]
  generalize hω : sg_set τ (c + 4) Ss = ω
  have c0 : ω c = σ c := by rw [← hω, sg_set_ne (by omega), b0]
  have c1 : ω (c + 1) = σ (c + 1) := by rw [← hω, sg_set_ne (by omega), b1]
  have c2 : ω (c + 2) = σ (c + 2) := by rw [← hω, sg_set_ne (by omega), b2]
  have c3 : ω (c + 3) = Hh := by rw [← hω, sg_set_ne (by omega), b3]
  have c4 : ω (c + 4) = Ss := by rw [← hω, sg_set_same]
  have c5 : ω (c + 5) = W0 := by rw [← hω, sg_set_ne (by omega), b5]
  have cx : ∀ x, (x < c ∨ x = c + 1 ∨ c + 6 ≤ x) → ω x = σ x := by
    intro x hx
    rw [← hω, sg_set_ne (by omega), ← hτ, sg_set_ne (by omega), sg_set_ne (by omega)]
  have hgs := ev_gs ω c n h1 h8 (by rw [c0]; exact hn)
  rw [c3] at hgs
  -- off, swelling
  have fin : ∀ v : Int32, sg_rv 29 105 (sg_up ω c 7 v) [sg_r 2 c, sg_i kind, sg_i (nI (n - 1))] [] = some (none, sg_pm σ c v (fn_R kind n (σ (c + 1)) (σ (c + 2)) Hh) Hh Ss W0) := by
    intro v
    have d0 : sg_up ω c 7 v c = upd (σ c) 7 v := by rw [sg_up_row, c0]
    have dx : ∀ x, x ≠ c → sg_up ω c 7 v x = ω x := fun x hx => sg_up_ne hx
    have hsw := ev_sw (sg_up ω c 7 v) c n h1 h8 (by rw [d0, upd_ne (by omega)]; exact hn)
    rw [dx (c + 1) (by omega), dx (c + 2) (by omega), dx (c + 3) (by omega), c1, c2, c3] at hsw
    simp only [mq_29_105, mq_29_106, mq_29_107]
    unfold fn_R
    by_cases h2 : kind = 2
    · simp only [h2, if_true, mq_29_110, mq_29_111, mq_29_114, hsw, sg_bi_n]
      congr 2
      refine pm_ext ?_ ?_ ?_ ?_ ?_ (fun x hx => ?_)
      · rw [sg_set_ne (by omega), d0]
      · rw [sg_set_same]
      · rw [sg_set_ne (by omega), dx _ (by omega), c3]
      · rw [sg_set_ne (by omega), dx _ (by omega), c4]
      · rw [sg_set_ne (by omega), dx _ (by omega), c5]
      · rw [sg_set_ne (by omega), dx _ (by omega), cx x hx]
    · simp only [h2, if_false, mq_29_114]
      congr 2
      refine pm_ext d0 ?_ ?_ ?_ ?_ (fun x hx => ?_)
      · rw [dx _ (by omega), c2]
      · rw [dx _ (by omega), c3]
      · rw [dx _ (by omega), c4]
      · rw [dx _ (by omega), c5]
      · rw [dx _ (by omega), cx x hx]
  unfold fn_O
  by_cases hk0 : kind = 0
  · simp only [mq_29_75, mq_29_76, mq_29_77, mq_29_80, mq_29_81, mq_29_84, mq_29_85, mq_29_88, mq_29_89, mq_29_92, mq_29_93, mq_29_94, mq_29_97, mq_29_98, mq_29_99, mq_29_102, hk0, if_true, hgs, sg_bi_i, c0]
    rw [← hk0]
    exact fin _
  · simp only [mq_29_75, mq_29_76, mq_29_77, mq_29_80, mq_29_81, mq_29_84, mq_29_85, mq_29_88, mq_29_89, mq_29_92, mq_29_93, mq_29_94, mq_29_97, mq_29_98, mq_29_99, mq_29_102, hk0, if_false, c0]
    exact fin _
