/-! WHAT HOLDS between the two objects -/
def iv_S (σ : sg_M) : Prop := ∀ k, k < 4 → iv_len (σ (112 + 2 * k) 2) ∧ σ 142 k = σ (112 + 2 * k) 2 ∧ σ 143 k = σ (112 + 2 * k) 1 ∧ ∀ j : Nat, (j : Int) < (σ (112 + 2 * k) 2).toInt → σ 144 (60 * k + j) = σ (113 + 2 * k) j
def fn_lt (σ : sg_M) (q k : Nat) : Nat := (σ (91 + 3 * q + 1) k).toNatClampNeg
def fn_nu (σ : sg_M) (q k : Nat) : Nat := (σ (91 + 3 * q + 2) k).toNatClampNeg
def iv_rc (σ : sg_M) (q M : Nat) : Prop := 1 ≤ M ∧ M ≤ 8 ∧ σ (91 + 3 * q) 2 = nI M ∧ σ 132 q = nI M ∧ ∀ k, k < M → fn_lt σ q k < 7 ∧ fn_nu σ q k < 100 ∧ σ (91 + 3 * q + 1) k = nI (fn_lt σ q k) ∧ σ (91 + 3 * q + 2) k = nI (fn_nu σ q k) ∧ σ 133 (8 * q + k) = nI (fn_lt σ q k) ∧ σ 134 (8 * q + k) = nI (fn_nu σ q k)
def iv_R (σ : sg_M) : Prop := ∃ R : Nat, R ≤ 6 ∧ σ 0 9 = nI R ∧ σ 120 16 = nI R ∧ ∀ q, q < R → ∃ M, iv_rc σ q M
def iv_A (σ : sg_M) : Prop := ∃ a : Nat, a ≤ 8 ∧ σ 0 10 = nI a ∧ σ 120 24 = nI a ∧ ∀ k, k < a → σ 137 k = σ 18 k ∧ 1 ≤ (σ 18 k).toInt ∧ (σ 18 k).toInt ≤ 99
def iv_F (σ : sg_M) : Prop := σ 0 12 = σ 120 0 ∧ σ 0 11 = σ 120 36
/-- one job goes ahead of another -/
def fn_ah (m b : Nat → Int32) (x y : Nat) : Bool := if decide (m x ≤ b x) != decide (m y ≤ b y) then decide (m x ≤ b x) else if m x ≤ b x then decide (m x < m y) else decide (b y < b x)
def fn_ins (ah : Nat → Nat → Bool) (i : Nat) (l : List Nat) : List Nat := (l.reverse.dropWhile (ah i)).reverse ++ i :: (l.reverse.takeWhile (ah i)).reverse
def fn_rk (m b : Nat → Int32) : Nat → List Nat
  | 0 => []
  | j + 1 => fn_ins (fn_ah m b) j (fn_rk m b j)
def iv_J (σ : sg_M) : Prop := ∃ j : Nat, j ≤ 7 ∧ σ 12 4 = nI j ∧ σ 120 26 = nI j ∧ (∀ k, k < j → (σ 138 k = σ 13 k ∧ σ 139 k = σ 14 k ∧ σ 140 k = σ 15 k) ∧ (0 ≤ (σ 13 k).toInt ∧ (σ 13 k).toInt ≤ 99) ∧ (0 ≤ (σ 14 k).toInt ∧ (σ 14 k).toInt ≤ 99) ∧ (0 ≤ (σ 15 k).toInt ∧ (σ 15 k).toInt ≤ 99)) ∧ ∀ k, k < j → σ 16 k = nI ((fn_rk (σ 13) (σ 14) j).getD k 0)
def fn_cp (σ : sg_M) (c : Nat) : fn_PS := (σ c 7, σ (c + 2), σ (c + 3), σ (c + 4))
def iv_st (B : Int) (n : Nat) (P : fn_PS) : Prop := (∀ k, k + 1 < n → 0 ≤ (P.2.2.2 k).toInt ∧ (P.2.2.2 k).toInt ≤ B) ∧ P.2.2.2 (n - 1) = 0
def iv_pc (B : Int) (σ : sg_M) (p n : Nat) : Prop := (1 ≤ n ∧ n ≤ 8) ∧ σ (19 + 6 * p) 6 = nI n ∧ σ 121 p = nI n ∧ σ 126 p = σ (19 + 6 * p) 7 ∧
  (∀ k, k < n → σ 122 (8 * p + k) = σ (19 + 6 * p + 1) k ∧ σ 123 (8 * p + k) = σ (19 + 6 * p + 2) k ∧ σ 124 (8 * p + k) = σ (19 + 6 * p + 3) k ∧ σ 125 (8 * p + k) = σ (19 + 6 * p + 4) k) ∧
  iv_ps (σ (19 + 6 * p + 1)) n (fn_cp σ (19 + 6 * p)) ∧ iv_st B n (fn_cp σ (19 + 6 * p))
def iv_on (σ : sg_M) : Prop := (∀ i, i < 12 → σ (19 + 6 * i) 0 = 1) ∧ σ 3 0 = 0
def iv_P (B : Int) (σ : sg_M) : Prop := iv_on σ ∧ ∃ N : Nat, N ≤ 8 ∧ σ 0 8 = nI N ∧ σ 120 1 = nI N ∧ ∀ p, p < N → ∃ n, iv_pc B σ p n
def iv_all (B : Int) (σ : sg_M) : Prop := iv_S σ ∧ iv_R σ ∧ iv_A σ ∧ iv_F σ ∧ iv_J σ ∧ iv_P B σ
/-! what they depend on -/
theorem iv_S_c {σ τ : sg_M} (h : iv_S σ) (h1 : ∀ y, 112 ≤ y → y < 120 → τ y = σ y) (h2 : τ 142 = σ 142) (h3 : τ 143 = σ 143) (h4 : τ 144 = σ 144) : iv_S τ := by
  intro k hk
  rw [h2, h3, h4, h1 _ (by omega) (by omega), h1 (113 + 2 * k) (by omega) (by omega)]
  exact h k hk
theorem iv_R_c {σ τ : sg_M} (h : iv_R σ) (h0 : τ 0 9 = σ 0 9) (h1 : τ 120 16 = σ 120 16) (h2 : ∀ y, 91 ≤ y → y < 109 → τ y = σ y) (h3 : τ 132 = σ 132) (h4 : τ 133 = σ 133) (h5 : τ 134 = σ 134) : iv_R τ := by
  obtain ⟨R, a, b, c, d⟩ := h
  refine ⟨R, a, by rw [h0]; exact b, by rw [h1]; exact c, fun q hq => ?_⟩
  obtain ⟨M, e⟩ := d q hq
  refine ⟨M, ?_⟩
  unfold iv_rc fn_lt fn_nu at e ⊢
  rw [h3, h4, h5, h2 (91 + 3 * q) (by omega) (by omega), h2 (91 + 3 * q + 1) (by omega) (by omega), h2 (91 + 3 * q + 2) (by omega) (by omega)]
  exact e
theorem iv_A_c {σ τ : sg_M} (h : iv_A σ) (h0 : τ 0 10 = σ 0 10) (h1 : τ 120 24 = σ 120 24) (h2 : τ 18 = σ 18) (h3 : τ 137 = σ 137) : iv_A τ := by
  unfold iv_A
  rw [h0, h1, h2, h3]
  exact h
theorem iv_J_c {σ τ : sg_M} (h : iv_J σ) (h0 : τ 12 4 = σ 12 4) (h1 : τ 120 26 = σ 120 26) (h2 : ∀ y, 13 ≤ y → y < 17 → τ y = σ y) (h3 : τ 138 = σ 138) (h4 : τ 139 = σ 139) (h5 : τ 140 = σ 140) : iv_J τ := by
  unfold iv_J
  rw [h0, h1, h3, h4, h5, h2 13 (by omega) (by omega), h2 14 (by omega) (by omega), h2 15 (by omega) (by omega), h2 16 (by omega) (by omega)]
  exact h
theorem iv_pc_c {B : Int} {σ τ : sg_M} {p n : Nat} (hp : p < 8) (h : iv_pc B σ p n) (h1 : ∀ y, 19 + 6 * p ≤ y → y < 19 + 6 * p + 5 → τ y = σ y) (h2 : τ 121 p = σ 121 p) (h3 : τ 126 p = σ 126 p) (h4 : ∀ y k, 122 ≤ y → y ≤ 125 → k < 8 → τ y (8 * p + k) = σ y (8 * p + k)) : iv_pc B τ p n := by
  obtain ⟨a, b, c, d, e, f, g⟩ := h
  have r0 := h1 (19 + 6 * p) (by omega) (by omega)
  have r1 := h1 (19 + 6 * p + 1) (by omega) (by omega)
  have r2 := h1 (19 + 6 * p + 2) (by omega) (by omega)
  have r3 := h1 (19 + 6 * p + 3) (by omega) (by omega)
  have r4 := h1 (19 + 6 * p + 4) (by omega) (by omega)
  have rc : fn_cp τ (19 + 6 * p) = fn_cp σ (19 + 6 * p) := by unfold fn_cp; rw [r0, r2, r3, r4]
  refine ⟨a, by rw [r0]; exact b, by rw [h2]; exact c, by rw [h3, r0]; exact d, fun k hk => ?_, by rw [r1, rc]; exact f, by rw [rc]; exact g⟩
  rw [h4 122 k (by omega) (by omega) (by omega), h4 123 k (by omega) (by omega) (by omega), h4 124 k (by omega) (by omega) (by omega), h4 125 k (by omega) (by omega) (by omega), r1, r2, r3, r4]
  exact e k hk
theorem iv_pc_mono {B B' : Int} {σ : sg_M} {p n : Nat} (hB : B ≤ B') (h : iv_pc B σ p n) : iv_pc B' σ p n := by
  obtain ⟨a, b, c, d, e, f, g⟩ := h
  exact ⟨a, b, c, d, e, f, fun k hk => ⟨(g.1 k hk).1, Int.le_trans (g.1 k hk).2 hB⟩, g.2⟩
theorem iv_P_mono {B B' : Int} {σ : sg_M} (hB : B ≤ B') (h : iv_P B σ) : iv_P B' σ := by
  obtain ⟨o, N, a, b, c, d⟩ := h
  refine ⟨o, N, a, b, c, fun p hp => ?_⟩
  obtain ⟨n, e⟩ := d p hp
  exact ⟨n, iv_pc_mono hB e⟩
theorem iv_P_c {B : Int} {σ τ : sg_M} (h : iv_P B σ) (h0 : τ 0 8 = σ 0 8) (h1 : τ 120 1 = σ 120 1) (h2 : ∀ y, 19 ≤ y → y < 67 → τ y = σ y) (h3 : ∀ y, 121 ≤ y → y ≤ 126 → τ y = σ y) (h4 : ∀ i, i < 12 → τ (19 + 6 * i) 0 = σ (19 + 6 * i) 0) (h5 : τ 3 0 = σ 3 0) : iv_P B τ := by
  obtain ⟨o, N, a, b, c, d⟩ := h
  refine ⟨⟨fun i hi => by rw [h4 i hi]; exact o.1 i hi, by rw [h5]; exact o.2⟩, N, a, by rw [h0]; exact b, by rw [h1]; exact c, fun p hp => ?_⟩
  obtain ⟨n, e⟩ := d p hp
  exact ⟨n, iv_pc_c (by omega) e (fun y q1 q2 => h2 y (by omega) (by omega)) (by rw [h3 121 (by omega) (by omega)]) (by rw [h3 126 (by omega) (by omega)]) (fun y k q1 q2 _ => by rw [h3 y (by omega) (by omega)])⟩
theorem iv_all_mono {B B' : Int} {σ : sg_M} (hB : B ≤ B') (h : iv_all B σ) : iv_all B' σ := ⟨h.1, h.2.1, h.2.2.1, h.2.2.2.1, h.2.2.2.2.1, iv_P_mono hB h.2.2.2.2.2⟩
/-- a pair of calls: both answer alike, and what holds goes on holding -/
def sg_pair (B : Int) (σ : sg_M) (x y : Nat) (as : List sg_V) : Prop := ∃ (r : sg_V) (σ1 σ2 : sg_M), sg_ev x σ (sg_r 1 0 :: as) = some (some r, σ1) ∧ sg_ev y σ1 (sg_r 7 120 :: as) = some (some r, σ2) ∧ iv_all B σ2 ∧ σ2 1000 = σ 1000 ∧ σ2 999 = σ 999
theorem pr_trace {B : Int} {σ : sg_M} (h : iv_all B σ) : sg_pair B σ 110 196 [] := ⟨_, σ, σ, ev_trace σ, by rw [em_trace, h.2.2.2.1.2], h, rfl, rfl⟩
theorem pr_fault {B : Int} {σ : sg_M} (h : iv_all B σ) : sg_pair B σ 111 197 [] := ⟨_, σ, σ, ev_fault σ, by rw [em_fault, h.2.2.2.1.1], h, rfl, rfl⟩
theorem pr_many {B : Int} {σ : sg_M} (w : Int32) (h : iv_all B σ) : sg_pair B σ 112 198 [sg_i w] := by
  obtain ⟨hS, ⟨R, r1, r2, r3, -⟩, ⟨a, a1, a2, a3, -⟩, hF, ⟨j, j1, j2, j3, -⟩, ⟨o, N, n1, n2, n3, -⟩⟩ := id h
  exact ⟨_, σ, σ, ev_many σ w, by rw [em_many, n3, r3, j3, a3, n2, r2, j2, a2], h, rfl, rfl⟩
