/-! ROWS for values, an instruction each -/
noncomputable def sg_bi (y pc : Nat) (lv rest : List sg_V) (r : Option sg_O) : Option sg_O := match r with
  | none => none
  | some o => sg_rv y pc o.2 lv (o.1.toList ++ rest)
theorem sg_bi_i (y pc : Nat) (lv rest : List sg_V) (v : sg_V) (σ : sg_M) : sg_bi y pc lv rest (some (some v, σ)) = sg_rv y pc σ lv (v :: rest) := rfl
theorem sg_bi_n (y pc : Nat) (lv rest : List sg_V) (σ : sg_M) : sg_bi y pc lv rest (some (none, σ)) = sg_rv y pc σ lv rest := rfl
/-- 0 or 1 -/
def sg_b (v : Int32) : Prop := v = 0 ∨ v = 1
theorem sg_b_0 : sg_b 0 := Or.inl rfl
theorem sg_b_1 : sg_b 1 := Or.inr rfl
section SGR
variable {y pc tgt : Nat} {off : Int}
theorem sg_tgt_nn (ht : (pc : Int) + off = (tgt : Int)) : 0 ≤ (pc : Int) + off ∧ ((pc : Int) + off).toNat = tgt := by
  rw [ht]
  exact ⟨Int.natCast_nonneg tgt, Int.toNat_natCast tgt⟩
theorem sg_br_nt (b : Bool) (ht : (pc : Int) + off = (tgt : Int)) (σ : sg_M) (lv st : List sg_V) : sg_nt y σ (sg_br b off pc σ lv st) = if b = true then sg_rv y tgt σ lv st else sg_rv y (pc + 3) σ lv st := by
  obtain ⟨h1, h2⟩ := sg_tgt_nn ht
  unfold sg_br
  rw [if_pos h1, h2]
  cases b <;> rfl
theorem sg_q_goto (hd : decode (sg_code y) pc = .ok (.goto off, 3)) (ht : (pc : Int) + off = (tgt : Int)) (σ : sg_M) (lv st : List sg_V) : sg_rv y pc σ lv st = sg_rv y tgt σ lv st := by
  obtain ⟨h1, h2⟩ := sg_tgt_nn ht
  rw [sg_q hd rfl]
  simp only [sg_st, sg_go]
  rw [if_pos h1, h2]
  rfl
theorem sg_q_ieq (hd : decode (sg_code y) pc = .ok (.if_icmp .eq off, 3)) (ht : (pc : Int) + off = (tgt : Int)) (σ : sg_M) (lv : List sg_V) (a b : Int32) (st : List sg_V) : sg_rv y pc σ lv (sg_i b :: sg_i a :: st) = if a = b then sg_rv y tgt σ lv st else sg_rv y (pc + 3) σ lv st := by
  rw [sg_q hd rfl]; simp only [sg_st, sg_br_nt _ ht, sg_cmp, decide_eq_true_eq]
theorem sg_q_ine (hd : decode (sg_code y) pc = .ok (.if_icmp .ne off, 3)) (ht : (pc : Int) + off = (tgt : Int)) (σ : sg_M) (lv : List sg_V) (a b : Int32) (st : List sg_V) : sg_rv y pc σ lv (sg_i b :: sg_i a :: st) = if a = b then sg_rv y (pc + 3) σ lv st else sg_rv y tgt σ lv st := by
  rw [sg_q hd rfl]; simp only [sg_st, sg_br_nt _ ht, sg_cmp, decide_eq_true_eq]
  by_cases h : a = b <;> simp [h]
theorem sg_q_ilt (hd : decode (sg_code y) pc = .ok (.if_icmp .lt off, 3)) (ht : (pc : Int) + off = (tgt : Int)) (σ : sg_M) (lv : List sg_V) (a b : Int32) (st : List sg_V) : sg_rv y pc σ lv (sg_i b :: sg_i a :: st) = if a < b then sg_rv y tgt σ lv st else sg_rv y (pc + 3) σ lv st := by
  rw [sg_q hd rfl]; simp only [sg_st, sg_br_nt _ ht, sg_cmp, decide_eq_true_eq]
theorem sg_q_ige (hd : decode (sg_code y) pc = .ok (.if_icmp .ge off, 3)) (ht : (pc : Int) + off = (tgt : Int)) (σ : sg_M) (lv : List sg_V) (a b : Int32) (st : List sg_V) : sg_rv y pc σ lv (sg_i b :: sg_i a :: st) = if a < b then sg_rv y (pc + 3) σ lv st else sg_rv y tgt σ lv st := by
  rw [sg_q hd rfl]; simp only [sg_st, sg_br_nt _ ht, sg_cmp, decide_eq_true_eq]
  by_cases h : a < b
  · rw [if_pos h, if_neg (by rw [Int32.not_le]; exact h)]
  · rw [if_neg h, if_pos (by rw [← Int32.not_lt]; exact h)]
theorem sg_q_igt (hd : decode (sg_code y) pc = .ok (.if_icmp .gt off, 3)) (ht : (pc : Int) + off = (tgt : Int)) (σ : sg_M) (lv : List sg_V) (a b : Int32) (st : List sg_V) : sg_rv y pc σ lv (sg_i b :: sg_i a :: st) = if b < a then sg_rv y tgt σ lv st else sg_rv y (pc + 3) σ lv st := by
  rw [sg_q hd rfl]; simp only [sg_st, sg_br_nt _ ht, sg_cmp, decide_eq_true_eq]
theorem sg_q_ile (hd : decode (sg_code y) pc = .ok (.if_icmp .le off, 3)) (ht : (pc : Int) + off = (tgt : Int)) (σ : sg_M) (lv : List sg_V) (a b : Int32) (st : List sg_V) : sg_rv y pc σ lv (sg_i b :: sg_i a :: st) = if b < a then sg_rv y (pc + 3) σ lv st else sg_rv y tgt σ lv st := by
  rw [sg_q hd rfl]; simp only [sg_st, sg_br_nt _ ht, sg_cmp, decide_eq_true_eq]
  by_cases h : b < a
  · rw [if_pos h, if_neg (by rw [Int32.not_le]; exact h)]
  · rw [if_neg h, if_pos (by rw [← Int32.not_lt]; exact h)]
theorem sg_q_eq (hd : decode (sg_code y) pc = .ok (.ifCond .eq off, 3)) (ht : (pc : Int) + off = (tgt : Int)) (σ : sg_M) (lv : List sg_V) (a : Int32) (st : List sg_V) : sg_rv y pc σ lv (sg_i a :: st) = if a = 0 then sg_rv y tgt σ lv st else sg_rv y (pc + 3) σ lv st := by
  rw [sg_q hd rfl]; simp only [sg_st, sg_br_nt _ ht, sg_cmp, decide_eq_true_eq]
theorem sg_q_ne (hd : decode (sg_code y) pc = .ok (.ifCond .ne off, 3)) (ht : (pc : Int) + off = (tgt : Int)) (σ : sg_M) (lv : List sg_V) (a : Int32) (st : List sg_V) : sg_rv y pc σ lv (sg_i a :: st) = if a = 0 then sg_rv y (pc + 3) σ lv st else sg_rv y tgt σ lv st := by
  rw [sg_q hd rfl]; simp only [sg_st, sg_br_nt _ ht, sg_cmp, decide_eq_true_eq]
  by_cases h : a = 0 <;> simp [h]
theorem sg_q_lt (hd : decode (sg_code y) pc = .ok (.ifCond .lt off, 3)) (ht : (pc : Int) + off = (tgt : Int)) (σ : sg_M) (lv : List sg_V) (a : Int32) (st : List sg_V) : sg_rv y pc σ lv (sg_i a :: st) = if a < 0 then sg_rv y tgt σ lv st else sg_rv y (pc + 3) σ lv st := by
  rw [sg_q hd rfl]; simp only [sg_st, sg_br_nt _ ht, sg_cmp, decide_eq_true_eq]
theorem sg_q_ge (hd : decode (sg_code y) pc = .ok (.ifCond .ge off, 3)) (ht : (pc : Int) + off = (tgt : Int)) (σ : sg_M) (lv : List sg_V) (a : Int32) (st : List sg_V) : sg_rv y pc σ lv (sg_i a :: st) = if a < 0 then sg_rv y (pc + 3) σ lv st else sg_rv y tgt σ lv st := by
  rw [sg_q hd rfl]; simp only [sg_st, sg_br_nt _ ht, sg_cmp, decide_eq_true_eq]
  by_cases h : a < 0
  · rw [if_pos h, if_neg (by rw [Int32.not_le]; exact h)]
  · rw [if_neg h, if_pos (by rw [← Int32.not_lt]; exact h)]
theorem sg_q_gt (hd : decode (sg_code y) pc = .ok (.ifCond .gt off, 3)) (ht : (pc : Int) + off = (tgt : Int)) (σ : sg_M) (lv : List sg_V) (a : Int32) (st : List sg_V) : sg_rv y pc σ lv (sg_i a :: st) = if 0 < a then sg_rv y tgt σ lv st else sg_rv y (pc + 3) σ lv st := by
  rw [sg_q hd rfl]; simp only [sg_st, sg_br_nt _ ht, sg_cmp, decide_eq_true_eq]
theorem sg_q_le (hd : decode (sg_code y) pc = .ok (.ifCond .le off, 3)) (ht : (pc : Int) + off = (tgt : Int)) (σ : sg_M) (lv : List sg_V) (a : Int32) (st : List sg_V) : sg_rv y pc σ lv (sg_i a :: st) = if 0 < a then sg_rv y (pc + 3) σ lv st else sg_rv y tgt σ lv st := by
  rw [sg_q hd rfl]; simp only [sg_st, sg_br_nt _ ht, sg_cmp, decide_eq_true_eq]
  by_cases h : 0 < a
  · rw [if_pos h, if_neg (by rw [Int32.not_le]; exact h)]
  · rw [if_neg h, if_pos (by rw [← Int32.not_lt]; exact h)]
theorem sg_q_idiv (hd : decode (sg_code y) pc = .ok (.idiv, 1)) (σ : sg_M) (lv : List sg_V) (a b : Int32) (st : List sg_V) (h : ¬ b = 0) : sg_rv y pc σ lv (sg_i b :: sg_i a :: st) = sg_rv y (pc + 1) σ lv (sg_i (a / b) :: st) := by
  rw [sg_q hd rfl]; simp only [sg_st, sg_pu, sg_b2, if_neg h]; rfl
theorem sg_q_irem (hd : decode (sg_code y) pc = .ok (.irem, 1)) (σ : sg_M) (lv : List sg_V) (a b : Int32) (st : List sg_V) (h : ¬ b = 0) : sg_rv y pc σ lv (sg_i b :: sg_i a :: st) = sg_rv y (pc + 1) σ lv (sg_i (a - a / b * b) :: st) := by
  rw [sg_q hd rfl]; simp only [sg_st, sg_pu, sg_b2, if_neg h]; rfl
theorem sg_q_ldiv (hd : decode (sg_code y) pc = .ok (.ldiv, 1)) (σ : sg_M) (lv : List sg_V) (a b : Int64) (st : List sg_V) (h : ¬ b = 0) : sg_rv y pc σ lv (sg_l b :: sg_l a :: st) = sg_rv y (pc + 1) σ lv (sg_l (a / b) :: st) := by
  rw [sg_q hd rfl]; simp only [sg_st, sg_pu, sg_b3, if_neg h]; rfl
theorem sg_q_lrem (hd : decode (sg_code y) pc = .ok (.lrem, 1)) (σ : sg_M) (lv : List sg_V) (a b : Int64) (st : List sg_V) (h : ¬ b = 0) : sg_rv y pc σ lv (sg_l b :: sg_l a :: st) = sg_rv y (pc + 1) σ lv (sg_l (a - a / b * b) :: st) := by
  rw [sg_q hd rfl]; simp only [sg_st, sg_pu, sg_b3, if_neg h]; rfl
theorem sg_q_iald {t : Nat} (hd : decode (sg_code y) pc = .ok (.iaload, 1)) (ht : 100 ≤ t) (σ : sg_M) (lv : List sg_V) (i : Int32) (c : Nat) (st : List sg_V) (h : sg_in i (t - 100) = true) : sg_rv y pc σ lv (sg_i i :: sg_r t c :: st) = sg_rv y (pc + 1) σ lv (sg_i (σ c i.toNatClampNeg) :: st) := by
  have h1 : sg_ro t = false := by simp [sg_ro]; omega
  rw [sg_q hd rfl]; simp only [sg_st, sg_ald, h1, Bool.false_and, if_pos ht, if_pos h]; rfl
theorem sg_q_iro {k : Nat} (hd : decode (sg_code y) pc = .ok (.iaload, 1)) (hk : k < 5) (σ : sg_M) (lv : List sg_V) (i : Int32) (c : Nat) (st : List sg_V) (h : sg_in i (sg_roN k σ) = true) : sg_rv y pc σ lv (sg_i i :: sg_r (90 + k) c :: st) = sg_rv y (pc + 1) σ lv (sg_i (sg_roV k σ i.toNatClampNeg) :: st) := by
  have h1 : (sg_ro (90 + k) && (90 + k != 95)) = true := by simp [sg_ro]; omega
  have h2 : 90 + k - 90 = k := by omega
  rw [sg_q hd rfl]; simp only [sg_st, sg_ald, h2]
  rw [if_pos h1, if_pos h]; rfl
theorem sg_q_cald (hd : decode (sg_code y) pc = .ok (.caload, 1)) (σ : sg_M) (lv : List sg_V) (i : Int32) (c : Nat) (st : List sg_V) (h : sg_in i 7 = true) : sg_rv y pc σ lv (sg_i i :: sg_r 95 c :: st) = sg_rv y (pc + 1) σ lv (sg_i (sg_roV 5 σ i.toNatClampNeg) :: st) := by
  rw [sg_q hd rfl]; simp only [sg_st, if_pos h]; rfl
theorem sg_q_iast {t : Nat} (hd : decode (sg_code y) pc = .ok (.iastore, 1)) (ht : 100 ≤ t) (σ : sg_M) (lv : List sg_V) (v i : Int32) (c : Nat) (st : List sg_V) (h : sg_in i (t - 100) = true) : sg_rv y pc σ lv (sg_i v :: sg_i i :: sg_r t c :: st) = sg_rv y (pc + 1) (sg_up σ c i.toNatClampNeg v) lv st := by
  rw [sg_q hd rfl]; simp only [sg_st, if_pos ht, if_pos h]; rfl
theorem sg_q_alen {t : Nat} (hd : decode (sg_code y) pc = .ok (.arraylength, 1)) (ht : 100 ≤ t) (σ : sg_M) (lv : List sg_V) (c : Nat) (st : List sg_V) : sg_rv y pc σ lv (sg_r t c :: st) = sg_rv y (pc + 1) σ lv (sg_i (Int32.ofNat (t - 100)) :: st) := by
  have h1 : ¬ sg_ro t = true := by simp [sg_ro]; omega
  rw [sg_q hd rfl]; simp only [sg_st, if_pos ht]; rw [if_neg h1]; rfl
theorem sg_q_aald {t : Nat} {q : Nat × Nat × Nat × Nat} (hd : decode (sg_code y) pc = .ok (.aaload, 1)) (ht : sg_sh t = .inr (.inl q)) (σ : sg_M) (lv : List sg_V) (i : Int32) (c : Nat) (st : List sg_V) (h : sg_in i q.1 = true) : sg_rv y pc σ lv (sg_i i :: sg_r t c :: st) = sg_rv y (pc + 1) σ lv (sg_r q.2.1 (c + q.2.2.1 + q.2.2.2 * i.toNatClampNeg) :: st) := by
  rw [sg_q hd rfl]; simp only [sg_st, sg_aald, ht, if_pos h]; rfl
theorem sg_q_z (hd : decode (sg_code y) pc = .ok (.ireturn, 1)) (hr : sg_rt y = some .boolean) (σ : sg_M) (lv : List sg_V) (v : Int32) (h : sg_b v) : sg_rv y pc σ lv [sg_i v] = some (some (sg_i v), σ) := by
  have h1 : sg_z (sg_rt y) v = true := by
    rw [hr]
    rcases h with rfl | rfl <;> rfl
  rw [sg_q hd rfl]; simp only [sg_st, if_pos h1]; rfl
theorem sg_q_call {i : Instr} {z : Nat} {as rest : List sg_V} {σ : sg_M} {lv st : List sg_V} (hd : decode (sg_code y) pc = .ok (i, 3)) (hl : sg_ln i 3 = true) (h : sg_st y i 3 pc σ lv st = some (.inr (.inr (z, as, pc + 3, lv, rest)))) : sg_rv y pc σ lv st = sg_bi y (pc + 3) lv rest (sg_ev z σ as) := by
  rw [sg_q hd hl, h]
  rfl
theorem sg_mlz {o n kd z : Nat} (hq : (sg_ml o n).map (fun e => (e.2.2.1, e.2.2.2.1)) = some (kd, z)) : ∃ q, sg_ml o n = some q ∧ q.2.2.1 = kd ∧ q.2.2.2.1 = z := by
  obtain ⟨q, h1, h2⟩ := Option.map_eq_some_iff.mp hq
  exact ⟨q, h1, congrArg Prod.fst h2, congrArg Prod.snd h2⟩
theorem sg_q_cv {n kd z : Nat} {as rest : List sg_V} {σ : sg_M} {lv st : List sg_V} (hd : decode (sg_code y) pc = .ok (.invokevirtual n, 3)) (hq : (sg_ml (sg_cn y) n).map (fun e => (e.2.2.1, e.2.2.2.1)) = some (kd, z)) (hk : kd = 0 ∨ kd = 2) (h : sg_inv y z (sg_np z + 1) true pc lv st = some (.inr (.inr (z, as, pc + 3, lv, rest)))) : sg_rv y pc σ lv st = sg_bi y (pc + 3) lv rest (sg_ev z σ as) := by
  obtain ⟨q, hq, h1, h2⟩ := sg_mlz hq
  refine sg_q_call hd rfl ?_
  simp only [sg_st, sg_cal, hq, if_true]
  rw [h1, if_pos hk, h2, h]
theorem sg_q_cs {n kd z : Nat} {as rest : List sg_V} {σ : sg_M} {lv st : List sg_V} (hd : decode (sg_code y) pc = .ok (.invokestatic n, 3)) (hq : (sg_ml (sg_cn y) n).map (fun e => (e.2.2.1, e.2.2.2.1)) = some (kd, z)) (hk : kd = 1 ∨ kd = 3 ∨ kd = 4) (h : sg_inv y z (sg_np z) false pc lv st = some (.inr (.inr (z, as, pc + 3, lv, rest)))) : sg_rv y pc σ lv st = sg_bi y (pc + 3) lv rest (sg_ev z σ as) := by
  obtain ⟨q, hq, h1, h2⟩ := sg_mlz hq
  refine sg_q_call hd rfl ?_
  simp only [sg_st, sg_cal, hq, Bool.false_eq_true, if_false]
  rw [h1, if_pos hk, h2, h]
theorem sg_q_bt {n kd z : Nat} {σ : sg_M} {lv st st' : List sg_V} (hd : decode (sg_code y) pc = .ok (.invokestatic n, 3)) (hq : (sg_ml (sg_cn y) n).map (fun e => (e.2.2.1, e.2.2.2.1)) = some (kd, z)) (hk : ¬ (kd = 1 ∨ kd = 3 ∨ kd = 4) ∧ ¬ kd = 8 ∧ 1 ≤ sg_fr y ∧ 40 ≤ sg_lc y) (hc : ((st.drop 1).map sg_ca).sum ≤ 8) (h : sg_bt kd st = some st') : sg_rv y pc σ lv st = sg_rv y (pc + 3) σ lv st' := by
  obtain ⟨q, hq, h1, h2⟩ := sg_mlz hq
  rw [sg_q hd rfl]
  simp only [sg_st, sg_cal, hq, Bool.false_eq_true, if_false]
  rw [h1, if_neg hk.1, if_neg hk.2.1, if_pos ⟨hk.2.2.1, hk.2.2.2, hc⟩, h]
  rfl
theorem sg_q_cp {n kd z : Nat} {σ : sg_M} {lv rest : List sg_V} {k dp sp : Int32} {t1 c1 t0 c0 : Nat} (hd : decode (sg_code y) pc = .ok (.invokestatic n, 3)) (hq : (sg_ml (sg_cn y) n).map (fun e => (e.2.2.1, e.2.2.2.1)) = some (kd, z)) (hk : kd = 8 ∧ 1 ≤ sg_fr y ∧ 40 ≤ sg_lc y) (ht : 100 ≤ t0 ∧ 100 ≤ t1) (hc : (rest.map sg_ca).sum ≤ 8) (h1 : ¬ sp < 0) (h2 : ¬ dp < 0) (h3 : ¬ k < 0) (h4 : sp.toNatClampNeg + k.toNatClampNeg ≤ t0 - 100) (h5 : dp.toNatClampNeg + k.toNatClampNeg ≤ t1 - 100) :
    sg_rv y pc σ lv (sg_i k :: sg_i dp :: sg_r t1 c1 :: sg_i sp :: sg_r t0 c0 :: rest) = sg_rv y (pc + 3) (sg_set σ c1 (va_cpy (σ c0) (σ c1) sp.toNatClampNeg dp.toNatClampNeg k.toNatClampNeg)) lv rest := by
  obtain ⟨q, hq, e1, e2⟩ := sg_mlz hq
  rw [sg_q hd rfl]
  have g : ((decide (100 ≤ t0) && decide (100 ≤ t1)) && ((decide (¬ sp < 0) && (decide (¬ dp < 0) && decide (¬ k < 0))) && (decide (sp.toNatClampNeg + k.toNatClampNeg ≤ t0 - 100) && (decide (dp.toNatClampNeg + k.toNatClampNeg ≤ t1 - 100) && decide ((rest.map sg_ca).sum ≤ 8))))) = true := by
    simp only [Bool.and_eq_true, decide_eq_true_eq]
    exact ⟨ht, ⟨h1, h2, h3⟩, h4, h5, hc⟩
  simp only [sg_st, sg_cal, hq, Bool.false_eq_true, if_false, sg_cpy]
  rw [e1, hk.1, if_neg (by omega), if_pos rfl, if_pos hk.2, if_pos g]
  rfl
theorem sg_q_tsO {d lo hi : Int} {offs : Array Int} {len : Nat} (hd : decode (sg_code y) pc = .ok (.tableswitch d lo hi offs, len)) (ht : (pc : Int) + d = (tgt : Int)) (σ : sg_M) (lv : List sg_V) (a : Int32) (st : List sg_V) (h : a.toInt < lo ∨ hi < a.toInt) : sg_rv y pc σ lv (sg_i a :: st) = sg_rv y tgt σ lv st := by
  obtain ⟨h1, h2⟩ := sg_tgt_nn ht
  rw [sg_q hd rfl]
  simp only [sg_st, sg_tsw, if_pos h, sg_go]
  rw [if_pos h1, h2]
  rfl
theorem sg_q_lsO {d : Int} {ps : Array (Int × Int)} {len : Nat} (hd : decode (sg_code y) pc = .ok (.lookupswitch d ps, len)) (hp : (ps.toList.zip (ps.toList.drop 1)).all (fun (a, next) => a.1 < next.1) = true) (σ : sg_M) (lv : List sg_V) (a : Int32) (st : List sg_V) (h : Op.lookupswitch.offset ps.toList d a.toInt = off) (ht : (pc : Int) + off = (tgt : Int)) : sg_rv y pc σ lv (sg_i a :: st) = sg_rv y tgt σ lv st := by
  obtain ⟨h1, h2⟩ := sg_tgt_nn ht
  rw [sg_q hd rfl]
  simp only [sg_st, if_pos hp, sg_go, h]
  rw [if_pos h1, h2]
  rfl
end SGR
