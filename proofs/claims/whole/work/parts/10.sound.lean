/-! THE SMALL MACHINE IS SOUND: where it comes to an answer, the machine comes to the same -/
section SGX
variable {p : Program} {l : Launch} {e : Env} {R : Room} {s : State} {m : MethodId} {args : Array Value} {below : List Frame} {meth : Method} {c : Code} {cells slots : Nat} {Q : State → Prop} {ad : Nat → Nat} {kA : Nat → ClassId} {D : va_G} {A : Nat → Prop} {X : Nat × (Nat → Int32)}
variable {y pc len : Nat} {σ : sg_M} {lv st : List sg_V} {S : sg_S}
theorem sg_mt_of {z : Nat} (hz : z < 199) : plainName (sg_nm z).cls = true ∧ (sg_nm z).cls = sg_cs (sg_cn z) ∧ (sg_nm z).cls ≠ "java/lang/invoke/MethodHandle" ∧ (sg_nm z).cls ≠ "java/lang/invoke/VarHandle" ∧ (parseMethodDescriptor (sg_nm z).desc).map (fun d => d.parameters.length) = some (sg_np z) := by
  have h := List.all_eq_true.mp sg_mt_ok z (List.mem_range.mpr hz)
  simp only [Bool.and_eq_true, decide_eq_true_eq] at h
  exact h
theorem sg_z_nar {r : Option FieldType} {v : Int32} (h : sg_z r v = true) : ∃ ty, r = some ty ∧ narrow ty (.int v) = .int v := by
  unfold sg_z at h
  split at h
  · exact ⟨_, rfl, rfl⟩
  · simp only [Bool.or_eq_true, decide_eq_true_eq] at h
    rcases h with rfl | rfl <;> exact ⟨_, rfl, by decide +kernel⟩
  · cases h
theorem sg_met {z : Nat} {as : List sg_V} {o : sg_O} (hz : z < 199) (hm : sg_enl as ≤ sg_mx z)
    (body : ∀ (p : Program) (e : Env) (R : Room) (s : State) (m : MethodId) (args : Array Value) (below : List Frame) (meth : Method) (c : Code) (cells slots : Nat) (Q : State → Prop), sg_C p R s m args c cells slots ad kA D A X z → sg_Rt p l e R s m args below meth c cells slots Q ad kA D A X z o → sg_J p l e R s m args below meth c cells slots Q ad kA D A X (0, σ, sg_en z as, [])) :
    Met l (sg_nm z) (sg_wd z) (sg_rm z) (sg_Pc ad kA D A X as σ) (sg_Q ad kA D A X o) 0 0 A := by
  refine Met.ofW (cc := sg_code z) (maxL := sg_mx z) (ret := sg_rt z) (sg_mt_of hz).1 rfl ?_
  intro p e s m args below meth c s₁ B hml hv
  obtain ⟨rfl, hE, hP⟩ := hv
  have hx := B.exec
  have hb := B.bytes
  have hr := B.returns
  have hts0 := atoms_spec (ws := sg_wd z) B.pre
  have hown : s.vm.findClass (sg_nm z).cls = some m.cls := findClass_of_methodNamed B.named
  have hlocks := B.notSynchronized
  rw [lg_entry_eq]
  refine body p e _ s m _ below meth c 0 0 _ ⟨⟨hx, hb, hml, by rw [← (sg_mt_of hz).2.1]; exact hown, fun w hw => hts0 w (List.mem_cons_of_mem _ hw)⟩, ⟨Nat.le_refl _, Nat.le_refl _, Nat.le_refl _, Nat.le_refl _⟩, hE⟩ ?_ s.heap [] _ hP va_S.rf (sg_hl_entry hm)
  intro H locs ls pc i hd hi hP' hS
  obtain ⟨o1, σ'⟩ := o
  rcases o1 with _ | v | v | q
  · obtain ⟨rfl, hrt⟩ := hi
    exact W.vret hx hb (by rw [hr, hrt]) (fun t ht hW => ⟨rfl, by rw [ht]; exact hP', hS.F ht⟩) hS.2.2 hd
  · obtain ⟨rfl, hrt⟩ := hi
    obtain ⟨ty, h1, h2⟩ := sg_z_nar hrt
    exact W.zret hx hb (by rw [hr, h1]) h2 (fun t ht hW => ⟨rfl, by rw [ht]; exact hP', hS.F ht⟩) hS.2.2 hd
  · obtain ⟨rfl, hrt⟩ := hi
    exact W.lret hx hb (by rw [hr, hrt]) (fun t ht hW => ⟨rfl, by rw [ht]; exact hP', hS.F ht⟩) hS.2.2 hd
  · exact absurd hi (by simp)
theorem sg_cal_inl {virt : Bool} {n : Nat} (h : sg_cal y virt n pc σ lv st = some (.inl S)) : virt = false ∧ ∃ q, sg_ml (sg_cn y) n = some q ∧ ((q.2.2.1 = 8 ∧ (1 ≤ sg_fr y ∧ 40 ≤ sg_lc y) ∧ sg_cpy (pc + 3) σ lv st = some (.inl S)) ∨ ((1 ≤ sg_fr y ∧ (40 ≤ sg_lc y ∧ ((st.drop 1).map sg_ca).sum ≤ 8)) ∧ ∃ s2, sg_bt q.2.2.1 st = some s2 ∧ S = (pc + 3, σ, lv, s2))) := by
  have hinv : ∀ {z k : Nat} {b : Bool}, sg_inv y z k b pc lv st ≠ some (.inl S) := by
    intro z k b hh
    unfold sg_inv at hh
    split at hh <;> cases hh
  unfold sg_cal at h
  split at h
  · rename_i q hq
    cases virt with
    | true =>
      simp only [if_true] at h
      split at h
      · exact absurd h hinv
      · cases h
    | false =>
      simp only [Bool.false_eq_true, if_false] at h
      split at h
      · exact absurd h hinv
      · split at h
        · rename_i h8
          split at h
          · rename_i hg
            exact ⟨rfl, q, hq, Or.inl ⟨h8, hg, h⟩⟩
          · cases h
        · split at h
          · rename_i hg
            obtain ⟨s2, h1, h2⟩ := Option.bind_eq_some_iff.mp h
            exact ⟨rfl, q, hq, Or.inr ⟨hg, s2, h1, sg_nx_of h2⟩⟩
          · cases h
  · cases h
theorem sg_step {i : Instr} (C : sg_C p R s m args c cells slots ad kA D A X y) (hd : decode (sg_code y) pc = .ok (i, len)) (hln : sg_ln i len = true) (h : sg_st y i len pc σ lv st = some (.inl S)) (ho : sg_okL lv) (hs : sg_okL st) (hlen : lv.length = sg_mx y) : sg_G p l e R s m args below meth c cells slots Q ad kA D A X y pc σ lv st S := by
  have pure : (sg_pu i st).bind (fun s2 => sg_nx (pc + len) σ lv s2) = some (.inl S) → sg_G p l e R s m args below meth c cells slots Q ad kA D A X y pc σ lv st S := by
    intro h
    obtain ⟨st', h1, h2⟩ := Option.bind_eq_some_iff.mp h
    obtain rfl := sg_nx_of h2
    exact sg_s_pu C hd hln h1 ho hs hlen
  cases i <;> first
    | exact pure h
    | exact sg_s_ldc C hd hln h ho hs hlen
    | exact sg_s_getf C hd hln h ho hs hlen
    | exact sg_s_putf C hd hln h ho hs hlen
    | exact sg_s_gets C hd hln h ho hs hlen
    | exact sg_s_iald C hd hln h ho hs hlen
    | exact sg_s_cald C hd hln h ho hs hlen
    | exact sg_s_iast C hd hln h ho hs hlen
    | exact sg_s_aald C hd hln h ho hs hlen
    | exact sg_s_alen C hd hln h ho hs hlen
    | exact sg_s_goto C hd hln h ho hs hlen
    | exact sg_s_if C hd hln h ho hs hlen
    | exact sg_s_icmp C hd hln h ho hs hlen
    | exact sg_s_tsw C hd h ho hs hlen
    | exact sg_s_lsw C hd h ho hs hlen
    | (refine sg_s_load C hd hln h ho hs hlen ?_; simp; done)
    | (refine sg_s_store C hd hln h ho hs hlen ?_; simp; done)
    | skip
  case invokevirtual n => exact absurd (sg_cal_inl (show sg_cal y true n pc σ lv st = some (.inl S) from h)).1 (by simp)
  case invokestatic n =>
    obtain rfl : len = 3 := by simpa [sg_ln] using hln
    obtain ⟨-, q, hq, h1 | ⟨hg, s2, h1, rfl⟩⟩ := sg_cal_inl (show sg_cal y false n pc σ lv st = some (.inl S) from h)
    · exact sg_cpy_step C hd hq h1.1 h1.2.1 h1.2.2 ho hs hlen
    · exact sg_bt_step C hd hq hg h1 ho hs hlen
  case ireturn =>
    simp only [sg_st] at h
    split at h
    · split at h <;> cases h
    · cases h
  case lreturn =>
    simp only [sg_st] at h
    split at h
    · split at h <;> cases h
    · cases h
  case return_ =>
    simp only [sg_st] at h
    split at h
    · split at h <;> cases h
    · cases h
/-- a call: who is called, with what, and what stands behind it -/
theorem sg_inv_of {z n : Nat} {virt : Bool} {x : sg_X} (h : sg_inv y z n virt pc lv st = some x) : (n ≤ st.length ∧ sg_enl (st.take n) ≤ sg_mx z ∧ ((st.drop n).map sg_ca).sum ≤ 8 ∧ sg_fr z + 1 ≤ sg_fr y ∧ 8 + (sg_mx z + 11) + sg_lc z ≤ sg_lc y ∧ (virt = true → sg_rc z (st.take n).getLast? = true)) ∧ x = .inr (.inr (z, (st.take n).reverse, pc + 3, lv, st.drop n)) := by
  unfold sg_inv at h
  by_cases hg : sg_ig y z n virt st = true
  · rw [if_pos hg] at h
    cases h
    simp only [sg_ig, Bool.and_eq_true, decide_eq_true_eq, Bool.or_eq_true, Bool.not_eq_true'] at hg
    refine ⟨⟨hg.1, hg.2.1, hg.2.2.1, hg.2.2.2.1, hg.2.2.2.2.1, fun hv => ?_⟩, rfl⟩
    rcases hg.2.2.2.2.2 with h | h
    · rw [hv] at h; cases h
    · exact h
  · rw [if_neg hg] at h; cases h
theorem sg_cal_call {virt : Bool} {n : Nat} {k : sg_K} (h : sg_cal y virt n pc σ lv st = some (.inr (.inr k))) : ∃ q, sg_ml (sg_cn y) n = some q ∧ sg_inv y q.2.2.2.1 (if virt then sg_np q.2.2.2.1 + 1 else sg_np q.2.2.2.1) virt pc lv st = some (.inr (.inr k)) ∧ (if virt then (q.2.2.1 = 0 ∨ q.2.2.1 = 2) else (q.2.2.1 = 1 ∨ q.2.2.1 = 3 ∨ q.2.2.1 = 4)) := by
  unfold sg_cal at h
  split at h
  · rename_i q hq
    cases virt with
    | true =>
      simp only [if_true] at h
      split at h
      · rename_i hk
        exact ⟨q, hq, h, hk⟩
      · cases h
    | false =>
      simp only [Bool.false_eq_true, if_false] at h
      split at h
      · rename_i hk
        exact ⟨q, hq, h, hk⟩
      · split at h
        · split at h
          · unfold sg_cpy at h
            split at h
            · split at h <;> cases h
            · cases h
          · cases h
        · split at h
          · obtain ⟨s2, h1, h2⟩ := Option.bind_eq_some_iff.mp h
            cases h2
          · cases h
  · cases h
theorem sg_call_i {i : Instr} {k : sg_K} (h : sg_st y i len pc σ lv st = some (.inr (.inr k))) : (∃ n, i = .invokevirtual n ∧ sg_cal y true n pc σ lv st = some (.inr (.inr k))) ∨ ∃ n, i = .invokestatic n ∧ sg_cal y false n pc σ lv st = some (.inr (.inr k)) := by
  cases i
  case invokevirtual n => exact Or.inl ⟨n, rfl, h⟩
  case invokestatic n => exact Or.inr ⟨n, rfl, h⟩
  all_goals
    exfalso
    simp only [sg_st, sg_ld, sg_sto, sg_sto2, sg_nx, sg_fget, sg_fput, sg_ald, sg_aald, sg_go, sg_br] at h
    repeat' (first | (cases h; done) | (obtain ⟨s2, h1, h2⟩ := Option.bind_eq_some_iff.mp h; cases h2; done) | split at h)
theorem sg_ret_i {i : Instr} {o : sg_O} (h : sg_st y i len pc σ lv st = some (.inr (.inl o))) : o.2 = σ ∧ st = o.1.toList ∧ (match o.1 with
    | some (.inl v) => i = .ireturn ∧ sg_z (sg_rt y) v = true
    | some (.inr (.inl _)) => i = .lreturn ∧ sg_rt y = some .long
    | none => i = .return_ ∧ sg_rt y = none
    | _ => False) := by
  have hcal : ∀ {b : Bool} {n : Nat}, sg_cal y b n pc σ lv st ≠ some (.inr (.inl o)) := by
    intro b n hh
    unfold sg_cal at hh
    have hinv : ∀ {z k : Nat} {b : Bool}, sg_inv y z k b pc lv st ≠ some (.inr (.inl o)) := by
      intro z k b h9
      have := (sg_inv_of h9).2
      cases this
    split at hh
    · split at hh
      · split at hh
        · exact hinv hh
        · cases hh
      · split at hh
        · exact hinv hh
        · split at hh
          · split at hh
            · unfold sg_cpy at hh
              split at hh
              · split at hh <;> cases hh
              · cases hh
            · cases hh
          · split at hh
            · obtain ⟨s2, h1, h2⟩ := Option.bind_eq_some_iff.mp hh
              cases h2
            · cases hh
    · cases hh
  cases i
  case ireturn =>
    simp only [sg_st] at h
    split at h
    · split at h
      · rename_i hz
        cases h
        exact ⟨rfl, rfl, rfl, hz⟩
      · cases h
    · cases h
  case lreturn =>
    simp only [sg_st] at h
    split at h
    · split at h
      · rename_i hz
        cases h
        exact ⟨rfl, rfl, rfl, hz⟩
      · cases h
    · cases h
  case return_ =>
    simp only [sg_st] at h
    split at h
    · split at h
      · rename_i hz
        cases h
        exact ⟨rfl, rfl, rfl, hz⟩
      · cases h
    · cases h
  case invokevirtual n => exact absurd h hcal
  case invokestatic n => exact absurd h hcal
  all_goals
    exfalso
    simp only [sg_st, sg_ld, sg_sto, sg_sto2, sg_nx, sg_fget, sg_fput, sg_ald, sg_aald, sg_go, sg_br] at h
    repeat' (first | (cases h; done) | (obtain ⟨s2, h1, h2⟩ := Option.bind_eq_some_iff.mp h; cases h2; done) | split at h)
end SGX
