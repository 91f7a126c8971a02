/-! cells beyond the 146 are never written -/
theorem b2_ok {f : Int32 → Int32 → Option sg_V} {st st' : List sg_V} (h : sg_b2 f st = some st') (hs : sg_okL st) (hf : ∀ x y v, f x y = some v → sg_ok v) : sg_okL st' := by
  obtain ⟨x, y, r, v, rfl, hv, rfl⟩ := sg_b2_of h
  exact sg_okL_cons.mpr ⟨hf _ _ _ hv, (sg_okL_cons.mp (sg_okL_cons.mp hs).2).2⟩
theorem b1_ok {f : Int32 → Option sg_V} {st st' : List sg_V} (h : sg_b1 f st = some st') (hs : sg_okL st) (hf : ∀ x v, f x = some v → sg_ok v) : sg_okL st' := by
  obtain ⟨x, r, v, rfl, hv, rfl⟩ := sg_b1_of h
  exact sg_okL_cons.mpr ⟨hf _ _ hv, (sg_okL_cons.mp hs).2⟩
theorem b3_ok {f : Int64 → Int64 → Option sg_V} {st st' : List sg_V} (h : sg_b3 f st = some st') (hs : sg_okL st) (hf : ∀ x y v, f x y = some v → sg_ok v) : sg_okL st' := by
  obtain ⟨x, y, r, v, rfl, hv, rfl⟩ := sg_b3_of h
  exact sg_okL_cons.mpr ⟨hf _ _ _ hv, (sg_okL_cons.mp (sg_okL_cons.mp hs).2).2⟩
theorem b4_ok {f : Int64 → Int32 → Option sg_V} {st st' : List sg_V} (h : sg_b4 f st = some st') (hs : sg_okL st) (hf : ∀ x y v, f x y = some v → sg_ok v) : sg_okL st' := by
  obtain ⟨x, y, r, v, rfl, hv, rfl⟩ := sg_b4_of h
  exact sg_okL_cons.mpr ⟨hf _ _ _ hv, (sg_okL_cons.mp (sg_okL_cons.mp hs).2).2⟩
theorem d1_ok {st st' : List sg_V} (h : sg_d1 st = some st') (hs : sg_okL st) : sg_okL st' := by
  unfold sg_d1 at h
  split at h
  · split at h
    · cases h
      obtain ⟨a, b⟩ := sg_okL_cons.mp hs
      exact sg_okL_cons.mpr ⟨a, sg_okL_cons.mpr ⟨a, b⟩⟩
    · cases h
  · cases h
theorem d2_ok {st st' : List sg_V} (h : sg_d2 st = some st') (hs : sg_okL st) : sg_okL st' := by
  unfold sg_d2 at h
  split at h
  · split at h
    · cases h
      exact (sg_okL_cons.mp hs).2
    · cases h
  · cases h
theorem d3_ok {st st' : List sg_V} (h : sg_d3 st = some st') (hs : sg_okL st) : sg_okL st' := by
  unfold sg_d3 at h
  split at h
  · split at h
    · cases h
      obtain ⟨a, b⟩ := sg_okL_cons.mp hs
      obtain ⟨c, d⟩ := sg_okL_cons.mp b
      exact sg_okL_cons.mpr ⟨a, sg_okL_cons.mpr ⟨c, sg_okL_cons.mpr ⟨a, d⟩⟩⟩
    · cases h
  · cases h
theorem d4_ok {st st' : List sg_V} (h : sg_d4 st = some st') (hs : sg_okL st) : sg_okL st' := by
  unfold sg_d4 at h
  split at h
  · split at h
    · cases h
      obtain ⟨a, b⟩ := sg_okL_cons.mp hs
      obtain ⟨c, d⟩ := sg_okL_cons.mp b
      exact sg_okL_cons.mpr ⟨a, sg_okL_cons.mpr ⟨c, sg_okL_cons.mpr ⟨a, sg_okL_cons.mpr ⟨c, d⟩⟩⟩⟩
    · cases h
  · cases h
theorem pu_ok {i : Instr} {st st' : List sg_V} (h : sg_pu i st = some st') (hs : sg_okL st) : sg_okL st' := by
  cases i <;> first
    | (simp [sg_pu] at h; done)
    | exact d1_ok (show sg_d1 st = some st' from h) hs
    | exact d2_ok (show sg_d2 st = some st' from h) hs
    | exact d3_ok (show sg_d3 st = some st' from h) hs
    | exact d4_ok (show sg_d4 st = some st' from h) hs
    | exact b2_ok (show sg_b2 _ st = some st' from h) hs (fun x y v hv => by cases hv; trivial)
    | exact b2_ok (show sg_b2 _ st = some st' from h) hs (fun x y v hv => by
        split at hv
        · cases hv
        · cases hv; trivial)
    | exact b1_ok (show sg_b1 _ st = some st' from h) hs (fun x v hv => by cases hv; trivial)
    | exact b3_ok (show sg_b3 _ st = some st' from h) hs (fun x y v hv => by cases hv; trivial)
    | exact b3_ok (show sg_b3 _ st = some st' from h) hs (fun x y v hv => by
        split at hv
        · cases hv
        · cases hv; trivial)
    | exact b4_ok (show sg_b4 _ st = some st' from h) hs (fun x y v hv => by cases hv; trivial)
    | (simp only [sg_pu, Option.some.injEq] at h; subst h; exact sg_okL_cons.mpr ⟨trivial, hs⟩)
def sg_kk (σ : sg_M) (S : sg_S) : Prop := sg_okL S.2.2.1 ∧ sg_okL S.2.2.2 ∧ ∀ c, 146 ≤ c → S.2.1 c = σ c
theorem sg_keep1 {y len pc : Nat} {i : Instr} {σ : sg_M} {lv st : List sg_V} {S : sg_S} (h : sg_st y i len pc σ lv st = some (.inl S)) (ho : sg_okL lv) (hs : sg_okL st) : sg_kk σ S := by
  have pure : (sg_pu i st).bind (fun s2 => sg_nx (pc + len) σ lv s2) = some (.inl S) → sg_kk σ S := by
    intro h
    obtain ⟨st', h1, h2⟩ := Option.bind_eq_some_iff.mp h
    obtain rfl := sg_nx_of h2
    exact ⟨ho, pu_ok h1 hs, fun _ _ => rfl⟩
  have ld : ∀ {n pc' : Nat} {ok : sg_V → Bool}, sg_ld n pc' ok σ lv st = some (.inl S) → sg_kk σ S := by
    intro n pc' ok h
    obtain ⟨v, hv, -, rfl⟩ := sg_ld_of h
    exact ⟨ho, sg_okL_cons.mpr ⟨sg_okL_get ho hv, hs⟩, fun _ _ => rfl⟩
  have sto : ∀ {n pc' : Nat} {ok : sg_V → Bool}, sg_sto n pc' ok σ lv st = some (.inl S) → sg_kk σ S := by
    intro n pc' ok h
    obtain ⟨v, r, rfl, -, -, -, rfl⟩ := sg_sto_of h
    obtain ⟨a, b⟩ := sg_okL_cons.mp hs
    exact ⟨sg_okL_set ho a, b, fun _ _ => rfl⟩
  have sto2 : ∀ {n pc' : Nat}, sg_sto2 n pc' σ lv st = some (.inl S) → sg_kk σ S := by
    intro n pc' h
    obtain ⟨x, r, rfl, -, -, rfl⟩ := sg_sto2_of h
    obtain ⟨a, b⟩ := sg_okL_cons.mp hs
    exact ⟨sg_okL_set (sg_okL_set ho trivial) (Or.inl ⟨rfl, rfl⟩), b, fun _ _ => rfl⟩
  have go : ∀ {off : Int} {r : List sg_V}, sg_okL r → sg_go off pc σ lv r = some (.inl S) → sg_kk σ S := by
    intro off r hr h
    obtain ⟨tgt, -, rfl⟩ := sg_go_of h
    exact ⟨ho, hr, fun _ _ => rfl⟩
  have br : ∀ {b : Bool} {off : Int} {r : List sg_V}, sg_okL r → sg_br b off pc σ lv r = some (.inl S) → sg_kk σ S := by
    intro b off r hr h
    obtain ⟨tgt, -, rfl⟩ := sg_br_of h
    exact ⟨ho, hr, fun _ _ => rfl⟩
  cases i
  case iload n => exact ld h
  case iload_n n => exact ld h
  case lload n => exact ld h
  case lload_n n => exact ld h
  case aload n => exact ld h
  case aload_n n => exact ld h
  case istore n => exact sto h
  case istore_n n => exact sto h
  case astore n => exact sto h
  case astore_n n => exact sto h
  case lstore n => exact sto2 h
  case lstore_n n => exact sto2 h
  case iinc n k =>
    simp only [sg_st] at h
    split at h
    · split at h
      · obtain rfl := sg_nx_of h
        exact ⟨sg_okL_set ho trivial, hs, fun _ _ => rfl⟩
      · cases h
    · cases h
  case ldc2_w n =>
    simp only [sg_st] at h
    split at h
    · obtain rfl := sg_nx_of h
      exact ⟨ho, sg_okL_cons.mpr ⟨trivial, hs⟩, fun _ _ => rfl⟩
    · cases h
  case getfield n =>
    simp only [sg_st] at h
    split at h
    · rename_i q r
      obtain ⟨hq, hr⟩ := sg_okL_cons.mp hs
      split at h
      · unfold sg_fget at h
        split at h
        · rename_i o hsh
          split at h
          · obtain ⟨hc, ht, ho7, holen, hof⟩ := sg_obj hq hsh
            split at h
            · obtain rfl := sg_nx_of h
              exact ⟨ho, sg_okL_cons.mpr ⟨trivial, hr⟩, fun _ _ => rfl⟩
            · rename_i rr hk
              obtain rfl := sg_nx_of h
              exact ⟨ho, sg_okL_cons.mpr ⟨Or.inr (Or.inl (hof _ _ hk)), hr⟩, fun _ _ => rfl⟩
            · cases h
          · cases h
        · cases h
      · cases h
    · cases h
  case putfield n =>
    simp only [sg_st] at h
    split at h
    · rename_i v q r
      obtain ⟨-, hs2⟩ := sg_okL_cons.mp hs
      obtain ⟨hq, hr⟩ := sg_okL_cons.mp hs2
      split at h
      · unfold sg_fput at h
        split at h
        · rename_i o hsh
          split at h
          · obtain ⟨hc, ht, ho7, holen, hof⟩ := sg_obj hq hsh
            split at h
            · split at h
              · obtain rfl := sg_nx_of h
                exact ⟨ho, hr, fun c' hc' => sg_up_ne (by omega)⟩
              · cases h
            · cases h
          · cases h
        · cases h
      · cases h
    · cases h
  case getstatic n =>
    simp only [sg_st] at h
    split at h
    · rename_i fe hfe
      obtain rfl := sg_nx_of h
      refine ⟨ho, sg_okL_cons.mpr ⟨?_, hs⟩, fun _ _ => rfl⟩
      have hm := (sg_find hfe).1
      have h5 : ∀ e ∈ sg_slL, e.2.2.1 < 6 := by decide
      have := h5 fe hm
      exact Or.inr (Or.inr ⟨by show 1000 + fe.2.2.1 = 90 + fe.2.2.1 + 910; omega, by show 90 ≤ 90 + fe.2.2.1; omega, by show 90 + fe.2.2.1 < 96; omega⟩)
    · cases h
  case iaload =>
    simp only [sg_st] at h
    split at h
    · rename_i i q r
      obtain ⟨-, hs2⟩ := sg_okL_cons.mp hs
      obtain ⟨-, hr⟩ := sg_okL_cons.mp hs2
      unfold sg_ald at h
      split at h
      · split at h
        · obtain rfl := sg_nx_of h
          exact ⟨ho, sg_okL_cons.mpr ⟨trivial, hr⟩, fun _ _ => rfl⟩
        · cases h
      · split at h
        · split at h
          · obtain rfl := sg_nx_of h
            exact ⟨ho, sg_okL_cons.mpr ⟨trivial, hr⟩, fun _ _ => rfl⟩
          · cases h
        · cases h
    · cases h
  case caload =>
    simp only [sg_st] at h
    split at h
    · rename_i i q r
      obtain ⟨-, hs2⟩ := sg_okL_cons.mp hs
      obtain ⟨-, hr⟩ := sg_okL_cons.mp hs2
      split at h
      · split at h
        · obtain rfl := sg_nx_of h
          exact ⟨ho, sg_okL_cons.mpr ⟨trivial, hr⟩, fun _ _ => rfl⟩
        · cases h
      · cases h
    · cases h
  case iastore =>
    simp only [sg_st] at h
    split at h
    · rename_i v i q r
      obtain ⟨-, hs2⟩ := sg_okL_cons.mp hs
      obtain ⟨-, hs3⟩ := sg_okL_cons.mp hs2
      obtain ⟨hq, hr⟩ := sg_okL_cons.mp hs3
      split at h
      · rename_i h100
        split at h
        · obtain rfl := sg_nx_of h
          have := sg_ok_cell (t := q.1) (c := q.2) hq (by omega) (by omega)
          exact ⟨ho, hr, fun c' hc' => sg_up_ne (by omega)⟩
        · cases h
      · cases h
    · cases h
  case aaload =>
    simp only [sg_st] at h
    split at h
    · rename_i i q r
      obtain ⟨-, hs2⟩ := sg_okL_cons.mp hs
      obtain ⟨hq, hr⟩ := sg_okL_cons.mp hs2
      unfold sg_aald at h
      split at h
      · rename_i qq hsh
        split at h
        · rename_i hin
          obtain rfl := sg_nx_of h
          refine ⟨ho, sg_okL_cons.mpr ⟨?_, hr⟩, fun _ _ => rfl⟩
          have ht := sg_sh_lt hsh
          obtain ⟨hc, htag⟩ := sg_ok_cell (t := q.1) (c := q.2) hq ht.1 (by omega)
          have hok := sg_tagOk hc
          rw [htag, hsh] at hok
          simp only [Bool.and_eq_true] at hok
          have hi := of_decide_eq_true hin
          have hlt : i.toNatClampNeg < qq.1 := by
            obtain ⟨j, hj, rfl, ej⟩ := sg_nat hi.1
            rw [sg_nIc hj]
            omega
          have := List.all_eq_true.mp hok.2.1 i.toNatClampNeg (List.mem_range.mpr hlt)
          simp only [Bool.and_eq_true, decide_eq_true_eq] at this
          exact Or.inr (Or.inl this)
        · cases h
      · cases h
    · cases h
  case arraylength =>
    simp only [sg_st] at h
    split at h
    · rename_i q r
      obtain ⟨hq, hr⟩ := sg_okL_cons.mp hs
      split at h
      · obtain rfl := sg_nx_of h
        exact ⟨ho, sg_okL_cons.mpr ⟨trivial, hr⟩, fun _ _ => rfl⟩
      · split at h
        · obtain rfl := sg_nx_of h
          exact ⟨ho, sg_okL_cons.mpr ⟨trivial, hr⟩, fun _ _ => rfl⟩
        · cases h
    · cases h
  case ifCond c off =>
    simp only [sg_st] at h
    split at h
    · exact br (sg_okL_cons.mp hs).2 h
    · cases h
  case if_icmp c off =>
    simp only [sg_st] at h
    split at h
    · exact br (sg_okL_cons.mp (sg_okL_cons.mp hs).2).2 h
    · cases h
  case goto off => exact go hs h
  case tableswitch d lo hi offs =>
    simp only [sg_st] at h
    split at h
    · split at h
      · exact go (sg_okL_cons.mp hs).2 h
      · cases h
    · cases h
  case lookupswitch d ps =>
    simp only [sg_st] at h
    split at h
    · split at h
      · exact go (sg_okL_cons.mp hs).2 h
      · cases h
    · cases h
  case ireturn =>
    simp only [sg_st] at h
    split at h
    · split at h <;> cases h
    · cases h
  case lreturn =>
    simp only [sg_st] at h
    split at h
    · split at h <;> cases h
    · cases h
  case return_ =>
    simp only [sg_st] at h
    split at h
    · split at h <;> cases h
    · cases h
  case invokevirtual n => exact absurd (sg_cal_inl (show sg_cal y true n pc σ lv st = some (.inl S) from h)).1 (by simp)
  case invokestatic n =>
    obtain ⟨-, q, hq, h1 | ⟨hg, s2, h1, rfl⟩⟩ := sg_cal_inl (show sg_cal y false n pc σ lv st = some (.inl S) from h)
    · have h1 := h1.2.2
      unfold sg_cpy at h1
      split at h1
      · rename_i k dp q1 sp q0 r hx9
        split at h1
        · rename_i hc
          simp only [Bool.and_eq_true, decide_eq_true_eq] at hc
          obtain ⟨⟨ht0, ht1⟩, -⟩ := hc
          obtain rfl := sg_nx_of h1
          obtain ⟨-, hs2⟩ := sg_okL_cons.mp hs
          obtain ⟨-, hs3⟩ := sg_okL_cons.mp hs2
          obtain ⟨hq1, hs4⟩ := sg_okL_cons.mp hs3
          obtain ⟨-, hs5⟩ := sg_okL_cons.mp hs4
          obtain ⟨hq0, hr⟩ := sg_okL_cons.mp hs5
          have h9 := sg_ok_cell (t := q1.1) (c := q1.2) hq1 (by omega) (by omega)
          exact ⟨ho, hr, fun c' hc' => sg_set_ne (by omega)⟩
        · cases h1
      · cases h1
    · refine ⟨ho, ?_, fun _ _ => rfl⟩
      show sg_okL s2
      unfold sg_bt at h1
      split at h1
      · exact b2_ok h1 hs (fun x y v hv => by cases hv; trivial)
      · exact b2_ok h1 hs (fun x y v hv => by cases hv; trivial)
      · exact b1_ok h1 hs (fun x v hv => by cases hv; trivial)
      · cases h1
  all_goals exact pure h
theorem sg_keep : ∀ (n y pc : Nat) (σ : sg_M) (lv st : List sg_V) (o : sg_O), sg_run n y pc σ lv st = some o → sg_okL lv → sg_okL st → ∀ c, 146 ≤ c → o.2 c = σ c := by
  intro n
  induction n with
  | zero => intro y pc σ lv st o h; cases h
  | succ n ih =>
    intro y pc σ lv st o h hlv hst
    simp only [sg_run] at h
    split at h
    · cases h
    · rename_i q hq
      split at h
      · rename_i hln
        split at h
        · cases h
        · rename_i S hS
          obtain ⟨g1, g2, g3⟩ := sg_keep1 hS hlv hst
          intro c hc
          rw [ih _ _ _ _ _ _ h g1 g2 c hc, g3 c hc]
        · rename_i o' ho'
          cases h
          intro c hc
          rw [(sg_ret_i ho').1]
        · rename_i k hk
          split at h
          · cases h
          · rename_i o1 ho1
            obtain ⟨f1, f2, f3, f4, f5⟩ := sg_call_facts hk hst
            intro c hc
            rw [ih _ _ _ _ _ _ h (by rw [f5]; exact hlv) (fun v hv => by
              rcases List.mem_append.mp hv with h9 | h9
              · exact sg_run_nr _ _ _ _ _ _ _ ho1 v h9
              · exact f4 v h9) c hc, ih _ _ _ _ _ _ ho1 (sg_en_ok f3) (by intro v hv; simp at hv) c hc]
      · cases h
theorem sg_ev_keep {z : Nat} {σ : sg_M} {as : List sg_V} {o : sg_O} (h : sg_ev z σ as = some o) (hs : sg_okL as) : ∀ c, 146 ≤ c → o.2 c = σ c := by
  obtain ⟨n, hn⟩ := sg_rv_iff.mp h
  exact sg_keep n _ _ _ _ _ _ hn (sg_en_ok hs) (by intro v hv; simp at hv)
