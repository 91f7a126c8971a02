/-! EACH INSTRUCTION of the small machine is one of the machine's -/
section SGS
variable {p : Program} {l : Launch} {e : Env} {R : Room} {s : State} {m : MethodId} {args : Array Value} {below : List Frame} {meth : Method} {c : Code} {cells slots : Nat} {Q : State → Prop} {ad : Nat → Nat} {kA : Nat → ClassId} {D : va_G} {A : Nat → Prop} {X : Nat × (Nat → Int32)}
variable {y pc len : Nat} {σ : sg_M} {lv st : List sg_V} {S : sg_S}
theorem sg_s_pu {i : Instr} {st' : List sg_V} (C : sg_C p R s m args c cells slots ad kA D A X y) (hd : decode (sg_code y) pc = .ok (i, len)) (hln : sg_ln i len = true) (h : sg_pu i st = some st') (ho : sg_okL lv) (hs : sg_okL st) (hlen : lv.length = sg_mx y) : sg_G p l e R s m args below meth c cells slots Q ad kA D A X y pc σ lv st (pc + len, σ, lv, st') := by
  obtain ⟨⟨hx, hb, -⟩, -⟩ := C
  cases i <;> first | (simp [sg_pu] at h; done) | skip
  case bipush n =>
    obtain rfl : len = 2 := by simpa [sg_ln] using hln
    obtain rfl : sg_i (Int8.ofInt n).toInt32 :: st = st' := by simpa [sg_pu] using h
    exact ⟨⟨ho, sg_okL_cons.mpr ⟨trivial, hs⟩, hlen⟩, fun k H locs ls hP hS hl => lv_bipush hx hb hd rfl (k H locs ls hP hS hl)⟩
  case sipush n =>
    obtain rfl : len = 3 := by simpa [sg_ln] using hln
    obtain rfl : sg_i (Int16.ofInt n).toInt32 :: st = st' := by simpa [sg_pu] using h
    exact ⟨⟨ho, sg_okL_cons.mpr ⟨trivial, hs⟩, hlen⟩, fun k H locs ls hP hS hl => lv_sipush hx hb hd rfl (k H locs ls hP hS hl)⟩
  case iconst n =>
    obtain rfl : len = 1 := by simpa [sg_ln] using hln
    obtain rfl : sg_i (Int32.ofInt n) :: st = st' := by simpa [sg_pu] using h
    exact ⟨⟨ho, sg_okL_cons.mpr ⟨trivial, hs⟩, hlen⟩, fun k H locs ls hP hS hl => lv_iconst hx hb hd rfl (k H locs ls hP hS hl)⟩
  case lconst n =>
    obtain rfl : len = 1 := by simpa [sg_ln] using hln
    obtain rfl : sg_l (Int64.ofNat (n : Nat)) :: st = st' := by simpa [sg_pu] using h
    exact ⟨⟨ho, sg_okL_cons.mpr ⟨trivial, hs⟩, hlen⟩, fun k H locs ls hP hS hl => lv_lconst hx hb hd rfl (k H locs ls hP hS hl)⟩
  case iadd =>
    obtain rfl : len = 1 := by simpa [sg_ln] using hln
    obtain ⟨x, z, r, v, rfl, hv, rfl⟩ := sg_b2_of (show sg_b2 _ st = some st' from h)
    cases hv
    have hr : sg_okL r := (sg_okL_cons.mp (sg_okL_cons.mp hs).2).2
    exact ⟨⟨ho, sg_okL_cons.mpr ⟨trivial, hr⟩, hlen⟩, fun k H locs ls hP hS hl => lv_iadd hx hb hd (k H locs ls hP hS hl)⟩
  case isub =>
    obtain rfl : len = 1 := by simpa [sg_ln] using hln
    obtain ⟨x, z, r, v, rfl, hv, rfl⟩ := sg_b2_of (show sg_b2 _ st = some st' from h)
    cases hv
    have hr : sg_okL r := (sg_okL_cons.mp (sg_okL_cons.mp hs).2).2
    exact ⟨⟨ho, sg_okL_cons.mpr ⟨trivial, hr⟩, hlen⟩, fun k H locs ls hP hS hl => lv_isub hx hb hd (k H locs ls hP hS hl)⟩
  case imul =>
    obtain rfl : len = 1 := by simpa [sg_ln] using hln
    obtain ⟨x, z, r, v, rfl, hv, rfl⟩ := sg_b2_of (show sg_b2 _ st = some st' from h)
    cases hv
    have hr : sg_okL r := (sg_okL_cons.mp (sg_okL_cons.mp hs).2).2
    exact ⟨⟨ho, sg_okL_cons.mpr ⟨trivial, hr⟩, hlen⟩, fun k H locs ls hP hS hl => lv_imul hx hb hd (k H locs ls hP hS hl)⟩
  case iand =>
    obtain rfl : len = 1 := by simpa [sg_ln] using hln
    obtain ⟨x, z, r, v, rfl, hv, rfl⟩ := sg_b2_of (show sg_b2 _ st = some st' from h)
    cases hv
    have hr : sg_okL r := (sg_okL_cons.mp (sg_okL_cons.mp hs).2).2
    exact ⟨⟨ho, sg_okL_cons.mpr ⟨trivial, hr⟩, hlen⟩, fun k H locs ls hP hS hl => lv_iand hx hb hd (k H locs ls hP hS hl)⟩
  case ishl =>
    obtain rfl : len = 1 := by simpa [sg_ln] using hln
    obtain ⟨x, z, r, v, rfl, hv, rfl⟩ := sg_b2_of (show sg_b2 _ st = some st' from h)
    cases hv
    have hr : sg_okL r := (sg_okL_cons.mp (sg_okL_cons.mp hs).2).2
    exact ⟨⟨ho, sg_okL_cons.mpr ⟨trivial, hr⟩, hlen⟩, fun k H locs ls hP hS hl => lv_ishl hx hb hd (k H locs ls hP hS hl)⟩
  case ishr =>
    obtain rfl : len = 1 := by simpa [sg_ln] using hln
    obtain ⟨x, z, r, v, rfl, hv, rfl⟩ := sg_b2_of (show sg_b2 _ st = some st' from h)
    cases hv
    have hr : sg_okL r := (sg_okL_cons.mp (sg_okL_cons.mp hs).2).2
    exact ⟨⟨ho, sg_okL_cons.mpr ⟨trivial, hr⟩, hlen⟩, fun k H locs ls hP hS hl => lv_ishr hx hb hd (k H locs ls hP hS hl)⟩
  case idiv =>
    obtain rfl : len = 1 := by simpa [sg_ln] using hln
    obtain ⟨x, z, r, v, rfl, hv, rfl⟩ := sg_b2_of (show sg_b2 _ st = some st' from h)
    have hr : sg_okL r := (sg_okL_cons.mp (sg_okL_cons.mp hs).2).2
    by_cases hz : z = 0
    · simp [hz] at hv
    · rw [if_neg hz] at hv
      cases hv
      exact ⟨⟨ho, sg_okL_cons.mpr ⟨trivial, hr⟩, hlen⟩, fun k H locs ls hP hS hl => lv_idiv hx hb hd hz (k H locs ls hP hS hl)⟩
  case irem =>
    obtain rfl : len = 1 := by simpa [sg_ln] using hln
    obtain ⟨x, z, r, v, rfl, hv, rfl⟩ := sg_b2_of (show sg_b2 _ st = some st' from h)
    have hr : sg_okL r := (sg_okL_cons.mp (sg_okL_cons.mp hs).2).2
    by_cases hz : z = 0
    · simp [hz] at hv
    · rw [if_neg hz] at hv
      cases hv
      exact ⟨⟨ho, sg_okL_cons.mpr ⟨trivial, hr⟩, hlen⟩, fun k H locs ls hP hS hl => lv_irem hx hb hd hz (k H locs ls hP hS hl)⟩
  case ineg =>
    obtain rfl : len = 1 := by simpa [sg_ln] using hln
    obtain ⟨x, r, v, rfl, hv, rfl⟩ := sg_b1_of (show sg_b1 _ st = some st' from h)
    cases hv
    have hr : sg_okL r := (sg_okL_cons.mp hs).2
    exact ⟨⟨ho, sg_okL_cons.mpr ⟨trivial, hr⟩, hlen⟩, fun k H locs ls hP hS hl => lv_ineg hx hb hd (k H locs ls hP hS hl)⟩
  case i2l =>
    obtain rfl : len = 1 := by simpa [sg_ln] using hln
    obtain ⟨x, r, v, rfl, hv, rfl⟩ := sg_b1_of (show sg_b1 _ st = some st' from h)
    cases hv
    have hr : sg_okL r := (sg_okL_cons.mp hs).2
    exact ⟨⟨ho, sg_okL_cons.mpr ⟨trivial, hr⟩, hlen⟩, fun k H locs ls hP hS hl => lv_i2l hx hb hd rfl (k H locs ls hP hS hl)⟩
  case i2b =>
    obtain rfl : len = 1 := by simpa [sg_ln] using hln
    obtain ⟨x, r, v, rfl, hv, rfl⟩ := sg_b1_of (show sg_b1 _ st = some st' from h)
    cases hv
    have hr : sg_okL r := (sg_okL_cons.mp hs).2
    exact ⟨⟨ho, sg_okL_cons.mpr ⟨trivial, hr⟩, hlen⟩, fun k H locs ls hP hS hl => lv_i2b hx hb hd rfl (k H locs ls hP hS hl)⟩
  case i2s =>
    obtain rfl : len = 1 := by simpa [sg_ln] using hln
    obtain ⟨x, r, v, rfl, hv, rfl⟩ := sg_b1_of (show sg_b1 _ st = some st' from h)
    cases hv
    have hr : sg_okL r := (sg_okL_cons.mp hs).2
    exact ⟨⟨ho, sg_okL_cons.mpr ⟨trivial, hr⟩, hlen⟩, fun k H locs ls hP hS hl => lv_i2s hx hb hd rfl (k H locs ls hP hS hl)⟩
  case ladd =>
    obtain rfl : len = 1 := by simpa [sg_ln] using hln
    obtain ⟨x, z, r, v, rfl, hv, rfl⟩ := sg_b3_of (show sg_b3 _ st = some st' from h)
    cases hv
    have hr : sg_okL r := (sg_okL_cons.mp (sg_okL_cons.mp hs).2).2
    exact ⟨⟨ho, sg_okL_cons.mpr ⟨trivial, hr⟩, hlen⟩, fun k H locs ls hP hS hl => lv_ladd hx hb hd (k H locs ls hP hS hl)⟩
  case lsub =>
    obtain rfl : len = 1 := by simpa [sg_ln] using hln
    obtain ⟨x, z, r, v, rfl, hv, rfl⟩ := sg_b3_of (show sg_b3 _ st = some st' from h)
    cases hv
    have hr : sg_okL r := (sg_okL_cons.mp (sg_okL_cons.mp hs).2).2
    exact ⟨⟨ho, sg_okL_cons.mpr ⟨trivial, hr⟩, hlen⟩, fun k H locs ls hP hS hl => lv_lsub hx hb hd (k H locs ls hP hS hl)⟩
  case lmul =>
    obtain rfl : len = 1 := by simpa [sg_ln] using hln
    obtain ⟨x, z, r, v, rfl, hv, rfl⟩ := sg_b3_of (show sg_b3 _ st = some st' from h)
    cases hv
    have hr : sg_okL r := (sg_okL_cons.mp (sg_okL_cons.mp hs).2).2
    exact ⟨⟨ho, sg_okL_cons.mpr ⟨trivial, hr⟩, hlen⟩, fun k H locs ls hP hS hl => lv_lmul hx hb hd (k H locs ls hP hS hl)⟩
  case lcmp =>
    obtain rfl : len = 1 := by simpa [sg_ln] using hln
    obtain ⟨x, z, r, v, rfl, hv, rfl⟩ := sg_b3_of (show sg_b3 _ st = some st' from h)
    cases hv
    have hr : sg_okL r := (sg_okL_cons.mp (sg_okL_cons.mp hs).2).2
    exact ⟨⟨ho, sg_okL_cons.mpr ⟨trivial, hr⟩, hlen⟩, fun k H locs ls hP hS hl => W.lcmp hx hb hd (k H locs ls hP hS hl)⟩
  case ldiv =>
    obtain rfl : len = 1 := by simpa [sg_ln] using hln
    obtain ⟨x, z, r, v, rfl, hv, rfl⟩ := sg_b3_of (show sg_b3 _ st = some st' from h)
    have hr : sg_okL r := (sg_okL_cons.mp (sg_okL_cons.mp hs).2).2
    by_cases hz : z = 0
    · simp [hz] at hv
    · rw [if_neg hz] at hv
      cases hv
      exact ⟨⟨ho, sg_okL_cons.mpr ⟨trivial, hr⟩, hlen⟩, fun k H locs ls hP hS hl => lv_ldiv hx hb hd hz (k H locs ls hP hS hl)⟩
  case lrem =>
    obtain rfl : len = 1 := by simpa [sg_ln] using hln
    obtain ⟨x, z, r, v, rfl, hv, rfl⟩ := sg_b3_of (show sg_b3 _ st = some st' from h)
    have hr : sg_okL r := (sg_okL_cons.mp (sg_okL_cons.mp hs).2).2
    by_cases hz : z = 0
    · simp [hz] at hv
    · rw [if_neg hz] at hv
      cases hv
      exact ⟨⟨ho, sg_okL_cons.mpr ⟨trivial, hr⟩, hlen⟩, fun k H locs ls hP hS hl => lv_lrem hx hb hd hz (k H locs ls hP hS hl)⟩
  case lshl =>
    obtain rfl : len = 1 := by simpa [sg_ln] using hln
    obtain ⟨x, z, r, v, rfl, hv, rfl⟩ := sg_b4_of (show sg_b4 _ st = some st' from h)
    cases hv
    have hr : sg_okL r := (sg_okL_cons.mp (sg_okL_cons.mp hs).2).2
    exact ⟨⟨ho, sg_okL_cons.mpr ⟨trivial, hr⟩, hlen⟩, fun k H locs ls hP hS hl => lv_lshl hx hb hd rfl (k H locs ls hP hS hl)⟩
  case dup =>
    obtain rfl : len = 1 := by simpa [sg_ln] using hln
    have h : sg_d1 st = some st' := h
    rcases st with _ | ⟨v, r⟩
    · cases h
    · simp only [sg_d1] at h
      by_cases hc : sg_ca v = 1
      · rw [if_pos hc] at h
        cases h
        have hr := sg_okL_cons.mp hs
        exact ⟨⟨ho, sg_okL_cons.mpr ⟨hr.1, hs⟩, hlen⟩, fun k H locs ls hP hS hl => lv_dup hx hb hd (by rw [sg_cv_cat]; exact hc) (k H locs ls hP hS hl)⟩
      · rw [if_neg hc] at h; cases h
  case pop =>
    obtain rfl : len = 1 := by simpa [sg_ln] using hln
    have h : sg_d2 st = some st' := h
    rcases st with _ | ⟨v, r⟩
    · cases h
    · simp only [sg_d2] at h
      by_cases hc : sg_ca v = 1
      · rw [if_pos hc] at h
        cases h
        have hr := sg_okL_cons.mp hs
        exact ⟨⟨ho, hr.2, hlen⟩, fun k H locs ls hP hS hl => lv_pop hx hb hd (by rw [sg_cv_cat]; exact hc) (k H locs ls hP hS hl)⟩
      · rw [if_neg hc] at h; cases h
  case dup_x1 =>
    obtain rfl : len = 1 := by simpa [sg_ln] using hln
    have h : sg_d3 st = some st' := h
    rcases st with _ | ⟨v, _ | ⟨w, r⟩⟩
    · cases h
    · cases h
    · simp only [sg_d3] at h
      by_cases hc : sg_ca v = 1 ∧ sg_ca w = 1
      · rw [if_pos hc] at h
        cases h
        have hr := sg_okL_cons.mp hs
        have hr2 := sg_okL_cons.mp hr.2
        exact ⟨⟨ho, sg_okL_cons.mpr ⟨hr.1, sg_okL_cons.mpr ⟨hr2.1, sg_okL_cons.mpr ⟨hr.1, hr2.2⟩⟩⟩, hlen⟩, fun k H locs ls hP hS hl => lv_dup_x1 hx hb hd (by rw [sg_cv_cat]; exact hc.1) (by rw [sg_cv_cat]; exact hc.2) (k H locs ls hP hS hl)⟩
      · rw [if_neg hc] at h; cases h
  case dup2 =>
    obtain rfl : len = 1 := by simpa [sg_ln] using hln
    have h : sg_d4 st = some st' := h
    rcases st with _ | ⟨v, _ | ⟨w, r⟩⟩
    · cases h
    · cases h
    · simp only [sg_d4] at h
      by_cases hc : sg_ca v = 1 ∧ sg_ca w = 1
      · rw [if_pos hc] at h
        cases h
        have hr := sg_okL_cons.mp hs
        have hr2 := sg_okL_cons.mp hr.2
        exact ⟨⟨ho, sg_okL_cons.mpr ⟨hr.1, sg_okL_cons.mpr ⟨hr2.1, hs⟩⟩, hlen⟩, fun k H locs ls hP hS hl => lv_dup2_11 hx hb hd (by rw [sg_cv_cat]; exact hc.1) (by rw [sg_cv_cat]; exact hc.2) (k H locs ls hP hS hl)⟩
      · rw [if_neg hc] at h; cases h
end SGS
