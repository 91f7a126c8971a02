section SGT
variable {p : Program} {l : Launch} {e : Env} {R : Room} {s : State} {m : MethodId} {args : Array Value} {below : List Frame} {meth : Method} {c : Code} {cells slots : Nat} {Q : State → Prop} {ad : Nat → Nat} {kA : Nat → ClassId} {D : va_G} {A : Nat → Prop} {X : Nat × (Nat → Int32)}
variable {y pc len : Nat} {σ : sg_M} {lv st : List sg_V} {S : sg_S}
theorem sg_nx_of {pc' : Nat} {σ' : sg_M} {lv' st' : List sg_V} {S : sg_S} (h : sg_nx pc' σ' lv' st' = some (.inl S)) : S = (pc', σ', lv', st') := by
  simp only [sg_nx] at h
  cases h
  rfl
theorem sg_ld_of {n pc' : Nat} {ok : sg_V → Bool} (h : sg_ld n pc' ok σ lv st = some (.inl S)) : ∃ v, lv[n]? = some v ∧ ok v = true ∧ S = (pc', σ, lv, v :: st) := by
  unfold sg_ld at h
  split at h
  · rename_i v hv
    by_cases ho : ok v = true
    · rw [if_pos ho] at h
      exact ⟨v, hv, ho, sg_nx_of h⟩
    · rw [if_neg ho] at h; cases h
  · cases h
theorem sg_isI_of {v : sg_V} (h : sg_isI v = true) : ∃ x, v = sg_i x := by
  rcases v with x | x | q
  · exact ⟨x, rfl⟩
  · simp [sg_isI] at h
  · simp [sg_isI] at h
theorem sg_isL_of {v : sg_V} (h : sg_isL v = true) : ∃ x, v = sg_l x := by
  rcases v with x | x | q
  · simp [sg_isL] at h
  · exact ⟨x, rfl⟩
  · simp [sg_isL] at h
theorem sg_isR_of {v : sg_V} (h : sg_isR v = true) : ∃ t q, v = sg_r t q ∧ t ≠ 0 := by
  rcases v with x | x | ⟨t, q⟩
  · simp [sg_isR] at h
  · simp [sg_isR] at h
  · exact ⟨t, q, rfl, by simpa [sg_isR] using h⟩
theorem sg_r_ne {t q : Nat} (h : t ≠ 0) : sg_r t q ≠ sg_r 0 0 := by
  intro z
  cases z
  exact h rfl
theorem sg_s_load {i : Instr} (C : sg_C p R s m args c cells slots ad kA D A X y) (hd : decode (sg_code y) pc = .ok (i, len)) (hln : sg_ln i len = true) (h : sg_st y i len pc σ lv st = some (.inl S)) (ho : sg_okL lv) (hs : sg_okL st) (hlen : lv.length = sg_mx y)
    (hi : (∃ n, i = .iload n) ∨ (∃ n, i = .iload_n n) ∨ (∃ n, i = .lload n) ∨ (∃ n, i = .lload_n n) ∨ (∃ n, i = .aload n) ∨ (∃ n, i = .aload_n n)) : sg_G p l e R s m args below meth c cells slots Q ad kA D A X y pc σ lv st S := by
  obtain ⟨⟨hx, hb, -⟩, -⟩ := C
  rcases hi with ⟨n, rfl⟩ | ⟨n, rfl⟩ | ⟨n, rfl⟩ | ⟨n, rfl⟩ | ⟨n, rfl⟩ | ⟨n, rfl⟩
  · obtain rfl : len = 2 := by simpa [sg_ln] using hln
    obtain ⟨v, hv, hk, rfl⟩ := sg_ld_of (show sg_ld n (pc + 2) sg_isI σ lv st = some (.inl S) from h)
    obtain ⟨x, rfl⟩ := sg_isI_of hk
    exact ⟨⟨ho, sg_okL_cons.mpr ⟨trivial, hs⟩, hlen⟩, fun k H locs ls hP hS hl => lv_iload hx hb hd (hl.2.2 n _ hv (by simp)) (k H locs ls hP hS hl)⟩
  · obtain rfl : len = 1 := by simpa [sg_ln] using hln
    obtain ⟨v, hv, hk, rfl⟩ := sg_ld_of (show sg_ld (n : Nat) (pc + 1) sg_isI σ lv st = some (.inl S) from h)
    obtain ⟨x, rfl⟩ := sg_isI_of hk
    exact ⟨⟨ho, sg_okL_cons.mpr ⟨trivial, hs⟩, hlen⟩, fun k H locs ls hP hS hl => lv_iload_n hx hb hd rfl (hl.2.2 (n : Nat) _ hv (by simp)) (k H locs ls hP hS hl)⟩
  · obtain rfl : len = 2 := by simpa [sg_ln] using hln
    obtain ⟨v, hv, hk, rfl⟩ := sg_ld_of (show sg_ld n (pc + 2) sg_isL σ lv st = some (.inl S) from h)
    obtain ⟨x, rfl⟩ := sg_isL_of hk
    exact ⟨⟨ho, sg_okL_cons.mpr ⟨trivial, hs⟩, hlen⟩, fun k H locs ls hP hS hl => lv_lload hx hb hd (hl.2.2 n _ hv (by simp)) (k H locs ls hP hS hl)⟩
  · obtain rfl : len = 1 := by simpa [sg_ln] using hln
    obtain ⟨v, hv, hk, rfl⟩ := sg_ld_of (show sg_ld (n : Nat) (pc + 1) sg_isL σ lv st = some (.inl S) from h)
    obtain ⟨x, rfl⟩ := sg_isL_of hk
    exact ⟨⟨ho, sg_okL_cons.mpr ⟨trivial, hs⟩, hlen⟩, fun k H locs ls hP hS hl => lv_lload_n hx hb hd rfl (hl.2.2 (n : Nat) _ hv (by simp)) (k H locs ls hP hS hl)⟩
  · obtain rfl : len = 2 := by simpa [sg_ln] using hln
    obtain ⟨v, hv, hk, rfl⟩ := sg_ld_of (show sg_ld n (pc + 2) sg_isR σ lv st = some (.inl S) from h)
    obtain ⟨t, q, rfl, h0⟩ := sg_isR_of hk
    exact ⟨⟨ho, sg_okL_cons.mpr ⟨sg_okL_get ho hv, hs⟩, hlen⟩, fun k H locs ls hP hS hl => lv_aload hx hb hd (hl.2.2 n _ hv (sg_r_ne h0)) (k H locs ls hP hS hl)⟩
  · obtain rfl : len = 1 := by simpa [sg_ln] using hln
    obtain ⟨v, hv, hk, rfl⟩ := sg_ld_of (show sg_ld (n : Nat) (pc + 1) sg_isR σ lv st = some (.inl S) from h)
    obtain ⟨t, q, rfl, h0⟩ := sg_isR_of hk
    exact ⟨⟨ho, sg_okL_cons.mpr ⟨sg_okL_get ho hv, hs⟩, hlen⟩, fun k H locs ls hP hS hl => lv_aload_n hx hb hd rfl (hl.2.2 (n : Nat) _ hv (sg_r_ne h0)) (k H locs ls hP hS hl)⟩
theorem sg_sto_of {n pc' : Nat} {ok : sg_V → Bool} (h : sg_sto n pc' ok σ lv st = some (.inl S)) : ∃ v r, st = v :: r ∧ ok v = true ∧ n < lv.length ∧ sg_nl lv n = true ∧ S = (pc', σ, lv.set n v, r) := by
  rcases st with _ | ⟨v, r⟩
  · cases h
  · simp only [sg_sto] at h
    by_cases hc : (ok v && (decide (n < lv.length) && sg_nl lv n)) = true
    · rw [if_pos hc] at h
      simp only [Bool.and_eq_true, decide_eq_true_eq] at hc
      exact ⟨v, r, rfl, hc.1, hc.2.1, hc.2.2, sg_nx_of h⟩
    · rw [if_neg hc] at h; cases h
theorem sg_sto2_of {n pc' : Nat} (h : sg_sto2 n pc' σ lv st = some (.inl S)) : ∃ x r, st = sg_l x :: r ∧ n + 1 < lv.length ∧ sg_nl lv n = true ∧ S = (pc', σ, (lv.set n (sg_l x)).set (n + 1) (sg_r 0 0), r) := by
  unfold sg_sto2 at h
  split at h
  · rename_i x r
    by_cases hc : (decide (n + 1 < lv.length) && sg_nl lv n) = true
    · rw [if_pos hc] at h
      simp only [Bool.and_eq_true, decide_eq_true_eq] at hc
      exact ⟨x, r, rfl, hc.1, hc.2, sg_nx_of h⟩
    · rw [if_neg hc] at h; cases h
  · cases h
theorem sg_s_store {i : Instr} (C : sg_C p R s m args c cells slots ad kA D A X y) (hd : decode (sg_code y) pc = .ok (i, len)) (hln : sg_ln i len = true) (h : sg_st y i len pc σ lv st = some (.inl S)) (ho : sg_okL lv) (hs : sg_okL st) (hlen : lv.length = sg_mx y)
    (hi : (∃ n, i = .istore n) ∨ (∃ n, i = .istore_n n) ∨ (∃ n, i = .lstore n) ∨ (∃ n, i = .lstore_n n) ∨ (∃ n, i = .astore n) ∨ (∃ n, i = .astore_n n) ∨ (∃ n k, i = .iinc n k)) : sg_G p l e R s m args below meth c cells slots Q ad kA D A X y pc σ lv st S := by
  obtain ⟨⟨hx, hb, -⟩, -⟩ := C
  rcases hi with ⟨n, rfl⟩ | ⟨n, rfl⟩ | ⟨n, rfl⟩ | ⟨n, rfl⟩ | ⟨n, rfl⟩ | ⟨n, rfl⟩ | ⟨n, z, rfl⟩
  · obtain rfl : len = 2 := by simpa [sg_ln] using hln
    obtain ⟨v, r, rfl, hk, hn, hnl, rfl⟩ := sg_sto_of (show sg_sto n (pc + 2) sg_isI σ lv st = some (.inl S) from h)
    obtain ⟨x, rfl⟩ := sg_isI_of hk
    exact ⟨⟨sg_okL_set ho trivial, (sg_okL_cons.mp hs).2, by simpa using hlen⟩, fun k H locs ls hP hS hl => lv_istore hx hb hd (sg_hl_has hl) hn rfl (fun ls' h' => k H locs ls' hP hS (sg_hl_set hn hnl h'))⟩
  · obtain rfl : len = 1 := by simpa [sg_ln] using hln
    obtain ⟨v, r, rfl, hk, hn, hnl, rfl⟩ := sg_sto_of (show sg_sto (n : Nat) (pc + 1) sg_isI σ lv st = some (.inl S) from h)
    obtain ⟨x, rfl⟩ := sg_isI_of hk
    exact ⟨⟨sg_okL_set ho trivial, (sg_okL_cons.mp hs).2, by simpa using hlen⟩, fun k H locs ls hP hS hl => lv_istore_n hx hb hd rfl (sg_hl_has hl) hn rfl (fun ls' h' => k H locs ls' hP hS (sg_hl_set hn hnl h'))⟩
  · obtain rfl : len = 2 := by simpa [sg_ln] using hln
    obtain ⟨x, r, rfl, hn, hnl, rfl⟩ := sg_sto2_of (show sg_sto2 n (pc + 2) σ lv st = some (.inl S) from h)
    exact ⟨⟨sg_okL_set (sg_okL_set ho trivial) (Or.inl ⟨rfl, rfl⟩), (sg_okL_cons.mp hs).2, by simpa using hlen⟩, fun k H locs ls hP hS hl => lv_lstore hx hb hd (sg_hl_has hl) hn rfl (fun ls' h' => k H locs ls' hP hS (sg_hl_set2 hn hnl h'))⟩
  · obtain rfl : len = 1 := by simpa [sg_ln] using hln
    obtain ⟨x, r, rfl, hn, hnl, rfl⟩ := sg_sto2_of (show sg_sto2 (n : Nat) (pc + 1) σ lv st = some (.inl S) from h)
    exact ⟨⟨sg_okL_set (sg_okL_set ho trivial) (Or.inl ⟨rfl, rfl⟩), (sg_okL_cons.mp hs).2, by simpa using hlen⟩, fun k H locs ls hP hS hl => lv_lstore_n hx hb hd rfl (sg_hl_has hl) hn rfl (fun ls' h' => k H locs ls' hP hS (sg_hl_set2 hn hnl h'))⟩
  · obtain rfl : len = 2 := by simpa [sg_ln] using hln
    obtain ⟨v, r, rfl, hk, hn, hnl, rfl⟩ := sg_sto_of (show sg_sto n (pc + 2) sg_isR σ lv st = some (.inl S) from h)
    obtain ⟨t, q, rfl, h0⟩ := sg_isR_of hk
    exact ⟨⟨sg_okL_set ho (sg_okL_cons.mp hs).1, (sg_okL_cons.mp hs).2, by simpa using hlen⟩, fun k H locs ls hP hS hl => lv_astore hx hb hd (sg_hl_has hl) hn rfl (fun ls' h' => k H locs ls' hP hS (sg_hl_set hn hnl h'))⟩
  · obtain rfl : len = 1 := by simpa [sg_ln] using hln
    obtain ⟨v, r, rfl, hk, hn, hnl, rfl⟩ := sg_sto_of (show sg_sto (n : Nat) (pc + 1) sg_isR σ lv st = some (.inl S) from h)
    obtain ⟨t, q, rfl, h0⟩ := sg_isR_of hk
    exact ⟨⟨sg_okL_set ho (sg_okL_cons.mp hs).1, (sg_okL_cons.mp hs).2, by simpa using hlen⟩, fun k H locs ls hP hS hl => lv_astore_n hx hb hd rfl (sg_hl_has hl) hn rfl (fun ls' h' => k H locs ls' hP hS (sg_hl_set hn hnl h'))⟩
  · obtain rfl : len = 3 := by simpa [sg_ln] using hln
    simp only [sg_st] at h
    split at h
    · rename_i x hv
      by_cases hc : (decide (n < lv.length) && sg_nl lv n) = true
      · rw [if_pos hc] at h
        simp only [Bool.and_eq_true, decide_eq_true_eq] at hc
        obtain rfl := sg_nx_of h
        refine ⟨⟨sg_okL_set ho trivial, hs, by simpa using hlen⟩, fun k H locs ls hP hS hl => ?_⟩
        obtain ⟨j, hj⟩ := List.getElem?_of_mem (sg_as_mem (ad := ad) hv (by simp))
        exact lv_iinc hx hb hd (sg_hl_has hl) hj rfl hc.1 rfl (fun ls' h' => k H locs ls' hP hS (sg_hl_set hc.1 hc.2 h'))
      · rw [if_neg hc] at h; cases h
    · cases h
theorem sg_find {α : Type} {l : List α} {f : α → Bool} {x : α} (h : l.find? f = some x) : x ∈ l ∧ f x = true := ⟨List.mem_of_find?_eq_some h, List.find?_some h⟩
theorem sg_s_ldc {n : Nat} (C : sg_C p R s m args c cells slots ad kA D A X y) (hd : decode (sg_code y) pc = .ok (.ldc2_w n, len)) (hln : sg_ln (.ldc2_w n) len = true) (h : sg_st y (.ldc2_w n) len pc σ lv st = some (.inl S)) (ho : sg_okL lv) (hs : sg_okL st) (hlen : lv.length = sg_mx y) : sg_G p l e R s m args below meth c cells slots Q ad kA D A X y pc σ lv st S := by
  obtain ⟨⟨hx, hb, hml, hown, hts⟩, -⟩ := C
  obtain rfl : len = 3 := by simpa [sg_ln] using hln
  simp only [sg_st] at h
  split at h
  · rename_i q hq
    obtain rfl := sg_nx_of h
    obtain ⟨h1, h2⟩ := sg_find hq
    simp only [Bool.and_eq_true, beq_iff_eq] at h2
    have h3 := List.all_eq_true.mp sg_kl_ok q h1
    rw [h2.1, h2.2] at h3
    exact ⟨⟨ho, sg_okL_cons.mpr ⟨trivial, hs⟩, hlen⟩, fun k H locs ls hP hS hl => lv_ldc2 hx hb hown (hts _ (sg_has_tb h3 rfl)) hd (k H locs ls hP hS hl)⟩
  · cases h
/-- an object's cell -/
theorem sg_obj {t q : Nat} {o : Nat × List (Option (Nat × Nat))} (hok : sg_ok (sg_r t q)) (hsh : sg_sh t = .inr (.inr o)) : q < 146 ∧ sg_tag q = t ∧ o.1 < 7 ∧ o.2.length = (sg_cq o.1).2.2 ∧ ∀ (k : Nat) (r : Nat × Nat), o.2[k]? = some (some r) → q + r.2 < 146 ∧ sg_tag (q + r.2) = r.1 := by
  have h1 := sg_sh_lt hsh
  obtain ⟨hc, ht⟩ := sg_ok_cell hok h1.1 (by omega)
  have h2 := sg_tagOk hc
  rw [ht, hsh] at h2
  simp only [Bool.and_eq_true, decide_eq_true_eq] at h2
  refine ⟨hc, ht, h2.2.1, h2.2.2.1, fun k r hk => ?_⟩
  have h3 := List.all_eq_true.mp h2.2.2.2 _ (List.mem_of_getElem? hk)
  simpa using h3
theorem sg_fl_of {o x : Nat} {q : Nat × Nat × Nat × Nat × Bool × Nat} (h : sg_fl o x = some q) : (sg_has q.2.2.2.2.2 (if q.2.2.2.2.1 then .fieldLinkNest (sg_cs o) x (sg_cq q.2.2.1).1 ((sg_cq q.2.2.1).2.1 q.2.2.2.1).2.1 ((sg_cq q.2.2.1).2.1 q.2.2.2.1).2.2.1 "SoftGlass"
  else .fieldLink (sg_cs o) x (sg_cq q.2.2.1).1 ((sg_cq q.2.2.1).2.1 q.2.2.2.1).2.1 ((sg_cq q.2.2.1).2.1 q.2.2.2.1).2.2.1) = true) ∧ q.2.2.1 < 7 ∧ q.2.2.2.1 < (sg_cq q.2.2.1).2.2 ∧ ((sg_cq q.2.2.1).2.1 q.2.2.2.1).1 = (sg_cq q.2.2.1).1 ∧ (q.2.2.2.2.1 = true → q.2.2.2.2.2 ∈ sg_nwp) := by
  obtain ⟨h1, h2⟩ := sg_find h
  simp only [Bool.and_eq_true, beq_iff_eq] at h2
  have h3 := List.all_eq_true.mp sg_fl_ok q h1
  have h4 := List.all_eq_true.mp sg_nw_fl q h1
  simp only [Bool.and_eq_true, decide_eq_true_eq, beq_iff_eq] at h3
  refine ⟨?_, h3.2.1, h3.2.2.1, h3.2.2.2, fun hn => by simpa [hn] using h4⟩
  have h5 := h3.1
  simp only [sg_flw, h2.1, h2.2] at h5
  exact h5
theorem sg_lay {k : Nat} (h : k < 7) : ∀ w ∈ u_ws (sg_cq k).1 (sg_cq k).2.1 (sg_cq k).2.2, w ∈ sg_tb := by
  intro w hw
  have h1 := List.all_eq_true.mp (List.all_eq_true.mp sg_lay_ok k (List.mem_range.mpr h)) w hw
  simp only [Bool.and_eq_true, decide_eq_true_eq] at h1
  exact List.mem_filter.mpr h1
theorem sg_s_getf {n : Nat} (C : sg_C p R s m args c cells slots ad kA D A X y) (hd : decode (sg_code y) pc = .ok (.getfield n, len)) (hln : sg_ln (.getfield n) len = true) (h : sg_st y (.getfield n) len pc σ lv st = some (.inl S)) (ho : sg_okL lv) (hs : sg_okL st) (hlen : lv.length = sg_mx y) : sg_G p l e R s m args below meth c cells slots Q ad kA D A X y pc σ lv st S := by
  obtain ⟨⟨hx, hb, hml, hown, hts⟩, -, hE⟩ := C
  obtain rfl : len = 3 := by simpa [sg_ln] using hln
  simp only [sg_st] at h
  split at h
  · rename_i q r
    obtain ⟨hq, hr⟩ := sg_okL_cons.mp hs
    split at h
    · rename_i fe hfe
      obtain ⟨hl1, hl2, hl3, hl4, hl5⟩ := sg_fl_of hfe
      unfold sg_fget at h
      split at h
      · rename_i o hsh
        by_cases hci : o.1 = fe.2.2.1
        · rw [if_pos hci] at h
          obtain ⟨hc, ht, ho7, holen, hof⟩ := sg_obj hq hsh
          have row : ∀ (x : Option (Nat × Nat)) (v : sg_V), o.2[fe.2.2.2.1]? = some x → sg_fv ad q.2 (σ q.2) (x, fe.2.2.2.1) = sg_cv ad v → sg_J p l e R s m args below meth c cells slots Q ad kA D A X (pc + 3, σ, lv, v :: r) → sg_J p l e R s m args below meth c cells slots Q ad kA D A X (pc, σ, lv, .inr (.inr q) :: r) := by
            intro x v hxk hv k H locs ls hP hS hl
            have he : (sg_ws ad kA σ)[q.2]? = some (ad q.2, .inr (fe.2.2.1, o.2.zipIdx.map (sg_fv ad q.2 (σ q.2)))) := by rw [sg_ws_get hc, ht, sg_cell_obj hsh, hci]
            have hk := k H locs ls hP hS hl
            have hval := sg_fv_get (ad := ad) (c := q.2) (f := σ q.2) hxk
            rw [hv] at hval
            by_cases hn : fe.2.2.2.2.1 = true
            · rw [if_pos hn] at hl1
              exact va_getN (D := D) (cl := sg_cl) (C := (sg_cq fe.2.2.1).1) (T := (sg_cq fe.2.2.1).2.1) (N := (sg_cq fe.2.2.1).2.2) (ref := (sg_cq fe.2.2.1).1) hx hb hts (sg_lay hl2) hown hE.1 hP.1 q.2 he (sg_cq_eq hl2) fe.2.2.2.1 hl3 (va_Nw.use rfl (hE.2.1 _ (sg_nw_mem hl1 (hl5 hn)))) (fun x hx => by rw [hl4] at hx; exact hx) hval hd hk
            · rw [if_neg hn] at hl1
              exact va_get (D := D) (cl := sg_cl) (C := (sg_cq fe.2.2.1).1) (T := (sg_cq fe.2.2.1).2.1) (N := (sg_cq fe.2.2.1).2.2) (ref := (sg_cq fe.2.2.1).1) hx hb hts (sg_lay hl2) hown hE.1 hP.1 q.2 he (sg_cq_eq hl2) fe.2.2.2.1 hl3 (hts _ (sg_has_tb hl1 rfl)) (fun x hx => by rw [hl4] at hx; exact hx) hval hd hk
          split at h
          · rename_i hk
            obtain rfl := sg_nx_of h
            exact ⟨⟨ho, sg_okL_cons.mpr ⟨trivial, hr⟩, hlen⟩, row _ _ hk rfl⟩
          · rename_i rr hk
            obtain rfl := sg_nx_of h
            have h9 := hof _ _ hk
            exact ⟨⟨ho, sg_okL_cons.mpr ⟨Or.inr (Or.inl h9), hr⟩, hlen⟩, row _ _ hk rfl⟩
          · cases h
        · rw [if_neg hci] at h; cases h
      · cases h
    · cases h
  · cases h
end SGT
