section SGY
variable {p : Program} {l : Launch} {e : Env} {R : Room} {s : State} {m : MethodId} {args : Array Value} {below : List Frame} {meth : Method} {c : Code} {cells slots : Nat} {Q : State → Prop} {ad : Nat → Nat} {kA : Nat → ClassId} {D : va_G} {A : Nat → Prop} {X : Nat × (Nat → Int32)}
variable {y pc len : Nat} {σ : sg_M} {lv st : List sg_V} {S : sg_S}
theorem sg_goodIn {ws : List Jvm.Cond} (h : ∀ w ∈ ws, w ∈ sg_tb) : GoodIn sg_tb ws := fun w hw => ⟨h w hw, good_of_word (List.mem_filter.mp (h w hw)).2⟩
theorem sg_cw_tb {z : Nat} (hz : z < 199) : sg_cw z ∈ sg_tb := List.mem_filter.mpr ⟨sg_cp_ok hz, rfl⟩
theorem sg_wd_tb {z : Nat} (hz : z < 199) : ∀ w ∈ sg_wd z, w ∈ sg_tb := by
  intro w hw
  rcases List.mem_cons.mp hw with h | h
  · rw [h]; exact sg_cw_tb hz
  · exact h
theorem sg_okL_sub {a b : List sg_V} (h : sg_okL b) (hs : ∀ v ∈ a, v ∈ b) : sg_okL a := fun v hv => h v (hs v hv)
theorem sg_cn7 : ((List.range 7).all fun k => decide ((sg_cq k).1 = sg_cs k)) = true := by decide +kernel
theorem sg_callee {q : Nat × Nat × Nat × Nat × Nat × Nat × Nat × Nat} (hk : q.2.2.1 = 0 ∨ q.2.2.1 = 1 ∨ q.2.2.1 = 2 ∨ q.2.2.1 = 3 ∨ q.2.2.1 = 4) (h : sg_mlc q = true) : q.2.2.2.1 < 199 := by
  rcases hk with hk | hk | hk | hk | hk <;> simp only [sg_mlc, hk, Bool.and_eq_true, decide_eq_true_eq] at h <;> exact h.1
theorem sg_enl_rev (as : List sg_V) : sg_enl as.reverse = sg_enl as := by
  simp [sg_enl, List.map_reverse, List.sum_reverse]
theorem sg_call_facts {i : Instr} {k : sg_K} (h : sg_st y i len pc σ lv st = some (.inr (.inr k))) (hs : sg_okL st) : k.1 < 199 ∧ sg_enl k.2.1 ≤ sg_mx k.1 ∧ sg_okL k.2.1 ∧ sg_okL k.2.2.2.2 ∧ k.2.2.2.1 = lv := by
  have key : ∀ {virt : Bool} {n : Nat}, sg_cal y virt n pc σ lv st = some (.inr (.inr k)) → k.1 < 199 ∧ sg_enl k.2.1 ≤ sg_mx k.1 ∧ sg_okL k.2.1 ∧ sg_okL k.2.2.2.2 ∧ k.2.2.2.1 = lv := by
    intro virt n h
    obtain ⟨q, hq, hi, hk⟩ := sg_cal_call h
    obtain ⟨⟨h1, h2, h3, h4, h5, h6⟩, hx⟩ := sg_inv_of hi
    cases hx
    refine ⟨sg_callee ?_ (sg_ml_of hq).2.2.1, by rw [sg_enl_rev]; exact h2, sg_okL_sub hs (fun v hv => List.mem_of_mem_take (List.mem_reverse.mp hv)), sg_okL_sub hs (fun v hv => List.mem_of_mem_drop hv), rfl⟩
    cases virt <;> simp at hk <;> omega
  rcases sg_call_i h with ⟨n, -, h1⟩ | ⟨n, -, h1⟩
  · exact key h1
  · exact key h1
theorem sg_call_step {i : Instr} {k : sg_K} {o : sg_O} (C : sg_C p R s m args c cells slots ad kA D A X y) (hd : decode (sg_code y) pc = .ok (i, len)) (hln : sg_ln i len = true) (h : sg_st y i len pc σ lv st = some (.inr (.inr k))) (hs : sg_okL st) (hlen : lv.length = sg_mx y)
    (hM : Met l (sg_nm k.1) (sg_wd k.1) (sg_rm k.1) (sg_Pc ad kA D A X k.2.1 σ) (sg_Q ad kA D A X o) 0 0 A)
    (kk : sg_J p l e R s m args below meth c cells slots Q ad kA D A X (k.2.2.1, o.2, k.2.2.2.1, o.1.toList ++ k.2.2.2.2)) : sg_J p l e R s m args below meth c cells slots Q ad kA D A X (pc, σ, lv, st) := by
  obtain ⟨⟨hx, hb, hml, hown, hts⟩, ⟨hf1, hf2, hf3, hf4⟩, hE⟩ := C
  rcases sg_call_i h with ⟨n, rfl, h1⟩ | ⟨n, rfl, h1⟩
  · obtain rfl : len = 3 := by simpa [sg_ln] using hln
    obtain ⟨q, hq, hi, hk⟩ := sg_cal_call h1
    simp only [if_true] at hi hk
    obtain ⟨⟨g1, g2, g3, g4, g5, g6⟩, hkx⟩ := sg_inv_of hi
    cases hkx
    obtain ⟨e1, e2, hmc, hnw⟩ := sg_ml_of hq
    generalize hz : q.2.2.2.1 = z at *
    have hz9 : z < 199 := hz ▸ sg_callee (by omega) hmc
    have hmt := sg_mt_of hz9
    -- the receiver
    have hrc := g6 rfl
    cases hgl : (st.take (sg_np z + 1)).getLast? with
    | none => rw [hgl] at hrc; simp [sg_rc] at hrc
    | some v =>
      rw [hgl] at hrc
      rcases v with x | x | rq
      · simp [sg_rc] at hrc
      · simp [sg_rc] at hrc
      · have htc : sg_tc rq.1 = some (sg_cn z) := by simpa [sg_rc] using hrc
        obtain ⟨dl, hT⟩ := List.getLast?_eq_some_iff.mp hgl
        have hdl : dl.length = sg_np z := by
          have h9 := congrArg List.length hT
          rw [List.length_take, List.length_append] at h9
          simp at h9
          omega
        have hst : st = dl ++ (.inr (.inr rq) :: st.drop (sg_np z + 1)) := by
          have := (List.take_append_drop (sg_np z + 1) st).symm
          rw [hT] at this
          simpa using this
        have hrev : (st.take (sg_np z + 1)).reverse = .inr (.inr rq) :: dl.reverse := by rw [hT]; simp
        have hrok : sg_ok (.inr (.inr rq)) := hs _ (by rw [hst]; simp)
        have hsh : ∃ oo, sg_sh rq.1 = .inr (.inr oo) ∧ oo.1 = sg_cn z := by
          unfold sg_tc at htc
          split at htc
          · rename_i oo hoo
            exact ⟨oo, hoo, Option.some.inj htc⟩
          · cases htc
        obtain ⟨oo, hoo, hoc⟩ := hsh
        obtain ⟨hcl, htg, ho7, -, -⟩ := sg_obj (t := rq.1) (q := rq.2) hrok hoo
        have hcls : (sg_cq oo.1).1 = (sg_nm z).cls := by
          have h9 := of_decide_eq_true (List.all_eq_true.mp sg_cn7 oo.1 (List.mem_range.mpr ho7))
          rw [h9, hmt.2.1, hoc]
        intro H locs ls hP hS hl
        have hrecv : ∃ cellB : Cell, H[ad rq.2]? = some cellB ∧ cellB.vm.isStatics = false ∧ s.vm.findClass (sg_nm z).cls = some cellB.cls := by
          have := va_recv hE.1 hP.1 (sg_cq_eq ho7) (q0 := rq.2) (a := ad rq.2) (fs := oo.2.zipIdx.map (sg_fv ad rq.2 (σ rq.2))) (by rw [sg_ws_get hcl, htg, sg_cell_obj hoo])
          rw [hcls] at this
          exact this
        rw [hrev] at hM
        have hPre : PreV s H (sg_nm z).cls (ad rq.2) (sg_Pc ad kA D A X (.inr (.inr rq) :: dl.reverse) σ) (dl.reverse.map (sg_cv ad)) := ⟨sg_blind _, hrecv, fun U hU hW => ⟨rfl, by rw [hU]; exact sg_E_warm hW (sg_E_kept hE hS), by rw [hU]; exact hP⟩⟩
        have hstk : st.map (sg_cv ad) = (dl.reverse.map (sg_cv ad)).reverse ++ .ref (ad rq.2) :: (st.drop (sg_np z + 1)).map (sg_cv ad) := by
          rw [List.map_reverse, List.reverse_reverse]
          conv => lhs; rw [hst]
          simp [sg_cv]
        have hlr : (dl.reverse.map (sg_cv ad)).length = sg_np z := by simp [hdl]
        have hrm : 2 * (F0 m pc ls (st.map (sg_cv ad))).monitorRoom + (((st.drop (sg_np z + 1)).map (sg_cv ad)).map fun v => v.category).sum ≤ 8 := lv_room (by rw [sg_cats]; exact g3)
        have hR : (sg_rm z).frames + 1 ≤ R.frames ∧ 8 + (sg_mx z + 11) + (sg_rm z).locals ≤ R.locals := ⟨Nat.le_trans g4 hf1, Nat.le_trans g5 hf2⟩
        have hlsz : (F0 m pc ls (st.map (sg_cv ad))).locals.size = sg_mx y := by show ls.size = _; rw [hl.1, hlen]
        rcases hk with hk | hk
        · simp only [sg_mlc, hk, e1, e2, hz, Bool.and_eq_true] at hmc
          have hG : GoodIn sg_tb (wsV (sg_cs (sg_cn y)) n (sg_nm z).cls (sg_nm z) (sg_wd z)) := by
            refine sg_goodIn (fun w hw => ?_)
            simp only [wsV, List.cons_append, List.nil_append, List.mem_cons] at hw
            rcases hw with rfl | rfl | rfl | rfl | hw
            · exact sg_has_tb hmc.2.1 rfl
            · exact sg_has_tb hmc.2.2.1 rfl
            · exact sg_has_tb hmc.2.2.2.1 rfl
            · exact sg_has_tb hmc.2.2.2.2 rfl
            · exact sg_wd_tb hz9 w hw
          refine sg_callW (a := (Value.ref (ad rq.2) :: dl.reverse.map (sg_cv ad)).toArray) (va_runV (rest := (st.drop (sg_np z + 1)).map (sg_cv ad)) ⟨hx, hb, hml, hown, hts⟩ hM (cwV (sg_np z) hts hG rfl rfl rfl ⟨rfl, hmt.2.2.1, hmt.2.2.2.1, hmt.2.2.2.2⟩ hR) hPre rfl hlr hlsz hstk hrm hd ⟨hf3, hf4⟩) hS (fun H1 locs1 p1 s1 => ?_)
          have h9 := kk H1 locs1 ls p1 s1 hl
          simp only [List.map_append] at h9
          rw [Option.toList_map]
          exact h9
        · simp only [sg_mlc, hk, e1, e2, hz, Bool.and_eq_true] at hmc
          have hnl : va_Nw (.methodLinkNest (sg_cs (sg_cn y)) n (sg_nm z) "SoftGlass") s := hE.2.1 _ (sg_nw_mem hmc.2.1 (hnw (Or.inl hk)))
          refine sg_callW (a := (Value.ref (ad rq.2) :: dl.reverse.map (sg_cv ad)).toArray) (va_runVN (rest := (st.drop (sg_np z + 1)).map (sg_cv ad)) (C := (sg_nm z).cls) ⟨hx, hb, hml, hown, hts⟩ hM ⟨va_cnB (sg_np z) hts (sg_goodIn (sg_wd_tb hz9)) rfl rfl rfl hnl (hts _ (sg_has_tb hmc.2.2.2.2 rfl)) ⟨hmt.2.2.1, hmt.2.2.2.1, hmt.2.2.2.2⟩ hR, hts _ (sg_has_tb hmc.2.2.1 rfl), hts _ (sg_has_tb hmc.2.2.2.1 rfl)⟩ hPre rfl hlr hlsz hstk hrm hd ⟨hf3, hf4⟩) hS (fun H1 locs1 p1 s1 => ?_)
          have h9 := kk H1 locs1 ls p1 s1 hl
          simp only [List.map_append] at h9
          rw [Option.toList_map]
          exact h9
  · obtain rfl : len = 3 := by simpa [sg_ln] using hln
    obtain ⟨q, hq, hi, hk⟩ := sg_cal_call h1
    simp only [Bool.false_eq_true, if_false] at hi hk
    obtain ⟨⟨g1, g2, g3, g4, g5, g6⟩, hkx⟩ := sg_inv_of hi
    cases hkx
    obtain ⟨e1, e2, hmc, hnw⟩ := sg_ml_of hq
    generalize hz : q.2.2.2.1 = z at *
    have hz9 : z < 199 := hz ▸ sg_callee (by omega) hmc
    have hmt := sg_mt_of hz9
    intro H locs ls hP hS hl
    have hPre : PreS s H (sg_Pc ad kA D A X (st.take (sg_np z)).reverse σ) ((st.take (sg_np z)).reverse.map (sg_cv ad)) := ⟨sg_blind _, fun U hU hW => ⟨rfl, by rw [hU]; exact sg_E_warm hW (sg_E_kept hE hS), by rw [hU]; exact hP⟩⟩
    have hstk : st.map (sg_cv ad) = ((st.take (sg_np z)).reverse.map (sg_cv ad)).reverse ++ (st.drop (sg_np z)).map (sg_cv ad) := by
      rw [List.map_reverse, List.reverse_reverse, ← List.map_append, List.take_append_drop]
    have hlr : ((st.take (sg_np z)).reverse.map (sg_cv ad)).length = sg_np z := by simp; omega
    have hrm : 2 * (F0 m pc ls (st.map (sg_cv ad))).monitorRoom + (((st.drop (sg_np z)).map (sg_cv ad)).map fun v => v.category).sum ≤ 8 := lv_room (by rw [sg_cats]; exact g3)
    have hR : (sg_rm z).frames + 1 ≤ R.frames ∧ 8 + (sg_mx z + 11) + (sg_rm z).locals ≤ R.locals := ⟨Nat.le_trans g4 hf1, Nat.le_trans g5 hf2⟩
    have hlsz : (F0 m pc ls (st.map (sg_cv ad))).locals.size = sg_mx y := by show ls.size = _; rw [hl.1, hlen]
    have st14 : (sg_has q.2.2.2.2.1 (.methodLink (sg_cs (sg_cn y)) n (sg_nm z)) = true ∧ sg_has q.2.2.2.2.2.1 (.static (sg_nm z)) = true ∧ sg_has q.2.2.2.2.2.2.2 (.initialized (sg_nm z).cls) = true) → W p l e R s m args below meth c H locs cells slots Q (F0 m pc ls (st.map (sg_cv ad))) := by
      intro hmc
      have hG : GoodIn sg_tb (va_wsS (sg_cs (sg_cn y)) n (sg_nm z) (sg_wd z)) := by
        refine sg_goodIn (fun w hw => ?_)
        simp only [va_wsS, List.cons_append, List.nil_append, List.mem_cons] at hw
        rcases hw with rfl | rfl | rfl | hw
        · exact sg_has_tb hmc.1 rfl
        · exact sg_has_tb hmc.2.1 rfl
        · exact sg_has_tb hmc.2.2 rfl
        · exact sg_wd_tb hz9 w hw
      refine sg_callW (a := ((st.take (sg_np z)).reverse.map (sg_cv ad)).toArray) (va_runS (rest := (st.drop (sg_np z)).map (sg_cv ad)) ⟨hx, hb, hml, hown, hts⟩ hM (va_cwS (sg_np z) hts hG rfl rfl rfl ⟨hmt.2.2.1, hmt.2.2.2.1, hmt.2.2.2.2⟩ hR) hPre rfl hlr hlsz hstk hrm hd ⟨hf3, hf4⟩) hS (fun H1 locs1 p1 s1 => ?_)
      have h9 := kk H1 locs1 ls p1 s1 hl
      simp only [List.map_append] at h9
      rw [Option.toList_map]
      exact h9
    rcases hk with hk | hk | hk
    · simp only [sg_mlc, hk, e1, e2, hz, Bool.and_eq_true] at hmc
      exact st14 hmc.2
    · simp only [sg_mlc, hk, e1, e2, hz, Bool.and_eq_true] at hmc
      have hnl : va_Nw (.methodLinkNest (sg_cs (sg_cn y)) n (sg_nm z) "SoftGlass") s := hE.2.1 _ (sg_nw_mem hmc.2.1 (hnw (Or.inr hk)))
      refine sg_callW (a := ((st.take (sg_np z)).reverse.map (sg_cv ad)).toArray) (va_runSN (rest := (st.drop (sg_np z)).map (sg_cv ad)) ⟨hx, hb, hml, hown, hts⟩ hM ⟨va_cnB (sg_np z) hts (sg_goodIn (sg_wd_tb hz9)) rfl rfl rfl hnl (hts _ (sg_has_tb hmc.2.2.2 rfl)) ⟨hmt.2.2.1, hmt.2.2.2.1, hmt.2.2.2.2⟩ hR, hts _ (sg_has_tb hmc.2.2.1 rfl), trivial⟩ hPre rfl hlr hlsz hstk hrm hd ⟨hf3, hf4⟩) hS (fun H1 locs1 p1 s1 => ?_)
      have h9 := kk H1 locs1 ls p1 s1 hl
      simp only [List.map_append] at h9
      rw [Option.toList_map]
      exact h9
    · simp only [sg_mlc, hk, e1, e2, hz, Bool.and_eq_true] at hmc
      exact st14 hmc.2
/-- no answer is a reference -/
theorem sg_run_nr : ∀ (n y pc : Nat) (σ : sg_M) (lv st : List sg_V) (o : sg_O), sg_run n y pc σ lv st = some o → sg_okL o.1.toList := by
  intro n
  induction n with
  | zero => intro y pc σ lv st o h; cases h
  | succ n ih =>
    intro y pc σ lv st o h
    simp only [sg_run] at h
    split at h
    · cases h
    · rename_i q hq
      split at h
      · split at h
        · cases h
        · exact ih _ _ _ _ _ _ h
        · rename_i o' ho'
          cases h
          have h1 := (sg_ret_i ho').2.2
          obtain ⟨o1, σ'⟩ := o
          rcases o1 with _ | v | v | q
          · intro v hv; simp at hv
          · intro w hw; simp at hw; subst hw; trivial
          · intro w hw; simp at hw; subst hw; trivial
          · exact absurd h1 (by simp)
        · split at h
          · cases h
          · exact ih _ _ _ _ _ _ h
      · cases h
theorem sg_sound : ∀ (n y pc : Nat) (σ : sg_M) (lv st : List sg_V) (o : sg_O), sg_run n y pc σ lv st = some o → lv.length = sg_mx y → sg_okL lv → sg_okL st →
    ∀ (p : Program) (e : Env) (R : Room) (s : State) (m : MethodId) (args : Array Value) (below : List Frame) (meth : Method) (c : Code) (cells slots : Nat) (Q : State → Prop), sg_C p R s m args c cells slots ad kA D A X y → sg_Rt p l e R s m args below meth c cells slots Q ad kA D A X y o → sg_J p l e R s m args below meth c cells slots Q ad kA D A X (pc, σ, lv, st) := by
  intro n
  induction n with
  | zero => intro y pc σ lv st o h; cases h
  | succ n ih =>
    intro y pc σ lv st o h hlen hlv hst p e R s m args below meth c cells slots Q C hRt
    simp only [sg_run] at h
    split at h
    · cases h
    · rename_i q hq
      split at h
      · rename_i hln
        split at h
        · cases h
        · rename_i S hS
          obtain ⟨⟨g1, g2, g3⟩, g4⟩ := sg_step (l := l) (e := e) (below := below) (meth := meth) (Q := Q) C hq hln hS hlv hst hlen
          exact g4 (ih _ _ _ _ _ _ h g3 g1 g2 p e R s m args below meth c cells slots Q C hRt)
        · rename_i o' ho'
          cases h
          obtain ⟨h1, h2, h3⟩ := sg_ret_i ho'
          intro H locs ls hP hS hl
          have hq1 : q.2 = 1 := by
            obtain ⟨qi, ql⟩ := q
            obtain ⟨o1, σ'⟩ := o
            rcases o1 with _ | v | v | q
            · obtain ⟨rfl, -⟩ := h3; simpa [sg_ln] using hln
            · obtain ⟨rfl, -⟩ := h3; simpa [sg_ln] using hln
            · obtain ⟨rfl, -⟩ := h3; simpa [sg_ln] using hln
            · exact absurd h3 (by simp)
          rw [← h1] at hP
          have := hRt H locs ls pc q.1 (by rw [hq, ← hq1]) h3 hP hS
          show W p l e R s m args below meth c H locs cells slots Q (F0 m pc ls (st.map (sg_cv ad)))
          rw [h2]
          exact this
        · rename_i k hk
          split at h
          · cases h
          · rename_i o1 ho1
            obtain ⟨f1, f2, f3, f4, f5⟩ := sg_call_facts hk hst
            have hM : Met l (sg_nm k.1) (sg_wd k.1) (sg_rm k.1) (sg_Pc ad kA D A X k.2.1 σ) (sg_Q ad kA D A X o1) 0 0 A := sg_met f1 f2 (fun p e R s m args below meth c cells slots Q C hRt => ih _ _ _ _ _ _ ho1 (sg_en_len f2) (sg_en_ok f3) (by intro v hv; simp at hv) p e R s m args below meth c cells slots Q C hRt)
            refine sg_call_step C hq hln hk hst hlen hM (ih _ _ _ _ _ _ h (by rw [f5]; exact hlen) (by rw [f5]; exact hlv) ?_ p e R s m args below meth c cells slots Q C hRt)
            intro v hv
            rcases List.mem_append.mp hv with h9 | h9
            · exact sg_run_nr _ _ _ _ _ _ _ ho1 v h9
            · exact f4 v h9
      · cases h
end SGY
