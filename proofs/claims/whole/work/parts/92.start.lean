def R_law : String := "SoftGlassLaw"
def lw_P (b : Addr) (xs : List Int32) (args : Array Value) (s : State) : Prop := args = #[.ref b] ∧ s.IntsAt b xs ∧ xs.length ≤ 4096 ∧ (Jvm.Cond.and given_1 narrow_1).before args s = true
def lw_Q (_ : Array Value) (s : State) (o : Outcome) (t : State) : Prop := o = .returned (some (.int 1)) ∧ Framed s o t [] 600000 7302250
def lw_Z (below : List Frame) (a : Array Value) (s : State) : State → Prop := fun t => ∃ o, t.status = .running ∧ Ended t below o ∧ lw_Q a s o t
/-- the law's own end, with 1 on the stack, nothing written that was there before, its room as the claim has it -/
theorem lw_ret {p : Program} {l : Launch} {e : Env} {s : State} {m : MethodId} {below : List Frame} {meth : Method} {c : Code} {b : Nat} (hx : p.tables.exec = Jvm.exec) (hb : c.code = code) (hr : meth.sig.returnType = ret) (hlocks : meth.locks = false) {pc : Nat} {H : Heap} {ls : Array Slot} (hdg : decode code pc = .ok (.ireturn, 1)) : W p l e room_1 s m #[Value.ref b] below meth c H [] 600000 7302250 (lw_Z below #[Value.ref b] s) (F0 m pc ls [.int 1]) := by
  intro T hT X
  obtain ⟨fs, hret, hrun, hended, hW, hframe⟩ := X.leave (v := some (.int 1)) (hlocks := hlocks) (fun h => by rw [hr] at h; cases h)
  have hmeth' : T.vm.method? m = some meth := X.method'
  refine ⟨T.setFrames fs, ?_, .returned (some (.int 1)), hrun, hended, rfl, ⟨_, rfl⟩, hW, hframe⟩
  jvm_step X.here [X.here.top, hx, hb, hdg, hmeth', hr, ret, narrow_b1]
  (try refine ⟨rfl, ?_⟩); (try refine ⟨rfl, ?_⟩)
  first | (intro acts; rw [hret _ acts rfl rfl rfl]) | rw [hret _ _ rfl rfl rfl]
  exact Steps.refl _
/-- what holds at the law's entry: the machine, the code, the tables' words (any of lw_tbl by 'hts w (by decide +kernel)'), the script of L ints xs at the cell b, what the Statement gives of the start (any of its parts by flat_of_before) -/
def lw_At (p : Program) (s : State) (m : MethodId) (meth : Method) (c : Code) (b L : Nat) (xs : Nat → Int32) : Prop :=
  p.tables.exec = Jvm.exec ∧ c.code = code ∧ meth.sig.returnType = ret ∧ c.maxLocals = 4 ∧ s.vm.findClass R_law = some m.cls ∧ (∀ w ∈ lw_tbl, w.before #[Value.ref b] s = true) ∧ va_X b L xs s s.heap ∧ b < s.heap.size ∧ meth.locks = false ∧ (Jvm.Cond.and given_1 narrow_1).before #[Value.ref b] s = true
theorem cz_inok : ((List.range 7).all fun k => decide (Cond.instantiable (sg_cq k).1 (sg_cq k).2.2 ∈ lw_tbl)) = true := by decide +kernel
theorem cz_over {args : Array Value} {s : State} {C : String} (h : (Cond.arrayOver (.object C)).before args s = true) : ∃ c : ClassId, ArrOfT s c (.object C) ∧ va_RA s c (.object C) := by
  obtain ⟨comp, c, k, h1, h2, h3, h4, h5⟩ := Cond.arrayOver_spec h
  exact ⟨c, fun n z => ⟨(fun k h => by cases h), k, h3, comp, h4⟩, k, comp, h3, h4, h1, h5⟩
theorem cz_known {args : Array Value} {s : State} (hts : ∀ w ∈ lw_tbl, w.before args s = true) : ∃ (D : va_G) (kA : Nat → ClassId), cn_E D kA s := by
  have htb : ∀ w ∈ sg_tb, w.before args s = true := fun w hw => hts w (List.mem_filter.mp hw).1
  have h0 : ∀ k : Nat, ∃ q : ClassId × (Nat → Nat), k < 7 → u_Kn s (sg_cq k).1 (sg_cq k).2.1 (sg_cq k).2.2 q.1 q.2 := by
    intro k
    by_cases hk : k < 7
    · obtain ⟨c, i, h⟩ := u_known (C := (sg_cq k).1) (T := (sg_cq k).2.1) (N := (sg_cq k).2.2) (n := (sg_cq k).2.2) htb (sg_lay hk) (hts _ (of_decide_eq_true (List.all_eq_true.mp cz_inok k (List.mem_range.mpr hk))))
      exact ⟨(c, i), fun _ => h⟩
    · exact ⟨(0, fun _ => 0), fun h => absurd h hk⟩
  have w2 := hts (.arrayOver (.object "SoftGlass$Piece")) (sg_has_mem (p := 81) (by decide +kernel))
  have w3 := hts (.arrayOver (.object "SoftGlass$Recipe")) (sg_has_mem (p := 117) (by decide +kernel))
  have w6 := hts (.arrayOver (.object "SoftGlass$Sheet")) (sg_has_mem (p := 155) (by decide +kernel))
  obtain ⟨c0, k0, m0, a1, a2, a3⟩ := Cond.arrayClass_spec (hts (.arrayClass .int) (sg_has_mem (p := 115) (by decide +kernel)))
  obtain ⟨c2, b2⟩ := cz_over w2
  obtain ⟨c3, b3⟩ := cz_over w3
  obtain ⟨c6, b6⟩ := cz_over w6
  refine ⟨(fun k => (Classical.choose (h0 k)).1, fun k => (Classical.choose (h0 k)).2), fun t => if t = 0 then c0 else if t = 2 then c2 else if t = 3 then c3 else c6, ⟨fun k q hq => ?_, fun k q hq => ?_⟩, fun w hw => ?_, va_AO.of w2, va_AO.of w3, va_AO.of w6⟩
  · have hk : k < 7 := (List.getElem?_eq_some_iff.mp hq).1
    rw [sg_cq_eq hk] at hq
    obtain rfl := Option.some.inj hq
    exact Classical.choose_spec (h0 k) hk
  · match k, hq with
    | 0, hq => cases hq; exact ⟨fun n z => ⟨(fun k h => by cases h), k0, a2, m0, a3⟩, a1⟩
    | 1, hq => cases hq; exact b2
    | 2, hq => cases hq; exact b3
    | 3, hq => cases hq; exact b6
    | k + 4, hq => simp [sg_tys] at hq
  · obtain ⟨p, -, hp⟩ := List.mem_filterMap.mp hw
    have h1 := hts w (List.mem_of_getElem? hp)
    rcases sg_nw_kind hw with ⟨a, i, b, n, d, g, rfl⟩ | ⟨a, i, x, g, rfl⟩
    · exact va_Nw.of rfl h1
    · exact va_Nw.of rfl h1
def cz_g : List Jvm.Cond := flatC (Jvm.Cond.and given_1 narrow_1)
def cz_tm (k : Nat) : Jvm.Term := .static (sg_sq k).1 (sg_sq k).2.1 (sg_sq k).2.2
theorem cz_stok : ((List.range 6).all fun k => decide (k = 0) || (decide (Cond.arrayOf (cz_tm k) (sg_roT k) ∈ cz_g) && (decide (Cond.eq (.length (cz_tm k)) (.int (Int32.ofNat 7)) ∈ cz_g) && ((List.range 7).all (fun j => decide (Cond.eq (.elem (cz_tm k) (.int (Int32.ofNat j))) (.int ((sg_sv.getD k []).getD j 0)) ∈ cz_g)) && (decide (Cond.laysStatic (sg_sq k).1 (sg_sq k).2.1 (sg_sq k).2.2 ∈ lw_tbl) && decide (Cond.initialized (sg_sq k).1 ∈ lw_tbl)))))) = true := by decide +kernel
theorem cz_st {b : Nat} {s : State} {A : Nat → Prop} (hts : ∀ w ∈ lw_tbl, w.before #[Value.ref b] s = true) (hgv : (Jvm.Cond.and given_1 narrow_1).before #[Value.ref b] s = true) (hA : ∀ a : Nat, a < s.heap.size → ¬ A a) {k : Nat} (h1 : 1 ≤ k) (h6 : k < 6) : ∃ t : Nat, va_T (sg_roT k) t 7 (fun j => .int ((sg_sv.getD k []).getD j 0)) A s s.heap ∧ va_Z (sg_sq k).1 (sg_sq k).2.1 (sg_sq k).2.2 (.ref t) A s s.heap := by
  have h := List.all_eq_true.mp cz_stok k (List.mem_range.mpr h6)
  simp only [Bool.or_eq_true, Bool.and_eq_true, decide_eq_true_eq, List.all_eq_true, List.mem_range] at h
  rcases h with h | ⟨g1, g2, g3, g4, g5⟩
  · omega
  · have hs := flat_of_before _ hgv
    obtain ⟨t, ht, hT⟩ := va_Tof (args := #[Value.ref b]) (tm := cz_tm k) (N := 7) (f := fun j => .int ((sg_sv.getD k []).getD j 0)) (A := A) (by decide) (hs _ g1) (va_eqt (hs _ g2)) (fun j hj => va_eqt (hs _ (g3 j hj))) hA
    exact ⟨t, hT, va_Zref (hts _ g4) (hts _ g5) ht hA⟩
theorem cz_E {s : State} {b L : Nat} {xs : Nat → Int32} (hts : ∀ w ∈ lw_tbl, w.before #[Value.ref b] s = true) (hX : va_X b L xs s s.heap) (hbl : b < s.heap.size) (hgv : (Jvm.Cond.and given_1 narrow_1).before #[Value.ref b] s = true) : ∃ (D : va_G) (kA : Nat → ClassId) (t : Nat → Nat), t 0 = b ∧ cn_E D kA s ∧ ∀ ad : Nat → Nat, (∀ k, ad (1000 + k) = t k) → sg_E ad kA D (fun q : Nat => s.heap.size ≤ q) (L, xs) s s.heap := by
  obtain ⟨D, kA, hE⟩ := cz_known hts
  have hA : ∀ a : Nat, a < s.heap.size → ¬ (fun q : Nat => s.heap.size ≤ q) a := fun a h => Nat.not_le.mpr h
  have h0 : ∀ k : Nat, ∃ t : Nat, (k = 0 → t = b) ∧ (1 ≤ k → k < 6 → va_T (sg_roT k) t 7 (fun j => .int ((sg_sv.getD k []).getD j 0)) (fun q : Nat => s.heap.size ≤ q) s s.heap ∧ va_Z (sg_sq k).1 (sg_sq k).2.1 (sg_sq k).2.2 (.ref t) (fun q : Nat => s.heap.size ≤ q) s s.heap) := by
    intro k
    by_cases h : 1 ≤ k ∧ k < 6
    · obtain ⟨t, ht⟩ := cz_st hts hgv hA h.1 h.2
      exact ⟨t, fun h9 => absurd h.1 (by omega), fun _ _ => ht⟩
    · exact ⟨b, fun _ => rfl, fun h1 h2 => absurd ⟨h1, h2⟩ h⟩
  refine ⟨D, kA, fun k => Classical.choose (h0 k), (Classical.choose_spec (h0 0)).1 rfl, hE, fun ad hd => ⟨hE.1, hE.2.1, fun k hk => ?_, fun k h1 h6 => ?_⟩⟩
  · by_cases hk0 : k = 0
    · subst hk0
      obtain ⟨scr, x1, x2, x3, x4, x5⟩ := hX
      have e0 : ad (1000 + 0) = b := by rw [hd 0]; exact (Classical.choose_spec (h0 0)).1 rfl
      rw [e0]
      exact ⟨scr, x1, x2, x3, by show L ≤ _; omega, by rw [x4]; rfl, fun j hj => x5 j hj, hA b hbl⟩
    · have e1 : sg_xn (L, xs) k = 7 := by simp only [sg_xn, if_neg hk0]
      have e2 : (fun j => Value.int (sg_xv (L, xs) k j)) = (fun j => Value.int ((sg_sv.getD k []).getD j 0)) := by
        funext j
        simp only [sg_xv, if_neg hk0]
      rw [hd k, e1, e2]
      exact ((Classical.choose_spec (h0 k)).2 (by omega) hk).1
  · rw [hd k]
    exact ((Classical.choose_spec (h0 k)).2 h1 h6).2
set_option maxHeartbeats 4000000 in
set_option maxRecDepth 100000 in
theorem whole_start {p : Program} {e : Env} {s : State} {m : MethodId} {below : List Frame} {meth : Method} {c : Code} (l : Launch) {b L : Nat} {xs : Nat → Int32} (hL : L ≤ 4096) (C0 : lw_At p s m meth c b L xs) : W p l e room_1 s m #[Value.ref b] below meth c s.heap [] 0 0 (lw_Z below #[Value.ref b] s) (entryFrame m ([Value.ref b] : List Value).toArray 4) := by
  obtain ⟨hx, hb, hr, hml, hown, hts, hX, hbl, hlocks, hgv⟩ := id C0
  have hown : s.vm.findClass "SoftGlassLaw" = some m.cls := hown
  have htb : ∀ w ∈ sg_tb, w.before #[Value.ref b] s = true := fun w hw => hts w (List.mem_filter.mp hw).1
  obtain ⟨D, kA, t, ht0, hE, hSE⟩ := cz_E hts hX hbl hgv
  have hA : ∀ q : Nat, s.heap.size ≤ q → (fun q : Nat => s.heap.size ≤ q) q := fun _ h => h
  have hS : va_S (fun q : Nat => s.heap.size ≤ q) s.heap s.heap [] := va_S.rf
  have hP : va_P D sg_cl [] s.heap := fun k q h => by simp at h
  have hD : va_D (fun q : Nat => s.heap.size ≤ q) [] := ⟨fun i j p q h => by simp at h, fun k q h => by simp at h⟩
  have hl := lv_entry ([.ref b]) (n := 4) (Nat.le_of_ble_eq_true rfl)
  rw [lg_entry_eq]
  generalize (lg_sl ([.ref b]) ++ List.replicate (4 - (lg_sl ([.ref b])).length) Slot.unset).toArray = ls at hl ⊢
  have hl : lv_has ls 4 [(0, .ref b)] := hl
  refine va_new (ci := 0) (fs := cf_Glass) (C := sg_R0) (T := sg_F0) (N := 13) hx hb htb (sg_lay (k := 0) (by decide)) sg_Y0 sg_Yok0 hown (htb (.classLink "SoftGlassLaw" 7 "SoftGlass") (sg_has_tb (p := 72) (by decide +kernel) rfl)) (htb (.instantiable "SoftGlass" 13) (sg_has_tb (p := 73) (by decide +kernel) rfl)) (htb (.initialized "SoftGlass") (sg_has_tb (p := 62) (by decide +kernel) rfl)) hE.1 hP hD hS hA rfl (fun j hj => by rcases (show j = 0 ∨ j = 1 ∨ j = 2 ∨ j = 3 ∨ j = 4 ∨ j = 5 ∨ j = 6 ∨ j = 7 ∨ j = 8 ∨ j = 9 ∨ j = 10 ∨ j = 11 ∨ j = 12 by omega) with rfl | rfl | rfl | rfl | rfl | rfl | rfl | rfl | rfl | rfl | rfl | rfl | rfl <;> rfl) (Nat.le_of_ble_eq_true rfl) (Nat.le_of_ble_eq_true rfl) (show decode code 0 = .ok (.new 7, 3) by decide +kernel) (fun q0 H hP hD hS => ?_)
  have hP : va_P D sg_cl [(q0, .inr (0, cf_Glass))] H := hP
  have hD : va_D (fun q : Nat => s.heap.size ≤ q) [(q0, .inr (0, cf_Glass))] := hD
  refine lv_dup hx hb (show decode code 3 = .ok (.dup, 1) by decide +kernel) rfl ?_
  refine cn_callW (va_runI (As := []) (rest := [.ref q0]) ⟨hx, hb, hml, hown, htb⟩ (cn_Glass l D kA _ q0) (cwI 0 htb (cn_good (sg_has_tb (p := 76) (by decide +kernel) rfl)) rfl rfl rfl (htb (.initialized "SoftGlass") (sg_has_tb (p := 62) (by decide +kernel) rfl)) (htb (.methodLink "SoftGlassLaw" 9 cy_Glass) (sg_has_tb (p := 74) (by decide +kernel) rfl)) (htb (.instanceMethod cy_Glass) (sg_has_tb (p := 75) (by decide +kernel) rfl)) rfl (by decide +kernel) ⟨Nat.le_of_ble_eq_true rfl, Nat.le_of_ble_eq_true rfl⟩) (cn_pre hE hA hP hD hS) rfl rfl hl.1 rfl (lv_room (Nat.le_of_ble_eq_true rfl)) (show decode code 4 = .ok (.invokespecial 9, 3) by decide +kernel) ⟨Nat.le_of_ble_eq_true rfl, Nat.le_of_ble_eq_true rfl⟩) hS (fun H locs ⟨a1, a2, a9, a17, a18, gb, gt, gs, gp, gq, gr, gh, f1, f2, f9, f17, e1, e2, e9, e17, hP2, hD2⟩ hS2 => ?_)
  clear hP hD hS
  have hP := hP2
  have hD := hD2
  have hS := hS2
  clear hP2 hD2 hS2
  refine lv_astore_n (lv' := [(1, .ref q0), (0, .ref b)]) hx hb (show decode code 7 = .ok (.astore_n 1, 1) by decide +kernel) rfl hl (by decide) rfl (fun ls hl => ?_)
  refine va_new (ci := 6) (fs := cf_Model) (C := sg_R6) (T := sg_F6) (N := 37) hx hb htb (sg_lay (k := 6) (by decide)) sg_Y6 sg_Yok6 hown (htb (.classLink "SoftGlassLaw" 10 "SoftGlassModel") (sg_has_tb (p := 713) (by decide +kernel) rfl)) (htb (.instantiable "SoftGlassModel" 37) (sg_has_tb (p := 714) (by decide +kernel) rfl)) (htb (.initialized "SoftGlassModel") (sg_has_tb (p := 68) (by decide +kernel) rfl)) hE.1 hP hD hS hA rfl (fun j hj => by rcases (show j = 0 ∨ j = 1 ∨ j = 2 ∨ j = 3 ∨ j = 4 ∨ j = 5 ∨ j = 6 ∨ j = 7 ∨ j = 8 ∨ j = 9 ∨ j = 10 ∨ j = 11 ∨ j = 12 ∨ j = 13 ∨ j = 14 ∨ j = 15 ∨ j = 16 ∨ j = 17 ∨ j = 18 ∨ j = 19 ∨ j = 20 ∨ j = 21 ∨ j = 22 ∨ j = 23 ∨ j = 24 ∨ j = 25 ∨ j = 26 ∨ j = 27 ∨ j = 28 ∨ j = 29 ∨ j = 30 ∨ j = 31 ∨ j = 32 ∨ j = 33 ∨ j = 34 ∨ j = 35 ∨ j = 36 by omega) with rfl | rfl | rfl | rfl | rfl | rfl | rfl | rfl | rfl | rfl | rfl | rfl | rfl | rfl | rfl | rfl | rfl | rfl | rfl | rfl | rfl | rfl | rfl | rfl | rfl | rfl | rfl | rfl | rfl | rfl | rfl | rfl | rfl | rfl | rfl | rfl | rfl <;> rfl) (Nat.le_of_ble_eq_true rfl) (Nat.le_of_ble_eq_true rfl) (show decode code 8 = .ok (.new 10, 3) by decide +kernel) (fun q6 H hP hD hS => ?_)
  refine lv_dup hx hb (show decode code 11 = .ok (.dup, 1) by decide +kernel) rfl ?_
  refine cn_callW (va_runI (As := []) (rest := [.ref q6]) ⟨hx, hb, hml, hown, htb⟩ (cn_Model l D kA _ _ q6) (cwI 0 htb (cn_good (sg_has_tb (p := 717) (by decide +kernel) rfl)) rfl rfl rfl (htb (.initialized "SoftGlassModel") (sg_has_tb (p := 68) (by decide +kernel) rfl)) (htb (.methodLink "SoftGlassLaw" 12 cy_Model) (sg_has_tb (p := 715) (by decide +kernel) rfl)) (htb (.instanceMethod cy_Model) (sg_has_tb (p := 716) (by decide +kernel) rfl)) rfl (by decide +kernel) ⟨Nat.le_of_ble_eq_true rfl, Nat.le_of_ble_eq_true rfl⟩) (cn_pre hE hA hP hD hS) rfl rfl hl.1 rfl (lv_room (Nat.le_of_ble_eq_true rfl)) (show decode code 12 = .ok (.invokespecial 12, 3) by decide +kernel) ⟨Nat.le_of_ble_eq_true rfl, Nat.le_of_ble_eq_true rfl⟩) hS (fun H locs ⟨gm, hgm, hP2, hD2⟩ hS2 => ?_)
  clear hP hD hS
  subst hgm
  have hP := cz_P q0 a1 a2 a9 a17 a18 gb gt gs gp gq gr gh gm t f1 f2 f9 f17 L hL xs e1 e2 e9 e17 hP2 hD2
  refine lv_astore_n (lv' := [(2, .ref (gm 0)), (1, .ref q0), (0, .ref b)]) hx hb (show decode code 15 = .ok (.astore_n 2, 1) by decide +kernel) rfl hl (by decide) rfl (fun ls hl => ?_)
  refine lv_iconst (v := 0) hx hb (show decode code 16 = .ok (.iconst 0, 1) by decide +kernel) (by decide) ?_
  refine lv_istore_n (lv' := [(3, .int 0), (2, .ref (gm 0)), (1, .ref q0), (0, .ref b)]) hx hb (show decode code 17 = .ok (.istore_n 3, 1) by decide +kernel) rfl hl (by decide) rfl (fun ls hl => ?_)
  obtain ⟨σ', hσ⟩ := law_l (L / 8) 0 150 (cz_0 L xs) L (by omega) (by omega) hL rfl (by omega) (by omega) (cz_0_iv L xs)
  obtain ⟨n, hn⟩ := sg_rv_iff.mp hσ
  generalize had : cz_ad q0 a1 a2 a9 a17 a18 gb gt gs gp gq gr gh gm t = ad at hP
  have d0 : ad (1000 + 0) = b := by rw [← had, cz_ad_t]; exact ht0
  have d1 : ad 0 = q0 := by rw [← had]; rfl
  have d2 : ad 120 = gm 0 := by rw [← had]; rfl
  have hEs := hSE ad (fun k => by rw [← had, cz_ad_t])
  have ec : sg_code 199 = code := rfl
  have hC : sg_C p room_1 s m #[Value.ref b] c 146 1959 ad kA D (fun q : Nat => s.heap.size ≤ q) (L, xs) 199 := ⟨⟨hx, by rw [ec]; exact hb, hml, hown, htb⟩, ⟨by decide, by decide, by decide, by decide⟩, hEs⟩
  have hok : sg_okL [sg_r 90 1000, sg_r 1 0, sg_r 7 120, sg_i (nI (8 * 0))] := by
    intro v hv
    simp only [List.mem_cons, List.not_mem_nil, or_false] at hv
    rcases hv with rfl | rfl | rfl | rfl
    · exact Or.inr (Or.inr ⟨rfl, by decide, by decide⟩)
    · exact Or.inr (Or.inl ⟨by decide, rfl⟩)
    · exact Or.inr (Or.inl ⟨by decide, rfl⟩)
    · trivial
  refine sg_sound (l := l) n 199 18 (cz_0 L xs) _ [] _ hn rfl hok (fun v hv => by simp at hv) p e room_1 s m #[Value.ref b] below meth c 146 1959 _ hC ?_ H _ ls hP hS2 ⟨hl.1, hl.2.1, fun i v hv hz => ?_⟩
  · intro H locs ls pc i hd hi hP hS
    obtain ⟨rfl, -⟩ := hi
    refine va_forget (fun q hq => hS.2.2 q hq) ?_
    refine W.widen (k := 600000) (n := 7302250) (by decide) (by decide) ?_
    exact lw_ret hx hb hr hlocks (by rw [← ec]; exact hd)
  · match i, hv with
    | 0, hv => cases hv; rw [show sg_cv ad (sg_r 90 1000) = Value.ref b from congrArg Value.ref d0]; exact hl.2.2 (0, .ref b) (by simp)
    | 1, hv => cases hv; rw [show sg_cv ad (sg_r 1 0) = Value.ref q0 from congrArg Value.ref d1]; exact hl.2.2 (1, .ref q0) (by simp)
    | 2, hv => cases hv; rw [show sg_cv ad (sg_r 7 120) = Value.ref (gm 0) from congrArg Value.ref d2]; exact hl.2.2 (2, .ref (gm 0)) (by simp)
    | 3, hv => cases hv; exact hl.2.2 (3, .int 0) (by simp)
    | k + 4, hv => simp at hv
