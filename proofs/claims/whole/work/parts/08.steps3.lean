section SGU
variable {p : Program} {l : Launch} {e : Env} {R : Room} {s : State} {m : MethodId} {args : Array Value} {below : List Frame} {meth : Method} {c : Code} {cells slots : Nat} {Q : State → Prop} {ad : Nat → Nat} {kA : Nat → ClassId} {D : va_G} {A : Nat → Prop} {X : Nat × (Nat → Int32)}
variable {y pc len : Nat} {σ : sg_M} {lv st : List sg_V} {S : sg_S}
theorem sg_P_set {q : Nat} {f : Nat → Int32} {w : va_E} {H1 : Heap} {H : Heap} (hP : sg_P ad kA D A X σ H) (hq : q < 146) (hw : w = sg_cell ad kA (sg_tag q) q f)
    (h1 : va_P D sg_cl ((sg_ws ad kA σ).set q (ad q, w)) H1) (h2 : va_D A ((sg_ws ad kA σ).set q (ad q, w))) : sg_P ad kA D A X (sg_set σ q f) H1 := by
  rw [sg_ws_set hw] at h1 h2
  have e1 : ¬ 1000 = q := by omega
  have e2 : ¬ 999 = q := by omega
  exact ⟨h1, h2, by simp only [sg_set, if_neg e1]; exact hP.2.2.1, by simp only [sg_set, if_neg e2]; exact hP.2.2.2⟩
theorem sg_Yok : ∀ k, k < 7 → ∃ ty0 : Nat → FieldType, (∀ j, j < (sg_cq k).2.2 → parseFieldDescriptor ((sg_cq k).2.1 j).2.2.1 = some (ty0 j)) ∧ ∀ a, a < (sg_cq k).2.2 → ∀ b, b < (sg_cq k).2.2 → a ≠ b → ((sg_cq k).2.1 a).2.1 ≠ ((sg_cq k).2.1 b).2.1 := by
  intro k h
  match k, h with
  | 0, _ => exact ⟨sg_Y0, sg_Yok0, sg_Fnm0⟩
  | 1, _ => exact ⟨sg_Y1, sg_Yok1, sg_Fnm1⟩
  | 2, _ => exact ⟨sg_Y2, sg_Yok2, sg_Fnm2⟩
  | 3, _ => exact ⟨sg_Y3, sg_Yok3, sg_Fnm3⟩
  | 4, _ => exact ⟨sg_Y4, sg_Yok4, sg_Fnm4⟩
  | 5, _ => exact ⟨sg_Y5, sg_Yok5, sg_Fnm5⟩
  | 6, _ => exact ⟨sg_Y6, sg_Yok6, sg_Fnm6⟩
theorem sg_s_putf {n : Nat} (C : sg_C p R s m args c cells slots ad kA D A X y) (hd : decode (sg_code y) pc = .ok (.putfield n, len)) (hln : sg_ln (.putfield n) len = true) (h : sg_st y (.putfield n) len pc σ lv st = some (.inl S)) (ho : sg_okL lv) (hs : sg_okL st) (hlen : lv.length = sg_mx y) : sg_G p l e R s m args below meth c cells slots Q ad kA D A X y pc σ lv st S := by
  obtain ⟨⟨hx, hb, hml, hown, hts⟩, -, hE⟩ := C
  obtain rfl : len = 3 := by simpa [sg_ln] using hln
  simp only [sg_st] at h
  split at h
  · rename_i v q r
    obtain ⟨-, hs2⟩ := sg_okL_cons.mp hs
    obtain ⟨hq, hr⟩ := sg_okL_cons.mp hs2
    split at h
    · rename_i fe hfe
      obtain ⟨hl1, hl2, hl3, hl4, hl5⟩ := sg_fl_of hfe
      unfold sg_fput at h
      split at h
      · rename_i o hsh
        by_cases hci : o.1 = fe.2.2.1
        · rw [if_pos hci] at h
          obtain ⟨hc, ht, ho7, holen, hof⟩ := sg_obj hq hsh
          split at h
          · rename_i hk
            by_cases hw : sg_wr fe.2.2.1 fe.2.2.2.1 = true
            · rw [if_pos hw] at h
              obtain rfl := sg_nx_of h
              refine ⟨⟨ho, hr, hlen⟩, fun k H locs ls hP hS hl => ?_⟩
              have he : (sg_ws ad kA σ)[q.2]? = some (ad q.2, .inr (fe.2.2.1, o.2.zipIdx.map (sg_fv ad q.2 (σ q.2)))) := by rw [sg_ws_get hc, ht, sg_cell_obj hsh, hci]
              have hw2 : decide (fe.2.2.2.1 < (sg_cq fe.2.2.1).2.2) = true ∧ (((sg_cq fe.2.2.1).2.1 fe.2.2.2.1).2.2.2 = false ∧ ((sg_cq fe.2.2.1).2.1 fe.2.2.2.1).2.2.1 = "I") := by
                simp only [sg_wr, sg_cq_eq hl2, Bool.and_eq_true, Bool.not_eq_true', beq_iff_eq] at hw
                exact hw
              have hty : parseFieldDescriptor ((sg_cq fe.2.2.1).2.1 fe.2.2.2.1).2.2.1 = some .int := by rw [hw2.2.2]; decide +kernel
              obtain ⟨ty0, ht0, hnm⟩ := sg_Yok fe.2.2.1 hl2
              have hset : (o.2.zipIdx.map (sg_fv ad q.2 (σ q.2))).set fe.2.2.2.1 (.int v) = o.2.zipIdx.map (sg_fv ad q.2 (upd (σ q.2) fe.2.2.2.1 v)) := sg_fv_set hk
              have hwd : (Sum.inr (fe.2.2.1, (o.2.zipIdx.map (sg_fv ad q.2 (σ q.2))).set fe.2.2.2.1 (.int v)) : va_E) = sg_cell ad kA (sg_tag q.2) q.2 (upd (σ q.2) fe.2.2.2.1 v) := by rw [ht, sg_cell_obj hsh, hci, hset]
              have hlf : fe.2.2.2.1 < (o.2.zipIdx.map (sg_fv ad q.2 (σ q.2))).length := by simpa using (List.getElem?_eq_some_iff.mp hk).1
              by_cases hn : fe.2.2.2.2.1 = true
              · rw [if_pos hn] at hl1
                exact va_putN (D := D) (cl := sg_cl) (C := (sg_cq fe.2.2.1).1) (T := (sg_cq fe.2.2.1).2.1) (N := (sg_cq fe.2.2.1).2.2) (ref := (sg_cq fe.2.2.1).1) hx hb hts (sg_lay hl2) ty0 ht0 hnm hown hE.1 hP.1 hP.2.1 hS q.2 he (sg_cq_eq hl2) fe.2.2.2.1 hl3 (va_Nw.use rfl (hE.2.1 _ (sg_nw_mem hl1 (hl5 hn)))) (fun x hx => by rw [hl4] at hx; exact hx) hw2.2.1 hty rfl rfl hlf hd (fun H1 locs1 g1 g2 g3 => k H1 locs1 ls (sg_P_set hP hc hwd g1 g2) g3 hl)
              · rw [if_neg hn] at hl1
                exact va_put (D := D) (cl := sg_cl) (C := (sg_cq fe.2.2.1).1) (T := (sg_cq fe.2.2.1).2.1) (N := (sg_cq fe.2.2.1).2.2) (ref := (sg_cq fe.2.2.1).1) hx hb hts (sg_lay hl2) ty0 ht0 hnm hown hE.1 hP.1 hP.2.1 hS q.2 he (sg_cq_eq hl2) fe.2.2.2.1 hl3 (hts _ (sg_has_tb hl1 rfl)) (fun x hx => by rw [hl4] at hx; exact hx) hw2.2.1 hty rfl rfl hlf hd (fun H1 locs1 g1 g2 g3 => k H1 locs1 ls (sg_P_set hP hc hwd g1 g2) g3 hl)
            · rw [if_neg hw] at h; cases h
          · cases h
        · rw [if_neg hci] at h; cases h
      · cases h
    · cases h
  · cases h
theorem sg_s_gets {n : Nat} (C : sg_C p R s m args c cells slots ad kA D A X y) (hd : decode (sg_code y) pc = .ok (.getstatic n, len)) (hln : sg_ln (.getstatic n) len = true) (h : sg_st y (.getstatic n) len pc σ lv st = some (.inl S)) (ho : sg_okL lv) (hs : sg_okL st) (hlen : lv.length = sg_mx y) : sg_G p l e R s m args below meth c cells slots Q ad kA D A X y pc σ lv st S := by
  obtain ⟨⟨hx, hb, hml, hown, hts⟩, -, hE⟩ := C
  obtain rfl : len = 3 := by simpa [sg_ln] using hln
  simp only [sg_st] at h
  split at h
  · rename_i q hq
    obtain rfl := sg_nx_of h
    obtain ⟨h1, h2⟩ := sg_find hq
    simp only [Bool.and_eq_true, beq_iff_eq] at h2
    have h3 := List.all_eq_true.mp sg_sl_ok q h1
    simp only [Bool.and_eq_true, decide_eq_true_eq] at h3
    have h4 := h3.1
    simp only [sg_slw, h2.1, h2.2] at h4
    exact ⟨⟨ho, sg_okL_cons.mpr ⟨Or.inr (Or.inr ⟨by show 1000 + q.2.2.1 = 90 + q.2.2.1 + 910; omega, by show 90 ≤ 90 + q.2.2.1; omega, by show 90 + q.2.2.1 < 96; omega⟩), hs⟩, hlen⟩, fun k H locs ls hP hS hl => va_gets hx hb (hE.2.2.2 q.2.2.1 h3.2.1 h3.2.2) hS hown (hts _ (sg_has_tb h4 rfl)) (fun _ h9 => h9) hd (k H locs ls hP hS hl)⟩
  · cases h
theorem sg_roN_eq {k : Nat} {H : Heap} (hP : sg_P ad kA D A X σ H) : sg_roN k σ = sg_xn X k := by
  simp only [sg_roN, sg_xn, hP.2.2.2]
theorem sg_roV_eq {k j : Nat} {H : Heap} (hP : sg_P ad kA D A X σ H) : sg_roV k σ j = sg_xv X k j := by
  simp only [sg_roV, sg_xv, hP.2.2.1]
/-- a row that nobody writes -/
theorem sg_ok_ro {t q : Nat} (h : sg_ok (sg_r t q)) (hr : 90 ≤ t ∧ t < 96) : q = 1000 + (t - 90) := by
  rcases h with h | h | h
  · have : t = 0 := h.1
    omega
  · have h1 := sg_tagOk h.1
    rw [h.2] at h1
    have h2 : sg_sh t = .inl 0 := by
      obtain ⟨a, b⟩ := hr
      rcases (show t = 90 ∨ t = 91 ∨ t = 92 ∨ t = 93 ∨ t = 94 ∨ t = 95 by omega) with rfl | rfl | rfl | rfl | rfl | rfl <;> rfl
    rw [h2] at h1
    simp at h1
    omega
  · have : q = t + 910 := h.1
    omega
theorem sg_ints {t q : Nat} (h : sg_ok (sg_r t q)) (ht : 100 ≤ t) : q < 146 ∧ ∀ {σ : sg_M}, (sg_ws ad kA σ)[q]? = some (ad q, .inl (kA 0, t - 100, .inl (σ q))) := by
  obtain ⟨h1, h2⟩ := sg_ok_cell h (by omega) (by omega)
  exact ⟨h1, by intro σ; rw [sg_ws_get h1, h2, sg_cell_int ht]⟩
theorem sg_s_iald (C : sg_C p R s m args c cells slots ad kA D A X y) (hd : decode (sg_code y) pc = .ok (.iaload, len)) (hln : sg_ln .iaload len = true) (h : sg_st y .iaload len pc σ lv st = some (.inl S)) (ho : sg_okL lv) (hs : sg_okL st) (hlen : lv.length = sg_mx y) : sg_G p l e R s m args below meth c cells slots Q ad kA D A X y pc σ lv st S := by
  obtain ⟨⟨hx, hb, hml, hown, hts⟩, -, hE⟩ := C
  obtain rfl : len = 1 := by simpa [sg_ln] using hln
  simp only [sg_st] at h
  split at h
  · rename_i i q r
    obtain ⟨-, hs2⟩ := sg_okL_cons.mp hs
    obtain ⟨hq, hr⟩ := sg_okL_cons.mp hs2
    unfold sg_ald at h
    by_cases hro : (sg_ro q.1 && (q.1 != 95)) = true
    · rw [if_pos hro] at h
      by_cases hin : sg_in i (sg_roN (q.1 - 90) σ) = true
      · rw [if_pos hin] at h
        obtain rfl := sg_nx_of h
        simp only [sg_ro, Bool.and_eq_true, decide_eq_true_eq, bne_iff_ne, ne_eq] at hro
        refine ⟨⟨ho, sg_okL_cons.mpr ⟨trivial, hr⟩, hlen⟩, fun k H locs ls hP hS hl => ?_⟩
        have hT := hE.2.2.1 (q.1 - 90) (by omega)
        have hty : sg_roT (q.1 - 90) = .int := by simp [sg_roT, show ¬ q.1 - 90 = 5 by omega]
        rw [hty, ← sg_ok_ro hq hro.1] at hT
        rw [sg_roN_eq hP] at hin
        exact va_ti hx hb hT hS (sg_in_vp hin) (by rw [← sg_roV_eq hP]; rfl) hd (k H locs ls hP hS hl)
      · rw [if_neg hin] at h; cases h
    · rw [if_neg hro] at h
      by_cases ht : 100 ≤ q.1
      · rw [if_pos ht] at h
        by_cases hin : sg_in i (q.1 - 100) = true
        · rw [if_pos hin] at h
          obtain rfl := sg_nx_of h
          exact ⟨⟨ho, sg_okL_cons.mpr ⟨trivial, hr⟩, hlen⟩, fun k H locs ls hP hS hl => va_iald (D := D) (cl := sg_cl) hx hb hE.1 hP.1 q.2 0 (sg_ints hq ht).2 rfl (sg_in_vp hin) hd (k H locs ls hP hS hl)⟩
        · rw [if_neg hin] at h; cases h
      · rw [if_neg ht] at h; cases h
  · cases h
theorem sg_s_cald (C : sg_C p R s m args c cells slots ad kA D A X y) (hd : decode (sg_code y) pc = .ok (.caload, len)) (hln : sg_ln .caload len = true) (h : sg_st y .caload len pc σ lv st = some (.inl S)) (ho : sg_okL lv) (hs : sg_okL st) (hlen : lv.length = sg_mx y) : sg_G p l e R s m args below meth c cells slots Q ad kA D A X y pc σ lv st S := by
  obtain ⟨⟨hx, hb, hml, hown, hts⟩, -, hE⟩ := C
  obtain rfl : len = 1 := by simpa [sg_ln] using hln
  simp only [sg_st] at h
  split at h
  · rename_i i q r
    obtain ⟨-, hs2⟩ := sg_okL_cons.mp hs
    obtain ⟨hq, hr⟩ := sg_okL_cons.mp hs2
    by_cases h95 : q.1 = 95
    · rw [if_pos h95] at h
      by_cases hin : sg_in i 7 = true
      · rw [if_pos hin] at h
        obtain rfl := sg_nx_of h
        refine ⟨⟨ho, sg_okL_cons.mpr ⟨trivial, hr⟩, hlen⟩, fun k H locs ls hP hS hl => ?_⟩
        have hT := hE.2.2.1 5 (by omega)
        have hqq : q.2 = 1000 + 5 := by
          have := sg_ok_ro hq (by omega)
          omega
        rw [← hqq] at hT
        exact va_tc hx hb hT hS (sg_in_vp hin) (by rw [← sg_roV_eq hP]; rfl) hd (k H locs ls hP hS hl)
      · rw [if_neg hin] at h; cases h
    · rw [if_neg h95] at h; cases h
  · cases h
theorem sg_s_iast (C : sg_C p R s m args c cells slots ad kA D A X y) (hd : decode (sg_code y) pc = .ok (.iastore, len)) (hln : sg_ln .iastore len = true) (h : sg_st y .iastore len pc σ lv st = some (.inl S)) (ho : sg_okL lv) (hs : sg_okL st) (hlen : lv.length = sg_mx y) : sg_G p l e R s m args below meth c cells slots Q ad kA D A X y pc σ lv st S := by
  obtain ⟨⟨hx, hb, hml, hown, hts⟩, -, hE⟩ := C
  obtain rfl : len = 1 := by simpa [sg_ln] using hln
  simp only [sg_st] at h
  split at h
  · rename_i v i q r
    obtain ⟨-, hs2⟩ := sg_okL_cons.mp hs
    obtain ⟨-, hs3⟩ := sg_okL_cons.mp hs2
    obtain ⟨hq, hr⟩ := sg_okL_cons.mp hs3
    by_cases ht : 100 ≤ q.1
    · rw [if_pos ht] at h
      by_cases hin : sg_in i (q.1 - 100) = true
      · rw [if_pos hin] at h
        obtain rfl := sg_nx_of h
        have h9 := sg_ok_cell hq (by omega) (by omega)
        exact ⟨⟨ho, hr, hlen⟩, fun k H locs ls hP hS hl => va_iast (D := D) (cl := sg_cl) hx hb hE.1 hP.1 hP.2.1 hS q.2 0 (sg_ints hq ht).2 rfl (sg_in_vp hin) hd (fun H1 locs1 g1 g2 g3 => k H1 locs1 ls (sg_P_set hP h9.1 (by rw [h9.2, sg_cell_int ht]) g1 g2) g3 hl)⟩
      · rw [if_neg hin] at h; cases h
    · rw [if_neg ht] at h; cases h
  · cases h
theorem sg_s_aald (C : sg_C p R s m args c cells slots ad kA D A X y) (hd : decode (sg_code y) pc = .ok (.aaload, len)) (hln : sg_ln .aaload len = true) (h : sg_st y .aaload len pc σ lv st = some (.inl S)) (ho : sg_okL lv) (hs : sg_okL st) (hlen : lv.length = sg_mx y) : sg_G p l e R s m args below meth c cells slots Q ad kA D A X y pc σ lv st S := by
  obtain ⟨⟨hx, hb, hml, hown, hts⟩, -, hE⟩ := C
  obtain rfl : len = 1 := by simpa [sg_ln] using hln
  simp only [sg_st] at h
  split at h
  · rename_i i q r
    obtain ⟨-, hs2⟩ := sg_okL_cons.mp hs
    obtain ⟨hq, hr⟩ := sg_okL_cons.mp hs2
    unfold sg_aald at h
    split at h
    · rename_i a hsh
      by_cases hin : sg_in i a.1 = true
      · rw [if_pos hin] at h
        obtain rfl := sg_nx_of h
        have hlt := sg_sh_lt hsh
        obtain ⟨hc, ht⟩ := sg_ok_cell hq hlt.1 (by omega)
        have h2 := sg_tagOk hc
        rw [ht, hsh] at h2
        simp only [Bool.and_eq_true, decide_eq_true_eq] at h2
        have hbd : i.toNatClampNeg < a.1 := Nat.not_le.mp fun z => (sg_in_vp hin) (Or.inr z)
        have h3 := List.all_eq_true.mp h2.2.1 i.toNatClampNeg (List.mem_range.mpr hbd)
        simp only [Bool.and_eq_true, decide_eq_true_eq] at h3
        refine ⟨⟨ho, sg_okL_cons.mpr ⟨Or.inr (Or.inl h3), hr⟩, hlen⟩, fun k H locs ls hP hS hl => ?_⟩
        have he : (sg_ws ad kA σ)[q.2]? = some (ad q.2, .inl (kA a.2.1, a.1, .inr (.inr (.inr (.inr (fun i => some (ad (q.2 + a.2.2.1 + a.2.2.2 * i)))))))) := by rw [sg_ws_get hc, ht, sg_cell_row hsh]
        rcases h2.2.2 with h4 | h4 | h4
        · exact va_aldq (D := D) (cl := sg_cl) hx hb hE.1 hP.1 q.2 1 he (C := "SoftGlass$Piece") (by rw [h4]; rfl) (sg_in_vp hin) hd (k H locs ls hP hS hl)
        · exact va_aldq (D := D) (cl := sg_cl) hx hb hE.1 hP.1 q.2 2 he (C := "SoftGlass$Recipe") (by rw [h4]; rfl) (sg_in_vp hin) hd (k H locs ls hP hS hl)
        · exact va_aldq (D := D) (cl := sg_cl) hx hb hE.1 hP.1 q.2 3 he (C := "SoftGlass$Sheet") (by rw [h4]; rfl) (sg_in_vp hin) hd (k H locs ls hP hS hl)
      · rw [if_neg hin] at h; cases h
    · cases h
  · cases h
theorem sg_s_alen (C : sg_C p R s m args c cells slots ad kA D A X y) (hd : decode (sg_code y) pc = .ok (.arraylength, len)) (hln : sg_ln .arraylength len = true) (h : sg_st y .arraylength len pc σ lv st = some (.inl S)) (ho : sg_okL lv) (hs : sg_okL st) (hlen : lv.length = sg_mx y) : sg_G p l e R s m args below meth c cells slots Q ad kA D A X y pc σ lv st S := by
  obtain ⟨⟨hx, hb, hml, hown, hts⟩, -, hE⟩ := C
  obtain rfl : len = 1 := by simpa [sg_ln] using hln
  simp only [sg_st] at h
  split at h
  · rename_i q r
    obtain ⟨hq, hr⟩ := sg_okL_cons.mp hs
    by_cases hro : sg_ro q.1 = true
    · rw [if_pos hro] at h
      obtain rfl := sg_nx_of h
      simp only [sg_ro, decide_eq_true_eq] at hro
      refine ⟨⟨ho, sg_okL_cons.mpr ⟨trivial, hr⟩, hlen⟩, fun k H locs ls hP hS hl => ?_⟩
      have hT := hE.2.2.1 (q.1 - 90) (by omega)
      rw [← sg_ok_ro hq hro] at hT
      exact va_tlen hx hb hT hS (by rw [← sg_roN_eq hP]) hd (k H locs ls hP hS hl)
    · rw [if_neg hro] at h
      by_cases ht : 100 ≤ q.1
      · rw [if_pos ht] at h
        obtain rfl := sg_nx_of h
        exact ⟨⟨ho, sg_okL_cons.mpr ⟨trivial, hr⟩, hlen⟩, fun k H locs ls hP hS hl => va_alen (D := D) (cl := sg_cl) hx hb hE.1 hP.1 q.2 0 (sg_ints hq ht).2 (ty := .int) rfl rfl hd (k H locs ls hP hS hl)⟩
      · rw [if_neg ht] at h; cases h
  · cases h
theorem sg_go_of {off : Int} (h : sg_go off pc σ lv st = some (.inl S)) : ∃ tgt : Nat, (pc : Int) + off = (tgt : Int) ∧ S = (tgt, σ, lv, st) := by
  unfold sg_go at h
  by_cases h0 : 0 ≤ (pc : Int) + off
  · rw [if_pos h0] at h
    exact ⟨((pc : Int) + off).toNat, (Int.toNat_of_nonneg h0).symm, sg_nx_of h⟩
  · rw [if_neg h0] at h; cases h
theorem sg_br_of {b : Bool} {off : Int} (h : sg_br b off pc σ lv st = some (.inl S)) : ∃ tgt : Nat, (pc : Int) + off = (tgt : Int) ∧ S = (if b then tgt else pc + 3, σ, lv, st) := by
  unfold sg_br at h
  by_cases h0 : 0 ≤ (pc : Int) + off
  · rw [if_pos h0] at h
    cases h
    exact ⟨((pc : Int) + off).toNat, (Int.toNat_of_nonneg h0).symm, rfl⟩
  · rw [if_neg h0] at h; cases h
theorem sg_s_goto {off : Int} (C : sg_C p R s m args c cells slots ad kA D A X y) (hd : decode (sg_code y) pc = .ok (.goto off, len)) (hln : sg_ln (.goto off) len = true) (h : sg_st y (.goto off) len pc σ lv st = some (.inl S)) (ho : sg_okL lv) (hs : sg_okL st) (hlen : lv.length = sg_mx y) : sg_G p l e R s m args below meth c cells slots Q ad kA D A X y pc σ lv st S := by
  obtain ⟨⟨hx, hb, -⟩, -⟩ := C
  obtain rfl : len = 3 := by simpa [sg_ln] using hln
  obtain ⟨tgt, ht, rfl⟩ := sg_go_of (show sg_go off pc σ lv st = some (.inl S) from h)
  exact ⟨⟨ho, hs, hlen⟩, fun k H locs ls hP hS hl => lv_goto hx hb hd ht (k H locs ls hP hS hl)⟩
theorem sg_s_if {cd : ClassFile.Cond} {off : Int} (C : sg_C p R s m args c cells slots ad kA D A X y) (hd : decode (sg_code y) pc = .ok (.ifCond cd off, len)) (hln : sg_ln (.ifCond cd off) len = true) (h : sg_st y (.ifCond cd off) len pc σ lv st = some (.inl S)) (ho : sg_okL lv) (hs : sg_okL st) (hlen : lv.length = sg_mx y) : sg_G p l e R s m args below meth c cells slots Q ad kA D A X y pc σ lv st S := by
  obtain ⟨⟨hx, hb, -⟩, -⟩ := C
  obtain rfl : len = 3 := by simpa [sg_ln] using hln
  simp only [sg_st] at h
  split at h
  · rename_i x r
    obtain ⟨tgt, ht, rfl⟩ := sg_br_of h
    refine ⟨⟨ho, (sg_okL_cons.mp hs).2, hlen⟩, fun k H locs ls hP hS hl => ?_⟩
    have k1 : sg_cmp cd x 0 = true → W p l e R s m args below meth c H locs cells slots Q (F0 m tgt ls (r.map (sg_cv ad))) := fun z => by
      have := k H locs ls hP hS hl
      simp only [z, if_true] at this
      exact this
    have k2 : ¬ sg_cmp cd x 0 = true → W p l e R s m args below meth c H locs cells slots Q (F0 m (pc + 3) ls (r.map (sg_cv ad))) := fun z => by
      have := k H locs ls hP hS hl
      rw [if_neg z] at this
      exact this
    cases cd
    · exact lv_if_eq hx hb hd ht (fun z => k1 (by simpa [sg_cmp] using z)) (fun z => k2 (by simpa [sg_cmp] using z))
    · exact lv_if_ne hx hb hd ht (fun z => k1 (by simpa [sg_cmp] using z)) (fun z => k2 (by simpa [sg_cmp] using z))
    · exact lv_if_lt hx hb hd ht (fun z => k1 (decide_eq_true z)) (fun z => k2 (fun w => z (of_decide_eq_true w)))
    · exact lv_if_ge hx hb hd ht (fun z => k1 (decide_eq_true z)) (fun z => k2 (fun w => z (of_decide_eq_true w)))
    · exact lv_if_gt hx hb hd ht (fun z => k1 (decide_eq_true z)) (fun z => k2 (fun w => z (of_decide_eq_true w)))
    · exact lv_if_le hx hb hd ht (fun z => k1 (decide_eq_true z)) (fun z => k2 (fun w => z (of_decide_eq_true w)))
  · cases h
theorem sg_s_icmp {cd : ClassFile.Cond} {off : Int} (C : sg_C p R s m args c cells slots ad kA D A X y) (hd : decode (sg_code y) pc = .ok (.if_icmp cd off, len)) (hln : sg_ln (.if_icmp cd off) len = true) (h : sg_st y (.if_icmp cd off) len pc σ lv st = some (.inl S)) (ho : sg_okL lv) (hs : sg_okL st) (hlen : lv.length = sg_mx y) : sg_G p l e R s m args below meth c cells slots Q ad kA D A X y pc σ lv st S := by
  obtain ⟨⟨hx, hb, -⟩, -⟩ := C
  obtain rfl : len = 3 := by simpa [sg_ln] using hln
  simp only [sg_st] at h
  split at h
  · rename_i z x r
    obtain ⟨tgt, ht, rfl⟩ := sg_br_of h
    refine ⟨⟨ho, (sg_okL_cons.mp (sg_okL_cons.mp hs).2).2, hlen⟩, fun k H locs ls hP hS hl => ?_⟩
    have k1 : sg_cmp cd x z = true → W p l e R s m args below meth c H locs cells slots Q (F0 m tgt ls (r.map (sg_cv ad))) := fun z => by
      have := k H locs ls hP hS hl
      simp only [z, if_true] at this
      exact this
    have k2 : ¬ sg_cmp cd x z = true → W p l e R s m args below meth c H locs cells slots Q (F0 m (pc + 3) ls (r.map (sg_cv ad))) := fun z => by
      have := k H locs ls hP hS hl
      rw [if_neg z] at this
      exact this
    cases cd
    · exact lv_icmp_eq hx hb hd ht (fun z => k1 (by simpa [sg_cmp] using z)) (fun z => k2 (by simpa [sg_cmp] using z))
    · exact lv_icmp_ne hx hb hd ht (fun z => k1 (by simpa [sg_cmp] using z)) (fun z => k2 (by simpa [sg_cmp] using z))
    · exact lv_icmp_lt hx hb hd ht (fun z => k1 (decide_eq_true z)) (fun z => k2 (fun w => z (of_decide_eq_true w)))
    · exact lv_icmp_ge hx hb hd ht (fun z => k1 (decide_eq_true z)) (fun z => k2 (fun w => z (of_decide_eq_true w)))
    · exact lv_icmp_gt hx hb hd ht (fun z => k1 (decide_eq_true z)) (fun z => k2 (fun w => z (of_decide_eq_true w)))
    · exact lv_icmp_le hx hb hd ht (fun z => k1 (decide_eq_true z)) (fun z => k2 (fun w => z (of_decide_eq_true w)))
  · cases h
theorem sg_s_tsw {d lo hi : Int} {offs : Array Int} (C : sg_C p R s m args c cells slots ad kA D A X y) (hd : decode (sg_code y) pc = .ok (.tableswitch d lo hi offs, len)) (h : sg_st y (.tableswitch d lo hi offs) len pc σ lv st = some (.inl S)) (ho : sg_okL lv) (hs : sg_okL st) (hlen : lv.length = sg_mx y) : sg_G p l e R s m args below meth c cells slots Q ad kA D A X y pc σ lv st S := by
  obtain ⟨⟨hx, hb, -⟩, -⟩ := C
  simp only [sg_st] at h
  split at h
  · rename_i x r
    split at h
    · rename_i off hoff
      obtain ⟨tgt, ht, rfl⟩ := sg_go_of h
      refine ⟨⟨ho, (sg_okL_cons.mp hs).2, hlen⟩, fun k H locs ls hP hS hl => ?_⟩
      unfold sg_tsw at hoff
      by_cases hc : x.toInt < lo ∨ hi < x.toInt
      · rw [if_pos hc] at hoff
        cases hoff
        exact lv_tableOut hx hb hd hc ht (k H locs ls hP hS hl)
      · rw [if_neg hc] at hoff
        exact lv_tableIn hx hb hd (fun z => hc (Or.inl z)) (fun z => hc (Or.inr z)) hoff ht (k H locs ls hP hS hl)
    · cases h
  · cases h
theorem sg_s_lsw {d : Int} {ps : Array (Int × Int)} (C : sg_C p R s m args c cells slots ad kA D A X y) (hd : decode (sg_code y) pc = .ok (.lookupswitch d ps, len)) (h : sg_st y (.lookupswitch d ps) len pc σ lv st = some (.inl S)) (ho : sg_okL lv) (hs : sg_okL st) (hlen : lv.length = sg_mx y) : sg_G p l e R s m args below meth c cells slots Q ad kA D A X y pc σ lv st S := by
  obtain ⟨⟨hx, hb, -⟩, -⟩ := C
  simp only [sg_st] at h
  split at h
  · rename_i x r
    split at h
    · rename_i hp
      obtain ⟨tgt, ht, rfl⟩ := sg_go_of h
      exact ⟨⟨ho, (sg_okL_cons.mp hs).2, hlen⟩, fun k H locs ls hP hS hl => lv_lookup hx hb hd hp rfl ht (k H locs ls hP hS hl)⟩
    · cases h
  · cases h
end SGU
