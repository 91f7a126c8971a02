/-! THE CONSTRUCTORS: worlds that grow -/
theorem ap_g (wr L : va_W) (k : Nat) : (wr ++ L)[wr.length + k]? = L[k]? := by
  rw [List.getElem?_append_right (by omega), Nat.add_sub_cancel_left]
theorem ap_s (wr L : va_W) (k : Nat) (y : Nat × va_E) : (wr ++ L).set (wr.length + k) y = wr ++ L.set k y := by
  rw [List.set_append_right _ _ (by omega), Nat.add_sub_cancel_left]
def cn_E (D : va_G) (kA : Nat → ClassId) (U : State) : Prop := va_K D sg_cl (sg_tys kA) U ∧ (∀ w ∈ sg_nw, va_Nw w U) ∧ va_AO "SoftGlass$Piece" U ∧ va_AO "SoftGlass$Recipe" U ∧ va_AO "SoftGlass$Sheet" U
theorem cn_E_moved {D : va_G} {kA : Nat → ClassId} {U V : State} (hal : U.vm.Alike V.vm) (hnw : ∀ w ∈ sg_nw, va_Nw w U → va_Nw w V) (h : cn_E D kA U) : cn_E D kA V :=
  ⟨va_K.moved hal h.1, fun w hw => hnw w hw (h.2.1 w hw), va_AO.moved hal h.2.2.1, va_AO.moved hal h.2.2.2.1, va_AO.moved hal h.2.2.2.2⟩
theorem cn_E_warm {D : va_G} {kA : Nat → ClassId} {s U : State} (hW : s.WarmedH U.vm) (h : cn_E D kA s) : cn_E D kA U := by
  refine cn_E_moved hW.alike (fun w hw z => ?_) h
  rcases sg_nw_kind hw with ⟨a, i, b, n, d, g, rfl⟩ | ⟨a, i, x, g, rfl⟩
  · exact va_Nw.warmF hW z
  · exact va_Nw.warmM hW z
def cn_wd (y : MethodName) (cd : ByteArray) (mx : Nat) : List Jvm.Cond := .code y cd mx none :: sg_tb
def cn_Pc (D : va_G) (kA : Nat → ClassId) (A : Nat → Prop) (as : List Value) (ws : va_W) : Array Value → State → Prop := va_Pc as (fun U => cn_E D kA U ∧ va_P D sg_cl ws U.heap ∧ va_D A ws ∧ ∀ q, U.heap.size ≤ q → A q)
def cn_Q (P : Heap → Prop) (A : Nat → Prop) : Array Value → State → Outcome → State → Prop := fun _ st oc t => oc = .returned none ∧ P t.heap ∧ va_F A st t
theorem cn_blind {D : va_G} {kA : Nat → ClassId} {A : Nat → Prop} {as : List Value} {ws : va_W} : FrameBlind (cn_Pc D kA A as ws) := by
  intro a U g mk h
  refine ⟨h.1, cn_E_moved (U := U) (V := U.calling g mk a) (Vm.Alike.refl U.vm) (fun w hw z => ?_) h.2.1, h.2.2⟩
  rcases sg_nw_kind hw with ⟨a, i, b, n, d, g, rfl⟩ | ⟨a, i, x, g, rfl⟩
  · exact va_Nw.same rfl rfl z
  · exact va_Nw.same rfl rfl z
section CNS
variable {p : Program} {l : Launch} {e : Env} {R : Room} {s : State} {m : MethodId} {args : Array Value} {below : List Frame} {meth : Method} {c : Code} {cells slots : Nat} {Q : State → Prop} {kA : Nat → ClassId} {D : va_G} {A : Nat → Prop} {cc : ByteArray} {pc : Nat} {ls : Array Slot} {rest : List Value} {H : Heap} {locs : List Loc} {ws : va_W}
theorem cn_callW {P : Heap → Prop} {st0 : List Value} {a : Array Value} {mc ms : Nat} (hr : va_Run p l e R s m args below meth c H locs cells slots mc ms (F0 m pc ls st0) rest (cn_Q P A a) A) (hS : va_S A s.heap H locs)
    (kk : ∀ (H1 : Heap) (locs1 : List Loc), P H1 → va_S A s.heap H1 locs1 → W p l e R s m args below meth c H1 locs1 (cells + mc) (slots + ms) Q (F0 m (pc + 3) ls rest)) : W p l e R s m args below meth c H locs cells slots Q (F0 m pc ls st0) := by
  intro T hT X'
  obtain ⟨v, st₀, t, T', L, h0, X1, hL, e1, e2, ⟨hv, hp, hz, hk⟩, stp⟩ := hr T hT X'
  cases hv
  rw [h0] at hz hk
  obtain ⟨t2, a1, b1⟩ := kk T'.heap (locs ++ L) (by rw [e1]; exact hp)
    ⟨Nat.le_trans hS.1 (by rw [e1]; exact hz), fun q h1 h2 => by rw [e1, hk q (Nat.lt_of_lt_of_le h1 hS.1) h2]; exact hS.2.1 q h1 h2, fun q hq => by
      rcases List.mem_append.mp hq with h | h
      · exact hS.2.2 q h
      · exact hL q h⟩ T' rfl X1
  exact ⟨t2, stp t2 a1, b1⟩
theorem cn_pre {b : Nat} {As : List Value} (hE : cn_E D kA s) (hA : ∀ q, s.heap.size ≤ q → A q) (hP : va_P D sg_cl ws H) (hD : va_D A ws) (hS : va_S A s.heap H locs) : PreS s H (cn_Pc D kA A (.ref b :: As) ws) (.ref b :: As) :=
  ⟨cn_blind, fun U hU hW => ⟨rfl, cn_E_warm hW hE, by rw [hU]; exact hP, hD, fun q hq => hA q (by rw [hU] at hq; exact Nat.le_trans hS.1 hq)⟩⟩
theorem nw_int (hexec : p.tables.exec = Jvm.exec) (hb : c.code = cc) (harr : (Cond.arrayClass .int).before args s = true) (hK : va_K D sg_cl (sg_tys kA) s) (hP : va_P D sg_cl ws H) (hD : va_D A ws) (hS : va_S A s.heap H locs) (hA : ∀ q, s.heap.size ≤ q → A q)
    {n : Int32} (N : Nat) (hn : ¬ n < 0) (hN : n.toNatClampNeg = N) (hbytes : N * 4 ≤ 536870912) (hcells : cells + 1 ≤ R.cells) (hslots : slots + N ≤ R.slots) (hdg : decode cc pc = .ok (.newarray .int, 2))
    (kk : ∀ (q : Nat) (H1 : Heap), va_P D sg_cl (ws ++ [(q, .inl (kA 0, N, .inl (fun _ => 0)))]) H1 → va_D A (ws ++ [(q, .inl (kA 0, N, .inl (fun _ => 0)))]) → va_S A s.heap H1 locs → W p l e R s m args below meth c H1 locs (cells + 1) (slots + N) Q (F0 m (pc + 2) ls (.ref q :: rest))) : W p l e R s m args below meth c H locs cells slots Q (F0 m pc ls (.int n :: rest)) := by
  refine va_newa hexec hb (atype := .int) harr (ty := .int) rfl hK hP hD hS hA (a0 := (N, .inl (fun _ => 0))) (fun _ => rfl) hn hN hbytes hcells hslots hdg (fun q cA H1 hK1 hP1 hD1 hS1 => ?_)
  have e1 : s.vm.findClass ("[" ++ FieldType.int.toString) = some cA := (hK1.2 4 (cA, .int) rfl).2
  have e2 : s.vm.findClass ("[" ++ FieldType.int.toString) = some (kA 0) := (hK.2 0 (kA 0, .int) rfl).2
  obtain rfl : cA = kA 0 := Option.some.inj (e1.symm.trans e2)
  exact kk q H1 hP1 hD1 hS1
theorem nw_ref (hexec : p.tables.exec = Jvm.exec) (hb : c.code = cc) {own C : String} {index : Nat} (hown : s.vm.findClass own = some m.cls) (hclink : (Cond.classLink own index C).before args s = true) (hover : va_AO C s) (hK : va_K D sg_cl (sg_tys kA) s) (k : Nat) {kc : ClassId} (hkc : (sg_tys kA)[k]? = some (kc, .object C)) (hP : va_P D sg_cl ws H) (hD : va_D A ws) (hS : va_S A s.heap H locs) (hA : ∀ q, s.heap.size ≤ q → A q)
    {n : Int32} (N : Nat) (hn : ¬ n < 0) (hN : n.toNatClampNeg = N) (hbytes : N * 4 ≤ 536870912) (hcells : cells + 1 ≤ R.cells) (hslots : slots + N ≤ R.slots) (hdg : decode cc pc = .ok (.anewarray index, 3))
    (kk : ∀ (q : Nat) (H1 : Heap), va_P D sg_cl (ws ++ [(q, .inl (kc, N, .inr (.inr (.inr (.inr (fun _ => none))))))]) H1 → va_D A (ws ++ [(q, .inl (kc, N, .inr (.inr (.inr (.inr (fun _ => none))))))]) → va_S A s.heap H1 locs → W p l e R s m args below meth c H1 locs (cells + 1) (slots + N) Q (F0 m (pc + 3) ls (.ref q :: rest))) : W p l e R s m args below meth c H locs cells slots Q (F0 m pc ls (.int n :: rest)) := by
  refine va_newq hexec hb hown hclink hover hK hP hD hS hA hn hN hbytes hcells hslots hdg (fun q cA H1 hK1 hP1 hD1 hS1 => ?_)
  obtain ⟨_, _, _, _, _, e1⟩ := (hK1.2 4 (cA, .object C) rfl).2
  obtain ⟨_, _, _, _, _, e2⟩ := (hK.2 k (kc, .object C) hkc).2
  obtain rfl : cA = kc := Option.some.inj (e1.symm.trans e2)
  exact kk q H1 hP1 hD1 hS1
end CNS

def cb_Piece (kA : Nat → ClassId) (g : Nat → Nat) (b : Int32) : va_W := [(g 0, .inr (1, [.int (b), .ref (g 1), .ref (g 2), .ref (g 3), .ref (g 4), .ref (g 5), .int 0, .int 0])), (g 1, .inl (kA 0, 8, .inl (fun _ => 0))), (g 2, .inl (kA 0, 8, .inl (fun _ => 0))), (g 3, .inl (kA 0, 8, .inl (fun _ => 0))), (g 4, .inl (kA 0, 8, .inl (fun _ => 0))), (g 5, .inl (kA 0, 8, .inl (fun _ => 0)))]
abbrev cy_Piece : MethodName := ⟨"SoftGlass$Piece", "<init>", "(Z)V"⟩
abbrev cr_Piece : Room := { frames := 1, cells := 5, slots := 40, locals := 12 }
abbrev cf_Piece : List Value := [.int 0, .null, .null, .null, .null, .null, .int 0, .int 0]
set_option maxHeartbeats 4000000 in
set_option maxRecDepth 100000 in
theorem cn_Piece (l : Launch) (D : va_G) (kA : Nat → ClassId) (A : Nat → Prop) (wr : va_W) (h0 : Nat) (b : Int32) (hb01 : narrow .boolean (.int b) = .int b) (hf01 : fits .boolean (.int b) = true) : Met l cy_Piece (cn_wd cy_Piece prog_2_method_1_code 2) cr_Piece (cn_Pc D kA A [.ref h0, .int b] (wr ++ [(h0, .inr (1, cf_Piece))])) (cn_Q (fun H => ∃ g : Nat → Nat, g 0 = h0 ∧ va_P D sg_cl (wr ++ cb_Piece kA g b) H ∧ va_D A (wr ++ cb_Piece kA g b)) A) 5 40 A := by
  refine Met.ofW (cc := prog_2_method_1_code) (maxL := 2) (ret := none) (by decide) rfl ?_
  intro p e s m args below meth c s₁ B hml hv
  obtain ⟨rfl, hE, hP, hD, hA⟩ := hv
  have hx := B.exec
  have hb := B.bytes
  have hr := B.returns
  have hts0 := atoms_spec (ws := cn_wd cy_Piece prog_2_method_1_code 2) B.pre
  have hts : ∀ w ∈ sg_tb, w.before _ s = true := fun w hw => hts0 w (List.mem_cons_of_mem _ hw)
  have hown : s.vm.findClass sg_R1 = some m.cls := findClass_of_methodNamed B.named
  have hin : meth.name = "<init>" := (name_of_methodNamed B.named B.method).1
  have hK := hE.1
  have hS : va_S A s.heap s.heap [] := va_S.rf
  have hl := lv_entry ([.ref h0, .int b]) (n := 2) (Nat.le_of_ble_eq_true rfl)
  rw [lg_entry_eq]
  generalize (lg_sl ([.ref h0, .int b]) ++ List.replicate (2 - (lg_sl ([.ref h0, .int b])).length) Slot.unset).toArray = ls at hl ⊢
  have hl : lv_has ls 2 [(0, .ref h0), (1, .int b)] := hl
  refine lv_aload_n hx hb (show decode prog_2_method_1_code 0 = .ok (.aload_n 0, 1) by decide +kernel) rfl (lv_at hl 0 rfl) ?_
  refine W.objInit hx hb hown (hts (.methodLink "SoftGlass$Piece" 3 objectInit) (sg_has_tb (p := 86) (by decide +kernel) rfl)) (hts (.instanceMethod objectInit) (sg_has_tb (p := 78) (by decide +kernel) rfl)) (hts (.code objectInit ⟨#[0xb1]⟩ 1 none) (sg_has_tb (p := 79) (by decide +kernel) rfl)) rfl (by rw [hml]; exact hl.1) rfl (show decode prog_2_method_1_code 1 = .ok (.invokespecial 3, 3) by decide +kernel) (Nat.le_of_ble_eq_true rfl) (Nat.le_of_ble_eq_true rfl) ?_
  refine W.eq (g2 := F0 m 4 ls []) rfl ?_
  refine lv_aload_n hx hb (show decode prog_2_method_1_code 4 = .ok (.aload_n 0, 1) by decide +kernel) rfl (lv_at hl 0 rfl) ?_
  refine lv_bipush (v := 8) hx hb (show decode prog_2_method_1_code 5 = .ok (.bipush 8, 2) by decide +kernel) (by decide) ?_
  refine nw_int hx hb (hts (.arrayClass .int) (sg_has_tb (p := 115) (by decide +kernel) rfl)) hK hP hD hS hA 8 (by decide) rfl (Nat.le_of_ble_eq_true rfl) (Nat.le_of_ble_eq_true rfl) (Nat.le_of_ble_eq_true rfl) (show decode prog_2_method_1_code 7 = .ok (.newarray .int, 2) by decide +kernel) (fun q1 H hP hD hS => ?_)
  rw [List.append_assoc] at hP hD
  have hP : va_P D sg_cl (wr ++ [(h0, .inr (1, [.int 0, .null, .null, .null, .null, .null, .int 0, .int 0])), (q1, .inl (kA 0, 8, .inl (fun _ => 0)))]) H := hP
  have hD : va_D A (wr ++ [(h0, .inr (1, [.int 0, .null, .null, .null, .null, .null, .int 0, .int 0])), (q1, .inl (kA 0, 8, .inl (fun _ => 0)))]) := hD
  refine va_putF (D := D) (ci := 1) (v := .ref q1) (ty := .array .int) (C := sg_R1) (T := sg_F1) (N := 8) hx hb hts (sg_lay (k := 1) (by decide)) sg_Y1 sg_Yok1 sg_Fnm1 hown hK hP hD hS (wr.length + 0) (by rw [ap_g]; rfl) rfl 1 (by decide) (hts (.fieldLink "SoftGlass$Piece" 9 "SoftGlass$Piece" "glass" "[I") (sg_has_tb (p := 88) (by decide +kernel) rfl)) (fun _ h9 => h9) rfl hin rfl (by decide +kernel) rfl rfl (Nat.le_of_ble_eq_true rfl) (show decode prog_2_method_1_code 9 = .ok (.putfield 9, 3) by decide +kernel) (fun H locs hP hD hS => ?_)
  rw [ap_s] at hP hD
  have hP : va_P D sg_cl (wr ++ [(h0, .inr (1, [.int 0, .ref q1, .null, .null, .null, .null, .int 0, .int 0])), (q1, .inl (kA 0, 8, .inl (fun _ => 0)))]) H := hP
  have hD : va_D A (wr ++ [(h0, .inr (1, [.int 0, .ref q1, .null, .null, .null, .null, .int 0, .int 0])), (q1, .inl (kA 0, 8, .inl (fun _ => 0)))]) := hD
  refine lv_aload_n hx hb (show decode prog_2_method_1_code 12 = .ok (.aload_n 0, 1) by decide +kernel) rfl (lv_at hl 0 rfl) ?_
  refine lv_bipush (v := 8) hx hb (show decode prog_2_method_1_code 13 = .ok (.bipush 8, 2) by decide +kernel) (by decide) ?_
  refine nw_int hx hb (hts (.arrayClass .int) (sg_has_tb (p := 115) (by decide +kernel) rfl)) hK hP hD hS hA 8 (by decide) rfl (Nat.le_of_ble_eq_true rfl) (Nat.le_of_ble_eq_true rfl) (Nat.le_of_ble_eq_true rfl) (show decode prog_2_method_1_code 15 = .ok (.newarray .int, 2) by decide +kernel) (fun q2 H hP hD hS => ?_)
  rw [List.append_assoc] at hP hD
  have hP : va_P D sg_cl (wr ++ [(h0, .inr (1, [.int 0, .ref q1, .null, .null, .null, .null, .int 0, .int 0])), (q1, .inl (kA 0, 8, .inl (fun _ => 0))), (q2, .inl (kA 0, 8, .inl (fun _ => 0)))]) H := hP
  have hD : va_D A (wr ++ [(h0, .inr (1, [.int 0, .ref q1, .null, .null, .null, .null, .int 0, .int 0])), (q1, .inl (kA 0, 8, .inl (fun _ => 0))), (q2, .inl (kA 0, 8, .inl (fun _ => 0)))]) := hD
  refine va_putF (D := D) (ci := 1) (v := .ref q2) (ty := .array .int) (C := sg_R1) (T := sg_F1) (N := 8) hx hb hts (sg_lay (k := 1) (by decide)) sg_Y1 sg_Yok1 sg_Fnm1 hown hK hP hD hS (wr.length + 0) (by rw [ap_g]; rfl) rfl 2 (by decide) (hts (.fieldLink "SoftGlass$Piece" 15 "SoftGlass$Piece" "radius" "[I") (sg_has_tb (p := 89) (by decide +kernel) rfl)) (fun _ h9 => h9) rfl hin rfl (by decide +kernel) rfl rfl (Nat.le_of_ble_eq_true rfl) (show decode prog_2_method_1_code 17 = .ok (.putfield 15, 3) by decide +kernel) (fun H locs hP hD hS => ?_)
  rw [ap_s] at hP hD
  have hP : va_P D sg_cl (wr ++ [(h0, .inr (1, [.int 0, .ref q1, .ref q2, .null, .null, .null, .int 0, .int 0])), (q1, .inl (kA 0, 8, .inl (fun _ => 0))), (q2, .inl (kA 0, 8, .inl (fun _ => 0)))]) H := hP
  have hD : va_D A (wr ++ [(h0, .inr (1, [.int 0, .ref q1, .ref q2, .null, .null, .null, .int 0, .int 0])), (q1, .inl (kA 0, 8, .inl (fun _ => 0))), (q2, .inl (kA 0, 8, .inl (fun _ => 0)))]) := hD
  refine lv_aload_n hx hb (show decode prog_2_method_1_code 20 = .ok (.aload_n 0, 1) by decide +kernel) rfl (lv_at hl 0 rfl) ?_
  refine lv_bipush (v := 8) hx hb (show decode prog_2_method_1_code 21 = .ok (.bipush 8, 2) by decide +kernel) (by decide) ?_
  refine nw_int hx hb (hts (.arrayClass .int) (sg_has_tb (p := 115) (by decide +kernel) rfl)) hK hP hD hS hA 8 (by decide) rfl (Nat.le_of_ble_eq_true rfl) (Nat.le_of_ble_eq_true rfl) (Nat.le_of_ble_eq_true rfl) (show decode prog_2_method_1_code 23 = .ok (.newarray .int, 2) by decide +kernel) (fun q3 H hP hD hS => ?_)
  rw [List.append_assoc] at hP hD
  have hP : va_P D sg_cl (wr ++ [(h0, .inr (1, [.int 0, .ref q1, .ref q2, .null, .null, .null, .int 0, .int 0])), (q1, .inl (kA 0, 8, .inl (fun _ => 0))), (q2, .inl (kA 0, 8, .inl (fun _ => 0))), (q3, .inl (kA 0, 8, .inl (fun _ => 0)))]) H := hP
  have hD : va_D A (wr ++ [(h0, .inr (1, [.int 0, .ref q1, .ref q2, .null, .null, .null, .int 0, .int 0])), (q1, .inl (kA 0, 8, .inl (fun _ => 0))), (q2, .inl (kA 0, 8, .inl (fun _ => 0))), (q3, .inl (kA 0, 8, .inl (fun _ => 0)))]) := hD
  refine va_putF (D := D) (ci := 1) (v := .ref q3) (ty := .array .int) (C := sg_R1) (T := sg_F1) (N := 8) hx hb hts (sg_lay (k := 1) (by decide)) sg_Y1 sg_Yok1 sg_Fnm1 hown hK hP hD hS (wr.length + 0) (by rw [ap_g]; rfl) rfl 3 (by decide) (hts (.fieldLink "SoftGlass$Piece" 18 "SoftGlass$Piece" "heat" "[I") (sg_has_tb (p := 90) (by decide +kernel) rfl)) (fun _ h9 => h9) rfl hin rfl (by decide +kernel) rfl rfl (Nat.le_of_ble_eq_true rfl) (show decode prog_2_method_1_code 25 = .ok (.putfield 18, 3) by decide +kernel) (fun H locs hP hD hS => ?_)
  rw [ap_s] at hP hD
  have hP : va_P D sg_cl (wr ++ [(h0, .inr (1, [.int 0, .ref q1, .ref q2, .ref q3, .null, .null, .int 0, .int 0])), (q1, .inl (kA 0, 8, .inl (fun _ => 0))), (q2, .inl (kA 0, 8, .inl (fun _ => 0))), (q3, .inl (kA 0, 8, .inl (fun _ => 0)))]) H := hP
  have hD : va_D A (wr ++ [(h0, .inr (1, [.int 0, .ref q1, .ref q2, .ref q3, .null, .null, .int 0, .int 0])), (q1, .inl (kA 0, 8, .inl (fun _ => 0))), (q2, .inl (kA 0, 8, .inl (fun _ => 0))), (q3, .inl (kA 0, 8, .inl (fun _ => 0)))]) := hD
  refine lv_aload_n hx hb (show decode prog_2_method_1_code 28 = .ok (.aload_n 0, 1) by decide +kernel) rfl (lv_at hl 0 rfl) ?_
  refine lv_bipush (v := 8) hx hb (show decode prog_2_method_1_code 29 = .ok (.bipush 8, 2) by decide +kernel) (by decide) ?_
  refine nw_int hx hb (hts (.arrayClass .int) (sg_has_tb (p := 115) (by decide +kernel) rfl)) hK hP hD hS hA 8 (by decide) rfl (Nat.le_of_ble_eq_true rfl) (Nat.le_of_ble_eq_true rfl) (Nat.le_of_ble_eq_true rfl) (show decode prog_2_method_1_code 31 = .ok (.newarray .int, 2) by decide +kernel) (fun q4 H hP hD hS => ?_)
  rw [List.append_assoc] at hP hD
  have hP : va_P D sg_cl (wr ++ [(h0, .inr (1, [.int 0, .ref q1, .ref q2, .ref q3, .null, .null, .int 0, .int 0])), (q1, .inl (kA 0, 8, .inl (fun _ => 0))), (q2, .inl (kA 0, 8, .inl (fun _ => 0))), (q3, .inl (kA 0, 8, .inl (fun _ => 0))), (q4, .inl (kA 0, 8, .inl (fun _ => 0)))]) H := hP
  have hD : va_D A (wr ++ [(h0, .inr (1, [.int 0, .ref q1, .ref q2, .ref q3, .null, .null, .int 0, .int 0])), (q1, .inl (kA 0, 8, .inl (fun _ => 0))), (q2, .inl (kA 0, 8, .inl (fun _ => 0))), (q3, .inl (kA 0, 8, .inl (fun _ => 0))), (q4, .inl (kA 0, 8, .inl (fun _ => 0)))]) := hD
  refine va_putF (D := D) (ci := 1) (v := .ref q4) (ty := .array .int) (C := sg_R1) (T := sg_F1) (N := 8) hx hb hts (sg_lay (k := 1) (by decide)) sg_Y1 sg_Yok1 sg_Fnm1 hown hK hP hD hS (wr.length + 0) (by rw [ap_g]; rfl) rfl 4 (by decide) (hts (.fieldLink "SoftGlass$Piece" 21 "SoftGlass$Piece" "strain" "[I") (sg_has_tb (p := 92) (by decide +kernel) rfl)) (fun _ h9 => h9) rfl hin rfl (by decide +kernel) rfl rfl (Nat.le_of_ble_eq_true rfl) (show decode prog_2_method_1_code 33 = .ok (.putfield 21, 3) by decide +kernel) (fun H locs hP hD hS => ?_)
  rw [ap_s] at hP hD
  have hP : va_P D sg_cl (wr ++ [(h0, .inr (1, [.int 0, .ref q1, .ref q2, .ref q3, .ref q4, .null, .int 0, .int 0])), (q1, .inl (kA 0, 8, .inl (fun _ => 0))), (q2, .inl (kA 0, 8, .inl (fun _ => 0))), (q3, .inl (kA 0, 8, .inl (fun _ => 0))), (q4, .inl (kA 0, 8, .inl (fun _ => 0)))]) H := hP
  have hD : va_D A (wr ++ [(h0, .inr (1, [.int 0, .ref q1, .ref q2, .ref q3, .ref q4, .null, .int 0, .int 0])), (q1, .inl (kA 0, 8, .inl (fun _ => 0))), (q2, .inl (kA 0, 8, .inl (fun _ => 0))), (q3, .inl (kA 0, 8, .inl (fun _ => 0))), (q4, .inl (kA 0, 8, .inl (fun _ => 0)))]) := hD
  refine lv_aload_n hx hb (show decode prog_2_method_1_code 36 = .ok (.aload_n 0, 1) by decide +kernel) rfl (lv_at hl 0 rfl) ?_
  refine lv_bipush (v := 8) hx hb (show decode prog_2_method_1_code 37 = .ok (.bipush 8, 2) by decide +kernel) (by decide) ?_
  refine nw_int hx hb (hts (.arrayClass .int) (sg_has_tb (p := 115) (by decide +kernel) rfl)) hK hP hD hS hA 8 (by decide) rfl (Nat.le_of_ble_eq_true rfl) (Nat.le_of_ble_eq_true rfl) (Nat.le_of_ble_eq_true rfl) (show decode prog_2_method_1_code 39 = .ok (.newarray .int, 2) by decide +kernel) (fun q5 H hP hD hS => ?_)
  rw [List.append_assoc] at hP hD
  have hP : va_P D sg_cl (wr ++ [(h0, .inr (1, [.int 0, .ref q1, .ref q2, .ref q3, .ref q4, .null, .int 0, .int 0])), (q1, .inl (kA 0, 8, .inl (fun _ => 0))), (q2, .inl (kA 0, 8, .inl (fun _ => 0))), (q3, .inl (kA 0, 8, .inl (fun _ => 0))), (q4, .inl (kA 0, 8, .inl (fun _ => 0))), (q5, .inl (kA 0, 8, .inl (fun _ => 0)))]) H := hP
  have hD : va_D A (wr ++ [(h0, .inr (1, [.int 0, .ref q1, .ref q2, .ref q3, .ref q4, .null, .int 0, .int 0])), (q1, .inl (kA 0, 8, .inl (fun _ => 0))), (q2, .inl (kA 0, 8, .inl (fun _ => 0))), (q3, .inl (kA 0, 8, .inl (fun _ => 0))), (q4, .inl (kA 0, 8, .inl (fun _ => 0))), (q5, .inl (kA 0, 8, .inl (fun _ => 0)))]) := hD
  refine va_putF (D := D) (ci := 1) (v := .ref q5) (ty := .array .int) (C := sg_R1) (T := sg_F1) (N := 8) hx hb hts (sg_lay (k := 1) (by decide)) sg_Y1 sg_Yok1 sg_Fnm1 hown hK hP hD hS (wr.length + 0) (by rw [ap_g]; rfl) rfl 5 (by decide) (hts (.fieldLink "SoftGlass$Piece" 24 "SoftGlass$Piece" "was" "[I") (sg_has_tb (p := 93) (by decide +kernel) rfl)) (fun _ h9 => h9) rfl hin rfl (by decide +kernel) rfl rfl (Nat.le_of_ble_eq_true rfl) (show decode prog_2_method_1_code 41 = .ok (.putfield 24, 3) by decide +kernel) (fun H locs hP hD hS => ?_)
  rw [ap_s] at hP hD
  have hP : va_P D sg_cl (wr ++ [(h0, .inr (1, [.int 0, .ref q1, .ref q2, .ref q3, .ref q4, .ref q5, .int 0, .int 0])), (q1, .inl (kA 0, 8, .inl (fun _ => 0))), (q2, .inl (kA 0, 8, .inl (fun _ => 0))), (q3, .inl (kA 0, 8, .inl (fun _ => 0))), (q4, .inl (kA 0, 8, .inl (fun _ => 0))), (q5, .inl (kA 0, 8, .inl (fun _ => 0)))]) H := hP
  have hD : va_D A (wr ++ [(h0, .inr (1, [.int 0, .ref q1, .ref q2, .ref q3, .ref q4, .ref q5, .int 0, .int 0])), (q1, .inl (kA 0, 8, .inl (fun _ => 0))), (q2, .inl (kA 0, 8, .inl (fun _ => 0))), (q3, .inl (kA 0, 8, .inl (fun _ => 0))), (q4, .inl (kA 0, 8, .inl (fun _ => 0))), (q5, .inl (kA 0, 8, .inl (fun _ => 0)))]) := hD
  refine lv_aload_n hx hb (show decode prog_2_method_1_code 44 = .ok (.aload_n 0, 1) by decide +kernel) rfl (lv_at hl 0 rfl) ?_
  refine lv_iload_n hx hb (show decode prog_2_method_1_code 45 = .ok (.iload_n 1, 1) by decide +kernel) rfl (lv_at hl 1 rfl) ?_
  refine va_putF (D := D) (ci := 1) (v := .int (b)) (ty := .boolean) (C := sg_R1) (T := sg_F1) (N := 8) hx hb hts (sg_lay (k := 1) (by decide)) sg_Y1 sg_Yok1 sg_Fnm1 hown hK hP hD hS (wr.length + 0) (by rw [ap_g]; rfl) rfl 0 (by decide) (hts (.fieldLink "SoftGlass$Piece" 27 "SoftGlass$Piece" "onIron" "Z") (sg_has_tb (p := 87) (by decide +kernel) rfl)) (fun _ h9 => h9) rfl hin rfl (by decide +kernel) hb01 hf01 (Nat.le_of_ble_eq_true rfl) (show decode prog_2_method_1_code 46 = .ok (.putfield 27, 3) by decide +kernel) (fun H locs hP hD hS => ?_)
  rw [ap_s] at hP hD
  have hP : va_P D sg_cl (wr ++ [(h0, .inr (1, [.int (b), .ref q1, .ref q2, .ref q3, .ref q4, .ref q5, .int 0, .int 0])), (q1, .inl (kA 0, 8, .inl (fun _ => 0))), (q2, .inl (kA 0, 8, .inl (fun _ => 0))), (q3, .inl (kA 0, 8, .inl (fun _ => 0))), (q4, .inl (kA 0, 8, .inl (fun _ => 0))), (q5, .inl (kA 0, 8, .inl (fun _ => 0)))]) H := hP
  have hD : va_D A (wr ++ [(h0, .inr (1, [.int (b), .ref q1, .ref q2, .ref q3, .ref q4, .ref q5, .int 0, .int 0])), (q1, .inl (kA 0, 8, .inl (fun _ => 0))), (q2, .inl (kA 0, 8, .inl (fun _ => 0))), (q3, .inl (kA 0, 8, .inl (fun _ => 0))), (q4, .inl (kA 0, 8, .inl (fun _ => 0))), (q5, .inl (kA 0, 8, .inl (fun _ => 0)))]) := hD
  refine W.widen (k := 5) (n := 40) (Nat.le_of_ble_eq_true rfl) (Nat.le_of_ble_eq_true rfl) ?_
  exact W.vret hx hb hr (fun t ht hW => ⟨rfl, ⟨fun j => [h0, q1, q2, q3, q4, q5].getD j 0, rfl, by rw [ht]; exact hP, hD⟩, hS.F ht⟩) hS.2.2 (show decode prog_2_method_1_code 49 = .ok (.return_, 1) by decide +kernel)
def cb_Recipe (kA : Nat → ClassId) (g : Nat → Nat) : va_W := [(g 0, .inr (2, [.ref (g 1), .ref (g 2), .int 0])), (g 1, .inl (kA 0, 8, .inl (fun _ => 0))), (g 2, .inl (kA 0, 8, .inl (fun _ => 0)))]
abbrev cy_Recipe : MethodName := ⟨"SoftGlass$Recipe", "<init>", "()V"⟩
abbrev cr_Recipe : Room := { frames := 1, cells := 2, slots := 16, locals := 12 }
abbrev cf_Recipe : List Value := [.null, .null, .int 0]
set_option maxHeartbeats 4000000 in
set_option maxRecDepth 100000 in
theorem cn_Recipe (l : Launch) (D : va_G) (kA : Nat → ClassId) (A : Nat → Prop) (wr : va_W) (h0 : Nat) : Met l cy_Recipe (cn_wd cy_Recipe prog_3_method_1_code 1) cr_Recipe (cn_Pc D kA A [.ref h0] (wr ++ [(h0, .inr (2, cf_Recipe))])) (cn_Q (fun H => ∃ g : Nat → Nat, g 0 = h0 ∧ va_P D sg_cl (wr ++ cb_Recipe kA g) H ∧ va_D A (wr ++ cb_Recipe kA g)) A) 2 16 A := by
  refine Met.ofW (cc := prog_3_method_1_code) (maxL := 1) (ret := none) (by decide) rfl ?_
  intro p e s m args below meth c s₁ B hml hv
  obtain ⟨rfl, hE, hP, hD, hA⟩ := hv
  have hx := B.exec
  have hb := B.bytes
  have hr := B.returns
  have hts0 := atoms_spec (ws := cn_wd cy_Recipe prog_3_method_1_code 1) B.pre
  have hts : ∀ w ∈ sg_tb, w.before _ s = true := fun w hw => hts0 w (List.mem_cons_of_mem _ hw)
  have hown : s.vm.findClass sg_R2 = some m.cls := findClass_of_methodNamed B.named
  have hin : meth.name = "<init>" := (name_of_methodNamed B.named B.method).1
  have hK := hE.1
  have hS : va_S A s.heap s.heap [] := va_S.rf
  have hl := lv_entry ([.ref h0]) (n := 1) (Nat.le_of_ble_eq_true rfl)
  rw [lg_entry_eq]
  generalize (lg_sl ([.ref h0]) ++ List.replicate (1 - (lg_sl ([.ref h0])).length) Slot.unset).toArray = ls at hl ⊢
  have hl : lv_has ls 1 [(0, .ref h0)] := hl
  refine lv_aload_n hx hb (show decode prog_3_method_1_code 0 = .ok (.aload_n 0, 1) by decide +kernel) rfl (lv_at hl 0 rfl) ?_
  refine W.objInit hx hb hown (hts (.methodLink "SoftGlass$Recipe" 3 objectInit) (sg_has_tb (p := 160) (by decide +kernel) rfl)) (hts (.instanceMethod objectInit) (sg_has_tb (p := 78) (by decide +kernel) rfl)) (hts (.code objectInit ⟨#[0xb1]⟩ 1 none) (sg_has_tb (p := 79) (by decide +kernel) rfl)) rfl (by rw [hml]; exact hl.1) rfl (show decode prog_3_method_1_code 1 = .ok (.invokespecial 3, 3) by decide +kernel) (Nat.le_of_ble_eq_true rfl) (Nat.le_of_ble_eq_true rfl) ?_
  refine W.eq (g2 := F0 m 4 ls []) rfl ?_
  refine lv_aload_n hx hb (show decode prog_3_method_1_code 4 = .ok (.aload_n 0, 1) by decide +kernel) rfl (lv_at hl 0 rfl) ?_
  refine lv_bipush (v := 8) hx hb (show decode prog_3_method_1_code 5 = .ok (.bipush 8, 2) by decide +kernel) (by decide) ?_
  refine nw_int hx hb (hts (.arrayClass .int) (sg_has_tb (p := 115) (by decide +kernel) rfl)) hK hP hD hS hA 8 (by decide) rfl (Nat.le_of_ble_eq_true rfl) (Nat.le_of_ble_eq_true rfl) (Nat.le_of_ble_eq_true rfl) (show decode prog_3_method_1_code 7 = .ok (.newarray .int, 2) by decide +kernel) (fun q1 H hP hD hS => ?_)
  rw [List.append_assoc] at hP hD
  have hP : va_P D sg_cl (wr ++ [(h0, .inr (2, [.null, .null, .int 0])), (q1, .inl (kA 0, 8, .inl (fun _ => 0)))]) H := hP
  have hD : va_D A (wr ++ [(h0, .inr (2, [.null, .null, .int 0])), (q1, .inl (kA 0, 8, .inl (fun _ => 0)))]) := hD
  refine va_putF (D := D) (ci := 2) (v := .ref q1) (ty := .array .int) (C := sg_R2) (T := sg_F2) (N := 3) hx hb hts (sg_lay (k := 2) (by decide)) sg_Y2 sg_Yok2 sg_Fnm2 hown hK hP hD hS (wr.length + 0) (by rw [ap_g]; rfl) rfl 0 (by decide) (hts (.fieldLink "SoftGlass$Recipe" 9 "SoftGlass$Recipe" "letters" "[I") (sg_has_tb (p := 161) (by decide +kernel) rfl)) (fun _ h9 => h9) rfl hin rfl (by decide +kernel) rfl rfl (Nat.le_of_ble_eq_true rfl) (show decode prog_3_method_1_code 9 = .ok (.putfield 9, 3) by decide +kernel) (fun H locs hP hD hS => ?_)
  rw [ap_s] at hP hD
  have hP : va_P D sg_cl (wr ++ [(h0, .inr (2, [.ref q1, .null, .int 0])), (q1, .inl (kA 0, 8, .inl (fun _ => 0)))]) H := hP
  have hD : va_D A (wr ++ [(h0, .inr (2, [.ref q1, .null, .int 0])), (q1, .inl (kA 0, 8, .inl (fun _ => 0)))]) := hD
  refine lv_aload_n hx hb (show decode prog_3_method_1_code 12 = .ok (.aload_n 0, 1) by decide +kernel) rfl (lv_at hl 0 rfl) ?_
  refine lv_bipush (v := 8) hx hb (show decode prog_3_method_1_code 13 = .ok (.bipush 8, 2) by decide +kernel) (by decide) ?_
  refine nw_int hx hb (hts (.arrayClass .int) (sg_has_tb (p := 115) (by decide +kernel) rfl)) hK hP hD hS hA 8 (by decide) rfl (Nat.le_of_ble_eq_true rfl) (Nat.le_of_ble_eq_true rfl) (Nat.le_of_ble_eq_true rfl) (show decode prog_3_method_1_code 15 = .ok (.newarray .int, 2) by decide +kernel) (fun q2 H hP hD hS => ?_)
  rw [List.append_assoc] at hP hD
  have hP : va_P D sg_cl (wr ++ [(h0, .inr (2, [.ref q1, .null, .int 0])), (q1, .inl (kA 0, 8, .inl (fun _ => 0))), (q2, .inl (kA 0, 8, .inl (fun _ => 0)))]) H := hP
  have hD : va_D A (wr ++ [(h0, .inr (2, [.ref q1, .null, .int 0])), (q1, .inl (kA 0, 8, .inl (fun _ => 0))), (q2, .inl (kA 0, 8, .inl (fun _ => 0)))]) := hD
  refine va_putF (D := D) (ci := 2) (v := .ref q2) (ty := .array .int) (C := sg_R2) (T := sg_F2) (N := 3) hx hb hts (sg_lay (k := 2) (by decide)) sg_Y2 sg_Yok2 sg_Fnm2 hown hK hP hD hS (wr.length + 0) (by rw [ap_g]; rfl) rfl 1 (by decide) (hts (.fieldLink "SoftGlass$Recipe" 15 "SoftGlass$Recipe" "numbers" "[I") (sg_has_tb (p := 163) (by decide +kernel) rfl)) (fun _ h9 => h9) rfl hin rfl (by decide +kernel) rfl rfl (Nat.le_of_ble_eq_true rfl) (show decode prog_3_method_1_code 17 = .ok (.putfield 15, 3) by decide +kernel) (fun H locs hP hD hS => ?_)
  rw [ap_s] at hP hD
  have hP : va_P D sg_cl (wr ++ [(h0, .inr (2, [.ref q1, .ref q2, .int 0])), (q1, .inl (kA 0, 8, .inl (fun _ => 0))), (q2, .inl (kA 0, 8, .inl (fun _ => 0)))]) H := hP
  have hD : va_D A (wr ++ [(h0, .inr (2, [.ref q1, .ref q2, .int 0])), (q1, .inl (kA 0, 8, .inl (fun _ => 0))), (q2, .inl (kA 0, 8, .inl (fun _ => 0)))]) := hD
  refine W.widen (k := 2) (n := 16) (Nat.le_of_ble_eq_true rfl) (Nat.le_of_ble_eq_true rfl) ?_
  exact W.vret hx hb hr (fun t ht hW => ⟨rfl, ⟨fun j => [h0, q1, q2].getD j 0, rfl, by rw [ht]; exact hP, hD⟩, hS.F ht⟩) hS.2.2 (show decode prog_3_method_1_code 20 = .ok (.return_, 1) by decide +kernel)
def cb_Text (kA : Nat → ClassId) (g : Nat → Nat) : va_W := [(g 0, .inr (3, [.ref (g 1), .int 0])), (g 1, .inl (kA 0, 60, .inl (fun _ => 0)))]
abbrev cy_Text : MethodName := ⟨"SoftGlass$Text", "<init>", "()V"⟩
abbrev cr_Text : Room := { frames := 1, cells := 1, slots := 60, locals := 12 }
abbrev cf_Text : List Value := [.null, .int 0]
set_option maxHeartbeats 4000000 in
set_option maxRecDepth 100000 in
theorem cn_Text (l : Launch) (D : va_G) (kA : Nat → ClassId) (A : Nat → Prop) (wr : va_W) (h0 : Nat) : Met l cy_Text (cn_wd cy_Text prog_6_method_1_code 1) cr_Text (cn_Pc D kA A [.ref h0] (wr ++ [(h0, .inr (3, cf_Text))])) (cn_Q (fun H => ∃ g : Nat → Nat, g 0 = h0 ∧ va_P D sg_cl (wr ++ cb_Text kA g) H ∧ va_D A (wr ++ cb_Text kA g)) A) 1 60 A := by
  refine Met.ofW (cc := prog_6_method_1_code) (maxL := 1) (ret := none) (by decide) rfl ?_
  intro p e s m args below meth c s₁ B hml hv
  obtain ⟨rfl, hE, hP, hD, hA⟩ := hv
  have hx := B.exec
  have hb := B.bytes
  have hr := B.returns
  have hts0 := atoms_spec (ws := cn_wd cy_Text prog_6_method_1_code 1) B.pre
  have hts : ∀ w ∈ sg_tb, w.before _ s = true := fun w hw => hts0 w (List.mem_cons_of_mem _ hw)
  have hown : s.vm.findClass sg_R3 = some m.cls := findClass_of_methodNamed B.named
  have hin : meth.name = "<init>" := (name_of_methodNamed B.named B.method).1
  have hK := hE.1
  have hS : va_S A s.heap s.heap [] := va_S.rf
  have hl := lv_entry ([.ref h0]) (n := 1) (Nat.le_of_ble_eq_true rfl)
  rw [lg_entry_eq]
  generalize (lg_sl ([.ref h0]) ++ List.replicate (1 - (lg_sl ([.ref h0])).length) Slot.unset).toArray = ls at hl ⊢
  have hl : lv_has ls 1 [(0, .ref h0)] := hl
  refine lv_aload_n hx hb (show decode prog_6_method_1_code 0 = .ok (.aload_n 0, 1) by decide +kernel) rfl (lv_at hl 0 rfl) ?_
  refine W.objInit hx hb hown (hts (.methodLink "SoftGlass$Text" 3 objectInit) (sg_has_tb (p := 123) (by decide +kernel) rfl)) (hts (.instanceMethod objectInit) (sg_has_tb (p := 78) (by decide +kernel) rfl)) (hts (.code objectInit ⟨#[0xb1]⟩ 1 none) (sg_has_tb (p := 79) (by decide +kernel) rfl)) rfl (by rw [hml]; exact hl.1) rfl (show decode prog_6_method_1_code 1 = .ok (.invokespecial 3, 3) by decide +kernel) (Nat.le_of_ble_eq_true rfl) (Nat.le_of_ble_eq_true rfl) ?_
  refine W.eq (g2 := F0 m 4 ls []) rfl ?_
  refine lv_aload_n hx hb (show decode prog_6_method_1_code 4 = .ok (.aload_n 0, 1) by decide +kernel) rfl (lv_at hl 0 rfl) ?_
  refine lv_bipush (v := 60) hx hb (show decode prog_6_method_1_code 5 = .ok (.bipush 60, 2) by decide +kernel) (by decide) ?_
  refine nw_int hx hb (hts (.arrayClass .int) (sg_has_tb (p := 115) (by decide +kernel) rfl)) hK hP hD hS hA 60 (by decide) rfl (Nat.le_of_ble_eq_true rfl) (Nat.le_of_ble_eq_true rfl) (Nat.le_of_ble_eq_true rfl) (show decode prog_6_method_1_code 7 = .ok (.newarray .int, 2) by decide +kernel) (fun q1 H hP hD hS => ?_)
  rw [List.append_assoc] at hP hD
  have hP : va_P D sg_cl (wr ++ [(h0, .inr (3, [.null, .int 0])), (q1, .inl (kA 0, 60, .inl (fun _ => 0)))]) H := hP
  have hD : va_D A (wr ++ [(h0, .inr (3, [.null, .int 0])), (q1, .inl (kA 0, 60, .inl (fun _ => 0)))]) := hD
  refine va_putF (D := D) (ci := 3) (v := .ref q1) (ty := .array .int) (C := sg_R3) (T := sg_F3) (N := 2) hx hb hts (sg_lay (k := 3) (by decide)) sg_Y3 sg_Yok3 sg_Fnm3 hown hK hP hD hS (wr.length + 0) (by rw [ap_g]; rfl) rfl 0 (by decide) (hts (.fieldLink "SoftGlass$Text" 9 "SoftGlass$Text" "codes" "[I") (sg_has_tb (p := 124) (by decide +kernel) rfl)) (fun _ h9 => h9) rfl hin rfl (by decide +kernel) rfl rfl (Nat.le_of_ble_eq_true rfl) (show decode prog_6_method_1_code 9 = .ok (.putfield 9, 3) by decide +kernel) (fun H locs hP hD hS => ?_)
  rw [ap_s] at hP hD
  have hP : va_P D sg_cl (wr ++ [(h0, .inr (3, [.ref q1, .int 0])), (q1, .inl (kA 0, 60, .inl (fun _ => 0)))]) H := hP
  have hD : va_D A (wr ++ [(h0, .inr (3, [.ref q1, .int 0])), (q1, .inl (kA 0, 60, .inl (fun _ => 0)))]) := hD
  refine W.widen (k := 1) (n := 60) (Nat.le_of_ble_eq_true rfl) (Nat.le_of_ble_eq_true rfl) ?_
  exact W.vret hx hb hr (fun t ht hW => ⟨rfl, ⟨fun j => [h0, q1].getD j 0, rfl, by rw [ht]; exact hP, hD⟩, hS.F ht⟩) hS.2.2 (show decode prog_6_method_1_code 12 = .ok (.return_, 1) by decide +kernel)
def cb_Shop (kA : Nat → ClassId) (g : Nat → Nat) : va_W := [(g 0, .inr (4, [.ref (g 1), .ref (g 2), .ref (g 3), .ref (g 4), .int 0])), (g 1, .inl (kA 0, 7, .inl (fun _ => 0))), (g 2, .inl (kA 0, 7, .inl (fun _ => 0))), (g 3, .inl (kA 0, 7, .inl (fun _ => 0))), (g 4, .inl (kA 0, 7, .inl (fun _ => 0)))]
abbrev cy_Shop : MethodName := ⟨"SoftGlass$Shop", "<init>", "()V"⟩
abbrev cr_Shop : Room := { frames := 1, cells := 4, slots := 28, locals := 12 }
abbrev cf_Shop : List Value := [.null, .null, .null, .null, .int 0]
set_option maxHeartbeats 4000000 in
set_option maxRecDepth 100000 in
theorem cn_Shop (l : Launch) (D : va_G) (kA : Nat → ClassId) (A : Nat → Prop) (wr : va_W) (h0 : Nat) : Met l cy_Shop (cn_wd cy_Shop prog_5_method_1_code 1) cr_Shop (cn_Pc D kA A [.ref h0] (wr ++ [(h0, .inr (4, cf_Shop))])) (cn_Q (fun H => ∃ g : Nat → Nat, g 0 = h0 ∧ va_P D sg_cl (wr ++ cb_Shop kA g) H ∧ va_D A (wr ++ cb_Shop kA g)) A) 4 28 A := by
  refine Met.ofW (cc := prog_5_method_1_code) (maxL := 1) (ret := none) (by decide) rfl ?_
  intro p e s m args below meth c s₁ B hml hv
  obtain ⟨rfl, hE, hP, hD, hA⟩ := hv
  have hx := B.exec
  have hb := B.bytes
  have hr := B.returns
  have hts0 := atoms_spec (ws := cn_wd cy_Shop prog_5_method_1_code 1) B.pre
  have hts : ∀ w ∈ sg_tb, w.before _ s = true := fun w hw => hts0 w (List.mem_cons_of_mem _ hw)
  have hown : s.vm.findClass sg_R4 = some m.cls := findClass_of_methodNamed B.named
  have hin : meth.name = "<init>" := (name_of_methodNamed B.named B.method).1
  have hK := hE.1
  have hS : va_S A s.heap s.heap [] := va_S.rf
  have hl := lv_entry ([.ref h0]) (n := 1) (Nat.le_of_ble_eq_true rfl)
  rw [lg_entry_eq]
  generalize (lg_sl ([.ref h0]) ++ List.replicate (1 - (lg_sl ([.ref h0])).length) Slot.unset).toArray = ls at hl ⊢
  have hl : lv_has ls 1 [(0, .ref h0)] := hl
  refine lv_aload_n hx hb (show decode prog_5_method_1_code 0 = .ok (.aload_n 0, 1) by decide +kernel) rfl (lv_at hl 0 rfl) ?_
  refine W.objInit hx hb hown (hts (.methodLink "SoftGlass$Shop" 3 objectInit) (sg_has_tb (p := 136) (by decide +kernel) rfl)) (hts (.instanceMethod objectInit) (sg_has_tb (p := 78) (by decide +kernel) rfl)) (hts (.code objectInit ⟨#[0xb1]⟩ 1 none) (sg_has_tb (p := 79) (by decide +kernel) rfl)) rfl (by rw [hml]; exact hl.1) rfl (show decode prog_5_method_1_code 1 = .ok (.invokespecial 3, 3) by decide +kernel) (Nat.le_of_ble_eq_true rfl) (Nat.le_of_ble_eq_true rfl) ?_
  refine W.eq (g2 := F0 m 4 ls []) rfl ?_
  refine lv_aload_n hx hb (show decode prog_5_method_1_code 4 = .ok (.aload_n 0, 1) by decide +kernel) rfl (lv_at hl 0 rfl) ?_
  refine lv_bipush (v := 7) hx hb (show decode prog_5_method_1_code 5 = .ok (.bipush 7, 2) by decide +kernel) (by decide) ?_
  refine nw_int hx hb (hts (.arrayClass .int) (sg_has_tb (p := 115) (by decide +kernel) rfl)) hK hP hD hS hA 7 (by decide) rfl (Nat.le_of_ble_eq_true rfl) (Nat.le_of_ble_eq_true rfl) (Nat.le_of_ble_eq_true rfl) (show decode prog_5_method_1_code 7 = .ok (.newarray .int, 2) by decide +kernel) (fun q1 H hP hD hS => ?_)
  rw [List.append_assoc] at hP hD
  have hP : va_P D sg_cl (wr ++ [(h0, .inr (4, [.null, .null, .null, .null, .int 0])), (q1, .inl (kA 0, 7, .inl (fun _ => 0)))]) H := hP
  have hD : va_D A (wr ++ [(h0, .inr (4, [.null, .null, .null, .null, .int 0])), (q1, .inl (kA 0, 7, .inl (fun _ => 0)))]) := hD
  refine va_putF (D := D) (ci := 4) (v := .ref q1) (ty := .array .int) (C := sg_R4) (T := sg_F4) (N := 5) hx hb hts (sg_lay (k := 4) (by decide)) sg_Y4 sg_Yok4 sg_Fnm4 hown hK hP hD hS (wr.length + 0) (by rw [ap_g]; rfl) rfl 0 (by decide) (hts (.fieldLink "SoftGlass$Shop" 9 "SoftGlass$Shop" "mouths" "[I") (sg_has_tb (p := 137) (by decide +kernel) rfl)) (fun _ h9 => h9) rfl hin rfl (by decide +kernel) rfl rfl (Nat.le_of_ble_eq_true rfl) (show decode prog_5_method_1_code 9 = .ok (.putfield 9, 3) by decide +kernel) (fun H locs hP hD hS => ?_)
  rw [ap_s] at hP hD
  have hP : va_P D sg_cl (wr ++ [(h0, .inr (4, [.ref q1, .null, .null, .null, .int 0])), (q1, .inl (kA 0, 7, .inl (fun _ => 0)))]) H := hP
  have hD : va_D A (wr ++ [(h0, .inr (4, [.ref q1, .null, .null, .null, .int 0])), (q1, .inl (kA 0, 7, .inl (fun _ => 0)))]) := hD
  refine lv_aload_n hx hb (show decode prog_5_method_1_code 12 = .ok (.aload_n 0, 1) by decide +kernel) rfl (lv_at hl 0 rfl) ?_
  refine lv_bipush (v := 7) hx hb (show decode prog_5_method_1_code 13 = .ok (.bipush 7, 2) by decide +kernel) (by decide) ?_
  refine nw_int hx hb (hts (.arrayClass .int) (sg_has_tb (p := 115) (by decide +kernel) rfl)) hK hP hD hS hA 7 (by decide) rfl (Nat.le_of_ble_eq_true rfl) (Nat.le_of_ble_eq_true rfl) (Nat.le_of_ble_eq_true rfl) (show decode prog_5_method_1_code 15 = .ok (.newarray .int, 2) by decide +kernel) (fun q2 H hP hD hS => ?_)
  rw [List.append_assoc] at hP hD
  have hP : va_P D sg_cl (wr ++ [(h0, .inr (4, [.ref q1, .null, .null, .null, .int 0])), (q1, .inl (kA 0, 7, .inl (fun _ => 0))), (q2, .inl (kA 0, 7, .inl (fun _ => 0)))]) H := hP
  have hD : va_D A (wr ++ [(h0, .inr (4, [.ref q1, .null, .null, .null, .int 0])), (q1, .inl (kA 0, 7, .inl (fun _ => 0))), (q2, .inl (kA 0, 7, .inl (fun _ => 0)))]) := hD
  refine va_putF (D := D) (ci := 4) (v := .ref q2) (ty := .array .int) (C := sg_R4) (T := sg_F4) (N := 5) hx hb hts (sg_lay (k := 4) (by decide)) sg_Y4 sg_Yok4 sg_Fnm4 hown hK hP hD hS (wr.length + 0) (by rw [ap_g]; rfl) rfl 1 (by decide) (hts (.fieldLink "SoftGlass$Shop" 15 "SoftGlass$Shop" "benches" "[I") (sg_has_tb (p := 138) (by decide +kernel) rfl)) (fun _ h9 => h9) rfl hin rfl (by decide +kernel) rfl rfl (Nat.le_of_ble_eq_true rfl) (show decode prog_5_method_1_code 17 = .ok (.putfield 15, 3) by decide +kernel) (fun H locs hP hD hS => ?_)
  rw [ap_s] at hP hD
  have hP : va_P D sg_cl (wr ++ [(h0, .inr (4, [.ref q1, .ref q2, .null, .null, .int 0])), (q1, .inl (kA 0, 7, .inl (fun _ => 0))), (q2, .inl (kA 0, 7, .inl (fun _ => 0)))]) H := hP
  have hD : va_D A (wr ++ [(h0, .inr (4, [.ref q1, .ref q2, .null, .null, .int 0])), (q1, .inl (kA 0, 7, .inl (fun _ => 0))), (q2, .inl (kA 0, 7, .inl (fun _ => 0)))]) := hD
  refine lv_aload_n hx hb (show decode prog_5_method_1_code 20 = .ok (.aload_n 0, 1) by decide +kernel) rfl (lv_at hl 0 rfl) ?_
  refine lv_bipush (v := 7) hx hb (show decode prog_5_method_1_code 21 = .ok (.bipush 7, 2) by decide +kernel) (by decide) ?_
  refine nw_int hx hb (hts (.arrayClass .int) (sg_has_tb (p := 115) (by decide +kernel) rfl)) hK hP hD hS hA 7 (by decide) rfl (Nat.le_of_ble_eq_true rfl) (Nat.le_of_ble_eq_true rfl) (Nat.le_of_ble_eq_true rfl) (show decode prog_5_method_1_code 23 = .ok (.newarray .int, 2) by decide +kernel) (fun q3 H hP hD hS => ?_)
  rw [List.append_assoc] at hP hD
  have hP : va_P D sg_cl (wr ++ [(h0, .inr (4, [.ref q1, .ref q2, .null, .null, .int 0])), (q1, .inl (kA 0, 7, .inl (fun _ => 0))), (q2, .inl (kA 0, 7, .inl (fun _ => 0))), (q3, .inl (kA 0, 7, .inl (fun _ => 0)))]) H := hP
  have hD : va_D A (wr ++ [(h0, .inr (4, [.ref q1, .ref q2, .null, .null, .int 0])), (q1, .inl (kA 0, 7, .inl (fun _ => 0))), (q2, .inl (kA 0, 7, .inl (fun _ => 0))), (q3, .inl (kA 0, 7, .inl (fun _ => 0)))]) := hD
  refine va_putF (D := D) (ci := 4) (v := .ref q3) (ty := .array .int) (C := sg_R4) (T := sg_F4) (N := 5) hx hb hts (sg_lay (k := 4) (by decide)) sg_Y4 sg_Yok4 sg_Fnm4 hown hK hP hD hS (wr.length + 0) (by rw [ap_g]; rfl) rfl 2 (by decide) (hts (.fieldLink "SoftGlass$Shop" 18 "SoftGlass$Shop" "worths" "[I") (sg_has_tb (p := 139) (by decide +kernel) rfl)) (fun _ h9 => h9) rfl hin rfl (by decide +kernel) rfl rfl (Nat.le_of_ble_eq_true rfl) (show decode prog_5_method_1_code 25 = .ok (.putfield 18, 3) by decide +kernel) (fun H locs hP hD hS => ?_)
  rw [ap_s] at hP hD
  have hP : va_P D sg_cl (wr ++ [(h0, .inr (4, [.ref q1, .ref q2, .ref q3, .null, .int 0])), (q1, .inl (kA 0, 7, .inl (fun _ => 0))), (q2, .inl (kA 0, 7, .inl (fun _ => 0))), (q3, .inl (kA 0, 7, .inl (fun _ => 0)))]) H := hP
  have hD : va_D A (wr ++ [(h0, .inr (4, [.ref q1, .ref q2, .ref q3, .null, .int 0])), (q1, .inl (kA 0, 7, .inl (fun _ => 0))), (q2, .inl (kA 0, 7, .inl (fun _ => 0))), (q3, .inl (kA 0, 7, .inl (fun _ => 0)))]) := hD
  refine lv_aload_n hx hb (show decode prog_5_method_1_code 28 = .ok (.aload_n 0, 1) by decide +kernel) rfl (lv_at hl 0 rfl) ?_
  refine lv_bipush (v := 7) hx hb (show decode prog_5_method_1_code 29 = .ok (.bipush 7, 2) by decide +kernel) (by decide) ?_
  refine nw_int hx hb (hts (.arrayClass .int) (sg_has_tb (p := 115) (by decide +kernel) rfl)) hK hP hD hS hA 7 (by decide) rfl (Nat.le_of_ble_eq_true rfl) (Nat.le_of_ble_eq_true rfl) (Nat.le_of_ble_eq_true rfl) (show decode prog_5_method_1_code 31 = .ok (.newarray .int, 2) by decide +kernel) (fun q4 H hP hD hS => ?_)
  rw [List.append_assoc] at hP hD
  have hP : va_P D sg_cl (wr ++ [(h0, .inr (4, [.ref q1, .ref q2, .ref q3, .null, .int 0])), (q1, .inl (kA 0, 7, .inl (fun _ => 0))), (q2, .inl (kA 0, 7, .inl (fun _ => 0))), (q3, .inl (kA 0, 7, .inl (fun _ => 0))), (q4, .inl (kA 0, 7, .inl (fun _ => 0)))]) H := hP
  have hD : va_D A (wr ++ [(h0, .inr (4, [.ref q1, .ref q2, .ref q3, .null, .int 0])), (q1, .inl (kA 0, 7, .inl (fun _ => 0))), (q2, .inl (kA 0, 7, .inl (fun _ => 0))), (q3, .inl (kA 0, 7, .inl (fun _ => 0))), (q4, .inl (kA 0, 7, .inl (fun _ => 0)))]) := hD
  refine va_putF (D := D) (ci := 4) (v := .ref q4) (ty := .array .int) (C := sg_R4) (T := sg_F4) (N := 5) hx hb hts (sg_lay (k := 4) (by decide)) sg_Y4 sg_Yok4 sg_Fnm4 hown hK hP hD hS (wr.length + 0) (by rw [ap_g]; rfl) rfl 3 (by decide) (hts (.fieldLink "SoftGlass$Shop" 21 "SoftGlass$Shop" "ranked" "[I") (sg_has_tb (p := 140) (by decide +kernel) rfl)) (fun _ h9 => h9) rfl hin rfl (by decide +kernel) rfl rfl (Nat.le_of_ble_eq_true rfl) (show decode prog_5_method_1_code 33 = .ok (.putfield 21, 3) by decide +kernel) (fun H locs hP hD hS => ?_)
  rw [ap_s] at hP hD
  have hP : va_P D sg_cl (wr ++ [(h0, .inr (4, [.ref q1, .ref q2, .ref q3, .ref q4, .int 0])), (q1, .inl (kA 0, 7, .inl (fun _ => 0))), (q2, .inl (kA 0, 7, .inl (fun _ => 0))), (q3, .inl (kA 0, 7, .inl (fun _ => 0))), (q4, .inl (kA 0, 7, .inl (fun _ => 0)))]) H := hP
  have hD : va_D A (wr ++ [(h0, .inr (4, [.ref q1, .ref q2, .ref q3, .ref q4, .int 0])), (q1, .inl (kA 0, 7, .inl (fun _ => 0))), (q2, .inl (kA 0, 7, .inl (fun _ => 0))), (q3, .inl (kA 0, 7, .inl (fun _ => 0))), (q4, .inl (kA 0, 7, .inl (fun _ => 0)))]) := hD
  refine W.widen (k := 4) (n := 28) (Nat.le_of_ble_eq_true rfl) (Nat.le_of_ble_eq_true rfl) ?_
  exact W.vret hx hb hr (fun t ht hW => ⟨rfl, ⟨fun j => [h0, q1, q2, q3, q4].getD j 0, rfl, by rw [ht]; exact hP, hD⟩, hS.F ht⟩) hS.2.2 (show decode prog_5_method_1_code 36 = .ok (.return_, 1) by decide +kernel)
def cb_Sheet (kA : Nat → ClassId) (g : Nat → Nat) : va_W := [(g 0, .inr (5, [.ref (g 1), .int 0, .int (-1)])), (g 1, .inl (kA 0, 60, .inl (fun _ => 0)))]
abbrev cy_Sheet : MethodName := ⟨"SoftGlass$Sheet", "<init>", "()V"⟩
abbrev cr_Sheet : Room := { frames := 1, cells := 1, slots := 60, locals := 12 }
abbrev cf_Sheet : List Value := [.null, .int 0, .int 0]
set_option maxHeartbeats 4000000 in
set_option maxRecDepth 100000 in
theorem cn_Sheet (l : Launch) (D : va_G) (kA : Nat → ClassId) (A : Nat → Prop) (wr : va_W) (h0 : Nat) : Met l cy_Sheet (cn_wd cy_Sheet prog_4_method_1_code 1) cr_Sheet (cn_Pc D kA A [.ref h0] (wr ++ [(h0, .inr (5, cf_Sheet))])) (cn_Q (fun H => ∃ g : Nat → Nat, g 0 = h0 ∧ va_P D sg_cl (wr ++ cb_Sheet kA g) H ∧ va_D A (wr ++ cb_Sheet kA g)) A) 1 60 A := by
  refine Met.ofW (cc := prog_4_method_1_code) (maxL := 1) (ret := none) (by decide) rfl ?_
  intro p e s m args below meth c s₁ B hml hv
  obtain ⟨rfl, hE, hP, hD, hA⟩ := hv
  have hx := B.exec
  have hb := B.bytes
  have hr := B.returns
  have hts0 := atoms_spec (ws := cn_wd cy_Sheet prog_4_method_1_code 1) B.pre
  have hts : ∀ w ∈ sg_tb, w.before _ s = true := fun w hw => hts0 w (List.mem_cons_of_mem _ hw)
  have hown : s.vm.findClass sg_R5 = some m.cls := findClass_of_methodNamed B.named
  have hin : meth.name = "<init>" := (name_of_methodNamed B.named B.method).1
  have hK := hE.1
  have hS : va_S A s.heap s.heap [] := va_S.rf
  have hl := lv_entry ([.ref h0]) (n := 1) (Nat.le_of_ble_eq_true rfl)
  rw [lg_entry_eq]
  generalize (lg_sl ([.ref h0]) ++ List.replicate (1 - (lg_sl ([.ref h0])).length) Slot.unset).toArray = ls at hl ⊢
  have hl : lv_has ls 1 [(0, .ref h0)] := hl
  refine lv_aload_n hx hb (show decode prog_4_method_1_code 0 = .ok (.aload_n 0, 1) by decide +kernel) rfl (lv_at hl 0 rfl) ?_
  refine W.objInit hx hb hown (hts (.methodLink "SoftGlass$Sheet" 3 objectInit) (sg_has_tb (p := 178) (by decide +kernel) rfl)) (hts (.instanceMethod objectInit) (sg_has_tb (p := 78) (by decide +kernel) rfl)) (hts (.code objectInit ⟨#[0xb1]⟩ 1 none) (sg_has_tb (p := 79) (by decide +kernel) rfl)) rfl (by rw [hml]; exact hl.1) rfl (show decode prog_4_method_1_code 1 = .ok (.invokespecial 3, 3) by decide +kernel) (Nat.le_of_ble_eq_true rfl) (Nat.le_of_ble_eq_true rfl) ?_
  refine W.eq (g2 := F0 m 4 ls []) rfl ?_
  refine lv_aload_n hx hb (show decode prog_4_method_1_code 4 = .ok (.aload_n 0, 1) by decide +kernel) rfl (lv_at hl 0 rfl) ?_
  refine lv_bipush (v := 60) hx hb (show decode prog_4_method_1_code 5 = .ok (.bipush 60, 2) by decide +kernel) (by decide) ?_
  refine nw_int hx hb (hts (.arrayClass .int) (sg_has_tb (p := 115) (by decide +kernel) rfl)) hK hP hD hS hA 60 (by decide) rfl (Nat.le_of_ble_eq_true rfl) (Nat.le_of_ble_eq_true rfl) (Nat.le_of_ble_eq_true rfl) (show decode prog_4_method_1_code 7 = .ok (.newarray .int, 2) by decide +kernel) (fun q1 H hP hD hS => ?_)
  rw [List.append_assoc] at hP hD
  have hP : va_P D sg_cl (wr ++ [(h0, .inr (5, [.null, .int 0, .int 0])), (q1, .inl (kA 0, 60, .inl (fun _ => 0)))]) H := hP
  have hD : va_D A (wr ++ [(h0, .inr (5, [.null, .int 0, .int 0])), (q1, .inl (kA 0, 60, .inl (fun _ => 0)))]) := hD
  refine va_putF (D := D) (ci := 5) (v := .ref q1) (ty := .array .int) (C := sg_R5) (T := sg_F5) (N := 3) hx hb hts (sg_lay (k := 5) (by decide)) sg_Y5 sg_Yok5 sg_Fnm5 hown hK hP hD hS (wr.length + 0) (by rw [ap_g]; rfl) rfl 0 (by decide) (hts (.fieldLink "SoftGlass$Sheet" 9 "SoftGlass$Sheet" "cells" "[I") (sg_has_tb (p := 179) (by decide +kernel) rfl)) (fun _ h9 => h9) rfl hin rfl (by decide +kernel) rfl rfl (Nat.le_of_ble_eq_true rfl) (show decode prog_4_method_1_code 9 = .ok (.putfield 9, 3) by decide +kernel) (fun H locs hP hD hS => ?_)
  rw [ap_s] at hP hD
  have hP : va_P D sg_cl (wr ++ [(h0, .inr (5, [.ref q1, .int 0, .int 0])), (q1, .inl (kA 0, 60, .inl (fun _ => 0)))]) H := hP
  have hD : va_D A (wr ++ [(h0, .inr (5, [.ref q1, .int 0, .int 0])), (q1, .inl (kA 0, 60, .inl (fun _ => 0)))]) := hD
  refine lv_aload_n hx hb (show decode prog_4_method_1_code 12 = .ok (.aload_n 0, 1) by decide +kernel) rfl (lv_at hl 0 rfl) ?_
  refine lv_iconst (v := (-1)) hx hb (show decode prog_4_method_1_code 13 = .ok (.iconst (-1), 1) by decide +kernel) (by decide) ?_
  refine va_put (D := D) (ci := 5) (v := .int (-1)) (ty := .int) (C := sg_R5) (T := sg_F5) (N := 3) hx hb hts (sg_lay (k := 5) (by decide)) sg_Y5 sg_Yok5 sg_Fnm5 hown hK hP hD hS (wr.length + 0) (by rw [ap_g]; rfl) rfl 2 (by decide) (hts (.fieldLink "SoftGlass$Sheet" 15 "SoftGlass$Sheet" "length" "I") (sg_has_tb (p := 185) (by decide +kernel) rfl)) (fun _ h9 => h9) rfl (by decide +kernel) rfl rfl (Nat.le_of_ble_eq_true rfl) (show decode prog_4_method_1_code 14 = .ok (.putfield 15, 3) by decide +kernel) (fun H locs hP hD hS => ?_)
  rw [ap_s] at hP hD
  have hP : va_P D sg_cl (wr ++ [(h0, .inr (5, [.ref q1, .int 0, .int (-1)])), (q1, .inl (kA 0, 60, .inl (fun _ => 0)))]) H := hP
  have hD : va_D A (wr ++ [(h0, .inr (5, [.ref q1, .int 0, .int (-1)])), (q1, .inl (kA 0, 60, .inl (fun _ => 0)))]) := hD
  refine W.widen (k := 1) (n := 60) (Nat.le_of_ble_eq_true rfl) (Nat.le_of_ble_eq_true rfl) ?_
  exact W.vret hx hb hr (fun t ht hW => ⟨rfl, ⟨fun j => [h0, q1].getD j 0, rfl, by rw [ht]; exact hP, hD⟩, hS.F ht⟩) hS.2.2 (show decode prog_4_method_1_code 17 = .ok (.return_, 1) by decide +kernel)
