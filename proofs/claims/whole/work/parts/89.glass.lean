/-! SoftGlass is made -/
abbrev cy_Glass : MethodName := ⟨"SoftGlass", "<init>", "()V"⟩
abbrev cr_Glass : Room := { frames := 2, cells := 119, slots := 1135, locals := 33 }
abbrev cf_Glass : List Value := [.null, .null, .null, .null, .null, .null, .null, .null, .int 0, .int 0, .int 0, .int 0, .int 0]
abbrev cq_ref (k : ClassId) (n : Nat) (f : Nat → Option Nat) : va_E := .inl (k, n, .inr (.inr (.inr (.inr f))))
theorem cn_good {y : MethodName} {cd : ByteArray} {mx : Nat} (h : Cond.code y cd mx none ∈ sg_tb) : GoodIn sg_tb (cn_wd y cd mx) := sg_goodIn (fun w hw => by
  rcases List.mem_cons.mp hw with rfl | hw
  · exact h
  · exact hw)
def cx_P (kA : Nat → ClassId) (g : Nat → Nat → Nat) (k : Nat) : va_W := (List.range k).flatMap (fun i => cb_Piece kA (g i) 1)
theorem cx_P_s (kA : Nat → ClassId) (g : Nat → Nat → Nat) (g1 : Nat → Nat) (k : Nat) : cx_P kA g k ++ cb_Piece kA g1 1 = cx_P kA (fun i => if i = k then g1 else g i) (k + 1) := by
  unfold cx_P
  rw [List.range_succ, List.flatMap_append]
  congr 1
  · have : ∀ i ∈ List.range k, cb_Piece kA (g i) 1 = cb_Piece kA (if i = k then g1 else g i) 1 := fun i hi => by
      rw [if_neg (Nat.ne_of_lt (List.mem_range.mp hi))]
    rw [List.flatMap_def, List.flatMap_def, List.map_congr_left this]
  · simp only [List.flatMap_singleton, if_true]
set_option maxHeartbeats 4000000 in
set_option maxRecDepth 100000 in
theorem cl_P {p : Program} {l : Launch} {e : Env} {s : State} {m : MethodId} {args : Array Value} {below : List Frame} {meth : Method} {c : Code} {Q : State → Prop} {kA : Nat → ClassId} {D : va_G} {A : Nat → Prop} (hx : p.tables.exec = Jvm.exec) (hb : c.code = prog_1_method_1_code) (hml : c.maxLocals = 2) (hown : s.vm.findClass sg_R0 = some m.cls) (hts : ∀ w ∈ sg_tb, w.before args s = true) (hE : cn_E D kA s) (hA : ∀ q, s.heap.size ≤ q → A q) {h0 a : Nat} {fs : List Value} (hfs : fs[0]? = some (.ref a)) (U V : va_W) (C0 S0 : Nat) (hC : C0 + 6 * 8 ≤ 119) (hS0 : S0 + 48 * 8 ≤ 1135)
    (kk : ∀ (pf : Nat → Option Nat) (g : Nat → Nat → Nat) (H : Heap) (locs : List Loc) (ls : Array Slot), (∀ i, i < 8 → pf i = some (g i 0)) → va_P D sg_cl ((h0, .inr (0, fs)) :: U ++ (a, cq_ref (kA 2) 8 pf) :: (V ++ cx_P kA g 8)) H → va_D A ((h0, .inr (0, fs)) :: U ++ (a, cq_ref (kA 2) 8 pf) :: (V ++ cx_P kA g 8)) → va_S A s.heap H locs → lv_has ls 2 [(1, .int (nI 8)), (0, .ref h0)] → W p l e cr_Glass s m args below meth c H locs (C0 + 6 * 8) (S0 + 48 * 8) Q (F0 m 108 ls [])) :
    ∀ (n k : Nat) (pf : Nat → Option Nat) (g : Nat → Nat → Nat) (H : Heap) (locs : List Loc) (ls : Array Slot), k + n = 8 → (∀ i, i < k → pf i = some (g i 0)) → va_P D sg_cl ((h0, .inr (0, fs)) :: U ++ (a, cq_ref (kA 2) 8 pf) :: (V ++ cx_P kA g k)) H → va_D A ((h0, .inr (0, fs)) :: U ++ (a, cq_ref (kA 2) 8 pf) :: (V ++ cx_P kA g k)) → va_S A s.heap H locs → lv_has ls 2 [(1, .int (nI k)), (0, .ref h0)] → W p l e cr_Glass s m args below meth c H locs (C0 + 6 * k) (S0 + 48 * k) Q (F0 m 82 ls []) := by
  intro n
  induction n with
  | zero =>
    intro k pf g H locs ls hk hpf hP hD hS hl
    obtain rfl : k = 8 := by omega
    refine lv_iload_n hx hb (show decode prog_1_method_1_code 82 = .ok (.iload_n 1, 1) by decide +kernel) rfl (lv_at hl 0 rfl) ?_
    refine lv_bipush (v := nI 8) hx hb (show decode prog_1_method_1_code 83 = .ok (.bipush 8, 2) by decide +kernel) (by decide) ?_
    exact lv_icmp_ge (tgt := 108) hx hb (show decode prog_1_method_1_code 85 = .ok (.if_icmp .ge 23, 3) by decide +kernel) (by decide) (fun _ => kk pf g H locs ls hpf hP hD hS hl) (fun z => absurd (by decide) z)
  | succ n ih =>
    intro k pf g H locs ls hk hpf hP hD hS hl
    refine lv_iload_n hx hb (show decode prog_1_method_1_code 82 = .ok (.iload_n 1, 1) by decide +kernel) rfl (lv_at hl 0 rfl) ?_
    refine lv_bipush (v := nI 8) hx hb (show decode prog_1_method_1_code 83 = .ok (.bipush 8, 2) by decide +kernel) (by decide) ?_
    refine lv_icmp_ge (tgt := 108) hx hb (show decode prog_1_method_1_code 85 = .ok (.if_icmp .ge 23, 3) by decide +kernel) (by decide) (fun z => absurd z (by rw [nI_leI (by omega) (by omega)]; omega)) (fun _ => ?_)
    refine lv_aload_n hx hb (show decode prog_1_method_1_code 88 = .ok (.aload_n 0, 1) by decide +kernel) rfl (lv_at hl 1 rfl) ?_
    refine va_get (D := D) (ci := 0) (v := .ref a) (C := sg_R0) (T := sg_F0) (N := 13) hx hb hts (sg_lay (k := 0) (by decide)) hown hE.1 hP 0 rfl rfl 0 (by decide) (hts (.fieldLink "SoftGlass" 13 "SoftGlass" "pieces" "[LSoftGlass$Piece;") (sg_has_tb (p := 193) (by decide +kernel) rfl)) (fun _ h9 => h9) hfs (show decode prog_1_method_1_code 89 = .ok (.getfield 13, 3) by decide +kernel) ?_
    refine lv_iload_n hx hb (show decode prog_1_method_1_code 92 = .ok (.iload_n 1, 1) by decide +kernel) rfl (lv_at hl 0 rfl) ?_
    refine va_new (ci := 1) (fs := cf_Piece) (C := sg_R1) (T := sg_F1) (N := 8) hx hb hts (sg_lay (k := 1) (by decide)) sg_Y1 sg_Yok1 hown (hts (.classLink "SoftGlass" 11 "SoftGlass$Piece") (sg_has_tb (p := 80) (by decide +kernel) rfl)) (hts (.instantiable "SoftGlass$Piece" 8) (sg_has_tb (p := 82) (by decide +kernel) rfl)) (hts (.initialized "SoftGlass$Piece") (sg_has_tb (p := 63) (by decide +kernel) rfl)) hE.1 hP hD hS hA rfl (fun j hj => by rcases (show j = 0 ∨ j = 1 ∨ j = 2 ∨ j = 3 ∨ j = 4 ∨ j = 5 ∨ j = 6 ∨ j = 7 by omega) with rfl | rfl | rfl | rfl | rfl | rfl | rfl | rfl <;> rfl) (by show C0 + 6 * k + 1 ≤ 119; omega) (by show S0 + 48 * k + 8 ≤ 1135; omega) (show decode prog_1_method_1_code 93 = .ok (.new 11, 3) by decide +kernel) (fun q H hP hD hS => ?_)
    refine lv_dup hx hb (show decode prog_1_method_1_code 96 = .ok (.dup, 1) by decide +kernel) rfl ?_
    refine lv_iconst (v := 1) hx hb (show decode prog_1_method_1_code 97 = .ok (.iconst 1, 1) by decide +kernel) (by decide) ?_
    refine cn_callW (va_runI (As := [.int 1]) (rest := [.ref q, .int (nI k), .ref a]) ⟨hx, hb, hml, hown, hts⟩ (cn_Piece l D kA A _ q 1 rfl rfl) (cwI 1 hts (cn_good (sg_has_tb (p := 85) (by decide +kernel) rfl)) rfl rfl rfl (hts (.initialized "SoftGlass$Piece") (sg_has_tb (p := 63) (by decide +kernel) rfl)) (hts (.methodLink "SoftGlass" 20 cy_Piece) (sg_has_tb (p := 83) (by decide +kernel) rfl)) (hts (.instanceMethod cy_Piece) (sg_has_tb (p := 84) (by decide +kernel) rfl)) rfl (by decide +kernel) ⟨Nat.le_of_ble_eq_true rfl, Nat.le_of_ble_eq_true rfl⟩) (cn_pre hE hA hP hD hS) rfl rfl hl.1 rfl (lv_room (Nat.le_of_ble_eq_true rfl)) (show decode prog_1_method_1_code 98 = .ok (.invokespecial 20, 3) by decide +kernel) ⟨(by show C0 + 6 * k + 1 + 5 ≤ 119; omega), (by show S0 + 48 * k + 8 + 40 ≤ 1135; omega)⟩) hS (fun H locs ⟨g1, hg1, hP2, hD2⟩ hS2 => ?_)
    clear hP hD hS
    subst hg1
    have hP := hP2
    have hD := hD2
    have hS := hS2
    clear hP2 hD2 hS2
    have hEq : ((h0, .inr (0, fs)) :: U ++ (a, cq_ref (kA 2) 8 pf) :: (V ++ cx_P kA g k)) ++ cb_Piece kA g1 1 = (h0, .inr (0, fs)) :: U ++ (a, cq_ref (kA 2) 8 pf) :: (V ++ cx_P kA (fun i => if i = k then g1 else g i) (k + 1)) := by
      rw [← cx_P_s]
      simp only [List.append_assoc, List.cons_append]
    refine va_astq (D := D) hx hb hE.1 hP hD hS (((h0, .inr (0, fs)) :: U : va_W).length + 0) 1 ((((h0, .inr (0, fs)) :: U ++ (a, cq_ref (kA 2) 8 pf) :: (V ++ cx_P kA g k)) : va_W).length + 0) 1 (by rw [hEq, ap_g]; rfl) rfl (by rw [ap_g]; rfl) rfl (vp_in_nI (by omega) (by omega)) (show decode prog_1_method_1_code 101 = .ok (.aastore, 1) by decide +kernel) (fun H locs hP hD hS => ?_)
    rw [hEq, ap_s, sg_nIc (show k < 2 ^ 31 by omega)] at hP hD
    refine lv_iinc (v := nI (k + 1)) (lv' := [(1, .int (nI (k + 1))), (0, .ref h0)]) hx hb (show decode prog_1_method_1_code 102 = .ok (.iinc 1 1, 3) by decide +kernel) hl (k := 0) rfl (by rw [show Int32.ofInt 1 = 1 from rfl]; exact nI_1 k) (by decide) rfl (fun ls hl => ?_)
    refine lv_goto (tgt := 82) hx hb (show decode prog_1_method_1_code 105 = .ok (.goto (-23), 3) by decide +kernel) (by decide) ?_
    refine W.widen (k := C0 + 6 * (k + 1)) (n := S0 + 48 * (k + 1)) (by omega) (by omega) ?_
    refine ih (k + 1) (va_up pf k (some (g1 0))) (fun i => if i = k then g1 else g i) H locs ls (by omega) (fun i hi => ?_) hP hD hS hl
    by_cases hik : i = k
    · subst hik; simp [va_up]
    · simp [va_up, hik]; exact hpf i (by omega)
def cx_Q (kA : Nat → ClassId) (g : Nat → Nat → Nat) (k : Nat) : va_W := (List.range k).flatMap (fun i => cb_Piece kA (g i) 1)
theorem cx_Q_s (kA : Nat → ClassId) (g : Nat → Nat → Nat) (g1 : Nat → Nat) (k : Nat) : cx_Q kA g k ++ cb_Piece kA g1 1 = cx_Q kA (fun i => if i = k then g1 else g i) (k + 1) := by
  unfold cx_Q
  rw [List.range_succ, List.flatMap_append]
  congr 1
  · have : ∀ i ∈ List.range k, cb_Piece kA (g i) 1 = cb_Piece kA (if i = k then g1 else g i) 1 := fun i hi => by
      rw [if_neg (Nat.ne_of_lt (List.mem_range.mp hi))]
    rw [List.flatMap_def, List.flatMap_def, List.map_congr_left this]
  · simp only [List.flatMap_singleton, if_true]
set_option maxHeartbeats 4000000 in
set_option maxRecDepth 100000 in
theorem cl_Q {p : Program} {l : Launch} {e : Env} {s : State} {m : MethodId} {args : Array Value} {below : List Frame} {meth : Method} {c : Code} {Q : State → Prop} {kA : Nat → ClassId} {D : va_G} {A : Nat → Prop} (hx : p.tables.exec = Jvm.exec) (hb : c.code = prog_1_method_1_code) (hml : c.maxLocals = 2) (hown : s.vm.findClass sg_R0 = some m.cls) (hts : ∀ w ∈ sg_tb, w.before args s = true) (hE : cn_E D kA s) (hA : ∀ q, s.heap.size ≤ q → A q) {h0 a : Nat} {fs : List Value} (hfs : fs[1]? = some (.ref a)) (U V : va_W) (C0 S0 : Nat) (hC : C0 + 6 * 4 ≤ 119) (hS0 : S0 + 48 * 4 ≤ 1135)
    (kk : ∀ (pf : Nat → Option Nat) (g : Nat → Nat → Nat) (H : Heap) (locs : List Loc) (ls : Array Slot), (∀ i, i < 4 → pf i = some (g i 0)) → va_P D sg_cl ((h0, .inr (0, fs)) :: U ++ (a, cq_ref (kA 2) 4 pf) :: (V ++ cx_Q kA g 4)) H → va_D A ((h0, .inr (0, fs)) :: U ++ (a, cq_ref (kA 2) 4 pf) :: (V ++ cx_Q kA g 4)) → va_S A s.heap H locs → lv_has ls 2 [(1, .int (nI 4)), (0, .ref h0)] → W p l e cr_Glass s m args below meth c H locs (C0 + 6 * 4) (S0 + 48 * 4) Q (F0 m 135 ls [])) :
    ∀ (n k : Nat) (pf : Nat → Option Nat) (g : Nat → Nat → Nat) (H : Heap) (locs : List Loc) (ls : Array Slot), k + n = 4 → (∀ i, i < k → pf i = some (g i 0)) → va_P D sg_cl ((h0, .inr (0, fs)) :: U ++ (a, cq_ref (kA 2) 4 pf) :: (V ++ cx_Q kA g k)) H → va_D A ((h0, .inr (0, fs)) :: U ++ (a, cq_ref (kA 2) 4 pf) :: (V ++ cx_Q kA g k)) → va_S A s.heap H locs → lv_has ls 2 [(1, .int (nI k)), (0, .ref h0)] → W p l e cr_Glass s m args below meth c H locs (C0 + 6 * k) (S0 + 48 * k) Q (F0 m 110 ls []) := by
  intro n
  induction n with
  | zero =>
    intro k pf g H locs ls hk hpf hP hD hS hl
    obtain rfl : k = 4 := by omega
    refine lv_iload_n hx hb (show decode prog_1_method_1_code 110 = .ok (.iload_n 1, 1) by decide +kernel) rfl (lv_at hl 0 rfl) ?_
    refine lv_iconst (v := nI 3) hx hb (show decode prog_1_method_1_code 111 = .ok (.iconst 3, 1) by decide +kernel) (by decide) ?_
    exact lv_icmp_gt (tgt := 135) hx hb (show decode prog_1_method_1_code 112 = .ok (.if_icmp .gt 23, 3) by decide +kernel) (by decide) (fun _ => kk pf g H locs ls hpf hP hD hS hl) (fun z => absurd (by decide) z)
  | succ n ih =>
    intro k pf g H locs ls hk hpf hP hD hS hl
    refine lv_iload_n hx hb (show decode prog_1_method_1_code 110 = .ok (.iload_n 1, 1) by decide +kernel) rfl (lv_at hl 0 rfl) ?_
    refine lv_iconst (v := nI 3) hx hb (show decode prog_1_method_1_code 111 = .ok (.iconst 3, 1) by decide +kernel) (by decide) ?_
    refine lv_icmp_gt (tgt := 135) hx hb (show decode prog_1_method_1_code 112 = .ok (.if_icmp .gt 23, 3) by decide +kernel) (by decide) (fun z => absurd z (by rw [nI_ltI (by omega) (by omega)]; omega)) (fun _ => ?_)
    refine lv_aload_n hx hb (show decode prog_1_method_1_code 115 = .ok (.aload_n 0, 1) by decide +kernel) rfl (lv_at hl 1 rfl) ?_
    refine va_get (D := D) (ci := 0) (v := .ref a) (C := sg_R0) (T := sg_F0) (N := 13) hx hb hts (sg_lay (k := 0) (by decide)) hown hE.1 hP 0 rfl rfl 1 (by decide) (hts (.fieldLink "SoftGlass" 17 "SoftGlass" "stages" "[LSoftGlass$Piece;") (sg_has_tb (p := 194) (by decide +kernel) rfl)) (fun _ h9 => h9) hfs (show decode prog_1_method_1_code 116 = .ok (.getfield 17, 3) by decide +kernel) ?_
    refine lv_iload_n hx hb (show decode prog_1_method_1_code 119 = .ok (.iload_n 1, 1) by decide +kernel) rfl (lv_at hl 0 rfl) ?_
    refine va_new (ci := 1) (fs := cf_Piece) (C := sg_R1) (T := sg_F1) (N := 8) hx hb hts (sg_lay (k := 1) (by decide)) sg_Y1 sg_Yok1 hown (hts (.classLink "SoftGlass" 11 "SoftGlass$Piece") (sg_has_tb (p := 80) (by decide +kernel) rfl)) (hts (.instantiable "SoftGlass$Piece" 8) (sg_has_tb (p := 82) (by decide +kernel) rfl)) (hts (.initialized "SoftGlass$Piece") (sg_has_tb (p := 63) (by decide +kernel) rfl)) hE.1 hP hD hS hA rfl (fun j hj => by rcases (show j = 0 ∨ j = 1 ∨ j = 2 ∨ j = 3 ∨ j = 4 ∨ j = 5 ∨ j = 6 ∨ j = 7 by omega) with rfl | rfl | rfl | rfl | rfl | rfl | rfl | rfl <;> rfl) (by show C0 + 6 * k + 1 ≤ 119; omega) (by show S0 + 48 * k + 8 ≤ 1135; omega) (show decode prog_1_method_1_code 120 = .ok (.new 11, 3) by decide +kernel) (fun q H hP hD hS => ?_)
    refine lv_dup hx hb (show decode prog_1_method_1_code 123 = .ok (.dup, 1) by decide +kernel) rfl ?_
    refine lv_iconst (v := 1) hx hb (show decode prog_1_method_1_code 124 = .ok (.iconst 1, 1) by decide +kernel) (by decide) ?_
    refine cn_callW (va_runI (As := [.int 1]) (rest := [.ref q, .int (nI k), .ref a]) ⟨hx, hb, hml, hown, hts⟩ (cn_Piece l D kA A _ q 1 rfl rfl) (cwI 1 hts (cn_good (sg_has_tb (p := 85) (by decide +kernel) rfl)) rfl rfl rfl (hts (.initialized "SoftGlass$Piece") (sg_has_tb (p := 63) (by decide +kernel) rfl)) (hts (.methodLink "SoftGlass" 20 cy_Piece) (sg_has_tb (p := 83) (by decide +kernel) rfl)) (hts (.instanceMethod cy_Piece) (sg_has_tb (p := 84) (by decide +kernel) rfl)) rfl (by decide +kernel) ⟨Nat.le_of_ble_eq_true rfl, Nat.le_of_ble_eq_true rfl⟩) (cn_pre hE hA hP hD hS) rfl rfl hl.1 rfl (lv_room (Nat.le_of_ble_eq_true rfl)) (show decode prog_1_method_1_code 125 = .ok (.invokespecial 20, 3) by decide +kernel) ⟨(by show C0 + 6 * k + 1 + 5 ≤ 119; omega), (by show S0 + 48 * k + 8 + 40 ≤ 1135; omega)⟩) hS (fun H locs ⟨g1, hg1, hP2, hD2⟩ hS2 => ?_)
    clear hP hD hS
    subst hg1
    have hP := hP2
    have hD := hD2
    have hS := hS2
    clear hP2 hD2 hS2
    have hEq : ((h0, .inr (0, fs)) :: U ++ (a, cq_ref (kA 2) 4 pf) :: (V ++ cx_Q kA g k)) ++ cb_Piece kA g1 1 = (h0, .inr (0, fs)) :: U ++ (a, cq_ref (kA 2) 4 pf) :: (V ++ cx_Q kA (fun i => if i = k then g1 else g i) (k + 1)) := by
      rw [← cx_Q_s]
      simp only [List.append_assoc, List.cons_append]
    refine va_astq (D := D) hx hb hE.1 hP hD hS (((h0, .inr (0, fs)) :: U : va_W).length + 0) 1 ((((h0, .inr (0, fs)) :: U ++ (a, cq_ref (kA 2) 4 pf) :: (V ++ cx_Q kA g k)) : va_W).length + 0) 1 (by rw [hEq, ap_g]; rfl) rfl (by rw [ap_g]; rfl) rfl (vp_in_nI (by omega) (by omega)) (show decode prog_1_method_1_code 128 = .ok (.aastore, 1) by decide +kernel) (fun H locs hP hD hS => ?_)
    rw [hEq, ap_s, sg_nIc (show k < 2 ^ 31 by omega)] at hP hD
    refine lv_iinc (v := nI (k + 1)) (lv' := [(1, .int (nI (k + 1))), (0, .ref h0)]) hx hb (show decode prog_1_method_1_code 129 = .ok (.iinc 1 1, 3) by decide +kernel) hl (k := 0) rfl (by rw [show Int32.ofInt 1 = 1 from rfl]; exact nI_1 k) (by decide) rfl (fun ls hl => ?_)
    refine lv_goto (tgt := 110) hx hb (show decode prog_1_method_1_code 132 = .ok (.goto (-22), 3) by decide +kernel) (by decide) ?_
    refine W.widen (k := C0 + 6 * (k + 1)) (n := S0 + 48 * (k + 1)) (by omega) (by omega) ?_
    refine ih (k + 1) (va_up pf k (some (g1 0))) (fun i => if i = k then g1 else g i) H locs ls (by omega) (fun i hi => ?_) hP hD hS hl
    by_cases hik : i = k
    · subst hik; simp [va_up]
    · simp [va_up, hik]; exact hpf i (by omega)
def cx_R (kA : Nat → ClassId) (g : Nat → Nat → Nat) (k : Nat) : va_W := (List.range k).flatMap (fun i => cb_Recipe kA (g i))
theorem cx_R_s (kA : Nat → ClassId) (g : Nat → Nat → Nat) (g1 : Nat → Nat) (k : Nat) : cx_R kA g k ++ cb_Recipe kA g1 = cx_R kA (fun i => if i = k then g1 else g i) (k + 1) := by
  unfold cx_R
  rw [List.range_succ, List.flatMap_append]
  congr 1
  · have : ∀ i ∈ List.range k, cb_Recipe kA (g i) = cb_Recipe kA (if i = k then g1 else g i) := fun i hi => by
      rw [if_neg (Nat.ne_of_lt (List.mem_range.mp hi))]
    rw [List.flatMap_def, List.flatMap_def, List.map_congr_left this]
  · simp only [List.flatMap_singleton, if_true]
set_option maxHeartbeats 4000000 in
set_option maxRecDepth 100000 in
theorem cl_R {p : Program} {l : Launch} {e : Env} {s : State} {m : MethodId} {args : Array Value} {below : List Frame} {meth : Method} {c : Code} {Q : State → Prop} {kA : Nat → ClassId} {D : va_G} {A : Nat → Prop} (hx : p.tables.exec = Jvm.exec) (hb : c.code = prog_1_method_1_code) (hml : c.maxLocals = 2) (hown : s.vm.findClass sg_R0 = some m.cls) (hts : ∀ w ∈ sg_tb, w.before args s = true) (hE : cn_E D kA s) (hA : ∀ q, s.heap.size ≤ q → A q) {h0 a : Nat} {fs : List Value} (hfs : fs[3]? = some (.ref a)) (U V : va_W) (C0 S0 : Nat) (hC : C0 + 3 * 7 ≤ 119) (hS0 : S0 + 19 * 7 ≤ 1135)
    (kk : ∀ (pf : Nat → Option Nat) (g : Nat → Nat → Nat) (H : Heap) (locs : List Loc) (ls : Array Slot), (∀ i, i < 7 → pf i = some (g i 0)) → va_P D sg_cl ((h0, .inr (0, fs)) :: U ++ (a, cq_ref (kA 3) 7 pf) :: (V ++ cx_R kA g 7)) H → va_D A ((h0, .inr (0, fs)) :: U ++ (a, cq_ref (kA 3) 7 pf) :: (V ++ cx_R kA g 7)) → va_S A s.heap H locs → lv_has ls 2 [(1, .int (nI 7)), (0, .ref h0)] → W p l e cr_Glass s m args below meth c H locs (C0 + 3 * 7) (S0 + 19 * 7) Q (F0 m 162 ls [])) :
    ∀ (n k : Nat) (pf : Nat → Option Nat) (g : Nat → Nat → Nat) (H : Heap) (locs : List Loc) (ls : Array Slot), k + n = 7 → (∀ i, i < k → pf i = some (g i 0)) → va_P D sg_cl ((h0, .inr (0, fs)) :: U ++ (a, cq_ref (kA 3) 7 pf) :: (V ++ cx_R kA g k)) H → va_D A ((h0, .inr (0, fs)) :: U ++ (a, cq_ref (kA 3) 7 pf) :: (V ++ cx_R kA g k)) → va_S A s.heap H locs → lv_has ls 2 [(1, .int (nI k)), (0, .ref h0)] → W p l e cr_Glass s m args below meth c H locs (C0 + 3 * k) (S0 + 19 * k) Q (F0 m 137 ls []) := by
  intro n
  induction n with
  | zero =>
    intro k pf g H locs ls hk hpf hP hD hS hl
    obtain rfl : k = 7 := by omega
    refine lv_iload_n hx hb (show decode prog_1_method_1_code 137 = .ok (.iload_n 1, 1) by decide +kernel) rfl (lv_at hl 0 rfl) ?_
    refine lv_bipush (v := nI 6) hx hb (show decode prog_1_method_1_code 138 = .ok (.bipush 6, 2) by decide +kernel) (by decide) ?_
    exact lv_icmp_gt (tgt := 162) hx hb (show decode prog_1_method_1_code 140 = .ok (.if_icmp .gt 22, 3) by decide +kernel) (by decide) (fun _ => kk pf g H locs ls hpf hP hD hS hl) (fun z => absurd (by decide) z)
  | succ n ih =>
    intro k pf g H locs ls hk hpf hP hD hS hl
    refine lv_iload_n hx hb (show decode prog_1_method_1_code 137 = .ok (.iload_n 1, 1) by decide +kernel) rfl (lv_at hl 0 rfl) ?_
    refine lv_bipush (v := nI 6) hx hb (show decode prog_1_method_1_code 138 = .ok (.bipush 6, 2) by decide +kernel) (by decide) ?_
    refine lv_icmp_gt (tgt := 162) hx hb (show decode prog_1_method_1_code 140 = .ok (.if_icmp .gt 22, 3) by decide +kernel) (by decide) (fun z => absurd z (by rw [nI_ltI (by omega) (by omega)]; omega)) (fun _ => ?_)
    refine lv_aload_n hx hb (show decode prog_1_method_1_code 143 = .ok (.aload_n 0, 1) by decide +kernel) rfl (lv_at hl 1 rfl) ?_
    refine va_get (D := D) (ci := 0) (v := .ref a) (C := sg_R0) (T := sg_F0) (N := 13) hx hb hts (sg_lay (k := 0) (by decide)) hown hE.1 hP 0 rfl rfl 3 (by decide) (hts (.fieldLink "SoftGlass" 29 "SoftGlass" "recipes" "[LSoftGlass$Recipe;") (sg_has_tb (p := 196) (by decide +kernel) rfl)) (fun _ h9 => h9) hfs (show decode prog_1_method_1_code 144 = .ok (.getfield 29, 3) by decide +kernel) ?_
    refine lv_iload_n hx hb (show decode prog_1_method_1_code 147 = .ok (.iload_n 1, 1) by decide +kernel) rfl (lv_at hl 0 rfl) ?_
    refine va_new (ci := 2) (fs := cf_Recipe) (C := sg_R2) (T := sg_F2) (N := 3) hx hb hts (sg_lay (k := 2) (by decide)) sg_Y2 sg_Yok2 hown (hts (.classLink "SoftGlass" 27 "SoftGlass$Recipe") (sg_has_tb (p := 116) (by decide +kernel) rfl)) (hts (.instantiable "SoftGlass$Recipe" 3) (sg_has_tb (p := 156) (by decide +kernel) rfl)) (hts (.initialized "SoftGlass$Recipe") (sg_has_tb (p := 66) (by decide +kernel) rfl)) hE.1 hP hD hS hA rfl (fun j hj => by rcases (show j = 0 ∨ j = 1 ∨ j = 2 by omega) with rfl | rfl | rfl <;> rfl) (by show C0 + 3 * k + 1 ≤ 119; omega) (by show S0 + 19 * k + 3 ≤ 1135; omega) (show decode prog_1_method_1_code 148 = .ok (.new 27, 3) by decide +kernel) (fun q H hP hD hS => ?_)
    refine lv_dup hx hb (show decode prog_1_method_1_code 151 = .ok (.dup, 1) by decide +kernel) rfl ?_
    refine cn_callW (va_runIN (host := "SoftGlass") (As := []) (rest := [.ref q, .int (nI k), .ref a]) ⟨hx, hb, hml, hown, hts⟩ (cn_Recipe l D kA A _ q) ⟨va_cnB 0 hts (cn_good (sg_has_tb (p := 159) (by decide +kernel) rfl)) rfl rfl rfl (hE.2.1 _ (sg_nw_mem (p := 157) (by decide +kernel) (by decide))) (hts (.initialized "SoftGlass$Recipe") (sg_has_tb (p := 66) (by decide +kernel) rfl)) (by decide +kernel) ⟨Nat.le_of_ble_eq_true rfl, Nat.le_of_ble_eq_true rfl⟩, rfl, (hts (.instanceMethod cy_Recipe) (sg_has_tb (p := 158) (by decide +kernel) rfl))⟩ (cn_pre hE hA hP hD hS) rfl rfl hl.1 rfl (lv_room (Nat.le_of_ble_eq_true rfl)) (show decode prog_1_method_1_code 152 = .ok (.invokespecial 57, 3) by decide +kernel) ⟨(by show C0 + 3 * k + 1 + 2 ≤ 119; omega), (by show S0 + 19 * k + 3 + 16 ≤ 1135; omega)⟩) hS (fun H locs ⟨g1, hg1, hP2, hD2⟩ hS2 => ?_)
    clear hP hD hS
    subst hg1
    have hP := hP2
    have hD := hD2
    have hS := hS2
    clear hP2 hD2 hS2
    have hEq : ((h0, .inr (0, fs)) :: U ++ (a, cq_ref (kA 3) 7 pf) :: (V ++ cx_R kA g k)) ++ cb_Recipe kA g1 = (h0, .inr (0, fs)) :: U ++ (a, cq_ref (kA 3) 7 pf) :: (V ++ cx_R kA (fun i => if i = k then g1 else g i) (k + 1)) := by
      rw [← cx_R_s]
      simp only [List.append_assoc, List.cons_append]
    refine va_astq (D := D) hx hb hE.1 hP hD hS (((h0, .inr (0, fs)) :: U : va_W).length + 0) 2 ((((h0, .inr (0, fs)) :: U ++ (a, cq_ref (kA 3) 7 pf) :: (V ++ cx_R kA g k)) : va_W).length + 0) 2 (by rw [hEq, ap_g]; rfl) rfl (by rw [ap_g]; rfl) rfl (vp_in_nI (by omega) (by omega)) (show decode prog_1_method_1_code 155 = .ok (.aastore, 1) by decide +kernel) (fun H locs hP hD hS => ?_)
    rw [hEq, ap_s, sg_nIc (show k < 2 ^ 31 by omega)] at hP hD
    refine lv_iinc (v := nI (k + 1)) (lv' := [(1, .int (nI (k + 1))), (0, .ref h0)]) hx hb (show decode prog_1_method_1_code 156 = .ok (.iinc 1 1, 3) by decide +kernel) hl (k := 0) rfl (by rw [show Int32.ofInt 1 = 1 from rfl]; exact nI_1 k) (by decide) rfl (fun ls hl => ?_)
    refine lv_goto (tgt := 137) hx hb (show decode prog_1_method_1_code 159 = .ok (.goto (-22), 3) by decide +kernel) (by decide) ?_
    refine W.widen (k := C0 + 3 * (k + 1)) (n := S0 + 19 * (k + 1)) (by omega) (by omega) ?_
    refine ih (k + 1) (va_up pf k (some (g1 0))) (fun i => if i = k then g1 else g i) H locs ls (by omega) (fun i hi => ?_) hP hD hS hl
    by_cases hik : i = k
    · subst hik; simp [va_up]
    · simp [va_up, hik]; exact hpf i (by omega)
def cx_H (kA : Nat → ClassId) (g : Nat → Nat → Nat) (k : Nat) : va_W := (List.range k).flatMap (fun i => cb_Sheet kA (g i))
theorem cx_H_s (kA : Nat → ClassId) (g : Nat → Nat → Nat) (g1 : Nat → Nat) (k : Nat) : cx_H kA g k ++ cb_Sheet kA g1 = cx_H kA (fun i => if i = k then g1 else g i) (k + 1) := by
  unfold cx_H
  rw [List.range_succ, List.flatMap_append]
  congr 1
  · have : ∀ i ∈ List.range k, cb_Sheet kA (g i) = cb_Sheet kA (if i = k then g1 else g i) := fun i hi => by
      rw [if_neg (Nat.ne_of_lt (List.mem_range.mp hi))]
    rw [List.flatMap_def, List.flatMap_def, List.map_congr_left this]
  · simp only [List.flatMap_singleton, if_true]
set_option maxHeartbeats 4000000 in
set_option maxRecDepth 100000 in
theorem cl_H {p : Program} {l : Launch} {e : Env} {s : State} {m : MethodId} {args : Array Value} {below : List Frame} {meth : Method} {c : Code} {Q : State → Prop} {kA : Nat → ClassId} {D : va_G} {A : Nat → Prop} (hx : p.tables.exec = Jvm.exec) (hb : c.code = prog_1_method_1_code) (hml : c.maxLocals = 2) (hown : s.vm.findClass sg_R0 = some m.cls) (hts : ∀ w ∈ sg_tb, w.before args s = true) (hE : cn_E D kA s) (hA : ∀ q, s.heap.size ≤ q → A q) {h0 a : Nat} {fs : List Value} (hfs : fs[6]? = some (.ref a)) (U V : va_W) (C0 S0 : Nat) (hC : C0 + 2 * 4 ≤ 119) (hS0 : S0 + 63 * 4 ≤ 1135)
    (kk : ∀ (pf : Nat → Option Nat) (g : Nat → Nat → Nat) (H : Heap) (locs : List Loc) (ls : Array Slot), (∀ i, i < 4 → pf i = some (g i 0)) → va_P D sg_cl ((h0, .inr (0, fs)) :: U ++ (a, cq_ref (kA 6) 4 pf) :: (V ++ cx_H kA g 4)) H → va_D A ((h0, .inr (0, fs)) :: U ++ (a, cq_ref (kA 6) 4 pf) :: (V ++ cx_H kA g 4)) → va_S A s.heap H locs → lv_has ls 2 [(1, .int (nI 4)), (0, .ref h0)] → W p l e cr_Glass s m args below meth c H locs (C0 + 2 * 4) (S0 + 63 * 4) Q (F0 m 188 ls [])) :
    ∀ (n k : Nat) (pf : Nat → Option Nat) (g : Nat → Nat → Nat) (H : Heap) (locs : List Loc) (ls : Array Slot), k + n = 4 → (∀ i, i < k → pf i = some (g i 0)) → va_P D sg_cl ((h0, .inr (0, fs)) :: U ++ (a, cq_ref (kA 6) 4 pf) :: (V ++ cx_H kA g k)) H → va_D A ((h0, .inr (0, fs)) :: U ++ (a, cq_ref (kA 6) 4 pf) :: (V ++ cx_H kA g k)) → va_S A s.heap H locs → lv_has ls 2 [(1, .int (nI k)), (0, .ref h0)] → W p l e cr_Glass s m args below meth c H locs (C0 + 2 * k) (S0 + 63 * k) Q (F0 m 164 ls []) := by
  intro n
  induction n with
  | zero =>
    intro k pf g H locs ls hk hpf hP hD hS hl
    obtain rfl : k = 4 := by omega
    refine lv_iload_n hx hb (show decode prog_1_method_1_code 164 = .ok (.iload_n 1, 1) by decide +kernel) rfl (lv_at hl 0 rfl) ?_
    refine lv_iconst (v := nI 4) hx hb (show decode prog_1_method_1_code 165 = .ok (.iconst 4, 1) by decide +kernel) (by decide) ?_
    exact lv_icmp_ge (tgt := 188) hx hb (show decode prog_1_method_1_code 166 = .ok (.if_icmp .ge 22, 3) by decide +kernel) (by decide) (fun _ => kk pf g H locs ls hpf hP hD hS hl) (fun z => absurd (by decide) z)
  | succ n ih =>
    intro k pf g H locs ls hk hpf hP hD hS hl
    refine lv_iload_n hx hb (show decode prog_1_method_1_code 164 = .ok (.iload_n 1, 1) by decide +kernel) rfl (lv_at hl 0 rfl) ?_
    refine lv_iconst (v := nI 4) hx hb (show decode prog_1_method_1_code 165 = .ok (.iconst 4, 1) by decide +kernel) (by decide) ?_
    refine lv_icmp_ge (tgt := 188) hx hb (show decode prog_1_method_1_code 166 = .ok (.if_icmp .ge 22, 3) by decide +kernel) (by decide) (fun z => absurd z (by rw [nI_leI (by omega) (by omega)]; omega)) (fun _ => ?_)
    refine lv_aload_n hx hb (show decode prog_1_method_1_code 169 = .ok (.aload_n 0, 1) by decide +kernel) rfl (lv_at hl 1 rfl) ?_
    refine va_get (D := D) (ci := 0) (v := .ref a) (C := sg_R0) (T := sg_F0) (N := 13) hx hb hts (sg_lay (k := 0) (by decide)) hown hE.1 hP 0 rfl rfl 6 (by decide) (hts (.fieldLink "SoftGlass" 49 "SoftGlass" "sheets" "[LSoftGlass$Sheet;") (sg_has_tb (p := 199) (by decide +kernel) rfl)) (fun _ h9 => h9) hfs (show decode prog_1_method_1_code 170 = .ok (.getfield 49, 3) by decide +kernel) ?_
    refine lv_iload_n hx hb (show decode prog_1_method_1_code 173 = .ok (.iload_n 1, 1) by decide +kernel) rfl (lv_at hl 0 rfl) ?_
    refine va_new (ci := 5) (fs := cf_Sheet) (C := sg_R5) (T := sg_F5) (N := 3) hx hb hts (sg_lay (k := 5) (by decide)) sg_Y5 sg_Yok5 hown (hts (.classLink "SoftGlass" 47 "SoftGlass$Sheet") (sg_has_tb (p := 154) (by decide +kernel) rfl)) (hts (.instantiable "SoftGlass$Sheet" 3) (sg_has_tb (p := 174) (by decide +kernel) rfl)) (hts (.initialized "SoftGlass$Sheet") (sg_has_tb (p := 67) (by decide +kernel) rfl)) hE.1 hP hD hS hA rfl (fun j hj => by rcases (show j = 0 ∨ j = 1 ∨ j = 2 by omega) with rfl | rfl | rfl <;> rfl) (by show C0 + 2 * k + 1 ≤ 119; omega) (by show S0 + 63 * k + 3 ≤ 1135; omega) (show decode prog_1_method_1_code 174 = .ok (.new 47, 3) by decide +kernel) (fun q H hP hD hS => ?_)
    refine lv_dup hx hb (show decode prog_1_method_1_code 177 = .ok (.dup, 1) by decide +kernel) rfl ?_
    refine cn_callW (va_runIN (host := "SoftGlass") (As := []) (rest := [.ref q, .int (nI k), .ref a]) ⟨hx, hb, hml, hown, hts⟩ (cn_Sheet l D kA A _ q) ⟨va_cnB 0 hts (cn_good (sg_has_tb (p := 177) (by decide +kernel) rfl)) rfl rfl rfl (hE.2.1 _ (sg_nw_mem (p := 175) (by decide +kernel) (by decide))) (hts (.initialized "SoftGlass$Sheet") (sg_has_tb (p := 67) (by decide +kernel) rfl)) (by decide +kernel) ⟨Nat.le_of_ble_eq_true rfl, Nat.le_of_ble_eq_true rfl⟩, rfl, (hts (.instanceMethod cy_Sheet) (sg_has_tb (p := 176) (by decide +kernel) rfl))⟩ (cn_pre hE hA hP hD hS) rfl rfl hl.1 rfl (lv_room (Nat.le_of_ble_eq_true rfl)) (show decode prog_1_method_1_code 178 = .ok (.invokespecial 58, 3) by decide +kernel) ⟨(by show C0 + 2 * k + 1 + 1 ≤ 119; omega), (by show S0 + 63 * k + 3 + 60 ≤ 1135; omega)⟩) hS (fun H locs ⟨g1, hg1, hP2, hD2⟩ hS2 => ?_)
    clear hP hD hS
    subst hg1
    have hP := hP2
    have hD := hD2
    have hS := hS2
    clear hP2 hD2 hS2
    have hEq : ((h0, .inr (0, fs)) :: U ++ (a, cq_ref (kA 6) 4 pf) :: (V ++ cx_H kA g k)) ++ cb_Sheet kA g1 = (h0, .inr (0, fs)) :: U ++ (a, cq_ref (kA 6) 4 pf) :: (V ++ cx_H kA (fun i => if i = k then g1 else g i) (k + 1)) := by
      rw [← cx_H_s]
      simp only [List.append_assoc, List.cons_append]
    refine va_astq (D := D) hx hb hE.1 hP hD hS (((h0, .inr (0, fs)) :: U : va_W).length + 0) 3 ((((h0, .inr (0, fs)) :: U ++ (a, cq_ref (kA 6) 4 pf) :: (V ++ cx_H kA g k)) : va_W).length + 0) 5 (by rw [hEq, ap_g]; rfl) rfl (by rw [ap_g]; rfl) rfl (vp_in_nI (by omega) (by omega)) (show decode prog_1_method_1_code 181 = .ok (.aastore, 1) by decide +kernel) (fun H locs hP hD hS => ?_)
    rw [hEq, ap_s, sg_nIc (show k < 2 ^ 31 by omega)] at hP hD
    refine lv_iinc (v := nI (k + 1)) (lv' := [(1, .int (nI (k + 1))), (0, .ref h0)]) hx hb (show decode prog_1_method_1_code 182 = .ok (.iinc 1 1, 3) by decide +kernel) hl (k := 0) rfl (by rw [show Int32.ofInt 1 = 1 from rfl]; exact nI_1 k) (by decide) rfl (fun ls hl => ?_)
    refine lv_goto (tgt := 164) hx hb (show decode prog_1_method_1_code 185 = .ok (.goto (-21), 3) by decide +kernel) (by decide) ?_
    refine W.widen (k := C0 + 2 * (k + 1)) (n := S0 + 63 * (k + 1)) (by omega) (by omega) ?_
    refine ih (k + 1) (va_up pf k (some (g1 0))) (fun i => if i = k then g1 else g i) H locs ls (by omega) (fun i hi => ?_) hP hD hS hl
    by_cases hik : i = k
    · subst hik; simp [va_up]
    · simp [va_up, hik]; exact hpf i (by omega)
def cw_Glass (kA : Nat → ClassId) (h0 a1 a2 a9 a17 a18 : Nat) (gb gt gs : Nat → Nat) (gp gq gr gh : Nat → Nat → Nat) (f1 f2 f9 f17 : Nat → Option Nat) : va_W := (h0, .inr (0, [.ref a1, .ref a2, .ref (gb 0), .ref a9, .ref (gt 0), .ref (gs 0), .ref a17, .ref a18, .int 0, .int 0, .int 0, .int 0, .int 0])) :: (a1, cq_ref (kA 2) 8 f1) :: (a2, cq_ref (kA 2) 4 f2) :: (cb_Piece kA gb 0 ++ ((a9, cq_ref (kA 3) 7 f9) :: (cb_Text kA gt ++ (cb_Shop kA gs ++ ((a17, cq_ref (kA 6) 4 f17) :: (a18, .inl (kA 0, 8, .inl (fun _ => 0))) :: (cx_P kA gp 8 ++ (cx_Q kA gq 4 ++ (cx_R kA gr 7 ++ cx_H kA gh 4))))))))
def cw_ok (D : va_G) (kA : Nat → ClassId) (A : Nat → Prop) (h0 : Nat) (H : Heap) : Prop := ∃ (a1 a2 a9 a17 a18 : Nat) (gb gt gs : Nat → Nat) (gp gq gr gh : Nat → Nat → Nat) (f1 f2 f9 f17 : Nat → Option Nat), (∀ i, i < 8 → f1 i = some (gp i 0)) ∧ (∀ i, i < 4 → f2 i = some (gq i 0)) ∧ (∀ i, i < 7 → f9 i = some (gr i 0)) ∧ (∀ i, i < 4 → f17 i = some (gh i 0)) ∧ va_P D sg_cl (cw_Glass kA h0 a1 a2 a9 a17 a18 gb gt gs gp gq gr gh f1 f2 f9 f17) H ∧ va_D A (cw_Glass kA h0 a1 a2 a9 a17 a18 gb gt gs gp gq gr gh f1 f2 f9 f17)
set_option maxHeartbeats 8000000 in
set_option maxRecDepth 100000 in
theorem cn_Glass (l : Launch) (D : va_G) (kA : Nat → ClassId) (A : Nat → Prop) (h0 : Nat) : Met l cy_Glass (cn_wd cy_Glass prog_1_method_1_code 2) cr_Glass (cn_Pc D kA A [.ref h0] [(h0, .inr (0, cf_Glass))]) (cn_Q (cw_ok D kA A h0) A) 119 1135 A := by
  refine Met.ofW (cc := prog_1_method_1_code) (maxL := 2) (ret := none) (by decide) rfl ?_
  intro p e s m args below meth c s₁ B hml hv
  obtain ⟨rfl, hE, hP, hD, hA⟩ := hv
  have hx := B.exec
  have hb := B.bytes
  have hr := B.returns
  have hts0 := atoms_spec (ws := cn_wd cy_Glass prog_1_method_1_code 2) B.pre
  have hts : ∀ w ∈ sg_tb, w.before _ s = true := fun w hw => hts0 w (List.mem_cons_of_mem _ hw)
  have hown : s.vm.findClass sg_R0 = some m.cls := findClass_of_methodNamed B.named
  have hin : meth.name = "<init>" := (name_of_methodNamed B.named B.method).1
  have hS : va_S A s.heap s.heap [] := va_S.rf
  have hl := lv_entry ([.ref h0]) (n := 2) (Nat.le_of_ble_eq_true rfl)
  rw [lg_entry_eq]
  generalize (lg_sl ([.ref h0]) ++ List.replicate (2 - (lg_sl ([.ref h0])).length) Slot.unset).toArray = ls at hl ⊢
  have hl : lv_has ls 2 [(0, .ref h0)] := hl
  refine lv_aload_n hx hb (show decode prog_1_method_1_code 0 = .ok (.aload_n 0, 1) by decide +kernel) rfl (lv_at hl 0 rfl) ?_
  refine W.objInit hx hb hown (hts (.methodLink "SoftGlass" 3 objectInit) (sg_has_tb (p := 77) (by decide +kernel) rfl)) (hts (.instanceMethod objectInit) (sg_has_tb (p := 78) (by decide +kernel) rfl)) (hts (.code objectInit ⟨#[0xb1]⟩ 1 none) (sg_has_tb (p := 79) (by decide +kernel) rfl)) rfl (by rw [hml]; exact hl.1) rfl (show decode prog_1_method_1_code 1 = .ok (.invokespecial 3, 3) by decide +kernel) (Nat.le_of_ble_eq_true rfl) (Nat.le_of_ble_eq_true rfl) ?_
  refine W.eq (g2 := F0 m 4 ls []) rfl ?_
  refine lv_aload_n hx hb (show decode prog_1_method_1_code 4 = .ok (.aload_n 0, 1) by decide +kernel) rfl (lv_at hl 0 rfl) ?_
  refine lv_bipush (v := 8) hx hb (show decode prog_1_method_1_code 5 = .ok (.bipush 8, 2) by decide +kernel) (by decide) ?_
  refine nw_ref hx hb hown (hts (.classLink "SoftGlass" 11 "SoftGlass$Piece") (sg_has_tb (p := 80) (by decide +kernel) rfl)) hE.2.2.1 hE.1 1 rfl hP hD hS hA 8 (by decide) rfl (Nat.le_of_ble_eq_true rfl) (Nat.le_of_ble_eq_true rfl) (Nat.le_of_ble_eq_true rfl) (show decode prog_1_method_1_code 7 = .ok (.anewarray 11, 3) by decide +kernel) (fun a1 H hP hD hS => ?_)
  simp only [List.append_assoc, List.cons_append, List.nil_append] at hP hD
  have hP : va_P D sg_cl ((h0, .inr (0, [.null, .null, .null, .null, .null, .null, .null, .null, .int 0, .int 0, .int 0, .int 0, .int 0])) :: ((a1, cq_ref (kA 2) 8 (fun _ => none)) :: ([]))) H := hP
  have hD : va_D A ((h0, .inr (0, [.null, .null, .null, .null, .null, .null, .null, .null, .int 0, .int 0, .int 0, .int 0, .int 0])) :: ((a1, cq_ref (kA 2) 8 (fun _ => none)) :: ([]))) := hD
  refine va_putF (D := D) (ci := 0) (v := .ref a1) (ty := .array (.object "SoftGlass$Piece")) (C := sg_R0) (T := sg_F0) (N := 13) hx hb hts (sg_lay (k := 0) (by decide)) sg_Y0 sg_Yok0 sg_Fnm0 hown hE.1 hP hD hS 0 rfl rfl 0 (by decide) (hts (.fieldLink "SoftGlass" 13 "SoftGlass" "pieces" "[LSoftGlass$Piece;") (sg_has_tb (p := 193) (by decide +kernel) rfl)) (fun _ h9 => h9) rfl hin rfl (by decide +kernel) rfl rfl (Nat.le_of_ble_eq_true rfl) (show decode prog_1_method_1_code 10 = .ok (.putfield 13, 3) by decide +kernel) (fun H locs hP hD hS => ?_)
  have hP : va_P D sg_cl ((h0, .inr (0, [.ref a1, .null, .null, .null, .null, .null, .null, .null, .int 0, .int 0, .int 0, .int 0, .int 0])) :: ((a1, cq_ref (kA 2) 8 (fun _ => none)) :: ([]))) H := hP
  have hD : va_D A ((h0, .inr (0, [.ref a1, .null, .null, .null, .null, .null, .null, .null, .int 0, .int 0, .int 0, .int 0, .int 0])) :: ((a1, cq_ref (kA 2) 8 (fun _ => none)) :: ([]))) := hD
  refine lv_aload_n hx hb (show decode prog_1_method_1_code 13 = .ok (.aload_n 0, 1) by decide +kernel) rfl (lv_at hl 0 rfl) ?_
  refine lv_iconst (v := 4) hx hb (show decode prog_1_method_1_code 14 = .ok (.iconst 4, 1) by decide +kernel) (by decide) ?_
  refine nw_ref hx hb hown (hts (.classLink "SoftGlass" 11 "SoftGlass$Piece") (sg_has_tb (p := 80) (by decide +kernel) rfl)) hE.2.2.1 hE.1 1 rfl hP hD hS hA 4 (by decide) rfl (Nat.le_of_ble_eq_true rfl) (Nat.le_of_ble_eq_true rfl) (Nat.le_of_ble_eq_true rfl) (show decode prog_1_method_1_code 15 = .ok (.anewarray 11, 3) by decide +kernel) (fun a2 H hP hD hS => ?_)
  simp only [List.append_assoc, List.cons_append, List.nil_append] at hP hD
  have hP : va_P D sg_cl ((h0, .inr (0, [.ref a1, .null, .null, .null, .null, .null, .null, .null, .int 0, .int 0, .int 0, .int 0, .int 0])) :: ((a1, cq_ref (kA 2) 8 (fun _ => none)) :: ((a2, cq_ref (kA 2) 4 (fun _ => none)) :: ([])))) H := hP
  have hD : va_D A ((h0, .inr (0, [.ref a1, .null, .null, .null, .null, .null, .null, .null, .int 0, .int 0, .int 0, .int 0, .int 0])) :: ((a1, cq_ref (kA 2) 8 (fun _ => none)) :: ((a2, cq_ref (kA 2) 4 (fun _ => none)) :: ([])))) := hD
  refine va_putF (D := D) (ci := 0) (v := .ref a2) (ty := .array (.object "SoftGlass$Piece")) (C := sg_R0) (T := sg_F0) (N := 13) hx hb hts (sg_lay (k := 0) (by decide)) sg_Y0 sg_Yok0 sg_Fnm0 hown hE.1 hP hD hS 0 rfl rfl 1 (by decide) (hts (.fieldLink "SoftGlass" 17 "SoftGlass" "stages" "[LSoftGlass$Piece;") (sg_has_tb (p := 194) (by decide +kernel) rfl)) (fun _ h9 => h9) rfl hin rfl (by decide +kernel) rfl rfl (Nat.le_of_ble_eq_true rfl) (show decode prog_1_method_1_code 18 = .ok (.putfield 17, 3) by decide +kernel) (fun H locs hP hD hS => ?_)
  have hP : va_P D sg_cl ((h0, .inr (0, [.ref a1, .ref a2, .null, .null, .null, .null, .null, .null, .int 0, .int 0, .int 0, .int 0, .int 0])) :: ((a1, cq_ref (kA 2) 8 (fun _ => none)) :: ((a2, cq_ref (kA 2) 4 (fun _ => none)) :: ([])))) H := hP
  have hD : va_D A ((h0, .inr (0, [.ref a1, .ref a2, .null, .null, .null, .null, .null, .null, .int 0, .int 0, .int 0, .int 0, .int 0])) :: ((a1, cq_ref (kA 2) 8 (fun _ => none)) :: ((a2, cq_ref (kA 2) 4 (fun _ => none)) :: ([])))) := hD
  refine lv_aload_n hx hb (show decode prog_1_method_1_code 21 = .ok (.aload_n 0, 1) by decide +kernel) rfl (lv_at hl 0 rfl) ?_
  refine va_new (ci := 1) (fs := cf_Piece) (C := sg_R1) (T := sg_F1) (N := 8) hx hb hts (sg_lay (k := 1) (by decide)) sg_Y1 sg_Yok1 hown (hts (.classLink "SoftGlass" 11 "SoftGlass$Piece") (sg_has_tb (p := 80) (by decide +kernel) rfl)) (hts (.instantiable "SoftGlass$Piece" 8) (sg_has_tb (p := 82) (by decide +kernel) rfl)) (hts (.initialized "SoftGlass$Piece") (sg_has_tb (p := 63) (by decide +kernel) rfl)) hE.1 hP hD hS hA rfl (fun j hj => by rcases (show j = 0 ∨ j = 1 ∨ j = 2 ∨ j = 3 ∨ j = 4 ∨ j = 5 ∨ j = 6 ∨ j = 7 by omega) with rfl | rfl | rfl | rfl | rfl | rfl | rfl | rfl <;> rfl) (Nat.le_of_ble_eq_true rfl) (Nat.le_of_ble_eq_true rfl) (show decode prog_1_method_1_code 22 = .ok (.new 11, 3) by decide +kernel) (fun q H hP hD hS => ?_)
  refine lv_dup hx hb (show decode prog_1_method_1_code 25 = .ok (.dup, 1) by decide +kernel) rfl ?_
  refine lv_iconst (v := 0) hx hb (show decode prog_1_method_1_code 26 = .ok (.iconst 0, 1) by decide +kernel) (by decide) ?_
  refine cn_callW (va_runI (As := [.int 0]) (rest := [.ref q, .ref h0]) ⟨hx, hb, hml, hown, hts⟩ (cn_Piece l D kA A _ q 0 rfl rfl) (cwI 1 hts (cn_good (sg_has_tb (p := 85) (by decide +kernel) rfl)) rfl rfl rfl (hts (.initialized "SoftGlass$Piece") (sg_has_tb (p := 63) (by decide +kernel) rfl)) (hts (.methodLink "SoftGlass" 20 cy_Piece) (sg_has_tb (p := 83) (by decide +kernel) rfl)) (hts (.instanceMethod cy_Piece) (sg_has_tb (p := 84) (by decide +kernel) rfl)) rfl (by decide +kernel) ⟨Nat.le_of_ble_eq_true rfl, Nat.le_of_ble_eq_true rfl⟩) (cn_pre hE hA hP hD hS) rfl rfl hl.1 rfl (lv_room (Nat.le_of_ble_eq_true rfl)) (show decode prog_1_method_1_code 27 = .ok (.invokespecial 20, 3) by decide +kernel) ⟨Nat.le_of_ble_eq_true rfl, Nat.le_of_ble_eq_true rfl⟩) hS (fun H locs ⟨gb, hg1, hP2, hD2⟩ hS2 => ?_)
  clear hP hD hS
  subst hg1
  have hP := hP2
  have hD := hD2
  have hS := hS2
  clear hP2 hD2 hS2
  simp only [List.append_assoc, List.cons_append, List.nil_append] at hP hD
  have hP : va_P D sg_cl ((h0, .inr (0, [.ref a1, .ref a2, .null, .null, .null, .null, .null, .null, .int 0, .int 0, .int 0, .int 0, .int 0])) :: ((a1, cq_ref (kA 2) 8 (fun _ => none)) :: ((a2, cq_ref (kA 2) 4 (fun _ => none)) :: (cb_Piece kA gb 0 ++ ([]))))) H := hP
  have hD : va_D A ((h0, .inr (0, [.ref a1, .ref a2, .null, .null, .null, .null, .null, .null, .int 0, .int 0, .int 0, .int 0, .int 0])) :: ((a1, cq_ref (kA 2) 8 (fun _ => none)) :: ((a2, cq_ref (kA 2) 4 (fun _ => none)) :: (cb_Piece kA gb 0 ++ ([]))))) := hD
  refine va_putF (D := D) (ci := 0) (v := .ref (gb 0)) (ty := .object "SoftGlass$Piece") (C := sg_R0) (T := sg_F0) (N := 13) hx hb hts (sg_lay (k := 0) (by decide)) sg_Y0 sg_Yok0 sg_Fnm0 hown hE.1 hP hD hS 0 rfl rfl 2 (by decide) (hts (.fieldLink "SoftGlass" 23 "SoftGlass" "bit" "LSoftGlass$Piece;") (sg_has_tb (p := 195) (by decide +kernel) rfl)) (fun _ h9 => h9) rfl hin rfl (by decide +kernel) rfl rfl (Nat.le_of_ble_eq_true rfl) (show decode prog_1_method_1_code 30 = .ok (.putfield 23, 3) by decide +kernel) (fun H locs hP hD hS => ?_)
  have hP : va_P D sg_cl ((h0, .inr (0, [.ref a1, .ref a2, .ref (gb 0), .null, .null, .null, .null, .null, .int 0, .int 0, .int 0, .int 0, .int 0])) :: ((a1, cq_ref (kA 2) 8 (fun _ => none)) :: ((a2, cq_ref (kA 2) 4 (fun _ => none)) :: (cb_Piece kA gb 0 ++ ([]))))) H := hP
  have hD : va_D A ((h0, .inr (0, [.ref a1, .ref a2, .ref (gb 0), .null, .null, .null, .null, .null, .int 0, .int 0, .int 0, .int 0, .int 0])) :: ((a1, cq_ref (kA 2) 8 (fun _ => none)) :: ((a2, cq_ref (kA 2) 4 (fun _ => none)) :: (cb_Piece kA gb 0 ++ ([]))))) := hD
  refine lv_aload_n hx hb (show decode prog_1_method_1_code 33 = .ok (.aload_n 0, 1) by decide +kernel) rfl (lv_at hl 0 rfl) ?_
  refine lv_bipush (v := 7) hx hb (show decode prog_1_method_1_code 34 = .ok (.bipush 7, 2) by decide +kernel) (by decide) ?_
  refine nw_ref hx hb hown (hts (.classLink "SoftGlass" 27 "SoftGlass$Recipe") (sg_has_tb (p := 116) (by decide +kernel) rfl)) hE.2.2.2.1 hE.1 2 rfl hP hD hS hA 7 (by decide) rfl (Nat.le_of_ble_eq_true rfl) (Nat.le_of_ble_eq_true rfl) (Nat.le_of_ble_eq_true rfl) (show decode prog_1_method_1_code 36 = .ok (.anewarray 27, 3) by decide +kernel) (fun a9 H hP hD hS => ?_)
  simp only [List.append_assoc, List.cons_append, List.nil_append] at hP hD
  have hP : va_P D sg_cl ((h0, .inr (0, [.ref a1, .ref a2, .ref (gb 0), .null, .null, .null, .null, .null, .int 0, .int 0, .int 0, .int 0, .int 0])) :: ((a1, cq_ref (kA 2) 8 (fun _ => none)) :: ((a2, cq_ref (kA 2) 4 (fun _ => none)) :: (cb_Piece kA gb 0 ++ ((a9, cq_ref (kA 3) 7 (fun _ => none)) :: ([])))))) H := hP
  have hD : va_D A ((h0, .inr (0, [.ref a1, .ref a2, .ref (gb 0), .null, .null, .null, .null, .null, .int 0, .int 0, .int 0, .int 0, .int 0])) :: ((a1, cq_ref (kA 2) 8 (fun _ => none)) :: ((a2, cq_ref (kA 2) 4 (fun _ => none)) :: (cb_Piece kA gb 0 ++ ((a9, cq_ref (kA 3) 7 (fun _ => none)) :: ([])))))) := hD
  refine va_putF (D := D) (ci := 0) (v := .ref a9) (ty := .array (.object "SoftGlass$Recipe")) (C := sg_R0) (T := sg_F0) (N := 13) hx hb hts (sg_lay (k := 0) (by decide)) sg_Y0 sg_Yok0 sg_Fnm0 hown hE.1 hP hD hS 0 rfl rfl 3 (by decide) (hts (.fieldLink "SoftGlass" 29 "SoftGlass" "recipes" "[LSoftGlass$Recipe;") (sg_has_tb (p := 196) (by decide +kernel) rfl)) (fun _ h9 => h9) rfl hin rfl (by decide +kernel) rfl rfl (Nat.le_of_ble_eq_true rfl) (show decode prog_1_method_1_code 39 = .ok (.putfield 29, 3) by decide +kernel) (fun H locs hP hD hS => ?_)
  have hP : va_P D sg_cl ((h0, .inr (0, [.ref a1, .ref a2, .ref (gb 0), .ref a9, .null, .null, .null, .null, .int 0, .int 0, .int 0, .int 0, .int 0])) :: ((a1, cq_ref (kA 2) 8 (fun _ => none)) :: ((a2, cq_ref (kA 2) 4 (fun _ => none)) :: (cb_Piece kA gb 0 ++ ((a9, cq_ref (kA 3) 7 (fun _ => none)) :: ([])))))) H := hP
  have hD : va_D A ((h0, .inr (0, [.ref a1, .ref a2, .ref (gb 0), .ref a9, .null, .null, .null, .null, .int 0, .int 0, .int 0, .int 0, .int 0])) :: ((a1, cq_ref (kA 2) 8 (fun _ => none)) :: ((a2, cq_ref (kA 2) 4 (fun _ => none)) :: (cb_Piece kA gb 0 ++ ((a9, cq_ref (kA 3) 7 (fun _ => none)) :: ([])))))) := hD
  refine lv_aload_n hx hb (show decode prog_1_method_1_code 42 = .ok (.aload_n 0, 1) by decide +kernel) rfl (lv_at hl 0 rfl) ?_
  refine va_new (ci := 3) (fs := cf_Text) (C := sg_R3) (T := sg_F3) (N := 2) hx hb hts (sg_lay (k := 3) (by decide)) sg_Y3 sg_Yok3 hown (hts (.classLink "SoftGlass" 33 "SoftGlass$Text") (sg_has_tb (p := 118) (by decide +kernel) rfl)) (hts (.instantiable "SoftGlass$Text" 2) (sg_has_tb (p := 119) (by decide +kernel) rfl)) (hts (.initialized "SoftGlass$Text") (sg_has_tb (p := 64) (by decide +kernel) rfl)) hE.1 hP hD hS hA rfl (fun j hj => by rcases (show j = 0 ∨ j = 1 by omega) with rfl | rfl <;> rfl) (Nat.le_of_ble_eq_true rfl) (Nat.le_of_ble_eq_true rfl) (show decode prog_1_method_1_code 43 = .ok (.new 33, 3) by decide +kernel) (fun q H hP hD hS => ?_)
  refine lv_dup hx hb (show decode prog_1_method_1_code 46 = .ok (.dup, 1) by decide +kernel) rfl ?_
  refine cn_callW (va_runIN (host := "SoftGlass") (As := []) (rest := [.ref q, .ref h0]) ⟨hx, hb, hml, hown, hts⟩ (cn_Text l D kA A _ q) ⟨va_cnB 0 hts (cn_good (sg_has_tb (p := 122) (by decide +kernel) rfl)) rfl rfl rfl (hE.2.1 _ (sg_nw_mem (p := 120) (by decide +kernel) (by decide))) (hts (.initialized "SoftGlass$Text") (sg_has_tb (p := 64) (by decide +kernel) rfl)) (by decide +kernel) ⟨Nat.le_of_ble_eq_true rfl, Nat.le_of_ble_eq_true rfl⟩, rfl, (hts (.instanceMethod cy_Text) (sg_has_tb (p := 121) (by decide +kernel) rfl))⟩ (cn_pre hE hA hP hD hS) rfl rfl hl.1 rfl (lv_room (Nat.le_of_ble_eq_true rfl)) (show decode prog_1_method_1_code 47 = .ok (.invokespecial 35, 3) by decide +kernel) ⟨Nat.le_of_ble_eq_true rfl, Nat.le_of_ble_eq_true rfl⟩) hS (fun H locs ⟨gt, hg1, hP2, hD2⟩ hS2 => ?_)
  clear hP hD hS
  subst hg1
  have hP := hP2
  have hD := hD2
  have hS := hS2
  clear hP2 hD2 hS2
  simp only [List.append_assoc, List.cons_append, List.nil_append] at hP hD
  have hP : va_P D sg_cl ((h0, .inr (0, [.ref a1, .ref a2, .ref (gb 0), .ref a9, .null, .null, .null, .null, .int 0, .int 0, .int 0, .int 0, .int 0])) :: ((a1, cq_ref (kA 2) 8 (fun _ => none)) :: ((a2, cq_ref (kA 2) 4 (fun _ => none)) :: (cb_Piece kA gb 0 ++ ((a9, cq_ref (kA 3) 7 (fun _ => none)) :: (cb_Text kA gt ++ ([]))))))) H := hP
  have hD : va_D A ((h0, .inr (0, [.ref a1, .ref a2, .ref (gb 0), .ref a9, .null, .null, .null, .null, .int 0, .int 0, .int 0, .int 0, .int 0])) :: ((a1, cq_ref (kA 2) 8 (fun _ => none)) :: ((a2, cq_ref (kA 2) 4 (fun _ => none)) :: (cb_Piece kA gb 0 ++ ((a9, cq_ref (kA 3) 7 (fun _ => none)) :: (cb_Text kA gt ++ ([]))))))) := hD
  refine va_putF (D := D) (ci := 0) (v := .ref (gt 0)) (ty := .object "SoftGlass$Text") (C := sg_R0) (T := sg_F0) (N := 13) hx hb hts (sg_lay (k := 0) (by decide)) sg_Y0 sg_Yok0 sg_Fnm0 hown hE.1 hP hD hS 0 rfl rfl 4 (by decide) (hts (.fieldLink "SoftGlass" 36 "SoftGlass" "text" "LSoftGlass$Text;") (sg_has_tb (p := 197) (by decide +kernel) rfl)) (fun _ h9 => h9) rfl hin rfl (by decide +kernel) rfl rfl (Nat.le_of_ble_eq_true rfl) (show decode prog_1_method_1_code 50 = .ok (.putfield 36, 3) by decide +kernel) (fun H locs hP hD hS => ?_)
  have hP : va_P D sg_cl ((h0, .inr (0, [.ref a1, .ref a2, .ref (gb 0), .ref a9, .ref (gt 0), .null, .null, .null, .int 0, .int 0, .int 0, .int 0, .int 0])) :: ((a1, cq_ref (kA 2) 8 (fun _ => none)) :: ((a2, cq_ref (kA 2) 4 (fun _ => none)) :: (cb_Piece kA gb 0 ++ ((a9, cq_ref (kA 3) 7 (fun _ => none)) :: (cb_Text kA gt ++ ([]))))))) H := hP
  have hD : va_D A ((h0, .inr (0, [.ref a1, .ref a2, .ref (gb 0), .ref a9, .ref (gt 0), .null, .null, .null, .int 0, .int 0, .int 0, .int 0, .int 0])) :: ((a1, cq_ref (kA 2) 8 (fun _ => none)) :: ((a2, cq_ref (kA 2) 4 (fun _ => none)) :: (cb_Piece kA gb 0 ++ ((a9, cq_ref (kA 3) 7 (fun _ => none)) :: (cb_Text kA gt ++ ([]))))))) := hD
  refine lv_aload_n hx hb (show decode prog_1_method_1_code 53 = .ok (.aload_n 0, 1) by decide +kernel) rfl (lv_at hl 0 rfl) ?_
  refine va_new (ci := 4) (fs := cf_Shop) (C := sg_R4) (T := sg_F4) (N := 5) hx hb hts (sg_lay (k := 4) (by decide)) sg_Y4 sg_Yok4 hown (hts (.classLink "SoftGlass" 40 "SoftGlass$Shop") (sg_has_tb (p := 131) (by decide +kernel) rfl)) (hts (.instantiable "SoftGlass$Shop" 5) (sg_has_tb (p := 132) (by decide +kernel) rfl)) (hts (.initialized "SoftGlass$Shop") (sg_has_tb (p := 65) (by decide +kernel) rfl)) hE.1 hP hD hS hA rfl (fun j hj => by rcases (show j = 0 ∨ j = 1 ∨ j = 2 ∨ j = 3 ∨ j = 4 by omega) with rfl | rfl | rfl | rfl | rfl <;> rfl) (Nat.le_of_ble_eq_true rfl) (Nat.le_of_ble_eq_true rfl) (show decode prog_1_method_1_code 54 = .ok (.new 40, 3) by decide +kernel) (fun q H hP hD hS => ?_)
  refine lv_dup hx hb (show decode prog_1_method_1_code 57 = .ok (.dup, 1) by decide +kernel) rfl ?_
  refine cn_callW (va_runIN (host := "SoftGlass") (As := []) (rest := [.ref q, .ref h0]) ⟨hx, hb, hml, hown, hts⟩ (cn_Shop l D kA A _ q) ⟨va_cnB 0 hts (cn_good (sg_has_tb (p := 135) (by decide +kernel) rfl)) rfl rfl rfl (hE.2.1 _ (sg_nw_mem (p := 133) (by decide +kernel) (by decide))) (hts (.initialized "SoftGlass$Shop") (sg_has_tb (p := 65) (by decide +kernel) rfl)) (by decide +kernel) ⟨Nat.le_of_ble_eq_true rfl, Nat.le_of_ble_eq_true rfl⟩, rfl, (hts (.instanceMethod cy_Shop) (sg_has_tb (p := 134) (by decide +kernel) rfl))⟩ (cn_pre hE hA hP hD hS) rfl rfl hl.1 rfl (lv_room (Nat.le_of_ble_eq_true rfl)) (show decode prog_1_method_1_code 58 = .ok (.invokespecial 42, 3) by decide +kernel) ⟨Nat.le_of_ble_eq_true rfl, Nat.le_of_ble_eq_true rfl⟩) hS (fun H locs ⟨gs, hg1, hP2, hD2⟩ hS2 => ?_)
  clear hP hD hS
  subst hg1
  have hP := hP2
  have hD := hD2
  have hS := hS2
  clear hP2 hD2 hS2
  simp only [List.append_assoc, List.cons_append, List.nil_append] at hP hD
  have hP : va_P D sg_cl ((h0, .inr (0, [.ref a1, .ref a2, .ref (gb 0), .ref a9, .ref (gt 0), .null, .null, .null, .int 0, .int 0, .int 0, .int 0, .int 0])) :: ((a1, cq_ref (kA 2) 8 (fun _ => none)) :: ((a2, cq_ref (kA 2) 4 (fun _ => none)) :: (cb_Piece kA gb 0 ++ ((a9, cq_ref (kA 3) 7 (fun _ => none)) :: (cb_Text kA gt ++ (cb_Shop kA gs ++ ([])))))))) H := hP
  have hD : va_D A ((h0, .inr (0, [.ref a1, .ref a2, .ref (gb 0), .ref a9, .ref (gt 0), .null, .null, .null, .int 0, .int 0, .int 0, .int 0, .int 0])) :: ((a1, cq_ref (kA 2) 8 (fun _ => none)) :: ((a2, cq_ref (kA 2) 4 (fun _ => none)) :: (cb_Piece kA gb 0 ++ ((a9, cq_ref (kA 3) 7 (fun _ => none)) :: (cb_Text kA gt ++ (cb_Shop kA gs ++ ([])))))))) := hD
  refine va_putF (D := D) (ci := 0) (v := .ref (gs 0)) (ty := .object "SoftGlass$Shop") (C := sg_R0) (T := sg_F0) (N := 13) hx hb hts (sg_lay (k := 0) (by decide)) sg_Y0 sg_Yok0 sg_Fnm0 hown hE.1 hP hD hS 0 rfl rfl 5 (by decide) (hts (.fieldLink "SoftGlass" 43 "SoftGlass" "shop" "LSoftGlass$Shop;") (sg_has_tb (p := 198) (by decide +kernel) rfl)) (fun _ h9 => h9) rfl hin rfl (by decide +kernel) rfl rfl (Nat.le_of_ble_eq_true rfl) (show decode prog_1_method_1_code 61 = .ok (.putfield 43, 3) by decide +kernel) (fun H locs hP hD hS => ?_)
  have hP : va_P D sg_cl ((h0, .inr (0, [.ref a1, .ref a2, .ref (gb 0), .ref a9, .ref (gt 0), .ref (gs 0), .null, .null, .int 0, .int 0, .int 0, .int 0, .int 0])) :: ((a1, cq_ref (kA 2) 8 (fun _ => none)) :: ((a2, cq_ref (kA 2) 4 (fun _ => none)) :: (cb_Piece kA gb 0 ++ ((a9, cq_ref (kA 3) 7 (fun _ => none)) :: (cb_Text kA gt ++ (cb_Shop kA gs ++ ([])))))))) H := hP
  have hD : va_D A ((h0, .inr (0, [.ref a1, .ref a2, .ref (gb 0), .ref a9, .ref (gt 0), .ref (gs 0), .null, .null, .int 0, .int 0, .int 0, .int 0, .int 0])) :: ((a1, cq_ref (kA 2) 8 (fun _ => none)) :: ((a2, cq_ref (kA 2) 4 (fun _ => none)) :: (cb_Piece kA gb 0 ++ ((a9, cq_ref (kA 3) 7 (fun _ => none)) :: (cb_Text kA gt ++ (cb_Shop kA gs ++ ([])))))))) := hD
  refine lv_aload_n hx hb (show decode prog_1_method_1_code 64 = .ok (.aload_n 0, 1) by decide +kernel) rfl (lv_at hl 0 rfl) ?_
  refine lv_iconst (v := 4) hx hb (show decode prog_1_method_1_code 65 = .ok (.iconst 4, 1) by decide +kernel) (by decide) ?_
  refine nw_ref hx hb hown (hts (.classLink "SoftGlass" 47 "SoftGlass$Sheet") (sg_has_tb (p := 154) (by decide +kernel) rfl)) hE.2.2.2.2 hE.1 3 rfl hP hD hS hA 4 (by decide) rfl (Nat.le_of_ble_eq_true rfl) (Nat.le_of_ble_eq_true rfl) (Nat.le_of_ble_eq_true rfl) (show decode prog_1_method_1_code 66 = .ok (.anewarray 47, 3) by decide +kernel) (fun a17 H hP hD hS => ?_)
  simp only [List.append_assoc, List.cons_append, List.nil_append] at hP hD
  have hP : va_P D sg_cl ((h0, .inr (0, [.ref a1, .ref a2, .ref (gb 0), .ref a9, .ref (gt 0), .ref (gs 0), .null, .null, .int 0, .int 0, .int 0, .int 0, .int 0])) :: ((a1, cq_ref (kA 2) 8 (fun _ => none)) :: ((a2, cq_ref (kA 2) 4 (fun _ => none)) :: (cb_Piece kA gb 0 ++ ((a9, cq_ref (kA 3) 7 (fun _ => none)) :: (cb_Text kA gt ++ (cb_Shop kA gs ++ ((a17, cq_ref (kA 6) 4 (fun _ => none)) :: ([]))))))))) H := hP
  have hD : va_D A ((h0, .inr (0, [.ref a1, .ref a2, .ref (gb 0), .ref a9, .ref (gt 0), .ref (gs 0), .null, .null, .int 0, .int 0, .int 0, .int 0, .int 0])) :: ((a1, cq_ref (kA 2) 8 (fun _ => none)) :: ((a2, cq_ref (kA 2) 4 (fun _ => none)) :: (cb_Piece kA gb 0 ++ ((a9, cq_ref (kA 3) 7 (fun _ => none)) :: (cb_Text kA gt ++ (cb_Shop kA gs ++ ((a17, cq_ref (kA 6) 4 (fun _ => none)) :: ([]))))))))) := hD
  refine va_putF (D := D) (ci := 0) (v := .ref a17) (ty := .array (.object "SoftGlass$Sheet")) (C := sg_R0) (T := sg_F0) (N := 13) hx hb hts (sg_lay (k := 0) (by decide)) sg_Y0 sg_Yok0 sg_Fnm0 hown hE.1 hP hD hS 0 rfl rfl 6 (by decide) (hts (.fieldLink "SoftGlass" 49 "SoftGlass" "sheets" "[LSoftGlass$Sheet;") (sg_has_tb (p := 199) (by decide +kernel) rfl)) (fun _ h9 => h9) rfl hin rfl (by decide +kernel) rfl rfl (Nat.le_of_ble_eq_true rfl) (show decode prog_1_method_1_code 69 = .ok (.putfield 49, 3) by decide +kernel) (fun H locs hP hD hS => ?_)
  have hP : va_P D sg_cl ((h0, .inr (0, [.ref a1, .ref a2, .ref (gb 0), .ref a9, .ref (gt 0), .ref (gs 0), .ref a17, .null, .int 0, .int 0, .int 0, .int 0, .int 0])) :: ((a1, cq_ref (kA 2) 8 (fun _ => none)) :: ((a2, cq_ref (kA 2) 4 (fun _ => none)) :: (cb_Piece kA gb 0 ++ ((a9, cq_ref (kA 3) 7 (fun _ => none)) :: (cb_Text kA gt ++ (cb_Shop kA gs ++ ((a17, cq_ref (kA 6) 4 (fun _ => none)) :: ([]))))))))) H := hP
  have hD : va_D A ((h0, .inr (0, [.ref a1, .ref a2, .ref (gb 0), .ref a9, .ref (gt 0), .ref (gs 0), .ref a17, .null, .int 0, .int 0, .int 0, .int 0, .int 0])) :: ((a1, cq_ref (kA 2) 8 (fun _ => none)) :: ((a2, cq_ref (kA 2) 4 (fun _ => none)) :: (cb_Piece kA gb 0 ++ ((a9, cq_ref (kA 3) 7 (fun _ => none)) :: (cb_Text kA gt ++ (cb_Shop kA gs ++ ((a17, cq_ref (kA 6) 4 (fun _ => none)) :: ([]))))))))) := hD
  refine lv_aload_n hx hb (show decode prog_1_method_1_code 72 = .ok (.aload_n 0, 1) by decide +kernel) rfl (lv_at hl 0 rfl) ?_
  refine lv_bipush (v := 8) hx hb (show decode prog_1_method_1_code 73 = .ok (.bipush 8, 2) by decide +kernel) (by decide) ?_
  refine nw_int hx hb (hts (.arrayClass .int) (sg_has_tb (p := 115) (by decide +kernel) rfl)) hE.1 hP hD hS hA 8 (by decide) rfl (Nat.le_of_ble_eq_true rfl) (Nat.le_of_ble_eq_true rfl) (Nat.le_of_ble_eq_true rfl) (show decode prog_1_method_1_code 75 = .ok (.newarray .int, 2) by decide +kernel) (fun a18 H hP hD hS => ?_)
  simp only [List.append_assoc, List.cons_append, List.nil_append] at hP hD
  have hP : va_P D sg_cl ((h0, .inr (0, [.ref a1, .ref a2, .ref (gb 0), .ref a9, .ref (gt 0), .ref (gs 0), .ref a17, .null, .int 0, .int 0, .int 0, .int 0, .int 0])) :: ((a1, cq_ref (kA 2) 8 (fun _ => none)) :: ((a2, cq_ref (kA 2) 4 (fun _ => none)) :: (cb_Piece kA gb 0 ++ ((a9, cq_ref (kA 3) 7 (fun _ => none)) :: (cb_Text kA gt ++ (cb_Shop kA gs ++ ((a17, cq_ref (kA 6) 4 (fun _ => none)) :: ((a18, .inl (kA 0, 8, .inl (fun _ => 0))) :: ([])))))))))) H := hP
  have hD : va_D A ((h0, .inr (0, [.ref a1, .ref a2, .ref (gb 0), .ref a9, .ref (gt 0), .ref (gs 0), .ref a17, .null, .int 0, .int 0, .int 0, .int 0, .int 0])) :: ((a1, cq_ref (kA 2) 8 (fun _ => none)) :: ((a2, cq_ref (kA 2) 4 (fun _ => none)) :: (cb_Piece kA gb 0 ++ ((a9, cq_ref (kA 3) 7 (fun _ => none)) :: (cb_Text kA gt ++ (cb_Shop kA gs ++ ((a17, cq_ref (kA 6) 4 (fun _ => none)) :: ((a18, .inl (kA 0, 8, .inl (fun _ => 0))) :: ([])))))))))) := hD
  refine va_putF (D := D) (ci := 0) (v := .ref a18) (ty := .array .int) (C := sg_R0) (T := sg_F0) (N := 13) hx hb hts (sg_lay (k := 0) (by decide)) sg_Y0 sg_Yok0 sg_Fnm0 hown hE.1 hP hD hS 0 rfl rfl 7 (by decide) (hts (.fieldLink "SoftGlass" 53 "SoftGlass" "aimed" "[I") (sg_has_tb (p := 200) (by decide +kernel) rfl)) (fun _ h9 => h9) rfl hin rfl (by decide +kernel) rfl rfl (Nat.le_of_ble_eq_true rfl) (show decode prog_1_method_1_code 77 = .ok (.putfield 53, 3) by decide +kernel) (fun H locs hP hD hS => ?_)
  have hP : va_P D sg_cl ((h0, .inr (0, [.ref a1, .ref a2, .ref (gb 0), .ref a9, .ref (gt 0), .ref (gs 0), .ref a17, .ref a18, .int 0, .int 0, .int 0, .int 0, .int 0])) :: ((a1, cq_ref (kA 2) 8 (fun _ => none)) :: ((a2, cq_ref (kA 2) 4 (fun _ => none)) :: (cb_Piece kA gb 0 ++ ((a9, cq_ref (kA 3) 7 (fun _ => none)) :: (cb_Text kA gt ++ (cb_Shop kA gs ++ ((a17, cq_ref (kA 6) 4 (fun _ => none)) :: ((a18, .inl (kA 0, 8, .inl (fun _ => 0))) :: ([])))))))))) H := hP
  have hD : va_D A ((h0, .inr (0, [.ref a1, .ref a2, .ref (gb 0), .ref a9, .ref (gt 0), .ref (gs 0), .ref a17, .ref a18, .int 0, .int 0, .int 0, .int 0, .int 0])) :: ((a1, cq_ref (kA 2) 8 (fun _ => none)) :: ((a2, cq_ref (kA 2) 4 (fun _ => none)) :: (cb_Piece kA gb 0 ++ ((a9, cq_ref (kA 3) 7 (fun _ => none)) :: (cb_Text kA gt ++ (cb_Shop kA gs ++ ((a17, cq_ref (kA 6) 4 (fun _ => none)) :: ((a18, .inl (kA 0, 8, .inl (fun _ => 0))) :: ([])))))))))) := hD
  refine lv_iconst (v := nI 0) hx hb (show decode prog_1_method_1_code 80 = .ok (.iconst 0, 1) by decide +kernel) (by decide) ?_
  refine lv_istore_n (lv' := [(1, .int (nI 0)), (0, .ref h0)]) hx hb (show decode prog_1_method_1_code 81 = .ok (.istore_n 1, 1) by decide +kernel) rfl hl (by decide) rfl (fun ls hl => ?_)
  have hEqP : ∀ f : Nat → Option Nat, (h0, .inr (0, [.ref a1, .ref a2, .ref (gb 0), .ref a9, .ref (gt 0), .ref (gs 0), .ref a17, .ref a18, .int 0, .int 0, .int 0, .int 0, .int 0])) :: [] ++ (a1, cq_ref (kA 2) 8 f) :: (((a2, cq_ref (kA 2) 4 (fun _ => none)) :: (cb_Piece kA gb 0 ++ ((a9, cq_ref (kA 3) 7 (fun _ => none)) :: (cb_Text kA gt ++ (cb_Shop kA gs ++ ((a17, cq_ref (kA 6) 4 (fun _ => none)) :: (a18, .inl (kA 0, 8, .inl (fun _ => 0))) :: ([]))))))) ++ cx_P kA (fun _ _ => 0) 0) = (h0, .inr (0, [.ref a1, .ref a2, .ref (gb 0), .ref a9, .ref (gt 0), .ref (gs 0), .ref a17, .ref a18, .int 0, .int 0, .int 0, .int 0, .int 0])) :: [] ++ (a1, cq_ref (kA 2) 8 f) :: ((a2, cq_ref (kA 2) 4 (fun _ => none)) :: (cb_Piece kA gb 0 ++ ((a9, cq_ref (kA 3) 7 (fun _ => none)) :: (cb_Text kA gt ++ (cb_Shop kA gs ++ ((a17, cq_ref (kA 6) 4 (fun _ => none)) :: (a18, .inl (kA 0, 8, .inl (fun _ => 0))) :: ([]))))))) := fun f => by rw [show cx_P kA (fun _ _ => 0) 0 = [] from rfl, List.append_nil]
  refine W.widen (k := 18 + 6 * 0) (n := 174 + 48 * 0) (Nat.le_of_ble_eq_true rfl) (Nat.le_of_ble_eq_true rfl) ?_
  refine cl_P hx hb hml hown hts hE hA (fs := [.ref a1, .ref a2, .ref (gb 0), .ref a9, .ref (gt 0), .ref (gs 0), .ref a17, .ref a18, .int 0, .int 0, .int 0, .int 0, .int 0]) rfl [] ((a2, cq_ref (kA 2) 4 (fun _ => none)) :: (cb_Piece kA gb 0 ++ ((a9, cq_ref (kA 3) 7 (fun _ => none)) :: (cb_Text kA gt ++ (cb_Shop kA gs ++ ((a17, cq_ref (kA 6) 4 (fun _ => none)) :: (a18, .inl (kA 0, 8, .inl (fun _ => 0))) :: ([]))))))) 18 174 (Nat.le_of_ble_eq_true rfl) (Nat.le_of_ble_eq_true rfl) (fun f1 gp H locs ls hfP hP hD hS hl => ?_) 8 0 (fun _ => none) (fun _ _ => 0) H locs ls rfl (fun i hi => absurd hi (by omega)) (by rw [hEqP]; simp only [List.append_assoc, List.cons_append, List.nil_append] at hP ⊢; exact hP) (by rw [hEqP]; simp only [List.append_assoc, List.cons_append, List.nil_append] at hD ⊢; exact hD) hS hl
  refine lv_iconst (v := nI 0) hx hb (show decode prog_1_method_1_code 108 = .ok (.iconst 0, 1) by decide +kernel) (by decide) ?_
  refine lv_istore_n (lv' := [(1, .int (nI 0)), (0, .ref h0)]) hx hb (show decode prog_1_method_1_code 109 = .ok (.istore_n 1, 1) by decide +kernel) rfl hl (by decide) rfl (fun ls hl => ?_)
  have hEqQ : ∀ f : Nat → Option Nat, (h0, .inr (0, [.ref a1, .ref a2, .ref (gb 0), .ref a9, .ref (gt 0), .ref (gs 0), .ref a17, .ref a18, .int 0, .int 0, .int 0, .int 0, .int 0])) :: [(a1, cq_ref (kA 2) 8 f1)] ++ (a2, cq_ref (kA 2) 4 f) :: ((cb_Piece kA gb 0 ++ ((a9, cq_ref (kA 3) 7 (fun _ => none)) :: (cb_Text kA gt ++ (cb_Shop kA gs ++ ((a17, cq_ref (kA 6) 4 (fun _ => none)) :: (a18, .inl (kA 0, 8, .inl (fun _ => 0))) :: (cx_P kA gp 8)))))) ++ cx_Q kA (fun _ _ => 0) 0) = (h0, .inr (0, [.ref a1, .ref a2, .ref (gb 0), .ref a9, .ref (gt 0), .ref (gs 0), .ref a17, .ref a18, .int 0, .int 0, .int 0, .int 0, .int 0])) :: [(a1, cq_ref (kA 2) 8 f1)] ++ (a2, cq_ref (kA 2) 4 f) :: (cb_Piece kA gb 0 ++ ((a9, cq_ref (kA 3) 7 (fun _ => none)) :: (cb_Text kA gt ++ (cb_Shop kA gs ++ ((a17, cq_ref (kA 6) 4 (fun _ => none)) :: (a18, .inl (kA 0, 8, .inl (fun _ => 0))) :: (cx_P kA gp 8)))))) := fun f => by rw [show cx_Q kA (fun _ _ => 0) 0 = [] from rfl, List.append_nil]
  refine W.widen (k := 66 + 6 * 0) (n := 558 + 48 * 0) (Nat.le_of_ble_eq_true rfl) (Nat.le_of_ble_eq_true rfl) ?_
  refine cl_Q hx hb hml hown hts hE hA (fs := [.ref a1, .ref a2, .ref (gb 0), .ref a9, .ref (gt 0), .ref (gs 0), .ref a17, .ref a18, .int 0, .int 0, .int 0, .int 0, .int 0]) rfl [(a1, cq_ref (kA 2) 8 f1)] (cb_Piece kA gb 0 ++ ((a9, cq_ref (kA 3) 7 (fun _ => none)) :: (cb_Text kA gt ++ (cb_Shop kA gs ++ ((a17, cq_ref (kA 6) 4 (fun _ => none)) :: (a18, .inl (kA 0, 8, .inl (fun _ => 0))) :: (cx_P kA gp 8)))))) 66 558 (Nat.le_of_ble_eq_true rfl) (Nat.le_of_ble_eq_true rfl) (fun f2 gq H locs ls hfQ hP hD hS hl => ?_) 4 0 (fun _ => none) (fun _ _ => 0) H locs ls rfl (fun i hi => absurd hi (by omega)) (by rw [hEqQ]; simp only [List.append_assoc, List.cons_append, List.nil_append] at hP ⊢; exact hP) (by rw [hEqQ]; simp only [List.append_assoc, List.cons_append, List.nil_append] at hD ⊢; exact hD) hS hl
  refine lv_iconst (v := nI 0) hx hb (show decode prog_1_method_1_code 135 = .ok (.iconst 0, 1) by decide +kernel) (by decide) ?_
  refine lv_istore_n (lv' := [(1, .int (nI 0)), (0, .ref h0)]) hx hb (show decode prog_1_method_1_code 136 = .ok (.istore_n 1, 1) by decide +kernel) rfl hl (by decide) rfl (fun ls hl => ?_)
  have hEqR : ∀ f : Nat → Option Nat, (h0, .inr (0, [.ref a1, .ref a2, .ref (gb 0), .ref a9, .ref (gt 0), .ref (gs 0), .ref a17, .ref a18, .int 0, .int 0, .int 0, .int 0, .int 0])) :: ((a1, cq_ref (kA 2) 8 f1) :: (a2, cq_ref (kA 2) 4 f2) :: cb_Piece kA gb 0) ++ (a9, cq_ref (kA 3) 7 f) :: ((cb_Text kA gt ++ (cb_Shop kA gs ++ ((a17, cq_ref (kA 6) 4 (fun _ => none)) :: (a18, .inl (kA 0, 8, .inl (fun _ => 0))) :: (cx_P kA gp 8 ++ cx_Q kA gq 4)))) ++ cx_R kA (fun _ _ => 0) 0) = (h0, .inr (0, [.ref a1, .ref a2, .ref (gb 0), .ref a9, .ref (gt 0), .ref (gs 0), .ref a17, .ref a18, .int 0, .int 0, .int 0, .int 0, .int 0])) :: ((a1, cq_ref (kA 2) 8 f1) :: (a2, cq_ref (kA 2) 4 f2) :: cb_Piece kA gb 0) ++ (a9, cq_ref (kA 3) 7 f) :: (cb_Text kA gt ++ (cb_Shop kA gs ++ ((a17, cq_ref (kA 6) 4 (fun _ => none)) :: (a18, .inl (kA 0, 8, .inl (fun _ => 0))) :: (cx_P kA gp 8 ++ cx_Q kA gq 4)))) := fun f => by rw [show cx_R kA (fun _ _ => 0) 0 = [] from rfl, List.append_nil]
  refine W.widen (k := 90 + 3 * 0) (n := 750 + 19 * 0) (Nat.le_of_ble_eq_true rfl) (Nat.le_of_ble_eq_true rfl) ?_
  refine cl_R hx hb hml hown hts hE hA (fs := [.ref a1, .ref a2, .ref (gb 0), .ref a9, .ref (gt 0), .ref (gs 0), .ref a17, .ref a18, .int 0, .int 0, .int 0, .int 0, .int 0]) rfl ((a1, cq_ref (kA 2) 8 f1) :: (a2, cq_ref (kA 2) 4 f2) :: cb_Piece kA gb 0) (cb_Text kA gt ++ (cb_Shop kA gs ++ ((a17, cq_ref (kA 6) 4 (fun _ => none)) :: (a18, .inl (kA 0, 8, .inl (fun _ => 0))) :: (cx_P kA gp 8 ++ cx_Q kA gq 4)))) 90 750 (Nat.le_of_ble_eq_true rfl) (Nat.le_of_ble_eq_true rfl) (fun f9 gr H locs ls hfR hP hD hS hl => ?_) 7 0 (fun _ => none) (fun _ _ => 0) H locs ls rfl (fun i hi => absurd hi (by omega)) (by rw [hEqR]; simp only [List.append_assoc, List.cons_append, List.nil_append] at hP ⊢; exact hP) (by rw [hEqR]; simp only [List.append_assoc, List.cons_append, List.nil_append] at hD ⊢; exact hD) hS hl
  refine lv_iconst (v := nI 0) hx hb (show decode prog_1_method_1_code 162 = .ok (.iconst 0, 1) by decide +kernel) (by decide) ?_
  refine lv_istore_n (lv' := [(1, .int (nI 0)), (0, .ref h0)]) hx hb (show decode prog_1_method_1_code 163 = .ok (.istore_n 1, 1) by decide +kernel) rfl hl (by decide) rfl (fun ls hl => ?_)
  have hEqH : ∀ f : Nat → Option Nat, (h0, .inr (0, [.ref a1, .ref a2, .ref (gb 0), .ref a9, .ref (gt 0), .ref (gs 0), .ref a17, .ref a18, .int 0, .int 0, .int 0, .int 0, .int 0])) :: ((a1, cq_ref (kA 2) 8 f1) :: (a2, cq_ref (kA 2) 4 f2) :: (cb_Piece kA gb 0 ++ ((a9, cq_ref (kA 3) 7 f9) :: (cb_Text kA gt ++ cb_Shop kA gs)))) ++ (a17, cq_ref (kA 6) 4 f) :: (((a18, .inl (kA 0, 8, .inl (fun _ => 0))) :: (cx_P kA gp 8 ++ cx_Q kA gq 4 ++ cx_R kA gr 7)) ++ cx_H kA (fun _ _ => 0) 0) = (h0, .inr (0, [.ref a1, .ref a2, .ref (gb 0), .ref a9, .ref (gt 0), .ref (gs 0), .ref a17, .ref a18, .int 0, .int 0, .int 0, .int 0, .int 0])) :: ((a1, cq_ref (kA 2) 8 f1) :: (a2, cq_ref (kA 2) 4 f2) :: (cb_Piece kA gb 0 ++ ((a9, cq_ref (kA 3) 7 f9) :: (cb_Text kA gt ++ cb_Shop kA gs)))) ++ (a17, cq_ref (kA 6) 4 f) :: ((a18, .inl (kA 0, 8, .inl (fun _ => 0))) :: (cx_P kA gp 8 ++ cx_Q kA gq 4 ++ cx_R kA gr 7)) := fun f => by rw [show cx_H kA (fun _ _ => 0) 0 = [] from rfl, List.append_nil]
  refine W.widen (k := 111 + 2 * 0) (n := 883 + 63 * 0) (Nat.le_of_ble_eq_true rfl) (Nat.le_of_ble_eq_true rfl) ?_
  refine cl_H hx hb hml hown hts hE hA (fs := [.ref a1, .ref a2, .ref (gb 0), .ref a9, .ref (gt 0), .ref (gs 0), .ref a17, .ref a18, .int 0, .int 0, .int 0, .int 0, .int 0]) rfl ((a1, cq_ref (kA 2) 8 f1) :: (a2, cq_ref (kA 2) 4 f2) :: (cb_Piece kA gb 0 ++ ((a9, cq_ref (kA 3) 7 f9) :: (cb_Text kA gt ++ cb_Shop kA gs)))) ((a18, .inl (kA 0, 8, .inl (fun _ => 0))) :: (cx_P kA gp 8 ++ cx_Q kA gq 4 ++ cx_R kA gr 7)) 111 883 (Nat.le_of_ble_eq_true rfl) (Nat.le_of_ble_eq_true rfl) (fun f17 gh H locs ls hfH hP hD hS hl => ?_) 4 0 (fun _ => none) (fun _ _ => 0) H locs ls rfl (fun i hi => absurd hi (by omega)) (by rw [hEqH]; simp only [List.append_assoc, List.cons_append, List.nil_append] at hP ⊢; exact hP) (by rw [hEqH]; simp only [List.append_assoc, List.cons_append, List.nil_append] at hD ⊢; exact hD) hS hl
  refine W.widen (k := 119) (n := 1135) (Nat.le_of_ble_eq_true rfl) (Nat.le_of_ble_eq_true rfl) ?_
  have hP : va_P D sg_cl (cw_Glass kA h0 a1 a2 a9 a17 a18 gb gt gs gp gq gr gh f1 f2 f9 f17) H := by unfold cw_Glass; simp only [List.append_assoc, List.cons_append, List.nil_append] at hP ⊢; exact hP
  have hD : va_D A (cw_Glass kA h0 a1 a2 a9 a17 a18 gb gt gs gp gq gr gh f1 f2 f9 f17) := by unfold cw_Glass; simp only [List.append_assoc, List.cons_append, List.nil_append] at hD ⊢; exact hD
  exact W.vret hx hb hr (fun t ht hW => ⟨rfl, ⟨a1, a2, a9, a17, a18, gb, gt, gs, gp, gq, gr, gh, f1, f2, f9, f17, hfP, hfQ, hfR, hfH, by rw [ht]; exact hP, hD⟩, hS.F ht⟩) hS.2.2 (show decode prog_1_method_1_code 188 = .ok (.return_, 1) by decide +kernel)
