/-! the tables of parts 02 and 03 held against the Statement's words -/
def sg_tb : List Jvm.Cond := lw_tbl.filter goodWord
def sg_has (p : Nat) (w : Jvm.Cond) : Bool := decide (lw_tbl[p]? = some w)
theorem sg_has_mem {p : Nat} {w : Jvm.Cond} (h : sg_has p w = true) : w ∈ lw_tbl := List.mem_of_getElem? (of_decide_eq_true h)
theorem sg_has_tb {p : Nat} {w : Jvm.Cond} (h : sg_has p w = true) (hg : goodWord w = true) : w ∈ sg_tb := List.mem_filter.mpr ⟨sg_has_mem h, hg⟩
def sg_cs (k : Nat) : String := sg_cns.getD k ""
/-- a class of objects by its number: name, fields, how many -/
def sg_cq (k : Nat) : vw_C := sg_cl.getD k (sg_R0, sg_F0, 13)
theorem sg_cq_eq {k : Nat} (h : k < 7) : sg_cl[k]? = some (sg_cq k) := by
  match k, h with
  | 0, _ => rfl
  | 1, _ => rfl
  | 2, _ => rfl
  | 3, _ => rfl
  | 4, _ => rfl
  | 5, _ => rfl
  | 6, _ => rfl
def sg_flw (e : Nat × Nat × Nat × Nat × Bool × Nat) : Jvm.Cond :=
  if e.2.2.2.2.1 then .fieldLinkNest (sg_cs e.1) e.2.1 (sg_cq e.2.2.1).1 ((sg_cq e.2.2.1).2.1 e.2.2.2.1).2.1 ((sg_cq e.2.2.1).2.1 e.2.2.2.1).2.2.1 "SoftGlass"
  else .fieldLink (sg_cs e.1) e.2.1 (sg_cq e.2.2.1).1 ((sg_cq e.2.2.1).2.1 e.2.2.2.1).2.1 ((sg_cq e.2.2.1).2.1 e.2.2.2.1).2.2.1
theorem sg_fl_ok : (sg_flL.all fun e => sg_has e.2.2.2.2.2 (sg_flw e) && (decide (e.2.2.1 < 7) && (decide (e.2.2.2.1 < (sg_cq e.2.2.1).2.2) && ((sg_cq e.2.2.1).2.1 e.2.2.2.1).1 == (sg_cq e.2.2.1).1))) = true := by decide +kernel
def sg_slw (e : Nat × Nat × Nat × Nat) : Jvm.Cond := .fieldLink (sg_cs e.1) e.2.1 (sg_sn.getD e.2.2.1 ("", "", "")).1 (sg_sn.getD e.2.2.1 ("", "", "")).2.1 (sg_sn.getD e.2.2.1 ("", "", "")).2.2
theorem sg_sl_ok : (sg_slL.all fun e => sg_has e.2.2.2 (sg_slw e) && (decide (1 ≤ e.2.2.1) && decide (e.2.2.1 < 6))) = true := by decide +kernel
theorem sg_kl_ok : (sg_kL.all fun e => sg_has e.2.2.2 (.constantLong (sg_cs e.1) e.2.1 e.2.2.1)) = true := by decide +kernel
def sg_cw (y : Nat) : Jvm.Cond := .code (sg_nm y) (sg_code y) (sg_mx y) (sg_rt y)
set_option maxRecDepth 100000 in
set_option maxHeartbeats 4000000 in
theorem sg_cp_all : (List.range 199).map (fun y => some (sg_cw y)) = sg_cp.map (fun p => lw_tbl[p]?) := rfl
theorem sg_cp_ok {y : Nat} (h : y < 199) : sg_cw y ∈ lw_tbl := by
  have h1 : some (sg_cw y) ∈ sg_cp.map (fun p => lw_tbl[p]?) := by
    rw [← sg_cp_all]
    exact List.mem_map.mpr ⟨y, List.mem_range.mpr h, rfl⟩
  obtain ⟨p, -, hp⟩ := List.mem_map.mp h1
  exact List.mem_of_getElem? hp
theorem sg_mt_ok : ((List.range 199).all fun y => plainName (sg_nm y).cls && (decide ((sg_nm y).cls = sg_cs (sg_cn y)) && (decide ((sg_nm y).cls ≠ "java/lang/invoke/MethodHandle") && (decide ((sg_nm y).cls ≠ "java/lang/invoke/VarHandle") && decide ((parseMethodDescriptor (sg_nm y).desc).map (fun d => d.parameters.length) = some (sg_np y)))))) = true := by decide +kernel
def sg_mlc (e : Nat × Nat × Nat × Nat × Nat × Nat × Nat × Nat) : Bool :=
  let z := e.2.2.2.1
  match e.2.2.1 with
  | 0 => decide (z < 199) && (sg_has e.2.2.2.2.1 (.methodLink (sg_cs e.1) e.2.1 (sg_nm z)) && (sg_has e.2.2.2.2.2.1 (.instanceMethod (sg_nm z)) && (sg_has e.2.2.2.2.2.2.1 (.selects (sg_nm z).cls (sg_nm z) (sg_nm z)) && sg_has e.2.2.2.2.2.2.2 (.initialized (sg_nm z).cls))))
  | 2 => decide (z < 199) && (sg_has e.2.2.2.2.1 (.methodLinkNest (sg_cs e.1) e.2.1 (sg_nm z) "SoftGlass") && (sg_has e.2.2.2.2.2.1 (.instanceMethod (sg_nm z)) && (sg_has e.2.2.2.2.2.2.1 (.selects (sg_nm z).cls (sg_nm z) (sg_nm z)) && sg_has e.2.2.2.2.2.2.2 (.initialized (sg_nm z).cls))))
  | 1 => decide (z < 199) && (sg_has e.2.2.2.2.1 (.methodLink (sg_cs e.1) e.2.1 (sg_nm z)) && (sg_has e.2.2.2.2.2.1 (.static (sg_nm z)) && sg_has e.2.2.2.2.2.2.2 (.initialized (sg_nm z).cls)))
  | 4 => decide (z < 199) && (sg_has e.2.2.2.2.1 (.methodLink (sg_cs e.1) e.2.1 (sg_nm z)) && (sg_has e.2.2.2.2.2.1 (.static (sg_nm z)) && sg_has e.2.2.2.2.2.2.2 (.initialized (sg_nm z).cls)))
  | 3 => decide (z < 199) && (sg_has e.2.2.2.2.1 (.methodLinkNest (sg_cs e.1) e.2.1 (sg_nm z) "SoftGlass") && (sg_has e.2.2.2.2.2.1 (.static (sg_nm z)) && sg_has e.2.2.2.2.2.2.2 (.initialized (sg_nm z).cls)))
  | 5 => sg_has e.2.2.2.2.1 (.methodLink (sg_cs e.1) e.2.1 Lib.Math.max.name) && (sg_has e.2.2.2.2.2.1 (.static Lib.Math.max.name) && (sg_has e.2.2.2.2.2.2.1 (.code Lib.Math.max.name Lib.Math.max.code 2 (some .int)) && sg_has e.2.2.2.2.2.2.2 (.initialized "java/lang/Math")))
  | 6 => sg_has e.2.2.2.2.1 (.methodLink (sg_cs e.1) e.2.1 Lib.Math.min.name) && (sg_has e.2.2.2.2.2.1 (.static Lib.Math.min.name) && (sg_has e.2.2.2.2.2.2.1 (.code Lib.Math.min.name Lib.Math.min.code 2 (some .int)) && sg_has e.2.2.2.2.2.2.2 (.initialized "java/lang/Math")))
  | 7 => sg_has e.2.2.2.2.1 (.methodLink (sg_cs e.1) e.2.1 Lib.Math.abs.name) && (sg_has e.2.2.2.2.2.1 (.static Lib.Math.abs.name) && (sg_has e.2.2.2.2.2.2.1 (.code Lib.Math.abs.name Lib.Math.abs.code 1 (some .int)) && sg_has e.2.2.2.2.2.2.2 (.initialized "java/lang/Math")))
  | 8 => sg_has e.2.2.2.2.1 (.methodLink (sg_cs e.1) e.2.1 arraycopyName) && (sg_has e.2.2.2.2.2.1 (.static arraycopyName) && (sg_has e.2.2.2.2.2.2.1 (.native arraycopyName) && sg_has e.2.2.2.2.2.2.2 (.initialized "java/lang/System")))
  | _ => false
theorem sg_ml_ok : (sg_mlL.all sg_mlc) = true := by decide +kernel
/-- the words by the nest, which the worlds carry -/
def sg_nw : List Jvm.Cond := sg_nwp.filterMap (fun p => lw_tbl[p]?)
theorem sg_nw_ok : (sg_nw.all fun w => match w with
  | .fieldLinkNest .. => true
  | .methodLinkNest .. => true
  | _ => false) = true := by decide +kernel
theorem sg_nw_fl : (sg_flL.all fun e => !e.2.2.2.2.1 || decide (e.2.2.2.2.2 ∈ sg_nwp)) = true := by decide +kernel
theorem sg_nw_ml : (sg_mlL.all fun e => !(e.2.2.1 == 2 || e.2.2.1 == 3) || decide (e.2.2.2.2.1 ∈ sg_nwp)) = true := by decide +kernel
theorem sg_nw_mem {p : Nat} {w : Jvm.Cond} (h : sg_has p w = true) (hp : p ∈ sg_nwp) : w ∈ sg_nw := List.mem_filterMap.mpr ⟨p, hp, of_decide_eq_true h⟩
/-- the fields' words -/
theorem sg_lay_ok : ((List.range 7).all fun k => (u_ws (sg_cq k).1 (sg_cq k).2.1 (sg_cq k).2.2).all fun w => decide (w ∈ lw_tbl) && goodWord w) = true := by decide +kernel
/-- cells and tags fit: what a field or a place of a row of references names is a cell of that tag -/
theorem sg_tag_ok : ((List.range 146).all fun c => decide (sg_tag c ≠ 0) && (match sg_sh (sg_tag c) with
  | .inl n => decide (100 ≤ sg_tag c) && decide (n = sg_tag c - 100)
  | .inr (.inl q) => (List.range q.1).all (fun i => decide (c + q.2.2.1 + q.2.2.2 * i < 146) && decide (sg_tag (c + q.2.2.1 + q.2.2.2 * i) = q.2.1)) && decide (q.2.1 = 2 ∨ q.2.1 = 3 ∨ q.2.1 = 6)
  | .inr (.inr o) => decide (o.1 < 7) && (decide (o.2.length = (sg_cq o.1).2.2) && o.2.all (fun f => match f with
    | none => true
    | some r => decide (c + r.2 < 146) && decide (sg_tag (c + r.2) = r.1))))) = true := by decide +kernel
