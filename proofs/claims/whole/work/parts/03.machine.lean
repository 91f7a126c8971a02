/-! A SMALL MACHINE over numbered cells of ints: what a method of this claim does is computed by it; part 04 shows that the machine of the Statement does the same. -/
abbrev sg_V : Type := Int32 ⊕ (Int64 ⊕ (Nat × Nat))
abbrev sg_i (x : Int32) : sg_V := .inl x
abbrev sg_l (x : Int64) : sg_V := .inr (.inl x)
abbrev sg_r (t c : Nat) : sg_V := .inr (.inr (t, c))
abbrev sg_M : Type := Nat → Nat → Int32
def sg_set (σ : sg_M) (c : Nat) (f : Nat → Int32) : sg_M := fun k => if k = c then f else σ k
def sg_up (σ : sg_M) (c j : Nat) (v : Int32) : sg_M := sg_set σ c (upd (σ c) j v)
def sg_in (i : Int32) (n : Nat) : Bool := decide (0 ≤ i.toInt ∧ i.toInt < (n : Int))
def sg_sh (t : Nat) : sg_T := if 100 ≤ t then .inl (t - 100) else sg_shL.getD t (.inl 0)
def sg_tag (c : Nat) : Nat := sg_tagL.getD c 0
abbrev sg_S : Type := Nat × sg_M × List sg_V × List sg_V
abbrev sg_O : Type := Option sg_V × sg_M
abbrev sg_K : Type := Nat × List sg_V × Nat × List sg_V × List sg_V
abbrev sg_X : Type := sg_S ⊕ (sg_O ⊕ sg_K)
def sg_m (y : Nat) : MethodName × ByteArray × Nat × Option FieldType × Nat × Nat × Nat × Nat := sg_mt.getD y (⟨"", "", ""⟩, code, 0, none, 0, 0, 0, 0)
def sg_nm (y : Nat) : MethodName := (sg_m y).1
def sg_code (y : Nat) : ByteArray := (sg_m y).2.1
def sg_mx (y : Nat) : Nat := (sg_m y).2.2.1
def sg_rt (y : Nat) : Option FieldType := (sg_m y).2.2.2.1
def sg_cn (y : Nat) : Nat := (sg_m y).2.2.2.2.1
def sg_fr (y : Nat) : Nat := (sg_m y).2.2.2.2.2.1
def sg_lc (y : Nat) : Nat := (sg_m y).2.2.2.2.2.2.1
def sg_np (y : Nat) : Nat := (sg_m y).2.2.2.2.2.2.2
def sg_fl (o x : Nat) : Option (Nat × Nat × Nat × Nat × Bool × Nat) := sg_flL.find? (fun e => e.1 == o && e.2.1 == x)
def sg_ml (o x : Nat) : Option (Nat × Nat × Nat × Nat × Nat × Nat × Nat × Nat) := sg_mlL.find? (fun e => e.1 == o && e.2.1 == x)
def sg_sl (o x : Nat) : Option (Nat × Nat × Nat × Nat) := sg_slL.find? (fun e => e.1 == o && e.2.1 == x)
def sg_kl (o x : Nat) : Option (Nat × Nat × Int64 × Nat) := sg_kL.find? (fun e => e.1 == o && e.2.1 == x)
def sg_ca (v : sg_V) : Nat := match v with
  | .inr (.inl _) => 2
  | _ => 1
/-- how long an instruction must be -/
def sg_ln (i : Instr) (len : Nat) : Bool := match i with
  | .bipush _ => len == 2
  | .iload _ => len == 2
  | .lload _ => len == 2
  | .aload _ => len == 2
  | .istore _ => len == 2
  | .lstore _ => len == 2
  | .astore _ => len == 2
  | .sipush _ => len == 3
  | .ldc2_w _ => len == 3
  | .iinc _ _ => len == 3
  | .getfield _ => len == 3
  | .putfield _ => len == 3
  | .getstatic _ => len == 3
  | .ifCond _ _ => len == 3
  | .if_icmp _ _ => len == 3
  | .goto _ => len == 3
  | .invokevirtual _ => len == 3
  | .invokestatic _ => len == 3
  | .tableswitch _ _ _ _ => true
  | .lookupswitch _ _ => true
  | _ => len == 1
/-- two ints from the top -/
def sg_b2 (f : Int32 → Int32 → Option sg_V) (st : List sg_V) : Option (List sg_V) := match st with
  | .inl y :: .inl x :: r => (f x y).map (fun v => v :: r)
  | _ => none
def sg_b1 (f : Int32 → Option sg_V) (st : List sg_V) : Option (List sg_V) := match st with
  | .inl x :: r => (f x).map (fun v => v :: r)
  | _ => none
def sg_b3 (f : Int64 → Int64 → Option sg_V) (st : List sg_V) : Option (List sg_V) := match st with
  | .inr (.inl y) :: .inr (.inl x) :: r => (f x y).map (fun v => v :: r)
  | _ => none
/-- a long below an int (lshl) -/
def sg_b4 (f : Int64 → Int32 → Option sg_V) (st : List sg_V) : Option (List sg_V) := match st with
  | .inl y :: .inr (.inl x) :: r => (f x y).map (fun v => v :: r)
  | _ => none
def sg_d1 (st : List sg_V) : Option (List sg_V) := match st with
  | v :: r => if sg_ca v = 1 then some (v :: v :: r) else none
  | _ => none
def sg_d2 (st : List sg_V) : Option (List sg_V) := match st with
  | v :: r => if sg_ca v = 1 then some r else none
  | _ => none
def sg_d3 (st : List sg_V) : Option (List sg_V) := match st with
  | v :: w :: r => if sg_ca v = 1 ∧ sg_ca w = 1 then some (v :: w :: v :: r) else none
  | _ => none
def sg_d4 (st : List sg_V) : Option (List sg_V) := match st with
  | v :: w :: r => if sg_ca v = 1 ∧ sg_ca w = 1 then some (v :: w :: v :: w :: r) else none
  | _ => none
/-- what only the operand stack sees -/
def sg_pu (i : Instr) (st : List sg_V) : Option (List sg_V) := match i with
  | .iconst n => some (sg_i (Int32.ofInt n) :: st)
  | .bipush n => some (sg_i (Int8.ofInt n).toInt32 :: st)
  | .sipush n => some (sg_i (Int16.ofInt n).toInt32 :: st)
  | .lconst n => some (sg_l (Int64.ofNat (n : Nat)) :: st)
  | .iadd => sg_b2 (fun x y => some (sg_i (x + y))) st
  | .isub => sg_b2 (fun x y => some (sg_i (x - y))) st
  | .imul => sg_b2 (fun x y => some (sg_i (x * y))) st
  | .iand => sg_b2 (fun x y => some (sg_i (x &&& y))) st
  | .idiv => sg_b2 (fun x y => if y = 0 then none else some (sg_i (x / y))) st
  | .irem => sg_b2 (fun x y => if y = 0 then none else some (sg_i (x - x / y * y))) st
  | .ishl => sg_b2 (fun x y => some (sg_i (x <<< (y &&& 31)))) st
  | .ishr => sg_b2 (fun x y => some (sg_i (x >>> (y &&& 31)))) st
  | .ineg => sg_b1 (fun x => some (sg_i (-x))) st
  | .i2l => sg_b1 (fun x => some (sg_l x.toInt64)) st
  | .i2b => sg_b1 (fun x => some (sg_i x.toInt8.toInt32)) st
  | .i2s => sg_b1 (fun x => some (sg_i x.toInt16.toInt32)) st
  | .ladd => sg_b3 (fun x y => some (sg_l (x + y))) st
  | .lsub => sg_b3 (fun x y => some (sg_l (x - y))) st
  | .lmul => sg_b3 (fun x y => some (sg_l (x * y))) st
  | .ldiv => sg_b3 (fun x y => if y = 0 then none else some (sg_l (x / y))) st
  | .lrem => sg_b3 (fun x y => if y = 0 then none else some (sg_l (x - x / y * y))) st
  | .lcmp => sg_b3 (fun x y => some (sg_i (lg_cmp x y))) st
  | .lshl => sg_b4 (fun x y => some (sg_l (x <<< (y.toInt64 &&& 63)))) st
  | .dup => sg_d1 st
  | .pop => sg_d2 st
  | .dup_x1 => sg_d3 st
  | .dup2 => sg_d4 st
  | _ => none
def sg_nx (pc : Nat) (σ : sg_M) (lv st : List sg_V) : Option sg_X := some (.inl (pc, σ, lv, st))
/-- the place below isn't a long -/
def sg_nl (lv : List sg_V) (n : Nat) : Bool := match n with
  | 0 => true
  | k + 1 => match lv[k]? with
    | some (.inr (.inl _)) => false
    | _ => true
def sg_ld (n pc : Nat) (ok : sg_V → Bool) (σ : sg_M) (lv st : List sg_V) : Option sg_X := match lv[n]? with
  | some v => if ok v then sg_nx pc σ lv (v :: st) else none
  | none => none
def sg_sto (n pc : Nat) (ok : sg_V → Bool) (σ : sg_M) (lv st : List sg_V) : Option sg_X := match st with
  | v :: r => if ok v && (decide (n < lv.length) && sg_nl lv n) then sg_nx pc σ (lv.set n v) r else none
  | [] => none
def sg_sto2 (n pc : Nat) (σ : sg_M) (lv st : List sg_V) : Option sg_X := match st with
  | .inr (.inl x) :: r => if decide (n + 1 < lv.length) && sg_nl lv n then sg_nx pc σ ((lv.set n (sg_l x)).set (n + 1) (sg_r 0 0)) r else none
  | _ => none
def sg_isI (v : sg_V) : Bool := match v with
  | .inl _ => true
  | _ => false
def sg_isL (v : sg_V) : Bool := match v with
  | .inr (.inl _) => true
  | _ => false
def sg_isR (v : sg_V) : Bool := match v with
  | .inr (.inr q) => q.1 != 0
  | _ => false
def sg_cmp (c : ClassFile.Cond) (x y : Int32) : Bool := match c with
  | .eq => decide (x = y)
  | .ne => decide (¬ x = y)
  | .lt => decide (x < y)
  | .ge => decide (y ≤ x)
  | .gt => decide (y < x)
  | .le => decide (x ≤ y)
def sg_go (off : Int) (pc : Nat) (σ : sg_M) (lv st : List sg_V) : Option sg_X := if 0 ≤ (pc : Int) + off then sg_nx ((pc : Int) + off).toNat σ lv st else none
def sg_br (b : Bool) (off : Int) (pc : Nat) (σ : sg_M) (lv st : List sg_V) : Option sg_X := if 0 ≤ (pc : Int) + off then some (.inl (if b then ((pc : Int) + off).toNat else pc + 3, σ, lv, st)) else none
/-- the arrays that nobody writes: the script (0), the static ones (1 .. 5) -/
def sg_roN (k : Nat) (σ : sg_M) : Nat := if k = 0 then (σ 999 0).toNatClampNeg else 7
def sg_roV (k : Nat) (σ : sg_M) (j : Nat) : Int32 := if k = 0 then σ 1000 j else (sg_sv.getD k []).getD j 0
def sg_ro (t : Nat) : Bool := decide (90 ≤ t ∧ t < 96)
def sg_ald (t c : Nat) (i : Int32) (pc : Nat) (σ : sg_M) (lv st : List sg_V) : Option sg_X :=
  if sg_ro t && (t != 95) then (if sg_in i (sg_roN (t - 90) σ) then sg_nx pc σ lv (sg_i (sg_roV (t - 90) σ i.toNatClampNeg) :: st) else none)
  else if 100 ≤ t then (if sg_in i (t - 100) then sg_nx pc σ lv (sg_i (σ c i.toNatClampNeg) :: st) else none) else none
def sg_fget (t c k ci : Nat) (pc : Nat) (σ : sg_M) (lv st : List sg_V) : Option sg_X := match sg_sh t with
  | .inr (.inr o) => if o.1 = ci then (match o.2[k]? with
    | some none => sg_nx pc σ lv (sg_i (σ c k) :: st)
    | some (some r) => sg_nx pc σ lv (sg_r r.1 (c + r.2) :: st)
    | none => none) else none
  | _ => none
/-- which fields may be written: ints that aren't final -/
def sg_wr (ci k : Nat) : Bool := match sg_cl[ci]? with
  | some q => decide (k < q.2.2) && (!(q.2.1 k).2.2.2 && ((q.2.1 k).2.2.1 == "I"))
  | none => false
def sg_fput (t c k ci : Nat) (v : Int32) (pc : Nat) (σ : sg_M) (lv st : List sg_V) : Option sg_X := match sg_sh t with
  | .inr (.inr o) => if o.1 = ci then (match o.2[k]? with
    | some none => if sg_wr ci k then sg_nx pc (sg_up σ c k v) lv st else none
    | _ => none) else none
  | _ => none
def sg_aald (t c : Nat) (i : Int32) (pc : Nat) (σ : sg_M) (lv st : List sg_V) : Option sg_X := match sg_sh t with
  | .inr (.inl q) => if sg_in i q.1 then sg_nx pc σ lv (sg_r q.2.1 (c + q.2.2.1 + q.2.2.2 * i.toNatClampNeg) :: st) else none
  | _ => none
def sg_z (r : Option FieldType) (v : Int32) : Bool := match r with
  | some .int => true
  | some .boolean => decide (v = 0) || decide (v = 1)
  | _ => false
def sg_tsw (dflt lo hi : Int) (offs : Array Int) (x : Int) : Option Int := if x < lo ∨ hi < x then some dflt else offs[(x - lo).toNat]?
/-- a new method's locals -/
def sg_en (z : Nat) (as : List sg_V) : List sg_V := let l := as.flatMap (fun v => if sg_ca v = 2 then [v, sg_r 0 0] else [v])
  l ++ List.replicate (sg_mx z - l.length) (sg_r 0 0)
def sg_enl (as : List sg_V) : Nat := (as.map sg_ca).sum
/-- class of an object by its tag -/
def sg_tc (t : Nat) : Option Nat := match sg_sh t with
  | .inr (.inr o) => some o.1
  | _ => none
def sg_rc (z : Nat) (v : Option sg_V) : Bool := match v with
  | some (.inr (.inr q)) => decide (sg_tc q.1 = some (sg_cn z))
  | _ => false
def sg_ig (y z n : Nat) (virt : Bool) (st : List sg_V) : Bool :=
  decide (n ≤ st.length) && (decide (sg_enl (st.take n) ≤ sg_mx z) && (decide (((st.drop n).map sg_ca).sum ≤ 8) && (decide (sg_fr z + 1 ≤ sg_fr y) && (decide (8 + (sg_mx z + 11) + sg_lc z ≤ sg_lc y) && (!virt || sg_rc z (st.take n).getLast?)))))
def sg_inv (y z n : Nat) (virt : Bool) (pc : Nat) (lv st : List sg_V) : Option sg_X :=
  if sg_ig y z n virt st then some (.inr (.inr (z, (st.take n).reverse, pc + 3, lv, st.drop n))) else none
def sg_cpy (pc : Nat) (σ : sg_M) (lv st : List sg_V) : Option sg_X := match st with
  | .inl n :: .inl dp :: .inr (.inr q1) :: .inl sp :: .inr (.inr q0) :: r =>
    if (decide (100 ≤ q0.1) && decide (100 ≤ q1.1)) && ((decide (¬ sp < 0) && (decide (¬ dp < 0) && decide (¬ n < 0))) && (decide (sp.toNatClampNeg + n.toNatClampNeg ≤ q0.1 - 100) && (decide (dp.toNatClampNeg + n.toNatClampNeg ≤ q1.1 - 100) && decide ((r.map sg_ca).sum ≤ 8))))
    then sg_nx pc (sg_set σ q1.2 (va_cpy (σ q0.2) (σ q1.2) sp.toNatClampNeg dp.toNatClampNeg n.toNatClampNeg)) lv r else none
  | _ => none
def sg_bt (kd : Nat) (st : List sg_V) : Option (List sg_V) := match kd with
  | 5 => sg_b2 (fun x y => some (sg_i (if x < y then y else x))) st
  | 6 => sg_b2 (fun x y => some (sg_i (if y < x then y else x))) st
  | 7 => sg_b1 (fun x => some (sg_i (if 0 ≤ x then x else 0 - x))) st
  | _ => none
def sg_cal (y : Nat) (virt : Bool) (idx pc : Nat) (σ : sg_M) (lv st : List sg_V) : Option sg_X := match sg_ml (sg_cn y) idx with
  | some e => if virt then (if e.2.2.1 = 0 ∨ e.2.2.1 = 2 then sg_inv y e.2.2.2.1 (sg_np e.2.2.2.1 + 1) true pc lv st else none)
    else if e.2.2.1 = 1 ∨ e.2.2.1 = 3 ∨ e.2.2.1 = 4 then sg_inv y e.2.2.2.1 (sg_np e.2.2.2.1) false pc lv st
    else if e.2.2.1 = 8 then (if 1 ≤ sg_fr y ∧ 40 ≤ sg_lc y then sg_cpy (pc + 3) σ lv st else none)
    else (if 1 ≤ sg_fr y ∧ (40 ≤ sg_lc y ∧ ((st.drop 1).map sg_ca).sum ≤ 8) then (sg_bt e.2.2.1 st).bind (fun s2 => sg_nx (pc + 3) σ lv s2) else none)
  | none => none
def sg_st (y : Nat) (i : Instr) (len pc : Nat) (σ : sg_M) (lv st : List sg_V) : Option sg_X := match i with
  | .iload n => sg_ld n (pc + 2) sg_isI σ lv st
  | .iload_n n => sg_ld (n : Nat) (pc + 1) sg_isI σ lv st
  | .lload n => sg_ld n (pc + 2) sg_isL σ lv st
  | .lload_n n => sg_ld (n : Nat) (pc + 1) sg_isL σ lv st
  | .aload n => sg_ld n (pc + 2) sg_isR σ lv st
  | .aload_n n => sg_ld (n : Nat) (pc + 1) sg_isR σ lv st
  | .istore n => sg_sto n (pc + 2) sg_isI σ lv st
  | .istore_n n => sg_sto (n : Nat) (pc + 1) sg_isI σ lv st
  | .astore n => sg_sto n (pc + 2) sg_isR σ lv st
  | .astore_n n => sg_sto (n : Nat) (pc + 1) sg_isR σ lv st
  | .lstore n => sg_sto2 n (pc + 2) σ lv st
  | .lstore_n n => sg_sto2 (n : Nat) (pc + 1) σ lv st
  | .iinc n k => (match lv[n]? with
    | some (.inl x) => if decide (n < lv.length) && sg_nl lv n then sg_nx (pc + 3) σ (lv.set n (sg_i (x + Int32.ofInt k))) st else none
    | _ => none)
  | .ldc2_w x => (match sg_kl (sg_cn y) x with
    | some e => sg_nx (pc + 3) σ lv (sg_l e.2.2.1 :: st)
    | none => none)
  | .getfield x => (match st with
    | .inr (.inr q) :: r => (match sg_fl (sg_cn y) x with
      | some e => sg_fget q.1 q.2 e.2.2.2.1 e.2.2.1 (pc + 3) σ lv r
      | none => none)
    | _ => none)
  | .putfield x => (match st with
    | .inl v :: .inr (.inr q) :: r => (match sg_fl (sg_cn y) x with
      | some e => sg_fput q.1 q.2 e.2.2.2.1 e.2.2.1 v (pc + 3) σ lv r
      | none => none)
    | _ => none)
  | .getstatic x => (match sg_sl (sg_cn y) x with
    | some e => sg_nx (pc + 3) σ lv (sg_r (90 + e.2.2.1) (1000 + e.2.2.1) :: st)
    | none => none)
  | .iaload => (match st with
    | .inl i :: .inr (.inr q) :: r => sg_ald q.1 q.2 i (pc + 1) σ lv r
    | _ => none)
  | .caload => (match st with
    | .inl i :: .inr (.inr q) :: r => if q.1 = 95 then (if sg_in i 7 then sg_nx (pc + 1) σ lv (sg_i (sg_roV 5 σ i.toNatClampNeg) :: r) else none) else none
    | _ => none)
  | .iastore => (match st with
    | .inl v :: .inl i :: .inr (.inr q) :: r => if 100 ≤ q.1 then (if sg_in i (q.1 - 100) then sg_nx (pc + 1) (sg_up σ q.2 i.toNatClampNeg v) lv r else none) else none
    | _ => none)
  | .aaload => (match st with
    | .inl i :: .inr (.inr q) :: r => sg_aald q.1 q.2 i (pc + 1) σ lv r
    | _ => none)
  | .arraylength => (match st with
    | .inr (.inr q) :: r => if sg_ro q.1 then sg_nx (pc + 1) σ lv (sg_i (Int32.ofNat (sg_roN (q.1 - 90) σ)) :: r)
        else if 100 ≤ q.1 then sg_nx (pc + 1) σ lv (sg_i (Int32.ofNat (q.1 - 100)) :: r) else none
    | _ => none)
  | .ifCond c off => (match st with
    | .inl x :: r => sg_br (sg_cmp c x 0) off pc σ lv r
    | _ => none)
  | .if_icmp c off => (match st with
    | .inl y :: .inl x :: r => sg_br (sg_cmp c x y) off pc σ lv r
    | _ => none)
  | .goto off => sg_go off pc σ lv st
  | .tableswitch d lo hi offs => (match st with
    | .inl x :: r => (match sg_tsw d lo hi offs x.toInt with
      | some off => sg_go off pc σ lv r
      | none => none)
    | _ => none)
  | .lookupswitch d ps => (match st with
    | .inl x :: r => if (ps.toList.zip (ps.toList.drop 1)).all (fun (a, next) => a.1 < next.1) then sg_go (Op.lookupswitch.offset ps.toList d x.toInt) pc σ lv r else none
    | _ => none)
  | .ireturn => (match st with
    | [.inl v] => if sg_z (sg_rt y) v then some (.inr (.inl (some (sg_i v), σ))) else none
    | _ => none)
  | .lreturn => (match st with
    | [.inr (.inl v)] => if sg_rt y = some .long then some (.inr (.inl (some (sg_l v), σ))) else none
    | _ => none)
  | .return_ => (match st with
    | [] => if sg_rt y = none then some (.inr (.inl (none, σ))) else none
    | _ => none)
  | .invokevirtual x => sg_cal y true x pc σ lv st
  | .invokestatic x => sg_cal y false x pc σ lv st
  | i => (sg_pu i st).bind (fun s2 => sg_nx (pc + len) σ lv s2)
def sg_run : Nat → Nat → Nat → sg_M → List sg_V → List sg_V → Option sg_O
  | 0, _, _, _, _, _ => none
  | n + 1, y, pc, σ, lv, st => match decode (sg_code y) pc with
    | .error _ => none
    | .ok q => if sg_ln q.1 q.2 then (match sg_st y q.1 q.2 pc σ lv st with
        | none => none
        | some (.inl S) => sg_run n y S.1 S.2.1 S.2.2.1 S.2.2.2
        | some (.inr (.inl o)) => some o
        | some (.inr (.inr k)) => (match sg_run n k.1 0 σ (sg_en k.1 k.2.1) [] with
            | none => none
            | some o => sg_run n y k.2.2.1 o.2 k.2.2.2.1 (o.1.toList ++ k.2.2.2.2))) else none
