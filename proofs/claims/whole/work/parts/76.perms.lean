/-! ROWS of jobs, in their order -/
def ls_g : List Nat → Nat → Nat
  | [], _ => 0
  | a :: _, 0 => a
  | _ :: l, n + 1 => ls_g l n
def ls_s : List Nat → Nat → Nat → List Nat
  | [], _, _ => []
  | _ :: l, 0, v => v :: l
  | a :: l, n + 1, v => a :: ls_s l n v
def ls_sw (l : List Nat) (x y : Nat) : List Nat := ls_s (ls_s l x (ls_g l y)) y (ls_g l x)
def jb_has (S x : Nat) : Bool := Nat.beq (S / 2 ^ x % 2) 1
def jb_mem (S : Nat) : List Nat := [0, 1, 2, 3, 4, 5, 6].filter (jb_has S)
def jb_pm : Nat → List Nat → List (List Nat)
  | 0, _ => [[]]
  | n + 1, l => l.flatMap (fun x => (jb_pm n (l.filter (fun y => !(Nat.beq y x)))).map (fun r => x :: r))
def nx_p (l : List Nat) : Nat → Option Nat
  | 0 => bif Nat.blt (ls_g l 1) (ls_g l 0) then none else some 0
  | x + 1 => bif Nat.blt (ls_g l (x + 2)) (ls_g l (x + 1)) then nx_p l x else some (x + 1)
def nx_y (l : List Nat) (a : Nat) : Nat → Option Nat
  | 0 => bif Nat.blt (ls_g l 0) a then none else some 0
  | y + 1 => bif Nat.blt (ls_g l (y + 1)) a then nx_y l a y else some (y + 1)
def nx_r : Nat → List Nat → Nat → Nat → List Nat
  | 0, l, _, _ => l
  | f + 1, l, k, e => bif Nat.blt k e then nx_r f (ls_sw l k e) (k + 1) (e - 1) else l
def jb_nx (n : Nat) (l : List Nat) : Option (List Nat) := match n with
  | 0 => none
  | 1 => none
  | n + 2 => match nx_p l n with
    | none => none
    | some x => match nx_y l (ls_g l x) (n + 1) with
      | none => none
      | some y => some (nx_r 7 (ls_sw l x y) (x + 1) (n + 1))
def ls_eq : List Nat → List Nat → Bool
  | [], [] => true
  | a :: l, c :: r => Nat.beq a c && ls_eq l r
  | _, _ => false
def jb_ck (n : Nat) : List Nat → List (List Nat) → Bool
  | _, [] => true
  | a, c :: t => (match jb_nx n a with
    | none => false
    | some r => ls_eq r c) && jb_ck n c t
def jb_cs (S : Nat) : Bool := match jb_pm (jb_mem S).length (jb_mem S) with
  | [] => false
  | a :: t => ls_eq a (jb_mem S) && jb_ck (jb_mem S).length a t
theorem jb_cs_lo : (List.range 127).all jb_cs = true := by decide +kernel
theorem jb_cs_hi : jb_cs 127 = true := by decide +kernel
