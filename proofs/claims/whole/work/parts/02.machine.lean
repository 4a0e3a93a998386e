/-! THE ABSTRACT MACHINE: cells in a list, refs are places in it; instructions are tuples of numbers (op, a, b, constant, table); read-only things outside the list are `.retAddr j` -/
abbrev ax_C : Type := (FieldType ⊕ Nat) × List Value
abbrev ax_W : Type := List ax_C
abbrev ax_L : Type := List (Nat × Value)
abbrev ax_I : Type := Nat × Nat × Nat × Value × List (Int × Nat)
abbrev ax_R : Type := (Nat × ax_L × List Value × ax_W) ⊕ ((Nat × List Value × List Value) ⊕ Option Value)
abbrev ax_T : Type := List (String × List FieldType)
def ax_bin (b : Nat) (x y : Int32) : Option Int32 := match b with
  | 0 => some (x + y)
  | 1 => some (x - y)
  | 2 => some (x * y)
  | 3 => if y = 0 then none else some (x / y)
  | 4 => if y = 0 then none else some (x - x / y * y)
  | 5 => some (x <<< (y &&& 31))
  | 6 => some (x >>> (y &&& 31))
  | 7 => some ((x.toUInt32 >>> (y.toUInt32 &&& Int32.toUInt32 31)).toInt32)
  | 8 => some (x &&& y)
  | 9 => some (x ||| y)
  | 10 => some (x ^^^ y)
  | _ => none
def ax_un (b : Nat) (x : Int32) : Option Int32 := match b with
  | 0 => some (-x)
  | 1 => some x.toInt8.toInt32
  | 2 => some (x.toUInt32 % 65536).toInt32
  | _ => none
def ax_lbin (b : Nat) (x y : Int64) : Option Int64 := match b with
  | 0 => some (x + y)
  | 1 => some (x * y)
  | _ => none
def ax_cmp (b : Nat) (x y : Int32) : Bool := match b with
  | 0 => decide (x = y)
  | 1 => decide (¬ x = y)
  | 2 => decide (x < y)
  | 3 => decide (y ≤ x)
  | 4 => decide (y < x)
  | _ => decide (x ≤ y)
def ax_st1 (lv : ax_L) (i : Nat) (v : Value) : ax_L := (i, v) :: lv.filter (fun q => !(q.1 == i) && !(q.1 + 1 == i && q.2.category == 2))
def ax_st2 (lv : ax_L) (i : Nat) (v : Value) : ax_L := (i, v) :: lv.filter (fun q => !(q.1 == i) && (!(q.1 == i + 1) && !(q.1 + 1 == i && q.2.category == 2)))
def ax_fit : FieldType → Value → Bool
  | .int, .int _ => true
  | .long, .long _ => true
  | .boolean, .int x => x == 0 || x == 1
  | .object _, .ref _ => true
  | .array _, .ref _ => true
  | _, _ => false
def ax_df : FieldType → Value
  | .long => .long 0
  | .object _ => .null
  | .array _ => .null
  | _ => .int 0
def ax_rty : Nat → FieldType
  | 0 => .int
  | 1 => .boolean
  | 2 => .char
  | _ => .byte
def ax_aty : Nat → FieldType
  | 0 => .int
  | 1 => .long
  | 2 => .byte
  | _ => .boolean
def ax_ti : FieldType → Option Nat
  | .int => some 0
  | .long => some 1
  | .byte => some 2
  | .boolean => some 3
  | .object C => if C = "HeadCloths$State" then some 4 else none
  | _ => none
def ax_ws (st : List Value) : Nat := (st.map fun v => v.category).sum
/-- how many words the callee's arguments take, as the table has it -/
def ax_aw (t : List (Int × Nat)) : Nat := match t with
  | _ :: q :: _ => q.2
  | _ => 0
def ax_s0 (ro : ax_W) (ct : ax_T) (a b : Nat) (v : Value) (t : List (Int × Nat)) (i : Nat) (lv : ax_L) (st : List Value) (w : ax_W) : Option ax_R := some (.inl (i + 1, lv, v :: st, w))
def ax_s1 (ro : ax_W) (ct : ax_T) (a b : Nat) (v : Value) (t : List (Int × Nat)) (i : Nat) (lv : ax_L) (st : List Value) (w : ax_W) : Option ax_R := some (.inl (i + 1, lv, .retAddr b :: st, w))
def ax_s2 (ro : ax_W) (ct : ax_T) (a b : Nat) (v : Value) (t : List (Int × Nat)) (i : Nat) (lv : ax_L) (st : List Value) (w : ax_W) : Option ax_R := (match lv.lookup a with
    | some (.int x) => some (.inl (i + 1, lv, .int x :: st, w))
    | _ => none)
def ax_s3 (ro : ax_W) (ct : ax_T) (a b : Nat) (v : Value) (t : List (Int × Nat)) (i : Nat) (lv : ax_L) (st : List Value) (w : ax_W) : Option ax_R := (match lv.lookup a with
    | some (.ref x) => some (.inl (i + 1, lv, .ref x :: st, w))
    | some (.retAddr x) => if x = 9 then none else some (.inl (i + 1, lv, .retAddr x :: st, w))
    | _ => none)
def ax_s4 (ro : ax_W) (ct : ax_T) (a b : Nat) (v : Value) (t : List (Int × Nat)) (i : Nat) (lv : ax_L) (st : List Value) (w : ax_W) : Option ax_R := (match lv.lookup a with
    | some (.long x) => some (.inl (i + 1, lv, .long x :: st, w))
    | _ => none)
def ax_s5 (ro : ax_W) (ct : ax_T) (a b : Nat) (v : Value) (t : List (Int × Nat)) (i : Nat) (lv : ax_L) (st : List Value) (w : ax_W) : Option ax_R := (match st with
    | .int x :: r => some (.inl (i + 1, ax_st1 lv a (.int x), r, w))
    | _ => none)
def ax_s6 (ro : ax_W) (ct : ax_T) (a b : Nat) (v : Value) (t : List (Int × Nat)) (i : Nat) (lv : ax_L) (st : List Value) (w : ax_W) : Option ax_R := (match st with
    | .ref x :: r => some (.inl (i + 1, ax_st1 lv a (.ref x), r, w))
    | _ => none)
def ax_s7 (ro : ax_W) (ct : ax_T) (a b : Nat) (v : Value) (t : List (Int × Nat)) (i : Nat) (lv : ax_L) (st : List Value) (w : ax_W) : Option ax_R := (match st with
    | .long x :: r => some (.inl (i + 1, ax_st2 lv a (.long x), r, w))
    | _ => none)
def ax_s8 (ro : ax_W) (ct : ax_T) (a b : Nat) (v : Value) (t : List (Int × Nat)) (i : Nat) (lv : ax_L) (st : List Value) (w : ax_W) : Option ax_R := (match v with
    | .int n => (match lv.lookup a with
    | some (.int x) => some (.inl (i + 1, ax_st1 lv a (.int (x + n)), st, w))
    | _ => none)
    | _ => none)
def ax_s9 (ro : ax_W) (ct : ax_T) (a b : Nat) (v : Value) (t : List (Int × Nat)) (i : Nat) (lv : ax_L) (st : List Value) (w : ax_W) : Option ax_R := (match st with
    | .int y :: .int x :: r => (match ax_bin b x y with
      | some z => some (.inl (i + 1, lv, .int z :: r, w))
      | none => none)
    | _ => none)
def ax_s10 (ro : ax_W) (ct : ax_T) (a b : Nat) (v : Value) (t : List (Int × Nat)) (i : Nat) (lv : ax_L) (st : List Value) (w : ax_W) : Option ax_R := (match st with
    | .int x :: r => (match ax_un b x with
      | some z => some (.inl (i + 1, lv, .int z :: r, w))
      | none => none)
    | _ => none)
def ax_s11 (ro : ax_W) (ct : ax_T) (a b : Nat) (v : Value) (t : List (Int × Nat)) (i : Nat) (lv : ax_L) (st : List Value) (w : ax_W) : Option ax_R := (match st with
    | .int x :: r => some (.inl (i + 1, lv, .long x.toInt64 :: r, w))
    | _ => none)
def ax_s12 (ro : ax_W) (ct : ax_T) (a b : Nat) (v : Value) (t : List (Int × Nat)) (i : Nat) (lv : ax_L) (st : List Value) (w : ax_W) : Option ax_R := (match st with
    | .long y :: .long x :: r => (match ax_lbin b x y with
      | some z => some (.inl (i + 1, lv, .long z :: r, w))
      | none => none)
    | _ => none)
def ax_s13 (ro : ax_W) (ct : ax_T) (a b : Nat) (v : Value) (t : List (Int × Nat)) (i : Nat) (lv : ax_L) (st : List Value) (w : ax_W) : Option ax_R := (match st with
    | .long y :: .long x :: r => some (.inl (i + 1, lv, .int (lg_cmp x y) :: r, w))
    | _ => none)
def ax_s14 (ro : ax_W) (ct : ax_T) (a b : Nat) (v : Value) (t : List (Int × Nat)) (i : Nat) (lv : ax_L) (st : List Value) (w : ax_W) : Option ax_R := (match st with
    | v :: r => if v.category = 1 then some (.inl (i + 1, lv, v :: v :: r, w)) else none
    | _ => none)
def ax_s15 (ro : ax_W) (ct : ax_T) (a b : Nat) (v : Value) (t : List (Int × Nat)) (i : Nat) (lv : ax_L) (st : List Value) (w : ax_W) : Option ax_R := (match st with
    | v :: r => if v.category = 1 then some (.inl (i + 1, lv, r, w)) else none
    | _ => none)
def ax_s16 (ro : ax_W) (ct : ax_T) (a b : Nat) (v : Value) (t : List (Int × Nat)) (i : Nat) (lv : ax_L) (st : List Value) (w : ax_W) : Option ax_R := (match st with
    | v :: u :: r => if v.category = 1 ∧ u.category = 1 then some (.inl (i + 1, lv, v :: u :: v :: u :: r, w)) else none
    | _ => none)
def ax_s17 (ro : ax_W) (ct : ax_T) (a b : Nat) (v : Value) (t : List (Int × Nat)) (i : Nat) (lv : ax_L) (st : List Value) (w : ax_W) : Option ax_R := some (.inl (a, lv, st, w))
def ax_s18 (ro : ax_W) (ct : ax_T) (a b : Nat) (v : Value) (t : List (Int × Nat)) (i : Nat) (lv : ax_L) (st : List Value) (w : ax_W) : Option ax_R := (match st with
    | .int y :: .int x :: r => some (.inl (bif ax_cmp b x y then a else i + 1, lv, r, w))
    | _ => none)
def ax_s19 (ro : ax_W) (ct : ax_T) (a b : Nat) (v : Value) (t : List (Int × Nat)) (i : Nat) (lv : ax_L) (st : List Value) (w : ax_W) : Option ax_R := (match st with
    | .int x :: r => some (.inl (bif ax_cmp b x 0 then a else i + 1, lv, r, w))
    | _ => none)
def ax_s20 (ro : ax_W) (ct : ax_T) (a b : Nat) (v : Value) (t : List (Int × Nat)) (i : Nat) (lv : ax_L) (st : List Value) (w : ax_W) : Option ax_R := (match st with
    | .ref _ :: r => some (.inl (i + 1, lv, r, w))
    | _ => none)
def ax_s21 (ro : ax_W) (ct : ax_T) (a b : Nat) (v : Value) (t : List (Int × Nat)) (i : Nat) (lv : ax_L) (st : List Value) (w : ax_W) : Option ax_R := (match st with
    | .ref _ :: r => some (.inl (a, lv, r, w))
    | _ => none)
def ax_s22 (ro : ax_W) (ct : ax_T) (a b : Nat) (v : Value) (t : List (Int × Nat)) (i : Nat) (lv : ax_L) (st : List Value) (w : ax_W) : Option ax_R := (match st with
    | .ref k :: r => (match w[k]? with
      | some (.inr ci, fs) => if ci = a then (match fs[b]? with
        | some v => some (.inl (i + 1, lv, v :: r, w))
        | none => none) else none
      | _ => none)
    | _ => none)
def ax_s23 (ro : ax_W) (ct : ax_T) (a b : Nat) (v : Value) (t : List (Int × Nat)) (i : Nat) (lv : ax_L) (st : List Value) (w : ax_W) : Option ax_R := (match st with
    | v :: .ref k :: r => (match w[k]? with
      | some (.inr ci, fs) => (match ct[ci]? with
        | some (_, ts) => (match ts[b]? with
          | some ty => if ci = a ∧ b < fs.length ∧ ax_fit ty v = true then some (.inl (i + 1, lv, r, w.set k (.inr ci, fs.set b v))) else none
          | none => none)
        | none => none)
      | _ => none)
    | _ => none)
def ax_s24 (ro : ax_W) (ct : ax_T) (a b : Nat) (v : Value) (t : List (Int × Nat)) (i : Nat) (lv : ax_L) (st : List Value) (w : ax_W) : Option ax_R := (match st with
    | .ref k :: r => (match w[k]? with
      | some (.inl ty, vs) => if (ax_ti ty).isSome = true then some (.inl (i + 1, lv, .int (Int32.ofNat vs.length) :: r, w)) else none
      | _ => none)
    | _ => none)
def ax_s25 (ro : ax_W) (ct : ax_T) (a b : Nat) (v : Value) (t : List (Int × Nat)) (i : Nat) (lv : ax_L) (st : List Value) (w : ax_W) : Option ax_R := (match st with
    | .int j :: .ref k :: r => (match w[k]? with
      | some (.inl .int, vs) => if 0 ≤ j ∧ j.toNatClampNeg < vs.length then (match vs[j.toNatClampNeg]? with
        | some (.int x) => some (.inl (i + 1, lv, .int x :: r, w))
        | _ => none) else none
      | _ => none)
    | _ => none)
def ax_s26 (ro : ax_W) (ct : ax_T) (a b : Nat) (v : Value) (t : List (Int × Nat)) (i : Nat) (lv : ax_L) (st : List Value) (w : ax_W) : Option ax_R := (match st with
    | .int j :: .ref k :: r => (match w[k]? with
      | some (.inl .long, vs) => if 0 ≤ j ∧ j.toNatClampNeg < vs.length then (match vs[j.toNatClampNeg]? with
        | some (.long x) => some (.inl (i + 1, lv, .long x :: r, w))
        | _ => none) else none
      | _ => none)
    | _ => none)
def ax_s27 (ro : ax_W) (ct : ax_T) (a b : Nat) (v : Value) (t : List (Int × Nat)) (i : Nat) (lv : ax_L) (st : List Value) (w : ax_W) : Option ax_R := (match st with
    | .int j :: .ref k :: r => (match w[k]? with
      | some (.inl ty, vs) => if (ty = .byte ∨ ty = .boolean) ∧ 0 ≤ j ∧ j.toNatClampNeg < vs.length then (match vs[j.toNatClampNeg]? with
        | some (.int x) => some (.inl (i + 1, lv, .int x :: r, w))
        | _ => none) else none
      | _ => none)
    | _ => none)
def ax_s28 (ro : ax_W) (ct : ax_T) (a b : Nat) (v : Value) (t : List (Int × Nat)) (i : Nat) (lv : ax_L) (st : List Value) (w : ax_W) : Option ax_R := (match st with
    | .int j :: .ref k :: r => (match w[k]? with
      | some (.inl (.object C), vs) => if C = "HeadCloths$State" ∧ 0 ≤ j ∧ j.toNatClampNeg < vs.length then (match vs[j.toNatClampNeg]? with
        | some (.ref x) => some (.inl (i + 1, lv, .ref x :: r, w))
        | _ => none) else none
      | _ => none)
    | _ => none)
def ax_s29 (ro : ax_W) (ct : ax_T) (a b : Nat) (v : Value) (t : List (Int × Nat)) (i : Nat) (lv : ax_L) (st : List Value) (w : ax_W) : Option ax_R := (match st with
    | .int x :: .int j :: .ref k :: r => (match w[k]? with
      | some (.inl .int, vs) => if 0 ≤ j ∧ j.toNatClampNeg < vs.length then some (.inl (i + 1, lv, r, w.set k (.inl .int, vs.set j.toNatClampNeg (.int x)))) else none
      | _ => none)
    | _ => none)
def ax_s30 (ro : ax_W) (ct : ax_T) (a b : Nat) (v : Value) (t : List (Int × Nat)) (i : Nat) (lv : ax_L) (st : List Value) (w : ax_W) : Option ax_R := (match st with
    | .long x :: .int j :: .ref k :: r => (match w[k]? with
      | some (.inl .long, vs) => if 0 ≤ j ∧ j.toNatClampNeg < vs.length then some (.inl (i + 1, lv, r, w.set k (.inl .long, vs.set j.toNatClampNeg (.long x)))) else none
      | _ => none)
    | _ => none)
def ax_s31 (ro : ax_W) (ct : ax_T) (a b : Nat) (v : Value) (t : List (Int × Nat)) (i : Nat) (lv : ax_L) (st : List Value) (w : ax_W) : Option ax_R := (match st with
    | .int x :: .int j :: .ref k :: r => (match w[k]? with
      | some (.inl ty, vs) => if (ty = .byte ∨ ty = .boolean) ∧ 0 ≤ j ∧ j.toNatClampNeg < vs.length then some (.inl (i + 1, lv, r, w.set k (.inl ty, vs.set j.toNatClampNeg (.int (vp_nar ty x))))) else none
      | _ => none)
    | _ => none)
def ax_s32 (ro : ax_W) (ct : ax_T) (a b : Nat) (v : Value) (t : List (Int × Nat)) (i : Nat) (lv : ax_L) (st : List Value) (w : ax_W) : Option ax_R := (match st with
    | .ref x :: .int j :: .ref k :: r => (match w[k]? with
      | some (.inl (.object C), vs) => (match w[x]? with
        | some (.inr ci, _) => (match ct[ci]? with
          | some (C', _) => if C' = C ∧ C = "HeadCloths$State" ∧ 0 ≤ j ∧ j.toNatClampNeg < vs.length then some (.inl (i + 1, lv, r, w.set k (.inl (.object C), vs.set j.toNatClampNeg (.ref x)))) else none
          | none => none)
        | _ => none)
      | _ => none)
    | _ => none)
def ax_s33 (ro : ax_W) (ct : ax_T) (a b : Nat) (v : Value) (t : List (Int × Nat)) (i : Nat) (lv : ax_L) (st : List Value) (w : ax_W) : Option ax_R := (match ct[a]? with
    | some (_, ts) => some (.inl (i + 1, lv, .ref w.length :: st, w ++ [(.inr a, ts.map ax_df)]))
    | none => none)
def ax_s34 (ro : ax_W) (ct : ax_T) (a b : Nat) (v : Value) (t : List (Int × Nat)) (i : Nat) (lv : ax_L) (st : List Value) (w : ax_W) : Option ax_R := (match st with
    | .int n :: r => if 0 ≤ n ∧ n.toNatClampNeg ≤ 60000 then some (.inl (i + 1, lv, .ref w.length :: r, w ++ [(.inl (ax_aty b), List.replicate n.toNatClampNeg (ax_df (ax_aty b)))])) else none
    | _ => none)
def ax_s35 (ro : ax_W) (ct : ax_T) (a b : Nat) (v : Value) (t : List (Int × Nat)) (i : Nat) (lv : ax_L) (st : List Value) (w : ax_W) : Option ax_R := (match st with
    | .int n :: r => if 0 ≤ n ∧ n.toNatClampNeg ≤ 60000 then some (.inl (i + 1, lv, .ref w.length :: r, w ++ [(.inl (.object "HeadCloths$State"), List.replicate n.toNatClampNeg .null)])) else none
    | _ => none)
def ax_s36 (ro : ax_W) (ct : ax_T) (a b : Nat) (v : Value) (t : List (Int × Nat)) (i : Nat) (lv : ax_L) (st : List Value) (w : ax_W) : Option ax_R := (match v with
    | .retAddr ci => (match st.drop b with
    | .ref k :: r => (match w[k]? with
      | some (.inr ci', _) => if ci' = ci ∧ ax_ws r ≤ 8 ∧ ax_ws (.ref k :: (st.take b).reverse) ≤ ax_aw t then some (.inr (.inl (a, .ref k :: (st.take b).reverse, r))) else none
      | _ => none)
    | _ => none)
    | _ => none)
def ax_s37 (ro : ax_W) (ct : ax_T) (a b : Nat) (v : Value) (t : List (Int × Nat)) (i : Nat) (lv : ax_L) (st : List Value) (w : ax_W) : Option ax_R := (match st.drop b with
    | .ref k :: r => if ax_ws r ≤ 8 ∧ ax_ws (.ref k :: (st.take b).reverse) ≤ ax_aw t then some (.inr (.inl (a, .ref k :: (st.take b).reverse, r))) else none
    | _ => none)
def ax_s38 (ro : ax_W) (ct : ax_T) (a b : Nat) (v : Value) (t : List (Int × Nat)) (i : Nat) (lv : ax_L) (st : List Value) (w : ax_W) : Option ax_R := if b ≤ st.length ∧ ax_ws (st.drop b) ≤ 8 ∧ ax_ws (st.take b).reverse ≤ ax_aw t then some (.inr (.inl (a, (st.take b).reverse, st.drop b))) else none
def ax_s39 (ro : ax_W) (ct : ax_T) (a b : Nat) (v : Value) (t : List (Int × Nat)) (i : Nat) (lv : ax_L) (st : List Value) (w : ax_W) : Option ax_R := (match st with
    | .ref _ :: r => if ax_ws r ≤ 8 then some (.inl (i + 1, lv, r, w)) else none
    | _ => none)
def ax_s40 (ro : ax_W) (ct : ax_T) (a b : Nat) (v : Value) (t : List (Int × Nat)) (i : Nat) (lv : ax_L) (st : List Value) (w : ax_W) : Option ax_R := (match st with
    | .int y :: .int x :: r => if ax_ws r ≤ 8 then some (.inl (i + 1, lv, .int (match b with
      | 0 => if x < y then y else x
      | _ => if y < x then y else x) :: r, w)) else none
    | _ => none)
def ax_s41 (ro : ax_W) (ct : ax_T) (a b : Nat) (v : Value) (t : List (Int × Nat)) (i : Nat) (lv : ax_L) (st : List Value) (w : ax_W) : Option ax_R := (match st with
    | .int x :: r => if ax_ws r ≤ 8 then some (.inl (i + 1, lv, .int (if 0 ≤ x then x else 0 - x) :: r, w)) else none
    | _ => none)
def ax_s43 (ro : ax_W) (ct : ax_T) (a b : Nat) (v : Value) (t : List (Int × Nat)) (i : Nat) (lv : ax_L) (st : List Value) (w : ax_W) : Option ax_R := (match st with
    | .int n :: .int dp :: .ref k :: .int sp :: .ref k0 :: r => (match w[k0]? with
      | some (.inl .int, vs) => (match w[k]? with
        | some (.inl .int, us) => if sp = 0 ∧ dp = 0 ∧ 0 ≤ n ∧ n.toNatClampNeg = vs.length ∧ vs.length = us.length ∧ ax_ws r ≤ 8 then some (.inl (i + 1, lv, r, w.set k (.inl .int, vs))) else none
        | _ => none)
      | _ => none)
    | _ => none)
def ax_s44 (ro : ax_W) (ct : ax_T) (a b : Nat) (v : Value) (t : List (Int × Nat)) (i : Nat) (lv : ax_L) (st : List Value) (w : ax_W) : Option ax_R := (match st with
    | [] => some (.inr (.inr none))
    | _ => none)
def ax_s45 (ro : ax_W) (ct : ax_T) (a b : Nat) (v : Value) (t : List (Int × Nat)) (i : Nat) (lv : ax_L) (st : List Value) (w : ax_W) : Option ax_R := (match st with
    | [.int x] => if narrow (ax_rty b) (.int x) = .int x then some (.inr (.inr (some (.int x)))) else none
    | _ => none)
def ax_s46 (ro : ax_W) (ct : ax_T) (a b : Nat) (v : Value) (t : List (Int × Nat)) (i : Nat) (lv : ax_L) (st : List Value) (w : ax_W) : Option ax_R := (match st with
    | [.long x] => some (.inr (.inr (some (.long x))))
    | _ => none)
def ax_s47 (ro : ax_W) (ct : ax_T) (a b : Nat) (v : Value) (t : List (Int × Nat)) (i : Nat) (lv : ax_L) (st : List Value) (w : ax_W) : Option ax_R := (match st with
    | [.ref x] => some (.inr (.inr (some (.ref x))))
    | _ => none)
def ax_s48 (ro : ax_W) (ct : ax_T) (a b : Nat) (v : Value) (t : List (Int × Nat)) (i : Nat) (lv : ax_L) (st : List Value) (w : ax_W) : Option ax_R := (match st with
    | .int x :: r => some (.inl ((t.lookup x.toInt).getD a, lv, r, w))
    | _ => none)
def ax_s49 (ro : ax_W) (ct : ax_T) (a b : Nat) (v : Value) (t : List (Int × Nat)) (i : Nat) (lv : ax_L) (st : List Value) (w : ax_W) : Option ax_R := some (.inl (i + 1, lv, v :: st, w))
def ax_s50 (ro : ax_W) (ct : ax_T) (a b : Nat) (v : Value) (t : List (Int × Nat)) (i : Nat) (lv : ax_L) (st : List Value) (w : ax_W) : Option ax_R := (match st with
    | .retAddr j :: r => (match ro[j]? with
      | some (.inr _, vs) => (match vs[b]? with
        | some v => some (.inl (i + 1, lv, v :: r, w))
        | none => none)
      | _ => none)
    | _ => none)
def ax_s51 (ro : ax_W) (ct : ax_T) (a b : Nat) (v : Value) (t : List (Int × Nat)) (i : Nat) (lv : ax_L) (st : List Value) (w : ax_W) : Option ax_R := (match st with
    | .retAddr j :: r => (match ro[j]? with
      | some (.inl ty, vs) => if ty = .int ∨ ty = .byte then some (.inl (i + 1, lv, .int (Int32.ofNat vs.length) :: r, w)) else none
      | _ => none)
    | _ => none)
def ax_s52 (ro : ax_W) (ct : ax_T) (a b : Nat) (v : Value) (t : List (Int × Nat)) (i : Nat) (lv : ax_L) (st : List Value) (w : ax_W) : Option ax_R := (match st with
    | .int q :: .retAddr j :: r => (match ro[j]? with
      | some (.inl .int, vs) => if 0 ≤ q ∧ q.toNatClampNeg < vs.length then (match vs[q.toNatClampNeg]? with
        | some (.int x) => some (.inl (i + 1, lv, .int x :: r, w))
        | _ => none) else none
      | _ => none)
    | _ => none)
def ax_s53 (ro : ax_W) (ct : ax_T) (a b : Nat) (v : Value) (t : List (Int × Nat)) (i : Nat) (lv : ax_L) (st : List Value) (w : ax_W) : Option ax_R := (match st with
    | .int q :: .retAddr j :: r => (match ro[j]? with
      | some (.inl .byte, vs) => if 0 ≤ q ∧ q.toNatClampNeg < vs.length then (match vs[q.toNatClampNeg]? with
        | some (.int x) => some (.inl (i + 1, lv, .int x :: r, w))
        | _ => none) else none
      | _ => none)
    | _ => none)
def ax_s54 (ro : ax_W) (ct : ax_T) (a b : Nat) (v : Value) (t : List (Int × Nat)) (i : Nat) (lv : ax_L) (st : List Value) (w : ax_W) : Option ax_R := (match st.drop b with
    | .retAddr j :: r => (match ro[j]? with
      | some (.inr _, _) => if ax_ws r ≤ 8 ∧ ax_ws (.retAddr j :: (st.take b).reverse) ≤ ax_aw t then some (.inr (.inl (a, .retAddr j :: (st.take b).reverse, r))) else none
      | _ => none)
    | _ => none)
def ax_s55 (ro : ax_W) (ct : ax_T) (a b : Nat) (v : Value) (t : List (Int × Nat)) (i : Nat) (lv : ax_L) (st : List Value) (w : ax_W) : Option ax_R := (match st.drop b with
    | .ref k :: r => if ax_ws r ≤ 8 ∧ ax_ws (.ref k :: (st.take b).reverse) ≤ ax_aw t then some (.inr (.inl (a, .ref k :: (st.take b).reverse, r))) else none
    | _ => none)
def ax_s56 (ro : ax_W) (ct : ax_T) (a b : Nat) (v : Value) (t : List (Int × Nat)) (i : Nat) (lv : ax_L) (st : List Value) (w : ax_W) : Option ax_R := (match st with
    | .ref k :: r => (match w[k]? with
      | some (.inr ci, fs) => if ci = a then (match fs[b]? with
        | some v => some (.inl (i + 1, lv, v :: r, w))
        | none => none) else none
      | _ => none)
    | _ => none)
def ax_stp (ro : ax_W) (ct : ax_T) (ai : ax_I) (i : Nat) (lv : ax_L) (st : List Value) (w : ax_W) : Option ax_R :=
  match ai with
  | (0, a, b, v, t) => ax_s0 ro ct a b v t i lv st w
  | (1, a, b, v, t) => ax_s1 ro ct a b v t i lv st w
  | (2, a, b, v, t) => ax_s2 ro ct a b v t i lv st w
  | (3, a, b, v, t) => ax_s3 ro ct a b v t i lv st w
  | (4, a, b, v, t) => ax_s4 ro ct a b v t i lv st w
  | (5, a, b, v, t) => ax_s5 ro ct a b v t i lv st w
  | (6, a, b, v, t) => ax_s6 ro ct a b v t i lv st w
  | (7, a, b, v, t) => ax_s7 ro ct a b v t i lv st w
  | (8, a, b, v, t) => ax_s8 ro ct a b v t i lv st w
  | (9, a, b, v, t) => ax_s9 ro ct a b v t i lv st w
  | (10, a, b, v, t) => ax_s10 ro ct a b v t i lv st w
  | (11, a, b, v, t) => ax_s11 ro ct a b v t i lv st w
  | (12, a, b, v, t) => ax_s12 ro ct a b v t i lv st w
  | (13, a, b, v, t) => ax_s13 ro ct a b v t i lv st w
  | (14, a, b, v, t) => ax_s14 ro ct a b v t i lv st w
  | (15, a, b, v, t) => ax_s15 ro ct a b v t i lv st w
  | (16, a, b, v, t) => ax_s16 ro ct a b v t i lv st w
  | (17, a, b, v, t) => ax_s17 ro ct a b v t i lv st w
  | (18, a, b, v, t) => ax_s18 ro ct a b v t i lv st w
  | (19, a, b, v, t) => ax_s19 ro ct a b v t i lv st w
  | (20, a, b, v, t) => ax_s20 ro ct a b v t i lv st w
  | (21, a, b, v, t) => ax_s21 ro ct a b v t i lv st w
  | (22, a, b, v, t) => ax_s22 ro ct a b v t i lv st w
  | (23, a, b, v, t) => ax_s23 ro ct a b v t i lv st w
  | (24, a, b, v, t) => ax_s24 ro ct a b v t i lv st w
  | (25, a, b, v, t) => ax_s25 ro ct a b v t i lv st w
  | (26, a, b, v, t) => ax_s26 ro ct a b v t i lv st w
  | (27, a, b, v, t) => ax_s27 ro ct a b v t i lv st w
  | (28, a, b, v, t) => ax_s28 ro ct a b v t i lv st w
  | (29, a, b, v, t) => ax_s29 ro ct a b v t i lv st w
  | (30, a, b, v, t) => ax_s30 ro ct a b v t i lv st w
  | (31, a, b, v, t) => ax_s31 ro ct a b v t i lv st w
  | (32, a, b, v, t) => ax_s32 ro ct a b v t i lv st w
  | (33, a, b, v, t) => ax_s33 ro ct a b v t i lv st w
  | (34, a, b, v, t) => ax_s34 ro ct a b v t i lv st w
  | (35, a, b, v, t) => ax_s35 ro ct a b v t i lv st w
  | (36, a, b, v, t) => ax_s36 ro ct a b v t i lv st w
  | (37, a, b, v, t) => ax_s37 ro ct a b v t i lv st w
  | (38, a, b, v, t) => ax_s38 ro ct a b v t i lv st w
  | (39, a, b, v, t) => ax_s39 ro ct a b v t i lv st w
  | (40, a, b, v, t) => ax_s40 ro ct a b v t i lv st w
  | (41, a, b, v, t) => ax_s41 ro ct a b v t i lv st w
  | (43, a, b, v, t) => ax_s43 ro ct a b v t i lv st w
  | (44, a, b, v, t) => ax_s44 ro ct a b v t i lv st w
  | (45, a, b, v, t) => ax_s45 ro ct a b v t i lv st w
  | (46, a, b, v, t) => ax_s46 ro ct a b v t i lv st w
  | (47, a, b, v, t) => ax_s47 ro ct a b v t i lv st w
  | (48, a, b, v, t) => ax_s48 ro ct a b v t i lv st w
  | (49, a, b, v, t) => ax_s49 ro ct a b v t i lv st w
  | (50, a, b, v, t) => ax_s50 ro ct a b v t i lv st w
  | (51, a, b, v, t) => ax_s51 ro ct a b v t i lv st w
  | (52, a, b, v, t) => ax_s52 ro ct a b v t i lv st w
  | (53, a, b, v, t) => ax_s53 ro ct a b v t i lv st w
  | (54, a, b, v, t) => ax_s54 ro ct a b v t i lv st w
  | (55, a, b, v, t) => ax_s55 ro ct a b v t i lv st w
  | (56, a, b, v, t) => ax_s56 ro ct a b v t i lv st w
  | _ => none
def ax_ex (ro : ax_W) (ct : ax_T) (pg : Nat → List ax_I) : Nat → Nat → List ax_I → Nat → ax_L → List Value → ax_W → Option (Option Value × ax_W)
  | 0, _, _, _, _, _, _ => none
  | n + 1, d, cd, i, lv, st, w =>
    match cd[i]? with
    | none => none
    | some ai =>
      match ax_stp ro ct ai i lv st w with
      | none => none
      | some (.inl q) => ax_ex ro ct pg n d cd q.1 q.2.1 q.2.2.1 q.2.2.2
      | some (.inr (.inl q)) =>
        match d with
        | 0 => none
        | d' + 1 =>
          match ax_ex ro ct pg n d' (pg q.1) 0 (lv_args 0 q.2.1) [] w with
          | none => none
          | some r => ax_ex ro ct pg n (d' + 1) cd (i + 1) lv (r.1.toList ++ q.2.2) r.2
      | some (.inr (.inr v)) => some (v, w)
/-- the slots of a world -/
def ax_sl (w : ax_W) : Nat := (w.map fun c => c.2.length).sum
