/-! THE CHECKER: a method's table against its bytes and against the words -/
abbrev ax_M : Type := MethodName × ByteArray × Nat × Option FieldType × Nat × List Cond × List Nat × List ax_I
def ax_tp (pcs : List Nat) (a : Nat) : Int := (pcs.getD a 0 : Nat)
def ax_ic (b : Nat) (off : Int) : Instr × Nat := match b with
  | 0 => (.if_icmp .eq off, 3)
  | 1 => (.if_icmp .ne off, 3)
  | 2 => (.if_icmp .lt off, 3)
  | 3 => (.if_icmp .ge off, 3)
  | 4 => (.if_icmp .gt off, 3)
  | _ => (.if_icmp .le off, 3)
def ax_if (b : Nat) (off : Int) : Instr × Nat := match b with
  | 0 => (.ifCond .eq off, 3)
  | 1 => (.ifCond .ne off, 3)
  | 2 => (.ifCond .lt off, 3)
  | 3 => (.ifCond .ge off, 3)
  | 4 => (.ifCond .gt off, 3)
  | _ => (.ifCond .le off, 3)
def ax_m0 (cl : List vw_C) (mt : List ax_M) (NW : List Cond) (own nm : String) (ret : Option FieldType) (nL : Nat) (lk : List Cond) (pcs : List Nat) (pc : Nat) (nx : Bool) (a b : Nat) (v : Value) (t : List (Int × Nat)) (q : Instr × Nat) : Bool := match b, t with
  | 0, [(n, _)] => nx && decide (q = (.iconst n, 1)) && decide (v = .int (Int32.ofInt n))
  | 1, [(n, _)] => nx && decide (q = (.bipush n, 2)) && decide (v = .int (Int8.ofInt n).toInt32)
  | 2, [(n, _)] => nx && decide (q = (.sipush n, 3)) && decide (v = .int (Int16.ofInt n).toInt32)
  | 3, _ => nx && decide (q = (.lconst 0, 1)) && decide (v = .long 0)
  | 4, [(n, r)] => nx && decide (q = (.ldc n.toNat, 2)) && (match v with
    | .int x => decide (lk[r]? = some (.constant own n.toNat x))
    | _ => false)
  | 5, [(n, r)] => nx && decide (q = (.ldc_w n.toNat, 3)) && (match v with
    | .int x => decide (lk[r]? = some (.constant own n.toNat x))
    | _ => false)
  | 6, [(n, r)] => nx && decide (q = (.ldc2_w n.toNat, 3)) && (match v with
    | .long x => decide (lk[r]? = some (.constantLong own n.toNat x))
    | _ => false)
  | _, _ => false
def ax_m1 (cl : List vw_C) (mt : List ax_M) (NW : List Cond) (own nm : String) (ret : Option FieldType) (nL : Nat) (lk : List Cond) (pcs : List Nat) (pc : Nat) (nx : Bool) (a b : Nat) (v : Value) (t : List (Int × Nat)) (q : Instr × Nat) : Bool := nx && decide (own = "HeadCloths$Tokens") && (match b with
  | 1 => decide (q = (.ldc 39, 2))
  | 3 => decide (q = (.ldc 84, 2))
  | _ => false)
def ax_m2 (cl : List vw_C) (mt : List ax_M) (NW : List Cond) (own nm : String) (ret : Option FieldType) (nL : Nat) (lk : List Cond) (pcs : List Nat) (pc : Nat) (nx : Bool) (a b : Nat) (v : Value) (t : List (Int × Nat)) (q : Instr × Nat) : Bool := nx && (match a with
  | 0 => decide (q = (.iload_n 0, 1))
  | 1 => decide (q = (.iload_n 1, 1))
  | 2 => decide (q = (.iload_n 2, 1))
  | 3 => decide (q = (.iload_n 3, 1))
  | _ => decide (q = (.iload a, 2)))
def ax_m3 (cl : List vw_C) (mt : List ax_M) (NW : List Cond) (own nm : String) (ret : Option FieldType) (nL : Nat) (lk : List Cond) (pcs : List Nat) (pc : Nat) (nx : Bool) (a b : Nat) (v : Value) (t : List (Int × Nat)) (q : Instr × Nat) : Bool := nx && (match a with
  | 0 => decide (q = (.aload_n 0, 1))
  | 1 => decide (q = (.aload_n 1, 1))
  | 2 => decide (q = (.aload_n 2, 1))
  | 3 => decide (q = (.aload_n 3, 1))
  | _ => decide (q = (.aload a, 2)))
def ax_m4 (cl : List vw_C) (mt : List ax_M) (NW : List Cond) (own nm : String) (ret : Option FieldType) (nL : Nat) (lk : List Cond) (pcs : List Nat) (pc : Nat) (nx : Bool) (a b : Nat) (v : Value) (t : List (Int × Nat)) (q : Instr × Nat) : Bool := nx && (match a with
  | 0 => decide (q = (.lload_n 0, 1))
  | 1 => decide (q = (.lload_n 1, 1))
  | 2 => decide (q = (.lload_n 2, 1))
  | 3 => decide (q = (.lload_n 3, 1))
  | _ => decide (q = (.lload a, 2)))
def ax_m5 (cl : List vw_C) (mt : List ax_M) (NW : List Cond) (own nm : String) (ret : Option FieldType) (nL : Nat) (lk : List Cond) (pcs : List Nat) (pc : Nat) (nx : Bool) (a b : Nat) (v : Value) (t : List (Int × Nat)) (q : Instr × Nat) : Bool := nx && decide (a < nL) && (match a with
  | 0 => decide (q = (.istore_n 0, 1))
  | 1 => decide (q = (.istore_n 1, 1))
  | 2 => decide (q = (.istore_n 2, 1))
  | 3 => decide (q = (.istore_n 3, 1))
  | _ => decide (q = (.istore a, 2)))
def ax_m6 (cl : List vw_C) (mt : List ax_M) (NW : List Cond) (own nm : String) (ret : Option FieldType) (nL : Nat) (lk : List Cond) (pcs : List Nat) (pc : Nat) (nx : Bool) (a b : Nat) (v : Value) (t : List (Int × Nat)) (q : Instr × Nat) : Bool := nx && decide (a < nL) && (match a with
  | 0 => decide (q = (.astore_n 0, 1))
  | 1 => decide (q = (.astore_n 1, 1))
  | 2 => decide (q = (.astore_n 2, 1))
  | 3 => decide (q = (.astore_n 3, 1))
  | _ => decide (q = (.astore a, 2)))
def ax_m7 (cl : List vw_C) (mt : List ax_M) (NW : List Cond) (own nm : String) (ret : Option FieldType) (nL : Nat) (lk : List Cond) (pcs : List Nat) (pc : Nat) (nx : Bool) (a b : Nat) (v : Value) (t : List (Int × Nat)) (q : Instr × Nat) : Bool := nx && decide (a + 1 < nL) && (match a with
  | 0 => decide (q = (.lstore_n 0, 1))
  | 1 => decide (q = (.lstore_n 1, 1))
  | 2 => decide (q = (.lstore_n 2, 1))
  | 3 => decide (q = (.lstore_n 3, 1))
  | _ => decide (q = (.lstore a, 2)))
def ax_m8 (cl : List vw_C) (mt : List ax_M) (NW : List Cond) (own nm : String) (ret : Option FieldType) (nL : Nat) (lk : List Cond) (pcs : List Nat) (pc : Nat) (nx : Bool) (a b : Nat) (v : Value) (t : List (Int × Nat)) (q : Instr × Nat) : Bool := (match t with
  | [(n, _)] => nx && decide (a < nL) && decide (q = (.iinc a n, 3)) && decide (v = .int (Int32.ofInt n))
  | _ => false)
def ax_m9 (cl : List vw_C) (mt : List ax_M) (NW : List Cond) (own nm : String) (ret : Option FieldType) (nL : Nat) (lk : List Cond) (pcs : List Nat) (pc : Nat) (nx : Bool) (a b : Nat) (v : Value) (t : List (Int × Nat)) (q : Instr × Nat) : Bool := nx && (match b with
  | 0 => decide (q = (.iadd, 1))
  | 1 => decide (q = (.isub, 1))
  | 2 => decide (q = (.imul, 1))
  | 3 => decide (q = (.idiv, 1))
  | 4 => decide (q = (.irem, 1))
  | 5 => decide (q = (.ishl, 1))
  | 6 => decide (q = (.ishr, 1))
  | 7 => decide (q = (.iushr, 1))
  | 8 => decide (q = (.iand, 1))
  | 9 => decide (q = (.ior, 1))
  | 10 => decide (q = (.ixor, 1))
  | _ => false)
def ax_m10 (cl : List vw_C) (mt : List ax_M) (NW : List Cond) (own nm : String) (ret : Option FieldType) (nL : Nat) (lk : List Cond) (pcs : List Nat) (pc : Nat) (nx : Bool) (a b : Nat) (v : Value) (t : List (Int × Nat)) (q : Instr × Nat) : Bool := nx && (match b with
  | 0 => decide (q = (.ineg, 1))
  | 1 => decide (q = (.i2b, 1))
  | 2 => decide (q = (.i2c, 1))
  | _ => false)
def ax_m11 (cl : List vw_C) (mt : List ax_M) (NW : List Cond) (own nm : String) (ret : Option FieldType) (nL : Nat) (lk : List Cond) (pcs : List Nat) (pc : Nat) (nx : Bool) (a b : Nat) (v : Value) (t : List (Int × Nat)) (q : Instr × Nat) : Bool := nx && decide (q = (.i2l, 1))
def ax_m12 (cl : List vw_C) (mt : List ax_M) (NW : List Cond) (own nm : String) (ret : Option FieldType) (nL : Nat) (lk : List Cond) (pcs : List Nat) (pc : Nat) (nx : Bool) (a b : Nat) (v : Value) (t : List (Int × Nat)) (q : Instr × Nat) : Bool := nx && (match b with
  | 0 => decide (q = (.ladd, 1))
  | 1 => decide (q = (.lmul, 1))
  | _ => false)
def ax_m13 (cl : List vw_C) (mt : List ax_M) (NW : List Cond) (own nm : String) (ret : Option FieldType) (nL : Nat) (lk : List Cond) (pcs : List Nat) (pc : Nat) (nx : Bool) (a b : Nat) (v : Value) (t : List (Int × Nat)) (q : Instr × Nat) : Bool := nx && decide (q = (.lcmp, 1))
def ax_m14 (cl : List vw_C) (mt : List ax_M) (NW : List Cond) (own nm : String) (ret : Option FieldType) (nL : Nat) (lk : List Cond) (pcs : List Nat) (pc : Nat) (nx : Bool) (a b : Nat) (v : Value) (t : List (Int × Nat)) (q : Instr × Nat) : Bool := nx && decide (q = (.dup, 1))
def ax_m15 (cl : List vw_C) (mt : List ax_M) (NW : List Cond) (own nm : String) (ret : Option FieldType) (nL : Nat) (lk : List Cond) (pcs : List Nat) (pc : Nat) (nx : Bool) (a b : Nat) (v : Value) (t : List (Int × Nat)) (q : Instr × Nat) : Bool := nx && decide (q = (.pop, 1))
def ax_m16 (cl : List vw_C) (mt : List ax_M) (NW : List Cond) (own nm : String) (ret : Option FieldType) (nL : Nat) (lk : List Cond) (pcs : List Nat) (pc : Nat) (nx : Bool) (a b : Nat) (v : Value) (t : List (Int × Nat)) (q : Instr × Nat) : Bool := nx && decide (q = (.dup2, 1))
def ax_m17 (cl : List vw_C) (mt : List ax_M) (NW : List Cond) (own nm : String) (ret : Option FieldType) (nL : Nat) (lk : List Cond) (pcs : List Nat) (pc : Nat) (nx : Bool) (a b : Nat) (v : Value) (t : List (Int × Nat)) (q : Instr × Nat) : Bool := decide (a < pcs.length) && decide (q = (.goto (ax_tp pcs a - (pc : Int)), 3))
def ax_m18 (cl : List vw_C) (mt : List ax_M) (NW : List Cond) (own nm : String) (ret : Option FieldType) (nL : Nat) (lk : List Cond) (pcs : List Nat) (pc : Nat) (nx : Bool) (a b : Nat) (v : Value) (t : List (Int × Nat)) (q : Instr × Nat) : Bool := nx && decide (a < pcs.length) && decide (q = ax_ic b (ax_tp pcs a - (pc : Int)))
def ax_m19 (cl : List vw_C) (mt : List ax_M) (NW : List Cond) (own nm : String) (ret : Option FieldType) (nL : Nat) (lk : List Cond) (pcs : List Nat) (pc : Nat) (nx : Bool) (a b : Nat) (v : Value) (t : List (Int × Nat)) (q : Instr × Nat) : Bool := nx && decide (a < pcs.length) && decide (q = ax_if b (ax_tp pcs a - (pc : Int)))
def ax_m20 (cl : List vw_C) (mt : List ax_M) (NW : List Cond) (own nm : String) (ret : Option FieldType) (nL : Nat) (lk : List Cond) (pcs : List Nat) (pc : Nat) (nx : Bool) (a b : Nat) (v : Value) (t : List (Int × Nat)) (q : Instr × Nat) : Bool := nx && decide (q = (.ifnull (ax_tp pcs a - (pc : Int)), 3))
def ax_m21 (cl : List vw_C) (mt : List ax_M) (NW : List Cond) (own nm : String) (ret : Option FieldType) (nL : Nat) (lk : List Cond) (pcs : List Nat) (pc : Nat) (nx : Bool) (a b : Nat) (v : Value) (t : List (Int × Nat)) (q : Instr × Nat) : Bool := decide (a < pcs.length) && decide (q = (.ifnonnull (ax_tp pcs a - (pc : Int)), 3))
def ax_m22 (cl : List vw_C) (mt : List ax_M) (NW : List Cond) (own nm : String) (ret : Option FieldType) (nL : Nat) (lk : List Cond) (pcs : List Nat) (pc : Nat) (nx : Bool) (a b : Nat) (v : Value) (t : List (Int × Nat)) (q : Instr × Nat) : Bool := (match t, cl[a]? with
  | [(n, r)], some k => nx && decide (q = (.getfield n.toNat, 3)) && decide (b < k.2.2) && decide (lk[r]? = some (.fieldLink own n.toNat (k.2.1 b).1 (k.2.1 b).2.1 (k.2.1 b).2.2.1))
  | _, _ => false)
def ax_m23 (cl : List vw_C) (mt : List ax_M) (NW : List Cond) (own nm : String) (ret : Option FieldType) (nL : Nat) (lk : List Cond) (pcs : List Nat) (pc : Nat) (nx : Bool) (a b : Nat) (v : Value) (t : List (Int × Nat)) (q : Instr × Nat) : Bool := (match t, cl[a]? with
  | [(n, r)], some k => nx && decide (q = (.putfield n.toNat, 3)) && decide (b < k.2.2) && decide (lk[r]? = some (.fieldLink own n.toNat (k.2.1 b).1 (k.2.1 b).2.1 (k.2.1 b).2.2.1)) && (decide ((k.2.1 b).2.2.2 = false) || (decide ((k.2.1 b).2.2.2 = true) && decide (nm = "<init>") && decide ((k.2.1 b).1 = own)))
  | _, _ => false)
def ax_m24 (cl : List vw_C) (mt : List ax_M) (NW : List Cond) (own nm : String) (ret : Option FieldType) (nL : Nat) (lk : List Cond) (pcs : List Nat) (pc : Nat) (nx : Bool) (a b : Nat) (v : Value) (t : List (Int × Nat)) (q : Instr × Nat) : Bool := nx && decide (q = (.arraylength, 1))
def ax_m25 (cl : List vw_C) (mt : List ax_M) (NW : List Cond) (own nm : String) (ret : Option FieldType) (nL : Nat) (lk : List Cond) (pcs : List Nat) (pc : Nat) (nx : Bool) (a b : Nat) (v : Value) (t : List (Int × Nat)) (q : Instr × Nat) : Bool := nx && decide (q = (.iaload, 1))
def ax_m26 (cl : List vw_C) (mt : List ax_M) (NW : List Cond) (own nm : String) (ret : Option FieldType) (nL : Nat) (lk : List Cond) (pcs : List Nat) (pc : Nat) (nx : Bool) (a b : Nat) (v : Value) (t : List (Int × Nat)) (q : Instr × Nat) : Bool := nx && decide (q = (.laload, 1))
def ax_m27 (cl : List vw_C) (mt : List ax_M) (NW : List Cond) (own nm : String) (ret : Option FieldType) (nL : Nat) (lk : List Cond) (pcs : List Nat) (pc : Nat) (nx : Bool) (a b : Nat) (v : Value) (t : List (Int × Nat)) (q : Instr × Nat) : Bool := nx && decide (q = (.baload, 1))
def ax_m28 (cl : List vw_C) (mt : List ax_M) (NW : List Cond) (own nm : String) (ret : Option FieldType) (nL : Nat) (lk : List Cond) (pcs : List Nat) (pc : Nat) (nx : Bool) (a b : Nat) (v : Value) (t : List (Int × Nat)) (q : Instr × Nat) : Bool := nx && decide (q = (.aaload, 1))
def ax_m29 (cl : List vw_C) (mt : List ax_M) (NW : List Cond) (own nm : String) (ret : Option FieldType) (nL : Nat) (lk : List Cond) (pcs : List Nat) (pc : Nat) (nx : Bool) (a b : Nat) (v : Value) (t : List (Int × Nat)) (q : Instr × Nat) : Bool := nx && decide (q = (.iastore, 1))
def ax_m30 (cl : List vw_C) (mt : List ax_M) (NW : List Cond) (own nm : String) (ret : Option FieldType) (nL : Nat) (lk : List Cond) (pcs : List Nat) (pc : Nat) (nx : Bool) (a b : Nat) (v : Value) (t : List (Int × Nat)) (q : Instr × Nat) : Bool := nx && decide (q = (.lastore, 1))
def ax_m31 (cl : List vw_C) (mt : List ax_M) (NW : List Cond) (own nm : String) (ret : Option FieldType) (nL : Nat) (lk : List Cond) (pcs : List Nat) (pc : Nat) (nx : Bool) (a b : Nat) (v : Value) (t : List (Int × Nat)) (q : Instr × Nat) : Bool := nx && decide (q = (.bastore, 1))
def ax_m32 (cl : List vw_C) (mt : List ax_M) (NW : List Cond) (own nm : String) (ret : Option FieldType) (nL : Nat) (lk : List Cond) (pcs : List Nat) (pc : Nat) (nx : Bool) (a b : Nat) (v : Value) (t : List (Int × Nat)) (q : Instr × Nat) : Bool := nx && decide (q = (.aastore, 1))
def ax_m33 (cl : List vw_C) (mt : List ax_M) (NW : List Cond) (own nm : String) (ret : Option FieldType) (nL : Nat) (lk : List Cond) (pcs : List Nat) (pc : Nat) (nx : Bool) (a b : Nat) (v : Value) (t : List (Int × Nat)) (q : Instr × Nat) : Bool := (match t, cl[a]? with
  | [(n, r)], some k => nx && decide (q = (.new n.toNat, 3)) && decide (lk[r]? = some (.classLink own n.toNat k.1))
  | _, _ => false)
def ax_m34 (cl : List vw_C) (mt : List ax_M) (NW : List Cond) (own nm : String) (ret : Option FieldType) (nL : Nat) (lk : List Cond) (pcs : List Nat) (pc : Nat) (nx : Bool) (a b : Nat) (v : Value) (t : List (Int × Nat)) (q : Instr × Nat) : Bool := nx && (match b with
  | 0 => decide (q = (.newarray .int, 2))
  | 1 => decide (q = (.newarray .long, 2))
  | 2 => decide (q = (.newarray .byte, 2))
  | 3 => decide (q = (.newarray .boolean, 2))
  | _ => false)
def ax_m35 (cl : List vw_C) (mt : List ax_M) (NW : List Cond) (own nm : String) (ret : Option FieldType) (nL : Nat) (lk : List Cond) (pcs : List Nat) (pc : Nat) (nx : Bool) (a b : Nat) (v : Value) (t : List (Int × Nat)) (q : Instr × Nat) : Bool := (match t with
  | [(n, r)] => nx && decide (q = (.anewarray n.toNat, 3)) && decide (lk[r]? = some (.classLink own n.toNat "HeadCloths$State"))
  | _ => false)
def ax_m36 (cl : List vw_C) (mt : List ax_M) (NW : List Cond) (own nm : String) (ret : Option FieldType) (nL : Nat) (lk : List Cond) (pcs : List Nat) (pc : Nat) (nx : Bool) (a b : Nat) (v : Value) (t : List (Int × Nat)) (q : Instr × Nat) : Bool := (match t, mt[a]?, v with
  | (n, r) :: (_, aw) :: _, some M, .retAddr ci => nx && decide (q = (.invokevirtual n.toNat, 3)) && decide (M.2.2.2.2.1 = b + 100) && decide (b < 100) && decide (aw ≤ M.2.2.1) && decide (lk[r]? = some (.methodLink own n.toNat M.1)) && decide (cl[ci]?.map (fun k => k.1) = some M.1.cls)
  | _, _, _ => false)
def ax_m37 (cl : List vw_C) (mt : List ax_M) (NW : List Cond) (own nm : String) (ret : Option FieldType) (nL : Nat) (lk : List Cond) (pcs : List Nat) (pc : Nat) (nx : Bool) (a b : Nat) (v : Value) (t : List (Int × Nat)) (q : Instr × Nat) : Bool := (match t, mt[a]? with
  | (n, r) :: (_, aw) :: _, some M => nx && decide (q = (.invokespecial n.toNat, 3)) && decide (M.2.2.2.2.1 = b + 200) && decide (b < 100) && decide (aw ≤ M.2.2.1) && decide (lk[r]? = some (.methodLink own n.toNat M.1)) && decide (M.1.name = "<init>") && decide (M.2.2.2.1 = none)
  | _, _ => false)
def ax_m38 (cl : List vw_C) (mt : List ax_M) (NW : List Cond) (own nm : String) (ret : Option FieldType) (nL : Nat) (lk : List Cond) (pcs : List Nat) (pc : Nat) (nx : Bool) (a b : Nat) (v : Value) (t : List (Int × Nat)) (q : Instr × Nat) : Bool := (match t, mt[a]? with
  | (n, r) :: (_, aw) :: _, some M => nx && decide (q = (.invokestatic n.toNat, 3)) && decide (M.2.2.2.2.1 = b + 0) && decide (b < 100) && decide (aw ≤ M.2.2.1) && decide (lk[r]? = some (.methodLink own n.toNat M.1))
  | _, _ => false)
def ax_m39 (cl : List vw_C) (mt : List ax_M) (NW : List Cond) (own nm : String) (ret : Option FieldType) (nL : Nat) (lk : List Cond) (pcs : List Nat) (pc : Nat) (nx : Bool) (a b : Nat) (v : Value) (t : List (Int × Nat)) (q : Instr × Nat) : Bool := (match t with
  | [(n, r)] => nx && decide (q = (.invokespecial n.toNat, 3)) && decide (lk[r]? = some (.methodLink own n.toNat objectInit))
  | _ => false)
def ax_m40 (cl : List vw_C) (mt : List ax_M) (NW : List Cond) (own nm : String) (ret : Option FieldType) (nL : Nat) (lk : List Cond) (pcs : List Nat) (pc : Nat) (nx : Bool) (a b : Nat) (v : Value) (t : List (Int × Nat)) (q : Instr × Nat) : Bool := (match t, b with
  | [(n, r)], 0 => nx && decide (q = (.invokestatic n.toNat, 3)) && decide (lk[r]? = some (.methodLink own n.toNat Lib.Math.max.name))
  | [(n, r)], 1 => nx && decide (q = (.invokestatic n.toNat, 3)) && decide (lk[r]? = some (.methodLink own n.toNat Lib.Math.min.name))
  | _, _ => false)
def ax_m41 (cl : List vw_C) (mt : List ax_M) (NW : List Cond) (own nm : String) (ret : Option FieldType) (nL : Nat) (lk : List Cond) (pcs : List Nat) (pc : Nat) (nx : Bool) (a b : Nat) (v : Value) (t : List (Int × Nat)) (q : Instr × Nat) : Bool := (match t with
  | [(n, r)] => nx && decide (q = (.invokestatic n.toNat, 3)) && decide (lk[r]? = some (.methodLink own n.toNat Lib.Math.abs.name))
  | _ => false)
def ax_m42 (cl : List vw_C) (mt : List ax_M) (NW : List Cond) (own nm : String) (ret : Option FieldType) (nL : Nat) (lk : List Cond) (pcs : List Nat) (pc : Nat) (nx : Bool) (a b : Nat) (v : Value) (t : List (Int × Nat)) (q : Instr × Nat) : Bool := true
def ax_m43 (cl : List vw_C) (mt : List ax_M) (NW : List Cond) (own nm : String) (ret : Option FieldType) (nL : Nat) (lk : List Cond) (pcs : List Nat) (pc : Nat) (nx : Bool) (a b : Nat) (v : Value) (t : List (Int × Nat)) (q : Instr × Nat) : Bool := (match t with
  | [(n, r)] => nx && decide (q = (.invokestatic n.toNat, 3)) && decide (lk[r]? = some (.methodLink own n.toNat arraycopyName))
  | _ => false)
def ax_m44 (cl : List vw_C) (mt : List ax_M) (NW : List Cond) (own nm : String) (ret : Option FieldType) (nL : Nat) (lk : List Cond) (pcs : List Nat) (pc : Nat) (nx : Bool) (a b : Nat) (v : Value) (t : List (Int × Nat)) (q : Instr × Nat) : Bool := decide (q = (.return_, 1)) && decide (ret = none)
def ax_m45 (cl : List vw_C) (mt : List ax_M) (NW : List Cond) (own nm : String) (ret : Option FieldType) (nL : Nat) (lk : List Cond) (pcs : List Nat) (pc : Nat) (nx : Bool) (a b : Nat) (v : Value) (t : List (Int × Nat)) (q : Instr × Nat) : Bool := decide (q = (.ireturn, 1)) && decide (ret = some (ax_rty b))
def ax_m46 (cl : List vw_C) (mt : List ax_M) (NW : List Cond) (own nm : String) (ret : Option FieldType) (nL : Nat) (lk : List Cond) (pcs : List Nat) (pc : Nat) (nx : Bool) (a b : Nat) (v : Value) (t : List (Int × Nat)) (q : Instr × Nat) : Bool := decide (q = (.lreturn, 1)) && decide (ret = some .long)
def ax_m47 (cl : List vw_C) (mt : List ax_M) (NW : List Cond) (own nm : String) (ret : Option FieldType) (nL : Nat) (lk : List Cond) (pcs : List Nat) (pc : Nat) (nx : Bool) (a b : Nat) (v : Value) (t : List (Int × Nat)) (q : Instr × Nat) : Bool := decide (q = (.areturn, 1)) && (decide (ret = some (.object "HeadCloths$State")) || decide (ret = some (.object "HeadCloths$Plan")))
def ax_m48 (cl : List vw_C) (mt : List ax_M) (NW : List Cond) (own nm : String) (ret : Option FieldType) (nL : Nat) (lk : List Cond) (pcs : List Nat) (pc : Nat) (nx : Bool) (a b : Nat) (v : Value) (t : List (Int × Nat)) (q : Instr × Nat) : Bool := decide (a < pcs.length) && t.all (fun k => decide (k.2 < pcs.length)) && (match v with
  | .int lo => decide (q = (.tableswitch (ax_tp pcs a - (pc : Int)) lo.toInt (lo.toInt + (t.length : Int) - 1) (t.map (fun k => ax_tp pcs k.2 - (pc : Int))).toArray, b)) && decide (t.map (fun k => k.1) = (List.range t.length).map (fun (j : Nat) => lo.toInt + (j : Int)))
  | _ => decide (q = (.lookupswitch (ax_tp pcs a - (pc : Int)) (t.map (fun k => (k.1, ax_tp pcs k.2 - (pc : Int)))).toArray, b)) && decide (t.map (fun k => k.1) = [0, 1]))
def ax_m49 (cl : List vw_C) (mt : List ax_M) (NW : List Cond) (own nm : String) (ret : Option FieldType) (nL : Nat) (lk : List Cond) (pcs : List Nat) (pc : Nat) (nx : Bool) (a b : Nat) (v : Value) (t : List (Int × Nat)) (q : Instr × Nat) : Bool := (match t, v with
  | [(n, r)], .int x => nx && decide (q = (.getstatic n.toNat, 3)) && decide (x = 1) && decide (lk[r]? = some (.fieldLink own n.toNat "java/lang/String" "COMPACT_STRINGS" "Z"))
  | [(n, r)], .retAddr x => nx && decide (q = (.getstatic n.toNat, 3)) && decide (x = 9) && decide (lk[r]? = some (.fieldLink own n.toNat "jdk/internal/util/Preconditions" "SIOOBE_FORMATTER" "Ljava/util/function/BiFunction;"))
  | _, _ => false)
def ax_m50 (cl : List vw_C) (mt : List ax_M) (NW : List Cond) (own nm : String) (ret : Option FieldType) (nL : Nat) (lk : List Cond) (pcs : List Nat) (pc : Nat) (nx : Bool) (a b : Nat) (v : Value) (t : List (Int × Nat)) (q : Instr × Nat) : Bool := (match t, b with
  | [(n, r)], 0 => nx && decide (q = (.getfield n.toNat, 3)) && decide (lk[r]? = some (.fieldLink own n.toNat "java/lang/String" "value" "[B"))
  | [(n, r)], 1 => nx && decide (q = (.getfield n.toNat, 3)) && decide (lk[r]? = some (.fieldLink own n.toNat "java/lang/String" "coder" "B"))
  | _, _ => false)
def ax_m51 (cl : List vw_C) (mt : List ax_M) (NW : List Cond) (own nm : String) (ret : Option FieldType) (nL : Nat) (lk : List Cond) (pcs : List Nat) (pc : Nat) (nx : Bool) (a b : Nat) (v : Value) (t : List (Int × Nat)) (q : Instr × Nat) : Bool := nx && decide (q = (.arraylength, 1))
def ax_m52 (cl : List vw_C) (mt : List ax_M) (NW : List Cond) (own nm : String) (ret : Option FieldType) (nL : Nat) (lk : List Cond) (pcs : List Nat) (pc : Nat) (nx : Bool) (a b : Nat) (v : Value) (t : List (Int × Nat)) (q : Instr × Nat) : Bool := nx && decide (q = (.iaload, 1))
def ax_m53 (cl : List vw_C) (mt : List ax_M) (NW : List Cond) (own nm : String) (ret : Option FieldType) (nL : Nat) (lk : List Cond) (pcs : List Nat) (pc : Nat) (nx : Bool) (a b : Nat) (v : Value) (t : List (Int × Nat)) (q : Instr × Nat) : Bool := nx && decide (q = (.baload, 1))
def ax_m54 (cl : List vw_C) (mt : List ax_M) (NW : List Cond) (own nm : String) (ret : Option FieldType) (nL : Nat) (lk : List Cond) (pcs : List Nat) (pc : Nat) (nx : Bool) (a b : Nat) (v : Value) (t : List (Int × Nat)) (q : Instr × Nat) : Bool := (match t, mt[a]? with
  | (n, r) :: (_, aw) :: _, some M => nx && decide (q = (.invokevirtual n.toNat, 3)) && decide (M.2.2.2.2.1 = b + 100) && decide (b < 100) && decide (aw ≤ M.2.2.1) && decide (lk[r]? = some (.methodLink own n.toNat M.1)) && decide (M.1.cls = "java/lang/String")
  | _, _ => false)
def ax_m55 (cl : List vw_C) (mt : List ax_M) (NW : List Cond) (own nm : String) (ret : Option FieldType) (nL : Nat) (lk : List Cond) (pcs : List Nat) (pc : Nat) (nx : Bool) (a b : Nat) (v : Value) (t : List (Int × Nat)) (q : Instr × Nat) : Bool := (match t, mt[a]? with
  | (n, r) :: (_, aw) :: _, some M => nx && decide (q = (.invokespecial n.toNat, 3)) && decide (M.2.2.2.2.1 = b + 200) && decide (b < 100) && decide (aw ≤ M.2.2.1) && decide (NW[r]? = some (.methodLinkNest own n.toNat M.1 "HeadCloths")) && decide (M.1.name = "<init>") && decide (M.2.2.2.1 = none)
  | _, _ => false)
def ax_m56 (cl : List vw_C) (mt : List ax_M) (NW : List Cond) (own nm : String) (ret : Option FieldType) (nL : Nat) (lk : List Cond) (pcs : List Nat) (pc : Nat) (nx : Bool) (a b : Nat) (v : Value) (t : List (Int × Nat)) (q : Instr × Nat) : Bool := (match t, cl[a]? with
  | [(n, r)], some k => nx && decide (q = (.getfield n.toNat, 3)) && decide (b < k.2.2) && decide (NW[r]? = some (.fieldLinkNest own n.toNat (k.2.1 b).1 (k.2.1 b).2.1 (k.2.1 b).2.2.1 "HeadCloths"))
  | _, _ => false)
def ax_mt (cl : List vw_C) (mt : List ax_M) (NW : List Cond) (own nm : String) (ret : Option FieldType) (nL : Nat) (lk : List Cond) (pcs : List Nat) (pc : Nat) (nx : Bool) (ai : ax_I) (q : Instr × Nat) : Bool :=
  match ai with
  | (0, a, b, v, t) => ax_m0 cl mt NW own nm ret nL lk pcs pc nx a b v t q
  | (1, a, b, v, t) => ax_m1 cl mt NW own nm ret nL lk pcs pc nx a b v t q
  | (2, a, b, v, t) => ax_m2 cl mt NW own nm ret nL lk pcs pc nx a b v t q
  | (3, a, b, v, t) => ax_m3 cl mt NW own nm ret nL lk pcs pc nx a b v t q
  | (4, a, b, v, t) => ax_m4 cl mt NW own nm ret nL lk pcs pc nx a b v t q
  | (5, a, b, v, t) => ax_m5 cl mt NW own nm ret nL lk pcs pc nx a b v t q
  | (6, a, b, v, t) => ax_m6 cl mt NW own nm ret nL lk pcs pc nx a b v t q
  | (7, a, b, v, t) => ax_m7 cl mt NW own nm ret nL lk pcs pc nx a b v t q
  | (8, a, b, v, t) => ax_m8 cl mt NW own nm ret nL lk pcs pc nx a b v t q
  | (9, a, b, v, t) => ax_m9 cl mt NW own nm ret nL lk pcs pc nx a b v t q
  | (10, a, b, v, t) => ax_m10 cl mt NW own nm ret nL lk pcs pc nx a b v t q
  | (11, a, b, v, t) => ax_m11 cl mt NW own nm ret nL lk pcs pc nx a b v t q
  | (12, a, b, v, t) => ax_m12 cl mt NW own nm ret nL lk pcs pc nx a b v t q
  | (13, a, b, v, t) => ax_m13 cl mt NW own nm ret nL lk pcs pc nx a b v t q
  | (14, a, b, v, t) => ax_m14 cl mt NW own nm ret nL lk pcs pc nx a b v t q
  | (15, a, b, v, t) => ax_m15 cl mt NW own nm ret nL lk pcs pc nx a b v t q
  | (16, a, b, v, t) => ax_m16 cl mt NW own nm ret nL lk pcs pc nx a b v t q
  | (17, a, b, v, t) => ax_m17 cl mt NW own nm ret nL lk pcs pc nx a b v t q
  | (18, a, b, v, t) => ax_m18 cl mt NW own nm ret nL lk pcs pc nx a b v t q
  | (19, a, b, v, t) => ax_m19 cl mt NW own nm ret nL lk pcs pc nx a b v t q
  | (20, a, b, v, t) => ax_m20 cl mt NW own nm ret nL lk pcs pc nx a b v t q
  | (21, a, b, v, t) => ax_m21 cl mt NW own nm ret nL lk pcs pc nx a b v t q
  | (22, a, b, v, t) => ax_m22 cl mt NW own nm ret nL lk pcs pc nx a b v t q
  | (23, a, b, v, t) => ax_m23 cl mt NW own nm ret nL lk pcs pc nx a b v t q
  | (24, a, b, v, t) => ax_m24 cl mt NW own nm ret nL lk pcs pc nx a b v t q
  | (25, a, b, v, t) => ax_m25 cl mt NW own nm ret nL lk pcs pc nx a b v t q
  | (26, a, b, v, t) => ax_m26 cl mt NW own nm ret nL lk pcs pc nx a b v t q
  | (27, a, b, v, t) => ax_m27 cl mt NW own nm ret nL lk pcs pc nx a b v t q
  | (28, a, b, v, t) => ax_m28 cl mt NW own nm ret nL lk pcs pc nx a b v t q
  | (29, a, b, v, t) => ax_m29 cl mt NW own nm ret nL lk pcs pc nx a b v t q
  | (30, a, b, v, t) => ax_m30 cl mt NW own nm ret nL lk pcs pc nx a b v t q
  | (31, a, b, v, t) => ax_m31 cl mt NW own nm ret nL lk pcs pc nx a b v t q
  | (32, a, b, v, t) => ax_m32 cl mt NW own nm ret nL lk pcs pc nx a b v t q
  | (33, a, b, v, t) => ax_m33 cl mt NW own nm ret nL lk pcs pc nx a b v t q
  | (34, a, b, v, t) => ax_m34 cl mt NW own nm ret nL lk pcs pc nx a b v t q
  | (35, a, b, v, t) => ax_m35 cl mt NW own nm ret nL lk pcs pc nx a b v t q
  | (36, a, b, v, t) => ax_m36 cl mt NW own nm ret nL lk pcs pc nx a b v t q
  | (37, a, b, v, t) => ax_m37 cl mt NW own nm ret nL lk pcs pc nx a b v t q
  | (38, a, b, v, t) => ax_m38 cl mt NW own nm ret nL lk pcs pc nx a b v t q
  | (39, a, b, v, t) => ax_m39 cl mt NW own nm ret nL lk pcs pc nx a b v t q
  | (40, a, b, v, t) => ax_m40 cl mt NW own nm ret nL lk pcs pc nx a b v t q
  | (41, a, b, v, t) => ax_m41 cl mt NW own nm ret nL lk pcs pc nx a b v t q
  | (42, a, b, v, t) => ax_m42 cl mt NW own nm ret nL lk pcs pc nx a b v t q
  | (43, a, b, v, t) => ax_m43 cl mt NW own nm ret nL lk pcs pc nx a b v t q
  | (44, a, b, v, t) => ax_m44 cl mt NW own nm ret nL lk pcs pc nx a b v t q
  | (45, a, b, v, t) => ax_m45 cl mt NW own nm ret nL lk pcs pc nx a b v t q
  | (46, a, b, v, t) => ax_m46 cl mt NW own nm ret nL lk pcs pc nx a b v t q
  | (47, a, b, v, t) => ax_m47 cl mt NW own nm ret nL lk pcs pc nx a b v t q
  | (48, a, b, v, t) => ax_m48 cl mt NW own nm ret nL lk pcs pc nx a b v t q
  | (49, a, b, v, t) => ax_m49 cl mt NW own nm ret nL lk pcs pc nx a b v t q
  | (50, a, b, v, t) => ax_m50 cl mt NW own nm ret nL lk pcs pc nx a b v t q
  | (51, a, b, v, t) => ax_m51 cl mt NW own nm ret nL lk pcs pc nx a b v t q
  | (52, a, b, v, t) => ax_m52 cl mt NW own nm ret nL lk pcs pc nx a b v t q
  | (53, a, b, v, t) => ax_m53 cl mt NW own nm ret nL lk pcs pc nx a b v t q
  | (54, a, b, v, t) => ax_m54 cl mt NW own nm ret nL lk pcs pc nx a b v t q
  | (55, a, b, v, t) => ax_m55 cl mt NW own nm ret nL lk pcs pc nx a b v t q
  | (56, a, b, v, t) => ax_m56 cl mt NW own nm ret nL lk pcs pc nx a b v t q
  | _ => false
def ax_ck (cl : List vw_C) (mt : List ax_M) (NW : List Cond) (own nm : String) (ret : Option FieldType) (nL : Nat) (lk : List Cond) (cc : ByteArray) (pcs : List Nat) (i : Nat) (ai : ax_I) : Bool := match pcs[i]? with
  | none => false
  | some pc => (match decode cc pc with
    | .error _ => false
    | .ok q => ax_mt cl mt NW own nm ret nL lk pcs pc (decide (pcs[i + 1]? = some (pc + q.2))) ai q)
theorem ax_ck_inv {cl : List vw_C} {mt : List ax_M} {NW : List Cond} {own nm : String} {ret : Option FieldType} {nL : Nat} {lk : List Cond} {cc : ByteArray} {pcs : List Nat} {i : Nat} {ai : ax_I} {pc : Nat} (hpc : pcs[i]? = some pc) (h : ax_ck cl mt NW own nm ret nL lk cc pcs i ai = true) :
    ∃ (q : Instr × Nat), decode cc pc = .ok q ∧ ax_mt cl mt NW own nm ret nL lk pcs pc (decide (pcs[i + 1]? = some (pc + q.2))) ai q = true := by
  unfold ax_ck at h
  rw [hpc] at h
  dsimp only at h
  cases hd : decode cc pc with
  | error x => rw [hd] at h; cases h
  | ok q =>
    rw [hd] at h
    exact ⟨q, rfl, h⟩
/-- what the program's tables say of its classes -/
def ax_Cl (cl : List vw_C) (ct : ax_T) (Ts : List Cond) : Prop := ∀ (ci : Nat) (q : vw_C), cl[ci]? = some q → ∃ ts : List FieldType, ct[ci]? = some (q.1, ts) ∧ ts.length = q.2.2 ∧ (∀ k, k < q.2.2 → parseFieldDescriptor (q.2.1 k).2.2.1 = some (ts.getD k .int)) ∧ (∀ a, a < q.2.2 → ∀ b, b < q.2.2 → a ≠ b → (q.2.1 a).2.1 ≠ (q.2.1 b).2.1) ∧ (∀ w ∈ u_ws q.1 q.2.1 q.2.2, w ∈ Ts) ∧ Cond.instantiable q.1 q.2.2 ∈ Ts ∧ Cond.initialized q.1 ∈ Ts ∧ (∀ ty ∈ ts, ax_df ty = defaultValue ty)
def ax_GW (Ts : List Cond) : Prop := (∀ b, Cond.arrayClass (ax_aty b) ∈ Ts) ∧ Cond.native arraycopyName ∈ Ts ∧ Cond.static arraycopyName ∈ Ts ∧ Cond.initialized "java/lang/System" ∈ Ts ∧ Cond.instanceMethod objectInit ∈ Ts ∧ Cond.code objectInit ⟨#[0xb1]⟩ 1 none ∈ Ts ∧ Cond.initialized "java/lang/Math" ∈ Ts ∧
  (Cond.static Lib.Math.max.name ∈ Ts ∧ Cond.code Lib.Math.max.name Lib.Math.max.code 2 (some .int) ∈ Ts) ∧ (Cond.static Lib.Math.min.name ∈ Ts ∧ Cond.code Lib.Math.min.name Lib.Math.min.code 2 (some .int) ∈ Ts) ∧ (Cond.static Lib.Math.abs.name ∈ Ts ∧ Cond.code Lib.Math.abs.name Lib.Math.abs.code 1 (some .int) ∈ Ts)
def ax_nestw (NW : List Cond) : Prop := ∀ w ∈ NW, (∃ a i x h, w = .methodLinkNest a i x h) ∨ ∃ a i b n d h, w = .fieldLinkNest a i b n d h
def ax_Mok (cl : List vw_C) (mt : List ax_M) (NW Ts : List Cond) (M : ax_M) : Prop :=
  plainName M.1.cls = true ∧ (M.1.cls ≠ "java/lang/invoke/MethodHandle" ∧ M.1.cls ≠ "java/lang/invoke/VarHandle") ∧ M.2.2.2.2.2.2.1[0]? = some 0 ∧ M.2.2.1 ≤ 60 ∧ (∀ w ∈ M.2.2.2.2.2.1, w ∈ Ts) ∧ Cond.code M.1 M.2.1 M.2.2.1 M.2.2.2.1 ∈ Ts ∧ Cond.initialized M.1.cls ∈ Ts ∧ (parseMethodDescriptor M.1.desc).map (fun d => d.parameters.length) = some (M.2.2.2.2.1 % 100) ∧
  (M.2.2.2.2.1 / 100 = 0 → Cond.static M.1 ∈ Ts) ∧ (M.2.2.2.2.1 / 100 = 1 → Cond.instanceMethod M.1 ∈ Ts ∧ Cond.selects M.1.cls M.1 M.1 ∈ Ts) ∧ (M.2.2.2.2.1 / 100 = 2 → Cond.instanceMethod M.1 ∈ Ts) ∧ ∀ (i : Nat) (ai : ax_I), M.2.2.2.2.2.2.2[i]? = some ai → ax_ck cl mt NW M.1.cls M.1.name M.2.2.2.1 M.2.2.1 M.2.2.2.2.2.1 M.2.1 M.2.2.2.2.2.2.1 i ai = true
def ax_Pg (cl : List vw_C) (ct : ax_T) (mt : List ax_M) (NW Ts : List Cond) (pg : Nat → List ax_I) : Prop :=
  ax_Cl cl ct Ts ∧ (∀ (ci : Nat) (x : String × List FieldType), ct[ci]? = some x → ∃ q, cl[ci]? = some q ∧ q.1 = x.1) ∧ ax_GW Ts ∧ (∀ w ∈ Ts, goodWord w = true) ∧ ax_nestw NW ∧ ∀ (y : Nat) (M : ax_M), mt[y]? = some M → ax_Mok cl mt NW Ts M ∧ pg y = M.2.2.2.2.2.2.2
def ax_Mb (cl : List vw_C) (mt : List ax_M) (NW Ts : List Cond) (M : ax_M) : Prop := (∀ w ∈ M.2.2.2.2.2.1, w ∈ Ts) ∧ ∀ (i : Nat) (ai : ax_I), M.2.2.2.2.2.2.2[i]? = some ai → ax_ck cl mt NW M.1.cls M.1.name M.2.2.2.1 M.2.2.1 M.2.2.2.2.2.1 M.2.1 M.2.2.2.2.2.2.1 i ai = true
theorem ax_Mok.b {cl : List vw_C} {mt : List ax_M} {NW Ts : List Cond} {M : ax_M} (h : ax_Mok cl mt NW Ts M) : ax_Mb cl mt NW Ts M := ⟨h.2.2.2.2.1, h.2.2.2.2.2.2.2.2.2.2.2⟩
