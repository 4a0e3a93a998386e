/-! THE CLAIM OUT OF THE PURE STATEMENT -/
def ax_rvf (b : Nat) (adK adV : Nat → Nat) (v0 : Value) (j : Nat) : Value := match j with
  | 0 => .ref b
  | 1 => .ref (adK 0)
  | 2 => .ref (adV 0)
  | 3 => .ref (adK 1)
  | 4 => .ref (adV 1)
  | 9 => v0
  | _ => .ref 0
def ax_flat : List Cond := flatC (Jvm.Cond.and given_1 narrow_1)
def ax_tm (i : Nat) : Term := .string "HeadCloths$Tokens" (if i = 0 then 39 else 84)
def ax_len : List Nat := [123, 9]
def ax_byt : List (List Int32) := [ax_wB, ax_sB]
theorem ax_fl1 : Cond.eq (.static "java/lang/String" "COMPACT_STRINGS" "Z") (.int 1) ∈ ax_flat := by decide +kernel
theorem ax_fl2 : Cond.isRef (.static "jdk/internal/util/Preconditions" "SIOOBE_FORMATTER" "Ljava/util/function/BiFunction;") ∈ ax_flat := by decide +kernel
theorem ax_fl3 : ∀ i, i < 2 → Cond.exactly (ax_tm i) "java/lang/String" ∈ ax_flat := by decide +kernel
theorem ax_fl4 : ∀ i, i < 2 → Cond.eq (.field (ax_tm i) "java/lang/String" "coder" "B") (.int 0) ∈ ax_flat := by decide +kernel
theorem ax_fl5 : ∀ i, i < 2 → Cond.arrayOf (.field (ax_tm i) "java/lang/String" "value" "[B") .byte ∈ ax_flat := by decide +kernel
theorem ax_fl6 : ∀ i, i < 2 → Cond.eq (.length (.field (ax_tm i) "java/lang/String" "value" "[B")) (.int (Int32.ofNat (ax_len.getD i 0))) ∈ ax_flat := by decide +kernel
theorem ax_fl7 : ∀ j, j < 123 → Cond.eq (.elem (.field (ax_tm 0) "java/lang/String" "value" "[B") (.int (Int32.ofNat j))) (.int ((ax_byt.getD 0 []).getD j 0)) ∈ ax_flat := by decide +kernel
theorem ax_fl8 : ∀ j, j < 9 → Cond.eq (.elem (.field (ax_tm 1) "java/lang/String" "value" "[B") (.int (Int32.ofNat j))) (.int ((ax_byt.getD 1 []).getD j 0)) ∈ ax_flat := by decide +kernel
theorem ax_fl9 : Cond.not (Cond.eq (ax_tm 0) (ax_tm 1)) ∈ ax_flat := by decide +kernel
theorem ax_arr1 {s : State} {args : Array Value} {ty : FieldType} (h : (Cond.arrayClass ty).before args s = true) : ∃ cA, ArrOfT s cA ty ∧ s.vm.findClass ("[" ++ ty.toString) = some cA := by
  obtain ⟨cA, kA, comp, h1, h2, h3⟩ := Cond.arrayClass_spec (show (Cond.arrayClass ty).holds args s none s [] = true from h)
  exact ⟨cA, fun n z => ⟨fun k h => (by cases h), kA, h2, comp, h3⟩, h1⟩
theorem ax_arr2 {s : State} {args : Array Value} {C : String} (h : (Cond.arrayOver (.object C)).before args s = true) : ∃ cA, ArrOfT s cA (.object C) ∧ va_RA s cA (.object C) := by
  obtain ⟨comp, cA, kA, hcomp, hidx, hkA, hkindA, hnameA⟩ := Cond.arrayOver_spec (show (Cond.arrayOver (.object C)).holds args s none s [] = true from h)
  exact ⟨cA, fun n z => ⟨fun k h => (by cases h), kA, hkA, comp, hkindA⟩, kA, comp, hkA, hkindA, hcomp, hnameA⟩
theorem ax_nwin : ∀ w ∈ ax_NWs, w ∈ lw_tbl := by
  intro w hw
  have hp : ax_NWs = [125, 172, 303, 308, 395, 436, 496, 514].filterMap (fun i => lw_tbl[i]?) := by decide +kernel
  rw [hp] at hw
  obtain ⟨i, -, hi⟩ := List.mem_filterMap.mp hw
  exact List.mem_of_getElem? hi
set_option maxRecDepth 100000 in
theorem ax_sw1 : ∃ tx, Cond.stringRef "HeadCloths$Tokens" 39 tx ∈ lw_tbl := ⟨_, List.mem_of_getElem? (i := 247) rfl⟩
set_option maxRecDepth 100000 in
theorem ax_sw3 : ∃ tx, Cond.stringRef "HeadCloths$Tokens" 84 tx ∈ lw_tbl := ⟨_, List.mem_of_getElem? (i := 620) rfl⟩
theorem ax_aow : Cond.arrayOver (.object "HeadCloths$State") ∈ lw_tbl := List.mem_of_getElem? (i := 437) (by decide +kernel)
theorem ax_lsw1 : Cond.laysStatic "java/lang/String" "COMPACT_STRINGS" "Z" ∈ lw_tbl := List.mem_of_getElem? (i := 257) (by decide +kernel)
theorem ax_lsw2 : Cond.laysStatic "jdk/internal/util/Preconditions" "SIOOBE_FORMATTER" "Ljava/util/function/BiFunction;" ∈ lw_tbl := List.mem_of_getElem? (i := 273) (by decide +kernel)
theorem ax_inw1 : Cond.initialized "java/lang/String" ∈ lw_tbl := List.mem_of_getElem? (i := 99) (by decide +kernel)
theorem ax_inw2 : Cond.initialized "jdk/internal/util/Preconditions" ∈ lw_tbl := List.mem_of_getElem? (i := 101) (by decide +kernel)
