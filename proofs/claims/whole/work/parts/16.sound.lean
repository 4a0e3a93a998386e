/-! SOUNDNESS OF ONE STEP -/
def ax_tys (cA : FieldType → ClassId) : List (ClassId × FieldType) := [(cA .int, .int), (cA .long, .long), (cA .byte, .byte), (cA .boolean, .boolean), (cA (.object "HeadCloths$State"), .object "HeadCloths$State")]
def ax_Iv (D : va_G) (cl : List vw_C) (cA : FieldType → ClassId) (h0 : Nat) (rv : Nat → Value) (A : Nat → Prop) (s : State) (w : ax_W) (H : Heap) (locs : List Loc) : Prop := va_P D cl (ax_w cA h0 rv w) H ∧ va_D A (ax_w cA h0 rv w) ∧ va_S A s.heap H locs
def ax_K (p : Program) (l : Launch) (e : Env) (R : Room) (s : State) (m : MethodId) (args : Array Value) (below : List Frame) (meth : Method) (c : Code) (Q : State → Prop) (D : va_G) (cl : List vw_C) (cA : FieldType → ClassId) (h0 a0 b0 : Nat) (rv : Nat → Value) (A : Nat → Prop) (nL : Nat) (pcs : List Nat) (i : Nat) (lv : ax_L) (st : List Value) (w : ax_W) : Prop :=
  ∀ (pc : Nat) (ls : Array Slot) (H : Heap) (locs : List Loc) (cells slots : Nat), pcs[i]? = some pc → lv_has ls nL (ax_lv h0 rv lv) → ax_Iv D cl cA h0 rv A s w H locs → cells + a0 = w.length → slots + b0 = ax_sl w → W p l e R s m args below meth c H locs cells slots Q (F0 m pc ls (st.map (ax_v h0 rv)))
/-- a read-only cell -/
def ax_roc (rv : Nat → Value) (A : Nat → Prop) (U : State) (H : Heap) (j : Nat) (c : ax_C) : Prop := ∃ a, rv j = .ref a ∧ (match c.1 with
  | .inl ty => va_T ty a c.2.length (fun k => c.2.getD k .null) A U H
  | .inr _ => va_O "java/lang/String" a A U H ∧ (∀ v, c.2[0]? = some v → va_OF "java/lang/String" "value" "[B" (ax_v 0 rv v) a A U H ∧ ∃ j, v = .retAddr j) ∧ (∀ v, c.2[1]? = some v → va_OF "java/lang/String" "coder" "B" (ax_v 0 rv v) a A U H ∧ ∃ x, v = .int x))
def ax_RO (ro : ax_W) (rv : Nat → Value) (NW : List Cond) (A : Nat → Prop) (U : State) (H : Heap) : Prop :=
  (∀ (j : Nat) (c : ax_C), ro[j]? = some c → ax_roc rv A U H j c) ∧ va_Z "java/lang/String" "COMPACT_STRINGS" "Z" (.int 1) A U H ∧ va_Z "jdk/internal/util/Preconditions" "SIOOBE_FORMATTER" "Ljava/util/function/BiFunction;" (rv 9) A U H ∧ (∀ w ∈ NW, va_Nw w U) ∧ va_AO "HeadCloths$State" U ∧
  (∃ a tx, rv 1 = .ref a ∧ vk_R "HeadCloths$Tokens" 39 tx a U) ∧ (∃ a tx, rv 3 = .ref a ∧ vk_R "HeadCloths$Tokens" 84 tx a U) ∧ (∀ j, j ≠ 9 → ∃ a, rv j = .ref a)
def ax_Cx (p : Program) (R : Room) (s : State) (m : MethodId) (args : Array Value) (meth : Method) (c : Code) (D : va_G) (cl : List vw_C) (cA : FieldType → ClassId) (h0 a0 : Nat) (rv : Nat → Value) (A : Nat → Prop) (nL : Nat) (own nm : String) (cc : ByteArray) (Ts : List Cond) (ro : ax_W) (NW : List Cond) : Prop :=
  p.tables.exec = Jvm.exec ∧ c.code = cc ∧ c.maxLocals = nL ∧ s.vm.findClass own = some m.cls ∧ (∀ w ∈ Ts, w.before args s = true) ∧ va_K D cl (ax_tys cA) s ∧ (∀ j, (rv j).category = 1) ∧ (nm = "<init>" → meth.name = "<init>") ∧ 1 ≤ R.frames ∧ 100 ≤ R.locals ∧ s.heap.size = h0 + a0 ∧ (∀ q, s.heap.size ≤ q → A q) ∧ (∀ q, A q → h0 ≤ q) ∧ ax_RO ro rv NW A s s.heap
theorem ax_tp_get {pcs : List Nat} {a : Nat} (h : a < pcs.length) : ∃ tp : Nat, pcs[a]? = some tp ∧ ax_tp pcs a = (tp : Int) := by
  refine ⟨pcs[a], List.getElem?_eq_getElem h, ?_⟩
  simp [ax_tp, List.getElem?_eq_getElem h]
theorem ax_off {x tp : Int} {pc : Nat} (h : x = tp) : (pc : Int) + (x - (pc : Int)) = tp := by omega
theorem ax_vp {j : Int32} {n : Nat} (h : 0 ≤ j) (h2 : j.toNatClampNeg < n) : vp_in j n := fun q => q.elim (fun z => Int32.not_lt.mpr h z) (fun z => Nat.not_le.mpr h2 z)
section AXS
variable {p : Program} {l : Launch} {e : Env} {R : Room} {s : State} {m : MethodId} {args : Array Value} {below : List Frame} {meth : Method} {c : Code} {Q : State → Prop} {D : va_G} {cl : List vw_C} {cA : FieldType → ClassId} {h0 a0 b0 nL : Nat} {rv : Nat → Value} {A : Nat → Prop} {pcs : List Nat} {own nm : String} {cc : ByteArray} {Ts lk NW : List Cond} {ro : ax_W} {ct : ax_T} {mt : List ax_M} {ret : Option FieldType}
theorem ax_hsz {H : Heap} {locs : List Loc} {cells slots : Nat} {g : JFrame} (h : H.size ≤ s.heap.size + cells → W p l e R s m args below meth c H locs cells slots Q g) : W p l e R s m args below meth c H locs cells slots Q g := fun T hT X => h (by rw [← hT]; exact X.heapSize) T hT X
theorem ax_addr {w : ax_W} {q : Nat} {x : va_E} {H1 : Heap} {n : Nat} (hP : va_P D cl (ax_w cA h0 rv w ++ [(q, x)]) H1) (hD : va_D A (ax_w cA h0 rv w ++ [(q, x)])) (hA0 : ∀ q, A q → h0 ≤ q) (hz : H1.size ≤ n) (hn : n = h0 + w.length + 1) : q = h0 + w.length := by
  have hg : (ax_w cA h0 rv w ++ [(q, x)])[w.length]? = some (q, x) := by
    rw [List.getElem?_append_right (by rw [ax_w_len]; exact Nat.le_refl _), ax_w_len]
    simp
  have h1 := (hP _ _ hg).lt
  have h2 := hA0 _ (hD.2 _ _ hg)
  dsimp only at h1 h2
  rcases Nat.lt_or_ge q (h0 + w.length) with h | h
  · exfalso
    have hk : q - h0 < w.length := by omega
    have e1 : (ax_w cA h0 rv w ++ [(q, x)])[q - h0]? = some (h0 + (q - h0), ax_e cA h0 rv w[q - h0]) := by
      rw [List.getElem?_append_left (by rw [ax_w_len]; exact hk)]
      exact ax_w_get (List.getElem?_eq_getElem hk)
    have := hD.1 _ _ _ _ e1 hg (by dsimp only; omega)
    omega
  · omega
theorem ax_g0 {a b i : Nat} {v : Value} {t : List (Int × Nat)} {lv : ax_L} {st : List Value} {w : ax_W} {q : Nat × ax_L × List Value × ax_W} (hC : ax_Cx p R s m args meth c D cl cA h0 a0 rv A nL own nm cc Ts ro NW) (hlk : ∀ w ∈ lk, w ∈ Ts) (hs : ax_stp ro ct (0, a, b, v, t) i lv st w = some (.inl q)) (hk : ax_ck cl mt NW own nm ret nL lk cc pcs i (0, a, b, v, t) = true) (kk : ax_K p l e R s m args below meth c Q D cl cA h0 a0 b0 rv A nL pcs q.1 q.2.1 q.2.2.1 q.2.2.2) : ax_K p l e R s m args below meth c Q D cl cA h0 a0 b0 rv A nL pcs i lv st w := by
  intro pc ls H locs cells slots hpc hl hI hcs hsl
  obtain ⟨⟨ins, len⟩, hd, hm⟩ := ax_ck_inv hpc hk
  obtain ⟨hx, hb, hml, hown, hts, hK, hrv, hnm, hfr, hlo, hsz, hA, hA0, hRO⟩ := hC
  obtain ⟨hP, hD, hS⟩ := hI
  change ax_m0 cl mt NW own nm ret nL lk pcs pc (decide (pcs[i + 1]? = some (pc + len))) a b v t (ins, len) = true at hm
  change ax_s0 ro ct a b v t i lv st w = some (.inl q) at hs
  unfold ax_m0 at hm
  unfold ax_s0 at hs
  cases hs
  split at hm
  · simp only [Bool.and_eq_true, decide_eq_true_eq, Prod.mk.injEq] at hm
    obtain ⟨⟨hn, rfl, rfl⟩, rfl⟩ := hm
    exact lv_iconst hx hb hd rfl (kk _ ls H locs cells slots hn hl ⟨hP, hD, hS⟩ hcs hsl)
  · simp only [Bool.and_eq_true, decide_eq_true_eq, Prod.mk.injEq] at hm
    obtain ⟨⟨hn, rfl, rfl⟩, rfl⟩ := hm
    exact lv_bipush hx hb hd rfl (kk _ ls H locs cells slots hn hl ⟨hP, hD, hS⟩ hcs hsl)
  · simp only [Bool.and_eq_true, decide_eq_true_eq, Prod.mk.injEq] at hm
    obtain ⟨⟨hn, rfl, rfl⟩, rfl⟩ := hm
    exact lv_sipush hx hb hd rfl (kk _ ls H locs cells slots hn hl ⟨hP, hD, hS⟩ hcs hsl)
  · simp only [Bool.and_eq_true, decide_eq_true_eq, Prod.mk.injEq] at hm
    obtain ⟨⟨hn, rfl, rfl⟩, rfl⟩ := hm
    exact lv_lconst hx hb hd rfl (kk _ ls H locs cells slots hn hl ⟨hP, hD, hS⟩ hcs hsl)
  · split at hm
    · simp only [Bool.and_eq_true, decide_eq_true_eq, Prod.mk.injEq] at hm
      obtain ⟨⟨hn, rfl, rfl⟩, hw⟩ := hm
      exact lv_ldc hx hb hown (hts _ (hlk _ (List.mem_of_getElem? hw))) hd (kk _ ls H locs cells slots hn hl ⟨hP, hD, hS⟩ hcs hsl)
    · simp at hm
  · split at hm
    · simp only [Bool.and_eq_true, decide_eq_true_eq, Prod.mk.injEq] at hm
      obtain ⟨⟨hn, rfl, rfl⟩, hw⟩ := hm
      exact lv_ldcw hx hb hown (hts _ (hlk _ (List.mem_of_getElem? hw))) hd (kk _ ls H locs cells slots hn hl ⟨hP, hD, hS⟩ hcs hsl)
    · simp at hm
  · split at hm
    · simp only [Bool.and_eq_true, decide_eq_true_eq, Prod.mk.injEq] at hm
      obtain ⟨⟨hn, rfl, rfl⟩, hw⟩ := hm
      exact lv_ldc2 hx hb hown (hts _ (hlk _ (List.mem_of_getElem? hw))) hd (kk _ ls H locs cells slots hn hl ⟨hP, hD, hS⟩ hcs hsl)
    · simp at hm
  · cases hm
theorem ax_g1 {a b i : Nat} {v : Value} {t : List (Int × Nat)} {lv : ax_L} {st : List Value} {w : ax_W} {q : Nat × ax_L × List Value × ax_W} (hC : ax_Cx p R s m args meth c D cl cA h0 a0 rv A nL own nm cc Ts ro NW) (hs : ax_stp ro ct (1, a, b, v, t) i lv st w = some (.inl q)) (hk : ax_ck cl mt NW own nm ret nL lk cc pcs i (1, a, b, v, t) = true) (kk : ax_K p l e R s m args below meth c Q D cl cA h0 a0 b0 rv A nL pcs q.1 q.2.1 q.2.2.1 q.2.2.2) : ax_K p l e R s m args below meth c Q D cl cA h0 a0 b0 rv A nL pcs i lv st w := by
  intro pc ls H locs cells slots hpc hl hI hcs hsl
  obtain ⟨⟨ins, len⟩, hd, hm⟩ := ax_ck_inv hpc hk
  obtain ⟨hx, hb, hml, hown, hts, hK, hrv, hnm, hfr, hlo, hsz, hA, hA0, hRO⟩ := hC
  obtain ⟨hP, hD, hS⟩ := hI
  change ax_m1 cl mt NW own nm ret nL lk pcs pc (decide (pcs[i + 1]? = some (pc + len))) a b v t (ins, len) = true at hm
  change ax_s1 ro ct a b v t i lv st w = some (.inl q) at hs
  unfold ax_m1 at hm
  unfold ax_s1 at hs
  cases hs
  obtain ⟨-, -, -, -, -, ⟨a1, tx1, r1, z1⟩, ⟨a3, tx3, r3, z3⟩, -⟩ := hRO
  split at hm
  · simp only [Bool.and_eq_true, decide_eq_true_eq, Prod.mk.injEq] at hm
    obtain ⟨⟨hn, rfl⟩, rfl, rfl⟩ := hm
    have k2 := kk _ ls H locs cells slots hn hl ⟨hP, hD, hS⟩ hcs hsl
    refine va_ldcS hx hb hown z1 hd ?_
    rw [← r1]
    exact k2
  · simp only [Bool.and_eq_true, decide_eq_true_eq, Prod.mk.injEq] at hm
    obtain ⟨⟨hn, rfl⟩, rfl, rfl⟩ := hm
    have k2 := kk _ ls H locs cells slots hn hl ⟨hP, hD, hS⟩ hcs hsl
    refine va_ldcS hx hb hown z3 hd ?_
    rw [← r3]
    exact k2
  · simp at hm
theorem ax_g2 {a b i : Nat} {v : Value} {t : List (Int × Nat)} {lv : ax_L} {st : List Value} {w : ax_W} {q : Nat × ax_L × List Value × ax_W} (hC : ax_Cx p R s m args meth c D cl cA h0 a0 rv A nL own nm cc Ts ro NW) (hs : ax_stp ro ct (2, a, b, v, t) i lv st w = some (.inl q)) (hk : ax_ck cl mt NW own nm ret nL lk cc pcs i (2, a, b, v, t) = true) (kk : ax_K p l e R s m args below meth c Q D cl cA h0 a0 b0 rv A nL pcs q.1 q.2.1 q.2.2.1 q.2.2.2) : ax_K p l e R s m args below meth c Q D cl cA h0 a0 b0 rv A nL pcs i lv st w := by
  intro pc ls H locs cells slots hpc hl hI hcs hsl
  obtain ⟨⟨ins, len⟩, hd, hm⟩ := ax_ck_inv hpc hk
  obtain ⟨hx, hb, hml, hown, hts, hK, hrv, hnm, hfr, hlo, hsz, hA, hA0, hRO⟩ := hC
  obtain ⟨hP, hD, hS⟩ := hI
  change ax_m2 cl mt NW own nm ret nL lk pcs pc (decide (pcs[i + 1]? = some (pc + len))) a b v t (ins, len) = true at hm
  change ax_s2 ro ct a b v t i lv st w = some (.inl q) at hs
  unfold ax_m2 at hm
  unfold ax_s2 at hs
  split at hs
  · next x hlx =>
    cases hs
    obtain ⟨k9, hk9⟩ := ax_lv_get h0 rv hlx
    split at hm
    · simp only [Bool.and_eq_true, decide_eq_true_eq, Prod.mk.injEq] at hm
      obtain ⟨hn, rfl, rfl⟩ := hm
      exact lv_iload_n hx hb hd rfl (lv_at hl k9 hk9) (kk _ ls H locs cells slots hn hl ⟨hP, hD, hS⟩ hcs hsl)
    · simp only [Bool.and_eq_true, decide_eq_true_eq, Prod.mk.injEq] at hm
      obtain ⟨hn, rfl, rfl⟩ := hm
      exact lv_iload_n hx hb hd rfl (lv_at hl k9 hk9) (kk _ ls H locs cells slots hn hl ⟨hP, hD, hS⟩ hcs hsl)
    · simp only [Bool.and_eq_true, decide_eq_true_eq, Prod.mk.injEq] at hm
      obtain ⟨hn, rfl, rfl⟩ := hm
      exact lv_iload_n hx hb hd rfl (lv_at hl k9 hk9) (kk _ ls H locs cells slots hn hl ⟨hP, hD, hS⟩ hcs hsl)
    · simp only [Bool.and_eq_true, decide_eq_true_eq, Prod.mk.injEq] at hm
      obtain ⟨hn, rfl, rfl⟩ := hm
      exact lv_iload_n hx hb hd rfl (lv_at hl k9 hk9) (kk _ ls H locs cells slots hn hl ⟨hP, hD, hS⟩ hcs hsl)
    · simp only [Bool.and_eq_true, decide_eq_true_eq, Prod.mk.injEq] at hm
      obtain ⟨hn, rfl, rfl⟩ := hm
      exact lv_iload hx hb hd (lv_at hl k9 hk9) (kk _ ls H locs cells slots hn hl ⟨hP, hD, hS⟩ hcs hsl)
  · cases hs
theorem ax_g4 {a b i : Nat} {v : Value} {t : List (Int × Nat)} {lv : ax_L} {st : List Value} {w : ax_W} {q : Nat × ax_L × List Value × ax_W} (hC : ax_Cx p R s m args meth c D cl cA h0 a0 rv A nL own nm cc Ts ro NW) (hs : ax_stp ro ct (4, a, b, v, t) i lv st w = some (.inl q)) (hk : ax_ck cl mt NW own nm ret nL lk cc pcs i (4, a, b, v, t) = true) (kk : ax_K p l e R s m args below meth c Q D cl cA h0 a0 b0 rv A nL pcs q.1 q.2.1 q.2.2.1 q.2.2.2) : ax_K p l e R s m args below meth c Q D cl cA h0 a0 b0 rv A nL pcs i lv st w := by
  intro pc ls H locs cells slots hpc hl hI hcs hsl
  obtain ⟨⟨ins, len⟩, hd, hm⟩ := ax_ck_inv hpc hk
  obtain ⟨hx, hb, hml, hown, hts, hK, hrv, hnm, hfr, hlo, hsz, hA, hA0, hRO⟩ := hC
  obtain ⟨hP, hD, hS⟩ := hI
  change ax_m4 cl mt NW own nm ret nL lk pcs pc (decide (pcs[i + 1]? = some (pc + len))) a b v t (ins, len) = true at hm
  change ax_s4 ro ct a b v t i lv st w = some (.inl q) at hs
  unfold ax_m4 at hm
  unfold ax_s4 at hs
  split at hs
  · next x hlx =>
    cases hs
    obtain ⟨k9, hk9⟩ := ax_lv_get h0 rv hlx
    split at hm
    · simp only [Bool.and_eq_true, decide_eq_true_eq, Prod.mk.injEq] at hm
      obtain ⟨hn, rfl, rfl⟩ := hm
      exact lv_lload_n hx hb hd rfl (lv_at hl k9 hk9) (kk _ ls H locs cells slots hn hl ⟨hP, hD, hS⟩ hcs hsl)
    · simp only [Bool.and_eq_true, decide_eq_true_eq, Prod.mk.injEq] at hm
      obtain ⟨hn, rfl, rfl⟩ := hm
      exact lv_lload_n hx hb hd rfl (lv_at hl k9 hk9) (kk _ ls H locs cells slots hn hl ⟨hP, hD, hS⟩ hcs hsl)
    · simp only [Bool.and_eq_true, decide_eq_true_eq, Prod.mk.injEq] at hm
      obtain ⟨hn, rfl, rfl⟩ := hm
      exact lv_lload_n hx hb hd rfl (lv_at hl k9 hk9) (kk _ ls H locs cells slots hn hl ⟨hP, hD, hS⟩ hcs hsl)
    · simp only [Bool.and_eq_true, decide_eq_true_eq, Prod.mk.injEq] at hm
      obtain ⟨hn, rfl, rfl⟩ := hm
      exact lv_lload_n hx hb hd rfl (lv_at hl k9 hk9) (kk _ ls H locs cells slots hn hl ⟨hP, hD, hS⟩ hcs hsl)
    · simp only [Bool.and_eq_true, decide_eq_true_eq, Prod.mk.injEq] at hm
      obtain ⟨hn, rfl, rfl⟩ := hm
      exact lv_lload hx hb hd (lv_at hl k9 hk9) (kk _ ls H locs cells slots hn hl ⟨hP, hD, hS⟩ hcs hsl)
  · cases hs
theorem ax_g3 {a b i : Nat} {v : Value} {t : List (Int × Nat)} {lv : ax_L} {st : List Value} {w : ax_W} {q : Nat × ax_L × List Value × ax_W} (hC : ax_Cx p R s m args meth c D cl cA h0 a0 rv A nL own nm cc Ts ro NW) (hs : ax_stp ro ct (3, a, b, v, t) i lv st w = some (.inl q)) (hk : ax_ck cl mt NW own nm ret nL lk cc pcs i (3, a, b, v, t) = true) (kk : ax_K p l e R s m args below meth c Q D cl cA h0 a0 b0 rv A nL pcs q.1 q.2.1 q.2.2.1 q.2.2.2) : ax_K p l e R s m args below meth c Q D cl cA h0 a0 b0 rv A nL pcs i lv st w := by
  intro pc ls H locs cells slots hpc hl hI hcs hsl
  obtain ⟨⟨ins, len⟩, hd, hm⟩ := ax_ck_inv hpc hk
  obtain ⟨hx, hb, hml, hown, hts, hK, hrv, hnm, hfr, hlo, hsz, hA, hA0, hRO⟩ := hC
  obtain ⟨hP, hD, hS⟩ := hI
  change ax_m3 cl mt NW own nm ret nL lk pcs pc (decide (pcs[i + 1]? = some (pc + len))) a b v t (ins, len) = true at hm
  change ax_s3 ro ct a b v t i lv st w = some (.inl q) at hs
  unfold ax_m3 at hm
  unfold ax_s3 at hs
  split at hs
  · next x hlx =>
    cases hs
    obtain ⟨k9, hk9⟩ := ax_lv_get h0 rv hlx
    split at hm
    · simp only [Bool.and_eq_true, decide_eq_true_eq, Prod.mk.injEq] at hm
      obtain ⟨hn, rfl, rfl⟩ := hm
      exact lv_aload_n hx hb hd rfl (lv_at hl k9 hk9) (kk _ ls H locs cells slots hn hl ⟨hP, hD, hS⟩ hcs hsl)
    · simp only [Bool.and_eq_true, decide_eq_true_eq, Prod.mk.injEq] at hm
      obtain ⟨hn, rfl, rfl⟩ := hm
      exact lv_aload_n hx hb hd rfl (lv_at hl k9 hk9) (kk _ ls H locs cells slots hn hl ⟨hP, hD, hS⟩ hcs hsl)
    · simp only [Bool.and_eq_true, decide_eq_true_eq, Prod.mk.injEq] at hm
      obtain ⟨hn, rfl, rfl⟩ := hm
      exact lv_aload_n hx hb hd rfl (lv_at hl k9 hk9) (kk _ ls H locs cells slots hn hl ⟨hP, hD, hS⟩ hcs hsl)
    · simp only [Bool.and_eq_true, decide_eq_true_eq, Prod.mk.injEq] at hm
      obtain ⟨hn, rfl, rfl⟩ := hm
      exact lv_aload_n hx hb hd rfl (lv_at hl k9 hk9) (kk _ ls H locs cells slots hn hl ⟨hP, hD, hS⟩ hcs hsl)
    · simp only [Bool.and_eq_true, decide_eq_true_eq, Prod.mk.injEq] at hm
      obtain ⟨hn, rfl, rfl⟩ := hm
      exact lv_aload hx hb hd (lv_at hl k9 hk9) (kk _ ls H locs cells slots hn hl ⟨hP, hD, hS⟩ hcs hsl)
  · next x hlx =>
    split at hs
    · cases hs
    · next hne =>
      cases hs
      obtain ⟨k9, hk9⟩ := ax_lv_get h0 rv hlx
      obtain ⟨-, -, -, -, -, -, -, hall⟩ := hRO
      obtain ⟨a9, ra⟩ := hall x hne
      have hk9 : (ax_lv h0 rv lv)[k9]? = some (a, .ref a9) := by rw [← ra]; exact hk9
      split at hm
      · simp only [Bool.and_eq_true, decide_eq_true_eq, Prod.mk.injEq] at hm
        obtain ⟨hn, rfl, rfl⟩ := hm
        have k2 := kk _ ls H locs cells slots hn hl ⟨hP, hD, hS⟩ hcs hsl
        refine lv_aload_n hx hb hd rfl (lv_at hl k9 hk9) ?_
        rw [← ra]
        exact k2
      · simp only [Bool.and_eq_true, decide_eq_true_eq, Prod.mk.injEq] at hm
        obtain ⟨hn, rfl, rfl⟩ := hm
        have k2 := kk _ ls H locs cells slots hn hl ⟨hP, hD, hS⟩ hcs hsl
        refine lv_aload_n hx hb hd rfl (lv_at hl k9 hk9) ?_
        rw [← ra]
        exact k2
      · simp only [Bool.and_eq_true, decide_eq_true_eq, Prod.mk.injEq] at hm
        obtain ⟨hn, rfl, rfl⟩ := hm
        have k2 := kk _ ls H locs cells slots hn hl ⟨hP, hD, hS⟩ hcs hsl
        refine lv_aload_n hx hb hd rfl (lv_at hl k9 hk9) ?_
        rw [← ra]
        exact k2
      · simp only [Bool.and_eq_true, decide_eq_true_eq, Prod.mk.injEq] at hm
        obtain ⟨hn, rfl, rfl⟩ := hm
        have k2 := kk _ ls H locs cells slots hn hl ⟨hP, hD, hS⟩ hcs hsl
        refine lv_aload_n hx hb hd rfl (lv_at hl k9 hk9) ?_
        rw [← ra]
        exact k2
      · simp only [Bool.and_eq_true, decide_eq_true_eq, Prod.mk.injEq] at hm
        obtain ⟨hn, rfl, rfl⟩ := hm
        have k2 := kk _ ls H locs cells slots hn hl ⟨hP, hD, hS⟩ hcs hsl
        refine lv_aload hx hb hd (lv_at hl k9 hk9) ?_
        rw [← ra]
        exact k2
  · cases hs
theorem ax_g5 {a b i : Nat} {v : Value} {t : List (Int × Nat)} {lv : ax_L} {st : List Value} {w : ax_W} {q : Nat × ax_L × List Value × ax_W} (hC : ax_Cx p R s m args meth c D cl cA h0 a0 rv A nL own nm cc Ts ro NW) (hs : ax_stp ro ct (5, a, b, v, t) i lv st w = some (.inl q)) (hk : ax_ck cl mt NW own nm ret nL lk cc pcs i (5, a, b, v, t) = true) (kk : ax_K p l e R s m args below meth c Q D cl cA h0 a0 b0 rv A nL pcs q.1 q.2.1 q.2.2.1 q.2.2.2) : ax_K p l e R s m args below meth c Q D cl cA h0 a0 b0 rv A nL pcs i lv st w := by
  intro pc ls H locs cells slots hpc hl hI hcs hsl
  obtain ⟨⟨ins, len⟩, hd, hm⟩ := ax_ck_inv hpc hk
  obtain ⟨hx, hb, hml, hown, hts, hK, hrv, hnm, hfr, hlo, hsz, hA, hA0, hRO⟩ := hC
  obtain ⟨hP, hD, hS⟩ := hI
  change ax_m5 cl mt NW own nm ret nL lk pcs pc (decide (pcs[i + 1]? = some (pc + len))) a b v t (ins, len) = true at hm
  change ax_s5 ro ct a b v t i lv st w = some (.inl q) at hs
  unfold ax_m5 at hm
  unfold ax_s5 at hs
  split at hs
  · next x r =>
    cases hs
    split at hm
    · simp only [Bool.and_eq_true, decide_eq_true_eq, Prod.mk.injEq] at hm
      obtain ⟨⟨hn, hnl⟩, rfl, rfl⟩ := hm
      exact lv_istore_n (i := 0) hx hb hd rfl hl hnl (ax_st1_v h0 rv hrv lv 0 (.int x)) (fun ls hl => kk _ ls H locs cells slots hn hl ⟨hP, hD, hS⟩ hcs hsl)
    · simp only [Bool.and_eq_true, decide_eq_true_eq, Prod.mk.injEq] at hm
      obtain ⟨⟨hn, hnl⟩, rfl, rfl⟩ := hm
      exact lv_istore_n (i := 1) hx hb hd rfl hl hnl (ax_st1_v h0 rv hrv lv 1 (.int x)) (fun ls hl => kk _ ls H locs cells slots hn hl ⟨hP, hD, hS⟩ hcs hsl)
    · simp only [Bool.and_eq_true, decide_eq_true_eq, Prod.mk.injEq] at hm
      obtain ⟨⟨hn, hnl⟩, rfl, rfl⟩ := hm
      exact lv_istore_n (i := 2) hx hb hd rfl hl hnl (ax_st1_v h0 rv hrv lv 2 (.int x)) (fun ls hl => kk _ ls H locs cells slots hn hl ⟨hP, hD, hS⟩ hcs hsl)
    · simp only [Bool.and_eq_true, decide_eq_true_eq, Prod.mk.injEq] at hm
      obtain ⟨⟨hn, hnl⟩, rfl, rfl⟩ := hm
      exact lv_istore_n (i := 3) hx hb hd rfl hl hnl (ax_st1_v h0 rv hrv lv 3 (.int x)) (fun ls hl => kk _ ls H locs cells slots hn hl ⟨hP, hD, hS⟩ hcs hsl)
    · simp only [Bool.and_eq_true, decide_eq_true_eq, Prod.mk.injEq] at hm
      obtain ⟨⟨hn, hnl⟩, rfl, rfl⟩ := hm
      exact lv_istore hx hb hd hl hnl (ax_st1_v h0 rv hrv lv a (.int x)) (fun ls hl => kk _ ls H locs cells slots hn hl ⟨hP, hD, hS⟩ hcs hsl)
  · cases hs
theorem ax_g6 {a b i : Nat} {v : Value} {t : List (Int × Nat)} {lv : ax_L} {st : List Value} {w : ax_W} {q : Nat × ax_L × List Value × ax_W} (hC : ax_Cx p R s m args meth c D cl cA h0 a0 rv A nL own nm cc Ts ro NW) (hs : ax_stp ro ct (6, a, b, v, t) i lv st w = some (.inl q)) (hk : ax_ck cl mt NW own nm ret nL lk cc pcs i (6, a, b, v, t) = true) (kk : ax_K p l e R s m args below meth c Q D cl cA h0 a0 b0 rv A nL pcs q.1 q.2.1 q.2.2.1 q.2.2.2) : ax_K p l e R s m args below meth c Q D cl cA h0 a0 b0 rv A nL pcs i lv st w := by
  intro pc ls H locs cells slots hpc hl hI hcs hsl
  obtain ⟨⟨ins, len⟩, hd, hm⟩ := ax_ck_inv hpc hk
  obtain ⟨hx, hb, hml, hown, hts, hK, hrv, hnm, hfr, hlo, hsz, hA, hA0, hRO⟩ := hC
  obtain ⟨hP, hD, hS⟩ := hI
  change ax_m6 cl mt NW own nm ret nL lk pcs pc (decide (pcs[i + 1]? = some (pc + len))) a b v t (ins, len) = true at hm
  change ax_s6 ro ct a b v t i lv st w = some (.inl q) at hs
  unfold ax_m6 at hm
  unfold ax_s6 at hs
  split at hs
  · next x r =>
    cases hs
    split at hm
    · simp only [Bool.and_eq_true, decide_eq_true_eq, Prod.mk.injEq] at hm
      obtain ⟨⟨hn, hnl⟩, rfl, rfl⟩ := hm
      exact lv_astore_n (i := 0) hx hb hd rfl hl hnl (ax_st1_v h0 rv hrv lv 0 (.ref x)) (fun ls hl => kk _ ls H locs cells slots hn hl ⟨hP, hD, hS⟩ hcs hsl)
    · simp only [Bool.and_eq_true, decide_eq_true_eq, Prod.mk.injEq] at hm
      obtain ⟨⟨hn, hnl⟩, rfl, rfl⟩ := hm
      exact lv_astore_n (i := 1) hx hb hd rfl hl hnl (ax_st1_v h0 rv hrv lv 1 (.ref x)) (fun ls hl => kk _ ls H locs cells slots hn hl ⟨hP, hD, hS⟩ hcs hsl)
    · simp only [Bool.and_eq_true, decide_eq_true_eq, Prod.mk.injEq] at hm
      obtain ⟨⟨hn, hnl⟩, rfl, rfl⟩ := hm
      exact lv_astore_n (i := 2) hx hb hd rfl hl hnl (ax_st1_v h0 rv hrv lv 2 (.ref x)) (fun ls hl => kk _ ls H locs cells slots hn hl ⟨hP, hD, hS⟩ hcs hsl)
    · simp only [Bool.and_eq_true, decide_eq_true_eq, Prod.mk.injEq] at hm
      obtain ⟨⟨hn, hnl⟩, rfl, rfl⟩ := hm
      exact lv_astore_n (i := 3) hx hb hd rfl hl hnl (ax_st1_v h0 rv hrv lv 3 (.ref x)) (fun ls hl => kk _ ls H locs cells slots hn hl ⟨hP, hD, hS⟩ hcs hsl)
    · simp only [Bool.and_eq_true, decide_eq_true_eq, Prod.mk.injEq] at hm
      obtain ⟨⟨hn, hnl⟩, rfl, rfl⟩ := hm
      exact lv_astore hx hb hd hl hnl (ax_st1_v h0 rv hrv lv a (.ref x)) (fun ls hl => kk _ ls H locs cells slots hn hl ⟨hP, hD, hS⟩ hcs hsl)
  · cases hs
theorem ax_g7 {a b i : Nat} {v : Value} {t : List (Int × Nat)} {lv : ax_L} {st : List Value} {w : ax_W} {q : Nat × ax_L × List Value × ax_W} (hC : ax_Cx p R s m args meth c D cl cA h0 a0 rv A nL own nm cc Ts ro NW) (hs : ax_stp ro ct (7, a, b, v, t) i lv st w = some (.inl q)) (hk : ax_ck cl mt NW own nm ret nL lk cc pcs i (7, a, b, v, t) = true) (kk : ax_K p l e R s m args below meth c Q D cl cA h0 a0 b0 rv A nL pcs q.1 q.2.1 q.2.2.1 q.2.2.2) : ax_K p l e R s m args below meth c Q D cl cA h0 a0 b0 rv A nL pcs i lv st w := by
  intro pc ls H locs cells slots hpc hl hI hcs hsl
  obtain ⟨⟨ins, len⟩, hd, hm⟩ := ax_ck_inv hpc hk
  obtain ⟨hx, hb, hml, hown, hts, hK, hrv, hnm, hfr, hlo, hsz, hA, hA0, hRO⟩ := hC
  obtain ⟨hP, hD, hS⟩ := hI
  change ax_m7 cl mt NW own nm ret nL lk pcs pc (decide (pcs[i + 1]? = some (pc + len))) a b v t (ins, len) = true at hm
  change ax_s7 ro ct a b v t i lv st w = some (.inl q) at hs
  unfold ax_m7 at hm
  unfold ax_s7 at hs
  split at hs
  · next x r =>
    cases hs
    split at hm
    · simp only [Bool.and_eq_true, decide_eq_true_eq, Prod.mk.injEq] at hm
      obtain ⟨⟨hn, hnl⟩, rfl, rfl⟩ := hm
      exact lv_lstore_n (i := 0) hx hb hd rfl hl hnl (ax_st2_v h0 rv hrv lv 0 (.long x)) (fun ls hl => kk _ ls H locs cells slots hn hl ⟨hP, hD, hS⟩ hcs hsl)
    · simp only [Bool.and_eq_true, decide_eq_true_eq, Prod.mk.injEq] at hm
      obtain ⟨⟨hn, hnl⟩, rfl, rfl⟩ := hm
      exact lv_lstore_n (i := 1) hx hb hd rfl hl hnl (ax_st2_v h0 rv hrv lv 1 (.long x)) (fun ls hl => kk _ ls H locs cells slots hn hl ⟨hP, hD, hS⟩ hcs hsl)
    · simp only [Bool.and_eq_true, decide_eq_true_eq, Prod.mk.injEq] at hm
      obtain ⟨⟨hn, hnl⟩, rfl, rfl⟩ := hm
      exact lv_lstore_n (i := 2) hx hb hd rfl hl hnl (ax_st2_v h0 rv hrv lv 2 (.long x)) (fun ls hl => kk _ ls H locs cells slots hn hl ⟨hP, hD, hS⟩ hcs hsl)
    · simp only [Bool.and_eq_true, decide_eq_true_eq, Prod.mk.injEq] at hm
      obtain ⟨⟨hn, hnl⟩, rfl, rfl⟩ := hm
      exact lv_lstore_n (i := 3) hx hb hd rfl hl hnl (ax_st2_v h0 rv hrv lv 3 (.long x)) (fun ls hl => kk _ ls H locs cells slots hn hl ⟨hP, hD, hS⟩ hcs hsl)
    · simp only [Bool.and_eq_true, decide_eq_true_eq, Prod.mk.injEq] at hm
      obtain ⟨⟨hn, hnl⟩, rfl, rfl⟩ := hm
      exact lv_lstore hx hb hd hl hnl (ax_st2_v h0 rv hrv lv a (.long x)) (fun ls hl => kk _ ls H locs cells slots hn hl ⟨hP, hD, hS⟩ hcs hsl)
  · cases hs
theorem ax_g8 {a b i : Nat} {v : Value} {t : List (Int × Nat)} {lv : ax_L} {st : List Value} {w : ax_W} {q : Nat × ax_L × List Value × ax_W} (hC : ax_Cx p R s m args meth c D cl cA h0 a0 rv A nL own nm cc Ts ro NW) (hs : ax_stp ro ct (8, a, b, v, t) i lv st w = some (.inl q)) (hk : ax_ck cl mt NW own nm ret nL lk cc pcs i (8, a, b, v, t) = true) (kk : ax_K p l e R s m args below meth c Q D cl cA h0 a0 b0 rv A nL pcs q.1 q.2.1 q.2.2.1 q.2.2.2) : ax_K p l e R s m args below meth c Q D cl cA h0 a0 b0 rv A nL pcs i lv st w := by
  intro pc ls H locs cells slots hpc hl hI hcs hsl
  obtain ⟨⟨ins, len⟩, hd, hm⟩ := ax_ck_inv hpc hk
  obtain ⟨hx, hb, hml, hown, hts, hK, hrv, hnm, hfr, hlo, hsz, hA, hA0, hRO⟩ := hC
  obtain ⟨hP, hD, hS⟩ := hI
  change ax_m8 cl mt NW own nm ret nL lk pcs pc (decide (pcs[i + 1]? = some (pc + len))) a b v t (ins, len) = true at hm
  change ax_s8 ro ct a b v t i lv st w = some (.inl q) at hs
  unfold ax_m8 at hm
  unfold ax_s8 at hs
  split at hs
  · next n =>
    split at hs
    · next x hlx =>
      cases hs
      obtain ⟨k9, hk9⟩ := ax_lv_get h0 rv hlx
      split at hm
      · simp only [Bool.and_eq_true, decide_eq_true_eq, Prod.mk.injEq, Value.int.injEq] at hm
        obtain ⟨⟨⟨hn, hnl⟩, rfl, rfl⟩, rfl⟩ := hm
        exact lv_iinc hx hb hd hl hk9 rfl hnl (ax_st1_v h0 rv hrv lv a (.int (x + Int32.ofInt _))) (fun ls hl => kk _ ls H locs cells slots hn hl ⟨hP, hD, hS⟩ hcs hsl)
      · cases hm
    · cases hs
  · cases hs
theorem ax_g9 {a b i : Nat} {v : Value} {t : List (Int × Nat)} {lv : ax_L} {st : List Value} {w : ax_W} {q : Nat × ax_L × List Value × ax_W} (hC : ax_Cx p R s m args meth c D cl cA h0 a0 rv A nL own nm cc Ts ro NW) (hs : ax_stp ro ct (9, a, b, v, t) i lv st w = some (.inl q)) (hk : ax_ck cl mt NW own nm ret nL lk cc pcs i (9, a, b, v, t) = true) (kk : ax_K p l e R s m args below meth c Q D cl cA h0 a0 b0 rv A nL pcs q.1 q.2.1 q.2.2.1 q.2.2.2) : ax_K p l e R s m args below meth c Q D cl cA h0 a0 b0 rv A nL pcs i lv st w := by
  intro pc ls H locs cells slots hpc hl hI hcs hsl
  obtain ⟨⟨ins, len⟩, hd, hm⟩ := ax_ck_inv hpc hk
  obtain ⟨hx, hb, hml, hown, hts, hK, hrv, hnm, hfr, hlo, hsz, hA, hA0, hRO⟩ := hC
  obtain ⟨hP, hD, hS⟩ := hI
  change ax_m9 cl mt NW own nm ret nL lk pcs pc (decide (pcs[i + 1]? = some (pc + len))) a b v t (ins, len) = true at hm
  change ax_s9 ro ct a b v t i lv st w = some (.inl q) at hs
  unfold ax_m9 at hm
  unfold ax_s9 at hs
  split at hs
  · next y x r =>
    split at hs
    · next z hz =>
      cases hs
      split at hm
      · simp only [Bool.and_eq_true, decide_eq_true_eq, Prod.mk.injEq] at hm
        obtain ⟨hn, rfl, rfl⟩ := hm
        unfold ax_bin at hz
        cases hz
        exact lv_iadd hx hb hd (kk _ ls H locs cells slots hn hl ⟨hP, hD, hS⟩ hcs hsl)
      · simp only [Bool.and_eq_true, decide_eq_true_eq, Prod.mk.injEq] at hm
        obtain ⟨hn, rfl, rfl⟩ := hm
        unfold ax_bin at hz
        cases hz
        exact lv_isub hx hb hd (kk _ ls H locs cells slots hn hl ⟨hP, hD, hS⟩ hcs hsl)
      · simp only [Bool.and_eq_true, decide_eq_true_eq, Prod.mk.injEq] at hm
        obtain ⟨hn, rfl, rfl⟩ := hm
        unfold ax_bin at hz
        cases hz
        exact lv_imul hx hb hd (kk _ ls H locs cells slots hn hl ⟨hP, hD, hS⟩ hcs hsl)
      · simp only [Bool.and_eq_true, decide_eq_true_eq, Prod.mk.injEq] at hm
        obtain ⟨hn, rfl, rfl⟩ := hm
        unfold ax_bin at hz
        change (if y = 0 then none else some _) = some z at hz
        split at hz
        · cases hz
        · next hne =>
          cases hz
          exact lv_idiv hx hb hd hne (kk _ ls H locs cells slots hn hl ⟨hP, hD, hS⟩ hcs hsl)
      · simp only [Bool.and_eq_true, decide_eq_true_eq, Prod.mk.injEq] at hm
        obtain ⟨hn, rfl, rfl⟩ := hm
        unfold ax_bin at hz
        change (if y = 0 then none else some _) = some z at hz
        split at hz
        · cases hz
        · next hne =>
          cases hz
          exact lv_irem hx hb hd hne (kk _ ls H locs cells slots hn hl ⟨hP, hD, hS⟩ hcs hsl)
      · simp only [Bool.and_eq_true, decide_eq_true_eq, Prod.mk.injEq] at hm
        obtain ⟨hn, rfl, rfl⟩ := hm
        unfold ax_bin at hz
        cases hz
        exact lv_ishl hx hb hd (kk _ ls H locs cells slots hn hl ⟨hP, hD, hS⟩ hcs hsl)
      · simp only [Bool.and_eq_true, decide_eq_true_eq, Prod.mk.injEq] at hm
        obtain ⟨hn, rfl, rfl⟩ := hm
        unfold ax_bin at hz
        cases hz
        exact lv_ishr hx hb hd (kk _ ls H locs cells slots hn hl ⟨hP, hD, hS⟩ hcs hsl)
      · simp only [Bool.and_eq_true, decide_eq_true_eq, Prod.mk.injEq] at hm
        obtain ⟨hn, rfl, rfl⟩ := hm
        unfold ax_bin at hz
        cases hz
        exact lv_iushr hx hb hd rfl (kk _ ls H locs cells slots hn hl ⟨hP, hD, hS⟩ hcs hsl)
      · simp only [Bool.and_eq_true, decide_eq_true_eq, Prod.mk.injEq] at hm
        obtain ⟨hn, rfl, rfl⟩ := hm
        unfold ax_bin at hz
        cases hz
        exact lv_iand hx hb hd (kk _ ls H locs cells slots hn hl ⟨hP, hD, hS⟩ hcs hsl)
      · simp only [Bool.and_eq_true, decide_eq_true_eq, Prod.mk.injEq] at hm
        obtain ⟨hn, rfl, rfl⟩ := hm
        unfold ax_bin at hz
        cases hz
        exact lv_ior hx hb hd (kk _ ls H locs cells slots hn hl ⟨hP, hD, hS⟩ hcs hsl)
      · simp only [Bool.and_eq_true, decide_eq_true_eq, Prod.mk.injEq] at hm
        obtain ⟨hn, rfl, rfl⟩ := hm
        unfold ax_bin at hz
        cases hz
        exact lv_ixor hx hb hd (kk _ ls H locs cells slots hn hl ⟨hP, hD, hS⟩ hcs hsl)
      · simp at hm
    · cases hs
  · cases hs
theorem ax_g10 {a b i : Nat} {v : Value} {t : List (Int × Nat)} {lv : ax_L} {st : List Value} {w : ax_W} {q : Nat × ax_L × List Value × ax_W} (hC : ax_Cx p R s m args meth c D cl cA h0 a0 rv A nL own nm cc Ts ro NW) (hs : ax_stp ro ct (10, a, b, v, t) i lv st w = some (.inl q)) (hk : ax_ck cl mt NW own nm ret nL lk cc pcs i (10, a, b, v, t) = true) (kk : ax_K p l e R s m args below meth c Q D cl cA h0 a0 b0 rv A nL pcs q.1 q.2.1 q.2.2.1 q.2.2.2) : ax_K p l e R s m args below meth c Q D cl cA h0 a0 b0 rv A nL pcs i lv st w := by
  intro pc ls H locs cells slots hpc hl hI hcs hsl
  obtain ⟨⟨ins, len⟩, hd, hm⟩ := ax_ck_inv hpc hk
  obtain ⟨hx, hb, hml, hown, hts, hK, hrv, hnm, hfr, hlo, hsz, hA, hA0, hRO⟩ := hC
  obtain ⟨hP, hD, hS⟩ := hI
  change ax_m10 cl mt NW own nm ret nL lk pcs pc (decide (pcs[i + 1]? = some (pc + len))) a b v t (ins, len) = true at hm
  change ax_s10 ro ct a b v t i lv st w = some (.inl q) at hs
  unfold ax_m10 at hm
  unfold ax_s10 at hs
  split at hs
  · next x r =>
    split at hs
    · next z hz =>
      cases hs
      split at hm
      · simp only [Bool.and_eq_true, decide_eq_true_eq, Prod.mk.injEq] at hm
        obtain ⟨hn, rfl, rfl⟩ := hm
        unfold ax_un at hz
        cases hz
        exact lv_ineg hx hb hd (kk _ ls H locs cells slots hn hl ⟨hP, hD, hS⟩ hcs hsl)
      · simp only [Bool.and_eq_true, decide_eq_true_eq, Prod.mk.injEq] at hm
        obtain ⟨hn, rfl, rfl⟩ := hm
        unfold ax_un at hz
        cases hz
        exact lv_i2b hx hb hd rfl (kk _ ls H locs cells slots hn hl ⟨hP, hD, hS⟩ hcs hsl)
      · simp only [Bool.and_eq_true, decide_eq_true_eq, Prod.mk.injEq] at hm
        obtain ⟨hn, rfl, rfl⟩ := hm
        unfold ax_un at hz
        cases hz
        exact lv_i2c hx hb hd rfl (kk _ ls H locs cells slots hn hl ⟨hP, hD, hS⟩ hcs hsl)
      · simp at hm
    · cases hs
  · cases hs
theorem ax_g11 {a b i : Nat} {v : Value} {t : List (Int × Nat)} {lv : ax_L} {st : List Value} {w : ax_W} {q : Nat × ax_L × List Value × ax_W} (hC : ax_Cx p R s m args meth c D cl cA h0 a0 rv A nL own nm cc Ts ro NW) (hs : ax_stp ro ct (11, a, b, v, t) i lv st w = some (.inl q)) (hk : ax_ck cl mt NW own nm ret nL lk cc pcs i (11, a, b, v, t) = true) (kk : ax_K p l e R s m args below meth c Q D cl cA h0 a0 b0 rv A nL pcs q.1 q.2.1 q.2.2.1 q.2.2.2) : ax_K p l e R s m args below meth c Q D cl cA h0 a0 b0 rv A nL pcs i lv st w := by
  intro pc ls H locs cells slots hpc hl hI hcs hsl
  obtain ⟨⟨ins, len⟩, hd, hm⟩ := ax_ck_inv hpc hk
  obtain ⟨hx, hb, hml, hown, hts, hK, hrv, hnm, hfr, hlo, hsz, hA, hA0, hRO⟩ := hC
  obtain ⟨hP, hD, hS⟩ := hI
  change ax_m11 cl mt NW own nm ret nL lk pcs pc (decide (pcs[i + 1]? = some (pc + len))) a b v t (ins, len) = true at hm
  change ax_s11 ro ct a b v t i lv st w = some (.inl q) at hs
  unfold ax_m11 at hm
  unfold ax_s11 at hs
  split at hs
  · next x r =>
    cases hs
    simp only [Bool.and_eq_true, decide_eq_true_eq, Prod.mk.injEq] at hm
    obtain ⟨hn, rfl, rfl⟩ := hm
    exact lv_i2l hx hb hd rfl (kk _ ls H locs cells slots hn hl ⟨hP, hD, hS⟩ hcs hsl)
  · cases hs
theorem ax_g12 {a b i : Nat} {v : Value} {t : List (Int × Nat)} {lv : ax_L} {st : List Value} {w : ax_W} {q : Nat × ax_L × List Value × ax_W} (hC : ax_Cx p R s m args meth c D cl cA h0 a0 rv A nL own nm cc Ts ro NW) (hs : ax_stp ro ct (12, a, b, v, t) i lv st w = some (.inl q)) (hk : ax_ck cl mt NW own nm ret nL lk cc pcs i (12, a, b, v, t) = true) (kk : ax_K p l e R s m args below meth c Q D cl cA h0 a0 b0 rv A nL pcs q.1 q.2.1 q.2.2.1 q.2.2.2) : ax_K p l e R s m args below meth c Q D cl cA h0 a0 b0 rv A nL pcs i lv st w := by
  intro pc ls H locs cells slots hpc hl hI hcs hsl
  obtain ⟨⟨ins, len⟩, hd, hm⟩ := ax_ck_inv hpc hk
  obtain ⟨hx, hb, hml, hown, hts, hK, hrv, hnm, hfr, hlo, hsz, hA, hA0, hRO⟩ := hC
  obtain ⟨hP, hD, hS⟩ := hI
  change ax_m12 cl mt NW own nm ret nL lk pcs pc (decide (pcs[i + 1]? = some (pc + len))) a b v t (ins, len) = true at hm
  change ax_s12 ro ct a b v t i lv st w = some (.inl q) at hs
  unfold ax_m12 at hm
  unfold ax_s12 at hs
  split at hs
  · next y x r =>
    split at hs
    · next z hz =>
      cases hs
      split at hm
      · simp only [Bool.and_eq_true, decide_eq_true_eq, Prod.mk.injEq] at hm
        obtain ⟨hn, rfl, rfl⟩ := hm
        unfold ax_lbin at hz
        cases hz
        exact lv_ladd hx hb hd (kk _ ls H locs cells slots hn hl ⟨hP, hD, hS⟩ hcs hsl)
      · simp only [Bool.and_eq_true, decide_eq_true_eq, Prod.mk.injEq] at hm
        obtain ⟨hn, rfl, rfl⟩ := hm
        unfold ax_lbin at hz
        cases hz
        exact lv_lmul hx hb hd (kk _ ls H locs cells slots hn hl ⟨hP, hD, hS⟩ hcs hsl)
      · simp at hm
    · cases hs
  · cases hs
theorem ax_g13 {a b i : Nat} {v : Value} {t : List (Int × Nat)} {lv : ax_L} {st : List Value} {w : ax_W} {q : Nat × ax_L × List Value × ax_W} (hC : ax_Cx p R s m args meth c D cl cA h0 a0 rv A nL own nm cc Ts ro NW) (hs : ax_stp ro ct (13, a, b, v, t) i lv st w = some (.inl q)) (hk : ax_ck cl mt NW own nm ret nL lk cc pcs i (13, a, b, v, t) = true) (kk : ax_K p l e R s m args below meth c Q D cl cA h0 a0 b0 rv A nL pcs q.1 q.2.1 q.2.2.1 q.2.2.2) : ax_K p l e R s m args below meth c Q D cl cA h0 a0 b0 rv A nL pcs i lv st w := by
  intro pc ls H locs cells slots hpc hl hI hcs hsl
  obtain ⟨⟨ins, len⟩, hd, hm⟩ := ax_ck_inv hpc hk
  obtain ⟨hx, hb, hml, hown, hts, hK, hrv, hnm, hfr, hlo, hsz, hA, hA0, hRO⟩ := hC
  obtain ⟨hP, hD, hS⟩ := hI
  change ax_m13 cl mt NW own nm ret nL lk pcs pc (decide (pcs[i + 1]? = some (pc + len))) a b v t (ins, len) = true at hm
  change ax_s13 ro ct a b v t i lv st w = some (.inl q) at hs
  unfold ax_m13 at hm
  unfold ax_s13 at hs
  split at hs
  · next y x r =>
    cases hs
    simp only [Bool.and_eq_true, decide_eq_true_eq, Prod.mk.injEq] at hm
    obtain ⟨hn, rfl, rfl⟩ := hm
    exact W.lcmp hx hb hd (kk _ ls H locs cells slots hn hl ⟨hP, hD, hS⟩ hcs hsl)
  · cases hs
theorem ax_g14 {a b i : Nat} {v : Value} {t : List (Int × Nat)} {lv : ax_L} {st : List Value} {w : ax_W} {q : Nat × ax_L × List Value × ax_W} (hC : ax_Cx p R s m args meth c D cl cA h0 a0 rv A nL own nm cc Ts ro NW) (hs : ax_stp ro ct (14, a, b, v, t) i lv st w = some (.inl q)) (hk : ax_ck cl mt NW own nm ret nL lk cc pcs i (14, a, b, v, t) = true) (kk : ax_K p l e R s m args below meth c Q D cl cA h0 a0 b0 rv A nL pcs q.1 q.2.1 q.2.2.1 q.2.2.2) : ax_K p l e R s m args below meth c Q D cl cA h0 a0 b0 rv A nL pcs i lv st w := by
  intro pc ls H locs cells slots hpc hl hI hcs hsl
  obtain ⟨⟨ins, len⟩, hd, hm⟩ := ax_ck_inv hpc hk
  obtain ⟨hx, hb, hml, hown, hts, hK, hrv, hnm, hfr, hlo, hsz, hA, hA0, hRO⟩ := hC
  obtain ⟨hP, hD, hS⟩ := hI
  change ax_m14 cl mt NW own nm ret nL lk pcs pc (decide (pcs[i + 1]? = some (pc + len))) a b v t (ins, len) = true at hm
  change ax_s14 ro ct a b v t i lv st w = some (.inl q) at hs
  unfold ax_m14 at hm
  unfold ax_s14 at hs
  split at hs
  · next u r =>
    split at hs
    · next hu =>
      cases hs
      simp only [Bool.and_eq_true, decide_eq_true_eq, Prod.mk.injEq] at hm
      obtain ⟨hn, rfl, rfl⟩ := hm
      exact lv_dup hx hb hd (by rw [ax_v_cat h0 rv hrv]; exact hu) (kk _ ls H locs cells slots hn hl ⟨hP, hD, hS⟩ hcs hsl)
    · cases hs
  · cases hs
theorem ax_g15 {a b i : Nat} {v : Value} {t : List (Int × Nat)} {lv : ax_L} {st : List Value} {w : ax_W} {q : Nat × ax_L × List Value × ax_W} (hC : ax_Cx p R s m args meth c D cl cA h0 a0 rv A nL own nm cc Ts ro NW) (hs : ax_stp ro ct (15, a, b, v, t) i lv st w = some (.inl q)) (hk : ax_ck cl mt NW own nm ret nL lk cc pcs i (15, a, b, v, t) = true) (kk : ax_K p l e R s m args below meth c Q D cl cA h0 a0 b0 rv A nL pcs q.1 q.2.1 q.2.2.1 q.2.2.2) : ax_K p l e R s m args below meth c Q D cl cA h0 a0 b0 rv A nL pcs i lv st w := by
  intro pc ls H locs cells slots hpc hl hI hcs hsl
  obtain ⟨⟨ins, len⟩, hd, hm⟩ := ax_ck_inv hpc hk
  obtain ⟨hx, hb, hml, hown, hts, hK, hrv, hnm, hfr, hlo, hsz, hA, hA0, hRO⟩ := hC
  obtain ⟨hP, hD, hS⟩ := hI
  change ax_m15 cl mt NW own nm ret nL lk pcs pc (decide (pcs[i + 1]? = some (pc + len))) a b v t (ins, len) = true at hm
  change ax_s15 ro ct a b v t i lv st w = some (.inl q) at hs
  unfold ax_m15 at hm
  unfold ax_s15 at hs
  split at hs
  · next u r =>
    split at hs
    · next hu =>
      cases hs
      simp only [Bool.and_eq_true, decide_eq_true_eq, Prod.mk.injEq] at hm
      obtain ⟨hn, rfl, rfl⟩ := hm
      exact lv_pop hx hb hd (by rw [ax_v_cat h0 rv hrv]; exact hu) (kk _ ls H locs cells slots hn hl ⟨hP, hD, hS⟩ hcs hsl)
    · cases hs
  · cases hs
theorem ax_g16 {a b i : Nat} {v : Value} {t : List (Int × Nat)} {lv : ax_L} {st : List Value} {w : ax_W} {q : Nat × ax_L × List Value × ax_W} (hC : ax_Cx p R s m args meth c D cl cA h0 a0 rv A nL own nm cc Ts ro NW) (hs : ax_stp ro ct (16, a, b, v, t) i lv st w = some (.inl q)) (hk : ax_ck cl mt NW own nm ret nL lk cc pcs i (16, a, b, v, t) = true) (kk : ax_K p l e R s m args below meth c Q D cl cA h0 a0 b0 rv A nL pcs q.1 q.2.1 q.2.2.1 q.2.2.2) : ax_K p l e R s m args below meth c Q D cl cA h0 a0 b0 rv A nL pcs i lv st w := by
  intro pc ls H locs cells slots hpc hl hI hcs hsl
  obtain ⟨⟨ins, len⟩, hd, hm⟩ := ax_ck_inv hpc hk
  obtain ⟨hx, hb, hml, hown, hts, hK, hrv, hnm, hfr, hlo, hsz, hA, hA0, hRO⟩ := hC
  obtain ⟨hP, hD, hS⟩ := hI
  change ax_m16 cl mt NW own nm ret nL lk pcs pc (decide (pcs[i + 1]? = some (pc + len))) a b v t (ins, len) = true at hm
  change ax_s16 ro ct a b v t i lv st w = some (.inl q) at hs
  unfold ax_m16 at hm
  unfold ax_s16 at hs
  split at hs
  · next u u2 r =>
    split at hs
    · next hu =>
      cases hs
      simp only [Bool.and_eq_true, decide_eq_true_eq, Prod.mk.injEq] at hm
      obtain ⟨hn, rfl, rfl⟩ := hm
      exact lv_dup2_11 hx hb hd (by rw [ax_v_cat h0 rv hrv]; exact hu.1) (by rw [ax_v_cat h0 rv hrv]; exact hu.2) (kk _ ls H locs cells slots hn hl ⟨hP, hD, hS⟩ hcs hsl)
    · cases hs
  · cases hs
theorem ax_g17 {a b i : Nat} {v : Value} {t : List (Int × Nat)} {lv : ax_L} {st : List Value} {w : ax_W} {q : Nat × ax_L × List Value × ax_W} (hC : ax_Cx p R s m args meth c D cl cA h0 a0 rv A nL own nm cc Ts ro NW) (hs : ax_stp ro ct (17, a, b, v, t) i lv st w = some (.inl q)) (hk : ax_ck cl mt NW own nm ret nL lk cc pcs i (17, a, b, v, t) = true) (kk : ax_K p l e R s m args below meth c Q D cl cA h0 a0 b0 rv A nL pcs q.1 q.2.1 q.2.2.1 q.2.2.2) : ax_K p l e R s m args below meth c Q D cl cA h0 a0 b0 rv A nL pcs i lv st w := by
  intro pc ls H locs cells slots hpc hl hI hcs hsl
  obtain ⟨⟨ins, len⟩, hd, hm⟩ := ax_ck_inv hpc hk
  obtain ⟨hx, hb, hml, hown, hts, hK, hrv, hnm, hfr, hlo, hsz, hA, hA0, hRO⟩ := hC
  obtain ⟨hP, hD, hS⟩ := hI
  change ax_m17 cl mt NW own nm ret nL lk pcs pc (decide (pcs[i + 1]? = some (pc + len))) a b v t (ins, len) = true at hm
  change ax_s17 ro ct a b v t i lv st w = some (.inl q) at hs
  unfold ax_m17 at hm
  unfold ax_s17 at hs
  cases hs
  simp only [Bool.and_eq_true, decide_eq_true_eq, Prod.mk.injEq] at hm
  obtain ⟨hal, rfl, rfl⟩ := hm
  obtain ⟨tp, hn, htp⟩ := ax_tp_get hal
  exact lv_goto (tgt := tp) hx hb hd (ax_off htp) (kk _ ls H locs cells slots hn hl ⟨hP, hD, hS⟩ hcs hsl)
theorem ax_g18 {a b i : Nat} {v : Value} {t : List (Int × Nat)} {lv : ax_L} {st : List Value} {w : ax_W} {q : Nat × ax_L × List Value × ax_W} (hC : ax_Cx p R s m args meth c D cl cA h0 a0 rv A nL own nm cc Ts ro NW) (hs : ax_stp ro ct (18, a, b, v, t) i lv st w = some (.inl q)) (hk : ax_ck cl mt NW own nm ret nL lk cc pcs i (18, a, b, v, t) = true) (kk : ax_K p l e R s m args below meth c Q D cl cA h0 a0 b0 rv A nL pcs q.1 q.2.1 q.2.2.1 q.2.2.2) : ax_K p l e R s m args below meth c Q D cl cA h0 a0 b0 rv A nL pcs i lv st w := by
  intro pc ls H locs cells slots hpc hl hI hcs hsl
  obtain ⟨⟨ins, len⟩, hd, hm⟩ := ax_ck_inv hpc hk
  obtain ⟨hx, hb, hml, hown, hts, hK, hrv, hnm, hfr, hlo, hsz, hA, hA0, hRO⟩ := hC
  obtain ⟨hP, hD, hS⟩ := hI
  change ax_m18 cl mt NW own nm ret nL lk pcs pc (decide (pcs[i + 1]? = some (pc + len))) a b v t (ins, len) = true at hm
  change ax_s18 ro ct a b v t i lv st w = some (.inl q) at hs
  unfold ax_m18 at hm
  unfold ax_s18 at hs
  split at hs
  · next y x r =>
    cases hs
    simp only [Bool.and_eq_true, decide_eq_true_eq, Prod.mk.injEq] at hm
    obtain ⟨⟨hn, hal⟩, hq⟩ := hm
    obtain ⟨tp, hn2, htp⟩ := ax_tp_get hal
    have g1 : ax_cmp b x y = true → ax_K p l e R s m args below meth c Q D cl cA h0 a0 b0 rv A nL pcs a lv r w := fun hc => by rw [hc] at kk; exact kk
    have g2 : ax_cmp b x y = false → ax_K p l e R s m args below meth c Q D cl cA h0 a0 b0 rv A nL pcs (i + 1) lv r w := fun hc => by rw [hc] at kk; exact kk
    match b, hq, g1, g2 with
    | 0, hq, g1, g2 =>
      obtain ⟨rfl, rfl⟩ := Prod.mk.inj hq
      exact lv_icmp_eq (tgt := tp) hx hb hd (ax_off htp) (fun h => g1 (decide_eq_true h) _ ls H locs cells slots hn2 hl ⟨hP, hD, hS⟩ hcs hsl) (fun h => g2 (decide_eq_false h) _ ls H locs cells slots hn hl ⟨hP, hD, hS⟩ hcs hsl)
    | 1, hq, g1, g2 =>
      obtain ⟨rfl, rfl⟩ := Prod.mk.inj hq
      exact lv_icmp_ne (tgt := tp) hx hb hd (ax_off htp) (fun h => g1 (decide_eq_true h) _ ls H locs cells slots hn2 hl ⟨hP, hD, hS⟩ hcs hsl) (fun h => g2 (decide_eq_false (fun z => z h)) _ ls H locs cells slots hn hl ⟨hP, hD, hS⟩ hcs hsl)
    | 2, hq, g1, g2 =>
      obtain ⟨rfl, rfl⟩ := Prod.mk.inj hq
      exact lv_icmp_lt (tgt := tp) hx hb hd (ax_off htp) (fun h => g1 (decide_eq_true h) _ ls H locs cells slots hn2 hl ⟨hP, hD, hS⟩ hcs hsl) (fun h => g2 (decide_eq_false h) _ ls H locs cells slots hn hl ⟨hP, hD, hS⟩ hcs hsl)
    | 3, hq, g1, g2 =>
      obtain ⟨rfl, rfl⟩ := Prod.mk.inj hq
      exact lv_icmp_ge (tgt := tp) hx hb hd (ax_off htp) (fun h => g1 (decide_eq_true h) _ ls H locs cells slots hn2 hl ⟨hP, hD, hS⟩ hcs hsl) (fun h => g2 (decide_eq_false h) _ ls H locs cells slots hn hl ⟨hP, hD, hS⟩ hcs hsl)
    | 4, hq, g1, g2 =>
      obtain ⟨rfl, rfl⟩ := Prod.mk.inj hq
      exact lv_icmp_gt (tgt := tp) hx hb hd (ax_off htp) (fun h => g1 (decide_eq_true h) _ ls H locs cells slots hn2 hl ⟨hP, hD, hS⟩ hcs hsl) (fun h => g2 (decide_eq_false h) _ ls H locs cells slots hn hl ⟨hP, hD, hS⟩ hcs hsl)
    | k + 5, hq, g1, g2 =>
      obtain ⟨rfl, rfl⟩ := Prod.mk.inj hq
      exact lv_icmp_le (tgt := tp) hx hb hd (ax_off htp) (fun h => g1 (decide_eq_true h) _ ls H locs cells slots hn2 hl ⟨hP, hD, hS⟩ hcs hsl) (fun h => g2 (decide_eq_false h) _ ls H locs cells slots hn hl ⟨hP, hD, hS⟩ hcs hsl)
  · cases hs
theorem ax_g19 {a b i : Nat} {v : Value} {t : List (Int × Nat)} {lv : ax_L} {st : List Value} {w : ax_W} {q : Nat × ax_L × List Value × ax_W} (hC : ax_Cx p R s m args meth c D cl cA h0 a0 rv A nL own nm cc Ts ro NW) (hs : ax_stp ro ct (19, a, b, v, t) i lv st w = some (.inl q)) (hk : ax_ck cl mt NW own nm ret nL lk cc pcs i (19, a, b, v, t) = true) (kk : ax_K p l e R s m args below meth c Q D cl cA h0 a0 b0 rv A nL pcs q.1 q.2.1 q.2.2.1 q.2.2.2) : ax_K p l e R s m args below meth c Q D cl cA h0 a0 b0 rv A nL pcs i lv st w := by
  intro pc ls H locs cells slots hpc hl hI hcs hsl
  obtain ⟨⟨ins, len⟩, hd, hm⟩ := ax_ck_inv hpc hk
  obtain ⟨hx, hb, hml, hown, hts, hK, hrv, hnm, hfr, hlo, hsz, hA, hA0, hRO⟩ := hC
  obtain ⟨hP, hD, hS⟩ := hI
  change ax_m19 cl mt NW own nm ret nL lk pcs pc (decide (pcs[i + 1]? = some (pc + len))) a b v t (ins, len) = true at hm
  change ax_s19 ro ct a b v t i lv st w = some (.inl q) at hs
  unfold ax_m19 at hm
  unfold ax_s19 at hs
  split at hs
  · next x r =>
    cases hs
    simp only [Bool.and_eq_true, decide_eq_true_eq, Prod.mk.injEq] at hm
    obtain ⟨⟨hn, hal⟩, hq⟩ := hm
    obtain ⟨tp, hn2, htp⟩ := ax_tp_get hal
    have g1 : ax_cmp b x 0 = true → ax_K p l e R s m args below meth c Q D cl cA h0 a0 b0 rv A nL pcs a lv r w := fun hc => by rw [hc] at kk; exact kk
    have g2 : ax_cmp b x 0 = false → ax_K p l e R s m args below meth c Q D cl cA h0 a0 b0 rv A nL pcs (i + 1) lv r w := fun hc => by rw [hc] at kk; exact kk
    match b, hq, g1, g2 with
    | 0, hq, g1, g2 =>
      obtain ⟨rfl, rfl⟩ := Prod.mk.inj hq
      exact lv_if_eq (tgt := tp) hx hb hd (ax_off htp) (fun h => g1 (decide_eq_true h) _ ls H locs cells slots hn2 hl ⟨hP, hD, hS⟩ hcs hsl) (fun h => g2 (decide_eq_false h) _ ls H locs cells slots hn hl ⟨hP, hD, hS⟩ hcs hsl)
    | 1, hq, g1, g2 =>
      obtain ⟨rfl, rfl⟩ := Prod.mk.inj hq
      exact lv_if_ne (tgt := tp) hx hb hd (ax_off htp) (fun h => g1 (decide_eq_true h) _ ls H locs cells slots hn2 hl ⟨hP, hD, hS⟩ hcs hsl) (fun h => g2 (decide_eq_false (fun z => z h)) _ ls H locs cells slots hn hl ⟨hP, hD, hS⟩ hcs hsl)
    | 2, hq, g1, g2 =>
      obtain ⟨rfl, rfl⟩ := Prod.mk.inj hq
      exact lv_if_lt (tgt := tp) hx hb hd (ax_off htp) (fun h => g1 (decide_eq_true h) _ ls H locs cells slots hn2 hl ⟨hP, hD, hS⟩ hcs hsl) (fun h => g2 (decide_eq_false h) _ ls H locs cells slots hn hl ⟨hP, hD, hS⟩ hcs hsl)
    | 3, hq, g1, g2 =>
      obtain ⟨rfl, rfl⟩ := Prod.mk.inj hq
      exact lv_if_ge (tgt := tp) hx hb hd (ax_off htp) (fun h => g1 (decide_eq_true h) _ ls H locs cells slots hn2 hl ⟨hP, hD, hS⟩ hcs hsl) (fun h => g2 (decide_eq_false h) _ ls H locs cells slots hn hl ⟨hP, hD, hS⟩ hcs hsl)
    | 4, hq, g1, g2 =>
      obtain ⟨rfl, rfl⟩ := Prod.mk.inj hq
      exact lv_if_gt (tgt := tp) hx hb hd (ax_off htp) (fun h => g1 (decide_eq_true h) _ ls H locs cells slots hn2 hl ⟨hP, hD, hS⟩ hcs hsl) (fun h => g2 (decide_eq_false h) _ ls H locs cells slots hn hl ⟨hP, hD, hS⟩ hcs hsl)
    | k + 5, hq, g1, g2 =>
      obtain ⟨rfl, rfl⟩ := Prod.mk.inj hq
      exact lv_if_le (tgt := tp) hx hb hd (ax_off htp) (fun h => g1 (decide_eq_true h) _ ls H locs cells slots hn2 hl ⟨hP, hD, hS⟩ hcs hsl) (fun h => g2 (decide_eq_false h) _ ls H locs cells slots hn hl ⟨hP, hD, hS⟩ hcs hsl)
  · cases hs
theorem ax_g20 {a b i : Nat} {v : Value} {t : List (Int × Nat)} {lv : ax_L} {st : List Value} {w : ax_W} {q : Nat × ax_L × List Value × ax_W} (hC : ax_Cx p R s m args meth c D cl cA h0 a0 rv A nL own nm cc Ts ro NW) (hs : ax_stp ro ct (20, a, b, v, t) i lv st w = some (.inl q)) (hk : ax_ck cl mt NW own nm ret nL lk cc pcs i (20, a, b, v, t) = true) (kk : ax_K p l e R s m args below meth c Q D cl cA h0 a0 b0 rv A nL pcs q.1 q.2.1 q.2.2.1 q.2.2.2) : ax_K p l e R s m args below meth c Q D cl cA h0 a0 b0 rv A nL pcs i lv st w := by
  intro pc ls H locs cells slots hpc hl hI hcs hsl
  obtain ⟨⟨ins, len⟩, hd, hm⟩ := ax_ck_inv hpc hk
  obtain ⟨hx, hb, hml, hown, hts, hK, hrv, hnm, hfr, hlo, hsz, hA, hA0, hRO⟩ := hC
  obtain ⟨hP, hD, hS⟩ := hI
  change ax_m20 cl mt NW own nm ret nL lk pcs pc (decide (pcs[i + 1]? = some (pc + len))) a b v t (ins, len) = true at hm
  change ax_s20 ro ct a b v t i lv st w = some (.inl q) at hs
  unfold ax_m20 at hm
  unfold ax_s20 at hs
  split at hs
  · next x r =>
    cases hs
    simp only [Bool.and_eq_true, decide_eq_true_eq, Prod.mk.injEq] at hm
    obtain ⟨hn, rfl, rfl⟩ := hm
    exact lv_ifnull hx hb hd (kk _ ls H locs cells slots hn hl ⟨hP, hD, hS⟩ hcs hsl)
  · cases hs
theorem ax_g21 {a b i : Nat} {v : Value} {t : List (Int × Nat)} {lv : ax_L} {st : List Value} {w : ax_W} {q : Nat × ax_L × List Value × ax_W} (hC : ax_Cx p R s m args meth c D cl cA h0 a0 rv A nL own nm cc Ts ro NW) (hs : ax_stp ro ct (21, a, b, v, t) i lv st w = some (.inl q)) (hk : ax_ck cl mt NW own nm ret nL lk cc pcs i (21, a, b, v, t) = true) (kk : ax_K p l e R s m args below meth c Q D cl cA h0 a0 b0 rv A nL pcs q.1 q.2.1 q.2.2.1 q.2.2.2) : ax_K p l e R s m args below meth c Q D cl cA h0 a0 b0 rv A nL pcs i lv st w := by
  intro pc ls H locs cells slots hpc hl hI hcs hsl
  obtain ⟨⟨ins, len⟩, hd, hm⟩ := ax_ck_inv hpc hk
  obtain ⟨hx, hb, hml, hown, hts, hK, hrv, hnm, hfr, hlo, hsz, hA, hA0, hRO⟩ := hC
  obtain ⟨hP, hD, hS⟩ := hI
  change ax_m21 cl mt NW own nm ret nL lk pcs pc (decide (pcs[i + 1]? = some (pc + len))) a b v t (ins, len) = true at hm
  change ax_s21 ro ct a b v t i lv st w = some (.inl q) at hs
  unfold ax_m21 at hm
  unfold ax_s21 at hs
  split at hs
  · next x r =>
    cases hs
    simp only [Bool.and_eq_true, decide_eq_true_eq, Prod.mk.injEq] at hm
    obtain ⟨hal, rfl, rfl⟩ := hm
    obtain ⟨tp, hn, htp⟩ := ax_tp_get hal
    exact lv_ifnonnull (tgt := tp) hx hb hd (ax_off htp) (kk _ ls H locs cells slots hn hl ⟨hP, hD, hS⟩ hcs hsl)
  · cases hs
theorem ax_g22 {a b i : Nat} {v : Value} {t : List (Int × Nat)} {lv : ax_L} {st : List Value} {w : ax_W} {q : Nat × ax_L × List Value × ax_W} (hC : ax_Cx p R s m args meth c D cl cA h0 a0 rv A nL own nm cc Ts ro NW) (hlk : ∀ w ∈ lk, w ∈ Ts) (hCl : ax_Cl cl ct Ts) (hs : ax_stp ro ct (22, a, b, v, t) i lv st w = some (.inl q)) (hk : ax_ck cl mt NW own nm ret nL lk cc pcs i (22, a, b, v, t) = true) (kk : ax_K p l e R s m args below meth c Q D cl cA h0 a0 b0 rv A nL pcs q.1 q.2.1 q.2.2.1 q.2.2.2) : ax_K p l e R s m args below meth c Q D cl cA h0 a0 b0 rv A nL pcs i lv st w := by
  intro pc ls H locs cells slots hpc hl hI hcs hsl
  obtain ⟨⟨ins, len⟩, hd, hm⟩ := ax_ck_inv hpc hk
  obtain ⟨hx, hb, hml, hown, hts, hK, hrv, hnm, hfr, hlo, hsz, hA, hA0, hRO⟩ := hC
  obtain ⟨hP, hD, hS⟩ := hI
  change ax_m22 cl mt NW own nm ret nL lk pcs pc (decide (pcs[i + 1]? = some (pc + len))) a b v t (ins, len) = true at hm
  change ax_s22 ro ct a b v t i lv st w = some (.inl q) at hs
  unfold ax_m22 at hm
  unfold ax_s22 at hs
  split at hs
  · next k r =>
    split at hs
    · next ci fs hw =>
      split at hs
      · next hca =>
        subst hca
        split at hs
        · next u hu =>
          cases hs
          split at hm
          · next n9 r9 C9 hc9 =>
            simp only [Bool.and_eq_true, decide_eq_true_eq, Prod.mk.injEq] at hm
            obtain ⟨⟨⟨hn, rfl, rfl⟩, hbN⟩, hwl⟩ := hm
            obtain ⟨ts, -, -, -, -, hin, -⟩ := hCl _ _ hc9
            exact va_get (D := D) (ci := ci) (v := ax_v h0 rv u) (C := C9.1) (T := C9.2.1) (N := C9.2.2) hx hb hts hin hown hK hP k (ax_w_get hw) hc9 b hbN (hts _ (hlk _ (List.mem_of_getElem? hwl))) (fun _ h9 => h9) (by simp [hu]) hd (kk _ ls H locs cells slots hn hl ⟨hP, hD, hS⟩ hcs hsl)
          · cases hm
        · cases hs
      · cases hs
    · cases hs
  · cases hs
theorem ax_g56 {a b i : Nat} {v : Value} {t : List (Int × Nat)} {lv : ax_L} {st : List Value} {w : ax_W} {q : Nat × ax_L × List Value × ax_W} (hC : ax_Cx p R s m args meth c D cl cA h0 a0 rv A nL own nm cc Ts ro NW) (hlk : ∀ w ∈ lk, w ∈ Ts) (hCl : ax_Cl cl ct Ts) (hs : ax_stp ro ct (56, a, b, v, t) i lv st w = some (.inl q)) (hk : ax_ck cl mt NW own nm ret nL lk cc pcs i (56, a, b, v, t) = true) (kk : ax_K p l e R s m args below meth c Q D cl cA h0 a0 b0 rv A nL pcs q.1 q.2.1 q.2.2.1 q.2.2.2) : ax_K p l e R s m args below meth c Q D cl cA h0 a0 b0 rv A nL pcs i lv st w := by
  intro pc ls H locs cells slots hpc hl hI hcs hsl
  obtain ⟨⟨ins, len⟩, hd, hm⟩ := ax_ck_inv hpc hk
  obtain ⟨hx, hb, hml, hown, hts, hK, hrv, hnm, hfr, hlo, hsz, hA, hA0, hRO⟩ := hC
  obtain ⟨hP, hD, hS⟩ := hI
  change ax_m56 cl mt NW own nm ret nL lk pcs pc (decide (pcs[i + 1]? = some (pc + len))) a b v t (ins, len) = true at hm
  change ax_s56 ro ct a b v t i lv st w = some (.inl q) at hs
  unfold ax_m56 at hm
  unfold ax_s56 at hs
  split at hs
  · next k r =>
    split at hs
    · next ci fs hw =>
      split at hs
      · next hca =>
        subst hca
        split at hs
        · next u hu =>
          cases hs
          split at hm
          · next n9 r9 C9 hc9 =>
            simp only [Bool.and_eq_true, decide_eq_true_eq, Prod.mk.injEq] at hm
            obtain ⟨⟨⟨hn, rfl, rfl⟩, hbN⟩, hwl⟩ := hm
            obtain ⟨ts, -, -, -, -, hin, -⟩ := hCl _ _ hc9
            exact va_getN (D := D) (ci := ci) (v := ax_v h0 rv u) (C := C9.1) (T := C9.2.1) (N := C9.2.2) hx hb hts hin hown hK hP k (ax_w_get hw) hc9 b hbN (va_Nw.use rfl (hRO.2.2.2.1 _ (List.mem_of_getElem? hwl))) (fun _ h9 => h9) (by simp [hu]) hd (kk _ ls H locs cells slots hn hl ⟨hP, hD, hS⟩ hcs hsl)
          · cases hm
        · cases hs
      · cases hs
    · cases hs
  · cases hs
theorem ax_fit_ok {ty : FieldType} {v : Value} (h : ax_fit ty v = true) : narrow ty (ax_v h0 rv v) = ax_v h0 rv v ∧ fits ty (ax_v h0 rv v) = true := by
  unfold ax_fit at h
  split at h
  · exact ⟨rfl, rfl⟩
  · exact ⟨rfl, rfl⟩
  · next x =>
    simp only [Bool.or_eq_true, beq_iff_eq] at h
    rcases h with rfl | rfl
    · exact ⟨(show narrow .boolean (.int 0) = .int 0 from by decide), (show fits .boolean (.int 0) = true from by decide)⟩
    · exact ⟨(show narrow .boolean (.int 1) = .int 1 from by decide), (show fits .boolean (.int 1) = true from by decide)⟩
  · exact ⟨rfl, rfl⟩
  · exact ⟨rfl, rfl⟩
  · cases h
theorem ax_put_w {w : ax_W} {k : Nat} {c c' : ax_C} {H1 : Heap} {locs1 : List Loc} {x : va_E} (hx : x = ax_e cA h0 rv c') (h1 : va_P D cl ((ax_w cA h0 rv w).set k (h0 + k, x)) H1) (h2 : va_D A ((ax_w cA h0 rv w).set k (h0 + k, x))) (h3 : va_S A s.heap H1 locs1) : ax_Iv D cl cA h0 rv A s (w.set k c') H1 locs1 := by
  subst hx
  rw [← ax_w_set] at h1 h2
  exact ⟨h1, h2, h3⟩
theorem ax_g23 {a b i : Nat} {v : Value} {t : List (Int × Nat)} {lv : ax_L} {st : List Value} {w : ax_W} {q : Nat × ax_L × List Value × ax_W} (hC : ax_Cx p R s m args meth c D cl cA h0 a0 rv A nL own nm cc Ts ro NW) (hlk : ∀ w ∈ lk, w ∈ Ts) (hCl : ax_Cl cl ct Ts) (hs : ax_stp ro ct (23, a, b, v, t) i lv st w = some (.inl q)) (hk : ax_ck cl mt NW own nm ret nL lk cc pcs i (23, a, b, v, t) = true) (kk : ax_K p l e R s m args below meth c Q D cl cA h0 a0 b0 rv A nL pcs q.1 q.2.1 q.2.2.1 q.2.2.2) : ax_K p l e R s m args below meth c Q D cl cA h0 a0 b0 rv A nL pcs i lv st w := by
  intro pc ls H locs cells slots hpc hl hI hcs hsl
  obtain ⟨⟨ins, len⟩, hd, hm⟩ := ax_ck_inv hpc hk
  obtain ⟨hx, hb, hml, hown, hts, hK, hrv, hnm, hfr, hlo, hsz, hA, hA0, hRO⟩ := hC
  obtain ⟨hP, hD, hS⟩ := hI
  change ax_m23 cl mt NW own nm ret nL lk pcs pc (decide (pcs[i + 1]? = some (pc + len))) a b v t (ins, len) = true at hm
  change ax_s23 ro ct a b v t i lv st w = some (.inl q) at hs
  unfold ax_m23 at hm
  unfold ax_s23 at hs
  split at hs
  · next u k r =>
    split at hs
    · next ci fs hw =>
      split at hs
      · next C8 ts8 hct =>
        split at hs
        · next ty hty =>
          split at hs
          · next hcond =>
            obtain ⟨hca, hbl, hft⟩ := hcond
            subst hca
            cases hs
            obtain ⟨hf1, hf2⟩ := ax_fit_ok (h0 := h0) (rv := rv) hft
            split at hm
            · next n9 r9 C9 hc9 =>
              simp only [Bool.and_eq_true, Bool.or_eq_true, decide_eq_true_eq, Prod.mk.injEq] at hm
              obtain ⟨⟨⟨⟨hn, rfl, rfl⟩, hbN⟩, hwl⟩, hfin⟩ := hm
              obtain ⟨ts, hts1, hts2, hty1, hnm1, hin, -⟩ := hCl _ _ hc9
              rw [hts1] at hct
              cases hct
              have hd1 : parseFieldDescriptor (C9.2.1 b).2.2.1 = some ty := by
                rw [hty1 b hbN]
                simp [hty]
              have kk1 : ∀ (H1 : Heap) (locs1 : List Loc), va_P D cl ((ax_w cA h0 rv w).set k (h0 + k, .inr (ci, (fs.map (ax_v h0 rv)).set b (ax_v h0 rv u)))) H1 → va_D A ((ax_w cA h0 rv w).set k (h0 + k, .inr (ci, (fs.map (ax_v h0 rv)).set b (ax_v h0 rv u)))) → va_S A s.heap H1 locs1 → W p l e R s m args below meth c H1 locs1 cells slots Q (F0 m (pc + 3) ls (r.map (ax_v h0 rv))) := fun H1 locs1 e1 e2 e3 => by
                refine kk _ ls H1 locs1 cells slots hn hl (ax_put_w (c := (.inr ci, fs)) (by simp [ax_e, List.map_set]) e1 e2 e3) (by rw [List.length_set]; exact hcs) ?_
                rw [ax_sl_set hw (by simp)]
                exact hsl
              rcases hfin with hfin | ⟨⟨hfin, hni⟩, hdec⟩
              · exact va_put (D := D) (ci := ci) (v := ax_v h0 rv u) (ty := ty) (C := C9.1) (T := C9.2.1) (N := C9.2.2) hx hb hts hin (fun k => ts8.getD k .int) hty1 hnm1 hown hK hP hD hS k (ax_w_get hw) hc9 b hbN (hts _ (hlk _ (List.mem_of_getElem? hwl))) (fun _ h9 => h9) hfin hd1 hf1 hf2 (by simp; exact hbl) hd kk1
              · exact va_putF (D := D) (ci := ci) (v := ax_v h0 rv u) (ty := ty) (C := C9.1) (T := C9.2.1) (N := C9.2.2) hx hb hts hin (fun k => ts8.getD k .int) hty1 hnm1 hown hK hP hD hS k (ax_w_get hw) hc9 b hbN (hts _ (hlk _ (List.mem_of_getElem? hwl))) (fun _ h9 => h9) hfin (hnm hni) hdec hd1 hf1 hf2 (by simp; exact hbl) hd kk1
            · cases hm
          · cases hs
        · cases hs
      · cases hs
    · cases hs
  · cases hs
theorem ax_g24 {a b i : Nat} {v : Value} {t : List (Int × Nat)} {lv : ax_L} {st : List Value} {w : ax_W} {q : Nat × ax_L × List Value × ax_W} (hC : ax_Cx p R s m args meth c D cl cA h0 a0 rv A nL own nm cc Ts ro NW) (hs : ax_stp ro ct (24, a, b, v, t) i lv st w = some (.inl q)) (hk : ax_ck cl mt NW own nm ret nL lk cc pcs i (24, a, b, v, t) = true) (kk : ax_K p l e R s m args below meth c Q D cl cA h0 a0 b0 rv A nL pcs q.1 q.2.1 q.2.2.1 q.2.2.2) : ax_K p l e R s m args below meth c Q D cl cA h0 a0 b0 rv A nL pcs i lv st w := by
  intro pc ls H locs cells slots hpc hl hI hcs hsl
  obtain ⟨⟨ins, len⟩, hd, hm⟩ := ax_ck_inv hpc hk
  obtain ⟨hx, hb, hml, hown, hts, hK, hrv, hnm, hfr, hlo, hsz, hA, hA0, hRO⟩ := hC
  obtain ⟨hP, hD, hS⟩ := hI
  change ax_m24 cl mt NW own nm ret nL lk pcs pc (decide (pcs[i + 1]? = some (pc + len))) a b v t (ins, len) = true at hm
  change ax_s24 ro ct a b v t i lv st w = some (.inl q) at hs
  unfold ax_m24 at hm
  unfold ax_s24 at hs
  split at hs
  · next k r =>
    split at hs
    · next ty vs hw =>
      split at hs
      · next hti =>
        cases hs
        simp only [Bool.and_eq_true, decide_eq_true_eq, Prod.mk.injEq] at hm
        obtain ⟨hn, rfl, rfl⟩ := hm
        have key : ∀ (t0 : Nat), (ax_tys cA)[t0]? = some (cA ty, ty) → W p l e R s m args below meth c H locs cells slots Q (F0 m pc ls ((.ref k :: r).map (ax_v h0 rv))) := fun t0 ht => va_alen hx hb hK hP k t0 (ax_w_get hw) ht rfl hd (kk _ ls H locs cells slots hn hl ⟨hP, hD, hS⟩ hcs hsl)
        cases ty with
        | int => exact key 0 rfl
        | long => exact key 1 rfl
        | byte => exact key 2 rfl
        | boolean => exact key 3 rfl
        | object C =>
          simp only [ax_ti] at hti
          split at hti
          · next hC => subst hC; exact key 4 rfl
          · cases hti
        | _ => cases hti
      · cases hs
    · cases hs
  · cases hs
theorem ax_g25 {a b i : Nat} {v : Value} {t : List (Int × Nat)} {lv : ax_L} {st : List Value} {w : ax_W} {q : Nat × ax_L × List Value × ax_W} (hC : ax_Cx p R s m args meth c D cl cA h0 a0 rv A nL own nm cc Ts ro NW) (hs : ax_stp ro ct (25, a, b, v, t) i lv st w = some (.inl q)) (hk : ax_ck cl mt NW own nm ret nL lk cc pcs i (25, a, b, v, t) = true) (kk : ax_K p l e R s m args below meth c Q D cl cA h0 a0 b0 rv A nL pcs q.1 q.2.1 q.2.2.1 q.2.2.2) : ax_K p l e R s m args below meth c Q D cl cA h0 a0 b0 rv A nL pcs i lv st w := by
  intro pc ls H locs cells slots hpc hl hI hcs hsl
  obtain ⟨⟨ins, len⟩, hd, hm⟩ := ax_ck_inv hpc hk
  obtain ⟨hx, hb, hml, hown, hts, hK, hrv, hnm, hfr, hlo, hsz, hA, hA0, hRO⟩ := hC
  obtain ⟨hP, hD, hS⟩ := hI
  change ax_m25 cl mt NW own nm ret nL lk pcs pc (decide (pcs[i + 1]? = some (pc + len))) a b v t (ins, len) = true at hm
  change ax_s25 ro ct a b v t i lv st w = some (.inl q) at hs
  unfold ax_m25 at hm
  unfold ax_s25 at hs
  split at hs
  · next j k r =>
    split at hs
    · next vs hw =>
      split at hs
      · next hj =>
        split at hs
        · next x hxv =>
          cases hs
          simp only [Bool.and_eq_true, decide_eq_true_eq, Prod.mk.injEq] at hm
          obtain ⟨hn, rfl, rfl⟩ := hm
          have k2 := kk _ ls H locs cells slots hn hl ⟨hP, hD, hS⟩ hcs hsl
          refine va_iald hx hb hK hP k 0 (ax_w_get hw) rfl (ax_vp hj.1 hj.2) hd ?_
          rw [show ax_i vs j.toNatClampNeg = x from by simp [ax_i, hxv]]
          exact k2
        · cases hs
      · cases hs
    · cases hs
  · cases hs
theorem ax_g26 {a b i : Nat} {v : Value} {t : List (Int × Nat)} {lv : ax_L} {st : List Value} {w : ax_W} {q : Nat × ax_L × List Value × ax_W} (hC : ax_Cx p R s m args meth c D cl cA h0 a0 rv A nL own nm cc Ts ro NW) (hs : ax_stp ro ct (26, a, b, v, t) i lv st w = some (.inl q)) (hk : ax_ck cl mt NW own nm ret nL lk cc pcs i (26, a, b, v, t) = true) (kk : ax_K p l e R s m args below meth c Q D cl cA h0 a0 b0 rv A nL pcs q.1 q.2.1 q.2.2.1 q.2.2.2) : ax_K p l e R s m args below meth c Q D cl cA h0 a0 b0 rv A nL pcs i lv st w := by
  intro pc ls H locs cells slots hpc hl hI hcs hsl
  obtain ⟨⟨ins, len⟩, hd, hm⟩ := ax_ck_inv hpc hk
  obtain ⟨hx, hb, hml, hown, hts, hK, hrv, hnm, hfr, hlo, hsz, hA, hA0, hRO⟩ := hC
  obtain ⟨hP, hD, hS⟩ := hI
  change ax_m26 cl mt NW own nm ret nL lk pcs pc (decide (pcs[i + 1]? = some (pc + len))) a b v t (ins, len) = true at hm
  change ax_s26 ro ct a b v t i lv st w = some (.inl q) at hs
  unfold ax_m26 at hm
  unfold ax_s26 at hs
  split at hs
  · next j k r =>
    split at hs
    · next vs hw =>
      split at hs
      · next hj =>
        split at hs
        · next x hxv =>
          cases hs
          simp only [Bool.and_eq_true, decide_eq_true_eq, Prod.mk.injEq] at hm
          obtain ⟨hn, rfl, rfl⟩ := hm
          have k2 := kk _ ls H locs cells slots hn hl ⟨hP, hD, hS⟩ hcs hsl
          refine va_lald hx hb hK hP k 1 (ax_w_get hw) rfl (ax_vp hj.1 hj.2) hd ?_
          rw [show ax_j vs j.toNatClampNeg = x from by simp [ax_j, hxv]]
          exact k2
        · cases hs
      · cases hs
    · cases hs
  · cases hs
theorem ax_g27 {a b i : Nat} {v : Value} {t : List (Int × Nat)} {lv : ax_L} {st : List Value} {w : ax_W} {q : Nat × ax_L × List Value × ax_W} (hC : ax_Cx p R s m args meth c D cl cA h0 a0 rv A nL own nm cc Ts ro NW) (hs : ax_stp ro ct (27, a, b, v, t) i lv st w = some (.inl q)) (hk : ax_ck cl mt NW own nm ret nL lk cc pcs i (27, a, b, v, t) = true) (kk : ax_K p l e R s m args below meth c Q D cl cA h0 a0 b0 rv A nL pcs q.1 q.2.1 q.2.2.1 q.2.2.2) : ax_K p l e R s m args below meth c Q D cl cA h0 a0 b0 rv A nL pcs i lv st w := by
  intro pc ls H locs cells slots hpc hl hI hcs hsl
  obtain ⟨⟨ins, len⟩, hd, hm⟩ := ax_ck_inv hpc hk
  obtain ⟨hx, hb, hml, hown, hts, hK, hrv, hnm, hfr, hlo, hsz, hA, hA0, hRO⟩ := hC
  obtain ⟨hP, hD, hS⟩ := hI
  change ax_m27 cl mt NW own nm ret nL lk pcs pc (decide (pcs[i + 1]? = some (pc + len))) a b v t (ins, len) = true at hm
  change ax_s27 ro ct a b v t i lv st w = some (.inl q) at hs
  unfold ax_m27 at hm
  unfold ax_s27 at hs
  split at hs
  · next j k r =>
    split at hs
    · next ty vs hw =>
      split at hs
      · next hj =>
        obtain ⟨hty, hj⟩ := hj
        split at hs
        · next x hxv =>
          cases hs
          simp only [Bool.and_eq_true, decide_eq_true_eq, Prod.mk.injEq] at hm
          obtain ⟨hn, rfl, rfl⟩ := hm
          have k2 := kk _ ls H locs cells slots hn hl ⟨hP, hD, hS⟩ hcs hsl
          rcases hty with rfl | rfl
          · refine va_bald hx hb hK hP k 2 (ax_w_get hw) rfl (ax_vp hj.1 hj.2) hd ?_
            rw [show ax_i vs j.toNatClampNeg = x from by simp [ax_i, hxv]]
            exact k2
          · refine va_zald hx hb hK hP k 3 (ax_w_get hw) rfl (ax_vp hj.1 hj.2) hd ?_
            rw [show ax_i vs j.toNatClampNeg = x from by simp [ax_i, hxv]]
            exact k2
        · cases hs
      · cases hs
    · cases hs
  · cases hs
theorem ax_g28 {a b i : Nat} {v : Value} {t : List (Int × Nat)} {lv : ax_L} {st : List Value} {w : ax_W} {q : Nat × ax_L × List Value × ax_W} (hC : ax_Cx p R s m args meth c D cl cA h0 a0 rv A nL own nm cc Ts ro NW) (hs : ax_stp ro ct (28, a, b, v, t) i lv st w = some (.inl q)) (hk : ax_ck cl mt NW own nm ret nL lk cc pcs i (28, a, b, v, t) = true) (kk : ax_K p l e R s m args below meth c Q D cl cA h0 a0 b0 rv A nL pcs q.1 q.2.1 q.2.2.1 q.2.2.2) : ax_K p l e R s m args below meth c Q D cl cA h0 a0 b0 rv A nL pcs i lv st w := by
  intro pc ls H locs cells slots hpc hl hI hcs hsl
  obtain ⟨⟨ins, len⟩, hd, hm⟩ := ax_ck_inv hpc hk
  obtain ⟨hx, hb, hml, hown, hts, hK, hrv, hnm, hfr, hlo, hsz, hA, hA0, hRO⟩ := hC
  obtain ⟨hP, hD, hS⟩ := hI
  change ax_m28 cl mt NW own nm ret nL lk pcs pc (decide (pcs[i + 1]? = some (pc + len))) a b v t (ins, len) = true at hm
  change ax_s28 ro ct a b v t i lv st w = some (.inl q) at hs
  unfold ax_m28 at hm
  unfold ax_s28 at hs
  split at hs
  · next j k r =>
    split at hs
    · next C vs hw =>
      split at hs
      · next hj =>
        obtain ⟨rfl, hj⟩ := hj
        split at hs
        · next x hxv =>
          cases hs
          simp only [Bool.and_eq_true, decide_eq_true_eq, Prod.mk.injEq] at hm
          obtain ⟨hn, rfl, rfl⟩ := hm
          have k2 := kk _ ls H locs cells slots hn hl ⟨hP, hD, hS⟩ hcs hsl
          refine va_aldq hx hb hK hP k 4 (ax_w_get hw) rfl (ax_vp hj.1 hj.2) hd ?_
          rw [show ax_o h0 vs j.toNatClampNeg = some (h0 + x) from by simp [ax_o, hxv]]
          exact k2
        · cases hs
      · cases hs
    · cases hs
  · cases hs
theorem ax_g29 {a b i : Nat} {v : Value} {t : List (Int × Nat)} {lv : ax_L} {st : List Value} {w : ax_W} {q : Nat × ax_L × List Value × ax_W} (hC : ax_Cx p R s m args meth c D cl cA h0 a0 rv A nL own nm cc Ts ro NW) (hs : ax_stp ro ct (29, a, b, v, t) i lv st w = some (.inl q)) (hk : ax_ck cl mt NW own nm ret nL lk cc pcs i (29, a, b, v, t) = true) (kk : ax_K p l e R s m args below meth c Q D cl cA h0 a0 b0 rv A nL pcs q.1 q.2.1 q.2.2.1 q.2.2.2) : ax_K p l e R s m args below meth c Q D cl cA h0 a0 b0 rv A nL pcs i lv st w := by
  intro pc ls H locs cells slots hpc hl hI hcs hsl
  obtain ⟨⟨ins, len⟩, hd, hm⟩ := ax_ck_inv hpc hk
  obtain ⟨hx, hb, hml, hown, hts, hK, hrv, hnm, hfr, hlo, hsz, hA, hA0, hRO⟩ := hC
  obtain ⟨hP, hD, hS⟩ := hI
  change ax_m29 cl mt NW own nm ret nL lk pcs pc (decide (pcs[i + 1]? = some (pc + len))) a b v t (ins, len) = true at hm
  change ax_s29 ro ct a b v t i lv st w = some (.inl q) at hs
  unfold ax_m29 at hm
  unfold ax_s29 at hs
  split at hs
  · next x j k r =>
    split at hs
    · next vs hw =>
      split at hs
      · next hj =>
        cases hs
        simp only [Bool.and_eq_true, decide_eq_true_eq, Prod.mk.injEq] at hm
        obtain ⟨hn, rfl, rfl⟩ := hm
        refine va_iast hx hb hK hP hD hS k 0 (ax_w_get hw) rfl (ax_vp hj.1 hj.2) hd (fun H1 locs1 e1 e2 e3 => ?_)
        refine kk _ ls H1 locs1 cells slots hn hl (ax_put_w (c := (.inl .int, vs)) (by simp [ax_e, ax_a, ax_i_set x hj.2]) e1 e2 e3) (by rw [List.length_set]; exact hcs) ?_
        rw [ax_sl_set hw (by simp)]
        exact hsl
      · cases hs
    · cases hs
  · cases hs
theorem ax_g30 {a b i : Nat} {v : Value} {t : List (Int × Nat)} {lv : ax_L} {st : List Value} {w : ax_W} {q : Nat × ax_L × List Value × ax_W} (hC : ax_Cx p R s m args meth c D cl cA h0 a0 rv A nL own nm cc Ts ro NW) (hs : ax_stp ro ct (30, a, b, v, t) i lv st w = some (.inl q)) (hk : ax_ck cl mt NW own nm ret nL lk cc pcs i (30, a, b, v, t) = true) (kk : ax_K p l e R s m args below meth c Q D cl cA h0 a0 b0 rv A nL pcs q.1 q.2.1 q.2.2.1 q.2.2.2) : ax_K p l e R s m args below meth c Q D cl cA h0 a0 b0 rv A nL pcs i lv st w := by
  intro pc ls H locs cells slots hpc hl hI hcs hsl
  obtain ⟨⟨ins, len⟩, hd, hm⟩ := ax_ck_inv hpc hk
  obtain ⟨hx, hb, hml, hown, hts, hK, hrv, hnm, hfr, hlo, hsz, hA, hA0, hRO⟩ := hC
  obtain ⟨hP, hD, hS⟩ := hI
  change ax_m30 cl mt NW own nm ret nL lk pcs pc (decide (pcs[i + 1]? = some (pc + len))) a b v t (ins, len) = true at hm
  change ax_s30 ro ct a b v t i lv st w = some (.inl q) at hs
  unfold ax_m30 at hm
  unfold ax_s30 at hs
  split at hs
  · next x j k r =>
    split at hs
    · next vs hw =>
      split at hs
      · next hj =>
        cases hs
        simp only [Bool.and_eq_true, decide_eq_true_eq, Prod.mk.injEq] at hm
        obtain ⟨hn, rfl, rfl⟩ := hm
        refine va_last hx hb hK hP hD hS k 1 (ax_w_get hw) rfl (ax_vp hj.1 hj.2) hd (fun H1 locs1 e1 e2 e3 => ?_)
        refine kk _ ls H1 locs1 cells slots hn hl (ax_put_w (c := (.inl .long, vs)) (by simp [ax_e, ax_a, ax_j_set x hj.2]) e1 e2 e3) (by rw [List.length_set]; exact hcs) ?_
        rw [ax_sl_set hw (by simp)]
        exact hsl
      · cases hs
    · cases hs
  · cases hs
theorem ax_g31 {a b i : Nat} {v : Value} {t : List (Int × Nat)} {lv : ax_L} {st : List Value} {w : ax_W} {q : Nat × ax_L × List Value × ax_W} (hC : ax_Cx p R s m args meth c D cl cA h0 a0 rv A nL own nm cc Ts ro NW) (hs : ax_stp ro ct (31, a, b, v, t) i lv st w = some (.inl q)) (hk : ax_ck cl mt NW own nm ret nL lk cc pcs i (31, a, b, v, t) = true) (kk : ax_K p l e R s m args below meth c Q D cl cA h0 a0 b0 rv A nL pcs q.1 q.2.1 q.2.2.1 q.2.2.2) : ax_K p l e R s m args below meth c Q D cl cA h0 a0 b0 rv A nL pcs i lv st w := by
  intro pc ls H locs cells slots hpc hl hI hcs hsl
  obtain ⟨⟨ins, len⟩, hd, hm⟩ := ax_ck_inv hpc hk
  obtain ⟨hx, hb, hml, hown, hts, hK, hrv, hnm, hfr, hlo, hsz, hA, hA0, hRO⟩ := hC
  obtain ⟨hP, hD, hS⟩ := hI
  change ax_m31 cl mt NW own nm ret nL lk pcs pc (decide (pcs[i + 1]? = some (pc + len))) a b v t (ins, len) = true at hm
  change ax_s31 ro ct a b v t i lv st w = some (.inl q) at hs
  unfold ax_m31 at hm
  unfold ax_s31 at hs
  split at hs
  · next x j k r =>
    split at hs
    · next ty vs hw =>
      split at hs
      · next hj =>
        obtain ⟨hty, hj⟩ := hj
        cases hs
        simp only [Bool.and_eq_true, decide_eq_true_eq, Prod.mk.injEq] at hm
        obtain ⟨hn, rfl, rfl⟩ := hm
        rcases hty with rfl | rfl
        · refine va_bast hx hb hK hP hD hS k 2 (ax_w_get hw) rfl (ax_vp hj.1 hj.2) hd (fun H1 locs1 e1 e2 e3 => ?_)
          refine kk _ ls H1 locs1 cells slots hn hl (ax_put_w (c := (.inl .byte, vs)) (by simp [ax_e, ax_a, ax_i_set (vp_nar .byte x) hj.2]) e1 e2 e3) (by rw [List.length_set]; exact hcs) ?_
          rw [ax_sl_set hw (by simp)]
          exact hsl
        · refine va_zast hx hb hK hP hD hS k 3 (ax_w_get hw) rfl (ax_vp hj.1 hj.2) hd (fun H1 locs1 e1 e2 e3 => ?_)
          refine kk _ ls H1 locs1 cells slots hn hl (ax_put_w (c := (.inl .boolean, vs)) (by simp [ax_e, ax_a, ax_i_set (vp_nar .boolean x) hj.2]) e1 e2 e3) (by rw [List.length_set]; exact hcs) ?_
          rw [ax_sl_set hw (by simp)]
          exact hsl
      · cases hs
    · cases hs
  · cases hs
theorem ax_g32 {a b i : Nat} {v : Value} {t : List (Int × Nat)} {lv : ax_L} {st : List Value} {w : ax_W} {q : Nat × ax_L × List Value × ax_W} (hC : ax_Cx p R s m args meth c D cl cA h0 a0 rv A nL own nm cc Ts ro NW) (hcl2 : ∀ (ci : Nat) (x : String × List FieldType), ct[ci]? = some x → ∃ q, cl[ci]? = some q ∧ q.1 = x.1) (hs : ax_stp ro ct (32, a, b, v, t) i lv st w = some (.inl q)) (hk : ax_ck cl mt NW own nm ret nL lk cc pcs i (32, a, b, v, t) = true) (kk : ax_K p l e R s m args below meth c Q D cl cA h0 a0 b0 rv A nL pcs q.1 q.2.1 q.2.2.1 q.2.2.2) : ax_K p l e R s m args below meth c Q D cl cA h0 a0 b0 rv A nL pcs i lv st w := by
  intro pc ls H locs cells slots hpc hl hI hcs hsl
  obtain ⟨⟨ins, len⟩, hd, hm⟩ := ax_ck_inv hpc hk
  obtain ⟨hx, hb, hml, hown, hts, hK, hrv, hnm, hfr, hlo, hsz, hA, hA0, hRO⟩ := hC
  obtain ⟨hP, hD, hS⟩ := hI
  change ax_m32 cl mt NW own nm ret nL lk pcs pc (decide (pcs[i + 1]? = some (pc + len))) a b v t (ins, len) = true at hm
  change ax_s32 ro ct a b v t i lv st w = some (.inl q) at hs
  unfold ax_m32 at hm
  unfold ax_s32 at hs
  split at hs
  · next x j k r =>
    split at hs
    · next C vs hw =>
      split at hs
      · next ci us hw2 =>
        split at hs
        · next C' ts hct =>
          split at hs
          · next hj =>
            obtain ⟨rfl, rfl, hj⟩ := hj
            cases hs
            simp only [Bool.and_eq_true, decide_eq_true_eq, Prod.mk.injEq] at hm
            obtain ⟨hn, rfl, rfl⟩ := hm
            obtain ⟨C9, hc9, hce⟩ := hcl2 ci _ hct
            refine va_astq (r := C9) hx hb hK hP hD hS k 4 x ci (ax_w_get hw) (by rw [hce]; rfl) (ax_w_get hw2) hc9 (ax_vp hj.1 hj.2) hd (fun H1 locs1 e1 e2 e3 => ?_)
            refine kk _ ls H1 locs1 cells slots hn hl (ax_put_w (c := (.inl (.object "HeadCloths$State"), vs)) (by simp [ax_e, ax_a, ax_o_set h0 x hj.2]) e1 e2 e3) (by rw [List.length_set]; exact hcs) ?_
            rw [ax_sl_set hw (by simp)]
            exact hsl
          · cases hs
        · cases hs
      · cases hs
    · cases hs
  · cases hs
theorem ax_g33 {a b i : Nat} {v : Value} {t : List (Int × Nat)} {lv : ax_L} {st : List Value} {w : ax_W} {q : Nat × ax_L × List Value × ax_W} (hC : ax_Cx p R s m args meth c D cl cA h0 a0 rv A nL own nm cc Ts ro NW) (hlk : ∀ w ∈ lk, w ∈ Ts) (hCl : ax_Cl cl ct Ts) (hroom : q.2.2.2.length ≤ R.cells + a0 ∧ ax_sl q.2.2.2 ≤ R.slots + b0) (hs : ax_stp ro ct (33, a, b, v, t) i lv st w = some (.inl q)) (hk : ax_ck cl mt NW own nm ret nL lk cc pcs i (33, a, b, v, t) = true) (kk : ax_K p l e R s m args below meth c Q D cl cA h0 a0 b0 rv A nL pcs q.1 q.2.1 q.2.2.1 q.2.2.2) : ax_K p l e R s m args below meth c Q D cl cA h0 a0 b0 rv A nL pcs i lv st w := by
  intro pc ls H locs cells slots hpc hl hI hcs hsl
  obtain ⟨⟨ins, len⟩, hd, hm⟩ := ax_ck_inv hpc hk
  obtain ⟨hx, hb, hml, hown, hts, hK, hrv, hnm, hfr, hlo, hsz, hA, hA0, hRO⟩ := hC
  obtain ⟨hP, hD, hS⟩ := hI
  change ax_m33 cl mt NW own nm ret nL lk pcs pc (decide (pcs[i + 1]? = some (pc + len))) a b v t (ins, len) = true at hm
  change ax_s33 ro ct a b v t i lv st w = some (.inl q) at hs
  unfold ax_m33 at hm
  unfold ax_s33 at hs
  split at hs
  · next C8 ts8 hct =>
    cases hs
    split at hm
    · next n9 r9 C9 hc9 =>
      simp only [Bool.and_eq_true, decide_eq_true_eq, Prod.mk.injEq] at hm
      obtain ⟨⟨hn, rfl, rfl⟩, hwl⟩ := hm
      obtain ⟨ts, hts1, hts2, hty1, hnm1, hin, hins, hini, hdf⟩ := hCl _ _ hc9
      rw [hts1] at hct
      cases hct
      refine va_new (ci := a) (fs := (ts8.map ax_df).map (ax_v h0 rv)) (C := C9.1) (T := C9.2.1) (N := C9.2.2) hx hb hts hin (fun k => ts8.getD k .int) hty1 hown (hts _ (hlk _ (List.mem_of_getElem? hwl))) (hts _ hins) (hts _ hini) hK hP hD hS hA hc9 (fun j hj => ?_) (by have := hroom.1; simp only [List.length_append, List.length_cons, List.length_nil] at this; omega) (by have := hroom.2; rw [ax_sl_push] at this; simp only [List.length_map] at this; omega) hd (fun q9 H1 e1 e2 e3 => ax_hsz (fun hz => ?_))
      · have hj2 : j < ts8.length := by omega
        have hmem := hdf _ (List.getElem_mem hj2)
        simp only [vp_V, List.map_map, List.getD_eq_getElem?_getD, List.getElem?_map, List.getElem?_eq_getElem hj2, Option.map_some, Option.getD_some, Function.comp, hmem]
        cases ts8[j] <;> rfl
      · have hq := ax_addr e1 e2 hA0 hz (by omega)
        subst hq
        refine kk _ ls H1 locs (cells + 1) (slots + C9.2.2) hn hl ⟨?_, ?_, e3⟩ (by simp; omega) (by rw [ax_sl_push]; simp; omega)
        · rw [ax_w_push]; exact e1
        · rw [ax_w_push]; exact e2
    · cases hm
  · cases hs
theorem ax_rep_i (n : Nat) : ax_i (List.replicate n (.int 0)) = fun _ => 0 := by
  funext j
  simp only [ax_i, List.getElem?_replicate]
  split <;> simp_all
theorem ax_rep_j (n : Nat) : ax_j (List.replicate n (.long 0)) = fun _ => 0 := by
  funext j
  simp only [ax_j, List.getElem?_replicate]
  split <;> simp_all
theorem ax_rep_o (n : Nat) : ax_o h0 (List.replicate n .null) = fun _ => none := by
  funext j
  simp only [ax_o, List.getElem?_replicate]
  split <;> simp_all
theorem ax_g34 {a b i : Nat} {v : Value} {t : List (Int × Nat)} {lv : ax_L} {st : List Value} {w : ax_W} {q : Nat × ax_L × List Value × ax_W} (hC : ax_Cx p R s m args meth c D cl cA h0 a0 rv A nL own nm cc Ts ro NW) (hGW : ax_GW Ts) (hroom : q.2.2.2.length ≤ R.cells + a0 ∧ ax_sl q.2.2.2 ≤ R.slots + b0) (hs : ax_stp ro ct (34, a, b, v, t) i lv st w = some (.inl q)) (hk : ax_ck cl mt NW own nm ret nL lk cc pcs i (34, a, b, v, t) = true) (kk : ax_K p l e R s m args below meth c Q D cl cA h0 a0 b0 rv A nL pcs q.1 q.2.1 q.2.2.1 q.2.2.2) : ax_K p l e R s m args below meth c Q D cl cA h0 a0 b0 rv A nL pcs i lv st w := by
  intro pc ls H locs cells slots hpc hl hI hcs hsl
  obtain ⟨⟨ins, len⟩, hd, hm⟩ := ax_ck_inv hpc hk
  obtain ⟨hx, hb, hml, hown, hts, hK, hrv, hnm, hfr, hlo, hsz, hA, hA0, hRO⟩ := hC
  obtain ⟨hP, hD, hS⟩ := hI
  change ax_m34 cl mt NW own nm ret nL lk pcs pc (decide (pcs[i + 1]? = some (pc + len))) a b v t (ins, len) = true at hm
  change ax_s34 ro ct a b v t i lv st w = some (.inl q) at hs
  unfold ax_m34 at hm
  unfold ax_s34 at hs
  split at hs
  · next n r =>
    split at hs
    · next hnn =>
      cases hs
      obtain ⟨hn0, hn6⟩ := hnn
      have hr1 := hroom.1
      have hr2 := hroom.2
      simp only [List.length_append, List.length_cons, List.length_nil] at hr1
      rw [ax_sl_push] at hr2
      simp only [List.length_replicate] at hr2
      split at hm
      · simp only [Bool.and_eq_true, decide_eq_true_eq, Prod.mk.injEq] at hm
        obtain ⟨hn, rfl, rfl⟩ := hm
        refine va_newa (atype := .int) (ty := .int) (a0 := ax_a h0 .int (List.replicate n.toNatClampNeg (ax_df .int))) hx hb (hts _ (hGW.1 0)) rfl hK hP hD hS hA (fun cB => ?_) (Int32.not_lt.mpr hn0) rfl (by simp only [componentBytes]; omega) (by omega) (by omega) hd (fun q9 cB H1 hK1 e1 e2 e3 => ax_hsz (fun hz => ?_))
        · simp [ax_a, vp_cell, ax_df, ax_rep_i, defaultValue]
        · have hcB : cB = cA .int := by
            have z1 : s.vm.findClass _ = some cB := (hK1.2 5 (cB, .int) rfl).2
            have z2 : s.vm.findClass _ = some (cA .int) := (hK.2 0 (cA .int, .int) rfl).2
            exact Option.some.inj (z1.symm.trans z2)
          subst hcB
          have hq := ax_addr e1 e2 hA0 hz (by omega)
          subst hq
          refine kk _ ls H1 locs (cells + 1) (slots + n.toNatClampNeg) hn hl ⟨?_, ?_, e3⟩ (by simp; omega) (by rw [ax_sl_push]; simp; omega)
          · rw [ax_w_push]; exact e1
          · rw [ax_w_push]; exact e2
      · simp only [Bool.and_eq_true, decide_eq_true_eq, Prod.mk.injEq] at hm
        obtain ⟨hn, rfl, rfl⟩ := hm
        refine va_newa (atype := .long) (ty := .long) (a0 := ax_a h0 .long (List.replicate n.toNatClampNeg (ax_df .long))) hx hb (hts _ (hGW.1 1)) rfl hK hP hD hS hA (fun cB => ?_) (Int32.not_lt.mpr hn0) rfl (by simp only [componentBytes]; omega) (by omega) (by omega) hd (fun q9 cB H1 hK1 e1 e2 e3 => ax_hsz (fun hz => ?_))
        · simp [ax_a, vp_cell, ax_df, ax_rep_j, defaultValue]
        · have hcB : cB = cA .long := by
            have z1 : s.vm.findClass _ = some cB := (hK1.2 5 (cB, .long) rfl).2
            have z2 : s.vm.findClass _ = some (cA .long) := (hK.2 1 (cA .long, .long) rfl).2
            exact Option.some.inj (z1.symm.trans z2)
          subst hcB
          have hq := ax_addr e1 e2 hA0 hz (by omega)
          subst hq
          refine kk _ ls H1 locs (cells + 1) (slots + n.toNatClampNeg) hn hl ⟨?_, ?_, e3⟩ (by simp; omega) (by rw [ax_sl_push]; simp; omega)
          · rw [ax_w_push]; exact e1
          · rw [ax_w_push]; exact e2
      · simp only [Bool.and_eq_true, decide_eq_true_eq, Prod.mk.injEq] at hm
        obtain ⟨hn, rfl, rfl⟩ := hm
        refine va_newa (atype := .byte) (ty := .byte) (a0 := ax_a h0 .byte (List.replicate n.toNatClampNeg (ax_df .byte))) hx hb (hts _ (hGW.1 2)) rfl hK hP hD hS hA (fun cB => ?_) (Int32.not_lt.mpr hn0) rfl (by simp only [componentBytes]; omega) (by omega) (by omega) hd (fun q9 cB H1 hK1 e1 e2 e3 => ax_hsz (fun hz => ?_))
        · simp [ax_a, vp_cell, ax_df, ax_rep_i, defaultValue]
        · have hcB : cB = cA .byte := by
            have z1 : s.vm.findClass _ = some cB := (hK1.2 5 (cB, .byte) rfl).2
            have z2 : s.vm.findClass _ = some (cA .byte) := (hK.2 2 (cA .byte, .byte) rfl).2
            exact Option.some.inj (z1.symm.trans z2)
          subst hcB
          have hq := ax_addr e1 e2 hA0 hz (by omega)
          subst hq
          refine kk _ ls H1 locs (cells + 1) (slots + n.toNatClampNeg) hn hl ⟨?_, ?_, e3⟩ (by simp; omega) (by rw [ax_sl_push]; simp; omega)
          · rw [ax_w_push]; exact e1
          · rw [ax_w_push]; exact e2
      · simp only [Bool.and_eq_true, decide_eq_true_eq, Prod.mk.injEq] at hm
        obtain ⟨hn, rfl, rfl⟩ := hm
        refine va_newa (atype := .boolean) (ty := .boolean) (a0 := ax_a h0 .boolean (List.replicate n.toNatClampNeg (ax_df .boolean))) hx hb (hts _ (hGW.1 3)) rfl hK hP hD hS hA (fun cB => ?_) (Int32.not_lt.mpr hn0) rfl (by simp only [componentBytes]; omega) (by omega) (by omega) hd (fun q9 cB H1 hK1 e1 e2 e3 => ax_hsz (fun hz => ?_))
        · simp [ax_a, vp_cell, ax_df, ax_rep_i, defaultValue]
        · have hcB : cB = cA .boolean := by
            have z1 : s.vm.findClass _ = some cB := (hK1.2 5 (cB, .boolean) rfl).2
            have z2 : s.vm.findClass _ = some (cA .boolean) := (hK.2 3 (cA .boolean, .boolean) rfl).2
            exact Option.some.inj (z1.symm.trans z2)
          subst hcB
          have hq := ax_addr e1 e2 hA0 hz (by omega)
          subst hq
          refine kk _ ls H1 locs (cells + 1) (slots + n.toNatClampNeg) hn hl ⟨?_, ?_, e3⟩ (by simp; omega) (by rw [ax_sl_push]; simp; omega)
          · rw [ax_w_push]; exact e1
          · rw [ax_w_push]; exact e2
      · simp at hm
    · cases hs
  · cases hs
theorem ax_g35 {a b i : Nat} {v : Value} {t : List (Int × Nat)} {lv : ax_L} {st : List Value} {w : ax_W} {q : Nat × ax_L × List Value × ax_W} (hC : ax_Cx p R s m args meth c D cl cA h0 a0 rv A nL own nm cc Ts ro NW) (hlk : ∀ w ∈ lk, w ∈ Ts) (hroom : q.2.2.2.length ≤ R.cells + a0 ∧ ax_sl q.2.2.2 ≤ R.slots + b0) (hs : ax_stp ro ct (35, a, b, v, t) i lv st w = some (.inl q)) (hk : ax_ck cl mt NW own nm ret nL lk cc pcs i (35, a, b, v, t) = true) (kk : ax_K p l e R s m args below meth c Q D cl cA h0 a0 b0 rv A nL pcs q.1 q.2.1 q.2.2.1 q.2.2.2) : ax_K p l e R s m args below meth c Q D cl cA h0 a0 b0 rv A nL pcs i lv st w := by
  intro pc ls H locs cells slots hpc hl hI hcs hsl
  obtain ⟨⟨ins, len⟩, hd, hm⟩ := ax_ck_inv hpc hk
  obtain ⟨hx, hb, hml, hown, hts, hK, hrv, hnm, hfr, hlo, hsz, hA, hA0, hRO⟩ := hC
  obtain ⟨hP, hD, hS⟩ := hI
  change ax_m35 cl mt NW own nm ret nL lk pcs pc (decide (pcs[i + 1]? = some (pc + len))) a b v t (ins, len) = true at hm
  change ax_s35 ro ct a b v t i lv st w = some (.inl q) at hs
  unfold ax_m35 at hm
  unfold ax_s35 at hs
  split at hs
  · next n r =>
    split at hs
    · next hnn =>
      cases hs
      obtain ⟨hn0, hn6⟩ := hnn
      have hr1 := hroom.1
      have hr2 := hroom.2
      simp only [List.length_append, List.length_cons, List.length_nil] at hr1
      rw [ax_sl_push] at hr2
      simp only [List.length_replicate] at hr2
      split at hm
      · next n9 r9 =>
        simp only [Bool.and_eq_true, decide_eq_true_eq, Prod.mk.injEq] at hm
        obtain ⟨⟨hn, rfl, rfl⟩, hwl⟩ := hm
        refine va_newq hx hb hown (hts _ (hlk _ (List.mem_of_getElem? hwl))) hRO.2.2.2.2.1 hK hP hD hS hA (Int32.not_lt.mpr hn0) rfl (by omega) (by omega) (by omega) hd (fun q9 cB H1 hK1 e1 e2 e3 => ax_hsz (fun hz => ?_))
        have hcB : cB = cA (.object "HeadCloths$State") := by
          obtain ⟨_, _, _, _, _, z1⟩ := (hK1.2 5 (cB, .object "HeadCloths$State") rfl).2
          obtain ⟨_, _, _, _, _, z2⟩ := (hK.2 4 (cA (.object "HeadCloths$State"), .object "HeadCloths$State") rfl).2
          exact Option.some.inj (z1.symm.trans z2)
        subst hcB
        have hq := ax_addr e1 e2 hA0 hz (by omega)
        subst hq
        have hE : ax_e cA h0 rv (.inl (.object "HeadCloths$State"), List.replicate n.toNatClampNeg .null) = .inl (cA (.object "HeadCloths$State"), n.toNatClampNeg, .inr (.inr (.inr (.inr (fun _ => none))))) := by
          simp [ax_e, ax_a, ax_rep_o]
        refine kk _ ls H1 locs (cells + 1) (slots + n.toNatClampNeg) hn hl ⟨?_, ?_, e3⟩ (by simp; omega) (by rw [ax_sl_push]; simp; omega)
        · rw [ax_w_push, hE]; exact e1
        · rw [ax_w_push, hE]; exact e2
      · cases hm
    · cases hs
  · cases hs
theorem ax_g43 {a b i : Nat} {v : Value} {t : List (Int × Nat)} {lv : ax_L} {st : List Value} {w : ax_W} {q : Nat × ax_L × List Value × ax_W} (hC : ax_Cx p R s m args meth c D cl cA h0 a0 rv A nL own nm cc Ts ro NW) (hlk : ∀ w ∈ lk, w ∈ Ts) (hGW : ax_GW Ts) (hs : ax_stp ro ct (43, a, b, v, t) i lv st w = some (.inl q)) (hk : ax_ck cl mt NW own nm ret nL lk cc pcs i (43, a, b, v, t) = true) (kk : ax_K p l e R s m args below meth c Q D cl cA h0 a0 b0 rv A nL pcs q.1 q.2.1 q.2.2.1 q.2.2.2) : ax_K p l e R s m args below meth c Q D cl cA h0 a0 b0 rv A nL pcs i lv st w := by
  intro pc ls H locs cells slots hpc hl hI hcs hsl
  obtain ⟨⟨ins, len⟩, hd, hm⟩ := ax_ck_inv hpc hk
  obtain ⟨hx, hb, hml, hown, hts, hK, hrv, hnm, hfr, hlo, hsz, hA, hA0, hRO⟩ := hC
  obtain ⟨hP, hD, hS⟩ := hI
  change ax_m43 cl mt NW own nm ret nL lk pcs pc (decide (pcs[i + 1]? = some (pc + len))) a b v t (ins, len) = true at hm
  change ax_s43 ro ct a b v t i lv st w = some (.inl q) at hs
  unfold ax_m43 at hm
  unfold ax_s43 at hs
  split at hs
  · next n dp k sp k0 r =>
    split at hs
    · next vs hw0 =>
      split at hs
      · next us hw =>
        split at hs
        · next hcond =>
          obtain ⟨rfl, rfl, hn0, hnv, hvu, hws⟩ := hcond
          cases hs
          split at hm
          · next n9 r9 =>
            simp only [Bool.and_eq_true, decide_eq_true_eq, Prod.mk.injEq] at hm
            obtain ⟨⟨hn, rfl, rfl⟩, hwl⟩ := hm
            refine va_copyi (ty := .int) hx hb (by rw [hml]; exact hl.1.symm) hown (hts _ (hlk _ (List.mem_of_getElem? hwl))) (hts _ hGW.2.1) (hts _ hGW.2.2.1) (hts _ hGW.2.2.2.1) hK hP hD hS k0 k 0 0 (ax_w_get hw0) (ax_w_get hw) rfl rfl rfl (by decide) (by decide) (Int32.not_lt.mpr hn0) (by show 0 + n.toNatClampNeg ≤ vs.length; omega) (by show 0 + n.toNatClampNeg ≤ us.length; omega) (fun _ _ => rfl) hfr (by rw [ax_ws_v h0 rv hrv, show nativeFrameWords "java/lang/System" "arraycopy" 5 = 7 from by decide +kernel]; omega) hd (fun H1 locs1 e1 e2 e3 => ?_)
            refine kk _ ls H1 locs1 cells slots hn hl (ax_put_w (c := (.inl .int, us)) ?_ e1 e2 e3) (by rw [List.length_set]; exact hcs) ?_
            · simp only [ax_e, ax_a, hvu]
              congr 4
              funext j
              show va_cpy (ax_i vs) (ax_i us) 0 0 n.toNatClampNeg j = ax_i vs j
              unfold va_cpy
              rw [hnv]
              by_cases hj : j < vs.length
              · rw [if_pos (by omega)]
                congr 1
                omega
              · rw [if_neg (by omega)]
                simp only [ax_i]
                rw [List.getElem?_eq_none (by omega), List.getElem?_eq_none (by omega)]
            · rw [ax_sl_set hw (by simp [hvu])]
              exact hsl
          · cases hm
        · cases hs
      · cases hs
    · cases hs
  · cases hs
theorem ax_sw_in {t : List (Int × Nat)} {lo x : Int} (hk : t.map (fun k => k.1) = (List.range t.length).map (fun (j : Nat) => lo + (j : Int))) (h1 : lo ≤ x) (h2 : x < lo + (t.length : Int)) : ∃ k, t[(x - lo).toNat]? = some (x, k) ∧ t.lookup x = some k := by
  have hj : (x - lo).toNat < t.length := by omega
  have key : ∀ j (h : j < t.length), t[j].1 = lo + (j : Int) := by
    intro j h
    have e := congrArg (fun l => l[j]?) hk
    simp [h] at e
    exact e
  refine ⟨t[(x - lo).toNat].2, ?_, ?_⟩
  · rw [List.getElem?_eq_getElem hj]
    have := key _ hj
    have e2 : t[(x - lo).toNat].1 = x := by rw [this]; omega
    exact congrArg some (Prod.ext e2 rfl)
  · have gen : ∀ (l : List (Int × Nat)) (o : Int), (∀ j (h : j < l.length), l[j].1 = o + (j : Int)) → ∀ j (h : j < l.length), l.lookup (o + (j : Int)) = some l[j].2 := by
      intro l
      induction l with
      | nil => intro o _ j h; cases h
      | cons a l ih =>
        intro o hh j h
        have h0 := hh 0 (by simp)
        simp only [List.getElem_cons_zero] at h0
        cases j with
        | zero => rw [List.lookup_cons, show (o + ((0 : Nat) : Int) == a.1) = true from by rw [h0]; simp]; rfl
        | succ j =>
          rw [List.lookup_cons, show (o + ((j + 1 : Nat) : Int) == a.1) = false from by rw [h0]; simp; omega]
          have := ih (o + 1) (fun j h => by have := hh (j + 1) (by simpa using h); simp only [List.getElem_cons_succ] at this; rw [this]; push_cast; omega) j (by simpa using h)
          rw [show o + ((j + 1 : Nat) : Int) = o + 1 + (j : Int) from by push_cast; omega]
          simpa using this
    have := gen t lo key _ hj
    rw [show lo + (((x - lo).toNat : Nat) : Int) = x from by omega] at this
    exact this
theorem ax_sw_out {t : List (Int × Nat)} {lo x : Int} (hk : t.map (fun k => k.1) = (List.range t.length).map (fun (j : Nat) => lo + (j : Int))) (h : x < lo ∨ lo + (t.length : Int) ≤ x) : t.lookup x = none := by
  rw [List.lookup_eq_none_iff]
  intro q hq
  have h1 : q.1 ∈ t.map (fun k => k.1) := List.mem_map.mpr ⟨q, hq, rfl⟩
  rw [hk] at h1
  obtain ⟨j, hj, e⟩ := List.mem_map.mp h1
  have := List.mem_range.mp hj
  simp only [bne_iff_ne, ne_eq]
  omega
theorem ax_g48 {a b i : Nat} {v : Value} {t : List (Int × Nat)} {lv : ax_L} {st : List Value} {w : ax_W} {q : Nat × ax_L × List Value × ax_W} (hC : ax_Cx p R s m args meth c D cl cA h0 a0 rv A nL own nm cc Ts ro NW) (hs : ax_stp ro ct (48, a, b, v, t) i lv st w = some (.inl q)) (hk : ax_ck cl mt NW own nm ret nL lk cc pcs i (48, a, b, v, t) = true) (kk : ax_K p l e R s m args below meth c Q D cl cA h0 a0 b0 rv A nL pcs q.1 q.2.1 q.2.2.1 q.2.2.2) : ax_K p l e R s m args below meth c Q D cl cA h0 a0 b0 rv A nL pcs i lv st w := by
  intro pc ls H locs cells slots hpc hl hI hcs hsl
  obtain ⟨⟨ins, len⟩, hd, hm⟩ := ax_ck_inv hpc hk
  obtain ⟨hx, hb, hml, hown, hts, hK, hrv, hnm, hfr, hlo, hsz, hA, hA0, hRO⟩ := hC
  obtain ⟨hP, hD, hS⟩ := hI
  change ax_m48 cl mt NW own nm ret nL lk pcs pc (decide (pcs[i + 1]? = some (pc + len))) a b v t (ins, len) = true at hm
  change ax_s48 ro ct a b v t i lv st w = some (.inl q) at hs
  unfold ax_m48 at hm
  unfold ax_s48 at hs
  split at hs
  · next x r =>
    cases hs
    simp only [Bool.and_eq_true, decide_eq_true_eq, List.all_eq_true] at hm
    obtain ⟨⟨hal, hall⟩, hm⟩ := hm
    have fin : ∀ k, k < pcs.length → (t.lookup x.toInt).getD a = k → ∃ tp : Nat, ax_tp pcs k = (tp : Int) ∧ W p l e R s m args below meth c H locs cells slots Q (F0 m tp ls (r.map (ax_v h0 rv))) := by
      intro k hk2 he
      obtain ⟨tp, hn, htp⟩ := ax_tp_get hk2
      refine ⟨tp, htp, kk _ ls H locs cells slots ?_ hl ⟨hP, hD, hS⟩ hcs hsl⟩
      dsimp only
      rw [he]
      exact hn
    split at hm
    · next lo =>
      simp only [Bool.and_eq_true, decide_eq_true_eq, Prod.mk.injEq] at hm
      obtain ⟨⟨rfl, rfl⟩, hks⟩ := hm
      by_cases h1 : x.toInt < lo.toInt
      · obtain ⟨tp, htp, g⟩ := fin a hal (by rw [ax_sw_out hks (Or.inl h1)]; rfl)
        exact lv_tableOut (tgt := tp) hx hb hd (Or.inl h1) (ax_off htp) g
      · by_cases h2 : lo.toInt + (t.length : Int) - 1 < x.toInt
        · obtain ⟨tp, htp, g⟩ := fin a hal (by rw [ax_sw_out hks (Or.inr (by omega))]; rfl)
          exact lv_tableOut (tgt := tp) hx hb hd (Or.inr h2) (ax_off htp) g
        · obtain ⟨k, e1, e2⟩ := ax_sw_in hks (x := x.toInt) (by omega) (by omega)
          obtain ⟨tp, htp, g⟩ := fin k (hall _ (List.mem_of_getElem? e1)) (by rw [e2]; rfl)
          exact lv_tableIn (tgt := tp) hx hb hd h1 h2 (by simp [e1]) (ax_off htp) g
    · simp only [Bool.and_eq_true, decide_eq_true_eq, Prod.mk.injEq] at hm
      obtain ⟨⟨rfl, rfl⟩, hks⟩ := hm
      match t, hks, hall, fin, hd with
      | [(x0, k0), (x1, k1)], hks, hall, fin, hd =>
        simp at hks
        obtain ⟨rfl, rfl⟩ := hks
        have b0 := hall (0, k0) (by simp)
        have b1 := hall (1, k1) (by simp)
        dsimp only at b0 b1
        by_cases h0x : x.toInt = 0
        · obtain ⟨tp, htp, g⟩ := fin k0 b0 (by rw [h0x]; rfl)
          refine lv_lookup (off := ax_tp pcs k0 - (pc : Int)) (tgt := tp) hx hb hd (by simp) ?_ (ax_off htp) g
          simp [Op.lookupswitch.offset, h0x]
        · by_cases h1x : x.toInt = 1
          · obtain ⟨tp, htp, g⟩ := fin k1 b1 (by rw [h1x]; rfl)
            refine lv_lookup (off := ax_tp pcs k1 - (pc : Int)) (tgt := tp) hx hb hd (by simp) ?_ (ax_off htp) g
            simp [Op.lookupswitch.offset, h1x]
          · have q0 : (x.toInt == 0) = false := by simpa using h0x
            have q1 : (x.toInt == 1) = false := by simpa using h1x
            obtain ⟨tp, htp, g⟩ := fin a hal (by simp [List.lookup, q0, q1])
            refine lv_lookup (off := ax_tp pcs a - (pc : Int)) (tgt := tp) hx hb hd (by simp) ?_ (ax_off htp) g
            simp [Op.lookupswitch.offset, h0x, h1x, Ne.symm h0x, Ne.symm h1x, q0, q1]
  · cases hs
theorem ax_g49 {a b i : Nat} {v : Value} {t : List (Int × Nat)} {lv : ax_L} {st : List Value} {w : ax_W} {q : Nat × ax_L × List Value × ax_W} (hC : ax_Cx p R s m args meth c D cl cA h0 a0 rv A nL own nm cc Ts ro NW) (hlk : ∀ w ∈ lk, w ∈ Ts) (hs : ax_stp ro ct (49, a, b, v, t) i lv st w = some (.inl q)) (hk : ax_ck cl mt NW own nm ret nL lk cc pcs i (49, a, b, v, t) = true) (kk : ax_K p l e R s m args below meth c Q D cl cA h0 a0 b0 rv A nL pcs q.1 q.2.1 q.2.2.1 q.2.2.2) : ax_K p l e R s m args below meth c Q D cl cA h0 a0 b0 rv A nL pcs i lv st w := by
  intro pc ls H locs cells slots hpc hl hI hcs hsl
  obtain ⟨⟨ins, len⟩, hd, hm⟩ := ax_ck_inv hpc hk
  obtain ⟨hx, hb, hml, hown, hts, hK, hrv, hnm, hfr, hlo, hsz, hA, hA0, hRO⟩ := hC
  obtain ⟨hP, hD, hS⟩ := hI
  change ax_m49 cl mt NW own nm ret nL lk pcs pc (decide (pcs[i + 1]? = some (pc + len))) a b v t (ins, len) = true at hm
  change ax_s49 ro ct a b v t i lv st w = some (.inl q) at hs
  unfold ax_m49 at hm
  unfold ax_s49 at hs
  cases hs
  split at hm
  · next n9 r9 x =>
    simp only [Bool.and_eq_true, decide_eq_true_eq, Prod.mk.injEq] at hm
    obtain ⟨⟨⟨hn, rfl, rfl⟩, rfl⟩, hwl⟩ := hm
    exact va_gets hx hb hRO.2.1 hS hown (hts _ (hlk _ (List.mem_of_getElem? hwl))) (fun _ h9 => h9) hd (kk _ ls H locs cells slots hn hl ⟨hP, hD, hS⟩ hcs hsl)
  · next n9 r9 x =>
    simp only [Bool.and_eq_true, decide_eq_true_eq, Prod.mk.injEq] at hm
    obtain ⟨⟨⟨hn, rfl, rfl⟩, rfl⟩, hwl⟩ := hm
    exact va_gets hx hb hRO.2.2.1 hS hown (hts _ (hlk _ (List.mem_of_getElem? hwl))) (fun _ h9 => h9) hd (kk _ ls H locs cells slots hn hl ⟨hP, hD, hS⟩ hcs hsl)
  · cases hm
theorem ax_g50 {a b i : Nat} {v : Value} {t : List (Int × Nat)} {lv : ax_L} {st : List Value} {w : ax_W} {q : Nat × ax_L × List Value × ax_W} (hC : ax_Cx p R s m args meth c D cl cA h0 a0 rv A nL own nm cc Ts ro NW) (hlk : ∀ w ∈ lk, w ∈ Ts) (hs : ax_stp ro ct (50, a, b, v, t) i lv st w = some (.inl q)) (hk : ax_ck cl mt NW own nm ret nL lk cc pcs i (50, a, b, v, t) = true) (kk : ax_K p l e R s m args below meth c Q D cl cA h0 a0 b0 rv A nL pcs q.1 q.2.1 q.2.2.1 q.2.2.2) : ax_K p l e R s m args below meth c Q D cl cA h0 a0 b0 rv A nL pcs i lv st w := by
  intro pc ls H locs cells slots hpc hl hI hcs hsl
  obtain ⟨⟨ins, len⟩, hd, hm⟩ := ax_ck_inv hpc hk
  obtain ⟨hx, hb, hml, hown, hts, hK, hrv, hnm, hfr, hlo, hsz, hA, hA0, hRO⟩ := hC
  obtain ⟨hP, hD, hS⟩ := hI
  change ax_m50 cl mt NW own nm ret nL lk pcs pc (decide (pcs[i + 1]? = some (pc + len))) a b v t (ins, len) = true at hm
  change ax_s50 ro ct a b v t i lv st w = some (.inl q) at hs
  unfold ax_m50 at hm
  unfold ax_s50 at hs
  split at hs
  · next j r =>
    split at hs
    · next z vs hro =>
      split at hs
      · next u hu =>
        cases hs
        obtain ⟨a9, ra, hO, hV, hC9⟩ := hRO.1 _ _ hro
        have k2 : ∀ pc', pcs[i + 1]? = some pc' → W p l e R s m args below meth c H locs cells slots Q (F0 m pc' ls (ax_v h0 rv u :: r.map (ax_v h0 rv))) := fun pc' hn => kk _ ls H locs cells slots hn hl ⟨hP, hD, hS⟩ hcs hsl
        have e9 : ((Value.retAddr j :: r).map (ax_v h0 rv)) = .ref a9 :: r.map (ax_v h0 rv) := by
          rw [← ra]
          rfl
        rw [e9]
        split at hm
        · simp only [Bool.and_eq_true, decide_eq_true_eq, Prod.mk.injEq] at hm
          obtain ⟨⟨hn, rfl, rfl⟩, hwl⟩ := hm
          obtain ⟨g1, jj, rfl⟩ := hV u hu
          exact vk_getf hx hb g1 hS hown (hts _ (hlk _ (List.mem_of_getElem? hwl))) (fun _ h9 => h9) hd (k2 _ hn)
        · simp only [Bool.and_eq_true, decide_eq_true_eq, Prod.mk.injEq] at hm
          obtain ⟨⟨hn, rfl, rfl⟩, hwl⟩ := hm
          obtain ⟨g1, jj, rfl⟩ := hC9 u hu
          exact vk_getf hx hb g1 hS hown (hts _ (hlk _ (List.mem_of_getElem? hwl))) (fun _ h9 => h9) hd (k2 _ hn)
        · cases hm
      · cases hs
    · cases hs
  · cases hs
theorem ax_g51 {a b i : Nat} {v : Value} {t : List (Int × Nat)} {lv : ax_L} {st : List Value} {w : ax_W} {q : Nat × ax_L × List Value × ax_W} (hC : ax_Cx p R s m args meth c D cl cA h0 a0 rv A nL own nm cc Ts ro NW) (hs : ax_stp ro ct (51, a, b, v, t) i lv st w = some (.inl q)) (hk : ax_ck cl mt NW own nm ret nL lk cc pcs i (51, a, b, v, t) = true) (kk : ax_K p l e R s m args below meth c Q D cl cA h0 a0 b0 rv A nL pcs q.1 q.2.1 q.2.2.1 q.2.2.2) : ax_K p l e R s m args below meth c Q D cl cA h0 a0 b0 rv A nL pcs i lv st w := by
  intro pc ls H locs cells slots hpc hl hI hcs hsl
  obtain ⟨⟨ins, len⟩, hd, hm⟩ := ax_ck_inv hpc hk
  obtain ⟨hx, hb, hml, hown, hts, hK, hrv, hnm, hfr, hlo, hsz, hA, hA0, hRO⟩ := hC
  obtain ⟨hP, hD, hS⟩ := hI
  change ax_m51 cl mt NW own nm ret nL lk pcs pc (decide (pcs[i + 1]? = some (pc + len))) a b v t (ins, len) = true at hm
  change ax_s51 ro ct a b v t i lv st w = some (.inl q) at hs
  unfold ax_m51 at hm
  unfold ax_s51 at hs
  split at hs
  · next j r =>
    split at hs
    · next ty vs hro =>
      split at hs
      · cases hs
        obtain ⟨a9, ra, hT⟩ := hRO.1 _ _ hro
        simp only [Bool.and_eq_true, decide_eq_true_eq, Prod.mk.injEq] at hm
        obtain ⟨hn, rfl, rfl⟩ := hm
        have k2 := kk _ ls H locs cells slots hn hl ⟨hP, hD, hS⟩ hcs hsl
        have e9 : ((Value.retAddr j :: r).map (ax_v h0 rv)) = .ref a9 :: r.map (ax_v h0 rv) := by
          rw [← ra]
          rfl
        rw [e9]
        exact va_tlen hx hb hT hS rfl hd k2
      · cases hs
    · cases hs
  · cases hs
theorem ax_g52 {a b i : Nat} {v : Value} {t : List (Int × Nat)} {lv : ax_L} {st : List Value} {w : ax_W} {q : Nat × ax_L × List Value × ax_W} (hC : ax_Cx p R s m args meth c D cl cA h0 a0 rv A nL own nm cc Ts ro NW) (hs : ax_stp ro ct (52, a, b, v, t) i lv st w = some (.inl q)) (hk : ax_ck cl mt NW own nm ret nL lk cc pcs i (52, a, b, v, t) = true) (kk : ax_K p l e R s m args below meth c Q D cl cA h0 a0 b0 rv A nL pcs q.1 q.2.1 q.2.2.1 q.2.2.2) : ax_K p l e R s m args below meth c Q D cl cA h0 a0 b0 rv A nL pcs i lv st w := by
  intro pc ls H locs cells slots hpc hl hI hcs hsl
  obtain ⟨⟨ins, len⟩, hd, hm⟩ := ax_ck_inv hpc hk
  obtain ⟨hx, hb, hml, hown, hts, hK, hrv, hnm, hfr, hlo, hsz, hA, hA0, hRO⟩ := hC
  obtain ⟨hP, hD, hS⟩ := hI
  change ax_m52 cl mt NW own nm ret nL lk pcs pc (decide (pcs[i + 1]? = some (pc + len))) a b v t (ins, len) = true at hm
  change ax_s52 ro ct a b v t i lv st w = some (.inl q) at hs
  unfold ax_m52 at hm
  unfold ax_s52 at hs
  split at hs
  · next y j r =>
    split at hs
    · next vs hro =>
      split at hs
      · next hj =>
        split at hs
        · next x hxv =>
          cases hs
          obtain ⟨a9, ra, hT⟩ := hRO.1 _ _ hro
          simp only [Bool.and_eq_true, decide_eq_true_eq, Prod.mk.injEq] at hm
          obtain ⟨hn, rfl, rfl⟩ := hm
          have k2 := kk _ ls H locs cells slots hn hl ⟨hP, hD, hS⟩ hcs hsl
          have e9 : ((Value.int y :: Value.retAddr j :: r).map (ax_v h0 rv)) = .int y :: .ref a9 :: r.map (ax_v h0 rv) := by
            rw [← ra]
            rfl
          rw [e9]
          exact va_ti (v := .int x) hx hb hT hS (ax_vp hj.1 hj.2) (by simp [hxv]) hd k2
        · cases hs
      · cases hs
    · cases hs
  · cases hs
theorem ax_g53 {a b i : Nat} {v : Value} {t : List (Int × Nat)} {lv : ax_L} {st : List Value} {w : ax_W} {q : Nat × ax_L × List Value × ax_W} (hC : ax_Cx p R s m args meth c D cl cA h0 a0 rv A nL own nm cc Ts ro NW) (hs : ax_stp ro ct (53, a, b, v, t) i lv st w = some (.inl q)) (hk : ax_ck cl mt NW own nm ret nL lk cc pcs i (53, a, b, v, t) = true) (kk : ax_K p l e R s m args below meth c Q D cl cA h0 a0 b0 rv A nL pcs q.1 q.2.1 q.2.2.1 q.2.2.2) : ax_K p l e R s m args below meth c Q D cl cA h0 a0 b0 rv A nL pcs i lv st w := by
  intro pc ls H locs cells slots hpc hl hI hcs hsl
  obtain ⟨⟨ins, len⟩, hd, hm⟩ := ax_ck_inv hpc hk
  obtain ⟨hx, hb, hml, hown, hts, hK, hrv, hnm, hfr, hlo, hsz, hA, hA0, hRO⟩ := hC
  obtain ⟨hP, hD, hS⟩ := hI
  change ax_m53 cl mt NW own nm ret nL lk pcs pc (decide (pcs[i + 1]? = some (pc + len))) a b v t (ins, len) = true at hm
  change ax_s53 ro ct a b v t i lv st w = some (.inl q) at hs
  unfold ax_m53 at hm
  unfold ax_s53 at hs
  split at hs
  · next y j r =>
    split at hs
    · next vs hro =>
      split at hs
      · next hj =>
        split at hs
        · next x hxv =>
          cases hs
          obtain ⟨a9, ra, hT⟩ := hRO.1 _ _ hro
          simp only [Bool.and_eq_true, decide_eq_true_eq, Prod.mk.injEq] at hm
          obtain ⟨hn, rfl, rfl⟩ := hm
          have k2 := kk _ ls H locs cells slots hn hl ⟨hP, hD, hS⟩ hcs hsl
          have e9 : ((Value.int y :: Value.retAddr j :: r).map (ax_v h0 rv)) = .int y :: .ref a9 :: r.map (ax_v h0 rv) := by
            rw [← ra]
            rfl
          rw [e9]
          exact va_tb (v := .int x) hx hb hT hS (ax_vp hj.1 hj.2) (by simp [hxv]) hd k2
        · cases hs
      · cases hs
    · cases hs
  · cases hs
theorem ax_g39 {a b i : Nat} {v : Value} {t : List (Int × Nat)} {lv : ax_L} {st : List Value} {w : ax_W} {q : Nat × ax_L × List Value × ax_W} (hC : ax_Cx p R s m args meth c D cl cA h0 a0 rv A nL own nm cc Ts ro NW) (hlk : ∀ w ∈ lk, w ∈ Ts) (hGW : ax_GW Ts) (hs : ax_stp ro ct (39, a, b, v, t) i lv st w = some (.inl q)) (hk : ax_ck cl mt NW own nm ret nL lk cc pcs i (39, a, b, v, t) = true) (kk : ax_K p l e R s m args below meth c Q D cl cA h0 a0 b0 rv A nL pcs q.1 q.2.1 q.2.2.1 q.2.2.2) : ax_K p l e R s m args below meth c Q D cl cA h0 a0 b0 rv A nL pcs i lv st w := by
  intro pc ls H locs cells slots hpc hl hI hcs hsl
  obtain ⟨⟨ins, len⟩, hd, hm⟩ := ax_ck_inv hpc hk
  obtain ⟨hx, hb, hml, hown, hts, hK, hrv, hnm, hfr, hlo, hsz, hA, hA0, hRO⟩ := hC
  obtain ⟨hP, hD, hS⟩ := hI
  change ax_m39 cl mt NW own nm ret nL lk pcs pc (decide (pcs[i + 1]? = some (pc + len))) a b v t (ins, len) = true at hm
  change ax_s39 ro ct a b v t i lv st w = some (.inl q) at hs
  unfold ax_m39 at hm
  unfold ax_s39 at hs
  split at hs
  · next k r =>
    split at hs
    · next hws =>
      cases hs
      split at hm
      · next n9 r9 =>
        simp only [Bool.and_eq_true, decide_eq_true_eq, Prod.mk.injEq] at hm
        obtain ⟨⟨hn, rfl, rfl⟩, hwl⟩ := hm
        have hro9 := lv_room (m := m) (pc := pc) (ls := ls) (rest := (Value.ref k :: r).map (ax_v h0 rv)) (st := r.map (ax_v h0 rv)) (by rw [ax_ws_v h0 rv hrv]; exact hws)
        exact W.objInit hx hb hown (hts _ (hlk _ (List.mem_of_getElem? hwl))) (hts _ hGW.2.2.2.2.1) (hts _ hGW.2.2.2.2.2.1) rfl (by rw [hml]; exact hl.1) rfl hd hfr (by omega) (kk _ ls H locs cells slots hn hl ⟨hP, hD, hS⟩ hcs hsl)
      · cases hm
    · cases hs
  · cases hs
theorem ax_g40 {a b i : Nat} {v : Value} {t : List (Int × Nat)} {lv : ax_L} {st : List Value} {w : ax_W} {q : Nat × ax_L × List Value × ax_W} (hC : ax_Cx p R s m args meth c D cl cA h0 a0 rv A nL own nm cc Ts ro NW) (hlk : ∀ w ∈ lk, w ∈ Ts) (hGW : ax_GW Ts) (hroom : q.2.2.2.length ≤ R.cells + a0 ∧ ax_sl q.2.2.2 ≤ R.slots + b0) (hs : ax_stp ro ct (40, a, b, v, t) i lv st w = some (.inl q)) (hk : ax_ck cl mt NW own nm ret nL lk cc pcs i (40, a, b, v, t) = true) (kk : ax_K p l e R s m args below meth c Q D cl cA h0 a0 b0 rv A nL pcs q.1 q.2.1 q.2.2.1 q.2.2.2) : ax_K p l e R s m args below meth c Q D cl cA h0 a0 b0 rv A nL pcs i lv st w := by
  intro pc ls H locs cells slots hpc hl hI hcs hsl
  obtain ⟨⟨ins, len⟩, hd, hm⟩ := ax_ck_inv hpc hk
  obtain ⟨hx, hb, hml, hown, hts, hK, hrv, hnm, hfr, hlo, hsz, hA, hA0, hRO⟩ := hC
  obtain ⟨hP, hD, hS⟩ := hI
  change ax_m40 cl mt NW own nm ret nL lk pcs pc (decide (pcs[i + 1]? = some (pc + len))) a b v t (ins, len) = true at hm
  change ax_s40 ro ct a b v t i lv st w = some (.inl q) at hs
  unfold ax_m40 at hm
  unfold ax_s40 at hs
  split at hs
  · next y x r =>
    split at hs
    · next hws =>
      cases hs
      have hr1 := hroom.1
      have hr2 := hroom.2
      dsimp only at hr1 hr2
      obtain ⟨-, -, -, -, -, -, gI, ⟨gm1, gm2⟩, ⟨gn1, gn2⟩, -⟩ := hGW
      split at hm
      · simp only [Bool.and_eq_true, decide_eq_true_eq, Prod.mk.injEq] at hm
        obtain ⟨⟨hn, rfl, rfl⟩, hwl⟩ := hm
        exact va_mmax hx hb (by rw [hml]; exact hl.1.symm) hown (hts _ (hlk _ (List.mem_of_getElem? hwl))) (hts _ gm1) (hts _ gI) (hts _ gm2) hfr (by rw [ax_ws_v h0 rv hrv]; omega) (by omega) (by omega) hd (kk _ ls H locs cells slots hn hl ⟨hP, hD, hS⟩ hcs hsl)
      · simp only [Bool.and_eq_true, decide_eq_true_eq, Prod.mk.injEq] at hm
        obtain ⟨⟨hn, rfl, rfl⟩, hwl⟩ := hm
        exact va_mmin hx hb (by rw [hml]; exact hl.1.symm) hown (hts _ (hlk _ (List.mem_of_getElem? hwl))) (hts _ gn1) (hts _ gI) (hts _ gn2) hfr (by rw [ax_ws_v h0 rv hrv]; omega) (by omega) (by omega) hd (kk _ ls H locs cells slots hn hl ⟨hP, hD, hS⟩ hcs hsl)
      · cases hm
    · cases hs
  · cases hs
theorem ax_g41 {a b i : Nat} {v : Value} {t : List (Int × Nat)} {lv : ax_L} {st : List Value} {w : ax_W} {q : Nat × ax_L × List Value × ax_W} (hC : ax_Cx p R s m args meth c D cl cA h0 a0 rv A nL own nm cc Ts ro NW) (hlk : ∀ w ∈ lk, w ∈ Ts) (hGW : ax_GW Ts) (hroom : q.2.2.2.length ≤ R.cells + a0 ∧ ax_sl q.2.2.2 ≤ R.slots + b0) (hs : ax_stp ro ct (41, a, b, v, t) i lv st w = some (.inl q)) (hk : ax_ck cl mt NW own nm ret nL lk cc pcs i (41, a, b, v, t) = true) (kk : ax_K p l e R s m args below meth c Q D cl cA h0 a0 b0 rv A nL pcs q.1 q.2.1 q.2.2.1 q.2.2.2) : ax_K p l e R s m args below meth c Q D cl cA h0 a0 b0 rv A nL pcs i lv st w := by
  intro pc ls H locs cells slots hpc hl hI hcs hsl
  obtain ⟨⟨ins, len⟩, hd, hm⟩ := ax_ck_inv hpc hk
  obtain ⟨hx, hb, hml, hown, hts, hK, hrv, hnm, hfr, hlo, hsz, hA, hA0, hRO⟩ := hC
  obtain ⟨hP, hD, hS⟩ := hI
  change ax_m41 cl mt NW own nm ret nL lk pcs pc (decide (pcs[i + 1]? = some (pc + len))) a b v t (ins, len) = true at hm
  change ax_s41 ro ct a b v t i lv st w = some (.inl q) at hs
  unfold ax_m41 at hm
  unfold ax_s41 at hs
  split at hs
  · next x r =>
    split at hs
    · next hws =>
      cases hs
      have hr1 := hroom.1
      have hr2 := hroom.2
      dsimp only at hr1 hr2
      obtain ⟨-, -, -, -, -, -, gI, -, -, gm1, gm2⟩ := hGW
      split at hm
      · simp only [Bool.and_eq_true, decide_eq_true_eq, Prod.mk.injEq] at hm
        obtain ⟨⟨hn, rfl, rfl⟩, hwl⟩ := hm
        exact va_mabs hx hb (by rw [hml]; exact hl.1.symm) hown (hts _ (hlk _ (List.mem_of_getElem? hwl))) (hts _ gm1) (hts _ gI) (hts _ gm2) hfr (by rw [ax_ws_v h0 rv hrv]; omega) (by omega) (by omega) hd (kk _ ls H locs cells slots hn hl ⟨hP, hD, hS⟩ hcs hsl)
      · cases hm
    · cases hs
  · cases hs
end AXS
