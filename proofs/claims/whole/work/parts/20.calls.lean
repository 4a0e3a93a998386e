/-! CALLS -/
theorem ax_roc_to {rv : Nat → Value} {U U' : State} {H H' : Heap} {A A' : Nat → Prop} {j : Nat} {c : ax_C} (hvm : U.vm.Alike U'.vm) (hq : ∀ a : Nat, a < H.size → ¬ A a → H'[a]? = H[a]?) (hAB : ∀ q, A' q → A q) (h : ax_roc rv A U H j c) : ax_roc rv A' U' H' j c := by
  obtain ⟨k, vs⟩ := c
  obtain ⟨a, ra, h⟩ := h
  refine ⟨a, ra, ?_⟩
  cases k with
  | inl ty => exact ((va_T.kept h hq).narrow hAB).moved hvm
  | inr z =>
    obtain ⟨h1, h2, h3⟩ := h
    exact ⟨((h1.kept hq).narrow hAB).moved hvm, fun v hv => ⟨(((h2 v hv).1.kept hq).narrow hAB).moved hvm, (h2 v hv).2⟩, fun v hv => ⟨(((h3 v hv).1.kept hq).narrow hAB).moved hvm, (h3 v hv).2⟩⟩
theorem ax_RO_to {ro : ax_W} {rv : Nat → Value} {NW : List Cond} {U U' : State} {H H' : Heap} {A A' : Nat → Prop} (hvm : U.vm.Alike U'.vm) (hq : ∀ a : Nat, a < H.size → ¬ A a → H'[a]? = H[a]?) (hAB : ∀ q, A' q → A q) (hN : ∀ w ∈ NW, va_Nw w U → va_Nw w U') (hk : ∀ own k tx a, vk_R own k tx a U → vk_R own k tx a U') (h : ax_RO ro rv NW A U H) : ax_RO ro rv NW A' U' H' := by
  obtain ⟨h1, h2, h3, h4, h5, ⟨a1, t1, r1, z1⟩, ⟨a3, t3, r3, z3⟩, h8⟩ := h
  exact ⟨fun j c hj => ax_roc_to hvm hq hAB (h1 j c hj), ((h2.kept hq).narrow hAB).moved hvm, ((h3.kept hq).narrow hAB).moved hvm, fun w hw => hN w hw (h4 w hw), h5.moved hvm, ⟨a1, t1, r1, hk _ _ _ _ z1⟩, ⟨a3, t3, r3, hk _ _ _ _ z3⟩, h8⟩
theorem ax_nest_warm {NW : List Cond} (hNW : ax_nestw NW) {s U : State} (hW : s.WarmedH U.vm) : ∀ w ∈ NW, va_Nw w s → va_Nw w U := by
  intro w hw h
  rcases hNW w hw with ⟨a, i, x, g, rfl⟩ | ⟨a, i, b, n, d, g, rfl⟩
  · exact va_Nw.warmM hW h
  · exact va_Nw.warmF hW h
theorem ax_nest_same {NW : List Cond} (hNW : ax_nestw NW) {s U : State} (hW : s.vm = U.vm) : ∀ w ∈ NW, va_Nw w s → va_Nw w U := by
  intro w hw h
  rcases hNW w hw with ⟨a, i, x, g, rfl⟩ | ⟨a, i, b, n, d, g, rfl⟩
  · exact va_Nw.same rfl hW h
  · exact va_Nw.same rfl hW h
def ax_Pc (D : va_G) (cl : List vw_C) (cA : FieldType → ClassId) (h0 : Nat) (rv : Nat → Value) (ro : ax_W) (NW : List Cond) (w : ax_W) (as : List Value) : Array Value → State → Prop := va_Pc (as.map (ax_v h0 rv)) (fun U => U.heap.size = h0 + w.length ∧ va_P D cl (ax_w cA h0 rv w) U.heap ∧ va_K D cl (ax_tys cA) U ∧ va_D (fun _ => True) (ax_w cA h0 rv w) ∧ ax_RO ro rv NW (va_A (ax_w cA h0 rv w) (h0 + w.length)) U U.heap)
def ax_Qc (D : va_G) (cl : List vw_C) (cA : FieldType → ClassId) (h0 : Nat) (rv : Nat → Value) (A : Nat → Prop) (r : Option Value) (w' : ax_W) : Array Value → State → Outcome → State → Prop := fun _ st oc t => oc = .returned (r.map (ax_v h0 rv)) ∧ va_P D cl (ax_w cA h0 rv w') t.heap ∧ va_D A (ax_w cA h0 rv w') ∧ va_F A st t
theorem ax_blind {D : va_G} {cl : List vw_C} {cA : FieldType → ClassId} {h0 : Nat} {rv : Nat → Value} {ro : ax_W} {NW : List Cond} {w : ax_W} {as : List Value} (hNW : ax_nestw NW) : FrameBlind (ax_Pc D cl cA h0 rv ro NW w as) := by
  intro a U g mk q
  obtain ⟨q0, q1, q2, q3, q4, q5⟩ := q
  exact ⟨q0, q1, q2, va_K.moved (u := U) (U := U.calling g mk a) (Vm.Alike.refl U.vm) q3, q4, ax_RO_to (U := U) (U' := U.calling g mk a) (Vm.Alike.refl U.vm) (fun _ _ _ => rfl) (fun _ h => h) (ax_nest_same hNW rfl) (fun _ _ _ _ h => vk_R.same rfl h) q5⟩
section AXC
variable {p : Program} {l : Launch} {e : Env} {R : Room} {s : State} {m : MethodId} {args : Array Value} {below : List Frame} {meth : Method} {c : Code} {Q : State → Prop} {D : va_G} {cl : List vw_C} {cA : FieldType → ClassId} {h0 a0 b0 nL : Nat} {rv : Nat → Value} {A : Nat → Prop} {pcs : List Nat} {own nm : String} {cc : ByteArray} {Ts lk NW : List Cond} {ro : ax_W} {ct : ax_T} {mt : List ax_M} {ret : Option FieldType} {M : ax_M} {pg : Nat → List ax_I}
theorem ax_call {mc ms pc : Nat} {a : Array Value} {st0 rest : List Value} {ls : Array Slot} {H : Heap} {locs : List Loc} {cells slots : Nat} {A1 : Nat → Prop} {r : Option Value} {w1 : ax_W} (hr : va_Run p l e R s m args below meth c H locs cells slots mc ms (F0 m pc ls st0) rest (ax_Qc D cl cA h0 rv A1 r w1 a) A1) (hS : va_S A s.heap H locs) (hA1 : ∀ q, A1 q → A q)
    (kk : ∀ (H1 : Heap) (locs1 : List Loc), ax_Iv D cl cA h0 rv A s w1 H1 locs1 → W p l e R s m args below meth c H1 locs1 (cells + mc) (slots + ms) Q (F0 m (pc + 3) ls ((r.map (ax_v h0 rv)).toList ++ rest))) : W p l e R s m args below meth c H locs cells slots Q (F0 m pc ls st0) := by
  intro T hT X
  obtain ⟨v, st₀, t, T', L, h0', X', hL, e1, e2, ⟨hv, hp, hd, hz, hk⟩, st⟩ := hr T hT X
  cases hv
  rw [h0'] at hz hk
  obtain ⟨t2, a1, b1⟩ := kk T'.heap (locs ++ L) ⟨by rw [e1]; exact hp, hd.weaken (fun _ _ _ h => hA1 _ h), Nat.le_trans hS.1 (by rw [e1]; exact hz), fun q h1 h2 => by rw [e1, hk q (Nat.lt_of_lt_of_le h1 hS.1) (fun z => h2 (hA1 q z))]; exact hS.2.1 q h1 h2, fun q hq => by
      rcases List.mem_append.mp hq with h | h
      · exact hS.2.2 q h
      · exact hA1 _ (hL q h)⟩ T' rfl X'
  exact ⟨t2, st t2 a1, b1⟩
/-- the heap has just the world's cells more -/
theorem ax_sizes {w : ax_W} {H : Heap} {locs : List Loc} {cells : Nat} (hC : ax_Cx p R s m args meth c D cl cA h0 a0 rv A nL own nm cc Ts ro NW) (hI : ax_Iv D cl cA h0 rv A s w H locs) (hcs : cells + a0 = w.length) (hz : H.size ≤ s.heap.size + cells) : H.size = h0 + w.length := by
  obtain ⟨hx, hb, hml, hown, hts, hK, hrv, hnm, hfr, hlo, hsz, hA, hA0, hRO⟩ := hC
  obtain ⟨hP, hD, hS⟩ := hI
  have h1 := hS.1
  rcases Nat.eq_zero_or_pos w.length with h | h
  · omega
  · have hk : w.length - 1 < w.length := by omega
    have := (hP _ _ (ax_w_get (List.getElem?_eq_getElem hk))).lt
    dsimp only at this
    omega
theorem ax_A1 {w : ax_W} (hD : va_D A (ax_w cA h0 rv w)) (hA : ∀ q, s.heap.size ≤ q → A q) (hz : s.heap.size ≤ h0 + w.length) : ∀ q, va_A (ax_w cA h0 rv w) (h0 + w.length) q → A q := by
  intro q h
  rcases h with ⟨k, e, h⟩ | h
  · exact hD.2 k (q, e) h
  · exact hA q (Nat.le_trans hz h)
theorem ax_rets {i' pc : Nat} {ai : ax_I} {lv' : ax_L} {st' : List Value} {w1 : ax_W} {r : Option Value} {H : Heap} {locs : List Loc} {cells slots : Nat} {ls : Array Slot} {q9 : Instr × Nat} {Qc : Array Value → State → Outcome → State → Prop} {free : Addr → Prop} {nx : Bool} (hx : p.tables.exec = Jvm.exec) (hb : c.code = cc) (hlocks : meth.locks = false) (hr : meth.sig.returnType = ret) (hst : ax_stp ro ct ai i' lv' st' w1 = some (.inr (.inr r))) (hd : decode cc pc = .ok q9) (hm : ax_mt cl mt NW own nm ret nL lk pcs pc nx ai q9 = true) (hf : ∀ q ∈ locs, free q.base)
    (fin : ∀ (x : Option Value), r = x → ∀ t : State, t.heap = H → s.WarmedH t.vm → Qc args s (.returned (x.map (ax_v h0 rv))) t) : W p l e R s m args below meth c H locs cells slots (MQ below Qc args s cells slots free) (F0 m pc ls (st'.map (ax_v h0 rv))) := by
  obtain ⟨op, a, b, v, t⟩ := ai
  have hlt := ax_op_lt hst
  obtain ⟨ins, len⟩ := q9
  match op, hst, hm, hlt with
  | 0, hst, hm, _ =>
    exfalso
    change ax_s0 ro ct a b v t i' lv' st' w1 = _ at hst
    unfold ax_s0 at hst
    repeat' (first | (cases hst; done) | split at hst)
  | 1, hst, hm, _ =>
    exfalso
    change ax_s1 ro ct a b v t i' lv' st' w1 = _ at hst
    unfold ax_s1 at hst
    repeat' (first | (cases hst; done) | split at hst)
  | 2, hst, hm, _ =>
    exfalso
    change ax_s2 ro ct a b v t i' lv' st' w1 = _ at hst
    unfold ax_s2 at hst
    repeat' (first | (cases hst; done) | split at hst)
  | 3, hst, hm, _ =>
    exfalso
    change ax_s3 ro ct a b v t i' lv' st' w1 = _ at hst
    unfold ax_s3 at hst
    repeat' (first | (cases hst; done) | split at hst)
  | 4, hst, hm, _ =>
    exfalso
    change ax_s4 ro ct a b v t i' lv' st' w1 = _ at hst
    unfold ax_s4 at hst
    repeat' (first | (cases hst; done) | split at hst)
  | 5, hst, hm, _ =>
    exfalso
    change ax_s5 ro ct a b v t i' lv' st' w1 = _ at hst
    unfold ax_s5 at hst
    repeat' (first | (cases hst; done) | split at hst)
  | 6, hst, hm, _ =>
    exfalso
    change ax_s6 ro ct a b v t i' lv' st' w1 = _ at hst
    unfold ax_s6 at hst
    repeat' (first | (cases hst; done) | split at hst)
  | 7, hst, hm, _ =>
    exfalso
    change ax_s7 ro ct a b v t i' lv' st' w1 = _ at hst
    unfold ax_s7 at hst
    repeat' (first | (cases hst; done) | split at hst)
  | 8, hst, hm, _ =>
    exfalso
    change ax_s8 ro ct a b v t i' lv' st' w1 = _ at hst
    unfold ax_s8 at hst
    repeat' (first | (cases hst; done) | split at hst)
  | 9, hst, hm, _ =>
    exfalso
    change ax_s9 ro ct a b v t i' lv' st' w1 = _ at hst
    unfold ax_s9 at hst
    repeat' (first | (cases hst; done) | split at hst)
  | 10, hst, hm, _ =>
    exfalso
    change ax_s10 ro ct a b v t i' lv' st' w1 = _ at hst
    unfold ax_s10 at hst
    repeat' (first | (cases hst; done) | split at hst)
  | 11, hst, hm, _ =>
    exfalso
    change ax_s11 ro ct a b v t i' lv' st' w1 = _ at hst
    unfold ax_s11 at hst
    repeat' (first | (cases hst; done) | split at hst)
  | 12, hst, hm, _ =>
    exfalso
    change ax_s12 ro ct a b v t i' lv' st' w1 = _ at hst
    unfold ax_s12 at hst
    repeat' (first | (cases hst; done) | split at hst)
  | 13, hst, hm, _ =>
    exfalso
    change ax_s13 ro ct a b v t i' lv' st' w1 = _ at hst
    unfold ax_s13 at hst
    repeat' (first | (cases hst; done) | split at hst)
  | 14, hst, hm, _ =>
    exfalso
    change ax_s14 ro ct a b v t i' lv' st' w1 = _ at hst
    unfold ax_s14 at hst
    repeat' (first | (cases hst; done) | split at hst)
  | 15, hst, hm, _ =>
    exfalso
    change ax_s15 ro ct a b v t i' lv' st' w1 = _ at hst
    unfold ax_s15 at hst
    repeat' (first | (cases hst; done) | split at hst)
  | 16, hst, hm, _ =>
    exfalso
    change ax_s16 ro ct a b v t i' lv' st' w1 = _ at hst
    unfold ax_s16 at hst
    repeat' (first | (cases hst; done) | split at hst)
  | 17, hst, hm, _ =>
    exfalso
    change ax_s17 ro ct a b v t i' lv' st' w1 = _ at hst
    unfold ax_s17 at hst
    repeat' (first | (cases hst; done) | split at hst)
  | 18, hst, hm, _ =>
    exfalso
    change ax_s18 ro ct a b v t i' lv' st' w1 = _ at hst
    unfold ax_s18 at hst
    repeat' (first | (cases hst; done) | split at hst)
  | 19, hst, hm, _ =>
    exfalso
    change ax_s19 ro ct a b v t i' lv' st' w1 = _ at hst
    unfold ax_s19 at hst
    repeat' (first | (cases hst; done) | split at hst)
  | 20, hst, hm, _ =>
    exfalso
    change ax_s20 ro ct a b v t i' lv' st' w1 = _ at hst
    unfold ax_s20 at hst
    repeat' (first | (cases hst; done) | split at hst)
  | 21, hst, hm, _ =>
    exfalso
    change ax_s21 ro ct a b v t i' lv' st' w1 = _ at hst
    unfold ax_s21 at hst
    repeat' (first | (cases hst; done) | split at hst)
  | 22, hst, hm, _ =>
    exfalso
    change ax_s22 ro ct a b v t i' lv' st' w1 = _ at hst
    unfold ax_s22 at hst
    repeat' (first | (cases hst; done) | split at hst)
  | 23, hst, hm, _ =>
    exfalso
    change ax_s23 ro ct a b v t i' lv' st' w1 = _ at hst
    unfold ax_s23 at hst
    repeat' (first | (cases hst; done) | split at hst)
  | 24, hst, hm, _ =>
    exfalso
    change ax_s24 ro ct a b v t i' lv' st' w1 = _ at hst
    unfold ax_s24 at hst
    repeat' (first | (cases hst; done) | split at hst)
  | 25, hst, hm, _ =>
    exfalso
    change ax_s25 ro ct a b v t i' lv' st' w1 = _ at hst
    unfold ax_s25 at hst
    repeat' (first | (cases hst; done) | split at hst)
  | 26, hst, hm, _ =>
    exfalso
    change ax_s26 ro ct a b v t i' lv' st' w1 = _ at hst
    unfold ax_s26 at hst
    repeat' (first | (cases hst; done) | split at hst)
  | 27, hst, hm, _ =>
    exfalso
    change ax_s27 ro ct a b v t i' lv' st' w1 = _ at hst
    unfold ax_s27 at hst
    repeat' (first | (cases hst; done) | split at hst)
  | 28, hst, hm, _ =>
    exfalso
    change ax_s28 ro ct a b v t i' lv' st' w1 = _ at hst
    unfold ax_s28 at hst
    repeat' (first | (cases hst; done) | split at hst)
  | 29, hst, hm, _ =>
    exfalso
    change ax_s29 ro ct a b v t i' lv' st' w1 = _ at hst
    unfold ax_s29 at hst
    repeat' (first | (cases hst; done) | split at hst)
  | 30, hst, hm, _ =>
    exfalso
    change ax_s30 ro ct a b v t i' lv' st' w1 = _ at hst
    unfold ax_s30 at hst
    repeat' (first | (cases hst; done) | split at hst)
  | 31, hst, hm, _ =>
    exfalso
    change ax_s31 ro ct a b v t i' lv' st' w1 = _ at hst
    unfold ax_s31 at hst
    repeat' (first | (cases hst; done) | split at hst)
  | 32, hst, hm, _ =>
    exfalso
    change ax_s32 ro ct a b v t i' lv' st' w1 = _ at hst
    unfold ax_s32 at hst
    repeat' (first | (cases hst; done) | split at hst)
  | 33, hst, hm, _ =>
    exfalso
    change ax_s33 ro ct a b v t i' lv' st' w1 = _ at hst
    unfold ax_s33 at hst
    repeat' (first | (cases hst; done) | split at hst)
  | 34, hst, hm, _ =>
    exfalso
    change ax_s34 ro ct a b v t i' lv' st' w1 = _ at hst
    unfold ax_s34 at hst
    repeat' (first | (cases hst; done) | split at hst)
  | 35, hst, hm, _ =>
    exfalso
    change ax_s35 ro ct a b v t i' lv' st' w1 = _ at hst
    unfold ax_s35 at hst
    repeat' (first | (cases hst; done) | split at hst)
  | 36, hst, hm, _ =>
    exfalso
    change ax_s36 ro ct a b v t i' lv' st' w1 = _ at hst
    unfold ax_s36 at hst
    repeat' (first | (cases hst; done) | split at hst)
  | 37, hst, hm, _ =>
    exfalso
    change ax_s37 ro ct a b v t i' lv' st' w1 = _ at hst
    unfold ax_s37 at hst
    repeat' (first | (cases hst; done) | split at hst)
  | 38, hst, hm, _ =>
    exfalso
    change ax_s38 ro ct a b v t i' lv' st' w1 = _ at hst
    unfold ax_s38 at hst
    repeat' (first | (cases hst; done) | split at hst)
  | 39, hst, hm, _ =>
    exfalso
    change ax_s39 ro ct a b v t i' lv' st' w1 = _ at hst
    unfold ax_s39 at hst
    repeat' (first | (cases hst; done) | split at hst)
  | 40, hst, hm, _ =>
    exfalso
    change ax_s40 ro ct a b v t i' lv' st' w1 = _ at hst
    unfold ax_s40 at hst
    repeat' (first | (cases hst; done) | split at hst)
  | 41, hst, hm, _ =>
    exfalso
    change ax_s41 ro ct a b v t i' lv' st' w1 = _ at hst
    unfold ax_s41 at hst
    repeat' (first | (cases hst; done) | split at hst)
  | 42, hst, hm, _ => cases hst
  | 43, hst, hm, _ =>
    exfalso
    change ax_s43 ro ct a b v t i' lv' st' w1 = _ at hst
    unfold ax_s43 at hst
    repeat' (first | (cases hst; done) | split at hst)
  | 44, hst, hm, _ =>
    change ax_s44 ro ct a b v t i' lv' st' w1 = _ at hst
    change ax_m44 cl mt NW own nm ret nL lk pcs pc nx a b v t (ins, len) = true at hm
    unfold ax_s44 at hst
    unfold ax_m44 at hm
    split at hst
    · cases hst
      simp only [Bool.and_eq_true, decide_eq_true_eq, Prod.mk.injEq] at hm
      obtain ⟨⟨rfl, rfl⟩, hret⟩ := hm
      exact W.vret hx hb (hr.trans hret) (fin none rfl) hf hd hlocks
    · cases hst
  | 45, hst, hm, _ =>
    change ax_s45 ro ct a b v t i' lv' st' w1 = _ at hst
    change ax_m45 cl mt NW own nm ret nL lk pcs pc nx a b v t (ins, len) = true at hm
    unfold ax_s45 at hst
    unfold ax_m45 at hm
    split at hst
    · next x =>
      split at hst
      · next hnar =>
        cases hst
        simp only [Bool.and_eq_true, decide_eq_true_eq, Prod.mk.injEq] at hm
        obtain ⟨⟨rfl, rfl⟩, hret⟩ := hm
        exact W.zret hx hb (hr.trans hret) hnar (fin (some (.int _)) rfl) hf hd hlocks
      · cases hst
    · cases hst
  | 46, hst, hm, _ =>
    change ax_s46 ro ct a b v t i' lv' st' w1 = _ at hst
    change ax_m46 cl mt NW own nm ret nL lk pcs pc nx a b v t (ins, len) = true at hm
    unfold ax_s46 at hst
    unfold ax_m46 at hm
    split at hst
    · next x =>
      cases hst
      simp only [Bool.and_eq_true, decide_eq_true_eq, Prod.mk.injEq] at hm
      obtain ⟨⟨rfl, rfl⟩, hret⟩ := hm
      exact W.lret hx hb (hr.trans hret) (fin (some (.long _)) rfl) hf hd hlocks
    · cases hst
  | 47, hst, hm, _ =>
    change ax_s47 ro ct a b v t i' lv' st' w1 = _ at hst
    change ax_m47 cl mt NW own nm ret nL lk pcs pc nx a b v t (ins, len) = true at hm
    unfold ax_s47 at hst
    unfold ax_m47 at hm
    split at hst
    · next x =>
      cases hst
      simp only [Bool.and_eq_true, Bool.or_eq_true, decide_eq_true_eq, Prod.mk.injEq] at hm
      obtain ⟨⟨rfl, rfl⟩, hret⟩ := hm
      rcases hret with hret | hret
      · exact W.aret hx hb (hr.trans hret) (Or.inl ⟨_, rfl⟩) (Or.inr ⟨_, rfl⟩) (fin (some (.ref _)) rfl) hf hd hlocks
      · exact W.aret hx hb (hr.trans hret) (Or.inl ⟨_, rfl⟩) (Or.inr ⟨_, rfl⟩) (fin (some (.ref _)) rfl) hf hd hlocks
    · cases hst
  | 48, hst, hm, _ =>
    exfalso
    change ax_s48 ro ct a b v t i' lv' st' w1 = _ at hst
    unfold ax_s48 at hst
    repeat' (first | (cases hst; done) | split at hst)
  | 49, hst, hm, _ =>
    exfalso
    change ax_s49 ro ct a b v t i' lv' st' w1 = _ at hst
    unfold ax_s49 at hst
    repeat' (first | (cases hst; done) | split at hst)
  | 50, hst, hm, _ =>
    exfalso
    change ax_s50 ro ct a b v t i' lv' st' w1 = _ at hst
    unfold ax_s50 at hst
    repeat' (first | (cases hst; done) | split at hst)
  | 51, hst, hm, _ =>
    exfalso
    change ax_s51 ro ct a b v t i' lv' st' w1 = _ at hst
    unfold ax_s51 at hst
    repeat' (first | (cases hst; done) | split at hst)
  | 52, hst, hm, _ =>
    exfalso
    change ax_s52 ro ct a b v t i' lv' st' w1 = _ at hst
    unfold ax_s52 at hst
    repeat' (first | (cases hst; done) | split at hst)
  | 53, hst, hm, _ =>
    exfalso
    change ax_s53 ro ct a b v t i' lv' st' w1 = _ at hst
    unfold ax_s53 at hst
    repeat' (first | (cases hst; done) | split at hst)
  | 54, hst, hm, _ =>
    exfalso
    change ax_s54 ro ct a b v t i' lv' st' w1 = _ at hst
    unfold ax_s54 at hst
    repeat' (first | (cases hst; done) | split at hst)
  | 55, hst, hm, _ =>
    exfalso
    change ax_s55 ro ct a b v t i' lv' st' w1 = _ at hst
    unfold ax_s55 at hst
    repeat' (first | (cases hst; done) | split at hst)
  | 56, hst, hm, _ =>
    exfalso
    change ax_s56 ro ct a b v t i' lv' st' w1 = _ at hst
    unfold ax_s56 at hst
    repeat' (first | (cases hst; done) | split at hst)
/-- a method's contract out of its run -/
theorem ax_met {w w1 : ax_W} {as : List Value} {r : Option Value} {d n : Nat} (hPg : ax_Pg cl ct mt NW Ts pg) (hM : ax_Mok cl mt NW Ts M) (hrv : ∀ j, (rv j).category = 1) (haw : ax_ws as ≤ M.2.2.1) (hmono : w.length ≤ w1.length ∧ ax_sl w ≤ ax_sl w1)
    (hex : ax_ex ro ct pg n d M.2.2.2.2.2.2.2 0 (lv_args 0 as) [] w = some (r, w1))
    (ih : ∀ (p : Program) (e : Env) (R : Room) (s : State) (m : MethodId) (args : Array Value) (below : List Frame) (meth : Method) (c : Code) (Q : State → Prop) (A : Nat → Prop) (a0 b0 : Nat), ax_Cx p R s m args meth c D cl cA h0 a0 rv A M.2.2.1 M.1.cls M.1.name M.2.1 Ts ro NW → (d + 1 ≤ R.frames ∧ 100 * (d + 1) ≤ R.locals) → (w1.length ≤ R.cells + a0 ∧ ax_sl w1 ≤ R.slots + b0) →
      (∀ (i' : Nat) (ai : ax_I) (lv' : ax_L) (st' : List Value), M.2.2.2.2.2.2.2[i']? = some ai → ax_stp ro ct ai i' lv' st' w1 = some (.inr (.inr r)) → ax_K p l e R s m args below meth c Q D cl cA h0 a0 b0 rv A M.2.2.1 M.2.2.2.2.2.2.1 i' lv' st' w1) → ax_K p l e R s m args below meth c Q D cl cA h0 a0 b0 rv A M.2.2.1 M.2.2.2.2.2.2.1 0 (lv_args 0 as) [] w) :
    Met l M.1 (Cond.code M.1 M.2.1 M.2.2.1 M.2.2.2.1 :: Ts) { frames := d + 1, cells := w1.length - w.length, slots := ax_sl w1 - ax_sl w, locals := 100 * (d + 1) } (ax_Pc D cl cA h0 rv ro NW w as) (ax_Qc D cl cA h0 rv (va_A (ax_w cA h0 rv w) (h0 + w.length)) r w1) (w1.length - w.length) (ax_sl w1 - ax_sl w) (va_A (ax_w cA h0 rv w) (h0 + w.length)) := by
  obtain ⟨hm1, hm2, hm3, hm4, hm5, hm6, hm7, hm8, hm9, hm10, hm11, hck⟩ := id hM
  refine Met.ofW (cc := M.2.1) (maxL := M.2.2.1) (ret := M.2.2.2.1) hm1 rfl ?_
  intro p e s m args below meth c s₁ B hml hv
  obtain ⟨rfl, hsz, hP, hK, hD0, hRO⟩ := hv
  have hx := B.exec
  have hb := B.bytes
  have hr := B.returns
  have hts := atoms_spec (ws := Cond.code M.1 M.2.1 M.2.2.1 M.2.2.2.1 :: Ts) B.pre
  have hown : s.vm.findClass M.1.cls = some m.cls := findClass_of_methodNamed B.named
  have hlocks := B.notSynchronized
  have hin : meth.name = M.1.name := (name_of_methodNamed B.named B.method).1
  have hD := hD0.self (sz := h0 + w.length)
  have hS : va_S (va_A (ax_w cA h0 rv w) (h0 + w.length)) s.heap s.heap [] := va_S.rf
  have hfit : (lg_sl (as.map (ax_v h0 rv))).length ≤ M.2.2.1 := by
    have e9 : ∀ vs : List Value, (lg_sl vs).length = (vs.map fun v => v.category).sum := by
      intro vs
      induction vs with
      | nil => rfl
      | cons v t iht =>
        have : (lg_sl (v :: t)).length = (if v.category = 2 then [Slot.val v, Slot.second] else [Slot.val v]).length + (lg_sl t).length := by simp [lg_sl]
        rw [this, iht]
        rcases lv_cat v with h | h
        · simp [h]
        · simp [h]
    rw [e9, ax_ws_v h0 rv hrv]
    exact haw
  have hl := lv_entry (as.map (ax_v h0 rv)) (n := M.2.2.1) hfit
  rw [lg_entry_eq]
  generalize (lg_sl (as.map (ax_v h0 rv)) ++ List.replicate (M.2.2.1 - (lg_sl (as.map (ax_v h0 rv))).length) Slot.unset).toArray = ls at hl ⊢
  rw [ax_lv_args h0 rv hrv] at hl
  refine ih p e _ s m _ below meth c _ (va_A (ax_w cA h0 rv w) (h0 + w.length)) w.length (ax_sl w) ⟨hx, hb, hml, hown, fun w hw => hts w (List.mem_cons_of_mem _ hw), hK, hrv, fun h9 => hin.trans h9, ?_, ?_, hsz, fun q h => Or.inr (by omega), fun q h => ?_, hRO⟩ ⟨Nat.le_refl _, Nat.le_refl _⟩ ⟨?_, ?_⟩ ?_ 0 ls s.heap [] 0 0 hm3 hl ⟨hP, hD, hS⟩ (by omega) (by omega)
  · show 1 ≤ d + 1
    omega
  · show 100 ≤ 100 * (d + 1)
    omega
  · rcases h with ⟨k, e, h⟩ | h
    · obtain ⟨c9, -, h⟩ := ax_w_inv h
      cases h
      omega
    · omega
  · show w1.length ≤ (w1.length - w.length) + w.length
    omega
  · show ax_sl w1 ≤ (ax_sl w1 - ax_sl w) + ax_sl w
    omega
  · intro i' ai lv' st' hai hst pc ls H locs cells slots hpc hl hI hcs hsl
    have hk := hck i' ai hai
    obtain ⟨q, hd, hm⟩ := ax_ck_inv hpc hk
    obtain ⟨hP, hD, hS⟩ := hI
    have c1 : w1.length - w.length = cells := by omega
    have c2 : ax_sl w1 - ax_sl w = slots := by omega
    rw [c1, c2]
    have fin : ∀ (x : Option Value), r = x → ∀ t : State, t.heap = H → s.WarmedH t.vm → ax_Qc D cl cA h0 rv (va_A (ax_w cA h0 rv w) (h0 + w.length)) r w1 (as.map (ax_v h0 rv)).toArray s (.returned (x.map (ax_v h0 rv))) t := by
      intro x hx t ht hW
      refine ⟨by rw [hx], by rw [ht]; exact hP, hD, hS.F ht⟩
    exact ax_rets hx hb hlocks hr hst hd hm hS.2.2 fin
/-- the callee's start holds at the call -/
theorem ax_pre {w : ax_W} {H : Heap} {locs : List Loc} {as : List Value} (hC : ax_Cx p R s m args meth c D cl cA h0 a0 rv A nL own nm cc Ts ro NW) (hNW : ax_nestw NW) (hI : ax_Iv D cl cA h0 rv A s w H locs) (hz : H.size = h0 + w.length) : ∀ U : State, U.heap = H → s.WarmedH U.vm → ax_Pc D cl cA h0 rv ro NW w as (as.map (ax_v h0 rv)).toArray U := by
  intro U hU hW
  obtain ⟨hx, hb, hml, hown, hts, hK, hrv, hnm, hfr, hlo, hsz, hA, hA0, hRO⟩ := hC
  obtain ⟨hP, hD, hS⟩ := hI
  have hz2 : s.heap.size ≤ h0 + w.length := by rw [← hz]; exact hS.1
  exact ⟨rfl, by rw [hU]; exact hz, by rw [hU]; exact hP, va_K.moved hW.alike hK, hD.weaken (fun _ _ _ _ => trivial), ax_RO_to hW.alike (by rw [hU]; exact hS.2.1) (ax_A1 hD hA hz2) (ax_nest_warm hNW hW) (fun _ _ _ _ h => vk_R.warm hW h) hRO⟩
end AXC
