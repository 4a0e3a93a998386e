/-! CALL STEPS, AND THE WHOLE -/
section AXD
variable {p : Program} {l : Launch} {e : Env} {R : Room} {s : State} {m : MethodId} {args : Array Value} {below : List Frame} {meth : Method} {c : Code} {Q : State → Prop} {D : va_G} {cl : List vw_C} {cA : FieldType → ClassId} {h0 a0 b0 nL : Nat} {rv : Nat → Value} {A : Nat → Prop} {pcs : List Nat} {own nm : String} {cc : ByteArray} {Ts lk NW : List Cond} {ro : ax_W} {ct : ax_T} {mt : List ax_M} {ret : Option FieldType} {M : ax_M} {pg : Nat → List ax_I}
theorem ax_stk {b : Nat} {st : List Value} {f : Value → Value} {x : Value} {r : List Value} (h : st.drop b = x :: r) : st.map f = ((st.take b).reverse.map f).reverse ++ f x :: r.map f ∧ ((st.take b).reverse.map f).length = b := by
  constructor
  · conv => lhs; rw [← List.take_append_drop b st, h]
    simp [List.map_reverse]
  · have : (st.drop b).length = r.length + 1 := by rw [h]; rfl
    simp at this ⊢
    omega
theorem ax_stkS {b : Nat} {st : List Value} {f : Value → Value} (h : b ≤ st.length) : st.map f = ((st.take b).reverse.map f).reverse ++ (st.drop b).map f ∧ ((st.take b).reverse.map f).length = b := by
  constructor
  · conv => lhs; rw [← List.take_append_drop b st]
    simp [List.map_reverse]
  · simp
    omega
theorem ax_good (hPg : ax_Pg cl ct mt NW Ts pg) (hM : ax_Mok cl mt NW Ts M) : GoodIn Ts (Cond.code M.1 M.2.1 M.2.2.1 M.2.2.2.1 :: Ts) := by
  intro w hw
  have hT : w ∈ Ts := by
    rcases List.mem_cons.mp hw with h | h
    · rw [h]; exact hM.2.2.2.2.2.1
    · exact h
  exact ⟨hT, good_of_word (hPg.2.2.2.1 w hT)⟩
/-- what a call asks of the callee, apart from the link -/
theorem ax_cb {d b index mc ms : Nat} (hPg : ax_Pg cl ct mt NW Ts pg) (hM : ax_Mok cl mt NW Ts M) (hts : ∀ w ∈ Ts, w.before args s = true) (hfr : d + 2 ≤ R.frames ∧ 100 * (d + 2) ≤ R.locals) (hb : M.2.2.2.2.1 % 100 = b) (hl : (Cond.methodLink own index M.1).before args s = true) :
    CallB R s args own index M.1 M.2.1 M.2.2.1 M.2.2.2.1 (Cond.code M.1 M.2.1 M.2.2.1 M.2.2.2.1 :: Ts) { frames := d + 1, cells := mc, slots := ms, locals := 100 * (d + 1) } mc ms b := by
  obtain ⟨hm1, hm2, hm3, hm4, hm5, hm6, hm7, hm8, hm9⟩ := id hM
  refine ⟨rfl, rfl, ?_, ?_, pay_in hts (ax_good hPg hM), List.mem_cons_self, hts _ hm6, hts _ hm7, hm2, fun sig h => ?_, hl⟩
  · show d + 1 + 1 ≤ R.frames
    omega
  · show 8 + (M.2.2.1 + 11) + 100 * (d + 1) ≤ R.locals
    omega
  · rw [h] at hm8
    have := Option.some.inj hm8
    dsimp only at this
    omega
theorem ax_cn {d b index mc ms : Nat} (hPg : ax_Pg cl ct mt NW Ts pg) (hM : ax_Mok cl mt NW Ts M) (hts : ∀ w ∈ Ts, w.before args s = true) (hfr : d + 2 ≤ R.frames ∧ 100 * (d + 2) ≤ R.locals) (hb : M.2.2.2.2.1 % 100 = b) (hl : va_Nw (.methodLinkNest own index M.1 "HeadCloths") s) :
    va_CN R s args own index M.1 "HeadCloths" M.2.1 M.2.2.1 M.2.2.2.1 (Cond.code M.1 M.2.1 M.2.2.1 M.2.2.2.1 :: Ts) { frames := d + 1, cells := mc, slots := ms, locals := 100 * (d + 1) } mc ms b := by
  obtain ⟨hm1, hm2, hm3, hm4, hm5, hm6, hm7, hm8, hm9⟩ := id hM
  refine ⟨⟨rfl, rfl, ?_, ?_, pay_in hts (ax_good hPg hM), List.mem_cons_self⟩, hts _ hm6, hts _ hm7, hm2, fun sig h => ?_, va_Nw.use rfl hl⟩
  · show d + 1 + 1 ≤ R.frames
    omega
  · show 8 + (M.2.2.1 + 11) + 100 * (d + 1) ≤ R.locals
    omega
  · rw [h] at hm8
    have := Option.some.inj hm8
    dsimp only at this
    omega
theorem ax_gc36 {a b i d : Nat} {v : Value} {t : List (Int × Nat)} {lv : ax_L} {st : List Value} {w w1 : ax_W} {r1 : Option Value} {q : Nat × List Value × List Value} (hC : ax_Cx p R s m args meth c D cl cA h0 a0 rv A nL own nm cc Ts ro NW) (hlk : ∀ w ∈ lk, w ∈ Ts) (hPg : ax_Pg cl ct mt NW Ts pg) (hs : ax_stp ro ct (36, a, b, v, t) i lv st w = some (.inr (.inl q))) (hk : ax_ck cl mt NW own nm ret nL lk cc pcs i (36, a, b, v, t) = true) (hfr2 : d + 2 ≤ R.frames ∧ 100 * (d + 2) ≤ R.locals)
    (hmet : ∀ M : ax_M, mt[q.1]? = some M → ax_Mok cl mt NW Ts M → ax_ws q.2.1 ≤ M.2.2.1 → Met l M.1 (Cond.code M.1 M.2.1 M.2.2.1 M.2.2.2.1 :: Ts) { frames := d + 1, cells := w1.length - w.length, slots := ax_sl w1 - ax_sl w, locals := 100 * (d + 1) } (ax_Pc D cl cA h0 rv ro NW w q.2.1) (ax_Qc D cl cA h0 rv (va_A (ax_w cA h0 rv w) (h0 + w.length)) r1 w1) (w1.length - w.length) (ax_sl w1 - ax_sl w) (va_A (ax_w cA h0 rv w) (h0 + w.length)))
    (hroom : w1.length ≤ R.cells + a0 ∧ ax_sl w1 ≤ R.slots + b0) (hmono : w.length ≤ w1.length ∧ ax_sl w ≤ ax_sl w1) (kk : ax_K p l e R s m args below meth c Q D cl cA h0 a0 b0 rv A nL pcs (i + 1) lv (r1.toList ++ q.2.2) w1) : ax_K p l e R s m args below meth c Q D cl cA h0 a0 b0 rv A nL pcs i lv st w := by
  intro pc ls H locs cells slots hpc hl hI hcs hsl
  refine ax_hsz (fun hz9 => ?_)
  have hz := ax_sizes hC hI hcs hz9
  obtain ⟨⟨ins, len⟩, hd, hm⟩ := ax_ck_inv hpc hk
  obtain ⟨hx, hb, hml, hown, hts, hK, hrv, hnm, hfr, hlo, hsz, hA, hA0, hRO⟩ := id hC
  obtain ⟨hP, hD, hS⟩ := id hI
  have hz2 : s.heap.size ≤ h0 + w.length := by rw [← hz]; exact hS.1
  have hNW := hPg.2.2.2.2.1
  change ax_m36 cl mt NW own nm ret nL lk pcs pc (decide (pcs[i + 1]? = some (pc + len))) a b v t (ins, len) = true at hm
  change ax_s36 ro ct a b v t i lv st w = some (.inr (.inl q)) at hs
  unfold ax_m36 at hm
  unfold ax_s36 at hs
  split at hs
  · next ci =>
    split at hs
    · next k r hdr =>
      split at hs
      · next ci' fs hw =>
        split at hs
        · next hcond =>
          obtain ⟨rfl, hws, haw⟩ := hcond
          cases hs
          obtain ⟨hst1, hst2⟩ := ax_stk (f := ax_v h0 rv) hdr
          split at hm
          · next n9 r9 aw9 M9 ci9 hM9 hci =>
            cases hci
            simp only [Bool.and_eq_true, decide_eq_true_eq, Prod.mk.injEq] at hm
            obtain ⟨⟨⟨⟨⟨⟨hn, rfl, rfl⟩, hnk⟩, hb1⟩, haw2⟩, hwl⟩, hcl9⟩ := hm
            obtain ⟨hMok, hpg⟩ := hPg.2.2.2.2.2 _ _ hM9
            have hsel := hMok.2.2.2.2.2.2.2.2.2.1 (by omega)
            obtain ⟨C9, hc9, hce⟩ := Option.map_eq_some_iff.mp hcl9
            have hrec := va_recv hK hP hc9 (ax_w_get hw)
            rw [hce] at hrec
            rw [hst1]
            refine ax_call (va_runV (C := _) (As := (st.take b).reverse.map (ax_v h0 rv)) (rest := r.map (ax_v h0 rv)) ⟨hx, hb, hml, hown, hts⟩ (hmet _ hM9 hMok (Nat.le_trans haw haw2)) ⟨ax_cb hPg hMok hts hfr2 (by omega) (hts _ (hlk _ (List.mem_of_getElem? hwl))), hts _ hsel.1, hts _ hsel.2⟩ ⟨ax_blind hNW, hrec, ax_pre hC hNW hI hz⟩ rfl hst2 hl.1 rfl (lv_room (by rw [ax_ws_v h0 rv hrv]; exact hws)) hd ⟨by omega, by omega⟩) hS (ax_A1 hD hA hz2) ?_
            exact (fun H1 locs1 hI1 => by
              have k2 := kk _ ls H1 locs1 (cells + (w1.length - w.length)) (slots + (ax_sl w1 - ax_sl w)) hn hl hI1 (by omega) (by omega)
              rw [List.map_append] at k2
              cases r1 <;> exact k2)
          · cases hm
        · cases hs
      · cases hs
    · cases hs
  · cases hs
theorem ax_gc37 {a b i d : Nat} {v : Value} {t : List (Int × Nat)} {lv : ax_L} {st : List Value} {w w1 : ax_W} {r1 : Option Value} {q : Nat × List Value × List Value} (hC : ax_Cx p R s m args meth c D cl cA h0 a0 rv A nL own nm cc Ts ro NW) (hlk : ∀ w ∈ lk, w ∈ Ts) (hPg : ax_Pg cl ct mt NW Ts pg) (hs : ax_stp ro ct (37, a, b, v, t) i lv st w = some (.inr (.inl q))) (hk : ax_ck cl mt NW own nm ret nL lk cc pcs i (37, a, b, v, t) = true) (hfr2 : d + 2 ≤ R.frames ∧ 100 * (d + 2) ≤ R.locals)
    (hmet : ∀ M : ax_M, mt[q.1]? = some M → ax_Mok cl mt NW Ts M → ax_ws q.2.1 ≤ M.2.2.1 → Met l M.1 (Cond.code M.1 M.2.1 M.2.2.1 M.2.2.2.1 :: Ts) { frames := d + 1, cells := w1.length - w.length, slots := ax_sl w1 - ax_sl w, locals := 100 * (d + 1) } (ax_Pc D cl cA h0 rv ro NW w q.2.1) (ax_Qc D cl cA h0 rv (va_A (ax_w cA h0 rv w) (h0 + w.length)) r1 w1) (w1.length - w.length) (ax_sl w1 - ax_sl w) (va_A (ax_w cA h0 rv w) (h0 + w.length)))
    (hroom : w1.length ≤ R.cells + a0 ∧ ax_sl w1 ≤ R.slots + b0) (hmono : w.length ≤ w1.length ∧ ax_sl w ≤ ax_sl w1) (kk : ax_K p l e R s m args below meth c Q D cl cA h0 a0 b0 rv A nL pcs (i + 1) lv (r1.toList ++ q.2.2) w1) : ax_K p l e R s m args below meth c Q D cl cA h0 a0 b0 rv A nL pcs i lv st w := by
  intro pc ls H locs cells slots hpc hl hI hcs hsl
  refine ax_hsz (fun hz9 => ?_)
  have hz := ax_sizes hC hI hcs hz9
  obtain ⟨⟨ins, len⟩, hd, hm⟩ := ax_ck_inv hpc hk
  obtain ⟨hx, hb, hml, hown, hts, hK, hrv, hnm, hfr, hlo, hsz, hA, hA0, hRO⟩ := id hC
  obtain ⟨hP, hD, hS⟩ := id hI
  have hz2 : s.heap.size ≤ h0 + w.length := by rw [← hz]; exact hS.1
  have hNW := hPg.2.2.2.2.1
  change ax_m37 cl mt NW own nm ret nL lk pcs pc (decide (pcs[i + 1]? = some (pc + len))) a b v t (ins, len) = true at hm
  change ax_s37 ro ct a b v t i lv st w = some (.inr (.inl q)) at hs
  unfold ax_m37 at hm
  unfold ax_s37 at hs
  split at hs
  · next k r hdr =>
    split at hs
    · next hcond =>
      obtain ⟨hws, haw⟩ := hcond
      cases hs
      obtain ⟨hst1, hst2⟩ := ax_stk (f := ax_v h0 rv) hdr
      split at hm
      · next n9 r9 aw9 M9 hM9 =>
        simp only [Bool.and_eq_true, decide_eq_true_eq, Prod.mk.injEq] at hm
        obtain ⟨⟨⟨⟨⟨⟨⟨hn, rfl, rfl⟩, hnk⟩, hb1⟩, haw2⟩, hwl⟩, hni⟩, hret9⟩ := hm
        obtain ⟨hMok, hpg⟩ := hPg.2.2.2.2.2 _ _ hM9
        have hins := hMok.2.2.2.2.2.2.2.2.2.2.1 (by omega)
        rw [hst1]
        have hcb := ax_cb (s := s) (R := R) (args := args) (own := own) (mc := w1.length - w.length) (ms := ax_sl w1 - ax_sl w) hPg hMok hts hfr2 (by omega : _ = b) (hts _ (hlk _ (List.mem_of_getElem? hwl)))
        have hme := hmet _ hM9 hMok (Nat.le_trans haw haw2)
        rw [hret9] at hcb hme
        refine ax_call (va_runI (As := (st.take b).reverse.map (ax_v h0 rv)) (rest := r.map (ax_v h0 rv)) ⟨hx, hb, hml, hown, hts⟩ hme ⟨hcb, hni, hts _ hins⟩ ⟨ax_blind hNW, ax_pre hC hNW hI hz⟩ rfl hst2 hl.1 rfl (lv_room (by rw [ax_ws_v h0 rv hrv]; exact hws)) hd ⟨by omega, by omega⟩) hS (ax_A1 hD hA hz2) ?_
        exact (fun H1 locs1 hI1 => by
          have k2 := kk _ ls H1 locs1 (cells + (w1.length - w.length)) (slots + (ax_sl w1 - ax_sl w)) hn hl hI1 (by omega) (by omega)
          rw [List.map_append] at k2
          cases r1 <;> exact k2)
      · cases hm
    · cases hs
  · cases hs
theorem ax_gc55 {a b i d : Nat} {v : Value} {t : List (Int × Nat)} {lv : ax_L} {st : List Value} {w w1 : ax_W} {r1 : Option Value} {q : Nat × List Value × List Value} (hC : ax_Cx p R s m args meth c D cl cA h0 a0 rv A nL own nm cc Ts ro NW) (hlk : ∀ w ∈ lk, w ∈ Ts) (hPg : ax_Pg cl ct mt NW Ts pg) (hs : ax_stp ro ct (55, a, b, v, t) i lv st w = some (.inr (.inl q))) (hk : ax_ck cl mt NW own nm ret nL lk cc pcs i (55, a, b, v, t) = true) (hfr2 : d + 2 ≤ R.frames ∧ 100 * (d + 2) ≤ R.locals)
    (hmet : ∀ M : ax_M, mt[q.1]? = some M → ax_Mok cl mt NW Ts M → ax_ws q.2.1 ≤ M.2.2.1 → Met l M.1 (Cond.code M.1 M.2.1 M.2.2.1 M.2.2.2.1 :: Ts) { frames := d + 1, cells := w1.length - w.length, slots := ax_sl w1 - ax_sl w, locals := 100 * (d + 1) } (ax_Pc D cl cA h0 rv ro NW w q.2.1) (ax_Qc D cl cA h0 rv (va_A (ax_w cA h0 rv w) (h0 + w.length)) r1 w1) (w1.length - w.length) (ax_sl w1 - ax_sl w) (va_A (ax_w cA h0 rv w) (h0 + w.length)))
    (hroom : w1.length ≤ R.cells + a0 ∧ ax_sl w1 ≤ R.slots + b0) (hmono : w.length ≤ w1.length ∧ ax_sl w ≤ ax_sl w1) (kk : ax_K p l e R s m args below meth c Q D cl cA h0 a0 b0 rv A nL pcs (i + 1) lv (r1.toList ++ q.2.2) w1) : ax_K p l e R s m args below meth c Q D cl cA h0 a0 b0 rv A nL pcs i lv st w := by
  intro pc ls H locs cells slots hpc hl hI hcs hsl
  refine ax_hsz (fun hz9 => ?_)
  have hz := ax_sizes hC hI hcs hz9
  obtain ⟨⟨ins, len⟩, hd, hm⟩ := ax_ck_inv hpc hk
  obtain ⟨hx, hb, hml, hown, hts, hK, hrv, hnm, hfr, hlo, hsz, hA, hA0, hRO⟩ := id hC
  obtain ⟨hP, hD, hS⟩ := id hI
  have hz2 : s.heap.size ≤ h0 + w.length := by rw [← hz]; exact hS.1
  have hNW := hPg.2.2.2.2.1
  change ax_m55 cl mt NW own nm ret nL lk pcs pc (decide (pcs[i + 1]? = some (pc + len))) a b v t (ins, len) = true at hm
  change ax_s55 ro ct a b v t i lv st w = some (.inr (.inl q)) at hs
  unfold ax_m55 at hm
  unfold ax_s55 at hs
  split at hs
  · next k r hdr =>
    split at hs
    · next hcond =>
      obtain ⟨hws, haw⟩ := hcond
      cases hs
      obtain ⟨hst1, hst2⟩ := ax_stk (f := ax_v h0 rv) hdr
      split at hm
      · next n9 r9 aw9 M9 hM9 =>
        simp only [Bool.and_eq_true, decide_eq_true_eq, Prod.mk.injEq] at hm
        obtain ⟨⟨⟨⟨⟨⟨⟨hn, rfl, rfl⟩, hnk⟩, hb1⟩, haw2⟩, hwl⟩, hni⟩, hret9⟩ := hm
        obtain ⟨hMok, hpg⟩ := hPg.2.2.2.2.2 _ _ hM9
        have hins := hMok.2.2.2.2.2.2.2.2.2.2.1 (by omega)
        rw [hst1]
        have hcb := ax_cn (s := s) (R := R) (args := args) (own := own) (mc := w1.length - w.length) (ms := ax_sl w1 - ax_sl w) hPg hMok hts hfr2 (by omega : _ = b) (hRO.2.2.2.1 _ (List.mem_of_getElem? hwl))
        have hme := hmet _ hM9 hMok (Nat.le_trans haw haw2)
        rw [hret9] at hcb hme
        refine ax_call (va_runIN (As := (st.take b).reverse.map (ax_v h0 rv)) (rest := r.map (ax_v h0 rv)) ⟨hx, hb, hml, hown, hts⟩ hme ⟨hcb, hni, hts _ hins⟩ ⟨ax_blind hNW, ax_pre hC hNW hI hz⟩ rfl hst2 hl.1 rfl (lv_room (by rw [ax_ws_v h0 rv hrv]; exact hws)) hd ⟨by omega, by omega⟩) hS (ax_A1 hD hA hz2) ?_
        exact (fun H1 locs1 hI1 => by
          have k2 := kk _ ls H1 locs1 (cells + (w1.length - w.length)) (slots + (ax_sl w1 - ax_sl w)) hn hl hI1 (by omega) (by omega)
          rw [List.map_append] at k2
          cases r1 <;> exact k2)
      · cases hm
    · cases hs
  · cases hs
theorem ax_gc38 {a b i d : Nat} {v : Value} {t : List (Int × Nat)} {lv : ax_L} {st : List Value} {w w1 : ax_W} {r1 : Option Value} {q : Nat × List Value × List Value} (hC : ax_Cx p R s m args meth c D cl cA h0 a0 rv A nL own nm cc Ts ro NW) (hlk : ∀ w ∈ lk, w ∈ Ts) (hPg : ax_Pg cl ct mt NW Ts pg) (hs : ax_stp ro ct (38, a, b, v, t) i lv st w = some (.inr (.inl q))) (hk : ax_ck cl mt NW own nm ret nL lk cc pcs i (38, a, b, v, t) = true) (hfr2 : d + 2 ≤ R.frames ∧ 100 * (d + 2) ≤ R.locals)
    (hmet : ∀ M : ax_M, mt[q.1]? = some M → ax_Mok cl mt NW Ts M → ax_ws q.2.1 ≤ M.2.2.1 → Met l M.1 (Cond.code M.1 M.2.1 M.2.2.1 M.2.2.2.1 :: Ts) { frames := d + 1, cells := w1.length - w.length, slots := ax_sl w1 - ax_sl w, locals := 100 * (d + 1) } (ax_Pc D cl cA h0 rv ro NW w q.2.1) (ax_Qc D cl cA h0 rv (va_A (ax_w cA h0 rv w) (h0 + w.length)) r1 w1) (w1.length - w.length) (ax_sl w1 - ax_sl w) (va_A (ax_w cA h0 rv w) (h0 + w.length)))
    (hroom : w1.length ≤ R.cells + a0 ∧ ax_sl w1 ≤ R.slots + b0) (hmono : w.length ≤ w1.length ∧ ax_sl w ≤ ax_sl w1) (kk : ax_K p l e R s m args below meth c Q D cl cA h0 a0 b0 rv A nL pcs (i + 1) lv (r1.toList ++ q.2.2) w1) : ax_K p l e R s m args below meth c Q D cl cA h0 a0 b0 rv A nL pcs i lv st w := by
  intro pc ls H locs cells slots hpc hl hI hcs hsl
  refine ax_hsz (fun hz9 => ?_)
  have hz := ax_sizes hC hI hcs hz9
  obtain ⟨⟨ins, len⟩, hd, hm⟩ := ax_ck_inv hpc hk
  obtain ⟨hx, hb, hml, hown, hts, hK, hrv, hnm, hfr, hlo, hsz, hA, hA0, hRO⟩ := id hC
  obtain ⟨hP, hD, hS⟩ := id hI
  have hz2 : s.heap.size ≤ h0 + w.length := by rw [← hz]; exact hS.1
  have hNW := hPg.2.2.2.2.1
  change ax_m38 cl mt NW own nm ret nL lk pcs pc (decide (pcs[i + 1]? = some (pc + len))) a b v t (ins, len) = true at hm
  change ax_s38 ro ct a b v t i lv st w = some (.inr (.inl q)) at hs
  unfold ax_m38 at hm
  unfold ax_s38 at hs
  split at hs
  · next hcond =>
    obtain ⟨hbl, hws, haw⟩ := hcond
    cases hs
    obtain ⟨hst1, hst2⟩ := ax_stkS (f := ax_v h0 rv) hbl
    split at hm
    · next n9 r9 aw9 M9 hM9 =>
      simp only [Bool.and_eq_true, decide_eq_true_eq, Prod.mk.injEq] at hm
      obtain ⟨⟨⟨⟨⟨hn, rfl, rfl⟩, hnk⟩, hb1⟩, haw2⟩, hwl⟩ := hm
      obtain ⟨hMok, hpg⟩ := hPg.2.2.2.2.2 _ _ hM9
      have hstat := hMok.2.2.2.2.2.2.2.2.1 (by omega)
      rw [hst1]
      refine ax_call (va_runS (As := (st.take b).reverse.map (ax_v h0 rv)) (rest := (st.drop b).map (ax_v h0 rv)) ⟨hx, hb, hml, hown, hts⟩ (hmet _ hM9 hMok (Nat.le_trans haw haw2)) ⟨ax_cb hPg hMok hts hfr2 (by omega) (hts _ (hlk _ (List.mem_of_getElem? hwl))), hts _ hstat⟩ ⟨ax_blind hNW, ax_pre hC hNW hI hz⟩ rfl hst2 hl.1 rfl (lv_room (by rw [ax_ws_v h0 rv hrv]; exact hws)) hd ⟨by omega, by omega⟩) hS (ax_A1 hD hA hz2) ?_
      exact (fun H1 locs1 hI1 => by
        have k2 := kk _ ls H1 locs1 (cells + (w1.length - w.length)) (slots + (ax_sl w1 - ax_sl w)) hn hl hI1 (by omega) (by omega)
        rw [List.map_append] at k2
        cases r1 <;> exact k2)
    · cases hm
  · cases hs
theorem ax_gc54 {a b i d : Nat} {v : Value} {t : List (Int × Nat)} {lv : ax_L} {st : List Value} {w w1 : ax_W} {r1 : Option Value} {q : Nat × List Value × List Value} (hC : ax_Cx p R s m args meth c D cl cA h0 a0 rv A nL own nm cc Ts ro NW) (hlk : ∀ w ∈ lk, w ∈ Ts) (hPg : ax_Pg cl ct mt NW Ts pg) (hs : ax_stp ro ct (54, a, b, v, t) i lv st w = some (.inr (.inl q))) (hk : ax_ck cl mt NW own nm ret nL lk cc pcs i (54, a, b, v, t) = true) (hfr2 : d + 2 ≤ R.frames ∧ 100 * (d + 2) ≤ R.locals)
    (hmet : ∀ M : ax_M, mt[q.1]? = some M → ax_Mok cl mt NW Ts M → ax_ws q.2.1 ≤ M.2.2.1 → Met l M.1 (Cond.code M.1 M.2.1 M.2.2.1 M.2.2.2.1 :: Ts) { frames := d + 1, cells := w1.length - w.length, slots := ax_sl w1 - ax_sl w, locals := 100 * (d + 1) } (ax_Pc D cl cA h0 rv ro NW w q.2.1) (ax_Qc D cl cA h0 rv (va_A (ax_w cA h0 rv w) (h0 + w.length)) r1 w1) (w1.length - w.length) (ax_sl w1 - ax_sl w) (va_A (ax_w cA h0 rv w) (h0 + w.length)))
    (hroom : w1.length ≤ R.cells + a0 ∧ ax_sl w1 ≤ R.slots + b0) (hmono : w.length ≤ w1.length ∧ ax_sl w ≤ ax_sl w1) (kk : ax_K p l e R s m args below meth c Q D cl cA h0 a0 b0 rv A nL pcs (i + 1) lv (r1.toList ++ q.2.2) w1) : ax_K p l e R s m args below meth c Q D cl cA h0 a0 b0 rv A nL pcs i lv st w := by
  intro pc ls H locs cells slots hpc hl hI hcs hsl
  refine ax_hsz (fun hz9 => ?_)
  have hz := ax_sizes hC hI hcs hz9
  obtain ⟨⟨ins, len⟩, hd, hm⟩ := ax_ck_inv hpc hk
  obtain ⟨hx, hb, hml, hown, hts, hK, hrv, hnm, hfr, hlo, hsz, hA, hA0, hRO⟩ := id hC
  obtain ⟨hP, hD, hS⟩ := id hI
  have hz2 : s.heap.size ≤ h0 + w.length := by rw [← hz]; exact hS.1
  have hNW := hPg.2.2.2.2.1
  change ax_m54 cl mt NW own nm ret nL lk pcs pc (decide (pcs[i + 1]? = some (pc + len))) a b v t (ins, len) = true at hm
  change ax_s54 ro ct a b v t i lv st w = some (.inr (.inl q)) at hs
  unfold ax_m54 at hm
  unfold ax_s54 at hs
  split at hs
  · next j r hdr =>
    split at hs
    · next z9 fs hro =>
      split at hs
      · next hcond =>
        obtain ⟨hws, haw⟩ := hcond
        cases hs
        obtain ⟨hst1, hst2⟩ := ax_stk (f := ax_v h0 rv) hdr
        split at hm
        · next n9 r9 aw9 M9 hM9 =>
          simp only [Bool.and_eq_true, decide_eq_true_eq, Prod.mk.injEq] at hm
          obtain ⟨⟨⟨⟨⟨⟨hn, rfl, rfl⟩, hnk⟩, hb1⟩, haw2⟩, hwl⟩, hcl9⟩ := hm
          obtain ⟨hMok, hpg⟩ := hPg.2.2.2.2.2 _ _ hM9
          have hsel := hMok.2.2.2.2.2.2.2.2.2.1 (by omega)
          obtain ⟨a9, ra, hO, -⟩ := hRO.1 _ _ hro
          have hrec : ∃ cell : Cell, H[a9]? = some cell ∧ cell.vm.isStatics = false ∧ s.vm.findClass M9.1.cls = some cell.cls := by
            obtain ⟨cell, h1, h2, h3, -⟩ := hO.kept hS.2.1
            exact ⟨cell, h1, h2, by rw [hcl9]; exact h3⟩
          rw [hst1, show ax_v h0 rv (.retAddr j) = .ref a9 from ra]
          have hpre := ax_pre (as := .retAddr j :: (st.take b).reverse) hC hNW hI hz
          rw [List.map_cons, show ax_v h0 rv (.retAddr j) = .ref a9 from ra] at hpre
          refine ax_call (va_runV (C := _) (As := (st.take b).reverse.map (ax_v h0 rv)) (rest := r.map (ax_v h0 rv)) ⟨hx, hb, hml, hown, hts⟩ (hmet _ hM9 hMok (Nat.le_trans haw haw2)) ⟨ax_cb hPg hMok hts hfr2 (by omega) (hts _ (hlk _ (List.mem_of_getElem? hwl))), hts _ hsel.1, hts _ hsel.2⟩ ⟨ax_blind hNW, hrec, hpre⟩ rfl hst2 hl.1 rfl (lv_room (by rw [ax_ws_v h0 rv hrv]; exact hws)) hd ⟨by omega, by omega⟩) hS (ax_A1 hD hA hz2) ?_
          exact (fun H1 locs1 hI1 => by
            have k2 := kk _ ls H1 locs1 (cells + (w1.length - w.length)) (slots + (ax_sl w1 - ax_sl w)) hn hl hI1 (by omega) (by omega)
            rw [List.map_append] at k2
            cases r1 <;> exact k2)
        · cases hm
      · cases hs
    · cases hs
  · cases hs
theorem ax_step {ai : ax_I} {i : Nat} {lv : ax_L} {st : List Value} {w : ax_W} {q : Nat × ax_L × List Value × ax_W} (hC : ax_Cx p R s m args meth c D cl cA h0 a0 rv A nL own nm cc Ts ro NW) (hlk : ∀ w ∈ lk, w ∈ Ts) (hPg : ax_Pg cl ct mt NW Ts pg) (hroom : q.2.2.2.length ≤ R.cells + a0 ∧ ax_sl q.2.2.2 ≤ R.slots + b0) (hs : ax_stp ro ct ai i lv st w = some (.inl q)) (hk : ax_ck cl mt NW own nm ret nL lk cc pcs i ai = true) (kk : ax_K p l e R s m args below meth c Q D cl cA h0 a0 b0 rv A nL pcs q.1 q.2.1 q.2.2.1 q.2.2.2) : ax_K p l e R s m args below meth c Q D cl cA h0 a0 b0 rv A nL pcs i lv st w := by
  obtain ⟨op, a, b, v, t⟩ := ai
  have hlt := ax_op_lt hs
  match op, hs, hk, hlt with
  | 0, hs, hk, _ => exact ax_g0 hC hlk hs hk kk
  | 1, hs, hk, _ => exact ax_g1 hC hs hk kk
  | 2, hs, hk, _ => exact ax_g2 hC hs hk kk
  | 3, hs, hk, _ => exact ax_g3 hC hs hk kk
  | 4, hs, hk, _ => exact ax_g4 hC hs hk kk
  | 5, hs, hk, _ => exact ax_g5 hC hs hk kk
  | 6, hs, hk, _ => exact ax_g6 hC hs hk kk
  | 7, hs, hk, _ => exact ax_g7 hC hs hk kk
  | 8, hs, hk, _ => exact ax_g8 hC hs hk kk
  | 9, hs, hk, _ => exact ax_g9 hC hs hk kk
  | 10, hs, hk, _ => exact ax_g10 hC hs hk kk
  | 11, hs, hk, _ => exact ax_g11 hC hs hk kk
  | 12, hs, hk, _ => exact ax_g12 hC hs hk kk
  | 13, hs, hk, _ => exact ax_g13 hC hs hk kk
  | 14, hs, hk, _ => exact ax_g14 hC hs hk kk
  | 15, hs, hk, _ => exact ax_g15 hC hs hk kk
  | 16, hs, hk, _ => exact ax_g16 hC hs hk kk
  | 17, hs, hk, _ => exact ax_g17 hC hs hk kk
  | 18, hs, hk, _ => exact ax_g18 hC hs hk kk
  | 19, hs, hk, _ => exact ax_g19 hC hs hk kk
  | 20, hs, hk, _ => exact ax_g20 hC hs hk kk
  | 21, hs, hk, _ => exact ax_g21 hC hs hk kk
  | 22, hs, hk, _ => exact ax_g22 hC hlk hPg.1 hs hk kk
  | 23, hs, hk, _ => exact ax_g23 hC hlk hPg.1 hs hk kk
  | 24, hs, hk, _ => exact ax_g24 hC hs hk kk
  | 25, hs, hk, _ => exact ax_g25 hC hs hk kk
  | 26, hs, hk, _ => exact ax_g26 hC hs hk kk
  | 27, hs, hk, _ => exact ax_g27 hC hs hk kk
  | 28, hs, hk, _ => exact ax_g28 hC hs hk kk
  | 29, hs, hk, _ => exact ax_g29 hC hs hk kk
  | 30, hs, hk, _ => exact ax_g30 hC hs hk kk
  | 31, hs, hk, _ => exact ax_g31 hC hs hk kk
  | 32, hs, hk, _ => exact ax_g32 hC hPg.2.1 hs hk kk
  | 33, hs, hk, _ => exact ax_g33 hC hlk hPg.1 hroom hs hk kk
  | 34, hs, hk, _ => exact ax_g34 hC hPg.2.2.1 hroom hs hk kk
  | 35, hs, hk, _ => exact ax_g35 hC hlk hroom hs hk kk
  | 36, hs, hk, _ =>
    exfalso
    change ax_s36 ro ct a b v t i lv st w = _ at hs
    unfold ax_s36 at hs
    repeat' (first | (cases hs; done) | split at hs)
  | 37, hs, hk, _ =>
    exfalso
    change ax_s37 ro ct a b v t i lv st w = _ at hs
    unfold ax_s37 at hs
    repeat' (first | (cases hs; done) | split at hs)
  | 38, hs, hk, _ =>
    exfalso
    change ax_s38 ro ct a b v t i lv st w = _ at hs
    unfold ax_s38 at hs
    repeat' (first | (cases hs; done) | split at hs)
  | 39, hs, hk, _ => exact ax_g39 hC hlk hPg.2.2.1 hs hk kk
  | 40, hs, hk, _ => exact ax_g40 hC hlk hPg.2.2.1 hroom hs hk kk
  | 41, hs, hk, _ => exact ax_g41 hC hlk hPg.2.2.1 hroom hs hk kk
  | 42, hs, hk, _ => cases hs
  | 43, hs, hk, _ => exact ax_g43 hC hlk hPg.2.2.1 hs hk kk
  | 44, hs, hk, _ =>
    exfalso
    change ax_s44 ro ct a b v t i lv st w = _ at hs
    unfold ax_s44 at hs
    repeat' (first | (cases hs; done) | split at hs)
  | 45, hs, hk, _ =>
    exfalso
    change ax_s45 ro ct a b v t i lv st w = _ at hs
    unfold ax_s45 at hs
    repeat' (first | (cases hs; done) | split at hs)
  | 46, hs, hk, _ =>
    exfalso
    change ax_s46 ro ct a b v t i lv st w = _ at hs
    unfold ax_s46 at hs
    repeat' (first | (cases hs; done) | split at hs)
  | 47, hs, hk, _ =>
    exfalso
    change ax_s47 ro ct a b v t i lv st w = _ at hs
    unfold ax_s47 at hs
    repeat' (first | (cases hs; done) | split at hs)
  | 48, hs, hk, _ => exact ax_g48 hC hs hk kk
  | 49, hs, hk, _ => exact ax_g49 hC hlk hs hk kk
  | 50, hs, hk, _ => exact ax_g50 hC hlk hs hk kk
  | 51, hs, hk, _ => exact ax_g51 hC hs hk kk
  | 52, hs, hk, _ => exact ax_g52 hC hs hk kk
  | 53, hs, hk, _ => exact ax_g53 hC hs hk kk
  | 54, hs, hk, _ =>
    exfalso
    change ax_s54 ro ct a b v t i lv st w = _ at hs
    unfold ax_s54 at hs
    repeat' (first | (cases hs; done) | split at hs)
  | 55, hs, hk, _ =>
    exfalso
    change ax_s55 ro ct a b v t i lv st w = _ at hs
    unfold ax_s55 at hs
    repeat' (first | (cases hs; done) | split at hs)
  | 56, hs, hk, _ => exact ax_g56 hC hlk hPg.1 hs hk kk
theorem ax_cstep {ai : ax_I} {i d : Nat} {lv : ax_L} {st : List Value} {w w1 : ax_W} {r1 : Option Value} {q : Nat × List Value × List Value} (hC : ax_Cx p R s m args meth c D cl cA h0 a0 rv A nL own nm cc Ts ro NW) (hlk : ∀ w ∈ lk, w ∈ Ts) (hPg : ax_Pg cl ct mt NW Ts pg) (hs : ax_stp ro ct ai i lv st w = some (.inr (.inl q))) (hk : ax_ck cl mt NW own nm ret nL lk cc pcs i ai = true) (hfr2 : d + 2 ≤ R.frames ∧ 100 * (d + 2) ≤ R.locals)
    (hmet : ∀ M : ax_M, mt[q.1]? = some M → ax_Mok cl mt NW Ts M → ax_ws q.2.1 ≤ M.2.2.1 → Met l M.1 (Cond.code M.1 M.2.1 M.2.2.1 M.2.2.2.1 :: Ts) { frames := d + 1, cells := w1.length - w.length, slots := ax_sl w1 - ax_sl w, locals := 100 * (d + 1) } (ax_Pc D cl cA h0 rv ro NW w q.2.1) (ax_Qc D cl cA h0 rv (va_A (ax_w cA h0 rv w) (h0 + w.length)) r1 w1) (w1.length - w.length) (ax_sl w1 - ax_sl w) (va_A (ax_w cA h0 rv w) (h0 + w.length)))
    (hroom : w1.length ≤ R.cells + a0 ∧ ax_sl w1 ≤ R.slots + b0) (hmono : w.length ≤ w1.length ∧ ax_sl w ≤ ax_sl w1) (kk : ax_K p l e R s m args below meth c Q D cl cA h0 a0 b0 rv A nL pcs (i + 1) lv (r1.toList ++ q.2.2) w1) : ax_K p l e R s m args below meth c Q D cl cA h0 a0 b0 rv A nL pcs i lv st w := by
  obtain ⟨op, a, b, v, t⟩ := ai
  have hlt := ax_op_lt hs
  match op, hs, hk, hlt with
  | 0, hs, hk, _ =>
    exfalso
    change ax_s0 ro ct a b v t i lv st w = _ at hs
    unfold ax_s0 at hs
    repeat' (first | (cases hs; done) | split at hs)
  | 1, hs, hk, _ =>
    exfalso
    change ax_s1 ro ct a b v t i lv st w = _ at hs
    unfold ax_s1 at hs
    repeat' (first | (cases hs; done) | split at hs)
  | 2, hs, hk, _ =>
    exfalso
    change ax_s2 ro ct a b v t i lv st w = _ at hs
    unfold ax_s2 at hs
    repeat' (first | (cases hs; done) | split at hs)
  | 3, hs, hk, _ =>
    exfalso
    change ax_s3 ro ct a b v t i lv st w = _ at hs
    unfold ax_s3 at hs
    repeat' (first | (cases hs; done) | split at hs)
  | 4, hs, hk, _ =>
    exfalso
    change ax_s4 ro ct a b v t i lv st w = _ at hs
    unfold ax_s4 at hs
    repeat' (first | (cases hs; done) | split at hs)
  | 5, hs, hk, _ =>
    exfalso
    change ax_s5 ro ct a b v t i lv st w = _ at hs
    unfold ax_s5 at hs
    repeat' (first | (cases hs; done) | split at hs)
  | 6, hs, hk, _ =>
    exfalso
    change ax_s6 ro ct a b v t i lv st w = _ at hs
    unfold ax_s6 at hs
    repeat' (first | (cases hs; done) | split at hs)
  | 7, hs, hk, _ =>
    exfalso
    change ax_s7 ro ct a b v t i lv st w = _ at hs
    unfold ax_s7 at hs
    repeat' (first | (cases hs; done) | split at hs)
  | 8, hs, hk, _ =>
    exfalso
    change ax_s8 ro ct a b v t i lv st w = _ at hs
    unfold ax_s8 at hs
    repeat' (first | (cases hs; done) | split at hs)
  | 9, hs, hk, _ =>
    exfalso
    change ax_s9 ro ct a b v t i lv st w = _ at hs
    unfold ax_s9 at hs
    repeat' (first | (cases hs; done) | split at hs)
  | 10, hs, hk, _ =>
    exfalso
    change ax_s10 ro ct a b v t i lv st w = _ at hs
    unfold ax_s10 at hs
    repeat' (first | (cases hs; done) | split at hs)
  | 11, hs, hk, _ =>
    exfalso
    change ax_s11 ro ct a b v t i lv st w = _ at hs
    unfold ax_s11 at hs
    repeat' (first | (cases hs; done) | split at hs)
  | 12, hs, hk, _ =>
    exfalso
    change ax_s12 ro ct a b v t i lv st w = _ at hs
    unfold ax_s12 at hs
    repeat' (first | (cases hs; done) | split at hs)
  | 13, hs, hk, _ =>
    exfalso
    change ax_s13 ro ct a b v t i lv st w = _ at hs
    unfold ax_s13 at hs
    repeat' (first | (cases hs; done) | split at hs)
  | 14, hs, hk, _ =>
    exfalso
    change ax_s14 ro ct a b v t i lv st w = _ at hs
    unfold ax_s14 at hs
    repeat' (first | (cases hs; done) | split at hs)
  | 15, hs, hk, _ =>
    exfalso
    change ax_s15 ro ct a b v t i lv st w = _ at hs
    unfold ax_s15 at hs
    repeat' (first | (cases hs; done) | split at hs)
  | 16, hs, hk, _ =>
    exfalso
    change ax_s16 ro ct a b v t i lv st w = _ at hs
    unfold ax_s16 at hs
    repeat' (first | (cases hs; done) | split at hs)
  | 17, hs, hk, _ =>
    exfalso
    change ax_s17 ro ct a b v t i lv st w = _ at hs
    unfold ax_s17 at hs
    repeat' (first | (cases hs; done) | split at hs)
  | 18, hs, hk, _ =>
    exfalso
    change ax_s18 ro ct a b v t i lv st w = _ at hs
    unfold ax_s18 at hs
    repeat' (first | (cases hs; done) | split at hs)
  | 19, hs, hk, _ =>
    exfalso
    change ax_s19 ro ct a b v t i lv st w = _ at hs
    unfold ax_s19 at hs
    repeat' (first | (cases hs; done) | split at hs)
  | 20, hs, hk, _ =>
    exfalso
    change ax_s20 ro ct a b v t i lv st w = _ at hs
    unfold ax_s20 at hs
    repeat' (first | (cases hs; done) | split at hs)
  | 21, hs, hk, _ =>
    exfalso
    change ax_s21 ro ct a b v t i lv st w = _ at hs
    unfold ax_s21 at hs
    repeat' (first | (cases hs; done) | split at hs)
  | 22, hs, hk, _ =>
    exfalso
    change ax_s22 ro ct a b v t i lv st w = _ at hs
    unfold ax_s22 at hs
    repeat' (first | (cases hs; done) | split at hs)
  | 23, hs, hk, _ =>
    exfalso
    change ax_s23 ro ct a b v t i lv st w = _ at hs
    unfold ax_s23 at hs
    repeat' (first | (cases hs; done) | split at hs)
  | 24, hs, hk, _ =>
    exfalso
    change ax_s24 ro ct a b v t i lv st w = _ at hs
    unfold ax_s24 at hs
    repeat' (first | (cases hs; done) | split at hs)
  | 25, hs, hk, _ =>
    exfalso
    change ax_s25 ro ct a b v t i lv st w = _ at hs
    unfold ax_s25 at hs
    repeat' (first | (cases hs; done) | split at hs)
  | 26, hs, hk, _ =>
    exfalso
    change ax_s26 ro ct a b v t i lv st w = _ at hs
    unfold ax_s26 at hs
    repeat' (first | (cases hs; done) | split at hs)
  | 27, hs, hk, _ =>
    exfalso
    change ax_s27 ro ct a b v t i lv st w = _ at hs
    unfold ax_s27 at hs
    repeat' (first | (cases hs; done) | split at hs)
  | 28, hs, hk, _ =>
    exfalso
    change ax_s28 ro ct a b v t i lv st w = _ at hs
    unfold ax_s28 at hs
    repeat' (first | (cases hs; done) | split at hs)
  | 29, hs, hk, _ =>
    exfalso
    change ax_s29 ro ct a b v t i lv st w = _ at hs
    unfold ax_s29 at hs
    repeat' (first | (cases hs; done) | split at hs)
  | 30, hs, hk, _ =>
    exfalso
    change ax_s30 ro ct a b v t i lv st w = _ at hs
    unfold ax_s30 at hs
    repeat' (first | (cases hs; done) | split at hs)
  | 31, hs, hk, _ =>
    exfalso
    change ax_s31 ro ct a b v t i lv st w = _ at hs
    unfold ax_s31 at hs
    repeat' (first | (cases hs; done) | split at hs)
  | 32, hs, hk, _ =>
    exfalso
    change ax_s32 ro ct a b v t i lv st w = _ at hs
    unfold ax_s32 at hs
    repeat' (first | (cases hs; done) | split at hs)
  | 33, hs, hk, _ =>
    exfalso
    change ax_s33 ro ct a b v t i lv st w = _ at hs
    unfold ax_s33 at hs
    repeat' (first | (cases hs; done) | split at hs)
  | 34, hs, hk, _ =>
    exfalso
    change ax_s34 ro ct a b v t i lv st w = _ at hs
    unfold ax_s34 at hs
    repeat' (first | (cases hs; done) | split at hs)
  | 35, hs, hk, _ =>
    exfalso
    change ax_s35 ro ct a b v t i lv st w = _ at hs
    unfold ax_s35 at hs
    repeat' (first | (cases hs; done) | split at hs)
  | 36, hs, hk, _ => exact ax_gc36 hC hlk hPg hs hk hfr2 hmet hroom hmono kk
  | 37, hs, hk, _ => exact ax_gc37 hC hlk hPg hs hk hfr2 hmet hroom hmono kk
  | 38, hs, hk, _ => exact ax_gc38 hC hlk hPg hs hk hfr2 hmet hroom hmono kk
  | 39, hs, hk, _ =>
    exfalso
    change ax_s39 ro ct a b v t i lv st w = _ at hs
    unfold ax_s39 at hs
    repeat' (first | (cases hs; done) | split at hs)
  | 40, hs, hk, _ =>
    exfalso
    change ax_s40 ro ct a b v t i lv st w = _ at hs
    unfold ax_s40 at hs
    repeat' (first | (cases hs; done) | split at hs)
  | 41, hs, hk, _ =>
    exfalso
    change ax_s41 ro ct a b v t i lv st w = _ at hs
    unfold ax_s41 at hs
    repeat' (first | (cases hs; done) | split at hs)
  | 42, hs, hk, _ => cases hs
  | 43, hs, hk, _ =>
    exfalso
    change ax_s43 ro ct a b v t i lv st w = _ at hs
    unfold ax_s43 at hs
    repeat' (first | (cases hs; done) | split at hs)
  | 44, hs, hk, _ =>
    exfalso
    change ax_s44 ro ct a b v t i lv st w = _ at hs
    unfold ax_s44 at hs
    repeat' (first | (cases hs; done) | split at hs)
  | 45, hs, hk, _ =>
    exfalso
    change ax_s45 ro ct a b v t i lv st w = _ at hs
    unfold ax_s45 at hs
    repeat' (first | (cases hs; done) | split at hs)
  | 46, hs, hk, _ =>
    exfalso
    change ax_s46 ro ct a b v t i lv st w = _ at hs
    unfold ax_s46 at hs
    repeat' (first | (cases hs; done) | split at hs)
  | 47, hs, hk, _ =>
    exfalso
    change ax_s47 ro ct a b v t i lv st w = _ at hs
    unfold ax_s47 at hs
    repeat' (first | (cases hs; done) | split at hs)
  | 48, hs, hk, _ =>
    exfalso
    change ax_s48 ro ct a b v t i lv st w = _ at hs
    unfold ax_s48 at hs
    repeat' (first | (cases hs; done) | split at hs)
  | 49, hs, hk, _ =>
    exfalso
    change ax_s49 ro ct a b v t i lv st w = _ at hs
    unfold ax_s49 at hs
    repeat' (first | (cases hs; done) | split at hs)
  | 50, hs, hk, _ =>
    exfalso
    change ax_s50 ro ct a b v t i lv st w = _ at hs
    unfold ax_s50 at hs
    repeat' (first | (cases hs; done) | split at hs)
  | 51, hs, hk, _ =>
    exfalso
    change ax_s51 ro ct a b v t i lv st w = _ at hs
    unfold ax_s51 at hs
    repeat' (first | (cases hs; done) | split at hs)
  | 52, hs, hk, _ =>
    exfalso
    change ax_s52 ro ct a b v t i lv st w = _ at hs
    unfold ax_s52 at hs
    repeat' (first | (cases hs; done) | split at hs)
  | 53, hs, hk, _ =>
    exfalso
    change ax_s53 ro ct a b v t i lv st w = _ at hs
    unfold ax_s53 at hs
    repeat' (first | (cases hs; done) | split at hs)
  | 54, hs, hk, _ => exact ax_gc54 hC hlk hPg hs hk hfr2 hmet hroom hmono kk
  | 55, hs, hk, _ => exact ax_gc55 hC hlk hPg hs hk hfr2 hmet hroom hmono kk
  | 56, hs, hk, _ =>
    exfalso
    change ax_s56 ro ct a b v t i lv st w = _ at hs
    unfold ax_s56 at hs
    repeat' (first | (cases hs; done) | split at hs)
end AXD
/-- THE SOUNDNESS of the abstract machine -/
theorem ax_sound {l : Launch} {D : va_G} {cl : List vw_C} {cA : FieldType → ClassId} {h0 : Nat} {rv : Nat → Value} {Ts NW : List Cond} {ro : ax_W} {ct : ax_T} {mt : List ax_M} {pg : Nat → List ax_I} (hPg : ax_Pg cl ct mt NW Ts pg) (hrv : ∀ j, (rv j).category = 1) : ∀ (n d : Nat) (M : ax_M), ax_Mb cl mt NW Ts M → ∀ (i : Nat) (lv : ax_L) (st : List Value) (w : ax_W) (r : Option Value) (w' : ax_W), ax_ex ro ct pg n d M.2.2.2.2.2.2.2 i lv st w = some (r, w') →
    ∀ (p : Program) (e : Env) (R : Room) (s : State) (m : MethodId) (args : Array Value) (below : List Frame) (meth : Method) (c : Code) (Q : State → Prop) (A : Nat → Prop) (a0 b0 : Nat), ax_Cx p R s m args meth c D cl cA h0 a0 rv A M.2.2.1 M.1.cls M.1.name M.2.1 Ts ro NW → (d + 1 ≤ R.frames ∧ 100 * (d + 1) ≤ R.locals) → (w'.length ≤ R.cells + a0 ∧ ax_sl w' ≤ R.slots + b0) →
      (∀ (i' : Nat) (ai : ax_I) (lv' : ax_L) (st' : List Value), M.2.2.2.2.2.2.2[i']? = some ai → ax_stp ro ct ai i' lv' st' w' = some (.inr (.inr r)) → ax_K p l e R s m args below meth c Q D cl cA h0 a0 b0 rv A M.2.2.1 M.2.2.2.2.2.2.1 i' lv' st' w') → ax_K p l e R s m args below meth c Q D cl cA h0 a0 b0 rv A M.2.2.1 M.2.2.2.2.2.2.1 i lv st w := by
  intro n
  induction n with
  | zero => intro d M hM i lv st w r w' h; cases h
  | succ n ih =>
    intro d M hM i lv st w r w' hex p e R s m args below meth c Q A a0 b0 hC hfr hroom hret
    have hlk := hM.1
    have hck := hM.2
    rw [ax_ex] at hex
    split at hex
    · cases hex
    · next ai hai =>
      split at hex
      · cases hex
      · next q hq =>
        have hm1 := ax_mono _ _ _ _ _ _ _ _ hex
        dsimp only at hm1
        exact ax_step hC hlk hPg ⟨by omega, by omega⟩ hq (hck i ai hai) (ih d M hM _ _ _ _ _ _ hex p e R s m args below meth c Q A a0 b0 hC hfr hroom hret)
      · next q hq =>
        split at hex
        · cases hex
        · next d' =>
          split at hex
          · cases hex
          · next r1 hr1 =>
            obtain ⟨r1, w1⟩ := r1
            have hm1 := ax_mono _ _ _ _ _ _ _ _ hr1
            have hm2 := ax_mono _ _ _ _ _ _ _ _ hex
            dsimp only at hm1 hm2
            refine ax_cstep (d := d') hC hlk hPg hq (hck i ai hai) (by omega) ?_ ⟨by omega, by omega⟩ hm1 (ih (d' + 1) M hM _ _ _ _ _ _ hex p e R s m args below meth c Q A a0 b0 hC hfr hroom hret)
            intro M' hM' hMok' haw'
            have hpg' := (hPg.2.2.2.2.2 _ _ hM').2
            rw [hpg'] at hr1
            exact ax_met hPg hMok' hrv haw' hm1 hr1 (fun p e R s m args below meth c Q A a0 b0 hC hfr hroom hret => ih d' M' hMok'.b _ _ _ _ _ _ hr1 p e R s m args below meth c Q A a0 b0 hC hfr hroom hret)
      · cases hex
        exact hret i ai lv st hai ‹_›
