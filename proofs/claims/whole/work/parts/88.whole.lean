/-! THE CLAIM OUT OF ONE WALK OF THE LAW'S BODY. Your part is whole_start (and what it stands on); all else here is the same for every law, but numbers. -/
def R_law : String := "HeadClothsLaw"
def lw_P (b : Addr) (xs : List Int32) (args : Array Value) (s : State) : Prop := args = #[.ref b] ∧ s.IntsAt b xs ∧ xs.length ≤ 3072 ∧ (Jvm.Cond.and given_1 narrow_1).before args s = true
def lw_Q (_ : Array Value) (s : State) (o : Outcome) (t : State) : Prop := o = .returned (some (.int 1)) ∧ Framed s o t [] 600000 7302250
def lw_Z (below : List Frame) (a : Array Value) (s : State) : State → Prop := fun t => ∃ o, t.status = .running ∧ Ended t below o ∧ lw_Q a s o t
/-- the law's own end, with 1 on the stack, nothing written that was there before, its room as the claim has it -/
theorem lw_ret {p : Program} {l : Launch} {e : Env} {s : State} {m : MethodId} {below : List Frame} {meth : Method} {c : Code} {b : Nat} (hx : p.tables.exec = Jvm.exec) (hb : c.code = code) (hr : meth.sig.returnType = ret) (hlocks : meth.locks = false) {pc : Nat} {H : Heap} {ls : Array Slot} (hdg : decode code pc = .ok (.ireturn, 1)) : W p l e room_1 s m #[Value.ref b] below meth c H [] 600000 7302250 (lw_Z below #[Value.ref b] s) (F0 m pc ls [.int 1]) := by
  intro T hT X
  obtain ⟨fs, hret, hrun, hended, hW, hframe⟩ := X.leave (v := some (.int 1)) (hlocks := hlocks) (fun h => by rw [hr] at h; cases h)
  have hmeth' : T.vm.method? m = some meth := X.method'
  refine ⟨T.setFrames fs, ?_, .returned (some (.int 1)), hrun, hended, rfl, ⟨_, rfl⟩, hW, hframe⟩
  jvm_step X.here [X.here.top, hx, hb, hdg, hmeth', hr, ret, narrow_b1]
  (try refine ⟨rfl, ?_⟩); (try refine ⟨rfl, ?_⟩)
  first | (intro acts; rw [hret _ acts rfl rfl rfl]) | rw [hret _ _ rfl rfl rfl]
  exact Steps.refl _
/-- what holds at the law's entry: the machine, the code, the tables' words (any of lw_tbl by 'hts w (by decide +kernel)'), the script of L ints xs at the cell b, what the Statement gives of the start (any of its parts by flat_of_before) -/
def lw_At (p : Program) (s : State) (m : MethodId) (meth : Method) (c : Code) (b L : Nat) (xs : Nat → Int32) : Prop :=
  p.tables.exec = Jvm.exec ∧ c.code = code ∧ meth.sig.returnType = ret ∧ c.maxLocals = 4 ∧ s.vm.findClass R_law = some m.cls ∧ (∀ w ∈ lw_tbl, w.before #[Value.ref b] s = true) ∧ va_X b L xs s s.heap ∧ b < s.heap.size ∧ meth.locks = false ∧ (Jvm.Cond.and given_1 narrow_1).before #[Value.ref b] s = true
theorem ax_ret1 {ro : ax_W} {ct : ax_T} {cl : List vw_C} {mt : List ax_M} {NW lk : List Cond} {own nm : String} {rt : Option FieldType} {nL pc i' : Nat} {pcs : List Nat} {nx : Bool} {ai : ax_I} {lv' : ax_L} {st' : List Value} {w1 : ax_W} {q9 : Instr × Nat} (hst : ax_stp ro ct ai i' lv' st' w1 = some (.inr (.inr (some (.int 1))))) (hm : ax_mt cl mt NW own nm rt nL lk pcs pc nx ai q9 = true) : st' = [.int 1] ∧ q9 = (.ireturn, 1) := by
  obtain ⟨op, a, b, v, t⟩ := ai
  have hlt := ax_op_lt hst
  match op, hst, hm, hlt with
  | 0, hst, hm, _ =>
    exfalso
    change ax_s0 ro ct a b v t i' lv' st' w1 = _ at hst
    unfold ax_s0 at hst
    repeat' (first | (cases hst; done) | split at hst)
  | 1, hst, hm, _ =>
    exfalso
    change ax_s1 ro ct a b v t i' lv' st' w1 = _ at hst
    unfold ax_s1 at hst
    repeat' (first | (cases hst; done) | split at hst)
  | 2, hst, hm, _ =>
    exfalso
    change ax_s2 ro ct a b v t i' lv' st' w1 = _ at hst
    unfold ax_s2 at hst
    repeat' (first | (cases hst; done) | split at hst)
  | 3, hst, hm, _ =>
    exfalso
    change ax_s3 ro ct a b v t i' lv' st' w1 = _ at hst
    unfold ax_s3 at hst
    repeat' (first | (cases hst; done) | split at hst)
  | 4, hst, hm, _ =>
    exfalso
    change ax_s4 ro ct a b v t i' lv' st' w1 = _ at hst
    unfold ax_s4 at hst
    repeat' (first | (cases hst; done) | split at hst)
  | 5, hst, hm, _ =>
    exfalso
    change ax_s5 ro ct a b v t i' lv' st' w1 = _ at hst
    unfold ax_s5 at hst
    repeat' (first | (cases hst; done) | split at hst)
  | 6, hst, hm, _ =>
    exfalso
    change ax_s6 ro ct a b v t i' lv' st' w1 = _ at hst
    unfold ax_s6 at hst
    repeat' (first | (cases hst; done) | split at hst)
  | 7, hst, hm, _ =>
    exfalso
    change ax_s7 ro ct a b v t i' lv' st' w1 = _ at hst
    unfold ax_s7 at hst
    repeat' (first | (cases hst; done) | split at hst)
  | 8, hst, hm, _ =>
    exfalso
    change ax_s8 ro ct a b v t i' lv' st' w1 = _ at hst
    unfold ax_s8 at hst
    repeat' (first | (cases hst; done) | split at hst)
  | 9, hst, hm, _ =>
    exfalso
    change ax_s9 ro ct a b v t i' lv' st' w1 = _ at hst
    unfold ax_s9 at hst
    repeat' (first | (cases hst; done) | split at hst)
  | 10, hst, hm, _ =>
    exfalso
    change ax_s10 ro ct a b v t i' lv' st' w1 = _ at hst
    unfold ax_s10 at hst
    repeat' (first | (cases hst; done) | split at hst)
  | 11, hst, hm, _ =>
    exfalso
    change ax_s11 ro ct a b v t i' lv' st' w1 = _ at hst
    unfold ax_s11 at hst
    repeat' (first | (cases hst; done) | split at hst)
  | 12, hst, hm, _ =>
    exfalso
    change ax_s12 ro ct a b v t i' lv' st' w1 = _ at hst
    unfold ax_s12 at hst
    repeat' (first | (cases hst; done) | split at hst)
  | 13, hst, hm, _ =>
    exfalso
    change ax_s13 ro ct a b v t i' lv' st' w1 = _ at hst
    unfold ax_s13 at hst
    repeat' (first | (cases hst; done) | split at hst)
  | 14, hst, hm, _ =>
    exfalso
    change ax_s14 ro ct a b v t i' lv' st' w1 = _ at hst
    unfold ax_s14 at hst
    repeat' (first | (cases hst; done) | split at hst)
  | 15, hst, hm, _ =>
    exfalso
    change ax_s15 ro ct a b v t i' lv' st' w1 = _ at hst
    unfold ax_s15 at hst
    repeat' (first | (cases hst; done) | split at hst)
  | 16, hst, hm, _ =>
    exfalso
    change ax_s16 ro ct a b v t i' lv' st' w1 = _ at hst
    unfold ax_s16 at hst
    repeat' (first | (cases hst; done) | split at hst)
  | 17, hst, hm, _ =>
    exfalso
    change ax_s17 ro ct a b v t i' lv' st' w1 = _ at hst
    unfold ax_s17 at hst
    repeat' (first | (cases hst; done) | split at hst)
  | 18, hst, hm, _ =>
    exfalso
    change ax_s18 ro ct a b v t i' lv' st' w1 = _ at hst
    unfold ax_s18 at hst
    repeat' (first | (cases hst; done) | split at hst)
  | 19, hst, hm, _ =>
    exfalso
    change ax_s19 ro ct a b v t i' lv' st' w1 = _ at hst
    unfold ax_s19 at hst
    repeat' (first | (cases hst; done) | split at hst)
  | 20, hst, hm, _ =>
    exfalso
    change ax_s20 ro ct a b v t i' lv' st' w1 = _ at hst
    unfold ax_s20 at hst
    repeat' (first | (cases hst; done) | split at hst)
  | 21, hst, hm, _ =>
    exfalso
    change ax_s21 ro ct a b v t i' lv' st' w1 = _ at hst
    unfold ax_s21 at hst
    repeat' (first | (cases hst; done) | split at hst)
  | 22, hst, hm, _ =>
    exfalso
    change ax_s22 ro ct a b v t i' lv' st' w1 = _ at hst
    unfold ax_s22 at hst
    repeat' (first | (cases hst; done) | split at hst)
  | 23, hst, hm, _ =>
    exfalso
    change ax_s23 ro ct a b v t i' lv' st' w1 = _ at hst
    unfold ax_s23 at hst
    repeat' (first | (cases hst; done) | split at hst)
  | 24, hst, hm, _ =>
    exfalso
    change ax_s24 ro ct a b v t i' lv' st' w1 = _ at hst
    unfold ax_s24 at hst
    repeat' (first | (cases hst; done) | split at hst)
  | 25, hst, hm, _ =>
    exfalso
    change ax_s25 ro ct a b v t i' lv' st' w1 = _ at hst
    unfold ax_s25 at hst
    repeat' (first | (cases hst; done) | split at hst)
  | 26, hst, hm, _ =>
    exfalso
    change ax_s26 ro ct a b v t i' lv' st' w1 = _ at hst
    unfold ax_s26 at hst
    repeat' (first | (cases hst; done) | split at hst)
  | 27, hst, hm, _ =>
    exfalso
    change ax_s27 ro ct a b v t i' lv' st' w1 = _ at hst
    unfold ax_s27 at hst
    repeat' (first | (cases hst; done) | split at hst)
  | 28, hst, hm, _ =>
    exfalso
    change ax_s28 ro ct a b v t i' lv' st' w1 = _ at hst
    unfold ax_s28 at hst
    repeat' (first | (cases hst; done) | split at hst)
  | 29, hst, hm, _ =>
    exfalso
    change ax_s29 ro ct a b v t i' lv' st' w1 = _ at hst
    unfold ax_s29 at hst
    repeat' (first | (cases hst; done) | split at hst)
  | 30, hst, hm, _ =>
    exfalso
    change ax_s30 ro ct a b v t i' lv' st' w1 = _ at hst
    unfold ax_s30 at hst
    repeat' (first | (cases hst; done) | split at hst)
  | 31, hst, hm, _ =>
    exfalso
    change ax_s31 ro ct a b v t i' lv' st' w1 = _ at hst
    unfold ax_s31 at hst
    repeat' (first | (cases hst; done) | split at hst)
  | 32, hst, hm, _ =>
    exfalso
    change ax_s32 ro ct a b v t i' lv' st' w1 = _ at hst
    unfold ax_s32 at hst
    repeat' (first | (cases hst; done) | split at hst)
  | 33, hst, hm, _ =>
    exfalso
    change ax_s33 ro ct a b v t i' lv' st' w1 = _ at hst
    unfold ax_s33 at hst
    repeat' (first | (cases hst; done) | split at hst)
  | 34, hst, hm, _ =>
    exfalso
    change ax_s34 ro ct a b v t i' lv' st' w1 = _ at hst
    unfold ax_s34 at hst
    repeat' (first | (cases hst; done) | split at hst)
  | 35, hst, hm, _ =>
    exfalso
    change ax_s35 ro ct a b v t i' lv' st' w1 = _ at hst
    unfold ax_s35 at hst
    repeat' (first | (cases hst; done) | split at hst)
  | 36, hst, hm, _ =>
    exfalso
    change ax_s36 ro ct a b v t i' lv' st' w1 = _ at hst
    unfold ax_s36 at hst
    repeat' (first | (cases hst; done) | split at hst)
  | 37, hst, hm, _ =>
    exfalso
    change ax_s37 ro ct a b v t i' lv' st' w1 = _ at hst
    unfold ax_s37 at hst
    repeat' (first | (cases hst; done) | split at hst)
  | 38, hst, hm, _ =>
    exfalso
    change ax_s38 ro ct a b v t i' lv' st' w1 = _ at hst
    unfold ax_s38 at hst
    repeat' (first | (cases hst; done) | split at hst)
  | 39, hst, hm, _ =>
    exfalso
    change ax_s39 ro ct a b v t i' lv' st' w1 = _ at hst
    unfold ax_s39 at hst
    repeat' (first | (cases hst; done) | split at hst)
  | 40, hst, hm, _ =>
    exfalso
    change ax_s40 ro ct a b v t i' lv' st' w1 = _ at hst
    unfold ax_s40 at hst
    repeat' (first | (cases hst; done) | split at hst)
  | 41, hst, hm, _ =>
    exfalso
    change ax_s41 ro ct a b v t i' lv' st' w1 = _ at hst
    unfold ax_s41 at hst
    repeat' (first | (cases hst; done) | split at hst)
  | 42, hst, hm, _ => cases hst
  | 43, hst, hm, _ =>
    exfalso
    change ax_s43 ro ct a b v t i' lv' st' w1 = _ at hst
    unfold ax_s43 at hst
    repeat' (first | (cases hst; done) | split at hst)
  | 44, hst, hm, _ =>
    exfalso
    change ax_s44 ro ct a b v t i' lv' st' w1 = _ at hst
    unfold ax_s44 at hst
    repeat' (first | (cases hst; done) | split at hst)
  | 45, hst, hm, _ =>
    change ax_s45 ro ct a b v t i' lv' st' w1 = _ at hst
    change ax_m45 cl mt NW own nm rt nL lk pcs pc nx a b v t q9 = true at hm
    unfold ax_s45 at hst
    unfold ax_m45 at hm
    split at hst
    · split at hst
      · cases hst
        simp only [Bool.and_eq_true, decide_eq_true_eq] at hm
        exact ⟨rfl, hm.1⟩
      · cases hst
    · cases hst
  | 46, hst, hm, _ =>
    exfalso
    change ax_s46 ro ct a b v t i' lv' st' w1 = _ at hst
    unfold ax_s46 at hst
    repeat' (first | (cases hst; done) | split at hst)
  | 47, hst, hm, _ =>
    exfalso
    change ax_s47 ro ct a b v t i' lv' st' w1 = _ at hst
    unfold ax_s47 at hst
    repeat' (first | (cases hst; done) | split at hst)
  | 48, hst, hm, _ =>
    exfalso
    change ax_s48 ro ct a b v t i' lv' st' w1 = _ at hst
    unfold ax_s48 at hst
    repeat' (first | (cases hst; done) | split at hst)
  | 49, hst, hm, _ =>
    exfalso
    change ax_s49 ro ct a b v t i' lv' st' w1 = _ at hst
    unfold ax_s49 at hst
    repeat' (first | (cases hst; done) | split at hst)
  | 50, hst, hm, _ =>
    exfalso
    change ax_s50 ro ct a b v t i' lv' st' w1 = _ at hst
    unfold ax_s50 at hst
    repeat' (first | (cases hst; done) | split at hst)
  | 51, hst, hm, _ =>
    exfalso
    change ax_s51 ro ct a b v t i' lv' st' w1 = _ at hst
    unfold ax_s51 at hst
    repeat' (first | (cases hst; done) | split at hst)
  | 52, hst, hm, _ =>
    exfalso
    change ax_s52 ro ct a b v t i' lv' st' w1 = _ at hst
    unfold ax_s52 at hst
    repeat' (first | (cases hst; done) | split at hst)
  | 53, hst, hm, _ =>
    exfalso
    change ax_s53 ro ct a b v t i' lv' st' w1 = _ at hst
    unfold ax_s53 at hst
    repeat' (first | (cases hst; done) | split at hst)
  | 54, hst, hm, _ =>
    exfalso
    change ax_s54 ro ct a b v t i' lv' st' w1 = _ at hst
    unfold ax_s54 at hst
    repeat' (first | (cases hst; done) | split at hst)
  | 55, hst, hm, _ =>
    exfalso
    change ax_s55 ro ct a b v t i' lv' st' w1 = _ at hst
    unfold ax_s55 at hst
    repeat' (first | (cases hst; done) | split at hst)
  | 56, hst, hm, _ =>
    exfalso
    change ax_s56 ro ct a b v t i' lv' st' w1 = _ at hst
    unfold ax_s56 at hst
    repeat' (first | (cases hst; done) | split at hst)
set_option maxHeartbeats 4000000 in
theorem ax_whole {p : Program} {e : Env} {s : State} {m : MethodId} {below : List Frame} {meth : Method} {c : Code} (hpure : ax_Pure) (l : Launch) {b L : Nat} {xs : Nat → Int32} (hL : L ≤ 3072) (C0 : lw_At p s m meth c b L xs) : W p l e room_1 s m #[Value.ref b] below meth c s.heap [] 0 0 (lw_Z below #[Value.ref b] s) (entryFrame m ([Value.ref b] : List Value).toArray 4) := by
  obtain ⟨hx, hb, hr, hml, hown, hts, hX, hbl, hlocks, hgv⟩ := id C0
  have hfl := flat_of_before _ hgv
  have hTs : ∀ w ∈ ax_Ts, w.before #[Value.ref b] s = true := fun w hw => hts w (List.mem_filter.mp hw).1
  have hAold : ∀ a : Nat, a < s.heap.size → ¬ (fun q : Nat => s.heap.size ≤ q) a := fun a h => Nat.not_le.mpr h
  -- the classes
  have hcls : ∀ ci : Nat, ∃ d : ClassId × (Nat → Nat), ∀ q : vw_C, ax_cls[ci]? = some q → u_Kn s q.1 q.2.1 q.2.2 d.1 d.2 := by
    intro ci
    cases h : ax_cls[ci]? with
    | none => exact ⟨(0, fun _ => 0), fun q hq => by cases hq⟩
    | some q =>
      obtain ⟨ts, -, -, -, -, hin, hins, -⟩ := ax_Cl_ok ci q h
      obtain ⟨c1, i1, hk⟩ := u_known (C := q.1) (T := q.2.1) (N := q.2.2) (n := q.2.2) hTs hin (hTs _ hins)
      exact ⟨(c1, i1), fun q' hq => by cases hq; exact hk⟩
  obtain ⟨dd, hdd⟩ := Classical.axiomOfChoice hcls
  obtain ⟨cI, aI, fI⟩ := ax_arr1 (hTs _ (ax_GW_ok.1 0))
  obtain ⟨cJ, aJ, fJ⟩ := ax_arr1 (hTs _ (ax_GW_ok.1 1))
  obtain ⟨cB, aB, fB⟩ := ax_arr1 (hTs _ (ax_GW_ok.1 2))
  obtain ⟨cZ, aZ, fZ⟩ := ax_arr1 (hTs _ (ax_GW_ok.1 3))
  obtain ⟨cS, aS, fS⟩ := ax_arr2 (hts _ ax_aow)
  have hK : va_K ((fun k => (dd k).1), (fun k => (dd k).2)) ax_cls (ax_tys (fun ty => match ty with
    | .int => cI
    | .long => cJ
    | .byte => cB
    | .boolean => cZ
    | _ => cS)) s := by
    refine ⟨fun ci q hq => hdd ci q hq, fun k q hq => ?_⟩
    match k, hq with
    | 0, hq => cases hq; exact ⟨aI, fI⟩
    | 1, hq => cases hq; exact ⟨aJ, fJ⟩
    | 2, hq => cases hq; exact ⟨aB, fB⟩
    | 3, hq => cases hq; exact ⟨aZ, fZ⟩
    | 4, hq => cases hq; exact ⟨aS, fS⟩
    | k + 5, hq => simp [ax_tys] at hq
  -- strings and statics
  obtain ⟨adK, adV, hSt, hev⟩ := vk_Sof (args := #[Value.ref b]) (s := s) (N := 2) (tm := ax_tm) (len := ax_len) (byt := ax_byt) (A := fun q : Nat => s.heap.size ≤ q) (by decide) (fun i hi => hfl _ (ax_fl3 i hi)) (fun i hi => hfl _ (ax_fl4 i hi)) (fun i hi => hfl _ (ax_fl5 i hi)) (fun i hi => hfl _ (ax_fl6 i hi))
    (fun i hi j hj => by
      match i, hi, hj with
      | 0, _, hj => exact hfl _ (ax_fl7 j hj)
      | 1, _, hj => exact hfl _ (ax_fl8 j hj))
    (fun i j hi hj hne => by
      match i, j, hi, hj, hne with
      | 0, 0, _, _, hne => exact absurd rfl hne
      | 0, 1, _, _, _ => exact Or.inl (hfl _ ax_fl9)
      | 1, 0, _, _, _ => exact Or.inr (hfl _ ax_fl9)
      | 1, 1, _, _, hne => exact absurd rfl hne) hAold
  obtain ⟨v0, hv0, hv0r⟩ := Cond.isRef_spec (show (Cond.isRef (.static "jdk/internal/util/Preconditions" "SIOOBE_FORMATTER" "Ljava/util/function/BiFunction;")).holds #[Value.ref b] s none s [] = true from hfl _ ax_fl2)
  have hZ1 := va_Zof (A := fun q : Nat => s.heap.size ≤ q) (hts _ ax_lsw1) (hts _ ax_inw1) (va_eqi (hfl _ ax_fl1)) hAold
  have hZ2 := va_Zof (A := fun q : Nat => s.heap.size ≤ q) (hts _ ax_lsw2) (hts _ ax_inw2) hv0 hAold
  have hrv : ∀ j, (ax_rvf b adK adV v0 j).category = 1 := by
    intro j
    unfold ax_rvf
    split <;> first | rfl | (cases v0 <;> simp_all [Value.isRef, Value.category])
  have hRO : ax_RO (ax_ro ((List.range L).map xs)) (ax_rvf b adK adV v0) ax_NWs (fun q : Nat => s.heap.size ≤ q) s s.heap := by
    refine ⟨fun j c hj => ?_, hZ1, hZ2, fun w hw => ?_, va_AO.of (hts _ ax_aow), ?_, ?_, fun j hj => ?_⟩
    · obtain ⟨scr, hcb, hof, hkn, hsz, hval⟩ := hX
      match j, hj with
      | 0, hj =>
        cases hj
        refine ⟨b, rfl, scr, hcb, hof, hkn, ?_, ?_, fun k hk => ?_, hAold b hbl⟩
        · simp [hsz]
        · simp [hsz]
        · simp at hk
          rw [hval k hk]
          simp [hk]
      | 1, hj =>
        cases hj
        obtain ⟨g1, g2, g3, g4⟩ := hSt.1 0 (by decide)
        exact ⟨adK 0, rfl, g1, fun v hv => by cases hv; exact ⟨g3, _, rfl⟩, fun v hv => by cases hv; exact ⟨g2, _, rfl⟩⟩
      | 2, hj =>
        cases hj
        obtain ⟨g1, g2, g3, cell, k1, k2, k3, k4, k5, k6, k7⟩ := hSt.1 0 (by decide)
        refine ⟨adV 0, rfl, cell, k1, k2, k3, k4, k5, fun k hk => ?_, k7⟩
        rw [k6 k hk]
        have hk2 : k < ax_wB.length := hk
        simp [ax_byt, hk2]
      | 3, hj =>
        cases hj
        obtain ⟨g1, g2, g3, g4⟩ := hSt.1 1 (by decide)
        exact ⟨adK 1, rfl, g1, fun v hv => by cases hv; exact ⟨g3, _, rfl⟩, fun v hv => by cases hv; exact ⟨g2, _, rfl⟩⟩
      | 4, hj =>
        cases hj
        obtain ⟨g1, g2, g3, cell, k1, k2, k3, k4, k5, k6, k7⟩ := hSt.1 1 (by decide)
        refine ⟨adV 1, rfl, cell, k1, k2, k3, k4, k5, fun k hk => ?_, k7⟩
        rw [k6 k hk]
        have hk2 : k < ax_sB.length := hk
        simp [ax_byt, hk2]
      | j + 5, hj => simp [ax_ro] at hj
    · rcases ax_NW_ok w hw with ⟨_, _, _, _, rfl⟩ | ⟨_, _, _, _, _, _, rfl⟩
      · exact va_Nw.of rfl (hts _ (ax_nwin _ hw))
      · exact va_Nw.of rfl (hts _ (ax_nwin _ hw))
    · obtain ⟨tx, htx⟩ := ax_sw1
      exact ⟨adK 0, tx, rfl, vk_R.of (hts _ htx) (hev 0 (by decide))⟩
    · obtain ⟨tx, htx⟩ := ax_sw3
      exact ⟨adK 1, tx, rfl, vk_R.of (hts _ htx) (hev 1 (by decide))⟩
    · unfold ax_rvf
      split <;> first | exact ⟨_, rfl⟩ | exact absurd rfl hj
  obtain ⟨n, w', hex, hcl, hsl⟩ := hpure ((List.range L).map xs) (by simpa using hL)
  have hl := lv_entry ([.ref b]) (n := 4) (Nat.le_of_ble_eq_true rfl)
  rw [lg_entry_eq]
  generalize (lg_sl ([.ref b]) ++ List.replicate (4 - (lg_sl ([.ref b])).length) Slot.unset).toArray = ls at hl ⊢
  refine ax_sound (l := l) ax_Pg_ok hrv n 60 ax_M336 ax_lawb 0 [(0, .retAddr 0)] [] [] (some (.int 1)) w' hex p e room_1 s m _ below meth c _ (fun q : Nat => s.heap.size ≤ q) 0 0 ⟨hx, hb, hml, hown, hTs, hK, hrv, fun h => absurd h (by decide), Nat.le_of_ble_eq_true rfl, Nat.le_of_ble_eq_true rfl, rfl, fun _ h => h, fun _ h => h, hRO⟩ ⟨Nat.le_of_ble_eq_true rfl, Nat.le_of_ble_eq_true rfl⟩ ⟨hcl, hsl⟩ ?_ 0 ls s.heap [] 0 0 rfl hl ⟨fun k q h => by simp [ax_w] at h, ⟨fun i j p q h => by simp [ax_w] at h, fun k q h => by simp [ax_w] at h⟩, va_S.rf⟩ rfl rfl
  intro i' ai lv' st' hai hst pc ls H locs cells slots hpc hl hI hcs hsl2
  obtain ⟨q9, hd9, hm9⟩ := ax_ck_inv hpc (ax_lawb.2 i' ai hai)
  obtain ⟨e1, e2⟩ := ax_ret1 hst hm9
  subst e1
  subst e2
  refine va_forget (fun q hq => hI.2.2.2.2 q hq) ?_
  refine W.widen (k := 600000) (n := 7302250) (by omega) (by omega) ?_
  exact lw_ret hx hb hr hlocks hd9
