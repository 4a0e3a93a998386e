/-! WHO, LOOK, COUNT, BY THE REFERENCE -/
def bN (b : Bool) : Nat := if b = true then 1 else 0
theorem bN_le (b : Bool) : bN b ≤ 1 := by cases b <;> decide
theorem bN_t {b : Bool} (h : ¬ bN b = 0) : b = true := by cases b <;> first | rfl | exact absurd rfl h
theorem bN_f {b : Bool} (h : bN b = 0) : b = false := by cases b <;> first | rfl | exact absurd h (by decide)
theorem lf_same {P : Pl} {S : St} {T : Tl} {u h : Nat} (e : lvB P S (Tc T u) (Tt T u) (Ta T u) h = decide (Ts T u ≠ 0)) : lfB P S T (u + 1) h = lfB P S T u h := by
  show (lfB P S T u h && (lvB P S (Tc T u) (Tt T u) (Ta T u) h == decide (Ts T u ≠ 0))) = _
  rw [e, beq_self_eq_true, Bool.and_true]
theorem lf_diff {P : Pl} {S : St} {T : Tl} {u h : Nat} (e : ¬ lvB P S (Tc T u) (Tt T u) (Ta T u) h = decide (Ts T u ≠ 0)) : lfB P S T (u + 1) h = false := by
  show (lfB P S T u h && (lvB P S (Tc T u) (Tt T u) (Ta T u) h == decide (Ts T u ≠ 0))) = _
  rw [beq_eq_false_iff_ne.mpr e, Bool.and_false]
theorem lv_then (P : Pl) {S : St} (hok : Sok S) {h c t a : Nat} (hh : h < 5) (hc : c < 4) (ht : t < 4) : lvB P S c t a h = decide (a ≤ thenN P S h (4 * c + t)) := by
  rw [then_lv P hok hh (by omega), show (4 * c + t) / 4 = c by omega, show (4 * c + t) % 4 = t by omega]
theorem pc_sum (x : Nat) : pc x = sumF (fun j => bitN x j) 5 := by
  simp only [sumF, bitN, pc, ← tb_div]
  simp
theorem bitN_and (x y j : Nat) : bitN (x &&& y) j = if (x.testBit j && y.testBit j) = true then 1 else 0 := by
  unfold bitN
  rw [Nat.testBit_and]
theorem cnt_pc (l : Nat) (f : Nat → Bool) (n : Nat) (hn : n ≤ 5) (hl : ∀ j, n ≤ j → l.testBit j = false) : sumF (fun h => if (l.testBit h && f h) = true then 1 else 0) n = pc (l &&& bset f n) := by
  have key : ∀ m, sumF (fun j => bitN (l &&& bset f n) j) m = sumF (fun h => if (l.testBit h && f h) = true then 1 else 0) (min m n) := by
    intro m
    induction m with
    | zero => simp [sumF]
    | succ m ih =>
      rw [sumF, ih]
      by_cases h : m < n
      · rw [show min m n = m by omega, show min (m + 1) n = m + 1 by omega, sumF, bitN_and, bset_bit]
        simp [h]
      · rw [show min m n = n by omega, show min (m + 1) n = n by omega, bitN_and, hl m (by omega)]
        simp
  rw [pc_sum, key 5, show min 5 n = n by omega]
theorem pc_split (l b : Nat) : pc l = pc (l &&& b) + pc (l &&& (l ^^^ b)) := by
  have key : ∀ m, sumF (fun j => bitN l j) m = sumF (fun j => bitN (l &&& b) j) m + sumF (fun j => bitN (l &&& (l ^^^ b)) j) m := by
    intro m
    induction m with
    | zero => rfl
    | succ m ih =>
      simp only [sumF]
      rw [ih, bitN_and, bitN_and, Nat.testBit_xor]
      unfold bitN
      cases l.testBit m <;> cases b.testBit m <;> simp <;> omega
  rw [pc_sum, pc_sum, pc_sum, key 5]
theorem left_hi (P : Pl) (S : St) (T : Tl) (k j : Nat) (h : Phd P ≤ j) : (leftN P S T k).testBit j = false := by
  unfold leftN
  rw [bset_bit, decide_eq_false (by omega)]
  rfl
theorem orF_bit (f : Nat → Nat) (j : Nat) : ∀ n, (orF f n).testBit j = true ↔ ∃ t, t < n ∧ (f t).testBit j = true
  | 0 => by
    constructor
    · intro h; simp [orF] at h
    · intro ⟨t, ht, _⟩; omega
  | n + 1 => by
    unfold orF
    rw [Nat.testBit_or, Bool.or_eq_true, orF_bit f j n]
    constructor
    · intro h
      rcases h with ⟨t, h1, h2⟩ | h
      · exact ⟨t, by omega, h2⟩
      · exact ⟨n, by omega, h⟩
    · intro ⟨t, h1, h2⟩
      by_cases e : t = n
      · subst e; exact Or.inr h2
      · exact Or.inl ⟨t, by omega, h2⟩
theorem bset_ne0 (f : Nat → Bool) (n : Nat) : ¬ bset f n = 0 ↔ ∃ t, t < n ∧ f t = true := by
  constructor
  · intro h
    apply Classical.byContradiction
    intro hn
    apply h
    apply nat_ext
    intro j
    rw [bset_bit, Nat.zero_testBit]
    by_cases hj : j < n
    · cases e : f j with
      | false => simp
      | true => exact absurd ⟨j, hj, e⟩ hn
    · simp [hj]
  · intro ⟨t, h1, h2⟩ e
    have := bset_bit f t n
    rw [e, Nat.zero_testBit, h2, decide_eq_true h1] at this
    cases this
theorem sayers_eq (S : St) (w n : Nat) : bset (fun h => decide (¬ bset (fun t => says1 S w h t) 4 = 0)) n = orF (fun t => bset (fun h => says1 S w h t) n) 4 := by
  apply nat_ext
  intro j
  apply Bool.eq_iff_iff.mpr
  rw [orF_bit, bset_bit, Bool.and_eq_true, decide_eq_true_eq, decide_eq_true_eq, bset_ne0]
  constructor
  · intro ⟨h1, t, h2, h3⟩
    exact ⟨t, h2, by rw [bset_bit, decide_eq_true h1, h3]; rfl⟩
  · intro ⟨t, h2, h3⟩
    rw [bset_bit, Bool.and_eq_true, decide_eq_true_eq] at h3
    exact ⟨h3.1, t, h2, h3.2⟩
theorem sum_4 (f : Nat → Nat) (m : Nat) : sumF f (m + 4) = sumF f m + s4 f m := by
  show sumF f m + f m + f (m + 1) + f (m + 2) + f (m + 3) = sumF f m + (0 + f (m + 0) + f (m + 1) + f (m + 2) + f (m + 3))
  have e : f (m + 0) = f m := rfl
  omega
theorem sum_s4 (f : Nat → Nat) : ∀ n, sumF (fun c => s4 f (c * 4)) n = sumF f (n * 4)
  | 0 => rfl
  | n + 1 => by
    rw [sumF, sum_s4 f n, Nat.succ_mul, sum_4]
theorem held_pc : ∀ x, x < 8 → bitN x 0 + bitN x 1 + bitN x 2 = pc x := by decide +kernel

theorem m_who_i {xs : List Int32} {d : Nat} {σ : Nat → List Value} {Q : Option Value → (Nat → List Value) → Prop} {P : Pl} {L : Nat} {g : Nat → Int32} (hL2 : L < 2) (hP : Pok P) {S : St} (hok : Sok S) {T : Tl} (hTk : Tok P T) {f6 f7 f8 : Nat → Int32} (h326 : σ 326 = arr 20 f6) (h6 : ∀ j, j < Tn T → f6 j = nI (4 * Tc T j + Tt T j)) (h327 : σ 327 = arr 20 f7) (h7 : ∀ j, j < Tn T → f7 j = nI (Ta T j)) (h328 : σ 328 = arr 20 f8) (h8 : ∀ j, j < Tn T → f8 j = nI (Ts T j)) {k : Nat} (hk : k ≤ Tn T) {h z : Nat} (hh : h < Phd P)  (K : ∀ σ' g', Fr xR σ σ' → FrG yC g g' → MD P L g' σ' → NwIs σ' S → Wq xs (d + 6) ax_cd327 42 [(4, .int (nI (bN (lfB P S T k h)))), (3, .int (nI h)), (2, .int (nI z)), (0, .ref 287), (1, .int (nI k))] [] σ' Q) : ∀ (m u : Nat), m + u = k → ∀ σ1 g1, Fr xR σ σ1 → FrG yC g g1 → MD P L g1 σ1 → NwIs σ1 S → Wq xs (d + 6) ax_cd327 15 [(5, .int (nI u)), (4, .int (nI (bN (lfB P S T u h)))), (3, .int (nI h)), (2, .int (nI z)), (0, .ref 287), (1, .int (nI k))] [] σ1 Q := by
  have hP' := hP
  obtain ⟨hP1, hP2, hP3, hP4, hP5, hP6, hP7, hP8, hPv, hPm, hPo, hPw, hPl⟩ := hP'
  have hhr := hok.2.1
  have hTn := hTk.1
  intro m
  induction m with
  | zero =>
    intro u hm σ1 g1 hF1 hG1 hM1 hN1
    refine wq_go rfl (fun _ => rfl) ?_
    refine wq_go rfl (fun _ => rfl) ?_
    refine wq_cge rfl (by first | omega | decide | exact Nat.lt_of_le_of_lt Nat.and_le_right (by decide) | exact ⟨by omega, by omega⟩) (by first | omega | decide | exact Nat.lt_of_le_of_lt Nat.and_le_right (by decide) | exact ⟨by omega, by omega⟩) (fun c17 => ?_) (fun c => absurd (show _ from by omega) c)
    rw [show u = k by omega]
    exact wq_lv ⟨(by decide : ([5, 4, 3, 2, 0, 1] : List Nat).Nodup), (lvm (List.mem_of_getElem? (i := 1) rfl) (lvm (List.mem_of_getElem? (i := 2) rfl) (lvm (List.mem_of_getElem? (i := 3) rfl) (lvm (List.mem_of_getElem? (i := 4) rfl) (lvm (List.mem_of_getElem? (i := 5) rfl) lvn)))))⟩ (K σ1 g1 hF1 hG1 hM1 hN1)
  | succ m ih =>
    intro u hm σ1 g1 hF1 hG1 hM1 hN1
    have hT := hTk.2 u (by omega)
    have hlv := lv_then P hok (h := h) (c := Tc T u) (t := Tt T u) (a := Ta T u) (by omega) (by omega) (by omega)
    have hth := then_le P hok (h := h) (q := 4 * Tc T u + Tt T u) (by omega) (by omega)
    refine wq_go rfl (fun _ => rfl) ?_
    refine wq_go rfl (fun _ => rfl) ?_
    refine wq_cge rfl (by first | omega | decide | exact Nat.lt_of_le_of_lt Nat.and_le_right (by decide) | exact ⟨by omega, by omega⟩) (by first | omega | decide | exact Nat.lt_of_le_of_lt Nat.and_le_right (by decide) | exact ⟨by omega, by omega⟩) (fun c => absurd c (by omega)) (fun c17 => ?_)
    refine wq_go rfl (fun _ => rfl) ?_
    refine wq_go rfl (fun _ => rfl) ?_
    refine wq_go rfl (fun _ => rfl) ?_
    refine wq_getf rfl (by first | rfl | assumption) (by first | decide | omega | assumption) (md_o hM1) rfl ?_
    refine wq_go rfl (fun _ => rfl) ?_
    refine wq_iald rfl (by first | rfl | assumption) (by first | decide | omega | assumption) ((hF1 326 rfl).trans h326) rfl (by omega) (by first | decide | omega) ?_
    refine wq_top (h6 u (by omega)) ?_
    refine wq_callV rfl rfl (by first | rfl | assumption) (by first | decide | omega | assumption) (Nat.le_of_ble_eq_true rfl) (Nat.le_of_ble_eq_true rfl) rfl rfl ?_
    refine m_hasThen hM1 hok hN1 hh (by omega) (fun σ5 g5 F5 G5 M5 => ?_)
    have W5 : NwIs σ5 S := (F5 322 rfl).trans hN1
    refine wq_go rfl (fun _ => rfl) ?_
    refine wq_getf rfl (by first | rfl | assumption) (by first | decide | omega | assumption) (md_o M5) rfl ?_
    refine wq_go rfl (fun _ => rfl) ?_
    refine wq_iald rfl (by first | rfl | assumption) (by first | decide | omega | assumption) (((fr_trans hF1 F5) 327 rfl).trans h327) rfl (by omega) (by first | decide | omega) ?_
    refine wq_top (h7 u (by omega)) ?_
    refine wq_clt rfl (by first | omega | decide | exact Nat.lt_of_le_of_lt Nat.and_le_right (by decide) | exact ⟨by omega, by omega⟩) (by first | omega | decide | exact Nat.lt_of_le_of_lt Nat.and_le_right (by decide) | exact ⟨by omega, by omega⟩) (fun c29 => ?_) (fun c29 => ?_)
    · skip
      refine wq_cN (m := 0) rfl rfl ?_
      refine wq_go rfl (fun _ => rfl) ?_
      refine wq_getf rfl (by first | rfl | assumption) (by first | decide | omega | assumption) (md_o M5) rfl ?_
      refine wq_go rfl (fun _ => rfl) ?_
      refine wq_bald rfl (by first | rfl | assumption) (Or.inr rfl) (by first | decide | omega | assumption) (((fr_trans hF1 F5) 328 rfl).trans h328) rfl (by omega) (by first | decide | omega) ?_
      refine wq_top (h8 u (by omega)) ?_
      refine wq_ceq rfl (by first | omega | decide | exact Nat.lt_of_le_of_lt Nat.and_le_right (by decide) | exact ⟨by omega, by omega⟩) (by first | omega | decide | exact Nat.lt_of_le_of_lt Nat.and_le_right (by decide) | exact ⟨by omega, by omega⟩) (fun c37 => ?_) (fun c37 => ?_)
      · skip
        refine wq_incN rfl rfl rfl ?_
        refine wq_go rfl (fun _ => rfl) ?_
        have hi := ih (u + 1) (by omega) _ _ (fr_trans hF1 F5) (fg_trans hG1 G5) M5 W5
        first | rw [lf_same (by rw [hlv]; exact decide_eq_decide.mpr (by omega))] at hi | rw [lf_diff (by rw [hlv]; exact fun e => by have := decide_eq_decide.mp e; omega)] at hi
        exact wq_lv ⟨(by decide : ([5, 4, 3, 2, 0, 1] : List Nat).Nodup), (lvm (List.mem_of_getElem? (i := 0) rfl) (lvm (List.mem_of_getElem? (i := 1) rfl) (lvm (List.mem_of_getElem? (i := 2) rfl) (lvm (List.mem_of_getElem? (i := 3) rfl) (lvm (List.mem_of_getElem? (i := 4) rfl) (lvm (List.mem_of_getElem? (i := 5) rfl) lvn))))))⟩ hi
      · skip
        refine wq_cN (m := 0) rfl rfl ?_
        refine wq_go rfl (fun _ => rfl) ?_
        refine wq_incN rfl rfl rfl ?_
        refine wq_go rfl (fun _ => rfl) ?_
        have hi := ih (u + 1) (by omega) _ _ (fr_trans hF1 F5) (fg_trans hG1 G5) M5 W5
        first | rw [lf_same (by rw [hlv]; exact decide_eq_decide.mpr (by omega))] at hi | rw [lf_diff (by rw [hlv]; exact fun e => by have := decide_eq_decide.mp e; omega)] at hi
        exact wq_lv ⟨(by decide : ([5, 4, 3, 2, 0, 1] : List Nat).Nodup), (lvm (List.mem_of_getElem? (i := 0) rfl) (lvm (List.mem_of_getElem? (i := 1) rfl) (lvm (List.mem_of_getElem? (i := 2) rfl) (lvm (List.mem_of_getElem? (i := 3) rfl) (lvm (List.mem_of_getElem? (i := 4) rfl) (lvm (List.mem_of_getElem? (i := 5) rfl) lvn))))))⟩ hi
    · skip
      refine wq_cN (m := 1) rfl rfl ?_
      refine wq_go rfl (fun _ => rfl) ?_
      refine wq_go rfl (fun _ => rfl) ?_
      refine wq_getf rfl (by first | rfl | assumption) (by first | decide | omega | assumption) (md_o M5) rfl ?_
      refine wq_go rfl (fun _ => rfl) ?_
      refine wq_bald rfl (by first | rfl | assumption) (Or.inr rfl) (by first | decide | omega | assumption) (((fr_trans hF1 F5) 328 rfl).trans h328) rfl (by omega) (by first | decide | omega) ?_
      refine wq_top (h8 u (by omega)) ?_
      refine wq_ceq rfl (by first | omega | decide | exact Nat.lt_of_le_of_lt Nat.and_le_right (by decide) | exact ⟨by omega, by omega⟩) (by first | omega | decide | exact Nat.lt_of_le_of_lt Nat.and_le_right (by decide) | exact ⟨by omega, by omega⟩) (fun c37 => ?_) (fun c37 => ?_)
      · skip
        refine wq_incN rfl rfl rfl ?_
        refine wq_go rfl (fun _ => rfl) ?_
        have hi := ih (u + 1) (by omega) _ _ (fr_trans hF1 F5) (fg_trans hG1 G5) M5 W5
        first | rw [lf_same (by rw [hlv]; exact decide_eq_decide.mpr (by omega))] at hi | rw [lf_diff (by rw [hlv]; exact fun e => by have := decide_eq_decide.mp e; omega)] at hi
        exact wq_lv ⟨(by decide : ([5, 4, 3, 2, 0, 1] : List Nat).Nodup), (lvm (List.mem_of_getElem? (i := 0) rfl) (lvm (List.mem_of_getElem? (i := 1) rfl) (lvm (List.mem_of_getElem? (i := 2) rfl) (lvm (List.mem_of_getElem? (i := 3) rfl) (lvm (List.mem_of_getElem? (i := 4) rfl) (lvm (List.mem_of_getElem? (i := 5) rfl) lvn))))))⟩ hi
      · skip
        refine wq_cN (m := 0) rfl rfl ?_
        refine wq_go rfl (fun _ => rfl) ?_
        refine wq_incN rfl rfl rfl ?_
        refine wq_go rfl (fun _ => rfl) ?_
        have hi := ih (u + 1) (by omega) _ _ (fr_trans hF1 F5) (fg_trans hG1 G5) M5 W5
        first | rw [lf_same (by rw [hlv]; exact decide_eq_decide.mpr (by omega))] at hi | rw [lf_diff (by rw [hlv]; exact fun e => by have := decide_eq_decide.mp e; omega)] at hi
        exact wq_lv ⟨(by decide : ([5, 4, 3, 2, 0, 1] : List Nat).Nodup), (lvm (List.mem_of_getElem? (i := 0) rfl) (lvm (List.mem_of_getElem? (i := 1) rfl) (lvm (List.mem_of_getElem? (i := 2) rfl) (lvm (List.mem_of_getElem? (i := 3) rfl) (lvm (List.mem_of_getElem? (i := 4) rfl) (lvm (List.mem_of_getElem? (i := 5) rfl) lvn))))))⟩ hi
theorem m_who_o {xs : List Int32} {d : Nat} {σ : Nat → List Value} {Q : Option Value → (Nat → List Value) → Prop} {P : Pl} {L : Nat} {g : Nat → Int32} (hL2 : L < 2) (hP : Pok P) {S : St} (hok : Sok S) {T : Tl} (hTk : Tok P T) {f6 f7 f8 : Nat → Int32} (h326 : σ 326 = arr 20 f6) (h6 : ∀ j, j < Tn T → f6 j = nI (4 * Tc T j + Tt T j)) (h327 : σ 327 = arr 20 f7) (h7 : ∀ j, j < Tn T → f7 j = nI (Ta T j)) (h328 : σ 328 = arr 20 f8) (h8 : ∀ j, j < Tn T → f8 j = nI (Ts T j)) {k : Nat} (hk : k ≤ Tn T)  (K : ∀ σ' g', Fr xR σ σ' → FrG yC g g' → MD P L g' σ' → Q (some (.int (nI (leftN P S T k)))) σ') : ∀ (m u : Nat), m + u = Phd P → ∀ σ1 g1, Fr xR σ σ1 → FrG yC g g1 → MD P L g1 σ1 → NwIs σ1 S → Wq xs (d + 6) ax_cd327 4 [(3, .int (nI u)), (2, .int (nI (bset (lfB P S T k) u))), (0, .ref 287), (1, .int (nI k))] [] σ1 Q := by
  have hP' := hP
  obtain ⟨hP1, hP2, hP3, hP4, hP5, hP6, hP7, hP8, hPv, hPm, hPo, hPw, hPl⟩ := hP'
  have hhr := hok.2.1
  have hTn := hTk.1
  intro m
  induction m with
  | zero =>
    intro u hm σ1 g1 hF1 hG1 hM1 hN1
    refine wq_go rfl (fun _ => rfl) ?_
    refine wq_go rfl (fun _ => rfl) ?_
    refine wq_getf rfl (by first | rfl | assumption) (by first | decide | omega | assumption) (md_o hM1) rfl ?_
    refine wq_go rfl (fun _ => rfl) ?_
    refine wq_getf rfl (by first | rfl | assumption) (by first | decide | omega | assumption) (md_o hM1) rfl ?_
    refine wq_top (md_l hM1) ?_
    refine wq_iald rfl (by first | rfl | assumption) (by first | decide | omega | assumption) (md_c299 hM1) rfl (by omega) (by first | decide | omega) ?_
    refine wq_top (md_m299 hM1) ?_
    refine wq_cge rfl (by first | omega | decide | exact Nat.lt_of_le_of_lt Nat.and_le_right (by decide) | exact ⟨by omega, by omega⟩) (by first | omega | decide | exact Nat.lt_of_le_of_lt Nat.and_le_right (by decide) | exact ⟨by omega, by omega⟩) (fun c10 => ?_) (fun c => absurd (show _ from by omega) c)
    refine wq_go rfl (fun _ => rfl) ?_
    refine wq_iret rfl ?_
    rw [show u = Phd P by omega]
    exact K _ g1 hF1 hG1 hM1
  | succ m ih =>
    intro u hm σ1 g1 hF1 hG1 hM1 hN1
    refine wq_go rfl (fun _ => rfl) ?_
    refine wq_go rfl (fun _ => rfl) ?_
    refine wq_getf rfl (by first | rfl | assumption) (by first | decide | omega | assumption) (md_o hM1) rfl ?_
    refine wq_go rfl (fun _ => rfl) ?_
    refine wq_getf rfl (by first | rfl | assumption) (by first | decide | omega | assumption) (md_o hM1) rfl ?_
    refine wq_top (md_l hM1) ?_
    refine wq_iald rfl (by first | rfl | assumption) (by first | decide | omega | assumption) (md_c299 hM1) rfl (by omega) (by first | decide | omega) ?_
    refine wq_top (md_m299 hM1) ?_
    refine wq_cge rfl (by first | omega | decide | exact Nat.lt_of_le_of_lt Nat.and_le_right (by decide) | exact ⟨by omega, by omega⟩) (by first | omega | decide | exact Nat.lt_of_le_of_lt Nat.and_le_right (by decide) | exact ⟨by omega, by omega⟩) (fun c => absurd c (by omega)) (fun c10 => ?_)
    refine wq_cN (m := 1) rfl rfl ?_
    refine wq_go rfl (fun _ => rfl) ?_
    refine wq_cN (m := 0) rfl rfl ?_
    refine wq_go rfl (fun _ => rfl) ?_
    refine wq_lv ⟨(by decide : ([5, 4, 3, 2, 0, 1] : List Nat).Nodup), (lvm (List.mem_of_getElem? (i := 0) rfl) (lvm (List.mem_of_getElem? (i := 1) rfl) (lvm (List.mem_of_getElem? (i := 2) rfl) (lvm (List.mem_of_getElem? (i := 3) rfl) (lvm (List.mem_of_getElem? (i := 4) rfl) (lvm (List.mem_of_getElem? (i := 5) rfl) lvn))))))⟩ (m_who_i (σ := σ1) (g := g1) (L := L) hL2 hP hok hTk ((hF1 326 rfl).trans h326) h6 ((hF1 327 rfl).trans h327) h7 ((hF1 328 rfl).trans h328) h8 hk (h := u) (by omega) (fun σ2 g2 F2 G2 M2 N2 => ?_) k 0 rfl σ1 g1 (fr_refl _ _) (fg_refl _ _) hM1 hN1)
    refine wq_go rfl (fun _ => rfl) ?_
    have hbb := bN_le (lfB P S T k u)
    refine wq_zeq rfl (by first | omega | decide | exact Nat.lt_of_le_of_lt Nat.and_le_right (by decide) | exact ⟨by omega, by omega⟩) (fun c43 => ?_) (fun c43 => ?_)
    · skip
      refine wq_incN rfl rfl rfl ?_
      refine wq_go rfl (fun _ => rfl) ?_
      have hi := ih (u + 1) (by omega) _ _ (fr_trans hF1 F2) (fg_trans hG1 G2) M2 N2
      first | rw [bset_t (f := lfB P S T k) (bN_t (by omega))] at hi | rw [bset_f0 (f := lfB P S T k) (bN_f (by omega))] at hi
      exact wq_lv ⟨(by decide : ([3, 4, 2, 0, 1] : List Nat).Nodup), (lvm (List.mem_of_getElem? (i := 0) rfl) (lvm (List.mem_of_getElem? (i := 2) rfl) (lvm (List.mem_of_getElem? (i := 3) rfl) (lvm (List.mem_of_getElem? (i := 4) rfl) lvn))))⟩ hi
    · skip
      refine wq_go rfl (fun _ => rfl) ?_
      refine wq_cN (m := 1) rfl rfl ?_
      refine wq_go rfl (fun _ => rfl) ?_
      refine wq_shl1 rfl (by first | decide | omega) ?_
      refine wq_orN rfl ?_
      refine wq_go rfl (fun _ => rfl) ?_
      refine wq_incN rfl rfl rfl ?_
      refine wq_go rfl (fun _ => rfl) ?_
      have hi := ih (u + 1) (by omega) _ _ (fr_trans hF1 F2) (fg_trans hG1 G2) M2 N2
      first | rw [bset_t (f := lfB P S T k) (bN_t (by omega))] at hi | rw [bset_f0 (f := lfB P S T k) (bN_f (by omega))] at hi
      exact wq_lv ⟨(by decide : ([3, 2, 4, 0, 1] : List Nat).Nodup), (lvm (List.mem_of_getElem? (i := 0) rfl) (lvm (List.mem_of_getElem? (i := 1) rfl) (lvm (List.mem_of_getElem? (i := 3) rfl) (lvm (List.mem_of_getElem? (i := 4) rfl) lvn))))⟩ hi
theorem m_whoBits {xs : List Int32} {d : Nat} {σ : Nat → List Value} {Q : Option Value → (Nat → List Value) → Prop} {P : Pl} {L : Nat} {g : Nat → Int32} (hM : MD P L g σ) {S : St} (hok : Sok S) (hN : NwIs σ S) {T : Tl} (hTk : Tok P T) {f6 f7 f8 : Nat → Int32} (h326 : σ 326 = arr 20 f6) (h6 : ∀ j, j < Tn T → f6 j = nI (4 * Tc T j + Tt T j)) (h327 : σ 327 = arr 20 f7) (h7 : ∀ j, j < Tn T → f7 j = nI (Ta T j)) (h328 : σ 328 = arr 20 f8) (h8 : ∀ j, j < Tn T → f8 j = nI (Ts T j)) {k : Nat} (hk : k ≤ Tn T)  (K : ∀ σ' g', Fr xR σ σ' → FrG yC g g' → MD P L g' σ' → Q (some (.int (nI (leftN P S T k)))) σ') : Wq xs (d + 6) ax_cd327 0 [(0, .ref 287), (1, .int (nI k))] [] σ Q := by
  have hL2 := md_l2 hM
  obtain ⟨hP1, hP2, hP3, hP4, hP5, hP6, hP7, hP8, hPv, hPm, hPo, hPw, hPl⟩ := md_pok hM
  refine wq_cN (m := 0) rfl rfl ?_
  refine wq_go rfl (fun _ => rfl) ?_
  refine wq_cN (m := 0) rfl rfl ?_
  refine wq_go rfl (fun _ => rfl) ?_
  exact m_who_o hL2 (md_pok hM) hok hTk h326 h6 h327 h7 h328 h8 hk K (Phd P) 0 rfl σ g (fr_refl _ _) (fg_refl _ _) hM hN
theorem cn_t {l : Nat} {f : Nat → Bool} {u : Nat} (h1 : l / 2 ^ u &&& 1 = 1) (h2 : f u = true) : sumF (fun h => if (l.testBit h && f h) = true then 1 else 0) (u + 1) = sumF (fun h => if (l.testBit h && f h) = true then 1 else 0) u + 1 := by
  have : l.testBit u = true := tb1 (by omega)
  simp [sumF, this, h2]
theorem cn_f1 {l : Nat} {f : Nat → Bool} {u : Nat} (h1 : ¬ l / 2 ^ u &&& 1 = 1) : sumF (fun h => if (l.testBit h && f h) = true then 1 else 0) (u + 1) = sumF (fun h => if (l.testBit h && f h) = true then 1 else 0) u := by
  have h3 : l / 2 ^ u &&& 1 ≤ 1 := Nat.and_le_right
  have : l.testBit u = false := tb0 (by omega)
  simp [sumF, this]
theorem cn_f2 {l : Nat} {f : Nat → Bool} {u : Nat} (h2 : f u = false) : sumF (fun h => if (l.testBit h && f h) = true then 1 else 0) (u + 1) = sumF (fun h => if (l.testBit h && f h) = true then 1 else 0) u := by
  simp [sumF, h2]
theorem m_look_i {xs : List Int32} {d : Nat} {σ : Nat → List Value} {Q : Option Value → (Nat → List Value) → Prop} {P : Pl} {L : Nat} {g : Nat → Int32} (hL2 : L < 2) (hP : Pok P) {S : St} (hok : Sok S) {k a l q z5 : Nat} {x4 : Int32} (hl : l < 32) (ha : a ≤ 999) (hq : q < 16) (hqc : q / 4 < Pch P)  (K : ∀ σ' g', Fr xR σ σ' → FrG yC g g' → MD P L g' σ' → NwIs σ' S → Wq xs (d + 6) ax_cd330 61 [(7, .int (nI (sumF (fun h => if (l.testBit h && lvB P S (q / 4) (q % 4) a h) = true then 1 else 0) (Phd P)))), (6, .int (nI q)), (5, .int (nI z5)), (4, .int x4), (3, .int (nI l)), (0, .ref 287), (1, .int (nI k)), (2, .int (nI a))] [] σ' Q) : ∀ (m u : Nat), m + u = Phd P → ∀ σ1 g1, Fr xR σ σ1 → FrG yC g g1 → MD P L g1 σ1 → NwIs σ1 S → Wq xs (d + 6) ax_cd330 38 [(8, .int (nI u)), (7, .int (nI (sumF (fun h => if (l.testBit h && lvB P S (q / 4) (q % 4) a h) = true then 1 else 0) u))), (6, .int (nI q)), (5, .int (nI z5)), (4, .int x4), (3, .int (nI l)), (0, .ref 287), (1, .int (nI k)), (2, .int (nI a))] [] σ1 Q := by
  have hP' := hP
  obtain ⟨hP1, hP2, hP3, hP4, hP5, hP6, hP7, hP8, hPv, hPm, hPo, hPw, hPl⟩ := hP'
  have hhr := hok.2.1
  intro m
  induction m with
  | zero =>
    intro u hm σ1 g1 hF1 hG1 hM1 hN1
    refine wq_go rfl (fun _ => rfl) ?_
    refine wq_go rfl (fun _ => rfl) ?_
    refine wq_getf rfl (by first | rfl | assumption) (by first | decide | omega | assumption) (md_o hM1) rfl ?_
    refine wq_go rfl (fun _ => rfl) ?_
    refine wq_getf rfl (by first | rfl | assumption) (by first | decide | omega | assumption) (md_o hM1) rfl ?_
    refine wq_top (md_l hM1) ?_
    refine wq_iald rfl (by first | rfl | assumption) (by first | decide | omega | assumption) (md_c299 hM1) rfl (by omega) (by first | decide | omega) ?_
    refine wq_top (md_m299 hM1) ?_
    refine wq_cge rfl (by first | omega | decide | exact Nat.lt_of_le_of_lt Nat.and_le_right (by decide) | exact ⟨by omega, by omega⟩) (by first | omega | decide | exact Nat.lt_of_le_of_lt Nat.and_le_right (by decide) | exact ⟨by omega, by omega⟩) (fun c44 => ?_) (fun c => absurd (show _ from by omega) c)
    rw [show u = Phd P by omega]
    exact wq_lv ⟨(by decide : ([8, 7, 6, 5, 4, 3, 0, 1, 2] : List Nat).Nodup), (lvm (List.mem_of_getElem? (i := 1) rfl) (lvm (List.mem_of_getElem? (i := 2) rfl) (lvm (List.mem_of_getElem? (i := 3) rfl) (lvm (List.mem_of_getElem? (i := 4) rfl) (lvm (List.mem_of_getElem? (i := 5) rfl) (lvm (List.mem_of_getElem? (i := 6) rfl) (lvm (List.mem_of_getElem? (i := 7) rfl) (lvm (List.mem_of_getElem? (i := 8) rfl) lvn))))))))⟩ (K σ1 g1 hF1 hG1 hM1 hN1)
  | succ m ih =>
    intro u hm σ1 g1 hF1 hG1 hM1 hN1
    have hth := then_le P hok (h := u) (q := q) (by omega) hq
    have h31 : l / 2 ^ u &&& 1 ≤ 1 := Nat.and_le_right
    refine wq_go rfl (fun _ => rfl) ?_
    refine wq_go rfl (fun _ => rfl) ?_
    refine wq_getf rfl (by first | rfl | assumption) (by first | decide | omega | assumption) (md_o hM1) rfl ?_
    refine wq_go rfl (fun _ => rfl) ?_
    refine wq_getf rfl (by first | rfl | assumption) (by first | decide | omega | assumption) (md_o hM1) rfl ?_
    refine wq_top (md_l hM1) ?_
    refine wq_iald rfl (by first | rfl | assumption) (by first | decide | omega | assumption) (md_c299 hM1) rfl (by omega) (by first | decide | omega) ?_
    refine wq_top (md_m299 hM1) ?_
    refine wq_cge rfl (by first | omega | decide | exact Nat.lt_of_le_of_lt Nat.and_le_right (by decide) | exact ⟨by omega, by omega⟩) (by first | omega | decide | exact Nat.lt_of_le_of_lt Nat.and_le_right (by decide) | exact ⟨by omega, by omega⟩) (fun c => absurd c (by omega)) (fun c44 => ?_)
    refine wq_go rfl (fun _ => rfl) ?_
    refine wq_go rfl (fun _ => rfl) ?_
    refine wq_shrN rfl (by first | decide | omega) (by first | decide | omega) ?_
    refine wq_cN (m := 1) rfl rfl ?_
    refine wq_andN rfl ?_
    refine wq_cN (m := 1) rfl rfl ?_
    refine wq_cne rfl (by first | omega | decide | exact Nat.lt_of_le_of_lt Nat.and_le_right (by decide) | exact ⟨by omega, by omega⟩) (by first | omega | decide | exact Nat.lt_of_le_of_lt Nat.and_le_right (by decide) | exact ⟨by omega, by omega⟩) (fun c51 => ?_) (fun c51 => ?_)
    · skip
      refine wq_incN rfl rfl rfl ?_
      refine wq_go rfl (fun _ => rfl) ?_
      have hi := ih (u + 1) (by omega) _ _ hF1 hG1 hM1 hN1
      first | rw [cn_f1 (by omega)] at hi | rw [cn_t (f := lvB P S (q / 4) (q % 4) a) (by omega) (by rw [← then_lv P hok (by omega) hq]; exact decide_eq_true (by omega))] at hi | rw [cn_f2 (f := lvB P S (q / 4) (q % 4) a) (by rw [← then_lv P hok (by omega) hq]; exact decide_eq_false (by omega))] at hi
      exact wq_lv ⟨(by decide : ([8, 7, 6, 5, 4, 3, 0, 1, 2] : List Nat).Nodup), (lvm (List.mem_of_getElem? (i := 0) rfl) (lvm (List.mem_of_getElem? (i := 1) rfl) (lvm (List.mem_of_getElem? (i := 2) rfl) (lvm (List.mem_of_getElem? (i := 3) rfl) (lvm (List.mem_of_getElem? (i := 4) rfl) (lvm (List.mem_of_getElem? (i := 5) rfl) (lvm (List.mem_of_getElem? (i := 6) rfl) (lvm (List.mem_of_getElem? (i := 7) rfl) (lvm (List.mem_of_getElem? (i := 8) rfl) lvn)))))))))⟩ hi
    · skip
      refine wq_go rfl (fun _ => rfl) ?_
      refine wq_go rfl (fun _ => rfl) ?_
      refine wq_go rfl (fun _ => rfl) ?_
      refine wq_callV rfl rfl (by first | rfl | assumption) (by first | decide | omega | assumption) (Nat.le_of_ble_eq_true rfl) (Nat.le_of_ble_eq_true rfl) rfl rfl ?_
      refine m_hasThen hM1 hok hN1 (h := u) (by omega) hqc (fun σ5 g5 F5 G5 M5 => ?_)
      have W5 : NwIs σ5 S := (F5 322 rfl).trans hN1
      refine wq_go rfl (fun _ => rfl) ?_
      refine wq_clt rfl (by first | omega | decide | exact Nat.lt_of_le_of_lt Nat.and_le_right (by decide) | exact ⟨by omega, by omega⟩) (by first | omega | decide | exact Nat.lt_of_le_of_lt Nat.and_le_right (by decide) | exact ⟨by omega, by omega⟩) (fun c57 => ?_) (fun c57 => ?_)
      · skip
        refine wq_incN rfl rfl rfl ?_
        refine wq_go rfl (fun _ => rfl) ?_
        have hi := ih (u + 1) (by omega) _ _ (fr_trans hF1 F5) (fg_trans hG1 G5) M5 W5
        first | rw [cn_f1 (by omega)] at hi | rw [cn_t (f := lvB P S (q / 4) (q % 4) a) (by omega) (by rw [← then_lv P hok (by omega) hq]; exact decide_eq_true (by omega))] at hi | rw [cn_f2 (f := lvB P S (q / 4) (q % 4) a) (by rw [← then_lv P hok (by omega) hq]; exact decide_eq_false (by omega))] at hi
        exact wq_lv ⟨(by decide : ([8, 7, 6, 5, 4, 3, 0, 1, 2] : List Nat).Nodup), (lvm (List.mem_of_getElem? (i := 0) rfl) (lvm (List.mem_of_getElem? (i := 1) rfl) (lvm (List.mem_of_getElem? (i := 2) rfl) (lvm (List.mem_of_getElem? (i := 3) rfl) (lvm (List.mem_of_getElem? (i := 4) rfl) (lvm (List.mem_of_getElem? (i := 5) rfl) (lvm (List.mem_of_getElem? (i := 6) rfl) (lvm (List.mem_of_getElem? (i := 7) rfl) (lvm (List.mem_of_getElem? (i := 8) rfl) lvn)))))))))⟩ hi
      · skip
        refine wq_incN rfl rfl rfl ?_
        refine wq_incN rfl rfl rfl ?_
        refine wq_go rfl (fun _ => rfl) ?_
        have hi := ih (u + 1) (by omega) _ _ (fr_trans hF1 F5) (fg_trans hG1 G5) M5 W5
        first | rw [cn_f1 (by omega)] at hi | rw [cn_t (f := lvB P S (q / 4) (q % 4) a) (by omega) (by rw [← then_lv P hok (by omega) hq]; exact decide_eq_true (by omega))] at hi | rw [cn_f2 (f := lvB P S (q / 4) (q % 4) a) (by rw [← then_lv P hok (by omega) hq]; exact decide_eq_false (by omega))] at hi
        exact wq_lv ⟨(by decide : ([8, 7, 6, 5, 4, 3, 0, 1, 2] : List Nat).Nodup), (lvm (List.mem_of_getElem? (i := 0) rfl) (lvm (List.mem_of_getElem? (i := 1) rfl) (lvm (List.mem_of_getElem? (i := 2) rfl) (lvm (List.mem_of_getElem? (i := 3) rfl) (lvm (List.mem_of_getElem? (i := 4) rfl) (lvm (List.mem_of_getElem? (i := 5) rfl) (lvm (List.mem_of_getElem? (i := 6) rfl) (lvm (List.mem_of_getElem? (i := 7) rfl) (lvm (List.mem_of_getElem? (i := 8) rfl) lvn)))))))))⟩ hi
theorem m_look_o {xs : List Int32} {d : Nat} {σ : Nat → List Value} {Q : Option Value → (Nat → List Value) → Prop} {P : Pl} {L : Nat} {g : Nat → Int32} (hL2 : L < 2) (hP : Pok P) {S : St} (hok : Sok S) {k a l : Nat} (hl : l < 32) (hl0 : ¬ l = 0) (ha : a ≤ 999) (hlh : ∀ j, Phd P ≤ j → l.testBit j = false)  (K : ∀ σ' g', Fr xR σ σ' → FrG yC g g' → MD P L g' σ' → Q (some (.int (bqI (am (wstZ P S l a) (List.range (4 * Pch P)))))) σ') : ∀ (m u : Nat), m + u = 4 * Pch P → ∀ σ1 g1, Fr xR σ σ1 → FrG yC g g1 → MD P L g1 σ1 → NwIs σ1 S → Wq xs (d + 7) ax_cd330 23 [(6, .int (nI u)), (5, .int (nI (oV (wstN P S l a) (am (wstZ P S l a) (List.range u))))), (4, .int (bqI (am (wstZ P S l a) (List.range u)))), (3, .int (nI l)), (0, .ref 287), (1, .int (nI k)), (2, .int (nI a))] [] σ1 Q := by
  have hP' := hP
  obtain ⟨hP1, hP2, hP3, hP4, hP5, hP6, hP7, hP8, hPv, hPm, hPo, hPw, hPl⟩ := hP'
  have hhr := hok.2.1
  intro m
  induction m with
  | zero =>
    intro u hm σ1 g1 hF1 hG1 hM1 hN1
    refine wq_go rfl (fun _ => rfl) ?_
    refine wq_cN (m := 4) rfl rfl ?_
    refine wq_go rfl (fun _ => rfl) ?_
    refine wq_getf rfl (by first | rfl | assumption) (by first | decide | omega | assumption) (md_o hM1) rfl ?_
    refine wq_go rfl (fun _ => rfl) ?_
    refine wq_getf rfl (by first | rfl | assumption) (by first | decide | omega | assumption) (md_o hM1) rfl ?_
    refine wq_top (md_l hM1) ?_
    refine wq_iald rfl (by first | rfl | assumption) (by first | decide | omega | assumption) (md_c297 hM1) rfl (by omega) (by first | decide | omega) ?_
    refine wq_top (md_m297 hM1) ?_
    refine wq_mulN rfl ?_
    refine wq_cge rfl (by first | omega | decide | exact Nat.lt_of_le_of_lt Nat.and_le_right (by decide) | exact ⟨by omega, by omega⟩) (by first | omega | decide | exact Nat.lt_of_le_of_lt Nat.and_le_right (by decide) | exact ⟨by omega, by omega⟩) (fun c31 => ?_) (fun c => absurd (show _ from by omega) c)
    refine wq_go rfl (fun _ => rfl) ?_
    refine wq_iret rfl ?_
    rw [show u = 4 * Pch P by omega]
    exact K _ g1 hF1 hG1 hM1
  | succ m ih =>
    intro u hm σ1 g1 hF1 hG1 hM1 hN1
    cases hb0 : am (wstZ P S l a) (List.range u) with
    | none =>
      refine wq_go rfl (fun _ => rfl) ?_
      refine wq_cN (m := 4) rfl rfl ?_
      refine wq_go rfl (fun _ => rfl) ?_
      refine wq_getf rfl (by first | rfl | assumption) (by first | decide | omega | assumption) (md_o hM1) rfl ?_
      refine wq_go rfl (fun _ => rfl) ?_
      refine wq_getf rfl (by first | rfl | assumption) (by first | decide | omega | assumption) (md_o hM1) rfl ?_
      refine wq_top (md_l hM1) ?_
      refine wq_iald rfl (by first | rfl | assumption) (by first | decide | omega | assumption) (md_c297 hM1) rfl (by omega) (by first | decide | omega) ?_
      refine wq_top (md_m297 hM1) ?_
      refine wq_mulN rfl ?_
      refine wq_cge rfl (by first | omega | decide | exact Nat.lt_of_le_of_lt Nat.and_le_right (by decide) | exact ⟨by omega, by omega⟩) (by first | omega | decide | exact Nat.lt_of_le_of_lt Nat.and_le_right (by decide) | exact ⟨by omega, by omega⟩) (fun c => absurd c (by omega)) (fun c31 => ?_)
      refine wq_go rfl (fun _ => rfl) ?_
      refine wq_zeq rfl (by first | omega | decide | exact Nat.lt_of_le_of_lt Nat.and_le_right (by decide) | exact ⟨by omega, by omega⟩) (fun c => absurd c (by omega)) (fun c33 => ?_)
      refine wq_cN (m := 0) rfl rfl ?_
      refine wq_go rfl (fun _ => rfl) ?_
      refine wq_cN (m := 0) rfl rfl ?_
      refine wq_go rfl (fun _ => rfl) ?_
      refine wq_lv ⟨(by decide : ([8, 7, 6, 5, 4, 3, 0, 1, 2] : List Nat).Nodup), (lvm (List.mem_of_getElem? (i := 0) rfl) (lvm (List.mem_of_getElem? (i := 1) rfl) (lvm (List.mem_of_getElem? (i := 2) rfl) (lvm (List.mem_of_getElem? (i := 3) rfl) (lvm (List.mem_of_getElem? (i := 4) rfl) (lvm (List.mem_of_getElem? (i := 5) rfl) (lvm (List.mem_of_getElem? (i := 6) rfl) (lvm (List.mem_of_getElem? (i := 7) rfl) (lvm (List.mem_of_getElem? (i := 8) rfl) lvn)))))))))⟩ (m_look_i (σ := σ1) (g := g1) (L := L) hL2 hP hok hl ha (q := u) (by omega) (by omega) (fun σ2 g2 F2 G2 M2 N2 => ?_) (Phd P) 0 rfl σ1 g1 (fr_refl _ _) (fg_refl _ _) hM1 hN1)
      have hcp := cnt_pc l (lvB P S (u / 4) (u % 4) a) (Phd P) hP2 hlh
      have hsp := pc_split l (bset (lvB P S (u / 4) (u % 4) a) (Phd P))
      have hwu : wstN P S l a u = max (pc (l &&& bset (lvB P S (u / 4) (u % 4) a) (Phd P))) (pc (l &&& (l ^^^ bset (lvB P S (u / 4) (u % 4) a) (Phd P)))) := rfl
      have hpl := pc_le l
      refine wq_go rfl (fun _ => rfl) ?_
      refine wq_go rfl (fun _ => rfl) ?_
      refine wq_callS rfl (Nat.le_of_ble_eq_true rfl) rfl (Nat.le_of_ble_eq_true rfl) (Nat.le_of_ble_eq_true rfl) rfl rfl ?_
      refine m_bits hl ?_
      refine wq_go rfl (fun _ => rfl) ?_
      refine wq_subN rfl (by omega) ?_
      refine wq_cle rfl (by first | omega | decide | exact Nat.lt_of_le_of_lt Nat.and_le_right (by decide) | exact ⟨by omega, by omega⟩) (by first | omega | decide | exact Nat.lt_of_le_of_lt Nat.and_le_right (by decide) | exact ⟨by omega, by omega⟩) (fun c66 => ?_) (fun c66 => ?_)
      · skip
        refine wq_go rfl (fun _ => rfl) ?_
        refine wq_callS rfl (Nat.le_of_ble_eq_true rfl) rfl (Nat.le_of_ble_eq_true rfl) (Nat.le_of_ble_eq_true rfl) rfl rfl ?_
        refine m_bits hl ?_
        refine wq_go rfl (fun _ => rfl) ?_
        refine wq_subN rfl (by omega) ?_
        refine wq_top (show _ = nI (wstN P S l a u) from congrArg nI (by omega)) ?_
        refine wq_go rfl (fun _ => rfl) ?_
        refine wq_go rfl (fun _ => rfl) ?_
        refine wq_ylt rfl (show (_ : Int32) = zI (-2) from by decide) (by first | omega | decide | exact Nat.lt_of_le_of_lt Nat.and_le_right (by decide) | exact ⟨by omega, by omega⟩) (fun c75 => ?_) (fun c => absurd (show _ from by omega) c)
        refine wq_cN (m := 10) rfl rfl ?_
        refine wq_go rfl (fun _ => rfl) ?_
        refine wq_cN (m := 4) rfl rfl ?_
        refine wq_divN rfl (by first | decide | omega) (by first | decide | omega) (by first | decide | omega) ?_
        refine wq_mulN rfl ?_
        refine wq_go rfl (fun _ => rfl) ?_
        refine wq_cN (m := 4) rfl rfl ?_
        refine wq_remN rfl (by first | decide | omega) (by first | decide | omega) (by first | decide | omega) ?_
        refine wq_addN rfl ?_
        refine wq_go rfl (fun _ => rfl) ?_
        refine wq_go rfl (fun _ => rfl) ?_
        refine wq_go rfl (fun _ => rfl) ?_
        refine wq_incN rfl rfl rfl ?_
        refine wq_go rfl (fun _ => rfl) ?_
        have hi := ih (u + 1) (by omega) _ _ (fr_trans hF1 F2) (fg_trans hG1 G2) M2 N2
        rw [List.range_succ] at hi
        first | rw [am_n (f := (wstZ P S l a)) u hb0] at hi | rw [am_g (f := (wstZ P S l a)) u hb0 (by simp only [wstZ]; omega)] at hi | rw [am_l (f := (wstZ P S l a)) u hb0 (by simp only [wstZ]; omega)] at hi
        exact wq_lv ⟨(by decide : ([6, 5, 4, 8, 7, 3, 0, 1, 2] : List Nat).Nodup), (lvm (List.mem_of_getElem? (i := 0) rfl) (lvm (List.mem_of_getElem? (i := 1) rfl) (lvm (List.mem_of_getElem? (i := 2) rfl) (lvm (List.mem_of_getElem? (i := 5) rfl) (lvm (List.mem_of_getElem? (i := 6) rfl) (lvm (List.mem_of_getElem? (i := 7) rfl) (lvm (List.mem_of_getElem? (i := 8) rfl) lvn)))))))⟩ hi
      · skip
        refine wq_go rfl (fun _ => rfl) ?_
        refine wq_go rfl (fun _ => rfl) ?_
        refine wq_top (show _ = nI (wstN P S l a u) from congrArg nI (by omega)) ?_
        refine wq_go rfl (fun _ => rfl) ?_
        refine wq_go rfl (fun _ => rfl) ?_
        refine wq_ylt rfl (show (_ : Int32) = zI (-2) from by decide) (by first | omega | decide | exact Nat.lt_of_le_of_lt Nat.and_le_right (by decide) | exact ⟨by omega, by omega⟩) (fun c75 => ?_) (fun c => absurd (show _ from by omega) c)
        refine wq_cN (m := 10) rfl rfl ?_
        refine wq_go rfl (fun _ => rfl) ?_
        refine wq_cN (m := 4) rfl rfl ?_
        refine wq_divN rfl (by first | decide | omega) (by first | decide | omega) (by first | decide | omega) ?_
        refine wq_mulN rfl ?_
        refine wq_go rfl (fun _ => rfl) ?_
        refine wq_cN (m := 4) rfl rfl ?_
        refine wq_remN rfl (by first | decide | omega) (by first | decide | omega) (by first | decide | omega) ?_
        refine wq_addN rfl ?_
        refine wq_go rfl (fun _ => rfl) ?_
        refine wq_go rfl (fun _ => rfl) ?_
        refine wq_go rfl (fun _ => rfl) ?_
        refine wq_incN rfl rfl rfl ?_
        refine wq_go rfl (fun _ => rfl) ?_
        have hi := ih (u + 1) (by omega) _ _ (fr_trans hF1 F2) (fg_trans hG1 G2) M2 N2
        rw [List.range_succ] at hi
        first | rw [am_n (f := (wstZ P S l a)) u hb0] at hi | rw [am_g (f := (wstZ P S l a)) u hb0 (by simp only [wstZ]; omega)] at hi | rw [am_l (f := (wstZ P S l a)) u hb0 (by simp only [wstZ]; omega)] at hi
        exact wq_lv ⟨(by decide : ([6, 5, 4, 8, 7, 3, 0, 1, 2] : List Nat).Nodup), (lvm (List.mem_of_getElem? (i := 0) rfl) (lvm (List.mem_of_getElem? (i := 1) rfl) (lvm (List.mem_of_getElem? (i := 2) rfl) (lvm (List.mem_of_getElem? (i := 5) rfl) (lvm (List.mem_of_getElem? (i := 6) rfl) (lvm (List.mem_of_getElem? (i := 7) rfl) (lvm (List.mem_of_getElem? (i := 8) rfl) lvn)))))))⟩ hi
    | some b =>
      have hbn := am_rlt hb0
      have hwb := wst_le P S l a b
      have hwu5 := wst_le P S l a u
      simp only [oV]
      refine wq_go rfl (fun _ => rfl) ?_
      refine wq_cN (m := 4) rfl rfl ?_
      refine wq_go rfl (fun _ => rfl) ?_
      refine wq_getf rfl (by first | rfl | assumption) (by first | decide | omega | assumption) (md_o hM1) rfl ?_
      refine wq_go rfl (fun _ => rfl) ?_
      refine wq_getf rfl (by first | rfl | assumption) (by first | decide | omega | assumption) (md_o hM1) rfl ?_
      refine wq_top (md_l hM1) ?_
      refine wq_iald rfl (by first | rfl | assumption) (by first | decide | omega | assumption) (md_c297 hM1) rfl (by omega) (by first | decide | omega) ?_
      refine wq_top (md_m297 hM1) ?_
      refine wq_mulN rfl ?_
      refine wq_cge rfl (by first | omega | decide | exact Nat.lt_of_le_of_lt Nat.and_le_right (by decide) | exact ⟨by omega, by omega⟩) (by first | omega | decide | exact Nat.lt_of_le_of_lt Nat.and_le_right (by decide) | exact ⟨by omega, by omega⟩) (fun c => absurd c (by omega)) (fun c31 => ?_)
      refine wq_go rfl (fun _ => rfl) ?_
      refine wq_zeq rfl (by first | omega | decide | exact Nat.lt_of_le_of_lt Nat.and_le_right (by decide) | exact ⟨by omega, by omega⟩) (fun c => absurd c (by omega)) (fun c33 => ?_)
      refine wq_cN (m := 0) rfl rfl ?_
      refine wq_go rfl (fun _ => rfl) ?_
      refine wq_cN (m := 0) rfl rfl ?_
      refine wq_go rfl (fun _ => rfl) ?_
      refine wq_lv ⟨(by decide : ([8, 7, 6, 5, 4, 3, 0, 1, 2] : List Nat).Nodup), (lvm (List.mem_of_getElem? (i := 0) rfl) (lvm (List.mem_of_getElem? (i := 1) rfl) (lvm (List.mem_of_getElem? (i := 2) rfl) (lvm (List.mem_of_getElem? (i := 3) rfl) (lvm (List.mem_of_getElem? (i := 4) rfl) (lvm (List.mem_of_getElem? (i := 5) rfl) (lvm (List.mem_of_getElem? (i := 6) rfl) (lvm (List.mem_of_getElem? (i := 7) rfl) (lvm (List.mem_of_getElem? (i := 8) rfl) lvn)))))))))⟩ (m_look_i (σ := σ1) (g := g1) (L := L) hL2 hP hok hl ha (q := u) (by omega) (by omega) (fun σ2 g2 F2 G2 M2 N2 => ?_) (Phd P) 0 rfl σ1 g1 (fr_refl _ _) (fg_refl _ _) hM1 hN1)
      have hcp := cnt_pc l (lvB P S (u / 4) (u % 4) a) (Phd P) hP2 hlh
      have hsp := pc_split l (bset (lvB P S (u / 4) (u % 4) a) (Phd P))
      have hwu : wstN P S l a u = max (pc (l &&& bset (lvB P S (u / 4) (u % 4) a) (Phd P))) (pc (l &&& (l ^^^ bset (lvB P S (u / 4) (u % 4) a) (Phd P)))) := rfl
      have hpl := pc_le l
      refine wq_go rfl (fun _ => rfl) ?_
      refine wq_go rfl (fun _ => rfl) ?_
      refine wq_callS rfl (Nat.le_of_ble_eq_true rfl) rfl (Nat.le_of_ble_eq_true rfl) (Nat.le_of_ble_eq_true rfl) rfl rfl ?_
      refine m_bits hl ?_
      refine wq_go rfl (fun _ => rfl) ?_
      refine wq_subN rfl (by omega) ?_
      refine wq_cle rfl (by first | omega | decide | exact Nat.lt_of_le_of_lt Nat.and_le_right (by decide) | exact ⟨by omega, by omega⟩) (by first | omega | decide | exact Nat.lt_of_le_of_lt Nat.and_le_right (by decide) | exact ⟨by omega, by omega⟩) (fun c66 => ?_) (fun c66 => ?_)
      · skip
        refine wq_go rfl (fun _ => rfl) ?_
        refine wq_callS rfl (Nat.le_of_ble_eq_true rfl) rfl (Nat.le_of_ble_eq_true rfl) (Nat.le_of_ble_eq_true rfl) rfl rfl ?_
        refine m_bits hl ?_
        refine wq_go rfl (fun _ => rfl) ?_
        refine wq_subN rfl (by omega) ?_
        refine wq_top (show _ = nI (wstN P S l a u) from congrArg nI (by omega)) ?_
        refine wq_go rfl (fun _ => rfl) ?_
        refine wq_go rfl (fun _ => rfl) ?_
        refine wq_zlt rfl (by first | omega | decide | exact Nat.lt_of_le_of_lt Nat.and_le_right (by decide) | exact ⟨by omega, by omega⟩) (fun c => absurd c (by omega)) (fun c75 => ?_)
        refine wq_go rfl (fun _ => rfl) ?_
        refine wq_go rfl (fun _ => rfl) ?_
        refine wq_clt rfl (by first | omega | decide | exact Nat.lt_of_le_of_lt Nat.and_le_right (by decide) | exact ⟨by omega, by omega⟩) (by first | omega | decide | exact Nat.lt_of_le_of_lt Nat.and_le_right (by decide) | exact ⟨by omega, by omega⟩) (fun c78 => ?_) (fun c78 => ?_)
        · skip
          refine wq_cN (m := 10) rfl rfl ?_
          refine wq_go rfl (fun _ => rfl) ?_
          refine wq_cN (m := 4) rfl rfl ?_
          refine wq_divN rfl (by first | decide | omega) (by first | decide | omega) (by first | decide | omega) ?_
          refine wq_mulN rfl ?_
          refine wq_go rfl (fun _ => rfl) ?_
          refine wq_cN (m := 4) rfl rfl ?_
          refine wq_remN rfl (by first | decide | omega) (by first | decide | omega) (by first | decide | omega) ?_
          refine wq_addN rfl ?_
          refine wq_go rfl (fun _ => rfl) ?_
          refine wq_go rfl (fun _ => rfl) ?_
          refine wq_go rfl (fun _ => rfl) ?_
          refine wq_incN rfl rfl rfl ?_
          refine wq_go rfl (fun _ => rfl) ?_
          have hi := ih (u + 1) (by omega) _ _ (fr_trans hF1 F2) (fg_trans hG1 G2) M2 N2
          rw [List.range_succ] at hi
          first | rw [am_n (f := (wstZ P S l a)) u hb0] at hi | rw [am_g (f := (wstZ P S l a)) u hb0 (by simp only [wstZ]; omega)] at hi | rw [am_l (f := (wstZ P S l a)) u hb0 (by simp only [wstZ]; omega)] at hi
          exact wq_lv ⟨(by decide : ([6, 5, 4, 8, 7, 3, 0, 1, 2] : List Nat).Nodup), (lvm (List.mem_of_getElem? (i := 0) rfl) (lvm (List.mem_of_getElem? (i := 1) rfl) (lvm (List.mem_of_getElem? (i := 2) rfl) (lvm (List.mem_of_getElem? (i := 5) rfl) (lvm (List.mem_of_getElem? (i := 6) rfl) (lvm (List.mem_of_getElem? (i := 7) rfl) (lvm (List.mem_of_getElem? (i := 8) rfl) lvn)))))))⟩ hi
        · skip
          refine wq_go rfl (fun _ => rfl) ?_
          refine wq_incN rfl rfl rfl ?_
          refine wq_go rfl (fun _ => rfl) ?_
          have hi := ih (u + 1) (by omega) _ _ (fr_trans hF1 F2) (fg_trans hG1 G2) M2 N2
          rw [List.range_succ] at hi
          first | rw [am_n (f := (wstZ P S l a)) u hb0] at hi | rw [am_g (f := (wstZ P S l a)) u hb0 (by simp only [wstZ]; omega)] at hi | rw [am_l (f := (wstZ P S l a)) u hb0 (by simp only [wstZ]; omega)] at hi
          exact wq_lv ⟨(by decide : ([6, 8, 7, 5, 4, 3, 0, 1, 2] : List Nat).Nodup), (lvm (List.mem_of_getElem? (i := 0) rfl) (lvm (List.mem_of_getElem? (i := 3) rfl) (lvm (List.mem_of_getElem? (i := 4) rfl) (lvm (List.mem_of_getElem? (i := 5) rfl) (lvm (List.mem_of_getElem? (i := 6) rfl) (lvm (List.mem_of_getElem? (i := 7) rfl) (lvm (List.mem_of_getElem? (i := 8) rfl) lvn)))))))⟩ hi
      · skip
        refine wq_go rfl (fun _ => rfl) ?_
        refine wq_go rfl (fun _ => rfl) ?_
        refine wq_top (show _ = nI (wstN P S l a u) from congrArg nI (by omega)) ?_
        refine wq_go rfl (fun _ => rfl) ?_
        refine wq_go rfl (fun _ => rfl) ?_
        refine wq_zlt rfl (by first | omega | decide | exact Nat.lt_of_le_of_lt Nat.and_le_right (by decide) | exact ⟨by omega, by omega⟩) (fun c => absurd c (by omega)) (fun c75 => ?_)
        refine wq_go rfl (fun _ => rfl) ?_
        refine wq_go rfl (fun _ => rfl) ?_
        refine wq_clt rfl (by first | omega | decide | exact Nat.lt_of_le_of_lt Nat.and_le_right (by decide) | exact ⟨by omega, by omega⟩) (by first | omega | decide | exact Nat.lt_of_le_of_lt Nat.and_le_right (by decide) | exact ⟨by omega, by omega⟩) (fun c78 => ?_) (fun c78 => ?_)
        · skip
          refine wq_cN (m := 10) rfl rfl ?_
          refine wq_go rfl (fun _ => rfl) ?_
          refine wq_cN (m := 4) rfl rfl ?_
          refine wq_divN rfl (by first | decide | omega) (by first | decide | omega) (by first | decide | omega) ?_
          refine wq_mulN rfl ?_
          refine wq_go rfl (fun _ => rfl) ?_
          refine wq_cN (m := 4) rfl rfl ?_
          refine wq_remN rfl (by first | decide | omega) (by first | decide | omega) (by first | decide | omega) ?_
          refine wq_addN rfl ?_
          refine wq_go rfl (fun _ => rfl) ?_
          refine wq_go rfl (fun _ => rfl) ?_
          refine wq_go rfl (fun _ => rfl) ?_
          refine wq_incN rfl rfl rfl ?_
          refine wq_go rfl (fun _ => rfl) ?_
          have hi := ih (u + 1) (by omega) _ _ (fr_trans hF1 F2) (fg_trans hG1 G2) M2 N2
          rw [List.range_succ] at hi
          first | rw [am_n (f := (wstZ P S l a)) u hb0] at hi | rw [am_g (f := (wstZ P S l a)) u hb0 (by simp only [wstZ]; omega)] at hi | rw [am_l (f := (wstZ P S l a)) u hb0 (by simp only [wstZ]; omega)] at hi
          exact wq_lv ⟨(by decide : ([6, 5, 4, 8, 7, 3, 0, 1, 2] : List Nat).Nodup), (lvm (List.mem_of_getElem? (i := 0) rfl) (lvm (List.mem_of_getElem? (i := 1) rfl) (lvm (List.mem_of_getElem? (i := 2) rfl) (lvm (List.mem_of_getElem? (i := 5) rfl) (lvm (List.mem_of_getElem? (i := 6) rfl) (lvm (List.mem_of_getElem? (i := 7) rfl) (lvm (List.mem_of_getElem? (i := 8) rfl) lvn)))))))⟩ hi
        · skip
          refine wq_go rfl (fun _ => rfl) ?_
          refine wq_incN rfl rfl rfl ?_
          refine wq_go rfl (fun _ => rfl) ?_
          have hi := ih (u + 1) (by omega) _ _ (fr_trans hF1 F2) (fg_trans hG1 G2) M2 N2
          rw [List.range_succ] at hi
          first | rw [am_n (f := (wstZ P S l a)) u hb0] at hi | rw [am_g (f := (wstZ P S l a)) u hb0 (by simp only [wstZ]; omega)] at hi | rw [am_l (f := (wstZ P S l a)) u hb0 (by simp only [wstZ]; omega)] at hi
          exact wq_lv ⟨(by decide : ([6, 8, 7, 5, 4, 3, 0, 1, 2] : List Nat).Nodup), (lvm (List.mem_of_getElem? (i := 0) rfl) (lvm (List.mem_of_getElem? (i := 3) rfl) (lvm (List.mem_of_getElem? (i := 4) rfl) (lvm (List.mem_of_getElem? (i := 5) rfl) (lvm (List.mem_of_getElem? (i := 6) rfl) (lvm (List.mem_of_getElem? (i := 7) rfl) (lvm (List.mem_of_getElem? (i := 8) rfl) lvn)))))))⟩ hi
theorem mk_who {n : Nat} {A : Sy} (hn : n < 512) (hA : Aok n A) (a0 a1 : Int32) : MOk ax_cd326 [.int a0, .int a1] A A (F_who A a0 a1) := by
  intro xs d σ Q hI K
  obtain ⟨hPok, ⟨hok, hhr72, hzq, hsum⟩, hAH, hAZ, hAn, hAh, hTok, hAl⟩ := hA
  have hP' := hPok
  obtain ⟨hP1, hP2, hP3, hP4, hP5, hP6, hP7, hP8, hPv, hPm, hPo, hPw, hPl⟩ := hP'
  have hok' := hok
  obtain ⟨hot, hoh, hosc, hokp⟩ := hok'
  have hI0 := hI
  obtain ⟨L, g, hM, hMR, hMT⟩ := hI0
  have hN : NwIs σ (AS A) := hMR.1
  have hL2 := md_l2 hM
  have hTn := hTok.1
  obtain ⟨f6, h326, h6⟩ := hMR.2.2.2.2.1
  obtain ⟨f7, h327, h7⟩ := hMR.2.2.2.2.2.1
  obtain ⟨f8, h328, h8⟩ := hMR.2.2.2.2.2.2.1
  show Wq xs (d + 12) ax_cd326 0 [(0, .ref 287), (1, .int a0), (2, .int a1)] [] σ Q
  refine wq_go rfl (fun _ => rfl) ?_
  refine wq_cN (m := 0) rfl rfl ?_
  refine wq_go rfl (fun _ => rfl) ?_
  refine wq_getf rfl (by first | rfl | assumption) (by first | decide | omega | assumption) (md_o hM) rfl ?_
  refine wq_top hMR.2.2.2.1 ?_
  refine wq_callS rfl (Nat.le_of_ble_eq_true rfl) rfl (Nat.le_of_ble_eq_true rfl) (Nat.le_of_ble_eq_true rfl) rfl rfl ?_
  refine m_inN (m := Tn (AT A)) (by omega) (fun k lk qk ek => ?_) (fun ek => ?_)
  · subst qk
    refine wq_zeq rfl (by first | omega | decide | exact Nat.lt_of_le_of_lt Nat.and_le_right (by decide) | exact ⟨by omega, by omega⟩) (fun c => absurd c (by omega)) (fun c5 => ?_)
    refine wq_go rfl (fun _ => rfl) ?_
    refine wq_cN (m := 0) rfl rfl ?_
    refine wq_cN (m := 1) rfl rfl ?_
    refine wq_callS rfl (Nat.le_of_ble_eq_true rfl) rfl (Nat.le_of_ble_eq_true rfl) (Nat.le_of_ble_eq_true rfl) rfl rfl ?_
    refine m_in (n := 2) (by decide) (fun w lw qw ew => ?_) (fun ew => ?_)
    · subst qw
      have ow : w = 0 ∨ w = 1 := by omega
      rcases ow with rfl | rfl
      · skip
        refine wq_zne rfl (by first | omega | decide | exact Nat.lt_of_le_of_lt Nat.and_le_right (by decide) | exact ⟨by omega, by omega⟩) (fun c10 => ?_) (fun c => absurd (show _ from by omega) c)
        refine wq_go rfl (fun _ => rfl) ?_
        refine wq_go rfl (fun _ => rfl) ?_
        refine wq_callV rfl rfl (by first | rfl | assumption) (by first | decide | omega | assumption) (Nat.le_of_ble_eq_true rfl) (Nat.le_of_ble_eq_true rfl) rfl rfl ?_
        refine m_whoBits hM hok hN hTok h326 h6 h327 h7 h328 h8 (by omega) (fun σ7 g7 F7 G7 M7 => ?_)
        have W7 : NwIs σ7 (AS A) := (F7 322 rfl).trans hN
        refine wq_go rfl (fun _ => rfl) ?_
        refine wq_go rfl (fun _ => rfl) ?_
        refine wq_zne rfl (by first | omega | decide | exact Nat.lt_of_le_of_lt Nat.and_le_right (by decide) | exact ⟨by omega, by omega⟩) (fun c => absurd c (by omega)) (fun c18 => ?_)
        refine wq_go rfl (fun _ => rfl) ?_
        refine wq_callS rfl (Nat.le_of_ble_eq_true rfl) rfl (Nat.le_of_ble_eq_true rfl) (Nat.le_of_ble_eq_true rfl) rfl rfl ?_
        refine m_bits (bset_32 _ hP2) ?_
        refine wq_go rfl (fun _ => rfl) ?_
        refine wq_iret rfl ?_
        exact ansQ (K _ (lo_R (fr_trans (fr_refl xR σ) F7)) (mi_k hMR hMT (fr_trans (fr_refl xR σ) F7) (fg_trans (fg_refl yC g) G7) M7)) (by simp only [F_who, ek, ew, od_s, od_n, od_c] <;> first | rfl | simp [od_c])
      · skip
        refine wq_zne rfl (by first | omega | decide | exact Nat.lt_of_le_of_lt Nat.and_le_right (by decide) | exact ⟨by omega, by omega⟩) (fun c10 => ?_) (fun c => absurd (show _ from by omega) c)
        refine wq_go rfl (fun _ => rfl) ?_
        refine wq_go rfl (fun _ => rfl) ?_
        refine wq_callV rfl rfl (by first | rfl | assumption) (by first | decide | omega | assumption) (Nat.le_of_ble_eq_true rfl) (Nat.le_of_ble_eq_true rfl) rfl rfl ?_
        refine m_whoBits hM hok hN hTok h326 h6 h327 h7 h328 h8 (by omega) (fun σ9 g9 F9 G9 M9 => ?_)
        have W9 : NwIs σ9 (AS A) := (F9 322 rfl).trans hN
        refine wq_go rfl (fun _ => rfl) ?_
        refine wq_go rfl (fun _ => rfl) ?_
        refine wq_zne rfl (by first | omega | decide | exact Nat.lt_of_le_of_lt Nat.and_le_right (by decide) | exact ⟨by omega, by omega⟩) (fun c18 => ?_) (fun c => absurd (show _ from by omega) c)
        refine wq_go rfl (fun _ => rfl) ?_
        refine wq_iret rfl ?_
        exact ansQ (K _ (lo_R (fr_trans (fr_refl xR σ) F9)) (mi_k hMR hMT (fr_trans (fr_refl xR σ) F9) (fg_trans (fg_refl yC g) G9) M9)) (by simp only [F_who, ek, ew, od_s, od_n, od_c] <;> first | rfl | simp [od_c])
    · skip
      refine wq_zne rfl (by first | omega | decide | exact Nat.lt_of_le_of_lt Nat.and_le_right (by decide) | exact ⟨by omega, by omega⟩) (fun c => absurd c (by omega)) (fun c10 => ?_)
      refine wq_go rfl (fun _ => rfl) ?_
      refine wq_iret rfl ?_
      exact ansQ (K _ (lo_R (fr_refl xR σ)) (mi_k hMR hMT (fr_refl xR σ) (fg_refl yC g) hM)) (by simp only [F_who, ek, ew, od_s, od_n, od_c] <;> first | rfl | simp [od_c])
  · skip
    refine wq_zeq rfl (by first | omega | decide | exact Nat.lt_of_le_of_lt Nat.and_le_right (by decide) | exact ⟨by omega, by omega⟩) (fun c5 => ?_) (fun c => absurd (show _ from by omega) c)
    refine wq_go rfl (fun _ => rfl) ?_
    refine wq_iret rfl ?_
    exact ansQ (K _ (lo_R (fr_refl xR σ)) (mi_k hMR hMT (fr_refl xR σ) (fg_refl yC g) hM)) (by simp only [F_who, ek, od_s, od_n, od_c] <;> first | rfl | simp [od_c])
theorem mk_look {n : Nat} {A : Sy} (hn : n < 512) (hA : Aok n A) (a0 a1 : Int32) : MOk ax_cd330 [.int a0, .int a1] A A (F_look A a0 a1) := by
  intro xs d σ Q hI K
  obtain ⟨hPok, ⟨hok, hhr72, hzq, hsum⟩, hAH, hAZ, hAn, hAh, hTok, hAl⟩ := hA
  have hP' := hPok
  obtain ⟨hP1, hP2, hP3, hP4, hP5, hP6, hP7, hP8, hPv, hPm, hPo, hPw, hPl⟩ := hP'
  have hok' := hok
  obtain ⟨hot, hoh, hosc, hokp⟩ := hok'
  have hI0 := hI
  obtain ⟨L, g, hM, hMR, hMT⟩ := hI0
  have hN : NwIs σ (AS A) := hMR.1
  have hL2 := md_l2 hM
  have hTn := hTok.1
  obtain ⟨f6, h326, h6⟩ := hMR.2.2.2.2.1
  obtain ⟨f7, h327, h7⟩ := hMR.2.2.2.2.2.1
  obtain ⟨f8, h328, h8⟩ := hMR.2.2.2.2.2.2.1
  show Wq xs (d + 12) ax_cd330 0 [(0, .ref 287), (1, .int a0), (2, .int a1)] [] σ Q
  refine wq_go rfl (fun _ => rfl) ?_
  refine wq_cN (m := 0) rfl rfl ?_
  refine wq_go rfl (fun _ => rfl) ?_
  refine wq_getf rfl (by first | rfl | assumption) (by first | decide | omega | assumption) (md_o hM) rfl ?_
  refine wq_top hMR.2.2.2.1 ?_
  refine wq_callS rfl (Nat.le_of_ble_eq_true rfl) rfl (Nat.le_of_ble_eq_true rfl) (Nat.le_of_ble_eq_true rfl) rfl rfl ?_
  refine m_inN (m := Tn (AT A)) (by omega) (fun k lk qk ek => ?_) (fun ek => ?_)
  · subst qk
    refine wq_zeq rfl (by first | omega | decide | exact Nat.lt_of_le_of_lt Nat.and_le_right (by decide) | exact ⟨by omega, by omega⟩) (fun c => absurd c (by omega)) (fun c5 => ?_)
    refine wq_go rfl (fun _ => rfl) ?_
    refine wq_cN (m := 0) rfl rfl ?_
    refine wq_cN (m := 999) rfl rfl ?_
    refine wq_callS rfl (Nat.le_of_ble_eq_true rfl) rfl (Nat.le_of_ble_eq_true rfl) (Nat.le_of_ble_eq_true rfl) rfl rfl ?_
    refine m_in (n := 1000) (by decide) (fun w lw qw ew => ?_) (fun ew => ?_)
    · subst qw
      refine wq_zne rfl (by first | omega | decide | exact Nat.lt_of_le_of_lt Nat.and_le_right (by decide) | exact ⟨by omega, by omega⟩) (fun c10 => ?_) (fun c => absurd (show _ from by omega) c)
      refine wq_go rfl (fun _ => rfl) ?_
      refine wq_go rfl (fun _ => rfl) ?_
      refine wq_callV rfl rfl (by first | rfl | assumption) (by first | decide | omega | assumption) (Nat.le_of_ble_eq_true rfl) (Nat.le_of_ble_eq_true rfl) rfl rfl ?_
      refine m_whoBits hM hok hN hTok h326 h6 h327 h7 h328 h8 (by omega) (fun σ7 g7 F7 G7 M7 => ?_)
      have W7 : NwIs σ7 (AS A) := (F7 322 rfl).trans hN
      refine wq_go rfl (fun _ => rfl) ?_
      refine wq_go rfl (fun _ => rfl) ?_
      refine wq_go rfl (fun _ => rfl) ?_
      refine wq_cN (m := 0) rfl rfl ?_
      refine wq_go rfl (fun _ => rfl) ?_
      refine wq_cN (m := 0) rfl rfl ?_
      refine wq_go rfl (fun _ => rfl) ?_
      by_cases hl0 : leftN (AP A) (AS A) (AT A) k = 0
      · skip
        refine wq_go rfl (fun _ => rfl) ?_
        refine wq_cN (m := 4) rfl rfl ?_
        refine wq_go rfl (fun _ => rfl) ?_
        refine wq_getf rfl (by first | rfl | assumption) (by first | decide | omega | assumption) (md_o M7) rfl ?_
        refine wq_go rfl (fun _ => rfl) ?_
        refine wq_getf rfl (by first | rfl | assumption) (by first | decide | omega | assumption) (md_o M7) rfl ?_
        refine wq_top (md_l M7) ?_
        refine wq_iald rfl (by first | rfl | assumption) (by first | decide | omega | assumption) (md_c297 M7) rfl (by omega) (by first | decide | omega) ?_
        refine wq_top (md_m297 M7) ?_
        refine wq_mulN rfl ?_
        refine wq_cge rfl (by first | omega | decide | exact Nat.lt_of_le_of_lt Nat.and_le_right (by decide) | exact ⟨by omega, by omega⟩) (by first | omega | decide | exact Nat.lt_of_le_of_lt Nat.and_le_right (by decide) | exact ⟨by omega, by omega⟩) (fun c31 => ?_) (fun c31 => ?_)
        · skip
          refine wq_go rfl (fun _ => rfl) ?_
          refine wq_iret rfl ?_
          exact ansQ (K _ (lo_R (fr_trans (fr_refl xR σ) F7)) (mi_k hMR hMT (fr_trans (fr_refl xR σ) F7) (fg_trans (fg_refl yC g) G7) M7)) (by simp only [F_look, ek, ew, od_s, od_n, od_c, lookI, if_pos hl0] <;> rfl)
        · skip
          refine wq_go rfl (fun _ => rfl) ?_
          refine wq_zeq rfl (by first | omega | decide | exact Nat.lt_of_le_of_lt Nat.and_le_right (by decide) | exact ⟨by omega, by omega⟩) (fun c33 => ?_) (fun c => absurd (show _ from by omega) c)
          refine wq_go rfl (fun _ => rfl) ?_
          refine wq_iret rfl ?_
          exact ansQ (K _ (lo_R (fr_trans (fr_refl xR σ) F7)) (mi_k hMR hMT (fr_trans (fr_refl xR σ) F7) (fg_trans (fg_refl yC g) G7) M7)) (by simp only [F_look, ek, ew, od_s, od_n, od_c, lookI, if_pos hl0] <;> rfl)
      · exact wq_lv ⟨(by decide : ([6, 5, 4, 3, 0, 1, 2] : List Nat).Nodup), (lvm (List.mem_of_getElem? (i := 0) rfl) (lvm (List.mem_of_getElem? (i := 1) rfl) (lvm (List.mem_of_getElem? (i := 2) rfl) (lvm (List.mem_of_getElem? (i := 3) rfl) (lvm (List.mem_of_getElem? (i := 4) rfl) (lvm (List.mem_of_getElem? (i := 5) rfl) (lvm (List.mem_of_getElem? (i := 6) rfl) lvn)))))))⟩ (m_look_o hL2 hPok hok (bset_32 _ hP2) hl0 (by omega) (fun j hj => left_hi _ _ _ _ j hj) (fun σ9 g9 F9 G9 M9 => ansQ (K _ (lo_R (fr_trans (fr_trans (fr_refl xR σ) F7) F9)) (mi_k hMR hMT (fr_trans (fr_trans (fr_refl xR σ) F7) F9) (fg_trans (fg_trans (fg_refl yC g) G7) G9) M9)) (by simp only [F_look, ek, ew, od_s, od_n, od_c, lookI, if_neg hl0]; rw [Nat.mul_comm] <;> rfl)) (4 * Pch (AP A)) 0 rfl _ _ (fr_refl _ _) (fg_refl _ _) M7 W7)
    · skip
      refine wq_zne rfl (by first | omega | decide | exact Nat.lt_of_le_of_lt Nat.and_le_right (by decide) | exact ⟨by omega, by omega⟩) (fun c => absurd c (by omega)) (fun c10 => ?_)
      refine wq_go rfl (fun _ => rfl) ?_
      refine wq_iret rfl ?_
      exact ansQ (K _ (lo_R (fr_refl xR σ)) (mi_k hMR hMT (fr_refl xR σ) (fg_refl yC g) hM)) (by simp only [F_look, ek, ew, od_s, od_n, od_c] <;> rfl)
  · skip
    refine wq_zeq rfl (by first | omega | decide | exact Nat.lt_of_le_of_lt Nat.and_le_right (by decide) | exact ⟨by omega, by omega⟩) (fun c5 => ?_) (fun c => absurd (show _ from by omega) c)
    refine wq_go rfl (fun _ => rfl) ?_
    refine wq_iret rfl ?_
    exact ansQ (K _ (lo_R (fr_refl xR σ)) (mi_k hMR hMT (fr_refl xR σ) (fg_refl yC g) hM)) (by simp only [F_look, ek, od_s, od_n, od_c] <;> rfl)
theorem m_cnt13 {xs : List Int32} {d : Nat} {σ : Nat → List Value} {Q : Option Value → (Nat → List Value) → Prop} {P : Pl} {L : Nat} {g : Nat → Int32} (hM : MD P L g σ) {S : St} (hok : Sok S) (hR : RwIs σ S) (hN : NwIs σ S) {x : Int32}  (K : Q (some (.int (nI (bset (fun h => decide (¬ bset (fun t => says1 S (Psa P) h t) 4 = 0)) (Phd P))))) σ) : ∀ (m u : Nat), m + u = Phd P → Wq xs (d + 2) ax_cd333 101 [(3, .int (nI u)), (2, .int (nI (bset (fun h => decide (¬ bset (fun t => says1 S (Psa P) h t) 4 = 0)) u))), (0, .ref 287), (1, .int x)] [] σ Q := by
  have hL2 := md_l2 hM
  obtain ⟨hP1, hP2, hP3, hP4, hP5, hP6, hP7, hP8, hPv, hPm, hPo, hPw, hPl⟩ := md_pok hM
  intro m
  induction m with
  | zero =>
    intro u hm
    refine wq_go rfl (fun _ => rfl) ?_
    refine wq_go rfl (fun _ => rfl) ?_
    refine wq_getf rfl (by first | rfl | assumption) (by first | decide | omega | assumption) (md_o hM) rfl ?_
    refine wq_go rfl (fun _ => rfl) ?_
    refine wq_getf rfl (by first | rfl | assumption) (by first | decide | omega | assumption) (md_o hM) rfl ?_
    refine wq_top (md_l hM) ?_
    refine wq_iald rfl (by first | rfl | assumption) (by first | decide | omega | assumption) (md_c299 hM) rfl (by omega) (by first | decide | omega) ?_
    refine wq_top (md_m299 hM) ?_
    refine wq_cge rfl (by first | omega | decide | exact Nat.lt_of_le_of_lt Nat.and_le_right (by decide) | exact ⟨by omega, by omega⟩) (by first | omega | decide | exact Nat.lt_of_le_of_lt Nat.and_le_right (by decide) | exact ⟨by omega, by omega⟩) (fun c107 => ?_) (fun c => absurd (show _ from by omega) c)
    refine wq_go rfl (fun _ => rfl) ?_
    refine wq_iret rfl ?_
    rw [show u = Phd P by omega]
    exact K
  | succ m ih =>
    intro u hm
    have hb5 := bset_lt (fun t => says1 S (Psa P) u t) 4
    refine wq_go rfl (fun _ => rfl) ?_
    refine wq_go rfl (fun _ => rfl) ?_
    refine wq_getf rfl (by first | rfl | assumption) (by first | decide | omega | assumption) (md_o hM) rfl ?_
    refine wq_go rfl (fun _ => rfl) ?_
    refine wq_getf rfl (by first | rfl | assumption) (by first | decide | omega | assumption) (md_o hM) rfl ?_
    refine wq_top (md_l hM) ?_
    refine wq_iald rfl (by first | rfl | assumption) (by first | decide | omega | assumption) (md_c299 hM) rfl (by omega) (by first | decide | omega) ?_
    refine wq_top (md_m299 hM) ?_
    refine wq_cge rfl (by first | omega | decide | exact Nat.lt_of_le_of_lt Nat.and_le_right (by decide) | exact ⟨by omega, by omega⟩) (by first | omega | decide | exact Nat.lt_of_le_of_lt Nat.and_le_right (by decide) | exact ⟨by omega, by omega⟩) (fun c => absurd c (by omega)) (fun c107 => ?_)
    refine wq_go rfl (fun _ => rfl) ?_
    refine wq_go rfl (fun _ => rfl) ?_
    refine wq_callV rfl rfl (by first | rfl | assumption) (by first | decide | omega | assumption) (Nat.le_of_ble_eq_true rfl) (Nat.le_of_ble_eq_true rfl) rfl rfl ?_
    refine m_saidBy hM hok hR (by omega) ?_
    refine wq_zeq rfl (by first | omega | decide | exact Nat.lt_of_le_of_lt Nat.and_le_right (by decide) | exact ⟨by omega, by omega⟩) (fun c111 => ?_) (fun c111 => ?_)
    · skip
      refine wq_incN rfl rfl rfl ?_
      refine wq_go rfl (fun _ => rfl) ?_
      have hi := ih (u + 1) (by omega)
      first | rw [bset_t (f := (fun h => decide (¬ bset (fun t => says1 S (Psa P) h t) 4 = 0))) (decide_eq_true (by omega))] at hi | rw [bset_f0 (f := (fun h => decide (¬ bset (fun t => says1 S (Psa P) h t) 4 = 0))) (decide_eq_false (by omega))] at hi
      exact wq_lv ⟨(by decide : ([3, 2, 0, 1] : List Nat).Nodup), (lvm (List.mem_of_getElem? (i := 0) rfl) (lvm (List.mem_of_getElem? (i := 1) rfl) (lvm (List.mem_of_getElem? (i := 2) rfl) (lvm (List.mem_of_getElem? (i := 3) rfl) lvn))))⟩ hi
    · skip
      refine wq_go rfl (fun _ => rfl) ?_
      refine wq_cN (m := 1) rfl rfl ?_
      refine wq_go rfl (fun _ => rfl) ?_
      refine wq_shl1 rfl (by first | decide | omega) ?_
      refine wq_orN rfl ?_
      refine wq_go rfl (fun _ => rfl) ?_
      refine wq_incN rfl rfl rfl ?_
      refine wq_go rfl (fun _ => rfl) ?_
      have hi := ih (u + 1) (by omega)
      first | rw [bset_t (f := (fun h => decide (¬ bset (fun t => says1 S (Psa P) h t) 4 = 0))) (decide_eq_true (by omega))] at hi | rw [bset_f0 (f := (fun h => decide (¬ bset (fun t => says1 S (Psa P) h t) 4 = 0))) (decide_eq_false (by omega))] at hi
      exact wq_lv ⟨(by decide : ([3, 2, 0, 1] : List Nat).Nodup), (lvm (List.mem_of_getElem? (i := 0) rfl) (lvm (List.mem_of_getElem? (i := 1) rfl) (lvm (List.mem_of_getElem? (i := 2) rfl) (lvm (List.mem_of_getElem? (i := 3) rfl) lvn))))⟩ hi
theorem m_cnt15 {xs : List Int32} {d : Nat} {σ : Nat → List Value} {Q : Option Value → (Nat → List Value) → Prop} {P : Pl} {L : Nat} {g : Nat → Int32} (hM : MD P L g σ) {S : St} (hok : Sok S) (hR : RwIs σ S) (hN : NwIs σ S) {x : Int32}  (K : Q (some (.int (nI (bset (fun c => decide (s4 (Ssq S) (c * 4) = 0)) (Pch P))))) σ) : ∀ (m u : Nat), m + u = Pch P → Wq xs (d + 2) ax_cd333 129 [(3, .int (nI u)), (2, .int (nI (bset (fun c => decide (s4 (Ssq S) (c * 4) = 0)) u))), (0, .ref 287), (1, .int x)] [] σ Q := by
  have hL2 := md_l2 hM
  obtain ⟨hP1, hP2, hP3, hP4, hP5, hP6, hP7, hP8, hPv, hPm, hPo, hPw, hPl⟩ := md_pok hM
  intro m
  induction m with
  | zero =>
    intro u hm
    refine wq_go rfl (fun _ => rfl) ?_
    refine wq_go rfl (fun _ => rfl) ?_
    refine wq_getf rfl (by first | rfl | assumption) (by first | decide | omega | assumption) (md_o hM) rfl ?_
    refine wq_go rfl (fun _ => rfl) ?_
    refine wq_getf rfl (by first | rfl | assumption) (by first | decide | omega | assumption) (md_o hM) rfl ?_
    refine wq_top (md_l hM) ?_
    refine wq_iald rfl (by first | rfl | assumption) (by first | decide | omega | assumption) (md_c297 hM) rfl (by omega) (by first | decide | omega) ?_
    refine wq_top (md_m297 hM) ?_
    refine wq_cge rfl (by first | omega | decide | exact Nat.lt_of_le_of_lt Nat.and_le_right (by decide) | exact ⟨by omega, by omega⟩) (by first | omega | decide | exact Nat.lt_of_le_of_lt Nat.and_le_right (by decide) | exact ⟨by omega, by omega⟩) (fun c135 => ?_) (fun c => absurd (show _ from by omega) c)
    refine wq_go rfl (fun _ => rfl) ?_
    refine wq_iret rfl ?_
    rw [show u = Pch P by omega]
    exact K
  | succ m ih =>
    intro u hm
    have hs4 : s4 (Ssq S) (u * 4) ≤ 4 * 1980 := s4_le (b := 1980) (fun j hj => sq_le hok (by omega))
    refine wq_go rfl (fun _ => rfl) ?_
    refine wq_go rfl (fun _ => rfl) ?_
    refine wq_getf rfl (by first | rfl | assumption) (by first | decide | omega | assumption) (md_o hM) rfl ?_
    refine wq_go rfl (fun _ => rfl) ?_
    refine wq_getf rfl (by first | rfl | assumption) (by first | decide | omega | assumption) (md_o hM) rfl ?_
    refine wq_top (md_l hM) ?_
    refine wq_iald rfl (by first | rfl | assumption) (by first | decide | omega | assumption) (md_c297 hM) rfl (by omega) (by first | decide | omega) ?_
    refine wq_top (md_m297 hM) ?_
    refine wq_cge rfl (by first | omega | decide | exact Nat.lt_of_le_of_lt Nat.and_le_right (by decide) | exact ⟨by omega, by omega⟩) (by first | omega | decide | exact Nat.lt_of_le_of_lt Nat.and_le_right (by decide) | exact ⟨by omega, by omega⟩) (fun c => absurd c (by omega)) (fun c135 => ?_)
    refine wq_go rfl (fun _ => rfl) ?_
    refine wq_cN (m := 4) rfl rfl ?_
    refine wq_go rfl (fun _ => rfl) ?_
    refine wq_mulN rfl ?_
    refine wq_callV rfl rfl (by first | rfl | assumption) (by first | decide | omega | assumption) (Nat.le_of_ble_eq_true rfl) (Nat.le_of_ble_eq_true rfl) rfl rfl ?_
    refine m_four hM hR (by omega) ?_
    refine wq_top (congrArg nI (s4_sq S (c := u) (by omega))) ?_
    refine wq_zne rfl (by first | omega | decide | exact Nat.lt_of_le_of_lt Nat.and_le_right (by decide) | exact ⟨by omega, by omega⟩) (fun c141 => ?_) (fun c141 => ?_)
    · skip
      refine wq_incN rfl rfl rfl ?_
      refine wq_go rfl (fun _ => rfl) ?_
      have hi := ih (u + 1) (by omega)
      first | rw [bset_t (f := (fun c => decide (s4 (Ssq S) (c * 4) = 0))) (decide_eq_true (by omega))] at hi | rw [bset_f0 (f := (fun c => decide (s4 (Ssq S) (c * 4) = 0))) (decide_eq_false (by omega))] at hi
      exact wq_lv ⟨(by decide : ([3, 2, 0, 1] : List Nat).Nodup), (lvm (List.mem_of_getElem? (i := 0) rfl) (lvm (List.mem_of_getElem? (i := 1) rfl) (lvm (List.mem_of_getElem? (i := 2) rfl) (lvm (List.mem_of_getElem? (i := 3) rfl) lvn))))⟩ hi
    · skip
      refine wq_go rfl (fun _ => rfl) ?_
      refine wq_cN (m := 1) rfl rfl ?_
      refine wq_go rfl (fun _ => rfl) ?_
      refine wq_shl1 rfl (by first | decide | omega) ?_
      refine wq_orN rfl ?_
      refine wq_go rfl (fun _ => rfl) ?_
      refine wq_incN rfl rfl rfl ?_
      refine wq_go rfl (fun _ => rfl) ?_
      have hi := ih (u + 1) (by omega)
      first | rw [bset_t (f := (fun c => decide (s4 (Ssq S) (c * 4) = 0))) (decide_eq_true (by omega))] at hi | rw [bset_f0 (f := (fun c => decide (s4 (Ssq S) (c * 4) = 0))) (decide_eq_false (by omega))] at hi
      exact wq_lv ⟨(by decide : ([3, 2, 0, 1] : List Nat).Nodup), (lvm (List.mem_of_getElem? (i := 0) rfl) (lvm (List.mem_of_getElem? (i := 1) rfl) (lvm (List.mem_of_getElem? (i := 2) rfl) (lvm (List.mem_of_getElem? (i := 3) rfl) lvn))))⟩ hi
theorem or_t {f : Nat → Nat} {u : Nat} (h : 0 < f u) : orF (fun i => if 0 < f i then 2 ^ (i % 4) else 0) (u + 1) = orF (fun i => if 0 < f i then 2 ^ (i % 4) else 0) u ||| 2 ^ (u % 4) := by
  rw [orF, if_pos h]
theorem or_f {f : Nat → Nat} {u : Nat} (h : ¬ 0 < f u) : orF (fun i => if 0 < f i then 2 ^ (i % 4) else 0) (u + 1) = orF (fun i => if 0 < f i then 2 ^ (i % 4) else 0) u := by
  rw [orF, if_neg h, Nat.or_zero]
theorem m_cnt17 {xs : List Int32} {d : Nat} {σ : Nat → List Value} {Q : Option Value → (Nat → List Value) → Prop} {P : Pl} {L : Nat} {g : Nat → Int32} (hM : MD P L g σ) {S : St} (hok : Sok S) (hR : RwIs σ S) (hN : NwIs σ S) {x : Int32}  (K : Q (some (.int (nI (orF (fun i => if 0 < Ssq S i then 2 ^ (i % 4) else 0) 16)))) σ) : ∀ (m u : Nat), m + u = 16 → Wq xs (d + 2) ax_cd333 159 [(3, .int (nI u)), (2, .int (nI (orF (fun i => if 0 < Ssq S i then 2 ^ (i % 4) else 0) u))), (0, .ref 287), (1, .int x)] [] σ Q := by
  have hL2 := md_l2 hM
  obtain ⟨hP1, hP2, hP3, hP4, hP5, hP6, hP7, hP8, hPv, hPm, hPo, hPw, hPl⟩ := md_pok hM
  intro m
  induction m with
  | zero =>
    intro u hm
    refine wq_go rfl (fun _ => rfl) ?_
    refine wq_cN (m := 16) rfl rfl ?_
    refine wq_cge rfl (by first | omega | decide | exact Nat.lt_of_le_of_lt Nat.and_le_right (by decide) | exact ⟨by omega, by omega⟩) (by first | omega | decide | exact Nat.lt_of_le_of_lt Nat.and_le_right (by decide) | exact ⟨by omega, by omega⟩) (fun c161 => ?_) (fun c => absurd (show _ from by omega) c)
    refine wq_go rfl (fun _ => rfl) ?_
    refine wq_iret rfl ?_
    rw [show u = 16 by omega]
    exact K
  | succ m ih =>
    intro u hm
    have hsq := sq_le hok (i := u) (by omega)
    refine wq_go rfl (fun _ => rfl) ?_
    refine wq_cN (m := 16) rfl rfl ?_
    refine wq_cge rfl (by first | omega | decide | exact Nat.lt_of_le_of_lt Nat.and_le_right (by decide) | exact ⟨by omega, by omega⟩) (by first | omega | decide | exact Nat.lt_of_le_of_lt Nat.and_le_right (by decide) | exact ⟨by omega, by omega⟩) (fun c => absurd c (by omega)) (fun c161 => ?_)
    refine wq_go rfl (fun _ => rfl) ?_
    refine wq_getf rfl (by first | rfl | assumption) (by first | decide | omega | assumption) (md_o hM) rfl ?_
    refine wq_go rfl (fun _ => rfl) ?_
    refine wq_ialdN rfl (by first | rfl | assumption) (by first | decide | omega | assumption) hN rfl (by omega) (by first | decide | omega) ?_
    refine wq_top (congrArg nI (rf_a S (by omega))) ?_
    refine wq_zle rfl (by first | omega | decide | exact Nat.lt_of_le_of_lt Nat.and_le_right (by decide) | exact ⟨by omega, by omega⟩) (fun c166 => ?_) (fun c166 => ?_)
    · skip
      refine wq_incN rfl rfl rfl ?_
      refine wq_go rfl (fun _ => rfl) ?_
      have hi := ih (u + 1) (by omega)
      first | rw [or_t (by omega)] at hi | rw [or_f (by omega)] at hi
      exact wq_lv ⟨(by decide : ([3, 2, 0, 1] : List Nat).Nodup), (lvm (List.mem_of_getElem? (i := 0) rfl) (lvm (List.mem_of_getElem? (i := 1) rfl) (lvm (List.mem_of_getElem? (i := 2) rfl) (lvm (List.mem_of_getElem? (i := 3) rfl) lvn))))⟩ hi
    · skip
      refine wq_go rfl (fun _ => rfl) ?_
      refine wq_cN (m := 1) rfl rfl ?_
      refine wq_go rfl (fun _ => rfl) ?_
      refine wq_cN (m := 4) rfl rfl ?_
      refine wq_remN rfl (by first | decide | omega) (by first | decide | omega) (by first | decide | omega) ?_
      refine wq_shl1 rfl (by first | decide | omega) ?_
      refine wq_orN rfl ?_
      refine wq_go rfl (fun _ => rfl) ?_
      refine wq_incN rfl rfl rfl ?_
      refine wq_go rfl (fun _ => rfl) ?_
      have hi := ih (u + 1) (by omega)
      first | rw [or_t (by omega)] at hi | rw [or_f (by omega)] at hi
      exact wq_lv ⟨(by decide : ([3, 2, 0, 1] : List Nat).Nodup), (lvm (List.mem_of_getElem? (i := 0) rfl) (lvm (List.mem_of_getElem? (i := 1) rfl) (lvm (List.mem_of_getElem? (i := 2) rfl) (lvm (List.mem_of_getElem? (i := 3) rfl) lvn))))⟩ hi
theorem m_cnt18 {xs : List Int32} {d : Nat} {σ : Nat → List Value} {Q : Option Value → (Nat → List Value) → Prop} {P : Pl} {L : Nat} {g : Nat → Int32} (hM : MD P L g σ) {S : St} (hok : Sok S) (hR : RwIs σ S) (hN : NwIs σ S) {x : Int32}  (K : Q (some (.int (nI (sumF (Poi P) (Phd P))))) σ) : ∀ (m u : Nat), m + u = Phd P → Wq xs (d + 2) ax_cd333 181 [(3, .int (nI u)), (2, .int (nI (sumF (Poi P) u))), (0, .ref 287), (1, .int x)] [] σ Q := by
  have hL2 := md_l2 hM
  obtain ⟨hP1, hP2, hP3, hP4, hP5, hP6, hP7, hP8, hPv, hPm, hPo, hPw, hPl⟩ := md_pok hM
  intro m
  induction m with
  | zero =>
    intro u hm
    refine wq_go rfl (fun _ => rfl) ?_
    refine wq_go rfl (fun _ => rfl) ?_
    refine wq_getf rfl (by first | rfl | assumption) (by first | decide | omega | assumption) (md_o hM) rfl ?_
    refine wq_go rfl (fun _ => rfl) ?_
    refine wq_getf rfl (by first | rfl | assumption) (by first | decide | omega | assumption) (md_o hM) rfl ?_
    refine wq_top (md_l hM) ?_
    refine wq_iald rfl (by first | rfl | assumption) (by first | decide | omega | assumption) (md_c299 hM) rfl (by omega) (by first | decide | omega) ?_
    refine wq_top (md_m299 hM) ?_
    refine wq_cge rfl (by first | omega | decide | exact Nat.lt_of_le_of_lt Nat.and_le_right (by decide) | exact ⟨by omega, by omega⟩) (by first | omega | decide | exact Nat.lt_of_le_of_lt Nat.and_le_right (by decide) | exact ⟨by omega, by omega⟩) (fun c187 => ?_) (fun c => absurd (show _ from by omega) c)
    refine wq_go rfl (fun _ => rfl) ?_
    refine wq_iret rfl ?_
    rw [show u = Phd P by omega]
    exact K
  | succ m ih =>
    intro u hm
    refine wq_go rfl (fun _ => rfl) ?_
    refine wq_go rfl (fun _ => rfl) ?_
    refine wq_getf rfl (by first | rfl | assumption) (by first | decide | omega | assumption) (md_o hM) rfl ?_
    refine wq_go rfl (fun _ => rfl) ?_
    refine wq_getf rfl (by first | rfl | assumption) (by first | decide | omega | assumption) (md_o hM) rfl ?_
    refine wq_top (md_l hM) ?_
    refine wq_iald rfl (by first | rfl | assumption) (by first | decide | omega | assumption) (md_c299 hM) rfl (by omega) (by first | decide | omega) ?_
    refine wq_top (md_m299 hM) ?_
    refine wq_cge rfl (by first | omega | decide | exact Nat.lt_of_le_of_lt Nat.and_le_right (by decide) | exact ⟨by omega, by omega⟩) (by first | omega | decide | exact Nat.lt_of_le_of_lt Nat.and_le_right (by decide) | exact ⟨by omega, by omega⟩) (fun c => absurd c (by omega)) (fun c187 => ?_)
    refine wq_go rfl (fun _ => rfl) ?_
    refine wq_go rfl (fun _ => rfl) ?_
    refine wq_getf rfl (by first | rfl | assumption) (by first | decide | omega | assumption) (md_o hM) rfl ?_
    refine wq_cN (m := 5) rfl rfl ?_
    refine wq_go rfl (fun _ => rfl) ?_
    refine wq_getf rfl (by first | rfl | assumption) (by first | decide | omega | assumption) (md_o hM) rfl ?_
    refine wq_top (md_l hM) ?_
    refine wq_mulN rfl ?_
    refine wq_go rfl (fun _ => rfl) ?_
    refine wq_addN rfl ?_
    refine wq_iald rfl (by first | rfl | assumption) (by first | decide | omega | assumption) (md_c300 hM) rfl (by omega) (by first | decide | omega) ?_
    refine wq_top (md_m300 hM _ (by omega)) ?_
    refine wq_addN rfl ?_
    refine wq_go rfl (fun _ => rfl) ?_
    refine wq_incN rfl rfl rfl ?_
    refine wq_go rfl (fun _ => rfl) ?_
    exact ih (u + 1) (by omega)
theorem mk_count {n : Nat} {A : Sy} (hn : n < 512) (hA : Aok n A) (a0 : Int32) : MOk ax_cd333 [.int a0] A A (F_count A a0) := by
  intro xs d σ Q hI K
  obtain ⟨hPok, ⟨hok, hhr72, hzq, hsum⟩, hAH, hAZ, hAn, hAh, hTok, hAl⟩ := hA
  have hP' := hPok
  obtain ⟨hP1, hP2, hP3, hP4, hP5, hP6, hP7, hP8, hPv, hPm, hPo, hPw, hPl⟩ := hP'
  have hok' := hok
  obtain ⟨hot, hoh, hosc, hokp⟩ := hok'
  have hI0 := hI
  obtain ⟨L, g, hM, hMR, hMT⟩ := hI0
  have hN : NwIs σ (AS A) := hMR.1
  have hL2 := md_l2 hM
  show Wq xs (d + 12) ax_cd333 0 [(0, .ref 287), (1, .int a0)] [] σ Q
  refine wq_go rfl (fun _ => rfl) ?_
  refine wq_callV rfl rfl (by first | rfl | assumption) (by first | decide | omega | assumption) (Nat.le_of_ble_eq_true rfl) (Nat.le_of_ble_eq_true rfl) rfl rfl ?_
  refine m_copies hM hN (fun σ5 g5 F5 G5 s5 t5 M5 R5 => ?_)
  have W5 : NwIs σ5 (AS A) := (F5 322 rfl).trans hN
  refine wq_cN (m := 0) rfl rfl ?_
  refine wq_go rfl (fun _ => rfl) ?_
  refine wq_go rfl (fun _ => rfl) ?_
  rcases dec_cases (n := 19) (by decide) a0 with ⟨ew, hw⟩ | ⟨w, lw, qw, ew⟩
  · refine wq_swD 19 rfl (by decide) (by decide) hw ?_
    refine wq_go rfl (fun _ => rfl) ?_
    refine wq_iret rfl ?_
    exact ansQ (K _ (lo_R (fr_trans (fr_refl xR σ) (fr_mono F5 xC_R))) (mi_k hMR hMT (fr_trans (fr_refl xR σ) (fr_mono F5 xC_R)) (fg_trans (fg_refl yC g) G5) M5)) (by simp [F_count, ew, od_s, od_n])
  · subst qw
    have ow : w = 0 ∨ w = 1 ∨ w = 2 ∨ w = 3 ∨ w = 4 ∨ w = 5 ∨ w = 6 ∨ w = 7 ∨ w = 8 ∨ w = 9 ∨ w = 10 ∨ w = 11 ∨ w = 12 ∨ w = 13 ∨ w = 14 ∨ w = 15 ∨ w = 16 ∨ w = 17 ∨ w = 18 := by omega
    rcases ow with rfl | rfl | rfl | rfl | rfl | rfl | rfl | rfl | rfl | rfl | rfl | rfl | rfl | rfl | rfl | rfl | rfl | rfl | rfl
    · refine wq_swN rfl rfl (by decide) rfl ?_
      refine wq_go rfl (fun _ => rfl) ?_
      refine wq_getf rfl (by first | rfl | assumption) (by first | decide | omega | assumption) (md_o M5) rfl ?_
      refine wq_go rfl (fun _ => rfl) ?_
      refine wq_getf rfl (by first | rfl | assumption) (by first | decide | omega | assumption) (md_o M5) rfl ?_
      refine wq_top (md_l M5) ?_
      refine wq_iald rfl (by first | rfl | assumption) (by first | decide | omega | assumption) (md_c297 M5) rfl (by omega) (by first | decide | omega) ?_
      refine wq_top (md_m297 M5) ?_
      refine wq_iret rfl ?_
      exact ansQ (K _ (lo_R (fr_trans (fr_refl xR σ) (fr_mono F5 xC_R))) (mi_k hMR hMT (fr_trans (fr_refl xR σ) (fr_mono F5 xC_R)) (fg_trans (fg_refl yC g) G5) M5)) (by simp [F_count, ew, od_s, od_n])
    · refine wq_swN rfl rfl (by decide) rfl ?_
      refine wq_go rfl (fun _ => rfl) ?_
      refine wq_getf rfl (by first | rfl | assumption) (by first | decide | omega | assumption) (md_o M5) rfl ?_
      refine wq_go rfl (fun _ => rfl) ?_
      refine wq_getf rfl (by first | rfl | assumption) (by first | decide | omega | assumption) (md_o M5) rfl ?_
      refine wq_top (md_l M5) ?_
      refine wq_iald rfl (by first | rfl | assumption) (by first | decide | omega | assumption) (md_c299 M5) rfl (by omega) (by first | decide | omega) ?_
      refine wq_top (md_m299 M5) ?_
      refine wq_iret rfl ?_
      exact ansQ (K _ (lo_R (fr_trans (fr_refl xR σ) (fr_mono F5 xC_R))) (mi_k hMR hMT (fr_trans (fr_refl xR σ) (fr_mono F5 xC_R)) (fg_trans (fg_refl yC g) G5) M5)) (by simp [F_count, ew, od_s, od_n])
    · refine wq_swN rfl rfl (by decide) rfl ?_
      refine wq_go rfl (fun _ => rfl) ?_
      refine wq_getf rfl (by first | rfl | assumption) (by first | decide | omega | assumption) (md_o M5) rfl ?_
      refine wq_go rfl (fun _ => rfl) ?_
      refine wq_getf rfl (by first | rfl | assumption) (by first | decide | omega | assumption) (md_o M5) rfl ?_
      refine wq_top (md_l M5) ?_
      refine wq_iald rfl (by first | rfl | assumption) (by first | decide | omega | assumption) (md_c302 M5) rfl (by omega) (by first | decide | omega) ?_
      refine wq_top (md_m302 M5) ?_
      refine wq_iret rfl ?_
      exact ansQ (K _ (lo_R (fr_trans (fr_refl xR σ) (fr_mono F5 xC_R))) (mi_k hMR hMT (fr_trans (fr_refl xR σ) (fr_mono F5 xC_R)) (fg_trans (fg_refl yC g) G5) M5)) (by simp [F_count, ew, od_s, od_n])
    · refine wq_swN rfl rfl (by decide) rfl ?_
      refine wq_go rfl (fun _ => rfl) ?_
      refine wq_getf rfl (by first | rfl | assumption) (by first | decide | omega | assumption) (md_o M5) rfl ?_
      refine wq_cN (m := 59) rfl rfl ?_
      refine wq_ialdN rfl (by first | rfl | assumption) (by first | decide | omega | assumption) R5 rfl (by omega) (by first | decide | omega) ?_
      refine wq_top (congrArg nI (rf_hr _)) ?_
      refine wq_iret rfl ?_
      exact ansQ (K _ (lo_R (fr_trans (fr_refl xR σ) (fr_mono F5 xC_R))) (mi_k hMR hMT (fr_trans (fr_refl xR σ) (fr_mono F5 xC_R)) (fg_trans (fg_refl yC g) G5) M5)) (by simp [F_count, ew, od_s, od_n])
    · refine wq_swN rfl rfl (by decide) rfl ?_
      refine wq_go rfl (fun _ => rfl) ?_
      refine wq_getf rfl (by first | rfl | assumption) (by first | decide | omega | assumption) (md_o M5) rfl ?_
      refine wq_cN (m := 59) rfl rfl ?_
      refine wq_ialdN rfl (by first | rfl | assumption) (by first | decide | omega | assumption) R5 rfl (by omega) (by first | decide | omega) ?_
      refine wq_top (congrArg nI (rf_hr _)) ?_
      refine wq_cN (m := 24) rfl rfl ?_
      refine wq_remN rfl (by first | decide | omega) (by first | decide | omega) (by first | decide | omega) ?_
      refine wq_iret rfl ?_
      exact ansQ (K _ (lo_R (fr_trans (fr_refl xR σ) (fr_mono F5 xC_R))) (mi_k hMR hMT (fr_trans (fr_refl xR σ) (fr_mono F5 xC_R)) (fg_trans (fg_refl yC g) G5) M5)) (by simp [F_count, ew, od_s, od_n])
    · refine wq_swN rfl rfl (by decide) rfl ?_
      refine wq_go rfl (fun _ => rfl) ?_
      refine wq_getf rfl (by first | rfl | assumption) (by first | decide | omega | assumption) (md_o M5) rfl ?_
      refine wq_cN (m := 60) rfl rfl ?_
      refine wq_ialdN rfl (by first | rfl | assumption) (by first | decide | omega | assumption) R5 rfl (by omega) (by first | decide | omega) ?_
      refine wq_top (congrArg nI (rf_sd _)) ?_
      refine wq_iret rfl ?_
      exact ansQ (K _ (lo_R (fr_trans (fr_refl xR σ) (fr_mono F5 xC_R))) (mi_k hMR hMT (fr_trans (fr_refl xR σ) (fr_mono F5 xC_R)) (fg_trans (fg_refl yC g) G5) M5)) (by simp [F_count, ew, od_s, od_n])
    · refine wq_swN rfl rfl (by decide) rfl ?_
      refine wq_go rfl (fun _ => rfl) ?_
      refine wq_cN (m := 0) rfl rfl ?_
      refine wq_cN (m := 16) rfl rfl ?_
      refine wq_callV rfl rfl (by first | rfl | assumption) (by first | decide | omega | assumption) (Nat.le_of_ble_eq_true rfl) (Nat.le_of_ble_eq_true rfl) rfl rfl ?_
      refine m_sumNow M5 W5 (a := 0) (n := 16) (by decide) ?_
      refine wq_top (congrArg nI ((sumF_congr 16 (fun j hj => by rw [Nat.zero_add]; exact rf_a _ hj)).trans (sum_s4 (Ssq (AS A)) 4).symm)) ?_
      refine wq_go rfl (fun _ => rfl) ?_
      refine wq_cN (m := 24) rfl rfl ?_
      refine wq_cN (m := 20) rfl rfl ?_
      refine wq_callV rfl rfl (by first | rfl | assumption) (by first | decide | omega | assumption) (Nat.le_of_ble_eq_true rfl) (Nat.le_of_ble_eq_true rfl) rfl rfl ?_
      refine m_sumNow M5 W5 (a := 24) (n := 20) (by decide) ?_
      refine wq_top (congrArg nI ((sumF_congr 20 (fun j hj => by rw [rf_d _ (by omega) (by omega)]; congr 1; omega)).trans (sum_s4 (Sow (AS A)) 5).symm)) ?_
      refine wq_addN rfl ?_
      refine wq_iret rfl ?_
      exact ansQ (K _ (lo_R (fr_trans (fr_refl xR σ) (fr_mono F5 xC_R))) (mi_k hMR hMT (fr_trans (fr_refl xR σ) (fr_mono F5 xC_R)) (fg_trans (fg_refl yC g) G5) M5)) (by simp [F_count, ew, od_s, od_n])
    · refine wq_swN rfl rfl (by decide) rfl ?_
      refine wq_go rfl (fun _ => rfl) ?_
      refine wq_cN (m := 16) rfl rfl ?_
      refine wq_cN (m := 4) rfl rfl ?_
      refine wq_callV rfl rfl (by first | rfl | assumption) (by first | decide | omega | assumption) (Nat.le_of_ble_eq_true rfl) (Nat.le_of_ble_eq_true rfl) rfl rfl ?_
      refine m_bitsFrom M5 W5 (x := bitN (Ssc (AS A))) (a := 16) (n := 4) (by decide) (by decide) (fun j hj => rf_sc _ (by omega)) (fun j hj => bitN_le _ _) ?_
      refine wq_top (congrArg nI (orF_sc _ hosc)) ?_
      refine wq_iret rfl ?_
      exact ansQ (K _ (lo_R (fr_trans (fr_refl xR σ) (fr_mono F5 xC_R))) (mi_k hMR hMT (fr_trans (fr_refl xR σ) (fr_mono F5 xC_R)) (fg_trans (fg_refl yC g) G5) M5)) (by simp [F_count, ew, od_s, od_n])
    · refine wq_swN rfl rfl (by decide) rfl ?_
      refine wq_go rfl (fun _ => rfl) ?_
      refine wq_getf rfl (by first | rfl | assumption) (by first | decide | omega | assumption) (md_o M5) rfl ?_
      refine wq_top ((G5 2 rfl).trans hMR.2.2.2.2.2.2.2.2.2.2.1) ?_
      refine wq_iret rfl ?_
      exact ansQ (K _ (lo_R (fr_trans (fr_refl xR σ) (fr_mono F5 xC_R))) (mi_k hMR hMT (fr_trans (fr_refl xR σ) (fr_mono F5 xC_R)) (fg_trans (fg_refl yC g) G5) M5)) (by simp [F_count, ew, od_s, od_n])
    · refine wq_swN rfl rfl (by decide) rfl ?_
      refine wq_go rfl (fun _ => rfl) ?_
      refine wq_getf rfl (by first | rfl | assumption) (by first | decide | omega | assumption) (md_o M5) rfl ?_
      refine wq_top ((G5 57 rfl).trans hMR.2.1) ?_
      refine wq_iret rfl ?_
      exact ansQ (K _ (lo_R (fr_trans (fr_refl xR σ) (fr_mono F5 xC_R))) (mi_k hMR hMT (fr_trans (fr_refl xR σ) (fr_mono F5 xC_R)) (fg_trans (fg_refl yC g) G5) M5)) (by simp [F_count, ew, od_s, od_n])
    · refine wq_swN rfl rfl (by decide) rfl ?_
      refine wq_go rfl (fun _ => rfl) ?_
      refine wq_getf rfl (by first | rfl | assumption) (by first | decide | omega | assumption) (md_o M5) rfl ?_
      refine wq_top ((G5 59 rfl).trans hMR.2.2.2.1) ?_
      refine wq_iret rfl ?_
      exact ansQ (K _ (lo_R (fr_trans (fr_refl xR σ) (fr_mono F5 xC_R))) (mi_k hMR hMT (fr_trans (fr_refl xR σ) (fr_mono F5 xC_R)) (fg_trans (fg_refl yC g) G5) M5)) (by simp [F_count, ew, od_s, od_n])
    · refine wq_swN rfl rfl (by decide) rfl ?_
      have hpc := held_pc (Ah A) hAh
      have hb0 := bitN_le (Ah A) 0
      have hb1 := bitN_le (Ah A) 1
      have hb2 := bitN_le (Ah A) 2
      refine wq_go rfl (fun _ => rfl) ?_
      refine wq_getf rfl (by first | rfl | assumption) (by first | decide | omega | assumption) (md_o M5) rfl ?_
      refine wq_cN (m := 0) rfl rfl ?_
      refine wq_baldN rfl (by first | rfl | assumption) (Or.inr rfl) (by first | decide | omega | assumption) (((fr_trans (fr_refl xR σ) (fr_mono F5 xC_R)) 329 rfl).trans hMR.2.2.2.2.2.2.2.1) rfl (by omega) (by first | decide | omega) ?_
      refine wq_zeq rfl (by first | omega | decide | exact Nat.lt_of_le_of_lt Nat.and_le_right (by decide) | exact ⟨by omega, by omega⟩) (fun c69 => ?_) (fun c69 => ?_)
      · skip
        refine wq_cN (m := 0) rfl rfl ?_
        refine wq_go rfl (fun _ => rfl) ?_
        refine wq_getf rfl (by first | rfl | assumption) (by first | decide | omega | assumption) (md_o M5) rfl ?_
        refine wq_cN (m := 1) rfl rfl ?_
        refine wq_baldN rfl (by first | rfl | assumption) (Or.inr rfl) (by first | decide | omega | assumption) (((fr_trans (fr_refl xR σ) (fr_mono F5 xC_R)) 329 rfl).trans hMR.2.2.2.2.2.2.2.1) rfl (by omega) (by first | decide | omega) ?_
        refine wq_zeq rfl (by first | omega | decide | exact Nat.lt_of_le_of_lt Nat.and_le_right (by decide) | exact ⟨by omega, by omega⟩) (fun c77 => ?_) (fun c77 => ?_)
        · skip
          refine wq_cN (m := 0) rfl rfl ?_
          refine wq_addN rfl ?_
          refine wq_go rfl (fun _ => rfl) ?_
          refine wq_getf rfl (by first | rfl | assumption) (by first | decide | omega | assumption) (md_o M5) rfl ?_
          refine wq_cN (m := 2) rfl rfl ?_
          refine wq_baldN rfl (by first | rfl | assumption) (Or.inr rfl) (by first | decide | omega | assumption) (((fr_trans (fr_refl xR σ) (fr_mono F5 xC_R)) 329 rfl).trans hMR.2.2.2.2.2.2.2.1) rfl (by omega) (by first | decide | omega) ?_
          refine wq_zeq rfl (by first | omega | decide | exact Nat.lt_of_le_of_lt Nat.and_le_right (by decide) | exact ⟨by omega, by omega⟩) (fun c86 => ?_) (fun c86 => ?_)
          · skip
            refine wq_cN (m := 0) rfl rfl ?_
            refine wq_addN rfl ?_
            refine wq_iret rfl ?_
            exact ansQ (K _ (lo_R (fr_trans (fr_refl xR σ) (fr_mono F5 xC_R))) (mi_k hMR hMT (fr_trans (fr_refl xR σ) (fr_mono F5 xC_R)) (fg_trans (fg_refl yC g) G5) M5)) ((congrArg nI (show _ = pc (Ah A) by omega)).trans (by simp [F_count, ew, od_s, od_n]))
          · skip
            refine wq_cN (m := 1) rfl rfl ?_
            refine wq_go rfl (fun _ => rfl) ?_
            refine wq_addN rfl ?_
            refine wq_iret rfl ?_
            exact ansQ (K _ (lo_R (fr_trans (fr_refl xR σ) (fr_mono F5 xC_R))) (mi_k hMR hMT (fr_trans (fr_refl xR σ) (fr_mono F5 xC_R)) (fg_trans (fg_refl yC g) G5) M5)) ((congrArg nI (show _ = pc (Ah A) by omega)).trans (by simp [F_count, ew, od_s, od_n]))
        · skip
          refine wq_cN (m := 1) rfl rfl ?_
          refine wq_go rfl (fun _ => rfl) ?_
          refine wq_addN rfl ?_
          refine wq_go rfl (fun _ => rfl) ?_
          refine wq_getf rfl (by first | rfl | assumption) (by first | decide | omega | assumption) (md_o M5) rfl ?_
          refine wq_cN (m := 2) rfl rfl ?_
          refine wq_baldN rfl (by first | rfl | assumption) (Or.inr rfl) (by first | decide | omega | assumption) (((fr_trans (fr_refl xR σ) (fr_mono F5 xC_R)) 329 rfl).trans hMR.2.2.2.2.2.2.2.1) rfl (by omega) (by first | decide | omega) ?_
          refine wq_zeq rfl (by first | omega | decide | exact Nat.lt_of_le_of_lt Nat.and_le_right (by decide) | exact ⟨by omega, by omega⟩) (fun c86 => ?_) (fun c86 => ?_)
          · skip
            refine wq_cN (m := 0) rfl rfl ?_
            refine wq_addN rfl ?_
            refine wq_iret rfl ?_
            exact ansQ (K _ (lo_R (fr_trans (fr_refl xR σ) (fr_mono F5 xC_R))) (mi_k hMR hMT (fr_trans (fr_refl xR σ) (fr_mono F5 xC_R)) (fg_trans (fg_refl yC g) G5) M5)) ((congrArg nI (show _ = pc (Ah A) by omega)).trans (by simp [F_count, ew, od_s, od_n]))
          · skip
            refine wq_cN (m := 1) rfl rfl ?_
            refine wq_go rfl (fun _ => rfl) ?_
            refine wq_addN rfl ?_
            refine wq_iret rfl ?_
            exact ansQ (K _ (lo_R (fr_trans (fr_refl xR σ) (fr_mono F5 xC_R))) (mi_k hMR hMT (fr_trans (fr_refl xR σ) (fr_mono F5 xC_R)) (fg_trans (fg_refl yC g) G5) M5)) ((congrArg nI (show _ = pc (Ah A) by omega)).trans (by simp [F_count, ew, od_s, od_n]))
      · skip
        refine wq_cN (m := 1) rfl rfl ?_
        refine wq_go rfl (fun _ => rfl) ?_
        refine wq_go rfl (fun _ => rfl) ?_
        refine wq_getf rfl (by first | rfl | assumption) (by first | decide | omega | assumption) (md_o M5) rfl ?_
        refine wq_cN (m := 1) rfl rfl ?_
        refine wq_baldN rfl (by first | rfl | assumption) (Or.inr rfl) (by first | decide | omega | assumption) (((fr_trans (fr_refl xR σ) (fr_mono F5 xC_R)) 329 rfl).trans hMR.2.2.2.2.2.2.2.1) rfl (by omega) (by first | decide | omega) ?_
        refine wq_zeq rfl (by first | omega | decide | exact Nat.lt_of_le_of_lt Nat.and_le_right (by decide) | exact ⟨by omega, by omega⟩) (fun c77 => ?_) (fun c77 => ?_)
        · skip
          refine wq_cN (m := 0) rfl rfl ?_
          refine wq_addN rfl ?_
          refine wq_go rfl (fun _ => rfl) ?_
          refine wq_getf rfl (by first | rfl | assumption) (by first | decide | omega | assumption) (md_o M5) rfl ?_
          refine wq_cN (m := 2) rfl rfl ?_
          refine wq_baldN rfl (by first | rfl | assumption) (Or.inr rfl) (by first | decide | omega | assumption) (((fr_trans (fr_refl xR σ) (fr_mono F5 xC_R)) 329 rfl).trans hMR.2.2.2.2.2.2.2.1) rfl (by omega) (by first | decide | omega) ?_
          refine wq_zeq rfl (by first | omega | decide | exact Nat.lt_of_le_of_lt Nat.and_le_right (by decide) | exact ⟨by omega, by omega⟩) (fun c86 => ?_) (fun c86 => ?_)
          · skip
            refine wq_cN (m := 0) rfl rfl ?_
            refine wq_addN rfl ?_
            refine wq_iret rfl ?_
            exact ansQ (K _ (lo_R (fr_trans (fr_refl xR σ) (fr_mono F5 xC_R))) (mi_k hMR hMT (fr_trans (fr_refl xR σ) (fr_mono F5 xC_R)) (fg_trans (fg_refl yC g) G5) M5)) ((congrArg nI (show _ = pc (Ah A) by omega)).trans (by simp [F_count, ew, od_s, od_n]))
          · skip
            refine wq_cN (m := 1) rfl rfl ?_
            refine wq_go rfl (fun _ => rfl) ?_
            refine wq_addN rfl ?_
            refine wq_iret rfl ?_
            exact ansQ (K _ (lo_R (fr_trans (fr_refl xR σ) (fr_mono F5 xC_R))) (mi_k hMR hMT (fr_trans (fr_refl xR σ) (fr_mono F5 xC_R)) (fg_trans (fg_refl yC g) G5) M5)) ((congrArg nI (show _ = pc (Ah A) by omega)).trans (by simp [F_count, ew, od_s, od_n]))
        · skip
          refine wq_cN (m := 1) rfl rfl ?_
          refine wq_go rfl (fun _ => rfl) ?_
          refine wq_addN rfl ?_
          refine wq_go rfl (fun _ => rfl) ?_
          refine wq_getf rfl (by first | rfl | assumption) (by first | decide | omega | assumption) (md_o M5) rfl ?_
          refine wq_cN (m := 2) rfl rfl ?_
          refine wq_baldN rfl (by first | rfl | assumption) (Or.inr rfl) (by first | decide | omega | assumption) (((fr_trans (fr_refl xR σ) (fr_mono F5 xC_R)) 329 rfl).trans hMR.2.2.2.2.2.2.2.1) rfl (by omega) (by first | decide | omega) ?_
          refine wq_zeq rfl (by first | omega | decide | exact Nat.lt_of_le_of_lt Nat.and_le_right (by decide) | exact ⟨by omega, by omega⟩) (fun c86 => ?_) (fun c86 => ?_)
          · skip
            refine wq_cN (m := 0) rfl rfl ?_
            refine wq_addN rfl ?_
            refine wq_iret rfl ?_
            exact ansQ (K _ (lo_R (fr_trans (fr_refl xR σ) (fr_mono F5 xC_R))) (mi_k hMR hMT (fr_trans (fr_refl xR σ) (fr_mono F5 xC_R)) (fg_trans (fg_refl yC g) G5) M5)) ((congrArg nI (show _ = pc (Ah A) by omega)).trans (by simp [F_count, ew, od_s, od_n]))
          · skip
            refine wq_cN (m := 1) rfl rfl ?_
            refine wq_go rfl (fun _ => rfl) ?_
            refine wq_addN rfl ?_
            refine wq_iret rfl ?_
            exact ansQ (K _ (lo_R (fr_trans (fr_refl xR σ) (fr_mono F5 xC_R))) (mi_k hMR hMT (fr_trans (fr_refl xR σ) (fr_mono F5 xC_R)) (fg_trans (fg_refl yC g) G5) M5)) ((congrArg nI (show _ = pc (Ah A) by omega)).trans (by simp [F_count, ew, od_s, od_n]))
    · refine wq_swN rfl rfl (by decide) rfl ?_
      refine wq_go rfl (fun _ => rfl) ?_
      refine wq_callV rfl rfl (by first | rfl | assumption) (by first | decide | omega | assumption) (Nat.le_of_ble_eq_true rfl) (Nat.le_of_ble_eq_true rfl) rfl rfl ?_
      refine m_isMoth M5 hok R5 s5 (fun eb => ?_) (fun eb => ?_)
      · skip
        refine wq_zeq rfl (by first | omega | decide | exact Nat.lt_of_le_of_lt Nat.and_le_right (by decide) | exact ⟨by omega, by omega⟩) (fun c => absurd c (by omega)) (fun c94 => ?_)
        refine wq_cN (m := 1) rfl rfl ?_
        refine wq_go rfl (fun _ => rfl) ?_
        refine wq_iret rfl ?_
        exact ansQ (K _ (lo_R (fr_trans (fr_refl xR σ) (fr_mono F5 xC_R))) (mi_k hMR hMT (fr_trans (fr_refl xR σ) (fr_mono F5 xC_R)) (fg_trans (fg_refl yC g) G5) M5)) (by simp [F_count, ew, od_s, od_n, eb])
      · skip
        refine wq_zeq rfl (by first | omega | decide | exact Nat.lt_of_le_of_lt Nat.and_le_right (by decide) | exact ⟨by omega, by omega⟩) (fun c94 => ?_) (fun c => absurd (show _ from by omega) c)
        refine wq_cN (m := 0) rfl rfl ?_
        refine wq_iret rfl ?_
        exact ansQ (K _ (lo_R (fr_trans (fr_refl xR σ) (fr_mono F5 xC_R))) (mi_k hMR hMT (fr_trans (fr_refl xR σ) (fr_mono F5 xC_R)) (fg_trans (fg_refl yC g) G5) M5)) (by simp [F_count, ew, od_s, od_n, eb])
    · refine wq_swN rfl rfl (by decide) rfl ?_
      refine wq_cN (m := 0) rfl rfl ?_
      refine wq_go rfl (fun _ => rfl) ?_
      exact wq_lv ⟨(by decide : ([3, 2, 0, 1] : List Nat).Nodup), (lvm (List.mem_of_getElem? (i := 0) rfl) (lvm (List.mem_of_getElem? (i := 1) rfl) (lvm (List.mem_of_getElem? (i := 2) rfl) (lvm (List.mem_of_getElem? (i := 3) rfl) lvn))))⟩ (m_cnt13 M5 hok R5 W5 (ansQ (K _ (lo_R (fr_trans (fr_refl xR σ) (fr_mono F5 xC_R))) (mi_k hMR hMT (fr_trans (fr_refl xR σ) (fr_mono F5 xC_R)) (fg_trans (fg_refl yC g) G5) M5)) (by rw [sayers_eq]; simp [F_count, ew, od_s, od_n])) _ 0 rfl)
    · refine wq_swN rfl rfl (by decide) rfl ?_
      refine wq_go rfl (fun _ => rfl) ?_
      refine wq_cN (m := 49) rfl rfl ?_
      refine wq_cN (m := 10) rfl rfl ?_
      refine wq_callV rfl rfl (by first | rfl | assumption) (by first | decide | omega | assumption) (Nat.le_of_ble_eq_true rfl) (Nat.le_of_ble_eq_true rfl) rfl rfl ?_
      refine m_bitsFrom M5 W5 (x := bitN (Skp (AS A))) (a := 49) (n := 10) (by decide) (by decide) (fun j hj => rf_kp _ (by omega)) (fun j hj => bitN_le _ _) ?_
      refine wq_top (congrArg nI (orF_kp _ hokp)) ?_
      refine wq_iret rfl ?_
      exact ansQ (K _ (lo_R (fr_trans (fr_refl xR σ) (fr_mono F5 xC_R))) (mi_k hMR hMT (fr_trans (fr_refl xR σ) (fr_mono F5 xC_R)) (fg_trans (fg_refl yC g) G5) M5)) (by simp [F_count, ew, od_s, od_n])
    · refine wq_swN rfl rfl (by decide) rfl ?_
      refine wq_cN (m := 0) rfl rfl ?_
      refine wq_go rfl (fun _ => rfl) ?_
      exact wq_lv ⟨(by decide : ([3, 2, 0, 1] : List Nat).Nodup), (lvm (List.mem_of_getElem? (i := 0) rfl) (lvm (List.mem_of_getElem? (i := 1) rfl) (lvm (List.mem_of_getElem? (i := 2) rfl) (lvm (List.mem_of_getElem? (i := 3) rfl) lvn))))⟩ (m_cnt15 M5 hok R5 W5 (ansQ (K _ (lo_R (fr_trans (fr_refl xR σ) (fr_mono F5 xC_R))) (mi_k hMR hMT (fr_trans (fr_refl xR σ) (fr_mono F5 xC_R)) (fg_trans (fg_refl yC g) G5) M5)) (by simp [F_count, ew, od_s, od_n])) _ 0 rfl)
    · refine wq_swN rfl rfl (by decide) rfl ?_
      refine wq_go rfl (fun _ => rfl) ?_
      refine wq_cN (m := 20) rfl rfl ?_
      refine wq_cN (m := 4) rfl rfl ?_
      refine wq_callV rfl rfl (by first | rfl | assumption) (by first | decide | omega | assumption) (Nat.le_of_ble_eq_true rfl) (Nat.le_of_ble_eq_true rfl) rfl rfl ?_
      refine m_sumNow M5 W5 (a := 20) (n := 4) (by decide) ?_
      refine wq_top (congrArg nI ((sumF_congr 4 (fun j hj => rf_si _ hj)).trans hsum)) ?_
      refine wq_iret rfl ?_
      exact ansQ (K _ (lo_R (fr_trans (fr_refl xR σ) (fr_mono F5 xC_R))) (mi_k hMR hMT (fr_trans (fr_refl xR σ) (fr_mono F5 xC_R)) (fg_trans (fg_refl yC g) G5) M5)) (by simp [F_count, ew, od_s, od_n])
    · refine wq_swN rfl rfl (by decide) rfl ?_
      refine wq_cN (m := 0) rfl rfl ?_
      refine wq_go rfl (fun _ => rfl) ?_
      exact wq_lv ⟨(by decide : ([3, 2, 0, 1] : List Nat).Nodup), (lvm (List.mem_of_getElem? (i := 0) rfl) (lvm (List.mem_of_getElem? (i := 1) rfl) (lvm (List.mem_of_getElem? (i := 2) rfl) (lvm (List.mem_of_getElem? (i := 3) rfl) lvn))))⟩ (m_cnt17 M5 hok R5 W5 (ansQ (K _ (lo_R (fr_trans (fr_refl xR σ) (fr_mono F5 xC_R))) (mi_k hMR hMT (fr_trans (fr_refl xR σ) (fr_mono F5 xC_R)) (fg_trans (fg_refl yC g) G5) M5)) (by simp [F_count, ew, od_s, od_n])) _ 0 rfl)
    · refine wq_swN rfl rfl (by decide) rfl ?_
      refine wq_cN (m := 0) rfl rfl ?_
      refine wq_go rfl (fun _ => rfl) ?_
      exact wq_lv ⟨(by decide : ([3, 2, 0, 1] : List Nat).Nodup), (lvm (List.mem_of_getElem? (i := 0) rfl) (lvm (List.mem_of_getElem? (i := 1) rfl) (lvm (List.mem_of_getElem? (i := 2) rfl) (lvm (List.mem_of_getElem? (i := 3) rfl) lvn))))⟩ (m_cnt18 M5 hok R5 W5 (ansQ (K _ (lo_R (fr_trans (fr_refl xR σ) (fr_mono F5 xC_R))) (mi_k hMR hMT (fr_trans (fr_refl xR σ) (fr_mono F5 xC_R)) (fg_trans (fg_refl yC g) G5) M5)) (by simp [F_count, ew, od_s, od_n])) _ 0 rfl)
