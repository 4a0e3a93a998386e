/-! CALLS THAT ASK: the reference's helpers -/
theorem xC_R : ∀ j, xC j = true → xR j = true := by
  intro j h
  simp only [xC, xR, Bool.or_eq_true] at h ⊢
  rcases h with h | h
  · exact Or.inl (Or.inl (Or.inl (Or.inl h)))
  · exact Or.inl (Or.inr h)
theorem xVR : ∀ j, xV j = true → xR j = true := fun j h => xW_R j (xV_W j h)
theorem lo_R {σ σ' : Nat → List Value} (h : Fr xR σ σ') : Lo σ σ' := lo_fr h (fun j hj => by
  have a1 : (j == 287) = false := by simp; omega
  have a2 : (j == 320) = false := by simp; omega
  have a3 : (j == 321) = false := by simp; omega
  have a4 : (j == 323) = false := by simp; omega
  have a5 : (j == 324) = false := by simp; omega
  simp only [xR, a1, a2, a3, a4, a5, Bool.or_false])
theorem mi_k {A : Sy} {g g' : Nat → Int32} {L : Nat} {σ σ' : Nat → List Value} (hR : MR A g σ) (hT : MT (AP A) L σ) (hF : Fr xR σ σ') (hG : FrG yC g g') (hM : MD (AP A) L g' σ') : MI A σ' := by
  have o : ∀ j, (j < 320 ∧ j ≠ 287) ∨ j = 322 ∨ 325 ≤ j → σ' j = σ j := fun j hj => hF j (by
    have a1 : (j == 287) = false := by simp; omega
    have a2 : (j == 320) = false := by simp; omega
    have a3 : (j == 321) = false := by simp; omega
    have a4 : (j == 323) = false := by simp; omega
    have a5 : (j == 324) = false := by simp; omega
    simp only [xR, a1, a2, a3, a4, a5, Bool.or_false])
  exact ⟨L, g', hM, mr_eq hR hG (fun j hj => o j (by omega)), mt_eq hT (fun j hj => o j (by omega))⟩
theorem seat_ow (P : Pl) (S : St) (h c : Nat) {t : Nat} (ht : t < 4) : Sow (seatS P S h c) (h * 4 + t) = ((Sow S (h * 4 + t) : Int) + gainZ P S h c t).toNat := by
  show (if h * 4 ≤ h * 4 + t ∧ h * 4 + t < h * 4 + 4 then (((Sow S (h * 4 + t) : Nat) : Int) + gainZ P S h c (h * 4 + t - h * 4)).toNat else _) = _
  rw [if_pos (by omega), show h * 4 + t - h * 4 = t by omega]
theorem seat_sq (P : Pl) (S : St) (h c : Nat) {t : Nat} (ht : t < 4) : Ssq (seatS P S h c) (c * 4 + t) = ((Ssq S (c * 4 + t) : Int) - gainZ P S h c t).toNat := by
  show (if c * 4 ≤ c * 4 + t ∧ c * 4 + t < c * 4 + 4 then (((Ssq S (c * 4 + t) : Nat) : Int) - gainZ P S h c (c * 4 + t - c * 4)).toNat else _) = _
  rw [if_pos (by omega), show c * 4 + t - c * 4 = t by omega]
theorem seat_own (P : Pl) (S : St) {h s : Nat} (c t : Nat) (hs : ¬ s = h) (ht : t < 4) : Sow (seatS P S s c) (h * 4 + t) = Sow S (h * 4 + t) := if_neg (by omega)
/-- what a square has of a thing behind a sitting -/
def thenN (P : Pl) (S : St) (h q : Nat) : Nat := ((Ssq S q : Int) - gainZ P S h (q / 4) (q % 4)).toNat
theorem then_sq (P : Pl) (S : St) (h q : Nat) : Ssq (seatS P S h (q / 4)) q = thenN P S h q := by
  have e : q = q / 4 * 4 + q % 4 := by omega
  have := seat_sq P S h (q / 4) (t := q % 4) (by omega)
  rw [← e] at this
  exact this
theorem then_lv (P : Pl) {S : St} (hok : Sok S) {h q a : Nat} (hh : h < 5) (hq : q < 16) : decide (a ≤ thenN P S h q) = lvB P S (q / 4) (q % 4) a h := by
  have hg := gain_bd P hok (h := h) (c := q / 4) (t := q % 4) hh (by omega) (by omega)
  unfold thenN lvB
  rw [show q / 4 * 4 + q % 4 = q by omega] at hg ⊢
  apply decide_eq_decide.mpr
  omega
theorem then_le (P : Pl) {S : St} (hok : Sok S) {h q : Nat} (hh : h < 5) (hq : q < 16) : thenN P S h q ≤ 1980 := by
  rw [← then_sq]
  exact sq_le (seat_ok P hok hh (by omega)) hq

theorem m_gainOf {xs : List Int32} {d : Nat} {σ : Nat → List Value} {Q : Option Value → (Nat → List Value) → Prop} {P : Pl} {L : Nat} {g : Nat → Int32} (hM : MD P L g σ) {S : St} (hok : Sok S) (hN : NwIs σ S) {h c t : Nat} (hh : h < Phd P) (hc : c < Pch P) (ht : t < 4)  (K : ∀ σ' g', Fr xR σ σ' → FrG yC g g' → MD P L g' σ' → Q (some (.int (zI (gainZ P S h c t)))) σ') : Wq xs (d + 5) ax_cd299 0 [(0, .ref 287), (1, .int (nI h)), (2, .int (nI c)), (3, .int (nI t))] [] σ Q := by
  have hL2 := md_l2 hM
  obtain ⟨hP1, hP2, hP3, hP4, hP5, hP6, hP7, hP8, hPv, hPm, hPo, hPw, hPl⟩ := md_pok hM
  have hhr := hok.2.1
  have hgb := gain_bd P hok (h := h) (c := c) (t := t) (by omega) (by omega) ht
  refine wq_go rfl (fun _ => rfl) ?_
  refine wq_callV rfl rfl (by first | rfl | assumption) (by first | decide | omega | assumption) (Nat.le_of_ble_eq_true rfl) (Nat.le_of_ble_eq_true rfl) rfl rfl ?_
  refine m_copies hM hN (fun σ5 g5 F5 G5 s5 t5 M5 R5 => ?_)
  have W5 : NwIs σ5 S := (F5 322 rfl).trans hN
  refine wq_go rfl (fun _ => rfl) ?_
  refine wq_go rfl (fun _ => rfl) ?_
  refine wq_go rfl (fun _ => rfl) ?_
  refine wq_callV rfl rfl (by first | rfl | assumption) (by first | decide | omega | assumption) (Nat.le_of_ble_eq_true rfl) (Nat.le_of_ble_eq_true rfl) rfl rfl ?_
  refine m_sits M5 hok R5 hh hc (fun σ6 g6 F6 G6 M6 R6 => ?_)
  have W6 : NwIs σ6 S := (F6 322 rfl).trans W5
  refine wq_go rfl (fun _ => rfl) ?_
  refine wq_getf rfl (by first | rfl | assumption) (by first | decide | omega | assumption) (md_o M6) rfl ?_
  refine wq_cN (m := 24) rfl rfl ?_
  refine wq_cN (m := 4) rfl rfl ?_
  refine wq_go rfl (fun _ => rfl) ?_
  refine wq_mulN rfl ?_
  refine wq_addN rfl ?_
  refine wq_go rfl (fun _ => rfl) ?_
  refine wq_addN rfl ?_
  refine wq_ialdN rfl (by first | rfl | assumption) (by first | decide | omega | assumption) R6 rfl (by omega) (by first | decide | omega) ?_
  refine wq_top (congrArg nI ((rf_ow _ (by omega) (by omega)).trans (seat_ow P S h c ht))) ?_
  refine wq_go rfl (fun _ => rfl) ?_
  refine wq_getf rfl (by first | rfl | assumption) (by first | decide | omega | assumption) (md_o M6) rfl ?_
  refine wq_cN (m := 24) rfl rfl ?_
  refine wq_cN (m := 4) rfl rfl ?_
  refine wq_go rfl (fun _ => rfl) ?_
  refine wq_mulN rfl ?_
  refine wq_addN rfl ?_
  refine wq_go rfl (fun _ => rfl) ?_
  refine wq_addN rfl ?_
  refine wq_ialdN rfl (by first | rfl | assumption) (by first | decide | omega | assumption) W6 rfl (by omega) (by first | decide | omega) ?_
  refine wq_top (congrArg nI (rf_ow _ (by omega) (by omega))) ?_
  refine wq_subZ rfl (nI_z _) (nI_z _) ?_
  refine wq_iret rfl ?_
  exact ansQ (K _ _ (fr_trans (fr_trans (fr_refl xR σ) (fr_mono F5 xC_R)) F6) (fg_trans (fg_trans (fg_refl yC g) G5) (fg_mono G6 yB_C)) M6) (congrArg zI (by omega))
theorem m_hasThen {xs : List Int32} {d : Nat} {σ : Nat → List Value} {Q : Option Value → (Nat → List Value) → Prop} {P : Pl} {L : Nat} {g : Nat → Int32} (hM : MD P L g σ) {S : St} (hok : Sok S) (hN : NwIs σ S) {h q : Nat} (hh : h < Phd P) (hq : q / 4 < Pch P)  (K : ∀ σ' g', Fr xR σ σ' → FrG yC g g' → MD P L g' σ' → Q (some (.int (nI (thenN P S h q)))) σ') : Wq xs (d + 5) ax_cd328 0 [(0, .ref 287), (1, .int (nI h)), (2, .int (nI q))] [] σ Q := by
  have hL2 := md_l2 hM
  obtain ⟨hP1, hP2, hP3, hP4, hP5, hP6, hP7, hP8, hPv, hPm, hPo, hPw, hPl⟩ := md_pok hM
  have hhr := hok.2.1
  refine wq_go rfl (fun _ => rfl) ?_
  refine wq_callV rfl rfl (by first | rfl | assumption) (by first | decide | omega | assumption) (Nat.le_of_ble_eq_true rfl) (Nat.le_of_ble_eq_true rfl) rfl rfl ?_
  refine m_copies hM hN (fun σ5 g5 F5 G5 s5 t5 M5 R5 => ?_)
  have W5 : NwIs σ5 S := (F5 322 rfl).trans hN
  refine wq_go rfl (fun _ => rfl) ?_
  refine wq_go rfl (fun _ => rfl) ?_
  refine wq_go rfl (fun _ => rfl) ?_
  refine wq_cN (m := 4) rfl rfl ?_
  refine wq_divN rfl (by first | decide | omega) (by first | decide | omega) (by first | decide | omega) ?_
  refine wq_callV rfl rfl (by first | rfl | assumption) (by first | decide | omega | assumption) (Nat.le_of_ble_eq_true rfl) (Nat.le_of_ble_eq_true rfl) rfl rfl ?_
  refine m_sits M5 hok R5 hh hq (fun σ6 g6 F6 G6 M6 R6 => ?_)
  have W6 : NwIs σ6 S := (F6 322 rfl).trans W5
  refine wq_go rfl (fun _ => rfl) ?_
  refine wq_getf rfl (by first | rfl | assumption) (by first | decide | omega | assumption) (md_o M6) rfl ?_
  refine wq_go rfl (fun _ => rfl) ?_
  refine wq_ialdN rfl (by first | rfl | assumption) (by first | decide | omega | assumption) R6 rfl (by omega) (by first | decide | omega) ?_
  refine wq_top (congrArg nI ((rf_a _ (by omega)).trans (then_sq P S h q))) ?_
  refine wq_iret rfl ?_
  exact K _ _ (fr_trans (fr_trans (fr_refl xR σ) (fr_mono F5 xC_R)) F6) (fg_trans (fg_trans (fg_refl yC g) G5) (fg_mono G6 yB_C)) M6
theorem m_mostOf_l {xs : List Int32} {d : Nat} {σ : Nat → List Value} {Q : Option Value → (Nat → List Value) → Prop} {P : Pl} {L : Nat} {g : Nat → Int32} (hM : MD P L g σ) {S : St} (hN : NwIs σ S) {a n : Nat} (ha : a < 60) (hn : n ≤ 5) (hb : ∀ i, i < n → a + 4 * i < 61) (hv : ∀ i, i < n → rowF S (a + 4 * i) ≤ 1980)  (K : Q (some (.int (oI (am (fun i => (rowF S (a + 4 * i) : Int)) (List.range n))))) σ) : ∀ (m u : Nat), m + u = n → Wq xs (d + 0) ax_cd302 4 [(4, .int (nI u)), (3, .int (oI (am (fun i => (rowF S (a + 4 * i) : Int)) (List.range u)))), (0, .ref 287), (1, .int (nI a)), (2, .int (nI n))] [] σ Q := by
  have hL2 := md_l2 hM
  obtain ⟨hP1, hP2, hP3, hP4, hP5, hP6, hP7, hP8, hPv, hPm, hPo, hPw, hPl⟩ := md_pok hM
  intro m
  induction m with
  | zero =>
    intro u hm
    refine wq_go rfl (fun _ => rfl) ?_
    refine wq_go rfl (fun _ => rfl) ?_
    refine wq_cge rfl (by first | omega | decide | exact Nat.lt_of_le_of_lt Nat.and_le_right (by decide) | exact ⟨by omega, by omega⟩) (by first | omega | decide | exact Nat.lt_of_le_of_lt Nat.and_le_right (by decide) | exact ⟨by omega, by omega⟩) (fun c6 => ?_) (fun c => absurd (show _ from by omega) c)
    refine wq_go rfl (fun _ => rfl) ?_
    refine wq_iret rfl ?_
    rw [show u = n by omega]
    exact K
  | succ m ih =>
    intro u hm
    cases hb0 : am (fun i => (rowF S (a + 4 * i) : Int)) (List.range u) with
    | none =>
      refine wq_go rfl (fun _ => rfl) ?_
      refine wq_go rfl (fun _ => rfl) ?_
      refine wq_cge rfl (by first | omega | decide | exact Nat.lt_of_le_of_lt Nat.and_le_right (by decide) | exact ⟨by omega, by omega⟩) (by first | omega | decide | exact Nat.lt_of_le_of_lt Nat.and_le_right (by decide) | exact ⟨by omega, by omega⟩) (fun c => absurd c (by omega)) (fun c6 => ?_)
      refine wq_go rfl (fun _ => rfl) ?_
      refine wq_ylt rfl (show (_ : Int32) = zI (-2) from by decide) (by first | omega | decide | exact Nat.lt_of_le_of_lt Nat.and_le_right (by decide) | exact ⟨by omega, by omega⟩) (fun c8 => ?_) (fun c => absurd (show _ from by omega) c)
      refine wq_go rfl (fun _ => rfl) ?_
      refine wq_go rfl (fun _ => rfl) ?_
      refine wq_incN rfl rfl rfl ?_
      refine wq_go rfl (fun _ => rfl) ?_
      have hi := ih (u + 1) (by omega)
      rw [List.range_succ] at hi
      first | rw [am_n (f := (fun i => (rowF S (a + 4 * i) : Int))) u hb0] at hi | rw [am_g (f := (fun i => (rowF S (a + 4 * i) : Int))) u hb0 (by omega)] at hi | rw [am_l (f := (fun i => (rowF S (a + 4 * i) : Int))) u hb0 (by omega)] at hi
      exact wq_lv ⟨(by decide : ([4, 3, 0, 1, 2] : List Nat).Nodup), (lvm (List.mem_of_getElem? (i := 0) rfl) (lvm (List.mem_of_getElem? (i := 1) rfl) (lvm (List.mem_of_getElem? (i := 2) rfl) (lvm (List.mem_of_getElem? (i := 3) rfl) (lvm (List.mem_of_getElem? (i := 4) rfl) lvn)))))⟩ hi
    | some b =>
      have hbn := am_rlt hb0
      have q1 := hv u (by omega)
      have q2 := hv b (by omega)
      have q3 := hb u (by omega)
      have q4 := hb b (by omega)
      refine wq_go rfl (fun _ => rfl) ?_
      refine wq_go rfl (fun _ => rfl) ?_
      refine wq_cge rfl (by first | omega | decide | exact Nat.lt_of_le_of_lt Nat.and_le_right (by decide) | exact ⟨by omega, by omega⟩) (by first | omega | decide | exact Nat.lt_of_le_of_lt Nat.and_le_right (by decide) | exact ⟨by omega, by omega⟩) (fun c => absurd c (by omega)) (fun c6 => ?_)
      refine wq_go rfl (fun _ => rfl) ?_
      refine wq_zlt rfl (by first | omega | decide | exact Nat.lt_of_le_of_lt Nat.and_le_right (by decide) | exact ⟨by omega, by omega⟩) (fun c => absurd c (by omega)) (fun c8 => ?_)
      refine wq_go rfl (fun _ => rfl) ?_
      refine wq_getf rfl (by first | rfl | assumption) (by first | decide | omega | assumption) (md_o hM) rfl ?_
      refine wq_go rfl (fun _ => rfl) ?_
      refine wq_cN (m := 4) rfl rfl ?_
      refine wq_go rfl (fun _ => rfl) ?_
      refine wq_mulN rfl ?_
      refine wq_addN rfl ?_
      refine wq_ialdN rfl (by first | rfl | assumption) (by first | decide | omega | assumption) hN rfl (by omega) (by first | decide | omega) ?_
      refine wq_go rfl (fun _ => rfl) ?_
      refine wq_getf rfl (by first | rfl | assumption) (by first | decide | omega | assumption) (md_o hM) rfl ?_
      refine wq_go rfl (fun _ => rfl) ?_
      refine wq_cN (m := 4) rfl rfl ?_
      refine wq_go rfl (fun _ => rfl) ?_
      refine wq_mulN rfl ?_
      refine wq_addN rfl ?_
      refine wq_ialdN rfl (by first | rfl | assumption) (by first | decide | omega | assumption) hN rfl (by omega) (by first | decide | omega) ?_
      refine wq_cle rfl (by first | omega | decide | exact Nat.lt_of_le_of_lt Nat.and_le_right (by decide) | exact ⟨by omega, by omega⟩) (by first | omega | decide | exact Nat.lt_of_le_of_lt Nat.and_le_right (by decide) | exact ⟨by omega, by omega⟩) (fun c25 => ?_) (fun c25 => ?_)
      · skip
        refine wq_incN rfl rfl rfl ?_
        refine wq_go rfl (fun _ => rfl) ?_
        have hi := ih (u + 1) (by omega)
        rw [List.range_succ] at hi
        first | rw [am_n (f := (fun i => (rowF S (a + 4 * i) : Int))) u hb0] at hi | rw [am_g (f := (fun i => (rowF S (a + 4 * i) : Int))) u hb0 (by omega)] at hi | rw [am_l (f := (fun i => (rowF S (a + 4 * i) : Int))) u hb0 (by omega)] at hi
        exact wq_lv ⟨(by decide : ([4, 3, 0, 1, 2] : List Nat).Nodup), (lvm (List.mem_of_getElem? (i := 0) rfl) (lvm (List.mem_of_getElem? (i := 1) rfl) (lvm (List.mem_of_getElem? (i := 2) rfl) (lvm (List.mem_of_getElem? (i := 3) rfl) (lvm (List.mem_of_getElem? (i := 4) rfl) lvn)))))⟩ hi
      · skip
        refine wq_go rfl (fun _ => rfl) ?_
        refine wq_go rfl (fun _ => rfl) ?_
        refine wq_incN rfl rfl rfl ?_
        refine wq_go rfl (fun _ => rfl) ?_
        have hi := ih (u + 1) (by omega)
        rw [List.range_succ] at hi
        first | rw [am_n (f := (fun i => (rowF S (a + 4 * i) : Int))) u hb0] at hi | rw [am_g (f := (fun i => (rowF S (a + 4 * i) : Int))) u hb0 (by omega)] at hi | rw [am_l (f := (fun i => (rowF S (a + 4 * i) : Int))) u hb0 (by omega)] at hi
        exact wq_lv ⟨(by decide : ([4, 3, 0, 1, 2] : List Nat).Nodup), (lvm (List.mem_of_getElem? (i := 0) rfl) (lvm (List.mem_of_getElem? (i := 1) rfl) (lvm (List.mem_of_getElem? (i := 2) rfl) (lvm (List.mem_of_getElem? (i := 3) rfl) (lvm (List.mem_of_getElem? (i := 4) rfl) lvn)))))⟩ hi
theorem m_mostOf {xs : List Int32} {d : Nat} {σ : Nat → List Value} {Q : Option Value → (Nat → List Value) → Prop} {P : Pl} {L : Nat} {g : Nat → Int32} (hM : MD P L g σ) {S : St} (hN : NwIs σ S) {a n : Nat} (ha : a < 60) (hn : n ≤ 5) (hb : ∀ i, i < n → a + 4 * i < 61) (hv : ∀ i, i < n → rowF S (a + 4 * i) ≤ 1980)  (K : Q (some (.int (oI (am (fun i => (rowF S (a + 4 * i) : Int)) (List.range n))))) σ) : Wq xs (d + 0) ax_cd302 0 [(0, .ref 287), (1, .int (nI a)), (2, .int (nI n))] [] σ Q := by
  have hL2 := md_l2 hM
  obtain ⟨hP1, hP2, hP3, hP4, hP5, hP6, hP7, hP8, hPv, hPm, hPo, hPw, hPl⟩ := md_pok hM
  refine wq_go rfl (fun _ => rfl) ?_
  refine wq_go rfl (fun _ => rfl) ?_
  refine wq_cN (m := 0) rfl rfl ?_
  refine wq_go rfl (fun _ => rfl) ?_
  exact m_mostOf_l hM hN ha hn hb hv K n 0 rfl
theorem m_off {xs : List Int32} {d : Nat} {σ : Nat → List Value} {Q : Option Value → (Nat → List Value) → Prop} {x y : Nat} (hx : x < 10000) (hy : y < 10000) (K : Q (some (.int (nI ((x : Int) - (y : Int)).natAbs))) σ) : Wq xs (d + 0) ax_cd312 0 [(0, .int (nI x)), (1, .int (nI y))] [] σ Q := by
  refine wq_go rfl (fun _ => rfl) ?_
  refine wq_go rfl (fun _ => rfl) ?_
  refine wq_cge rfl (by first | omega | decide | exact Nat.lt_of_le_of_lt Nat.and_le_right (by decide) | exact ⟨by omega, by omega⟩) (by first | omega | decide | exact Nat.lt_of_le_of_lt Nat.and_le_right (by decide) | exact ⟨by omega, by omega⟩) (fun c2 => ?_) (fun c2 => ?_)
  · skip
    refine wq_go rfl (fun _ => rfl) ?_
    refine wq_go rfl (fun _ => rfl) ?_
    refine wq_subN rfl (by omega) ?_
    refine wq_iret rfl ?_
    exact ansQ K (congrArg nI (by omega))
  · skip
    refine wq_go rfl (fun _ => rfl) ?_
    refine wq_go rfl (fun _ => rfl) ?_
    refine wq_subN rfl (by omega) ?_
    refine wq_go rfl (fun _ => rfl) ?_
    refine wq_iret rfl ?_
    exact ansQ K (congrArg nI (by omega))
theorem m_differ_l {xs : List Int32} {d : Nat} {σ : Nat → List Value} {Q : Option Value → (Nat → List Value) → Prop} {P : Pl} {L : Nat} {g : Nat → Int32} (hM : MD P L g σ) {S : St} (hN : NwIs σ S) {f : Nat → Nat} {o p q n : Nat} (ho : o ≤ 24) (hn : n ≤ 5) (hf : ∀ a t, a < n → t < 4 → rowF S (o + 4 * a + t) = f (a * 4 + t)) (hon : o + 4 * n ≤ 61) (hf2 : ∀ i, i < n * 4 → f i ≤ 1980) (hp : p < n) (hq : q < n)  (K : Q (some (.int (nI (dist f p q)))) σ) : ∀ (m u : Nat), m + u = 4 → Wq xs (d + 1) ax_cd311 4 [(4, .int (nI u)), (3, .int (nI (sumF (fun t => ((f (p * 4 + t) : Int) - (f (q * 4 + t) : Int)).natAbs) u))), (0, .ref 287), (1, .int (nI (o + 4 * p))), (2, .int (nI (o + 4 * q)))] [] σ Q := by
  have hL2 := md_l2 hM
  obtain ⟨hP1, hP2, hP3, hP4, hP5, hP6, hP7, hP8, hPv, hPm, hPo, hPw, hPl⟩ := md_pok hM
  intro m
  induction m with
  | zero =>
    intro u hm
    refine wq_go rfl (fun _ => rfl) ?_
    refine wq_cN (m := 4) rfl rfl ?_
    refine wq_cge rfl (by first | omega | decide | exact Nat.lt_of_le_of_lt Nat.and_le_right (by decide) | exact ⟨by omega, by omega⟩) (by first | omega | decide | exact Nat.lt_of_le_of_lt Nat.and_le_right (by decide) | exact ⟨by omega, by omega⟩) (fun c6 => ?_) (fun c => absurd (show _ from by omega) c)
    refine wq_go rfl (fun _ => rfl) ?_
    refine wq_iret rfl ?_
    rw [show u = 4 by omega]
    exact K
  | succ m ih =>
    intro u hm
    have q1 := hf2 (p * 4 + u) (by omega)
    have q2 := hf2 (q * 4 + u) (by omega)
    refine wq_go rfl (fun _ => rfl) ?_
    refine wq_cN (m := 4) rfl rfl ?_
    refine wq_cge rfl (by first | omega | decide | exact Nat.lt_of_le_of_lt Nat.and_le_right (by decide) | exact ⟨by omega, by omega⟩) (by first | omega | decide | exact Nat.lt_of_le_of_lt Nat.and_le_right (by decide) | exact ⟨by omega, by omega⟩) (fun c => absurd c (by omega)) (fun c6 => ?_)
    refine wq_go rfl (fun _ => rfl) ?_
    refine wq_go rfl (fun _ => rfl) ?_
    refine wq_getf rfl (by first | rfl | assumption) (by first | decide | omega | assumption) (md_o hM) rfl ?_
    refine wq_go rfl (fun _ => rfl) ?_
    refine wq_go rfl (fun _ => rfl) ?_
    refine wq_addN rfl ?_
    refine wq_ialdN rfl (by first | rfl | assumption) (by first | decide | omega | assumption) hN rfl (by omega) (by first | decide | omega) ?_
    refine wq_top (congrArg nI (hf p u hp (by omega))) ?_
    refine wq_go rfl (fun _ => rfl) ?_
    refine wq_getf rfl (by first | rfl | assumption) (by first | decide | omega | assumption) (md_o hM) rfl ?_
    refine wq_go rfl (fun _ => rfl) ?_
    refine wq_go rfl (fun _ => rfl) ?_
    refine wq_addN rfl ?_
    refine wq_ialdN rfl (by first | rfl | assumption) (by first | decide | omega | assumption) hN rfl (by omega) (by first | decide | omega) ?_
    refine wq_top (congrArg nI (hf q u hq (by omega))) ?_
    refine wq_callS rfl (Nat.le_of_ble_eq_true rfl) rfl (Nat.le_of_ble_eq_true rfl) (Nat.le_of_ble_eq_true rfl) rfl rfl ?_
    refine m_off (by omega) (by omega) ?_
    refine wq_addN rfl ?_
    refine wq_go rfl (fun _ => rfl) ?_
    refine wq_incN rfl rfl rfl ?_
    refine wq_go rfl (fun _ => rfl) ?_
    exact ih (u + 1) (by omega)
theorem m_differ {xs : List Int32} {d : Nat} {σ : Nat → List Value} {Q : Option Value → (Nat → List Value) → Prop} {P : Pl} {L : Nat} {g : Nat → Int32} (hM : MD P L g σ) {S : St} (hN : NwIs σ S) {f : Nat → Nat} {o p q n : Nat} (ho : o ≤ 24) (hn : n ≤ 5) (hf : ∀ a t, a < n → t < 4 → rowF S (o + 4 * a + t) = f (a * 4 + t)) (hon : o + 4 * n ≤ 61) (hf2 : ∀ i, i < n * 4 → f i ≤ 1980) (hp : p < n) (hq : q < n)  (K : Q (some (.int (nI (dist f p q)))) σ) : Wq xs (d + 1) ax_cd311 0 [(0, .ref 287), (1, .int (nI (o + 4 * p))), (2, .int (nI (o + 4 * q)))] [] σ Q := by
  have hL2 := md_l2 hM
  obtain ⟨hP1, hP2, hP3, hP4, hP5, hP6, hP7, hP8, hPv, hPm, hPo, hPw, hPl⟩ := md_pok hM
  refine wq_cN (m := 0) rfl rfl ?_
  refine wq_go rfl (fun _ => rfl) ?_
  refine wq_cN (m := 0) rfl rfl ?_
  refine wq_go rfl (fun _ => rfl) ?_
  exact m_differ_l hM hN ho hn hf hon hf2 hp hq K 4 0 rfl
def lsI (f : Nat → Nat) (o : Option Nat) : Int32 := match o with
  | none => -2
  | some b => nI (dist f (b / 10) (b % 10))
def lkI (f : Nat → Nat) (n w : Nat) : Int32 := match am (far2 f) (pls n n) with
  | none => -2
  | some b => if w = 0 then nI b else nI (dist f (b / 10) (b % 10))
theorem m_likest_i {xs : List Int32} {d : Nat} {σ : Nat → List Value} {Q : Option Value → (Nat → List Value) → Prop} {P : Pl} {L : Nat} {g : Nat → Int32} (hM : MD P L g σ) {S : St} (hN : NwIs σ S) {f : Nat → Nat} {o n w : Nat} (ho : o ≤ 24) (hn : n ≤ 5) (hf : ∀ a t, a < n → t < 4 → rowF S (o + 4 * a + t) = f (a * 4 + t)) (hon : o + 4 * n ≤ 61) (hf2 : ∀ i, i < n * 4 → f i ≤ 1980) (hw : w < 2)  {a : Nat} (ha : a < n) (K : Wq xs (d + 2) ax_cd310 6 [(6, .int (nI (a + 1))), (5, .int (lsI f (am (far2 f) (pls n (a + 1))))), (4, .int (oI (am (far2 f) (pls n (a + 1))))), (0, .ref 287), (1, .int (nI o)), (2, .int (nI n)), (3, .int (nI w))] [] σ Q) : ∀ (m u : Nat), m + u = n - (a + 1) → Wq xs (d + 2) ax_cd310 13 [(7, .int (nI (a + 1 + u))), (6, .int (nI a)), (5, .int (lsI f (am (far2 f) (pls n a ++ pl1 a u)))), (4, .int (oI (am (far2 f) (pls n a ++ pl1 a u)))), (0, .ref 287), (1, .int (nI o)), (2, .int (nI n)), (3, .int (nI w))] [] σ Q := by
  have hL2 := md_l2 hM
  obtain ⟨hP1, hP2, hP3, hP4, hP5, hP6, hP7, hP8, hPv, hPm, hPo, hPw, hPl⟩ := md_pok hM
  intro m
  induction m with
  | zero =>
    intro u hm
    refine wq_go rfl (fun _ => rfl) ?_
    refine wq_go rfl (fun _ => rfl) ?_
    refine wq_cge rfl (by first | omega | decide | exact Nat.lt_of_le_of_lt Nat.and_le_right (by decide) | exact ⟨by omega, by omega⟩) (by first | omega | decide | exact Nat.lt_of_le_of_lt Nat.and_le_right (by decide) | exact ⟨by omega, by omega⟩) (fun c15 => ?_) (fun c => absurd (show _ from by omega) c)
    refine wq_incN rfl rfl rfl ?_
    refine wq_go rfl (fun _ => rfl) ?_
    rw [show u = n - (a + 1) by omega, show pls n a ++ pl1 a (n - (a + 1)) = pls n (a + 1) from rfl]
    exact wq_lv ⟨(by decide : ([6, 7, 5, 4, 0, 1, 2, 3] : List Nat).Nodup), (lvm (List.mem_of_getElem? (i := 0) rfl) (lvm (List.mem_of_getElem? (i := 2) rfl) (lvm (List.mem_of_getElem? (i := 3) rfl) (lvm (List.mem_of_getElem? (i := 4) rfl) (lvm (List.mem_of_getElem? (i := 5) rfl) (lvm (List.mem_of_getElem? (i := 6) rfl) (lvm (List.mem_of_getElem? (i := 7) rfl) lvn)))))))⟩ K
  | succ m ih =>
    intro u hm
    have hd1 := far2_c f (a := a) (b := a + 1 + u) (by omega)
    have hl1 := dist_le (a := a) (b := a + 1 + u) (N := n * 4) hf2 (by omega) (by omega)
    cases hb0 : am (far2 f) (pls n a ++ pl1 a u) with
    | none =>
      refine wq_go rfl (fun _ => rfl) ?_
      refine wq_go rfl (fun _ => rfl) ?_
      refine wq_cge rfl (by first | omega | decide | exact Nat.lt_of_le_of_lt Nat.and_le_right (by decide) | exact ⟨by omega, by omega⟩) (by first | omega | decide | exact Nat.lt_of_le_of_lt Nat.and_le_right (by decide) | exact ⟨by omega, by omega⟩) (fun c => absurd c (by omega)) (fun c15 => ?_)
      refine wq_go rfl (fun _ => rfl) ?_
      refine wq_go rfl (fun _ => rfl) ?_
      refine wq_cN (m := 4) rfl rfl ?_
      refine wq_go rfl (fun _ => rfl) ?_
      refine wq_mulN rfl ?_
      refine wq_addN rfl ?_
      refine wq_go rfl (fun _ => rfl) ?_
      refine wq_cN (m := 4) rfl rfl ?_
      refine wq_go rfl (fun _ => rfl) ?_
      refine wq_mulN rfl ?_
      refine wq_addN rfl ?_
      refine wq_callV rfl rfl (by first | rfl | assumption) (by first | decide | omega | assumption) (Nat.le_of_ble_eq_true rfl) (Nat.le_of_ble_eq_true rfl) rfl rfl ?_
      refine m_differ hM hN ho hn hf hon hf2 ha (by omega) ?_
      refine wq_go rfl (fun _ => rfl) ?_
      refine wq_go rfl (fun _ => rfl) ?_
      refine wq_ylt rfl (show (_ : Int32) = zI (-2) from by decide) (by first | omega | decide | exact Nat.lt_of_le_of_lt Nat.and_le_right (by decide) | exact ⟨by omega, by omega⟩) (fun c30 => ?_) (fun c => absurd (show _ from by omega) c)
      refine wq_cN (m := 10) rfl rfl ?_
      refine wq_go rfl (fun _ => rfl) ?_
      refine wq_mulN rfl ?_
      refine wq_go rfl (fun _ => rfl) ?_
      refine wq_addN rfl ?_
      refine wq_go rfl (fun _ => rfl) ?_
      refine wq_go rfl (fun _ => rfl) ?_
      refine wq_go rfl (fun _ => rfl) ?_
      refine wq_incN rfl rfl rfl ?_
      refine wq_go rfl (fun _ => rfl) ?_
      have hi := ih (u + 1) (by omega)
      rw [show a + 1 + (u + 1) = a + 1 + u + 1 by omega, pl1_s, ← List.append_assoc] at hi
      first | rw [am_n (f := far2 f) _ hb0] at hi | rw [am_g (f := far2 f) _ hb0 (by rw [hd1, hd2]; omega)] at hi | rw [am_l (f := far2 f) _ hb0 (by rw [hd1, hd2]; omega)] at hi
      first | exact wq_lv ⟨(by decide : ([7, 5, 4, 8, 6, 0, 1, 2, 3] : List Nat).Nodup), (lvm (List.mem_of_getElem? (i := 0) rfl) (lvm (List.mem_of_getElem? (i := 4) rfl) (lvm (List.mem_of_getElem? (i := 1) rfl) (lvm (List.mem_of_getElem? (i := 2) rfl) (lvm (List.mem_of_getElem? (i := 5) rfl) (lvm (List.mem_of_getElem? (i := 6) rfl) (lvm (List.mem_of_getElem? (i := 7) rfl) (lvm (List.mem_of_getElem? (i := 8) rfl) lvn))))))))⟩ hi | (simp only [lsI, oI] at hi; rw [show (10 * a + (a + 1 + u)) / 10 = a by omega, show (10 * a + (a + 1 + u)) % 10 = a + 1 + u by omega] at hi; exact wq_lv ⟨(by decide : ([7, 5, 4, 8, 6, 0, 1, 2, 3] : List Nat).Nodup), (lvm (List.mem_of_getElem? (i := 0) rfl) (lvm (List.mem_of_getElem? (i := 4) rfl) (lvm (List.mem_of_getElem? (i := 1) rfl) (lvm (List.mem_of_getElem? (i := 2) rfl) (lvm (List.mem_of_getElem? (i := 5) rfl) (lvm (List.mem_of_getElem? (i := 6) rfl) (lvm (List.mem_of_getElem? (i := 7) rfl) (lvm (List.mem_of_getElem? (i := 8) rfl) lvn))))))))⟩ hi)
    | some b =>
      have hbn := pl_lt hn ha (by omega) (am_mem hb0)
      have hd2 : far2 f b = -((dist f (b / 10) (b % 10) : Nat) : Int) := rfl
      have hl2 := dist_le (a := b / 10) (b := b % 10) (N := n * 4) hf2 (by omega) (by omega)
      have hb100 : b < 100 := by omega
      refine wq_go rfl (fun _ => rfl) ?_
      refine wq_go rfl (fun _ => rfl) ?_
      refine wq_cge rfl (by first | omega | decide | exact Nat.lt_of_le_of_lt Nat.and_le_right (by decide) | exact ⟨by omega, by omega⟩) (by first | omega | decide | exact Nat.lt_of_le_of_lt Nat.and_le_right (by decide) | exact ⟨by omega, by omega⟩) (fun c => absurd c (by omega)) (fun c15 => ?_)
      refine wq_go rfl (fun _ => rfl) ?_
      refine wq_go rfl (fun _ => rfl) ?_
      refine wq_cN (m := 4) rfl rfl ?_
      refine wq_go rfl (fun _ => rfl) ?_
      refine wq_mulN rfl ?_
      refine wq_addN rfl ?_
      refine wq_go rfl (fun _ => rfl) ?_
      refine wq_cN (m := 4) rfl rfl ?_
      refine wq_go rfl (fun _ => rfl) ?_
      refine wq_mulN rfl ?_
      refine wq_addN rfl ?_
      refine wq_callV rfl rfl (by first | rfl | assumption) (by first | decide | omega | assumption) (Nat.le_of_ble_eq_true rfl) (Nat.le_of_ble_eq_true rfl) rfl rfl ?_
      refine m_differ hM hN ho hn hf hon hf2 ha (by omega) ?_
      refine wq_go rfl (fun _ => rfl) ?_
      refine wq_go rfl (fun _ => rfl) ?_
      refine wq_zlt rfl (by first | omega | decide | exact Nat.lt_of_le_of_lt Nat.and_le_right (by decide) | exact ⟨by omega, by omega⟩) (fun c => absurd c (by omega)) (fun c30 => ?_)
      refine wq_go rfl (fun _ => rfl) ?_
      refine wq_go rfl (fun _ => rfl) ?_
      refine wq_clt rfl (by first | omega | decide | exact Nat.lt_of_le_of_lt Nat.and_le_right (by decide) | exact ⟨by omega, by omega⟩) (by first | omega | decide | exact Nat.lt_of_le_of_lt Nat.and_le_right (by decide) | exact ⟨by omega, by omega⟩) (fun c33 => ?_) (fun c33 => ?_)
      · skip
        refine wq_cN (m := 10) rfl rfl ?_
        refine wq_go rfl (fun _ => rfl) ?_
        refine wq_mulN rfl ?_
        refine wq_go rfl (fun _ => rfl) ?_
        refine wq_addN rfl ?_
        refine wq_go rfl (fun _ => rfl) ?_
        refine wq_go rfl (fun _ => rfl) ?_
        refine wq_go rfl (fun _ => rfl) ?_
        refine wq_incN rfl rfl rfl ?_
        refine wq_go rfl (fun _ => rfl) ?_
        have hi := ih (u + 1) (by omega)
        rw [show a + 1 + (u + 1) = a + 1 + u + 1 by omega, pl1_s, ← List.append_assoc] at hi
        first | rw [am_n (f := far2 f) _ hb0] at hi | rw [am_g (f := far2 f) _ hb0 (by rw [hd1, hd2]; omega)] at hi | rw [am_l (f := far2 f) _ hb0 (by rw [hd1, hd2]; omega)] at hi
        first | exact wq_lv ⟨(by decide : ([7, 5, 4, 8, 6, 0, 1, 2, 3] : List Nat).Nodup), (lvm (List.mem_of_getElem? (i := 0) rfl) (lvm (List.mem_of_getElem? (i := 4) rfl) (lvm (List.mem_of_getElem? (i := 1) rfl) (lvm (List.mem_of_getElem? (i := 2) rfl) (lvm (List.mem_of_getElem? (i := 5) rfl) (lvm (List.mem_of_getElem? (i := 6) rfl) (lvm (List.mem_of_getElem? (i := 7) rfl) (lvm (List.mem_of_getElem? (i := 8) rfl) lvn))))))))⟩ hi | (simp only [lsI, oI] at hi; rw [show (10 * a + (a + 1 + u)) / 10 = a by omega, show (10 * a + (a + 1 + u)) % 10 = a + 1 + u by omega] at hi; exact wq_lv ⟨(by decide : ([7, 5, 4, 8, 6, 0, 1, 2, 3] : List Nat).Nodup), (lvm (List.mem_of_getElem? (i := 0) rfl) (lvm (List.mem_of_getElem? (i := 4) rfl) (lvm (List.mem_of_getElem? (i := 1) rfl) (lvm (List.mem_of_getElem? (i := 2) rfl) (lvm (List.mem_of_getElem? (i := 5) rfl) (lvm (List.mem_of_getElem? (i := 6) rfl) (lvm (List.mem_of_getElem? (i := 7) rfl) (lvm (List.mem_of_getElem? (i := 8) rfl) lvn))))))))⟩ hi)
      · skip
        refine wq_go rfl (fun _ => rfl) ?_
        refine wq_incN rfl rfl rfl ?_
        refine wq_go rfl (fun _ => rfl) ?_
        have hi := ih (u + 1) (by omega)
        rw [show a + 1 + (u + 1) = a + 1 + u + 1 by omega, pl1_s, ← List.append_assoc] at hi
        first | rw [am_n (f := far2 f) _ hb0] at hi | rw [am_g (f := far2 f) _ hb0 (by rw [hd1, hd2]; omega)] at hi | rw [am_l (f := far2 f) _ hb0 (by rw [hd1, hd2]; omega)] at hi
        first | exact wq_lv ⟨(by decide : ([7, 8, 6, 5, 4, 0, 1, 2, 3] : List Nat).Nodup), (lvm (List.mem_of_getElem? (i := 0) rfl) (lvm (List.mem_of_getElem? (i := 2) rfl) (lvm (List.mem_of_getElem? (i := 3) rfl) (lvm (List.mem_of_getElem? (i := 4) rfl) (lvm (List.mem_of_getElem? (i := 5) rfl) (lvm (List.mem_of_getElem? (i := 6) rfl) (lvm (List.mem_of_getElem? (i := 7) rfl) (lvm (List.mem_of_getElem? (i := 8) rfl) lvn))))))))⟩ hi | (simp only [lsI, oI] at hi; rw [show (10 * a + (a + 1 + u)) / 10 = a by omega, show (10 * a + (a + 1 + u)) % 10 = a + 1 + u by omega] at hi; exact wq_lv ⟨(by decide : ([7, 8, 6, 5, 4, 0, 1, 2, 3] : List Nat).Nodup), (lvm (List.mem_of_getElem? (i := 0) rfl) (lvm (List.mem_of_getElem? (i := 2) rfl) (lvm (List.mem_of_getElem? (i := 3) rfl) (lvm (List.mem_of_getElem? (i := 4) rfl) (lvm (List.mem_of_getElem? (i := 5) rfl) (lvm (List.mem_of_getElem? (i := 6) rfl) (lvm (List.mem_of_getElem? (i := 7) rfl) (lvm (List.mem_of_getElem? (i := 8) rfl) lvn))))))))⟩ hi)
theorem m_likest_o {xs : List Int32} {d : Nat} {σ : Nat → List Value} {Q : Option Value → (Nat → List Value) → Prop} {P : Pl} {L : Nat} {g : Nat → Int32} (hM : MD P L g σ) {S : St} (hN : NwIs σ S) {f : Nat → Nat} {o n w : Nat} (ho : o ≤ 24) (hn : n ≤ 5) (hf : ∀ a t, a < n → t < 4 → rowF S (o + 4 * a + t) = f (a * 4 + t)) (hon : o + 4 * n ≤ 61) (hf2 : ∀ i, i < n * 4 → f i ≤ 1980) (hw : w < 2)  (K : Q (some (.int (lkI f n w))) σ) : ∀ (m u : Nat), m + u = n → Wq xs (d + 2) ax_cd310 6 [(6, .int (nI u)), (5, .int (lsI f (am (far2 f) (pls n u)))), (4, .int (oI (am (far2 f) (pls n u)))), (0, .ref 287), (1, .int (nI o)), (2, .int (nI n)), (3, .int (nI w))] [] σ Q := by
  have hL2 := md_l2 hM
  obtain ⟨hP1, hP2, hP3, hP4, hP5, hP6, hP7, hP8, hPv, hPm, hPo, hPw, hPl⟩ := md_pok hM
  intro m
  induction m with
  | zero =>
    intro u hm
    have hu : u = n := by omega
    subst hu
    refine wq_go rfl (fun _ => rfl) ?_
    refine wq_go rfl (fun _ => rfl) ?_
    refine wq_cge rfl (by first | omega | decide | exact Nat.lt_of_le_of_lt Nat.and_le_right (by decide) | exact ⟨by omega, by omega⟩) (by first | omega | decide | exact Nat.lt_of_le_of_lt Nat.and_le_right (by decide) | exact ⟨by omega, by omega⟩) (fun c8 => ?_) (fun c => absurd (show _ from by omega) c)
    refine wq_go rfl (fun _ => rfl) ?_
    refine wq_zne rfl (by first | omega | decide | exact Nat.lt_of_le_of_lt Nat.and_le_right (by decide) | exact ⟨by omega, by omega⟩) (fun c48 => ?_) (fun c48 => ?_)
    · skip
      refine wq_go rfl (fun _ => rfl) ?_
      refine wq_iret rfl ?_
      exact ansQ K (by unfold lkI; cases am (far2 f) (pls u u) <;> first | rfl | exact (if_pos (by omega)).symm | exact (if_neg (by omega)).symm)
    · skip
      refine wq_go rfl (fun _ => rfl) ?_
      refine wq_go rfl (fun _ => rfl) ?_
      refine wq_iret rfl ?_
      exact ansQ K (by unfold lkI; cases am (far2 f) (pls u u) <;> first | rfl | exact (if_pos (by omega)).symm | exact (if_neg (by omega)).symm)
  | succ m ih =>
    intro u hm
    refine wq_go rfl (fun _ => rfl) ?_
    refine wq_go rfl (fun _ => rfl) ?_
    refine wq_cge rfl (by first | omega | decide | exact Nat.lt_of_le_of_lt Nat.and_le_right (by decide) | exact ⟨by omega, by omega⟩) (by first | omega | decide | exact Nat.lt_of_le_of_lt Nat.and_le_right (by decide) | exact ⟨by omega, by omega⟩) (fun c => absurd c (by omega)) (fun c8 => ?_)
    refine wq_go rfl (fun _ => rfl) ?_
    refine wq_cN (m := 1) rfl rfl ?_
    refine wq_addN rfl ?_
    refine wq_go rfl (fun _ => rfl) ?_
    have hz := m_likest_i hM hN ho hn hf hon hf2 hw (a := u) (by omega) (ih (u + 1) (by omega)) (n - (u + 1)) 0 rfl
    rw [show pl1 u 0 = [] from rfl, List.append_nil] at hz
    exact wq_lv ⟨(by decide : ([7, 6, 5, 4, 0, 1, 2, 3] : List Nat).Nodup), (lvm (List.mem_of_getElem? (i := 0) rfl) (lvm (List.mem_of_getElem? (i := 1) rfl) (lvm (List.mem_of_getElem? (i := 2) rfl) (lvm (List.mem_of_getElem? (i := 3) rfl) (lvm (List.mem_of_getElem? (i := 4) rfl) (lvm (List.mem_of_getElem? (i := 5) rfl) (lvm (List.mem_of_getElem? (i := 6) rfl) (lvm (List.mem_of_getElem? (i := 7) rfl) lvn))))))))⟩ hz
theorem m_likest {xs : List Int32} {d : Nat} {σ : Nat → List Value} {Q : Option Value → (Nat → List Value) → Prop} {P : Pl} {L : Nat} {g : Nat → Int32} (hM : MD P L g σ) {S : St} (hN : NwIs σ S) {f : Nat → Nat} {o n w : Nat} (ho : o ≤ 24) (hn : n ≤ 5) (hf : ∀ a t, a < n → t < 4 → rowF S (o + 4 * a + t) = f (a * 4 + t)) (hon : o + 4 * n ≤ 61) (hf2 : ∀ i, i < n * 4 → f i ≤ 1980) (hw : w < 2)  (K : Q (some (.int (lkI f n w))) σ) : Wq xs (d + 2) ax_cd310 0 [(0, .ref 287), (1, .int (nI o)), (2, .int (nI n)), (3, .int (nI w))] [] σ Q := by
  have hL2 := md_l2 hM
  obtain ⟨hP1, hP2, hP3, hP4, hP5, hP6, hP7, hP8, hPv, hPm, hPo, hPw, hPl⟩ := md_pok hM
  refine wq_go rfl (fun _ => rfl) ?_
  refine wq_go rfl (fun _ => rfl) ?_
  refine wq_go rfl (fun _ => rfl) ?_
  refine wq_go rfl (fun _ => rfl) ?_
  refine wq_cN (m := 0) rfl rfl ?_
  refine wq_go rfl (fun _ => rfl) ?_
  exact m_likest_o hM hN ho hn hf hon hf2 hw K n 0 rfl
theorem m_sumNow_l {xs : List Int32} {d : Nat} {σ : Nat → List Value} {Q : Option Value → (Nat → List Value) → Prop} {P : Pl} {L : Nat} {g : Nat → Int32} (hM : MD P L g σ) {S : St} (hN : NwIs σ S) {a n : Nat} (han : a + n ≤ 61)  (K : Q (some (.int (nI (sumF (fun j => rowF S (a + j)) n)))) σ) : ∀ (m u : Nat), m + u = n → Wq xs (d + 0) ax_cd334 4 [(4, .int (nI (a + u))), (3, .int (nI (sumF (fun j => rowF S (a + j)) u))), (0, .ref 287), (1, .int (nI a)), (2, .int (nI n))] [] σ Q := by
  have hL2 := md_l2 hM
  obtain ⟨hP1, hP2, hP3, hP4, hP5, hP6, hP7, hP8, hPv, hPm, hPo, hPw, hPl⟩ := md_pok hM
  intro m
  induction m with
  | zero =>
    intro u hm
    refine wq_go rfl (fun _ => rfl) ?_
    refine wq_go rfl (fun _ => rfl) ?_
    refine wq_go rfl (fun _ => rfl) ?_
    refine wq_addN rfl ?_
    refine wq_cge rfl (by first | omega | decide | exact Nat.lt_of_le_of_lt Nat.and_le_right (by decide) | exact ⟨by omega, by omega⟩) (by first | omega | decide | exact Nat.lt_of_le_of_lt Nat.and_le_right (by decide) | exact ⟨by omega, by omega⟩) (fun c8 => ?_) (fun c => absurd (show _ from by omega) c)
    refine wq_go rfl (fun _ => rfl) ?_
    refine wq_iret rfl ?_
    rw [show u = n by omega]
    exact K
  | succ m ih =>
    intro u hm
    refine wq_go rfl (fun _ => rfl) ?_
    refine wq_go rfl (fun _ => rfl) ?_
    refine wq_go rfl (fun _ => rfl) ?_
    refine wq_addN rfl ?_
    refine wq_cge rfl (by first | omega | decide | exact Nat.lt_of_le_of_lt Nat.and_le_right (by decide) | exact ⟨by omega, by omega⟩) (by first | omega | decide | exact Nat.lt_of_le_of_lt Nat.and_le_right (by decide) | exact ⟨by omega, by omega⟩) (fun c => absurd c (by omega)) (fun c8 => ?_)
    refine wq_go rfl (fun _ => rfl) ?_
    refine wq_go rfl (fun _ => rfl) ?_
    refine wq_getf rfl (by first | rfl | assumption) (by first | decide | omega | assumption) (md_o hM) rfl ?_
    refine wq_go rfl (fun _ => rfl) ?_
    refine wq_ialdN rfl (by first | rfl | assumption) (by first | decide | omega | assumption) hN rfl (by omega) (by first | decide | omega) ?_
    refine wq_addN rfl ?_
    refine wq_go rfl (fun _ => rfl) ?_
    refine wq_incN rfl rfl rfl ?_
    refine wq_go rfl (fun _ => rfl) ?_
    exact ih (u + 1) (by omega)
theorem m_sumNow {xs : List Int32} {d : Nat} {σ : Nat → List Value} {Q : Option Value → (Nat → List Value) → Prop} {P : Pl} {L : Nat} {g : Nat → Int32} (hM : MD P L g σ) {S : St} (hN : NwIs σ S) {a n : Nat} (han : a + n ≤ 61)  (K : Q (some (.int (nI (sumF (fun j => rowF S (a + j)) n)))) σ) : Wq xs (d + 0) ax_cd334 0 [(0, .ref 287), (1, .int (nI a)), (2, .int (nI n))] [] σ Q := by
  have hL2 := md_l2 hM
  obtain ⟨hP1, hP2, hP3, hP4, hP5, hP6, hP7, hP8, hPv, hPm, hPo, hPw, hPl⟩ := md_pok hM
  refine wq_cN (m := 0) rfl rfl ?_
  refine wq_go rfl (fun _ => rfl) ?_
  refine wq_go rfl (fun _ => rfl) ?_
  refine wq_go rfl (fun _ => rfl) ?_
  exact m_sumNow_l hM hN han K n 0 rfl
theorem m_bitsFrom_l {xs : List Int32} {d : Nat} {σ : Nat → List Value} {Q : Option Value → (Nat → List Value) → Prop} {P : Pl} {L : Nat} {g : Nat → Int32} (hM : MD P L g σ) {S : St} (hN : NwIs σ S) {x : Nat → Nat} {a n : Nat} (han : a + n ≤ 61) (hn : n ≤ 10) (hx : ∀ j, j < n → rowF S (a + j) = x j) (hx1 : ∀ j, j < n → x j ≤ 1)  (K : Q (some (.int (nI (orF (fun j => x j * 2 ^ j) n)))) σ) : ∀ (m u : Nat), m + u = n → Wq xs (d + 0) ax_cd335 4 [(4, .int (nI u)), (3, .int (nI (orF (fun j => x j * 2 ^ j) u))), (0, .ref 287), (1, .int (nI a)), (2, .int (nI n))] [] σ Q := by
  have hL2 := md_l2 hM
  obtain ⟨hP1, hP2, hP3, hP4, hP5, hP6, hP7, hP8, hPv, hPm, hPo, hPw, hPl⟩ := md_pok hM
  intro m
  induction m with
  | zero =>
    intro u hm
    refine wq_go rfl (fun _ => rfl) ?_
    refine wq_go rfl (fun _ => rfl) ?_
    refine wq_cge rfl (by first | omega | decide | exact Nat.lt_of_le_of_lt Nat.and_le_right (by decide) | exact ⟨by omega, by omega⟩) (by first | omega | decide | exact Nat.lt_of_le_of_lt Nat.and_le_right (by decide) | exact ⟨by omega, by omega⟩) (fun c6 => ?_) (fun c => absurd (show _ from by omega) c)
    refine wq_go rfl (fun _ => rfl) ?_
    refine wq_iret rfl ?_
    rw [show u = n by omega]
    exact K
  | succ m ih =>
    intro u hm
    have hx2 := hx1 u (by omega)
    have hp2 : 2 ^ u ≤ 2 ^ 10 := Nat.pow_le_pow_right (by decide) (by omega)
    refine wq_go rfl (fun _ => rfl) ?_
    refine wq_go rfl (fun _ => rfl) ?_
    refine wq_cge rfl (by first | omega | decide | exact Nat.lt_of_le_of_lt Nat.and_le_right (by decide) | exact ⟨by omega, by omega⟩) (by first | omega | decide | exact Nat.lt_of_le_of_lt Nat.and_le_right (by decide) | exact ⟨by omega, by omega⟩) (fun c => absurd c (by omega)) (fun c6 => ?_)
    refine wq_go rfl (fun _ => rfl) ?_
    refine wq_go rfl (fun _ => rfl) ?_
    refine wq_getf rfl (by first | rfl | assumption) (by first | decide | omega | assumption) (md_o hM) rfl ?_
    refine wq_go rfl (fun _ => rfl) ?_
    refine wq_go rfl (fun _ => rfl) ?_
    refine wq_addN rfl ?_
    refine wq_ialdN rfl (by first | rfl | assumption) (by first | decide | omega | assumption) hN rfl (by omega) (by first | decide | omega) ?_
    refine wq_top (congrArg nI (hx u (by omega))) ?_
    refine wq_go rfl (fun _ => rfl) ?_
    refine wq_shlN rfl (by first | decide | omega) (by have := Nat.mul_le_mul hx2 hp2; omega) ?_
    refine wq_orN rfl ?_
    refine wq_go rfl (fun _ => rfl) ?_
    refine wq_incN rfl rfl rfl ?_
    refine wq_go rfl (fun _ => rfl) ?_
    exact ih (u + 1) (by omega)
theorem m_bitsFrom {xs : List Int32} {d : Nat} {σ : Nat → List Value} {Q : Option Value → (Nat → List Value) → Prop} {P : Pl} {L : Nat} {g : Nat → Int32} (hM : MD P L g σ) {S : St} (hN : NwIs σ S) {x : Nat → Nat} {a n : Nat} (han : a + n ≤ 61) (hn : n ≤ 10) (hx : ∀ j, j < n → rowF S (a + j) = x j) (hx1 : ∀ j, j < n → x j ≤ 1)  (K : Q (some (.int (nI (orF (fun j => x j * 2 ^ j) n)))) σ) : Wq xs (d + 0) ax_cd335 0 [(0, .ref 287), (1, .int (nI a)), (2, .int (nI n))] [] σ Q := by
  have hL2 := md_l2 hM
  obtain ⟨hP1, hP2, hP3, hP4, hP5, hP6, hP7, hP8, hPv, hPm, hPo, hPw, hPl⟩ := md_pok hM
  refine wq_cN (m := 0) rfl rfl ?_
  refine wq_go rfl (fun _ => rfl) ?_
  refine wq_cN (m := 0) rfl rfl ?_
  refine wq_go rfl (fun _ => rfl) ?_
  exact m_bitsFrom_l hM hN han hn hx hx1 K n 0 rfl
theorem orF_sc : ∀ x, x < 16 → orF (fun j => bitN x j * 2 ^ j) 4 = x := by decide +kernel
theorem orF_kp : ∀ x, x < 1024 → orF (fun j => bitN x j * 2 ^ j) 10 = x := by decide +kernel
theorem bits_pc : ∀ x, x < 32 → sumF (fun k => x / 2 ^ k &&& 1) 10 = pc x := by decide +kernel
theorem m_bits_l {xs : List Int32} {d : Nat} {σ : Nat → List Value} {Q : Option Value → (Nat → List Value) → Prop} {x : Nat} (hx : x < 32)  (K : Q (some (.int (nI (pc x)))) σ) : ∀ (m u : Nat), m + u = 10 → Wq xs (d + 0) ax_cd329 4 [(2, .int (nI u)), (1, .int (nI (sumF (fun k => x / 2 ^ k &&& 1) u))), (0, .int (nI x))] [] σ Q := by
  intro m
  induction m with
  | zero =>
    intro u hm
    refine wq_go rfl (fun _ => rfl) ?_
    refine wq_cN (m := 10) rfl rfl ?_
    refine wq_cge rfl (by first | omega | decide | exact Nat.lt_of_le_of_lt Nat.and_le_right (by decide) | exact ⟨by omega, by omega⟩) (by first | omega | decide | exact Nat.lt_of_le_of_lt Nat.and_le_right (by decide) | exact ⟨by omega, by omega⟩) (fun c6 => ?_) (fun c => absurd (show _ from by omega) c)
    refine wq_go rfl (fun _ => rfl) ?_
    refine wq_iret rfl ?_
    exact ansQ K (congrArg nI (by rw [show u = 10 by omega]; exact bits_pc x hx))
  | succ m ih =>
    intro u hm
    refine wq_go rfl (fun _ => rfl) ?_
    refine wq_cN (m := 10) rfl rfl ?_
    refine wq_cge rfl (by first | omega | decide | exact Nat.lt_of_le_of_lt Nat.and_le_right (by decide) | exact ⟨by omega, by omega⟩) (by first | omega | decide | exact Nat.lt_of_le_of_lt Nat.and_le_right (by decide) | exact ⟨by omega, by omega⟩) (fun c => absurd c (by omega)) (fun c6 => ?_)
    refine wq_go rfl (fun _ => rfl) ?_
    refine wq_go rfl (fun _ => rfl) ?_
    refine wq_go rfl (fun _ => rfl) ?_
    refine wq_shrN rfl (by first | decide | omega) (by first | decide | omega) ?_
    refine wq_cN (m := 1) rfl rfl ?_
    refine wq_andN rfl ?_
    refine wq_addN rfl ?_
    refine wq_go rfl (fun _ => rfl) ?_
    refine wq_incN rfl rfl rfl ?_
    refine wq_go rfl (fun _ => rfl) ?_
    exact ih (u + 1) (by omega)
theorem m_bits {xs : List Int32} {d : Nat} {σ : Nat → List Value} {Q : Option Value → (Nat → List Value) → Prop} {x : Nat} (hx : x < 32) (K : Q (some (.int (nI (pc x)))) σ) : Wq xs (d + 0) ax_cd329 0 [(0, .int (nI x))] [] σ Q := by
  refine wq_cN (m := 0) rfl rfl ?_
  refine wq_go rfl (fun _ => rfl) ?_
  refine wq_cN (m := 0) rfl rfl ?_
  refine wq_go rfl (fun _ => rfl) ?_
  exact m_bits_l hx K 10 0 rfl
