/-! MOTHS AND HOURS -/
def mixI (h v : Int32) : Int32 := ((h ^^^ v) * nI 1103515245 + nI 12345) ^^^ (((h ^^^ v) * nI 1103515245 + nI 12345).toUInt32 >>> ((nI 15).toUInt32 &&& Int32.toUInt32 31)).toInt32
def hfI (x : Int32) : Nat := x.toBitVec.toNat / 2
theorem hfI_lt (x : Int32) : hfI x < 2 ^ 31 := by
  have := x.toBitVec.isLt
  unfold hfI
  omega
theorem ushr1 (x : Int32) : (x.toUInt32 >>> ((nI 1).toUInt32 &&& Int32.toUInt32 31)).toInt32 = nI (hfI x) := by
  apply Int32.toBitVec.inj
  apply BitVec.eq_of_toNat_eq
  rw [pk_ushr x (nI 1) 1 (by decide), pk_tn (by have := hfI_lt x; omega)]
  rfl
def lotN (s w : Int32) (n : Nat) : Nat := if n = 0 then 0 else hfI (mixI (mixI s (nI 153)) w) % n
theorem lotN_lt {s w : Int32} {n : Nat} (h : 0 < n) : lotN s w n < n := by
  unfold lotN
  rw [if_neg (by omega)]
  exact Nat.mod_lt _ h
def mothB (P : Pl) (sd : Nat) (S : St) : Bool := decide (lotN (nI sd) (nI (8 * Shr S)) 100 < Pmt P)
def mothC (P : Pl) (sd : Nat) (S : St) : Nat := lotN (nI sd) (nI (8 * Shr S + 1)) (Pch P)
def isWd (P : Pl) (S : St) : Bool := decide (0 < Pmo P ∧ Shr S % 24 = 23 ∧ (Shr S / 24 + 1) % Pmo P = 0)
def visS (P : Pl) (S : St) : Nat → St
  | 0 => S
  | u + 1 => if Pvt P u = Shr (visS P S u) % 24 ∧ (Skp (visS P S u)).testBit u = true then seatS P (visS P S u) (Pvh P u) (Pvc P u) else visS P S u
def fadesS (P : Pl) (S : St) : Nat → St
  | 0 => S
  | u + 1 => fadeS P (fadesS P S u) u
def washesS (P : Pl) (S : St) : Nat → St
  | 0 => S
  | u + 1 => washS P (washesS P S u) u
def hour4 (P : Pl) (S : St) : St := setHr S (Shr S + 1)
def hour3 (P : Pl) (S : St) : St := hour4 P (if isWd P S = true then washesS P S (Pch P) else S)
def hour2 (P : Pl) (mo sd : Nat) (S : St) : St := if ¬ mo = 0 ∧ mothB P sd S = true then mothS S (mothC P sd S) else S
def hourS (P : Pl) (mo sd : Nat) (S : St) : St := hour3 P (fadesS P (hour2 P mo sd (visS P S (Pvs P))) (Phd P))
def goS (P : Pl) (mo sd : Nat) (S : St) : Nat → St
  | 0 => S
  | u + 1 => hourS P mo sd (goS P mo sd S u)
theorem vis_ok {P : Pl} (hP : Pok P) {S : St} (hok : Sok S) : ∀ u, u ≤ Pvs P → Sok (visS P S u)
  | 0, _ => hok
  | u + 1, hu => by
    have ih := vis_ok hP hok u (by omega)
    have hv := hP.2.2.2.2.2.2.2.2.1 u (by omega)
    have h1 := hP.1
    have h2 := hP.2.1
    unfold visS
    split
    · exact seat_ok P ih (by omega) (by omega)
    · exact ih
theorem fades_ok {P : Pl} (hP : Pok P) {S : St} (hok : Sok S) : ∀ u, u ≤ Phd P → Sok (fadesS P S u)
  | 0, _ => hok
  | u + 1, hu => fade_ok P (fades_ok hP hok u (by omega)) (by have := hP.2.1; omega)
theorem washes_ok {P : Pl} (hP : Pok P) {S : St} (hok : Sok S) : ∀ u, u ≤ Pch P → Sok (washesS P S u)
  | 0, _ => hok
  | u + 1, hu => wash_ok P (washes_ok hP hok u (by omega)) (by have := hP.1; omega)
theorem mothC_lt {P : Pl} (hP : Pok P) (sd : Nat) (S : St) : mothC P sd S < 4 := by
  have h1 := hP.1
  unfold mothC
  rcases Nat.eq_zero_or_pos (Pch P) with h | h
  · unfold lotN
    rw [if_pos h]
    decide
  · have := lotN_lt (s := nI sd) (w := nI (8 * Shr S + 1)) h
    omega
theorem hour2_ok {P : Pl} (hP : Pok P) {S : St} (hok : Sok S) (mo sd : Nat) : Sok (hour2 P mo sd S) := by
  unfold hour2
  split
  · exact moth_ok hok (mothC_lt hP sd S)
  · exact hok
theorem vis_hr (P : Pl) (S : St) : ∀ u, Shr (visS P S u) = Shr S
  | 0 => rfl
  | u + 1 => by
    unfold visS
    split
    · exact vis_hr P S u
    · exact vis_hr P S u
theorem fades_hr (P : Pl) (S : St) : ∀ u, Shr (fadesS P S u) = Shr S
  | 0 => rfl
  | u + 1 => fades_hr P S u
theorem washes_hr (P : Pl) (S : St) : ∀ u, Shr (washesS P S u) = Shr S
  | 0 => rfl
  | u + 1 => washes_hr P S u
theorem hour2_hr (P : Pl) (mo sd : Nat) (S : St) : Shr (hour2 P mo sd S) = Shr S := by
  unfold hour2
  split <;> rfl
theorem hour_hr (P : Pl) (mo sd : Nat) (S : St) : Shr (hourS P mo sd S) = Shr S + 1 := by
  unfold hourS hour3 hour4
  split
  · show Shr (washesS P _ _) + 1 = _
    rw [washes_hr, fades_hr, hour2_hr, vis_hr]
  · show Shr (fadesS P _ _) + 1 = _
    rw [fades_hr, hour2_hr, vis_hr]
theorem hour_ok {P : Pl} (hP : Pok P) {S : St} (hok : Sok S) (mo sd : Nat) (hr : Shr S + 1 ≤ 1000000) : Sok (hourS P mo sd S) := by
  have h3 := fades_ok hP (hour2_ok hP (vis_ok hP hok (Pvs P) (Nat.le_refl _)) mo sd) (Phd P) (Nat.le_refl _)
  have e := hour_hr P mo sd S
  unfold hourS hour3 at e ⊢
  split at e
  · next hw =>
    rw [if_pos hw]
    have h4 := washes_ok hP h3 (Pch P) (Nat.le_refl _)
    exact ⟨h4.1, by rw [e]; exact hr, h4.2.2.1, h4.2.2.2⟩
  · next hw =>
    rw [if_neg hw]
    exact ⟨h3.1, by rw [e]; exact hr, h3.2.2.1, h3.2.2.2⟩
theorem go_hr (P : Pl) (mo sd : Nat) (S : St) : ∀ u, Shr (goS P mo sd S u) = Shr S + u
  | 0 => rfl
  | u + 1 => by
    show Shr (hourS P mo sd (goS P mo sd S u)) = _
    rw [hour_hr, go_hr P mo sd S u]
    omega
theorem go_ok {P : Pl} (hP : Pok P) {S : St} (hok : Sok S) (mo sd : Nat) : ∀ u, Shr S + u ≤ 1000000 → Sok (goS P mo sd S u)
  | 0, _ => hok
  | u + 1, hu => hour_ok hP (go_ok hP hok mo sd u (by omega)) mo sd (by rw [go_hr]; omega)

theorem c_House_stirred {xs : List Int32} {d : Nat} {σ : Nat → List Value} {Q : Option Value → (Nat → List Value) → Prop} {h v : Int32} (K : Q (some (.int (mixI h v))) σ) : Wq xs (d + 0) ax_cd138 0 [(0, .int h), (1, .int v)] [] σ Q := by
  refine wq_go rfl (fun _ => rfl) ?_
  refine wq_go rfl (fun _ => rfl) ?_
  refine wq_go rfl (fun _ => rfl) ?_
  refine wq_cN (m := 1103515245) rfl rfl ?_
  refine wq_go rfl (fun _ => rfl) ?_
  refine wq_cN (m := 12345) rfl rfl ?_
  refine wq_go rfl (fun _ => rfl) ?_
  refine wq_go rfl (fun _ => rfl) ?_
  refine wq_go rfl (fun _ => rfl) ?_
  refine wq_go rfl (fun _ => rfl) ?_
  refine wq_cN (m := 15) rfl rfl ?_
  refine wq_go rfl (fun _ => rfl) ?_
  refine wq_go rfl (fun _ => rfl) ?_
  refine wq_iret rfl ?_
  exact K
theorem c_House_lot {xs : List Int32} {d : Nat} {σ : Nat → List Value} {Q : Option Value → (Nat → List Value) → Prop} {s w : Int32} {n : Nat} (hn : n ≤ 100) (K : Q (some (.int (nI (lotN s w n)))) σ) : Wq xs (d + 1) ax_cd137 0 [(0, .int (nI n)), (1, .int s), (2, .int w)] [] σ Q := by
  refine wq_go rfl (fun _ => rfl) ?_
  refine wq_cN (m := 153) rfl rfl ?_
  refine wq_callS rfl (Nat.le_of_ble_eq_true rfl) rfl (Nat.le_of_ble_eq_true rfl) (Nat.le_of_ble_eq_true rfl) rfl rfl ?_
  refine c_House_stirred  ?_
  refine wq_go rfl (fun _ => rfl) ?_
  refine wq_callS rfl (Nat.le_of_ble_eq_true rfl) rfl (Nat.le_of_ble_eq_true rfl) (Nat.le_of_ble_eq_true rfl) rfl rfl ?_
  refine c_House_stirred  ?_
  refine wq_go rfl (fun _ => rfl) ?_
  refine wq_go rfl (fun _ => rfl) ?_
  refine wq_zle rfl (by first | omega | decide | exact Nat.lt_of_le_of_lt Nat.and_le_right (by decide) | exact ⟨by omega, by omega⟩) (fun c7 => ?_) (fun c7 => ?_)
  · skip
    refine wq_cN (m := 0) rfl rfl ?_
    refine wq_iret rfl ?_
    first | (rw [show lotN s w n = 0 from if_pos (by omega)] at K; exact K) | (rw [show lotN s w n = hfI (mixI (mixI s (nI 153)) w) % n from if_neg (by omega)] at K; exact K)
  · skip
    refine wq_go rfl (fun _ => rfl) ?_
    refine wq_cN (m := 1) rfl rfl ?_
    refine wq_go rfl (fun _ => rfl) ?_
    refine wq_top (ushr1 _) ?_
    refine wq_go rfl (fun _ => rfl) ?_
    refine wq_remN rfl (by omega) (hfI_lt _) (by omega) ?_
    refine wq_go rfl (fun _ => rfl) ?_
    refine wq_iret rfl ?_
    first | (rw [show lotN s w n = 0 from if_pos (by omega)] at K; exact K) | (rw [show lotN s w n = hfI (mixI (mixI s (nI 153)) w) % n from if_neg (by omega)] at K; exact K)
theorem c_House_hasMoth {xs : List Int32} {d : Nat} {σ : Nat → List Value} {Q : Option Value → (Nat → List Value) → Prop} {k : Nat} {S : St} (hk : kd k = .inr 7) (hS : StIs σ k S) {P : Pl} (hC : CW P σ) (hok : Sok S) {sd : Nat} (K1 : mothB P sd S = true → Q (some (.int (nI 1))) σ) (K0 : mothB P sd S = false → Q (some (.int (nI 0))) σ) : Wq xs (d + 2) ax_cd136 0 [(0, .ref 30), (1, .ref k), (2, .int (nI sd))] [] σ Q := by
  obtain ⟨hk1, hk2, hk3, hk4, hk5⟩ := St_k hk
  have hkr := St_rng hk
  have hPk := cw_pok hC
  obtain ⟨hP1, hP2, hP3, hP4, hP5, hP6, hP7, hP8, hPv, hPm, hPo, hPw, hPl⟩ := hPk
  have hhr := hok.2.1
  have hlt := lotN_lt (s := nI sd) (w := nI (8 * Shr S)) (n := 100) (by decide)
  refine wq_go rfl (fun _ => rfl) ?_
  refine wq_getf rfl (by first | rfl | assumption) (by first | decide | omega | assumption) (cw_c30 hC) rfl ?_
  refine wq_getf rfl (by first | rfl | assumption) (by first | decide | omega | assumption) (cw_c21 hC) rfl ?_
  refine wq_zle rfl (by first | omega | decide | exact Nat.lt_of_le_of_lt Nat.and_le_right (by decide) | exact ⟨by omega, by omega⟩) (fun c3 => ?_) (fun c3 => ?_)
  · skip
    refine wq_cN (m := 0) rfl rfl ?_
    refine wq_nret rfl (by decide) ?_
    first | exact K1 (decide_eq_true (by omega)) | exact K0 (decide_eq_false (by omega))
  · skip
    refine wq_cN (m := 100) rfl rfl ?_
    refine wq_go rfl (fun _ => rfl) ?_
    refine wq_cN (m := 8) rfl rfl ?_
    refine wq_go rfl (fun _ => rfl) ?_
    refine wq_getf rfl (by first | rfl | assumption) (by first | decide | omega | assumption) hS.1 rfl ?_
    refine wq_mulN rfl ?_
    refine wq_callS rfl (Nat.le_of_ble_eq_true rfl) rfl (Nat.le_of_ble_eq_true rfl) (Nat.le_of_ble_eq_true rfl) rfl rfl ?_
    refine c_House_lot (by first | assumption | omega | decide) ?_
    refine wq_go rfl (fun _ => rfl) ?_
    refine wq_getf rfl (by first | rfl | assumption) (by first | decide | omega | assumption) (cw_c30 hC) rfl ?_
    refine wq_getf rfl (by first | rfl | assumption) (by first | decide | omega | assumption) (cw_c21 hC) rfl ?_
    refine wq_cge rfl (by first | omega | decide | exact Nat.lt_of_le_of_lt Nat.and_le_right (by decide) | exact ⟨by omega, by omega⟩) (by first | omega | decide | exact Nat.lt_of_le_of_lt Nat.and_le_right (by decide) | exact ⟨by omega, by omega⟩) (fun c14 => ?_) (fun c14 => ?_)
    · skip
      refine wq_cN (m := 0) rfl rfl ?_
      refine wq_nret rfl (by decide) ?_
      first | exact K1 (decide_eq_true (by omega)) | exact K0 (decide_eq_false (by omega))
    · skip
      refine wq_cN (m := 1) rfl rfl ?_
      refine wq_go rfl (fun _ => rfl) ?_
      refine wq_nret rfl (by decide) ?_
      first | exact K1 (decide_eq_true (by omega)) | exact K0 (decide_eq_false (by omega))
theorem c_House_isWashDay {xs : List Int32} {d : Nat} {σ : Nat → List Value} {Q : Option Value → (Nat → List Value) → Prop} {k : Nat} {S : St} (hk : kd k = .inr 7) (hS : StIs σ k S) {P : Pl} (hC : CW P σ) (hok : Sok S)  (K1 : isWd P S = true → Q (some (.int (nI 1))) σ) (K0 : isWd P S = false → Q (some (.int (nI 0))) σ) : Wq xs (d + 1) ax_cd142 0 [(0, .ref 30), (1, .ref k)] [] σ Q := by
  obtain ⟨hk1, hk2, hk3, hk4, hk5⟩ := St_k hk
  have hkr := St_rng hk
  have hPk := cw_pok hC
  obtain ⟨hP1, hP2, hP3, hP4, hP5, hP6, hP7, hP8, hPv, hPm, hPo, hPw, hPl⟩ := hPk
  have hhr := hok.2.1
  refine wq_go rfl (fun _ => rfl) ?_
  refine wq_getf rfl (by first | rfl | assumption) (by first | decide | omega | assumption) hS.1 rfl ?_
  refine wq_cN (m := 24) rfl rfl ?_
  refine wq_divN rfl (by first | decide | omega) (by first | decide | omega) (by first | decide | omega) ?_
  refine wq_go rfl (fun _ => rfl) ?_
  refine wq_go rfl (fun _ => rfl) ?_
  refine wq_getf rfl (by first | rfl | assumption) (by first | decide | omega | assumption) (cw_c30 hC) rfl ?_
  refine wq_getf rfl (by first | rfl | assumption) (by first | decide | omega | assumption) (cw_c21 hC) rfl ?_
  refine wq_zle rfl (by first | omega | decide | exact Nat.lt_of_le_of_lt Nat.and_le_right (by decide) | exact ⟨by omega, by omega⟩) (fun c8 => ?_) (fun c8 => ?_)
  · skip
    refine wq_cN (m := 0) rfl rfl ?_
    refine wq_nret rfl (by decide) ?_
    first | exact K1 (decide_eq_true ⟨by omega, by omega, by omega⟩) | exact K0 (decide_eq_false (fun ⟨e1, e2, e3⟩ => by omega))
  · skip
    refine wq_go rfl (fun _ => rfl) ?_
    refine wq_callV rfl rfl (by first | rfl | assumption) (by first | decide | omega | assumption) (Nat.le_of_ble_eq_true rfl) (Nat.le_of_ble_eq_true rfl) rfl rfl ?_
    refine c_State_hourOfDay hk hS (by first | assumption | omega | decide) ?_
    refine wq_cN (m := 23) rfl rfl ?_
    refine wq_cne rfl (by first | omega | decide | exact Nat.lt_of_le_of_lt Nat.and_le_right (by decide) | exact ⟨by omega, by omega⟩) (by first | omega | decide | exact Nat.lt_of_le_of_lt Nat.and_le_right (by decide) | exact ⟨by omega, by omega⟩) (fun c12 => ?_) (fun c12 => ?_)
    · skip
      refine wq_cN (m := 0) rfl rfl ?_
      refine wq_nret rfl (by decide) ?_
      first | exact K1 (decide_eq_true ⟨by omega, by omega, by omega⟩) | exact K0 (decide_eq_false (fun ⟨e1, e2, e3⟩ => by omega))
    · skip
      refine wq_go rfl (fun _ => rfl) ?_
      refine wq_cN (m := 1) rfl rfl ?_
      refine wq_addN rfl ?_
      refine wq_go rfl (fun _ => rfl) ?_
      refine wq_getf rfl (by first | rfl | assumption) (by first | decide | omega | assumption) (cw_c30 hC) rfl ?_
      refine wq_getf rfl (by first | rfl | assumption) (by first | decide | omega | assumption) (cw_c21 hC) rfl ?_
      have hmm := Nat.mod_lt (Shr S / 24 + 1) (y := Pmo P) (by omega)
      refine wq_remN rfl (by first | decide | omega) (by first | decide | omega) (by first | decide | omega) ?_
      refine wq_zne rfl (by first | omega | decide | exact Nat.lt_of_le_of_lt Nat.and_le_right (by decide) | exact ⟨by omega, by omega⟩) (fun c20 => ?_) (fun c20 => ?_)
      · skip
        refine wq_cN (m := 0) rfl rfl ?_
        refine wq_nret rfl (by decide) ?_
        first | exact K1 (decide_eq_true ⟨by omega, by omega, by omega⟩) | exact K0 (decide_eq_false (fun ⟨e1, e2, e3⟩ => by omega))
      · skip
        refine wq_cN (m := 1) rfl rfl ?_
        refine wq_go rfl (fun _ => rfl) ?_
        refine wq_nret rfl (by decide) ?_
        first | exact K1 (decide_eq_true ⟨by omega, by omega, by omega⟩) | exact K0 (decide_eq_false (fun ⟨e1, e2, e3⟩ => by omega))
theorem c_feed_l {xs : List Int32} {d : Nat} {σ : Nat → List Value} {Q : Option Value → (Nat → List Value) → Prop} {k : Nat} {S : St} (hk : kd k = .inr 7) {P : Pl} (hP : Pok P) (hok : Sok S) {c sd : Nat} (hc : c < 4) (K : ∀ σ', Fr (xS k) σ σ' → CW P σ' → StIs σ' k (mothS S c) → Q none σ') : ∀ (m u : Nat), m + u = 4 → ∀ σ1, Fr (xS k) σ σ1 → CW P σ1 → StIs σ1 k (waS S c (fun t => Ssq S (c * 4 + t)) u) → Wq xs (d + 1) ax_cd139 14 [(4, .int (nI u)), (3, .int (nI c)), (0, .ref 30), (1, .ref k), (2, .int (nI sd))] [] σ1 Q := by
  obtain ⟨hk1, hk2, hk3, hk4, hk5⟩ := St_k hk
  have hkr := St_rng hk
  obtain ⟨hP1, hP2, hP3, hP4, hP5, hP6, hP7, hP8, hPv, hPm, hPo, hPw, hPl⟩ := hP
  intro m
  induction m with
  | zero =>
    intro u hm σ1 hF1 hC1 hS1
    refine wq_go rfl (fun _ => rfl) ?_
    refine wq_cN (m := 4) rfl rfl ?_
    refine wq_cge rfl (by first | omega | decide | exact Nat.lt_of_le_of_lt Nat.and_le_right (by decide) | exact ⟨by omega, by omega⟩) (by first | omega | decide | exact Nat.lt_of_le_of_lt Nat.and_le_right (by decide) | exact ⟨by omega, by omega⟩) (fun c16 => ?_) (fun c => absurd (show _ from by omega) c)
    have hu4 : u = 4 := by omega
    subst hu4
    refine wq_end rfl (fun _ => rfl) ?_
    exact K _ hF1 hC1 hS1
  | succ m ih =>
    intro u hm σ1 hF1 hC1 hS1
    refine wq_go rfl (fun _ => rfl) ?_
    refine wq_cN (m := 4) rfl rfl ?_
    refine wq_cge rfl (by first | omega | decide | exact Nat.lt_of_le_of_lt Nat.and_le_right (by decide) | exact ⟨by omega, by omega⟩) (by first | omega | decide | exact Nat.lt_of_le_of_lt Nat.and_le_right (by decide) | exact ⟨by omega, by omega⟩) (fun c => absurd c (by omega)) (fun c16 => ?_)
    have e1 := ws_sq S c (fun t => Ssq S (c * 4 + t)) u
    refine wq_go rfl (fun _ => rfl) ?_
    refine wq_go rfl (fun _ => rfl) ?_
    refine wq_go rfl (fun _ => rfl) ?_
    refine wq_go rfl (fun _ => rfl) ?_
    refine wq_go rfl (fun _ => rfl) ?_
    refine wq_go rfl (fun _ => rfl) ?_
    refine wq_callV rfl rfl (by first | rfl | assumption) (by first | decide | omega | assumption) (Nat.le_of_ble_eq_true rfl) (Nat.le_of_ble_eq_true rfl) rfl rfl ?_
    refine c_State_cloth hk hS1 (by first | assumption | omega | decide) (by first | assumption | omega | decide) ?_
    refine wq_callV rfl rfl (by first | rfl | assumption) (by first | decide | omega | assumption) (Nat.le_of_ble_eq_true rfl) (Nat.le_of_ble_eq_true rfl) rfl rfl ?_
    refine c_State_moveSquareToSuds hk hS1 (by omega) (by omega) (Nat.le_refl _) (fun σ3 F3 S3 => ?_)
    have C3 := cw_k hk hC1 F3
    refine wq_incN rfl rfl rfl ?_
    refine wq_go rfl (fun _ => rfl) ?_
    exact ih (u + 1) (by omega) _ (fr_trans hF1 (fr_mono F3 xk_S)) C3 (by have hz := S3; rw [e1] at hz; rw [← waS_s, ws_sq]; exact hz)
theorem c_House_feedMoth {xs : List Int32} {d : Nat} {σ : Nat → List Value} {Q : Option Value → (Nat → List Value) → Prop} {k : Nat} {S : St} (hk : kd k = .inr 7) (hS : StIs σ k S) {P : Pl} (hC : CW P σ) (hok : Sok S) {sd : Nat} (K : ∀ σ', Fr (xS k) σ σ' → CW P σ' → StIs σ' k (mothS S (mothC P sd S)) → Q none σ') : Wq xs (d + 2) ax_cd139 0 [(0, .ref 30), (1, .ref k), (2, .int (nI sd))] [] σ Q := by
  obtain ⟨hk1, hk2, hk3, hk4, hk5⟩ := St_k hk
  have hkr := St_rng hk
  have hPk := cw_pok hC
  obtain ⟨hP1, hP2, hP3, hP4, hP5, hP6, hP7, hP8, hPv, hPm, hPo, hPw, hPl⟩ := hPk
  refine wq_go rfl (fun _ => rfl) ?_
  refine wq_getf rfl (by first | rfl | assumption) (by first | decide | omega | assumption) (cw_c30 hC) rfl ?_
  refine wq_getf rfl (by first | rfl | assumption) (by first | decide | omega | assumption) (cw_c21 hC) rfl ?_
  refine wq_go rfl (fun _ => rfl) ?_
  refine wq_cN (m := 8) rfl rfl ?_
  refine wq_go rfl (fun _ => rfl) ?_
  refine wq_getf rfl (by first | rfl | assumption) (by first | decide | omega | assumption) hS.1 rfl ?_
  refine wq_mulN rfl ?_
  refine wq_cN (m := 1) rfl rfl ?_
  refine wq_addN rfl ?_
  refine wq_callS rfl (Nat.le_of_ble_eq_true rfl) rfl (Nat.le_of_ble_eq_true rfl) (Nat.le_of_ble_eq_true rfl) rfl rfl ?_
  refine c_House_lot (by first | assumption | omega | decide) ?_
  refine wq_go rfl (fun _ => rfl) ?_
  refine wq_cN (m := 0) rfl rfl ?_
  refine wq_go rfl (fun _ => rfl) ?_
  exact c_feed_l (d := d + 1) hk (cw_pok hC) hok (mothC_lt (cw_pok hC) sd S) K 4 0 rfl σ (fr_refl _ _) hC (by rw [waS_0]; exact hS)
theorem c_pass_t {xs : List Int32} {d : Nat} {σ : Nat → List Value} {Q : Option Value → (Nat → List Value) → Prop} {k : Nat} {S : St} (hk : kd k = .inr 7) {P : Pl} (hP : Pok P) (hok : Sok S) {n mo sd i : Nat} (hn : n < 1000) (hmo : mo < 2) (hi : i < n) (K : ∀ σ', Fr (xS k) σ σ' → CW P σ' → StIs σ' k (hour4 P S) → Wq xs (d + 4) ax_cd135 2 [(5, .int (nI (i + 1))), (0, .ref 30), (1, .ref k), (2, .int (nI n)), (3, .int (nI mo)), (4, .int (nI sd))] [] σ' Q) {v : Nat} (σ1 : Nat → List Value) (hF1 : Fr (xS k) σ σ1) (hC1 : CW P σ1) (hS1 : StIs σ1 k S) : Wq xs (d + 4) ax_cd135 78 [(6, .int (nI v)), (5, .int (nI i)), (0, .ref 30), (1, .ref k), (2, .int (nI n)), (3, .int (nI mo)), (4, .int (nI sd))] [] σ1 Q := by
  obtain ⟨hk1, hk2, hk3, hk4, hk5⟩ := St_k hk
  have hkr := St_rng hk
  have hP' := hP
  obtain ⟨hP1, hP2, hP3, hP4, hP5, hP6, hP7, hP8, hPv, hPm, hPo, hPw, hPl⟩ := hP'
  have hhr := hok.2.1
  refine wq_go rfl (fun _ => rfl) ?_
  refine wq_go rfl (fun _ => rfl) ?_
  refine wq_getf rfl (by first | rfl | assumption) (by first | decide | omega | assumption) hS1.1 rfl ?_
  refine wq_cN (m := 1) rfl rfl ?_
  refine wq_addN rfl ?_
  refine wq_putf rfl (by first | rfl | assumption) (by first | decide | omega | assumption) hS1.1 rfl rfl rfl (by simp) ?_
  refine wq_incN rfl rfl rfl ?_
  refine wq_go rfl (fun _ => rfl) ?_
  exact wq_lv ⟨(by decide : ([5, 6, 0, 1, 2, 3, 4] : List Nat).Nodup), (lvm (List.mem_of_getElem? (i := 0) rfl) (lvm (List.mem_of_getElem? (i := 2) rfl) (lvm (List.mem_of_getElem? (i := 3) rfl) (lvm (List.mem_of_getElem? (i := 4) rfl) (lvm (List.mem_of_getElem? (i := 5) rfl) (lvm (List.mem_of_getElem? (i := 6) rfl) lvn))))))⟩ (K _ (fr_up hF1 (xS_in (by omega) (by omega))) (cw_k hk hC1 (fr_up (fr_refl _ _) (xk_in (by omega) (by omega)))) ⟨(up_same _ _ _), ((up_ne _ _ (by omega)).trans hS1.2.1), ((up_ne _ _ (by omega)).trans hS1.2.2.1), ((up_ne _ _ (by omega)).trans hS1.2.2.2.1), ((up_ne _ _ (by omega)).trans hS1.2.2.2.2)⟩)
theorem c_pass_c {xs : List Int32} {d : Nat} {σ : Nat → List Value} {Q : Option Value → (Nat → List Value) → Prop} {k : Nat} {S : St} (hk : kd k = .inr 7) {P : Pl} (hP : Pok P) (hok : Sok S) {n mo sd i : Nat} (hn : n < 1000) (hmo : mo < 2) (hi : i < n) (K : ∀ σ', Fr (xS k) σ σ' → CW P σ' → StIs σ' k (hour4 P (washesS P S (Pch P))) → Wq xs (d + 4) ax_cd135 2 [(5, .int (nI (i + 1))), (0, .ref 30), (1, .ref k), (2, .int (nI n)), (3, .int (nI mo)), (4, .int (nI sd))] [] σ' Q) : ∀ (m u : Nat), m + u = Pch P → ∀ σ1, Fr (xS k) σ σ1 → CW P σ1 → StIs σ1 k (washesS P S u) → Wq xs (d + 4) ax_cd135 66 [(6, .int (nI u)), (5, .int (nI i)), (0, .ref 30), (1, .ref k), (2, .int (nI n)), (3, .int (nI mo)), (4, .int (nI sd))] [] σ1 Q := by
  obtain ⟨hk1, hk2, hk3, hk4, hk5⟩ := St_k hk
  have hkr := St_rng hk
  have hP' := hP
  obtain ⟨hP1, hP2, hP3, hP4, hP5, hP6, hP7, hP8, hPv, hPm, hPo, hPw, hPl⟩ := hP'
  have hhr := hok.2.1
  intro m
  induction m with
  | zero =>
    intro u hm σ1 hF1 hC1 hS1
    refine wq_go rfl (fun _ => rfl) ?_
    refine wq_go rfl (fun _ => rfl) ?_
    refine wq_getf rfl (by first | rfl | assumption) (by first | decide | omega | assumption) (cw_c30 hC1) rfl ?_
    refine wq_getf rfl (by first | rfl | assumption) (by first | decide | omega | assumption) (cw_c21 hC1) rfl ?_
    refine wq_cge rfl (by first | omega | decide | exact Nat.lt_of_le_of_lt Nat.and_le_right (by decide) | exact ⟨by omega, by omega⟩) (by first | omega | decide | exact Nat.lt_of_le_of_lt Nat.and_le_right (by decide) | exact ⟨by omega, by omega⟩) (fun c70 => ?_) (fun c => absurd (show _ from by omega) c)
    have hu4 : u = Pch P := by omega
    subst hu4
    exact c_pass_t hk hP (washes_ok hP hok (Pch P) (Nat.le_refl _)) hn hmo hi K σ1 hF1 hC1 hS1
  | succ m ih =>
    intro u hm σ1 hF1 hC1 hS1
    refine wq_go rfl (fun _ => rfl) ?_
    refine wq_go rfl (fun _ => rfl) ?_
    refine wq_getf rfl (by first | rfl | assumption) (by first | decide | omega | assumption) (cw_c30 hC1) rfl ?_
    refine wq_getf rfl (by first | rfl | assumption) (by first | decide | omega | assumption) (cw_c21 hC1) rfl ?_
    refine wq_cge rfl (by first | omega | decide | exact Nat.lt_of_le_of_lt Nat.and_le_right (by decide) | exact ⟨by omega, by omega⟩) (by first | omega | decide | exact Nat.lt_of_le_of_lt Nat.and_le_right (by decide) | exact ⟨by omega, by omega⟩) (fun c => absurd c (by omega)) (fun c70 => ?_)
    refine wq_go rfl (fun _ => rfl) ?_
    refine wq_go rfl (fun _ => rfl) ?_
    refine wq_go rfl (fun _ => rfl) ?_
    refine wq_callV rfl rfl (by first | rfl | assumption) (by first | decide | omega | assumption) (Nat.le_of_ble_eq_true rfl) (Nat.le_of_ble_eq_true rfl) rfl rfl ?_
    refine c_House_launder hk hS1 hC1 (washes_ok hP hok u (by omega)) (by omega) (fun σ2 F2 C2 S2 => ?_)
    refine wq_go rfl (fun _ => rfl) ?_
    refine wq_incN rfl rfl rfl ?_
    refine wq_go rfl (fun _ => rfl) ?_
    exact ih (u + 1) (by omega) _ (fr_trans hF1 F2) C2 S2
theorem c_pass_w {xs : List Int32} {d : Nat} {σ : Nat → List Value} {Q : Option Value → (Nat → List Value) → Prop} {k : Nat} {S : St} (hk : kd k = .inr 7) {P : Pl} (hP : Pok P) (hok : Sok S) {n mo sd i : Nat} (hn : n < 1000) (hmo : mo < 2) (hi : i < n) (K : ∀ σ', Fr (xS k) σ σ' → CW P σ' → StIs σ' k (hour3 P S) → Wq xs (d + 4) ax_cd135 2 [(5, .int (nI (i + 1))), (0, .ref 30), (1, .ref k), (2, .int (nI n)), (3, .int (nI mo)), (4, .int (nI sd))] [] σ' Q) {v : Nat} (σ1 : Nat → List Value) (hF1 : Fr (xS k) σ σ1) (hC1 : CW P σ1) (hS1 : StIs σ1 k S) : Wq xs (d + 4) ax_cd135 60 [(6, .int (nI v)), (5, .int (nI i)), (0, .ref 30), (1, .ref k), (2, .int (nI n)), (3, .int (nI mo)), (4, .int (nI sd))] [] σ1 Q := by
  obtain ⟨hk1, hk2, hk3, hk4, hk5⟩ := St_k hk
  have hkr := St_rng hk
  have hP' := hP
  obtain ⟨hP1, hP2, hP3, hP4, hP5, hP6, hP7, hP8, hPv, hPm, hPo, hPw, hPl⟩ := hP'
  have hhr := hok.2.1
  refine wq_go rfl (fun _ => rfl) ?_
  refine wq_go rfl (fun _ => rfl) ?_
  refine wq_callV rfl rfl (by first | rfl | assumption) (by first | decide | omega | assumption) (Nat.le_of_ble_eq_true rfl) (Nat.le_of_ble_eq_true rfl) rfl rfl ?_
  refine c_House_isWashDay hk hS1 hC1 hok (fun bw => ?_) (fun bw => ?_)
  · skip
    refine wq_zeq rfl (by first | omega | decide | exact Nat.lt_of_le_of_lt Nat.and_le_right (by decide) | exact ⟨by omega, by omega⟩) (fun c => absurd c (by omega)) (fun c63 => ?_)
    refine wq_cN (m := 0) rfl rfl ?_
    refine wq_go rfl (fun _ => rfl) ?_
    have K' := K
    rw [hour3, if_pos bw] at K'
    exact wq_lv ⟨(by decide : ([6, 5, 0, 1, 2, 3, 4] : List Nat).Nodup), (lvm (List.mem_of_getElem? (i := 0) rfl) (lvm (List.mem_of_getElem? (i := 1) rfl) (lvm (List.mem_of_getElem? (i := 2) rfl) (lvm (List.mem_of_getElem? (i := 3) rfl) (lvm (List.mem_of_getElem? (i := 4) rfl) (lvm (List.mem_of_getElem? (i := 5) rfl) (lvm (List.mem_of_getElem? (i := 6) rfl) lvn)))))))⟩ (c_pass_c hk hP hok hn hmo hi K' (Pch P) 0 rfl σ1 hF1 hC1 hS1)
  · skip
    refine wq_zeq rfl (by first | omega | decide | exact Nat.lt_of_le_of_lt Nat.and_le_right (by decide) | exact ⟨by omega, by omega⟩) (fun c63 => ?_) (fun c => absurd (show _ from by omega) c)
    have K' := K
    rw [hour3, if_neg (by rw [bw]; decide)] at K'
    exact c_pass_t hk hP hok hn hmo hi K' σ1 hF1 hC1 hS1
theorem c_pass_h {xs : List Int32} {d : Nat} {σ : Nat → List Value} {Q : Option Value → (Nat → List Value) → Prop} {k : Nat} {S : St} (hk : kd k = .inr 7) {P : Pl} (hP : Pok P) (hok : Sok S) {n mo sd i : Nat} (hn : n < 1000) (hmo : mo < 2) (hi : i < n) (K : ∀ σ', Fr (xS k) σ σ' → CW P σ' → StIs σ' k (hour3 P (fadesS P S (Phd P))) → Wq xs (d + 4) ax_cd135 2 [(5, .int (nI (i + 1))), (0, .ref 30), (1, .ref k), (2, .int (nI n)), (3, .int (nI mo)), (4, .int (nI sd))] [] σ' Q) : ∀ (m u : Nat), m + u = Phd P → ∀ σ1, Fr (xS k) σ σ1 → CW P σ1 → StIs σ1 k (fadesS P S u) → Wq xs (d + 4) ax_cd135 49 [(6, .int (nI u)), (5, .int (nI i)), (0, .ref 30), (1, .ref k), (2, .int (nI n)), (3, .int (nI mo)), (4, .int (nI sd))] [] σ1 Q := by
  obtain ⟨hk1, hk2, hk3, hk4, hk5⟩ := St_k hk
  have hkr := St_rng hk
  have hP' := hP
  obtain ⟨hP1, hP2, hP3, hP4, hP5, hP6, hP7, hP8, hPv, hPm, hPo, hPw, hPl⟩ := hP'
  have hhr := hok.2.1
  intro m
  induction m with
  | zero =>
    intro u hm σ1 hF1 hC1 hS1
    refine wq_go rfl (fun _ => rfl) ?_
    refine wq_go rfl (fun _ => rfl) ?_
    refine wq_getf rfl (by first | rfl | assumption) (by first | decide | omega | assumption) (cw_c30 hC1) rfl ?_
    refine wq_getf rfl (by first | rfl | assumption) (by first | decide | omega | assumption) (cw_c21 hC1) rfl ?_
    refine wq_cge rfl (by first | omega | decide | exact Nat.lt_of_le_of_lt Nat.and_le_right (by decide) | exact ⟨by omega, by omega⟩) (by first | omega | decide | exact Nat.lt_of_le_of_lt Nat.and_le_right (by decide) | exact ⟨by omega, by omega⟩) (fun c53 => ?_) (fun c => absurd (show _ from by omega) c)
    have hu4 : u = Phd P := by omega
    subst hu4
    exact c_pass_w hk hP (fades_ok hP hok (Phd P) (Nat.le_refl _)) hn hmo hi K σ1 hF1 hC1 hS1
  | succ m ih =>
    intro u hm σ1 hF1 hC1 hS1
    refine wq_go rfl (fun _ => rfl) ?_
    refine wq_go rfl (fun _ => rfl) ?_
    refine wq_getf rfl (by first | rfl | assumption) (by first | decide | omega | assumption) (cw_c30 hC1) rfl ?_
    refine wq_getf rfl (by first | rfl | assumption) (by first | decide | omega | assumption) (cw_c21 hC1) rfl ?_
    refine wq_cge rfl (by first | omega | decide | exact Nat.lt_of_le_of_lt Nat.and_le_right (by decide) | exact ⟨by omega, by omega⟩) (by first | omega | decide | exact Nat.lt_of_le_of_lt Nat.and_le_right (by decide) | exact ⟨by omega, by omega⟩) (fun c => absurd c (by omega)) (fun c53 => ?_)
    refine wq_go rfl (fun _ => rfl) ?_
    refine wq_go rfl (fun _ => rfl) ?_
    refine wq_go rfl (fun _ => rfl) ?_
    refine wq_callV rfl rfl (by first | rfl | assumption) (by first | decide | omega | assumption) (Nat.le_of_ble_eq_true rfl) (Nat.le_of_ble_eq_true rfl) rfl rfl ?_
    refine c_House_fade hk hS1 hC1 (fades_ok hP hok u (by omega)) (by omega) (fun σ2 F2 C2 S2 => ?_)
    refine wq_incN rfl rfl rfl ?_
    refine wq_go rfl (fun _ => rfl) ?_
    exact ih (u + 1) (by omega) _ (fr_trans hF1 F2) C2 S2
theorem c_pass_m {xs : List Int32} {d : Nat} {σ : Nat → List Value} {Q : Option Value → (Nat → List Value) → Prop} {k : Nat} {S : St} (hk : kd k = .inr 7) {P : Pl} (hP : Pok P) (hok : Sok S) {n mo sd i : Nat} (hn : n < 1000) (hmo : mo < 2) (hi : i < n) (K : ∀ σ', Fr (xS k) σ σ' → CW P σ' → StIs σ' k (hour3 P (fadesS P (hour2 P mo sd S) (Phd P))) → Wq xs (d + 4) ax_cd135 2 [(5, .int (nI (i + 1))), (0, .ref 30), (1, .ref k), (2, .int (nI n)), (3, .int (nI mo)), (4, .int (nI sd))] [] σ' Q) {v : Nat} (σ1 : Nat → List Value) (hF1 : Fr (xS k) σ σ1) (hC1 : CW P σ1) (hS1 : StIs σ1 k S) : Wq xs (d + 4) ax_cd135 36 [(6, .int (nI v)), (5, .int (nI i)), (0, .ref 30), (1, .ref k), (2, .int (nI n)), (3, .int (nI mo)), (4, .int (nI sd))] [] σ1 Q := by
  obtain ⟨hk1, hk2, hk3, hk4, hk5⟩ := St_k hk
  have hkr := St_rng hk
  have hP' := hP
  obtain ⟨hP1, hP2, hP3, hP4, hP5, hP6, hP7, hP8, hPv, hPm, hPo, hPw, hPl⟩ := hP'
  have hhr := hok.2.1
  refine wq_go rfl (fun _ => rfl) ?_
  refine wq_zeq rfl (by first | omega | decide | exact Nat.lt_of_le_of_lt Nat.and_le_right (by decide) | exact ⟨by omega, by omega⟩) (fun c37 => ?_) (fun c37 => ?_)
  · skip
    refine wq_cN (m := 0) rfl rfl ?_
    refine wq_go rfl (fun _ => rfl) ?_
    have K' := K
    rw [hour2, if_neg (fun e => by first | exact e.1 c37 | (rw [bm] at e; exact absurd e.2 (by decide)))] at K'
    exact wq_lv ⟨(by decide : ([6, 5, 0, 1, 2, 3, 4] : List Nat).Nodup), (lvm (List.mem_of_getElem? (i := 0) rfl) (lvm (List.mem_of_getElem? (i := 1) rfl) (lvm (List.mem_of_getElem? (i := 2) rfl) (lvm (List.mem_of_getElem? (i := 3) rfl) (lvm (List.mem_of_getElem? (i := 4) rfl) (lvm (List.mem_of_getElem? (i := 5) rfl) (lvm (List.mem_of_getElem? (i := 6) rfl) lvn)))))))⟩ (c_pass_h hk hP hok hn hmo hi K' (Phd P) 0 rfl _ hF1 hC1 hS1)
  · skip
    refine wq_go rfl (fun _ => rfl) ?_
    refine wq_go rfl (fun _ => rfl) ?_
    refine wq_go rfl (fun _ => rfl) ?_
    refine wq_callV rfl rfl (by first | rfl | assumption) (by first | decide | omega | assumption) (Nat.le_of_ble_eq_true rfl) (Nat.le_of_ble_eq_true rfl) rfl rfl ?_
    refine c_House_hasMoth hk hS1 hC1 hok (fun bm => ?_) (fun bm => ?_)
    · skip
      refine wq_zeq rfl (by first | omega | decide | exact Nat.lt_of_le_of_lt Nat.and_le_right (by decide) | exact ⟨by omega, by omega⟩) (fun c => absurd c (by omega)) (fun c42 => ?_)
      refine wq_go rfl (fun _ => rfl) ?_
      refine wq_go rfl (fun _ => rfl) ?_
      refine wq_go rfl (fun _ => rfl) ?_
      refine wq_callV rfl rfl (by first | rfl | assumption) (by first | decide | omega | assumption) (Nat.le_of_ble_eq_true rfl) (Nat.le_of_ble_eq_true rfl) rfl rfl ?_
      refine c_House_feedMoth hk hS1 hC1 hok (fun σ3 F3 C3 S3 => ?_)
      refine wq_cN (m := 0) rfl rfl ?_
      refine wq_go rfl (fun _ => rfl) ?_
      have K' := K
      rw [hour2, if_pos ⟨c37, bm⟩] at K'
      exact wq_lv ⟨(by decide : ([6, 5, 0, 1, 2, 3, 4] : List Nat).Nodup), (lvm (List.mem_of_getElem? (i := 0) rfl) (lvm (List.mem_of_getElem? (i := 1) rfl) (lvm (List.mem_of_getElem? (i := 2) rfl) (lvm (List.mem_of_getElem? (i := 3) rfl) (lvm (List.mem_of_getElem? (i := 4) rfl) (lvm (List.mem_of_getElem? (i := 5) rfl) (lvm (List.mem_of_getElem? (i := 6) rfl) lvn)))))))⟩ (c_pass_h hk hP (moth_ok hok (mothC_lt hP sd S)) hn hmo hi K' (Phd P) 0 rfl _ (fr_trans hF1 F3) C3 S3)
    · skip
      refine wq_zeq rfl (by first | omega | decide | exact Nat.lt_of_le_of_lt Nat.and_le_right (by decide) | exact ⟨by omega, by omega⟩) (fun c42 => ?_) (fun c => absurd (show _ from by omega) c)
      refine wq_cN (m := 0) rfl rfl ?_
      refine wq_go rfl (fun _ => rfl) ?_
      have K' := K
      rw [hour2, if_neg (fun e => by first | exact e.1 c37 | (rw [bm] at e; exact absurd e.2 (by decide)))] at K'
      exact wq_lv ⟨(by decide : ([6, 5, 0, 1, 2, 3, 4] : List Nat).Nodup), (lvm (List.mem_of_getElem? (i := 0) rfl) (lvm (List.mem_of_getElem? (i := 1) rfl) (lvm (List.mem_of_getElem? (i := 2) rfl) (lvm (List.mem_of_getElem? (i := 3) rfl) (lvm (List.mem_of_getElem? (i := 4) rfl) (lvm (List.mem_of_getElem? (i := 5) rfl) (lvm (List.mem_of_getElem? (i := 6) rfl) lvn)))))))⟩ (c_pass_h hk hP hok hn hmo hi K' (Phd P) 0 rfl _ hF1 hC1 hS1)
theorem vis_y {P : Pl} {S : St} {u : Nat} (h1 : Pvt P u = Shr (visS P S u) % 24) (h2 : (Skp (visS P S u)).testBit u = true) : visS P S (u + 1) = seatS P (visS P S u) (Pvh P u) (Pvc P u) := if_pos ⟨h1, h2⟩
theorem vis_n1 {P : Pl} {S : St} {u : Nat} (h1 : ¬ Pvt P u = Shr (visS P S u) % 24) : visS P S (u + 1) = visS P S u := if_neg (fun e => h1 e.1)
theorem vis_n2 {P : Pl} {S : St} {u : Nat} (h2 : (Skp (visS P S u)).testBit u = false) : visS P S (u + 1) = visS P S u := if_neg (fun e => by rw [h2] at e; exact absurd e.2 (by decide))
theorem c_pass_v {xs : List Int32} {d : Nat} {σ : Nat → List Value} {Q : Option Value → (Nat → List Value) → Prop} {k : Nat} {S : St} (hk : kd k = .inr 7) {P : Pl} (hP : Pok P) (hok : Sok S) {n mo sd i : Nat} (hn : n < 1000) (hmo : mo < 2) (hi : i < n) (K : ∀ σ', Fr (xS k) σ σ' → CW P σ' → StIs σ' k (hourS P mo sd S) → Wq xs (d + 4) ax_cd135 2 [(5, .int (nI (i + 1))), (0, .ref 30), (1, .ref k), (2, .int (nI n)), (3, .int (nI mo)), (4, .int (nI sd))] [] σ' Q) : ∀ (m u : Nat), m + u = Pvs P → ∀ σ1, Fr (xS k) σ σ1 → CW P σ1 → StIs σ1 k (visS P S u) → Wq xs (d + 4) ax_cd135 7 [(6, .int (nI u)), (5, .int (nI i)), (0, .ref 30), (1, .ref k), (2, .int (nI n)), (3, .int (nI mo)), (4, .int (nI sd))] [] σ1 Q := by
  obtain ⟨hk1, hk2, hk3, hk4, hk5⟩ := St_k hk
  have hkr := St_rng hk
  have hP' := hP
  obtain ⟨hP1, hP2, hP3, hP4, hP5, hP6, hP7, hP8, hPv, hPm, hPo, hPw, hPl⟩ := hP'
  have hhr := hok.2.1
  intro m
  induction m with
  | zero =>
    intro u hm σ1 hF1 hC1 hS1
    refine wq_go rfl (fun _ => rfl) ?_
    refine wq_go rfl (fun _ => rfl) ?_
    refine wq_getf rfl (by first | rfl | assumption) (by first | decide | omega | assumption) (cw_c30 hC1) rfl ?_
    refine wq_getf rfl (by first | rfl | assumption) (by first | decide | omega | assumption) (cw_c21 hC1) rfl ?_
    refine wq_cge rfl (by first | omega | decide | exact Nat.lt_of_le_of_lt Nat.and_le_right (by decide) | exact ⟨by omega, by omega⟩) (by first | omega | decide | exact Nat.lt_of_le_of_lt Nat.and_le_right (by decide) | exact ⟨by omega, by omega⟩) (fun c11 => ?_) (fun c => absurd (show _ from by omega) c)
    have hu4 : u = Pvs P := by omega
    subst hu4
    exact c_pass_m hk hP (vis_ok hP hok (Pvs P) (Nat.le_refl _)) hn hmo hi K σ1 hF1 hC1 hS1
  | succ m ih =>
    intro u hm σ1 hF1 hC1 hS1
    have hvo := vis_ok hP hok u (by omega)
    have hkp := hvo.2.2.2
    have hhv := hvo.2.1
    have hpv := hPv u (by omega)
    refine wq_go rfl (fun _ => rfl) ?_
    refine wq_go rfl (fun _ => rfl) ?_
    refine wq_getf rfl (by first | rfl | assumption) (by first | decide | omega | assumption) (cw_c30 hC1) rfl ?_
    refine wq_getf rfl (by first | rfl | assumption) (by first | decide | omega | assumption) (cw_c21 hC1) rfl ?_
    refine wq_cge rfl (by first | omega | decide | exact Nat.lt_of_le_of_lt Nat.and_le_right (by decide) | exact ⟨by omega, by omega⟩) (by first | omega | decide | exact Nat.lt_of_le_of_lt Nat.and_le_right (by decide) | exact ⟨by omega, by omega⟩) (fun c => absurd c (by omega)) (fun c11 => ?_)
    refine wq_go rfl (fun _ => rfl) ?_
    refine wq_getf rfl (by first | rfl | assumption) (by first | decide | omega | assumption) (cw_c30 hC1) rfl ?_
    refine wq_go rfl (fun _ => rfl) ?_
    refine wq_callV rfl rfl (by first | rfl | assumption) (by first | decide | omega | assumption) (Nat.le_of_ble_eq_true rfl) (Nat.le_of_ble_eq_true rfl) rfl rfl ?_
    refine c_Plan_visitHour hC1 (by first | assumption | omega | decide) ?_
    refine wq_go rfl (fun _ => rfl) ?_
    refine wq_callV rfl rfl (by first | rfl | assumption) (by first | decide | omega | assumption) (Nat.le_of_ble_eq_true rfl) (Nat.le_of_ble_eq_true rfl) rfl rfl ?_
    refine c_State_hourOfDay hk hS1 (by first | assumption | omega | decide) ?_
    refine wq_cne rfl (by first | omega | decide | exact Nat.lt_of_le_of_lt Nat.and_le_right (by decide) | exact ⟨by omega, by omega⟩) (by first | omega | decide | exact Nat.lt_of_le_of_lt Nat.and_le_right (by decide) | exact ⟨by omega, by omega⟩) (fun c18 => ?_) (fun c18 => ?_)
    · skip
      refine wq_incN rfl rfl rfl ?_
      refine wq_go rfl (fun _ => rfl) ?_
      exact ih (u + 1) (by omega) _ hF1 hC1 (by first | (rw [vis_y (by omega) bk]; exact hS1) | (rw [vis_n1 (by omega)]; exact hS1) | (rw [vis_n2 bk]; exact hS1))
    · skip
      refine wq_go rfl (fun _ => rfl) ?_
      refine wq_go rfl (fun _ => rfl) ?_
      refine wq_callV rfl rfl (by first | rfl | assumption) (by first | decide | omega | assumption) (Nat.le_of_ble_eq_true rfl) (Nat.le_of_ble_eq_true rfl) rfl rfl ?_
      refine c_State_isKept hk hS1 (by omega) hkp (fun bk => ?_) (fun bk => ?_)
      · skip
        refine wq_zeq rfl (by first | omega | decide | exact Nat.lt_of_le_of_lt Nat.and_le_right (by decide) | exact ⟨by omega, by omega⟩) (fun c => absurd c (by omega)) (fun c22 => ?_)
        refine wq_go rfl (fun _ => rfl) ?_
        refine wq_go rfl (fun _ => rfl) ?_
        refine wq_go rfl (fun _ => rfl) ?_
        refine wq_getf rfl (by first | rfl | assumption) (by first | decide | omega | assumption) (cw_c30 hC1) rfl ?_
        refine wq_go rfl (fun _ => rfl) ?_
        refine wq_callV rfl rfl (by first | rfl | assumption) (by first | decide | omega | assumption) (Nat.le_of_ble_eq_true rfl) (Nat.le_of_ble_eq_true rfl) rfl rfl ?_
        refine c_Plan_visitHead hC1 (by first | assumption | omega | decide) ?_
        refine wq_go rfl (fun _ => rfl) ?_
        refine wq_getf rfl (by first | rfl | assumption) (by first | decide | omega | assumption) (cw_c30 hC1) rfl ?_
        refine wq_go rfl (fun _ => rfl) ?_
        refine wq_callV rfl rfl (by first | rfl | assumption) (by first | decide | omega | assumption) (Nat.le_of_ble_eq_true rfl) (Nat.le_of_ble_eq_true rfl) rfl rfl ?_
        refine c_Plan_visitChair hC1 (by first | assumption | omega | decide) ?_
        refine wq_callV rfl rfl (by first | rfl | assumption) (by first | decide | omega | assumption) (Nat.le_of_ble_eq_true rfl) (Nat.le_of_ble_eq_true rfl) rfl rfl ?_
        refine c_House_seat hk hS1 hC1 hvo (by omega) (by omega) (fun σ7 F7 C7 S7 => ?_)
        refine wq_incN rfl rfl rfl ?_
        refine wq_go rfl (fun _ => rfl) ?_
        exact ih (u + 1) (by omega) _ (fr_trans hF1 F7) C7 (by first | (rw [vis_y (by omega) bk]; exact S7) | (rw [vis_n1 (by omega)]; exact S7) | (rw [vis_n2 bk]; exact S7))
      · skip
        refine wq_zeq rfl (by first | omega | decide | exact Nat.lt_of_le_of_lt Nat.and_le_right (by decide) | exact ⟨by omega, by omega⟩) (fun c22 => ?_) (fun c => absurd (show _ from by omega) c)
        refine wq_incN rfl rfl rfl ?_
        refine wq_go rfl (fun _ => rfl) ?_
        exact ih (u + 1) (by omega) _ hF1 hC1 (by first | (rw [vis_y (by omega) bk]; exact hS1) | (rw [vis_n1 (by omega)]; exact hS1) | (rw [vis_n2 bk]; exact hS1))
theorem c_pass_l {xs : List Int32} {d : Nat} {σ : Nat → List Value} {Q : Option Value → (Nat → List Value) → Prop} {k : Nat} {S : St} (hk : kd k = .inr 7) {P : Pl} (hP : Pok P) (hok : Sok S) {n mo sd : Nat} (hn : n < 1000) (hmo : mo < 2) (hr : Shr S + n ≤ 1000000) (K : ∀ σ', Fr (xS k) σ σ' → CW P σ' → StIs σ' k (goS P mo sd S n) → Q none σ') : ∀ (m u : Nat), m + u = n → ∀ σ1, Fr (xS k) σ σ1 → CW P σ1 → StIs σ1 k (goS P mo sd S u) → Wq xs (d + 4) ax_cd135 2 [(5, .int (nI u)), (0, .ref 30), (1, .ref k), (2, .int (nI n)), (3, .int (nI mo)), (4, .int (nI sd))] [] σ1 Q := by
  obtain ⟨hk1, hk2, hk3, hk4, hk5⟩ := St_k hk
  have hkr := St_rng hk
  have hP' := hP
  obtain ⟨hP1, hP2, hP3, hP4, hP5, hP6, hP7, hP8, hPv, hPm, hPo, hPw, hPl⟩ := hP'
  have hhr := hok.2.1
  intro m
  induction m with
  | zero =>
    intro u hm σ1 hF1 hC1 hS1
    refine wq_go rfl (fun _ => rfl) ?_
    refine wq_go rfl (fun _ => rfl) ?_
    refine wq_cge rfl (by first | omega | decide | exact Nat.lt_of_le_of_lt Nat.and_le_right (by decide) | exact ⟨by omega, by omega⟩) (by first | omega | decide | exact Nat.lt_of_le_of_lt Nat.and_le_right (by decide) | exact ⟨by omega, by omega⟩) (fun c4 => ?_) (fun c => absurd (show _ from by omega) c)
    refine wq_end rfl (fun _ => rfl) ?_
    have hu4 : u = n := by omega
    subst hu4
    exact K _ hF1 hC1 hS1
  | succ m ih =>
    intro u hm σ1 hF1 hC1 hS1
    refine wq_go rfl (fun _ => rfl) ?_
    refine wq_go rfl (fun _ => rfl) ?_
    refine wq_cge rfl (by first | omega | decide | exact Nat.lt_of_le_of_lt Nat.and_le_right (by decide) | exact ⟨by omega, by omega⟩) (by first | omega | decide | exact Nat.lt_of_le_of_lt Nat.and_le_right (by decide) | exact ⟨by omega, by omega⟩) (fun c => absurd c (by omega)) (fun c4 => ?_)
    refine wq_cN (m := 0) rfl rfl ?_
    refine wq_go rfl (fun _ => rfl) ?_
    exact wq_lv ⟨(by decide : ([6, 5, 0, 1, 2, 3, 4] : List Nat).Nodup), (lvm (List.mem_of_getElem? (i := 0) rfl) (lvm (List.mem_of_getElem? (i := 1) rfl) (lvm (List.mem_of_getElem? (i := 2) rfl) (lvm (List.mem_of_getElem? (i := 3) rfl) (lvm (List.mem_of_getElem? (i := 4) rfl) (lvm (List.mem_of_getElem? (i := 5) rfl) (lvm (List.mem_of_getElem? (i := 6) rfl) lvn)))))))⟩ (c_pass_v hk hP (go_ok hP hok mo sd u (by omega)) hn hmo (i := u) (by omega) (fun σ2 F2 C2 S2 => ih (u + 1) (by omega) σ2 F2 C2 S2) (Pvs P) 0 rfl σ1 hF1 hC1 hS1)
theorem c_House_pass {xs : List Int32} {d : Nat} {σ : Nat → List Value} {Q : Option Value → (Nat → List Value) → Prop} {k : Nat} {S : St} (hk : kd k = .inr 7) (hS : StIs σ k S) {P : Pl} (hC : CW P σ) (hok : Sok S) {n mo sd : Nat} (hn : n < 1000) (hmo : mo < 2) (hr : Shr S + n ≤ 1000000) (K : ∀ σ', Fr (xS k) σ σ' → CW P σ' → StIs σ' k (goS P mo sd S n) → Q none σ') : Wq xs (d + 4) ax_cd135 0 [(0, .ref 30), (1, .ref k), (2, .int (nI n)), (3, .int (nI mo)), (4, .int (nI sd))] [] σ Q := by
  refine wq_cN (m := 0) rfl rfl ?_
  refine wq_go rfl (fun _ => rfl) ?_
  exact c_pass_l hk (cw_pok hC) hok hn hmo hr K n 0 rfl σ (fr_refl _ _) hC hS
