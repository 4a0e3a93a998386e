/-! FORESIGHT -/
def fsF (p : Nat → Bool) : Nat → Nat → Int32
  | 0, _ => -2
  | m + 1, u => if p u = true then nI u else fsF p m (u + 1)
def seatN (P : Pl) (S : St) (h c : Nat) : Nat → St
  | 0 => S
  | u + 1 => seatS P (seatN P S h c u) h c
theorem seatN_ok (P : Pl) {S : St} (hok : Sok S) {h c : Nat} (hh : h < 5) (hc : c < 4) : ∀ u, Sok (seatN P S h c u)
  | 0 => hok
  | u + 1 => seat_ok P (seatN_ok P hok hh hc u) hh hc
theorem fs_y {p : Nat → Bool} {m u : Nat} {x : Int32} (h : x = fsF p (m + 1) u) (c : p u = true) : x = nI u := by
  rw [h, fsF, if_pos c]
theorem fs_n {p : Nat → Bool} {m u : Nat} {x : Int32} (h : x = fsF p (m + 1) u) (c : ¬ p u = true) : x = fsF p m (u + 1) := by
  rw [h, fsF, if_neg c]
def oZ (f : Nat → Int) (o : Option Nat) : Int := match o with
  | none => 0
  | some b => f b
theorem k35 : kd 35 = .inr 7 := rfl
theorem k41 : kd 41 = .inr 7 := rfl
theorem k48 : kd 48 = .inr 7 := rfl
theorem k53 : kd 53 = .inr 7 := rfl
theorem k58 : kd 58 = .inr 7 := rfl

theorem c_Foresight_after {xs : List Int32} {d : Nat} {σ : Nat → List Value} {Q : Option Value → (Nat → List Value) → Prop} {S : St} (hS : StIs σ 35 S) {P : Pl} (hC : CW P σ) (hok : Sok S) {S' : St} (hT : StIs σ 41 S') {n mo : Nat} (hn : n < 1000) (hmo : mo < 2) (hr : Shr S + n ≤ 1000000) (K : ∀ σ', Fr (xS 41) σ σ' → CW P σ' → StIs σ' 41 (goS P mo (Psd P) S n) → Q (some (.ref 41)) σ') : Wq xs (d + 5) ax_cd162 0 [(0, .ref 40), (1, .int (nI n)), (2, .int (nI mo))] [] σ Q := by
  have hPk := cw_pok hC
  obtain ⟨hP1, hP2, hP3, hP4, hP5, hP6, hP7, hP8, hPv, hPm, hPo, hPw, hPl⟩ := hPk
  have hhr := hok.2.1
  refine wq_go rfl (fun _ => rfl) ?_
  refine wq_getf rfl (by first | rfl | assumption) (by first | decide | omega | assumption) (cw_c40 hC) rfl ?_
  refine wq_go rfl (fun _ => rfl) ?_
  refine wq_getf rfl (by first | rfl | assumption) (by first | decide | omega | assumption) (cw_c40 hC) rfl ?_
  refine wq_callV rfl rfl (by first | rfl | assumption) (by first | decide | omega | assumption) (Nat.le_of_ble_eq_true rfl) (Nat.le_of_ble_eq_true rfl) rfl rfl ?_
  refine c_State_copyFrom k41 hT k35 hS (by decide) (fun σ6 F6 T6 => ?_)
  have C6 := cw_k k41 hC F6
  have S6 := st_S k35 k41 (by decide) (fr_mono F6 xk_S) hS
  refine wq_go rfl (fun _ => rfl) ?_
  refine wq_getf rfl (by first | rfl | assumption) (by first | decide | omega | assumption) (cw_c40 C6) rfl ?_
  refine wq_go rfl (fun _ => rfl) ?_
  refine wq_getf rfl (by first | rfl | assumption) (by first | decide | omega | assumption) (cw_c40 C6) rfl ?_
  refine wq_go rfl (fun _ => rfl) ?_
  refine wq_go rfl (fun _ => rfl) ?_
  refine wq_go rfl (fun _ => rfl) ?_
  refine wq_getf rfl (by first | rfl | assumption) (by first | decide | omega | assumption) (cw_c40 C6) rfl ?_
  refine wq_getf rfl (by first | rfl | assumption) (by first | decide | omega | assumption) (cw_c21 C6) rfl ?_
  refine wq_callV rfl rfl (by first | rfl | assumption) (by first | decide | omega | assumption) (Nat.le_of_ble_eq_true rfl) (Nat.le_of_ble_eq_true rfl) rfl rfl ?_
  refine c_House_pass k41 T6 C6 hok hn hmo hr (fun σ7 F7 C7 T7 => ?_)
  have S7 := st_S k35 k41 (by decide) F7 S6
  refine wq_go rfl (fun _ => rfl) ?_
  refine wq_getf rfl (by first | rfl | assumption) (by first | decide | omega | assumption) (cw_c40 C7) rfl ?_
  refine wq_end rfl (fun _ => rfl) ?_
  exact K _ (fr_trans (fr_trans (fr_refl (xS 41) σ) (fr_mono F6 xk_S)) F7) C7 T7
theorem setKp_ok {S : St} (hok : Sok S) {x : Nat} (hx : x < 1024) : Sok (setKp S x) := ⟨hok.1, hok.2.1, hok.2.2.1, hx⟩
theorem c_Foresight_afterGivingUp {xs : List Int32} {d : Nat} {σ : Nat → List Value} {Q : Option Value → (Nat → List Value) → Prop} {S : St} (hS : StIs σ 35 S) {P : Pl} (hC : CW P σ) (hok : Sok S) {S' : St} (hT : StIs σ 41 S') {i n : Nat} (hi : i < 10) (hn : n < 1000) (hr : Shr S + n ≤ 1000000) (K : ∀ σ', Fr (xS 41) σ σ' → CW P σ' → StIs σ' 41 (goS P 0 (Psd P) (setKp S (clr (Skp S) i)) n) → Q (some (.ref 41)) σ') : Wq xs (d + 5) ax_cd165 0 [(0, .ref 40), (1, .int (nI i)), (2, .int (nI n))] [] σ Q := by
  have hPk := cw_pok hC
  obtain ⟨hP1, hP2, hP3, hP4, hP5, hP6, hP7, hP8, hPv, hPm, hPo, hPw, hPl⟩ := hPk
  have hhr := hok.2.1
  refine wq_go rfl (fun _ => rfl) ?_
  refine wq_getf rfl (by first | rfl | assumption) (by first | decide | omega | assumption) (cw_c40 hC) rfl ?_
  refine wq_go rfl (fun _ => rfl) ?_
  refine wq_getf rfl (by first | rfl | assumption) (by first | decide | omega | assumption) (cw_c40 hC) rfl ?_
  refine wq_callV rfl rfl (by first | rfl | assumption) (by first | decide | omega | assumption) (Nat.le_of_ble_eq_true rfl) (Nat.le_of_ble_eq_true rfl) rfl rfl ?_
  refine c_State_copyFrom k41 hT k35 hS (by decide) (fun σ6 F6 T6 => ?_)
  have C6 := cw_k k41 hC F6
  have S6 := st_S k35 k41 (by decide) (fr_mono F6 xk_S) hS
  refine wq_go rfl (fun _ => rfl) ?_
  refine wq_getf rfl (by first | rfl | assumption) (by first | decide | omega | assumption) (cw_c40 C6) rfl ?_
  refine wq_go rfl (fun _ => rfl) ?_
  refine wq_cN (m := 0) rfl rfl ?_
  refine wq_callV rfl rfl (by first | rfl | assumption) (by first | decide | omega | assumption) (Nat.le_of_ble_eq_true rfl) (Nat.le_of_ble_eq_true rfl) rfl rfl ?_
  refine c_State_setKept0 k41 T6 (by omega) hok.2.2.2 (fun σ7 F7 T7 => ?_)
  have C7 := cw_k k41 C6 F7
  have S7 := st_S k35 k41 (by decide) (fr_mono F7 xk_S) S6
  refine wq_go rfl (fun _ => rfl) ?_
  refine wq_getf rfl (by first | rfl | assumption) (by first | decide | omega | assumption) (cw_c40 C7) rfl ?_
  refine wq_go rfl (fun _ => rfl) ?_
  refine wq_getf rfl (by first | rfl | assumption) (by first | decide | omega | assumption) (cw_c40 C7) rfl ?_
  refine wq_go rfl (fun _ => rfl) ?_
  refine wq_cN (m := 0) rfl rfl ?_
  refine wq_go rfl (fun _ => rfl) ?_
  refine wq_getf rfl (by first | rfl | assumption) (by first | decide | omega | assumption) (cw_c40 C7) rfl ?_
  refine wq_getf rfl (by first | rfl | assumption) (by first | decide | omega | assumption) (cw_c21 C7) rfl ?_
  refine wq_callV rfl rfl (by first | rfl | assumption) (by first | decide | omega | assumption) (Nat.le_of_ble_eq_true rfl) (Nat.le_of_ble_eq_true rfl) rfl rfl ?_
  refine c_House_pass k41 T7 C7 (setKp_ok hok (Nat.lt_of_le_of_lt (clr_le _ _) hok.2.2.2)) hn (by decide) hr (fun σ8 F8 C8 T8 => ?_)
  have S8 := st_S k35 k41 (by decide) F8 S7
  refine wq_go rfl (fun _ => rfl) ?_
  refine wq_getf rfl (by first | rfl | assumption) (by first | decide | omega | assumption) (cw_c40 C8) rfl ?_
  refine wq_end rfl (fun _ => rfl) ?_
  exact K _ (fr_trans (fr_trans (fr_trans (fr_refl (xS 41) σ) (fr_mono F6 xk_S)) (fr_mono F7 xk_S)) F8) C8 T8
theorem c_alone_l {xs : List Int32} {d : Nat} {σ : Nat → List Value} {Q : Option Value → (Nat → List Value) → Prop} {S : St} {P : Pl} (hP : Pok P) (hok : Sok S) {h c t : Nat} (hh : h < Phd P) (hc : c < Pch P) (ht : t < 4) (K : ∀ σ' S', Fr (xS 41) σ σ' → CW P σ' → StIs σ' 41 S' → Q (some (.int (fsF (fun u => says1 (seatN P S h c u) (Psa P) h t) 61 0))) σ') : ∀ (m u : Nat), m + u = 61 → ∀ σ1, Fr (xS 41) σ σ1 → CW P σ1 → StIs σ1 35 S → StIs σ1 41 (seatN P S h c u) → fsF (fun u => says1 (seatN P S h c u) (Psa P) h t) 61 0 = fsF (fun u => says1 (seatN P S h c u) (Psa P) h t) m u → Wq xs (d + 5) ax_cd151 7 [(4, .int (nI u)), (0, .ref 40), (1, .int (nI h)), (2, .int (nI c)), (3, .int (nI t))] [] σ1 Q := by
  have hP' := hP
  obtain ⟨hP1, hP2, hP3, hP4, hP5, hP6, hP7, hP8, hPv, hPm, hPo, hPw, hPl⟩ := hP'
  have hhr := hok.2.1
  intro m
  induction m with
  | zero =>
    intro u hm σ1 hF1 hC1 hS1 hT1 hfs
    refine wq_go rfl (fun _ => rfl) ?_
    refine wq_cN (m := 60) rfl rfl ?_
    refine wq_cgt rfl (by first | omega | decide | exact Nat.lt_of_le_of_lt Nat.and_le_right (by decide) | exact ⟨by omega, by omega⟩) (by first | omega | decide | exact Nat.lt_of_le_of_lt Nat.and_le_right (by decide) | exact ⟨by omega, by omega⟩) (fun c9 => ?_) (fun c => absurd (show _ from by omega) c)
    refine wq_go rfl (fun _ => rfl) ?_
    refine wq_iret rfl ?_
    have K' := K _ _ hF1 hC1 hT1
    first | (rw [fs_y hfs (by first | exact decide_eq_true (by omega) | exact decide_eq_true (by assumption))] at K'; exact K') | (rw [hfs] at K'; exact K')
  | succ m ih =>
    intro u hm σ1 hF1 hC1 hS1 hT1 hfs
    have hsn := seatN_ok P hok (h := h) (c := c) (by omega) (by omega) u
    have hbo := ow_le hsn (i := h * 4 + t) (by omega)
    refine wq_go rfl (fun _ => rfl) ?_
    refine wq_cN (m := 60) rfl rfl ?_
    refine wq_cgt rfl (by first | omega | decide | exact Nat.lt_of_le_of_lt Nat.and_le_right (by decide) | exact ⟨by omega, by omega⟩) (by first | omega | decide | exact Nat.lt_of_le_of_lt Nat.and_le_right (by decide) | exact ⟨by omega, by omega⟩) (fun c => absurd c (by omega)) (fun c9 => ?_)
    refine wq_go rfl (fun _ => rfl) ?_
    refine wq_getf rfl (by first | rfl | assumption) (by first | decide | omega | assumption) (cw_c40 hC1) rfl ?_
    refine wq_go rfl (fun _ => rfl) ?_
    refine wq_go rfl (fun _ => rfl) ?_
    refine wq_callV rfl rfl (by first | rfl | assumption) (by first | decide | omega | assumption) (Nat.le_of_ble_eq_true rfl) (Nat.le_of_ble_eq_true rfl) rfl rfl ?_
    refine c_State_own k41 hT1 (by omega) (by omega) ?_
    refine wq_go rfl (fun _ => rfl) ?_
    refine wq_getf rfl (by first | rfl | assumption) (by first | decide | omega | assumption) (cw_c40 hC1) rfl ?_
    refine wq_getf rfl (by first | rfl | assumption) (by first | decide | omega | assumption) (cw_c21 hC1) rfl ?_
    refine wq_clt rfl (by first | omega | decide | exact Nat.lt_of_le_of_lt Nat.and_le_right (by decide) | exact ⟨by omega, by omega⟩) (by first | omega | decide | exact Nat.lt_of_le_of_lt Nat.and_le_right (by decide) | exact ⟨by omega, by omega⟩) (fun c18 => ?_) (fun c18 => ?_)
    · skip
      refine wq_go rfl (fun _ => rfl) ?_
      refine wq_getf rfl (by first | rfl | assumption) (by first | decide | omega | assumption) (cw_c40 hC1) rfl ?_
      refine wq_go rfl (fun _ => rfl) ?_
      refine wq_getf rfl (by first | rfl | assumption) (by first | decide | omega | assumption) (cw_c40 hC1) rfl ?_
      refine wq_go rfl (fun _ => rfl) ?_
      refine wq_go rfl (fun _ => rfl) ?_
      refine wq_callV rfl rfl (by first | rfl | assumption) (by first | decide | omega | assumption) (Nat.le_of_ble_eq_true rfl) (Nat.le_of_ble_eq_true rfl) rfl rfl ?_
      refine c_House_seat k41 hT1 hC1 hsn hh hc (fun σ7 F7 C7 T7 => ?_)
      have S7 := st_S k35 k41 (by decide) F7 hS1
      refine wq_incN rfl rfl rfl ?_
      refine wq_go rfl (fun _ => rfl) ?_
      exact ih (u + 1) (by omega) _ (fr_trans hF1 F7) C7 S7 T7 (fs_n hfs (fun e => absurd (of_decide_eq_true e) (by first | omega | assumption)))
    · skip
      refine wq_go rfl (fun _ => rfl) ?_
      refine wq_iret rfl ?_
      have K' := K _ _ hF1 hC1 hT1
      first | (rw [fs_y hfs (by first | exact decide_eq_true (by omega) | exact decide_eq_true (by assumption))] at K'; exact K') | (rw [hfs] at K'; exact K')
theorem c_Foresight_sittingsAlone {xs : List Int32} {d : Nat} {σ : Nat → List Value} {Q : Option Value → (Nat → List Value) → Prop} {S : St} (hS : StIs σ 35 S) {P : Pl} (hC : CW P σ) (hok : Sok S) {S' : St} (hT : StIs σ 41 S') {h c t : Nat} (hh : h < Phd P) (hc : c < Pch P) (ht : t < 4) (K : ∀ σ' S', Fr (xS 41) σ σ' → CW P σ' → StIs σ' 41 S' → Q (some (.int (fsF (fun u => says1 (seatN P S h c u) (Psa P) h t) 61 0))) σ') : Wq xs (d + 5) ax_cd151 0 [(0, .ref 40), (1, .int (nI h)), (2, .int (nI c)), (3, .int (nI t))] [] σ Q := by
  have hPk := cw_pok hC
  obtain ⟨hP1, hP2, hP3, hP4, hP5, hP6, hP7, hP8, hPv, hPm, hPo, hPw, hPl⟩ := hPk
  have hhr := hok.2.1
  refine wq_go rfl (fun _ => rfl) ?_
  refine wq_getf rfl (by first | rfl | assumption) (by first | decide | omega | assumption) (cw_c40 hC) rfl ?_
  refine wq_go rfl (fun _ => rfl) ?_
  refine wq_getf rfl (by first | rfl | assumption) (by first | decide | omega | assumption) (cw_c40 hC) rfl ?_
  refine wq_callV rfl rfl (by first | rfl | assumption) (by first | decide | omega | assumption) (Nat.le_of_ble_eq_true rfl) (Nat.le_of_ble_eq_true rfl) rfl rfl ?_
  refine c_State_copyFrom k41 hT k35 hS (by decide) (fun σ6 F6 T6 => ?_)
  have C6 := cw_k k41 hC F6
  have S6 := st_S k35 k41 (by decide) (fr_mono F6 xk_S) hS
  refine wq_cN (m := 0) rfl rfl ?_
  refine wq_go rfl (fun _ => rfl) ?_
  exact c_alone_l (cw_pok hC) hok hh hc ht (fun σ2 S2 F2 C2 T2 => K σ2 S2 (fr_trans (fr_trans (fr_refl (xS 41) σ) (fr_mono F6 xk_S)) F2) C2 T2) 61 0 rfl _ (fr_refl _ _) C6 S6 T6 rfl
theorem c_until_l {xs : List Int32} {d : Nat} {σ : Nat → List Value} {Q : Option Value → (Nat → List Value) → Prop} {S : St} {P : Pl} (hP : Pok P) (hok : Sok S) {h t : Nat} (hh : h < Phd P) (ht : t < 4) (hr : Shr S + 300 ≤ 1000000) (K : ∀ σ' S', Fr (xS 41) σ σ' → CW P σ' → StIs σ' 41 S' → Q (some (.int (fsF (fun u => says1 (goS P 0 (Psd P) S u) (Psa P) h t) 201 0))) σ') : ∀ (m u : Nat), m + u = 201 → ∀ σ1, Fr (xS 41) σ σ1 → CW P σ1 → StIs σ1 35 S → StIs σ1 41 (goS P 0 (Psd P) S u) → fsF (fun u => says1 (goS P 0 (Psd P) S u) (Psa P) h t) 201 0 = fsF (fun u => says1 (goS P 0 (Psd P) S u) (Psa P) h t) m u → Wq xs (d + 5) ax_cd160 7 [(3, .int (nI u)), (0, .ref 40), (1, .int (nI h)), (2, .int (nI t))] [] σ1 Q := by
  have hP' := hP
  obtain ⟨hP1, hP2, hP3, hP4, hP5, hP6, hP7, hP8, hPv, hPm, hPo, hPw, hPl⟩ := hP'
  have hhr := hok.2.1
  intro m
  induction m with
  | zero =>
    intro u hm σ1 hF1 hC1 hS1 hT1 hfs
    refine wq_go rfl (fun _ => rfl) ?_
    refine wq_cN (m := 200) rfl rfl ?_
    refine wq_cgt rfl (by first | omega | decide | exact Nat.lt_of_le_of_lt Nat.and_le_right (by decide) | exact ⟨by omega, by omega⟩) (by first | omega | decide | exact Nat.lt_of_le_of_lt Nat.and_le_right (by decide) | exact ⟨by omega, by omega⟩) (fun c9 => ?_) (fun c => absurd (show _ from by omega) c)
    refine wq_go rfl (fun _ => rfl) ?_
    refine wq_iret rfl ?_
    have K' := K _ _ hF1 hC1 hT1
    first | (rw [fs_y hfs (by first | exact decide_eq_true (by omega) | exact decide_eq_true (by assumption))] at K'; exact K') | (rw [hfs] at K'; exact K')
  | succ m ih =>
    intro u hm σ1 hF1 hC1 hS1 hT1 hfs
    have hsn := go_ok hP hok 0 (Psd P) u (by omega)
    have hbo := ow_le hsn (i := h * 4 + t) (by omega)
    refine wq_go rfl (fun _ => rfl) ?_
    refine wq_cN (m := 200) rfl rfl ?_
    refine wq_cgt rfl (by first | omega | decide | exact Nat.lt_of_le_of_lt Nat.and_le_right (by decide) | exact ⟨by omega, by omega⟩) (by first | omega | decide | exact Nat.lt_of_le_of_lt Nat.and_le_right (by decide) | exact ⟨by omega, by omega⟩) (fun c => absurd c (by omega)) (fun c9 => ?_)
    refine wq_go rfl (fun _ => rfl) ?_
    refine wq_getf rfl (by first | rfl | assumption) (by first | decide | omega | assumption) (cw_c40 hC1) rfl ?_
    refine wq_go rfl (fun _ => rfl) ?_
    refine wq_go rfl (fun _ => rfl) ?_
    refine wq_callV rfl rfl (by first | rfl | assumption) (by first | decide | omega | assumption) (Nat.le_of_ble_eq_true rfl) (Nat.le_of_ble_eq_true rfl) rfl rfl ?_
    refine c_State_own k41 hT1 (by omega) (by omega) ?_
    refine wq_go rfl (fun _ => rfl) ?_
    refine wq_getf rfl (by first | rfl | assumption) (by first | decide | omega | assumption) (cw_c40 hC1) rfl ?_
    refine wq_getf rfl (by first | rfl | assumption) (by first | decide | omega | assumption) (cw_c21 hC1) rfl ?_
    refine wq_clt rfl (by first | omega | decide | exact Nat.lt_of_le_of_lt Nat.and_le_right (by decide) | exact ⟨by omega, by omega⟩) (by first | omega | decide | exact Nat.lt_of_le_of_lt Nat.and_le_right (by decide) | exact ⟨by omega, by omega⟩) (fun c18 => ?_) (fun c18 => ?_)
    · skip
      refine wq_go rfl (fun _ => rfl) ?_
      refine wq_getf rfl (by first | rfl | assumption) (by first | decide | omega | assumption) (cw_c40 hC1) rfl ?_
      refine wq_go rfl (fun _ => rfl) ?_
      refine wq_getf rfl (by first | rfl | assumption) (by first | decide | omega | assumption) (cw_c40 hC1) rfl ?_
      refine wq_cN (m := 1) rfl rfl ?_
      refine wq_cN (m := 0) rfl rfl ?_
      refine wq_go rfl (fun _ => rfl) ?_
      refine wq_getf rfl (by first | rfl | assumption) (by first | decide | omega | assumption) (cw_c40 hC1) rfl ?_
      refine wq_getf rfl (by first | rfl | assumption) (by first | decide | omega | assumption) (cw_c21 hC1) rfl ?_
      refine wq_callV rfl rfl (by first | rfl | assumption) (by first | decide | omega | assumption) (Nat.le_of_ble_eq_true rfl) (Nat.le_of_ble_eq_true rfl) rfl rfl ?_
      refine c_House_pass k41 hT1 hC1 hsn (n := 1) (by decide) (by decide) (by rw [go_hr]; omega) (fun σ7 F7 C7 T7 => ?_)
      have S7 := st_S k35 k41 (by decide) F7 hS1
      refine wq_incN rfl rfl rfl ?_
      refine wq_go rfl (fun _ => rfl) ?_
      exact ih (u + 1) (by omega) _ (fr_trans hF1 F7) C7 S7 T7 (fs_n hfs (fun e => absurd (of_decide_eq_true e) (by first | omega | assumption)))
    · skip
      refine wq_go rfl (fun _ => rfl) ?_
      refine wq_iret rfl ?_
      have K' := K _ _ hF1 hC1 hT1
      first | (rw [fs_y hfs (by first | exact decide_eq_true (by omega) | exact decide_eq_true (by assumption))] at K'; exact K') | (rw [hfs] at K'; exact K')
theorem c_Foresight_hoursUntilSaid {xs : List Int32} {d : Nat} {σ : Nat → List Value} {Q : Option Value → (Nat → List Value) → Prop} {S : St} (hS : StIs σ 35 S) {P : Pl} (hC : CW P σ) (hok : Sok S) {S' : St} (hT : StIs σ 41 S') {h t : Nat} (hh : h < Phd P) (ht : t < 4) (hr : Shr S + 300 ≤ 1000000) (K : ∀ σ' S', Fr (xS 41) σ σ' → CW P σ' → StIs σ' 41 S' → Q (some (.int (fsF (fun u => says1 (goS P 0 (Psd P) S u) (Psa P) h t) 201 0))) σ') : Wq xs (d + 5) ax_cd160 0 [(0, .ref 40), (1, .int (nI h)), (2, .int (nI t))] [] σ Q := by
  have hPk := cw_pok hC
  obtain ⟨hP1, hP2, hP3, hP4, hP5, hP6, hP7, hP8, hPv, hPm, hPo, hPw, hPl⟩ := hPk
  have hhr := hok.2.1
  refine wq_go rfl (fun _ => rfl) ?_
  refine wq_getf rfl (by first | rfl | assumption) (by first | decide | omega | assumption) (cw_c40 hC) rfl ?_
  refine wq_go rfl (fun _ => rfl) ?_
  refine wq_getf rfl (by first | rfl | assumption) (by first | decide | omega | assumption) (cw_c40 hC) rfl ?_
  refine wq_callV rfl rfl (by first | rfl | assumption) (by first | decide | omega | assumption) (Nat.le_of_ble_eq_true rfl) (Nat.le_of_ble_eq_true rfl) rfl rfl ?_
  refine c_State_copyFrom k41 hT k35 hS (by decide) (fun σ6 F6 T6 => ?_)
  have C6 := cw_k k41 hC F6
  have S6 := st_S k35 k41 (by decide) (fr_mono F6 xk_S) hS
  refine wq_cN (m := 0) rfl rfl ?_
  refine wq_go rfl (fun _ => rfl) ?_
  exact c_until_l (cw_pok hC) hok hh ht hr (fun σ2 S2 F2 C2 T2 => K σ2 S2 (fr_trans (fr_trans (fr_refl (xS 41) σ) (fr_mono F6 xk_S)) F2) C2 T2) 201 0 rfl _ (fr_refl _ _) C6 S6 T6 rfl
theorem c_silent_l {xs : List Int32} {d : Nat} {σ : Nat → List Value} {Q : Option Value → (Nat → List Value) → Prop} {S : St} {P : Pl} (hP : Pok P) (hok : Sok S) {t : Nat} (ht : t < 4) (hr : Shr S + 300 ≤ 1000000) (K : ∀ σ' S', Fr (xS 41) σ σ' → CW P σ' → StIs σ' 41 S' → Q (some (.int (fsF (fun u => decide (bset (fun h => says1 (goS P 0 (Psd P) S u) (Psa P) h t) (Phd P) = 0)) 201 0))) σ') : ∀ (m u : Nat), m + u = 201 → ∀ σ1, Fr (xS 41) σ σ1 → CW P σ1 → StIs σ1 35 S → StIs σ1 41 (goS P 0 (Psd P) S u) → fsF (fun u => decide (bset (fun h => says1 (goS P 0 (Psd P) S u) (Psa P) h t) (Phd P) = 0)) 201 0 = fsF (fun u => decide (bset (fun h => says1 (goS P 0 (Psd P) S u) (Psa P) h t) (Phd P) = 0)) m u → Wq xs (d + 5) ax_cd181 7 [(2, .int (nI u)), (0, .ref 40), (1, .int (nI t))] [] σ1 Q := by
  have hP' := hP
  obtain ⟨hP1, hP2, hP3, hP4, hP5, hP6, hP7, hP8, hPv, hPm, hPo, hPw, hPl⟩ := hP'
  have hhr := hok.2.1
  intro m
  induction m with
  | zero =>
    intro u hm σ1 hF1 hC1 hS1 hT1 hfs
    refine wq_go rfl (fun _ => rfl) ?_
    refine wq_cN (m := 200) rfl rfl ?_
    refine wq_cgt rfl (by first | omega | decide | exact Nat.lt_of_le_of_lt Nat.and_le_right (by decide) | exact ⟨by omega, by omega⟩) (by first | omega | decide | exact Nat.lt_of_le_of_lt Nat.and_le_right (by decide) | exact ⟨by omega, by omega⟩) (fun c9 => ?_) (fun c => absurd (show _ from by omega) c)
    refine wq_go rfl (fun _ => rfl) ?_
    refine wq_iret rfl ?_
    have K' := K _ _ hF1 hC1 hT1
    first | (rw [fs_y hfs (by first | exact decide_eq_true (by omega) | exact decide_eq_true (by assumption))] at K'; exact K') | (rw [hfs] at K'; exact K')
  | succ m ih =>
    intro u hm σ1 hF1 hC1 hS1 hT1 hfs
    have hsn := go_ok hP hok 0 (Psd P) u (by omega)
    refine wq_go rfl (fun _ => rfl) ?_
    refine wq_cN (m := 200) rfl rfl ?_
    refine wq_cgt rfl (by first | omega | decide | exact Nat.lt_of_le_of_lt Nat.and_le_right (by decide) | exact ⟨by omega, by omega⟩) (by first | omega | decide | exact Nat.lt_of_le_of_lt Nat.and_le_right (by decide) | exact ⟨by omega, by omega⟩) (fun c => absurd c (by omega)) (fun c9 => ?_)
    refine wq_go rfl (fun _ => rfl) ?_
    refine wq_getf rfl (by first | rfl | assumption) (by first | decide | omega | assumption) (cw_c40 hC1) rfl ?_
    refine wq_go rfl (fun _ => rfl) ?_
    refine wq_go rfl (fun _ => rfl) ?_
    refine wq_getf rfl (by first | rfl | assumption) (by first | decide | omega | assumption) (cw_c40 hC1) rfl ?_
    refine wq_getf rfl (by first | rfl | assumption) (by first | decide | omega | assumption) (cw_c21 hC1) rfl ?_
    refine wq_go rfl (fun _ => rfl) ?_
    refine wq_getf rfl (by first | rfl | assumption) (by first | decide | omega | assumption) (cw_c40 hC1) rfl ?_
    refine wq_getf rfl (by first | rfl | assumption) (by first | decide | omega | assumption) (cw_c21 hC1) rfl ?_
    refine wq_callV rfl rfl (by first | rfl | assumption) (by first | decide | omega | assumption) (Nat.le_of_ble_eq_true rfl) (Nat.le_of_ble_eq_true rfl) rfl rfl ?_
    refine c_State_sayersOf k41 hT1 hsn (by omega) (by omega) (by omega) ?_
    have hbl := bset_lt (fun h => says1 (goS P 0 (Psd P) S u) (Psa P) h t) (Phd P)
    have hp5 : 2 ^ Phd P ≤ 2 ^ 5 := Nat.pow_le_pow_right (by decide) hP2
    refine wq_zne rfl (by first | omega | decide | exact Nat.lt_of_le_of_lt Nat.and_le_right (by decide) | exact ⟨by omega, by omega⟩) (fun c20 => ?_) (fun c20 => ?_)
    · skip
      refine wq_go rfl (fun _ => rfl) ?_
      refine wq_getf rfl (by first | rfl | assumption) (by first | decide | omega | assumption) (cw_c40 hC1) rfl ?_
      refine wq_go rfl (fun _ => rfl) ?_
      refine wq_getf rfl (by first | rfl | assumption) (by first | decide | omega | assumption) (cw_c40 hC1) rfl ?_
      refine wq_cN (m := 1) rfl rfl ?_
      refine wq_cN (m := 0) rfl rfl ?_
      refine wq_go rfl (fun _ => rfl) ?_
      refine wq_getf rfl (by first | rfl | assumption) (by first | decide | omega | assumption) (cw_c40 hC1) rfl ?_
      refine wq_getf rfl (by first | rfl | assumption) (by first | decide | omega | assumption) (cw_c21 hC1) rfl ?_
      refine wq_callV rfl rfl (by first | rfl | assumption) (by first | decide | omega | assumption) (Nat.le_of_ble_eq_true rfl) (Nat.le_of_ble_eq_true rfl) rfl rfl ?_
      refine c_House_pass k41 hT1 hC1 hsn (n := 1) (by decide) (by decide) (by rw [go_hr]; omega) (fun σ7 F7 C7 T7 => ?_)
      have S7 := st_S k35 k41 (by decide) F7 hS1
      refine wq_incN rfl rfl rfl ?_
      refine wq_go rfl (fun _ => rfl) ?_
      exact ih (u + 1) (by omega) _ (fr_trans hF1 F7) C7 S7 T7 (fs_n hfs (fun e => absurd (of_decide_eq_true e) (by first | omega | assumption)))
    · skip
      refine wq_go rfl (fun _ => rfl) ?_
      refine wq_iret rfl ?_
      have K' := K _ _ hF1 hC1 hT1
      first | (rw [fs_y hfs (by first | exact decide_eq_true (by omega) | exact decide_eq_true (by assumption))] at K'; exact K') | (rw [hfs] at K'; exact K')
theorem c_Foresight_hoursUntilSilent {xs : List Int32} {d : Nat} {σ : Nat → List Value} {Q : Option Value → (Nat → List Value) → Prop} {S : St} (hS : StIs σ 35 S) {P : Pl} (hC : CW P σ) (hok : Sok S) {S' : St} (hT : StIs σ 41 S') {t : Nat} (ht : t < 4) (hr : Shr S + 300 ≤ 1000000) (K : ∀ σ' S', Fr (xS 41) σ σ' → CW P σ' → StIs σ' 41 S' → Q (some (.int (fsF (fun u => decide (bset (fun h => says1 (goS P 0 (Psd P) S u) (Psa P) h t) (Phd P) = 0)) 201 0))) σ') : Wq xs (d + 5) ax_cd181 0 [(0, .ref 40), (1, .int (nI t))] [] σ Q := by
  have hPk := cw_pok hC
  obtain ⟨hP1, hP2, hP3, hP4, hP5, hP6, hP7, hP8, hPv, hPm, hPo, hPw, hPl⟩ := hPk
  have hhr := hok.2.1
  refine wq_go rfl (fun _ => rfl) ?_
  refine wq_getf rfl (by first | rfl | assumption) (by first | decide | omega | assumption) (cw_c40 hC) rfl ?_
  refine wq_go rfl (fun _ => rfl) ?_
  refine wq_getf rfl (by first | rfl | assumption) (by first | decide | omega | assumption) (cw_c40 hC) rfl ?_
  refine wq_callV rfl rfl (by first | rfl | assumption) (by first | decide | omega | assumption) (Nat.le_of_ble_eq_true rfl) (Nat.le_of_ble_eq_true rfl) rfl rfl ?_
  refine c_State_copyFrom k41 hT k35 hS (by decide) (fun σ6 F6 T6 => ?_)
  have C6 := cw_k k41 hC F6
  have S6 := st_S k35 k41 (by decide) (fr_mono F6 xk_S) hS
  refine wq_cN (m := 0) rfl rfl ?_
  refine wq_go rfl (fun _ => rfl) ?_
  exact c_silent_l (cw_pok hC) hok ht hr (fun σ2 S2 F2 C2 T2 => K σ2 S2 (fr_trans (fr_trans (fr_refl (xS 41) σ) (fr_mono F6 xk_S)) F2) C2 T2) 201 0 rfl _ (fr_refl _ _) C6 S6 T6 rfl
theorem c_mgain_l {xs : List Int32} {d : Nat} {σ : Nat → List Value} {Q : Option Value → (Nat → List Value) → Prop} {S : St} {P : Pl} (hP : Pok P) (hok : Sok S) {h t : Nat} (hh : h < Phd P) (ht : t < 4) (K : ∀ σ', Fr xsc σ σ' → CW P σ' → Q (some (.int (oI (am (fun c => gainZ P S h c t) (List.range (Pch P)))))) σ') : ∀ (m u : Nat), m + u = Pch P → ∀ σ1, Fr xsc σ σ1 → CW P σ1 → StIs σ1 35 S → Wq xs (d + 3) ax_cd154 6 [(5, .int (nI u)), (4, .int (zI (oZ (fun c => gainZ P S h c t) (am (fun c => gainZ P S h c t) (List.range u))))), (3, .int (oI (am (fun c => gainZ P S h c t) (List.range u)))), (0, .ref 40), (1, .int (nI h)), (2, .int (nI t))] [] σ1 Q := by
  have hP' := hP
  obtain ⟨hP1, hP2, hP3, hP4, hP5, hP6, hP7, hP8, hPv, hPm, hPo, hPw, hPl⟩ := hP'
  have hhr := hok.2.1
  intro m
  induction m with
  | zero =>
    intro u hm σ1 hF1 hC1 hS1
    refine wq_go rfl (fun _ => rfl) ?_
    refine wq_go rfl (fun _ => rfl) ?_
    refine wq_getf rfl (by first | rfl | assumption) (by first | decide | omega | assumption) (cw_c40 hC1) rfl ?_
    refine wq_getf rfl (by first | rfl | assumption) (by first | decide | omega | assumption) (cw_c21 hC1) rfl ?_
    refine wq_cge rfl (by first | omega | decide | exact Nat.lt_of_le_of_lt Nat.and_le_right (by decide) | exact ⟨by omega, by omega⟩) (by first | omega | decide | exact Nat.lt_of_le_of_lt Nat.and_le_right (by decide) | exact ⟨by omega, by omega⟩) (fun c10 => ?_) (fun c => absurd (show _ from by omega) c)
    refine wq_go rfl (fun _ => rfl) ?_
    refine wq_iret rfl ?_
    rw [show u = Pch P by omega]
    exact K _ hF1 hC1
  | succ m ih =>
    intro u hm σ1 hF1 hC1 hS1
    cases hb0 : am (fun c => gainZ P S h c t) (List.range u) with
    | none =>
      refine wq_go rfl (fun _ => rfl) ?_
      refine wq_go rfl (fun _ => rfl) ?_
      refine wq_getf rfl (by first | rfl | assumption) (by first | decide | omega | assumption) (cw_c40 hC1) rfl ?_
      refine wq_getf rfl (by first | rfl | assumption) (by first | decide | omega | assumption) (cw_c21 hC1) rfl ?_
      refine wq_cge rfl (by first | omega | decide | exact Nat.lt_of_le_of_lt Nat.and_le_right (by decide) | exact ⟨by omega, by omega⟩) (by first | omega | decide | exact Nat.lt_of_le_of_lt Nat.and_le_right (by decide) | exact ⟨by omega, by omega⟩) (fun c => absurd c (by omega)) (fun c10 => ?_)
      refine wq_go rfl (fun _ => rfl) ?_
      refine wq_getf rfl (by first | rfl | assumption) (by first | decide | omega | assumption) (cw_c40 hC1) rfl ?_
      refine wq_go rfl (fun _ => rfl) ?_
      refine wq_getf rfl (by first | rfl | assumption) (by first | decide | omega | assumption) (cw_c40 hC1) rfl ?_
      refine wq_go rfl (fun _ => rfl) ?_
      refine wq_go rfl (fun _ => rfl) ?_
      refine wq_go rfl (fun _ => rfl) ?_
      refine wq_callV rfl rfl (by first | rfl | assumption) (by first | decide | omega | assumption) (Nat.le_of_ble_eq_true rfl) (Nat.le_of_ble_eq_true rfl) rfl rfl ?_
      refine c_House_gainOf k35 hS1 hC1 hok hh (by omega) ht (fun σ6 F6 C6 => ?_)
      have S6 := st_sc k35 F6 hS1
      refine wq_go rfl (fun _ => rfl) ?_
      refine wq_go rfl (fun _ => rfl) ?_
      refine wq_go rfl (fun _ => rfl) ?_
      refine wq_deq rfl (show (_ : Int32) = zI (-2) from by decide) (show (_ : Int32) = zI (-2) from by decide) (by first | omega | decide | exact Nat.lt_of_le_of_lt Nat.and_le_right (by decide) | exact ⟨by omega, by omega⟩) (by first | omega | decide | exact Nat.lt_of_le_of_lt Nat.and_le_right (by decide) | exact ⟨by omega, by omega⟩) (fun c22 => ?_) (fun c => absurd (show _ from by omega) c)
      refine wq_go rfl (fun _ => rfl) ?_
      refine wq_go rfl (fun _ => rfl) ?_
      refine wq_go rfl (fun _ => rfl) ?_
      refine wq_go rfl (fun _ => rfl) ?_
      refine wq_incN rfl rfl rfl ?_
      refine wq_go rfl (fun _ => rfl) ?_
      have hi := ih (u + 1) (by omega) _ (fr_trans hF1 F6) C6 S6
      rw [List.range_succ] at hi
      first | rw [am_n (f := (fun c => gainZ P S h c t)) u hb0] at hi | rw [am_g (f := (fun c => gainZ P S h c t)) u hb0 (by omega)] at hi | rw [am_l (f := (fun c => gainZ P S h c t)) u hb0 (by omega)] at hi
      exact wq_lv ⟨(by decide : ([5, 4, 3, 6, 0, 1, 2] : List Nat).Nodup), (lvm (List.mem_of_getElem? (i := 0) rfl) (lvm (List.mem_of_getElem? (i := 1) rfl) (lvm (List.mem_of_getElem? (i := 2) rfl) (lvm (List.mem_of_getElem? (i := 4) rfl) (lvm (List.mem_of_getElem? (i := 5) rfl) (lvm (List.mem_of_getElem? (i := 6) rfl) lvn))))))⟩ hi
    | some b =>
      have hbn := am_rlt hb0
      have hg1 := gain_bd P hok (h := h) (c := u) (t := t) (by omega) (by omega) ht
      have hg2 := gain_bd P hok (h := h) (c := b) (t := t) (by omega) (by omega) ht
      have q1 := ow_le hok (i := h * 4 + t) (by omega)
      have q2 := sq_le hok (i := u * 4 + t) (by omega)
      have q3 := sq_le hok (i := b * 4 + t) (by omega)
      simp only [oZ]
      refine wq_go rfl (fun _ => rfl) ?_
      refine wq_go rfl (fun _ => rfl) ?_
      refine wq_getf rfl (by first | rfl | assumption) (by first | decide | omega | assumption) (cw_c40 hC1) rfl ?_
      refine wq_getf rfl (by first | rfl | assumption) (by first | decide | omega | assumption) (cw_c21 hC1) rfl ?_
      refine wq_cge rfl (by first | omega | decide | exact Nat.lt_of_le_of_lt Nat.and_le_right (by decide) | exact ⟨by omega, by omega⟩) (by first | omega | decide | exact Nat.lt_of_le_of_lt Nat.and_le_right (by decide) | exact ⟨by omega, by omega⟩) (fun c => absurd c (by omega)) (fun c10 => ?_)
      refine wq_go rfl (fun _ => rfl) ?_
      refine wq_getf rfl (by first | rfl | assumption) (by first | decide | omega | assumption) (cw_c40 hC1) rfl ?_
      refine wq_go rfl (fun _ => rfl) ?_
      refine wq_getf rfl (by first | rfl | assumption) (by first | decide | omega | assumption) (cw_c40 hC1) rfl ?_
      refine wq_go rfl (fun _ => rfl) ?_
      refine wq_go rfl (fun _ => rfl) ?_
      refine wq_go rfl (fun _ => rfl) ?_
      refine wq_callV rfl rfl (by first | rfl | assumption) (by first | decide | omega | assumption) (Nat.le_of_ble_eq_true rfl) (Nat.le_of_ble_eq_true rfl) rfl rfl ?_
      refine c_House_gainOf k35 hS1 hC1 hok hh (by omega) ht (fun σ6 F6 C6 => ?_)
      have S6 := st_sc k35 F6 hS1
      refine wq_go rfl (fun _ => rfl) ?_
      refine wq_go rfl (fun _ => rfl) ?_
      refine wq_go rfl (fun _ => rfl) ?_
      refine wq_deq rfl (nI_z _) (show (_ : Int32) = zI (-2) from by decide) (by first | omega | decide | exact Nat.lt_of_le_of_lt Nat.and_le_right (by decide) | exact ⟨by omega, by omega⟩) (by first | omega | decide | exact Nat.lt_of_le_of_lt Nat.and_le_right (by decide) | exact ⟨by omega, by omega⟩) (fun c => absurd c (by omega)) (fun c22 => ?_)
      refine wq_go rfl (fun _ => rfl) ?_
      refine wq_go rfl (fun _ => rfl) ?_
      refine wq_dle rfl rfl rfl (by first | omega | decide | exact Nat.lt_of_le_of_lt Nat.and_le_right (by decide) | exact ⟨by omega, by omega⟩) (by first | omega | decide | exact Nat.lt_of_le_of_lt Nat.and_le_right (by decide) | exact ⟨by omega, by omega⟩) (fun c25 => ?_) (fun c25 => ?_)
      · skip
        refine wq_incN rfl rfl rfl ?_
        refine wq_go rfl (fun _ => rfl) ?_
        have hi := ih (u + 1) (by omega) _ (fr_trans hF1 F6) C6 S6
        rw [List.range_succ] at hi
        first | rw [am_n (f := (fun c => gainZ P S h c t)) u hb0] at hi | rw [am_g (f := (fun c => gainZ P S h c t)) u hb0 (by omega)] at hi | rw [am_l (f := (fun c => gainZ P S h c t)) u hb0 (by omega)] at hi
        exact wq_lv ⟨(by decide : ([5, 6, 4, 3, 0, 1, 2] : List Nat).Nodup), (lvm (List.mem_of_getElem? (i := 0) rfl) (lvm (List.mem_of_getElem? (i := 2) rfl) (lvm (List.mem_of_getElem? (i := 3) rfl) (lvm (List.mem_of_getElem? (i := 4) rfl) (lvm (List.mem_of_getElem? (i := 5) rfl) (lvm (List.mem_of_getElem? (i := 6) rfl) lvn))))))⟩ hi
      · skip
        refine wq_go rfl (fun _ => rfl) ?_
        refine wq_go rfl (fun _ => rfl) ?_
        refine wq_go rfl (fun _ => rfl) ?_
        refine wq_go rfl (fun _ => rfl) ?_
        refine wq_incN rfl rfl rfl ?_
        refine wq_go rfl (fun _ => rfl) ?_
        have hi := ih (u + 1) (by omega) _ (fr_trans hF1 F6) C6 S6
        rw [List.range_succ] at hi
        first | rw [am_n (f := (fun c => gainZ P S h c t)) u hb0] at hi | rw [am_g (f := (fun c => gainZ P S h c t)) u hb0 (by omega)] at hi | rw [am_l (f := (fun c => gainZ P S h c t)) u hb0 (by omega)] at hi
        exact wq_lv ⟨(by decide : ([5, 4, 3, 6, 0, 1, 2] : List Nat).Nodup), (lvm (List.mem_of_getElem? (i := 0) rfl) (lvm (List.mem_of_getElem? (i := 1) rfl) (lvm (List.mem_of_getElem? (i := 2) rfl) (lvm (List.mem_of_getElem? (i := 4) rfl) (lvm (List.mem_of_getElem? (i := 5) rfl) (lvm (List.mem_of_getElem? (i := 6) rfl) lvn))))))⟩ hi
theorem c_Foresight_chairOfMostGain {xs : List Int32} {d : Nat} {σ : Nat → List Value} {Q : Option Value → (Nat → List Value) → Prop} {S : St} (hS : StIs σ 35 S) {P : Pl} (hC : CW P σ) (hok : Sok S) {h t : Nat} (hh : h < Phd P) (ht : t < 4) (K : ∀ σ', Fr xsc σ σ' → CW P σ' → Q (some (.int (oI (am (fun c => gainZ P S h c t) (List.range (Pch P)))))) σ') : Wq xs (d + 3) ax_cd154 0 [(0, .ref 40), (1, .int (nI h)), (2, .int (nI t))] [] σ Q := by
  have hPk := cw_pok hC
  obtain ⟨hP1, hP2, hP3, hP4, hP5, hP6, hP7, hP8, hPv, hPm, hPo, hPw, hPl⟩ := hPk
  have hhr := hok.2.1
  refine wq_go rfl (fun _ => rfl) ?_
  refine wq_go rfl (fun _ => rfl) ?_
  refine wq_cN (m := 0) rfl rfl ?_
  refine wq_go rfl (fun _ => rfl) ?_
  refine wq_cN (m := 0) rfl rfl ?_
  refine wq_go rfl (fun _ => rfl) ?_
  exact c_mgain_l (cw_pok hC) hok hh ht K (Pch P) 0 rfl σ (fr_refl _ _) hC hS
theorem wsum_le (P : Pl) {S : St} (hok : Sok S) {c : Nat} (hc : c < 4) : sumF (washN P S c) 4 ≤ 7920 := by
  have h : ∀ t, t < 4 → washN P S c t ≤ 1980 := fun t ht => Nat.le_trans (wash_le P hok hc ht) (sq_le hok (by omega))
  have h0 := h 0 (by decide)
  have h1 := h 1 (by decide)
  have h2 := h 2 (by decide)
  have h3 := h 3 (by decide)
  simp only [sumF]
  omega
theorem c_msuds_l {xs : List Int32} {d : Nat} {σ : Nat → List Value} {Q : Option Value → (Nat → List Value) → Prop} {S : St} {P : Pl} (hP : Pok P) (hok : Sok S)  (K : ∀ σ', Fr xsc σ σ' → CW P σ' → Q (some (.int (oI (am (fun c => ((sumF (washN P S c) 4 : Nat) : Int)) (List.range (Pch P)))))) σ') : ∀ (m u : Nat), m + u = Pch P → ∀ σ1, Fr xsc σ σ1 → CW P σ1 → StIs σ1 35 S → Wq xs (d + 4) ax_cd184 6 [(3, .int (nI u)), (2, .int (nI (oV (fun c => sumF (washN P S c) 4) (am (fun c => ((sumF (washN P S c) 4 : Nat) : Int)) (List.range u))))), (1, .int (oI (am (fun c => ((sumF (washN P S c) 4 : Nat) : Int)) (List.range u)))), (0, .ref 40)] [] σ1 Q := by
  have hP' := hP
  obtain ⟨hP1, hP2, hP3, hP4, hP5, hP6, hP7, hP8, hPv, hPm, hPo, hPw, hPl⟩ := hP'
  have hhr := hok.2.1
  intro m
  induction m with
  | zero =>
    intro u hm σ1 hF1 hC1 hS1
    refine wq_go rfl (fun _ => rfl) ?_
    refine wq_go rfl (fun _ => rfl) ?_
    refine wq_getf rfl (by first | rfl | assumption) (by first | decide | omega | assumption) (cw_c40 hC1) rfl ?_
    refine wq_getf rfl (by first | rfl | assumption) (by first | decide | omega | assumption) (cw_c21 hC1) rfl ?_
    refine wq_cge rfl (by first | omega | decide | exact Nat.lt_of_le_of_lt Nat.and_le_right (by decide) | exact ⟨by omega, by omega⟩) (by first | omega | decide | exact Nat.lt_of_le_of_lt Nat.and_le_right (by decide) | exact ⟨by omega, by omega⟩) (fun c10 => ?_) (fun c => absurd (show _ from by omega) c)
    refine wq_go rfl (fun _ => rfl) ?_
    refine wq_iret rfl ?_
    rw [show u = Pch P by omega]
    exact K _ hF1 hC1
  | succ m ih =>
    intro u hm σ1 hF1 hC1 hS1
    cases hb0 : am (fun c => ((sumF (washN P S c) 4 : Nat) : Int)) (List.range u) with
    | none =>
      refine wq_go rfl (fun _ => rfl) ?_
      refine wq_go rfl (fun _ => rfl) ?_
      refine wq_getf rfl (by first | rfl | assumption) (by first | decide | omega | assumption) (cw_c40 hC1) rfl ?_
      refine wq_getf rfl (by first | rfl | assumption) (by first | decide | omega | assumption) (cw_c21 hC1) rfl ?_
      refine wq_cge rfl (by first | omega | decide | exact Nat.lt_of_le_of_lt Nat.and_le_right (by decide) | exact ⟨by omega, by omega⟩) (by first | omega | decide | exact Nat.lt_of_le_of_lt Nat.and_le_right (by decide) | exact ⟨by omega, by omega⟩) (fun c => absurd c (by omega)) (fun c10 => ?_)
      refine wq_go rfl (fun _ => rfl) ?_
      refine wq_getf rfl (by first | rfl | assumption) (by first | decide | omega | assumption) (cw_c40 hC1) rfl ?_
      refine wq_go rfl (fun _ => rfl) ?_
      refine wq_getf rfl (by first | rfl | assumption) (by first | decide | omega | assumption) (cw_c40 hC1) rfl ?_
      refine wq_go rfl (fun _ => rfl) ?_
      refine wq_callV rfl rfl (by first | rfl | assumption) (by first | decide | omega | assumption) (Nat.le_of_ble_eq_true rfl) (Nat.le_of_ble_eq_true rfl) rfl rfl ?_
      refine c_House_washedOfAll k35 hS1 hC1 hok (c := u) (by omega) (fun σ6 F6 C6 => ?_)
      have S6 := st_sc k35 F6 hS1
      refine wq_go rfl (fun _ => rfl) ?_
      refine wq_go rfl (fun _ => rfl) ?_
      refine wq_go rfl (fun _ => rfl) ?_
      refine wq_deq rfl (show (_ : Int32) = zI (-2) from by decide) (show (_ : Int32) = zI (-2) from by decide) (by first | omega | decide | exact Nat.lt_of_le_of_lt Nat.and_le_right (by decide) | exact ⟨by omega, by omega⟩) (by first | omega | decide | exact Nat.lt_of_le_of_lt Nat.and_le_right (by decide) | exact ⟨by omega, by omega⟩) (fun c20 => ?_) (fun c => absurd (show _ from by omega) c)
      refine wq_go rfl (fun _ => rfl) ?_
      refine wq_go rfl (fun _ => rfl) ?_
      refine wq_go rfl (fun _ => rfl) ?_
      refine wq_go rfl (fun _ => rfl) ?_
      refine wq_incN rfl rfl rfl ?_
      refine wq_go rfl (fun _ => rfl) ?_
      have hi := ih (u + 1) (by omega) _ (fr_trans hF1 F6) C6 S6
      rw [List.range_succ] at hi
      first | rw [am_n (f := (fun c => ((sumF (washN P S c) 4 : Nat) : Int))) u hb0] at hi | rw [am_g (f := (fun c => ((sumF (washN P S c) 4 : Nat) : Int))) u hb0 (by omega)] at hi | rw [am_l (f := (fun c => ((sumF (washN P S c) 4 : Nat) : Int))) u hb0 (by omega)] at hi
      exact wq_lv ⟨(by decide : ([3, 2, 1, 4, 0] : List Nat).Nodup), (lvm (List.mem_of_getElem? (i := 0) rfl) (lvm (List.mem_of_getElem? (i := 1) rfl) (lvm (List.mem_of_getElem? (i := 2) rfl) (lvm (List.mem_of_getElem? (i := 4) rfl) lvn))))⟩ hi
    | some b =>
      have hbn := am_rlt hb0
      have hg1 := wsum_le P hok (c := u) (by omega)
      have hg2 := wsum_le P hok (c := b) (by omega)
      simp only [oV]
      refine wq_go rfl (fun _ => rfl) ?_
      refine wq_go rfl (fun _ => rfl) ?_
      refine wq_getf rfl (by first | rfl | assumption) (by first | decide | omega | assumption) (cw_c40 hC1) rfl ?_
      refine wq_getf rfl (by first | rfl | assumption) (by first | decide | omega | assumption) (cw_c21 hC1) rfl ?_
      refine wq_cge rfl (by first | omega | decide | exact Nat.lt_of_le_of_lt Nat.and_le_right (by decide) | exact ⟨by omega, by omega⟩) (by first | omega | decide | exact Nat.lt_of_le_of_lt Nat.and_le_right (by decide) | exact ⟨by omega, by omega⟩) (fun c => absurd c (by omega)) (fun c10 => ?_)
      refine wq_go rfl (fun _ => rfl) ?_
      refine wq_getf rfl (by first | rfl | assumption) (by first | decide | omega | assumption) (cw_c40 hC1) rfl ?_
      refine wq_go rfl (fun _ => rfl) ?_
      refine wq_getf rfl (by first | rfl | assumption) (by first | decide | omega | assumption) (cw_c40 hC1) rfl ?_
      refine wq_go rfl (fun _ => rfl) ?_
      refine wq_callV rfl rfl (by first | rfl | assumption) (by first | decide | omega | assumption) (Nat.le_of_ble_eq_true rfl) (Nat.le_of_ble_eq_true rfl) rfl rfl ?_
      refine c_House_washedOfAll k35 hS1 hC1 hok (c := u) (by omega) (fun σ6 F6 C6 => ?_)
      have S6 := st_sc k35 F6 hS1
      refine wq_go rfl (fun _ => rfl) ?_
      refine wq_go rfl (fun _ => rfl) ?_
      refine wq_go rfl (fun _ => rfl) ?_
      refine wq_deq rfl (nI_z _) (show (_ : Int32) = zI (-2) from by decide) (by first | omega | decide | exact Nat.lt_of_le_of_lt Nat.and_le_right (by decide) | exact ⟨by omega, by omega⟩) (by first | omega | decide | exact Nat.lt_of_le_of_lt Nat.and_le_right (by decide) | exact ⟨by omega, by omega⟩) (fun c => absurd c (by omega)) (fun c20 => ?_)
      refine wq_go rfl (fun _ => rfl) ?_
      refine wq_go rfl (fun _ => rfl) ?_
      refine wq_cle rfl (by first | omega | decide | exact Nat.lt_of_le_of_lt Nat.and_le_right (by decide) | exact ⟨by omega, by omega⟩) (by first | omega | decide | exact Nat.lt_of_le_of_lt Nat.and_le_right (by decide) | exact ⟨by omega, by omega⟩) (fun c23 => ?_) (fun c23 => ?_)
      · skip
        refine wq_incN rfl rfl rfl ?_
        refine wq_go rfl (fun _ => rfl) ?_
        have hi := ih (u + 1) (by omega) _ (fr_trans hF1 F6) C6 S6
        rw [List.range_succ] at hi
        first | rw [am_n (f := (fun c => ((sumF (washN P S c) 4 : Nat) : Int))) u hb0] at hi | rw [am_g (f := (fun c => ((sumF (washN P S c) 4 : Nat) : Int))) u hb0 (by omega)] at hi | rw [am_l (f := (fun c => ((sumF (washN P S c) 4 : Nat) : Int))) u hb0 (by omega)] at hi
        exact wq_lv ⟨(by decide : ([3, 4, 2, 1, 0] : List Nat).Nodup), (lvm (List.mem_of_getElem? (i := 0) rfl) (lvm (List.mem_of_getElem? (i := 2) rfl) (lvm (List.mem_of_getElem? (i := 3) rfl) (lvm (List.mem_of_getElem? (i := 4) rfl) lvn))))⟩ hi
      · skip
        refine wq_go rfl (fun _ => rfl) ?_
        refine wq_go rfl (fun _ => rfl) ?_
        refine wq_go rfl (fun _ => rfl) ?_
        refine wq_go rfl (fun _ => rfl) ?_
        refine wq_incN rfl rfl rfl ?_
        refine wq_go rfl (fun _ => rfl) ?_
        have hi := ih (u + 1) (by omega) _ (fr_trans hF1 F6) C6 S6
        rw [List.range_succ] at hi
        first | rw [am_n (f := (fun c => ((sumF (washN P S c) 4 : Nat) : Int))) u hb0] at hi | rw [am_g (f := (fun c => ((sumF (washN P S c) 4 : Nat) : Int))) u hb0 (by omega)] at hi | rw [am_l (f := (fun c => ((sumF (washN P S c) 4 : Nat) : Int))) u hb0 (by omega)] at hi
        exact wq_lv ⟨(by decide : ([3, 2, 1, 4, 0] : List Nat).Nodup), (lvm (List.mem_of_getElem? (i := 0) rfl) (lvm (List.mem_of_getElem? (i := 1) rfl) (lvm (List.mem_of_getElem? (i := 2) rfl) (lvm (List.mem_of_getElem? (i := 4) rfl) lvn))))⟩ hi
theorem c_Foresight_chairOfMostSuds {xs : List Int32} {d : Nat} {σ : Nat → List Value} {Q : Option Value → (Nat → List Value) → Prop} {S : St} (hS : StIs σ 35 S) {P : Pl} (hC : CW P σ) (hok : Sok S)  (K : ∀ σ', Fr xsc σ σ' → CW P σ' → Q (some (.int (oI (am (fun c => ((sumF (washN P S c) 4 : Nat) : Int)) (List.range (Pch P)))))) σ') : Wq xs (d + 4) ax_cd184 0 [(0, .ref 40)] [] σ Q := by
  have hPk := cw_pok hC
  obtain ⟨hP1, hP2, hP3, hP4, hP5, hP6, hP7, hP8, hPv, hPm, hPo, hPw, hPl⟩ := hPk
  have hhr := hok.2.1
  refine wq_go rfl (fun _ => rfl) ?_
  refine wq_go rfl (fun _ => rfl) ?_
  refine wq_cN (m := 0) rfl rfl ?_
  refine wq_go rfl (fun _ => rfl) ?_
  refine wq_cN (m := 0) rfl rfl ?_
  refine wq_go rfl (fun _ => rfl) ?_
  exact c_msuds_l (cw_pok hC) hok  K (Pch P) 0 rfl σ (fr_refl _ _) hC hS
theorem sb_t {p : Nat → Bool} {u : Nat} (h : p u = true) : sumF (fun i => if p i = true then 1 else 0) u + 1 = sumF (fun i => if p i = true then 1 else 0) (u + 1) := by
  rw [sumF, if_pos h]
theorem sb_f {p : Nat → Bool} {u : Nat} (h : p u = false) : sumF (fun i => if p i = true then 1 else 0) u + 0 = sumF (fun i => if p i = true then 1 else 0) (u + 1) := by
  rw [sumF, if_neg (by rw [h]; decide)]
theorem c_seeds_l {xs : List Int32} {d : Nat} {σ : Nat → List Value} {Q : Option Value → (Nat → List Value) → Prop} {S : St} {P : Pl} (hP : Pok P) (hok : Sok S) {h t n s ys : Nat} (hh : h < Phd P) (ht : t < 4) (hn : n < 1000) (hs : s ≤ 20) (hr : Shr S + n ≤ 1000000) (hys : ys = if 0 < Pmt P then s else 1) (K : ∀ σ' S', Fr (xS 41) σ σ' → CW P σ' → StIs σ' 41 S' → Q (some (.int (nI (if 0 < Pmt P then sumF (fun i => if says1 (goS P 1 (Psd P + i) S n) (Psa P) h t = true then 1 else 0) s else sumF (fun i => if says1 (goS P 1 (Psd P + i) S n) (Psa P) h t = true then 1 else 0) 1 * s)))) σ') : ∀ (m u : Nat), m + u = ys → ∀ σ1 S1, Fr (xS 41) σ σ1 → CW P σ1 → StIs σ1 35 S → StIs σ1 41 S1 → Wq xs (d + 5) ax_cd190 12 [(7, .int (nI u)), (6, .int (nI (sumF (fun i => if says1 (goS P 1 (Psd P + i) S n) (Psa P) h t = true then 1 else 0) u))), (5, .int (nI ys)), (0, .ref 40), (1, .int (nI h)), (2, .int (nI t)), (3, .int (nI n)), (4, .int (nI s))] [] σ1 Q := by
  have hP' := hP
  obtain ⟨hP1, hP2, hP3, hP4, hP5, hP6, hP7, hP8, hPv, hPm, hPo, hPw, hPl⟩ := hP'
  have hhr := hok.2.1
  have hy1 : ys ≤ 20 := by rw [hys]; split <;> omega
  intro m
  induction m with
  | zero =>
    intro u hm σ1 S1 hF1 hC1 hS1 hT1
    refine wq_go rfl (fun _ => rfl) ?_
    refine wq_go rfl (fun _ => rfl) ?_
    refine wq_cge rfl (by first | omega | decide | exact Nat.lt_of_le_of_lt Nat.and_le_right (by decide) | exact ⟨by omega, by omega⟩) (by first | omega | decide | exact Nat.lt_of_le_of_lt Nat.and_le_right (by decide) | exact ⟨by omega, by omega⟩) (fun c14 => ?_) (fun c => absurd (show _ from by omega) c)
    refine wq_go rfl (fun _ => rfl) ?_
    refine wq_getf rfl (by first | rfl | assumption) (by first | decide | omega | assumption) (cw_c40 hC1) rfl ?_
    refine wq_getf rfl (by first | rfl | assumption) (by first | decide | omega | assumption) (cw_c21 hC1) rfl ?_
    refine wq_zle rfl (by first | omega | decide | exact Nat.lt_of_le_of_lt Nat.and_le_right (by decide) | exact ⟨by omega, by omega⟩) (fun c52 => ?_) (fun c52 => ?_)
    · skip
      refine wq_go rfl (fun _ => rfl) ?_
      refine wq_go rfl (fun _ => rfl) ?_
      refine wq_mulN rfl ?_
      refine wq_iret rfl ?_
      have hu : u = ys := by omega
      subst hu
      have K' := K _ _ hF1 hC1 hT1
      first | (rw [if_pos (by omega)] at hys K'; rw [hys]; exact K') | (rw [if_neg (by omega)] at hys K'; rw [hys]; exact K')
    · skip
      refine wq_go rfl (fun _ => rfl) ?_
      refine wq_go rfl (fun _ => rfl) ?_
      refine wq_iret rfl ?_
      have hu : u = ys := by omega
      subst hu
      have K' := K _ _ hF1 hC1 hT1
      first | (rw [if_pos (by omega)] at hys K'; rw [hys]; exact K') | (rw [if_neg (by omega)] at hys K'; rw [hys]; exact K')
  | succ m ih =>
    intro u hm σ1 S1 hF1 hC1 hS1 hT1
    refine wq_go rfl (fun _ => rfl) ?_
    refine wq_go rfl (fun _ => rfl) ?_
    refine wq_cge rfl (by first | omega | decide | exact Nat.lt_of_le_of_lt Nat.and_le_right (by decide) | exact ⟨by omega, by omega⟩) (by first | omega | decide | exact Nat.lt_of_le_of_lt Nat.and_le_right (by decide) | exact ⟨by omega, by omega⟩) (fun c => absurd c (by omega)) (fun c14 => ?_)
    refine wq_go rfl (fun _ => rfl) ?_
    refine wq_getf rfl (by first | rfl | assumption) (by first | decide | omega | assumption) (cw_c40 hC1) rfl ?_
    refine wq_go rfl (fun _ => rfl) ?_
    refine wq_getf rfl (by first | rfl | assumption) (by first | decide | omega | assumption) (cw_c40 hC1) rfl ?_
    refine wq_callV rfl rfl (by first | rfl | assumption) (by first | decide | omega | assumption) (Nat.le_of_ble_eq_true rfl) (Nat.le_of_ble_eq_true rfl) rfl rfl ?_
    refine c_State_copyFrom k41 hT1 k35 hS1 (by decide) (fun σ6 F6 T6 => ?_)
    have C6 := cw_k k41 hC1 F6
    have S6 := st_S k35 k41 (by decide) (fr_mono F6 xk_S) hS1
    refine wq_go rfl (fun _ => rfl) ?_
    refine wq_getf rfl (by first | rfl | assumption) (by first | decide | omega | assumption) (cw_c40 C6) rfl ?_
    refine wq_go rfl (fun _ => rfl) ?_
    refine wq_getf rfl (by first | rfl | assumption) (by first | decide | omega | assumption) (cw_c40 C6) rfl ?_
    refine wq_go rfl (fun _ => rfl) ?_
    refine wq_cN (m := 1) rfl rfl ?_
    refine wq_go rfl (fun _ => rfl) ?_
    refine wq_getf rfl (by first | rfl | assumption) (by first | decide | omega | assumption) (cw_c40 C6) rfl ?_
    refine wq_getf rfl (by first | rfl | assumption) (by first | decide | omega | assumption) (cw_c21 C6) rfl ?_
    refine wq_go rfl (fun _ => rfl) ?_
    refine wq_addN rfl ?_
    refine wq_callV rfl rfl (by first | rfl | assumption) (by first | decide | omega | assumption) (Nat.le_of_ble_eq_true rfl) (Nat.le_of_ble_eq_true rfl) rfl rfl ?_
    refine c_House_pass k41 T6 C6 hok hn (by decide) hr (fun σ7 F7 C7 T7 => ?_)
    have S7 := st_S k35 k41 (by decide) F7 S6
    refine wq_go rfl (fun _ => rfl) ?_
    refine wq_go rfl (fun _ => rfl) ?_
    refine wq_getf rfl (by first | rfl | assumption) (by first | decide | omega | assumption) (cw_c40 C7) rfl ?_
    refine wq_go rfl (fun _ => rfl) ?_
    refine wq_go rfl (fun _ => rfl) ?_
    refine wq_callV rfl rfl (by first | rfl | assumption) (by first | decide | omega | assumption) (Nat.le_of_ble_eq_true rfl) (Nat.le_of_ble_eq_true rfl) rfl rfl ?_
    refine c_State_own k41 T7 (by omega) (by omega) ?_
    have hbo := ow_le (go_ok hP hok 1 (Psd P + u) n hr) (i := h * 4 + t) (by omega)
    refine wq_go rfl (fun _ => rfl) ?_
    refine wq_getf rfl (by first | rfl | assumption) (by first | decide | omega | assumption) (cw_c40 C7) rfl ?_
    refine wq_getf rfl (by first | rfl | assumption) (by first | decide | omega | assumption) (cw_c21 C7) rfl ?_
    refine wq_clt rfl (by first | omega | decide | exact Nat.lt_of_le_of_lt Nat.and_le_right (by decide) | exact ⟨by omega, by omega⟩) (by first | omega | decide | exact Nat.lt_of_le_of_lt Nat.and_le_right (by decide) | exact ⟨by omega, by omega⟩) (fun c41 => ?_) (fun c41 => ?_)
    · skip
      refine wq_cN (m := 0) rfl rfl ?_
      refine wq_addN rfl ?_
      refine wq_go rfl (fun _ => rfl) ?_
      refine wq_incN rfl rfl rfl ?_
      refine wq_go rfl (fun _ => rfl) ?_
      first | rw [sb_t (p := fun i => says1 (goS P 1 (Psd P + i) S n) (Psa P) h t) (decide_eq_true (by omega))] | rw [sb_f (p := fun i => says1 (goS P 1 (Psd P + i) S n) (Psa P) h t) (decide_eq_false (by omega))]
      exact ih (u + 1) (by omega) _ _ (fr_trans (fr_trans hF1 (fr_mono F6 xk_S)) F7) C7 S7 T7
    · skip
      refine wq_cN (m := 1) rfl rfl ?_
      refine wq_go rfl (fun _ => rfl) ?_
      refine wq_addN rfl ?_
      refine wq_go rfl (fun _ => rfl) ?_
      refine wq_incN rfl rfl rfl ?_
      refine wq_go rfl (fun _ => rfl) ?_
      first | rw [sb_t (p := fun i => says1 (goS P 1 (Psd P + i) S n) (Psa P) h t) (decide_eq_true (by omega))] | rw [sb_f (p := fun i => says1 (goS P 1 (Psd P + i) S n) (Psa P) h t) (decide_eq_false (by omega))]
      exact ih (u + 1) (by omega) _ _ (fr_trans (fr_trans hF1 (fr_mono F6 xk_S)) F7) C7 S7 T7
theorem c_Foresight_seedsThatSay {xs : List Int32} {d : Nat} {σ : Nat → List Value} {Q : Option Value → (Nat → List Value) → Prop} {S : St} (hS : StIs σ 35 S) {P : Pl} (hC : CW P σ) (hok : Sok S) {S' : St} (hT : StIs σ 41 S') {h t n s : Nat} (hh : h < Phd P) (ht : t < 4) (hn : n < 1000) (hs : s ≤ 20) (hr : Shr S + n ≤ 1000000) (K : ∀ σ' S', Fr (xS 41) σ σ' → CW P σ' → StIs σ' 41 S' → Q (some (.int (nI (if 0 < Pmt P then sumF (fun i => if says1 (goS P 1 (Psd P + i) S n) (Psa P) h t = true then 1 else 0) s else sumF (fun i => if says1 (goS P 1 (Psd P + i) S n) (Psa P) h t = true then 1 else 0) 1 * s)))) σ') : Wq xs (d + 5) ax_cd190 0 [(0, .ref 40), (1, .int (nI h)), (2, .int (nI t)), (3, .int (nI n)), (4, .int (nI s))] [] σ Q := by
  have hPk := cw_pok hC
  obtain ⟨hP1, hP2, hP3, hP4, hP5, hP6, hP7, hP8, hPv, hPm, hPo, hPw, hPl⟩ := hPk
  have hhr := hok.2.1
  refine wq_go rfl (fun _ => rfl) ?_
  refine wq_getf rfl (by first | rfl | assumption) (by first | decide | omega | assumption) (cw_c40 hC) rfl ?_
  refine wq_getf rfl (by first | rfl | assumption) (by first | decide | omega | assumption) (cw_c21 hC) rfl ?_
  refine wq_zle rfl (by first | omega | decide | exact Nat.lt_of_le_of_lt Nat.and_le_right (by decide) | exact ⟨by omega, by omega⟩) (fun c3 => ?_) (fun c3 => ?_)
  · skip
    refine wq_cN (m := 1) rfl rfl ?_
    refine wq_go rfl (fun _ => rfl) ?_
    refine wq_cN (m := 0) rfl rfl ?_
    refine wq_go rfl (fun _ => rfl) ?_
    refine wq_cN (m := 0) rfl rfl ?_
    refine wq_go rfl (fun _ => rfl) ?_
    first | exact c_seeds_l (ys := s) (cw_pok hC) hok hh ht hn hs hr (if_pos (by omega)).symm K s 0 rfl σ S' (fr_refl _ _) hC hS hT | exact c_seeds_l (ys := 1) (cw_pok hC) hok hh ht hn hs hr (if_neg (by omega)).symm K 1 0 rfl σ S' (fr_refl _ _) hC hS hT
  · skip
    refine wq_go rfl (fun _ => rfl) ?_
    refine wq_go rfl (fun _ => rfl) ?_
    refine wq_go rfl (fun _ => rfl) ?_
    refine wq_cN (m := 0) rfl rfl ?_
    refine wq_go rfl (fun _ => rfl) ?_
    refine wq_cN (m := 0) rfl rfl ?_
    refine wq_go rfl (fun _ => rfl) ?_
    first | exact c_seeds_l (ys := s) (cw_pok hC) hok hh ht hn hs hr (if_pos (by omega)).symm K s 0 rfl σ S' (fr_refl _ _) hC hS hT | exact c_seeds_l (ys := 1) (cw_pok hC) hok hh ht hn hs hr (if_neg (by omega)).symm K 1 0 rfl σ S' (fr_refl _ _) hC hS hT
