/-! CALLS THAT ASK: the reference -/
theorem m_inN {xs : List Int32} {d : Nat} {σ : Nat → List Value} {Q : Option Value → (Nat → List Value) → Prop} {x : Int32} {m : Nat} (hm : m < 2 ^ 29) (K1 : ∀ h, h < m + 1 → x = nI h → dec (m + 1) x = some h → Q (some (.int (nI 1))) σ) (K0 : dec (m + 1) x = none → Q (some (.int (nI 0))) σ) : Wq xs (d + 0) ax_cd254 0 [(0, .int x), (1, .int (nI 0)), (2, .int (nI m))] [] σ Q := by
  have h := m_in (xs := xs) (d := d) (σ := σ) (Q := Q) (x := x) (n := m + 1) (by omega) K1 K0
  rw [show zI (((m + 1 : Nat) : Int) - ((1 : Nat) : Int)) = nI m from by rw [nI_z]; congr 1; omega] at h
  exact h
theorem m_in1 {xs : List Int32} {d : Nat} {σ : Nat → List Value} {Q : Option Value → (Nat → List Value) → Prop} {x : Int32} {m : Nat} (hm : m < 2 ^ 29) (K1 : ∀ h, h < m + 1 → x = nI h → dec (m + 1) x = some h → ¬ h = 0 → Q (some (.int (nI 1))) σ) (K0 : (∀ k : Nat → Int32, od (dec (m + 1) x) (-1) (fun n => if n = 0 then -1 else k n) = -1) → Q (some (.int (nI 0))) σ) : Wq xs (d + 0) ax_cd254 0 [(0, .int x), (1, .int (nI 1)), (2, .int (nI m))] [] σ Q := by
  obtain ⟨p, hp, e⟩ := zI_of x
  subst e
  rw [nI_z, nI_z]
  refine m_inZ hp ⟨by decide, by decide⟩ ⟨by omega, by omega⟩ (fun h1 h2 => ?_) (fun h0 => ?_)
  · exact K1 p.toNat (by omega) (by rw [nI_z]; congr 1; omega) (by rw [dec_zI (by omega) hp, if_pos ⟨by omega, by omega⟩]) (by omega)
  · refine K0 (fun k => ?_)
    rw [dec_zI (by omega) hp]
    split
    · next h3 => exact if_pos (by omega)
    · rfl
theorem s4_owM (S : St) {h : Nat} (hh : h < 5) : s4 (rowF S) (24 + 4 * h) = s4 (Sow S) (h * 4) := by
  rw [s4_eq, s4_eq, rf_d S (by omega) (by omega), rf_d S (by omega) (by omega), rf_d S (by omega) (by omega), rf_d S (by omega) (by omega), show 24 + 4 * h - 24 = h * 4 by omega, show 24 + 4 * h + 1 - 24 = h * 4 + 1 by omega, show 24 + 4 * h + 2 - 24 = h * 4 + 2 by omega, show 24 + 4 * h + 3 - 24 = h * 4 + 3 by omega]
theorem wash_sd (P : Pl) (S : St) (c : Nat) : Ssd (washS P S c) = Ssd S + sumF (washN P S c) 4 := rfl
theorem am_some {f : Nat → Int} {u : Nat} : am f (List.range (u + 1)) ≠ none := by
  rw [List.range_succ, am_snoc]
  cases am f (List.range u) with
  | none => intro e; cases e
  | some b =>
    unfold amst
    simp only
    split <;> (intro e; cases e)
theorem hour_sd {P : Pl} (h0 : Pmt P = 0) (mo sd sd' : Nat) (S : St) : hourS P mo sd S = hourS P mo sd' S := by
  have e : ∀ sd S, hour2 P mo sd S = S := by
    intro sd S
    refine if_neg (fun e => ?_)
    have := of_decide_eq_true e.2
    omega
  unfold hourS
  rw [e, e]
theorem go_sd {P : Pl} (h0 : Pmt P = 0) (mo sd sd' : Nat) (S : St) : ∀ n, goS P mo sd S n = goS P mo sd' S n
  | 0 => rfl
  | n + 1 => by
    show hourS P mo sd (goS P mo sd S n) = hourS P mo sd' (goS P mo sd' S n)
    rw [go_sd h0 mo sd sd' S n, hour_sd h0 mo sd sd']
theorem sum_c {f : Nat → Nat} (h : ∀ i, f i = f 0) : ∀ n, sumF f n = sumF f 1 * n
  | 0 => rfl
  | n + 1 => by
    rw [sumF, sum_c h n, h n, Nat.mul_add]
    show _ = sumF f 1 * n + (0 + f 0) * 1
    omega
theorem year_eq (P : Pl) (S : St) (h t n w : Nat) : (if 0 < Pmt P then sumF (fun i => if says1 (goS P 1 (Psd P + i) S n) (Psa P) h t = true then 1 else 0) w else sumF (fun i => if says1 (goS P 1 (Psd P + i) S n) (Psa P) h t = true then 1 else 0) 1 * w) = sumF (fun i => if says1 (goS P 1 (Psd P + i) S n) (Psa P) h t = true then 1 else 0) w := by
  split
  · rfl
  · refine (sum_c (fun i => ?_) w).symm
    rw [go_sd (by omega) 1 (Psd P + i) (Psd P + 0) S n]

theorem m_alone_l {xs : List Int32} {d : Nat} {σ : Nat → List Value} {Q : Option Value → (Nat → List Value) → Prop} {P : Pl} {L : Nat} {g : Nat → Int32} (hL2 : L < 2) (hP : Pok P) {S : St} (hok : Sok S) {h c t : Nat} (hh : h < Phd P) (hc : c < Pch P) (ht : t < 4)  (K : ∀ σ' g', Fr xR σ σ' → FrG yB g g' → MD P L g' σ' → Q (some (.int (fsF (fun u => says1 (seatN P S h c u) (Psa P) h t) 61 0))) σ') : ∀ (m u : Nat), m + u = 61 → ∀ σ1 g1, Fr xR σ σ1 → FrG yB g g1 → MD P L g1 σ1 → RwIs σ1 (seatN P S h c u) → fsF (fun u => says1 (seatN P S h c u) (Psa P) h t) 61 0 = fsF (fun u => says1 (seatN P S h c u) (Psa P) h t) m u → Wq xs (d + 5) ax_cd297 17 [(4, .int (nI u)), (0, .ref 287), (1, .int (nI h)), (2, .int (nI c)), (3, .int (nI t))] [] σ1 Q := by
  have hP' := hP
  obtain ⟨hP1, hP2, hP3, hP4, hP5, hP6, hP7, hP8, hPv, hPm, hPo, hPw, hPl⟩ := hP'
  have hhr := hok.2.1
  intro m
  induction m with
  | zero =>
    intro u hm σ1 g1 hF1 hG1 hM1 hR1 hfs
    refine wq_go rfl (fun _ => rfl) ?_
    refine wq_cN (m := 60) rfl rfl ?_
    refine wq_cgt rfl (by first | omega | decide | exact Nat.lt_of_le_of_lt Nat.and_le_right (by decide) | exact ⟨by omega, by omega⟩) (by first | omega | decide | exact Nat.lt_of_le_of_lt Nat.and_le_right (by decide) | exact ⟨by omega, by omega⟩) (fun c19 => ?_) (fun c => absurd (show _ from by omega) c)
    refine wq_go rfl (fun _ => rfl) ?_
    refine wq_iret rfl ?_
    have K' := K _ _ hF1 hG1 hM1
    first | (rw [fs_y hfs eb] at K'; exact K') | (rw [hfs] at K'; exact K')
  | succ m ih =>
    intro u hm σ1 g1 hF1 hG1 hM1 hR1 hfs
    have hsn := seatN_ok P hok (h := h) (c := c) (by omega) (by omega) u
    refine wq_go rfl (fun _ => rfl) ?_
    refine wq_cN (m := 60) rfl rfl ?_
    refine wq_cgt rfl (by first | omega | decide | exact Nat.lt_of_le_of_lt Nat.and_le_right (by decide) | exact ⟨by omega, by omega⟩) (by first | omega | decide | exact Nat.lt_of_le_of_lt Nat.and_le_right (by decide) | exact ⟨by omega, by omega⟩) (fun c => absurd c (by omega)) (fun c19 => ?_)
    refine wq_go rfl (fun _ => rfl) ?_
    refine wq_go rfl (fun _ => rfl) ?_
    refine wq_go rfl (fun _ => rfl) ?_
    refine wq_callV rfl rfl (by first | rfl | assumption) (by first | decide | omega | assumption) (Nat.le_of_ble_eq_true rfl) (Nat.le_of_ble_eq_true rfl) rfl rfl ?_
    refine m_doesSay hM1 hsn hR1 (by omega) (by omega) (fun eb => ?_) (fun eb => ?_)
    · skip
      refine wq_zeq rfl (by first | omega | decide | exact Nat.lt_of_le_of_lt Nat.and_le_right (by decide) | exact ⟨by omega, by omega⟩) (fun c => absurd c (by omega)) (fun c24 => ?_)
      refine wq_go rfl (fun _ => rfl) ?_
      refine wq_iret rfl ?_
      have K' := K _ _ hF1 hG1 hM1
      first | (rw [fs_y hfs eb] at K'; exact K') | (rw [hfs] at K'; exact K')
    · skip
      refine wq_zeq rfl (by first | omega | decide | exact Nat.lt_of_le_of_lt Nat.and_le_right (by decide) | exact ⟨by omega, by omega⟩) (fun c24 => ?_) (fun c => absurd (show _ from by omega) c)
      refine wq_go rfl (fun _ => rfl) ?_
      refine wq_go rfl (fun _ => rfl) ?_
      refine wq_go rfl (fun _ => rfl) ?_
      refine wq_callV rfl rfl (by first | rfl | assumption) (by first | decide | omega | assumption) (Nat.le_of_ble_eq_true rfl) (Nat.le_of_ble_eq_true rfl) rfl rfl ?_
      refine m_sits hM1 hsn hR1 hh hc (fun σ6 g6 F6 G6 M6 R6 => ?_)
      refine wq_incN rfl rfl rfl ?_
      refine wq_go rfl (fun _ => rfl) ?_
      exact ih (u + 1) (by omega) _ _ (fr_trans hF1 F6) (fg_trans hG1 G6) M6 R6 (fs_n hfs (fun e => absurd (eb.symm.trans e) (by decide)))
theorem m_when_l {xs : List Int32} {d : Nat} {σ : Nat → List Value} {Q : Option Value → (Nat → List Value) → Prop} {P : Pl} {L : Nat} {g : Nat → Int32} (hL2 : L < 2) (hP : Pok P) {S : St} (hok : Sok S) {h t : Nat} (hh : h < Phd P) (ht : t < 4) (hz : Zq P S) (hst : g 55 = nI (1 - 0)) (hsd : g 54 = nI (Psd P)) (hr : Shr S + 300 ≤ 1000000)  (K : ∀ σ' g', Fr xR σ σ' → FrG yB g g' → MD P L g' σ' → Q (some (.int (fsF (fun u => says1 (goS P 0 (Psd P) S u) (Psa P) h t) 201 0))) σ') : ∀ (m u : Nat), m + u = 201 → ∀ σ1 g1, Fr xR σ σ1 → FrG yB g g1 → MD P L g1 σ1 → RwIs σ1 (goS P 0 (Psd P) S u) → fsF (fun u => says1 (goS P 0 (Psd P) S u) (Psa P) h t) 201 0 = fsF (fun u => says1 (goS P 0 (Psd P) S u) (Psa P) h t) m u → Wq xs (d + 6) ax_cd303 13 [(3, .int (nI u)), (0, .ref 287), (1, .int (nI h)), (2, .int (nI t))] [] σ1 Q := by
  have hP' := hP
  obtain ⟨hP1, hP2, hP3, hP4, hP5, hP6, hP7, hP8, hPv, hPm, hPo, hPw, hPl⟩ := hP'
  have hhr := hok.2.1
  intro m
  induction m with
  | zero =>
    intro u hm σ1 g1 hF1 hG1 hM1 hR1 hfs
    refine wq_go rfl (fun _ => rfl) ?_
    refine wq_cN (m := 200) rfl rfl ?_
    refine wq_cgt rfl (by first | omega | decide | exact Nat.lt_of_le_of_lt Nat.and_le_right (by decide) | exact ⟨by omega, by omega⟩) (by first | omega | decide | exact Nat.lt_of_le_of_lt Nat.and_le_right (by decide) | exact ⟨by omega, by omega⟩) (fun c15 => ?_) (fun c => absurd (show _ from by omega) c)
    refine wq_go rfl (fun _ => rfl) ?_
    refine wq_iret rfl ?_
    have K' := K _ _ hF1 hG1 hM1
    first | (rw [fs_y hfs eb] at K'; exact K') | (rw [hfs] at K'; exact K')
  | succ m ih =>
    intro u hm σ1 g1 hF1 hG1 hM1 hR1 hfs
    have hsn := go_ok hP hok 0 (Psd P) u (by omega)
    refine wq_go rfl (fun _ => rfl) ?_
    refine wq_cN (m := 200) rfl rfl ?_
    refine wq_cgt rfl (by first | omega | decide | exact Nat.lt_of_le_of_lt Nat.and_le_right (by decide) | exact ⟨by omega, by omega⟩) (by first | omega | decide | exact Nat.lt_of_le_of_lt Nat.and_le_right (by decide) | exact ⟨by omega, by omega⟩) (fun c => absurd c (by omega)) (fun c15 => ?_)
    refine wq_go rfl (fun _ => rfl) ?_
    refine wq_go rfl (fun _ => rfl) ?_
    refine wq_go rfl (fun _ => rfl) ?_
    refine wq_callV rfl rfl (by first | rfl | assumption) (by first | decide | omega | assumption) (Nat.le_of_ble_eq_true rfl) (Nat.le_of_ble_eq_true rfl) rfl rfl ?_
    refine m_doesSay hM1 hsn hR1 (by omega) (by omega) (fun eb => ?_) (fun eb => ?_)
    · skip
      refine wq_zeq rfl (by first | omega | decide | exact Nat.lt_of_le_of_lt Nat.and_le_right (by decide) | exact ⟨by omega, by omega⟩) (fun c => absurd c (by omega)) (fun c20 => ?_)
      refine wq_go rfl (fun _ => rfl) ?_
      refine wq_iret rfl ?_
      have K' := K _ _ hF1 hG1 hM1
      first | (rw [fs_y hfs eb] at K'; exact K') | (rw [hfs] at K'; exact K')
    · skip
      refine wq_zeq rfl (by first | omega | decide | exact Nat.lt_of_le_of_lt Nat.and_le_right (by decide) | exact ⟨by omega, by omega⟩) (fun c20 => ?_) (fun c => absurd (show _ from by omega) c)
      refine wq_go rfl (fun _ => rfl) ?_
      refine wq_callV rfl rfl (by first | rfl | assumption) (by first | decide | omega | assumption) (Nat.le_of_ble_eq_true rfl) (Nat.le_of_ble_eq_true rfl) rfl rfl ?_
      refine m_hourGoes hM1 hsn hR1 (go_z hP hz 0 (Psd P) u) (by decide) ((hG1 55 rfl).trans hst) ((hG1 54 rfl).trans hsd) (fun σ6 g6 F6 G6 M6 R6 => ?_)
      refine wq_incN rfl rfl rfl ?_
      refine wq_go rfl (fun _ => rfl) ?_
      exact ih (u + 1) (by omega) _ _ (fr_trans hF1 F6) (fg_trans hG1 G6) M6 R6 (fs_n hfs (fun e => absurd (eb.symm.trans e) (by decide)))
theorem m_silent_l {xs : List Int32} {d : Nat} {σ : Nat → List Value} {Q : Option Value → (Nat → List Value) → Prop} {P : Pl} {L : Nat} {g : Nat → Int32} (hL2 : L < 2) (hP : Pok P) {S : St} (hok : Sok S) {t : Nat} (ht : t < 4) (hz : Zq P S) (hst : g 55 = nI (1 - 0)) (hsd : g 54 = nI (Psd P)) (hr : Shr S + 300 ≤ 1000000)  (K : ∀ σ' g', Fr xR σ σ' → FrG yB g g' → MD P L g' σ' → Q (some (.int (fsF (fun u => decide (bset (fun h => says1 (goS P 0 (Psd P) S u) (Psa P) h t) (Phd P) = 0)) 201 0))) σ') : ∀ (m u : Nat), m + u = 201 → ∀ σ1 g1, Fr xR σ σ1 → FrG yB g g1 → MD P L g1 σ1 → RwIs σ1 (goS P 0 (Psd P) S u) → fsF (fun u => decide (bset (fun h => says1 (goS P 0 (Psd P) S u) (Psa P) h t) (Phd P) = 0)) 201 0 = fsF (fun u => decide (bset (fun h => says1 (goS P 0 (Psd P) S u) (Psa P) h t) (Phd P) = 0)) m u → Wq xs (d + 6) ax_cd305 9 [(2, .int (nI u)), (0, .ref 287), (1, .int (nI t))] [] σ1 Q := by
  have hP' := hP
  obtain ⟨hP1, hP2, hP3, hP4, hP5, hP6, hP7, hP8, hPv, hPm, hPo, hPw, hPl⟩ := hP'
  have hhr := hok.2.1
  intro m
  induction m with
  | zero =>
    intro u hm σ1 g1 hF1 hG1 hM1 hR1 hfs
    refine wq_go rfl (fun _ => rfl) ?_
    refine wq_cN (m := 200) rfl rfl ?_
    refine wq_cgt rfl (by first | omega | decide | exact Nat.lt_of_le_of_lt Nat.and_le_right (by decide) | exact ⟨by omega, by omega⟩) (by first | omega | decide | exact Nat.lt_of_le_of_lt Nat.and_le_right (by decide) | exact ⟨by omega, by omega⟩) (fun c11 => ?_) (fun c => absurd (show _ from by omega) c)
    refine wq_go rfl (fun _ => rfl) ?_
    refine wq_iret rfl ?_
    have K' := K _ _ hF1 hG1 hM1
    first | (rw [fs_y hfs eb] at K'; exact K') | (rw [hfs] at K'; exact K')
  | succ m ih =>
    intro u hm σ1 g1 hF1 hG1 hM1 hR1 hfs
    have hsn := go_ok hP hok 0 (Psd P) u (by omega)
    refine wq_go rfl (fun _ => rfl) ?_
    refine wq_cN (m := 200) rfl rfl ?_
    refine wq_cgt rfl (by first | omega | decide | exact Nat.lt_of_le_of_lt Nat.and_le_right (by decide) | exact ⟨by omega, by omega⟩) (by first | omega | decide | exact Nat.lt_of_le_of_lt Nat.and_le_right (by decide) | exact ⟨by omega, by omega⟩) (fun c => absurd c (by omega)) (fun c11 => ?_)
    refine wq_go rfl (fun _ => rfl) ?_
    refine wq_go rfl (fun _ => rfl) ?_
    refine wq_callV rfl rfl (by first | rfl | assumption) (by first | decide | omega | assumption) (Nat.le_of_ble_eq_true rfl) (Nat.le_of_ble_eq_true rfl) rfl rfl ?_
    refine m_sayers hM1 hsn hR1 ht ?_
    have hbl := bset_lt (fun h => says1 (goS P 0 (Psd P) S u) (Psa P) h t) (Phd P)
    have hp5 : 2 ^ Phd P ≤ 2 ^ 5 := Nat.pow_le_pow_right (by decide) hP2
    refine wq_zne rfl (by first | omega | decide | exact Nat.lt_of_le_of_lt Nat.and_le_right (by decide) | exact ⟨by omega, by omega⟩) (fun c15 => ?_) (fun c15 => ?_)
    · skip
      have eb : (fun u => decide (bset (fun h => says1 (goS P 0 (Psd P) S u) (Psa P) h t) (Phd P) = 0)) u = false := decide_eq_false (by omega)
      refine wq_go rfl (fun _ => rfl) ?_
      refine wq_callV rfl rfl (by first | rfl | assumption) (by first | decide | omega | assumption) (Nat.le_of_ble_eq_true rfl) (Nat.le_of_ble_eq_true rfl) rfl rfl ?_
      refine m_hourGoes hM1 hsn hR1 (go_z hP hz 0 (Psd P) u) (by decide) ((hG1 55 rfl).trans hst) ((hG1 54 rfl).trans hsd) (fun σ6 g6 F6 G6 M6 R6 => ?_)
      refine wq_incN rfl rfl rfl ?_
      refine wq_go rfl (fun _ => rfl) ?_
      exact ih (u + 1) (by omega) _ _ (fr_trans hF1 F6) (fg_trans hG1 G6) M6 R6 (fs_n hfs (fun e => absurd (eb.symm.trans e) (by decide)))
    · skip
      have eb : (fun u => decide (bset (fun h => says1 (goS P 0 (Psd P) S u) (Psa P) h t) (Phd P) = 0)) u = true := decide_eq_true (by omega)
      refine wq_go rfl (fun _ => rfl) ?_
      refine wq_iret rfl ?_
      have K' := K _ _ hF1 hG1 hM1
      first | (rw [fs_y hfs eb] at K'; exact K') | (rw [hfs] at K'; exact K')
theorem m_best_l {xs : List Int32} {d : Nat} {σ : Nat → List Value} {Q : Option Value → (Nat → List Value) → Prop} {P : Pl} {L : Nat} {g : Nat → Int32} (hL2 : L < 2) (hP : Pok P) {S : St} (hok : Sok S) {h t : Nat} (hh : h < Phd P) (ht : t < 4)  (K : ∀ σ' g', Fr xR σ σ' → FrG yC g g' → MD P L g' σ' → Q (some (.int (oI (am (fun c => gainZ P S h c t) (List.range (Pch P)))))) σ') : ∀ (m u : Nat), m + u = Pch P → ∀ σ1 g1, Fr xR σ σ1 → FrG yC g g1 → MD P L g1 σ1 → NwIs σ1 S → Wq xs (d + 6) ax_cd300 13 [(4, .int (nI u)), (3, .int (oI (am (fun c => gainZ P S h c t) (List.range u)))), (0, .ref 287), (1, .int (nI h)), (2, .int (nI t))] [] σ1 Q := by
  have hP' := hP
  obtain ⟨hP1, hP2, hP3, hP4, hP5, hP6, hP7, hP8, hPv, hPm, hPo, hPw, hPl⟩ := hP'
  have hhr := hok.2.1
  intro m
  induction m with
  | zero =>
    intro u hm σ1 g1 hF1 hG1 hM1 hN1
    refine wq_go rfl (fun _ => rfl) ?_
    refine wq_go rfl (fun _ => rfl) ?_
    refine wq_getf rfl (by first | rfl | assumption) (by first | decide | omega | assumption) (md_o hM1) rfl ?_
    refine wq_go rfl (fun _ => rfl) ?_
    refine wq_getf rfl (by first | rfl | assumption) (by first | decide | omega | assumption) (md_o hM1) rfl ?_
    refine wq_top (md_l hM1) ?_
    refine wq_iald rfl (by first | rfl | assumption) (by first | decide | omega | assumption) (md_c297 hM1) rfl (by omega) (by first | decide | omega) ?_
    refine wq_top (md_m297 hM1) ?_
    refine wq_cge rfl (by first | omega | decide | exact Nat.lt_of_le_of_lt Nat.and_le_right (by decide) | exact ⟨by omega, by omega⟩) (by first | omega | decide | exact Nat.lt_of_le_of_lt Nat.and_le_right (by decide) | exact ⟨by omega, by omega⟩) (fun c19 => ?_) (fun c => absurd (show _ from by omega) c)
    refine wq_go rfl (fun _ => rfl) ?_
    refine wq_iret rfl ?_
    rw [show u = Pch P by omega]
    exact K _ g1 hF1 hG1 hM1
  | succ m ih =>
    intro u hm σ1 g1 hF1 hG1 hM1 hN1
    cases hb0 : am (fun c => gainZ P S h c t) (List.range u) with
    | none =>
      refine wq_go rfl (fun _ => rfl) ?_
      refine wq_go rfl (fun _ => rfl) ?_
      refine wq_getf rfl (by first | rfl | assumption) (by first | decide | omega | assumption) (md_o hM1) rfl ?_
      refine wq_go rfl (fun _ => rfl) ?_
      refine wq_getf rfl (by first | rfl | assumption) (by first | decide | omega | assumption) (md_o hM1) rfl ?_
      refine wq_top (md_l hM1) ?_
      refine wq_iald rfl (by first | rfl | assumption) (by first | decide | omega | assumption) (md_c297 hM1) rfl (by omega) (by first | decide | omega) ?_
      refine wq_top (md_m297 hM1) ?_
      refine wq_cge rfl (by first | omega | decide | exact Nat.lt_of_le_of_lt Nat.and_le_right (by decide) | exact ⟨by omega, by omega⟩) (by first | omega | decide | exact Nat.lt_of_le_of_lt Nat.and_le_right (by decide) | exact ⟨by omega, by omega⟩) (fun c => absurd c (by omega)) (fun c19 => ?_)
      refine wq_go rfl (fun _ => rfl) ?_
      refine wq_ylt rfl (show (_ : Int32) = zI (-2) from by decide) (by first | omega | decide | exact Nat.lt_of_le_of_lt Nat.and_le_right (by decide) | exact ⟨by omega, by omega⟩) (fun c21 => ?_) (fun c => absurd (show _ from by omega) c)
      refine wq_go rfl (fun _ => rfl) ?_
      refine wq_go rfl (fun _ => rfl) ?_
      refine wq_incN rfl rfl rfl ?_
      refine wq_go rfl (fun _ => rfl) ?_
      have hi := ih (u + 1) (by omega) _ _ hF1 hG1 hM1 hN1
      rw [List.range_succ] at hi
      first | rw [am_n (f := (fun c => gainZ P S h c t)) u hb0] at hi | rw [am_g (f := (fun c => gainZ P S h c t)) u hb0 (by omega)] at hi | rw [am_l (f := (fun c => gainZ P S h c t)) u hb0 (by omega)] at hi
      exact wq_lv ⟨(by decide : ([4, 3, 0, 1, 2] : List Nat).Nodup), (lvm (List.mem_of_getElem? (i := 0) rfl) (lvm (List.mem_of_getElem? (i := 1) rfl) (lvm (List.mem_of_getElem? (i := 2) rfl) (lvm (List.mem_of_getElem? (i := 3) rfl) (lvm (List.mem_of_getElem? (i := 4) rfl) lvn)))))⟩ hi
    | some b =>
      have hbn := am_rlt hb0
      have hg1 := gain_bd P hok (h := h) (c := u) (t := t) (by omega) (by omega) ht
      have hg2 := gain_bd P hok (h := h) (c := b) (t := t) (by omega) (by omega) ht
      have q1 := ow_le hok (i := h * 4 + t) (by omega)
      have q2 := sq_le hok (i := u * 4 + t) (by omega)
      have q3 := sq_le hok (i := b * 4 + t) (by omega)
      refine wq_go rfl (fun _ => rfl) ?_
      refine wq_go rfl (fun _ => rfl) ?_
      refine wq_getf rfl (by first | rfl | assumption) (by first | decide | omega | assumption) (md_o hM1) rfl ?_
      refine wq_go rfl (fun _ => rfl) ?_
      refine wq_getf rfl (by first | rfl | assumption) (by first | decide | omega | assumption) (md_o hM1) rfl ?_
      refine wq_top (md_l hM1) ?_
      refine wq_iald rfl (by first | rfl | assumption) (by first | decide | omega | assumption) (md_c297 hM1) rfl (by omega) (by first | decide | omega) ?_
      refine wq_top (md_m297 hM1) ?_
      refine wq_cge rfl (by first | omega | decide | exact Nat.lt_of_le_of_lt Nat.and_le_right (by decide) | exact ⟨by omega, by omega⟩) (by first | omega | decide | exact Nat.lt_of_le_of_lt Nat.and_le_right (by decide) | exact ⟨by omega, by omega⟩) (fun c => absurd c (by omega)) (fun c19 => ?_)
      refine wq_go rfl (fun _ => rfl) ?_
      refine wq_zlt rfl (by first | omega | decide | exact Nat.lt_of_le_of_lt Nat.and_le_right (by decide) | exact ⟨by omega, by omega⟩) (fun c => absurd c (by omega)) (fun c21 => ?_)
      refine wq_go rfl (fun _ => rfl) ?_
      refine wq_go rfl (fun _ => rfl) ?_
      refine wq_go rfl (fun _ => rfl) ?_
      refine wq_go rfl (fun _ => rfl) ?_
      refine wq_callV rfl rfl (by first | rfl | assumption) (by first | decide | omega | assumption) (Nat.le_of_ble_eq_true rfl) (Nat.le_of_ble_eq_true rfl) rfl rfl ?_
      refine m_gainOf hM1 hok hN1 hh (c := u) (by omega) ht (fun σ5 g5 F5 G5 M5 => ?_)
      have W5 : NwIs σ5 S := (F5 322 rfl).trans hN1
      refine wq_go rfl (fun _ => rfl) ?_
      refine wq_go rfl (fun _ => rfl) ?_
      refine wq_go rfl (fun _ => rfl) ?_
      refine wq_go rfl (fun _ => rfl) ?_
      refine wq_callV rfl rfl (by first | rfl | assumption) (by first | decide | omega | assumption) (Nat.le_of_ble_eq_true rfl) (Nat.le_of_ble_eq_true rfl) rfl rfl ?_
      refine m_gainOf M5 hok W5 hh (c := b) (by omega) ht (fun σ6 g6 F6 G6 M6 => ?_)
      have W6 : NwIs σ6 S := (F6 322 rfl).trans W5
      refine wq_dle rfl rfl rfl (by first | omega | decide | exact Nat.lt_of_le_of_lt Nat.and_le_right (by decide) | exact ⟨by omega, by omega⟩) (by first | omega | decide | exact Nat.lt_of_le_of_lt Nat.and_le_right (by decide) | exact ⟨by omega, by omega⟩) (fun c32 => ?_) (fun c32 => ?_)
      · skip
        refine wq_incN rfl rfl rfl ?_
        refine wq_go rfl (fun _ => rfl) ?_
        have hi := ih (u + 1) (by omega) _ _ (fr_trans (fr_trans hF1 F5) F6) (fg_trans (fg_trans hG1 G5) G6) M6 W6
        rw [List.range_succ] at hi
        first | rw [am_n (f := (fun c => gainZ P S h c t)) u hb0] at hi | rw [am_g (f := (fun c => gainZ P S h c t)) u hb0 (by omega)] at hi | rw [am_l (f := (fun c => gainZ P S h c t)) u hb0 (by omega)] at hi
        exact wq_lv ⟨(by decide : ([4, 3, 0, 1, 2] : List Nat).Nodup), (lvm (List.mem_of_getElem? (i := 0) rfl) (lvm (List.mem_of_getElem? (i := 1) rfl) (lvm (List.mem_of_getElem? (i := 2) rfl) (lvm (List.mem_of_getElem? (i := 3) rfl) (lvm (List.mem_of_getElem? (i := 4) rfl) lvn)))))⟩ hi
      · skip
        refine wq_go rfl (fun _ => rfl) ?_
        refine wq_go rfl (fun _ => rfl) ?_
        refine wq_incN rfl rfl rfl ?_
        refine wq_go rfl (fun _ => rfl) ?_
        have hi := ih (u + 1) (by omega) _ _ (fr_trans (fr_trans hF1 F5) F6) (fg_trans (fg_trans hG1 G5) G6) M6 W6
        rw [List.range_succ] at hi
        first | rw [am_n (f := (fun c => gainZ P S h c t)) u hb0] at hi | rw [am_g (f := (fun c => gainZ P S h c t)) u hb0 (by omega)] at hi | rw [am_l (f := (fun c => gainZ P S h c t)) u hb0 (by omega)] at hi
        exact wq_lv ⟨(by decide : ([4, 3, 0, 1, 2] : List Nat).Nodup), (lvm (List.mem_of_getElem? (i := 0) rfl) (lvm (List.mem_of_getElem? (i := 1) rfl) (lvm (List.mem_of_getElem? (i := 2) rfl) (lvm (List.mem_of_getElem? (i := 3) rfl) (lvm (List.mem_of_getElem? (i := 4) rfl) lvn)))))⟩ hi
def flI (S : St) (n w : Nat) : Int32 := match am (fun h => (s4 (Sow S) (h * 4) : Int)) (List.range n) with
  | none => -2
  | some b => if w = 0 then nI b else nI (s4 (Sow S) (b * 4))
theorem s4_bd {S : St} (hok : Sok S) {h : Nat} (hh : h < 5) : s4 (Sow S) (h * 4) ≤ 4 * 1980 := s4_le (b := 1980) (fun j hj => ow_le hok (by omega))
theorem m_full_l {xs : List Int32} {d : Nat} {σ : Nat → List Value} {Q : Option Value → (Nat → List Value) → Prop} {P : Pl} {L : Nat} {g : Nat → Int32} (hM : MD P L g σ) {S : St} (hok : Sok S) (hR : RwIs σ S) {w : Nat} (hw : w < 2)  (K : Q (some (.int (flI S (Phd P) w))) σ) : ∀ (m u : Nat), m + u = Phd P → Wq xs (d + 1) ax_cd314 13 [(3, .int (nI u)), (2, .int (oI (am (fun h => (s4 (Sow S) (h * 4) : Int)) (List.range u)))), (0, .ref 287), (1, .int (nI w))] [] σ Q := by
  have hL2 := md_l2 hM
  obtain ⟨hP1, hP2, hP3, hP4, hP5, hP6, hP7, hP8, hPv, hPm, hPo, hPw, hPl⟩ := md_pok hM
  intro m
  induction m with
  | zero =>
    intro u hm
    have hu : u = Phd P := by omega
    subst hu
    cases hb0 : am (fun h => (s4 (Sow S) (h * 4) : Int)) (List.range (Phd P)) with
    | none =>
      refine wq_go rfl (fun _ => rfl) ?_
      refine wq_go rfl (fun _ => rfl) ?_
      refine wq_getf rfl (by first | rfl | assumption) (by first | decide | omega | assumption) (md_o hM) rfl ?_
      refine wq_go rfl (fun _ => rfl) ?_
      refine wq_getf rfl (by first | rfl | assumption) (by first | decide | omega | assumption) (md_o hM) rfl ?_
      refine wq_top (md_l hM) ?_
      refine wq_iald rfl (by first | rfl | assumption) (by first | decide | omega | assumption) (md_c299 hM) rfl (by omega) (by first | decide | omega) ?_
      refine wq_top (md_m299 hM) ?_
      refine wq_cge rfl (by first | omega | decide | exact Nat.lt_of_le_of_lt Nat.and_le_right (by decide) | exact ⟨by omega, by omega⟩) (by first | omega | decide | exact Nat.lt_of_le_of_lt Nat.and_le_right (by decide) | exact ⟨by omega, by omega⟩) (fun c19 => ?_) (fun c => absurd (show _ from by omega) c)
      refine wq_go rfl (fun _ => rfl) ?_
      refine wq_ylt rfl (show (_ : Int32) = zI (-2) from by decide) (by first | omega | decide | exact Nat.lt_of_le_of_lt Nat.and_le_right (by decide) | exact ⟨by omega, by omega⟩) (fun c42 => ?_) (fun c => absurd (show _ from by omega) c)
      refine wq_go rfl (fun _ => rfl) ?_
      refine wq_go rfl (fun _ => rfl) ?_
      refine wq_iret rfl ?_
      exact ansQ K (by unfold flI; rw [hb0] <;> first | rfl | exact (if_pos (by omega)).symm | exact (if_neg (by omega)).symm)
    | some b =>
      have hbn := am_rlt hb0
      refine wq_go rfl (fun _ => rfl) ?_
      refine wq_go rfl (fun _ => rfl) ?_
      refine wq_getf rfl (by first | rfl | assumption) (by first | decide | omega | assumption) (md_o hM) rfl ?_
      refine wq_go rfl (fun _ => rfl) ?_
      refine wq_getf rfl (by first | rfl | assumption) (by first | decide | omega | assumption) (md_o hM) rfl ?_
      refine wq_top (md_l hM) ?_
      refine wq_iald rfl (by first | rfl | assumption) (by first | decide | omega | assumption) (md_c299 hM) rfl (by omega) (by first | decide | omega) ?_
      refine wq_top (md_m299 hM) ?_
      refine wq_cge rfl (by first | omega | decide | exact Nat.lt_of_le_of_lt Nat.and_le_right (by decide) | exact ⟨by omega, by omega⟩) (by first | omega | decide | exact Nat.lt_of_le_of_lt Nat.and_le_right (by decide) | exact ⟨by omega, by omega⟩) (fun c19 => ?_) (fun c => absurd (show _ from by omega) c)
      refine wq_go rfl (fun _ => rfl) ?_
      refine wq_zlt rfl (by first | omega | decide | exact Nat.lt_of_le_of_lt Nat.and_le_right (by decide) | exact ⟨by omega, by omega⟩) (fun c => absurd c (by omega)) (fun c42 => ?_)
      refine wq_go rfl (fun _ => rfl) ?_
      refine wq_zne rfl (by first | omega | decide | exact Nat.lt_of_le_of_lt Nat.and_le_right (by decide) | exact ⟨by omega, by omega⟩) (fun c44 => ?_) (fun c44 => ?_)
      · skip
        refine wq_go rfl (fun _ => rfl) ?_
        refine wq_cN (m := 24) rfl rfl ?_
        refine wq_cN (m := 4) rfl rfl ?_
        refine wq_go rfl (fun _ => rfl) ?_
        refine wq_mulN rfl ?_
        refine wq_addN rfl ?_
        refine wq_callV rfl rfl (by first | rfl | assumption) (by first | decide | omega | assumption) (Nat.le_of_ble_eq_true rfl) (Nat.le_of_ble_eq_true rfl) rfl rfl ?_
        refine m_four hM hR (by omega) ?_
        refine wq_top (congrArg nI (s4_owM S (h := b) (by omega))) ?_
        refine wq_iret rfl ?_
        exact ansQ K (by unfold flI; rw [hb0] <;> first | rfl | exact (if_pos (by omega)).symm | exact (if_neg (by omega)).symm)
      · skip
        refine wq_go rfl (fun _ => rfl) ?_
        refine wq_go rfl (fun _ => rfl) ?_
        refine wq_iret rfl ?_
        exact ansQ K (by unfold flI; rw [hb0] <;> first | rfl | exact (if_pos (by omega)).symm | exact (if_neg (by omega)).symm)
  | succ m ih =>
    intro u hm
    cases hb0 : am (fun h => (s4 (Sow S) (h * 4) : Int)) (List.range u) with
    | none =>
      refine wq_go rfl (fun _ => rfl) ?_
      refine wq_go rfl (fun _ => rfl) ?_
      refine wq_getf rfl (by first | rfl | assumption) (by first | decide | omega | assumption) (md_o hM) rfl ?_
      refine wq_go rfl (fun _ => rfl) ?_
      refine wq_getf rfl (by first | rfl | assumption) (by first | decide | omega | assumption) (md_o hM) rfl ?_
      refine wq_top (md_l hM) ?_
      refine wq_iald rfl (by first | rfl | assumption) (by first | decide | omega | assumption) (md_c299 hM) rfl (by omega) (by first | decide | omega) ?_
      refine wq_top (md_m299 hM) ?_
      refine wq_cge rfl (by first | omega | decide | exact Nat.lt_of_le_of_lt Nat.and_le_right (by decide) | exact ⟨by omega, by omega⟩) (by first | omega | decide | exact Nat.lt_of_le_of_lt Nat.and_le_right (by decide) | exact ⟨by omega, by omega⟩) (fun c => absurd c (by omega)) (fun c19 => ?_)
      refine wq_go rfl (fun _ => rfl) ?_
      refine wq_ylt rfl (show (_ : Int32) = zI (-2) from by decide) (by first | omega | decide | exact Nat.lt_of_le_of_lt Nat.and_le_right (by decide) | exact ⟨by omega, by omega⟩) (fun c21 => ?_) (fun c => absurd (show _ from by omega) c)
      refine wq_go rfl (fun _ => rfl) ?_
      refine wq_go rfl (fun _ => rfl) ?_
      refine wq_incN rfl rfl rfl ?_
      refine wq_go rfl (fun _ => rfl) ?_
      have hi := ih (u + 1) (by omega)
      rw [List.range_succ] at hi
      first | rw [am_n (f := (fun h => (s4 (Sow S) (h * 4) : Int))) u hb0] at hi | rw [am_g (f := (fun h => (s4 (Sow S) (h * 4) : Int))) u hb0 (by omega)] at hi | rw [am_l (f := (fun h => (s4 (Sow S) (h * 4) : Int))) u hb0 (by omega)] at hi
      exact wq_lv ⟨(by decide : ([3, 2, 0, 1] : List Nat).Nodup), (lvm (List.mem_of_getElem? (i := 0) rfl) (lvm (List.mem_of_getElem? (i := 1) rfl) (lvm (List.mem_of_getElem? (i := 2) rfl) (lvm (List.mem_of_getElem? (i := 3) rfl) lvn))))⟩ hi
    | some b =>
      have hbn := am_rlt hb0
      have q1 := s4_bd hok (h := u) (by omega)
      have q2 := s4_bd hok (h := b) (by omega)
      refine wq_go rfl (fun _ => rfl) ?_
      refine wq_go rfl (fun _ => rfl) ?_
      refine wq_getf rfl (by first | rfl | assumption) (by first | decide | omega | assumption) (md_o hM) rfl ?_
      refine wq_go rfl (fun _ => rfl) ?_
      refine wq_getf rfl (by first | rfl | assumption) (by first | decide | omega | assumption) (md_o hM) rfl ?_
      refine wq_top (md_l hM) ?_
      refine wq_iald rfl (by first | rfl | assumption) (by first | decide | omega | assumption) (md_c299 hM) rfl (by omega) (by first | decide | omega) ?_
      refine wq_top (md_m299 hM) ?_
      refine wq_cge rfl (by first | omega | decide | exact Nat.lt_of_le_of_lt Nat.and_le_right (by decide) | exact ⟨by omega, by omega⟩) (by first | omega | decide | exact Nat.lt_of_le_of_lt Nat.and_le_right (by decide) | exact ⟨by omega, by omega⟩) (fun c => absurd c (by omega)) (fun c19 => ?_)
      refine wq_go rfl (fun _ => rfl) ?_
      refine wq_zlt rfl (by first | omega | decide | exact Nat.lt_of_le_of_lt Nat.and_le_right (by decide) | exact ⟨by omega, by omega⟩) (fun c => absurd c (by omega)) (fun c21 => ?_)
      refine wq_go rfl (fun _ => rfl) ?_
      refine wq_cN (m := 24) rfl rfl ?_
      refine wq_cN (m := 4) rfl rfl ?_
      refine wq_go rfl (fun _ => rfl) ?_
      refine wq_mulN rfl ?_
      refine wq_addN rfl ?_
      refine wq_callV rfl rfl (by first | rfl | assumption) (by first | decide | omega | assumption) (Nat.le_of_ble_eq_true rfl) (Nat.le_of_ble_eq_true rfl) rfl rfl ?_
      refine m_four hM hR (by omega) ?_
      refine wq_top (congrArg nI (s4_owM S (h := u) (by omega))) ?_
      refine wq_go rfl (fun _ => rfl) ?_
      refine wq_cN (m := 24) rfl rfl ?_
      refine wq_cN (m := 4) rfl rfl ?_
      refine wq_go rfl (fun _ => rfl) ?_
      refine wq_mulN rfl ?_
      refine wq_addN rfl ?_
      refine wq_callV rfl rfl (by first | rfl | assumption) (by first | decide | omega | assumption) (Nat.le_of_ble_eq_true rfl) (Nat.le_of_ble_eq_true rfl) rfl rfl ?_
      refine m_four hM hR (by omega) ?_
      refine wq_top (congrArg nI (s4_owM S (h := b) (by omega))) ?_
      refine wq_cle rfl (by first | omega | decide | exact Nat.lt_of_le_of_lt Nat.and_le_right (by decide) | exact ⟨by omega, by omega⟩) (by first | omega | decide | exact Nat.lt_of_le_of_lt Nat.and_le_right (by decide) | exact ⟨by omega, by omega⟩) (fun c36 => ?_) (fun c36 => ?_)
      · skip
        refine wq_incN rfl rfl rfl ?_
        refine wq_go rfl (fun _ => rfl) ?_
        have hi := ih (u + 1) (by omega)
        rw [List.range_succ] at hi
        first | rw [am_n (f := (fun h => (s4 (Sow S) (h * 4) : Int))) u hb0] at hi | rw [am_g (f := (fun h => (s4 (Sow S) (h * 4) : Int))) u hb0 (by omega)] at hi | rw [am_l (f := (fun h => (s4 (Sow S) (h * 4) : Int))) u hb0 (by omega)] at hi
        exact wq_lv ⟨(by decide : ([3, 2, 0, 1] : List Nat).Nodup), (lvm (List.mem_of_getElem? (i := 0) rfl) (lvm (List.mem_of_getElem? (i := 1) rfl) (lvm (List.mem_of_getElem? (i := 2) rfl) (lvm (List.mem_of_getElem? (i := 3) rfl) lvn))))⟩ hi
      · skip
        refine wq_go rfl (fun _ => rfl) ?_
        refine wq_go rfl (fun _ => rfl) ?_
        refine wq_incN rfl rfl rfl ?_
        refine wq_go rfl (fun _ => rfl) ?_
        have hi := ih (u + 1) (by omega)
        rw [List.range_succ] at hi
        first | rw [am_n (f := (fun h => (s4 (Sow S) (h * 4) : Int))) u hb0] at hi | rw [am_g (f := (fun h => (s4 (Sow S) (h * 4) : Int))) u hb0 (by omega)] at hi | rw [am_l (f := (fun h => (s4 (Sow S) (h * 4) : Int))) u hb0 (by omega)] at hi
        exact wq_lv ⟨(by decide : ([3, 2, 0, 1] : List Nat).Nodup), (lvm (List.mem_of_getElem? (i := 0) rfl) (lvm (List.mem_of_getElem? (i := 1) rfl) (lvm (List.mem_of_getElem? (i := 2) rfl) (lvm (List.mem_of_getElem? (i := 3) rfl) lvn))))⟩ hi
theorem m_fore_l {xs : List Int32} {d : Nat} {σ : Nat → List Value} {Q : Option Value → (Nat → List Value) → Prop} {P : Pl} {L : Nat} {g : Nat → Int32} (hM : MD P L g σ) {S : St} (hok : Sok S) (hN : NwIs σ S) {h : Nat} (hh : h < Phd P)  (K : Q (some (.int (oI (am (fun i => (Sow S (h * 4 + i * 1) : Int)) (List.range 4))))) σ) : ∀ (m u : Nat), m + u = 3 → Wq xs (d + 0) ax_cd316 10 [(3, .int (nI (u + 1))), (2, .int (oI (am (fun i => (Sow S (h * 4 + i * 1) : Int)) (List.range (u + 1))))), (0, .ref 287), (1, .int (nI h))] [] σ Q := by
  have hL2 := md_l2 hM
  obtain ⟨hP1, hP2, hP3, hP4, hP5, hP6, hP7, hP8, hPv, hPm, hPo, hPw, hPl⟩ := md_pok hM
  intro m
  induction m with
  | zero =>
    intro u hm
    refine wq_go rfl (fun _ => rfl) ?_
    refine wq_cN (m := 4) rfl rfl ?_
    refine wq_cge rfl (by first | omega | decide | exact Nat.lt_of_le_of_lt Nat.and_le_right (by decide) | exact ⟨by omega, by omega⟩) (by first | omega | decide | exact Nat.lt_of_le_of_lt Nat.and_le_right (by decide) | exact ⟨by omega, by omega⟩) (fun c12 => ?_) (fun c => absurd (show _ from by omega) c)
    refine wq_go rfl (fun _ => rfl) ?_
    refine wq_iret rfl ?_
    have hu : u = 3 := by omega
    subst hu
    exact K
  | succ m ih =>
    intro u hm
    cases hb0 : am (fun i => (Sow S (h * 4 + i * 1) : Int)) (List.range (u + 1)) with
    | none =>
      exact absurd hb0 am_some
    | some b =>
      have hbn := am_rlt hb0
      have q1 := ow_le hok (i := h * 4 + (u + 1) * 1) (by omega)
      have q2 := ow_le hok (i := h * 4 + b * 1) (by omega)
      refine wq_go rfl (fun _ => rfl) ?_
      refine wq_cN (m := 4) rfl rfl ?_
      refine wq_cge rfl (by first | omega | decide | exact Nat.lt_of_le_of_lt Nat.and_le_right (by decide) | exact ⟨by omega, by omega⟩) (by first | omega | decide | exact Nat.lt_of_le_of_lt Nat.and_le_right (by decide) | exact ⟨by omega, by omega⟩) (fun c => absurd c (by omega)) (fun c12 => ?_)
      refine wq_go rfl (fun _ => rfl) ?_
      refine wq_getf rfl (by first | rfl | assumption) (by first | decide | omega | assumption) (md_o hM) rfl ?_
      refine wq_cN (m := 24) rfl rfl ?_
      refine wq_cN (m := 4) rfl rfl ?_
      refine wq_go rfl (fun _ => rfl) ?_
      refine wq_mulN rfl ?_
      refine wq_addN rfl ?_
      refine wq_go rfl (fun _ => rfl) ?_
      refine wq_addN rfl ?_
      refine wq_ialdN rfl (by first | rfl | assumption) (by first | decide | omega | assumption) hN rfl (by omega) (by first | decide | omega) ?_
      refine wq_top (congrArg nI (show rowF S (24 + 4 * h + (u + 1)) = Sow S (h * 4 + (u + 1) * 1) by rw [rf_ow S (by omega) (by omega), Nat.mul_one])) ?_
      refine wq_go rfl (fun _ => rfl) ?_
      refine wq_getf rfl (by first | rfl | assumption) (by first | decide | omega | assumption) (md_o hM) rfl ?_
      refine wq_cN (m := 24) rfl rfl ?_
      refine wq_cN (m := 4) rfl rfl ?_
      refine wq_go rfl (fun _ => rfl) ?_
      refine wq_mulN rfl ?_
      refine wq_addN rfl ?_
      refine wq_go rfl (fun _ => rfl) ?_
      refine wq_addN rfl ?_
      refine wq_ialdN rfl (by first | rfl | assumption) (by first | decide | omega | assumption) hN rfl (by omega) (by first | decide | omega) ?_
      refine wq_top (congrArg nI (show rowF S (24 + 4 * h + b) = Sow S (h * 4 + b * 1) by rw [rf_ow S (by omega) (by omega), Nat.mul_one])) ?_
      refine wq_cle rfl (by first | omega | decide | exact Nat.lt_of_le_of_lt Nat.and_le_right (by decide) | exact ⟨by omega, by omega⟩) (by first | omega | decide | exact Nat.lt_of_le_of_lt Nat.and_le_right (by decide) | exact ⟨by omega, by omega⟩) (fun c33 => ?_) (fun c33 => ?_)
      · skip
        refine wq_incN rfl rfl rfl ?_
        refine wq_go rfl (fun _ => rfl) ?_
        have hi := ih (u + 1) (by omega)
        rw [List.range_succ] at hi
        first | rw [am_g (f := (fun i => (Sow S (h * 4 + i * 1) : Int))) (u + 1) hb0 (by omega)] at hi | rw [am_l (f := (fun i => (Sow S (h * 4 + i * 1) : Int))) (u + 1) hb0 (by omega)] at hi
        exact wq_lv ⟨(by decide : ([3, 2, 0, 1] : List Nat).Nodup), (lvm (List.mem_of_getElem? (i := 0) rfl) (lvm (List.mem_of_getElem? (i := 1) rfl) (lvm (List.mem_of_getElem? (i := 2) rfl) (lvm (List.mem_of_getElem? (i := 3) rfl) lvn))))⟩ hi
      · skip
        refine wq_go rfl (fun _ => rfl) ?_
        refine wq_go rfl (fun _ => rfl) ?_
        refine wq_incN rfl rfl rfl ?_
        refine wq_go rfl (fun _ => rfl) ?_
        have hi := ih (u + 1) (by omega)
        rw [List.range_succ] at hi
        first | rw [am_g (f := (fun i => (Sow S (h * 4 + i * 1) : Int))) (u + 1) hb0 (by omega)] at hi | rw [am_l (f := (fun i => (Sow S (h * 4 + i * 1) : Int))) (u + 1) hb0 (by omega)] at hi
        exact wq_lv ⟨(by decide : ([3, 2, 0, 1] : List Nat).Nodup), (lvm (List.mem_of_getElem? (i := 0) rfl) (lvm (List.mem_of_getElem? (i := 1) rfl) (lvm (List.mem_of_getElem? (i := 2) rfl) (lvm (List.mem_of_getElem? (i := 3) rfl) lvn))))⟩ hi
def muI (P : Pl) (S : St) (o : Option Nat) : Int32 := match o with
  | none => -2
  | some b => nI (sumF (washN P S b) 4)
def clI (P : Pl) (S : St) (n w : Nat) : Int32 := match am (fun c => ((sumF (washN P S c) 4 : Nat) : Int)) (List.range n) with
  | none => -2
  | some b => if w = 0 then nI b else nI (sumF (washN P S b) 4)
theorem m_clean_l {xs : List Int32} {d : Nat} {σ : Nat → List Value} {Q : Option Value → (Nat → List Value) → Prop} {P : Pl} {L : Nat} {g : Nat → Int32} (hL2 : L < 2) (hP : Pok P) {S : St} (hok : Sok S) {w : Nat} (hw : w < 2)  (K : ∀ σ' g', Fr xR σ σ' → FrG yC g g' → MD P L g' σ' → Q (some (.int (clI P S (Pch P) w))) σ') : ∀ (m u : Nat), m + u = Pch P → ∀ σ1 g1, Fr xR σ σ1 → FrG yC g g1 → MD P L g1 σ1 → NwIs σ1 S → Wq xs (d + 5) ax_cd319 13 [(4, .int (nI u)), (3, .int (muI P S (am (fun c => ((sumF (washN P S c) 4 : Nat) : Int)) (List.range u)))), (2, .int (oI (am (fun c => ((sumF (washN P S c) 4 : Nat) : Int)) (List.range u)))), (0, .ref 287), (1, .int (nI w))] [] σ1 Q := by
  have hP' := hP
  obtain ⟨hP1, hP2, hP3, hP4, hP5, hP6, hP7, hP8, hPv, hPm, hPo, hPw, hPl⟩ := hP'
  have hhr := hok.2.1
  intro m
  induction m with
  | zero =>
    intro u hm σ1 g1 hF1 hG1 hM1 hN1
    have hu : u = Pch P := by omega
    subst hu
    refine wq_go rfl (fun _ => rfl) ?_
    refine wq_go rfl (fun _ => rfl) ?_
    refine wq_getf rfl (by first | rfl | assumption) (by first | decide | omega | assumption) (md_o hM1) rfl ?_
    refine wq_go rfl (fun _ => rfl) ?_
    refine wq_getf rfl (by first | rfl | assumption) (by first | decide | omega | assumption) (md_o hM1) rfl ?_
    refine wq_top (md_l hM1) ?_
    refine wq_iald rfl (by first | rfl | assumption) (by first | decide | omega | assumption) (md_c297 hM1) rfl (by omega) (by first | decide | omega) ?_
    refine wq_top (md_m297 hM1) ?_
    refine wq_cge rfl (by first | omega | decide | exact Nat.lt_of_le_of_lt Nat.and_le_right (by decide) | exact ⟨by omega, by omega⟩) (by first | omega | decide | exact Nat.lt_of_le_of_lt Nat.and_le_right (by decide) | exact ⟨by omega, by omega⟩) (fun c19 => ?_) (fun c => absurd (show _ from by omega) c)
    refine wq_go rfl (fun _ => rfl) ?_
    refine wq_zne rfl (by first | omega | decide | exact Nat.lt_of_le_of_lt Nat.and_le_right (by decide) | exact ⟨by omega, by omega⟩) (fun c48 => ?_) (fun c48 => ?_)
    · skip
      refine wq_go rfl (fun _ => rfl) ?_
      refine wq_iret rfl ?_
      exact ansQ (K _ g1 hF1 hG1 hM1) (by unfold clI; cases am (fun c => ((sumF (washN P S c) 4 : Nat) : Int)) (List.range (Pch P)) <;> first | rfl | exact (if_pos (by omega)).symm | exact (if_neg (by omega)).symm)
    · skip
      refine wq_go rfl (fun _ => rfl) ?_
      refine wq_go rfl (fun _ => rfl) ?_
      refine wq_iret rfl ?_
      exact ansQ (K _ g1 hF1 hG1 hM1) (by unfold clI; cases am (fun c => ((sumF (washN P S c) 4 : Nat) : Int)) (List.range (Pch P)) <;> first | rfl | exact (if_pos (by omega)).symm | exact (if_neg (by omega)).symm)
  | succ m ih =>
    intro u hm σ1 g1 hF1 hG1 hM1 hN1
    have hg1 := wsum_le P hok (c := u) (by omega)
    have hsl := sd_le hok
    cases hb0 : am (fun c => ((sumF (washN P S c) 4 : Nat) : Int)) (List.range u) with
    | none =>
      refine wq_go rfl (fun _ => rfl) ?_
      refine wq_go rfl (fun _ => rfl) ?_
      refine wq_getf rfl (by first | rfl | assumption) (by first | decide | omega | assumption) (md_o hM1) rfl ?_
      refine wq_go rfl (fun _ => rfl) ?_
      refine wq_getf rfl (by first | rfl | assumption) (by first | decide | omega | assumption) (md_o hM1) rfl ?_
      refine wq_top (md_l hM1) ?_
      refine wq_iald rfl (by first | rfl | assumption) (by first | decide | omega | assumption) (md_c297 hM1) rfl (by omega) (by first | decide | omega) ?_
      refine wq_top (md_m297 hM1) ?_
      refine wq_cge rfl (by first | omega | decide | exact Nat.lt_of_le_of_lt Nat.and_le_right (by decide) | exact ⟨by omega, by omega⟩) (by first | omega | decide | exact Nat.lt_of_le_of_lt Nat.and_le_right (by decide) | exact ⟨by omega, by omega⟩) (fun c => absurd c (by omega)) (fun c19 => ?_)
      refine wq_go rfl (fun _ => rfl) ?_
      refine wq_callV rfl rfl (by first | rfl | assumption) (by first | decide | omega | assumption) (Nat.le_of_ble_eq_true rfl) (Nat.le_of_ble_eq_true rfl) rfl rfl ?_
      refine m_copies hM1 hN1 (fun σ5 g5 F5 G5 s5 t5 M5 R5 => ?_)
      have W5 : NwIs σ5 S := (F5 322 rfl).trans hN1
      refine wq_go rfl (fun _ => rfl) ?_
      refine wq_go rfl (fun _ => rfl) ?_
      refine wq_callV rfl rfl (by first | rfl | assumption) (by first | decide | omega | assumption) (Nat.le_of_ble_eq_true rfl) (Nat.le_of_ble_eq_true rfl) rfl rfl ?_
      refine m_isWashed M5 hok R5 (by omega) (fun σ6 g6 F6 G6 M6 R6 => ?_)
      have W6 : NwIs σ6 S := (F6 322 rfl).trans W5
      refine wq_go rfl (fun _ => rfl) ?_
      refine wq_getf rfl (by first | rfl | assumption) (by first | decide | omega | assumption) (md_o M6) rfl ?_
      refine wq_cN (m := 60) rfl rfl ?_
      refine wq_ialdN rfl (by first | rfl | assumption) (by first | decide | omega | assumption) R6 rfl (by omega) (by first | decide | omega) ?_
      refine wq_top (congrArg nI ((rf_sd _).trans (wash_sd P S u))) ?_
      refine wq_go rfl (fun _ => rfl) ?_
      refine wq_getf rfl (by first | rfl | assumption) (by first | decide | omega | assumption) (md_o M6) rfl ?_
      refine wq_cN (m := 60) rfl rfl ?_
      refine wq_ialdN rfl (by first | rfl | assumption) (by first | decide | omega | assumption) W6 rfl (by omega) (by first | decide | omega) ?_
      refine wq_top (congrArg nI (rf_sd _)) ?_
      refine wq_subN rfl (by omega) ?_
      refine wq_top (congrArg nI (show Ssd S + sumF (washN P S u) 4 - Ssd S = sumF (washN P S u) 4 by omega)) ?_
      refine wq_go rfl (fun _ => rfl) ?_
      refine wq_go rfl (fun _ => rfl) ?_
      refine wq_ylt rfl (show (_ : Int32) = zI (-2) from by decide) (by first | omega | decide | exact Nat.lt_of_le_of_lt Nat.and_le_right (by decide) | exact ⟨by omega, by omega⟩) (fun c36 => ?_) (fun c => absurd (show _ from by omega) c)
      refine wq_go rfl (fun _ => rfl) ?_
      refine wq_go rfl (fun _ => rfl) ?_
      refine wq_go rfl (fun _ => rfl) ?_
      refine wq_go rfl (fun _ => rfl) ?_
      refine wq_incN rfl rfl rfl ?_
      refine wq_go rfl (fun _ => rfl) ?_
      have hi := ih (u + 1) (by omega) _ _ (fr_trans (fr_trans hF1 (fr_mono F5 xC_R)) F6) (fg_trans (fg_trans hG1 G5) (fg_mono G6 yB_C)) M6 W6
      rw [List.range_succ] at hi
      first | rw [am_n (f := (fun c => ((sumF (washN P S c) 4 : Nat) : Int))) u hb0] at hi | rw [am_g (f := (fun c => ((sumF (washN P S c) 4 : Nat) : Int))) u hb0 (by omega)] at hi | rw [am_l (f := (fun c => ((sumF (washN P S c) 4 : Nat) : Int))) u hb0 (by omega)] at hi
      exact wq_lv ⟨(by decide : ([4, 3, 2, 5, 0, 1] : List Nat).Nodup), (lvm (List.mem_of_getElem? (i := 0) rfl) (lvm (List.mem_of_getElem? (i := 1) rfl) (lvm (List.mem_of_getElem? (i := 2) rfl) (lvm (List.mem_of_getElem? (i := 4) rfl) (lvm (List.mem_of_getElem? (i := 5) rfl) lvn)))))⟩ hi
    | some b =>
      have hbn := am_rlt hb0
      have hg2 := wsum_le P hok (c := b) (by omega)
      refine wq_go rfl (fun _ => rfl) ?_
      refine wq_go rfl (fun _ => rfl) ?_
      refine wq_getf rfl (by first | rfl | assumption) (by first | decide | omega | assumption) (md_o hM1) rfl ?_
      refine wq_go rfl (fun _ => rfl) ?_
      refine wq_getf rfl (by first | rfl | assumption) (by first | decide | omega | assumption) (md_o hM1) rfl ?_
      refine wq_top (md_l hM1) ?_
      refine wq_iald rfl (by first | rfl | assumption) (by first | decide | omega | assumption) (md_c297 hM1) rfl (by omega) (by first | decide | omega) ?_
      refine wq_top (md_m297 hM1) ?_
      refine wq_cge rfl (by first | omega | decide | exact Nat.lt_of_le_of_lt Nat.and_le_right (by decide) | exact ⟨by omega, by omega⟩) (by first | omega | decide | exact Nat.lt_of_le_of_lt Nat.and_le_right (by decide) | exact ⟨by omega, by omega⟩) (fun c => absurd c (by omega)) (fun c19 => ?_)
      refine wq_go rfl (fun _ => rfl) ?_
      refine wq_callV rfl rfl (by first | rfl | assumption) (by first | decide | omega | assumption) (Nat.le_of_ble_eq_true rfl) (Nat.le_of_ble_eq_true rfl) rfl rfl ?_
      refine m_copies hM1 hN1 (fun σ5 g5 F5 G5 s5 t5 M5 R5 => ?_)
      have W5 : NwIs σ5 S := (F5 322 rfl).trans hN1
      refine wq_go rfl (fun _ => rfl) ?_
      refine wq_go rfl (fun _ => rfl) ?_
      refine wq_callV rfl rfl (by first | rfl | assumption) (by first | decide | omega | assumption) (Nat.le_of_ble_eq_true rfl) (Nat.le_of_ble_eq_true rfl) rfl rfl ?_
      refine m_isWashed M5 hok R5 (by omega) (fun σ6 g6 F6 G6 M6 R6 => ?_)
      have W6 : NwIs σ6 S := (F6 322 rfl).trans W5
      refine wq_go rfl (fun _ => rfl) ?_
      refine wq_getf rfl (by first | rfl | assumption) (by first | decide | omega | assumption) (md_o M6) rfl ?_
      refine wq_cN (m := 60) rfl rfl ?_
      refine wq_ialdN rfl (by first | rfl | assumption) (by first | decide | omega | assumption) R6 rfl (by omega) (by first | decide | omega) ?_
      refine wq_top (congrArg nI ((rf_sd _).trans (wash_sd P S u))) ?_
      refine wq_go rfl (fun _ => rfl) ?_
      refine wq_getf rfl (by first | rfl | assumption) (by first | decide | omega | assumption) (md_o M6) rfl ?_
      refine wq_cN (m := 60) rfl rfl ?_
      refine wq_ialdN rfl (by first | rfl | assumption) (by first | decide | omega | assumption) W6 rfl (by omega) (by first | decide | omega) ?_
      refine wq_top (congrArg nI (rf_sd _)) ?_
      refine wq_subN rfl (by omega) ?_
      refine wq_top (congrArg nI (show Ssd S + sumF (washN P S u) 4 - Ssd S = sumF (washN P S u) 4 by omega)) ?_
      refine wq_go rfl (fun _ => rfl) ?_
      refine wq_go rfl (fun _ => rfl) ?_
      refine wq_zlt rfl (by first | omega | decide | exact Nat.lt_of_le_of_lt Nat.and_le_right (by decide) | exact ⟨by omega, by omega⟩) (fun c => absurd c (by omega)) (fun c36 => ?_)
      refine wq_go rfl (fun _ => rfl) ?_
      refine wq_go rfl (fun _ => rfl) ?_
      refine wq_cgt rfl (by first | omega | decide | exact Nat.lt_of_le_of_lt Nat.and_le_right (by decide) | exact ⟨by omega, by omega⟩) (by first | omega | decide | exact Nat.lt_of_le_of_lt Nat.and_le_right (by decide) | exact ⟨by omega, by omega⟩) (fun c39 => ?_) (fun c39 => ?_)
      · skip
        refine wq_go rfl (fun _ => rfl) ?_
        refine wq_go rfl (fun _ => rfl) ?_
        refine wq_go rfl (fun _ => rfl) ?_
        refine wq_go rfl (fun _ => rfl) ?_
        refine wq_incN rfl rfl rfl ?_
        refine wq_go rfl (fun _ => rfl) ?_
        have hi := ih (u + 1) (by omega) _ _ (fr_trans (fr_trans hF1 (fr_mono F5 xC_R)) F6) (fg_trans (fg_trans hG1 G5) (fg_mono G6 yB_C)) M6 W6
        rw [List.range_succ] at hi
        first | rw [am_n (f := (fun c => ((sumF (washN P S c) 4 : Nat) : Int))) u hb0] at hi | rw [am_g (f := (fun c => ((sumF (washN P S c) 4 : Nat) : Int))) u hb0 (by omega)] at hi | rw [am_l (f := (fun c => ((sumF (washN P S c) 4 : Nat) : Int))) u hb0 (by omega)] at hi
        exact wq_lv ⟨(by decide : ([4, 3, 2, 5, 0, 1] : List Nat).Nodup), (lvm (List.mem_of_getElem? (i := 0) rfl) (lvm (List.mem_of_getElem? (i := 1) rfl) (lvm (List.mem_of_getElem? (i := 2) rfl) (lvm (List.mem_of_getElem? (i := 4) rfl) (lvm (List.mem_of_getElem? (i := 5) rfl) lvn)))))⟩ hi
      · skip
        refine wq_go rfl (fun _ => rfl) ?_
        refine wq_incN rfl rfl rfl ?_
        refine wq_go rfl (fun _ => rfl) ?_
        have hi := ih (u + 1) (by omega) _ _ (fr_trans (fr_trans hF1 (fr_mono F5 xC_R)) F6) (fg_trans (fg_trans hG1 G5) (fg_mono G6 yB_C)) M6 W6
        rw [List.range_succ] at hi
        first | rw [am_n (f := (fun c => ((sumF (washN P S c) 4 : Nat) : Int))) u hb0] at hi | rw [am_g (f := (fun c => ((sumF (washN P S c) 4 : Nat) : Int))) u hb0 (by omega)] at hi | rw [am_l (f := (fun c => ((sumF (washN P S c) 4 : Nat) : Int))) u hb0 (by omega)] at hi
        exact wq_lv ⟨(by decide : ([4, 5, 3, 2, 0, 1] : List Nat).Nodup), (lvm (List.mem_of_getElem? (i := 0) rfl) (lvm (List.mem_of_getElem? (i := 2) rfl) (lvm (List.mem_of_getElem? (i := 3) rfl) (lvm (List.mem_of_getElem? (i := 4) rfl) (lvm (List.mem_of_getElem? (i := 5) rfl) lvn)))))⟩ hi
theorem m_year_l {xs : List Int32} {d : Nat} {σ : Nat → List Value} {Q : Option Value → (Nat → List Value) → Prop} {P : Pl} {L : Nat} {g : Nat → Int32} (hL2 : L < 2) (hP : Pok P) {S : St} (hok : Sok S) (hz : Zq P S) {h t n s : Nat} (hh : h < Phd P) (ht : t < 4) (hnn : n < 1000) (hs : s ≤ 20) (hr : Shr S + n ≤ 1000000)  (K : ∀ σ' g', Fr xR σ σ' → FrG yC g g' → MD P L g' σ' → Q (some (.int (nI (sumF (fun i => if says1 (goS P 1 (Psd P + i) S n) (Psa P) h t = true then 1 else 0) s)))) σ') : ∀ (m u : Nat), m + u = s → ∀ σ1 g1, Fr xR σ σ1 → FrG yC g g1 → MD P L g1 σ1 → NwIs σ1 S → Wq xs (d + 8) ax_cd323 21 [(6, .int (nI u)), (5, .int (nI (sumF (fun i => if says1 (goS P 1 (Psd P + i) S n) (Psa P) h t = true then 1 else 0) u))), (0, .ref 287), (1, .int (nI h)), (2, .int (nI t)), (3, .int (nI n)), (4, .int (nI s))] [] σ1 Q := by
  have hP' := hP
  obtain ⟨hP1, hP2, hP3, hP4, hP5, hP6, hP7, hP8, hPv, hPm, hPo, hPw, hPl⟩ := hP'
  have hhr := hok.2.1
  intro m
  induction m with
  | zero =>
    intro u hm σ1 g1 hF1 hG1 hM1 hN1
    refine wq_go rfl (fun _ => rfl) ?_
    refine wq_go rfl (fun _ => rfl) ?_
    refine wq_cge rfl (by first | omega | decide | exact Nat.lt_of_le_of_lt Nat.and_le_right (by decide) | exact ⟨by omega, by omega⟩) (by first | omega | decide | exact Nat.lt_of_le_of_lt Nat.and_le_right (by decide) | exact ⟨by omega, by omega⟩) (fun c23 => ?_) (fun c => absurd (show _ from by omega) c)
    refine wq_go rfl (fun _ => rfl) ?_
    refine wq_iret rfl ?_
    rw [show u = s by omega]
    exact K _ g1 hF1 hG1 hM1
  | succ m ih =>
    intro u hm σ1 g1 hF1 hG1 hM1 hN1
    refine wq_go rfl (fun _ => rfl) ?_
    refine wq_go rfl (fun _ => rfl) ?_
    refine wq_cge rfl (by first | omega | decide | exact Nat.lt_of_le_of_lt Nat.and_le_right (by decide) | exact ⟨by omega, by omega⟩) (by first | omega | decide | exact Nat.lt_of_le_of_lt Nat.and_le_right (by decide) | exact ⟨by omega, by omega⟩) (fun c => absurd c (by omega)) (fun c23 => ?_)
    refine wq_go rfl (fun _ => rfl) ?_
    refine wq_callV rfl rfl (by first | rfl | assumption) (by first | decide | omega | assumption) (Nat.le_of_ble_eq_true rfl) (Nat.le_of_ble_eq_true rfl) rfl rfl ?_
    refine m_copies hM1 hN1 (fun σ5 g5 F5 G5 s5 t5 M5 R5 => ?_)
    have W5 : NwIs σ5 S := (F5 322 rfl).trans hN1
    refine wq_go rfl (fun _ => rfl) ?_
    refine wq_go rfl (fun _ => rfl) ?_
    refine wq_getf rfl (by first | rfl | assumption) (by first | decide | omega | assumption) (md_o M5) rfl ?_
    refine wq_top s5 ?_
    refine wq_go rfl (fun _ => rfl) ?_
    refine wq_addN rfl ?_
    refine wq_mput rfl (md_o M5) rfl rfl rfl rfl ?_
    refine wq_go rfl (fun _ => rfl) ?_
    refine wq_go rfl (fun _ => rfl) ?_
    refine wq_callV rfl rfl (by first | rfl | assumption) (by first | decide | omega | assumption) (Nat.le_of_ble_eq_true rfl) (Nat.le_of_ble_eq_true rfl) rfl rfl ?_
    refine m_goes (g := upd g5 54 (nI (Psd P + u))) (md_u287 M5 rfl) hok ((up_ne _ _ (by decide)).trans R5) hz (by decide) (mo := 1) (sd := Psd P + u) (show upd g5 54 (nI (Psd P + u)) 55 = nI (1 - 1) from t5) (show upd g5 54 (nI (Psd P + u)) 54 = nI (Psd P + u) from rfl) (n := n) (by omega) (by omega) (fun σ6 g6 F6 G6 M6 R6 => ?_)
    have W6 : NwIs σ6 S := (F6 322 rfl).trans ((up_ne _ _ (by decide)).trans W5)
    refine wq_go rfl (fun _ => rfl) ?_
    refine wq_go rfl (fun _ => rfl) ?_
    refine wq_go rfl (fun _ => rfl) ?_
    refine wq_callV rfl rfl (by first | rfl | assumption) (by first | decide | omega | assumption) (Nat.le_of_ble_eq_true rfl) (Nat.le_of_ble_eq_true rfl) rfl rfl ?_
    refine m_doesSay M6 (go_ok hP hok 1 (Psd P + u) n hr) R6 (by omega) (by omega) (fun eb => ?_) (fun eb => ?_)
    · skip
      refine wq_zeq rfl (by first | omega | decide | exact Nat.lt_of_le_of_lt Nat.and_le_right (by decide) | exact ⟨by omega, by omega⟩) (fun c => absurd c (by omega)) (fun c39 => ?_)
      refine wq_incN rfl rfl rfl ?_
      refine wq_incN rfl rfl rfl ?_
      refine wq_go rfl (fun _ => rfl) ?_
      have hi := ih (u + 1) (by omega) _ _ (fr_trans (fr_up (fr_trans hF1 (fr_mono F5 xC_R)) rfl) F6) (fg_trans (fg_up (fg_trans hG1 G5) rfl) (fg_mono G6 yB_C)) M6 W6
      first | rw [← sb_t (p := fun i => says1 (goS P 1 (Psd P + i) S n) (Psa P) h t) eb] at hi | rw [← sb_f (p := fun i => says1 (goS P 1 (Psd P + i) S n) (Psa P) h t) eb, Nat.add_zero] at hi
      exact wq_lv ⟨(by decide : ([6, 5, 0, 1, 2, 3, 4] : List Nat).Nodup), (lvm (List.mem_of_getElem? (i := 0) rfl) (lvm (List.mem_of_getElem? (i := 1) rfl) (lvm (List.mem_of_getElem? (i := 2) rfl) (lvm (List.mem_of_getElem? (i := 3) rfl) (lvm (List.mem_of_getElem? (i := 4) rfl) (lvm (List.mem_of_getElem? (i := 5) rfl) (lvm (List.mem_of_getElem? (i := 6) rfl) lvn)))))))⟩ hi
    · skip
      refine wq_zeq rfl (by first | omega | decide | exact Nat.lt_of_le_of_lt Nat.and_le_right (by decide) | exact ⟨by omega, by omega⟩) (fun c39 => ?_) (fun c => absurd (show _ from by omega) c)
      refine wq_incN rfl rfl rfl ?_
      refine wq_go rfl (fun _ => rfl) ?_
      have hi := ih (u + 1) (by omega) _ _ (fr_trans (fr_up (fr_trans hF1 (fr_mono F5 xC_R)) rfl) F6) (fg_trans (fg_up (fg_trans hG1 G5) rfl) (fg_mono G6 yB_C)) M6 W6
      first | rw [← sb_t (p := fun i => says1 (goS P 1 (Psd P + i) S n) (Psa P) h t) eb] at hi | rw [← sb_f (p := fun i => says1 (goS P 1 (Psd P + i) S n) (Psa P) h t) eb, Nat.add_zero] at hi
      exact wq_lv ⟨(by decide : ([6, 5, 0, 1, 2, 3, 4] : List Nat).Nodup), (lvm (List.mem_of_getElem? (i := 0) rfl) (lvm (List.mem_of_getElem? (i := 1) rfl) (lvm (List.mem_of_getElem? (i := 2) rfl) (lvm (List.mem_of_getElem? (i := 3) rfl) (lvm (List.mem_of_getElem? (i := 4) rfl) (lvm (List.mem_of_getElem? (i := 5) rfl) (lvm (List.mem_of_getElem? (i := 6) rfl) lvn)))))))⟩ hi
theorem mk_place {n : Nat} {A : Sy} (hn : n < 512) (hA : Aok n A) : MOk ax_cd251 [] A A (F_place A) := by
  intro xs d σ Q hI K
  obtain ⟨hPok, ⟨hok, hhr72, hzq, hsum⟩, hAH, hAZ, hAn, hAh, hTok, hAl⟩ := hA
  have hP' := hPok
  obtain ⟨hP1, hP2, hP3, hP4, hP5, hP6, hP7, hP8, hPv, hPm, hPo, hPw, hPl⟩ := hP'
  have hok' := hok
  obtain ⟨hot, hoh, hosc, hokp⟩ := hok'
  have hI0 := hI
  obtain ⟨L, g, hM, hMR, hMT⟩ := hI0
  have hN : NwIs σ (AS A) := hMR.1
  have hL2 := md_l2 hM
  show Wq xs (d + 12) ax_cd251 0 [(0, .ref 287)] [] σ Q
  refine wq_go rfl (fun _ => rfl) ?_
  refine wq_getf rfl (by first | rfl | assumption) (by first | decide | omega | assumption) (md_o hM) rfl ?_
  refine wq_top hMR.2.2.2.2.2.2.2.2.2.1 ?_
  refine wq_iret rfl ?_
  exact ansQ (K _ (lo_R (fr_refl xR σ)) (mi_k hMR hMT (fr_refl xR σ) (fg_refl yC g) hM)) (by simp only [F_place, od_s, od_n, od_c] <;> first | rfl | simp [od_c])
theorem mk_chair {n : Nat} {A : Sy} (hn : n < 512) (hA : Aok n A) (a0 a1 : Int32) : MOk ax_cd252 [.int a0, .int a1] A A (F_chair A a0 a1) := by
  intro xs d σ Q hI K
  obtain ⟨hPok, ⟨hok, hhr72, hzq, hsum⟩, hAH, hAZ, hAn, hAh, hTok, hAl⟩ := hA
  have hP' := hPok
  obtain ⟨hP1, hP2, hP3, hP4, hP5, hP6, hP7, hP8, hPv, hPm, hPo, hPw, hPl⟩ := hP'
  have hok' := hok
  obtain ⟨hot, hoh, hosc, hokp⟩ := hok'
  have hI0 := hI
  obtain ⟨L, g, hM, hMR, hMT⟩ := hI0
  have hN : NwIs σ (AS A) := hMR.1
  have hL2 := md_l2 hM
  show Wq xs (d + 12) ax_cd252 0 [(0, .ref 287), (1, .int a0), (2, .int a1)] [] σ Q
  refine wq_go rfl (fun _ => rfl) ?_
  refine wq_go rfl (fun _ => rfl) ?_
  refine wq_callV rfl rfl (by first | rfl | assumption) (by first | decide | omega | assumption) (Nat.le_of_ble_eq_true rfl) (Nat.le_of_ble_eq_true rfl) rfl rfl ?_
  refine m_isChair hM (fun c lc qc ec => ?_) (fun ec => ?_)
  · subst qc
    refine wq_zne rfl (by first | omega | decide | exact Nat.lt_of_le_of_lt Nat.and_le_right (by decide) | exact ⟨by omega, by omega⟩) (fun c3 => ?_) (fun c => absurd (show _ from by omega) c)
    refine wq_go rfl (fun _ => rfl) ?_
    rcases dec_cases (n := 7) (by decide) a1 with ⟨ew, hw⟩ | ⟨w, lw, qw, ew⟩
    · refine wq_swD 7 rfl (by decide) (by decide) hw ?_
      refine wq_go rfl (fun _ => rfl) ?_
      refine wq_iret rfl ?_
      exact ansQ (K _ (lo_R (fr_refl xR σ)) (mi_k hMR hMT (fr_refl xR σ) (fg_refl yC g) hM)) (by simp only [F_chair, ec, ew, od_s, od_n, od_c] <;> first | rfl | simp [od_c])
    · subst qw
      have ow : w = 0 ∨ w = 1 ∨ w = 2 ∨ w = 3 ∨ w = 4 ∨ w = 5 ∨ w = 6 := by omega
      rcases ow with rfl | rfl | rfl | rfl | rfl | rfl | rfl
      · refine wq_swN rfl rfl (by decide) rfl ?_
        refine wq_go rfl (fun _ => rfl) ?_
        refine wq_getf rfl (by first | rfl | assumption) (by first | decide | omega | assumption) (md_o hM) rfl ?_
        refine wq_cN (m := 4) rfl rfl ?_
        refine wq_go rfl (fun _ => rfl) ?_
        refine wq_mulN rfl ?_
        refine wq_go rfl (fun _ => rfl) ?_
        refine wq_addN rfl ?_
        refine wq_ialdN rfl (by first | rfl | assumption) (by first | decide | omega | assumption) hN rfl (by omega) (by first | decide | omega) ?_
        refine wq_top (congrArg nI (rf_sq _ (by omega) (by omega))) ?_
        refine wq_iret rfl ?_
        exact ansQ (K _ (lo_R (fr_refl xR σ)) (mi_k hMR hMT (fr_refl xR σ) (fg_refl yC g) hM)) (by simp only [F_chair, ec, ew, od_s, od_n, od_c] <;> first | rfl | simp [od_c])
      · refine wq_swN rfl rfl (by decide) rfl ?_
        refine wq_go rfl (fun _ => rfl) ?_
        refine wq_getf rfl (by first | rfl | assumption) (by first | decide | omega | assumption) (md_o hM) rfl ?_
        refine wq_cN (m := 4) rfl rfl ?_
        refine wq_go rfl (fun _ => rfl) ?_
        refine wq_mulN rfl ?_
        refine wq_go rfl (fun _ => rfl) ?_
        refine wq_addN rfl ?_
        refine wq_ialdN rfl (by first | rfl | assumption) (by first | decide | omega | assumption) hN rfl (by omega) (by first | decide | omega) ?_
        refine wq_top (congrArg nI (rf_sq _ (by omega) (by omega))) ?_
        refine wq_iret rfl ?_
        exact ansQ (K _ (lo_R (fr_refl xR σ)) (mi_k hMR hMT (fr_refl xR σ) (fg_refl yC g) hM)) (by simp only [F_chair, ec, ew, od_s, od_n, od_c] <;> first | rfl | simp [od_c])
      · refine wq_swN rfl rfl (by decide) rfl ?_
        refine wq_go rfl (fun _ => rfl) ?_
        refine wq_getf rfl (by first | rfl | assumption) (by first | decide | omega | assumption) (md_o hM) rfl ?_
        refine wq_cN (m := 4) rfl rfl ?_
        refine wq_go rfl (fun _ => rfl) ?_
        refine wq_mulN rfl ?_
        refine wq_go rfl (fun _ => rfl) ?_
        refine wq_addN rfl ?_
        refine wq_ialdN rfl (by first | rfl | assumption) (by first | decide | omega | assumption) hN rfl (by omega) (by first | decide | omega) ?_
        refine wq_top (congrArg nI (rf_sq _ (by omega) (by omega))) ?_
        refine wq_iret rfl ?_
        exact ansQ (K _ (lo_R (fr_refl xR σ)) (mi_k hMR hMT (fr_refl xR σ) (fg_refl yC g) hM)) (by simp only [F_chair, ec, ew, od_s, od_n, od_c] <;> first | rfl | simp [od_c])
      · refine wq_swN rfl rfl (by decide) rfl ?_
        refine wq_go rfl (fun _ => rfl) ?_
        refine wq_getf rfl (by first | rfl | assumption) (by first | decide | omega | assumption) (md_o hM) rfl ?_
        refine wq_cN (m := 4) rfl rfl ?_
        refine wq_go rfl (fun _ => rfl) ?_
        refine wq_mulN rfl ?_
        refine wq_go rfl (fun _ => rfl) ?_
        refine wq_addN rfl ?_
        refine wq_ialdN rfl (by first | rfl | assumption) (by first | decide | omega | assumption) hN rfl (by omega) (by first | decide | omega) ?_
        refine wq_top (congrArg nI (rf_sq _ (by omega) (by omega))) ?_
        refine wq_iret rfl ?_
        exact ansQ (K _ (lo_R (fr_refl xR σ)) (mi_k hMR hMT (fr_refl xR σ) (fg_refl yC g) hM)) (by simp only [F_chair, ec, ew, od_s, od_n, od_c] <;> first | rfl | simp [od_c])
      · refine wq_swN rfl rfl (by decide) rfl ?_
        refine wq_go rfl (fun _ => rfl) ?_
        refine wq_getf rfl (by first | rfl | assumption) (by first | decide | omega | assumption) (md_o hM) rfl ?_
        refine wq_cN (m := 4) rfl rfl ?_
        refine wq_go rfl (fun _ => rfl) ?_
        refine wq_getf rfl (by first | rfl | assumption) (by first | decide | omega | assumption) (md_o hM) rfl ?_
        refine wq_top (md_l hM) ?_
        refine wq_mulN rfl ?_
        refine wq_go rfl (fun _ => rfl) ?_
        refine wq_addN rfl ?_
        refine wq_iald rfl (by first | rfl | assumption) (by first | decide | omega | assumption) (md_c298 hM) rfl (by omega) (by first | decide | omega) ?_
        refine wq_top (md_m298 hM _ (by omega)) ?_
        refine wq_iret rfl ?_
        exact ansQ (K _ (lo_R (fr_refl xR σ)) (mi_k hMR hMT (fr_refl xR σ) (fg_refl yC g) hM)) (by simp only [F_chair, ec, ew, od_s, od_n, od_c] <;> first | rfl | simp [od_c])
      · refine wq_swN rfl rfl (by decide) rfl ?_
        refine wq_go rfl (fun _ => rfl) ?_
        refine wq_getf rfl (by first | rfl | assumption) (by first | decide | omega | assumption) (md_o hM) rfl ?_
        refine wq_cN (m := 16) rfl rfl ?_
        refine wq_go rfl (fun _ => rfl) ?_
        refine wq_addN rfl ?_
        refine wq_ialdN rfl (by first | rfl | assumption) (by first | decide | omega | assumption) hN rfl (by omega) (by first | decide | omega) ?_
        refine wq_top (congrArg nI (rf_sc _ (by omega))) ?_
        refine wq_iret rfl ?_
        exact ansQ (K _ (lo_R (fr_refl xR σ)) (mi_k hMR hMT (fr_refl xR σ) (fg_refl yC g) hM)) (by simp only [F_chair, ec, ew, od_s, od_n, od_c] <;> first | rfl | simp [od_c])
      · refine wq_swN rfl rfl (by decide) rfl ?_
        refine wq_go rfl (fun _ => rfl) ?_
        refine wq_getf rfl (by first | rfl | assumption) (by first | decide | omega | assumption) (md_o hM) rfl ?_
        refine wq_cN (m := 20) rfl rfl ?_
        refine wq_go rfl (fun _ => rfl) ?_
        refine wq_addN rfl ?_
        refine wq_ialdN rfl (by first | rfl | assumption) (by first | decide | omega | assumption) hN rfl (by omega) (by first | decide | omega) ?_
        refine wq_top (congrArg nI (rf_si _ (by omega))) ?_
        refine wq_iret rfl ?_
        exact ansQ (K _ (lo_R (fr_refl xR σ)) (mi_k hMR hMT (fr_refl xR σ) (fg_refl yC g) hM)) (by simp only [F_chair, ec, ew, od_s, od_n, od_c] <;> first | rfl | simp [od_c])
  · skip
    refine wq_zne rfl (by first | omega | decide | exact Nat.lt_of_le_of_lt Nat.and_le_right (by decide) | exact ⟨by omega, by omega⟩) (fun c => absurd c (by omega)) (fun c3 => ?_)
    refine wq_go rfl (fun _ => rfl) ?_
    refine wq_iret rfl ?_
    exact ansQ (K _ (lo_R (fr_refl xR σ)) (mi_k hMR hMT (fr_refl xR σ) (fg_refl yC g) hM)) (by simp only [F_chair, ec, od_s, od_n, od_c] <;> first | rfl | simp [od_c])
theorem mk_head {n : Nat} {A : Sy} (hn : n < 512) (hA : Aok n A) (a0 a1 : Int32) : MOk ax_cd255 [.int a0, .int a1] A A (F_head A a0 a1) := by
  intro xs d σ Q hI K
  obtain ⟨hPok, ⟨hok, hhr72, hzq, hsum⟩, hAH, hAZ, hAn, hAh, hTok, hAl⟩ := hA
  have hP' := hPok
  obtain ⟨hP1, hP2, hP3, hP4, hP5, hP6, hP7, hP8, hPv, hPm, hPo, hPw, hPl⟩ := hP'
  have hok' := hok
  obtain ⟨hot, hoh, hosc, hokp⟩ := hok'
  have hI0 := hI
  obtain ⟨L, g, hM, hMR, hMT⟩ := hI0
  have hN : NwIs σ (AS A) := hMR.1
  have hL2 := md_l2 hM
  show Wq xs (d + 12) ax_cd255 0 [(0, .ref 287), (1, .int a0), (2, .int a1)] [] σ Q
  refine wq_go rfl (fun _ => rfl) ?_
  refine wq_go rfl (fun _ => rfl) ?_
  refine wq_callV rfl rfl (by first | rfl | assumption) (by first | decide | omega | assumption) (Nat.le_of_ble_eq_true rfl) (Nat.le_of_ble_eq_true rfl) rfl rfl ?_
  refine m_isHead hM (fun h lh qh eh => ?_) (fun eh => ?_)
  · subst qh
    refine wq_zne rfl (by first | omega | decide | exact Nat.lt_of_le_of_lt Nat.and_le_right (by decide) | exact ⟨by omega, by omega⟩) (fun c3 => ?_) (fun c => absurd (show _ from by omega) c)
    refine wq_go rfl (fun _ => rfl) ?_
    refine wq_callV rfl rfl (by first | rfl | assumption) (by first | decide | omega | assumption) (Nat.le_of_ble_eq_true rfl) (Nat.le_of_ble_eq_true rfl) rfl rfl ?_
    refine m_copies hM hN (fun σ6 g6 F6 G6 s6 t6 M6 R6 => ?_)
    have W6 : NwIs σ6 (AS A) := (F6 322 rfl).trans hN
    refine wq_go rfl (fun _ => rfl) ?_
    rcases dec_cases (n := 7) (by decide) a1 with ⟨ew, hw⟩ | ⟨w, lw, qw, ew⟩
    · refine wq_swD 7 rfl (by decide) (by decide) hw ?_
      refine wq_go rfl (fun _ => rfl) ?_
      refine wq_iret rfl ?_
      exact ansQ (K _ (lo_R (fr_trans (fr_refl xR σ) (fr_mono F6 xC_R))) (mi_k hMR hMT (fr_trans (fr_refl xR σ) (fr_mono F6 xC_R)) (fg_trans (fg_refl yC g) G6) M6)) (by simp only [F_head, eh, ew, od_s, od_n, od_c] <;> first | rfl | simp [od_c])
    · subst qw
      have ow : w = 0 ∨ w = 1 ∨ w = 2 ∨ w = 3 ∨ w = 4 ∨ w = 5 ∨ w = 6 := by omega
      rcases ow with rfl | rfl | rfl | rfl | rfl | rfl | rfl
      · refine wq_swN rfl rfl (by decide) rfl ?_
        refine wq_go rfl (fun _ => rfl) ?_
        refine wq_getf rfl (by first | rfl | assumption) (by first | decide | omega | assumption) (md_o M6) rfl ?_
        refine wq_cN (m := 24) rfl rfl ?_
        refine wq_cN (m := 4) rfl rfl ?_
        refine wq_go rfl (fun _ => rfl) ?_
        refine wq_mulN rfl ?_
        refine wq_addN rfl ?_
        refine wq_go rfl (fun _ => rfl) ?_
        refine wq_addN rfl ?_
        refine wq_ialdN rfl (by first | rfl | assumption) (by first | decide | omega | assumption) R6 rfl (by omega) (by first | decide | omega) ?_
        refine wq_top (congrArg nI (rf_ow _ (by omega) (by omega))) ?_
        refine wq_iret rfl ?_
        exact ansQ (K _ (lo_R (fr_trans (fr_refl xR σ) (fr_mono F6 xC_R))) (mi_k hMR hMT (fr_trans (fr_refl xR σ) (fr_mono F6 xC_R)) (fg_trans (fg_refl yC g) G6) M6)) (by simp only [F_head, eh, ew, od_s, od_n, od_c] <;> first | rfl | simp [od_c])
      · refine wq_swN rfl rfl (by decide) rfl ?_
        refine wq_go rfl (fun _ => rfl) ?_
        refine wq_getf rfl (by first | rfl | assumption) (by first | decide | omega | assumption) (md_o M6) rfl ?_
        refine wq_cN (m := 24) rfl rfl ?_
        refine wq_cN (m := 4) rfl rfl ?_
        refine wq_go rfl (fun _ => rfl) ?_
        refine wq_mulN rfl ?_
        refine wq_addN rfl ?_
        refine wq_go rfl (fun _ => rfl) ?_
        refine wq_addN rfl ?_
        refine wq_ialdN rfl (by first | rfl | assumption) (by first | decide | omega | assumption) R6 rfl (by omega) (by first | decide | omega) ?_
        refine wq_top (congrArg nI (rf_ow _ (by omega) (by omega))) ?_
        refine wq_iret rfl ?_
        exact ansQ (K _ (lo_R (fr_trans (fr_refl xR σ) (fr_mono F6 xC_R))) (mi_k hMR hMT (fr_trans (fr_refl xR σ) (fr_mono F6 xC_R)) (fg_trans (fg_refl yC g) G6) M6)) (by simp only [F_head, eh, ew, od_s, od_n, od_c] <;> first | rfl | simp [od_c])
      · refine wq_swN rfl rfl (by decide) rfl ?_
        refine wq_go rfl (fun _ => rfl) ?_
        refine wq_getf rfl (by first | rfl | assumption) (by first | decide | omega | assumption) (md_o M6) rfl ?_
        refine wq_cN (m := 24) rfl rfl ?_
        refine wq_cN (m := 4) rfl rfl ?_
        refine wq_go rfl (fun _ => rfl) ?_
        refine wq_mulN rfl ?_
        refine wq_addN rfl ?_
        refine wq_go rfl (fun _ => rfl) ?_
        refine wq_addN rfl ?_
        refine wq_ialdN rfl (by first | rfl | assumption) (by first | decide | omega | assumption) R6 rfl (by omega) (by first | decide | omega) ?_
        refine wq_top (congrArg nI (rf_ow _ (by omega) (by omega))) ?_
        refine wq_iret rfl ?_
        exact ansQ (K _ (lo_R (fr_trans (fr_refl xR σ) (fr_mono F6 xC_R))) (mi_k hMR hMT (fr_trans (fr_refl xR σ) (fr_mono F6 xC_R)) (fg_trans (fg_refl yC g) G6) M6)) (by simp only [F_head, eh, ew, od_s, od_n, od_c] <;> first | rfl | simp [od_c])
      · refine wq_swN rfl rfl (by decide) rfl ?_
        refine wq_go rfl (fun _ => rfl) ?_
        refine wq_getf rfl (by first | rfl | assumption) (by first | decide | omega | assumption) (md_o M6) rfl ?_
        refine wq_cN (m := 24) rfl rfl ?_
        refine wq_cN (m := 4) rfl rfl ?_
        refine wq_go rfl (fun _ => rfl) ?_
        refine wq_mulN rfl ?_
        refine wq_addN rfl ?_
        refine wq_go rfl (fun _ => rfl) ?_
        refine wq_addN rfl ?_
        refine wq_ialdN rfl (by first | rfl | assumption) (by first | decide | omega | assumption) R6 rfl (by omega) (by first | decide | omega) ?_
        refine wq_top (congrArg nI (rf_ow _ (by omega) (by omega))) ?_
        refine wq_iret rfl ?_
        exact ansQ (K _ (lo_R (fr_trans (fr_refl xR σ) (fr_mono F6 xC_R))) (mi_k hMR hMT (fr_trans (fr_refl xR σ) (fr_mono F6 xC_R)) (fg_trans (fg_refl yC g) G6) M6)) (by simp only [F_head, eh, ew, od_s, od_n, od_c] <;> first | rfl | simp [od_c])
      · refine wq_swN rfl rfl (by decide) rfl ?_
        refine wq_go rfl (fun _ => rfl) ?_
        refine wq_getf rfl (by first | rfl | assumption) (by first | decide | omega | assumption) (md_o M6) rfl ?_
        refine wq_cN (m := 5) rfl rfl ?_
        refine wq_go rfl (fun _ => rfl) ?_
        refine wq_getf rfl (by first | rfl | assumption) (by first | decide | omega | assumption) (md_o M6) rfl ?_
        refine wq_top (md_l M6) ?_
        refine wq_mulN rfl ?_
        refine wq_go rfl (fun _ => rfl) ?_
        refine wq_addN rfl ?_
        refine wq_iald rfl (by first | rfl | assumption) (by first | decide | omega | assumption) (md_c300 M6) rfl (by omega) (by first | decide | omega) ?_
        refine wq_top (md_m300 M6 _ (by omega)) ?_
        refine wq_iret rfl ?_
        exact ansQ (K _ (lo_R (fr_trans (fr_refl xR σ) (fr_mono F6 xC_R))) (mi_k hMR hMT (fr_trans (fr_refl xR σ) (fr_mono F6 xC_R)) (fg_trans (fg_refl yC g) G6) M6)) (by simp only [F_head, eh, ew, od_s, od_n, od_c] <;> first | rfl | simp [od_c])
      · refine wq_swN rfl rfl (by decide) rfl ?_
        refine wq_go rfl (fun _ => rfl) ?_
        refine wq_go rfl (fun _ => rfl) ?_
        refine wq_callV rfl rfl (by first | rfl | assumption) (by first | decide | omega | assumption) (Nat.le_of_ble_eq_true rfl) (Nat.le_of_ble_eq_true rfl) rfl rfl ?_
        refine m_saidBy M6 hok R6 (by omega) ?_
        refine wq_iret rfl ?_
        exact ansQ (K _ (lo_R (fr_trans (fr_refl xR σ) (fr_mono F6 xC_R))) (mi_k hMR hMT (fr_trans (fr_refl xR σ) (fr_mono F6 xC_R)) (fg_trans (fg_refl yC g) G6) M6)) (by simp only [F_head, eh, ew, od_s, od_n, od_c] <;> first | rfl | simp [od_c])
      · refine wq_swN rfl rfl (by decide) rfl ?_
        refine wq_go rfl (fun _ => rfl) ?_
        refine wq_getf rfl (by first | rfl | assumption) (by first | decide | omega | assumption) (md_o M6) rfl ?_
        refine wq_cN (m := 44) rfl rfl ?_
        refine wq_go rfl (fun _ => rfl) ?_
        refine wq_addN rfl ?_
        refine wq_ialdN rfl (by first | rfl | assumption) (by first | decide | omega | assumption) R6 rfl (by omega) (by first | decide | omega) ?_
        refine wq_top (congrArg nI (rf_sb _ (by omega))) ?_
        refine wq_iret rfl ?_
        exact ansQ (K _ (lo_R (fr_trans (fr_refl xR σ) (fr_mono F6 xC_R))) (mi_k hMR hMT (fr_trans (fr_refl xR σ) (fr_mono F6 xC_R)) (fg_trans (fg_refl yC g) G6) M6)) (by simp only [F_head, eh, ew, od_s, od_n, od_c] <;> first | rfl | simp [od_c])
  · skip
    refine wq_zne rfl (by first | omega | decide | exact Nat.lt_of_le_of_lt Nat.and_le_right (by decide) | exact ⟨by omega, by omega⟩) (fun c => absurd c (by omega)) (fun c3 => ?_)
    refine wq_go rfl (fun _ => rfl) ?_
    refine wq_iret rfl ?_
    exact ansQ (K _ (lo_R (fr_refl xR σ)) (mi_k hMR hMT (fr_refl xR σ) (fg_refl yC g) hM)) (by simp only [F_head, eh, od_s, od_n, od_c] <;> first | rfl | simp [od_c])
theorem mk_visit {n : Nat} {A : Sy} (hn : n < 512) (hA : Aok n A) (a0 a1 : Int32) : MOk ax_cd260 [.int a0, .int a1] A A (F_visit A a0 a1) := by
  intro xs d σ Q hI K
  obtain ⟨hPok, ⟨hok, hhr72, hzq, hsum⟩, hAH, hAZ, hAn, hAh, hTok, hAl⟩ := hA
  have hP' := hPok
  obtain ⟨hP1, hP2, hP3, hP4, hP5, hP6, hP7, hP8, hPv, hPm, hPo, hPw, hPl⟩ := hP'
  have hok' := hok
  obtain ⟨hot, hoh, hosc, hokp⟩ := hok'
  have hI0 := hI
  obtain ⟨L, g, hM, hMR, hMT⟩ := hI0
  have hN : NwIs σ (AS A) := hMR.1
  have hL2 := md_l2 hM
  show Wq xs (d + 12) ax_cd260 0 [(0, .ref 287), (1, .int a0), (2, .int a1)] [] σ Q
  refine wq_go rfl (fun _ => rfl) ?_
  refine wq_go rfl (fun _ => rfl) ?_
  refine wq_callV rfl rfl (by first | rfl | assumption) (by first | decide | omega | assumption) (Nat.le_of_ble_eq_true rfl) (Nat.le_of_ble_eq_true rfl) rfl rfl ?_
  refine m_isVisit hM (fun i li qi ei => ?_) (fun ei => ?_)
  · subst qi
    refine wq_zne rfl (by first | omega | decide | exact Nat.lt_of_le_of_lt Nat.and_le_right (by decide) | exact ⟨by omega, by omega⟩) (fun c3 => ?_) (fun c => absurd (show _ from by omega) c)
    refine wq_cN (m := 10) rfl rfl ?_
    refine wq_go rfl (fun _ => rfl) ?_
    refine wq_getf rfl (by first | rfl | assumption) (by first | decide | omega | assumption) (md_o hM) rfl ?_
    refine wq_top (md_l hM) ?_
    refine wq_mulN rfl ?_
    refine wq_go rfl (fun _ => rfl) ?_
    refine wq_addN rfl ?_
    refine wq_go rfl (fun _ => rfl) ?_
    refine wq_go rfl (fun _ => rfl) ?_
    rcases dec_cases (n := 4) (by decide) a1 with ⟨ew, hw⟩ | ⟨w, lw, qw, ew⟩
    · refine wq_swD 4 rfl (by decide) (by decide) hw ?_
      refine wq_go rfl (fun _ => rfl) ?_
      refine wq_iret rfl ?_
      exact ansQ (K _ (lo_R (fr_refl xR σ)) (mi_k hMR hMT (fr_refl xR σ) (fg_refl yC g) hM)) (by simp only [F_visit, ei, ew, od_s, od_n, od_c] <;> first | rfl | simp [od_c])
    · subst qw
      have ow : w = 0 ∨ w = 1 ∨ w = 2 ∨ w = 3 := by omega
      rcases ow with rfl | rfl | rfl | rfl
      · refine wq_swN rfl rfl (by decide) rfl ?_
        refine wq_go rfl (fun _ => rfl) ?_
        refine wq_getf rfl (by first | rfl | assumption) (by first | decide | omega | assumption) (md_o hM) rfl ?_
        refine wq_go rfl (fun _ => rfl) ?_
        refine wq_iald rfl (by first | rfl | assumption) (by first | decide | omega | assumption) (md_c303 hM) rfl (by omega) (by first | decide | omega) ?_
        refine wq_top (md_m303 hM _ (by omega)) ?_
        refine wq_iret rfl ?_
        exact ansQ (K _ (lo_R (fr_refl xR σ)) (mi_k hMR hMT (fr_refl xR σ) (fg_refl yC g) hM)) (by simp only [F_visit, ei, ew, od_s, od_n, od_c] <;> first | rfl | simp [od_c])
      · refine wq_swN rfl rfl (by decide) rfl ?_
        refine wq_go rfl (fun _ => rfl) ?_
        refine wq_getf rfl (by first | rfl | assumption) (by first | decide | omega | assumption) (md_o hM) rfl ?_
        refine wq_go rfl (fun _ => rfl) ?_
        refine wq_iald rfl (by first | rfl | assumption) (by first | decide | omega | assumption) (md_c304 hM) rfl (by omega) (by first | decide | omega) ?_
        refine wq_top (md_m304 hM _ (by omega)) ?_
        refine wq_iret rfl ?_
        exact ansQ (K _ (lo_R (fr_refl xR σ)) (mi_k hMR hMT (fr_refl xR σ) (fg_refl yC g) hM)) (by simp only [F_visit, ei, ew, od_s, od_n, od_c] <;> first | rfl | simp [od_c])
      · refine wq_swN rfl rfl (by decide) rfl ?_
        refine wq_go rfl (fun _ => rfl) ?_
        refine wq_getf rfl (by first | rfl | assumption) (by first | decide | omega | assumption) (md_o hM) rfl ?_
        refine wq_go rfl (fun _ => rfl) ?_
        refine wq_iald rfl (by first | rfl | assumption) (by first | decide | omega | assumption) (md_c305 hM) rfl (by omega) (by first | decide | omega) ?_
        refine wq_top (md_m305 hM _ (by omega)) ?_
        refine wq_iret rfl ?_
        exact ansQ (K _ (lo_R (fr_refl xR σ)) (mi_k hMR hMT (fr_refl xR σ) (fg_refl yC g) hM)) (by simp only [F_visit, ei, ew, od_s, od_n, od_c] <;> first | rfl | simp [od_c])
      · refine wq_swN rfl rfl (by decide) rfl ?_
        refine wq_go rfl (fun _ => rfl) ?_
        refine wq_getf rfl (by first | rfl | assumption) (by first | decide | omega | assumption) (md_o hM) rfl ?_
        refine wq_cN (m := 49) rfl rfl ?_
        refine wq_go rfl (fun _ => rfl) ?_
        refine wq_addN rfl ?_
        refine wq_ialdN rfl (by first | rfl | assumption) (by first | decide | omega | assumption) hN rfl (by omega) (by first | decide | omega) ?_
        refine wq_top (congrArg nI (rf_kp _ (by omega))) ?_
        refine wq_iret rfl ?_
        exact ansQ (K _ (lo_R (fr_refl xR σ)) (mi_k hMR hMT (fr_refl xR σ) (fg_refl yC g) hM)) (by simp only [F_visit, ei, ew, od_s, od_n, od_c] <;> first | rfl | simp [od_c])
  · skip
    refine wq_zne rfl (by first | omega | decide | exact Nat.lt_of_le_of_lt Nat.and_le_right (by decide) | exact ⟨by omega, by omega⟩) (fun c => absurd c (by omega)) (fun c3 => ?_)
    refine wq_go rfl (fun _ => rfl) ?_
    refine wq_iret rfl ?_
    exact ansQ (K _ (lo_R (fr_refl xR σ)) (mi_k hMR hMT (fr_refl xR σ) (fg_refl yC g) hM)) (by simp only [F_visit, ei, od_s, od_n, od_c] <;> first | rfl | simp [od_c])
theorem mk_tells {n : Nat} {A : Sy} (hn : n < 512) (hA : Aok n A) (a0 a1 a2 a3 : Int32) : MOk ax_cd262 [.int a0, .int a1, .int a2, .int a3] A A (F_tells A a0 a1 a2 a3) := by
  intro xs d σ Q hI K
  obtain ⟨hPok, ⟨hok, hhr72, hzq, hsum⟩, hAH, hAZ, hAn, hAh, hTok, hAl⟩ := hA
  have hP' := hPok
  obtain ⟨hP1, hP2, hP3, hP4, hP5, hP6, hP7, hP8, hPv, hPm, hPo, hPw, hPl⟩ := hP'
  have hok' := hok
  obtain ⟨hot, hoh, hosc, hokp⟩ := hok'
  have hI0 := hI
  obtain ⟨L, g, hM, hMR, hMT⟩ := hI0
  have hN : NwIs σ (AS A) := hMR.1
  have hL2 := md_l2 hM
  show Wq xs (d + 12) ax_cd262 0 [(0, .ref 287), (1, .int a0), (2, .int a1), (3, .int a2), (4, .int a3)] [] σ Q
  refine wq_go rfl (fun _ => rfl) ?_
  refine wq_callS rfl (Nat.le_of_ble_eq_true rfl) rfl (Nat.le_of_ble_eq_true rfl) (Nat.le_of_ble_eq_true rfl) rfl rfl ?_
  refine m_isThought  (fun t lt qt et => ?_) (fun et => ?_)
  · subst qt
    refine wq_zeq rfl (by first | omega | decide | exact Nat.lt_of_le_of_lt Nat.and_le_right (by decide) | exact ⟨by omega, by omega⟩) (fun c => absurd c (by omega)) (fun c2 => ?_)
    refine wq_go rfl (fun _ => rfl) ?_
    refine wq_cN (m := 0) rfl rfl ?_
    refine wq_cN (m := 3) rfl rfl ?_
    refine wq_callS rfl (Nat.le_of_ble_eq_true rfl) rfl (Nat.le_of_ble_eq_true rfl) (Nat.le_of_ble_eq_true rfl) rfl rfl ?_
    refine m_in (n := 4) (by decide) (fun w lw qw ew => ?_) (fun ew => ?_)
    · subst qw
      have ow : w = 0 ∨ w = 1 ∨ w = 2 ∨ w = 3 := by omega
      rcases ow with rfl | rfl | rfl | rfl
      · skip
        refine wq_zeq rfl (by first | omega | decide | exact Nat.lt_of_le_of_lt Nat.and_le_right (by decide) | exact ⟨by omega, by omega⟩) (fun c => absurd c (by omega)) (fun c7 => ?_)
        refine wq_go rfl (fun _ => rfl) ?_
        refine wq_cN (m := 3) rfl rfl ?_
        refine wq_ceq rfl (by first | omega | decide | exact Nat.lt_of_le_of_lt Nat.and_le_right (by decide) | exact ⟨by omega, by omega⟩) (by first | omega | decide | exact Nat.lt_of_le_of_lt Nat.and_le_right (by decide) | exact ⟨by omega, by omega⟩) (fun c => absurd c (by omega)) (fun c10 => ?_)
        refine wq_go rfl (fun _ => rfl) ?_
        refine wq_go rfl (fun _ => rfl) ?_
        refine wq_callV rfl rfl (by first | rfl | assumption) (by first | decide | omega | assumption) (Nat.le_of_ble_eq_true rfl) (Nat.le_of_ble_eq_true rfl) rfl rfl ?_
        refine m_isChair hM (fun c lc qc ec => ?_) (fun ec => ?_)
        · subst qc
          refine wq_zeq rfl (by first | omega | decide | exact Nat.lt_of_le_of_lt Nat.and_le_right (by decide) | exact ⟨by omega, by omega⟩) (fun c => absurd c (by omega)) (fun c14 => ?_)
          refine wq_go rfl (fun _ => rfl) ?_
          refine wq_cN (m := 2) rfl rfl ?_
          refine wq_ceq rfl (by first | omega | decide | exact Nat.lt_of_le_of_lt Nat.and_le_right (by decide) | exact ⟨by omega, by omega⟩) (by first | omega | decide | exact Nat.lt_of_le_of_lt Nat.and_le_right (by decide) | exact ⟨by omega, by omega⟩) (fun c => absurd c (by omega)) (fun c17 => ?_)
          refine wq_go rfl (fun _ => rfl) ?_
          refine wq_go rfl (fun _ => rfl) ?_
          refine wq_callV rfl rfl (by first | rfl | assumption) (by first | decide | omega | assumption) (Nat.le_of_ble_eq_true rfl) (Nat.le_of_ble_eq_true rfl) rfl rfl ?_
          refine m_isHead hM (fun h lh qh eh => ?_) (fun eh => ?_)
          · subst qh
            refine wq_zne rfl (by first | omega | decide | exact Nat.lt_of_le_of_lt Nat.and_le_right (by decide) | exact ⟨by omega, by omega⟩) (fun c21 => ?_) (fun c => absurd (show _ from by omega) c)
            refine wq_go rfl (fun _ => rfl) ?_
            refine wq_callV rfl rfl (by first | rfl | assumption) (by first | decide | omega | assumption) (Nat.le_of_ble_eq_true rfl) (Nat.le_of_ble_eq_true rfl) rfl rfl ?_
            refine m_copies hM hN (fun σ9 g9 F9 G9 s9 t9 M9 R9 => ?_)
            have W9 : NwIs σ9 (AS A) := (F9 322 rfl).trans hN
            refine wq_go rfl (fun _ => rfl) ?_
            refine wq_zne rfl (by first | omega | decide | exact Nat.lt_of_le_of_lt Nat.and_le_right (by decide) | exact ⟨by omega, by omega⟩) (fun c => absurd c (by omega)) (fun c27 => ?_)
            refine wq_go rfl (fun _ => rfl) ?_
            refine wq_go rfl (fun _ => rfl) ?_
            refine wq_go rfl (fun _ => rfl) ?_
            refine wq_go rfl (fun _ => rfl) ?_
            refine wq_callV rfl rfl (by first | rfl | assumption) (by first | decide | omega | assumption) (Nat.le_of_ble_eq_true rfl) (Nat.le_of_ble_eq_true rfl) rfl rfl ?_
            refine m_kept M9 hok R9 (by omega) (by omega) (by omega) (fun σ10 g10 F10 G10 M10 => ?_)
            have W10 : NwIs σ10 (AS A) := (F10 322 rfl).trans W9
            refine wq_go rfl (fun _ => rfl) ?_
            refine wq_iret rfl ?_
            exact ansQ (K _ (lo_R (fr_trans (fr_trans (fr_refl xR σ) (fr_mono F9 xC_R)) (fr_mono F10 xVR))) (mi_k hMR hMT (fr_trans (fr_trans (fr_refl xR σ) (fr_mono F9 xC_R)) (fr_mono F10 xVR)) (fg_trans (fg_trans (fg_refl yC g) G9) (fg_mono G10 yB_C)) M10)) (by simp only [F_tells, et, ew, ec, eh, od_s, od_n, od_c] <;> first | rfl | simp [od_c])
          · skip
            refine wq_zne rfl (by first | omega | decide | exact Nat.lt_of_le_of_lt Nat.and_le_right (by decide) | exact ⟨by omega, by omega⟩) (fun c => absurd c (by omega)) (fun c21 => ?_)
            refine wq_go rfl (fun _ => rfl) ?_
            refine wq_iret rfl ?_
            exact ansQ (K _ (lo_R (fr_refl xR σ)) (mi_k hMR hMT (fr_refl xR σ) (fg_refl yC g) hM)) (by simp only [F_tells, et, ew, ec, eh, od_s, od_n, od_c] <;> first | rfl | simp [od_c])
        · skip
          refine wq_zeq rfl (by first | omega | decide | exact Nat.lt_of_le_of_lt Nat.and_le_right (by decide) | exact ⟨by omega, by omega⟩) (fun c14 => ?_) (fun c => absurd (show _ from by omega) c)
          refine wq_go rfl (fun _ => rfl) ?_
          refine wq_iret rfl ?_
          exact ansQ (K _ (lo_R (fr_refl xR σ)) (mi_k hMR hMT (fr_refl xR σ) (fg_refl yC g) hM)) (by simp only [F_tells, et, ew, ec, od_s, od_n, od_c] <;> first | rfl | simp [od_c])
      · skip
        refine wq_zeq rfl (by first | omega | decide | exact Nat.lt_of_le_of_lt Nat.and_le_right (by decide) | exact ⟨by omega, by omega⟩) (fun c => absurd c (by omega)) (fun c7 => ?_)
        refine wq_go rfl (fun _ => rfl) ?_
        refine wq_cN (m := 3) rfl rfl ?_
        refine wq_ceq rfl (by first | omega | decide | exact Nat.lt_of_le_of_lt Nat.and_le_right (by decide) | exact ⟨by omega, by omega⟩) (by first | omega | decide | exact Nat.lt_of_le_of_lt Nat.and_le_right (by decide) | exact ⟨by omega, by omega⟩) (fun c => absurd c (by omega)) (fun c10 => ?_)
        refine wq_go rfl (fun _ => rfl) ?_
        refine wq_go rfl (fun _ => rfl) ?_
        refine wq_callV rfl rfl (by first | rfl | assumption) (by first | decide | omega | assumption) (Nat.le_of_ble_eq_true rfl) (Nat.le_of_ble_eq_true rfl) rfl rfl ?_
        refine m_isChair hM (fun c lc qc ec => ?_) (fun ec => ?_)
        · subst qc
          refine wq_zeq rfl (by first | omega | decide | exact Nat.lt_of_le_of_lt Nat.and_le_right (by decide) | exact ⟨by omega, by omega⟩) (fun c => absurd c (by omega)) (fun c14 => ?_)
          refine wq_go rfl (fun _ => rfl) ?_
          refine wq_cN (m := 2) rfl rfl ?_
          refine wq_ceq rfl (by first | omega | decide | exact Nat.lt_of_le_of_lt Nat.and_le_right (by decide) | exact ⟨by omega, by omega⟩) (by first | omega | decide | exact Nat.lt_of_le_of_lt Nat.and_le_right (by decide) | exact ⟨by omega, by omega⟩) (fun c => absurd c (by omega)) (fun c17 => ?_)
          refine wq_go rfl (fun _ => rfl) ?_
          refine wq_go rfl (fun _ => rfl) ?_
          refine wq_callV rfl rfl (by first | rfl | assumption) (by first | decide | omega | assumption) (Nat.le_of_ble_eq_true rfl) (Nat.le_of_ble_eq_true rfl) rfl rfl ?_
          refine m_isHead hM (fun h lh qh eh => ?_) (fun eh => ?_)
          · subst qh
            refine wq_zne rfl (by first | omega | decide | exact Nat.lt_of_le_of_lt Nat.and_le_right (by decide) | exact ⟨by omega, by omega⟩) (fun c21 => ?_) (fun c => absurd (show _ from by omega) c)
            refine wq_go rfl (fun _ => rfl) ?_
            refine wq_callV rfl rfl (by first | rfl | assumption) (by first | decide | omega | assumption) (Nat.le_of_ble_eq_true rfl) (Nat.le_of_ble_eq_true rfl) rfl rfl ?_
            refine m_copies hM hN (fun σ13 g13 F13 G13 s13 t13 M13 R13 => ?_)
            have W13 : NwIs σ13 (AS A) := (F13 322 rfl).trans hN
            refine wq_go rfl (fun _ => rfl) ?_
            refine wq_zne rfl (by first | omega | decide | exact Nat.lt_of_le_of_lt Nat.and_le_right (by decide) | exact ⟨by omega, by omega⟩) (fun c27 => ?_) (fun c => absurd (show _ from by omega) c)
            refine wq_go rfl (fun _ => rfl) ?_
            refine wq_cN (m := 1) rfl rfl ?_
            refine wq_cne rfl (by first | omega | decide | exact Nat.lt_of_le_of_lt Nat.and_le_right (by decide) | exact ⟨by omega, by omega⟩) (by first | omega | decide | exact Nat.lt_of_le_of_lt Nat.and_le_right (by decide) | exact ⟨by omega, by omega⟩) (fun c => absurd c (by omega)) (fun c36 => ?_)
            refine wq_go rfl (fun _ => rfl) ?_
            refine wq_go rfl (fun _ => rfl) ?_
            refine wq_go rfl (fun _ => rfl) ?_
            refine wq_go rfl (fun _ => rfl) ?_
            refine wq_callV rfl rfl (by first | rfl | assumption) (by first | decide | omega | assumption) (Nat.le_of_ble_eq_true rfl) (Nat.le_of_ble_eq_true rfl) rfl rfl ?_
            refine m_passed M13 hok R13 (by omega) (by omega) (by omega) (fun σ14 g14 F14 G14 M14 => ?_)
            have W14 : NwIs σ14 (AS A) := (F14 322 rfl).trans W13
            refine wq_go rfl (fun _ => rfl) ?_
            refine wq_iret rfl ?_
            exact ansQ (K _ (lo_R (fr_trans (fr_trans (fr_refl xR σ) (fr_mono F13 xC_R)) (fr_mono F14 xVR))) (mi_k hMR hMT (fr_trans (fr_trans (fr_refl xR σ) (fr_mono F13 xC_R)) (fr_mono F14 xVR)) (fg_trans (fg_trans (fg_refl yC g) G13) (fg_mono G14 yB_C)) M14)) (by simp only [F_tells, et, ew, ec, eh, od_s, od_n, od_c] <;> first | rfl | simp [od_c])
          · skip
            refine wq_zne rfl (by first | omega | decide | exact Nat.lt_of_le_of_lt Nat.and_le_right (by decide) | exact ⟨by omega, by omega⟩) (fun c => absurd c (by omega)) (fun c21 => ?_)
            refine wq_go rfl (fun _ => rfl) ?_
            refine wq_iret rfl ?_
            exact ansQ (K _ (lo_R (fr_refl xR σ)) (mi_k hMR hMT (fr_refl xR σ) (fg_refl yC g) hM)) (by simp only [F_tells, et, ew, ec, eh, od_s, od_n, od_c] <;> first | rfl | simp [od_c])
        · skip
          refine wq_zeq rfl (by first | omega | decide | exact Nat.lt_of_le_of_lt Nat.and_le_right (by decide) | exact ⟨by omega, by omega⟩) (fun c14 => ?_) (fun c => absurd (show _ from by omega) c)
          refine wq_go rfl (fun _ => rfl) ?_
          refine wq_iret rfl ?_
          exact ansQ (K _ (lo_R (fr_refl xR σ)) (mi_k hMR hMT (fr_refl xR σ) (fg_refl yC g) hM)) (by simp only [F_tells, et, ew, ec, od_s, od_n, od_c] <;> first | rfl | simp [od_c])
      · skip
        refine wq_zeq rfl (by first | omega | decide | exact Nat.lt_of_le_of_lt Nat.and_le_right (by decide) | exact ⟨by omega, by omega⟩) (fun c => absurd c (by omega)) (fun c7 => ?_)
        refine wq_go rfl (fun _ => rfl) ?_
        refine wq_cN (m := 3) rfl rfl ?_
        refine wq_ceq rfl (by first | omega | decide | exact Nat.lt_of_le_of_lt Nat.and_le_right (by decide) | exact ⟨by omega, by omega⟩) (by first | omega | decide | exact Nat.lt_of_le_of_lt Nat.and_le_right (by decide) | exact ⟨by omega, by omega⟩) (fun c => absurd c (by omega)) (fun c10 => ?_)
        refine wq_go rfl (fun _ => rfl) ?_
        refine wq_go rfl (fun _ => rfl) ?_
        refine wq_callV rfl rfl (by first | rfl | assumption) (by first | decide | omega | assumption) (Nat.le_of_ble_eq_true rfl) (Nat.le_of_ble_eq_true rfl) rfl rfl ?_
        refine m_isChair hM (fun c lc qc ec => ?_) (fun ec => ?_)
        · subst qc
          refine wq_zeq rfl (by first | omega | decide | exact Nat.lt_of_le_of_lt Nat.and_le_right (by decide) | exact ⟨by omega, by omega⟩) (fun c => absurd c (by omega)) (fun c14 => ?_)
          refine wq_go rfl (fun _ => rfl) ?_
          refine wq_cN (m := 2) rfl rfl ?_
          refine wq_ceq rfl (by first | omega | decide | exact Nat.lt_of_le_of_lt Nat.and_le_right (by decide) | exact ⟨by omega, by omega⟩) (by first | omega | decide | exact Nat.lt_of_le_of_lt Nat.and_le_right (by decide) | exact ⟨by omega, by omega⟩) (fun c17 => ?_) (fun c => absurd (show _ from by omega) c)
          refine wq_go rfl (fun _ => rfl) ?_
          refine wq_callV rfl rfl (by first | rfl | assumption) (by first | decide | omega | assumption) (Nat.le_of_ble_eq_true rfl) (Nat.le_of_ble_eq_true rfl) rfl rfl ?_
          refine m_copies hM hN (fun σ16 g16 F16 G16 s16 t16 M16 R16 => ?_)
          have W16 : NwIs σ16 (AS A) := (F16 322 rfl).trans hN
          refine wq_go rfl (fun _ => rfl) ?_
          refine wq_zne rfl (by first | omega | decide | exact Nat.lt_of_le_of_lt Nat.and_le_right (by decide) | exact ⟨by omega, by omega⟩) (fun c27 => ?_) (fun c => absurd (show _ from by omega) c)
          refine wq_go rfl (fun _ => rfl) ?_
          refine wq_cN (m := 1) rfl rfl ?_
          refine wq_cne rfl (by first | omega | decide | exact Nat.lt_of_le_of_lt Nat.and_le_right (by decide) | exact ⟨by omega, by omega⟩) (by first | omega | decide | exact Nat.lt_of_le_of_lt Nat.and_le_right (by decide) | exact ⟨by omega, by omega⟩) (fun c36 => ?_) (fun c => absurd (show _ from by omega) c)
          refine wq_go rfl (fun _ => rfl) ?_
          refine wq_cN (m := 2) rfl rfl ?_
          refine wq_cne rfl (by first | omega | decide | exact Nat.lt_of_le_of_lt Nat.and_le_right (by decide) | exact ⟨by omega, by omega⟩) (by first | omega | decide | exact Nat.lt_of_le_of_lt Nat.and_le_right (by decide) | exact ⟨by omega, by omega⟩) (fun c => absurd c (by omega)) (fun c45 => ?_)
          refine wq_go rfl (fun _ => rfl) ?_
          refine wq_go rfl (fun _ => rfl) ?_
          refine wq_go rfl (fun _ => rfl) ?_
          refine wq_callV rfl rfl (by first | rfl | assumption) (by first | decide | omega | assumption) (Nat.le_of_ble_eq_true rfl) (Nat.le_of_ble_eq_true rfl) rfl rfl ?_
          refine m_washed M16 hok R16 (by omega) (by omega) (fun σ17 g17 F17 G17 M17 => ?_)
          have W17 : NwIs σ17 (AS A) := (F17 322 rfl).trans W16
          refine wq_go rfl (fun _ => rfl) ?_
          refine wq_iret rfl ?_
          exact ansQ (K _ (lo_R (fr_trans (fr_trans (fr_refl xR σ) (fr_mono F16 xC_R)) (fr_mono F17 xVR))) (mi_k hMR hMT (fr_trans (fr_trans (fr_refl xR σ) (fr_mono F16 xC_R)) (fr_mono F17 xVR)) (fg_trans (fg_trans (fg_refl yC g) G16) (fg_mono G17 yB_C)) M17)) (by simp only [F_tells, et, ew, ec, od_s, od_n, od_c] <;> first | rfl | simp [od_c])
        · skip
          refine wq_zeq rfl (by first | omega | decide | exact Nat.lt_of_le_of_lt Nat.and_le_right (by decide) | exact ⟨by omega, by omega⟩) (fun c14 => ?_) (fun c => absurd (show _ from by omega) c)
          refine wq_go rfl (fun _ => rfl) ?_
          refine wq_iret rfl ?_
          exact ansQ (K _ (lo_R (fr_refl xR σ)) (mi_k hMR hMT (fr_refl xR σ) (fg_refl yC g) hM)) (by simp only [F_tells, et, ew, ec, od_s, od_n, od_c] <;> first | rfl | simp [od_c])
      · skip
        refine wq_zeq rfl (by first | omega | decide | exact Nat.lt_of_le_of_lt Nat.and_le_right (by decide) | exact ⟨by omega, by omega⟩) (fun c => absurd c (by omega)) (fun c7 => ?_)
        refine wq_go rfl (fun _ => rfl) ?_
        refine wq_cN (m := 3) rfl rfl ?_
        refine wq_ceq rfl (by first | omega | decide | exact Nat.lt_of_le_of_lt Nat.and_le_right (by decide) | exact ⟨by omega, by omega⟩) (by first | omega | decide | exact Nat.lt_of_le_of_lt Nat.and_le_right (by decide) | exact ⟨by omega, by omega⟩) (fun c10 => ?_) (fun c => absurd (show _ from by omega) c)
        refine wq_go rfl (fun _ => rfl) ?_
        refine wq_cN (m := 2) rfl rfl ?_
        refine wq_ceq rfl (by first | omega | decide | exact Nat.lt_of_le_of_lt Nat.and_le_right (by decide) | exact ⟨by omega, by omega⟩) (by first | omega | decide | exact Nat.lt_of_le_of_lt Nat.and_le_right (by decide) | exact ⟨by omega, by omega⟩) (fun c => absurd c (by omega)) (fun c17 => ?_)
        refine wq_go rfl (fun _ => rfl) ?_
        refine wq_go rfl (fun _ => rfl) ?_
        refine wq_callV rfl rfl (by first | rfl | assumption) (by first | decide | omega | assumption) (Nat.le_of_ble_eq_true rfl) (Nat.le_of_ble_eq_true rfl) rfl rfl ?_
        refine m_isHead hM (fun h lh qh eh => ?_) (fun eh => ?_)
        · subst qh
          refine wq_zne rfl (by first | omega | decide | exact Nat.lt_of_le_of_lt Nat.and_le_right (by decide) | exact ⟨by omega, by omega⟩) (fun c21 => ?_) (fun c => absurd (show _ from by omega) c)
          refine wq_go rfl (fun _ => rfl) ?_
          refine wq_callV rfl rfl (by first | rfl | assumption) (by first | decide | omega | assumption) (Nat.le_of_ble_eq_true rfl) (Nat.le_of_ble_eq_true rfl) rfl rfl ?_
          refine m_copies hM hN (fun σ19 g19 F19 G19 s19 t19 M19 R19 => ?_)
          have W19 : NwIs σ19 (AS A) := (F19 322 rfl).trans hN
          refine wq_go rfl (fun _ => rfl) ?_
          refine wq_zne rfl (by first | omega | decide | exact Nat.lt_of_le_of_lt Nat.and_le_right (by decide) | exact ⟨by omega, by omega⟩) (fun c27 => ?_) (fun c => absurd (show _ from by omega) c)
          refine wq_go rfl (fun _ => rfl) ?_
          refine wq_cN (m := 1) rfl rfl ?_
          refine wq_cne rfl (by first | omega | decide | exact Nat.lt_of_le_of_lt Nat.and_le_right (by decide) | exact ⟨by omega, by omega⟩) (by first | omega | decide | exact Nat.lt_of_le_of_lt Nat.and_le_right (by decide) | exact ⟨by omega, by omega⟩) (fun c36 => ?_) (fun c => absurd (show _ from by omega) c)
          refine wq_go rfl (fun _ => rfl) ?_
          refine wq_cN (m := 2) rfl rfl ?_
          refine wq_cne rfl (by first | omega | decide | exact Nat.lt_of_le_of_lt Nat.and_le_right (by decide) | exact ⟨by omega, by omega⟩) (by first | omega | decide | exact Nat.lt_of_le_of_lt Nat.and_le_right (by decide) | exact ⟨by omega, by omega⟩) (fun c45 => ?_) (fun c => absurd (show _ from by omega) c)
          refine wq_go rfl (fun _ => rfl) ?_
          refine wq_go rfl (fun _ => rfl) ?_
          refine wq_go rfl (fun _ => rfl) ?_
          refine wq_callV rfl rfl (by first | rfl | assumption) (by first | decide | omega | assumption) (Nat.le_of_ble_eq_true rfl) (Nat.le_of_ble_eq_true rfl) rfl rfl ?_
          refine m_faded M19 hok R19 (by omega) (by omega) (fun σ20 g20 F20 G20 M20 => ?_)
          have W20 : NwIs σ20 (AS A) := (F20 322 rfl).trans W19
          refine wq_iret rfl ?_
          exact ansQ (K _ (lo_R (fr_trans (fr_trans (fr_refl xR σ) (fr_mono F19 xC_R)) (fr_mono F20 xVR))) (mi_k hMR hMT (fr_trans (fr_trans (fr_refl xR σ) (fr_mono F19 xC_R)) (fr_mono F20 xVR)) (fg_trans (fg_trans (fg_refl yC g) G19) (fg_mono G20 yB_C)) M20)) (by simp only [F_tells, et, ew, eh, od_s, od_n, od_c] <;> first | rfl | simp [od_c])
        · skip
          refine wq_zne rfl (by first | omega | decide | exact Nat.lt_of_le_of_lt Nat.and_le_right (by decide) | exact ⟨by omega, by omega⟩) (fun c => absurd c (by omega)) (fun c21 => ?_)
          refine wq_go rfl (fun _ => rfl) ?_
          refine wq_iret rfl ?_
          exact ansQ (K _ (lo_R (fr_refl xR σ)) (mi_k hMR hMT (fr_refl xR σ) (fg_refl yC g) hM)) (by simp only [F_tells, et, ew, eh, od_s, od_n, od_c] <;> first | rfl | simp [od_c])
    · skip
      refine wq_zeq rfl (by first | omega | decide | exact Nat.lt_of_le_of_lt Nat.and_le_right (by decide) | exact ⟨by omega, by omega⟩) (fun c7 => ?_) (fun c => absurd (show _ from by omega) c)
      refine wq_go rfl (fun _ => rfl) ?_
      refine wq_iret rfl ?_
      exact ansQ (K _ (lo_R (fr_refl xR σ)) (mi_k hMR hMT (fr_refl xR σ) (fg_refl yC g) hM)) (by simp only [F_tells, et, ew, od_s, od_n, od_c] <;> first | rfl | simp [od_c])
  · skip
    refine wq_zeq rfl (by first | omega | decide | exact Nat.lt_of_le_of_lt Nat.and_le_right (by decide) | exact ⟨by omega, by omega⟩) (fun c2 => ?_) (fun c => absurd (show _ from by omega) c)
    refine wq_go rfl (fun _ => rfl) ?_
    refine wq_iret rfl ?_
    exact ansQ (K _ (lo_R (fr_refl xR σ)) (mi_k hMR hMT (fr_refl xR σ) (fg_refl yC g) hM)) (by simp only [F_tells, et, od_s, od_n, od_c] <;> first | rfl | simp [od_c])
theorem mk_alone {n : Nat} {A : Sy} (hn : n < 512) (hA : Aok n A) (a0 a1 a2 : Int32) : MOk ax_cd297 [.int a0, .int a1, .int a2] A A (F_alone A a0 a1 a2) := by
  intro xs d σ Q hI K
  obtain ⟨hPok, ⟨hok, hhr72, hzq, hsum⟩, hAH, hAZ, hAn, hAh, hTok, hAl⟩ := hA
  have hP' := hPok
  obtain ⟨hP1, hP2, hP3, hP4, hP5, hP6, hP7, hP8, hPv, hPm, hPo, hPw, hPl⟩ := hP'
  have hok' := hok
  obtain ⟨hot, hoh, hosc, hokp⟩ := hok'
  have hI0 := hI
  obtain ⟨L, g, hM, hMR, hMT⟩ := hI0
  have hN : NwIs σ (AS A) := hMR.1
  have hL2 := md_l2 hM
  show Wq xs (d + 12) ax_cd297 0 [(0, .ref 287), (1, .int a0), (2, .int a1), (3, .int a2)] [] σ Q
  refine wq_go rfl (fun _ => rfl) ?_
  refine wq_go rfl (fun _ => rfl) ?_
  refine wq_callV rfl rfl (by first | rfl | assumption) (by first | decide | omega | assumption) (Nat.le_of_ble_eq_true rfl) (Nat.le_of_ble_eq_true rfl) rfl rfl ?_
  refine m_isHead hM (fun h lh qh eh => ?_) (fun eh => ?_)
  · subst qh
    refine wq_zeq rfl (by first | omega | decide | exact Nat.lt_of_le_of_lt Nat.and_le_right (by decide) | exact ⟨by omega, by omega⟩) (fun c => absurd c (by omega)) (fun c3 => ?_)
    refine wq_go rfl (fun _ => rfl) ?_
    refine wq_go rfl (fun _ => rfl) ?_
    refine wq_callV rfl rfl (by first | rfl | assumption) (by first | decide | omega | assumption) (Nat.le_of_ble_eq_true rfl) (Nat.le_of_ble_eq_true rfl) rfl rfl ?_
    refine m_isChair hM (fun c lc qc ec => ?_) (fun ec => ?_)
    · subst qc
      refine wq_zeq rfl (by first | omega | decide | exact Nat.lt_of_le_of_lt Nat.and_le_right (by decide) | exact ⟨by omega, by omega⟩) (fun c => absurd c (by omega)) (fun c7 => ?_)
      refine wq_go rfl (fun _ => rfl) ?_
      refine wq_callS rfl (Nat.le_of_ble_eq_true rfl) rfl (Nat.le_of_ble_eq_true rfl) (Nat.le_of_ble_eq_true rfl) rfl rfl ?_
      refine m_isThought  (fun t lt qt et => ?_) (fun et => ?_)
      · subst qt
        refine wq_zne rfl (by first | omega | decide | exact Nat.lt_of_le_of_lt Nat.and_le_right (by decide) | exact ⟨by omega, by omega⟩) (fun c10 => ?_) (fun c => absurd (show _ from by omega) c)
        refine wq_go rfl (fun _ => rfl) ?_
        refine wq_callV rfl rfl (by first | rfl | assumption) (by first | decide | omega | assumption) (Nat.le_of_ble_eq_true rfl) (Nat.le_of_ble_eq_true rfl) rfl rfl ?_
        refine m_copies hM hN (fun σ8 g8 F8 G8 s8 t8 M8 R8 => ?_)
        have W8 : NwIs σ8 (AS A) := (F8 322 rfl).trans hN
        refine wq_cN (m := 0) rfl rfl ?_
        refine wq_go rfl (fun _ => rfl) ?_
        exact wq_lv ⟨(by decide : ([4, 0, 1, 2, 3] : List Nat).Nodup), (lvm (List.mem_of_getElem? (i := 0) rfl) (lvm (List.mem_of_getElem? (i := 1) rfl) (lvm (List.mem_of_getElem? (i := 2) rfl) (lvm (List.mem_of_getElem? (i := 3) rfl) (lvm (List.mem_of_getElem? (i := 4) rfl) lvn)))))⟩ (m_alone_l hL2 hPok hok lh lc lt (fun σ9 g9 F9 G9 M9 => ansQ (K _ (lo_R (fr_trans (fr_trans (fr_refl xR σ) (fr_mono F8 xC_R)) F9)) (mi_k hMR hMT (fr_trans (fr_trans (fr_refl xR σ) (fr_mono F8 xC_R)) F9) (fg_trans (fg_trans (fg_refl yC g) G8) (fg_mono G9 yB_C)) M9)) (by simp only [F_alone, eh, ec, et, od_s, od_n, od_c] <;> first | rfl)) 61 0 rfl _ _ (fr_refl _ _) (fg_refl _ _) M8 R8 rfl)
      · skip
        refine wq_zne rfl (by first | omega | decide | exact Nat.lt_of_le_of_lt Nat.and_le_right (by decide) | exact ⟨by omega, by omega⟩) (fun c => absurd c (by omega)) (fun c10 => ?_)
        refine wq_go rfl (fun _ => rfl) ?_
        refine wq_iret rfl ?_
        exact ansQ (K _ (lo_R (fr_refl xR σ)) (mi_k hMR hMT (fr_refl xR σ) (fg_refl yC g) hM)) (by simp only [F_alone, eh, ec, et, od_s, od_n, od_c] <;> first | rfl | simp [od_c])
    · skip
      refine wq_zeq rfl (by first | omega | decide | exact Nat.lt_of_le_of_lt Nat.and_le_right (by decide) | exact ⟨by omega, by omega⟩) (fun c7 => ?_) (fun c => absurd (show _ from by omega) c)
      refine wq_go rfl (fun _ => rfl) ?_
      refine wq_iret rfl ?_
      exact ansQ (K _ (lo_R (fr_refl xR σ)) (mi_k hMR hMT (fr_refl xR σ) (fg_refl yC g) hM)) (by simp only [F_alone, eh, ec, od_s, od_n, od_c] <;> first | rfl | simp [od_c])
  · skip
    refine wq_zeq rfl (by first | omega | decide | exact Nat.lt_of_le_of_lt Nat.and_le_right (by decide) | exact ⟨by omega, by omega⟩) (fun c3 => ?_) (fun c => absurd (show _ from by omega) c)
    refine wq_go rfl (fun _ => rfl) ?_
    refine wq_iret rfl ?_
    exact ansQ (K _ (lo_R (fr_refl xR σ)) (mi_k hMR hMT (fr_refl xR σ) (fg_refl yC g) hM)) (by simp only [F_alone, eh, od_s, od_n, od_c] <;> first | rfl | simp [od_c])
theorem mk_gain {n : Nat} {A : Sy} (hn : n < 512) (hA : Aok n A) (a0 a1 a2 : Int32) : MOk ax_cd298 [.int a0, .int a1, .int a2] A A (F_gain A a0 a1 a2) := by
  intro xs d σ Q hI K
  obtain ⟨hPok, ⟨hok, hhr72, hzq, hsum⟩, hAH, hAZ, hAn, hAh, hTok, hAl⟩ := hA
  have hP' := hPok
  obtain ⟨hP1, hP2, hP3, hP4, hP5, hP6, hP7, hP8, hPv, hPm, hPo, hPw, hPl⟩ := hP'
  have hok' := hok
  obtain ⟨hot, hoh, hosc, hokp⟩ := hok'
  have hI0 := hI
  obtain ⟨L, g, hM, hMR, hMT⟩ := hI0
  have hN : NwIs σ (AS A) := hMR.1
  have hL2 := md_l2 hM
  show Wq xs (d + 12) ax_cd298 0 [(0, .ref 287), (1, .int a0), (2, .int a1), (3, .int a2)] [] σ Q
  refine wq_go rfl (fun _ => rfl) ?_
  refine wq_go rfl (fun _ => rfl) ?_
  refine wq_callV rfl rfl (by first | rfl | assumption) (by first | decide | omega | assumption) (Nat.le_of_ble_eq_true rfl) (Nat.le_of_ble_eq_true rfl) rfl rfl ?_
  refine m_isHead hM (fun h lh qh eh => ?_) (fun eh => ?_)
  · subst qh
    refine wq_zeq rfl (by first | omega | decide | exact Nat.lt_of_le_of_lt Nat.and_le_right (by decide) | exact ⟨by omega, by omega⟩) (fun c => absurd c (by omega)) (fun c3 => ?_)
    refine wq_go rfl (fun _ => rfl) ?_
    refine wq_go rfl (fun _ => rfl) ?_
    refine wq_callV rfl rfl (by first | rfl | assumption) (by first | decide | omega | assumption) (Nat.le_of_ble_eq_true rfl) (Nat.le_of_ble_eq_true rfl) rfl rfl ?_
    refine m_isChair hM (fun c lc qc ec => ?_) (fun ec => ?_)
    · subst qc
      refine wq_zeq rfl (by first | omega | decide | exact Nat.lt_of_le_of_lt Nat.and_le_right (by decide) | exact ⟨by omega, by omega⟩) (fun c => absurd c (by omega)) (fun c7 => ?_)
      refine wq_go rfl (fun _ => rfl) ?_
      refine wq_callS rfl (Nat.le_of_ble_eq_true rfl) rfl (Nat.le_of_ble_eq_true rfl) (Nat.le_of_ble_eq_true rfl) rfl rfl ?_
      refine m_isThought  (fun t lt qt et => ?_) (fun et => ?_)
      · subst qt
        refine wq_zeq rfl (by first | omega | decide | exact Nat.lt_of_le_of_lt Nat.and_le_right (by decide) | exact ⟨by omega, by omega⟩) (fun c => absurd c (by omega)) (fun c10 => ?_)
        refine wq_go rfl (fun _ => rfl) ?_
        refine wq_go rfl (fun _ => rfl) ?_
        refine wq_go rfl (fun _ => rfl) ?_
        refine wq_go rfl (fun _ => rfl) ?_
        refine wq_callV rfl rfl (by first | rfl | assumption) (by first | decide | omega | assumption) (Nat.le_of_ble_eq_true rfl) (Nat.le_of_ble_eq_true rfl) rfl rfl ?_
        refine m_gainOf hM hok hN lh lc lt (fun σ8 g8 F8 G8 M8 => ?_)
        have W8 : NwIs σ8 (AS A) := (F8 322 rfl).trans hN
        refine wq_go rfl (fun _ => rfl) ?_
        refine wq_iret rfl ?_
        exact ansQ (K _ (lo_R (fr_trans (fr_refl xR σ) F8)) (mi_k hMR hMT (fr_trans (fr_refl xR σ) F8) (fg_trans (fg_refl yC g) G8) M8)) (by simp only [F_gain, eh, ec, et, od_s, od_n, od_c] <;> first | rfl | simp [od_c])
      · skip
        refine wq_zeq rfl (by first | omega | decide | exact Nat.lt_of_le_of_lt Nat.and_le_right (by decide) | exact ⟨by omega, by omega⟩) (fun c10 => ?_) (fun c => absurd (show _ from by omega) c)
        refine wq_go rfl (fun _ => rfl) ?_
        refine wq_iret rfl ?_
        exact ansQ (K _ (lo_R (fr_refl xR σ)) (mi_k hMR hMT (fr_refl xR σ) (fg_refl yC g) hM)) (by simp only [F_gain, eh, ec, et, od_s, od_n, od_c] <;> first | rfl | simp [od_c])
    · skip
      refine wq_zeq rfl (by first | omega | decide | exact Nat.lt_of_le_of_lt Nat.and_le_right (by decide) | exact ⟨by omega, by omega⟩) (fun c7 => ?_) (fun c => absurd (show _ from by omega) c)
      refine wq_go rfl (fun _ => rfl) ?_
      refine wq_iret rfl ?_
      exact ansQ (K _ (lo_R (fr_refl xR σ)) (mi_k hMR hMT (fr_refl xR σ) (fg_refl yC g) hM)) (by simp only [F_gain, eh, ec, od_s, od_n, od_c] <;> first | rfl | simp [od_c])
  · skip
    refine wq_zeq rfl (by first | omega | decide | exact Nat.lt_of_le_of_lt Nat.and_le_right (by decide) | exact ⟨by omega, by omega⟩) (fun c3 => ?_) (fun c => absurd (show _ from by omega) c)
    refine wq_go rfl (fun _ => rfl) ?_
    refine wq_iret rfl ?_
    exact ansQ (K _ (lo_R (fr_refl xR σ)) (mi_k hMR hMT (fr_refl xR σ) (fg_refl yC g) hM)) (by simp only [F_gain, eh, od_s, od_n, od_c] <;> first | rfl | simp [od_c])
theorem mk_bestChair {n : Nat} {A : Sy} (hn : n < 512) (hA : Aok n A) (a0 a1 : Int32) : MOk ax_cd300 [.int a0, .int a1] A A (F_bestChair A a0 a1) := by
  intro xs d σ Q hI K
  obtain ⟨hPok, ⟨hok, hhr72, hzq, hsum⟩, hAH, hAZ, hAn, hAh, hTok, hAl⟩ := hA
  have hP' := hPok
  obtain ⟨hP1, hP2, hP3, hP4, hP5, hP6, hP7, hP8, hPv, hPm, hPo, hPw, hPl⟩ := hP'
  have hok' := hok
  obtain ⟨hot, hoh, hosc, hokp⟩ := hok'
  have hI0 := hI
  obtain ⟨L, g, hM, hMR, hMT⟩ := hI0
  have hN : NwIs σ (AS A) := hMR.1
  have hL2 := md_l2 hM
  show Wq xs (d + 12) ax_cd300 0 [(0, .ref 287), (1, .int a0), (2, .int a1)] [] σ Q
  refine wq_go rfl (fun _ => rfl) ?_
  refine wq_go rfl (fun _ => rfl) ?_
  refine wq_callV rfl rfl (by first | rfl | assumption) (by first | decide | omega | assumption) (Nat.le_of_ble_eq_true rfl) (Nat.le_of_ble_eq_true rfl) rfl rfl ?_
  refine m_isHead hM (fun h lh qh eh => ?_) (fun eh => ?_)
  · subst qh
    refine wq_zeq rfl (by first | omega | decide | exact Nat.lt_of_le_of_lt Nat.and_le_right (by decide) | exact ⟨by omega, by omega⟩) (fun c => absurd c (by omega)) (fun c3 => ?_)
    refine wq_go rfl (fun _ => rfl) ?_
    refine wq_callS rfl (Nat.le_of_ble_eq_true rfl) rfl (Nat.le_of_ble_eq_true rfl) (Nat.le_of_ble_eq_true rfl) rfl rfl ?_
    refine m_isThought  (fun t lt qt et => ?_) (fun et => ?_)
    · subst qt
      refine wq_zne rfl (by first | omega | decide | exact Nat.lt_of_le_of_lt Nat.and_le_right (by decide) | exact ⟨by omega, by omega⟩) (fun c6 => ?_) (fun c => absurd (show _ from by omega) c)
      refine wq_go rfl (fun _ => rfl) ?_
      refine wq_go rfl (fun _ => rfl) ?_
      refine wq_cN (m := 0) rfl rfl ?_
      refine wq_go rfl (fun _ => rfl) ?_
      exact wq_lv ⟨(by decide : ([4, 3, 0, 1, 2] : List Nat).Nodup), (lvm (List.mem_of_getElem? (i := 0) rfl) (lvm (List.mem_of_getElem? (i := 1) rfl) (lvm (List.mem_of_getElem? (i := 2) rfl) (lvm (List.mem_of_getElem? (i := 3) rfl) (lvm (List.mem_of_getElem? (i := 4) rfl) lvn)))))⟩ (m_best_l hL2 hPok hok lh lt (fun σ9 g9 F9 G9 M9 => ansQ (K _ (lo_R (fr_trans (fr_refl xR σ) F9)) (mi_k hMR hMT (fr_trans (fr_refl xR σ) F9) (fg_trans (fg_refl yC g) G9) M9)) (by simp only [F_bestChair, eh, et, od_s, od_n, od_c] <;> first | rfl)) (Pch (AP A)) 0 rfl σ g (fr_refl _ _) (fg_refl _ _) hM hN)
    · skip
      refine wq_zne rfl (by first | omega | decide | exact Nat.lt_of_le_of_lt Nat.and_le_right (by decide) | exact ⟨by omega, by omega⟩) (fun c => absurd c (by omega)) (fun c6 => ?_)
      refine wq_go rfl (fun _ => rfl) ?_
      refine wq_iret rfl ?_
      exact ansQ (K _ (lo_R (fr_refl xR σ)) (mi_k hMR hMT (fr_refl xR σ) (fg_refl yC g) hM)) (by simp only [F_bestChair, eh, et, od_s, od_n, od_c] <;> first | rfl | simp [od_c])
  · skip
    refine wq_zeq rfl (by first | omega | decide | exact Nat.lt_of_le_of_lt Nat.and_le_right (by decide) | exact ⟨by omega, by omega⟩) (fun c3 => ?_) (fun c => absurd (show _ from by omega) c)
    refine wq_go rfl (fun _ => rfl) ?_
    refine wq_iret rfl ?_
    exact ansQ (K _ (lo_R (fr_refl xR σ)) (mi_k hMR hMT (fr_refl xR σ) (fg_refl yC g) hM)) (by simp only [F_bestChair, eh, od_s, od_n, od_c] <;> first | rfl | simp [od_c])
theorem am_cg {f g : Nat → Int} {n : Nat} (h : ∀ i, i < n → f i = g i) : am f (List.range n) = am g (List.range n) := by
  induction n with
  | zero => rfl
  | succ n ih =>
    rw [List.range_succ, am_snoc, am_snoc, ih (fun i hi => h i (by omega))]
    cases e : am g (List.range n) with
    | none => rfl
    | some b =>
      have hb := am_rlt e
      unfold amst
      simp only
      rw [h b (by omega), h n (by omega)]
theorem mk_most {n : Nat} {A : Sy} (hn : n < 512) (hA : Aok n A) (a0 a1 : Int32) : MOk ax_cd301 [.int a0, .int a1] A A (F_most A a0 a1) := by
  intro xs d σ Q hI K
  obtain ⟨hPok, ⟨hok, hhr72, hzq, hsum⟩, hAH, hAZ, hAn, hAh, hTok, hAl⟩ := hA
  have hP' := hPok
  obtain ⟨hP1, hP2, hP3, hP4, hP5, hP6, hP7, hP8, hPv, hPm, hPo, hPw, hPl⟩ := hP'
  have hok' := hok
  obtain ⟨hot, hoh, hosc, hokp⟩ := hok'
  have hI0 := hI
  obtain ⟨L, g, hM, hMR, hMT⟩ := hI0
  have hN : NwIs σ (AS A) := hMR.1
  have hL2 := md_l2 hM
  show Wq xs (d + 12) ax_cd301 0 [(0, .ref 287), (1, .int a0), (2, .int a1)] [] σ Q
  refine wq_go rfl (fun _ => rfl) ?_
  refine wq_callS rfl (Nat.le_of_ble_eq_true rfl) rfl (Nat.le_of_ble_eq_true rfl) (Nat.le_of_ble_eq_true rfl) rfl rfl ?_
  refine m_isThought  (fun t lt qt et => ?_) (fun et => ?_)
  · subst qt
    refine wq_zeq rfl (by first | omega | decide | exact Nat.lt_of_le_of_lt Nat.and_le_right (by decide) | exact ⟨by omega, by omega⟩) (fun c => absurd c (by omega)) (fun c2 => ?_)
    refine wq_go rfl (fun _ => rfl) ?_
    refine wq_cN (m := 0) rfl rfl ?_
    refine wq_cN (m := 1) rfl rfl ?_
    refine wq_callS rfl (Nat.le_of_ble_eq_true rfl) rfl (Nat.le_of_ble_eq_true rfl) (Nat.le_of_ble_eq_true rfl) rfl rfl ?_
    refine m_in (n := 2) (by decide) (fun w lw qw ew => ?_) (fun ew => ?_)
    · subst qw
      have ow : w = 0 ∨ w = 1 := by omega
      rcases ow with rfl | rfl
      · skip
        refine wq_zne rfl (by first | omega | decide | exact Nat.lt_of_le_of_lt Nat.and_le_right (by decide) | exact ⟨by omega, by omega⟩) (fun c7 => ?_) (fun c => absurd (show _ from by omega) c)
        refine wq_go rfl (fun _ => rfl) ?_
        refine wq_zne rfl (by first | omega | decide | exact Nat.lt_of_le_of_lt Nat.and_le_right (by decide) | exact ⟨by omega, by omega⟩) (fun c => absurd c (by omega)) (fun c11 => ?_)
        refine wq_go rfl (fun _ => rfl) ?_
        refine wq_cN (m := 24) rfl rfl ?_
        refine wq_go rfl (fun _ => rfl) ?_
        refine wq_addN rfl ?_
        refine wq_go rfl (fun _ => rfl) ?_
        refine wq_getf rfl (by first | rfl | assumption) (by first | decide | omega | assumption) (md_o hM) rfl ?_
        refine wq_go rfl (fun _ => rfl) ?_
        refine wq_getf rfl (by first | rfl | assumption) (by first | decide | omega | assumption) (md_o hM) rfl ?_
        refine wq_top (md_l hM) ?_
        refine wq_iald rfl (by first | rfl | assumption) (by first | decide | omega | assumption) (md_c299 hM) rfl (by omega) (by first | decide | omega) ?_
        refine wq_top (md_m299 hM) ?_
        refine wq_callV rfl rfl (by first | rfl | assumption) (by first | decide | omega | assumption) (Nat.le_of_ble_eq_true rfl) (Nat.le_of_ble_eq_true rfl) rfl rfl ?_
        refine m_mostOf hM hN (by omega) (by omega) (fun i hi => by omega) (fun i hi => by rw [show rowF (AS A) (24 + t + 4 * i) = Sow (AS A) (t + i * 4) from by rw [rf_d _ (by omega) (by omega)]; congr 1; omega]; exact ow_le hok (by omega)) ?_
        refine wq_top (congrArg oI (am_cg (fun i hi => by rw [show rowF (AS A) (24 + t + 4 * i) = Sow (AS A) (t + i * 4) from by rw [rf_d _ (by omega) (by omega)]; congr 1; omega]))) ?_
        refine wq_go rfl (fun _ => rfl) ?_
        refine wq_iret rfl ?_
        exact ansQ (K _ (lo_R (fr_refl xR σ)) (mi_k hMR hMT (fr_refl xR σ) (fg_refl yC g) hM)) (by simp only [F_most, et, ew, od_s, od_n, od_c] <;> first | rfl | simp [od_c])
      · skip
        refine wq_zne rfl (by first | omega | decide | exact Nat.lt_of_le_of_lt Nat.and_le_right (by decide) | exact ⟨by omega, by omega⟩) (fun c7 => ?_) (fun c => absurd (show _ from by omega) c)
        refine wq_go rfl (fun _ => rfl) ?_
        refine wq_zne rfl (by first | omega | decide | exact Nat.lt_of_le_of_lt Nat.and_le_right (by decide) | exact ⟨by omega, by omega⟩) (fun c11 => ?_) (fun c => absurd (show _ from by omega) c)
        refine wq_go rfl (fun _ => rfl) ?_
        refine wq_go rfl (fun _ => rfl) ?_
        refine wq_go rfl (fun _ => rfl) ?_
        refine wq_getf rfl (by first | rfl | assumption) (by first | decide | omega | assumption) (md_o hM) rfl ?_
        refine wq_go rfl (fun _ => rfl) ?_
        refine wq_getf rfl (by first | rfl | assumption) (by first | decide | omega | assumption) (md_o hM) rfl ?_
        refine wq_top (md_l hM) ?_
        refine wq_iald rfl (by first | rfl | assumption) (by first | decide | omega | assumption) (md_c297 hM) rfl (by omega) (by first | decide | omega) ?_
        refine wq_top (md_m297 hM) ?_
        refine wq_callV rfl rfl (by first | rfl | assumption) (by first | decide | omega | assumption) (Nat.le_of_ble_eq_true rfl) (Nat.le_of_ble_eq_true rfl) rfl rfl ?_
        refine m_mostOf hM hN (by omega) (by omega) (fun i hi => by omega) (fun i hi => by rw [show rowF (AS A) (t + 4 * i) = Ssq (AS A) (t + i * 4) from by rw [rf_a _ (by omega)]; congr 1; omega]; exact sq_le hok (by omega)) ?_
        refine wq_top (congrArg oI (am_cg (fun i hi => by rw [show rowF (AS A) (t + 4 * i) = Ssq (AS A) (t + i * 4) from by rw [rf_a _ (by omega)]; congr 1; omega]))) ?_
        refine wq_iret rfl ?_
        exact ansQ (K _ (lo_R (fr_refl xR σ)) (mi_k hMR hMT (fr_refl xR σ) (fg_refl yC g) hM)) (by simp only [F_most, et, ew, od_s, od_n, od_c] <;> first | rfl | simp [od_c])
    · skip
      refine wq_zne rfl (by first | omega | decide | exact Nat.lt_of_le_of_lt Nat.and_le_right (by decide) | exact ⟨by omega, by omega⟩) (fun c => absurd c (by omega)) (fun c7 => ?_)
      refine wq_go rfl (fun _ => rfl) ?_
      refine wq_iret rfl ?_
      exact ansQ (K _ (lo_R (fr_refl xR σ)) (mi_k hMR hMT (fr_refl xR σ) (fg_refl yC g) hM)) (by simp only [F_most, et, ew, od_s, od_n, od_c] <;> first | rfl | simp [od_c])
  · skip
    refine wq_zeq rfl (by first | omega | decide | exact Nat.lt_of_le_of_lt Nat.and_le_right (by decide) | exact ⟨by omega, by omega⟩) (fun c2 => ?_) (fun c => absurd (show _ from by omega) c)
    refine wq_go rfl (fun _ => rfl) ?_
    refine wq_iret rfl ?_
    exact ansQ (K _ (lo_R (fr_refl xR σ)) (mi_k hMR hMT (fr_refl xR σ) (fg_refl yC g) hM)) (by simp only [F_most, et, od_s, od_n, od_c] <;> first | rfl | simp [od_c])
theorem mk_when {n : Nat} {A : Sy} (hn : n < 512) (hA : Aok n A) (a0 a1 : Int32) : MOk ax_cd303 [.int a0, .int a1] A A (F_when A a0 a1) := by
  intro xs d σ Q hI K
  obtain ⟨hPok, ⟨hok, hhr72, hzq, hsum⟩, hAH, hAZ, hAn, hAh, hTok, hAl⟩ := hA
  have hP' := hPok
  obtain ⟨hP1, hP2, hP3, hP4, hP5, hP6, hP7, hP8, hPv, hPm, hPo, hPw, hPl⟩ := hP'
  have hok' := hok
  obtain ⟨hot, hoh, hosc, hokp⟩ := hok'
  have hI0 := hI
  obtain ⟨L, g, hM, hMR, hMT⟩ := hI0
  have hN : NwIs σ (AS A) := hMR.1
  have hL2 := md_l2 hM
  show Wq xs (d + 12) ax_cd303 0 [(0, .ref 287), (1, .int a0), (2, .int a1)] [] σ Q
  refine wq_go rfl (fun _ => rfl) ?_
  refine wq_go rfl (fun _ => rfl) ?_
  refine wq_callV rfl rfl (by first | rfl | assumption) (by first | decide | omega | assumption) (Nat.le_of_ble_eq_true rfl) (Nat.le_of_ble_eq_true rfl) rfl rfl ?_
  refine m_isHead hM (fun h lh qh eh => ?_) (fun eh => ?_)
  · subst qh
    refine wq_zeq rfl (by first | omega | decide | exact Nat.lt_of_le_of_lt Nat.and_le_right (by decide) | exact ⟨by omega, by omega⟩) (fun c => absurd c (by omega)) (fun c3 => ?_)
    refine wq_go rfl (fun _ => rfl) ?_
    refine wq_callS rfl (Nat.le_of_ble_eq_true rfl) rfl (Nat.le_of_ble_eq_true rfl) (Nat.le_of_ble_eq_true rfl) rfl rfl ?_
    refine m_isThought  (fun t lt qt et => ?_) (fun et => ?_)
    · subst qt
      refine wq_zne rfl (by first | omega | decide | exact Nat.lt_of_le_of_lt Nat.and_le_right (by decide) | exact ⟨by omega, by omega⟩) (fun c6 => ?_) (fun c => absurd (show _ from by omega) c)
      refine wq_go rfl (fun _ => rfl) ?_
      refine wq_callV rfl rfl (by first | rfl | assumption) (by first | decide | omega | assumption) (Nat.le_of_ble_eq_true rfl) (Nat.le_of_ble_eq_true rfl) rfl rfl ?_
      refine m_copiesStill hM hN (fun σ7 g7 F7 G7 s7 t7 M7 R7 => ?_)
      have W7 : NwIs σ7 (AS A) := (F7 322 rfl).trans hN
      refine wq_cN (m := 0) rfl rfl ?_
      refine wq_go rfl (fun _ => rfl) ?_
      exact wq_lv ⟨(by decide : ([3, 0, 1, 2] : List Nat).Nodup), (lvm (List.mem_of_getElem? (i := 0) rfl) (lvm (List.mem_of_getElem? (i := 1) rfl) (lvm (List.mem_of_getElem? (i := 2) rfl) (lvm (List.mem_of_getElem? (i := 3) rfl) lvn))))⟩ (m_when_l hL2 hPok hok lh lt hzq t7 s7 (by omega) (fun σ9 g9 F9 G9 M9 => ansQ (K _ (lo_R (fr_trans (fr_trans (fr_refl xR σ) (fr_mono F7 xC_R)) F9)) (mi_k hMR hMT (fr_trans (fr_trans (fr_refl xR σ) (fr_mono F7 xC_R)) F9) (fg_trans (fg_trans (fg_refl yC g) G7) (fg_mono G9 yB_C)) M9)) (by simp only [F_when, eh, et, od_s, od_n, od_c] <;> first | rfl)) 201 0 rfl _ _ (fr_refl _ _) (fg_refl _ _) M7 R7 rfl)
    · skip
      refine wq_zne rfl (by first | omega | decide | exact Nat.lt_of_le_of_lt Nat.and_le_right (by decide) | exact ⟨by omega, by omega⟩) (fun c => absurd c (by omega)) (fun c6 => ?_)
      refine wq_go rfl (fun _ => rfl) ?_
      refine wq_iret rfl ?_
      exact ansQ (K _ (lo_R (fr_refl xR σ)) (mi_k hMR hMT (fr_refl xR σ) (fg_refl yC g) hM)) (by simp only [F_when, eh, et, od_s, od_n, od_c] <;> first | rfl | simp [od_c])
  · skip
    refine wq_zeq rfl (by first | omega | decide | exact Nat.lt_of_le_of_lt Nat.and_le_right (by decide) | exact ⟨by omega, by omega⟩) (fun c3 => ?_) (fun c => absurd (show _ from by omega) c)
    refine wq_go rfl (fun _ => rfl) ?_
    refine wq_iret rfl ?_
    exact ansQ (K _ (lo_R (fr_refl xR σ)) (mi_k hMR hMT (fr_refl xR σ) (fg_refl yC g) hM)) (by simp only [F_when, eh, od_s, od_n, od_c] <;> first | rfl | simp [od_c])
theorem mk_silent {n : Nat} {A : Sy} (hn : n < 512) (hA : Aok n A) (a0 : Int32) : MOk ax_cd305 [.int a0] A A (F_silent A a0) := by
  intro xs d σ Q hI K
  obtain ⟨hPok, ⟨hok, hhr72, hzq, hsum⟩, hAH, hAZ, hAn, hAh, hTok, hAl⟩ := hA
  have hP' := hPok
  obtain ⟨hP1, hP2, hP3, hP4, hP5, hP6, hP7, hP8, hPv, hPm, hPo, hPw, hPl⟩ := hP'
  have hok' := hok
  obtain ⟨hot, hoh, hosc, hokp⟩ := hok'
  have hI0 := hI
  obtain ⟨L, g, hM, hMR, hMT⟩ := hI0
  have hN : NwIs σ (AS A) := hMR.1
  have hL2 := md_l2 hM
  show Wq xs (d + 12) ax_cd305 0 [(0, .ref 287), (1, .int a0)] [] σ Q
  refine wq_go rfl (fun _ => rfl) ?_
  refine wq_callS rfl (Nat.le_of_ble_eq_true rfl) rfl (Nat.le_of_ble_eq_true rfl) (Nat.le_of_ble_eq_true rfl) rfl rfl ?_
  refine m_isThought  (fun t lt qt et => ?_) (fun et => ?_)
  · subst qt
    refine wq_zne rfl (by first | omega | decide | exact Nat.lt_of_le_of_lt Nat.and_le_right (by decide) | exact ⟨by omega, by omega⟩) (fun c2 => ?_) (fun c => absurd (show _ from by omega) c)
    refine wq_go rfl (fun _ => rfl) ?_
    refine wq_callV rfl rfl (by first | rfl | assumption) (by first | decide | omega | assumption) (Nat.le_of_ble_eq_true rfl) (Nat.le_of_ble_eq_true rfl) rfl rfl ?_
    refine m_copiesStill hM hN (fun σ6 g6 F6 G6 s6 t6 M6 R6 => ?_)
    have W6 : NwIs σ6 (AS A) := (F6 322 rfl).trans hN
    refine wq_cN (m := 0) rfl rfl ?_
    refine wq_go rfl (fun _ => rfl) ?_
    exact wq_lv ⟨(by decide : ([2, 0, 1] : List Nat).Nodup), (lvm (List.mem_of_getElem? (i := 0) rfl) (lvm (List.mem_of_getElem? (i := 1) rfl) (lvm (List.mem_of_getElem? (i := 2) rfl) lvn)))⟩ (m_silent_l hL2 hPok hok lt hzq t6 s6 (by omega) (fun σ9 g9 F9 G9 M9 => ansQ (K _ (lo_R (fr_trans (fr_trans (fr_refl xR σ) (fr_mono F6 xC_R)) F9)) (mi_k hMR hMT (fr_trans (fr_trans (fr_refl xR σ) (fr_mono F6 xC_R)) F9) (fg_trans (fg_trans (fg_refl yC g) G6) (fg_mono G9 yB_C)) M9)) (by simp only [F_silent, et, od_s, od_n, od_c] <;> first | rfl)) 201 0 rfl _ _ (fr_refl _ _) (fg_refl _ _) M6 R6 rfl)
  · skip
    refine wq_zne rfl (by first | omega | decide | exact Nat.lt_of_le_of_lt Nat.and_le_right (by decide) | exact ⟨by omega, by omega⟩) (fun c => absurd c (by omega)) (fun c2 => ?_)
    refine wq_go rfl (fun _ => rfl) ?_
    refine wq_iret rfl ?_
    exact ansQ (K _ (lo_R (fr_refl xR σ)) (mi_k hMR hMT (fr_refl xR σ) (fg_refl yC g) hM)) (by simp only [F_silent, et, od_s, od_n, od_c] <;> first | rfl | simp [od_c])
theorem mk_meet {n : Nat} {A : Sy} (hn : n < 512) (hA : Aok n A) (a0 a1 a2 : Int32) : MOk ax_cd307 [.int a0, .int a1, .int a2] A A (F_meet A a0 a1 a2) := by
  intro xs d σ Q hI K
  obtain ⟨hPok, ⟨hok, hhr72, hzq, hsum⟩, hAH, hAZ, hAn, hAh, hTok, hAl⟩ := hA
  have hP' := hPok
  obtain ⟨hP1, hP2, hP3, hP4, hP5, hP6, hP7, hP8, hPv, hPm, hPo, hPw, hPl⟩ := hP'
  have hok' := hok
  obtain ⟨hot, hoh, hosc, hokp⟩ := hok'
  have hI0 := hI
  obtain ⟨L, g, hM, hMR, hMT⟩ := hI0
  have hN : NwIs σ (AS A) := hMR.1
  have hL2 := md_l2 hM
  show Wq xs (d + 12) ax_cd307 0 [(0, .ref 287), (1, .int a0), (2, .int a1), (3, .int a2)] [] σ Q
  refine wq_go rfl (fun _ => rfl) ?_
  refine wq_callS rfl (Nat.le_of_ble_eq_true rfl) rfl (Nat.le_of_ble_eq_true rfl) (Nat.le_of_ble_eq_true rfl) rfl rfl ?_
  refine m_isThought  (fun t lt qt et => ?_) (fun et => ?_)
  · subst qt
    refine wq_zeq rfl (by first | omega | decide | exact Nat.lt_of_le_of_lt Nat.and_le_right (by decide) | exact ⟨by omega, by omega⟩) (fun c => absurd c (by omega)) (fun c2 => ?_)
    refine wq_go rfl (fun _ => rfl) ?_
    refine wq_callS rfl (Nat.le_of_ble_eq_true rfl) rfl (Nat.le_of_ble_eq_true rfl) (Nat.le_of_ble_eq_true rfl) rfl rfl ?_
    refine m_isThought  (fun o lo qo eo => ?_) (fun eo => ?_)
    · subst qo
      refine wq_zeq rfl (by first | omega | decide | exact Nat.lt_of_le_of_lt Nat.and_le_right (by decide) | exact ⟨by omega, by omega⟩) (fun c => absurd c (by omega)) (fun c5 => ?_)
      refine wq_go rfl (fun _ => rfl) ?_
      refine wq_go rfl (fun _ => rfl) ?_
      refine wq_ceq rfl (by first | omega | decide | exact Nat.lt_of_le_of_lt Nat.and_le_right (by decide) | exact ⟨by omega, by omega⟩) (by first | omega | decide | exact Nat.lt_of_le_of_lt Nat.and_le_right (by decide) | exact ⟨by omega, by omega⟩) (fun c8 => ?_) (fun c8 => ?_)
      · skip
        refine wq_go rfl (fun _ => rfl) ?_
        refine wq_iret rfl ?_
        exact ansQ (K _ (lo_R (fr_refl xR σ)) (mi_k hMR hMT (fr_refl xR σ) (fg_refl yC g) hM)) (by simp only [F_meet, et, eo, od_s, od_n, od_c] <;> first | rfl | exact (if_pos (by omega)).symm | exact (if_neg (by omega)).symm | (split <;> rfl) | simp [od_c])
      · skip
        refine wq_go rfl (fun _ => rfl) ?_
        refine wq_callS rfl (Nat.le_of_ble_eq_true rfl) rfl (Nat.le_of_ble_eq_true rfl) (Nat.le_of_ble_eq_true rfl) rfl rfl ?_
        refine m_isLong  (fun n ln qn en => ?_) (fun en => ?_)
        · subst qn
          refine wq_zne rfl (by first | omega | decide | exact Nat.lt_of_le_of_lt Nat.and_le_right (by decide) | exact ⟨by omega, by omega⟩) (fun c11 => ?_) (fun c => absurd (show _ from by omega) c)
          refine wq_go rfl (fun _ => rfl) ?_
          refine wq_callV rfl rfl (by first | rfl | assumption) (by first | decide | omega | assumption) (Nat.le_of_ble_eq_true rfl) (Nat.le_of_ble_eq_true rfl) rfl rfl ?_
          refine m_copiesStill hM hN (fun σ8 g8 F8 G8 s8 t8 M8 R8 => ?_)
          have W8 : NwIs σ8 (AS A) := (F8 322 rfl).trans hN
          refine wq_go rfl (fun _ => rfl) ?_
          refine wq_go rfl (fun _ => rfl) ?_
          refine wq_callV rfl rfl (by first | rfl | assumption) (by first | decide | omega | assumption) (Nat.le_of_ble_eq_true rfl) (Nat.le_of_ble_eq_true rfl) rfl rfl ?_
          refine m_goes M8 hok R8 hzq (mo := 0) (by decide) t8 s8 (n := n) (by omega) (by omega) (fun σ9 g9 F9 G9 M9 R9 => ?_)
          have W9 : NwIs σ9 (AS A) := (F9 322 rfl).trans W8
          refine wq_go rfl (fun _ => rfl) ?_
          refine wq_go rfl (fun _ => rfl) ?_
          refine wq_callV rfl rfl (by first | rfl | assumption) (by first | decide | omega | assumption) (Nat.le_of_ble_eq_true rfl) (Nat.le_of_ble_eq_true rfl) rfl rfl ?_
          refine m_sayers M9 (go_ok hPok hok 0 (Psd (AP A)) n (by omega)) R9 (by omega) ?_
          refine wq_go rfl (fun _ => rfl) ?_
          refine wq_go rfl (fun _ => rfl) ?_
          refine wq_callV rfl rfl (by first | rfl | assumption) (by first | decide | omega | assumption) (Nat.le_of_ble_eq_true rfl) (Nat.le_of_ble_eq_true rfl) rfl rfl ?_
          refine m_sayers M9 (go_ok hPok hok 0 (Psd (AP A)) n (by omega)) R9 (by omega) ?_
          refine wq_andN rfl ?_
          refine wq_iret rfl ?_
          exact ansQ (K _ (lo_R (fr_trans (fr_trans (fr_refl xR σ) (fr_mono F8 xC_R)) F9)) (mi_k hMR hMT (fr_trans (fr_trans (fr_refl xR σ) (fr_mono F8 xC_R)) F9) (fg_trans (fg_trans (fg_refl yC g) G8) (fg_mono G9 yB_C)) M9)) (by simp only [F_meet, et, eo, en, od_s, od_n, od_c] <;> first | rfl | exact (if_pos (by omega)).symm | exact (if_neg (by omega)).symm | (split <;> rfl) | simp [od_c])
        · skip
          refine wq_zne rfl (by first | omega | decide | exact Nat.lt_of_le_of_lt Nat.and_le_right (by decide) | exact ⟨by omega, by omega⟩) (fun c => absurd c (by omega)) (fun c11 => ?_)
          refine wq_go rfl (fun _ => rfl) ?_
          refine wq_iret rfl ?_
          exact ansQ (K _ (lo_R (fr_refl xR σ)) (mi_k hMR hMT (fr_refl xR σ) (fg_refl yC g) hM)) (by simp only [F_meet, et, eo, en, od_s, od_n, od_c] <;> first | rfl | exact (if_pos (by omega)).symm | exact (if_neg (by omega)).symm | (split <;> rfl) | simp [od_c])
    · skip
      refine wq_zeq rfl (by first | omega | decide | exact Nat.lt_of_le_of_lt Nat.and_le_right (by decide) | exact ⟨by omega, by omega⟩) (fun c5 => ?_) (fun c => absurd (show _ from by omega) c)
      refine wq_go rfl (fun _ => rfl) ?_
      refine wq_iret rfl ?_
      exact ansQ (K _ (lo_R (fr_refl xR σ)) (mi_k hMR hMT (fr_refl xR σ) (fg_refl yC g) hM)) (by simp only [F_meet, et, eo, od_s, od_n, od_c] <;> first | rfl | exact (if_pos (by omega)).symm | exact (if_neg (by omega)).symm | (split <;> rfl) | simp [od_c])
  · skip
    refine wq_zeq rfl (by first | omega | decide | exact Nat.lt_of_le_of_lt Nat.and_le_right (by decide) | exact ⟨by omega, by omega⟩) (fun c2 => ?_) (fun c => absurd (show _ from by omega) c)
    refine wq_go rfl (fun _ => rfl) ?_
    refine wq_iret rfl ?_
    exact ansQ (K _ (lo_R (fr_refl xR σ)) (mi_k hMR hMT (fr_refl xR σ) (fg_refl yC g) hM)) (by simp only [F_meet, et, od_s, od_n, od_c] <;> first | rfl | exact (if_pos (by omega)).symm | exact (if_neg (by omega)).symm | (split <;> rfl) | simp [od_c])
theorem mk_without {n : Nat} {A : Sy} (hn : n < 512) (hA : Aok n A) (a0 a1 a2 : Int32) : MOk ax_cd308 [.int a0, .int a1, .int a2] A A (F_without A a0 a1 a2) := by
  intro xs d σ Q hI K
  obtain ⟨hPok, ⟨hok, hhr72, hzq, hsum⟩, hAH, hAZ, hAn, hAh, hTok, hAl⟩ := hA
  have hP' := hPok
  obtain ⟨hP1, hP2, hP3, hP4, hP5, hP6, hP7, hP8, hPv, hPm, hPo, hPw, hPl⟩ := hP'
  have hok' := hok
  obtain ⟨hot, hoh, hosc, hokp⟩ := hok'
  have hI0 := hI
  obtain ⟨L, g, hM, hMR, hMT⟩ := hI0
  have hN : NwIs σ (AS A) := hMR.1
  have hL2 := md_l2 hM
  show Wq xs (d + 12) ax_cd308 0 [(0, .ref 287), (1, .int a0), (2, .int a1), (3, .int a2)] [] σ Q
  refine wq_go rfl (fun _ => rfl) ?_
  refine wq_go rfl (fun _ => rfl) ?_
  refine wq_callV rfl rfl (by first | rfl | assumption) (by first | decide | omega | assumption) (Nat.le_of_ble_eq_true rfl) (Nat.le_of_ble_eq_true rfl) rfl rfl ?_
  refine m_isVisit hM (fun i li qi ei => ?_) (fun ei => ?_)
  · subst qi
    refine wq_zeq rfl (by first | omega | decide | exact Nat.lt_of_le_of_lt Nat.and_le_right (by decide) | exact ⟨by omega, by omega⟩) (fun c => absurd c (by omega)) (fun c3 => ?_)
    refine wq_go rfl (fun _ => rfl) ?_
    refine wq_callS rfl (Nat.le_of_ble_eq_true rfl) rfl (Nat.le_of_ble_eq_true rfl) (Nat.le_of_ble_eq_true rfl) rfl rfl ?_
    refine m_isThought  (fun t lt qt et => ?_) (fun et => ?_)
    · subst qt
      refine wq_zeq rfl (by first | omega | decide | exact Nat.lt_of_le_of_lt Nat.and_le_right (by decide) | exact ⟨by omega, by omega⟩) (fun c => absurd c (by omega)) (fun c6 => ?_)
      refine wq_go rfl (fun _ => rfl) ?_
      refine wq_cN (m := 1) rfl rfl ?_
      refine wq_cN (m := 72) rfl rfl ?_
      refine wq_callS rfl (Nat.le_of_ble_eq_true rfl) rfl (Nat.le_of_ble_eq_true rfl) (Nat.le_of_ble_eq_true rfl) rfl rfl ?_
      refine m_in1 (by decide) (fun n ln qn en z0 => ?_) (fun en => ?_)
      · subst qn
        refine wq_zne rfl (by first | omega | decide | exact Nat.lt_of_le_of_lt Nat.and_le_right (by decide) | exact ⟨by omega, by omega⟩) (fun c11 => ?_) (fun c => absurd (show _ from by omega) c)
        refine wq_go rfl (fun _ => rfl) ?_
        refine wq_callV rfl rfl (by first | rfl | assumption) (by first | decide | omega | assumption) (Nat.le_of_ble_eq_true rfl) (Nat.le_of_ble_eq_true rfl) rfl rfl ?_
        refine m_copiesStill hM hN (fun σ8 g8 F8 G8 s8 t8 M8 R8 => ?_)
        have W8 : NwIs σ8 (AS A) := (F8 322 rfl).trans hN
        refine wq_go rfl (fun _ => rfl) ?_
        refine wq_getf rfl (by first | rfl | assumption) (by first | decide | omega | assumption) (md_o M8) rfl ?_
        refine wq_cN (m := 49) rfl rfl ?_
        refine wq_go rfl (fun _ => rfl) ?_
        refine wq_addN rfl ?_
        refine wq_cN (m := 0) rfl rfl ?_
        refine wq_iastN rfl (by first | rfl | assumption) (by first | decide | omega | assumption) R8 rfl (by omega) (by first | decide | omega) ?_
        refine wq_go rfl (fun _ => rfl) ?_
        refine wq_go rfl (fun _ => rfl) ?_
        refine wq_callV rfl rfl (by first | rfl | assumption) (by first | decide | omega | assumption) (Nat.le_of_ble_eq_true rfl) (Nat.le_of_ble_eq_true rfl) rfl rfl ?_
        have R0 : RwIs (up σ8 323 (arrN 61 (updN (rowF (AS A)) (49 + i) 0))) (setKp (AS A) (clr (Skp (AS A)) i)) := rw_up (fun j hj => rf_k0 (AS A) (by omega) hokp hj)
        refine m_goes (md_u323 M8) (setKp_ok hok (Nat.lt_of_le_of_lt (clr_le _ _) hokp)) R0 (fun h0 => hzq h0) (mo := 0) (by decide) t8 s8 (n := n) (by omega) (by show Shr (AS A) + n ≤ _; omega) (fun σ9 g9 F9 G9 M9 R9 => ?_)
        have hpv := hPv i li
        refine wq_go rfl (fun _ => rfl) ?_
        refine wq_getf rfl (by first | rfl | assumption) (by first | decide | omega | assumption) (md_o M9) rfl ?_
        refine wq_cN (m := 24) rfl rfl ?_
        refine wq_cN (m := 4) rfl rfl ?_
        refine wq_go rfl (fun _ => rfl) ?_
        refine wq_getf rfl (by first | rfl | assumption) (by first | decide | omega | assumption) (md_o M9) rfl ?_
        refine wq_cN (m := 10) rfl rfl ?_
        refine wq_go rfl (fun _ => rfl) ?_
        refine wq_getf rfl (by first | rfl | assumption) (by first | decide | omega | assumption) (md_o M9) rfl ?_
        refine wq_top (md_l M9) ?_
        refine wq_mulN rfl ?_
        refine wq_go rfl (fun _ => rfl) ?_
        refine wq_addN rfl ?_
        refine wq_iald rfl (by first | rfl | assumption) (by first | decide | omega | assumption) (md_c303 M9) rfl (by omega) (by first | decide | omega) ?_
        refine wq_top (md_m303 M9 _ (by omega)) ?_
        refine wq_mulN rfl ?_
        refine wq_addN rfl ?_
        refine wq_go rfl (fun _ => rfl) ?_
        refine wq_addN rfl ?_
        refine wq_ialdN rfl (by first | rfl | assumption) (by first | decide | omega | assumption) R9 rfl (by omega) (by first | decide | omega) ?_
        refine wq_top (congrArg nI (rf_ow _ (by omega) (by omega))) ?_
        refine wq_iret rfl ?_
        exact ansQ (K _ (lo_R (fr_trans (fr_up (fr_trans (fr_refl xR σ) (fr_mono F8 xC_R)) rfl) F9)) (mi_k hMR hMT (fr_trans (fr_up (fr_trans (fr_refl xR σ) (fr_mono F8 xC_R)) rfl) F9) (fg_trans (fg_trans (fg_refl yC g) G8) (fg_mono G9 yB_C)) M9)) (by simp only [F_without, ei, et, en, od_s, od_n, od_c] <;> first | rfl | exact (en _).symm | exact (if_neg z0).symm)
      · skip
        refine wq_zne rfl (by first | omega | decide | exact Nat.lt_of_le_of_lt Nat.and_le_right (by decide) | exact ⟨by omega, by omega⟩) (fun c => absurd c (by omega)) (fun c11 => ?_)
        refine wq_go rfl (fun _ => rfl) ?_
        refine wq_iret rfl ?_
        exact ansQ (K _ (lo_R (fr_refl xR σ)) (mi_k hMR hMT (fr_refl xR σ) (fg_refl yC g) hM)) (by simp only [F_without, ei, et, od_s, od_n, od_c] <;> first | rfl | exact (en _).symm | exact (if_neg z0).symm)
    · skip
      refine wq_zeq rfl (by first | omega | decide | exact Nat.lt_of_le_of_lt Nat.and_le_right (by decide) | exact ⟨by omega, by omega⟩) (fun c6 => ?_) (fun c => absurd (show _ from by omega) c)
      refine wq_go rfl (fun _ => rfl) ?_
      refine wq_iret rfl ?_
      exact ansQ (K _ (lo_R (fr_refl xR σ)) (mi_k hMR hMT (fr_refl xR σ) (fg_refl yC g) hM)) (by simp only [F_without, ei, et, od_s, od_n, od_c] <;> first | rfl | exact (en _).symm | exact (if_neg z0).symm)
  · skip
    refine wq_zeq rfl (by first | omega | decide | exact Nat.lt_of_le_of_lt Nat.and_le_right (by decide) | exact ⟨by omega, by omega⟩) (fun c3 => ?_) (fun c => absurd (show _ from by omega) c)
    refine wq_go rfl (fun _ => rfl) ?_
    refine wq_iret rfl ?_
    exact ansQ (K _ (lo_R (fr_refl xR σ)) (mi_k hMR hMT (fr_refl xR σ) (fg_refl yC g) hM)) (by simp only [F_without, ei, od_s, od_n, od_c] <;> first | rfl | exact (en _).symm | exact (if_neg z0).symm)
theorem mk_alike {n : Nat} {A : Sy} (hn : n < 512) (hA : Aok n A) (a0 : Int32) : MOk ax_cd309 [.int a0] A A (F_alike A a0) := by
  intro xs d σ Q hI K
  obtain ⟨hPok, ⟨hok, hhr72, hzq, hsum⟩, hAH, hAZ, hAn, hAh, hTok, hAl⟩ := hA
  have hP' := hPok
  obtain ⟨hP1, hP2, hP3, hP4, hP5, hP6, hP7, hP8, hPv, hPm, hPo, hPw, hPl⟩ := hP'
  have hok' := hok
  obtain ⟨hot, hoh, hosc, hokp⟩ := hok'
  have hI0 := hI
  obtain ⟨L, g, hM, hMR, hMT⟩ := hI0
  have hN : NwIs σ (AS A) := hMR.1
  have hL2 := md_l2 hM
  show Wq xs (d + 12) ax_cd309 0 [(0, .ref 287), (1, .int a0)] [] σ Q
  refine wq_go rfl (fun _ => rfl) ?_
  refine wq_cN (m := 0) rfl rfl ?_
  refine wq_cN (m := 1) rfl rfl ?_
  refine wq_callS rfl (Nat.le_of_ble_eq_true rfl) rfl (Nat.le_of_ble_eq_true rfl) (Nat.le_of_ble_eq_true rfl) rfl rfl ?_
  refine m_in (n := 2) (by decide) (fun w lw qw ew => ?_) (fun ew => ?_)
  · subst qw
    have ow : w = 0 ∨ w = 1 := by omega
    rcases ow with rfl | rfl
    · skip
      refine wq_zeq rfl (by first | omega | decide | exact Nat.lt_of_le_of_lt Nat.and_le_right (by decide) | exact ⟨by omega, by omega⟩) (fun c => absurd c (by omega)) (fun c4 => ?_)
      refine wq_go rfl (fun _ => rfl) ?_
      refine wq_cN (m := 0) rfl rfl ?_
      refine wq_go rfl (fun _ => rfl) ?_
      refine wq_getf rfl (by first | rfl | assumption) (by first | decide | omega | assumption) (md_o hM) rfl ?_
      refine wq_go rfl (fun _ => rfl) ?_
      refine wq_getf rfl (by first | rfl | assumption) (by first | decide | omega | assumption) (md_o hM) rfl ?_
      refine wq_top (md_l hM) ?_
      refine wq_iald rfl (by first | rfl | assumption) (by first | decide | omega | assumption) (md_c297 hM) rfl (by omega) (by first | decide | omega) ?_
      refine wq_top (md_m297 hM) ?_
      refine wq_go rfl (fun _ => rfl) ?_
      refine wq_callV rfl rfl (by first | rfl | assumption) (by first | decide | omega | assumption) (Nat.le_of_ble_eq_true rfl) (Nat.le_of_ble_eq_true rfl) rfl rfl ?_
      refine m_likest hM hN (f := Ssq (AS A)) (n := Pch (AP A)) (by omega) (by omega) (fun a t ha ht => by rw [Nat.zero_add]; exact rf_sq _ (by omega) ht) (by omega) (fun i hi => sq_le hok (by omega)) (by omega) ?_
      refine wq_go rfl (fun _ => rfl) ?_
      refine wq_iret rfl ?_
      exact ansQ (K _ (lo_R (fr_refl xR σ)) (mi_k hMR hMT (fr_refl xR σ) (fg_refl yC g) hM)) (by simp only [F_alike, ew, od_s, od_n, od_c] <;> first | rfl | (unfold lkI; cases am (far2 (Ssq (AS A))) (pls (Pch (AP A)) (Pch (AP A))) <;> rfl) | simp [od_c])
    · skip
      refine wq_zeq rfl (by first | omega | decide | exact Nat.lt_of_le_of_lt Nat.and_le_right (by decide) | exact ⟨by omega, by omega⟩) (fun c => absurd c (by omega)) (fun c4 => ?_)
      refine wq_go rfl (fun _ => rfl) ?_
      refine wq_cN (m := 0) rfl rfl ?_
      refine wq_go rfl (fun _ => rfl) ?_
      refine wq_getf rfl (by first | rfl | assumption) (by first | decide | omega | assumption) (md_o hM) rfl ?_
      refine wq_go rfl (fun _ => rfl) ?_
      refine wq_getf rfl (by first | rfl | assumption) (by first | decide | omega | assumption) (md_o hM) rfl ?_
      refine wq_top (md_l hM) ?_
      refine wq_iald rfl (by first | rfl | assumption) (by first | decide | omega | assumption) (md_c297 hM) rfl (by omega) (by first | decide | omega) ?_
      refine wq_top (md_m297 hM) ?_
      refine wq_go rfl (fun _ => rfl) ?_
      refine wq_callV rfl rfl (by first | rfl | assumption) (by first | decide | omega | assumption) (Nat.le_of_ble_eq_true rfl) (Nat.le_of_ble_eq_true rfl) rfl rfl ?_
      refine m_likest hM hN (f := Ssq (AS A)) (n := Pch (AP A)) (by omega) (by omega) (fun a t ha ht => by rw [Nat.zero_add]; exact rf_sq _ (by omega) ht) (by omega) (fun i hi => sq_le hok (by omega)) (by omega) ?_
      refine wq_go rfl (fun _ => rfl) ?_
      refine wq_iret rfl ?_
      exact ansQ (K _ (lo_R (fr_refl xR σ)) (mi_k hMR hMT (fr_refl xR σ) (fg_refl yC g) hM)) (by simp only [F_alike, ew, od_s, od_n, od_c] <;> first | rfl | (unfold lkI; cases am (far2 (Ssq (AS A))) (pls (Pch (AP A)) (Pch (AP A))) <;> rfl) | simp [od_c])
  · skip
    refine wq_zeq rfl (by first | omega | decide | exact Nat.lt_of_le_of_lt Nat.and_le_right (by decide) | exact ⟨by omega, by omega⟩) (fun c4 => ?_) (fun c => absurd (show _ from by omega) c)
    refine wq_go rfl (fun _ => rfl) ?_
    refine wq_iret rfl ?_
    exact ansQ (K _ (lo_R (fr_refl xR σ)) (mi_k hMR hMT (fr_refl xR σ) (fg_refl yC g) hM)) (by simp only [F_alike, ew, od_s, od_n, od_c] <;> first | rfl | (unfold lkI; cases am (far2 (Ssq (AS A))) (pls (Pch (AP A)) (Pch (AP A))) <;> rfl) | simp [od_c])
theorem mk_agree {n : Nat} {A : Sy} (hn : n < 512) (hA : Aok n A) (a0 : Int32) : MOk ax_cd313 [.int a0] A A (F_agree A a0) := by
  intro xs d σ Q hI K
  obtain ⟨hPok, ⟨hok, hhr72, hzq, hsum⟩, hAH, hAZ, hAn, hAh, hTok, hAl⟩ := hA
  have hP' := hPok
  obtain ⟨hP1, hP2, hP3, hP4, hP5, hP6, hP7, hP8, hPv, hPm, hPo, hPw, hPl⟩ := hP'
  have hok' := hok
  obtain ⟨hot, hoh, hosc, hokp⟩ := hok'
  have hI0 := hI
  obtain ⟨L, g, hM, hMR, hMT⟩ := hI0
  have hN : NwIs σ (AS A) := hMR.1
  have hL2 := md_l2 hM
  show Wq xs (d + 12) ax_cd313 0 [(0, .ref 287), (1, .int a0)] [] σ Q
  refine wq_go rfl (fun _ => rfl) ?_
  refine wq_cN (m := 0) rfl rfl ?_
  refine wq_cN (m := 1) rfl rfl ?_
  refine wq_callS rfl (Nat.le_of_ble_eq_true rfl) rfl (Nat.le_of_ble_eq_true rfl) (Nat.le_of_ble_eq_true rfl) rfl rfl ?_
  refine m_in (n := 2) (by decide) (fun w lw qw ew => ?_) (fun ew => ?_)
  · subst qw
    have ow : w = 0 ∨ w = 1 := by omega
    rcases ow with rfl | rfl
    · skip
      refine wq_zeq rfl (by first | omega | decide | exact Nat.lt_of_le_of_lt Nat.and_le_right (by decide) | exact ⟨by omega, by omega⟩) (fun c => absurd c (by omega)) (fun c4 => ?_)
      refine wq_go rfl (fun _ => rfl) ?_
      refine wq_cN (m := 24) rfl rfl ?_
      refine wq_go rfl (fun _ => rfl) ?_
      refine wq_getf rfl (by first | rfl | assumption) (by first | decide | omega | assumption) (md_o hM) rfl ?_
      refine wq_go rfl (fun _ => rfl) ?_
      refine wq_getf rfl (by first | rfl | assumption) (by first | decide | omega | assumption) (md_o hM) rfl ?_
      refine wq_top (md_l hM) ?_
      refine wq_iald rfl (by first | rfl | assumption) (by first | decide | omega | assumption) (md_c299 hM) rfl (by omega) (by first | decide | omega) ?_
      refine wq_top (md_m299 hM) ?_
      refine wq_go rfl (fun _ => rfl) ?_
      refine wq_callV rfl rfl (by first | rfl | assumption) (by first | decide | omega | assumption) (Nat.le_of_ble_eq_true rfl) (Nat.le_of_ble_eq_true rfl) rfl rfl ?_
      refine m_likest hM hN (f := Sow (AS A)) (n := Phd (AP A)) (by omega) (by omega) (fun a t ha ht => rf_ow _ (by omega) ht) (by omega) (fun i hi => ow_le hok (by omega)) (by omega) ?_
      refine wq_go rfl (fun _ => rfl) ?_
      refine wq_iret rfl ?_
      exact ansQ (K _ (lo_R (fr_refl xR σ)) (mi_k hMR hMT (fr_refl xR σ) (fg_refl yC g) hM)) (by simp only [F_agree, ew, od_s, od_n, od_c] <;> first | rfl | (unfold lkI; cases am (far2 (Sow (AS A))) (pls (Phd (AP A)) (Phd (AP A))) <;> rfl) | simp [od_c])
    · skip
      refine wq_zeq rfl (by first | omega | decide | exact Nat.lt_of_le_of_lt Nat.and_le_right (by decide) | exact ⟨by omega, by omega⟩) (fun c => absurd c (by omega)) (fun c4 => ?_)
      refine wq_go rfl (fun _ => rfl) ?_
      refine wq_cN (m := 24) rfl rfl ?_
      refine wq_go rfl (fun _ => rfl) ?_
      refine wq_getf rfl (by first | rfl | assumption) (by first | decide | omega | assumption) (md_o hM) rfl ?_
      refine wq_go rfl (fun _ => rfl) ?_
      refine wq_getf rfl (by first | rfl | assumption) (by first | decide | omega | assumption) (md_o hM) rfl ?_
      refine wq_top (md_l hM) ?_
      refine wq_iald rfl (by first | rfl | assumption) (by first | decide | omega | assumption) (md_c299 hM) rfl (by omega) (by first | decide | omega) ?_
      refine wq_top (md_m299 hM) ?_
      refine wq_go rfl (fun _ => rfl) ?_
      refine wq_callV rfl rfl (by first | rfl | assumption) (by first | decide | omega | assumption) (Nat.le_of_ble_eq_true rfl) (Nat.le_of_ble_eq_true rfl) rfl rfl ?_
      refine m_likest hM hN (f := Sow (AS A)) (n := Phd (AP A)) (by omega) (by omega) (fun a t ha ht => rf_ow _ (by omega) ht) (by omega) (fun i hi => ow_le hok (by omega)) (by omega) ?_
      refine wq_go rfl (fun _ => rfl) ?_
      refine wq_iret rfl ?_
      exact ansQ (K _ (lo_R (fr_refl xR σ)) (mi_k hMR hMT (fr_refl xR σ) (fg_refl yC g) hM)) (by simp only [F_agree, ew, od_s, od_n, od_c] <;> first | rfl | (unfold lkI; cases am (far2 (Sow (AS A))) (pls (Phd (AP A)) (Phd (AP A))) <;> rfl) | simp [od_c])
  · skip
    refine wq_zeq rfl (by first | omega | decide | exact Nat.lt_of_le_of_lt Nat.and_le_right (by decide) | exact ⟨by omega, by omega⟩) (fun c4 => ?_) (fun c => absurd (show _ from by omega) c)
    refine wq_go rfl (fun _ => rfl) ?_
    refine wq_iret rfl ?_
    exact ansQ (K _ (lo_R (fr_refl xR σ)) (mi_k hMR hMT (fr_refl xR σ) (fg_refl yC g) hM)) (by simp only [F_agree, ew, od_s, od_n, od_c] <;> first | rfl | (unfold lkI; cases am (far2 (Sow (AS A))) (pls (Phd (AP A)) (Phd (AP A))) <;> rfl) | simp [od_c])
theorem mk_fullest {n : Nat} {A : Sy} (hn : n < 512) (hA : Aok n A) (a0 : Int32) : MOk ax_cd314 [.int a0] A A (F_fullest A a0) := by
  intro xs d σ Q hI K
  obtain ⟨hPok, ⟨hok, hhr72, hzq, hsum⟩, hAH, hAZ, hAn, hAh, hTok, hAl⟩ := hA
  have hP' := hPok
  obtain ⟨hP1, hP2, hP3, hP4, hP5, hP6, hP7, hP8, hPv, hPm, hPo, hPw, hPl⟩ := hP'
  have hok' := hok
  obtain ⟨hot, hoh, hosc, hokp⟩ := hok'
  have hI0 := hI
  obtain ⟨L, g, hM, hMR, hMT⟩ := hI0
  have hN : NwIs σ (AS A) := hMR.1
  have hL2 := md_l2 hM
  show Wq xs (d + 12) ax_cd314 0 [(0, .ref 287), (1, .int a0)] [] σ Q
  refine wq_go rfl (fun _ => rfl) ?_
  refine wq_cN (m := 0) rfl rfl ?_
  refine wq_cN (m := 1) rfl rfl ?_
  refine wq_callS rfl (Nat.le_of_ble_eq_true rfl) rfl (Nat.le_of_ble_eq_true rfl) (Nat.le_of_ble_eq_true rfl) rfl rfl ?_
  refine m_in (n := 2) (by decide) (fun w lw qw ew => ?_) (fun ew => ?_)
  · subst qw
    have ow : w = 0 ∨ w = 1 := by omega
    rcases ow with rfl | rfl
    · skip
      refine wq_zne rfl (by first | omega | decide | exact Nat.lt_of_le_of_lt Nat.and_le_right (by decide) | exact ⟨by omega, by omega⟩) (fun c4 => ?_) (fun c => absurd (show _ from by omega) c)
      refine wq_go rfl (fun _ => rfl) ?_
      refine wq_callV rfl rfl (by first | rfl | assumption) (by first | decide | omega | assumption) (Nat.le_of_ble_eq_true rfl) (Nat.le_of_ble_eq_true rfl) rfl rfl ?_
      refine m_copies hM hN (fun σ6 g6 F6 G6 s6 t6 M6 R6 => ?_)
      have W6 : NwIs σ6 (AS A) := (F6 322 rfl).trans hN
      refine wq_go rfl (fun _ => rfl) ?_
      refine wq_go rfl (fun _ => rfl) ?_
      refine wq_cN (m := 0) rfl rfl ?_
      refine wq_go rfl (fun _ => rfl) ?_
      exact wq_lv ⟨(by decide : ([3, 2, 0, 1] : List Nat).Nodup), (lvm (List.mem_of_getElem? (i := 0) rfl) (lvm (List.mem_of_getElem? (i := 1) rfl) (lvm (List.mem_of_getElem? (i := 2) rfl) (lvm (List.mem_of_getElem? (i := 3) rfl) lvn))))⟩ (m_full_l M6 hok R6 (by omega) (ansQ (K _ (lo_R (fr_trans (fr_refl xR σ) (fr_mono F6 xC_R))) (mi_k hMR hMT (fr_trans (fr_refl xR σ) (fr_mono F6 xC_R)) (fg_trans (fg_refl yC g) G6) M6)) (by simp only [F_fullest, ew, od_s, od_n, od_c] <;> first | rfl | (unfold flI; cases am (fun h => (s4 (Sow (AS A)) (h * 4) : Int)) (List.range (Phd (AP A))) <;> rfl))) (Phd (AP A)) 0 rfl)
    · skip
      refine wq_zne rfl (by first | omega | decide | exact Nat.lt_of_le_of_lt Nat.and_le_right (by decide) | exact ⟨by omega, by omega⟩) (fun c4 => ?_) (fun c => absurd (show _ from by omega) c)
      refine wq_go rfl (fun _ => rfl) ?_
      refine wq_callV rfl rfl (by first | rfl | assumption) (by first | decide | omega | assumption) (Nat.le_of_ble_eq_true rfl) (Nat.le_of_ble_eq_true rfl) rfl rfl ?_
      refine m_copies hM hN (fun σ7 g7 F7 G7 s7 t7 M7 R7 => ?_)
      have W7 : NwIs σ7 (AS A) := (F7 322 rfl).trans hN
      refine wq_go rfl (fun _ => rfl) ?_
      refine wq_go rfl (fun _ => rfl) ?_
      refine wq_cN (m := 0) rfl rfl ?_
      refine wq_go rfl (fun _ => rfl) ?_
      exact wq_lv ⟨(by decide : ([3, 2, 0, 1] : List Nat).Nodup), (lvm (List.mem_of_getElem? (i := 0) rfl) (lvm (List.mem_of_getElem? (i := 1) rfl) (lvm (List.mem_of_getElem? (i := 2) rfl) (lvm (List.mem_of_getElem? (i := 3) rfl) lvn))))⟩ (m_full_l M7 hok R7 (by omega) (ansQ (K _ (lo_R (fr_trans (fr_refl xR σ) (fr_mono F7 xC_R))) (mi_k hMR hMT (fr_trans (fr_refl xR σ) (fr_mono F7 xC_R)) (fg_trans (fg_refl yC g) G7) M7)) (by simp only [F_fullest, ew, od_s, od_n, od_c] <;> first | rfl | (unfold flI; cases am (fun h => (s4 (Sow (AS A)) (h * 4) : Int)) (List.range (Phd (AP A))) <;> rfl))) (Phd (AP A)) 0 rfl)
  · skip
    refine wq_zne rfl (by first | omega | decide | exact Nat.lt_of_le_of_lt Nat.and_le_right (by decide) | exact ⟨by omega, by omega⟩) (fun c => absurd c (by omega)) (fun c4 => ?_)
    refine wq_go rfl (fun _ => rfl) ?_
    refine wq_iret rfl ?_
    exact ansQ (K _ (lo_R (fr_refl xR σ)) (mi_k hMR hMT (fr_refl xR σ) (fg_refl yC g) hM)) (by simp only [F_fullest, ew, od_s, od_n, od_c] <;> first | rfl | simp [od_c])
theorem mk_share {n : Nat} {A : Sy} (hn : n < 512) (hA : Aok n A) (a0 a1 : Int32) : MOk ax_cd315 [.int a0, .int a1] A A (F_share A a0 a1) := by
  intro xs d σ Q hI K
  obtain ⟨hPok, ⟨hok, hhr72, hzq, hsum⟩, hAH, hAZ, hAn, hAh, hTok, hAl⟩ := hA
  have hP' := hPok
  obtain ⟨hP1, hP2, hP3, hP4, hP5, hP6, hP7, hP8, hPv, hPm, hPo, hPw, hPl⟩ := hP'
  have hok' := hok
  obtain ⟨hot, hoh, hosc, hokp⟩ := hok'
  have hI0 := hI
  obtain ⟨L, g, hM, hMR, hMT⟩ := hI0
  have hN : NwIs σ (AS A) := hMR.1
  have hL2 := md_l2 hM
  show Wq xs (d + 12) ax_cd315 0 [(0, .ref 287), (1, .int a0), (2, .int a1)] [] σ Q
  refine wq_go rfl (fun _ => rfl) ?_
  refine wq_go rfl (fun _ => rfl) ?_
  refine wq_callV rfl rfl (by first | rfl | assumption) (by first | decide | omega | assumption) (Nat.le_of_ble_eq_true rfl) (Nat.le_of_ble_eq_true rfl) rfl rfl ?_
  refine m_isChair hM (fun c lc qc ec => ?_) (fun ec => ?_)
  · subst qc
    refine wq_zeq rfl (by first | omega | decide | exact Nat.lt_of_le_of_lt Nat.and_le_right (by decide) | exact ⟨by omega, by omega⟩) (fun c => absurd c (by omega)) (fun c3 => ?_)
    refine wq_go rfl (fun _ => rfl) ?_
    refine wq_callS rfl (Nat.le_of_ble_eq_true rfl) rfl (Nat.le_of_ble_eq_true rfl) (Nat.le_of_ble_eq_true rfl) rfl rfl ?_
    refine m_isThought  (fun t lt qt et => ?_) (fun et => ?_)
    · subst qt
      refine wq_zne rfl (by first | omega | decide | exact Nat.lt_of_le_of_lt Nat.and_le_right (by decide) | exact ⟨by omega, by omega⟩) (fun c6 => ?_) (fun c => absurd (show _ from by omega) c)
      refine wq_go rfl (fun _ => rfl) ?_
      refine wq_callV rfl rfl (by first | rfl | assumption) (by first | decide | omega | assumption) (Nat.le_of_ble_eq_true rfl) (Nat.le_of_ble_eq_true rfl) rfl rfl ?_
      refine m_copies hM hN (fun σ7 g7 F7 G7 s7 t7 M7 R7 => ?_)
      have W7 : NwIs σ7 (AS A) := (F7 322 rfl).trans hN
      refine wq_go rfl (fun _ => rfl) ?_
      refine wq_cN (m := 4) rfl rfl ?_
      refine wq_go rfl (fun _ => rfl) ?_
      refine wq_mulN rfl ?_
      refine wq_callV rfl rfl (by first | rfl | assumption) (by first | decide | omega | assumption) (Nat.le_of_ble_eq_true rfl) (Nat.le_of_ble_eq_true rfl) rfl rfl ?_
      refine m_four M7 R7 (by omega) ?_
      refine wq_top (congrArg nI (s4_sq (AS A) (c := c) (by omega))) ?_
      have hs4 : s4 (Ssq (AS A)) (c * 4) ≤ 4 * 1980 := s4_le (b := 1980) (fun j hj => sq_le hok (by omega))
      have hsq := sq_le hok (i := c * 4 + t) (by omega)
      refine wq_go rfl (fun _ => rfl) ?_
      refine wq_go rfl (fun _ => rfl) ?_
      refine wq_zne rfl (by first | omega | decide | exact Nat.lt_of_le_of_lt Nat.and_le_right (by decide) | exact ⟨by omega, by omega⟩) (fun c18 => ?_) (fun c18 => ?_)
      · skip
        refine wq_cN (m := 1000) rfl rfl ?_
        refine wq_go rfl (fun _ => rfl) ?_
        refine wq_getf rfl (by first | rfl | assumption) (by first | decide | omega | assumption) (md_o M7) rfl ?_
        refine wq_cN (m := 4) rfl rfl ?_
        refine wq_go rfl (fun _ => rfl) ?_
        refine wq_mulN rfl ?_
        refine wq_go rfl (fun _ => rfl) ?_
        refine wq_addN rfl ?_
        refine wq_ialdN rfl (by first | rfl | assumption) (by first | decide | omega | assumption) R7 rfl (by omega) (by first | decide | omega) ?_
        refine wq_top (congrArg nI (rf_sq _ (by omega) (by omega))) ?_
        refine wq_mulN rfl ?_
        refine wq_go rfl (fun _ => rfl) ?_
        refine wq_divN rfl (by first | decide | omega) (by first | decide | omega) (by first | decide | omega) ?_
        refine wq_iret rfl ?_
        exact ansQ (K _ (lo_R (fr_trans (fr_refl xR σ) (fr_mono F7 xC_R))) (mi_k hMR hMT (fr_trans (fr_refl xR σ) (fr_mono F7 xC_R)) (fg_trans (fg_refl yC g) G7) M7)) (by simp only [F_share, ec, et, od_s, od_n, od_c] <;> first | rfl | exact (if_pos (by omega)).symm | exact (if_neg (by omega)).symm | simp [od_c])
      · skip
        refine wq_cN (m := 0) rfl rfl ?_
        refine wq_go rfl (fun _ => rfl) ?_
        refine wq_iret rfl ?_
        exact ansQ (K _ (lo_R (fr_trans (fr_refl xR σ) (fr_mono F7 xC_R))) (mi_k hMR hMT (fr_trans (fr_refl xR σ) (fr_mono F7 xC_R)) (fg_trans (fg_refl yC g) G7) M7)) (by simp only [F_share, ec, et, od_s, od_n, od_c] <;> first | rfl | exact (if_pos (by omega)).symm | exact (if_neg (by omega)).symm | simp [od_c])
    · skip
      refine wq_zne rfl (by first | omega | decide | exact Nat.lt_of_le_of_lt Nat.and_le_right (by decide) | exact ⟨by omega, by omega⟩) (fun c => absurd c (by omega)) (fun c6 => ?_)
      refine wq_go rfl (fun _ => rfl) ?_
      refine wq_iret rfl ?_
      exact ansQ (K _ (lo_R (fr_refl xR σ)) (mi_k hMR hMT (fr_refl xR σ) (fg_refl yC g) hM)) (by simp only [F_share, ec, et, od_s, od_n, od_c] <;> first | rfl | exact (if_pos (by omega)).symm | exact (if_neg (by omega)).symm | simp [od_c])
  · skip
    refine wq_zeq rfl (by first | omega | decide | exact Nat.lt_of_le_of_lt Nat.and_le_right (by decide) | exact ⟨by omega, by omega⟩) (fun c3 => ?_) (fun c => absurd (show _ from by omega) c)
    refine wq_go rfl (fun _ => rfl) ?_
    refine wq_iret rfl ?_
    exact ansQ (K _ (lo_R (fr_refl xR σ)) (mi_k hMR hMT (fr_refl xR σ) (fg_refl yC g) hM)) (by simp only [F_share, ec, od_s, od_n, od_c] <;> first | rfl | exact (if_pos (by omega)).symm | exact (if_neg (by omega)).symm | simp [od_c])
theorem mk_foremost {n : Nat} {A : Sy} (hn : n < 512) (hA : Aok n A) (a0 : Int32) : MOk ax_cd316 [.int a0] A A (F_foremost A a0) := by
  intro xs d σ Q hI K
  obtain ⟨hPok, ⟨hok, hhr72, hzq, hsum⟩, hAH, hAZ, hAn, hAh, hTok, hAl⟩ := hA
  have hP' := hPok
  obtain ⟨hP1, hP2, hP3, hP4, hP5, hP6, hP7, hP8, hPv, hPm, hPo, hPw, hPl⟩ := hP'
  have hok' := hok
  obtain ⟨hot, hoh, hosc, hokp⟩ := hok'
  have hI0 := hI
  obtain ⟨L, g, hM, hMR, hMT⟩ := hI0
  have hN : NwIs σ (AS A) := hMR.1
  have hL2 := md_l2 hM
  show Wq xs (d + 12) ax_cd316 0 [(0, .ref 287), (1, .int a0)] [] σ Q
  refine wq_go rfl (fun _ => rfl) ?_
  refine wq_go rfl (fun _ => rfl) ?_
  refine wq_callV rfl rfl (by first | rfl | assumption) (by first | decide | omega | assumption) (Nat.le_of_ble_eq_true rfl) (Nat.le_of_ble_eq_true rfl) rfl rfl ?_
  refine m_isHead hM (fun h lh qh eh => ?_) (fun eh => ?_)
  · subst qh
    refine wq_zne rfl (by first | omega | decide | exact Nat.lt_of_le_of_lt Nat.and_le_right (by decide) | exact ⟨by omega, by omega⟩) (fun c3 => ?_) (fun c => absurd (show _ from by omega) c)
    refine wq_cN (m := 0) rfl rfl ?_
    refine wq_go rfl (fun _ => rfl) ?_
    refine wq_cN (m := 1) rfl rfl ?_
    refine wq_go rfl (fun _ => rfl) ?_
    exact wq_lv ⟨(by decide : ([3, 2, 0, 1] : List Nat).Nodup), (lvm (List.mem_of_getElem? (i := 0) rfl) (lvm (List.mem_of_getElem? (i := 1) rfl) (lvm (List.mem_of_getElem? (i := 2) rfl) (lvm (List.mem_of_getElem? (i := 3) rfl) lvn))))⟩ (m_fore_l hM hok hN lh (ansQ (K _ (lo_R (fr_refl xR σ)) (mi_k hMR hMT (fr_refl xR σ) (fg_refl yC g) hM)) (by simp only [F_foremost, eh, od_s, od_n, od_c] <;> first | rfl)) 3 0 rfl)
  · skip
    refine wq_zne rfl (by first | omega | decide | exact Nat.lt_of_le_of_lt Nat.and_le_right (by decide) | exact ⟨by omega, by omega⟩) (fun c => absurd c (by omega)) (fun c3 => ?_)
    refine wq_go rfl (fun _ => rfl) ?_
    refine wq_iret rfl ?_
    exact ansQ (K _ (lo_R (fr_refl xR σ)) (mi_k hMR hMT (fr_refl xR σ) (fg_refl yC g) hM)) (by simp only [F_foremost, eh, od_s, od_n, od_c] <;> first | rfl | simp [od_c])
theorem mk_saysIn {n : Nat} {A : Sy} (hn : n < 512) (hA : Aok n A) (a0 a1 : Int32) : MOk ax_cd317 [.int a0, .int a1] A A (F_saysIn A a0 a1) := by
  intro xs d σ Q hI K
  obtain ⟨hPok, ⟨hok, hhr72, hzq, hsum⟩, hAH, hAZ, hAn, hAh, hTok, hAl⟩ := hA
  have hP' := hPok
  obtain ⟨hP1, hP2, hP3, hP4, hP5, hP6, hP7, hP8, hPv, hPm, hPo, hPw, hPl⟩ := hP'
  have hok' := hok
  obtain ⟨hot, hoh, hosc, hokp⟩ := hok'
  have hI0 := hI
  obtain ⟨L, g, hM, hMR, hMT⟩ := hI0
  have hN : NwIs σ (AS A) := hMR.1
  have hL2 := md_l2 hM
  show Wq xs (d + 12) ax_cd317 0 [(0, .ref 287), (1, .int a0), (2, .int a1)] [] σ Q
  refine wq_go rfl (fun _ => rfl) ?_
  refine wq_go rfl (fun _ => rfl) ?_
  refine wq_callV rfl rfl (by first | rfl | assumption) (by first | decide | omega | assumption) (Nat.le_of_ble_eq_true rfl) (Nat.le_of_ble_eq_true rfl) rfl rfl ?_
  refine m_isHead hM (fun h lh qh eh => ?_) (fun eh => ?_)
  · subst qh
    refine wq_zeq rfl (by first | omega | decide | exact Nat.lt_of_le_of_lt Nat.and_le_right (by decide) | exact ⟨by omega, by omega⟩) (fun c => absurd c (by omega)) (fun c3 => ?_)
    refine wq_go rfl (fun _ => rfl) ?_
    refine wq_callS rfl (Nat.le_of_ble_eq_true rfl) rfl (Nat.le_of_ble_eq_true rfl) (Nat.le_of_ble_eq_true rfl) rfl rfl ?_
    refine m_isLong  (fun n ln qn en => ?_) (fun en => ?_)
    · subst qn
      refine wq_zne rfl (by first | omega | decide | exact Nat.lt_of_le_of_lt Nat.and_le_right (by decide) | exact ⟨by omega, by omega⟩) (fun c6 => ?_) (fun c => absurd (show _ from by omega) c)
      refine wq_go rfl (fun _ => rfl) ?_
      refine wq_callV rfl rfl (by first | rfl | assumption) (by first | decide | omega | assumption) (Nat.le_of_ble_eq_true rfl) (Nat.le_of_ble_eq_true rfl) rfl rfl ?_
      refine m_copies hM hN (fun σ7 g7 F7 G7 s7 t7 M7 R7 => ?_)
      have W7 : NwIs σ7 (AS A) := (F7 322 rfl).trans hN
      refine wq_go rfl (fun _ => rfl) ?_
      refine wq_go rfl (fun _ => rfl) ?_
      refine wq_callV rfl rfl (by first | rfl | assumption) (by first | decide | omega | assumption) (Nat.le_of_ble_eq_true rfl) (Nat.le_of_ble_eq_true rfl) rfl rfl ?_
      refine m_goes M7 hok R7 hzq (mo := 1) (by decide) t7 s7 (n := n) (by omega) (by omega) (fun σ8 g8 F8 G8 M8 R8 => ?_)
      have W8 : NwIs σ8 (AS A) := (F8 322 rfl).trans W7
      refine wq_go rfl (fun _ => rfl) ?_
      refine wq_go rfl (fun _ => rfl) ?_
      refine wq_callV rfl rfl (by first | rfl | assumption) (by first | decide | omega | assumption) (Nat.le_of_ble_eq_true rfl) (Nat.le_of_ble_eq_true rfl) rfl rfl ?_
      refine m_saidBy M8 (go_ok hPok hok 1 (Psd (AP A)) n (by omega)) R8 (by omega) ?_
      refine wq_iret rfl ?_
      exact ansQ (K _ (lo_R (fr_trans (fr_trans (fr_refl xR σ) (fr_mono F7 xC_R)) F8)) (mi_k hMR hMT (fr_trans (fr_trans (fr_refl xR σ) (fr_mono F7 xC_R)) F8) (fg_trans (fg_trans (fg_refl yC g) G7) (fg_mono G8 yB_C)) M8)) (by simp only [F_saysIn, eh, en, od_s, od_n, od_c] <;> first | rfl | simp [od_c])
    · skip
      refine wq_zne rfl (by first | omega | decide | exact Nat.lt_of_le_of_lt Nat.and_le_right (by decide) | exact ⟨by omega, by omega⟩) (fun c => absurd c (by omega)) (fun c6 => ?_)
      refine wq_go rfl (fun _ => rfl) ?_
      refine wq_iret rfl ?_
      exact ansQ (K _ (lo_R (fr_refl xR σ)) (mi_k hMR hMT (fr_refl xR σ) (fg_refl yC g) hM)) (by simp only [F_saysIn, eh, en, od_s, od_n, od_c] <;> first | rfl | simp [od_c])
  · skip
    refine wq_zeq rfl (by first | omega | decide | exact Nat.lt_of_le_of_lt Nat.and_le_right (by decide) | exact ⟨by omega, by omega⟩) (fun c3 => ?_) (fun c => absurd (show _ from by omega) c)
    refine wq_go rfl (fun _ => rfl) ?_
    refine wq_iret rfl ?_
    exact ansQ (K _ (lo_R (fr_refl xR σ)) (mi_k hMR hMT (fr_refl xR σ) (fg_refl yC g) hM)) (by simp only [F_saysIn, eh, od_s, od_n, od_c] <;> first | rfl | simp [od_c])
theorem mk_lost {n : Nat} {A : Sy} (hn : n < 512) (hA : Aok n A) (a0 : Int32) : MOk ax_cd318 [.int a0] A A (F_lost A a0) := by
  intro xs d σ Q hI K
  obtain ⟨hPok, ⟨hok, hhr72, hzq, hsum⟩, hAH, hAZ, hAn, hAh, hTok, hAl⟩ := hA
  have hP' := hPok
  obtain ⟨hP1, hP2, hP3, hP4, hP5, hP6, hP7, hP8, hPv, hPm, hPo, hPw, hPl⟩ := hP'
  have hok' := hok
  obtain ⟨hot, hoh, hosc, hokp⟩ := hok'
  have hI0 := hI
  obtain ⟨L, g, hM, hMR, hMT⟩ := hI0
  have hN : NwIs σ (AS A) := hMR.1
  have hL2 := md_l2 hM
  show Wq xs (d + 12) ax_cd318 0 [(0, .ref 287), (1, .int a0)] [] σ Q
  refine wq_go rfl (fun _ => rfl) ?_
  refine wq_callS rfl (Nat.le_of_ble_eq_true rfl) rfl (Nat.le_of_ble_eq_true rfl) (Nat.le_of_ble_eq_true rfl) rfl rfl ?_
  refine m_isLong  (fun n ln qn en => ?_) (fun en => ?_)
  · subst qn
    refine wq_zne rfl (by first | omega | decide | exact Nat.lt_of_le_of_lt Nat.and_le_right (by decide) | exact ⟨by omega, by omega⟩) (fun c2 => ?_) (fun c => absurd (show _ from by omega) c)
    refine wq_go rfl (fun _ => rfl) ?_
    refine wq_callV rfl rfl (by first | rfl | assumption) (by first | decide | omega | assumption) (Nat.le_of_ble_eq_true rfl) (Nat.le_of_ble_eq_true rfl) rfl rfl ?_
    refine m_copiesStill hM hN (fun σ6 g6 F6 G6 s6 t6 M6 R6 => ?_)
    have W6 : NwIs σ6 (AS A) := (F6 322 rfl).trans hN
    refine wq_go rfl (fun _ => rfl) ?_
    refine wq_go rfl (fun _ => rfl) ?_
    refine wq_callV rfl rfl (by first | rfl | assumption) (by first | decide | omega | assumption) (Nat.le_of_ble_eq_true rfl) (Nat.le_of_ble_eq_true rfl) rfl rfl ?_
    refine m_goes M6 hok R6 hzq (mo := 0) (by decide) t6 s6 (n := n) (by omega) (by omega) (fun σ7 g7 F7 G7 M7 R7 => ?_)
    have W7 : NwIs σ7 (AS A) := (F7 322 rfl).trans W6
    refine wq_go rfl (fun _ => rfl) ?_
    refine wq_getf rfl (by first | rfl | assumption) (by first | decide | omega | assumption) (md_o M7) rfl ?_
    refine wq_cN (m := 60) rfl rfl ?_
    refine wq_ialdN rfl (by first | rfl | assumption) (by first | decide | omega | assumption) R7 rfl (by omega) (by first | decide | omega) ?_
    refine wq_top (congrArg nI (rf_sd _)) ?_
    refine wq_go rfl (fun _ => rfl) ?_
    refine wq_getf rfl (by first | rfl | assumption) (by first | decide | omega | assumption) (md_o M7) rfl ?_
    refine wq_cN (m := 60) rfl rfl ?_
    refine wq_ialdN rfl (by first | rfl | assumption) (by first | decide | omega | assumption) W7 rfl (by omega) (by first | decide | omega) ?_
    refine wq_top (congrArg nI (rf_sd _)) ?_
    refine wq_subZ rfl (nI_z _) (nI_z _) ?_
    refine wq_iret rfl ?_
    exact ansQ (K _ (lo_R (fr_trans (fr_trans (fr_refl xR σ) (fr_mono F6 xC_R)) F7)) (mi_k hMR hMT (fr_trans (fr_trans (fr_refl xR σ) (fr_mono F6 xC_R)) F7) (fg_trans (fg_trans (fg_refl yC g) G6) (fg_mono G7 yB_C)) M7)) (by simp only [F_lost, en, od_s, od_n, od_c] <;> first | rfl | simp [od_c])
  · skip
    refine wq_zne rfl (by first | omega | decide | exact Nat.lt_of_le_of_lt Nat.and_le_right (by decide) | exact ⟨by omega, by omega⟩) (fun c => absurd c (by omega)) (fun c2 => ?_)
    refine wq_go rfl (fun _ => rfl) ?_
    refine wq_iret rfl ?_
    exact ansQ (K _ (lo_R (fr_refl xR σ)) (mi_k hMR hMT (fr_refl xR σ) (fg_refl yC g) hM)) (by simp only [F_lost, en, od_s, od_n, od_c] <;> first | rfl | simp [od_c])
theorem mk_clean {n : Nat} {A : Sy} (hn : n < 512) (hA : Aok n A) (a0 : Int32) : MOk ax_cd319 [.int a0] A A (F_clean A a0) := by
  intro xs d σ Q hI K
  obtain ⟨hPok, ⟨hok, hhr72, hzq, hsum⟩, hAH, hAZ, hAn, hAh, hTok, hAl⟩ := hA
  have hP' := hPok
  obtain ⟨hP1, hP2, hP3, hP4, hP5, hP6, hP7, hP8, hPv, hPm, hPo, hPw, hPl⟩ := hP'
  have hok' := hok
  obtain ⟨hot, hoh, hosc, hokp⟩ := hok'
  have hI0 := hI
  obtain ⟨L, g, hM, hMR, hMT⟩ := hI0
  have hN : NwIs σ (AS A) := hMR.1
  have hL2 := md_l2 hM
  show Wq xs (d + 12) ax_cd319 0 [(0, .ref 287), (1, .int a0)] [] σ Q
  refine wq_go rfl (fun _ => rfl) ?_
  refine wq_cN (m := 0) rfl rfl ?_
  refine wq_cN (m := 1) rfl rfl ?_
  refine wq_callS rfl (Nat.le_of_ble_eq_true rfl) rfl (Nat.le_of_ble_eq_true rfl) (Nat.le_of_ble_eq_true rfl) rfl rfl ?_
  refine m_in (n := 2) (by decide) (fun w lw qw ew => ?_) (fun ew => ?_)
  · subst qw
    have ow : w = 0 ∨ w = 1 := by omega
    rcases ow with rfl | rfl
    · skip
      refine wq_zne rfl (by first | omega | decide | exact Nat.lt_of_le_of_lt Nat.and_le_right (by decide) | exact ⟨by omega, by omega⟩) (fun c4 => ?_) (fun c => absurd (show _ from by omega) c)
      refine wq_go rfl (fun _ => rfl) ?_
      refine wq_go rfl (fun _ => rfl) ?_
      refine wq_go rfl (fun _ => rfl) ?_
      refine wq_go rfl (fun _ => rfl) ?_
      refine wq_cN (m := 0) rfl rfl ?_
      refine wq_go rfl (fun _ => rfl) ?_
      exact wq_lv ⟨(by decide : ([4, 3, 2, 0, 1] : List Nat).Nodup), (lvm (List.mem_of_getElem? (i := 0) rfl) (lvm (List.mem_of_getElem? (i := 1) rfl) (lvm (List.mem_of_getElem? (i := 2) rfl) (lvm (List.mem_of_getElem? (i := 3) rfl) (lvm (List.mem_of_getElem? (i := 4) rfl) lvn)))))⟩ (m_clean_l hL2 hPok hok (by omega) (fun σ9 g9 F9 G9 M9 => ansQ (K _ (lo_R (fr_trans (fr_refl xR σ) F9)) (mi_k hMR hMT (fr_trans (fr_refl xR σ) F9) (fg_trans (fg_refl yC g) G9) M9)) (by simp only [F_clean, ew, od_s, od_n, od_c] <;> first | rfl | (unfold clI; cases am (fun c => ((sumF (washN (AP A) (AS A) c) 4 : Nat) : Int)) (List.range (Pch (AP A))) <;> rfl))) (Pch (AP A)) 0 rfl σ g (fr_refl _ _) (fg_refl _ _) hM hN)
    · skip
      refine wq_zne rfl (by first | omega | decide | exact Nat.lt_of_le_of_lt Nat.and_le_right (by decide) | exact ⟨by omega, by omega⟩) (fun c4 => ?_) (fun c => absurd (show _ from by omega) c)
      refine wq_go rfl (fun _ => rfl) ?_
      refine wq_go rfl (fun _ => rfl) ?_
      refine wq_go rfl (fun _ => rfl) ?_
      refine wq_go rfl (fun _ => rfl) ?_
      refine wq_cN (m := 0) rfl rfl ?_
      refine wq_go rfl (fun _ => rfl) ?_
      exact wq_lv ⟨(by decide : ([4, 3, 2, 0, 1] : List Nat).Nodup), (lvm (List.mem_of_getElem? (i := 0) rfl) (lvm (List.mem_of_getElem? (i := 1) rfl) (lvm (List.mem_of_getElem? (i := 2) rfl) (lvm (List.mem_of_getElem? (i := 3) rfl) (lvm (List.mem_of_getElem? (i := 4) rfl) lvn)))))⟩ (m_clean_l hL2 hPok hok (by omega) (fun σ9 g9 F9 G9 M9 => ansQ (K _ (lo_R (fr_trans (fr_refl xR σ) F9)) (mi_k hMR hMT (fr_trans (fr_refl xR σ) F9) (fg_trans (fg_refl yC g) G9) M9)) (by simp only [F_clean, ew, od_s, od_n, od_c] <;> first | rfl | (unfold clI; cases am (fun c => ((sumF (washN (AP A) (AS A) c) 4 : Nat) : Int)) (List.range (Pch (AP A))) <;> rfl))) (Pch (AP A)) 0 rfl σ g (fr_refl _ _) (fg_refl _ _) hM hN)
  · skip
    refine wq_zne rfl (by first | omega | decide | exact Nat.lt_of_le_of_lt Nat.and_le_right (by decide) | exact ⟨by omega, by omega⟩) (fun c => absurd c (by omega)) (fun c4 => ?_)
    refine wq_go rfl (fun _ => rfl) ?_
    refine wq_iret rfl ?_
    exact ansQ (K _ (lo_R (fr_refl xR σ)) (mi_k hMR hMT (fr_refl xR σ) (fg_refl yC g) hM)) (by simp only [F_clean, ew, od_s, od_n, od_c] <;> first | rfl | simp [od_c])
theorem mk_headIn {n : Nat} {A : Sy} (hn : n < 512) (hA : Aok n A) (a0 a1 a2 : Int32) : MOk ax_cd320 [.int a0, .int a1, .int a2] A A (F_headIn A a0 a1 a2) := by
  intro xs d σ Q hI K
  obtain ⟨hPok, ⟨hok, hhr72, hzq, hsum⟩, hAH, hAZ, hAn, hAh, hTok, hAl⟩ := hA
  have hP' := hPok
  obtain ⟨hP1, hP2, hP3, hP4, hP5, hP6, hP7, hP8, hPv, hPm, hPo, hPw, hPl⟩ := hP'
  have hok' := hok
  obtain ⟨hot, hoh, hosc, hokp⟩ := hok'
  have hI0 := hI
  obtain ⟨L, g, hM, hMR, hMT⟩ := hI0
  have hN : NwIs σ (AS A) := hMR.1
  have hL2 := md_l2 hM
  show Wq xs (d + 12) ax_cd320 0 [(0, .ref 287), (1, .int a0), (2, .int a1), (3, .int a2)] [] σ Q
  refine wq_go rfl (fun _ => rfl) ?_
  refine wq_go rfl (fun _ => rfl) ?_
  refine wq_callV rfl rfl (by first | rfl | assumption) (by first | decide | omega | assumption) (Nat.le_of_ble_eq_true rfl) (Nat.le_of_ble_eq_true rfl) rfl rfl ?_
  refine m_isHead hM (fun h lh qh eh => ?_) (fun eh => ?_)
  · subst qh
    refine wq_zeq rfl (by first | omega | decide | exact Nat.lt_of_le_of_lt Nat.and_le_right (by decide) | exact ⟨by omega, by omega⟩) (fun c => absurd c (by omega)) (fun c3 => ?_)
    refine wq_go rfl (fun _ => rfl) ?_
    refine wq_callS rfl (Nat.le_of_ble_eq_true rfl) rfl (Nat.le_of_ble_eq_true rfl) (Nat.le_of_ble_eq_true rfl) rfl rfl ?_
    refine m_isThought  (fun t lt qt et => ?_) (fun et => ?_)
    · subst qt
      refine wq_zeq rfl (by first | omega | decide | exact Nat.lt_of_le_of_lt Nat.and_le_right (by decide) | exact ⟨by omega, by omega⟩) (fun c => absurd c (by omega)) (fun c6 => ?_)
      refine wq_go rfl (fun _ => rfl) ?_
      refine wq_callS rfl (Nat.le_of_ble_eq_true rfl) rfl (Nat.le_of_ble_eq_true rfl) (Nat.le_of_ble_eq_true rfl) rfl rfl ?_
      refine m_isLong  (fun n ln qn en => ?_) (fun en => ?_)
      · subst qn
        refine wq_zne rfl (by first | omega | decide | exact Nat.lt_of_le_of_lt Nat.and_le_right (by decide) | exact ⟨by omega, by omega⟩) (fun c9 => ?_) (fun c => absurd (show _ from by omega) c)
        refine wq_go rfl (fun _ => rfl) ?_
        refine wq_callV rfl rfl (by first | rfl | assumption) (by first | decide | omega | assumption) (Nat.le_of_ble_eq_true rfl) (Nat.le_of_ble_eq_true rfl) rfl rfl ?_
        refine m_copies hM hN (fun σ8 g8 F8 G8 s8 t8 M8 R8 => ?_)
        have W8 : NwIs σ8 (AS A) := (F8 322 rfl).trans hN
        refine wq_go rfl (fun _ => rfl) ?_
        refine wq_go rfl (fun _ => rfl) ?_
        refine wq_callV rfl rfl (by first | rfl | assumption) (by first | decide | omega | assumption) (Nat.le_of_ble_eq_true rfl) (Nat.le_of_ble_eq_true rfl) rfl rfl ?_
        refine m_goes M8 hok R8 hzq (mo := 1) (by decide) t8 s8 (n := n) (by omega) (by omega) (fun σ9 g9 F9 G9 M9 R9 => ?_)
        have W9 : NwIs σ9 (AS A) := (F9 322 rfl).trans W8
        refine wq_go rfl (fun _ => rfl) ?_
        refine wq_getf rfl (by first | rfl | assumption) (by first | decide | omega | assumption) (md_o M9) rfl ?_
        refine wq_cN (m := 24) rfl rfl ?_
        refine wq_cN (m := 4) rfl rfl ?_
        refine wq_go rfl (fun _ => rfl) ?_
        refine wq_mulN rfl ?_
        refine wq_addN rfl ?_
        refine wq_go rfl (fun _ => rfl) ?_
        refine wq_addN rfl ?_
        refine wq_ialdN rfl (by first | rfl | assumption) (by first | decide | omega | assumption) R9 rfl (by omega) (by first | decide | omega) ?_
        refine wq_top (congrArg nI (rf_ow _ (by omega) (by omega))) ?_
        refine wq_iret rfl ?_
        exact ansQ (K _ (lo_R (fr_trans (fr_trans (fr_refl xR σ) (fr_mono F8 xC_R)) F9)) (mi_k hMR hMT (fr_trans (fr_trans (fr_refl xR σ) (fr_mono F8 xC_R)) F9) (fg_trans (fg_trans (fg_refl yC g) G8) (fg_mono G9 yB_C)) M9)) (by simp only [F_headIn, eh, et, en, od_s, od_n, od_c] <;> first | rfl | simp [od_c])
      · skip
        refine wq_zne rfl (by first | omega | decide | exact Nat.lt_of_le_of_lt Nat.and_le_right (by decide) | exact ⟨by omega, by omega⟩) (fun c => absurd c (by omega)) (fun c9 => ?_)
        refine wq_go rfl (fun _ => rfl) ?_
        refine wq_iret rfl ?_
        exact ansQ (K _ (lo_R (fr_refl xR σ)) (mi_k hMR hMT (fr_refl xR σ) (fg_refl yC g) hM)) (by simp only [F_headIn, eh, et, en, od_s, od_n, od_c] <;> first | rfl | simp [od_c])
    · skip
      refine wq_zeq rfl (by first | omega | decide | exact Nat.lt_of_le_of_lt Nat.and_le_right (by decide) | exact ⟨by omega, by omega⟩) (fun c6 => ?_) (fun c => absurd (show _ from by omega) c)
      refine wq_go rfl (fun _ => rfl) ?_
      refine wq_iret rfl ?_
      exact ansQ (K _ (lo_R (fr_refl xR σ)) (mi_k hMR hMT (fr_refl xR σ) (fg_refl yC g) hM)) (by simp only [F_headIn, eh, et, od_s, od_n, od_c] <;> first | rfl | simp [od_c])
  · skip
    refine wq_zeq rfl (by first | omega | decide | exact Nat.lt_of_le_of_lt Nat.and_le_right (by decide) | exact ⟨by omega, by omega⟩) (fun c3 => ?_) (fun c => absurd (show _ from by omega) c)
    refine wq_go rfl (fun _ => rfl) ?_
    refine wq_iret rfl ?_
    exact ansQ (K _ (lo_R (fr_refl xR σ)) (mi_k hMR hMT (fr_refl xR σ) (fg_refl yC g) hM)) (by simp only [F_headIn, eh, od_s, od_n, od_c] <;> first | rfl | simp [od_c])
theorem mk_chairIn {n : Nat} {A : Sy} (hn : n < 512) (hA : Aok n A) (a0 a1 a2 : Int32) : MOk ax_cd321 [.int a0, .int a1, .int a2] A A (F_chairIn A a0 a1 a2) := by
  intro xs d σ Q hI K
  obtain ⟨hPok, ⟨hok, hhr72, hzq, hsum⟩, hAH, hAZ, hAn, hAh, hTok, hAl⟩ := hA
  have hP' := hPok
  obtain ⟨hP1, hP2, hP3, hP4, hP5, hP6, hP7, hP8, hPv, hPm, hPo, hPw, hPl⟩ := hP'
  have hok' := hok
  obtain ⟨hot, hoh, hosc, hokp⟩ := hok'
  have hI0 := hI
  obtain ⟨L, g, hM, hMR, hMT⟩ := hI0
  have hN : NwIs σ (AS A) := hMR.1
  have hL2 := md_l2 hM
  show Wq xs (d + 12) ax_cd321 0 [(0, .ref 287), (1, .int a0), (2, .int a1), (3, .int a2)] [] σ Q
  refine wq_go rfl (fun _ => rfl) ?_
  refine wq_go rfl (fun _ => rfl) ?_
  refine wq_callV rfl rfl (by first | rfl | assumption) (by first | decide | omega | assumption) (Nat.le_of_ble_eq_true rfl) (Nat.le_of_ble_eq_true rfl) rfl rfl ?_
  refine m_isChair hM (fun c lc qc ec => ?_) (fun ec => ?_)
  · subst qc
    refine wq_zeq rfl (by first | omega | decide | exact Nat.lt_of_le_of_lt Nat.and_le_right (by decide) | exact ⟨by omega, by omega⟩) (fun c => absurd c (by omega)) (fun c3 => ?_)
    refine wq_go rfl (fun _ => rfl) ?_
    refine wq_callS rfl (Nat.le_of_ble_eq_true rfl) rfl (Nat.le_of_ble_eq_true rfl) (Nat.le_of_ble_eq_true rfl) rfl rfl ?_
    refine m_isThought  (fun t lt qt et => ?_) (fun et => ?_)
    · subst qt
      refine wq_zeq rfl (by first | omega | decide | exact Nat.lt_of_le_of_lt Nat.and_le_right (by decide) | exact ⟨by omega, by omega⟩) (fun c => absurd c (by omega)) (fun c6 => ?_)
      refine wq_go rfl (fun _ => rfl) ?_
      refine wq_callS rfl (Nat.le_of_ble_eq_true rfl) rfl (Nat.le_of_ble_eq_true rfl) (Nat.le_of_ble_eq_true rfl) rfl rfl ?_
      refine m_isLong  (fun n ln qn en => ?_) (fun en => ?_)
      · subst qn
        refine wq_zne rfl (by first | omega | decide | exact Nat.lt_of_le_of_lt Nat.and_le_right (by decide) | exact ⟨by omega, by omega⟩) (fun c9 => ?_) (fun c => absurd (show _ from by omega) c)
        refine wq_go rfl (fun _ => rfl) ?_
        refine wq_callV rfl rfl (by first | rfl | assumption) (by first | decide | omega | assumption) (Nat.le_of_ble_eq_true rfl) (Nat.le_of_ble_eq_true rfl) rfl rfl ?_
        refine m_copies hM hN (fun σ8 g8 F8 G8 s8 t8 M8 R8 => ?_)
        have W8 : NwIs σ8 (AS A) := (F8 322 rfl).trans hN
        refine wq_go rfl (fun _ => rfl) ?_
        refine wq_go rfl (fun _ => rfl) ?_
        refine wq_callV rfl rfl (by first | rfl | assumption) (by first | decide | omega | assumption) (Nat.le_of_ble_eq_true rfl) (Nat.le_of_ble_eq_true rfl) rfl rfl ?_
        refine m_goes M8 hok R8 hzq (mo := 1) (by decide) t8 s8 (n := n) (by omega) (by omega) (fun σ9 g9 F9 G9 M9 R9 => ?_)
        have W9 : NwIs σ9 (AS A) := (F9 322 rfl).trans W8
        refine wq_go rfl (fun _ => rfl) ?_
        refine wq_getf rfl (by first | rfl | assumption) (by first | decide | omega | assumption) (md_o M9) rfl ?_
        refine wq_cN (m := 4) rfl rfl ?_
        refine wq_go rfl (fun _ => rfl) ?_
        refine wq_mulN rfl ?_
        refine wq_go rfl (fun _ => rfl) ?_
        refine wq_addN rfl ?_
        refine wq_ialdN rfl (by first | rfl | assumption) (by first | decide | omega | assumption) R9 rfl (by omega) (by first | decide | omega) ?_
        refine wq_top (congrArg nI (rf_sq _ (by omega) (by omega))) ?_
        refine wq_iret rfl ?_
        exact ansQ (K _ (lo_R (fr_trans (fr_trans (fr_refl xR σ) (fr_mono F8 xC_R)) F9)) (mi_k hMR hMT (fr_trans (fr_trans (fr_refl xR σ) (fr_mono F8 xC_R)) F9) (fg_trans (fg_trans (fg_refl yC g) G8) (fg_mono G9 yB_C)) M9)) (by simp only [F_chairIn, ec, et, en, od_s, od_n, od_c] <;> first | rfl | simp [od_c])
      · skip
        refine wq_zne rfl (by first | omega | decide | exact Nat.lt_of_le_of_lt Nat.and_le_right (by decide) | exact ⟨by omega, by omega⟩) (fun c => absurd c (by omega)) (fun c9 => ?_)
        refine wq_go rfl (fun _ => rfl) ?_
        refine wq_iret rfl ?_
        exact ansQ (K _ (lo_R (fr_refl xR σ)) (mi_k hMR hMT (fr_refl xR σ) (fg_refl yC g) hM)) (by simp only [F_chairIn, ec, et, en, od_s, od_n, od_c] <;> first | rfl | simp [od_c])
    · skip
      refine wq_zeq rfl (by first | omega | decide | exact Nat.lt_of_le_of_lt Nat.and_le_right (by decide) | exact ⟨by omega, by omega⟩) (fun c6 => ?_) (fun c => absurd (show _ from by omega) c)
      refine wq_go rfl (fun _ => rfl) ?_
      refine wq_iret rfl ?_
      exact ansQ (K _ (lo_R (fr_refl xR σ)) (mi_k hMR hMT (fr_refl xR σ) (fg_refl yC g) hM)) (by simp only [F_chairIn, ec, et, od_s, od_n, od_c] <;> first | rfl | simp [od_c])
  · skip
    refine wq_zeq rfl (by first | omega | decide | exact Nat.lt_of_le_of_lt Nat.and_le_right (by decide) | exact ⟨by omega, by omega⟩) (fun c3 => ?_) (fun c => absurd (show _ from by omega) c)
    refine wq_go rfl (fun _ => rfl) ?_
    refine wq_iret rfl ?_
    exact ansQ (K _ (lo_R (fr_refl xR σ)) (mi_k hMR hMT (fr_refl xR σ) (fg_refl yC g) hM)) (by simp only [F_chairIn, ec, od_s, od_n, od_c] <;> first | rfl | simp [od_c])
theorem mk_then {n : Nat} {A : Sy} (hn : n < 512) (hA : Aok n A) (a0 a1 : Int32) : MOk ax_cd322 [.int a0, .int a1] A A (F_then A a0 a1) := by
  intro xs d σ Q hI K
  obtain ⟨hPok, ⟨hok, hhr72, hzq, hsum⟩, hAH, hAZ, hAn, hAh, hTok, hAl⟩ := hA
  have hP' := hPok
  obtain ⟨hP1, hP2, hP3, hP4, hP5, hP6, hP7, hP8, hPv, hPm, hPo, hPw, hPl⟩ := hP'
  have hok' := hok
  obtain ⟨hot, hoh, hosc, hokp⟩ := hok'
  have hI0 := hI
  obtain ⟨L, g, hM, hMR, hMT⟩ := hI0
  have hN : NwIs σ (AS A) := hMR.1
  have hL2 := md_l2 hM
  show Wq xs (d + 12) ax_cd322 0 [(0, .ref 287), (1, .int a0), (2, .int a1)] [] σ Q
  refine wq_go rfl (fun _ => rfl) ?_
  refine wq_callS rfl (Nat.le_of_ble_eq_true rfl) rfl (Nat.le_of_ble_eq_true rfl) (Nat.le_of_ble_eq_true rfl) rfl rfl ?_
  refine m_isLong  (fun n ln qn en => ?_) (fun en => ?_)
  · subst qn
    refine wq_zeq rfl (by first | omega | decide | exact Nat.lt_of_le_of_lt Nat.and_le_right (by decide) | exact ⟨by omega, by omega⟩) (fun c => absurd c (by omega)) (fun c2 => ?_)
    refine wq_go rfl (fun _ => rfl) ?_
    refine wq_cN (m := 0) rfl rfl ?_
    refine wq_cN (m := 4) rfl rfl ?_
    refine wq_callS rfl (Nat.le_of_ble_eq_true rfl) rfl (Nat.le_of_ble_eq_true rfl) (Nat.le_of_ble_eq_true rfl) rfl rfl ?_
    refine m_in (n := 5) (by decide) (fun w lw qw ew => ?_) (fun ew => ?_)
    · subst qw
      have ow : w = 0 ∨ w = 1 ∨ w = 2 ∨ w = 3 ∨ w = 4 := by omega
      rcases ow with rfl | rfl | rfl | rfl | rfl
      · skip
        refine wq_zne rfl (by first | omega | decide | exact Nat.lt_of_le_of_lt Nat.and_le_right (by decide) | exact ⟨by omega, by omega⟩) (fun c7 => ?_) (fun c => absurd (show _ from by omega) c)
        refine wq_go rfl (fun _ => rfl) ?_
        refine wq_callV rfl rfl (by first | rfl | assumption) (by first | decide | omega | assumption) (Nat.le_of_ble_eq_true rfl) (Nat.le_of_ble_eq_true rfl) rfl rfl ?_
        refine m_copies hM hN (fun σ7 g7 F7 G7 s7 t7 M7 R7 => ?_)
        have W7 : NwIs σ7 (AS A) := (F7 322 rfl).trans hN
        refine wq_go rfl (fun _ => rfl) ?_
        refine wq_go rfl (fun _ => rfl) ?_
        refine wq_callV rfl rfl (by first | rfl | assumption) (by first | decide | omega | assumption) (Nat.le_of_ble_eq_true rfl) (Nat.le_of_ble_eq_true rfl) rfl rfl ?_
        refine m_goes M7 hok R7 hzq (mo := 1) (by decide) t7 s7 (n := n) (by omega) (by omega) (fun σ8 g8 F8 G8 M8 R8 => ?_)
        have W8 : NwIs σ8 (AS A) := (F8 322 rfl).trans W7
        refine wq_go rfl (fun _ => rfl) ?_
        refine wq_cN (m := 4) rfl rfl ?_
        refine wq_cne rfl (by first | omega | decide | exact Nat.lt_of_le_of_lt Nat.and_le_right (by decide) | exact ⟨by omega, by omega⟩) (by first | omega | decide | exact Nat.lt_of_le_of_lt Nat.and_le_right (by decide) | exact ⟨by omega, by omega⟩) (fun c17 => ?_) (fun c => absurd (show _ from by omega) c)
        refine wq_go rfl (fun _ => rfl) ?_
        refine wq_go rfl (fun _ => rfl) ?_
        refine wq_callV rfl rfl (by first | rfl | assumption) (by first | decide | omega | assumption) (Nat.le_of_ble_eq_true rfl) (Nat.le_of_ble_eq_true rfl) rfl rfl ?_
        refine m_sayers M8 (go_ok hPok hok 1 (Psd (AP A)) n (by omega)) R8 (by omega) ?_
        refine wq_iret rfl ?_
        exact ansQ (K _ (lo_R (fr_trans (fr_trans (fr_refl xR σ) (fr_mono F7 xC_R)) F8)) (mi_k hMR hMT (fr_trans (fr_trans (fr_refl xR σ) (fr_mono F7 xC_R)) F8) (fg_trans (fg_trans (fg_refl yC g) G7) (fg_mono G8 yB_C)) M8)) (by simp only [F_then, en, ew, od_s, od_n, od_c] <;> first | rfl | simp [od_c])
      · skip
        refine wq_zne rfl (by first | omega | decide | exact Nat.lt_of_le_of_lt Nat.and_le_right (by decide) | exact ⟨by omega, by omega⟩) (fun c7 => ?_) (fun c => absurd (show _ from by omega) c)
        refine wq_go rfl (fun _ => rfl) ?_
        refine wq_callV rfl rfl (by first | rfl | assumption) (by first | decide | omega | assumption) (Nat.le_of_ble_eq_true rfl) (Nat.le_of_ble_eq_true rfl) rfl rfl ?_
        refine m_copies hM hN (fun σ10 g10 F10 G10 s10 t10 M10 R10 => ?_)
        have W10 : NwIs σ10 (AS A) := (F10 322 rfl).trans hN
        refine wq_go rfl (fun _ => rfl) ?_
        refine wq_go rfl (fun _ => rfl) ?_
        refine wq_callV rfl rfl (by first | rfl | assumption) (by first | decide | omega | assumption) (Nat.le_of_ble_eq_true rfl) (Nat.le_of_ble_eq_true rfl) rfl rfl ?_
        refine m_goes M10 hok R10 hzq (mo := 1) (by decide) t10 s10 (n := n) (by omega) (by omega) (fun σ11 g11 F11 G11 M11 R11 => ?_)
        have W11 : NwIs σ11 (AS A) := (F11 322 rfl).trans W10
        refine wq_go rfl (fun _ => rfl) ?_
        refine wq_cN (m := 4) rfl rfl ?_
        refine wq_cne rfl (by first | omega | decide | exact Nat.lt_of_le_of_lt Nat.and_le_right (by decide) | exact ⟨by omega, by omega⟩) (by first | omega | decide | exact Nat.lt_of_le_of_lt Nat.and_le_right (by decide) | exact ⟨by omega, by omega⟩) (fun c17 => ?_) (fun c => absurd (show _ from by omega) c)
        refine wq_go rfl (fun _ => rfl) ?_
        refine wq_go rfl (fun _ => rfl) ?_
        refine wq_callV rfl rfl (by first | rfl | assumption) (by first | decide | omega | assumption) (Nat.le_of_ble_eq_true rfl) (Nat.le_of_ble_eq_true rfl) rfl rfl ?_
        refine m_sayers M11 (go_ok hPok hok 1 (Psd (AP A)) n (by omega)) R11 (by omega) ?_
        refine wq_iret rfl ?_
        exact ansQ (K _ (lo_R (fr_trans (fr_trans (fr_refl xR σ) (fr_mono F10 xC_R)) F11)) (mi_k hMR hMT (fr_trans (fr_trans (fr_refl xR σ) (fr_mono F10 xC_R)) F11) (fg_trans (fg_trans (fg_refl yC g) G10) (fg_mono G11 yB_C)) M11)) (by simp only [F_then, en, ew, od_s, od_n, od_c] <;> first | rfl | simp [od_c])
      · skip
        refine wq_zne rfl (by first | omega | decide | exact Nat.lt_of_le_of_lt Nat.and_le_right (by decide) | exact ⟨by omega, by omega⟩) (fun c7 => ?_) (fun c => absurd (show _ from by omega) c)
        refine wq_go rfl (fun _ => rfl) ?_
        refine wq_callV rfl rfl (by first | rfl | assumption) (by first | decide | omega | assumption) (Nat.le_of_ble_eq_true rfl) (Nat.le_of_ble_eq_true rfl) rfl rfl ?_
        refine m_copies hM hN (fun σ13 g13 F13 G13 s13 t13 M13 R13 => ?_)
        have W13 : NwIs σ13 (AS A) := (F13 322 rfl).trans hN
        refine wq_go rfl (fun _ => rfl) ?_
        refine wq_go rfl (fun _ => rfl) ?_
        refine wq_callV rfl rfl (by first | rfl | assumption) (by first | decide | omega | assumption) (Nat.le_of_ble_eq_true rfl) (Nat.le_of_ble_eq_true rfl) rfl rfl ?_
        refine m_goes M13 hok R13 hzq (mo := 1) (by decide) t13 s13 (n := n) (by omega) (by omega) (fun σ14 g14 F14 G14 M14 R14 => ?_)
        have W14 : NwIs σ14 (AS A) := (F14 322 rfl).trans W13
        refine wq_go rfl (fun _ => rfl) ?_
        refine wq_cN (m := 4) rfl rfl ?_
        refine wq_cne rfl (by first | omega | decide | exact Nat.lt_of_le_of_lt Nat.and_le_right (by decide) | exact ⟨by omega, by omega⟩) (by first | omega | decide | exact Nat.lt_of_le_of_lt Nat.and_le_right (by decide) | exact ⟨by omega, by omega⟩) (fun c17 => ?_) (fun c => absurd (show _ from by omega) c)
        refine wq_go rfl (fun _ => rfl) ?_
        refine wq_go rfl (fun _ => rfl) ?_
        refine wq_callV rfl rfl (by first | rfl | assumption) (by first | decide | omega | assumption) (Nat.le_of_ble_eq_true rfl) (Nat.le_of_ble_eq_true rfl) rfl rfl ?_
        refine m_sayers M14 (go_ok hPok hok 1 (Psd (AP A)) n (by omega)) R14 (by omega) ?_
        refine wq_iret rfl ?_
        exact ansQ (K _ (lo_R (fr_trans (fr_trans (fr_refl xR σ) (fr_mono F13 xC_R)) F14)) (mi_k hMR hMT (fr_trans (fr_trans (fr_refl xR σ) (fr_mono F13 xC_R)) F14) (fg_trans (fg_trans (fg_refl yC g) G13) (fg_mono G14 yB_C)) M14)) (by simp only [F_then, en, ew, od_s, od_n, od_c] <;> first | rfl | simp [od_c])
      · skip
        refine wq_zne rfl (by first | omega | decide | exact Nat.lt_of_le_of_lt Nat.and_le_right (by decide) | exact ⟨by omega, by omega⟩) (fun c7 => ?_) (fun c => absurd (show _ from by omega) c)
        refine wq_go rfl (fun _ => rfl) ?_
        refine wq_callV rfl rfl (by first | rfl | assumption) (by first | decide | omega | assumption) (Nat.le_of_ble_eq_true rfl) (Nat.le_of_ble_eq_true rfl) rfl rfl ?_
        refine m_copies hM hN (fun σ16 g16 F16 G16 s16 t16 M16 R16 => ?_)
        have W16 : NwIs σ16 (AS A) := (F16 322 rfl).trans hN
        refine wq_go rfl (fun _ => rfl) ?_
        refine wq_go rfl (fun _ => rfl) ?_
        refine wq_callV rfl rfl (by first | rfl | assumption) (by first | decide | omega | assumption) (Nat.le_of_ble_eq_true rfl) (Nat.le_of_ble_eq_true rfl) rfl rfl ?_
        refine m_goes M16 hok R16 hzq (mo := 1) (by decide) t16 s16 (n := n) (by omega) (by omega) (fun σ17 g17 F17 G17 M17 R17 => ?_)
        have W17 : NwIs σ17 (AS A) := (F17 322 rfl).trans W16
        refine wq_go rfl (fun _ => rfl) ?_
        refine wq_cN (m := 4) rfl rfl ?_
        refine wq_cne rfl (by first | omega | decide | exact Nat.lt_of_le_of_lt Nat.and_le_right (by decide) | exact ⟨by omega, by omega⟩) (by first | omega | decide | exact Nat.lt_of_le_of_lt Nat.and_le_right (by decide) | exact ⟨by omega, by omega⟩) (fun c17 => ?_) (fun c => absurd (show _ from by omega) c)
        refine wq_go rfl (fun _ => rfl) ?_
        refine wq_go rfl (fun _ => rfl) ?_
        refine wq_callV rfl rfl (by first | rfl | assumption) (by first | decide | omega | assumption) (Nat.le_of_ble_eq_true rfl) (Nat.le_of_ble_eq_true rfl) rfl rfl ?_
        refine m_sayers M17 (go_ok hPok hok 1 (Psd (AP A)) n (by omega)) R17 (by omega) ?_
        refine wq_iret rfl ?_
        exact ansQ (K _ (lo_R (fr_trans (fr_trans (fr_refl xR σ) (fr_mono F16 xC_R)) F17)) (mi_k hMR hMT (fr_trans (fr_trans (fr_refl xR σ) (fr_mono F16 xC_R)) F17) (fg_trans (fg_trans (fg_refl yC g) G16) (fg_mono G17 yB_C)) M17)) (by simp only [F_then, en, ew, od_s, od_n, od_c] <;> first | rfl | simp [od_c])
      · skip
        refine wq_zne rfl (by first | omega | decide | exact Nat.lt_of_le_of_lt Nat.and_le_right (by decide) | exact ⟨by omega, by omega⟩) (fun c7 => ?_) (fun c => absurd (show _ from by omega) c)
        refine wq_go rfl (fun _ => rfl) ?_
        refine wq_callV rfl rfl (by first | rfl | assumption) (by first | decide | omega | assumption) (Nat.le_of_ble_eq_true rfl) (Nat.le_of_ble_eq_true rfl) rfl rfl ?_
        refine m_copies hM hN (fun σ19 g19 F19 G19 s19 t19 M19 R19 => ?_)
        have W19 : NwIs σ19 (AS A) := (F19 322 rfl).trans hN
        refine wq_go rfl (fun _ => rfl) ?_
        refine wq_go rfl (fun _ => rfl) ?_
        refine wq_callV rfl rfl (by first | rfl | assumption) (by first | decide | omega | assumption) (Nat.le_of_ble_eq_true rfl) (Nat.le_of_ble_eq_true rfl) rfl rfl ?_
        refine m_goes M19 hok R19 hzq (mo := 1) (by decide) t19 s19 (n := n) (by omega) (by omega) (fun σ20 g20 F20 G20 M20 R20 => ?_)
        have W20 : NwIs σ20 (AS A) := (F20 322 rfl).trans W19
        refine wq_go rfl (fun _ => rfl) ?_
        refine wq_cN (m := 4) rfl rfl ?_
        refine wq_cne rfl (by first | omega | decide | exact Nat.lt_of_le_of_lt Nat.and_le_right (by decide) | exact ⟨by omega, by omega⟩) (by first | omega | decide | exact Nat.lt_of_le_of_lt Nat.and_le_right (by decide) | exact ⟨by omega, by omega⟩) (fun c => absurd c (by omega)) (fun c17 => ?_)
        refine wq_go rfl (fun _ => rfl) ?_
        refine wq_getf rfl (by first | rfl | assumption) (by first | decide | omega | assumption) (md_o M20) rfl ?_
        refine wq_cN (m := 60) rfl rfl ?_
        refine wq_ialdN rfl (by first | rfl | assumption) (by first | decide | omega | assumption) R20 rfl (by omega) (by first | decide | omega) ?_
        refine wq_top (congrArg nI (rf_sd _)) ?_
        refine wq_go rfl (fun _ => rfl) ?_
        refine wq_iret rfl ?_
        exact ansQ (K _ (lo_R (fr_trans (fr_trans (fr_refl xR σ) (fr_mono F19 xC_R)) F20)) (mi_k hMR hMT (fr_trans (fr_trans (fr_refl xR σ) (fr_mono F19 xC_R)) F20) (fg_trans (fg_trans (fg_refl yC g) G19) (fg_mono G20 yB_C)) M20)) (by simp only [F_then, en, ew, od_s, od_n, od_c] <;> first | rfl | simp [od_c])
    · skip
      refine wq_zne rfl (by first | omega | decide | exact Nat.lt_of_le_of_lt Nat.and_le_right (by decide) | exact ⟨by omega, by omega⟩) (fun c => absurd c (by omega)) (fun c7 => ?_)
      refine wq_go rfl (fun _ => rfl) ?_
      refine wq_iret rfl ?_
      exact ansQ (K _ (lo_R (fr_refl xR σ)) (mi_k hMR hMT (fr_refl xR σ) (fg_refl yC g) hM)) (by simp only [F_then, en, ew, od_s, od_n, od_c] <;> first | rfl | simp [od_c])
  · skip
    refine wq_zeq rfl (by first | omega | decide | exact Nat.lt_of_le_of_lt Nat.and_le_right (by decide) | exact ⟨by omega, by omega⟩) (fun c2 => ?_) (fun c => absurd (show _ from by omega) c)
    refine wq_go rfl (fun _ => rfl) ?_
    refine wq_iret rfl ?_
    exact ansQ (K _ (lo_R (fr_refl xR σ)) (mi_k hMR hMT (fr_refl xR σ) (fg_refl yC g) hM)) (by simp only [F_then, en, od_s, od_n, od_c] <;> first | rfl | simp [od_c])
theorem mk_year {n : Nat} {A : Sy} (hn : n < 512) (hA : Aok n A) (a0 a1 a2 a3 : Int32) : MOk ax_cd323 [.int a0, .int a1, .int a2, .int a3] A A (F_year A a0 a1 a2 a3) := by
  intro xs d σ Q hI K
  obtain ⟨hPok, ⟨hok, hhr72, hzq, hsum⟩, hAH, hAZ, hAn, hAh, hTok, hAl⟩ := hA
  have hP' := hPok
  obtain ⟨hP1, hP2, hP3, hP4, hP5, hP6, hP7, hP8, hPv, hPm, hPo, hPw, hPl⟩ := hP'
  have hok' := hok
  obtain ⟨hot, hoh, hosc, hokp⟩ := hok'
  have hI0 := hI
  obtain ⟨L, g, hM, hMR, hMT⟩ := hI0
  have hN : NwIs σ (AS A) := hMR.1
  have hL2 := md_l2 hM
  show Wq xs (d + 12) ax_cd323 0 [(0, .ref 287), (1, .int a0), (2, .int a1), (3, .int a2), (4, .int a3)] [] σ Q
  refine wq_go rfl (fun _ => rfl) ?_
  refine wq_go rfl (fun _ => rfl) ?_
  refine wq_callV rfl rfl (by first | rfl | assumption) (by first | decide | omega | assumption) (Nat.le_of_ble_eq_true rfl) (Nat.le_of_ble_eq_true rfl) rfl rfl ?_
  refine m_isHead hM (fun h lh qh eh => ?_) (fun eh => ?_)
  · subst qh
    refine wq_zeq rfl (by first | omega | decide | exact Nat.lt_of_le_of_lt Nat.and_le_right (by decide) | exact ⟨by omega, by omega⟩) (fun c => absurd c (by omega)) (fun c3 => ?_)
    refine wq_go rfl (fun _ => rfl) ?_
    refine wq_callS rfl (Nat.le_of_ble_eq_true rfl) rfl (Nat.le_of_ble_eq_true rfl) (Nat.le_of_ble_eq_true rfl) rfl rfl ?_
    refine m_isThought  (fun t lt qt et => ?_) (fun et => ?_)
    · subst qt
      refine wq_zeq rfl (by first | omega | decide | exact Nat.lt_of_le_of_lt Nat.and_le_right (by decide) | exact ⟨by omega, by omega⟩) (fun c => absurd c (by omega)) (fun c6 => ?_)
      refine wq_go rfl (fun _ => rfl) ?_
      refine wq_callS rfl (Nat.le_of_ble_eq_true rfl) rfl (Nat.le_of_ble_eq_true rfl) (Nat.le_of_ble_eq_true rfl) rfl rfl ?_
      refine m_isLong  (fun n ln qn en => ?_) (fun en => ?_)
      · subst qn
        refine wq_zeq rfl (by first | omega | decide | exact Nat.lt_of_le_of_lt Nat.and_le_right (by decide) | exact ⟨by omega, by omega⟩) (fun c => absurd c (by omega)) (fun c9 => ?_)
        refine wq_go rfl (fun _ => rfl) ?_
        refine wq_cN (m := 1) rfl rfl ?_
        refine wq_cN (m := 20) rfl rfl ?_
        refine wq_callS rfl (Nat.le_of_ble_eq_true rfl) rfl (Nat.le_of_ble_eq_true rfl) (Nat.le_of_ble_eq_true rfl) rfl rfl ?_
        refine m_in1 (by decide) (fun w lw qw ew z0 => ?_) (fun ew => ?_)
        · subst qw
          refine wq_zne rfl (by first | omega | decide | exact Nat.lt_of_le_of_lt Nat.and_le_right (by decide) | exact ⟨by omega, by omega⟩) (fun c14 => ?_) (fun c => absurd (show _ from by omega) c)
          refine wq_cN (m := 0) rfl rfl ?_
          refine wq_go rfl (fun _ => rfl) ?_
          refine wq_cN (m := 0) rfl rfl ?_
          refine wq_go rfl (fun _ => rfl) ?_
          exact wq_lv ⟨(by decide : ([6, 5, 0, 1, 2, 3, 4] : List Nat).Nodup), (lvm (List.mem_of_getElem? (i := 0) rfl) (lvm (List.mem_of_getElem? (i := 1) rfl) (lvm (List.mem_of_getElem? (i := 2) rfl) (lvm (List.mem_of_getElem? (i := 3) rfl) (lvm (List.mem_of_getElem? (i := 4) rfl) (lvm (List.mem_of_getElem? (i := 5) rfl) (lvm (List.mem_of_getElem? (i := 6) rfl) lvn)))))))⟩ (m_year_l hL2 hPok hok hzq lh lt (by omega) (by omega) (by omega) (fun σ9 g9 F9 G9 M9 => ansQ (K _ (lo_R (fr_trans (fr_refl xR σ) F9)) (mi_k hMR hMT (fr_trans (fr_refl xR σ) F9) (fg_trans (fg_refl yC g) G9) M9)) (by simp only [F_year, eh, et, en, ew, od_s, od_n, od_c, year_eq] <;> first | rfl | exact (if_neg z0).symm)) w 0 rfl σ g (fr_refl _ _) (fg_refl _ _) hM hN)
        · skip
          refine wq_zne rfl (by first | omega | decide | exact Nat.lt_of_le_of_lt Nat.and_le_right (by decide) | exact ⟨by omega, by omega⟩) (fun c => absurd c (by omega)) (fun c14 => ?_)
          refine wq_go rfl (fun _ => rfl) ?_
          refine wq_iret rfl ?_
          exact ansQ (K _ (lo_R (fr_refl xR σ)) (mi_k hMR hMT (fr_refl xR σ) (fg_refl yC g) hM)) (by simp only [F_year, eh, et, en, od_s, od_n, od_c] <;> first | rfl | exact (ew _).symm)
      · skip
        refine wq_zeq rfl (by first | omega | decide | exact Nat.lt_of_le_of_lt Nat.and_le_right (by decide) | exact ⟨by omega, by omega⟩) (fun c9 => ?_) (fun c => absurd (show _ from by omega) c)
        refine wq_go rfl (fun _ => rfl) ?_
        refine wq_iret rfl ?_
        exact ansQ (K _ (lo_R (fr_refl xR σ)) (mi_k hMR hMT (fr_refl xR σ) (fg_refl yC g) hM)) (by simp only [F_year, eh, et, en, od_s, od_n, od_c] <;> first | rfl | exact (ew _).symm)
    · skip
      refine wq_zeq rfl (by first | omega | decide | exact Nat.lt_of_le_of_lt Nat.and_le_right (by decide) | exact ⟨by omega, by omega⟩) (fun c6 => ?_) (fun c => absurd (show _ from by omega) c)
      refine wq_go rfl (fun _ => rfl) ?_
      refine wq_iret rfl ?_
      exact ansQ (K _ (lo_R (fr_refl xR σ)) (mi_k hMR hMT (fr_refl xR σ) (fg_refl yC g) hM)) (by simp only [F_year, eh, et, od_s, od_n, od_c] <;> first | rfl | exact (ew _).symm)
  · skip
    refine wq_zeq rfl (by first | omega | decide | exact Nat.lt_of_le_of_lt Nat.and_le_right (by decide) | exact ⟨by omega, by omega⟩) (fun c3 => ?_) (fun c => absurd (show _ from by omega) c)
    refine wq_go rfl (fun _ => rfl) ?_
    refine wq_iret rfl ?_
    exact ansQ (K _ (lo_R (fr_refl xR σ)) (mi_k hMR hMT (fr_refl xR σ) (fg_refl yC g) hM)) (by simp only [F_year, eh, od_s, od_n, od_c] <;> first | rfl | exact (ew _).symm)
