/-! HOURS, BY THE REFERENCE -/
def Zq (P : Pl) (S : St) : Prop := Pch P = 0 → ∀ i, i < 4 → Ssq S i = 0
theorem vis_z {P : Pl} (hP : Pok P) {S : St} (hz : Zq P S) : ∀ u, u ≤ Pvs P → Zq P (visS P S u)
  | 0, _ => hz
  | u + 1, hu => by
    intro h0
    have := (hP.2.2.2.2.2.2.2.2.1 u (by omega)).2.1
    omega
theorem fades_z {P : Pl} {S : St} (hz : Zq P S) : ∀ u, Zq P (fadesS P S u)
  | 0 => hz
  | u + 1 => fades_z hz u
theorem hour2_0 {P : Pl} {S : St} (hz : Zq P S) (h0 : Pch P = 0) (mo sd : Nat) : hour2 P mo sd S = S := by
  unfold hour2
  split
  · have : mothC P sd S = 0 := by
      unfold mothC lotN
      rw [if_pos h0]
    rw [this]
    exact moth_0 (hz h0)
  · rfl
theorem hour_z {P : Pl} (hP : Pok P) {S : St} (hz : Zq P S) (mo sd : Nat) : Zq P (hourS P mo sd S) := by
  intro h0
  have h1 := vis_z hP hz (Pvs P) (Nat.le_refl _)
  have h2 : Zq P (fadesS P (hour2 P mo sd (visS P S (Pvs P))) (Phd P)) := by
    rw [hour2_0 h1 h0]
    exact fades_z h1 _
  have h3 := h2 h0
  unfold hourS hour3 hour4
  split
  · rw [h0]
    exact h3
  · exact h3
theorem go_z {P : Pl} (hP : Pok P) {S : St} (hz : Zq P S) (mo sd : Nat) : ∀ u, Zq P (goS P mo sd S u)
  | 0 => hz
  | u + 1 => hour_z hP (go_z hP hz mo sd u) mo sd

theorem m_isMoth {xs : List Int32} {d : Nat} {σ : Nat → List Value} {Q : Option Value → (Nat → List Value) → Prop} {P : Pl} {L : Nat} {g : Nat → Int32} (hM : MD P L g σ) {S : St} (hok : Sok S) (hR : RwIs σ S) {sd : Nat} (hs : g 54 = nI sd) (K1 : mothB P sd S = true → Q (some (.int (nI 1))) σ) (K0 : mothB P sd S = false → Q (some (.int (nI 0))) σ) : Wq xs (d + 2) ax_cd287 0 [(0, .ref 287)] [] σ Q := by
  have hL2 := md_l2 hM
  obtain ⟨hP1, hP2, hP3, hP4, hP5, hP6, hP7, hP8, hPv, hPm, hPo, hPw, hPl⟩ := md_pok hM
  have hhr := hok.2.1
  have hlt := lotN_lt (s := nI sd) (w := nI (8 * Shr S)) (n := 100) (by decide)
  refine wq_go rfl (fun _ => rfl) ?_
  refine wq_cN (m := 8) rfl rfl ?_
  refine wq_go rfl (fun _ => rfl) ?_
  refine wq_getf rfl (by first | rfl | assumption) (by first | decide | omega | assumption) (md_o hM) rfl ?_
  refine wq_cN (m := 59) rfl rfl ?_
  refine wq_ialdN rfl (by first | rfl | assumption) (by first | decide | omega | assumption) hR rfl (by omega) (by first | decide | omega) ?_
  refine wq_top (congrArg nI (rf_hr S)) ?_
  refine wq_mulN rfl ?_
  refine wq_cN (m := 100) rfl rfl ?_
  refine wq_callV rfl rfl (by first | rfl | assumption) (by first | decide | omega | assumption) (Nat.le_of_ble_eq_true rfl) (Nat.le_of_ble_eq_true rfl) rfl rfl ?_
  refine m_lotOf hM hs (by decide) (by decide) ?_
  refine wq_go rfl (fun _ => rfl) ?_
  refine wq_getf rfl (by first | rfl | assumption) (by first | decide | omega | assumption) (md_o hM) rfl ?_
  refine wq_go rfl (fun _ => rfl) ?_
  refine wq_getf rfl (by first | rfl | assumption) (by first | decide | omega | assumption) (md_o hM) rfl ?_
  refine wq_top (md_l hM) ?_
  refine wq_iald rfl (by first | rfl | assumption) (by first | decide | omega | assumption) (md_c308 hM) rfl (by omega) (by first | decide | omega) ?_
  refine wq_top (md_m308 hM) ?_
  refine wq_cge rfl (by first | omega | decide | exact Nat.lt_of_le_of_lt Nat.and_le_right (by decide) | exact ⟨by omega, by omega⟩) (by first | omega | decide | exact Nat.lt_of_le_of_lt Nat.and_le_right (by decide) | exact ⟨by omega, by omega⟩) (fun c14 => ?_) (fun c14 => ?_)
  · skip
    refine wq_cN (m := 0) rfl rfl ?_
    refine wq_nret rfl (by decide) ?_
    first | exact K1 (decide_eq_true (by omega)) | exact K0 (decide_eq_false (by omega))
  · skip
    refine wq_cN (m := 1) rfl rfl ?_
    refine wq_go rfl (fun _ => rfl) ?_
    refine wq_nret rfl (by decide) ?_
    first | exact K1 (decide_eq_true (by omega)) | exact K0 (decide_eq_false (by omega))
theorem m_hr_t {xs : List Int32} {d : Nat} {σ : Nat → List Value} {Q : Option Value → (Nat → List Value) → Prop} {P : Pl} {L : Nat} {g : Nat → Int32} (hL2 : L < 2) (hP : Pok P) {S : St} (hok : Sok S) (K : ∀ σ' g', Fr xR σ σ' → FrG yB g g' → MD P L g' σ' → RwIs σ' (hour4 P S) → Q (none) σ') (σ1 : Nat → List Value) (g1 : Nat → Int32) (hF1 : Fr xR σ σ1) (hG1 : FrG yB g g1) (hM1 : MD P L g1 σ1) (hR1 : RwIs σ1 (S)) : Wq xs (d + 5) ax_cd286 183 [(0, .ref 287)] [] σ1 Q := by
  have hP' := hP
  obtain ⟨hP1, hP2, hP3, hP4, hP5, hP6, hP7, hP8, hPv, hPm, hPo, hPw, hPl⟩ := hP'
  have hhr := hok.2.1
  refine wq_go rfl (fun _ => rfl) ?_
  refine wq_getf rfl (by first | rfl | assumption) (by first | decide | omega | assumption) (md_o hM1) rfl ?_
  refine wq_cN (m := 59) rfl rfl ?_
  refine wq_go rfl (fun _ => rfl) ?_
  refine wq_ialdN rfl (by first | rfl | assumption) (by first | decide | omega | assumption) hR1 rfl (by omega) (by first | decide | omega) ?_
  refine wq_top (congrArg nI (rf_hr S)) ?_
  refine wq_cN (m := 1) rfl rfl ?_
  refine wq_addN rfl ?_
  refine wq_iastN rfl (by first | rfl | assumption) (by first | decide | omega | assumption) hR1 rfl (by omega) (by first | decide | omega) ?_
  refine wq_end rfl (fun _ => rfl) ?_
  exact K _ g1 (fr_up hF1 rfl) hG1 (md_u323 hM1) (rw_up (fun i hi => rf_h1 S hi))
theorem m_hr_c {xs : List Int32} {d : Nat} {σ : Nat → List Value} {Q : Option Value → (Nat → List Value) → Prop} {P : Pl} {L : Nat} {g : Nat → Int32} (hL2 : L < 2) (hP : Pok P) {S : St} (hok : Sok S)  (K : ∀ σ' g', Fr xR σ σ' → FrG yB g g' → MD P L g' σ' → RwIs σ' (hour4 P (washesS P S (Pch P))) → Q (none) σ') : ∀ (m u : Nat), m + u = Pch P → ∀ σ1 g1, Fr xR σ σ1 → FrG yB g g1 → MD P L g1 σ1 → RwIs σ1 (washesS P S u) → Wq xs (d + 5) ax_cd286 171 [(3, .int (nI u)), (0, .ref 287)] [] σ1 Q := by
  have hP' := hP
  obtain ⟨hP1, hP2, hP3, hP4, hP5, hP6, hP7, hP8, hPv, hPm, hPo, hPw, hPl⟩ := hP'
  have hhr := hok.2.1
  intro m
  induction m with
  | zero =>
    intro u hm σ1 g1 hF1 hG1 hM1 hR1
    refine wq_go rfl (fun _ => rfl) ?_
    refine wq_go rfl (fun _ => rfl) ?_
    refine wq_getf rfl (by first | rfl | assumption) (by first | decide | omega | assumption) (md_o hM1) rfl ?_
    refine wq_go rfl (fun _ => rfl) ?_
    refine wq_getf rfl (by first | rfl | assumption) (by first | decide | omega | assumption) (md_o hM1) rfl ?_
    refine wq_top (md_l hM1) ?_
    refine wq_iald rfl (by first | rfl | assumption) (by first | decide | omega | assumption) (md_c297 hM1) rfl (by omega) (by first | decide | omega) ?_
    refine wq_top (md_m297 hM1) ?_
    refine wq_cge rfl (by first | omega | decide | exact Nat.lt_of_le_of_lt Nat.and_le_right (by decide) | exact ⟨by omega, by omega⟩) (by first | omega | decide | exact Nat.lt_of_le_of_lt Nat.and_le_right (by decide) | exact ⟨by omega, by omega⟩) (fun c177 => ?_) (fun c => absurd (show _ from by omega) c)
    have hu : u = Pch P := by omega
    subst hu
    exact wq_lv ⟨(by decide : ([3, 0] : List Nat).Nodup), (lvm (List.mem_of_getElem? (i := 1) rfl) lvn)⟩ (m_hr_t hL2 hP (washes_ok hP hok (Pch P) (Nat.le_refl _)) K σ1 g1 hF1 hG1 hM1 hR1)
  | succ m ih =>
    intro u hm σ1 g1 hF1 hG1 hM1 hR1
    refine wq_go rfl (fun _ => rfl) ?_
    refine wq_go rfl (fun _ => rfl) ?_
    refine wq_getf rfl (by first | rfl | assumption) (by first | decide | omega | assumption) (md_o hM1) rfl ?_
    refine wq_go rfl (fun _ => rfl) ?_
    refine wq_getf rfl (by first | rfl | assumption) (by first | decide | omega | assumption) (md_o hM1) rfl ?_
    refine wq_top (md_l hM1) ?_
    refine wq_iald rfl (by first | rfl | assumption) (by first | decide | omega | assumption) (md_c297 hM1) rfl (by omega) (by first | decide | omega) ?_
    refine wq_top (md_m297 hM1) ?_
    refine wq_cge rfl (by first | omega | decide | exact Nat.lt_of_le_of_lt Nat.and_le_right (by decide) | exact ⟨by omega, by omega⟩) (by first | omega | decide | exact Nat.lt_of_le_of_lt Nat.and_le_right (by decide) | exact ⟨by omega, by omega⟩) (fun c => absurd c (by omega)) (fun c177 => ?_)
    refine wq_go rfl (fun _ => rfl) ?_
    refine wq_go rfl (fun _ => rfl) ?_
    refine wq_callV rfl rfl (by first | rfl | assumption) (by first | decide | omega | assumption) (Nat.le_of_ble_eq_true rfl) (Nat.le_of_ble_eq_true rfl) rfl rfl ?_
    refine m_isWashed hM1 (washes_ok hP hok u (by omega)) hR1 (by omega) (fun σ5 g5 F5 G5 M5 R5 => ?_)
    refine wq_incN rfl rfl rfl ?_
    refine wq_go rfl (fun _ => rfl) ?_
    exact ih (u + 1) (by omega) _ _ (fr_trans hF1 F5) (fg_trans hG1 G5) M5 R5
theorem m_hr_w {xs : List Int32} {d : Nat} {σ : Nat → List Value} {Q : Option Value → (Nat → List Value) → Prop} {P : Pl} {L : Nat} {g : Nat → Int32} (hL2 : L < 2) (hP : Pok P) {S : St} (hok : Sok S) (K : ∀ σ' g', Fr xR σ σ' → FrG yB g g' → MD P L g' σ' → RwIs σ' (hour3 P S) → Q (none) σ') (σ1 : Nat → List Value) (g1 : Nat → Int32) (hF1 : Fr xR σ σ1) (hG1 : FrG yB g g1) (hM1 : MD P L g1 σ1) (hR1 : RwIs σ1 (S)) : Wq xs (d + 5) ax_cd286 147 [(1, .int (nI (Shr S % 24))), (0, .ref 287)] [] σ1 Q := by
  have hP' := hP
  obtain ⟨hP1, hP2, hP3, hP4, hP5, hP6, hP7, hP8, hPv, hPm, hPo, hPw, hPl⟩ := hP'
  have hhr := hok.2.1
  refine wq_go rfl (fun _ => rfl) ?_
  refine wq_getf rfl (by first | rfl | assumption) (by first | decide | omega | assumption) (md_o hM1) rfl ?_
  refine wq_go rfl (fun _ => rfl) ?_
  refine wq_getf rfl (by first | rfl | assumption) (by first | decide | omega | assumption) (md_o hM1) rfl ?_
  refine wq_top (md_l hM1) ?_
  refine wq_iald rfl (by first | rfl | assumption) (by first | decide | omega | assumption) (md_c306 hM1) rfl (by omega) (by first | decide | omega) ?_
  refine wq_top (md_m306 hM1) ?_
  refine wq_go rfl (fun _ => rfl) ?_
  refine wq_go rfl (fun _ => rfl) ?_
  refine wq_zle rfl (by first | omega | decide | exact Nat.lt_of_le_of_lt Nat.and_le_right (by decide) | exact ⟨by omega, by omega⟩) (fun c154 => ?_) (fun c154 => ?_)
  · skip
    have K' := K
    rw [hour3, if_neg (show ¬ isWd P S = true from fun e => by have := of_decide_eq_true e; omega)] at K'
    exact wq_lv ⟨(by decide : ([2, 1, 0] : List Nat).Nodup), (lvm (List.mem_of_getElem? (i := 2) rfl) lvn)⟩ (m_hr_t hL2 hP hok K' σ1 g1 hF1 hG1 hM1 hR1)
  · skip
    refine wq_go rfl (fun _ => rfl) ?_
    refine wq_cN (m := 23) rfl rfl ?_
    refine wq_cne rfl (by first | omega | decide | exact Nat.lt_of_le_of_lt Nat.and_le_right (by decide) | exact ⟨by omega, by omega⟩) (by first | omega | decide | exact Nat.lt_of_le_of_lt Nat.and_le_right (by decide) | exact ⟨by omega, by omega⟩) (fun c157 => ?_) (fun c157 => ?_)
    · skip
      have K' := K
      rw [hour3, if_neg (show ¬ isWd P S = true from fun e => by have := of_decide_eq_true e; omega)] at K'
      exact wq_lv ⟨(by decide : ([2, 1, 0] : List Nat).Nodup), (lvm (List.mem_of_getElem? (i := 2) rfl) lvn)⟩ (m_hr_t hL2 hP hok K' σ1 g1 hF1 hG1 hM1 hR1)
    · skip
      refine wq_go rfl (fun _ => rfl) ?_
      refine wq_getf rfl (by first | rfl | assumption) (by first | decide | omega | assumption) (md_o hM1) rfl ?_
      refine wq_cN (m := 59) rfl rfl ?_
      refine wq_ialdN rfl (by first | rfl | assumption) (by first | decide | omega | assumption) hR1 rfl (by omega) (by first | decide | omega) ?_
      refine wq_top (congrArg nI (rf_hr S)) ?_
      refine wq_cN (m := 24) rfl rfl ?_
      refine wq_divN rfl (by first | decide | omega) (by first | decide | omega) (by first | decide | omega) ?_
      refine wq_cN (m := 1) rfl rfl ?_
      refine wq_addN rfl ?_
      refine wq_go rfl (fun _ => rfl) ?_
      have hmm := Nat.mod_lt (Shr S / 24 + 1) (y := Pmo P) (by omega)
      refine wq_remN rfl (by first | decide | omega) (by first | decide | omega) (by first | decide | omega) ?_
      refine wq_zne rfl (by first | omega | decide | exact Nat.lt_of_le_of_lt Nat.and_le_right (by decide) | exact ⟨by omega, by omega⟩) (fun c168 => ?_) (fun c168 => ?_)
      · skip
        have K' := K
        rw [hour3, if_neg (show ¬ isWd P S = true from fun e => by have := of_decide_eq_true e; omega)] at K'
        exact wq_lv ⟨(by decide : ([2, 1, 0] : List Nat).Nodup), (lvm (List.mem_of_getElem? (i := 2) rfl) lvn)⟩ (m_hr_t hL2 hP hok K' σ1 g1 hF1 hG1 hM1 hR1)
      · skip
        refine wq_cN (m := 0) rfl rfl ?_
        refine wq_go rfl (fun _ => rfl) ?_
        have K' := K
        rw [hour3, if_pos (show isWd P S = true from decide_eq_true ⟨by omega, by omega, by omega⟩)] at K'
        exact wq_lv ⟨(by decide : ([3, 2, 1, 0] : List Nat).Nodup), (lvm (List.mem_of_getElem? (i := 0) rfl) (lvm (List.mem_of_getElem? (i := 3) rfl) lvn))⟩ (m_hr_c hL2 hP hok K' (Pch P) 0 rfl σ1 g1 hF1 hG1 hM1 hR1)
theorem m_fade2 {xs : List Int32} {d : Nat} {σ : Nat → List Value} {Q : Option Value → (Nat → List Value) → Prop} {P : Pl} {L : Nat} {g : Nat → Int32} (hL2 : L < 2) (hP : Pok P) {S : St} (hok : Sok S) {h : Nat} (hh : h < Phd P) {hv : Nat}  (K : ∀ σ' g', Fr xR σ σ' → FrG yB g g' → MD P L g' σ' → RwIs σ' (fadeS P S h) → Wq xs (d + 5) ax_cd286 88 [(2, .int (nI (h + 1))), (1, .int (nI hv)), (0, .ref 287)] [] σ' Q) : ∀ (m u : Nat), m + u = 4 → ∀ σ1 g1 fA, Fr xR σ σ1 → FrG yB g g1 → MD P L g1 σ1 → RwIs σ1 (faS S h (fadeN P S h) u) → σ1 324 = arr 4 fA → (∀ j, j < 4 → fA j = (fun j => nI (fadeN P S h j)) j) → Wq xs (d + 5) ax_cd286 112 [(3, .int (nI u)), (2, .int (nI h)), (1, .int (nI hv)), (0, .ref 287)] [] σ1 Q := by
  have hP' := hP
  obtain ⟨hP1, hP2, hP3, hP4, hP5, hP6, hP7, hP8, hPv, hPm, hPo, hPw, hPl⟩ := hP'
  have hhr := hok.2.1
  intro m
  induction m with
  | zero =>
    intro u hm σ1 g1 fA hF1 hG1 hM1 hR1 hA1 hA
    refine wq_go rfl (fun _ => rfl) ?_
    refine wq_cN (m := 4) rfl rfl ?_
    refine wq_cge rfl (by first | omega | decide | exact Nat.lt_of_le_of_lt Nat.and_le_right (by decide) | exact ⟨by omega, by omega⟩) (by first | omega | decide | exact Nat.lt_of_le_of_lt Nat.and_le_right (by decide) | exact ⟨by omega, by omega⟩) (fun c114 => ?_) (fun c => absurd (show _ from by omega) c)
    refine wq_incN rfl rfl rfl ?_
    refine wq_go rfl (fun _ => rfl) ?_
    have hu4 : u = 4 := by omega
    subst hu4
    exact wq_lv ⟨(by decide : ([2, 3, 1, 0] : List Nat).Nodup), (lvm (List.mem_of_getElem? (i := 0) rfl) (lvm (List.mem_of_getElem? (i := 2) rfl) (lvm (List.mem_of_getElem? (i := 3) rfl) lvn)))⟩ (K σ1 g1 hF1 hG1 hM1 hR1)
  | succ m ih =>
    intro u hm σ1 g1 fA hF1 hG1 hM1 hR1 hA1 hA
    have hwl := fade_le P hok (h := h) (t := u) (by omega) (by omega)
    have e1 := fa_ow S h (fadeN P S h) u
    refine wq_go rfl (fun _ => rfl) ?_
    refine wq_cN (m := 4) rfl rfl ?_
    refine wq_cge rfl (by first | omega | decide | exact Nat.lt_of_le_of_lt Nat.and_le_right (by decide) | exact ⟨by omega, by omega⟩) (by first | omega | decide | exact Nat.lt_of_le_of_lt Nat.and_le_right (by decide) | exact ⟨by omega, by omega⟩) (fun c => absurd c (by omega)) (fun c114 => ?_)
    refine wq_go rfl (fun _ => rfl) ?_
    refine wq_getf rfl (by first | rfl | assumption) (by first | decide | omega | assumption) (md_o hM1) rfl ?_
    refine wq_cN (m := 24) rfl rfl ?_
    refine wq_cN (m := 4) rfl rfl ?_
    refine wq_go rfl (fun _ => rfl) ?_
    refine wq_mulN rfl ?_
    refine wq_addN rfl ?_
    refine wq_go rfl (fun _ => rfl) ?_
    refine wq_addN rfl ?_
    refine wq_go rfl (fun _ => rfl) ?_
    refine wq_ialdN rfl (by first | rfl | assumption) (by first | decide | omega | assumption) hR1 rfl (by omega) (by first | decide | omega) ?_
    refine wq_top (congrArg nI (rf_ow _ (by omega) (by omega))) ?_
    refine wq_go rfl (fun _ => rfl) ?_
    refine wq_getf rfl (by first | rfl | assumption) (by first | decide | omega | assumption) (md_o hM1) rfl ?_
    refine wq_go rfl (fun _ => rfl) ?_
    refine wq_iald rfl (by first | rfl | assumption) (by first | decide | omega | assumption) hA1 rfl (by omega) (by first | decide | omega) ?_
    refine wq_top (hA u (by omega)) ?_
    refine wq_subN rfl (by omega) ?_
    refine wq_iastN rfl (by first | rfl | assumption) (by first | decide | omega | assumption) hR1 rfl (by omega) (by first | decide | omega) ?_
    refine wq_go rfl (fun _ => rfl) ?_
    refine wq_getf rfl (by first | rfl | assumption) (by first | decide | omega | assumption) ((up_ne _ _ (by decide)).trans (md_o hM1)) rfl ?_
    refine wq_cN (m := 60) rfl rfl ?_
    refine wq_go rfl (fun _ => rfl) ?_
    refine wq_ialdN rfl (by first | rfl | assumption) (by first | decide | omega | assumption) (up_same _ _ _) rfl (by omega) (by first | decide | omega) ?_
    refine wq_top (congrArg nI ((updN_ne _ _ (by omega)).trans (rf_sd _))) ?_
    refine wq_go rfl (fun _ => rfl) ?_
    refine wq_getf rfl (by first | rfl | assumption) (by first | decide | omega | assumption) ((up_ne _ _ (by decide)).trans (md_o hM1)) rfl ?_
    refine wq_go rfl (fun _ => rfl) ?_
    refine wq_iald rfl (by first | rfl | assumption) (by first | decide | omega | assumption) ((up_ne _ _ (by decide)).trans hA1) rfl (by omega) (by first | decide | omega) ?_
    refine wq_top (hA u (by omega)) ?_
    refine wq_addN rfl ?_
    refine wq_iastN rfl (by first | rfl | assumption) (by first | decide | omega | assumption) (up_same _ _ _) rfl (by omega) (by first | decide | omega) ?_
    rw [up_up]
    refine wq_incN rfl rfl rfl ?_
    refine wq_go rfl (fun _ => rfl) ?_
    exact ih (u + 1) (by omega) _ g1 fA (fr_up hF1 rfl) hG1 (md_u323 hM1) (by rw [← faS_s S h (fadeN P S h) u]; exact rw_up (fun i hi => rf_OD _ (by omega) (by omega) hi)) ((up_ne _ _ (by decide)).trans hA1) hA
theorem m_fade1 {xs : List Int32} {d : Nat} {σ : Nat → List Value} {Q : Option Value → (Nat → List Value) → Prop} {P : Pl} {L : Nat} {g : Nat → Int32} (hL2 : L < 2) (hP : Pok P) {S : St} (hok : Sok S) {h : Nat} (hh : h < Phd P) {hv : Nat}  (K : ∀ σ' g', Fr xR σ σ' → FrG yB g g' → MD P L g' σ' → RwIs σ' (fadeS P S h) → Wq xs (d + 5) ax_cd286 88 [(2, .int (nI (h + 1))), (1, .int (nI hv)), (0, .ref 287)] [] σ' Q) : ∀ (m u : Nat), m + u = 4 → ∀ σ1 g1 fA, Fr xW σ σ1 → FrG yB g g1 → MD P L g1 σ1 → RwIs σ1 S → σ1 324 = arr 4 fA → (∀ j, j < u → fA j = (fun j => nI (fadeN P S h j)) j) → Wq xs (d + 5) ax_cd286 97 [(3, .int (nI u)), (2, .int (nI h)), (1, .int (nI hv)), (0, .ref 287)] [] σ1 Q := by
  have hP' := hP
  obtain ⟨hP1, hP2, hP3, hP4, hP5, hP6, hP7, hP8, hPv, hPm, hPo, hPw, hPl⟩ := hP'
  have hhr := hok.2.1
  intro m
  induction m with
  | zero =>
    intro u hm σ1 g1 fA hF1 hG1 hM1 hR1 hA1 hA
    refine wq_go rfl (fun _ => rfl) ?_
    refine wq_cN (m := 4) rfl rfl ?_
    refine wq_cge rfl (by first | omega | decide | exact Nat.lt_of_le_of_lt Nat.and_le_right (by decide) | exact ⟨by omega, by omega⟩) (by first | omega | decide | exact Nat.lt_of_le_of_lt Nat.and_le_right (by decide) | exact ⟨by omega, by omega⟩) (fun c99 => ?_) (fun c => absurd (show _ from by omega) c)
    refine wq_cN (m := 0) rfl rfl ?_
    refine wq_go rfl (fun _ => rfl) ?_
    exact m_fade2 hL2 hP hok hh K 4 0 rfl σ1 g1 fA (fr_mono hF1 xW_R) hG1 hM1 (by rw [faS_0]; exact hR1) hA1 (fun j hj => hA j (by omega))
  | succ m ih =>
    intro u hm σ1 g1 fA hF1 hG1 hM1 hR1 hA1 hA
    refine wq_go rfl (fun _ => rfl) ?_
    refine wq_cN (m := 4) rfl rfl ?_
    refine wq_cge rfl (by first | omega | decide | exact Nat.lt_of_le_of_lt Nat.and_le_right (by decide) | exact ⟨by omega, by omega⟩) (by first | omega | decide | exact Nat.lt_of_le_of_lt Nat.and_le_right (by decide) | exact ⟨by omega, by omega⟩) (fun c => absurd c (by omega)) (fun c99 => ?_)
    refine wq_go rfl (fun _ => rfl) ?_
    refine wq_getf rfl (by first | rfl | assumption) (by first | decide | omega | assumption) (md_o hM1) rfl ?_
    refine wq_go rfl (fun _ => rfl) ?_
    refine wq_go rfl (fun _ => rfl) ?_
    refine wq_go rfl (fun _ => rfl) ?_
    refine wq_go rfl (fun _ => rfl) ?_
    refine wq_callV rfl rfl (by first | rfl | assumption) (by first | decide | omega | assumption) (Nat.le_of_ble_eq_true rfl) (Nat.le_of_ble_eq_true rfl) rfl rfl ?_
    refine m_faded hM1 hok hR1 hh (by omega) (fun σ5 g5 F5 G5 M5 => ?_)
    have R5 : RwIs σ5 S := (F5 323 rfl).trans hR1
    have A5 := (F5 324 rfl).trans hA1
    refine wq_iast rfl (by first | rfl | assumption) (by first | decide | omega | assumption) A5 rfl (by omega) (by first | decide | omega) ?_
    refine wq_incN rfl rfl rfl ?_
    refine wq_go rfl (fun _ => rfl) ?_
    exact ih (u + 1) (by omega) _ _ _ (fr_up (fr_trans hF1 (fr_mono F5 xV_W)) rfl) (fg_trans hG1 G5) (md_u324 M5) ((up_ne _ _ (by decide)).trans R5) (up_same _ _ _) (ga_s hA rfl)
theorem m_hr_h {xs : List Int32} {d : Nat} {σ : Nat → List Value} {Q : Option Value → (Nat → List Value) → Prop} {P : Pl} {L : Nat} {g : Nat → Int32} (hL2 : L < 2) (hP : Pok P) {S : St} (hok : Sok S) {hv : Nat} (hhv : hv = Shr S % 24)  (K : ∀ σ' g', Fr xR σ σ' → FrG yB g g' → MD P L g' σ' → RwIs σ' (hour3 P (fadesS P S (Phd P))) → Q (none) σ') : ∀ (m u : Nat), m + u = Phd P → ∀ σ1 g1, Fr xR σ σ1 → FrG yB g g1 → MD P L g1 σ1 → RwIs σ1 (fadesS P S u) → Wq xs (d + 5) ax_cd286 88 [(2, .int (nI u)), (1, .int (nI hv)), (0, .ref 287)] [] σ1 Q := by
  have hP' := hP
  obtain ⟨hP1, hP2, hP3, hP4, hP5, hP6, hP7, hP8, hPv, hPm, hPo, hPw, hPl⟩ := hP'
  have hhr := hok.2.1
  intro m
  induction m with
  | zero =>
    intro u hm σ1 g1 hF1 hG1 hM1 hR1
    refine wq_go rfl (fun _ => rfl) ?_
    refine wq_go rfl (fun _ => rfl) ?_
    refine wq_getf rfl (by first | rfl | assumption) (by first | decide | omega | assumption) (md_o hM1) rfl ?_
    refine wq_go rfl (fun _ => rfl) ?_
    refine wq_getf rfl (by first | rfl | assumption) (by first | decide | omega | assumption) (md_o hM1) rfl ?_
    refine wq_top (md_l hM1) ?_
    refine wq_iald rfl (by first | rfl | assumption) (by first | decide | omega | assumption) (md_c299 hM1) rfl (by omega) (by first | decide | omega) ?_
    refine wq_top (md_m299 hM1) ?_
    refine wq_cge rfl (by first | omega | decide | exact Nat.lt_of_le_of_lt Nat.and_le_right (by decide) | exact ⟨by omega, by omega⟩) (by first | omega | decide | exact Nat.lt_of_le_of_lt Nat.and_le_right (by decide) | exact ⟨by omega, by omega⟩) (fun c94 => ?_) (fun c => absurd (show _ from by omega) c)
    have hu : u = Phd P := by omega
    subst hu
    have he : hv = Shr (fadesS P S (Phd P)) % 24 := by rw [fades_hr]; exact hhv
    subst he
    exact wq_lv ⟨(by decide : ([2, 1, 0] : List Nat).Nodup), (lvm (List.mem_of_getElem? (i := 1) rfl) (lvm (List.mem_of_getElem? (i := 2) rfl) lvn))⟩ (m_hr_w hL2 hP (fades_ok hP hok (Phd P) (Nat.le_refl _)) K σ1 g1 hF1 hG1 hM1 hR1)
  | succ m ih =>
    intro u hm σ1 g1 hF1 hG1 hM1 hR1
    refine wq_go rfl (fun _ => rfl) ?_
    refine wq_go rfl (fun _ => rfl) ?_
    refine wq_getf rfl (by first | rfl | assumption) (by first | decide | omega | assumption) (md_o hM1) rfl ?_
    refine wq_go rfl (fun _ => rfl) ?_
    refine wq_getf rfl (by first | rfl | assumption) (by first | decide | omega | assumption) (md_o hM1) rfl ?_
    refine wq_top (md_l hM1) ?_
    refine wq_iald rfl (by first | rfl | assumption) (by first | decide | omega | assumption) (md_c299 hM1) rfl (by omega) (by first | decide | omega) ?_
    refine wq_top (md_m299 hM1) ?_
    refine wq_cge rfl (by first | omega | decide | exact Nat.lt_of_le_of_lt Nat.and_le_right (by decide) | exact ⟨by omega, by omega⟩) (by first | omega | decide | exact Nat.lt_of_le_of_lt Nat.and_le_right (by decide) | exact ⟨by omega, by omega⟩) (fun c => absurd c (by omega)) (fun c94 => ?_)
    refine wq_cN (m := 0) rfl rfl ?_
    refine wq_go rfl (fun _ => rfl) ?_
    exact wq_lv ⟨(by decide : ([3, 2, 1, 0] : List Nat).Nodup), (lvm (List.mem_of_getElem? (i := 0) rfl) (lvm (List.mem_of_getElem? (i := 1) rfl) (lvm (List.mem_of_getElem? (i := 2) rfl) (lvm (List.mem_of_getElem? (i := 3) rfl) lvn))))⟩ (m_fade1 (σ := σ1) hL2 hP (fades_ok hP hok u (by omega)) (h := u) (by omega) (fun σ2 g2 F2 G2 M2 R2 => ih (u + 1) (by omega) σ2 g2 (fr_trans hF1 F2) (fg_trans hG1 G2) M2 R2) 4 0 rfl σ1 g1 _ (fr_refl _ _) (fg_refl _ _) hM1 hR1 (md_c324 hM1) ga_0)
theorem m_hr_m {xs : List Int32} {d : Nat} {σ : Nat → List Value} {Q : Option Value → (Nat → List Value) → Prop} {P : Pl} {L : Nat} {g : Nat → Int32} (hL2 : L < 2) (hP : Pok P) {S : St} (hok : Sok S) (hz : Zq P S) {mo sd : Nat} (hmo : mo < 2) (hst : g 55 = nI (1 - mo)) (hsd : g 54 = nI sd) (K : ∀ σ' g', Fr xR σ σ' → FrG yB g g' → MD P L g' σ' → RwIs σ' (hour3 P (fadesS P (hour2 P mo sd S) (Phd P))) → Q (none) σ') (σ1 : Nat → List Value) (g1 : Nat → Int32) (hF1 : Fr xR σ σ1) (hG1 : FrG yB g g1) (hM1 : MD P L g1 σ1) (hR1 : RwIs σ1 (S)) : Wq xs (d + 5) ax_cd286 57 [(1, .int (nI (Shr S % 24))), (0, .ref 287)] [] σ1 Q := by
  have hP' := hP
  obtain ⟨hP1, hP2, hP3, hP4, hP5, hP6, hP7, hP8, hPv, hPm, hPo, hPw, hPl⟩ := hP'
  have hhr := hok.2.1
  have hs1 : g1 54 = nI sd := (hG1 54 rfl).trans hsd
  refine wq_go rfl (fun _ => rfl) ?_
  refine wq_getf rfl (by first | rfl | assumption) (by first | decide | omega | assumption) (md_o hM1) rfl ?_
  refine wq_top ((hG1 55 rfl).trans hst) ?_
  refine wq_zne rfl (by first | omega | decide | exact Nat.lt_of_le_of_lt Nat.and_le_right (by decide) | exact ⟨by omega, by omega⟩) (fun c59 => ?_) (fun c59 => ?_)
  · skip
    refine wq_cN (m := 0) rfl rfl ?_
    refine wq_go rfl (fun _ => rfl) ?_
    have K' := K
    first | rw [hour2, if_neg (fun e => by first | omega | (rw [bm] at e; exact absurd e.2 (by decide)))] at K' | rw [hour2_0 hz (by omega)] at K'
    exact wq_lv ⟨(by decide : ([2, 1, 0] : List Nat).Nodup), (lvm (List.mem_of_getElem? (i := 0) rfl) (lvm (List.mem_of_getElem? (i := 1) rfl) (lvm (List.mem_of_getElem? (i := 2) rfl) lvn)))⟩ (m_hr_h hL2 hP hok rfl K' (Phd P) 0 rfl σ1 g1 hF1 hG1 hM1 hR1)
  · skip
    refine wq_go rfl (fun _ => rfl) ?_
    refine wq_getf rfl (by first | rfl | assumption) (by first | decide | omega | assumption) (md_o hM1) rfl ?_
    refine wq_go rfl (fun _ => rfl) ?_
    refine wq_getf rfl (by first | rfl | assumption) (by first | decide | omega | assumption) (md_o hM1) rfl ?_
    refine wq_top (md_l hM1) ?_
    refine wq_iald rfl (by first | rfl | assumption) (by first | decide | omega | assumption) (md_c297 hM1) rfl (by omega) (by first | decide | omega) ?_
    refine wq_top (md_m297 hM1) ?_
    refine wq_zle rfl (by first | omega | decide | exact Nat.lt_of_le_of_lt Nat.and_le_right (by decide) | exact ⟨by omega, by omega⟩) (fun c65 => ?_) (fun c65 => ?_)
    · skip
      refine wq_cN (m := 0) rfl rfl ?_
      refine wq_go rfl (fun _ => rfl) ?_
      have K' := K
      first | rw [hour2, if_neg (fun e => by first | omega | (rw [bm] at e; exact absurd e.2 (by decide)))] at K' | rw [hour2_0 hz (by omega)] at K'
      exact wq_lv ⟨(by decide : ([2, 1, 0] : List Nat).Nodup), (lvm (List.mem_of_getElem? (i := 0) rfl) (lvm (List.mem_of_getElem? (i := 1) rfl) (lvm (List.mem_of_getElem? (i := 2) rfl) lvn)))⟩ (m_hr_h hL2 hP hok rfl K' (Phd P) 0 rfl σ1 g1 hF1 hG1 hM1 hR1)
    · skip
      refine wq_go rfl (fun _ => rfl) ?_
      refine wq_callV rfl rfl (by first | rfl | assumption) (by first | decide | omega | assumption) (Nat.le_of_ble_eq_true rfl) (Nat.le_of_ble_eq_true rfl) rfl rfl ?_
      refine m_isMoth hM1 hok hR1 hs1 (fun bm => ?_) (fun bm => ?_)
      · skip
        refine wq_zeq rfl (by first | omega | decide | exact Nat.lt_of_le_of_lt Nat.and_le_right (by decide) | exact ⟨by omega, by omega⟩) (fun c => absurd c (by omega)) (fun c68 => ?_)
        refine wq_go rfl (fun _ => rfl) ?_
        refine wq_go rfl (fun _ => rfl) ?_
        refine wq_cN (m := 8) rfl rfl ?_
        refine wq_go rfl (fun _ => rfl) ?_
        refine wq_getf rfl (by first | rfl | assumption) (by first | decide | omega | assumption) (md_o hM1) rfl ?_
        refine wq_cN (m := 59) rfl rfl ?_
        refine wq_ialdN rfl (by first | rfl | assumption) (by first | decide | omega | assumption) hR1 rfl (by omega) (by first | decide | omega) ?_
        refine wq_top (congrArg nI (rf_hr S)) ?_
        refine wq_mulN rfl ?_
        refine wq_cN (m := 1) rfl rfl ?_
        refine wq_addN rfl ?_
        refine wq_go rfl (fun _ => rfl) ?_
        refine wq_getf rfl (by first | rfl | assumption) (by first | decide | omega | assumption) (md_o hM1) rfl ?_
        refine wq_go rfl (fun _ => rfl) ?_
        refine wq_getf rfl (by first | rfl | assumption) (by first | decide | omega | assumption) (md_o hM1) rfl ?_
        refine wq_top (md_l hM1) ?_
        refine wq_iald rfl (by first | rfl | assumption) (by first | decide | omega | assumption) (md_c297 hM1) rfl (by omega) (by first | decide | omega) ?_
        refine wq_top (md_m297 hM1) ?_
        refine wq_callV rfl rfl (by first | rfl | assumption) (by first | decide | omega | assumption) (Nat.le_of_ble_eq_true rfl) (Nat.le_of_ble_eq_true rfl) rfl rfl ?_
        refine m_lotOf hM1 hs1 (by omega) (by omega) ?_
        refine wq_top (show _ = nI (mothC P sd S) from rfl) ?_
        refine wq_callV rfl rfl (by first | rfl | assumption) (by first | decide | omega | assumption) (Nat.le_of_ble_eq_true rfl) (Nat.le_of_ble_eq_true rfl) rfl rfl ?_
        refine m_mothEats hM1 hok hR1 (mothC_lt hP sd S) (fun σ2 g2 F2 G2 M2 R2 => ?_)
        refine wq_cN (m := 0) rfl rfl ?_
        refine wq_go rfl (fun _ => rfl) ?_
        have K' := K
        rw [hour2, if_pos ⟨by omega, bm⟩] at K'
        exact wq_lv ⟨(by decide : ([2, 1, 0] : List Nat).Nodup), (lvm (List.mem_of_getElem? (i := 0) rfl) (lvm (List.mem_of_getElem? (i := 1) rfl) (lvm (List.mem_of_getElem? (i := 2) rfl) lvn)))⟩ (m_hr_h hL2 hP (moth_ok hok (mothC_lt hP sd S)) rfl K' (Phd P) 0 rfl _ _ (fr_trans hF1 F2) (fg_trans hG1 G2) M2 R2)
      · skip
        refine wq_zeq rfl (by first | omega | decide | exact Nat.lt_of_le_of_lt Nat.and_le_right (by decide) | exact ⟨by omega, by omega⟩) (fun c68 => ?_) (fun c => absurd (show _ from by omega) c)
        refine wq_cN (m := 0) rfl rfl ?_
        refine wq_go rfl (fun _ => rfl) ?_
        have K' := K
        first | rw [hour2, if_neg (fun e => by first | omega | (rw [bm] at e; exact absurd e.2 (by decide)))] at K' | rw [hour2_0 hz (by omega)] at K'
        exact wq_lv ⟨(by decide : ([2, 1, 0] : List Nat).Nodup), (lvm (List.mem_of_getElem? (i := 0) rfl) (lvm (List.mem_of_getElem? (i := 1) rfl) (lvm (List.mem_of_getElem? (i := 2) rfl) lvn)))⟩ (m_hr_h hL2 hP hok rfl K' (Phd P) 0 rfl σ1 g1 hF1 hG1 hM1 hR1)
theorem m_hr_v {xs : List Int32} {d : Nat} {σ : Nat → List Value} {Q : Option Value → (Nat → List Value) → Prop} {P : Pl} {L : Nat} {g : Nat → Int32} (hL2 : L < 2) (hP : Pok P) {S : St} (hok : Sok S) (hz : Zq P S) {mo sd : Nat} (hmo : mo < 2) (hst : g 55 = nI (1 - mo)) (hsd : g 54 = nI sd)  (K : ∀ σ' g', Fr xR σ σ' → FrG yB g g' → MD P L g' σ' → RwIs σ' (hourS P mo sd S) → Q (none) σ') : ∀ (m u : Nat), m + u = Pvs P → ∀ σ1 g1, Fr xR σ σ1 → FrG yB g g1 → MD P L g1 σ1 → RwIs σ1 (visS P S u) → Wq xs (d + 5) ax_cd286 9 [(2, .int (nI u)), (1, .int (nI (Shr S % 24))), (0, .ref 287)] [] σ1 Q := by
  have hP' := hP
  obtain ⟨hP1, hP2, hP3, hP4, hP5, hP6, hP7, hP8, hPv, hPm, hPo, hPw, hPl⟩ := hP'
  have hhr := hok.2.1
  intro m
  induction m with
  | zero =>
    intro u hm σ1 g1 hF1 hG1 hM1 hR1
    refine wq_go rfl (fun _ => rfl) ?_
    refine wq_go rfl (fun _ => rfl) ?_
    refine wq_getf rfl (by first | rfl | assumption) (by first | decide | omega | assumption) (md_o hM1) rfl ?_
    refine wq_go rfl (fun _ => rfl) ?_
    refine wq_getf rfl (by first | rfl | assumption) (by first | decide | omega | assumption) (md_o hM1) rfl ?_
    refine wq_top (md_l hM1) ?_
    refine wq_iald rfl (by first | rfl | assumption) (by first | decide | omega | assumption) (md_c302 hM1) rfl (by omega) (by first | decide | omega) ?_
    refine wq_top (md_m302 hM1) ?_
    refine wq_cge rfl (by first | omega | decide | exact Nat.lt_of_le_of_lt Nat.and_le_right (by decide) | exact ⟨by omega, by omega⟩) (by first | omega | decide | exact Nat.lt_of_le_of_lt Nat.and_le_right (by decide) | exact ⟨by omega, by omega⟩) (fun c15 => ?_) (fun c => absurd (show _ from by omega) c)
    have hu : u = Pvs P := by omega
    subst hu
    rw [← vis_hr P S (Pvs P)]
    exact wq_lv ⟨(by decide : ([2, 1, 0] : List Nat).Nodup), (lvm (List.mem_of_getElem? (i := 1) rfl) (lvm (List.mem_of_getElem? (i := 2) rfl) lvn))⟩ (m_hr_m hL2 hP (vis_ok hP hok (Pvs P) (Nat.le_refl _)) (vis_z hP hz (Pvs P) (Nat.le_refl _)) hmo hst hsd K σ1 g1 hF1 hG1 hM1 hR1)
  | succ m ih =>
    intro u hm σ1 g1 hF1 hG1 hM1 hR1
    have hvo := vis_ok hP hok u (by omega)
    have hpv := hPv u (by omega)
    refine wq_go rfl (fun _ => rfl) ?_
    refine wq_go rfl (fun _ => rfl) ?_
    refine wq_getf rfl (by first | rfl | assumption) (by first | decide | omega | assumption) (md_o hM1) rfl ?_
    refine wq_go rfl (fun _ => rfl) ?_
    refine wq_getf rfl (by first | rfl | assumption) (by first | decide | omega | assumption) (md_o hM1) rfl ?_
    refine wq_top (md_l hM1) ?_
    refine wq_iald rfl (by first | rfl | assumption) (by first | decide | omega | assumption) (md_c302 hM1) rfl (by omega) (by first | decide | omega) ?_
    refine wq_top (md_m302 hM1) ?_
    refine wq_cge rfl (by first | omega | decide | exact Nat.lt_of_le_of_lt Nat.and_le_right (by decide) | exact ⟨by omega, by omega⟩) (by first | omega | decide | exact Nat.lt_of_le_of_lt Nat.and_le_right (by decide) | exact ⟨by omega, by omega⟩) (fun c => absurd c (by omega)) (fun c15 => ?_)
    refine wq_go rfl (fun _ => rfl) ?_
    refine wq_getf rfl (by first | rfl | assumption) (by first | decide | omega | assumption) (md_o hM1) rfl ?_
    refine wq_cN (m := 49) rfl rfl ?_
    refine wq_go rfl (fun _ => rfl) ?_
    refine wq_addN rfl ?_
    refine wq_ialdN rfl (by first | rfl | assumption) (by first | decide | omega | assumption) hR1 rfl (by omega) (by first | decide | omega) ?_
    refine wq_top (congrArg nI (rf_kp _ (by omega))) ?_
    have hb1 := bitN_le (Skp (visS P S u)) u
    refine wq_cN (m := 1) rfl rfl ?_
    refine wq_cne rfl (by first | omega | decide | exact Nat.lt_of_le_of_lt Nat.and_le_right (by decide) | exact ⟨by omega, by omega⟩) (by first | omega | decide | exact Nat.lt_of_le_of_lt Nat.and_le_right (by decide) | exact ⟨by omega, by omega⟩) (fun c23 => ?_) (fun c23 => ?_)
    · skip
      refine wq_incN rfl rfl rfl ?_
      refine wq_go rfl (fun _ => rfl) ?_
      exact ih (u + 1) (by omega) _ _ hF1 hG1 hM1 (by first | (rw [vis_y (by rw [vis_hr]; omega) (bitN_1 (by omega))]; exact hR1) | (rw [vis_n1 (by rw [vis_hr]; omega)]; exact hR1) | (rw [vis_n2 (bitN_0 (by omega))]; exact hR1))
    · skip
      refine wq_go rfl (fun _ => rfl) ?_
      refine wq_getf rfl (by first | rfl | assumption) (by first | decide | omega | assumption) (md_o hM1) rfl ?_
      refine wq_cN (m := 10) rfl rfl ?_
      refine wq_go rfl (fun _ => rfl) ?_
      refine wq_getf rfl (by first | rfl | assumption) (by first | decide | omega | assumption) (md_o hM1) rfl ?_
      refine wq_top (md_l hM1) ?_
      refine wq_mulN rfl ?_
      refine wq_go rfl (fun _ => rfl) ?_
      refine wq_addN rfl ?_
      refine wq_iald rfl (by first | rfl | assumption) (by first | decide | omega | assumption) (md_c305 hM1) rfl (by omega) (by first | decide | omega) ?_
      refine wq_top (md_m305 hM1 _ (by omega)) ?_
      refine wq_go rfl (fun _ => rfl) ?_
      refine wq_cne rfl (by first | omega | decide | exact Nat.lt_of_le_of_lt Nat.and_le_right (by decide) | exact ⟨by omega, by omega⟩) (by first | omega | decide | exact Nat.lt_of_le_of_lt Nat.and_le_right (by decide) | exact ⟨by omega, by omega⟩) (fun c34 => ?_) (fun c34 => ?_)
      · skip
        refine wq_incN rfl rfl rfl ?_
        refine wq_go rfl (fun _ => rfl) ?_
        exact ih (u + 1) (by omega) _ _ hF1 hG1 hM1 (by first | (rw [vis_y (by rw [vis_hr]; omega) (bitN_1 (by omega))]; exact hR1) | (rw [vis_n1 (by rw [vis_hr]; omega)]; exact hR1) | (rw [vis_n2 (bitN_0 (by omega))]; exact hR1))
      · skip
        refine wq_go rfl (fun _ => rfl) ?_
        refine wq_go rfl (fun _ => rfl) ?_
        refine wq_getf rfl (by first | rfl | assumption) (by first | decide | omega | assumption) (md_o hM1) rfl ?_
        refine wq_cN (m := 10) rfl rfl ?_
        refine wq_go rfl (fun _ => rfl) ?_
        refine wq_getf rfl (by first | rfl | assumption) (by first | decide | omega | assumption) (md_o hM1) rfl ?_
        refine wq_top (md_l hM1) ?_
        refine wq_mulN rfl ?_
        refine wq_go rfl (fun _ => rfl) ?_
        refine wq_addN rfl ?_
        refine wq_iald rfl (by first | rfl | assumption) (by first | decide | omega | assumption) (md_c303 hM1) rfl (by omega) (by first | decide | omega) ?_
        refine wq_top (md_m303 hM1 _ (by omega)) ?_
        refine wq_go rfl (fun _ => rfl) ?_
        refine wq_getf rfl (by first | rfl | assumption) (by first | decide | omega | assumption) (md_o hM1) rfl ?_
        refine wq_cN (m := 10) rfl rfl ?_
        refine wq_go rfl (fun _ => rfl) ?_
        refine wq_getf rfl (by first | rfl | assumption) (by first | decide | omega | assumption) (md_o hM1) rfl ?_
        refine wq_top (md_l hM1) ?_
        refine wq_mulN rfl ?_
        refine wq_go rfl (fun _ => rfl) ?_
        refine wq_addN rfl ?_
        refine wq_iald rfl (by first | rfl | assumption) (by first | decide | omega | assumption) (md_c304 hM1) rfl (by omega) (by first | decide | omega) ?_
        refine wq_top (md_m304 hM1 _ (by omega)) ?_
        refine wq_callV rfl rfl (by first | rfl | assumption) (by first | decide | omega | assumption) (Nat.le_of_ble_eq_true rfl) (Nat.le_of_ble_eq_true rfl) rfl rfl ?_
        refine m_sits hM1 hvo hR1 (by omega) (by omega) (fun σ2 g2 F2 G2 M2 R2 => ?_)
        refine wq_incN rfl rfl rfl ?_
        refine wq_go rfl (fun _ => rfl) ?_
        exact ih (u + 1) (by omega) _ _ (fr_trans hF1 F2) (fg_trans hG1 G2) M2 (by first | (rw [vis_y (by rw [vis_hr]; omega) (bitN_1 (by omega))]; exact R2) | (rw [vis_n1 (by rw [vis_hr]; omega)]; exact R2) | (rw [vis_n2 (bitN_0 (by omega))]; exact R2))
theorem m_hourGoes {xs : List Int32} {d : Nat} {σ : Nat → List Value} {Q : Option Value → (Nat → List Value) → Prop} {P : Pl} {L : Nat} {g : Nat → Int32} (hM : MD P L g σ) {S : St} (hok : Sok S) (hR : RwIs σ S) (hz : Zq P S) {mo sd : Nat} (hmo : mo < 2) (hst : g 55 = nI (1 - mo)) (hsd : g 54 = nI sd)  (K : ∀ σ' g', Fr xR σ σ' → FrG yB g g' → MD P L g' σ' → RwIs σ' (hourS P mo sd S) → Q (none) σ') : Wq xs (d + 5) ax_cd286 0 [(0, .ref 287)] [] σ Q := by
  have hL2 := md_l2 hM
  obtain ⟨hP1, hP2, hP3, hP4, hP5, hP6, hP7, hP8, hPv, hPm, hPo, hPw, hPl⟩ := md_pok hM
  have hhr := hok.2.1
  refine wq_go rfl (fun _ => rfl) ?_
  refine wq_getf rfl (by first | rfl | assumption) (by first | decide | omega | assumption) (md_o hM) rfl ?_
  refine wq_cN (m := 59) rfl rfl ?_
  refine wq_ialdN rfl (by first | rfl | assumption) (by first | decide | omega | assumption) hR rfl (by omega) (by first | decide | omega) ?_
  refine wq_top (congrArg nI (rf_hr S)) ?_
  refine wq_cN (m := 24) rfl rfl ?_
  refine wq_remN rfl (by first | decide | omega) (by first | decide | omega) (by first | decide | omega) ?_
  refine wq_go rfl (fun _ => rfl) ?_
  refine wq_cN (m := 0) rfl rfl ?_
  refine wq_go rfl (fun _ => rfl) ?_
  exact m_hr_v hL2 (md_pok hM) hok hz hmo hst hsd K (Pvs P) 0 rfl σ g (fr_refl _ _) (fg_refl _ _) hM hR
theorem m_goes_l {xs : List Int32} {d : Nat} {σ : Nat → List Value} {Q : Option Value → (Nat → List Value) → Prop} {P : Pl} {L : Nat} {g : Nat → Int32} (hL2 : L < 2) (hP : Pok P) {S : St} (hok : Sok S) (hz : Zq P S) {mo sd : Nat} (hmo : mo < 2) (hst : g 55 = nI (1 - mo)) (hsd : g 54 = nI sd) {n : Nat} (hn : n < 1000) (hr : Shr S + n ≤ 1000000)  (K : ∀ σ' g', Fr xR σ σ' → FrG yB g g' → MD P L g' σ' → RwIs σ' (goS P mo sd S n) → Q (none) σ') : ∀ (m u : Nat), m + u = n → ∀ σ1 g1, Fr xR σ σ1 → FrG yB g g1 → MD P L g1 σ1 → RwIs σ1 (goS P mo sd S u) → Wq xs (d + 6) ax_cd285 2 [(2, .int (nI u)), (0, .ref 287), (1, .int (nI n))] [] σ1 Q := by
  have hP' := hP
  obtain ⟨hP1, hP2, hP3, hP4, hP5, hP6, hP7, hP8, hPv, hPm, hPo, hPw, hPl⟩ := hP'
  have hhr := hok.2.1
  intro m
  induction m with
  | zero =>
    intro u hm σ1 g1 hF1 hG1 hM1 hR1
    refine wq_go rfl (fun _ => rfl) ?_
    refine wq_go rfl (fun _ => rfl) ?_
    refine wq_cge rfl (by first | omega | decide | exact Nat.lt_of_le_of_lt Nat.and_le_right (by decide) | exact ⟨by omega, by omega⟩) (by first | omega | decide | exact Nat.lt_of_le_of_lt Nat.and_le_right (by decide) | exact ⟨by omega, by omega⟩) (fun c4 => ?_) (fun c => absurd (show _ from by omega) c)
    refine wq_end rfl (fun _ => rfl) ?_
    have hu : u = n := by omega
    subst hu
    exact K _ g1 hF1 hG1 hM1 hR1
  | succ m ih =>
    intro u hm σ1 g1 hF1 hG1 hM1 hR1
    refine wq_go rfl (fun _ => rfl) ?_
    refine wq_go rfl (fun _ => rfl) ?_
    refine wq_cge rfl (by first | omega | decide | exact Nat.lt_of_le_of_lt Nat.and_le_right (by decide) | exact ⟨by omega, by omega⟩) (by first | omega | decide | exact Nat.lt_of_le_of_lt Nat.and_le_right (by decide) | exact ⟨by omega, by omega⟩) (fun c => absurd c (by omega)) (fun c4 => ?_)
    refine wq_go rfl (fun _ => rfl) ?_
    refine wq_callV rfl rfl (by first | rfl | assumption) (by first | decide | omega | assumption) (Nat.le_of_ble_eq_true rfl) (Nat.le_of_ble_eq_true rfl) rfl rfl ?_
    refine m_hourGoes hM1 (go_ok hP hok mo sd u (by omega)) hR1 (go_z hP hz mo sd u) hmo ((hG1 55 rfl).trans hst) ((hG1 54 rfl).trans hsd) (fun σ5 g5 F5 G5 M5 R5 => ?_)
    refine wq_incN rfl rfl rfl ?_
    refine wq_go rfl (fun _ => rfl) ?_
    exact ih (u + 1) (by omega) _ _ (fr_trans hF1 F5) (fg_trans hG1 G5) M5 R5
theorem m_goes {xs : List Int32} {d : Nat} {σ : Nat → List Value} {Q : Option Value → (Nat → List Value) → Prop} {P : Pl} {L : Nat} {g : Nat → Int32} (hM : MD P L g σ) {S : St} (hok : Sok S) (hR : RwIs σ S) (hz : Zq P S) {mo sd : Nat} (hmo : mo < 2) (hst : g 55 = nI (1 - mo)) (hsd : g 54 = nI sd) {n : Nat} (hn : n < 1000) (hr : Shr S + n ≤ 1000000)  (K : ∀ σ' g', Fr xR σ σ' → FrG yB g g' → MD P L g' σ' → RwIs σ' (goS P mo sd S n) → Q (none) σ') : Wq xs (d + 6) ax_cd285 0 [(0, .ref 287), (1, .int (nI n))] [] σ Q := by
  refine wq_cN (m := 0) rfl rfl ?_
  refine wq_go rfl (fun _ => rfl) ?_
  exact m_goes_l (md_l2 hM) (md_pok hM) hok hz hmo hst hsd hn hr K n 0 rfl σ g (fr_refl _ _) (fg_refl _ _) hM hR
