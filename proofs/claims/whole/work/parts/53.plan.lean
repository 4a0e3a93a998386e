theorem c_hasChair {xs : List Int32} {d : Nat} {σ : Nat → List Value} {Q : Option Value → (Nat → List Value) → Prop} {P : Pl} (hC : CW P σ) {x : Int32} (K1 : ∀ h, x = nI h → h < Pch P → Q (some (.int (nI 1))) σ) (K0 : (∀ h, h < Pch P → x ≠ nI h) → Q (some (.int (nI 0))) σ) : Wq xs (d + 0) ax_cd86 0 [(0, .ref 21), (1, .int x)] [] σ Q := by
  have hPk := cw_pok hC
  obtain ⟨hP1, hP2, hP3, hP4, hP5, hP6, hP7, hP8, hPv, hPm, hPo, hPw, hPl⟩ := hPk
  rcases pk_ix x (n := Pch P) (by omega) with hx | hx | ⟨j, hj, e⟩
  · skip
    refine wq_go rfl (fun _ => rfl) ?_
    refine wq_if rfl (fun c1 => ?_) (fun c => absurd (c.symm.trans (decide_eq_true hx)) (by decide))
    refine wq_cN (m := 0) rfl rfl ?_
    refine wq_nret rfl (by decide) ?_
    exact K0 (fun h hh e => by subst e; exact nI_pos (by omega) hx)
  · skip
    refine wq_go rfl (fun _ => rfl) ?_
    refine wq_if rfl (fun c => absurd (c.symm.trans (decide_eq_false (fun e => by have h1 := Int32.lt_of_le_of_lt hx e; exact nI_pos (by omega) h1))) (by decide)) (fun c1 => ?_)
    refine wq_go rfl (fun _ => rfl) ?_
    refine wq_go rfl (fun _ => rfl) ?_
    refine wq_getf rfl (by first | rfl | assumption) (by first | decide | omega | assumption) (cw_c21 hC) rfl ?_
    refine wq_cmp rfl (fun c5 => ?_) (fun c => absurd (c.symm.trans (decide_eq_true hx)) (by decide))
    refine wq_cN (m := 0) rfl rfl ?_
    refine wq_nret rfl (by decide) ?_
    exact K0 (fun h hh e => by subst e; exact nI_ge hh (by omega) hx)
  · subst e
    refine wq_go rfl (fun _ => rfl) ?_
    refine wq_zlt rfl (by first | omega | decide | exact Nat.lt_of_le_of_lt Nat.and_le_right (by decide) | exact ⟨by omega, by omega⟩) (fun c => absurd c (by omega)) (fun c1 => ?_)
    refine wq_go rfl (fun _ => rfl) ?_
    refine wq_go rfl (fun _ => rfl) ?_
    refine wq_getf rfl (by first | rfl | assumption) (by first | decide | omega | assumption) (cw_c21 hC) rfl ?_
    refine wq_cge rfl (by first | omega | decide | exact Nat.lt_of_le_of_lt Nat.and_le_right (by decide) | exact ⟨by omega, by omega⟩) (by first | omega | decide | exact Nat.lt_of_le_of_lt Nat.and_le_right (by decide) | exact ⟨by omega, by omega⟩) (fun c => absurd c (by omega)) (fun c5 => ?_)
    refine wq_cN (m := 1) rfl rfl ?_
    refine wq_go rfl (fun _ => rfl) ?_
    refine wq_nret rfl (by decide) ?_
    exact K1 j rfl hj
theorem c_hasChairN {xs : List Int32} {d : Nat} {σ : Nat → List Value} {Q : Option Value → (Nat → List Value) → Prop} {P : Pl} (hC : CW P σ) {x : Nat} (hx : x < 2 ^ 31) (K1 : x < Pch P → Q (some (.int (nI 1))) σ) (K0 : ¬ x < Pch P → Q (some (.int (nI 0))) σ) : Wq xs (d + 0) ax_cd86 0 [(0, .ref 21), (1, .int (nI x))] [] σ Q := by
  have hPk := cw_pok hC
  obtain ⟨hP1, hP2, hP3, hP4, hP5, hP6, hP7, hP8, hPv, hPm, hPo, hPw, hPl⟩ := hPk
  refine wq_go rfl (fun _ => rfl) ?_
  refine wq_zlt rfl (by first | omega | decide | exact Nat.lt_of_le_of_lt Nat.and_le_right (by decide) | exact ⟨by omega, by omega⟩) (fun c => absurd c (by omega)) (fun c1 => ?_)
  refine wq_go rfl (fun _ => rfl) ?_
  refine wq_go rfl (fun _ => rfl) ?_
  refine wq_getf rfl (by first | rfl | assumption) (by first | decide | omega | assumption) (cw_c21 hC) rfl ?_
  refine wq_cge rfl (by first | omega | decide | exact Nat.lt_of_le_of_lt Nat.and_le_right (by decide) | exact ⟨by omega, by omega⟩) (by first | omega | decide | exact Nat.lt_of_le_of_lt Nat.and_le_right (by decide) | exact ⟨by omega, by omega⟩) (fun c5 => ?_) (fun c5 => ?_)
  · skip
    refine wq_cN (m := 0) rfl rfl ?_
    refine wq_nret rfl (by decide) ?_
    first | exact K1 (by omega) | exact K0 (by omega)
  · skip
    refine wq_cN (m := 1) rfl rfl ?_
    refine wq_go rfl (fun _ => rfl) ?_
    refine wq_nret rfl (by decide) ?_
    first | exact K1 (by omega) | exact K0 (by omega)
theorem c_hasHead {xs : List Int32} {d : Nat} {σ : Nat → List Value} {Q : Option Value → (Nat → List Value) → Prop} {P : Pl} (hC : CW P σ) {x : Int32} (K1 : ∀ h, x = nI h → h < Phd P → Q (some (.int (nI 1))) σ) (K0 : (∀ h, h < Phd P → x ≠ nI h) → Q (some (.int (nI 0))) σ) : Wq xs (d + 0) ax_cd78 0 [(0, .ref 21), (1, .int x)] [] σ Q := by
  have hPk := cw_pok hC
  obtain ⟨hP1, hP2, hP3, hP4, hP5, hP6, hP7, hP8, hPv, hPm, hPo, hPw, hPl⟩ := hPk
  rcases pk_ix x (n := Phd P) (by omega) with hx | hx | ⟨j, hj, e⟩
  · skip
    refine wq_go rfl (fun _ => rfl) ?_
    refine wq_if rfl (fun c1 => ?_) (fun c => absurd (c.symm.trans (decide_eq_true hx)) (by decide))
    refine wq_cN (m := 0) rfl rfl ?_
    refine wq_nret rfl (by decide) ?_
    exact K0 (fun h hh e => by subst e; exact nI_pos (by omega) hx)
  · skip
    refine wq_go rfl (fun _ => rfl) ?_
    refine wq_if rfl (fun c => absurd (c.symm.trans (decide_eq_false (fun e => by have h1 := Int32.lt_of_le_of_lt hx e; exact nI_pos (by omega) h1))) (by decide)) (fun c1 => ?_)
    refine wq_go rfl (fun _ => rfl) ?_
    refine wq_go rfl (fun _ => rfl) ?_
    refine wq_getf rfl (by first | rfl | assumption) (by first | decide | omega | assumption) (cw_c21 hC) rfl ?_
    refine wq_cmp rfl (fun c5 => ?_) (fun c => absurd (c.symm.trans (decide_eq_true hx)) (by decide))
    refine wq_cN (m := 0) rfl rfl ?_
    refine wq_nret rfl (by decide) ?_
    exact K0 (fun h hh e => by subst e; exact nI_ge hh (by omega) hx)
  · subst e
    refine wq_go rfl (fun _ => rfl) ?_
    refine wq_zlt rfl (by first | omega | decide | exact Nat.lt_of_le_of_lt Nat.and_le_right (by decide) | exact ⟨by omega, by omega⟩) (fun c => absurd c (by omega)) (fun c1 => ?_)
    refine wq_go rfl (fun _ => rfl) ?_
    refine wq_go rfl (fun _ => rfl) ?_
    refine wq_getf rfl (by first | rfl | assumption) (by first | decide | omega | assumption) (cw_c21 hC) rfl ?_
    refine wq_cge rfl (by first | omega | decide | exact Nat.lt_of_le_of_lt Nat.and_le_right (by decide) | exact ⟨by omega, by omega⟩) (by first | omega | decide | exact Nat.lt_of_le_of_lt Nat.and_le_right (by decide) | exact ⟨by omega, by omega⟩) (fun c => absurd c (by omega)) (fun c5 => ?_)
    refine wq_cN (m := 1) rfl rfl ?_
    refine wq_go rfl (fun _ => rfl) ?_
    refine wq_nret rfl (by decide) ?_
    exact K1 j rfl hj
theorem c_hasHeadN {xs : List Int32} {d : Nat} {σ : Nat → List Value} {Q : Option Value → (Nat → List Value) → Prop} {P : Pl} (hC : CW P σ) {x : Nat} (hx : x < 2 ^ 31) (K1 : x < Phd P → Q (some (.int (nI 1))) σ) (K0 : ¬ x < Phd P → Q (some (.int (nI 0))) σ) : Wq xs (d + 0) ax_cd78 0 [(0, .ref 21), (1, .int (nI x))] [] σ Q := by
  have hPk := cw_pok hC
  obtain ⟨hP1, hP2, hP3, hP4, hP5, hP6, hP7, hP8, hPv, hPm, hPo, hPw, hPl⟩ := hPk
  refine wq_go rfl (fun _ => rfl) ?_
  refine wq_zlt rfl (by first | omega | decide | exact Nat.lt_of_le_of_lt Nat.and_le_right (by decide) | exact ⟨by omega, by omega⟩) (fun c => absurd c (by omega)) (fun c1 => ?_)
  refine wq_go rfl (fun _ => rfl) ?_
  refine wq_go rfl (fun _ => rfl) ?_
  refine wq_getf rfl (by first | rfl | assumption) (by first | decide | omega | assumption) (cw_c21 hC) rfl ?_
  refine wq_cge rfl (by first | omega | decide | exact Nat.lt_of_le_of_lt Nat.and_le_right (by decide) | exact ⟨by omega, by omega⟩) (by first | omega | decide | exact Nat.lt_of_le_of_lt Nat.and_le_right (by decide) | exact ⟨by omega, by omega⟩) (fun c5 => ?_) (fun c5 => ?_)
  · skip
    refine wq_cN (m := 0) rfl rfl ?_
    refine wq_nret rfl (by decide) ?_
    first | exact K1 (by omega) | exact K0 (by omega)
  · skip
    refine wq_cN (m := 1) rfl rfl ?_
    refine wq_go rfl (fun _ => rfl) ?_
    refine wq_nret rfl (by decide) ?_
    first | exact K1 (by omega) | exact K0 (by omega)
theorem c_hasVisit {xs : List Int32} {d : Nat} {σ : Nat → List Value} {Q : Option Value → (Nat → List Value) → Prop} {P : Pl} (hC : CW P σ) {x : Int32} (K1 : ∀ h, x = nI h → h < Pvs P → Q (some (.int (nI 1))) σ) (K0 : (∀ h, h < Pvs P → x ≠ nI h) → Q (some (.int (nI 0))) σ) : Wq xs (d + 0) ax_cd97 0 [(0, .ref 21), (1, .int x)] [] σ Q := by
  have hPk := cw_pok hC
  obtain ⟨hP1, hP2, hP3, hP4, hP5, hP6, hP7, hP8, hPv, hPm, hPo, hPw, hPl⟩ := hPk
  rcases pk_ix x (n := Pvs P) (by omega) with hx | hx | ⟨j, hj, e⟩
  · skip
    refine wq_go rfl (fun _ => rfl) ?_
    refine wq_if rfl (fun c1 => ?_) (fun c => absurd (c.symm.trans (decide_eq_true hx)) (by decide))
    refine wq_cN (m := 0) rfl rfl ?_
    refine wq_nret rfl (by decide) ?_
    exact K0 (fun h hh e => by subst e; exact nI_pos (by omega) hx)
  · skip
    refine wq_go rfl (fun _ => rfl) ?_
    refine wq_if rfl (fun c => absurd (c.symm.trans (decide_eq_false (fun e => by have h1 := Int32.lt_of_le_of_lt hx e; exact nI_pos (by omega) h1))) (by decide)) (fun c1 => ?_)
    refine wq_go rfl (fun _ => rfl) ?_
    refine wq_go rfl (fun _ => rfl) ?_
    refine wq_getf rfl (by first | rfl | assumption) (by first | decide | omega | assumption) (cw_c21 hC) rfl ?_
    refine wq_cmp rfl (fun c5 => ?_) (fun c => absurd (c.symm.trans (decide_eq_true hx)) (by decide))
    refine wq_cN (m := 0) rfl rfl ?_
    refine wq_nret rfl (by decide) ?_
    exact K0 (fun h hh e => by subst e; exact nI_ge hh (by omega) hx)
  · subst e
    refine wq_go rfl (fun _ => rfl) ?_
    refine wq_zlt rfl (by first | omega | decide | exact Nat.lt_of_le_of_lt Nat.and_le_right (by decide) | exact ⟨by omega, by omega⟩) (fun c => absurd c (by omega)) (fun c1 => ?_)
    refine wq_go rfl (fun _ => rfl) ?_
    refine wq_go rfl (fun _ => rfl) ?_
    refine wq_getf rfl (by first | rfl | assumption) (by first | decide | omega | assumption) (cw_c21 hC) rfl ?_
    refine wq_cge rfl (by first | omega | decide | exact Nat.lt_of_le_of_lt Nat.and_le_right (by decide) | exact ⟨by omega, by omega⟩) (by first | omega | decide | exact Nat.lt_of_le_of_lt Nat.and_le_right (by decide) | exact ⟨by omega, by omega⟩) (fun c => absurd c (by omega)) (fun c5 => ?_)
    refine wq_cN (m := 1) rfl rfl ?_
    refine wq_go rfl (fun _ => rfl) ?_
    refine wq_nret rfl (by decide) ?_
    exact K1 j rfl hj
theorem c_hasVisitN {xs : List Int32} {d : Nat} {σ : Nat → List Value} {Q : Option Value → (Nat → List Value) → Prop} {P : Pl} (hC : CW P σ) {x : Nat} (hx : x < 2 ^ 31) (K1 : x < Pvs P → Q (some (.int (nI 1))) σ) (K0 : ¬ x < Pvs P → Q (some (.int (nI 0))) σ) : Wq xs (d + 0) ax_cd97 0 [(0, .ref 21), (1, .int (nI x))] [] σ Q := by
  have hPk := cw_pok hC
  obtain ⟨hP1, hP2, hP3, hP4, hP5, hP6, hP7, hP8, hPv, hPm, hPo, hPw, hPl⟩ := hPk
  refine wq_go rfl (fun _ => rfl) ?_
  refine wq_zlt rfl (by first | omega | decide | exact Nat.lt_of_le_of_lt Nat.and_le_right (by decide) | exact ⟨by omega, by omega⟩) (fun c => absurd c (by omega)) (fun c1 => ?_)
  refine wq_go rfl (fun _ => rfl) ?_
  refine wq_go rfl (fun _ => rfl) ?_
  refine wq_getf rfl (by first | rfl | assumption) (by first | decide | omega | assumption) (cw_c21 hC) rfl ?_
  refine wq_cge rfl (by first | omega | decide | exact Nat.lt_of_le_of_lt Nat.and_le_right (by decide) | exact ⟨by omega, by omega⟩) (by first | omega | decide | exact Nat.lt_of_le_of_lt Nat.and_le_right (by decide) | exact ⟨by omega, by omega⟩) (fun c5 => ?_) (fun c5 => ?_)
  · skip
    refine wq_cN (m := 0) rfl rfl ?_
    refine wq_nret rfl (by decide) ?_
    first | exact K1 (by omega) | exact K0 (by omega)
  · skip
    refine wq_cN (m := 1) rfl rfl ?_
    refine wq_go rfl (fun _ => rfl) ?_
    refine wq_nret rfl (by decide) ?_
    first | exact K1 (by omega) | exact K0 (by omega)
theorem c_Plan_meshOf {xs : List Int32} {d : Nat} {σ : Nat → List Value} {Q : Option Value → (Nat → List Value) → Prop} {P : Pl} (hC : CW P σ) {c : Nat} (hc : c < Pch P) (K : Q (some (.int (nI (Pme P c)))) σ) : Wq xs (d + 0) ax_cd88 0 [(0, .ref 21), (1, .int (nI c))] [] σ Q := by
  have hPk := cw_pok hC
  obtain ⟨hP1, hP2, hP3, hP4, hP5, hP6, hP7, hP8, hPv, hPm, hPo, hPw, hPl⟩ := hPk
  refine wq_go rfl (fun _ => rfl) ?_
  refine wq_zlt rfl (by first | omega | decide | exact Nat.lt_of_le_of_lt Nat.and_le_right (by decide) | exact ⟨by omega, by omega⟩) (fun c => absurd c (by omega)) (fun c1 => ?_)
  refine wq_go rfl (fun _ => rfl) ?_
  refine wq_go rfl (fun _ => rfl) ?_
  refine wq_getf rfl (by first | rfl | assumption) (by first | decide | omega | assumption) (cw_c21 hC) rfl ?_
  refine wq_alen rfl (by first | rfl | assumption) (by first | decide | omega | assumption) rfl (cw_c22 hC) (arr_len _ _) ?_
  refine wq_cge rfl (by first | omega | decide | exact Nat.lt_of_le_of_lt Nat.and_le_right (by decide) | exact ⟨by omega, by omega⟩) (by first | omega | decide | exact Nat.lt_of_le_of_lt Nat.and_le_right (by decide) | exact ⟨by omega, by omega⟩) (fun c => absurd c (by omega)) (fun c6 => ?_)
  refine wq_go rfl (fun _ => rfl) ?_
  refine wq_getf rfl (by first | rfl | assumption) (by first | decide | omega | assumption) (cw_c21 hC) rfl ?_
  refine wq_go rfl (fun _ => rfl) ?_
  refine wq_iald rfl (by first | rfl | assumption) (by first | decide | omega | assumption) (cw_c22 hC) rfl (by omega) (by first | decide | omega) ?_
  refine wq_top (cw_m22 hC c hc) ?_
  refine wq_go rfl (fun _ => rfl) ?_
  refine wq_iret rfl ?_
  exact K
theorem c_Plan_oilOf {xs : List Int32} {d : Nat} {σ : Nat → List Value} {Q : Option Value → (Nat → List Value) → Prop} {P : Pl} (hC : CW P σ) {c : Nat} (hc : c < Phd P) (K : Q (some (.int (nI (Poi P c)))) σ) : Wq xs (d + 0) ax_cd93 0 [(0, .ref 21), (1, .int (nI c))] [] σ Q := by
  have hPk := cw_pok hC
  obtain ⟨hP1, hP2, hP3, hP4, hP5, hP6, hP7, hP8, hPv, hPm, hPo, hPw, hPl⟩ := hPk
  refine wq_go rfl (fun _ => rfl) ?_
  refine wq_zlt rfl (by first | omega | decide | exact Nat.lt_of_le_of_lt Nat.and_le_right (by decide) | exact ⟨by omega, by omega⟩) (fun c => absurd c (by omega)) (fun c1 => ?_)
  refine wq_go rfl (fun _ => rfl) ?_
  refine wq_go rfl (fun _ => rfl) ?_
  refine wq_getf rfl (by first | rfl | assumption) (by first | decide | omega | assumption) (cw_c21 hC) rfl ?_
  refine wq_alen rfl (by first | rfl | assumption) (by first | decide | omega | assumption) rfl (cw_c23 hC) (arr_len _ _) ?_
  refine wq_cge rfl (by first | omega | decide | exact Nat.lt_of_le_of_lt Nat.and_le_right (by decide) | exact ⟨by omega, by omega⟩) (by first | omega | decide | exact Nat.lt_of_le_of_lt Nat.and_le_right (by decide) | exact ⟨by omega, by omega⟩) (fun c => absurd c (by omega)) (fun c6 => ?_)
  refine wq_go rfl (fun _ => rfl) ?_
  refine wq_getf rfl (by first | rfl | assumption) (by first | decide | omega | assumption) (cw_c21 hC) rfl ?_
  refine wq_go rfl (fun _ => rfl) ?_
  refine wq_iald rfl (by first | rfl | assumption) (by first | decide | omega | assumption) (cw_c23 hC) rfl (by omega) (by first | decide | omega) ?_
  refine wq_top (cw_m23 hC c hc) ?_
  refine wq_go rfl (fun _ => rfl) ?_
  refine wq_iret rfl ?_
  exact K
theorem c_Plan_visitHead {xs : List Int32} {d : Nat} {σ : Nat → List Value} {Q : Option Value → (Nat → List Value) → Prop} {P : Pl} (hC : CW P σ) {c : Nat} (hc : c < Pvs P) (K : Q (some (.int (nI (Pvh P c)))) σ) : Wq xs (d + 0) ax_cd98 0 [(0, .ref 21), (1, .int (nI c))] [] σ Q := by
  have hPk := cw_pok hC
  obtain ⟨hP1, hP2, hP3, hP4, hP5, hP6, hP7, hP8, hPv, hPm, hPo, hPw, hPl⟩ := hPk
  refine wq_go rfl (fun _ => rfl) ?_
  refine wq_zlt rfl (by first | omega | decide | exact Nat.lt_of_le_of_lt Nat.and_le_right (by decide) | exact ⟨by omega, by omega⟩) (fun c => absurd c (by omega)) (fun c1 => ?_)
  refine wq_go rfl (fun _ => rfl) ?_
  refine wq_go rfl (fun _ => rfl) ?_
  refine wq_getf rfl (by first | rfl | assumption) (by first | decide | omega | assumption) (cw_c21 hC) rfl ?_
  refine wq_alen rfl (by first | rfl | assumption) (by first | decide | omega | assumption) rfl (cw_c25 hC) (arr_len _ _) ?_
  refine wq_cge rfl (by first | omega | decide | exact Nat.lt_of_le_of_lt Nat.and_le_right (by decide) | exact ⟨by omega, by omega⟩) (by first | omega | decide | exact Nat.lt_of_le_of_lt Nat.and_le_right (by decide) | exact ⟨by omega, by omega⟩) (fun c => absurd c (by omega)) (fun c6 => ?_)
  refine wq_go rfl (fun _ => rfl) ?_
  refine wq_getf rfl (by first | rfl | assumption) (by first | decide | omega | assumption) (cw_c21 hC) rfl ?_
  refine wq_go rfl (fun _ => rfl) ?_
  refine wq_iald rfl (by first | rfl | assumption) (by first | decide | omega | assumption) (cw_c25 hC) rfl (by omega) (by first | decide | omega) ?_
  refine wq_top (cw_m25 hC c hc) ?_
  refine wq_go rfl (fun _ => rfl) ?_
  refine wq_iret rfl ?_
  exact K
theorem c_Plan_visitChair {xs : List Int32} {d : Nat} {σ : Nat → List Value} {Q : Option Value → (Nat → List Value) → Prop} {P : Pl} (hC : CW P σ) {c : Nat} (hc : c < Pvs P) (K : Q (some (.int (nI (Pvc P c)))) σ) : Wq xs (d + 0) ax_cd99 0 [(0, .ref 21), (1, .int (nI c))] [] σ Q := by
  have hPk := cw_pok hC
  obtain ⟨hP1, hP2, hP3, hP4, hP5, hP6, hP7, hP8, hPv, hPm, hPo, hPw, hPl⟩ := hPk
  refine wq_go rfl (fun _ => rfl) ?_
  refine wq_zlt rfl (by first | omega | decide | exact Nat.lt_of_le_of_lt Nat.and_le_right (by decide) | exact ⟨by omega, by omega⟩) (fun c => absurd c (by omega)) (fun c1 => ?_)
  refine wq_go rfl (fun _ => rfl) ?_
  refine wq_go rfl (fun _ => rfl) ?_
  refine wq_getf rfl (by first | rfl | assumption) (by first | decide | omega | assumption) (cw_c21 hC) rfl ?_
  refine wq_alen rfl (by first | rfl | assumption) (by first | decide | omega | assumption) rfl (cw_c26 hC) (arr_len _ _) ?_
  refine wq_cge rfl (by first | omega | decide | exact Nat.lt_of_le_of_lt Nat.and_le_right (by decide) | exact ⟨by omega, by omega⟩) (by first | omega | decide | exact Nat.lt_of_le_of_lt Nat.and_le_right (by decide) | exact ⟨by omega, by omega⟩) (fun c => absurd c (by omega)) (fun c6 => ?_)
  refine wq_go rfl (fun _ => rfl) ?_
  refine wq_getf rfl (by first | rfl | assumption) (by first | decide | omega | assumption) (cw_c21 hC) rfl ?_
  refine wq_go rfl (fun _ => rfl) ?_
  refine wq_iald rfl (by first | rfl | assumption) (by first | decide | omega | assumption) (cw_c26 hC) rfl (by omega) (by first | decide | omega) ?_
  refine wq_top (cw_m26 hC c hc) ?_
  refine wq_go rfl (fun _ => rfl) ?_
  refine wq_iret rfl ?_
  exact K
theorem c_Plan_visitHour {xs : List Int32} {d : Nat} {σ : Nat → List Value} {Q : Option Value → (Nat → List Value) → Prop} {P : Pl} (hC : CW P σ) {c : Nat} (hc : c < Pvs P) (K : Q (some (.int (nI (Pvt P c)))) σ) : Wq xs (d + 0) ax_cd100 0 [(0, .ref 21), (1, .int (nI c))] [] σ Q := by
  have hPk := cw_pok hC
  obtain ⟨hP1, hP2, hP3, hP4, hP5, hP6, hP7, hP8, hPv, hPm, hPo, hPw, hPl⟩ := hPk
  refine wq_go rfl (fun _ => rfl) ?_
  refine wq_zlt rfl (by first | omega | decide | exact Nat.lt_of_le_of_lt Nat.and_le_right (by decide) | exact ⟨by omega, by omega⟩) (fun c => absurd c (by omega)) (fun c1 => ?_)
  refine wq_go rfl (fun _ => rfl) ?_
  refine wq_go rfl (fun _ => rfl) ?_
  refine wq_getf rfl (by first | rfl | assumption) (by first | decide | omega | assumption) (cw_c21 hC) rfl ?_
  refine wq_alen rfl (by first | rfl | assumption) (by first | decide | omega | assumption) rfl (cw_c27 hC) (arr_len _ _) ?_
  refine wq_cge rfl (by first | omega | decide | exact Nat.lt_of_le_of_lt Nat.and_le_right (by decide) | exact ⟨by omega, by omega⟩) (by first | omega | decide | exact Nat.lt_of_le_of_lt Nat.and_le_right (by decide) | exact ⟨by omega, by omega⟩) (fun c => absurd c (by omega)) (fun c6 => ?_)
  refine wq_go rfl (fun _ => rfl) ?_
  refine wq_getf rfl (by first | rfl | assumption) (by first | decide | omega | assumption) (cw_c21 hC) rfl ?_
  refine wq_go rfl (fun _ => rfl) ?_
  refine wq_iald rfl (by first | rfl | assumption) (by first | decide | omega | assumption) (cw_c27 hC) rfl (by omega) (by first | decide | omega) ?_
  refine wq_top (cw_m27 hC c hc) ?_
  refine wq_go rfl (fun _ => rfl) ?_
  refine wq_iret rfl ?_
  exact K
theorem c_Plan_ownAtFirst {xs : List Int32} {d : Nat} {σ : Nat → List Value} {Q : Option Value → (Nat → List Value) → Prop} {P : Pl} (hC : CW P σ) {h t : Nat} (hh : h < Phd P) (ht : t < 4) (K : Q (some (.int (nI (Pow P (h * 4 + t))))) σ) : Wq xs (d + 0) ax_cd79 0 [(0, .ref 21), (1, .int (nI h)), (2, .int (nI t))] [] σ Q := by
  have hPk := cw_pok hC
  obtain ⟨hP1, hP2, hP3, hP4, hP5, hP6, hP7, hP8, hPv, hPm, hPo, hPw, hPl⟩ := hPk
  refine wq_go rfl (fun _ => rfl) ?_
  refine wq_cN (m := 4) rfl rfl ?_
  refine wq_mulN rfl ?_
  refine wq_go rfl (fun _ => rfl) ?_
  refine wq_addN rfl ?_
  refine wq_go rfl (fun _ => rfl) ?_
  refine wq_go rfl (fun _ => rfl) ?_
  refine wq_zlt rfl (by first | omega | decide | exact Nat.lt_of_le_of_lt Nat.and_le_right (by decide) | exact ⟨by omega, by omega⟩) (fun c => absurd c (by omega)) (fun c7 => ?_)
  refine wq_go rfl (fun _ => rfl) ?_
  refine wq_go rfl (fun _ => rfl) ?_
  refine wq_getf rfl (by first | rfl | assumption) (by first | decide | omega | assumption) (cw_c21 hC) rfl ?_
  refine wq_alen rfl (by first | rfl | assumption) (by first | decide | omega | assumption) rfl (cw_c24 hC) (arr_len _ _) ?_
  refine wq_cge rfl (by first | omega | decide | exact Nat.lt_of_le_of_lt Nat.and_le_right (by decide) | exact ⟨by omega, by omega⟩) (by first | omega | decide | exact Nat.lt_of_le_of_lt Nat.and_le_right (by decide) | exact ⟨by omega, by omega⟩) (fun c => absurd c (by omega)) (fun c12 => ?_)
  refine wq_go rfl (fun _ => rfl) ?_
  refine wq_getf rfl (by first | rfl | assumption) (by first | decide | omega | assumption) (cw_c21 hC) rfl ?_
  refine wq_go rfl (fun _ => rfl) ?_
  refine wq_iald rfl (by first | rfl | assumption) (by first | decide | omega | assumption) (cw_c24 hC) rfl (by omega) (by first | decide | omega) ?_
  refine wq_top (cw_m24 hC _ (by omega)) ?_
  refine wq_go rfl (fun _ => rfl) ?_
  refine wq_iret rfl ?_
  exact K
theorem c_oilAll_l {xs : List Int32} {d : Nat} {σ : Nat → List Value} {Q : Option Value → (Nat → List Value) → Prop} {P : Pl} (hC : CW P σ) (K : Q (some (.int (nI (sumF (Poi P) (Phd P))))) σ) : ∀ (m u : Nat), m + u = Phd P → Wq xs (d + 1) ax_cd209 4 [(2, .int (nI u)), (1, .int (nI (sumF (Poi P) u))), (0, .ref 21)] [] σ Q := by
  have hPk := cw_pok hC
  obtain ⟨hP1, hP2, hP3, hP4, hP5, hP6, hP7, hP8, hPv, hPm, hPo, hPw, hPl⟩ := hPk
  intro m
  induction m with
  | zero =>
    intro u hm
    refine wq_go rfl (fun _ => rfl) ?_
    refine wq_go rfl (fun _ => rfl) ?_
    refine wq_getf rfl (by first | rfl | assumption) (by first | decide | omega | assumption) (cw_c21 hC) rfl ?_
    refine wq_cge rfl (by first | omega | decide | exact Nat.lt_of_le_of_lt Nat.and_le_right (by decide) | exact ⟨by omega, by omega⟩) (by first | omega | decide | exact Nat.lt_of_le_of_lt Nat.and_le_right (by decide) | exact ⟨by omega, by omega⟩) (fun c7 => ?_) (fun c => absurd (show _ from by omega) c)
    refine wq_go rfl (fun _ => rfl) ?_
    refine wq_iret rfl ?_
    rw [show u = Phd P by omega]
    exact K
  | succ m ih =>
    intro u hm
    refine wq_go rfl (fun _ => rfl) ?_
    refine wq_go rfl (fun _ => rfl) ?_
    refine wq_getf rfl (by first | rfl | assumption) (by first | decide | omega | assumption) (cw_c21 hC) rfl ?_
    refine wq_cge rfl (by first | omega | decide | exact Nat.lt_of_le_of_lt Nat.and_le_right (by decide) | exact ⟨by omega, by omega⟩) (by first | omega | decide | exact Nat.lt_of_le_of_lt Nat.and_le_right (by decide) | exact ⟨by omega, by omega⟩) (fun c => absurd c (by omega)) (fun c7 => ?_)
    refine wq_go rfl (fun _ => rfl) ?_
    refine wq_go rfl (fun _ => rfl) ?_
    refine wq_go rfl (fun _ => rfl) ?_
    refine wq_callV rfl rfl (by first | rfl | assumption) (by first | decide | omega | assumption) (Nat.le_of_ble_eq_true rfl) (Nat.le_of_ble_eq_true rfl) rfl rfl ?_
    refine c_Plan_oilOf hC (by first | assumption | omega | decide) ?_
    refine wq_addN rfl ?_
    refine wq_go rfl (fun _ => rfl) ?_
    refine wq_incN rfl rfl rfl ?_
    refine wq_go rfl (fun _ => rfl) ?_
    exact ih (u + 1) (by omega)
theorem c_Plan_oilOfAll {xs : List Int32} {d : Nat} {σ : Nat → List Value} {Q : Option Value → (Nat → List Value) → Prop} {P : Pl} (hC : CW P σ) (K : Q (some (.int (nI (sumF (Poi P) (Phd P))))) σ) : Wq xs (d + 1) ax_cd209 0 [(0, .ref 21)] [] σ Q := by
  have hPk := cw_pok hC
  obtain ⟨hP1, hP2, hP3, hP4, hP5, hP6, hP7, hP8, hPv, hPm, hPo, hPw, hPl⟩ := hPk
  refine wq_cN (m := 0) rfl rfl ?_
  refine wq_go rfl (fun _ => rfl) ?_
  refine wq_cN (m := 0) rfl rfl ?_
  refine wq_go rfl (fun _ => rfl) ?_
  exact c_oilAll_l hC K (Phd P) 0 rfl
theorem c_Plan_startOf {xs : List Int32} {d : Nat} {σ : Nat → List Value} {Q : Option Value → (Nat → List Value) → Prop} {P : Pl} (hC : CW P σ) {l s : Nat} (hl : l < 4) (hs : ag σ 29 l = nI s) (K : Q (some (.int (nI s))) σ) : Wq xs (d + 0) ax_cd109 0 [(0, .ref 21), (1, .int (nI l))] [] σ Q := by
  refine wq_go rfl (fun _ => rfl) ?_
  refine wq_zlt rfl (by first | omega | decide | exact Nat.lt_of_le_of_lt Nat.and_le_right (by decide) | exact ⟨by omega, by omega⟩) (fun c => absurd c (by omega)) (fun c1 => ?_)
  refine wq_go rfl (fun _ => rfl) ?_
  refine wq_go rfl (fun _ => rfl) ?_
  refine wq_getf rfl (by first | rfl | assumption) (by first | decide | omega | assumption) (cw_c21 hC) rfl ?_
  refine wq_alen rfl (by first | rfl | assumption) (by first | decide | omega | assumption) rfl (cw_c29 hC) (arr_len _ _) ?_
  refine wq_cge rfl (by first | omega | decide | exact Nat.lt_of_le_of_lt Nat.and_le_right (by decide) | exact ⟨by omega, by omega⟩) (by first | omega | decide | exact Nat.lt_of_le_of_lt Nat.and_le_right (by decide) | exact ⟨by omega, by omega⟩) (fun c => absurd c (by omega)) (fun c6 => ?_)
  refine wq_go rfl (fun _ => rfl) ?_
  refine wq_getf rfl (by first | rfl | assumption) (by first | decide | omega | assumption) (cw_c21 hC) rfl ?_
  refine wq_go rfl (fun _ => rfl) ?_
  refine wq_iald rfl (by first | rfl | assumption) (by first | decide | omega | assumption) (cw_c29 hC) rfl (by omega) (by first | decide | omega) ?_
  refine wq_top hs ?_
  refine wq_go rfl (fun _ => rfl) ?_
  refine wq_iret rfl ?_
  exact K
def swF (f : Nat → Nat) (a b u : Nat) : Nat → Nat := fun j => if a * 4 ≤ j ∧ j < a * 4 + u then f (j - a * 4 + b * 4) else if b * 4 ≤ j ∧ j < b * 4 + u then f (j - b * 4 + a * 4) else f j
def swS (S : St) (a b u : Nat) : St := (swF (Ssq S) a b u, Sow S, Ssi S, Ssb S, Shr S, Ssd S, Ssc S, Skp S)
theorem sw_step (f : Nat → Nat) {a b u : Nat} (hab : a ≠ b) (hu : u < 4) (j : Nat) : updN (updN (swF f a b u) (a * 4 + u) (swF f a b u (b * 4 + u))) (b * 4 + u) (swF f a b u (a * 4 + u)) j = swF f a b (u + 1) j := by
  have e1 : swF f a b u (b * 4 + u) = f (b * 4 + u) := by
    unfold swF
    rw [if_neg (by omega), if_neg (by omega)]
  have e2 : swF f a b u (a * 4 + u) = f (a * 4 + u) := by
    unfold swF
    rw [if_neg (by omega), if_neg (by omega)]
  rw [e1, e2]
  by_cases h1 : j = b * 4 + u
  · subst h1
    rw [updN_same]
    unfold swF
    rw [if_neg (by omega), if_pos (by omega)]
    congr 1
    omega
  · rw [updN_ne _ _ h1]
    by_cases h2 : j = a * 4 + u
    · subst h2
      rw [updN_same]
      unfold swF
      rw [if_pos (by omega)]
      congr 1
      omega
    · rw [updN_ne _ _ h2]
      unfold swF
      by_cases h3 : a * 4 ≤ j ∧ j < a * 4 + u
      · rw [if_pos h3, if_pos (by omega)]
      · rw [if_neg h3, if_neg (by omega : ¬ (a * 4 ≤ j ∧ j < a * 4 + (u + 1)))]
        by_cases h4 : b * 4 ≤ j ∧ j < b * 4 + u
        · rw [if_pos h4, if_pos (by omega)]
        · rw [if_neg h4, if_neg (by omega)]
/-- two squares change chairs, and their starch with them -/
def chS (S : St) (a b : Nat) : St := setSc (swS S a b 4) (setb (setb (Ssc S) a ((Ssc S).testBit b)) b ((Ssc S).testBit a))
theorem setb_lt {x a : Nat} {v : Bool} (ha : a < 4) (hx : x < 16) : setb x a v < 16 := by
  unfold setb
  split
  · exact Nat.or_lt_two_pow (n := 4) hx (Nat.pow_lt_pow_right (by decide) ha)
  · unfold clr
    split
    · exact Nat.lt_of_le_of_lt (Nat.sub_le _ _) hx
    · exact hx
theorem setSc_twice (S : St) (x y : Nat) : setSc (setSc S x) y = setSc S y := rfl
theorem c_swap_t {xs : List Int32} {d : Nat} {σ : Nat → List Value} {Q : Option Value → (Nat → List Value) → Prop} {k : Nat} {S : St} (hk : kd k = .inr 7) {a b : Nat} (ha : a < 4) (hb : b < 4) (hab : a ≠ b) (hsc : Ssc S < 16) (K : ∀ σ', Fr (xk k) σ σ' → StIs σ' k (chS S a b) → Q none σ') (σ1 : Nat → List Value) (hF : Fr (xk k) σ σ1) (hS1 : StIs σ1 k (swS S a b 4)) {u : Nat} : Wq xs (d + 1) ax_cd130 51 [(3, .int (nI u)), (0, .ref k), (1, .int (nI a)), (2, .int (nI b))] [] σ1 Q := by
  obtain ⟨hk1, hk2, hk3, hk4, hk5⟩ := St_k hk
  have hkr := St_rng hk
  refine wq_go rfl (fun _ => rfl) ?_
  refine wq_go rfl (fun _ => rfl) ?_
  refine wq_callV rfl rfl (by first | rfl | assumption) (by first | decide | omega | assumption) (Nat.le_of_ble_eq_true rfl) (Nat.le_of_ble_eq_true rfl) rfl rfl ?_
  refine c_State_isStarched hk hS1 (by omega) hsc (fun bA => ?_) (fun bA => ?_)
  · skip
    refine wq_go rfl (fun _ => rfl) ?_
    refine wq_go rfl (fun _ => rfl) ?_
    refine wq_go rfl (fun _ => rfl) ?_
    refine wq_go rfl (fun _ => rfl) ?_
    refine wq_go rfl (fun _ => rfl) ?_
    refine wq_callV rfl rfl (by first | rfl | assumption) (by first | decide | omega | assumption) (Nat.le_of_ble_eq_true rfl) (Nat.le_of_ble_eq_true rfl) rfl rfl ?_
    refine c_State_isStarched hk hS1 (by omega) hsc (fun bB => ?_) (fun bB => ?_)
    · skip
      refine wq_callV rfl rfl (by first | rfl | assumption) (by first | decide | omega | assumption) (Nat.le_of_ble_eq_true rfl) (Nat.le_of_ble_eq_true rfl) rfl rfl ?_
      refine c_State_setStarched1 hk hS1 (by omega) hsc (fun σ13 F13 S13 => ?_)
      refine wq_go rfl (fun _ => rfl) ?_
      refine wq_go rfl (fun _ => rfl) ?_
      refine wq_go rfl (fun _ => rfl) ?_
      refine wq_callV rfl rfl (by first | rfl | assumption) (by first | decide | omega | assumption) (Nat.le_of_ble_eq_true rfl) (Nat.le_of_ble_eq_true rfl) rfl rfl ?_
      refine c_State_setStarched1 hk S13 (by omega) (by first | exact setb_lt (v := true) ha hsc | exact setb_lt (v := false) ha hsc) (fun σ14 F14 S14 => ?_)
      refine wq_end rfl (fun _ => rfl) ?_
      exact K _ (fr_trans (fr_trans hF F13) F14) (by rw [chS, show (Ssc S).testBit a = _ from bA, show (Ssc S).testBit b = _ from bB]; exact S14)
    · skip
      refine wq_callV rfl rfl (by first | rfl | assumption) (by first | decide | omega | assumption) (Nat.le_of_ble_eq_true rfl) (Nat.le_of_ble_eq_true rfl) rfl rfl ?_
      refine c_State_setStarched0 hk hS1 (by omega) hsc (fun σ15 F15 S15 => ?_)
      refine wq_go rfl (fun _ => rfl) ?_
      refine wq_go rfl (fun _ => rfl) ?_
      refine wq_go rfl (fun _ => rfl) ?_
      refine wq_callV rfl rfl (by first | rfl | assumption) (by first | decide | omega | assumption) (Nat.le_of_ble_eq_true rfl) (Nat.le_of_ble_eq_true rfl) rfl rfl ?_
      refine c_State_setStarched1 hk S15 (by omega) (by first | exact setb_lt (v := true) ha hsc | exact setb_lt (v := false) ha hsc) (fun σ16 F16 S16 => ?_)
      refine wq_end rfl (fun _ => rfl) ?_
      exact K _ (fr_trans (fr_trans hF F15) F16) (by rw [chS, show (Ssc S).testBit a = _ from bA, show (Ssc S).testBit b = _ from bB]; exact S16)
  · skip
    refine wq_go rfl (fun _ => rfl) ?_
    refine wq_go rfl (fun _ => rfl) ?_
    refine wq_go rfl (fun _ => rfl) ?_
    refine wq_go rfl (fun _ => rfl) ?_
    refine wq_go rfl (fun _ => rfl) ?_
    refine wq_callV rfl rfl (by first | rfl | assumption) (by first | decide | omega | assumption) (Nat.le_of_ble_eq_true rfl) (Nat.le_of_ble_eq_true rfl) rfl rfl ?_
    refine c_State_isStarched hk hS1 (by omega) hsc (fun bB => ?_) (fun bB => ?_)
    · skip
      refine wq_callV rfl rfl (by first | rfl | assumption) (by first | decide | omega | assumption) (Nat.le_of_ble_eq_true rfl) (Nat.le_of_ble_eq_true rfl) rfl rfl ?_
      refine c_State_setStarched1 hk hS1 (by omega) hsc (fun σ18 F18 S18 => ?_)
      refine wq_go rfl (fun _ => rfl) ?_
      refine wq_go rfl (fun _ => rfl) ?_
      refine wq_go rfl (fun _ => rfl) ?_
      refine wq_callV rfl rfl (by first | rfl | assumption) (by first | decide | omega | assumption) (Nat.le_of_ble_eq_true rfl) (Nat.le_of_ble_eq_true rfl) rfl rfl ?_
      refine c_State_setStarched0 hk S18 (by omega) (by first | exact setb_lt (v := true) ha hsc | exact setb_lt (v := false) ha hsc) (fun σ19 F19 S19 => ?_)
      refine wq_end rfl (fun _ => rfl) ?_
      exact K _ (fr_trans (fr_trans hF F18) F19) (by rw [chS, show (Ssc S).testBit a = _ from bA, show (Ssc S).testBit b = _ from bB]; exact S19)
    · skip
      refine wq_callV rfl rfl (by first | rfl | assumption) (by first | decide | omega | assumption) (Nat.le_of_ble_eq_true rfl) (Nat.le_of_ble_eq_true rfl) rfl rfl ?_
      refine c_State_setStarched0 hk hS1 (by omega) hsc (fun σ20 F20 S20 => ?_)
      refine wq_go rfl (fun _ => rfl) ?_
      refine wq_go rfl (fun _ => rfl) ?_
      refine wq_go rfl (fun _ => rfl) ?_
      refine wq_callV rfl rfl (by first | rfl | assumption) (by first | decide | omega | assumption) (Nat.le_of_ble_eq_true rfl) (Nat.le_of_ble_eq_true rfl) rfl rfl ?_
      refine c_State_setStarched0 hk S20 (by omega) (by first | exact setb_lt (v := true) ha hsc | exact setb_lt (v := false) ha hsc) (fun σ21 F21 S21 => ?_)
      refine wq_end rfl (fun _ => rfl) ?_
      exact K _ (fr_trans (fr_trans hF F20) F21) (by rw [chS, show (Ssc S).testBit a = _ from bA, show (Ssc S).testBit b = _ from bB]; exact S21)
theorem c_swap_l {xs : List Int32} {d : Nat} {σ : Nat → List Value} {Q : Option Value → (Nat → List Value) → Prop} {k : Nat} {S : St} (hk : kd k = .inr 7) {a b : Nat} (ha : a < 4) (hb : b < 4) (hab : a ≠ b) (hsc : Ssc S < 16) (K : ∀ σ', Fr (xk k) σ σ' → StIs σ' k (chS S a b) → Q none σ') : ∀ (m u : Nat), m + u = 4 → ∀ σ1, Fr (xk k) σ σ1 → StIs σ1 k (swS S a b u) → Wq xs (d + 1) ax_cd130 2 [(3, .int (nI u)), (0, .ref k), (1, .int (nI a)), (2, .int (nI b))] [] σ1 Q := by
  obtain ⟨hk1, hk2, hk3, hk4, hk5⟩ := St_k hk
  have hkr := St_rng hk
  intro m
  induction m with
  | zero =>
    intro u hm σ1 hF hS1
    refine wq_go rfl (fun _ => rfl) ?_
    refine wq_cN (m := 4) rfl rfl ?_
    refine wq_cge rfl (by first | omega | decide | exact Nat.lt_of_le_of_lt Nat.and_le_right (by decide) | exact ⟨by omega, by omega⟩) (by first | omega | decide | exact Nat.lt_of_le_of_lt Nat.and_le_right (by decide) | exact ⟨by omega, by omega⟩) (fun c4 => ?_) (fun c => absurd (show _ from by omega) c)
    exact c_swap_t hk ha hb hab hsc K σ1 hF (by rw [show u = 4 by omega] at hS1; exact hS1)
  | succ m ih =>
    intro u hm σ1 hF hS1
    refine wq_go rfl (fun _ => rfl) ?_
    refine wq_cN (m := 4) rfl rfl ?_
    refine wq_cge rfl (by first | omega | decide | exact Nat.lt_of_le_of_lt Nat.and_le_right (by decide) | exact ⟨by omega, by omega⟩) (by first | omega | decide | exact Nat.lt_of_le_of_lt Nat.and_le_right (by decide) | exact ⟨by omega, by omega⟩) (fun c => absurd c (by omega)) (fun c4 => ?_)
    refine wq_go rfl (fun _ => rfl) ?_
    refine wq_cN (m := 4) rfl rfl ?_
    refine wq_mulN rfl ?_
    refine wq_go rfl (fun _ => rfl) ?_
    refine wq_addN rfl ?_
    refine wq_go rfl (fun _ => rfl) ?_
    refine wq_go rfl (fun _ => rfl) ?_
    refine wq_cN (m := 4) rfl rfl ?_
    refine wq_mulN rfl ?_
    refine wq_go rfl (fun _ => rfl) ?_
    refine wq_addN rfl ?_
    refine wq_go rfl (fun _ => rfl) ?_
    refine wq_go rfl (fun _ => rfl) ?_
    refine wq_zlt rfl (by first | omega | decide | exact Nat.lt_of_le_of_lt Nat.and_le_right (by decide) | exact ⟨by omega, by omega⟩) (fun c => absurd c (by omega)) (fun c18 => ?_)
    refine wq_go rfl (fun _ => rfl) ?_
    refine wq_go rfl (fun _ => rfl) ?_
    refine wq_getf rfl (by first | rfl | assumption) (by first | decide | omega | assumption) hS1.1 rfl ?_
    refine wq_alen rfl (by first | rfl | assumption) (by first | decide | omega | assumption) rfl hS1.2.1 (arrN_len _ _) ?_
    refine wq_cge rfl (by first | omega | decide | exact Nat.lt_of_le_of_lt Nat.and_le_right (by decide) | exact ⟨by omega, by omega⟩) (by first | omega | decide | exact Nat.lt_of_le_of_lt Nat.and_le_right (by decide) | exact ⟨by omega, by omega⟩) (fun c => absurd c (by omega)) (fun c23 => ?_)
    refine wq_go rfl (fun _ => rfl) ?_
    refine wq_zlt rfl (by first | omega | decide | exact Nat.lt_of_le_of_lt Nat.and_le_right (by decide) | exact ⟨by omega, by omega⟩) (fun c => absurd c (by omega)) (fun c25 => ?_)
    refine wq_go rfl (fun _ => rfl) ?_
    refine wq_go rfl (fun _ => rfl) ?_
    refine wq_getf rfl (by first | rfl | assumption) (by first | decide | omega | assumption) hS1.1 rfl ?_
    refine wq_alen rfl (by first | rfl | assumption) (by first | decide | omega | assumption) rfl hS1.2.1 (arrN_len _ _) ?_
    refine wq_cge rfl (by first | omega | decide | exact Nat.lt_of_le_of_lt Nat.and_le_right (by decide) | exact ⟨by omega, by omega⟩) (by first | omega | decide | exact Nat.lt_of_le_of_lt Nat.and_le_right (by decide) | exact ⟨by omega, by omega⟩) (fun c => absurd c (by omega)) (fun c30 => ?_)
    refine wq_go rfl (fun _ => rfl) ?_
    refine wq_getf rfl (by first | rfl | assumption) (by first | decide | omega | assumption) hS1.1 rfl ?_
    refine wq_go rfl (fun _ => rfl) ?_
    refine wq_ialdN rfl (by first | rfl | assumption) (by first | decide | omega | assumption) hS1.2.1 rfl (by omega) (by first | decide | omega) ?_
    refine wq_go rfl (fun _ => rfl) ?_
    refine wq_go rfl (fun _ => rfl) ?_
    refine wq_getf rfl (by first | rfl | assumption) (by first | decide | omega | assumption) hS1.1 rfl ?_
    refine wq_go rfl (fun _ => rfl) ?_
    refine wq_go rfl (fun _ => rfl) ?_
    refine wq_getf rfl (by first | rfl | assumption) (by first | decide | omega | assumption) hS1.1 rfl ?_
    refine wq_go rfl (fun _ => rfl) ?_
    refine wq_ialdN rfl (by first | rfl | assumption) (by first | decide | omega | assumption) hS1.2.1 rfl (by omega) (by first | decide | omega) ?_
    refine wq_iastN rfl (by first | rfl | assumption) (by first | decide | omega | assumption) hS1.2.1 rfl (by omega) (by first | decide | omega) ?_
    refine wq_go rfl (fun _ => rfl) ?_
    refine wq_getf rfl (by first | rfl | assumption) (by first | decide | omega | assumption) ((up_ne _ _ (by omega)).trans hS1.1) rfl ?_
    refine wq_go rfl (fun _ => rfl) ?_
    refine wq_go rfl (fun _ => rfl) ?_
    refine wq_iastN rfl (by first | rfl | assumption) (by first | decide | omega | assumption) (up_same _ _ _) rfl (by omega) (by first | decide | omega) ?_
    rw [up_up]
    refine wq_incN rfl rfl rfl ?_
    refine wq_go rfl (fun _ => rfl) ?_
    exact wq_lv ⟨(by decide : ([3, 6, 5, 4, 0, 1, 2] : List Nat).Nodup), (lvm (List.mem_of_getElem? (i := 0) rfl) (lvm (List.mem_of_getElem? (i := 4) rfl) (lvm (List.mem_of_getElem? (i := 5) rfl) (lvm (List.mem_of_getElem? (i := 6) rfl) lvn))))⟩ (ih (u + 1) (by omega) _ (fr_up hF (xk_in (by omega) (by omega))) ⟨((up_ne _ _ (by omega)).trans hS1.1), ((up_same _ _ _).trans (arrN_congr (fun j _ => sw_step (Ssq S) hab (by omega) j))), ((up_ne _ _ (by omega)).trans hS1.2.2.1), ((up_ne _ _ (by omega)).trans hS1.2.2.2.1), ((up_ne _ _ (by omega)).trans hS1.2.2.2.2)⟩)
theorem swS0 (S : St) (a b : Nat) : swS S a b 0 = S := by
  have e : swF (Ssq S) a b 0 = Ssq S := by
    funext j
    unfold swF
    rw [if_neg (by omega), if_neg (by omega)]
  unfold swS
  rw [e]
  rfl
theorem c_State_swapSquares {xs : List Int32} {d : Nat} {σ : Nat → List Value} {Q : Option Value → (Nat → List Value) → Prop} {k : Nat} {S : St} (hk : kd k = .inr 7) (hS : StIs σ k S) {a b : Nat} (ha : a < 4) (hb : b < 4) (hab : a ≠ b) (hsc : Ssc S < 16) (K : ∀ σ', Fr (xk k) σ σ' → StIs σ' k (chS S a b) → Q none σ') : Wq xs (d + 1) ax_cd130 0 [(0, .ref k), (1, .int (nI a)), (2, .int (nI b))] [] σ Q := by
  obtain ⟨hk1, hk2, hk3, hk4, hk5⟩ := St_k hk
  have hkr := St_rng hk
  refine wq_cN (m := 0) rfl rfl ?_
  refine wq_go rfl (fun _ => rfl) ?_
  exact c_swap_l hk ha hb hab hsc K 4 0 rfl σ (fr_refl _ _) (by rw [swS0]; exact hS)
def begS (P : Pl) : St := (fun _ => 0, fun i => if i / 4 < Phd P then Pow P i else 0, fun _ => 0, fun _ => 0, 0, 0, 0, 2 ^ Pvs P - 1)
theorem c_begin4 {xs : List Int32} {d : Nat} {σ : Nat → List Value} {Q : Option Value → (Nat → List Value) → Prop} {k : Nat} (hk : kd k = .inr 7) {P : Pl} (K : ∀ σ', Fr (xk k) σ σ' → StIs σ' k (begS P) → Q none σ') : ∀ (m u : Nat), m + u = 20 → ∀ σ1 S1, Fr (xk k) σ σ1 → CW P σ1 → StIs σ1 k S1 → (∀ j, j < 16 → Ssq S1 j = 0) → (∀ j, j < 4 → Ssi S1 j = 0) → (∀ j, j < 5 → Ssb S1 j = 0) → (∀ j, j < u → Sow S1 j = if j / 4 < Phd P then Pow P j else 0) → Wq xs (d + 1) ax_cd77 44 [(2, .int (nI u)), (0, .ref k), (1, .ref 21)] [] σ1 Q := by
  obtain ⟨hk1, hk2, hk3, hk4, hk5⟩ := St_k hk
  have hkr := St_rng hk
  intro m
  induction m with
  | zero =>
    intro u hm σ1 S1 hF hC1 hS1 h1 h2 h3 h4
    obtain ⟨hP1, hP2, hP3, _, _, _, _, _, _, _, _, _, _⟩ := cw_pok hC1
    refine wq_go rfl (fun _ => rfl) ?_
    refine wq_go rfl (fun _ => rfl) ?_
    refine wq_getf rfl (by first | rfl | assumption) (by first | decide | omega | assumption) hS1.1 rfl ?_
    refine wq_alen rfl (by first | rfl | assumption) (by first | decide | omega | assumption) rfl hS1.2.2.1 (arrN_len _ _) ?_
    refine wq_cge rfl (by first | omega | decide | exact Nat.lt_of_le_of_lt Nat.and_le_right (by decide) | exact ⟨by omega, by omega⟩) (by first | omega | decide | exact Nat.lt_of_le_of_lt Nat.and_le_right (by decide) | exact ⟨by omega, by omega⟩) (fun c48 => ?_) (fun c => absurd (show _ from by omega) c)
    refine wq_go rfl (fun _ => rfl) ?_
    refine wq_cN (m := 0) rfl rfl ?_
    refine wq_putf rfl (by first | rfl | assumption) (by first | decide | omega | assumption) hS1.1 rfl rfl rfl (by simp) ?_
    refine wq_go rfl (fun _ => rfl) ?_
    refine wq_cN (m := 0) rfl rfl ?_
    refine wq_putf rfl (by first | rfl | assumption) (by first | decide | omega | assumption) (up_same _ _ _) rfl rfl rfl (by simp) ?_
    rw [up_up]
    refine wq_go rfl (fun _ => rfl) ?_
    refine wq_cN (m := 0) rfl rfl ?_
    refine wq_putf rfl (by first | rfl | assumption) (by first | decide | omega | assumption) (up_same _ _ _) rfl rfl rfl (by simp) ?_
    rw [up_up]
    refine wq_go rfl (fun _ => rfl) ?_
    refine wq_cN (m := 1) rfl rfl ?_
    refine wq_go rfl (fun _ => rfl) ?_
    refine wq_getf rfl (by first | rfl | assumption) (by first | decide | omega | assumption) ((up_ne _ _ (by omega)).trans (cw_c21 hC1)) rfl ?_
    refine wq_shl1 rfl (by first | decide | omega) ?_
    refine wq_cN (m := 1) rfl rfl ?_
    refine wq_subN rfl (by have := Nat.one_le_two_pow (n := Pvs P); omega) ?_
    refine wq_putf rfl (by first | rfl | assumption) (by first | decide | omega | assumption) (up_same _ _ _) rfl rfl rfl (by simp) ?_
    rw [up_up]
    refine wq_end rfl (fun _ => rfl) ?_
    exact K _ (fr_up hF (xk_in (by omega) (by omega))) ⟨(up_same _ _ _), ((up_ne _ _ (by omega)).trans hS1.2.1).trans (arrN_congr (fun j hj => h1 j hj)), ((up_ne _ _ (by omega)).trans hS1.2.2.1).trans (arrN_congr (fun j hj => h4 j (by omega))), ((up_ne _ _ (by omega)).trans hS1.2.2.2.1).trans (arrN_congr (fun j hj => h2 j hj)), ((up_ne _ _ (by omega)).trans hS1.2.2.2.2).trans (arrN_congr (fun j hj => h3 j hj))⟩
  | succ m ih =>
    intro u hm σ1 S1 hF hC1 hS1 h1 h2 h3 h4
    obtain ⟨hP1, hP2, hP3, _, _, _, _, _, _, _, _, _, _⟩ := cw_pok hC1
    refine wq_go rfl (fun _ => rfl) ?_
    refine wq_go rfl (fun _ => rfl) ?_
    refine wq_getf rfl (by first | rfl | assumption) (by first | decide | omega | assumption) hS1.1 rfl ?_
    refine wq_alen rfl (by first | rfl | assumption) (by first | decide | omega | assumption) rfl hS1.2.2.1 (arrN_len _ _) ?_
    refine wq_cge rfl (by first | omega | decide | exact Nat.lt_of_le_of_lt Nat.and_le_right (by decide) | exact ⟨by omega, by omega⟩) (by first | omega | decide | exact Nat.lt_of_le_of_lt Nat.and_le_right (by decide) | exact ⟨by omega, by omega⟩) (fun c => absurd c (by omega)) (fun c48 => ?_)
    refine wq_go rfl (fun _ => rfl) ?_
    refine wq_cN (m := 4) rfl rfl ?_
    refine wq_divN rfl (by first | decide | omega) (by first | decide | omega) (by first | decide | omega) ?_
    refine wq_go rfl (fun _ => rfl) ?_
    refine wq_go rfl (fun _ => rfl) ?_
    refine wq_getf rfl (by first | rfl | assumption) (by first | decide | omega | assumption) hS1.1 rfl ?_
    refine wq_go rfl (fun _ => rfl) ?_
    refine wq_go rfl (fun _ => rfl) ?_
    refine wq_go rfl (fun _ => rfl) ?_
    refine wq_callV rfl rfl (by first | rfl | assumption) (by first | decide | omega | assumption) (Nat.le_of_ble_eq_true rfl) (Nat.le_of_ble_eq_true rfl) rfl rfl ?_
    refine c_hasHeadN hC1 (by omega) (fun bh => ?_) (fun bh => ?_)
    · skip
      refine wq_zeq rfl (by first | omega | decide | exact Nat.lt_of_le_of_lt Nat.and_le_right (by decide) | exact ⟨by omega, by omega⟩) (fun c => absurd c (by omega)) (fun c59 => ?_)
      refine wq_go rfl (fun _ => rfl) ?_
      refine wq_go rfl (fun _ => rfl) ?_
      refine wq_go rfl (fun _ => rfl) ?_
      refine wq_cN (m := 4) rfl rfl ?_
      refine wq_remN rfl (by first | decide | omega) (by first | decide | omega) (by first | decide | omega) ?_
      refine wq_callV rfl rfl (by first | rfl | assumption) (by first | decide | omega | assumption) (Nat.le_of_ble_eq_true rfl) (Nat.le_of_ble_eq_true rfl) rfl rfl ?_
      refine c_Plan_ownAtFirst hC1 (by omega) (by omega) ?_
      refine wq_go rfl (fun _ => rfl) ?_
      refine wq_iastN rfl (by first | rfl | assumption) (by first | decide | omega | assumption) hS1.2.2.1 rfl (by omega) (by first | decide | omega) ?_
      refine wq_incN rfl rfl rfl ?_
      refine wq_go rfl (fun _ => rfl) ?_
      exact wq_lv ⟨(by decide : ([2, 3, 0, 1] : List Nat).Nodup), (lvm (List.mem_of_getElem? (i := 0) rfl) (lvm (List.mem_of_getElem? (i := 2) rfl) (lvm (List.mem_of_getElem? (i := 3) rfl) lvn)))⟩ (ih (u + 1) (by omega) _ (Ssq S1, updN (Sow S1) u (Pow P (u / 4 * 4 + u % 4)), Ssi S1, Ssb S1, Shr S1, Ssd S1, Ssc S1, Skp S1) (fr_up hF (xk_in (by omega) (by omega))) (cw_k hk hC1 (fr_up (fr_refl _ _) (xk_in (by omega) (by omega)))) ⟨((up_ne _ _ (by omega)).trans hS1.1), ((up_ne _ _ (by omega)).trans hS1.2.1), (up_same _ _ _), ((up_ne _ _ (by omega)).trans hS1.2.2.2.1), ((up_ne _ _ (by omega)).trans hS1.2.2.2.2)⟩ h1 h2 h3 (fun j hj => by
        by_cases e : j = u
        · subst e; show updN (Sow S1) j _ j = _; rw [updN_same]; first | rw [if_pos (by assumption)]; congr 1; omega | rw [if_neg (by assumption)]
        · show updN (Sow S1) u _ j = _; rw [updN_ne _ _ e]; exact h4 j (by omega)))
    · skip
      refine wq_zeq rfl (by first | omega | decide | exact Nat.lt_of_le_of_lt Nat.and_le_right (by decide) | exact ⟨by omega, by omega⟩) (fun c59 => ?_) (fun c => absurd (show _ from by omega) c)
      refine wq_cN (m := 0) rfl rfl ?_
      refine wq_iastN rfl (by first | rfl | assumption) (by first | decide | omega | assumption) hS1.2.2.1 rfl (by omega) (by first | decide | omega) ?_
      refine wq_incN rfl rfl rfl ?_
      refine wq_go rfl (fun _ => rfl) ?_
      exact wq_lv ⟨(by decide : ([2, 3, 0, 1] : List Nat).Nodup), (lvm (List.mem_of_getElem? (i := 0) rfl) (lvm (List.mem_of_getElem? (i := 2) rfl) (lvm (List.mem_of_getElem? (i := 3) rfl) lvn)))⟩ (ih (u + 1) (by omega) _ (Ssq S1, updN (Sow S1) u (0), Ssi S1, Ssb S1, Shr S1, Ssd S1, Ssc S1, Skp S1) (fr_up hF (xk_in (by omega) (by omega))) (cw_k hk hC1 (fr_up (fr_refl _ _) (xk_in (by omega) (by omega)))) ⟨((up_ne _ _ (by omega)).trans hS1.1), ((up_ne _ _ (by omega)).trans hS1.2.1), (up_same _ _ _), ((up_ne _ _ (by omega)).trans hS1.2.2.2.1), ((up_ne _ _ (by omega)).trans hS1.2.2.2.2)⟩ h1 h2 h3 (fun j hj => by
        by_cases e : j = u
        · subst e; show updN (Sow S1) j _ j = _; rw [updN_same]; first | rw [if_pos (by assumption)]; congr 1; omega | rw [if_neg (by assumption)]
        · show updN (Sow S1) u _ j = _; rw [updN_ne _ _ e]; exact h4 j (by omega)))
theorem c_begin3 {xs : List Int32} {d : Nat} {σ : Nat → List Value} {Q : Option Value → (Nat → List Value) → Prop} {k : Nat} (hk : kd k = .inr 7) {P : Pl} (K : ∀ σ', Fr (xk k) σ σ' → StIs σ' k (begS P) → Q none σ') : ∀ (m u : Nat), m + u = 5 → ∀ σ1 S1, Fr (xk k) σ σ1 → CW P σ1 → StIs σ1 k S1 → (∀ j, j < 16 → Ssq S1 j = 0) → (∀ j, j < 4 → Ssi S1 j = 0) → (∀ j, j < u → Ssb S1 j = 0) → Wq xs (d + 1) ax_cd77 30 [(2, .int (nI u)), (0, .ref k), (1, .ref 21)] [] σ1 Q := by
  obtain ⟨hk1, hk2, hk3, hk4, hk5⟩ := St_k hk
  have hkr := St_rng hk
  intro m
  induction m with
  | zero =>
    intro u hm σ1 S1 hF hC1 hS1 h1 h2 h9
    refine wq_go rfl (fun _ => rfl) ?_
    refine wq_go rfl (fun _ => rfl) ?_
    refine wq_getf rfl (by first | rfl | assumption) (by first | decide | omega | assumption) hS1.1 rfl ?_
    refine wq_alen rfl (by first | rfl | assumption) (by first | decide | omega | assumption) rfl hS1.2.2.2.2 (arrN_len _ _) ?_
    refine wq_cge rfl (by first | omega | decide | exact Nat.lt_of_le_of_lt Nat.and_le_right (by decide) | exact ⟨by omega, by omega⟩) (by first | omega | decide | exact Nat.lt_of_le_of_lt Nat.and_le_right (by decide) | exact ⟨by omega, by omega⟩) (fun c34 => ?_) (fun c => absurd (show _ from by omega) c)
    refine wq_cN (m := 0) rfl rfl ?_
    refine wq_go rfl (fun _ => rfl) ?_
    exact c_begin4 hk K 20 0 rfl σ1 S1 hF hC1 hS1 h1 h2 (fun j hj => h9 j (by omega)) (fun j hj => absurd hj (by omega))
  | succ m ih =>
    intro u hm σ1 S1 hF hC1 hS1 h1 h2 h9
    refine wq_go rfl (fun _ => rfl) ?_
    refine wq_go rfl (fun _ => rfl) ?_
    refine wq_getf rfl (by first | rfl | assumption) (by first | decide | omega | assumption) hS1.1 rfl ?_
    refine wq_alen rfl (by first | rfl | assumption) (by first | decide | omega | assumption) rfl hS1.2.2.2.2 (arrN_len _ _) ?_
    refine wq_cge rfl (by first | omega | decide | exact Nat.lt_of_le_of_lt Nat.and_le_right (by decide) | exact ⟨by omega, by omega⟩) (by first | omega | decide | exact Nat.lt_of_le_of_lt Nat.and_le_right (by decide) | exact ⟨by omega, by omega⟩) (fun c => absurd c (by omega)) (fun c34 => ?_)
    refine wq_go rfl (fun _ => rfl) ?_
    refine wq_getf rfl (by first | rfl | assumption) (by first | decide | omega | assumption) hS1.1 rfl ?_
    refine wq_go rfl (fun _ => rfl) ?_
    refine wq_cN (m := 0) rfl rfl ?_
    refine wq_iastN rfl (by first | rfl | assumption) (by first | decide | omega | assumption) hS1.2.2.2.2 rfl (by omega) (by first | decide | omega) ?_
    refine wq_incN rfl rfl rfl ?_
    refine wq_go rfl (fun _ => rfl) ?_
    exact ih (u + 1) (by omega) _ (Ssq S1, Sow S1, Ssi S1, updN (Ssb S1) u 0, Shr S1, Ssd S1, Ssc S1, Skp S1) (fr_up hF (xk_in (by omega) (by omega))) (cw_k hk hC1 (fr_up (fr_refl _ _) (xk_in (by omega) (by omega)))) ⟨((up_ne _ _ (by omega)).trans hS1.1), ((up_ne _ _ (by omega)).trans hS1.2.1), ((up_ne _ _ (by omega)).trans hS1.2.2.1), ((up_ne _ _ (by omega)).trans hS1.2.2.2.1), (up_same _ _ _)⟩ h1 h2 (fun j hj => by
      by_cases e : j = u
      · subst e; exact updN_same _ _ _
      · exact (updN_ne _ _ e).trans (h9 j (by omega)))
theorem c_begin2 {xs : List Int32} {d : Nat} {σ : Nat → List Value} {Q : Option Value → (Nat → List Value) → Prop} {k : Nat} (hk : kd k = .inr 7) {P : Pl} (K : ∀ σ', Fr (xk k) σ σ' → StIs σ' k (begS P) → Q none σ') : ∀ (m u : Nat), m + u = 4 → ∀ σ1 S1, Fr (xk k) σ σ1 → CW P σ1 → StIs σ1 k S1 → (∀ j, j < 16 → Ssq S1 j = 0) → (∀ j, j < u → Ssi S1 j = 0) → Wq xs (d + 1) ax_cd77 16 [(2, .int (nI u)), (0, .ref k), (1, .ref 21)] [] σ1 Q := by
  obtain ⟨hk1, hk2, hk3, hk4, hk5⟩ := St_k hk
  have hkr := St_rng hk
  intro m
  induction m with
  | zero =>
    intro u hm σ1 S1 hF hC1 hS1 h1 h9
    refine wq_go rfl (fun _ => rfl) ?_
    refine wq_go rfl (fun _ => rfl) ?_
    refine wq_getf rfl (by first | rfl | assumption) (by first | decide | omega | assumption) hS1.1 rfl ?_
    refine wq_alen rfl (by first | rfl | assumption) (by first | decide | omega | assumption) rfl hS1.2.2.2.1 (arrN_len _ _) ?_
    refine wq_cge rfl (by first | omega | decide | exact Nat.lt_of_le_of_lt Nat.and_le_right (by decide) | exact ⟨by omega, by omega⟩) (by first | omega | decide | exact Nat.lt_of_le_of_lt Nat.and_le_right (by decide) | exact ⟨by omega, by omega⟩) (fun c20 => ?_) (fun c => absurd (show _ from by omega) c)
    refine wq_cN (m := 0) rfl rfl ?_
    refine wq_go rfl (fun _ => rfl) ?_
    exact c_begin3 hk K 5 0 rfl σ1 S1 hF hC1 hS1 h1 (fun j hj => h9 j (by omega)) (fun j hj => absurd hj (by omega))
  | succ m ih =>
    intro u hm σ1 S1 hF hC1 hS1 h1 h9
    refine wq_go rfl (fun _ => rfl) ?_
    refine wq_go rfl (fun _ => rfl) ?_
    refine wq_getf rfl (by first | rfl | assumption) (by first | decide | omega | assumption) hS1.1 rfl ?_
    refine wq_alen rfl (by first | rfl | assumption) (by first | decide | omega | assumption) rfl hS1.2.2.2.1 (arrN_len _ _) ?_
    refine wq_cge rfl (by first | omega | decide | exact Nat.lt_of_le_of_lt Nat.and_le_right (by decide) | exact ⟨by omega, by omega⟩) (by first | omega | decide | exact Nat.lt_of_le_of_lt Nat.and_le_right (by decide) | exact ⟨by omega, by omega⟩) (fun c => absurd c (by omega)) (fun c20 => ?_)
    refine wq_go rfl (fun _ => rfl) ?_
    refine wq_getf rfl (by first | rfl | assumption) (by first | decide | omega | assumption) hS1.1 rfl ?_
    refine wq_go rfl (fun _ => rfl) ?_
    refine wq_cN (m := 0) rfl rfl ?_
    refine wq_iastN rfl (by first | rfl | assumption) (by first | decide | omega | assumption) hS1.2.2.2.1 rfl (by omega) (by first | decide | omega) ?_
    refine wq_incN rfl rfl rfl ?_
    refine wq_go rfl (fun _ => rfl) ?_
    exact ih (u + 1) (by omega) _ (Ssq S1, Sow S1, updN (Ssi S1) u 0, Ssb S1, Shr S1, Ssd S1, Ssc S1, Skp S1) (fr_up hF (xk_in (by omega) (by omega))) (cw_k hk hC1 (fr_up (fr_refl _ _) (xk_in (by omega) (by omega)))) ⟨((up_ne _ _ (by omega)).trans hS1.1), ((up_ne _ _ (by omega)).trans hS1.2.1), ((up_ne _ _ (by omega)).trans hS1.2.2.1), (up_same _ _ _), ((up_ne _ _ (by omega)).trans hS1.2.2.2.2)⟩ h1 (fun j hj => by
      by_cases e : j = u
      · subst e; exact updN_same _ _ _
      · exact (updN_ne _ _ e).trans (h9 j (by omega)))
theorem c_begin1 {xs : List Int32} {d : Nat} {σ : Nat → List Value} {Q : Option Value → (Nat → List Value) → Prop} {k : Nat} (hk : kd k = .inr 7) {P : Pl} (K : ∀ σ', Fr (xk k) σ σ' → StIs σ' k (begS P) → Q none σ') : ∀ (m u : Nat), m + u = 16 → ∀ σ1 S1, Fr (xk k) σ σ1 → CW P σ1 → StIs σ1 k S1 → (∀ j, j < u → Ssq S1 j = 0) → Wq xs (d + 1) ax_cd77 2 [(2, .int (nI u)), (0, .ref k), (1, .ref 21)] [] σ1 Q := by
  obtain ⟨hk1, hk2, hk3, hk4, hk5⟩ := St_k hk
  have hkr := St_rng hk
  intro m
  induction m with
  | zero =>
    intro u hm σ1 S1 hF hC1 hS1  h9
    refine wq_go rfl (fun _ => rfl) ?_
    refine wq_go rfl (fun _ => rfl) ?_
    refine wq_getf rfl (by first | rfl | assumption) (by first | decide | omega | assumption) hS1.1 rfl ?_
    refine wq_alen rfl (by first | rfl | assumption) (by first | decide | omega | assumption) rfl hS1.2.1 (arrN_len _ _) ?_
    refine wq_cge rfl (by first | omega | decide | exact Nat.lt_of_le_of_lt Nat.and_le_right (by decide) | exact ⟨by omega, by omega⟩) (by first | omega | decide | exact Nat.lt_of_le_of_lt Nat.and_le_right (by decide) | exact ⟨by omega, by omega⟩) (fun c6 => ?_) (fun c => absurd (show _ from by omega) c)
    refine wq_cN (m := 0) rfl rfl ?_
    refine wq_go rfl (fun _ => rfl) ?_
    exact c_begin2 hk K 4 0 rfl σ1 S1 hF hC1 hS1  (fun j hj => h9 j (by omega)) (fun j hj => absurd hj (by omega))
  | succ m ih =>
    intro u hm σ1 S1 hF hC1 hS1  h9
    refine wq_go rfl (fun _ => rfl) ?_
    refine wq_go rfl (fun _ => rfl) ?_
    refine wq_getf rfl (by first | rfl | assumption) (by first | decide | omega | assumption) hS1.1 rfl ?_
    refine wq_alen rfl (by first | rfl | assumption) (by first | decide | omega | assumption) rfl hS1.2.1 (arrN_len _ _) ?_
    refine wq_cge rfl (by first | omega | decide | exact Nat.lt_of_le_of_lt Nat.and_le_right (by decide) | exact ⟨by omega, by omega⟩) (by first | omega | decide | exact Nat.lt_of_le_of_lt Nat.and_le_right (by decide) | exact ⟨by omega, by omega⟩) (fun c => absurd c (by omega)) (fun c6 => ?_)
    refine wq_go rfl (fun _ => rfl) ?_
    refine wq_getf rfl (by first | rfl | assumption) (by first | decide | omega | assumption) hS1.1 rfl ?_
    refine wq_go rfl (fun _ => rfl) ?_
    refine wq_cN (m := 0) rfl rfl ?_
    refine wq_iastN rfl (by first | rfl | assumption) (by first | decide | omega | assumption) hS1.2.1 rfl (by omega) (by first | decide | omega) ?_
    refine wq_incN rfl rfl rfl ?_
    refine wq_go rfl (fun _ => rfl) ?_
    exact ih (u + 1) (by omega) _ (updN (Ssq S1) u 0, Sow S1, Ssi S1, Ssb S1, Shr S1, Ssd S1, Ssc S1, Skp S1) (fr_up hF (xk_in (by omega) (by omega))) (cw_k hk hC1 (fr_up (fr_refl _ _) (xk_in (by omega) (by omega)))) ⟨((up_ne _ _ (by omega)).trans hS1.1), (up_same _ _ _), ((up_ne _ _ (by omega)).trans hS1.2.2.1), ((up_ne _ _ (by omega)).trans hS1.2.2.2.1), ((up_ne _ _ (by omega)).trans hS1.2.2.2.2)⟩  (fun j hj => by
      by_cases e : j = u
      · subst e; exact updN_same _ _ _
      · exact (updN_ne _ _ e).trans (h9 j (by omega)))
theorem c_State_begin {xs : List Int32} {d : Nat} {σ : Nat → List Value} {Q : Option Value → (Nat → List Value) → Prop} {k : Nat} {S : St} (hk : kd k = .inr 7) (hS : StIs σ k S) {P : Pl} (hC : CW P σ) (K : ∀ σ', Fr (xk k) σ σ' → StIs σ' k (begS P) → Q none σ') : Wq xs (d + 1) ax_cd77 0 [(0, .ref k), (1, .ref 21)] [] σ Q := by
  obtain ⟨hk1, hk2, hk3, hk4, hk5⟩ := St_k hk
  have hkr := St_rng hk
  refine wq_cN (m := 0) rfl rfl ?_
  refine wq_go rfl (fun _ => rfl) ?_
  exact c_begin1 hk K 16 0 rfl σ S (fr_refl _ _) hC hS (fun j hj => absurd hj (by omega))
