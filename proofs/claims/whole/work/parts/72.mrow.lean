/-! WHAT HAPPENS TO A ROW -/
def xR : Nat → Bool := fun j => j == 287 || j == 320 || j == 321 || j == 323 || j == 324
def xW : Nat → Bool := fun j => j == 287 || j == 320 || j == 321 || j == 324
theorem xV_W : ∀ j, xV j = true → xW j = true := by
  intro j h
  simp only [xV, xW, Bool.or_eq_true] at h ⊢
  rcases h with (h | h) | h
  · exact Or.inl (Or.inr h)
  · exact Or.inl (Or.inl (Or.inl h))
  · exact Or.inl (Or.inl (Or.inr h))
theorem xW_R : ∀ j, xW j = true → xR j = true := by
  intro j h
  simp only [xR, xW, Bool.or_eq_true] at h ⊢
  rcases h with ((h | h) | h) | h
  · exact Or.inl (Or.inl (Or.inl (Or.inl h)))
  · exact Or.inl (Or.inl (Or.inl (Or.inr h)))
  · exact Or.inl (Or.inl (Or.inr h))
  · exact Or.inr h
theorem ga_s {fA : Nat → Int32} {F : Nat → Int32} {u : Nat} {x : Int32} (h : ∀ j, j < u → fA j = F j) (hx : x = F u) : ∀ j, j < u + 1 → upd fA u x j = F j := by
  intro j hj
  by_cases e : j = u
  · subst e
    simp [upd, hx]
  · simp only [upd]
    rw [if_neg e]
    exact h j (by omega)
theorem ga_0 {fA F : Nat → Int32} : ∀ j, j < 0 → fA j = F j := fun j hj => absurd hj (by omega)

theorem m_sits2 {xs : List Int32} {d : Nat} {σ : Nat → List Value} {Q : Option Value → (Nat → List Value) → Prop} {P : Pl} {L : Nat} {g : Nat → Int32} (hL2 : L < 2) (hP : Pok P) {S : St} (hok : Sok S) {h c : Nat} (hh : h < Phd P) (hc : c < Pch P)  (K : ∀ σ' g', Fr xR σ σ' → FrG yB g g' → MD P L g' σ' → RwIs σ' (seatS P S h c) → Q (none) σ') : ∀ (m u : Nat), m + u = 4 → ∀ σ1 g1 fA, Fr xR σ σ1 → FrG yB g g1 → MD P L g1 σ1 → RwIs σ1 (mvS S h c (gainZ P S h c) u) → σ1 324 = arr 4 fA → (∀ j, j < 4 → fA j = (fun j => zI (-(gainZ P S h c j))) j) → Wq xs (d + 4) ax_cd275 34 [(3, .int (nI u)), (0, .ref 287), (1, .int (nI h)), (2, .int (nI c))] [] σ1 Q := by
  have hP' := hP
  obtain ⟨hP1, hP2, hP3, hP4, hP5, hP6, hP7, hP8, hPv, hPm, hPo, hPw, hPl⟩ := hP'
  have hhr := hok.2.1
  intro m
  induction m with
  | zero =>
    intro u hm σ1 g1 fA hF1 hG1 hM1 hR1 hA1 hA
    refine wq_go rfl (fun _ => rfl) ?_
    refine wq_cN (m := 4) rfl rfl ?_
    refine wq_cge rfl (by first | omega | decide | exact Nat.lt_of_le_of_lt Nat.and_le_right (by decide) | exact ⟨by omega, by omega⟩) (by first | omega | decide | exact Nat.lt_of_le_of_lt Nat.and_le_right (by decide) | exact ⟨by omega, by omega⟩) (fun c36 => ?_) (fun c => absurd (show _ from by omega) c)
    have hu4 : u = 4 := by omega
    subst hu4
    refine wq_go rfl (fun _ => rfl) ?_
    refine wq_getf rfl (by first | rfl | assumption) (by first | decide | omega | assumption) (md_o hM1) rfl ?_
    refine wq_cN (m := 20) rfl rfl ?_
    refine wq_go rfl (fun _ => rfl) ?_
    refine wq_addN rfl ?_
    refine wq_go rfl (fun _ => rfl) ?_
    refine wq_ialdN rfl (by first | rfl | assumption) (by first | decide | omega | assumption) hR1 rfl (by omega) (by first | decide | omega) ?_
    refine wq_top (congrArg nI (rf_si _ (by omega))) ?_
    refine wq_cN (m := 1) rfl rfl ?_
    refine wq_addN rfl ?_
    refine wq_iastN rfl (by first | rfl | assumption) (by first | decide | omega | assumption) hR1 rfl (by omega) (by first | decide | omega) ?_
    refine wq_go rfl (fun _ => rfl) ?_
    refine wq_getf rfl (by first | rfl | assumption) (by first | decide | omega | assumption) ((up_ne _ _ (by decide)).trans (md_o hM1)) rfl ?_
    refine wq_cN (m := 44) rfl rfl ?_
    refine wq_go rfl (fun _ => rfl) ?_
    refine wq_addN rfl ?_
    refine wq_go rfl (fun _ => rfl) ?_
    refine wq_ialdN rfl (by first | rfl | assumption) (by first | decide | omega | assumption) (up_same _ _ _) rfl (by omega) (by first | decide | omega) ?_
    refine wq_top (congrArg nI ((updN_ne _ _ (by omega)).trans (rf_sb _ (by omega)))) ?_
    refine wq_cN (m := 1) rfl rfl ?_
    refine wq_addN rfl ?_
    refine wq_iastN rfl (by first | rfl | assumption) (by first | decide | omega | assumption) (up_same _ _ _) rfl (by omega) (by first | decide | omega) ?_
    rw [up_up]
    refine wq_end rfl (fun _ => rfl) ?_
    refine K _ g1 (fr_up hF1 rfl) hG1 (md_u323 hM1) (rw_up (fun i hi => rf_sat (mvS S h c (gainZ P S h c) 4) (by omega) (by omega) hi))
  | succ m ih =>
    intro u hm σ1 g1 fA hF1 hG1 hM1 hR1 hA1 hA
    have hgb := gain_bd P hok (h := h) (c := c) (t := u) (by omega) (by omega) (by omega)
    refine wq_go rfl (fun _ => rfl) ?_
    refine wq_cN (m := 4) rfl rfl ?_
    refine wq_cge rfl (by first | omega | decide | exact Nat.lt_of_le_of_lt Nat.and_le_right (by decide) | exact ⟨by omega, by omega⟩) (by first | omega | decide | exact Nat.lt_of_le_of_lt Nat.and_le_right (by decide) | exact ⟨by omega, by omega⟩) (fun c => absurd c (by omega)) (fun c36 => ?_)
    refine wq_go rfl (fun _ => rfl) ?_
    refine wq_getf rfl (by first | rfl | assumption) (by first | decide | omega | assumption) (md_o hM1) rfl ?_
    refine wq_cN (m := 4) rfl rfl ?_
    refine wq_go rfl (fun _ => rfl) ?_
    refine wq_mulN rfl ?_
    refine wq_go rfl (fun _ => rfl) ?_
    refine wq_addN rfl ?_
    refine wq_go rfl (fun _ => rfl) ?_
    refine wq_ialdN rfl (by first | rfl | assumption) (by first | decide | omega | assumption) hR1 rfl (by omega) (by first | decide | omega) ?_
    refine wq_top (congrArg nI ((rf_sq _ (by omega) (by omega)).trans (mv_sq S h c _ u))) ?_
    refine wq_go rfl (fun _ => rfl) ?_
    refine wq_getf rfl (by first | rfl | assumption) (by first | decide | omega | assumption) (md_o hM1) rfl ?_
    refine wq_go rfl (fun _ => rfl) ?_
    refine wq_iald rfl (by first | rfl | assumption) (by first | decide | omega | assumption) hA1 rfl (by omega) (by first | decide | omega) ?_
    refine wq_top (hA u (by omega)) ?_
    refine wq_addZ rfl (nI_z _) rfl ?_
    refine wq_iastZ (c := ((Ssq S (c * 4 + u) : Int) - gainZ P S h c u).toNat) rfl (by first | rfl | assumption) (by first | decide | omega | assumption) hR1 rfl (by omega) rfl (by omega) (by first | decide | omega) ?_
    refine wq_go rfl (fun _ => rfl) ?_
    refine wq_getf rfl (by first | rfl | assumption) (by first | decide | omega | assumption) ((up_ne _ _ (by decide)).trans (md_o hM1)) rfl ?_
    refine wq_cN (m := 24) rfl rfl ?_
    refine wq_cN (m := 4) rfl rfl ?_
    refine wq_go rfl (fun _ => rfl) ?_
    refine wq_mulN rfl ?_
    refine wq_addN rfl ?_
    refine wq_go rfl (fun _ => rfl) ?_
    refine wq_addN rfl ?_
    refine wq_go rfl (fun _ => rfl) ?_
    refine wq_ialdN rfl (by first | rfl | assumption) (by first | decide | omega | assumption) (up_same _ _ _) rfl (by omega) (by first | decide | omega) ?_
    refine wq_top (congrArg nI ((updN_ne _ _ (by omega)).trans ((rf_ow _ (by omega) (by omega)).trans (mv_ow S h c _ u)))) ?_
    refine wq_go rfl (fun _ => rfl) ?_
    refine wq_getf rfl (by first | rfl | assumption) (by first | decide | omega | assumption) ((up_ne _ _ (by decide)).trans (md_o hM1)) rfl ?_
    refine wq_go rfl (fun _ => rfl) ?_
    refine wq_iald rfl (by first | rfl | assumption) (by first | decide | omega | assumption) ((up_ne _ _ (by decide)).trans hA1) rfl (by omega) (by first | decide | omega) ?_
    refine wq_top (hA u (by omega)) ?_
    refine wq_subZ rfl (nI_z _) rfl ?_
    refine wq_iastZ (c := ((Sow S (h * 4 + u) : Int) + gainZ P S h c u).toNat) rfl (by first | rfl | assumption) (by first | decide | omega | assumption) (up_same _ _ _) rfl (by omega) rfl (by omega) (by first | decide | omega) ?_
    rw [up_up]
    refine wq_incN rfl rfl rfl ?_
    refine wq_go rfl (fun _ => rfl) ?_
    exact ih (u + 1) (by omega) _ g1 fA (fr_up hF1 rfl) hG1 (md_u323 hM1) (by rw [← mvS_s S h c (gainZ P S h c) u (x := ((Sow S (h * 4 + u) : Int) + gainZ P S h c u).toNat) (y := ((Ssq S (c * 4 + u) : Int) - gainZ P S h c u).toNat) (by omega) (by omega)]; exact rw_up (fun i hi => rf_SO _ (by omega) (by omega) (by omega) hi)) ((up_ne _ _ (by decide)).trans hA1) hA
theorem m_sits1 {xs : List Int32} {d : Nat} {σ : Nat → List Value} {Q : Option Value → (Nat → List Value) → Prop} {P : Pl} {L : Nat} {g : Nat → Int32} (hL2 : L < 2) (hP : Pok P) {S : St} (hok : Sok S) {h c : Nat} (hh : h < Phd P) (hc : c < Pch P)  (K : ∀ σ' g', Fr xR σ σ' → FrG yB g g' → MD P L g' σ' → RwIs σ' (seatS P S h c) → Q (none) σ') : ∀ (m u : Nat), m + u = 4 → ∀ σ1 g1 fA, Fr xW σ σ1 → FrG yB g g1 → MD P L g1 σ1 → RwIs σ1 S → σ1 324 = arr 4 fA → (∀ j, j < u → fA j = (fun j => zI (-(gainZ P S h c j))) j) → Wq xs (d + 4) ax_cd275 2 [(3, .int (nI u)), (0, .ref 287), (1, .int (nI h)), (2, .int (nI c))] [] σ1 Q := by
  have hP' := hP
  obtain ⟨hP1, hP2, hP3, hP4, hP5, hP6, hP7, hP8, hPv, hPm, hPo, hPw, hPl⟩ := hP'
  have hhr := hok.2.1
  intro m
  induction m with
  | zero =>
    intro u hm σ1 g1 fA hF1 hG1 hM1 hR1 hA1 hA
    refine wq_go rfl (fun _ => rfl) ?_
    refine wq_cN (m := 4) rfl rfl ?_
    refine wq_cge rfl (by first | omega | decide | exact Nat.lt_of_le_of_lt Nat.and_le_right (by decide) | exact ⟨by omega, by omega⟩) (by first | omega | decide | exact Nat.lt_of_le_of_lt Nat.and_le_right (by decide) | exact ⟨by omega, by omega⟩) (fun c4 => ?_) (fun c => absurd (show _ from by omega) c)
    refine wq_cN (m := 0) rfl rfl ?_
    refine wq_go rfl (fun _ => rfl) ?_
    exact m_sits2 hL2 hP hok hh hc K 4 0 rfl σ1 g1 fA (fr_mono hF1 xW_R) hG1 hM1 (by rw [mvS_0]; exact hR1) hA1 (fun j hj => hA j (by omega))
  | succ m ih =>
    intro u hm σ1 g1 fA hF1 hG1 hM1 hR1 hA1 hA
    refine wq_go rfl (fun _ => rfl) ?_
    refine wq_cN (m := 4) rfl rfl ?_
    refine wq_cge rfl (by first | omega | decide | exact Nat.lt_of_le_of_lt Nat.and_le_right (by decide) | exact ⟨by omega, by omega⟩) (by first | omega | decide | exact Nat.lt_of_le_of_lt Nat.and_le_right (by decide) | exact ⟨by omega, by omega⟩) (fun c => absurd c (by omega)) (fun c4 => ?_)
    refine wq_go rfl (fun _ => rfl) ?_
    refine wq_getf rfl (by first | rfl | assumption) (by first | decide | omega | assumption) (md_o hM1) rfl ?_
    refine wq_go rfl (fun _ => rfl) ?_
    refine wq_go rfl (fun _ => rfl) ?_
    refine wq_getf rfl (by first | rfl | assumption) (by first | decide | omega | assumption) (md_o hM1) rfl ?_
    refine wq_cN (m := 16) rfl rfl ?_
    refine wq_go rfl (fun _ => rfl) ?_
    refine wq_addN rfl ?_
    refine wq_ialdN rfl (by first | rfl | assumption) (by first | decide | omega | assumption) hR1 rfl (by omega) (by first | decide | omega) ?_
    refine wq_top (congrArg nI (rf_sc S (by omega))) ?_
    have hb1 := bitN_le (Ssc S) c
    refine wq_cN (m := 1) rfl rfl ?_
    refine wq_cne rfl (by first | omega | decide | exact Nat.lt_of_le_of_lt Nat.and_le_right (by decide) | exact ⟨by omega, by omega⟩) (by first | omega | decide | exact Nat.lt_of_le_of_lt Nat.and_le_right (by decide) | exact ⟨by omega, by omega⟩) (fun c15 => ?_) (fun c15 => ?_)
    · skip
      refine wq_go rfl (fun _ => rfl) ?_
      refine wq_go rfl (fun _ => rfl) ?_
      refine wq_go rfl (fun _ => rfl) ?_
      refine wq_go rfl (fun _ => rfl) ?_
      refine wq_callV rfl rfl (by first | rfl | assumption) (by first | decide | omega | assumption) (Nat.le_of_ble_eq_true rfl) (Nat.le_of_ble_eq_true rfl) rfl rfl ?_
      refine m_kept hM1 hok hR1 hh hc (by omega) (fun σ5 g5 F5 G5 M5 => ?_)
      have R5 : RwIs σ5 S := (F5 323 rfl).trans hR1
      have A5 := (F5 324 rfl).trans hA1
      refine wq_go rfl (fun _ => rfl) ?_
      refine wq_go rfl (fun _ => rfl) ?_
      refine wq_go rfl (fun _ => rfl) ?_
      refine wq_go rfl (fun _ => rfl) ?_
      refine wq_callV rfl rfl (by first | rfl | assumption) (by first | decide | omega | assumption) (Nat.le_of_ble_eq_true rfl) (Nat.le_of_ble_eq_true rfl) rfl rfl ?_
      refine m_passed M5 hok R5 hh hc (by omega) (fun σ6 g6 F6 G6 M6 => ?_)
      have R6 : RwIs σ6 S := (F6 323 rfl).trans R5
      have A6 := (F6 324 rfl).trans A5
      refine wq_subZ rfl (nI_z _) (nI_z _) ?_
      refine wq_iast rfl (by first | rfl | assumption) (by first | decide | omega | assumption) A6 rfl (by omega) (by first | decide | omega) ?_
      refine wq_incN rfl rfl rfl ?_
      refine wq_go rfl (fun _ => rfl) ?_
      exact ih (u + 1) (by omega) _ _ _ (fr_up (fr_trans (fr_trans hF1 (fr_mono F5 xV_W)) (fr_mono F6 xV_W)) rfl) (fg_trans (fg_trans hG1 G5) G6) (md_u324 M6) ((up_ne _ _ (by decide)).trans R6) (up_same _ _ _) (ga_s hA (by first | (rw [gainZ_st (bitN_1 (by omega))]; rfl) | (rw [gainZ_ns (bitN_0 (by omega))]; congr 1; omega)))
    · skip
      refine wq_cN (m := 0) rfl rfl ?_
      refine wq_go rfl (fun _ => rfl) ?_
      refine wq_iast rfl (by first | rfl | assumption) (by first | decide | omega | assumption) hA1 rfl (by omega) (by first | decide | omega) ?_
      refine wq_incN rfl rfl rfl ?_
      refine wq_go rfl (fun _ => rfl) ?_
      exact ih (u + 1) (by omega) _ _ _ (fr_up hF1 rfl) hG1 (md_u324 hM1) ((up_ne _ _ (by decide)).trans hR1) (up_same _ _ _) (ga_s hA (by first | (rw [gainZ_st (bitN_1 (by omega))]; rfl) | (rw [gainZ_ns (bitN_0 (by omega))]; congr 1; omega)))
theorem m_sits {xs : List Int32} {d : Nat} {σ : Nat → List Value} {Q : Option Value → (Nat → List Value) → Prop} {P : Pl} {L : Nat} {g : Nat → Int32} (hM : MD P L g σ) {S : St} (hok : Sok S) (hR : RwIs σ S) {h c : Nat} (hh : h < Phd P) (hc : c < Pch P)  (K : ∀ σ' g', Fr xR σ σ' → FrG yB g g' → MD P L g' σ' → RwIs σ' (seatS P S h c) → Q (none) σ') : Wq xs (d + 4) ax_cd275 0 [(0, .ref 287), (1, .int (nI h)), (2, .int (nI c))] [] σ Q := by
  refine wq_cN (m := 0) rfl rfl ?_
  refine wq_go rfl (fun _ => rfl) ?_
  exact m_sits1 (md_l2 hM) (md_pok hM) hok hh hc K 4 0 rfl σ g _ (fr_refl _ _) (fg_refl _ _) hM hR (md_c324 hM) ga_0
theorem m_wash2 {xs : List Int32} {d : Nat} {σ : Nat → List Value} {Q : Option Value → (Nat → List Value) → Prop} {P : Pl} {L : Nat} {g : Nat → Int32} (hL2 : L < 2) (hP : Pok P) {S : St} (hok : Sok S) {c : Nat} (hc : c < Pch P)  (K : ∀ σ' g', Fr xR σ σ' → FrG yB g g' → MD P L g' σ' → RwIs σ' (washS P S c) → Q (none) σ') : ∀ (m u : Nat), m + u = 4 → ∀ σ1 g1 fA, Fr xR σ σ1 → FrG yB g g1 → MD P L g1 σ1 → RwIs σ1 (waS S c (washN P S c) u) → σ1 324 = arr 4 fA → (∀ j, j < 4 → fA j = (fun j => nI (washN P S c j)) j) → Wq xs (d + 3) ax_cd278 17 [(2, .int (nI u)), (0, .ref 287), (1, .int (nI c))] [] σ1 Q := by
  have hP' := hP
  obtain ⟨hP1, hP2, hP3, hP4, hP5, hP6, hP7, hP8, hPv, hPm, hPo, hPw, hPl⟩ := hP'
  have hhr := hok.2.1
  intro m
  induction m with
  | zero =>
    intro u hm σ1 g1 fA hF1 hG1 hM1 hR1 hA1 hA
    refine wq_go rfl (fun _ => rfl) ?_
    refine wq_cN (m := 4) rfl rfl ?_
    refine wq_cge rfl (by first | omega | decide | exact Nat.lt_of_le_of_lt Nat.and_le_right (by decide) | exact ⟨by omega, by omega⟩) (by first | omega | decide | exact Nat.lt_of_le_of_lt Nat.and_le_right (by decide) | exact ⟨by omega, by omega⟩) (fun c19 => ?_) (fun c => absurd (show _ from by omega) c)
    have hu4 : u = 4 := by omega
    subst hu4
    refine wq_go rfl (fun _ => rfl) ?_
    refine wq_getf rfl (by first | rfl | assumption) (by first | decide | omega | assumption) (md_o hM1) rfl ?_
    refine wq_cN (m := 16) rfl rfl ?_
    refine wq_go rfl (fun _ => rfl) ?_
    refine wq_addN rfl ?_
    refine wq_cN (m := 0) rfl rfl ?_
    refine wq_iastN rfl (by first | rfl | assumption) (by first | decide | omega | assumption) hR1 rfl (by omega) (by first | decide | omega) ?_
    refine wq_end rfl (fun _ => rfl) ?_
    refine K _ g1 (fr_up hF1 rfl) hG1 (md_u323 hM1) (rw_up (fun i hi => rf_cl (waS S c (washN P S c) 4) (by omega) hok.2.2.1 hi))
  | succ m ih =>
    intro u hm σ1 g1 fA hF1 hG1 hM1 hR1 hA1 hA
    have hwl := wash_le P hok (c := c) (t := u) (by omega) (by omega)
    have e1 := ws_sq S c (washN P S c) u
    refine wq_go rfl (fun _ => rfl) ?_
    refine wq_cN (m := 4) rfl rfl ?_
    refine wq_cge rfl (by first | omega | decide | exact Nat.lt_of_le_of_lt Nat.and_le_right (by decide) | exact ⟨by omega, by omega⟩) (by first | omega | decide | exact Nat.lt_of_le_of_lt Nat.and_le_right (by decide) | exact ⟨by omega, by omega⟩) (fun c => absurd c (by omega)) (fun c19 => ?_)
    refine wq_go rfl (fun _ => rfl) ?_
    refine wq_getf rfl (by first | rfl | assumption) (by first | decide | omega | assumption) (md_o hM1) rfl ?_
    refine wq_cN (m := 4) rfl rfl ?_
    refine wq_go rfl (fun _ => rfl) ?_
    refine wq_mulN rfl ?_
    refine wq_go rfl (fun _ => rfl) ?_
    refine wq_addN rfl ?_
    refine wq_go rfl (fun _ => rfl) ?_
    refine wq_ialdN rfl (by first | rfl | assumption) (by first | decide | omega | assumption) hR1 rfl (by omega) (by first | decide | omega) ?_
    refine wq_top (congrArg nI (rf_sq _ (by omega) (by omega))) ?_
    refine wq_go rfl (fun _ => rfl) ?_
    refine wq_getf rfl (by first | rfl | assumption) (by first | decide | omega | assumption) (md_o hM1) rfl ?_
    refine wq_go rfl (fun _ => rfl) ?_
    refine wq_iald rfl (by first | rfl | assumption) (by first | decide | omega | assumption) hA1 rfl (by omega) (by first | decide | omega) ?_
    refine wq_top (hA u (by omega)) ?_
    refine wq_subN rfl (by omega) ?_
    refine wq_iastN rfl (by first | rfl | assumption) (by first | decide | omega | assumption) hR1 rfl (by omega) (by first | decide | omega) ?_
    refine wq_go rfl (fun _ => rfl) ?_
    refine wq_getf rfl (by first | rfl | assumption) (by first | decide | omega | assumption) ((up_ne _ _ (by decide)).trans (md_o hM1)) rfl ?_
    refine wq_cN (m := 60) rfl rfl ?_
    refine wq_go rfl (fun _ => rfl) ?_
    refine wq_ialdN rfl (by first | rfl | assumption) (by first | decide | omega | assumption) (up_same _ _ _) rfl (by omega) (by first | decide | omega) ?_
    refine wq_top (congrArg nI ((updN_ne _ _ (by omega)).trans (rf_sd _))) ?_
    refine wq_go rfl (fun _ => rfl) ?_
    refine wq_getf rfl (by first | rfl | assumption) (by first | decide | omega | assumption) ((up_ne _ _ (by decide)).trans (md_o hM1)) rfl ?_
    refine wq_go rfl (fun _ => rfl) ?_
    refine wq_iald rfl (by first | rfl | assumption) (by first | decide | omega | assumption) ((up_ne _ _ (by decide)).trans hA1) rfl (by omega) (by first | decide | omega) ?_
    refine wq_top (hA u (by omega)) ?_
    refine wq_addN rfl ?_
    refine wq_iastN rfl (by first | rfl | assumption) (by first | decide | omega | assumption) (up_same _ _ _) rfl (by omega) (by first | decide | omega) ?_
    rw [up_up]
    refine wq_incN rfl rfl rfl ?_
    refine wq_go rfl (fun _ => rfl) ?_
    exact ih (u + 1) (by omega) _ g1 fA (fr_up hF1 rfl) hG1 (md_u323 hM1) (by rw [← waS_s S c (washN P S c) u]; exact rw_up (fun i hi => rf_SD _ (by omega) (by omega) hi)) ((up_ne _ _ (by decide)).trans hA1) hA
theorem m_wash1 {xs : List Int32} {d : Nat} {σ : Nat → List Value} {Q : Option Value → (Nat → List Value) → Prop} {P : Pl} {L : Nat} {g : Nat → Int32} (hL2 : L < 2) (hP : Pok P) {S : St} (hok : Sok S) {c : Nat} (hc : c < Pch P)  (K : ∀ σ' g', Fr xR σ σ' → FrG yB g g' → MD P L g' σ' → RwIs σ' (washS P S c) → Q (none) σ') : ∀ (m u : Nat), m + u = 4 → ∀ σ1 g1 fA, Fr xW σ σ1 → FrG yB g g1 → MD P L g1 σ1 → RwIs σ1 S → σ1 324 = arr 4 fA → (∀ j, j < u → fA j = (fun j => nI (washN P S c j)) j) → Wq xs (d + 3) ax_cd278 2 [(2, .int (nI u)), (0, .ref 287), (1, .int (nI c))] [] σ1 Q := by
  have hP' := hP
  obtain ⟨hP1, hP2, hP3, hP4, hP5, hP6, hP7, hP8, hPv, hPm, hPo, hPw, hPl⟩ := hP'
  have hhr := hok.2.1
  intro m
  induction m with
  | zero =>
    intro u hm σ1 g1 fA hF1 hG1 hM1 hR1 hA1 hA
    refine wq_go rfl (fun _ => rfl) ?_
    refine wq_cN (m := 4) rfl rfl ?_
    refine wq_cge rfl (by first | omega | decide | exact Nat.lt_of_le_of_lt Nat.and_le_right (by decide) | exact ⟨by omega, by omega⟩) (by first | omega | decide | exact Nat.lt_of_le_of_lt Nat.and_le_right (by decide) | exact ⟨by omega, by omega⟩) (fun c4 => ?_) (fun c => absurd (show _ from by omega) c)
    refine wq_cN (m := 0) rfl rfl ?_
    refine wq_go rfl (fun _ => rfl) ?_
    exact m_wash2 hL2 hP hok hc K 4 0 rfl σ1 g1 fA (fr_mono hF1 xW_R) hG1 hM1 (by rw [waS_0]; exact hR1) hA1 (fun j hj => hA j (by omega))
  | succ m ih =>
    intro u hm σ1 g1 fA hF1 hG1 hM1 hR1 hA1 hA
    refine wq_go rfl (fun _ => rfl) ?_
    refine wq_cN (m := 4) rfl rfl ?_
    refine wq_cge rfl (by first | omega | decide | exact Nat.lt_of_le_of_lt Nat.and_le_right (by decide) | exact ⟨by omega, by omega⟩) (by first | omega | decide | exact Nat.lt_of_le_of_lt Nat.and_le_right (by decide) | exact ⟨by omega, by omega⟩) (fun c => absurd c (by omega)) (fun c4 => ?_)
    refine wq_go rfl (fun _ => rfl) ?_
    refine wq_getf rfl (by first | rfl | assumption) (by first | decide | omega | assumption) (md_o hM1) rfl ?_
    refine wq_go rfl (fun _ => rfl) ?_
    refine wq_go rfl (fun _ => rfl) ?_
    refine wq_go rfl (fun _ => rfl) ?_
    refine wq_go rfl (fun _ => rfl) ?_
    refine wq_callV rfl rfl (by first | rfl | assumption) (by first | decide | omega | assumption) (Nat.le_of_ble_eq_true rfl) (Nat.le_of_ble_eq_true rfl) rfl rfl ?_
    refine m_washed hM1 hok hR1 hc (by omega) (fun σ5 g5 F5 G5 M5 => ?_)
    have R5 : RwIs σ5 S := (F5 323 rfl).trans hR1
    have A5 := (F5 324 rfl).trans hA1
    refine wq_iast rfl (by first | rfl | assumption) (by first | decide | omega | assumption) A5 rfl (by omega) (by first | decide | omega) ?_
    refine wq_incN rfl rfl rfl ?_
    refine wq_go rfl (fun _ => rfl) ?_
    exact ih (u + 1) (by omega) _ _ _ (fr_up (fr_trans hF1 (fr_mono F5 xV_W)) rfl) (fg_trans hG1 G5) (md_u324 M5) ((up_ne _ _ (by decide)).trans R5) (up_same _ _ _) (ga_s hA rfl)
theorem m_isWashed {xs : List Int32} {d : Nat} {σ : Nat → List Value} {Q : Option Value → (Nat → List Value) → Prop} {P : Pl} {L : Nat} {g : Nat → Int32} (hM : MD P L g σ) {S : St} (hok : Sok S) (hR : RwIs σ S) {c : Nat} (hc : c < Pch P)  (K : ∀ σ' g', Fr xR σ σ' → FrG yB g g' → MD P L g' σ' → RwIs σ' (washS P S c) → Q (none) σ') : Wq xs (d + 3) ax_cd278 0 [(0, .ref 287), (1, .int (nI c))] [] σ Q := by
  refine wq_cN (m := 0) rfl rfl ?_
  refine wq_go rfl (fun _ => rfl) ?_
  exact m_wash1 (md_l2 hM) (md_pok hM) hok hc K 4 0 rfl σ g _ (fr_refl _ _) (fg_refl _ _) hM hR (md_c324 hM) ga_0
def moF (S : St) (c u i : Nat) : Nat := if 4 * c ≤ i ∧ i < 4 * c + u then 0 else if i = 60 then Ssd S + s4 (Ssq S) (c * 4) else rowF S i
theorem moF_0 (S : St) (c i : Nat) : updN (rowF S) 60 (Ssd S + s4 (Ssq S) (c * 4)) i = moF S c 0 i := by
  unfold moF updN
  rw [if_neg (show ¬ (4 * c ≤ i ∧ i < 4 * c + 0) by omega)]
theorem moF_s (S : St) (c u i : Nat) : updN (moF S c u) (4 * c + u) 0 i = moF S c (u + 1) i := by
  unfold moF updN
  by_cases e : i = 4 * c + u
  · rw [if_pos e, if_pos (by omega)]
  · rw [if_neg e]
    by_cases h : 4 * c ≤ i ∧ i < 4 * c + u
    · simp only [if_pos h]
      rw [if_pos (by omega)]
    · simp only [if_neg h]
      rw [if_neg (show ¬ (4 * c ≤ i ∧ i < 4 * c + (u + 1)) by omega)]
theorem moF_4 (S : St) {c i : Nat} (hc : c < 4) (hi : i < 61) : moF S c 4 i = rowF (mothS S c) i := by
  unfold moF
  by_cases h : 4 * c ≤ i ∧ i < 4 * c + 4
  · rw [if_pos h, rf_a (mothS S c) (by omega)]
    show 0 = if _ then _ else _
    rw [if_pos (by omega)]
    show 0 = Ssq S i - Ssq S (c * 4 + (i - c * 4))
    rw [show c * 4 + (i - c * 4) = i by omega]
    omega
  · rw [if_neg h]
    by_cases e : i = 60
    · subst e
      rw [if_pos rfl]
      rfl
    · rw [if_neg e]
      rcases (show i < 16 ∨ (16 ≤ i ∧ i < 20) ∨ (20 ≤ i ∧ i < 24) ∨ (24 ≤ i ∧ i < 44) ∨ (44 ≤ i ∧ i < 49) ∨ (49 ≤ i ∧ i < 59) ∨ i = 59 by omega) with q | ⟨q, r⟩ | ⟨q, r⟩ | ⟨q, r⟩ | ⟨q, r⟩ | ⟨q, r⟩ | q
      · rw [rf_a S q, rf_a (mothS S c) q]
        show _ = if _ then _ else _
        rw [if_neg (by omega)]
      · rw [rf_b S q r, rf_b (mothS S c) q r]
        rfl
      · rw [rf_c S q r, rf_c (mothS S c) q r]
        rfl
      · rw [rf_d S q r, rf_d (mothS S c) q r]
        rfl
      · rw [rf_e S q r, rf_e (mothS S c) q r]
        rfl
      · rw [rf_f S q r, rf_f (mothS S c) q r]
        rfl
      · subst q
        rfl
theorem moth_0 {S : St} (h : ∀ i, i < 4 → Ssq S i = 0) : mothS S 0 = S := by
  have e1 : (fun i => if 0 * 4 ≤ i ∧ i < 0 * 4 + 4 then Ssq S i - Ssq S (0 * 4 + (i - 0 * 4)) else Ssq S i) = Ssq S := by
    funext i
    by_cases hi : i < 4
    · rw [if_pos (by omega), h i hi]
      omega
    · rw [if_neg (by omega)]
  have e2 : Ssd S + sumF (fun t => Ssq S (0 * 4 + t)) 4 = Ssd S := by
    have h0 := h 0 (by decide)
    have h1 := h 1 (by decide)
    have h2 := h 2 (by decide)
    have h3 := h 3 (by decide)
    simp [sumF, h0, h1, h2, h3]
  unfold mothS waS
  rw [e1, e2]
  rfl
theorem m_moth1 {xs : List Int32} {d : Nat} {σ : Nat → List Value} {Q : Option Value → (Nat → List Value) → Prop} {P : Pl} {L : Nat} {g : Nat → Int32} (hL2 : L < 2) (hP : Pok P) {S : St} (hok : Sok S) {c : Nat} (hc : c < 4)  (K : ∀ σ' g', Fr xR σ σ' → FrG yB g g' → MD P L g' σ' → RwIs σ' (mothS S c) → Q (none) σ') : ∀ (m u : Nat), m + u = 4 → ∀ σ1, Fr xR σ σ1 → MD P L g σ1 → σ1 323 = arrN 61 (moF S c u) → Wq xs (d + 1) ax_cd290 14 [(2, .int (nI u)), (0, .ref 287), (1, .int (nI c))] [] σ1 Q := by
  have hP' := hP
  obtain ⟨hP1, hP2, hP3, hP4, hP5, hP6, hP7, hP8, hPv, hPm, hPo, hPw, hPl⟩ := hP'
  have hhr := hok.2.1
  intro m
  induction m with
  | zero =>
    intro u hm σ1 hF1 hM1 hR1
    refine wq_go rfl (fun _ => rfl) ?_
    refine wq_cN (m := 4) rfl rfl ?_
    refine wq_cge rfl (by first | omega | decide | exact Nat.lt_of_le_of_lt Nat.and_le_right (by decide) | exact ⟨by omega, by omega⟩) (by first | omega | decide | exact Nat.lt_of_le_of_lt Nat.and_le_right (by decide) | exact ⟨by omega, by omega⟩) (fun c16 => ?_) (fun c => absurd (show _ from by omega) c)
    refine wq_end rfl (fun _ => rfl) ?_
    have hu4 : u = 4 := by omega
    subst hu4
    exact K _ g hF1 (fg_refl _ _) hM1 (hR1.trans (arrN_congr (fun i hi => moF_4 S hc hi)))
  | succ m ih =>
    intro u hm σ1 hF1 hM1 hR1
    refine wq_go rfl (fun _ => rfl) ?_
    refine wq_cN (m := 4) rfl rfl ?_
    refine wq_cge rfl (by first | omega | decide | exact Nat.lt_of_le_of_lt Nat.and_le_right (by decide) | exact ⟨by omega, by omega⟩) (by first | omega | decide | exact Nat.lt_of_le_of_lt Nat.and_le_right (by decide) | exact ⟨by omega, by omega⟩) (fun c => absurd c (by omega)) (fun c16 => ?_)
    refine wq_go rfl (fun _ => rfl) ?_
    refine wq_getf rfl (by first | rfl | assumption) (by first | decide | omega | assumption) (md_o hM1) rfl ?_
    refine wq_cN (m := 4) rfl rfl ?_
    refine wq_go rfl (fun _ => rfl) ?_
    refine wq_mulN rfl ?_
    refine wq_go rfl (fun _ => rfl) ?_
    refine wq_addN rfl ?_
    refine wq_cN (m := 0) rfl rfl ?_
    refine wq_iastN rfl (by first | rfl | assumption) (by first | decide | omega | assumption) hR1 rfl (by omega) (by first | decide | omega) ?_
    refine wq_incN rfl rfl rfl ?_
    refine wq_go rfl (fun _ => rfl) ?_
    exact ih (u + 1) (by omega) _ (fr_up hF1 rfl) (md_u323 hM1) ((up_same _ _ _).trans (arrN_congr (fun i _ => moF_s S c u i)))
theorem m_mothEats {xs : List Int32} {d : Nat} {σ : Nat → List Value} {Q : Option Value → (Nat → List Value) → Prop} {P : Pl} {L : Nat} {g : Nat → Int32} (hM : MD P L g σ) {S : St} (hok : Sok S) (hR : RwIs σ S) {c : Nat} (hc : c < 4)  (K : ∀ σ' g', Fr xR σ σ' → FrG yB g g' → MD P L g' σ' → RwIs σ' (mothS S c) → Q (none) σ') : Wq xs (d + 1) ax_cd290 0 [(0, .ref 287), (1, .int (nI c))] [] σ Q := by
  refine wq_go rfl (fun _ => rfl) ?_
  refine wq_getf rfl (by first | rfl | assumption) (by first | decide | omega | assumption) (md_o hM) rfl ?_
  refine wq_cN (m := 60) rfl rfl ?_
  refine wq_go rfl (fun _ => rfl) ?_
  refine wq_ialdN rfl (by first | rfl | assumption) (by first | decide | omega | assumption) hR rfl (by omega) (by first | decide | omega) ?_
  refine wq_top (congrArg nI (rf_sd S)) ?_
  refine wq_go rfl (fun _ => rfl) ?_
  refine wq_cN (m := 4) rfl rfl ?_
  refine wq_go rfl (fun _ => rfl) ?_
  refine wq_mulN rfl ?_
  refine wq_callV rfl rfl (by first | rfl | assumption) (by first | decide | omega | assumption) (Nat.le_of_ble_eq_true rfl) (Nat.le_of_ble_eq_true rfl) rfl rfl ?_
  refine m_four hM hR (by omega) ?_
  refine wq_top (congrArg nI (s4_sq S (by omega))) ?_
  refine wq_addN rfl ?_
  refine wq_iastN rfl (by first | rfl | assumption) (by first | decide | omega | assumption) hR rfl (by omega) (by first | decide | omega) ?_
  refine wq_cN (m := 0) rfl rfl ?_
  refine wq_go rfl (fun _ => rfl) ?_
  exact m_moth1 (md_l2 hM) (md_pok hM) hok hc K 4 0 rfl _ (fr_up (fr_refl _ _) rfl) (md_u323 hM) ((up_same _ _ _).trans (arrN_congr (fun i _ => moF_0 S c i)))
def x323 : Nat → Bool := fun j => j == 323
def x322 : Nat → Bool := fun j => j == 322
def xC : Nat → Bool := fun j => j == 287 || j == 323
theorem arr_row {fA : Nat → Int32} {S : St} (h : ∀ j, j < 61 → fA j = nI (rowF S j)) : arr 61 fA = arrN 61 (rowF S) := arr_congr h
theorem x323_C : ∀ j, x323 j = true → xC j = true := by
  intro j h
  simp only [x323, xC, Bool.or_eq_true] at h ⊢
  exact Or.inr h
theorem m_copies_l {xs : List Int32} {d : Nat} {σ : Nat → List Value} {Q : Option Value → (Nat → List Value) → Prop} {P : Pl} {L : Nat} {g : Nat → Int32} (hL2 : L < 2) (hP : Pok P) {S : St} (hN : NwIs σ S)  (K : ∀ σ' g', Fr xC σ σ' → FrG yC g g' → g' 54 = nI (Psd P) → g' 55 = nI 0 → MD P L g' σ' → RwIs σ' S → Q none σ') : ∀ (m u : Nat), m + u = 61 → ∀ σ1 fA, Fr x323 σ σ1 → MD P L g σ1 → σ1 323 = arr 61 fA → (∀ j, j < u → fA j = nI (rowF S j)) → Wq xs (d + 0) ax_cd257 2 [(1, .int (nI u)), (0, .ref 287)] [] σ1 Q := by
  intro m
  induction m with
  | zero =>
    intro u hm σ1 fA hF1 hM1 hA1 hA
    refine wq_go rfl (fun _ => rfl) ?_
    refine wq_cN (m := 61) rfl rfl ?_
    refine wq_cge rfl (by first | omega | decide | exact Nat.lt_of_le_of_lt Nat.and_le_right (by decide) | exact ⟨by omega, by omega⟩) (by first | omega | decide | exact Nat.lt_of_le_of_lt Nat.and_le_right (by decide) | exact ⟨by omega, by omega⟩) (fun c4 => ?_) (fun c => absurd (show _ from by omega) c)
    refine wq_go rfl (fun _ => rfl) ?_
    refine wq_go rfl (fun _ => rfl) ?_
    refine wq_getf rfl (by first | rfl | assumption) (by first | decide | omega | assumption) (md_o hM1) rfl ?_
    refine wq_go rfl (fun _ => rfl) ?_
    refine wq_getf rfl (by first | rfl | assumption) (by first | decide | omega | assumption) (md_o hM1) rfl ?_
    refine wq_top (md_l hM1) ?_
    refine wq_iald rfl (by first | rfl | assumption) (by first | decide | omega | assumption) (md_c309 hM1) rfl (by omega) (by first | decide | omega) ?_
    refine wq_top (md_m309 hM1) ?_
    refine wq_mput rfl (md_o hM1) rfl rfl rfl rfl ?_
    refine wq_go rfl (fun _ => rfl) ?_
    refine wq_cN (m := 0) rfl rfl ?_
    refine wq_mput rfl (up_same _ _ _) rfl rfl rfl rfl ?_
    rw [up_up]
    refine wq_end rfl (fun _ => rfl) ?_
    exact K _ _ (fr_up (fr_mono hF1 x323_C) rfl) (fg_up (fg_up (fg_refl _ _) rfl) rfl) rfl rfl (md_u287 hM1 rfl) ((up_ne _ _ (by decide)).trans (hA1.trans (arr_row (fun j hj => hA j (by omega)))))
  | succ m ih =>
    intro u hm σ1 fA hF1 hM1 hA1 hA
    refine wq_go rfl (fun _ => rfl) ?_
    refine wq_cN (m := 61) rfl rfl ?_
    refine wq_cge rfl (by first | omega | decide | exact Nat.lt_of_le_of_lt Nat.and_le_right (by decide) | exact ⟨by omega, by omega⟩) (by first | omega | decide | exact Nat.lt_of_le_of_lt Nat.and_le_right (by decide) | exact ⟨by omega, by omega⟩) (fun c => absurd c (by omega)) (fun c4 => ?_)
    refine wq_go rfl (fun _ => rfl) ?_
    refine wq_getf rfl (by first | rfl | assumption) (by first | decide | omega | assumption) (md_o hM1) rfl ?_
    refine wq_go rfl (fun _ => rfl) ?_
    refine wq_go rfl (fun _ => rfl) ?_
    refine wq_getf rfl (by first | rfl | assumption) (by first | decide | omega | assumption) (md_o hM1) rfl ?_
    refine wq_go rfl (fun _ => rfl) ?_
    refine wq_ialdN rfl (by first | rfl | assumption) (by first | decide | omega | assumption) ((hF1 322 rfl).trans hN) rfl (by omega) (by first | decide | omega) ?_
    refine wq_iast rfl (by first | rfl | assumption) (by first | decide | omega | assumption) hA1 rfl (by omega) (by first | decide | omega) ?_
    refine wq_incN rfl rfl rfl ?_
    refine wq_go rfl (fun _ => rfl) ?_
    exact ih (u + 1) (by omega) _ _ (fr_up hF1 rfl) (md_u323 hM1) (up_same _ _ _) (ga_s hA rfl)
theorem m_copies {xs : List Int32} {d : Nat} {σ : Nat → List Value} {Q : Option Value → (Nat → List Value) → Prop} {P : Pl} {L : Nat} {g : Nat → Int32} (hM : MD P L g σ) {S : St} (hN : NwIs σ S)  (K : ∀ σ' g', Fr xC σ σ' → FrG yC g g' → g' 54 = nI (Psd P) → g' 55 = nI 0 → MD P L g' σ' → RwIs σ' S → Q none σ') : Wq xs (d + 0) ax_cd257 0 [(0, .ref 287)] [] σ Q := by
  refine wq_cN (m := 0) rfl rfl ?_
  refine wq_go rfl (fun _ => rfl) ?_
  exact m_copies_l (md_l2 hM) (md_pok hM) hN K 61 0 rfl σ _ (fr_refl _ _) hM (md_c323 hM) ga_0
theorem m_copiesStill {xs : List Int32} {d : Nat} {σ : Nat → List Value} {Q : Option Value → (Nat → List Value) → Prop} {P : Pl} {L : Nat} {g : Nat → Int32} (hM : MD P L g σ) {S : St} (hN : NwIs σ S)  (K : ∀ σ' g', Fr xC σ σ' → FrG yC g g' → g' 54 = nI (Psd P) → g' 55 = nI 1 → MD P L g' σ' → RwIs σ' S → Q none σ') : Wq xs (d + 1) ax_cd304 0 [(0, .ref 287)] [] σ Q := by
  refine wq_go rfl (fun _ => rfl) ?_
  refine wq_callV rfl rfl (by first | rfl | assumption) (by first | decide | omega | assumption) (Nat.le_of_ble_eq_true rfl) (Nat.le_of_ble_eq_true rfl) rfl rfl ?_
  refine m_copies hM hN (fun σ1 g1 F1 G1 s1 t1 M1 R1 => ?_)
  refine wq_go rfl (fun _ => rfl) ?_
  refine wq_cN (m := 1) rfl rfl ?_
  refine wq_mput rfl (md_o M1) rfl rfl rfl rfl ?_
  refine wq_end rfl (fun _ => rfl) ?_
  exact K _ (upd g1 55 (nI 1)) (fr_up F1 rfl) (fg_up G1 rfl) s1 rfl (md_u287 M1 rfl) ((up_ne _ _ (by decide)).trans R1)
theorem m_keeps_l {xs : List Int32} {d : Nat} {σ : Nat → List Value} {Q : Option Value → (Nat → List Value) → Prop} {P : Pl} {L : Nat} {g : Nat → Int32} (hL2 : L < 2) (hP : Pok P) {S : St} (hR : RwIs σ S)  (K : ∀ σ', Fr x322 σ σ' → MD P L g σ' → NwIs σ' S → Q none σ') : ∀ (m u : Nat), m + u = 61 → ∀ σ1 fA, Fr x322 σ σ1 → MD P L g σ1 → σ1 322 = arr 61 fA → (∀ j, j < u → fA j = nI (rowF S j)) → Wq xs (d + 0) ax_cd221 2 [(1, .int (nI u)), (0, .ref 287)] [] σ1 Q := by
  intro m
  induction m with
  | zero =>
    intro u hm σ1 fA hF1 hM1 hA1 hA
    refine wq_go rfl (fun _ => rfl) ?_
    refine wq_cN (m := 61) rfl rfl ?_
    refine wq_cge rfl (by first | omega | decide | exact Nat.lt_of_le_of_lt Nat.and_le_right (by decide) | exact ⟨by omega, by omega⟩) (by first | omega | decide | exact Nat.lt_of_le_of_lt Nat.and_le_right (by decide) | exact ⟨by omega, by omega⟩) (fun c4 => ?_) (fun c => absurd (show _ from by omega) c)
    refine wq_end rfl (fun _ => rfl) ?_
    exact K _ hF1 hM1 (hA1.trans (arr_row (fun j hj => hA j (by omega))))
  | succ m ih =>
    intro u hm σ1 fA hF1 hM1 hA1 hA
    refine wq_go rfl (fun _ => rfl) ?_
    refine wq_cN (m := 61) rfl rfl ?_
    refine wq_cge rfl (by first | omega | decide | exact Nat.lt_of_le_of_lt Nat.and_le_right (by decide) | exact ⟨by omega, by omega⟩) (by first | omega | decide | exact Nat.lt_of_le_of_lt Nat.and_le_right (by decide) | exact ⟨by omega, by omega⟩) (fun c => absurd c (by omega)) (fun c4 => ?_)
    refine wq_go rfl (fun _ => rfl) ?_
    refine wq_getf rfl (by first | rfl | assumption) (by first | decide | omega | assumption) (md_o hM1) rfl ?_
    refine wq_go rfl (fun _ => rfl) ?_
    refine wq_go rfl (fun _ => rfl) ?_
    refine wq_getf rfl (by first | rfl | assumption) (by first | decide | omega | assumption) (md_o hM1) rfl ?_
    refine wq_go rfl (fun _ => rfl) ?_
    refine wq_ialdN rfl (by first | rfl | assumption) (by first | decide | omega | assumption) ((hF1 323 rfl).trans hR) rfl (by omega) (by first | decide | omega) ?_
    refine wq_iast rfl (by first | rfl | assumption) (by first | decide | omega | assumption) hA1 rfl (by omega) (by first | decide | omega) ?_
    refine wq_incN rfl rfl rfl ?_
    refine wq_go rfl (fun _ => rfl) ?_
    exact ih (u + 1) (by omega) _ _ (fr_up hF1 rfl) (md_u322 hM1) (up_same _ _ _) (ga_s hA rfl)
theorem m_keepsRow {xs : List Int32} {d : Nat} {σ : Nat → List Value} {Q : Option Value → (Nat → List Value) → Prop} {P : Pl} {L : Nat} {g : Nat → Int32} (hM : MD P L g σ) {S : St} (hR : RwIs σ S)  (K : ∀ σ', Fr x322 σ σ' → MD P L g σ' → NwIs σ' S → Q none σ') : Wq xs (d + 0) ax_cd221 0 [(0, .ref 287)] [] σ Q := by
  refine wq_cN (m := 0) rfl rfl ?_
  refine wq_go rfl (fun _ => rfl) ?_
  exact m_keeps_l (md_l2 hM) (md_pok hM) hR K 61 0 rfl σ _ (fr_refl _ _) hM (md_c322 hM) ga_0
theorem m_doesSay {xs : List Int32} {d : Nat} {σ : Nat → List Value} {Q : Option Value → (Nat → List Value) → Prop} {P : Pl} {L : Nat} {g : Nat → Int32} (hM : MD P L g σ) {S : St} (hok : Sok S) (hR : RwIs σ S) {h t : Nat} (hh : h < 5) (ht : t < 4) (K1 : says1 S (Psa P) h t = true → Q (some (.int (nI 1))) σ) (K0 : says1 S (Psa P) h t = false → Q (some (.int (nI 0))) σ) : Wq xs (d + 0) ax_cd259 0 [(0, .ref 287), (1, .int (nI h)), (2, .int (nI t))] [] σ Q := by
  have hL2 := md_l2 hM
  obtain ⟨hP1, hP2, hP3, hP4, hP5, hP6, hP7, hP8, hPv, hPm, hPo, hPw, hPl⟩ := md_pok hM
  have hhr := hok.2.1
  have hbo := ow_le hok (i := h * 4 + t) (by omega)
  refine wq_go rfl (fun _ => rfl) ?_
  refine wq_getf rfl (by first | rfl | assumption) (by first | decide | omega | assumption) (md_o hM) rfl ?_
  refine wq_cN (m := 24) rfl rfl ?_
  refine wq_cN (m := 4) rfl rfl ?_
  refine wq_go rfl (fun _ => rfl) ?_
  refine wq_mulN rfl ?_
  refine wq_addN rfl ?_
  refine wq_go rfl (fun _ => rfl) ?_
  refine wq_addN rfl ?_
  refine wq_ialdN rfl (by first | rfl | assumption) (by first | decide | omega | assumption) hR rfl (by omega) (by first | decide | omega) ?_
  refine wq_top (congrArg nI (rf_ow S (by omega) (by omega))) ?_
  refine wq_go rfl (fun _ => rfl) ?_
  refine wq_getf rfl (by first | rfl | assumption) (by first | decide | omega | assumption) (md_o hM) rfl ?_
  refine wq_go rfl (fun _ => rfl) ?_
  refine wq_getf rfl (by first | rfl | assumption) (by first | decide | omega | assumption) (md_o hM) rfl ?_
  refine wq_top (md_l hM) ?_
  refine wq_iald rfl (by first | rfl | assumption) (by first | decide | omega | assumption) (md_c307 hM) rfl (by omega) (by first | decide | omega) ?_
  refine wq_top (md_m307 hM) ?_
  refine wq_clt rfl (by first | omega | decide | exact Nat.lt_of_le_of_lt Nat.and_le_right (by decide) | exact ⟨by omega, by omega⟩) (by first | omega | decide | exact Nat.lt_of_le_of_lt Nat.and_le_right (by decide) | exact ⟨by omega, by omega⟩) (fun c15 => ?_) (fun c15 => ?_)
  · skip
    refine wq_cN (m := 0) rfl rfl ?_
    refine wq_nret rfl (by decide) ?_
    first | exact K1 (decide_eq_true (by omega)) | exact K0 (decide_eq_false (by omega))
  · skip
    refine wq_cN (m := 1) rfl rfl ?_
    refine wq_go rfl (fun _ => rfl) ?_
    refine wq_nret rfl (by decide) ?_
    first | exact K1 (decide_eq_true (by omega)) | exact K0 (decide_eq_false (by omega))
theorem bset_f0 {f : Nat → Bool} {u : Nat} (h : f u = false) : bset f (u + 1) = bset f u := by
  rw [bset, if_neg (by rw [h]; decide)]
theorem m_sayers_l {xs : List Int32} {d : Nat} {σ : Nat → List Value} {Q : Option Value → (Nat → List Value) → Prop} {P : Pl} {L : Nat} {g : Nat → Int32} (hM : MD P L g σ) {S : St} (hok : Sok S) (hR : RwIs σ S) {t : Nat} (ht : t < 4) (K : Q (some (.int (nI (bset (fun h => says1 S (Psa P) h t) (Phd P))))) σ) : ∀ (m u : Nat), m + u = Phd P → Wq xs (d + 1) ax_cd306 4 [(3, .int (nI u)), (2, .int (nI (bset (fun h => says1 S (Psa P) h t) u))), (0, .ref 287), (1, .int (nI t))] [] σ Q := by
  have hL2 := md_l2 hM
  obtain ⟨hP1, hP2, hP3, hP4, hP5, hP6, hP7, hP8, hPv, hPm, hPo, hPw, hPl⟩ := md_pok hM
  have hhr := hok.2.1
  intro m
  induction m with
  | zero =>
    intro u hm
    refine wq_go rfl (fun _ => rfl) ?_
    refine wq_go rfl (fun _ => rfl) ?_
    refine wq_getf rfl (by first | rfl | assumption) (by first | decide | omega | assumption) (md_o hM) rfl ?_
    refine wq_go rfl (fun _ => rfl) ?_
    refine wq_getf rfl (by first | rfl | assumption) (by first | decide | omega | assumption) (md_o hM) rfl ?_
    refine wq_top (md_l hM) ?_
    refine wq_iald rfl (by first | rfl | assumption) (by first | decide | omega | assumption) (md_c299 hM) rfl (by omega) (by first | decide | omega) ?_
    refine wq_top (md_m299 hM) ?_
    refine wq_cge rfl (by first | omega | decide | exact Nat.lt_of_le_of_lt Nat.and_le_right (by decide) | exact ⟨by omega, by omega⟩) (by first | omega | decide | exact Nat.lt_of_le_of_lt Nat.and_le_right (by decide) | exact ⟨by omega, by omega⟩) (fun c10 => ?_) (fun c => absurd (show _ from by omega) c)
    refine wq_go rfl (fun _ => rfl) ?_
    refine wq_iret rfl ?_
    have hu : u = Phd P := by omega
    subst hu
    exact K
  | succ m ih =>
    intro u hm
    refine wq_go rfl (fun _ => rfl) ?_
    refine wq_go rfl (fun _ => rfl) ?_
    refine wq_getf rfl (by first | rfl | assumption) (by first | decide | omega | assumption) (md_o hM) rfl ?_
    refine wq_go rfl (fun _ => rfl) ?_
    refine wq_getf rfl (by first | rfl | assumption) (by first | decide | omega | assumption) (md_o hM) rfl ?_
    refine wq_top (md_l hM) ?_
    refine wq_iald rfl (by first | rfl | assumption) (by first | decide | omega | assumption) (md_c299 hM) rfl (by omega) (by first | decide | omega) ?_
    refine wq_top (md_m299 hM) ?_
    refine wq_cge rfl (by first | omega | decide | exact Nat.lt_of_le_of_lt Nat.and_le_right (by decide) | exact ⟨by omega, by omega⟩) (by first | omega | decide | exact Nat.lt_of_le_of_lt Nat.and_le_right (by decide) | exact ⟨by omega, by omega⟩) (fun c => absurd c (by omega)) (fun c10 => ?_)
    refine wq_go rfl (fun _ => rfl) ?_
    refine wq_go rfl (fun _ => rfl) ?_
    refine wq_go rfl (fun _ => rfl) ?_
    refine wq_callV rfl rfl (by first | rfl | assumption) (by first | decide | omega | assumption) (Nat.le_of_ble_eq_true rfl) (Nat.le_of_ble_eq_true rfl) rfl rfl ?_
    refine m_doesSay hM hok hR (h := u) (t := t) (by omega) ht (fun bs => ?_) (fun bs => ?_)
    · skip
      refine wq_zeq rfl (by first | omega | decide | exact Nat.lt_of_le_of_lt Nat.and_le_right (by decide) | exact ⟨by omega, by omega⟩) (fun c => absurd c (by omega)) (fun c15 => ?_)
      refine wq_go rfl (fun _ => rfl) ?_
      refine wq_cN (m := 1) rfl rfl ?_
      refine wq_go rfl (fun _ => rfl) ?_
      refine wq_shl1 rfl (by first | decide | omega) ?_
      refine wq_orN rfl ?_
      refine wq_go rfl (fun _ => rfl) ?_
      refine wq_incN rfl rfl rfl ?_
      refine wq_go rfl (fun _ => rfl) ?_
      first | rw [← bset_t (f := (fun h => says1 S (Psa P) h t)) bs] | rw [← bset_f0 (f := (fun h => says1 S (Psa P) h t)) bs]
      exact ih (u + 1) (by omega)
    · skip
      refine wq_zeq rfl (by first | omega | decide | exact Nat.lt_of_le_of_lt Nat.and_le_right (by decide) | exact ⟨by omega, by omega⟩) (fun c15 => ?_) (fun c => absurd (show _ from by omega) c)
      refine wq_incN rfl rfl rfl ?_
      refine wq_go rfl (fun _ => rfl) ?_
      first | rw [← bset_t (f := (fun h => says1 S (Psa P) h t)) bs] | rw [← bset_f0 (f := (fun h => says1 S (Psa P) h t)) bs]
      exact ih (u + 1) (by omega)
theorem m_sayers {xs : List Int32} {d : Nat} {σ : Nat → List Value} {Q : Option Value → (Nat → List Value) → Prop} {P : Pl} {L : Nat} {g : Nat → Int32} (hM : MD P L g σ) {S : St} (hok : Sok S) (hR : RwIs σ S) {t : Nat} (ht : t < 4) (K : Q (some (.int (nI (bset (fun h => says1 S (Psa P) h t) (Phd P))))) σ) : Wq xs (d + 1) ax_cd306 0 [(0, .ref 287), (1, .int (nI t))] [] σ Q := by
  refine wq_cN (m := 0) rfl rfl ?_
  refine wq_go rfl (fun _ => rfl) ?_
  refine wq_cN (m := 0) rfl rfl ?_
  refine wq_go rfl (fun _ => rfl) ?_
  exact m_sayers_l hM hok hR ht K (Phd P) 0 rfl
theorem m_saidBy_l {xs : List Int32} {d : Nat} {σ : Nat → List Value} {Q : Option Value → (Nat → List Value) → Prop} {P : Pl} {L : Nat} {g : Nat → Int32} (hM : MD P L g σ) {S : St} (hok : Sok S) (hR : RwIs σ S) {h : Nat} (hh : h < 5) (K : Q (some (.int (nI (bset (fun t => says1 S (Psa P) h t) (4))))) σ) : ∀ (m u : Nat), m + u = 4 → Wq xs (d + 1) ax_cd258 4 [(3, .int (nI u)), (2, .int (nI (bset (fun t => says1 S (Psa P) h t) u))), (0, .ref 287), (1, .int (nI h))] [] σ Q := by
  have hL2 := md_l2 hM
  obtain ⟨hP1, hP2, hP3, hP4, hP5, hP6, hP7, hP8, hPv, hPm, hPo, hPw, hPl⟩ := md_pok hM
  have hhr := hok.2.1
  intro m
  induction m with
  | zero =>
    intro u hm
    refine wq_go rfl (fun _ => rfl) ?_
    refine wq_cN (m := 4) rfl rfl ?_
    refine wq_cge rfl (by first | omega | decide | exact Nat.lt_of_le_of_lt Nat.and_le_right (by decide) | exact ⟨by omega, by omega⟩) (by first | omega | decide | exact Nat.lt_of_le_of_lt Nat.and_le_right (by decide) | exact ⟨by omega, by omega⟩) (fun c6 => ?_) (fun c => absurd (show _ from by omega) c)
    refine wq_go rfl (fun _ => rfl) ?_
    refine wq_iret rfl ?_
    have hu : u = 4 := by omega
    subst hu
    exact K
  | succ m ih =>
    intro u hm
    refine wq_go rfl (fun _ => rfl) ?_
    refine wq_cN (m := 4) rfl rfl ?_
    refine wq_cge rfl (by first | omega | decide | exact Nat.lt_of_le_of_lt Nat.and_le_right (by decide) | exact ⟨by omega, by omega⟩) (by first | omega | decide | exact Nat.lt_of_le_of_lt Nat.and_le_right (by decide) | exact ⟨by omega, by omega⟩) (fun c => absurd c (by omega)) (fun c6 => ?_)
    refine wq_go rfl (fun _ => rfl) ?_
    refine wq_go rfl (fun _ => rfl) ?_
    refine wq_go rfl (fun _ => rfl) ?_
    refine wq_callV rfl rfl (by first | rfl | assumption) (by first | decide | omega | assumption) (Nat.le_of_ble_eq_true rfl) (Nat.le_of_ble_eq_true rfl) rfl rfl ?_
    refine m_doesSay hM hok hR (h := h) (t := u) hh (by omega) (fun bs => ?_) (fun bs => ?_)
    · skip
      refine wq_zeq rfl (by first | omega | decide | exact Nat.lt_of_le_of_lt Nat.and_le_right (by decide) | exact ⟨by omega, by omega⟩) (fun c => absurd c (by omega)) (fun c11 => ?_)
      refine wq_go rfl (fun _ => rfl) ?_
      refine wq_cN (m := 1) rfl rfl ?_
      refine wq_go rfl (fun _ => rfl) ?_
      refine wq_shl1 rfl (by first | decide | omega) ?_
      refine wq_orN rfl ?_
      refine wq_go rfl (fun _ => rfl) ?_
      refine wq_incN rfl rfl rfl ?_
      refine wq_go rfl (fun _ => rfl) ?_
      first | rw [← bset_t (f := (fun t => says1 S (Psa P) h t)) bs] | rw [← bset_f0 (f := (fun t => says1 S (Psa P) h t)) bs]
      exact ih (u + 1) (by omega)
    · skip
      refine wq_zeq rfl (by first | omega | decide | exact Nat.lt_of_le_of_lt Nat.and_le_right (by decide) | exact ⟨by omega, by omega⟩) (fun c11 => ?_) (fun c => absurd (show _ from by omega) c)
      refine wq_incN rfl rfl rfl ?_
      refine wq_go rfl (fun _ => rfl) ?_
      first | rw [← bset_t (f := (fun t => says1 S (Psa P) h t)) bs] | rw [← bset_f0 (f := (fun t => says1 S (Psa P) h t)) bs]
      exact ih (u + 1) (by omega)
theorem m_saidBy {xs : List Int32} {d : Nat} {σ : Nat → List Value} {Q : Option Value → (Nat → List Value) → Prop} {P : Pl} {L : Nat} {g : Nat → Int32} (hM : MD P L g σ) {S : St} (hok : Sok S) (hR : RwIs σ S) {h : Nat} (hh : h < 5) (K : Q (some (.int (nI (bset (fun t => says1 S (Psa P) h t) (4))))) σ) : Wq xs (d + 1) ax_cd258 0 [(0, .ref 287), (1, .int (nI h))] [] σ Q := by
  refine wq_cN (m := 0) rfl rfl ?_
  refine wq_go rfl (fun _ => rfl) ?_
  refine wq_cN (m := 0) rfl rfl ?_
  refine wq_go rfl (fun _ => rfl) ?_
  exact m_saidBy_l hM hok hR hh K (4) 0 rfl
