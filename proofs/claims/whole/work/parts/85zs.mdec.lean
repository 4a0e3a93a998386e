/-! DECLARATIONS, BY THE REFERENCE -/
def xC1 : Nat → Bool := fun j => j == 287 || j == 295 || j == 296 || j == 297 || j == 298
def xH1 : Nat → Bool := fun j => j == 287 || j == 295 || j == 296 || j == 299 || j == 300 || j == 301
def xV1 : Nat → Bool := fun j => j == 287 || j == 302 || j == 303 || j == 304 || j == 305
theorem x287_C1 : ∀ j, x287 j = true → xC1 j = true := by
  intro j h
  simp only [x287, Bool.or_eq_true, beq_iff_eq] at h
  simp only [xC1, Bool.or_eq_true, beq_iff_eq]
  omega
theorem xN_C1 : ∀ j, xN j = true → xC1 j = true := by
  intro j h
  simp only [xN, Bool.or_eq_true, beq_iff_eq] at h
  simp only [xC1, Bool.or_eq_true, beq_iff_eq]
  omega
theorem x287_H1 : ∀ j, x287 j = true → xH1 j = true := by
  intro j h
  simp only [x287, Bool.or_eq_true, beq_iff_eq] at h
  simp only [xH1, Bool.or_eq_true, beq_iff_eq]
  omega
theorem xN_H1 : ∀ j, xN j = true → xH1 j = true := by
  intro j h
  simp only [xN, Bool.or_eq_true, beq_iff_eq] at h
  simp only [xH1, Bool.or_eq_true, beq_iff_eq]
  omega
theorem x287_V1 : ∀ j, x287 j = true → xV1 j = true := by
  intro j h
  simp only [x287, Bool.or_eq_true, beq_iff_eq] at h
  simp only [xV1, Bool.or_eq_true, beq_iff_eq]
  omega
theorem okM_w {X : Tx} {w : Option (Nat × Nat)} {u k : Nat} {b : Bool} (h : okM X w u) (hX : XOk X) (hk : ¬ Xk X u = 34) : okM X (wn w b k (Xp X u)) (u + 1) := okM_n (okM_s h hX hk) (hX.2.2.2 u hk)
theorem okM_W {B : Bs} {X : Tx} {s t o bn cn nn u k : Nat} {b : Bool} {w : Option (Nat × Nat)} {g : Nat → Int32} {σ : Nat → List Value} (h : okM X w u) (hX : XOk X) (hk : ¬ Xk X u = 34) (_hW : MrW B X s t o bn cn nn (wn w b k (Xp X u)) g σ) (e : t = u + 1) : okM X (wn w b k (Xp X u)) t := by
  rw [e]
  exact okM_w h hX hk
theorem m_bnd_e2 {xs : List Int32} {d : Nat} {σ : Nat → List Value} {Q : Option Value → (Nat → List Value) → Prop} {B : Bs} {X : Tx} {s f p bn : Nat} {g : Nat → Int32} (hF : MrF B X s f p bn g σ) {lo hi : Int32} (K : ∀ σ', Fr x287 σ σ' → MrF B X s f p bn g σ' → Q (some (.int lo)) σ') : Wq xs (d + 2) ax_cd240 0 [(0, .ref 287), (1, .int lo), (2, .int hi)] [] σ Q := m_bnd_e hF (K σ (fr_refl _ _) hF)
theorem m_t6 {xs : List Int32} {d : Nat} {σ : Nat → List Value} {Q : Option Value → (Nat → List Value) → Prop} {B : Bs} {X : Tx} {s t bn cn nn nc : Nat} {w : Option (Nat × Nat)} {g : Nat → Int32} (hW : MrW B X s t 0 bn cn nn w g σ) (hM : okM X w t) (hnn : nn < 9) (hk : Xk X t = 0) (hnc : ag σ 297 s = nI nc) (hnc4 : nc ≤ 4) (K1 : ∀ t1 t2 t3 t4 g' σ', nc < 4 → must X 0 t = .inr t1 → must X 23 t1 = .inr t2 → must X 24 t2 = .inr t3 → must X 25 t3 = .inr t4 → t4 = t + 4 → MrW B X s t4 0 bn cn (nn + 1) (wn (wn w (anyN (aq σ 295) (Xn X t1) nn) 3 (Xp X t1)) (outB X t2 0 9) 5 (Xp X t2)) g' σ' → okM X (wn (wn w (anyN (aq σ 295) (Xn X t1) nn) 3 (Xp X t1)) (outB X t2 0 9) 5 (Xp X t2)) t4 → Fr xC1 σ σ' → σ' 297 = arr 2 (upd (ag σ 297) s (nI (nc + 1))) → σ' 298 = arr 8 (upd (ag σ 298) (4 * s + nc) (nI (Xv X t2))) → σ' 295 = arrL 9 (vp_updL (aq σ 295) nn (Xn X t1)) → σ' 296 = arr 9 (upd (ag σ 296) nn (nI nc)) → Q none σ') (K0 : ∀ f' p' bn' g' σ', ((if 4 ≤ nc then er 2 t else bnd (must X 0 t) fun t1 => bnd (must X 23 t1) fun t2 => bnd (must X 24 t2) fun t3 => must X 25 t3) : Rs Nat) = er f' p' → MrF B X s f' (Xp X p') bn' g' σ' → Q none σ') : Wq xs (d + 6) ax_cd233 6 [(0, .ref 287)] [] σ Q := by
  have hX := mb_X (mw_b hW)
  have ht := mw_t hW
  have hr := mw_r hW
  have hs2 := mb_2 (mw_b hW)
  have hkt := mkK_le _ (hX.1 t)
  have hpt := hX.2.2.1 t
  refine wq_go rfl (fun _ => rfl) ?_
  refine wq_go rfl (fun _ => rfl) ?_
  refine wq_getf rfl (by first | rfl | assumption) (by first | decide | omega | assumption) (mb_o (mw_b hW)) rfl ?_
  refine wq_go rfl (fun _ => rfl) ?_
  refine wq_getf rfl (by first | rfl | assumption) (by first | decide | omega | assumption) (mb_o (mw_b hW)) rfl ?_
  refine wq_top (mb_19 (mw_b hW) :) ?_
  refine wq_iald rfl (by first | rfl | assumption) (by first | decide | omega | assumption) (mb_a (mw_b hW) (by decide) : IsA σ 297 2) rfl (by omega) (by first | decide | omega) ?_
  refine wq_top hnc ?_
  refine wq_cN (m := 4) rfl rfl ?_
  refine wq_callV rfl rfl (by first | rfl | assumption) (by first | decide | omega | assumption) (Nat.le_of_ble_eq_true rfl) (Nat.le_of_ble_eq_true rfl) rfl rfl ?_
  refine m_room hW ⟨by omega, by omega⟩ (a := nc) (m := 4) (by omega) (by decide) (fun g13 σ13 a13 h13 F13 W13 => ?_) (fun g13 σ13 h13 F13 W13 => ?_)
  · skip
    skip
    refine wq_go rfl (fun _ => rfl) ?_
    refine wq_getf rfl (by first | rfl | assumption) (by first | decide | omega | assumption) (mb_o (mw_b W13)) rfl ?_
    refine wq_top (mw_13 W13 :) ?_
    refine wq_zle rfl (by first | omega | decide | exact Nat.lt_of_le_of_lt Nat.and_le_right (by decide) | exact ⟨by omega, by omega⟩) (fun c16 => ?_) (fun c => absurd (show _ from by omega) c)
    refine wq_go rfl (fun _ => rfl) ?_
    refine wq_callV rfl rfl (by first | rfl | assumption) (by first | decide | omega | assumption) (Nat.le_of_ble_eq_true rfl) (Nat.le_of_ble_eq_true rfl) rfl rfl ?_
    refine m_named W13 (okM_s hM hX (by omega)) (by omega) (fun t19 g19 σ19 m19 e19 k19 F19 W19 => ?_) (fun f19 g19 σ19 m19 F19 W19 => ?_)
    · skip
      have hr1 := mw_r W13
      have hk1 := k19
      have M19 := okM_W (okM_s hM hX (by omega)) hX (by omega) W19 e19
      refine wq_go rfl (fun _ => rfl) ?_
      refine wq_go rfl (fun _ => rfl) ?_
      refine wq_getf rfl (by first | rfl | assumption) (by first | decide | omega | assumption) (mb_o (mw_b W19)) rfl ?_
      refine wq_cN (m := 4) rfl rfl ?_
      refine wq_go rfl (fun _ => rfl) ?_
      refine wq_getf rfl (by first | rfl | assumption) (by first | decide | omega | assumption) (mb_o (mw_b W19)) rfl ?_
      refine wq_top (mb_19 (mw_b W19) :) ?_
      refine wq_mulN rfl ?_
      refine wq_go rfl (fun _ => rfl) ?_
      refine wq_getf rfl (by first | rfl | assumption) (by first | decide | omega | assumption) (mb_o (mw_b W19)) rfl ?_
      refine wq_go rfl (fun _ => rfl) ?_
      refine wq_getf rfl (by first | rfl | assumption) (by first | decide | omega | assumption) (mb_o (mw_b W19)) rfl ?_
      refine wq_top (mb_19 (mw_b W19) :) ?_
      refine wq_iald rfl (by first | rfl | assumption) (by first | decide | omega | assumption) (mb_a (mw_b W19) (by decide) : IsA σ19 297 2) rfl (by omega) (by first | decide | omega) ?_
      refine wq_top ((ag_eq (F19 297 rfl) s).trans ((ag_eq (F13 297 rfl) s).trans hnc)) ?_
      refine wq_addN rfl ?_
      refine wq_go rfl (fun _ => rfl) ?_
      refine wq_cN (m := 0) rfl rfl ?_
      refine wq_cN (m := 9) rfl rfl ?_
      refine wq_callV rfl rfl (by first | rfl | assumption) (by first | decide | omega | assumption) (Nat.le_of_ble_eq_true rfl) (Nat.le_of_ble_eq_true rfl) rfl rfl ?_
      refine m_bnd W19 M19 (lo := 0) (hi := 9) (by decide) (by decide) (fun t36 g36 σ36 m36 e36 k36 F36 W36 => ?_) (fun f36 x36 g36 σ36 m36 F36 W36 => ?_)
      · skip
        have M36 := okM_W M19 hX (by omega) W36 e36
        refine wq_iast rfl (by first | rfl | assumption) (by first | decide | omega | assumption) (mb_a (mw_b W36) (by decide) : IsA σ36 298 8) rfl (by omega) (by first | decide | omega) ?_
        refine wq_go rfl (fun _ => rfl) ?_
        refine wq_go rfl (fun _ => rfl) ?_
        refine wq_go rfl (fun _ => rfl) ?_
        refine wq_getf rfl (by first | rfl | assumption) (by first | decide | omega | assumption) ((up_ne _ _ (by decide)).trans (mb_o (mw_b W36))) rfl ?_
        refine wq_go rfl (fun _ => rfl) ?_
        refine wq_getf rfl (by first | rfl | assumption) (by first | decide | omega | assumption) ((up_ne _ _ (by decide)).trans (mb_o (mw_b W36))) rfl ?_
        refine wq_top (mb_19 (mw_b W36) :) ?_
        refine wq_iald rfl (by first | rfl | assumption) (by first | decide | omega | assumption) ((up_ne _ _ (by decide)).trans (mb_a (mw_b W36) (by decide) : IsA σ36 297 2)) rfl (by omega) (by first | decide | omega) ?_
        refine wq_top ((ag_eq (F36 297 rfl) s).trans ((ag_eq (F19 297 rfl) s).trans ((ag_eq (F13 297 rfl) s).trans hnc))) ?_
        refine wq_callV rfl rfl (by first | rfl | assumption) (by first | decide | omega | assumption) (Nat.le_of_ble_eq_true rfl) (Nat.le_of_ble_eq_true rfl) rfl rfl ?_
        refine m_ends (mrw_a2 W36 rfl (by decide) (by decide) (by decide) (show 4 * s ≤ _ from by omega) (show _ < 4 * s + 4 from by omega)) (tk := t + 1) (by omega) hr1 hk1 (by omega) (fun t45 g45 σ45 m45 e45 k45 F45 W45 p45 q45 => ?_) (fun f45 g45 σ45 m45 F45 W45 => ?_)
        · skip
          skip
          refine wq_go rfl (fun _ => rfl) ?_
          refine wq_getf rfl (by first | rfl | assumption) (by first | decide | omega | assumption) (mb_o (mw_b W45)) rfl ?_
          refine wq_top (mw_13 W45 :) ?_
          refine wq_zne rfl (by first | omega | decide | exact Nat.lt_of_le_of_lt Nat.and_le_right (by decide) | exact ⟨by omega, by omega⟩) (fun c => absurd c (by omega)) (fun c48 => ?_)
          refine wq_go rfl (fun _ => rfl) ?_
          refine wq_getf rfl (by first | rfl | assumption) (by first | decide | omega | assumption) (mb_o (mw_b W45)) rfl ?_
          refine wq_go rfl (fun _ => rfl) ?_
          refine wq_getf rfl (by first | rfl | assumption) (by first | decide | omega | assumption) (mb_o (mw_b W45)) rfl ?_
          refine wq_top (mb_19 (mw_b W45) :) ?_
          refine wq_go rfl (fun _ => rfl) ?_
          refine wq_iald rfl (by first | rfl | assumption) (by first | decide | omega | assumption) (mb_a (mw_b W45) (by decide) : IsA σ45 297 2) rfl (by omega) (by first | decide | omega) ?_
          refine wq_top ((ag_eq (F45 297 rfl) s).trans ((ag_eq (up_ne _ _ (by decide)) s).trans ((ag_eq (F36 297 rfl) s).trans ((ag_eq (F19 297 rfl) s).trans ((ag_eq (F13 297 rfl) s).trans hnc))))) ?_
          refine wq_cN (m := 1) rfl rfl ?_
          refine wq_addN rfl ?_
          refine wq_iast rfl (by first | rfl | assumption) (by first | decide | omega | assumption) (mb_a (mw_b W45) (by decide) : IsA σ45 297 2) rfl (by omega) (by first | decide | omega) ?_
          refine wq_go rfl (fun _ => rfl) ?_
          refine wq_end rfl (fun _ => rfl) ?_
          rw [aq_fun (F13 295 rfl)] at W45 M36
          refine K1 (t + 1) t19 t36 t45 _ _ a13 (must_y hk h13) m19 m36 m45 (by omega) (mrw_a2 W45 rfl (by decide) (by decide) (by decide) (show 1 * s ≤ _ from by omega) (show _ < 1 * s + 1 from by omega)) ?_ (fr_up (fr_trans (fr_up (fr_trans (fr_trans (fr_trans (fr_refl _ _) (fr_mono F13 x287_C1)) (fr_mono F19 x287_C1)) (fr_mono F36 x287_C1)) rfl) (fr_mono F45 xN_C1)) rfl) ?_ ?_ ?_ ?_
          · rw [e45]; exact okM_s M36 hX (by omega)
          · rw [up_same, ag_fun ((F45 297 rfl).trans ((up_ne _ _ (by decide)).trans ((F36 297 rfl).trans ((F19 297 rfl).trans (F13 297 rfl)))))]
          · rw [up_ne _ _ (by decide), F45 298 rfl, up_same, ag_fun ((F36 298 rfl).trans ((F19 298 rfl).trans (F13 298 rfl)))]
          · rw [up_ne _ _ (by decide), p45, aq_fun ((up_ne _ _ (by decide)).trans ((F36 295 rfl).trans ((F19 295 rfl).trans (F13 295 rfl))))]
          · rw [up_ne _ _ (by decide), q45, ag_fun ((up_ne _ _ (by decide)).trans ((F36 296 rfl).trans ((F19 296 rfl).trans (F13 296 rfl))))]
        · skip
          have hf0_W45 := mf_0 W45
          have hf9_W45 := mf_9 W45
          refine wq_go rfl (fun _ => rfl) ?_
          refine wq_getf rfl (by first | rfl | assumption) (by first | decide | omega | assumption) (mb_o (mf_b W45)) rfl ?_
          refine wq_top (mf_13 W45 :) ?_
          refine wq_zne rfl (by first | omega | decide | exact Nat.lt_of_le_of_lt Nat.and_le_right (by decide) | exact ⟨by omega, by omega⟩) (fun c48 => ?_) (fun c => absurd (show _ from by omega) c)
          refine wq_end rfl (fun _ => rfl) ?_
          exact K0 f45 t36 bn _ _ (by rw [if_neg (by omega), must_y hk h13, bnd_o, m19, bnd_o, m36, bnd_o, m45]) W45
      · skip
        skip
        refine wq_iast rfl (by first | rfl | assumption) (by first | decide | omega | assumption) (mb_a (mf_b W36) (by decide) : IsA σ36 298 8) rfl (by omega) (by first | decide | omega) ?_
        refine wq_go rfl (fun _ => rfl) ?_
        refine wq_go rfl (fun _ => rfl) ?_
        refine wq_go rfl (fun _ => rfl) ?_
        refine wq_getf rfl (by first | rfl | assumption) (by first | decide | omega | assumption) ((up_ne _ _ (by decide)).trans (mb_o (mf_b W36))) rfl ?_
        refine wq_go rfl (fun _ => rfl) ?_
        refine wq_getf rfl (by first | rfl | assumption) (by first | decide | omega | assumption) ((up_ne _ _ (by decide)).trans (mb_o (mf_b W36))) rfl ?_
        refine wq_top (mb_19 (mf_b W36) :) ?_
        refine wq_iald rfl (by first | rfl | assumption) (by first | decide | omega | assumption) ((up_ne _ _ (by decide)).trans (mb_a (mf_b W36) (by decide) : IsA σ36 297 2)) rfl (by omega) (by first | decide | omega) ?_
        refine wq_top ((ag_eq (F36 297 rfl) s).trans ((ag_eq (F19 297 rfl) s).trans ((ag_eq (F13 297 rfl) s).trans hnc))) ?_
        refine wq_callV rfl rfl (by first | rfl | assumption) (by first | decide | omega | assumption) (Nat.le_of_ble_eq_true rfl) (Nat.le_of_ble_eq_true rfl) rfl rfl ?_
        refine m_ends_e (mrf_a2 W36 rfl (by decide) (by decide) (by decide) (show 4 * s ≤ _ from by omega) (show _ < 4 * s + 4 from by omega)) ?_
        have hf0_W36 := mf_0 W36
        have hf9_W36 := mf_9 W36
        refine wq_go rfl (fun _ => rfl) ?_
        refine wq_getf rfl (by first | rfl | assumption) (by first | decide | omega | assumption) ((up_ne _ _ (by decide)).trans (mb_o (mf_b W36))) rfl ?_
        refine wq_top (mf_13 W36 :) ?_
        refine wq_zne rfl (by first | omega | decide | exact Nat.lt_of_le_of_lt Nat.and_le_right (by decide) | exact ⟨by omega, by omega⟩) (fun c48 => ?_) (fun c => absurd (show _ from by omega) c)
        refine wq_end rfl (fun _ => rfl) ?_
        exact K0 f36 t19 bn _ _ (by rw [if_neg (by omega), must_y hk h13, bnd_o, m19, bnd_o, m36, bnd_e]) (mrf_a2 W36 rfl (by decide) (by decide) (by decide) (show 4 * s ≤ _ from by omega) (show _ < 4 * s + 4 from by omega))
    · skip
      have hf0_W19 := mf_0 W19
      have hf9_W19 := mf_9 W19
      refine wq_go rfl (fun _ => rfl) ?_
      refine wq_go rfl (fun _ => rfl) ?_
      refine wq_getf rfl (by first | rfl | assumption) (by first | decide | omega | assumption) (mb_o (mf_b W19)) rfl ?_
      refine wq_cN (m := 4) rfl rfl ?_
      refine wq_go rfl (fun _ => rfl) ?_
      refine wq_getf rfl (by first | rfl | assumption) (by first | decide | omega | assumption) (mb_o (mf_b W19)) rfl ?_
      refine wq_top (mb_19 (mf_b W19) :) ?_
      refine wq_mulN rfl ?_
      refine wq_go rfl (fun _ => rfl) ?_
      refine wq_getf rfl (by first | rfl | assumption) (by first | decide | omega | assumption) (mb_o (mf_b W19)) rfl ?_
      refine wq_go rfl (fun _ => rfl) ?_
      refine wq_getf rfl (by first | rfl | assumption) (by first | decide | omega | assumption) (mb_o (mf_b W19)) rfl ?_
      refine wq_top (mb_19 (mf_b W19) :) ?_
      refine wq_iald rfl (by first | rfl | assumption) (by first | decide | omega | assumption) (mb_a (mf_b W19) (by decide) : IsA σ19 297 2) rfl (by omega) (by first | decide | omega) ?_
      refine wq_top ((ag_eq (F19 297 rfl) s).trans ((ag_eq (F13 297 rfl) s).trans hnc)) ?_
      refine wq_addN rfl ?_
      refine wq_go rfl (fun _ => rfl) ?_
      refine wq_cN (m := 0) rfl rfl ?_
      refine wq_cN (m := 9) rfl rfl ?_
      refine wq_callV rfl rfl (by first | rfl | assumption) (by first | decide | omega | assumption) (Nat.le_of_ble_eq_true rfl) (Nat.le_of_ble_eq_true rfl) rfl rfl ?_
      refine m_bnd_e2 W19 (fun σ36 F36 W36 => ?_)
      skip
      refine wq_iast rfl (by first | rfl | assumption) (by first | decide | omega | assumption) (mb_a (mf_b W36) (by decide) : IsA σ36 298 8) rfl (by omega) (by first | decide | omega) ?_
      refine wq_go rfl (fun _ => rfl) ?_
      refine wq_go rfl (fun _ => rfl) ?_
      refine wq_go rfl (fun _ => rfl) ?_
      refine wq_getf rfl (by first | rfl | assumption) (by first | decide | omega | assumption) ((up_ne _ _ (by decide)).trans (mb_o (mf_b W36))) rfl ?_
      refine wq_go rfl (fun _ => rfl) ?_
      refine wq_getf rfl (by first | rfl | assumption) (by first | decide | omega | assumption) ((up_ne _ _ (by decide)).trans (mb_o (mf_b W36))) rfl ?_
      refine wq_top (mb_19 (mf_b W36) :) ?_
      refine wq_iald rfl (by first | rfl | assumption) (by first | decide | omega | assumption) ((up_ne _ _ (by decide)).trans (mb_a (mf_b W36) (by decide) : IsA σ36 297 2)) rfl (by omega) (by first | decide | omega) ?_
      refine wq_top ((ag_eq (F36 297 rfl) s).trans ((ag_eq (F19 297 rfl) s).trans ((ag_eq (F13 297 rfl) s).trans hnc))) ?_
      refine wq_callV rfl rfl (by first | rfl | assumption) (by first | decide | omega | assumption) (Nat.le_of_ble_eq_true rfl) (Nat.le_of_ble_eq_true rfl) rfl rfl ?_
      refine m_ends_e (mrf_a2 W36 rfl (by decide) (by decide) (by decide) (show 4 * s ≤ _ from by omega) (show _ < 4 * s + 4 from by omega)) ?_
      have hf0_W36 := mf_0 W36
      have hf9_W36 := mf_9 W36
      refine wq_go rfl (fun _ => rfl) ?_
      refine wq_getf rfl (by first | rfl | assumption) (by first | decide | omega | assumption) ((up_ne _ _ (by decide)).trans (mb_o (mf_b W36))) rfl ?_
      refine wq_top (mf_13 W36 :) ?_
      refine wq_zne rfl (by first | omega | decide | exact Nat.lt_of_le_of_lt Nat.and_le_right (by decide) | exact ⟨by omega, by omega⟩) (fun c48 => ?_) (fun c => absurd (show _ from by omega) c)
      refine wq_end rfl (fun _ => rfl) ?_
      exact K0 f19 (t + 1) bn _ _ (by rw [if_neg (by omega), must_y hk h13, bnd_o, m19, bnd_e]) (mrf_a2 W36 rfl (by decide) (by decide) (by decide) (show 4 * s ≤ _ from by omega) (show _ < 4 * s + 4 from by omega))
  · skip
    have hf0_W13 := mf_0 W13
    have hf9_W13 := mf_9 W13
    refine wq_go rfl (fun _ => rfl) ?_
    refine wq_getf rfl (by first | rfl | assumption) (by first | decide | omega | assumption) (mb_o (mf_b W13)) rfl ?_
    refine wq_top (mf_13 W13 :) ?_
    refine wq_zle rfl (by first | omega | decide | exact Nat.lt_of_le_of_lt Nat.and_le_right (by decide) | exact ⟨by omega, by omega⟩) (fun c => absurd c (by omega)) (fun c16 => ?_)
    refine wq_end rfl (fun _ => rfl) ?_
    exact K0 2 t bn _ _ (by
      by_cases h4 : 4 ≤ nc
      · rw [if_pos h4]
      · have h5 : t = 400 := by omega
        subst h5
        rw [if_neg h4, must_r hk, bnd_e]) W13
theorem m_t59 {xs : List Int32} {d : Nat} {σ : Nat → List Value} {Q : Option Value → (Nat → List Value) → Prop} {B : Bs} {X : Tx} {s t bn cn nn nc : Nat} {w : Option (Nat × Nat)} {g : Nat → Int32} (hW : MrW B X s t 0 bn cn nn w g σ) (hM : okM X w t) (hnn : nn < 9) (hk : Xk X t = 1) (hnc : ag σ 299 s = nI nc) (hnc4 : nc ≤ 5) (K1 : ∀ t1 t2 t3 t4 t5 t6 t7 t8 g' σ', nc < 5 → must X 1 t = .inr t1 → must X 23 t1 = .inr t2 → must X 24 t2 = .inr t3 → must X 24 t3 = .inr t4 → must X 24 t4 = .inr t5 → must X 24 t5 = .inr t6 → must X 24 t6 = .inr t7 → must X 25 t7 = .inr t8 → t8 = t + 8 → MrW B X s t8 0 bn cn (nn + 1) (wn (wn (wn (wn (wn (wn w (anyN (aq σ 295) (Xn X t1) nn) 3 (Xp X t1)) (outB X t2 0 9) 5 (Xp X t2)) (outB X t3 0 99) 5 (Xp X t3)) (outB X t4 0 99) 5 (Xp X t4)) (outB X t5 0 99) 5 (Xp X t5)) (outB X t6 0 99) 5 (Xp X t6)) g' σ' → okM X (wn (wn (wn (wn (wn (wn w (anyN (aq σ 295) (Xn X t1) nn) 3 (Xp X t1)) (outB X t2 0 9) 5 (Xp X t2)) (outB X t3 0 99) 5 (Xp X t3)) (outB X t4 0 99) 5 (Xp X t4)) (outB X t5 0 99) 5 (Xp X t5)) (outB X t6 0 99) 5 (Xp X t6)) t8 → Fr xH1 σ σ' → σ' 299 = arr 2 (upd (ag σ 299) s (nI (nc + 1))) → σ' 300 = arr 10 (upd (ag σ 300) (5 * s + nc) (nI (Xv X t2))) → σ' 301 = arr 40 (upd (upd (upd (upd (ag σ 301) (20 * s + 4 * nc + 0) (nI (Xv X t3))) (20 * s + 4 * nc + 1) (nI (Xv X t4))) (20 * s + 4 * nc + 2) (nI (Xv X t5))) (20 * s + 4 * nc + 3) (nI (Xv X t6))) → σ' 295 = arrL 9 (vp_updL (aq σ 295) nn (Xn X t1)) → σ' 296 = arr 9 (upd (ag σ 296) nn (nI (10 + nc))) → Q none σ') (K0 : ∀ f' p' bn' g' σ', ((if 5 ≤ nc then er 2 t else bnd (must X 1 t) fun t1 => bnd (must X 23 t1) fun t2 => bnd (must X 24 t2) fun t3 => bnd (must X 24 t3) fun t4 => bnd (must X 24 t4) fun t5 => bnd (must X 24 t5) fun t6 => bnd (must X 24 t6) fun t7 => must X 25 t7) : Rs Nat) = er f' p' → MrF B X s f' (Xp X p') bn' g' σ' → Q none σ') : Wq xs (d + 6) ax_cd233 59 [(0, .ref 287)] [] σ Q := by
  have hX := mb_X (mw_b hW)
  have ht := mw_t hW
  have hr := mw_r hW
  have hs2 := mb_2 (mw_b hW)
  have hkt := mkK_le _ (hX.1 t)
  have hpt := hX.2.2.1 t
  refine wq_go rfl (fun _ => rfl) ?_
  refine wq_go rfl (fun _ => rfl) ?_
  refine wq_getf rfl (by first | rfl | assumption) (by first | decide | omega | assumption) (mb_o (mw_b hW)) rfl ?_
  refine wq_go rfl (fun _ => rfl) ?_
  refine wq_getf rfl (by first | rfl | assumption) (by first | decide | omega | assumption) (mb_o (mw_b hW)) rfl ?_
  refine wq_top (mb_19 (mw_b hW) :) ?_
  refine wq_iald rfl (by first | rfl | assumption) (by first | decide | omega | assumption) (mb_a (mw_b hW) (by decide) : IsA σ 299 2) rfl (by omega) (by first | decide | omega) ?_
  refine wq_top hnc ?_
  refine wq_cN (m := 5) rfl rfl ?_
  refine wq_callV rfl rfl (by first | rfl | assumption) (by first | decide | omega | assumption) (Nat.le_of_ble_eq_true rfl) (Nat.le_of_ble_eq_true rfl) rfl rfl ?_
  refine m_room hW ⟨by omega, by omega⟩ (a := nc) (m := 5) (by omega) (by decide) (fun g66 σ66 a66 h66 F66 W66 => ?_) (fun g66 σ66 h66 F66 W66 => ?_)
  · skip
    skip
    refine wq_go rfl (fun _ => rfl) ?_
    refine wq_getf rfl (by first | rfl | assumption) (by first | decide | omega | assumption) (mb_o (mw_b W66)) rfl ?_
    refine wq_top (mw_13 W66 :) ?_
    refine wq_zle rfl (by first | omega | decide | exact Nat.lt_of_le_of_lt Nat.and_le_right (by decide) | exact ⟨by omega, by omega⟩) (fun c69 => ?_) (fun c => absurd (show _ from by omega) c)
    refine wq_go rfl (fun _ => rfl) ?_
    refine wq_callV rfl rfl (by first | rfl | assumption) (by first | decide | omega | assumption) (Nat.le_of_ble_eq_true rfl) (Nat.le_of_ble_eq_true rfl) rfl rfl ?_
    refine m_named W66 (okM_s hM hX (by omega)) (by omega) (fun t72 g72 σ72 m72 e72 k72 F72 W72 => ?_) (fun f72 g72 σ72 m72 F72 W72 => ?_)
    · skip
      have hr1 := mw_r W66
      have hk1 := k72
      have M72 := okM_W (okM_s hM hX (by omega)) hX (by omega) W72 e72
      refine wq_go rfl (fun _ => rfl) ?_
      refine wq_go rfl (fun _ => rfl) ?_
      refine wq_getf rfl (by first | rfl | assumption) (by first | decide | omega | assumption) (mb_o (mw_b W72)) rfl ?_
      refine wq_cN (m := 5) rfl rfl ?_
      refine wq_go rfl (fun _ => rfl) ?_
      refine wq_getf rfl (by first | rfl | assumption) (by first | decide | omega | assumption) (mb_o (mw_b W72)) rfl ?_
      refine wq_top (mb_19 (mw_b W72) :) ?_
      refine wq_mulN rfl ?_
      refine wq_go rfl (fun _ => rfl) ?_
      refine wq_getf rfl (by first | rfl | assumption) (by first | decide | omega | assumption) (mb_o (mw_b W72)) rfl ?_
      refine wq_go rfl (fun _ => rfl) ?_
      refine wq_getf rfl (by first | rfl | assumption) (by first | decide | omega | assumption) (mb_o (mw_b W72)) rfl ?_
      refine wq_top (mb_19 (mw_b W72) :) ?_
      refine wq_iald rfl (by first | rfl | assumption) (by first | decide | omega | assumption) (mb_a (mw_b W72) (by decide) : IsA σ72 299 2) rfl (by omega) (by first | decide | omega) ?_
      refine wq_top ((ag_eq (F72 299 rfl) s).trans ((ag_eq (F66 299 rfl) s).trans hnc)) ?_
      refine wq_addN rfl ?_
      refine wq_go rfl (fun _ => rfl) ?_
      refine wq_cN (m := 0) rfl rfl ?_
      refine wq_cN (m := 9) rfl rfl ?_
      refine wq_callV rfl rfl (by first | rfl | assumption) (by first | decide | omega | assumption) (Nat.le_of_ble_eq_true rfl) (Nat.le_of_ble_eq_true rfl) rfl rfl ?_
      refine m_bnd W72 M72 (lo := 0) (hi := 9) (by decide) (by decide) (fun t89 g89 σ89 m89 e89 k89 F89 W89 => ?_) (fun f89 x89 g89 σ89 m89 F89 W89 => ?_)
      · skip
        have M89 := okM_W M72 hX (by omega) W89 e89
        refine wq_iast rfl (by first | rfl | assumption) (by first | decide | omega | assumption) (mb_a (mw_b W89) (by decide) : IsA σ89 300 10) rfl (by omega) (by first | decide | omega) ?_
        refine wq_cN (m := 0) rfl rfl ?_
        refine wq_go rfl (fun _ => rfl) ?_
        skip
        refine wq_go rfl (fun _ => rfl) ?_
        refine wq_cN (m := 4) rfl rfl ?_
        refine wq_cge rfl (by first | omega | decide | exact Nat.lt_of_le_of_lt Nat.and_le_right (by decide) | exact ⟨by omega, by omega⟩) (by first | omega | decide | exact Nat.lt_of_le_of_lt Nat.and_le_right (by decide) | exact ⟨by omega, by omega⟩) (fun c => absurd c (by omega)) (fun c95 => ?_)
        refine wq_go rfl (fun _ => rfl) ?_
        refine wq_getf rfl (by first | rfl | assumption) (by first | decide | omega | assumption) ((up_ne _ _ (by decide)).trans (mb_o (mw_b W89))) rfl ?_
        refine wq_cN (m := 20) rfl rfl ?_
        refine wq_go rfl (fun _ => rfl) ?_
        refine wq_getf rfl (by first | rfl | assumption) (by first | decide | omega | assumption) ((up_ne _ _ (by decide)).trans (mb_o (mw_b W89))) rfl ?_
        refine wq_top (mb_19 (mw_b W89) :) ?_
        refine wq_mulN rfl ?_
        refine wq_cN (m := 4) rfl rfl ?_
        refine wq_go rfl (fun _ => rfl) ?_
        refine wq_getf rfl (by first | rfl | assumption) (by first | decide | omega | assumption) ((up_ne _ _ (by decide)).trans (mb_o (mw_b W89))) rfl ?_
        refine wq_go rfl (fun _ => rfl) ?_
        refine wq_getf rfl (by first | rfl | assumption) (by first | decide | omega | assumption) ((up_ne _ _ (by decide)).trans (mb_o (mw_b W89))) rfl ?_
        refine wq_top (mb_19 (mw_b W89) :) ?_
        refine wq_iald rfl (by first | rfl | assumption) (by first | decide | omega | assumption) ((up_ne _ _ (by decide)).trans (mb_a (mw_b W89) (by decide) : IsA σ89 299 2)) rfl (by omega) (by first | decide | omega) ?_
        refine wq_top ((ag_eq (F89 299 rfl) s).trans ((ag_eq (F72 299 rfl) s).trans ((ag_eq (F66 299 rfl) s).trans hnc))) ?_
        refine wq_mulN rfl ?_
        refine wq_addN rfl ?_
        refine wq_go rfl (fun _ => rfl) ?_
        refine wq_addN rfl ?_
        refine wq_go rfl (fun _ => rfl) ?_
        refine wq_cN (m := 0) rfl rfl ?_
        refine wq_cN (m := 99) rfl rfl ?_
        refine wq_callV rfl rfl (by first | rfl | assumption) (by first | decide | omega | assumption) (Nat.le_of_ble_eq_true rfl) (Nat.le_of_ble_eq_true rfl) rfl rfl ?_
        refine m_bnd (mrw_a2 W89 rfl (by decide) (by decide) (by decide) (show 5 * s ≤ _ from by omega) (show _ < 5 * s + 5 from by omega)) M89 (lo := 0) (hi := 99) (by decide) (by decide) (fun t115a g115a σ115a m115a e115a k115a F115a W115a => ?_) (fun f115a x115a g115a σ115a m115a F115a W115a => ?_)
        · skip
          have M115a := okM_W M89 hX (by omega) W115a e115a
          refine wq_iast rfl (by first | rfl | assumption) (by first | decide | omega | assumption) (mb_a (mw_b W115a) (by decide) : IsA σ115a 301 40) rfl (by omega) (by first | decide | omega) ?_
          refine wq_incN rfl rfl rfl ?_
          refine wq_go rfl (fun _ => rfl) ?_
          skip
          refine wq_go rfl (fun _ => rfl) ?_
          refine wq_cN (m := 4) rfl rfl ?_
          refine wq_cge rfl (by first | omega | decide | exact Nat.lt_of_le_of_lt Nat.and_le_right (by decide) | exact ⟨by omega, by omega⟩) (by first | omega | decide | exact Nat.lt_of_le_of_lt Nat.and_le_right (by decide) | exact ⟨by omega, by omega⟩) (fun c => absurd c (by omega)) (fun c95 => ?_)
          refine wq_go rfl (fun _ => rfl) ?_
          refine wq_getf rfl (by first | rfl | assumption) (by first | decide | omega | assumption) ((up_ne _ _ (by decide)).trans (mb_o (mw_b W115a))) rfl ?_
          refine wq_cN (m := 20) rfl rfl ?_
          refine wq_go rfl (fun _ => rfl) ?_
          refine wq_getf rfl (by first | rfl | assumption) (by first | decide | omega | assumption) ((up_ne _ _ (by decide)).trans (mb_o (mw_b W115a))) rfl ?_
          refine wq_top (mb_19 (mw_b W115a) :) ?_
          refine wq_mulN rfl ?_
          refine wq_cN (m := 4) rfl rfl ?_
          refine wq_go rfl (fun _ => rfl) ?_
          refine wq_getf rfl (by first | rfl | assumption) (by first | decide | omega | assumption) ((up_ne _ _ (by decide)).trans (mb_o (mw_b W115a))) rfl ?_
          refine wq_go rfl (fun _ => rfl) ?_
          refine wq_getf rfl (by first | rfl | assumption) (by first | decide | omega | assumption) ((up_ne _ _ (by decide)).trans (mb_o (mw_b W115a))) rfl ?_
          refine wq_top (mb_19 (mw_b W115a) :) ?_
          refine wq_iald rfl (by first | rfl | assumption) (by first | decide | omega | assumption) ((up_ne _ _ (by decide)).trans (mb_a (mw_b W115a) (by decide) : IsA σ115a 299 2)) rfl (by omega) (by first | decide | omega) ?_
          refine wq_top ((ag_eq (F115a 299 rfl) s).trans ((ag_eq (up_ne _ _ (by decide)) s).trans ((ag_eq (F89 299 rfl) s).trans ((ag_eq (F72 299 rfl) s).trans ((ag_eq (F66 299 rfl) s).trans hnc))))) ?_
          refine wq_mulN rfl ?_
          refine wq_addN rfl ?_
          refine wq_go rfl (fun _ => rfl) ?_
          refine wq_addN rfl ?_
          refine wq_go rfl (fun _ => rfl) ?_
          refine wq_cN (m := 0) rfl rfl ?_
          refine wq_cN (m := 99) rfl rfl ?_
          refine wq_callV rfl rfl (by first | rfl | assumption) (by first | decide | omega | assumption) (Nat.le_of_ble_eq_true rfl) (Nat.le_of_ble_eq_true rfl) rfl rfl ?_
          refine m_bnd (mrw_a2 W115a rfl (by decide) (by decide) (by decide) (show 20 * s ≤ _ from by omega) (show _ < 20 * s + 20 from by omega)) M115a (lo := 0) (hi := 99) (by decide) (by decide) (fun t115b g115b σ115b m115b e115b k115b F115b W115b => ?_) (fun f115b x115b g115b σ115b m115b F115b W115b => ?_)
          · skip
            have M115b := okM_W M115a hX (by omega) W115b e115b
            refine wq_iast rfl (by first | rfl | assumption) (by first | decide | omega | assumption) (mb_a (mw_b W115b) (by decide) : IsA σ115b 301 40) rfl (by omega) (by first | decide | omega) ?_
            refine wq_incN rfl rfl rfl ?_
            refine wq_go rfl (fun _ => rfl) ?_
            skip
            refine wq_go rfl (fun _ => rfl) ?_
            refine wq_cN (m := 4) rfl rfl ?_
            refine wq_cge rfl (by first | omega | decide | exact Nat.lt_of_le_of_lt Nat.and_le_right (by decide) | exact ⟨by omega, by omega⟩) (by first | omega | decide | exact Nat.lt_of_le_of_lt Nat.and_le_right (by decide) | exact ⟨by omega, by omega⟩) (fun c => absurd c (by omega)) (fun c95 => ?_)
            refine wq_go rfl (fun _ => rfl) ?_
            refine wq_getf rfl (by first | rfl | assumption) (by first | decide | omega | assumption) ((up_ne _ _ (by decide)).trans (mb_o (mw_b W115b))) rfl ?_
            refine wq_cN (m := 20) rfl rfl ?_
            refine wq_go rfl (fun _ => rfl) ?_
            refine wq_getf rfl (by first | rfl | assumption) (by first | decide | omega | assumption) ((up_ne _ _ (by decide)).trans (mb_o (mw_b W115b))) rfl ?_
            refine wq_top (mb_19 (mw_b W115b) :) ?_
            refine wq_mulN rfl ?_
            refine wq_cN (m := 4) rfl rfl ?_
            refine wq_go rfl (fun _ => rfl) ?_
            refine wq_getf rfl (by first | rfl | assumption) (by first | decide | omega | assumption) ((up_ne _ _ (by decide)).trans (mb_o (mw_b W115b))) rfl ?_
            refine wq_go rfl (fun _ => rfl) ?_
            refine wq_getf rfl (by first | rfl | assumption) (by first | decide | omega | assumption) ((up_ne _ _ (by decide)).trans (mb_o (mw_b W115b))) rfl ?_
            refine wq_top (mb_19 (mw_b W115b) :) ?_
            refine wq_iald rfl (by first | rfl | assumption) (by first | decide | omega | assumption) ((up_ne _ _ (by decide)).trans (mb_a (mw_b W115b) (by decide) : IsA σ115b 299 2)) rfl (by omega) (by first | decide | omega) ?_
            refine wq_top ((ag_eq (F115b 299 rfl) s).trans ((ag_eq (up_ne _ _ (by decide)) s).trans ((ag_eq (F115a 299 rfl) s).trans ((ag_eq (up_ne _ _ (by decide)) s).trans ((ag_eq (F89 299 rfl) s).trans ((ag_eq (F72 299 rfl) s).trans ((ag_eq (F66 299 rfl) s).trans hnc))))))) ?_
            refine wq_mulN rfl ?_
            refine wq_addN rfl ?_
            refine wq_go rfl (fun _ => rfl) ?_
            refine wq_addN rfl ?_
            refine wq_go rfl (fun _ => rfl) ?_
            refine wq_cN (m := 0) rfl rfl ?_
            refine wq_cN (m := 99) rfl rfl ?_
            refine wq_callV rfl rfl (by first | rfl | assumption) (by first | decide | omega | assumption) (Nat.le_of_ble_eq_true rfl) (Nat.le_of_ble_eq_true rfl) rfl rfl ?_
            refine m_bnd (mrw_a2 W115b rfl (by decide) (by decide) (by decide) (show 20 * s ≤ _ from by omega) (show _ < 20 * s + 20 from by omega)) M115b (lo := 0) (hi := 99) (by decide) (by decide) (fun t115c g115c σ115c m115c e115c k115c F115c W115c => ?_) (fun f115c x115c g115c σ115c m115c F115c W115c => ?_)
            · skip
              have M115c := okM_W M115b hX (by omega) W115c e115c
              refine wq_iast rfl (by first | rfl | assumption) (by first | decide | omega | assumption) (mb_a (mw_b W115c) (by decide) : IsA σ115c 301 40) rfl (by omega) (by first | decide | omega) ?_
              refine wq_incN rfl rfl rfl ?_
              refine wq_go rfl (fun _ => rfl) ?_
              skip
              refine wq_go rfl (fun _ => rfl) ?_
              refine wq_cN (m := 4) rfl rfl ?_
              refine wq_cge rfl (by first | omega | decide | exact Nat.lt_of_le_of_lt Nat.and_le_right (by decide) | exact ⟨by omega, by omega⟩) (by first | omega | decide | exact Nat.lt_of_le_of_lt Nat.and_le_right (by decide) | exact ⟨by omega, by omega⟩) (fun c => absurd c (by omega)) (fun c95 => ?_)
              refine wq_go rfl (fun _ => rfl) ?_
              refine wq_getf rfl (by first | rfl | assumption) (by first | decide | omega | assumption) ((up_ne _ _ (by decide)).trans (mb_o (mw_b W115c))) rfl ?_
              refine wq_cN (m := 20) rfl rfl ?_
              refine wq_go rfl (fun _ => rfl) ?_
              refine wq_getf rfl (by first | rfl | assumption) (by first | decide | omega | assumption) ((up_ne _ _ (by decide)).trans (mb_o (mw_b W115c))) rfl ?_
              refine wq_top (mb_19 (mw_b W115c) :) ?_
              refine wq_mulN rfl ?_
              refine wq_cN (m := 4) rfl rfl ?_
              refine wq_go rfl (fun _ => rfl) ?_
              refine wq_getf rfl (by first | rfl | assumption) (by first | decide | omega | assumption) ((up_ne _ _ (by decide)).trans (mb_o (mw_b W115c))) rfl ?_
              refine wq_go rfl (fun _ => rfl) ?_
              refine wq_getf rfl (by first | rfl | assumption) (by first | decide | omega | assumption) ((up_ne _ _ (by decide)).trans (mb_o (mw_b W115c))) rfl ?_
              refine wq_top (mb_19 (mw_b W115c) :) ?_
              refine wq_iald rfl (by first | rfl | assumption) (by first | decide | omega | assumption) ((up_ne _ _ (by decide)).trans (mb_a (mw_b W115c) (by decide) : IsA σ115c 299 2)) rfl (by omega) (by first | decide | omega) ?_
              refine wq_top ((ag_eq (F115c 299 rfl) s).trans ((ag_eq (up_ne _ _ (by decide)) s).trans ((ag_eq (F115b 299 rfl) s).trans ((ag_eq (up_ne _ _ (by decide)) s).trans ((ag_eq (F115a 299 rfl) s).trans ((ag_eq (up_ne _ _ (by decide)) s).trans ((ag_eq (F89 299 rfl) s).trans ((ag_eq (F72 299 rfl) s).trans ((ag_eq (F66 299 rfl) s).trans hnc))))))))) ?_
              refine wq_mulN rfl ?_
              refine wq_addN rfl ?_
              refine wq_go rfl (fun _ => rfl) ?_
              refine wq_addN rfl ?_
              refine wq_go rfl (fun _ => rfl) ?_
              refine wq_cN (m := 0) rfl rfl ?_
              refine wq_cN (m := 99) rfl rfl ?_
              refine wq_callV rfl rfl (by first | rfl | assumption) (by first | decide | omega | assumption) (Nat.le_of_ble_eq_true rfl) (Nat.le_of_ble_eq_true rfl) rfl rfl ?_
              refine m_bnd (mrw_a2 W115c rfl (by decide) (by decide) (by decide) (show 20 * s ≤ _ from by omega) (show _ < 20 * s + 20 from by omega)) M115c (lo := 0) (hi := 99) (by decide) (by decide) (fun t115d g115d σ115d m115d e115d k115d F115d W115d => ?_) (fun f115d x115d g115d σ115d m115d F115d W115d => ?_)
              · skip
                have M115d := okM_W M115c hX (by omega) W115d e115d
                refine wq_iast rfl (by first | rfl | assumption) (by first | decide | omega | assumption) (mb_a (mw_b W115d) (by decide) : IsA σ115d 301 40) rfl (by omega) (by first | decide | omega) ?_
                refine wq_incN rfl rfl rfl ?_
                refine wq_go rfl (fun _ => rfl) ?_
                skip
                refine wq_go rfl (fun _ => rfl) ?_
                refine wq_cN (m := 4) rfl rfl ?_
                refine wq_cge rfl (by first | omega | decide | exact Nat.lt_of_le_of_lt Nat.and_le_right (by decide) | exact ⟨by omega, by omega⟩) (by first | omega | decide | exact Nat.lt_of_le_of_lt Nat.and_le_right (by decide) | exact ⟨by omega, by omega⟩) (fun c95 => ?_) (fun c => absurd (show _ from by omega) c)
                skip
                refine wq_go rfl (fun _ => rfl) ?_
                refine wq_go rfl (fun _ => rfl) ?_
                refine wq_cN (m := 10) rfl rfl ?_
                refine wq_go rfl (fun _ => rfl) ?_
                refine wq_getf rfl (by first | rfl | assumption) (by first | decide | omega | assumption) ((up_ne _ _ (by decide)).trans (mb_o (mw_b W115d))) rfl ?_
                refine wq_go rfl (fun _ => rfl) ?_
                refine wq_getf rfl (by first | rfl | assumption) (by first | decide | omega | assumption) ((up_ne _ _ (by decide)).trans (mb_o (mw_b W115d))) rfl ?_
                refine wq_top (mb_19 (mw_b W115d) :) ?_
                refine wq_iald rfl (by first | rfl | assumption) (by first | decide | omega | assumption) ((up_ne _ _ (by decide)).trans (mb_a (mw_b W115d) (by decide) : IsA σ115d 299 2)) rfl (by omega) (by first | decide | omega) ?_
                refine wq_top ((ag_eq (F115d 299 rfl) s).trans ((ag_eq (up_ne _ _ (by decide)) s).trans ((ag_eq (F115c 299 rfl) s).trans ((ag_eq (up_ne _ _ (by decide)) s).trans ((ag_eq (F115b 299 rfl) s).trans ((ag_eq (up_ne _ _ (by decide)) s).trans ((ag_eq (F115a 299 rfl) s).trans ((ag_eq (up_ne _ _ (by decide)) s).trans ((ag_eq (F89 299 rfl) s).trans ((ag_eq (F72 299 rfl) s).trans ((ag_eq (F66 299 rfl) s).trans hnc))))))))))) ?_
                refine wq_addN rfl ?_
                refine wq_callV rfl rfl (by first | rfl | assumption) (by first | decide | omega | assumption) (Nat.le_of_ble_eq_true rfl) (Nat.le_of_ble_eq_true rfl) rfl rfl ?_
                refine m_ends (mrw_a2 W115d rfl (by decide) (by decide) (by decide) (show 20 * s ≤ _ from by omega) (show _ < 20 * s + 20 from by omega)) (tk := t + 1) (by omega) hr1 hk1 (by omega) (fun t128 g128 σ128 m128 e128 k128 F128 W128 p128 q128 => ?_) (fun f128 g128 σ128 m128 F128 W128 => ?_)
                · skip
                  skip
                  refine wq_go rfl (fun _ => rfl) ?_
                  refine wq_getf rfl (by first | rfl | assumption) (by first | decide | omega | assumption) (mb_o (mw_b W128)) rfl ?_
                  refine wq_top (mw_13 W128 :) ?_
                  refine wq_zne rfl (by first | omega | decide | exact Nat.lt_of_le_of_lt Nat.and_le_right (by decide) | exact ⟨by omega, by omega⟩) (fun c => absurd c (by omega)) (fun c131 => ?_)
                  refine wq_go rfl (fun _ => rfl) ?_
                  refine wq_getf rfl (by first | rfl | assumption) (by first | decide | omega | assumption) (mb_o (mw_b W128)) rfl ?_
                  refine wq_go rfl (fun _ => rfl) ?_
                  refine wq_getf rfl (by first | rfl | assumption) (by first | decide | omega | assumption) (mb_o (mw_b W128)) rfl ?_
                  refine wq_top (mb_19 (mw_b W128) :) ?_
                  refine wq_go rfl (fun _ => rfl) ?_
                  refine wq_iald rfl (by first | rfl | assumption) (by first | decide | omega | assumption) (mb_a (mw_b W128) (by decide) : IsA σ128 299 2) rfl (by omega) (by first | decide | omega) ?_
                  refine wq_top ((ag_eq (F128 299 rfl) s).trans ((ag_eq (up_ne _ _ (by decide)) s).trans ((ag_eq (F115d 299 rfl) s).trans ((ag_eq (up_ne _ _ (by decide)) s).trans ((ag_eq (F115c 299 rfl) s).trans ((ag_eq (up_ne _ _ (by decide)) s).trans ((ag_eq (F115b 299 rfl) s).trans ((ag_eq (up_ne _ _ (by decide)) s).trans ((ag_eq (F115a 299 rfl) s).trans ((ag_eq (up_ne _ _ (by decide)) s).trans ((ag_eq (F89 299 rfl) s).trans ((ag_eq (F72 299 rfl) s).trans ((ag_eq (F66 299 rfl) s).trans hnc))))))))))))) ?_
                  refine wq_cN (m := 1) rfl rfl ?_
                  refine wq_addN rfl ?_
                  refine wq_iast rfl (by first | rfl | assumption) (by first | decide | omega | assumption) (mb_a (mw_b W128) (by decide) : IsA σ128 299 2) rfl (by omega) (by first | decide | omega) ?_
                  refine wq_go rfl (fun _ => rfl) ?_
                  refine wq_end rfl (fun _ => rfl) ?_
                  rw [aq_fun (F66 295 rfl)] at W128 M115d
                  refine K1 (t + 1) t72 t89 t115a t115b t115c t115d t128 _ _ a66 (must_y hk h66) m72 m89 m115a m115b m115c m115d m128 (by omega) (mrw_a2 W128 rfl (by decide) (by decide) (by decide) (show 1 * s ≤ _ from by omega) (show _ < 1 * s + 1 from by omega)) ?_ (fr_up (fr_trans (fr_up (fr_trans (fr_up (fr_trans (fr_up (fr_trans (fr_up (fr_trans (fr_up (fr_trans (fr_trans (fr_trans (fr_refl _ _) (fr_mono F66 x287_H1)) (fr_mono F72 x287_H1)) (fr_mono F89 x287_H1)) rfl) (fr_mono F115a x287_H1)) rfl) (fr_mono F115b x287_H1)) rfl) (fr_mono F115c x287_H1)) rfl) (fr_mono F115d x287_H1)) rfl) (fr_mono F128 xN_H1)) rfl) ?_ ?_ ?_ ?_ ?_
                  · rw [e128]; exact okM_s M115d hX (by omega)
                  · rw [up_same, ag_fun ((F128 299 rfl).trans ((up_ne _ _ (by decide)).trans ((F115d 299 rfl).trans ((up_ne _ _ (by decide)).trans ((F115c 299 rfl).trans ((up_ne _ _ (by decide)).trans ((F115b 299 rfl).trans ((up_ne _ _ (by decide)).trans ((F115a 299 rfl).trans ((up_ne _ _ (by decide)).trans ((F89 299 rfl).trans ((F72 299 rfl).trans (F66 299 rfl)))))))))))))]
                  · rw [up_ne _ _ (by decide), F128 300 rfl, up_ne _ _ (by decide), F115d 300 rfl, up_ne _ _ (by decide), F115c 300 rfl, up_ne _ _ (by decide), F115b 300 rfl, up_ne _ _ (by decide), F115a 300 rfl, up_same, ag_fun ((F89 300 rfl).trans ((F72 300 rfl).trans (F66 300 rfl)))]
                  · have w0 : ag σ115a 301 = ag σ 301 := ag_fun ((F115a 301 rfl).trans ((up_ne _ _ (by decide)).trans ((F89 301 rfl).trans ((F72 301 rfl).trans (F66 301 rfl)))))
                    rw [up_ne _ _ (by decide), F128 301 rfl, up_same]
                    apply arr_congr
                    intro i hi
                    rw [← w0]
                    have n1 : ∀ i, i < 40 → ag σ115b 301 i = upd (ag σ115a 301) (20 * s + 4 * nc + 0) (nI (Xv X t89)) i := fun i hi => ag_arr ((F115b 301 rfl).trans (up_same _ _ _)) hi
                    have n2 : ∀ i, i < 40 → ag σ115c 301 i = upd (ag σ115b 301) (20 * s + 4 * nc + 1) (nI (Xv X t115a)) i := fun i hi => ag_arr ((F115c 301 rfl).trans (up_same _ _ _)) hi
                    have n3 : ∀ i, i < 40 → ag σ115d 301 i = upd (ag σ115c 301) (20 * s + 4 * nc + 2) (nI (Xv X t115b)) i := fun i hi => ag_arr ((F115d 301 rfl).trans (up_same _ _ _)) hi
                    have ue : ∀ (f g : Nat → Int32) (m : Nat) (x : Int32), f i = g i → upd f m x i = upd g m x i := fun f g m x h => by unfold upd; split; rfl; exact h
                    exact ue _ _ _ _ ((n3 i hi).trans (ue _ _ _ _ ((n2 i hi).trans (ue _ _ _ _ (n1 i hi)))))
                  · rw [up_ne _ _ (by decide), p128, aq_fun ((up_ne _ _ (by decide)).trans ((F115d 295 rfl).trans ((up_ne _ _ (by decide)).trans ((F115c 295 rfl).trans ((up_ne _ _ (by decide)).trans ((F115b 295 rfl).trans ((up_ne _ _ (by decide)).trans ((F115a 295 rfl).trans ((up_ne _ _ (by decide)).trans ((F89 295 rfl).trans ((F72 295 rfl).trans (F66 295 rfl))))))))))))]
                  · rw [up_ne _ _ (by decide), q128, ag_fun ((up_ne _ _ (by decide)).trans ((F115d 296 rfl).trans ((up_ne _ _ (by decide)).trans ((F115c 296 rfl).trans ((up_ne _ _ (by decide)).trans ((F115b 296 rfl).trans ((up_ne _ _ (by decide)).trans ((F115a 296 rfl).trans ((up_ne _ _ (by decide)).trans ((F89 296 rfl).trans ((F72 296 rfl).trans (F66 296 rfl))))))))))))]
                · skip
                  have hf0_W128 := mf_0 W128
                  have hf9_W128 := mf_9 W128
                  refine wq_go rfl (fun _ => rfl) ?_
                  refine wq_getf rfl (by first | rfl | assumption) (by first | decide | omega | assumption) (mb_o (mf_b W128)) rfl ?_
                  refine wq_top (mf_13 W128 :) ?_
                  refine wq_zne rfl (by first | omega | decide | exact Nat.lt_of_le_of_lt Nat.and_le_right (by decide) | exact ⟨by omega, by omega⟩) (fun c131 => ?_) (fun c => absurd (show _ from by omega) c)
                  refine wq_end rfl (fun _ => rfl) ?_
                  exact K0 f128 t115d bn _ _ (by rw [if_neg (by omega), must_y hk h66, bnd_o, m72, bnd_o, m89, bnd_o, m115a, bnd_o, m115b, bnd_o, m115c, bnd_o, m115d, bnd_o, m128]) W128
              · skip
                skip
                refine wq_iast rfl (by first | rfl | assumption) (by first | decide | omega | assumption) (mb_a (mf_b W115d) (by decide) : IsA σ115d 301 40) rfl (by omega) (by first | decide | omega) ?_
                refine wq_incN rfl rfl rfl ?_
                refine wq_go rfl (fun _ => rfl) ?_
                skip
                refine wq_go rfl (fun _ => rfl) ?_
                refine wq_cN (m := 4) rfl rfl ?_
                refine wq_cge rfl (by first | omega | decide | exact Nat.lt_of_le_of_lt Nat.and_le_right (by decide) | exact ⟨by omega, by omega⟩) (by first | omega | decide | exact Nat.lt_of_le_of_lt Nat.and_le_right (by decide) | exact ⟨by omega, by omega⟩) (fun c95 => ?_) (fun c => absurd (show _ from by omega) c)
                skip
                refine wq_go rfl (fun _ => rfl) ?_
                refine wq_go rfl (fun _ => rfl) ?_
                refine wq_cN (m := 10) rfl rfl ?_
                refine wq_go rfl (fun _ => rfl) ?_
                refine wq_getf rfl (by first | rfl | assumption) (by first | decide | omega | assumption) ((up_ne _ _ (by decide)).trans (mb_o (mf_b W115d))) rfl ?_
                refine wq_go rfl (fun _ => rfl) ?_
                refine wq_getf rfl (by first | rfl | assumption) (by first | decide | omega | assumption) ((up_ne _ _ (by decide)).trans (mb_o (mf_b W115d))) rfl ?_
                refine wq_top (mb_19 (mf_b W115d) :) ?_
                refine wq_iald rfl (by first | rfl | assumption) (by first | decide | omega | assumption) ((up_ne _ _ (by decide)).trans (mb_a (mf_b W115d) (by decide) : IsA σ115d 299 2)) rfl (by omega) (by first | decide | omega) ?_
                refine wq_top ((ag_eq (F115d 299 rfl) s).trans ((ag_eq (up_ne _ _ (by decide)) s).trans ((ag_eq (F115c 299 rfl) s).trans ((ag_eq (up_ne _ _ (by decide)) s).trans ((ag_eq (F115b 299 rfl) s).trans ((ag_eq (up_ne _ _ (by decide)) s).trans ((ag_eq (F115a 299 rfl) s).trans ((ag_eq (up_ne _ _ (by decide)) s).trans ((ag_eq (F89 299 rfl) s).trans ((ag_eq (F72 299 rfl) s).trans ((ag_eq (F66 299 rfl) s).trans hnc))))))))))) ?_
                refine wq_addN rfl ?_
                refine wq_callV rfl rfl (by first | rfl | assumption) (by first | decide | omega | assumption) (Nat.le_of_ble_eq_true rfl) (Nat.le_of_ble_eq_true rfl) rfl rfl ?_
                refine m_ends_e (mrf_a2 W115d rfl (by decide) (by decide) (by decide) (show 20 * s ≤ _ from by omega) (show _ < 20 * s + 20 from by omega)) ?_
                have hf0_W115d := mf_0 W115d
                have hf9_W115d := mf_9 W115d
                refine wq_go rfl (fun _ => rfl) ?_
                refine wq_getf rfl (by first | rfl | assumption) (by first | decide | omega | assumption) ((up_ne _ _ (by decide)).trans (mb_o (mf_b W115d))) rfl ?_
                refine wq_top (mf_13 W115d :) ?_
                refine wq_zne rfl (by first | omega | decide | exact Nat.lt_of_le_of_lt Nat.and_le_right (by decide) | exact ⟨by omega, by omega⟩) (fun c131 => ?_) (fun c => absurd (show _ from by omega) c)
                refine wq_end rfl (fun _ => rfl) ?_
                exact K0 f115d t115c bn _ _ (by rw [if_neg (by omega), must_y hk h66, bnd_o, m72, bnd_o, m89, bnd_o, m115a, bnd_o, m115b, bnd_o, m115c, bnd_o, m115d, bnd_e]) (mrf_a2 W115d rfl (by decide) (by decide) (by decide) (show 20 * s ≤ _ from by omega) (show _ < 20 * s + 20 from by omega))
            · skip
              skip
              refine wq_iast rfl (by first | rfl | assumption) (by first | decide | omega | assumption) (mb_a (mf_b W115c) (by decide) : IsA σ115c 301 40) rfl (by omega) (by first | decide | omega) ?_
              refine wq_incN rfl rfl rfl ?_
              refine wq_go rfl (fun _ => rfl) ?_
              skip
              refine wq_go rfl (fun _ => rfl) ?_
              refine wq_cN (m := 4) rfl rfl ?_
              refine wq_cge rfl (by first | omega | decide | exact Nat.lt_of_le_of_lt Nat.and_le_right (by decide) | exact ⟨by omega, by omega⟩) (by first | omega | decide | exact Nat.lt_of_le_of_lt Nat.and_le_right (by decide) | exact ⟨by omega, by omega⟩) (fun c => absurd c (by omega)) (fun c95 => ?_)
              refine wq_go rfl (fun _ => rfl) ?_
              refine wq_getf rfl (by first | rfl | assumption) (by first | decide | omega | assumption) ((up_ne _ _ (by decide)).trans (mb_o (mf_b W115c))) rfl ?_
              refine wq_cN (m := 20) rfl rfl ?_
              refine wq_go rfl (fun _ => rfl) ?_
              refine wq_getf rfl (by first | rfl | assumption) (by first | decide | omega | assumption) ((up_ne _ _ (by decide)).trans (mb_o (mf_b W115c))) rfl ?_
              refine wq_top (mb_19 (mf_b W115c) :) ?_
              refine wq_mulN rfl ?_
              refine wq_cN (m := 4) rfl rfl ?_
              refine wq_go rfl (fun _ => rfl) ?_
              refine wq_getf rfl (by first | rfl | assumption) (by first | decide | omega | assumption) ((up_ne _ _ (by decide)).trans (mb_o (mf_b W115c))) rfl ?_
              refine wq_go rfl (fun _ => rfl) ?_
              refine wq_getf rfl (by first | rfl | assumption) (by first | decide | omega | assumption) ((up_ne _ _ (by decide)).trans (mb_o (mf_b W115c))) rfl ?_
              refine wq_top (mb_19 (mf_b W115c) :) ?_
              refine wq_iald rfl (by first | rfl | assumption) (by first | decide | omega | assumption) ((up_ne _ _ (by decide)).trans (mb_a (mf_b W115c) (by decide) : IsA σ115c 299 2)) rfl (by omega) (by first | decide | omega) ?_
              refine wq_top ((ag_eq (F115c 299 rfl) s).trans ((ag_eq (up_ne _ _ (by decide)) s).trans ((ag_eq (F115b 299 rfl) s).trans ((ag_eq (up_ne _ _ (by decide)) s).trans ((ag_eq (F115a 299 rfl) s).trans ((ag_eq (up_ne _ _ (by decide)) s).trans ((ag_eq (F89 299 rfl) s).trans ((ag_eq (F72 299 rfl) s).trans ((ag_eq (F66 299 rfl) s).trans hnc))))))))) ?_
              refine wq_mulN rfl ?_
              refine wq_addN rfl ?_
              refine wq_go rfl (fun _ => rfl) ?_
              refine wq_addN rfl ?_
              refine wq_go rfl (fun _ => rfl) ?_
              refine wq_cN (m := 0) rfl rfl ?_
              refine wq_cN (m := 99) rfl rfl ?_
              refine wq_callV rfl rfl (by first | rfl | assumption) (by first | decide | omega | assumption) (Nat.le_of_ble_eq_true rfl) (Nat.le_of_ble_eq_true rfl) rfl rfl ?_
              refine m_bnd_e2 (mrf_a2 W115c rfl (by decide) (by decide) (by decide) (show 20 * s ≤ _ from by omega) (show _ < 20 * s + 20 from by omega)) (fun σ115d F115d W115d => ?_)
              skip
              refine wq_iast rfl (by first | rfl | assumption) (by first | decide | omega | assumption) (mb_a (mf_b W115d) (by decide) : IsA σ115d 301 40) rfl (by omega) (by first | decide | omega) ?_
              refine wq_incN rfl rfl rfl ?_
              refine wq_go rfl (fun _ => rfl) ?_
              skip
              refine wq_go rfl (fun _ => rfl) ?_
              refine wq_cN (m := 4) rfl rfl ?_
              refine wq_cge rfl (by first | omega | decide | exact Nat.lt_of_le_of_lt Nat.and_le_right (by decide) | exact ⟨by omega, by omega⟩) (by first | omega | decide | exact Nat.lt_of_le_of_lt Nat.and_le_right (by decide) | exact ⟨by omega, by omega⟩) (fun c95 => ?_) (fun c => absurd (show _ from by omega) c)
              skip
              refine wq_go rfl (fun _ => rfl) ?_
              refine wq_go rfl (fun _ => rfl) ?_
              refine wq_cN (m := 10) rfl rfl ?_
              refine wq_go rfl (fun _ => rfl) ?_
              refine wq_getf rfl (by first | rfl | assumption) (by first | decide | omega | assumption) ((up_ne _ _ (by decide)).trans (mb_o (mf_b W115d))) rfl ?_
              refine wq_go rfl (fun _ => rfl) ?_
              refine wq_getf rfl (by first | rfl | assumption) (by first | decide | omega | assumption) ((up_ne _ _ (by decide)).trans (mb_o (mf_b W115d))) rfl ?_
              refine wq_top (mb_19 (mf_b W115d) :) ?_
              refine wq_iald rfl (by first | rfl | assumption) (by first | decide | omega | assumption) ((up_ne _ _ (by decide)).trans (mb_a (mf_b W115d) (by decide) : IsA σ115d 299 2)) rfl (by omega) (by first | decide | omega) ?_
              refine wq_top ((ag_eq (F115d 299 rfl) s).trans ((ag_eq (up_ne _ _ (by decide)) s).trans ((ag_eq (F115c 299 rfl) s).trans ((ag_eq (up_ne _ _ (by decide)) s).trans ((ag_eq (F115b 299 rfl) s).trans ((ag_eq (up_ne _ _ (by decide)) s).trans ((ag_eq (F115a 299 rfl) s).trans ((ag_eq (up_ne _ _ (by decide)) s).trans ((ag_eq (F89 299 rfl) s).trans ((ag_eq (F72 299 rfl) s).trans ((ag_eq (F66 299 rfl) s).trans hnc))))))))))) ?_
              refine wq_addN rfl ?_
              refine wq_callV rfl rfl (by first | rfl | assumption) (by first | decide | omega | assumption) (Nat.le_of_ble_eq_true rfl) (Nat.le_of_ble_eq_true rfl) rfl rfl ?_
              refine m_ends_e (mrf_a2 W115d rfl (by decide) (by decide) (by decide) (show 20 * s ≤ _ from by omega) (show _ < 20 * s + 20 from by omega)) ?_
              have hf0_W115d := mf_0 W115d
              have hf9_W115d := mf_9 W115d
              refine wq_go rfl (fun _ => rfl) ?_
              refine wq_getf rfl (by first | rfl | assumption) (by first | decide | omega | assumption) ((up_ne _ _ (by decide)).trans (mb_o (mf_b W115d))) rfl ?_
              refine wq_top (mf_13 W115d :) ?_
              refine wq_zne rfl (by first | omega | decide | exact Nat.lt_of_le_of_lt Nat.and_le_right (by decide) | exact ⟨by omega, by omega⟩) (fun c131 => ?_) (fun c => absurd (show _ from by omega) c)
              refine wq_end rfl (fun _ => rfl) ?_
              exact K0 f115c t115b bn _ _ (by rw [if_neg (by omega), must_y hk h66, bnd_o, m72, bnd_o, m89, bnd_o, m115a, bnd_o, m115b, bnd_o, m115c, bnd_e]) (mrf_a2 W115d rfl (by decide) (by decide) (by decide) (show 20 * s ≤ _ from by omega) (show _ < 20 * s + 20 from by omega))
          · skip
            skip
            refine wq_iast rfl (by first | rfl | assumption) (by first | decide | omega | assumption) (mb_a (mf_b W115b) (by decide) : IsA σ115b 301 40) rfl (by omega) (by first | decide | omega) ?_
            refine wq_incN rfl rfl rfl ?_
            refine wq_go rfl (fun _ => rfl) ?_
            skip
            refine wq_go rfl (fun _ => rfl) ?_
            refine wq_cN (m := 4) rfl rfl ?_
            refine wq_cge rfl (by first | omega | decide | exact Nat.lt_of_le_of_lt Nat.and_le_right (by decide) | exact ⟨by omega, by omega⟩) (by first | omega | decide | exact Nat.lt_of_le_of_lt Nat.and_le_right (by decide) | exact ⟨by omega, by omega⟩) (fun c => absurd c (by omega)) (fun c95 => ?_)
            refine wq_go rfl (fun _ => rfl) ?_
            refine wq_getf rfl (by first | rfl | assumption) (by first | decide | omega | assumption) ((up_ne _ _ (by decide)).trans (mb_o (mf_b W115b))) rfl ?_
            refine wq_cN (m := 20) rfl rfl ?_
            refine wq_go rfl (fun _ => rfl) ?_
            refine wq_getf rfl (by first | rfl | assumption) (by first | decide | omega | assumption) ((up_ne _ _ (by decide)).trans (mb_o (mf_b W115b))) rfl ?_
            refine wq_top (mb_19 (mf_b W115b) :) ?_
            refine wq_mulN rfl ?_
            refine wq_cN (m := 4) rfl rfl ?_
            refine wq_go rfl (fun _ => rfl) ?_
            refine wq_getf rfl (by first | rfl | assumption) (by first | decide | omega | assumption) ((up_ne _ _ (by decide)).trans (mb_o (mf_b W115b))) rfl ?_
            refine wq_go rfl (fun _ => rfl) ?_
            refine wq_getf rfl (by first | rfl | assumption) (by first | decide | omega | assumption) ((up_ne _ _ (by decide)).trans (mb_o (mf_b W115b))) rfl ?_
            refine wq_top (mb_19 (mf_b W115b) :) ?_
            refine wq_iald rfl (by first | rfl | assumption) (by first | decide | omega | assumption) ((up_ne _ _ (by decide)).trans (mb_a (mf_b W115b) (by decide) : IsA σ115b 299 2)) rfl (by omega) (by first | decide | omega) ?_
            refine wq_top ((ag_eq (F115b 299 rfl) s).trans ((ag_eq (up_ne _ _ (by decide)) s).trans ((ag_eq (F115a 299 rfl) s).trans ((ag_eq (up_ne _ _ (by decide)) s).trans ((ag_eq (F89 299 rfl) s).trans ((ag_eq (F72 299 rfl) s).trans ((ag_eq (F66 299 rfl) s).trans hnc))))))) ?_
            refine wq_mulN rfl ?_
            refine wq_addN rfl ?_
            refine wq_go rfl (fun _ => rfl) ?_
            refine wq_addN rfl ?_
            refine wq_go rfl (fun _ => rfl) ?_
            refine wq_cN (m := 0) rfl rfl ?_
            refine wq_cN (m := 99) rfl rfl ?_
            refine wq_callV rfl rfl (by first | rfl | assumption) (by first | decide | omega | assumption) (Nat.le_of_ble_eq_true rfl) (Nat.le_of_ble_eq_true rfl) rfl rfl ?_
            refine m_bnd_e2 (mrf_a2 W115b rfl (by decide) (by decide) (by decide) (show 20 * s ≤ _ from by omega) (show _ < 20 * s + 20 from by omega)) (fun σ115c F115c W115c => ?_)
            skip
            refine wq_iast rfl (by first | rfl | assumption) (by first | decide | omega | assumption) (mb_a (mf_b W115c) (by decide) : IsA σ115c 301 40) rfl (by omega) (by first | decide | omega) ?_
            refine wq_incN rfl rfl rfl ?_
            refine wq_go rfl (fun _ => rfl) ?_
            skip
            refine wq_go rfl (fun _ => rfl) ?_
            refine wq_cN (m := 4) rfl rfl ?_
            refine wq_cge rfl (by first | omega | decide | exact Nat.lt_of_le_of_lt Nat.and_le_right (by decide) | exact ⟨by omega, by omega⟩) (by first | omega | decide | exact Nat.lt_of_le_of_lt Nat.and_le_right (by decide) | exact ⟨by omega, by omega⟩) (fun c => absurd c (by omega)) (fun c95 => ?_)
            refine wq_go rfl (fun _ => rfl) ?_
            refine wq_getf rfl (by first | rfl | assumption) (by first | decide | omega | assumption) ((up_ne _ _ (by decide)).trans (mb_o (mf_b W115c))) rfl ?_
            refine wq_cN (m := 20) rfl rfl ?_
            refine wq_go rfl (fun _ => rfl) ?_
            refine wq_getf rfl (by first | rfl | assumption) (by first | decide | omega | assumption) ((up_ne _ _ (by decide)).trans (mb_o (mf_b W115c))) rfl ?_
            refine wq_top (mb_19 (mf_b W115c) :) ?_
            refine wq_mulN rfl ?_
            refine wq_cN (m := 4) rfl rfl ?_
            refine wq_go rfl (fun _ => rfl) ?_
            refine wq_getf rfl (by first | rfl | assumption) (by first | decide | omega | assumption) ((up_ne _ _ (by decide)).trans (mb_o (mf_b W115c))) rfl ?_
            refine wq_go rfl (fun _ => rfl) ?_
            refine wq_getf rfl (by first | rfl | assumption) (by first | decide | omega | assumption) ((up_ne _ _ (by decide)).trans (mb_o (mf_b W115c))) rfl ?_
            refine wq_top (mb_19 (mf_b W115c) :) ?_
            refine wq_iald rfl (by first | rfl | assumption) (by first | decide | omega | assumption) ((up_ne _ _ (by decide)).trans (mb_a (mf_b W115c) (by decide) : IsA σ115c 299 2)) rfl (by omega) (by first | decide | omega) ?_
            refine wq_top ((ag_eq (F115c 299 rfl) s).trans ((ag_eq (up_ne _ _ (by decide)) s).trans ((ag_eq (F115b 299 rfl) s).trans ((ag_eq (up_ne _ _ (by decide)) s).trans ((ag_eq (F115a 299 rfl) s).trans ((ag_eq (up_ne _ _ (by decide)) s).trans ((ag_eq (F89 299 rfl) s).trans ((ag_eq (F72 299 rfl) s).trans ((ag_eq (F66 299 rfl) s).trans hnc))))))))) ?_
            refine wq_mulN rfl ?_
            refine wq_addN rfl ?_
            refine wq_go rfl (fun _ => rfl) ?_
            refine wq_addN rfl ?_
            refine wq_go rfl (fun _ => rfl) ?_
            refine wq_cN (m := 0) rfl rfl ?_
            refine wq_cN (m := 99) rfl rfl ?_
            refine wq_callV rfl rfl (by first | rfl | assumption) (by first | decide | omega | assumption) (Nat.le_of_ble_eq_true rfl) (Nat.le_of_ble_eq_true rfl) rfl rfl ?_
            refine m_bnd_e2 (mrf_a2 W115c rfl (by decide) (by decide) (by decide) (show 20 * s ≤ _ from by omega) (show _ < 20 * s + 20 from by omega)) (fun σ115d F115d W115d => ?_)
            skip
            refine wq_iast rfl (by first | rfl | assumption) (by first | decide | omega | assumption) (mb_a (mf_b W115d) (by decide) : IsA σ115d 301 40) rfl (by omega) (by first | decide | omega) ?_
            refine wq_incN rfl rfl rfl ?_
            refine wq_go rfl (fun _ => rfl) ?_
            skip
            refine wq_go rfl (fun _ => rfl) ?_
            refine wq_cN (m := 4) rfl rfl ?_
            refine wq_cge rfl (by first | omega | decide | exact Nat.lt_of_le_of_lt Nat.and_le_right (by decide) | exact ⟨by omega, by omega⟩) (by first | omega | decide | exact Nat.lt_of_le_of_lt Nat.and_le_right (by decide) | exact ⟨by omega, by omega⟩) (fun c95 => ?_) (fun c => absurd (show _ from by omega) c)
            skip
            refine wq_go rfl (fun _ => rfl) ?_
            refine wq_go rfl (fun _ => rfl) ?_
            refine wq_cN (m := 10) rfl rfl ?_
            refine wq_go rfl (fun _ => rfl) ?_
            refine wq_getf rfl (by first | rfl | assumption) (by first | decide | omega | assumption) ((up_ne _ _ (by decide)).trans (mb_o (mf_b W115d))) rfl ?_
            refine wq_go rfl (fun _ => rfl) ?_
            refine wq_getf rfl (by first | rfl | assumption) (by first | decide | omega | assumption) ((up_ne _ _ (by decide)).trans (mb_o (mf_b W115d))) rfl ?_
            refine wq_top (mb_19 (mf_b W115d) :) ?_
            refine wq_iald rfl (by first | rfl | assumption) (by first | decide | omega | assumption) ((up_ne _ _ (by decide)).trans (mb_a (mf_b W115d) (by decide) : IsA σ115d 299 2)) rfl (by omega) (by first | decide | omega) ?_
            refine wq_top ((ag_eq (F115d 299 rfl) s).trans ((ag_eq (up_ne _ _ (by decide)) s).trans ((ag_eq (F115c 299 rfl) s).trans ((ag_eq (up_ne _ _ (by decide)) s).trans ((ag_eq (F115b 299 rfl) s).trans ((ag_eq (up_ne _ _ (by decide)) s).trans ((ag_eq (F115a 299 rfl) s).trans ((ag_eq (up_ne _ _ (by decide)) s).trans ((ag_eq (F89 299 rfl) s).trans ((ag_eq (F72 299 rfl) s).trans ((ag_eq (F66 299 rfl) s).trans hnc))))))))))) ?_
            refine wq_addN rfl ?_
            refine wq_callV rfl rfl (by first | rfl | assumption) (by first | decide | omega | assumption) (Nat.le_of_ble_eq_true rfl) (Nat.le_of_ble_eq_true rfl) rfl rfl ?_
            refine m_ends_e (mrf_a2 W115d rfl (by decide) (by decide) (by decide) (show 20 * s ≤ _ from by omega) (show _ < 20 * s + 20 from by omega)) ?_
            have hf0_W115d := mf_0 W115d
            have hf9_W115d := mf_9 W115d
            refine wq_go rfl (fun _ => rfl) ?_
            refine wq_getf rfl (by first | rfl | assumption) (by first | decide | omega | assumption) ((up_ne _ _ (by decide)).trans (mb_o (mf_b W115d))) rfl ?_
            refine wq_top (mf_13 W115d :) ?_
            refine wq_zne rfl (by first | omega | decide | exact Nat.lt_of_le_of_lt Nat.and_le_right (by decide) | exact ⟨by omega, by omega⟩) (fun c131 => ?_) (fun c => absurd (show _ from by omega) c)
            refine wq_end rfl (fun _ => rfl) ?_
            exact K0 f115b t115a bn _ _ (by rw [if_neg (by omega), must_y hk h66, bnd_o, m72, bnd_o, m89, bnd_o, m115a, bnd_o, m115b, bnd_e]) (mrf_a2 W115d rfl (by decide) (by decide) (by decide) (show 20 * s ≤ _ from by omega) (show _ < 20 * s + 20 from by omega))
        · skip
          skip
          refine wq_iast rfl (by first | rfl | assumption) (by first | decide | omega | assumption) (mb_a (mf_b W115a) (by decide) : IsA σ115a 301 40) rfl (by omega) (by first | decide | omega) ?_
          refine wq_incN rfl rfl rfl ?_
          refine wq_go rfl (fun _ => rfl) ?_
          skip
          refine wq_go rfl (fun _ => rfl) ?_
          refine wq_cN (m := 4) rfl rfl ?_
          refine wq_cge rfl (by first | omega | decide | exact Nat.lt_of_le_of_lt Nat.and_le_right (by decide) | exact ⟨by omega, by omega⟩) (by first | omega | decide | exact Nat.lt_of_le_of_lt Nat.and_le_right (by decide) | exact ⟨by omega, by omega⟩) (fun c => absurd c (by omega)) (fun c95 => ?_)
          refine wq_go rfl (fun _ => rfl) ?_
          refine wq_getf rfl (by first | rfl | assumption) (by first | decide | omega | assumption) ((up_ne _ _ (by decide)).trans (mb_o (mf_b W115a))) rfl ?_
          refine wq_cN (m := 20) rfl rfl ?_
          refine wq_go rfl (fun _ => rfl) ?_
          refine wq_getf rfl (by first | rfl | assumption) (by first | decide | omega | assumption) ((up_ne _ _ (by decide)).trans (mb_o (mf_b W115a))) rfl ?_
          refine wq_top (mb_19 (mf_b W115a) :) ?_
          refine wq_mulN rfl ?_
          refine wq_cN (m := 4) rfl rfl ?_
          refine wq_go rfl (fun _ => rfl) ?_
          refine wq_getf rfl (by first | rfl | assumption) (by first | decide | omega | assumption) ((up_ne _ _ (by decide)).trans (mb_o (mf_b W115a))) rfl ?_
          refine wq_go rfl (fun _ => rfl) ?_
          refine wq_getf rfl (by first | rfl | assumption) (by first | decide | omega | assumption) ((up_ne _ _ (by decide)).trans (mb_o (mf_b W115a))) rfl ?_
          refine wq_top (mb_19 (mf_b W115a) :) ?_
          refine wq_iald rfl (by first | rfl | assumption) (by first | decide | omega | assumption) ((up_ne _ _ (by decide)).trans (mb_a (mf_b W115a) (by decide) : IsA σ115a 299 2)) rfl (by omega) (by first | decide | omega) ?_
          refine wq_top ((ag_eq (F115a 299 rfl) s).trans ((ag_eq (up_ne _ _ (by decide)) s).trans ((ag_eq (F89 299 rfl) s).trans ((ag_eq (F72 299 rfl) s).trans ((ag_eq (F66 299 rfl) s).trans hnc))))) ?_
          refine wq_mulN rfl ?_
          refine wq_addN rfl ?_
          refine wq_go rfl (fun _ => rfl) ?_
          refine wq_addN rfl ?_
          refine wq_go rfl (fun _ => rfl) ?_
          refine wq_cN (m := 0) rfl rfl ?_
          refine wq_cN (m := 99) rfl rfl ?_
          refine wq_callV rfl rfl (by first | rfl | assumption) (by first | decide | omega | assumption) (Nat.le_of_ble_eq_true rfl) (Nat.le_of_ble_eq_true rfl) rfl rfl ?_
          refine m_bnd_e2 (mrf_a2 W115a rfl (by decide) (by decide) (by decide) (show 20 * s ≤ _ from by omega) (show _ < 20 * s + 20 from by omega)) (fun σ115b F115b W115b => ?_)
          skip
          refine wq_iast rfl (by first | rfl | assumption) (by first | decide | omega | assumption) (mb_a (mf_b W115b) (by decide) : IsA σ115b 301 40) rfl (by omega) (by first | decide | omega) ?_
          refine wq_incN rfl rfl rfl ?_
          refine wq_go rfl (fun _ => rfl) ?_
          skip
          refine wq_go rfl (fun _ => rfl) ?_
          refine wq_cN (m := 4) rfl rfl ?_
          refine wq_cge rfl (by first | omega | decide | exact Nat.lt_of_le_of_lt Nat.and_le_right (by decide) | exact ⟨by omega, by omega⟩) (by first | omega | decide | exact Nat.lt_of_le_of_lt Nat.and_le_right (by decide) | exact ⟨by omega, by omega⟩) (fun c => absurd c (by omega)) (fun c95 => ?_)
          refine wq_go rfl (fun _ => rfl) ?_
          refine wq_getf rfl (by first | rfl | assumption) (by first | decide | omega | assumption) ((up_ne _ _ (by decide)).trans (mb_o (mf_b W115b))) rfl ?_
          refine wq_cN (m := 20) rfl rfl ?_
          refine wq_go rfl (fun _ => rfl) ?_
          refine wq_getf rfl (by first | rfl | assumption) (by first | decide | omega | assumption) ((up_ne _ _ (by decide)).trans (mb_o (mf_b W115b))) rfl ?_
          refine wq_top (mb_19 (mf_b W115b) :) ?_
          refine wq_mulN rfl ?_
          refine wq_cN (m := 4) rfl rfl ?_
          refine wq_go rfl (fun _ => rfl) ?_
          refine wq_getf rfl (by first | rfl | assumption) (by first | decide | omega | assumption) ((up_ne _ _ (by decide)).trans (mb_o (mf_b W115b))) rfl ?_
          refine wq_go rfl (fun _ => rfl) ?_
          refine wq_getf rfl (by first | rfl | assumption) (by first | decide | omega | assumption) ((up_ne _ _ (by decide)).trans (mb_o (mf_b W115b))) rfl ?_
          refine wq_top (mb_19 (mf_b W115b) :) ?_
          refine wq_iald rfl (by first | rfl | assumption) (by first | decide | omega | assumption) ((up_ne _ _ (by decide)).trans (mb_a (mf_b W115b) (by decide) : IsA σ115b 299 2)) rfl (by omega) (by first | decide | omega) ?_
          refine wq_top ((ag_eq (F115b 299 rfl) s).trans ((ag_eq (up_ne _ _ (by decide)) s).trans ((ag_eq (F115a 299 rfl) s).trans ((ag_eq (up_ne _ _ (by decide)) s).trans ((ag_eq (F89 299 rfl) s).trans ((ag_eq (F72 299 rfl) s).trans ((ag_eq (F66 299 rfl) s).trans hnc))))))) ?_
          refine wq_mulN rfl ?_
          refine wq_addN rfl ?_
          refine wq_go rfl (fun _ => rfl) ?_
          refine wq_addN rfl ?_
          refine wq_go rfl (fun _ => rfl) ?_
          refine wq_cN (m := 0) rfl rfl ?_
          refine wq_cN (m := 99) rfl rfl ?_
          refine wq_callV rfl rfl (by first | rfl | assumption) (by first | decide | omega | assumption) (Nat.le_of_ble_eq_true rfl) (Nat.le_of_ble_eq_true rfl) rfl rfl ?_
          refine m_bnd_e2 (mrf_a2 W115b rfl (by decide) (by decide) (by decide) (show 20 * s ≤ _ from by omega) (show _ < 20 * s + 20 from by omega)) (fun σ115c F115c W115c => ?_)
          skip
          refine wq_iast rfl (by first | rfl | assumption) (by first | decide | omega | assumption) (mb_a (mf_b W115c) (by decide) : IsA σ115c 301 40) rfl (by omega) (by first | decide | omega) ?_
          refine wq_incN rfl rfl rfl ?_
          refine wq_go rfl (fun _ => rfl) ?_
          skip
          refine wq_go rfl (fun _ => rfl) ?_
          refine wq_cN (m := 4) rfl rfl ?_
          refine wq_cge rfl (by first | omega | decide | exact Nat.lt_of_le_of_lt Nat.and_le_right (by decide) | exact ⟨by omega, by omega⟩) (by first | omega | decide | exact Nat.lt_of_le_of_lt Nat.and_le_right (by decide) | exact ⟨by omega, by omega⟩) (fun c => absurd c (by omega)) (fun c95 => ?_)
          refine wq_go rfl (fun _ => rfl) ?_
          refine wq_getf rfl (by first | rfl | assumption) (by first | decide | omega | assumption) ((up_ne _ _ (by decide)).trans (mb_o (mf_b W115c))) rfl ?_
          refine wq_cN (m := 20) rfl rfl ?_
          refine wq_go rfl (fun _ => rfl) ?_
          refine wq_getf rfl (by first | rfl | assumption) (by first | decide | omega | assumption) ((up_ne _ _ (by decide)).trans (mb_o (mf_b W115c))) rfl ?_
          refine wq_top (mb_19 (mf_b W115c) :) ?_
          refine wq_mulN rfl ?_
          refine wq_cN (m := 4) rfl rfl ?_
          refine wq_go rfl (fun _ => rfl) ?_
          refine wq_getf rfl (by first | rfl | assumption) (by first | decide | omega | assumption) ((up_ne _ _ (by decide)).trans (mb_o (mf_b W115c))) rfl ?_
          refine wq_go rfl (fun _ => rfl) ?_
          refine wq_getf rfl (by first | rfl | assumption) (by first | decide | omega | assumption) ((up_ne _ _ (by decide)).trans (mb_o (mf_b W115c))) rfl ?_
          refine wq_top (mb_19 (mf_b W115c) :) ?_
          refine wq_iald rfl (by first | rfl | assumption) (by first | decide | omega | assumption) ((up_ne _ _ (by decide)).trans (mb_a (mf_b W115c) (by decide) : IsA σ115c 299 2)) rfl (by omega) (by first | decide | omega) ?_
          refine wq_top ((ag_eq (F115c 299 rfl) s).trans ((ag_eq (up_ne _ _ (by decide)) s).trans ((ag_eq (F115b 299 rfl) s).trans ((ag_eq (up_ne _ _ (by decide)) s).trans ((ag_eq (F115a 299 rfl) s).trans ((ag_eq (up_ne _ _ (by decide)) s).trans ((ag_eq (F89 299 rfl) s).trans ((ag_eq (F72 299 rfl) s).trans ((ag_eq (F66 299 rfl) s).trans hnc))))))))) ?_
          refine wq_mulN rfl ?_
          refine wq_addN rfl ?_
          refine wq_go rfl (fun _ => rfl) ?_
          refine wq_addN rfl ?_
          refine wq_go rfl (fun _ => rfl) ?_
          refine wq_cN (m := 0) rfl rfl ?_
          refine wq_cN (m := 99) rfl rfl ?_
          refine wq_callV rfl rfl (by first | rfl | assumption) (by first | decide | omega | assumption) (Nat.le_of_ble_eq_true rfl) (Nat.le_of_ble_eq_true rfl) rfl rfl ?_
          refine m_bnd_e2 (mrf_a2 W115c rfl (by decide) (by decide) (by decide) (show 20 * s ≤ _ from by omega) (show _ < 20 * s + 20 from by omega)) (fun σ115d F115d W115d => ?_)
          skip
          refine wq_iast rfl (by first | rfl | assumption) (by first | decide | omega | assumption) (mb_a (mf_b W115d) (by decide) : IsA σ115d 301 40) rfl (by omega) (by first | decide | omega) ?_
          refine wq_incN rfl rfl rfl ?_
          refine wq_go rfl (fun _ => rfl) ?_
          skip
          refine wq_go rfl (fun _ => rfl) ?_
          refine wq_cN (m := 4) rfl rfl ?_
          refine wq_cge rfl (by first | omega | decide | exact Nat.lt_of_le_of_lt Nat.and_le_right (by decide) | exact ⟨by omega, by omega⟩) (by first | omega | decide | exact Nat.lt_of_le_of_lt Nat.and_le_right (by decide) | exact ⟨by omega, by omega⟩) (fun c95 => ?_) (fun c => absurd (show _ from by omega) c)
          skip
          refine wq_go rfl (fun _ => rfl) ?_
          refine wq_go rfl (fun _ => rfl) ?_
          refine wq_cN (m := 10) rfl rfl ?_
          refine wq_go rfl (fun _ => rfl) ?_
          refine wq_getf rfl (by first | rfl | assumption) (by first | decide | omega | assumption) ((up_ne _ _ (by decide)).trans (mb_o (mf_b W115d))) rfl ?_
          refine wq_go rfl (fun _ => rfl) ?_
          refine wq_getf rfl (by first | rfl | assumption) (by first | decide | omega | assumption) ((up_ne _ _ (by decide)).trans (mb_o (mf_b W115d))) rfl ?_
          refine wq_top (mb_19 (mf_b W115d) :) ?_
          refine wq_iald rfl (by first | rfl | assumption) (by first | decide | omega | assumption) ((up_ne _ _ (by decide)).trans (mb_a (mf_b W115d) (by decide) : IsA σ115d 299 2)) rfl (by omega) (by first | decide | omega) ?_
          refine wq_top ((ag_eq (F115d 299 rfl) s).trans ((ag_eq (up_ne _ _ (by decide)) s).trans ((ag_eq (F115c 299 rfl) s).trans ((ag_eq (up_ne _ _ (by decide)) s).trans ((ag_eq (F115b 299 rfl) s).trans ((ag_eq (up_ne _ _ (by decide)) s).trans ((ag_eq (F115a 299 rfl) s).trans ((ag_eq (up_ne _ _ (by decide)) s).trans ((ag_eq (F89 299 rfl) s).trans ((ag_eq (F72 299 rfl) s).trans ((ag_eq (F66 299 rfl) s).trans hnc))))))))))) ?_
          refine wq_addN rfl ?_
          refine wq_callV rfl rfl (by first | rfl | assumption) (by first | decide | omega | assumption) (Nat.le_of_ble_eq_true rfl) (Nat.le_of_ble_eq_true rfl) rfl rfl ?_
          refine m_ends_e (mrf_a2 W115d rfl (by decide) (by decide) (by decide) (show 20 * s ≤ _ from by omega) (show _ < 20 * s + 20 from by omega)) ?_
          have hf0_W115d := mf_0 W115d
          have hf9_W115d := mf_9 W115d
          refine wq_go rfl (fun _ => rfl) ?_
          refine wq_getf rfl (by first | rfl | assumption) (by first | decide | omega | assumption) ((up_ne _ _ (by decide)).trans (mb_o (mf_b W115d))) rfl ?_
          refine wq_top (mf_13 W115d :) ?_
          refine wq_zne rfl (by first | omega | decide | exact Nat.lt_of_le_of_lt Nat.and_le_right (by decide) | exact ⟨by omega, by omega⟩) (fun c131 => ?_) (fun c => absurd (show _ from by omega) c)
          refine wq_end rfl (fun _ => rfl) ?_
          exact K0 f115a t89 bn _ _ (by rw [if_neg (by omega), must_y hk h66, bnd_o, m72, bnd_o, m89, bnd_o, m115a, bnd_e]) (mrf_a2 W115d rfl (by decide) (by decide) (by decide) (show 20 * s ≤ _ from by omega) (show _ < 20 * s + 20 from by omega))
      · skip
        skip
        refine wq_iast rfl (by first | rfl | assumption) (by first | decide | omega | assumption) (mb_a (mf_b W89) (by decide) : IsA σ89 300 10) rfl (by omega) (by first | decide | omega) ?_
        refine wq_cN (m := 0) rfl rfl ?_
        refine wq_go rfl (fun _ => rfl) ?_
        skip
        refine wq_go rfl (fun _ => rfl) ?_
        refine wq_cN (m := 4) rfl rfl ?_
        refine wq_cge rfl (by first | omega | decide | exact Nat.lt_of_le_of_lt Nat.and_le_right (by decide) | exact ⟨by omega, by omega⟩) (by first | omega | decide | exact Nat.lt_of_le_of_lt Nat.and_le_right (by decide) | exact ⟨by omega, by omega⟩) (fun c => absurd c (by omega)) (fun c95 => ?_)
        refine wq_go rfl (fun _ => rfl) ?_
        refine wq_getf rfl (by first | rfl | assumption) (by first | decide | omega | assumption) ((up_ne _ _ (by decide)).trans (mb_o (mf_b W89))) rfl ?_
        refine wq_cN (m := 20) rfl rfl ?_
        refine wq_go rfl (fun _ => rfl) ?_
        refine wq_getf rfl (by first | rfl | assumption) (by first | decide | omega | assumption) ((up_ne _ _ (by decide)).trans (mb_o (mf_b W89))) rfl ?_
        refine wq_top (mb_19 (mf_b W89) :) ?_
        refine wq_mulN rfl ?_
        refine wq_cN (m := 4) rfl rfl ?_
        refine wq_go rfl (fun _ => rfl) ?_
        refine wq_getf rfl (by first | rfl | assumption) (by first | decide | omega | assumption) ((up_ne _ _ (by decide)).trans (mb_o (mf_b W89))) rfl ?_
        refine wq_go rfl (fun _ => rfl) ?_
        refine wq_getf rfl (by first | rfl | assumption) (by first | decide | omega | assumption) ((up_ne _ _ (by decide)).trans (mb_o (mf_b W89))) rfl ?_
        refine wq_top (mb_19 (mf_b W89) :) ?_
        refine wq_iald rfl (by first | rfl | assumption) (by first | decide | omega | assumption) ((up_ne _ _ (by decide)).trans (mb_a (mf_b W89) (by decide) : IsA σ89 299 2)) rfl (by omega) (by first | decide | omega) ?_
        refine wq_top ((ag_eq (F89 299 rfl) s).trans ((ag_eq (F72 299 rfl) s).trans ((ag_eq (F66 299 rfl) s).trans hnc))) ?_
        refine wq_mulN rfl ?_
        refine wq_addN rfl ?_
        refine wq_go rfl (fun _ => rfl) ?_
        refine wq_addN rfl ?_
        refine wq_go rfl (fun _ => rfl) ?_
        refine wq_cN (m := 0) rfl rfl ?_
        refine wq_cN (m := 99) rfl rfl ?_
        refine wq_callV rfl rfl (by first | rfl | assumption) (by first | decide | omega | assumption) (Nat.le_of_ble_eq_true rfl) (Nat.le_of_ble_eq_true rfl) rfl rfl ?_
        refine m_bnd_e2 (mrf_a2 W89 rfl (by decide) (by decide) (by decide) (show 5 * s ≤ _ from by omega) (show _ < 5 * s + 5 from by omega)) (fun σ115a F115a W115a => ?_)
        skip
        refine wq_iast rfl (by first | rfl | assumption) (by first | decide | omega | assumption) (mb_a (mf_b W115a) (by decide) : IsA σ115a 301 40) rfl (by omega) (by first | decide | omega) ?_
        refine wq_incN rfl rfl rfl ?_
        refine wq_go rfl (fun _ => rfl) ?_
        skip
        refine wq_go rfl (fun _ => rfl) ?_
        refine wq_cN (m := 4) rfl rfl ?_
        refine wq_cge rfl (by first | omega | decide | exact Nat.lt_of_le_of_lt Nat.and_le_right (by decide) | exact ⟨by omega, by omega⟩) (by first | omega | decide | exact Nat.lt_of_le_of_lt Nat.and_le_right (by decide) | exact ⟨by omega, by omega⟩) (fun c => absurd c (by omega)) (fun c95 => ?_)
        refine wq_go rfl (fun _ => rfl) ?_
        refine wq_getf rfl (by first | rfl | assumption) (by first | decide | omega | assumption) ((up_ne _ _ (by decide)).trans (mb_o (mf_b W115a))) rfl ?_
        refine wq_cN (m := 20) rfl rfl ?_
        refine wq_go rfl (fun _ => rfl) ?_
        refine wq_getf rfl (by first | rfl | assumption) (by first | decide | omega | assumption) ((up_ne _ _ (by decide)).trans (mb_o (mf_b W115a))) rfl ?_
        refine wq_top (mb_19 (mf_b W115a) :) ?_
        refine wq_mulN rfl ?_
        refine wq_cN (m := 4) rfl rfl ?_
        refine wq_go rfl (fun _ => rfl) ?_
        refine wq_getf rfl (by first | rfl | assumption) (by first | decide | omega | assumption) ((up_ne _ _ (by decide)).trans (mb_o (mf_b W115a))) rfl ?_
        refine wq_go rfl (fun _ => rfl) ?_
        refine wq_getf rfl (by first | rfl | assumption) (by first | decide | omega | assumption) ((up_ne _ _ (by decide)).trans (mb_o (mf_b W115a))) rfl ?_
        refine wq_top (mb_19 (mf_b W115a) :) ?_
        refine wq_iald rfl (by first | rfl | assumption) (by first | decide | omega | assumption) ((up_ne _ _ (by decide)).trans (mb_a (mf_b W115a) (by decide) : IsA σ115a 299 2)) rfl (by omega) (by first | decide | omega) ?_
        refine wq_top ((ag_eq (F115a 299 rfl) s).trans ((ag_eq (up_ne _ _ (by decide)) s).trans ((ag_eq (F89 299 rfl) s).trans ((ag_eq (F72 299 rfl) s).trans ((ag_eq (F66 299 rfl) s).trans hnc))))) ?_
        refine wq_mulN rfl ?_
        refine wq_addN rfl ?_
        refine wq_go rfl (fun _ => rfl) ?_
        refine wq_addN rfl ?_
        refine wq_go rfl (fun _ => rfl) ?_
        refine wq_cN (m := 0) rfl rfl ?_
        refine wq_cN (m := 99) rfl rfl ?_
        refine wq_callV rfl rfl (by first | rfl | assumption) (by first | decide | omega | assumption) (Nat.le_of_ble_eq_true rfl) (Nat.le_of_ble_eq_true rfl) rfl rfl ?_
        refine m_bnd_e2 (mrf_a2 W115a rfl (by decide) (by decide) (by decide) (show 20 * s ≤ _ from by omega) (show _ < 20 * s + 20 from by omega)) (fun σ115b F115b W115b => ?_)
        skip
        refine wq_iast rfl (by first | rfl | assumption) (by first | decide | omega | assumption) (mb_a (mf_b W115b) (by decide) : IsA σ115b 301 40) rfl (by omega) (by first | decide | omega) ?_
        refine wq_incN rfl rfl rfl ?_
        refine wq_go rfl (fun _ => rfl) ?_
        skip
        refine wq_go rfl (fun _ => rfl) ?_
        refine wq_cN (m := 4) rfl rfl ?_
        refine wq_cge rfl (by first | omega | decide | exact Nat.lt_of_le_of_lt Nat.and_le_right (by decide) | exact ⟨by omega, by omega⟩) (by first | omega | decide | exact Nat.lt_of_le_of_lt Nat.and_le_right (by decide) | exact ⟨by omega, by omega⟩) (fun c => absurd c (by omega)) (fun c95 => ?_)
        refine wq_go rfl (fun _ => rfl) ?_
        refine wq_getf rfl (by first | rfl | assumption) (by first | decide | omega | assumption) ((up_ne _ _ (by decide)).trans (mb_o (mf_b W115b))) rfl ?_
        refine wq_cN (m := 20) rfl rfl ?_
        refine wq_go rfl (fun _ => rfl) ?_
        refine wq_getf rfl (by first | rfl | assumption) (by first | decide | omega | assumption) ((up_ne _ _ (by decide)).trans (mb_o (mf_b W115b))) rfl ?_
        refine wq_top (mb_19 (mf_b W115b) :) ?_
        refine wq_mulN rfl ?_
        refine wq_cN (m := 4) rfl rfl ?_
        refine wq_go rfl (fun _ => rfl) ?_
        refine wq_getf rfl (by first | rfl | assumption) (by first | decide | omega | assumption) ((up_ne _ _ (by decide)).trans (mb_o (mf_b W115b))) rfl ?_
        refine wq_go rfl (fun _ => rfl) ?_
        refine wq_getf rfl (by first | rfl | assumption) (by first | decide | omega | assumption) ((up_ne _ _ (by decide)).trans (mb_o (mf_b W115b))) rfl ?_
        refine wq_top (mb_19 (mf_b W115b) :) ?_
        refine wq_iald rfl (by first | rfl | assumption) (by first | decide | omega | assumption) ((up_ne _ _ (by decide)).trans (mb_a (mf_b W115b) (by decide) : IsA σ115b 299 2)) rfl (by omega) (by first | decide | omega) ?_
        refine wq_top ((ag_eq (F115b 299 rfl) s).trans ((ag_eq (up_ne _ _ (by decide)) s).trans ((ag_eq (F115a 299 rfl) s).trans ((ag_eq (up_ne _ _ (by decide)) s).trans ((ag_eq (F89 299 rfl) s).trans ((ag_eq (F72 299 rfl) s).trans ((ag_eq (F66 299 rfl) s).trans hnc))))))) ?_
        refine wq_mulN rfl ?_
        refine wq_addN rfl ?_
        refine wq_go rfl (fun _ => rfl) ?_
        refine wq_addN rfl ?_
        refine wq_go rfl (fun _ => rfl) ?_
        refine wq_cN (m := 0) rfl rfl ?_
        refine wq_cN (m := 99) rfl rfl ?_
        refine wq_callV rfl rfl (by first | rfl | assumption) (by first | decide | omega | assumption) (Nat.le_of_ble_eq_true rfl) (Nat.le_of_ble_eq_true rfl) rfl rfl ?_
        refine m_bnd_e2 (mrf_a2 W115b rfl (by decide) (by decide) (by decide) (show 20 * s ≤ _ from by omega) (show _ < 20 * s + 20 from by omega)) (fun σ115c F115c W115c => ?_)
        skip
        refine wq_iast rfl (by first | rfl | assumption) (by first | decide | omega | assumption) (mb_a (mf_b W115c) (by decide) : IsA σ115c 301 40) rfl (by omega) (by first | decide | omega) ?_
        refine wq_incN rfl rfl rfl ?_
        refine wq_go rfl (fun _ => rfl) ?_
        skip
        refine wq_go rfl (fun _ => rfl) ?_
        refine wq_cN (m := 4) rfl rfl ?_
        refine wq_cge rfl (by first | omega | decide | exact Nat.lt_of_le_of_lt Nat.and_le_right (by decide) | exact ⟨by omega, by omega⟩) (by first | omega | decide | exact Nat.lt_of_le_of_lt Nat.and_le_right (by decide) | exact ⟨by omega, by omega⟩) (fun c => absurd c (by omega)) (fun c95 => ?_)
        refine wq_go rfl (fun _ => rfl) ?_
        refine wq_getf rfl (by first | rfl | assumption) (by first | decide | omega | assumption) ((up_ne _ _ (by decide)).trans (mb_o (mf_b W115c))) rfl ?_
        refine wq_cN (m := 20) rfl rfl ?_
        refine wq_go rfl (fun _ => rfl) ?_
        refine wq_getf rfl (by first | rfl | assumption) (by first | decide | omega | assumption) ((up_ne _ _ (by decide)).trans (mb_o (mf_b W115c))) rfl ?_
        refine wq_top (mb_19 (mf_b W115c) :) ?_
        refine wq_mulN rfl ?_
        refine wq_cN (m := 4) rfl rfl ?_
        refine wq_go rfl (fun _ => rfl) ?_
        refine wq_getf rfl (by first | rfl | assumption) (by first | decide | omega | assumption) ((up_ne _ _ (by decide)).trans (mb_o (mf_b W115c))) rfl ?_
        refine wq_go rfl (fun _ => rfl) ?_
        refine wq_getf rfl (by first | rfl | assumption) (by first | decide | omega | assumption) ((up_ne _ _ (by decide)).trans (mb_o (mf_b W115c))) rfl ?_
        refine wq_top (mb_19 (mf_b W115c) :) ?_
        refine wq_iald rfl (by first | rfl | assumption) (by first | decide | omega | assumption) ((up_ne _ _ (by decide)).trans (mb_a (mf_b W115c) (by decide) : IsA σ115c 299 2)) rfl (by omega) (by first | decide | omega) ?_
        refine wq_top ((ag_eq (F115c 299 rfl) s).trans ((ag_eq (up_ne _ _ (by decide)) s).trans ((ag_eq (F115b 299 rfl) s).trans ((ag_eq (up_ne _ _ (by decide)) s).trans ((ag_eq (F115a 299 rfl) s).trans ((ag_eq (up_ne _ _ (by decide)) s).trans ((ag_eq (F89 299 rfl) s).trans ((ag_eq (F72 299 rfl) s).trans ((ag_eq (F66 299 rfl) s).trans hnc))))))))) ?_
        refine wq_mulN rfl ?_
        refine wq_addN rfl ?_
        refine wq_go rfl (fun _ => rfl) ?_
        refine wq_addN rfl ?_
        refine wq_go rfl (fun _ => rfl) ?_
        refine wq_cN (m := 0) rfl rfl ?_
        refine wq_cN (m := 99) rfl rfl ?_
        refine wq_callV rfl rfl (by first | rfl | assumption) (by first | decide | omega | assumption) (Nat.le_of_ble_eq_true rfl) (Nat.le_of_ble_eq_true rfl) rfl rfl ?_
        refine m_bnd_e2 (mrf_a2 W115c rfl (by decide) (by decide) (by decide) (show 20 * s ≤ _ from by omega) (show _ < 20 * s + 20 from by omega)) (fun σ115d F115d W115d => ?_)
        skip
        refine wq_iast rfl (by first | rfl | assumption) (by first | decide | omega | assumption) (mb_a (mf_b W115d) (by decide) : IsA σ115d 301 40) rfl (by omega) (by first | decide | omega) ?_
        refine wq_incN rfl rfl rfl ?_
        refine wq_go rfl (fun _ => rfl) ?_
        skip
        refine wq_go rfl (fun _ => rfl) ?_
        refine wq_cN (m := 4) rfl rfl ?_
        refine wq_cge rfl (by first | omega | decide | exact Nat.lt_of_le_of_lt Nat.and_le_right (by decide) | exact ⟨by omega, by omega⟩) (by first | omega | decide | exact Nat.lt_of_le_of_lt Nat.and_le_right (by decide) | exact ⟨by omega, by omega⟩) (fun c95 => ?_) (fun c => absurd (show _ from by omega) c)
        skip
        refine wq_go rfl (fun _ => rfl) ?_
        refine wq_go rfl (fun _ => rfl) ?_
        refine wq_cN (m := 10) rfl rfl ?_
        refine wq_go rfl (fun _ => rfl) ?_
        refine wq_getf rfl (by first | rfl | assumption) (by first | decide | omega | assumption) ((up_ne _ _ (by decide)).trans (mb_o (mf_b W115d))) rfl ?_
        refine wq_go rfl (fun _ => rfl) ?_
        refine wq_getf rfl (by first | rfl | assumption) (by first | decide | omega | assumption) ((up_ne _ _ (by decide)).trans (mb_o (mf_b W115d))) rfl ?_
        refine wq_top (mb_19 (mf_b W115d) :) ?_
        refine wq_iald rfl (by first | rfl | assumption) (by first | decide | omega | assumption) ((up_ne _ _ (by decide)).trans (mb_a (mf_b W115d) (by decide) : IsA σ115d 299 2)) rfl (by omega) (by first | decide | omega) ?_
        refine wq_top ((ag_eq (F115d 299 rfl) s).trans ((ag_eq (up_ne _ _ (by decide)) s).trans ((ag_eq (F115c 299 rfl) s).trans ((ag_eq (up_ne _ _ (by decide)) s).trans ((ag_eq (F115b 299 rfl) s).trans ((ag_eq (up_ne _ _ (by decide)) s).trans ((ag_eq (F115a 299 rfl) s).trans ((ag_eq (up_ne _ _ (by decide)) s).trans ((ag_eq (F89 299 rfl) s).trans ((ag_eq (F72 299 rfl) s).trans ((ag_eq (F66 299 rfl) s).trans hnc))))))))))) ?_
        refine wq_addN rfl ?_
        refine wq_callV rfl rfl (by first | rfl | assumption) (by first | decide | omega | assumption) (Nat.le_of_ble_eq_true rfl) (Nat.le_of_ble_eq_true rfl) rfl rfl ?_
        refine m_ends_e (mrf_a2 W115d rfl (by decide) (by decide) (by decide) (show 20 * s ≤ _ from by omega) (show _ < 20 * s + 20 from by omega)) ?_
        have hf0_W115d := mf_0 W115d
        have hf9_W115d := mf_9 W115d
        refine wq_go rfl (fun _ => rfl) ?_
        refine wq_getf rfl (by first | rfl | assumption) (by first | decide | omega | assumption) ((up_ne _ _ (by decide)).trans (mb_o (mf_b W115d))) rfl ?_
        refine wq_top (mf_13 W115d :) ?_
        refine wq_zne rfl (by first | omega | decide | exact Nat.lt_of_le_of_lt Nat.and_le_right (by decide) | exact ⟨by omega, by omega⟩) (fun c131 => ?_) (fun c => absurd (show _ from by omega) c)
        refine wq_end rfl (fun _ => rfl) ?_
        exact K0 f89 t72 bn _ _ (by rw [if_neg (by omega), must_y hk h66, bnd_o, m72, bnd_o, m89, bnd_e]) (mrf_a2 W115d rfl (by decide) (by decide) (by decide) (show 20 * s ≤ _ from by omega) (show _ < 20 * s + 20 from by omega))
    · skip
      have hf0_W72 := mf_0 W72
      have hf9_W72 := mf_9 W72
      refine wq_go rfl (fun _ => rfl) ?_
      refine wq_go rfl (fun _ => rfl) ?_
      refine wq_getf rfl (by first | rfl | assumption) (by first | decide | omega | assumption) (mb_o (mf_b W72)) rfl ?_
      refine wq_cN (m := 5) rfl rfl ?_
      refine wq_go rfl (fun _ => rfl) ?_
      refine wq_getf rfl (by first | rfl | assumption) (by first | decide | omega | assumption) (mb_o (mf_b W72)) rfl ?_
      refine wq_top (mb_19 (mf_b W72) :) ?_
      refine wq_mulN rfl ?_
      refine wq_go rfl (fun _ => rfl) ?_
      refine wq_getf rfl (by first | rfl | assumption) (by first | decide | omega | assumption) (mb_o (mf_b W72)) rfl ?_
      refine wq_go rfl (fun _ => rfl) ?_
      refine wq_getf rfl (by first | rfl | assumption) (by first | decide | omega | assumption) (mb_o (mf_b W72)) rfl ?_
      refine wq_top (mb_19 (mf_b W72) :) ?_
      refine wq_iald rfl (by first | rfl | assumption) (by first | decide | omega | assumption) (mb_a (mf_b W72) (by decide) : IsA σ72 299 2) rfl (by omega) (by first | decide | omega) ?_
      refine wq_top ((ag_eq (F72 299 rfl) s).trans ((ag_eq (F66 299 rfl) s).trans hnc)) ?_
      refine wq_addN rfl ?_
      refine wq_go rfl (fun _ => rfl) ?_
      refine wq_cN (m := 0) rfl rfl ?_
      refine wq_cN (m := 9) rfl rfl ?_
      refine wq_callV rfl rfl (by first | rfl | assumption) (by first | decide | omega | assumption) (Nat.le_of_ble_eq_true rfl) (Nat.le_of_ble_eq_true rfl) rfl rfl ?_
      refine m_bnd_e2 W72 (fun σ89 F89 W89 => ?_)
      skip
      refine wq_iast rfl (by first | rfl | assumption) (by first | decide | omega | assumption) (mb_a (mf_b W89) (by decide) : IsA σ89 300 10) rfl (by omega) (by first | decide | omega) ?_
      refine wq_cN (m := 0) rfl rfl ?_
      refine wq_go rfl (fun _ => rfl) ?_
      skip
      refine wq_go rfl (fun _ => rfl) ?_
      refine wq_cN (m := 4) rfl rfl ?_
      refine wq_cge rfl (by first | omega | decide | exact Nat.lt_of_le_of_lt Nat.and_le_right (by decide) | exact ⟨by omega, by omega⟩) (by first | omega | decide | exact Nat.lt_of_le_of_lt Nat.and_le_right (by decide) | exact ⟨by omega, by omega⟩) (fun c => absurd c (by omega)) (fun c95 => ?_)
      refine wq_go rfl (fun _ => rfl) ?_
      refine wq_getf rfl (by first | rfl | assumption) (by first | decide | omega | assumption) ((up_ne _ _ (by decide)).trans (mb_o (mf_b W89))) rfl ?_
      refine wq_cN (m := 20) rfl rfl ?_
      refine wq_go rfl (fun _ => rfl) ?_
      refine wq_getf rfl (by first | rfl | assumption) (by first | decide | omega | assumption) ((up_ne _ _ (by decide)).trans (mb_o (mf_b W89))) rfl ?_
      refine wq_top (mb_19 (mf_b W89) :) ?_
      refine wq_mulN rfl ?_
      refine wq_cN (m := 4) rfl rfl ?_
      refine wq_go rfl (fun _ => rfl) ?_
      refine wq_getf rfl (by first | rfl | assumption) (by first | decide | omega | assumption) ((up_ne _ _ (by decide)).trans (mb_o (mf_b W89))) rfl ?_
      refine wq_go rfl (fun _ => rfl) ?_
      refine wq_getf rfl (by first | rfl | assumption) (by first | decide | omega | assumption) ((up_ne _ _ (by decide)).trans (mb_o (mf_b W89))) rfl ?_
      refine wq_top (mb_19 (mf_b W89) :) ?_
      refine wq_iald rfl (by first | rfl | assumption) (by first | decide | omega | assumption) ((up_ne _ _ (by decide)).trans (mb_a (mf_b W89) (by decide) : IsA σ89 299 2)) rfl (by omega) (by first | decide | omega) ?_
      refine wq_top ((ag_eq (F89 299 rfl) s).trans ((ag_eq (F72 299 rfl) s).trans ((ag_eq (F66 299 rfl) s).trans hnc))) ?_
      refine wq_mulN rfl ?_
      refine wq_addN rfl ?_
      refine wq_go rfl (fun _ => rfl) ?_
      refine wq_addN rfl ?_
      refine wq_go rfl (fun _ => rfl) ?_
      refine wq_cN (m := 0) rfl rfl ?_
      refine wq_cN (m := 99) rfl rfl ?_
      refine wq_callV rfl rfl (by first | rfl | assumption) (by first | decide | omega | assumption) (Nat.le_of_ble_eq_true rfl) (Nat.le_of_ble_eq_true rfl) rfl rfl ?_
      refine m_bnd_e2 (mrf_a2 W89 rfl (by decide) (by decide) (by decide) (show 5 * s ≤ _ from by omega) (show _ < 5 * s + 5 from by omega)) (fun σ115a F115a W115a => ?_)
      skip
      refine wq_iast rfl (by first | rfl | assumption) (by first | decide | omega | assumption) (mb_a (mf_b W115a) (by decide) : IsA σ115a 301 40) rfl (by omega) (by first | decide | omega) ?_
      refine wq_incN rfl rfl rfl ?_
      refine wq_go rfl (fun _ => rfl) ?_
      skip
      refine wq_go rfl (fun _ => rfl) ?_
      refine wq_cN (m := 4) rfl rfl ?_
      refine wq_cge rfl (by first | omega | decide | exact Nat.lt_of_le_of_lt Nat.and_le_right (by decide) | exact ⟨by omega, by omega⟩) (by first | omega | decide | exact Nat.lt_of_le_of_lt Nat.and_le_right (by decide) | exact ⟨by omega, by omega⟩) (fun c => absurd c (by omega)) (fun c95 => ?_)
      refine wq_go rfl (fun _ => rfl) ?_
      refine wq_getf rfl (by first | rfl | assumption) (by first | decide | omega | assumption) ((up_ne _ _ (by decide)).trans (mb_o (mf_b W115a))) rfl ?_
      refine wq_cN (m := 20) rfl rfl ?_
      refine wq_go rfl (fun _ => rfl) ?_
      refine wq_getf rfl (by first | rfl | assumption) (by first | decide | omega | assumption) ((up_ne _ _ (by decide)).trans (mb_o (mf_b W115a))) rfl ?_
      refine wq_top (mb_19 (mf_b W115a) :) ?_
      refine wq_mulN rfl ?_
      refine wq_cN (m := 4) rfl rfl ?_
      refine wq_go rfl (fun _ => rfl) ?_
      refine wq_getf rfl (by first | rfl | assumption) (by first | decide | omega | assumption) ((up_ne _ _ (by decide)).trans (mb_o (mf_b W115a))) rfl ?_
      refine wq_go rfl (fun _ => rfl) ?_
      refine wq_getf rfl (by first | rfl | assumption) (by first | decide | omega | assumption) ((up_ne _ _ (by decide)).trans (mb_o (mf_b W115a))) rfl ?_
      refine wq_top (mb_19 (mf_b W115a) :) ?_
      refine wq_iald rfl (by first | rfl | assumption) (by first | decide | omega | assumption) ((up_ne _ _ (by decide)).trans (mb_a (mf_b W115a) (by decide) : IsA σ115a 299 2)) rfl (by omega) (by first | decide | omega) ?_
      refine wq_top ((ag_eq (F115a 299 rfl) s).trans ((ag_eq (up_ne _ _ (by decide)) s).trans ((ag_eq (F89 299 rfl) s).trans ((ag_eq (F72 299 rfl) s).trans ((ag_eq (F66 299 rfl) s).trans hnc))))) ?_
      refine wq_mulN rfl ?_
      refine wq_addN rfl ?_
      refine wq_go rfl (fun _ => rfl) ?_
      refine wq_addN rfl ?_
      refine wq_go rfl (fun _ => rfl) ?_
      refine wq_cN (m := 0) rfl rfl ?_
      refine wq_cN (m := 99) rfl rfl ?_
      refine wq_callV rfl rfl (by first | rfl | assumption) (by first | decide | omega | assumption) (Nat.le_of_ble_eq_true rfl) (Nat.le_of_ble_eq_true rfl) rfl rfl ?_
      refine m_bnd_e2 (mrf_a2 W115a rfl (by decide) (by decide) (by decide) (show 20 * s ≤ _ from by omega) (show _ < 20 * s + 20 from by omega)) (fun σ115b F115b W115b => ?_)
      skip
      refine wq_iast rfl (by first | rfl | assumption) (by first | decide | omega | assumption) (mb_a (mf_b W115b) (by decide) : IsA σ115b 301 40) rfl (by omega) (by first | decide | omega) ?_
      refine wq_incN rfl rfl rfl ?_
      refine wq_go rfl (fun _ => rfl) ?_
      skip
      refine wq_go rfl (fun _ => rfl) ?_
      refine wq_cN (m := 4) rfl rfl ?_
      refine wq_cge rfl (by first | omega | decide | exact Nat.lt_of_le_of_lt Nat.and_le_right (by decide) | exact ⟨by omega, by omega⟩) (by first | omega | decide | exact Nat.lt_of_le_of_lt Nat.and_le_right (by decide) | exact ⟨by omega, by omega⟩) (fun c => absurd c (by omega)) (fun c95 => ?_)
      refine wq_go rfl (fun _ => rfl) ?_
      refine wq_getf rfl (by first | rfl | assumption) (by first | decide | omega | assumption) ((up_ne _ _ (by decide)).trans (mb_o (mf_b W115b))) rfl ?_
      refine wq_cN (m := 20) rfl rfl ?_
      refine wq_go rfl (fun _ => rfl) ?_
      refine wq_getf rfl (by first | rfl | assumption) (by first | decide | omega | assumption) ((up_ne _ _ (by decide)).trans (mb_o (mf_b W115b))) rfl ?_
      refine wq_top (mb_19 (mf_b W115b) :) ?_
      refine wq_mulN rfl ?_
      refine wq_cN (m := 4) rfl rfl ?_
      refine wq_go rfl (fun _ => rfl) ?_
      refine wq_getf rfl (by first | rfl | assumption) (by first | decide | omega | assumption) ((up_ne _ _ (by decide)).trans (mb_o (mf_b W115b))) rfl ?_
      refine wq_go rfl (fun _ => rfl) ?_
      refine wq_getf rfl (by first | rfl | assumption) (by first | decide | omega | assumption) ((up_ne _ _ (by decide)).trans (mb_o (mf_b W115b))) rfl ?_
      refine wq_top (mb_19 (mf_b W115b) :) ?_
      refine wq_iald rfl (by first | rfl | assumption) (by first | decide | omega | assumption) ((up_ne _ _ (by decide)).trans (mb_a (mf_b W115b) (by decide) : IsA σ115b 299 2)) rfl (by omega) (by first | decide | omega) ?_
      refine wq_top ((ag_eq (F115b 299 rfl) s).trans ((ag_eq (up_ne _ _ (by decide)) s).trans ((ag_eq (F115a 299 rfl) s).trans ((ag_eq (up_ne _ _ (by decide)) s).trans ((ag_eq (F89 299 rfl) s).trans ((ag_eq (F72 299 rfl) s).trans ((ag_eq (F66 299 rfl) s).trans hnc))))))) ?_
      refine wq_mulN rfl ?_
      refine wq_addN rfl ?_
      refine wq_go rfl (fun _ => rfl) ?_
      refine wq_addN rfl ?_
      refine wq_go rfl (fun _ => rfl) ?_
      refine wq_cN (m := 0) rfl rfl ?_
      refine wq_cN (m := 99) rfl rfl ?_
      refine wq_callV rfl rfl (by first | rfl | assumption) (by first | decide | omega | assumption) (Nat.le_of_ble_eq_true rfl) (Nat.le_of_ble_eq_true rfl) rfl rfl ?_
      refine m_bnd_e2 (mrf_a2 W115b rfl (by decide) (by decide) (by decide) (show 20 * s ≤ _ from by omega) (show _ < 20 * s + 20 from by omega)) (fun σ115c F115c W115c => ?_)
      skip
      refine wq_iast rfl (by first | rfl | assumption) (by first | decide | omega | assumption) (mb_a (mf_b W115c) (by decide) : IsA σ115c 301 40) rfl (by omega) (by first | decide | omega) ?_
      refine wq_incN rfl rfl rfl ?_
      refine wq_go rfl (fun _ => rfl) ?_
      skip
      refine wq_go rfl (fun _ => rfl) ?_
      refine wq_cN (m := 4) rfl rfl ?_
      refine wq_cge rfl (by first | omega | decide | exact Nat.lt_of_le_of_lt Nat.and_le_right (by decide) | exact ⟨by omega, by omega⟩) (by first | omega | decide | exact Nat.lt_of_le_of_lt Nat.and_le_right (by decide) | exact ⟨by omega, by omega⟩) (fun c => absurd c (by omega)) (fun c95 => ?_)
      refine wq_go rfl (fun _ => rfl) ?_
      refine wq_getf rfl (by first | rfl | assumption) (by first | decide | omega | assumption) ((up_ne _ _ (by decide)).trans (mb_o (mf_b W115c))) rfl ?_
      refine wq_cN (m := 20) rfl rfl ?_
      refine wq_go rfl (fun _ => rfl) ?_
      refine wq_getf rfl (by first | rfl | assumption) (by first | decide | omega | assumption) ((up_ne _ _ (by decide)).trans (mb_o (mf_b W115c))) rfl ?_
      refine wq_top (mb_19 (mf_b W115c) :) ?_
      refine wq_mulN rfl ?_
      refine wq_cN (m := 4) rfl rfl ?_
      refine wq_go rfl (fun _ => rfl) ?_
      refine wq_getf rfl (by first | rfl | assumption) (by first | decide | omega | assumption) ((up_ne _ _ (by decide)).trans (mb_o (mf_b W115c))) rfl ?_
      refine wq_go rfl (fun _ => rfl) ?_
      refine wq_getf rfl (by first | rfl | assumption) (by first | decide | omega | assumption) ((up_ne _ _ (by decide)).trans (mb_o (mf_b W115c))) rfl ?_
      refine wq_top (mb_19 (mf_b W115c) :) ?_
      refine wq_iald rfl (by first | rfl | assumption) (by first | decide | omega | assumption) ((up_ne _ _ (by decide)).trans (mb_a (mf_b W115c) (by decide) : IsA σ115c 299 2)) rfl (by omega) (by first | decide | omega) ?_
      refine wq_top ((ag_eq (F115c 299 rfl) s).trans ((ag_eq (up_ne _ _ (by decide)) s).trans ((ag_eq (F115b 299 rfl) s).trans ((ag_eq (up_ne _ _ (by decide)) s).trans ((ag_eq (F115a 299 rfl) s).trans ((ag_eq (up_ne _ _ (by decide)) s).trans ((ag_eq (F89 299 rfl) s).trans ((ag_eq (F72 299 rfl) s).trans ((ag_eq (F66 299 rfl) s).trans hnc))))))))) ?_
      refine wq_mulN rfl ?_
      refine wq_addN rfl ?_
      refine wq_go rfl (fun _ => rfl) ?_
      refine wq_addN rfl ?_
      refine wq_go rfl (fun _ => rfl) ?_
      refine wq_cN (m := 0) rfl rfl ?_
      refine wq_cN (m := 99) rfl rfl ?_
      refine wq_callV rfl rfl (by first | rfl | assumption) (by first | decide | omega | assumption) (Nat.le_of_ble_eq_true rfl) (Nat.le_of_ble_eq_true rfl) rfl rfl ?_
      refine m_bnd_e2 (mrf_a2 W115c rfl (by decide) (by decide) (by decide) (show 20 * s ≤ _ from by omega) (show _ < 20 * s + 20 from by omega)) (fun σ115d F115d W115d => ?_)
      skip
      refine wq_iast rfl (by first | rfl | assumption) (by first | decide | omega | assumption) (mb_a (mf_b W115d) (by decide) : IsA σ115d 301 40) rfl (by omega) (by first | decide | omega) ?_
      refine wq_incN rfl rfl rfl ?_
      refine wq_go rfl (fun _ => rfl) ?_
      skip
      refine wq_go rfl (fun _ => rfl) ?_
      refine wq_cN (m := 4) rfl rfl ?_
      refine wq_cge rfl (by first | omega | decide | exact Nat.lt_of_le_of_lt Nat.and_le_right (by decide) | exact ⟨by omega, by omega⟩) (by first | omega | decide | exact Nat.lt_of_le_of_lt Nat.and_le_right (by decide) | exact ⟨by omega, by omega⟩) (fun c95 => ?_) (fun c => absurd (show _ from by omega) c)
      skip
      refine wq_go rfl (fun _ => rfl) ?_
      refine wq_go rfl (fun _ => rfl) ?_
      refine wq_cN (m := 10) rfl rfl ?_
      refine wq_go rfl (fun _ => rfl) ?_
      refine wq_getf rfl (by first | rfl | assumption) (by first | decide | omega | assumption) ((up_ne _ _ (by decide)).trans (mb_o (mf_b W115d))) rfl ?_
      refine wq_go rfl (fun _ => rfl) ?_
      refine wq_getf rfl (by first | rfl | assumption) (by first | decide | omega | assumption) ((up_ne _ _ (by decide)).trans (mb_o (mf_b W115d))) rfl ?_
      refine wq_top (mb_19 (mf_b W115d) :) ?_
      refine wq_iald rfl (by first | rfl | assumption) (by first | decide | omega | assumption) ((up_ne _ _ (by decide)).trans (mb_a (mf_b W115d) (by decide) : IsA σ115d 299 2)) rfl (by omega) (by first | decide | omega) ?_
      refine wq_top ((ag_eq (F115d 299 rfl) s).trans ((ag_eq (up_ne _ _ (by decide)) s).trans ((ag_eq (F115c 299 rfl) s).trans ((ag_eq (up_ne _ _ (by decide)) s).trans ((ag_eq (F115b 299 rfl) s).trans ((ag_eq (up_ne _ _ (by decide)) s).trans ((ag_eq (F115a 299 rfl) s).trans ((ag_eq (up_ne _ _ (by decide)) s).trans ((ag_eq (F89 299 rfl) s).trans ((ag_eq (F72 299 rfl) s).trans ((ag_eq (F66 299 rfl) s).trans hnc))))))))))) ?_
      refine wq_addN rfl ?_
      refine wq_callV rfl rfl (by first | rfl | assumption) (by first | decide | omega | assumption) (Nat.le_of_ble_eq_true rfl) (Nat.le_of_ble_eq_true rfl) rfl rfl ?_
      refine m_ends_e (mrf_a2 W115d rfl (by decide) (by decide) (by decide) (show 20 * s ≤ _ from by omega) (show _ < 20 * s + 20 from by omega)) ?_
      have hf0_W115d := mf_0 W115d
      have hf9_W115d := mf_9 W115d
      refine wq_go rfl (fun _ => rfl) ?_
      refine wq_getf rfl (by first | rfl | assumption) (by first | decide | omega | assumption) ((up_ne _ _ (by decide)).trans (mb_o (mf_b W115d))) rfl ?_
      refine wq_top (mf_13 W115d :) ?_
      refine wq_zne rfl (by first | omega | decide | exact Nat.lt_of_le_of_lt Nat.and_le_right (by decide) | exact ⟨by omega, by omega⟩) (fun c131 => ?_) (fun c => absurd (show _ from by omega) c)
      refine wq_end rfl (fun _ => rfl) ?_
      exact K0 f72 (t + 1) bn _ _ (by rw [if_neg (by omega), must_y hk h66, bnd_o, m72, bnd_e]) (mrf_a2 W115d rfl (by decide) (by decide) (by decide) (show 20 * s ≤ _ from by omega) (show _ < 20 * s + 20 from by omega))
  · skip
    have hf0_W66 := mf_0 W66
    have hf9_W66 := mf_9 W66
    refine wq_go rfl (fun _ => rfl) ?_
    refine wq_getf rfl (by first | rfl | assumption) (by first | decide | omega | assumption) (mb_o (mf_b W66)) rfl ?_
    refine wq_top (mf_13 W66 :) ?_
    refine wq_zle rfl (by first | omega | decide | exact Nat.lt_of_le_of_lt Nat.and_le_right (by decide) | exact ⟨by omega, by omega⟩) (fun c => absurd c (by omega)) (fun c69 => ?_)
    refine wq_end rfl (fun _ => rfl) ?_
    exact K0 2 t bn _ _ (by
      by_cases h4 : 5 ≤ nc
      · rw [if_pos h4]
      · have h5 : t = 400 := by omega
        subst h5
        rw [if_neg h4, must_r hk, bnd_e]) W66
theorem m_visit {xs : List Int32} {d : Nat} {σ : Nat → List Value} {Q : Option Value → (Nat → List Value) → Prop} {B : Bs} {X : Tx} {s t bn cn nn nc : Nat} {w : Option (Nat × Nat)} {g : Nat → Int32} (hW : MrW B X s t 0 bn cn nn w g σ) (hM : okM X w t) (hnn : nn ≤ 9) {a : Nat → Nat} (ha : ∀ i, i < nn → ag σ 296 i = nI (a i) ∧ a i < 100) (hnc : ag σ 302 s = nI nc) (hnc4 : nc < 10)  (K1 : ∀ t2 t3 t4 t5 g' σ', must X 23 t = .inr t2 → must X 23 t2 = .inr t3 → must X 24 t3 = .inr t4 → must X 25 t4 = .inr t5 → t5 = t + 4 → MrW B X s t5 0 bn cn nn (wn (wn (wn w (knF (aq σ 295) a 10 (Xn X t) nn 0).isNone 4 (Xp X t)) (knF (aq σ 295) a 0 (Xn X t2) nn 0).isNone 4 (Xp X t2)) (outB X t3 0 23) 5 (Xp X t3)) g' σ' → okM X (wn (wn (wn w (knF (aq σ 295) a 10 (Xn X t) nn 0).isNone 4 (Xp X t)) (knF (aq σ 295) a 0 (Xn X t2) nn 0).isNone 4 (Xp X t2)) (outB X t3 0 23) 5 (Xp X t3)) t5 → Fr xV1 σ σ' → σ' 302 = arr 2 (upd (ag σ 302) s (nI (nc + 1))) → σ' 303 = arr 20 (upd (ag σ 303) (10 * s + nc) (nmI (knF (aq σ 295) a 10 (Xn X t) nn 0))) → σ' 304 = arr 20 (upd (ag σ 304) (10 * s + nc) (nmI (knF (aq σ 295) a 0 (Xn X t2) nn 0))) → σ' 305 = arr 20 (upd (ag σ 305) (10 * s + nc) (nI (Xv X t3))) → Q none σ') (K0 : ∀ f' p' bn' g' σ', ((bnd (must X 23 t) fun t2 => bnd (must X 23 t2) fun t3 => bnd (must X 24 t3) fun t4 => must X 25 t4) : Rs Nat) = er f' p' → MrF B X s f' (Xp X p') bn' g' σ' → Q none σ') : Wq xs (d + 4) ax_cd242 0 [(0, .ref 287)] [] σ Q := by
  have hX := mb_X (mw_b hW)
  have ht := mw_t hW
  have hr := mw_r hW
  have hs2 := mb_2 (mw_b hW)
  have hkt := mkK_le _ (hX.1 t)
  have hpt := hX.2.2.1 t
  refine wq_cN (m := 10) rfl rfl ?_
  refine wq_go rfl (fun _ => rfl) ?_
  refine wq_getf rfl (by first | rfl | assumption) (by first | decide | omega | assumption) (mb_o (mw_b hW)) rfl ?_
  refine wq_top (mb_19 (mw_b hW) :) ?_
  refine wq_mulN rfl ?_
  refine wq_go rfl (fun _ => rfl) ?_
  refine wq_getf rfl (by first | rfl | assumption) (by first | decide | omega | assumption) (mb_o (mw_b hW)) rfl ?_
  refine wq_go rfl (fun _ => rfl) ?_
  refine wq_getf rfl (by first | rfl | assumption) (by first | decide | omega | assumption) (mb_o (mw_b hW)) rfl ?_
  refine wq_top (mb_19 (mw_b hW) :) ?_
  refine wq_iald rfl (by first | rfl | assumption) (by first | decide | omega | assumption) (mb_a (mw_b hW) (by decide) : IsA σ 302 2) rfl (by omega) (by first | decide | omega) ?_
  refine wq_top hnc ?_
  refine wq_addN rfl ?_
  refine wq_go rfl (fun _ => rfl) ?_
  refine wq_go rfl (fun _ => rfl) ?_
  refine wq_getf rfl (by first | rfl | assumption) (by first | decide | omega | assumption) (mb_o (mw_b hW)) rfl ?_
  refine wq_go rfl (fun _ => rfl) ?_
  refine wq_go rfl (fun _ => rfl) ?_
  refine wq_cN (m := 10) rfl rfl ?_
  refine wq_callV rfl rfl (by first | rfl | assumption) (by first | decide | omega | assumption) (Nat.le_of_ble_eq_true rfl) (Nat.le_of_ble_eq_true rfl) rfl rfl ?_
  refine m_kn hW hM (by omega) (lo := 10) (by decide) (a := a) ha (fun t16 g16 σ16 m16 e16 k16 F16 W16 => ?_) (fun f16 g16 σ16 m16 F16 G16 W16 => ?_)
  · skip
    refine wq_iast rfl (by first | rfl | assumption) (by first | decide | omega | assumption) (mb_a (mw_b W16) (by decide) : IsA σ16 303 20) rfl (by omega) (by first | decide | omega) ?_
    have M16 := okM_W hM hX (by omega) W16 e16
    refine wq_go rfl (fun _ => rfl) ?_
    refine wq_getf rfl (by first | rfl | assumption) (by first | decide | omega | assumption) ((up_ne _ _ (by decide)).trans (mb_o (mw_b W16))) rfl ?_
    refine wq_go rfl (fun _ => rfl) ?_
    refine wq_go rfl (fun _ => rfl) ?_
    refine wq_cN (m := 0) rfl rfl ?_
    refine wq_callV rfl rfl (by first | rfl | assumption) (by first | decide | omega | assumption) (Nat.le_of_ble_eq_true rfl) (Nat.le_of_ble_eq_true rfl) rfl rfl ?_
    refine m_kn (mrw_a2 W16 rfl (by decide) (by decide) (by decide) (show 10 * s ≤ _ from by omega) (show _ < 10 * s + 10 from by omega)) M16 (by omega) (lo := 0) (by decide) (a := a) (fun i hi => ⟨(ag_eq ((up_ne _ _ (by decide)).trans (F16 296 rfl)) i).trans (ha i hi).1, (ha i hi).2⟩) (fun t23 g23 σ23 m23 e23 k23 F23 W23 => ?_) (fun f23 g23 σ23 m23 F23 G23 W23 => ?_)
    · skip
      refine wq_iast rfl (by first | rfl | assumption) (by first | decide | omega | assumption) (mb_a (mw_b W23) (by decide) : IsA σ23 304 20) rfl (by omega) (by first | decide | omega) ?_
      have M23 := okM_W M16 hX (by omega) W23 e23
      refine wq_go rfl (fun _ => rfl) ?_
      refine wq_getf rfl (by first | rfl | assumption) (by first | decide | omega | assumption) ((up_ne _ _ (by decide)).trans (mb_o (mw_b W23))) rfl ?_
      refine wq_go rfl (fun _ => rfl) ?_
      refine wq_go rfl (fun _ => rfl) ?_
      refine wq_cN (m := 0) rfl rfl ?_
      refine wq_cN (m := 23) rfl rfl ?_
      refine wq_callV rfl rfl (by first | rfl | assumption) (by first | decide | omega | assumption) (Nat.le_of_ble_eq_true rfl) (Nat.le_of_ble_eq_true rfl) rfl rfl ?_
      refine m_bnd (mrw_a2 W23 rfl (by decide) (by decide) (by decide) (show 10 * s ≤ _ from by omega) (show _ < 10 * s + 10 from by omega)) M23 (lo := 0) (hi := 23) (by decide) (by decide) (fun t31 g31 σ31 m31 e31 k31 F31 W31 => ?_) (fun f31 x31 g31 σ31 m31 F31 W31 => ?_)
      · skip
        have M31 := okM_W M23 hX (by omega) W31 e31
        refine wq_iast rfl (by first | rfl | assumption) (by first | decide | omega | assumption) (mb_a (mw_b W31) (by decide) : IsA σ31 305 20) rfl (by omega) (by first | decide | omega) ?_
        refine wq_go rfl (fun _ => rfl) ?_
        refine wq_cN (m := 4) rfl rfl ?_
        refine wq_callV rfl rfl (by first | rfl | assumption) (by first | decide | omega | assumption) (Nat.le_of_ble_eq_true rfl) (Nat.le_of_ble_eq_true rfl) rfl rfl ?_
        refine m_must (mrw_a2 W31 rfl (by decide) (by decide) (by decide) (show 10 * s ≤ _ from by omega) (show _ < 10 * s + 10 from by omega)) (k := 25) (by decide) (fun t35 g35 σ35 m35 e35 k35 F35 G35 W35 => ?_) (fun f35 g35 σ35 m35 F35 G35 W35 => ?_)
        · skip
          skip
          refine wq_go rfl (fun _ => rfl) ?_
          refine wq_getf rfl (by first | rfl | assumption) (by first | decide | omega | assumption) (mb_o (mw_b W35)) rfl ?_
          refine wq_top (mw_13 W35 :) ?_
          refine wq_zne rfl (by first | omega | decide | exact Nat.lt_of_le_of_lt Nat.and_le_right (by decide) | exact ⟨by omega, by omega⟩) (fun c => absurd c (by omega)) (fun c38 => ?_)
          refine wq_go rfl (fun _ => rfl) ?_
          refine wq_getf rfl (by first | rfl | assumption) (by first | decide | omega | assumption) (mb_o (mw_b W35)) rfl ?_
          refine wq_go rfl (fun _ => rfl) ?_
          refine wq_getf rfl (by first | rfl | assumption) (by first | decide | omega | assumption) (mb_o (mw_b W35)) rfl ?_
          refine wq_top (mb_19 (mw_b W35) :) ?_
          refine wq_go rfl (fun _ => rfl) ?_
          refine wq_iald rfl (by first | rfl | assumption) (by first | decide | omega | assumption) (mb_a (mw_b W35) (by decide) : IsA σ35 302 2) rfl (by omega) (by first | decide | omega) ?_
          refine wq_top ((ag_eq (F35 302 rfl) s).trans ((ag_eq (up_ne _ _ (by decide)) s).trans ((ag_eq (F31 302 rfl) s).trans ((ag_eq (up_ne _ _ (by decide)) s).trans ((ag_eq (F23 302 rfl) s).trans ((ag_eq (up_ne _ _ (by decide)) s).trans ((ag_eq (F16 302 rfl) s).trans hnc))))))) ?_
          refine wq_cN (m := 1) rfl rfl ?_
          refine wq_addN rfl ?_
          refine wq_iast rfl (by first | rfl | assumption) (by first | decide | omega | assumption) (mb_a (mw_b W35) (by decide) : IsA σ35 302 2) rfl (by omega) (by first | decide | omega) ?_
          refine wq_end rfl (fun _ => rfl) ?_
          have q16 : aq σ16 295 = aq σ 295 := aq_fun (F16 295 rfl)
          rw [aq_fun (up_ne _ _ (by decide)), q16] at W35
          refine K1 t16 t23 t31 t35 _ _ m16 m23 m31 m35 (by omega) (mrw_a2 W35 rfl (by decide) (by decide) (by decide) (show 1 * s ≤ _ from by omega) (show _ < 1 * s + 1 from by omega)) ?_ (fr_up (fr_trans (fr_up (fr_trans (fr_up (fr_trans (fr_up (fr_trans (fr_refl _ _) (fr_mono F16 x287_V1)) rfl) (fr_mono F23 x287_V1)) rfl) (fr_mono F31 x287_V1)) rfl) (fr_mono F35 x287_V1)) rfl) ?_ ?_ ?_ ?_
          · rw [e35]
            have M := M31
            rw [aq_fun (up_ne _ _ (by decide)), q16] at M
            exact okM_s M hX (by omega)
          · rw [up_same, ag_fun ((F35 302 rfl).trans ((up_ne _ _ (by decide)).trans ((F31 302 rfl).trans ((up_ne _ _ (by decide)).trans ((F23 302 rfl).trans ((up_ne _ _ (by decide)).trans (F16 302 rfl)))))))]
          · rw [up_ne _ _ (by decide), F35 303 rfl, up_ne _ _ (by decide), F31 303 rfl, up_ne _ _ (by decide), F23 303 rfl, up_same, ag_fun (F16 303 rfl)]
          · rw [up_ne _ _ (by decide), F35 304 rfl, up_ne _ _ (by decide), F31 304 rfl, up_same, ag_fun ((F23 304 rfl).trans ((up_ne _ _ (by decide)).trans (F16 304 rfl))), aq_fun (up_ne _ _ (by decide)), q16]
          · rw [up_ne _ _ (by decide), F35 305 rfl, up_same, ag_fun ((F31 305 rfl).trans ((up_ne _ _ (by decide)).trans ((F23 305 rfl).trans ((up_ne _ _ (by decide)).trans (F16 305 rfl)))))]
        · skip
          have hf0_W35 := mf_0 W35
          have hf9_W35 := mf_9 W35
          refine wq_go rfl (fun _ => rfl) ?_
          refine wq_getf rfl (by first | rfl | assumption) (by first | decide | omega | assumption) (mb_o (mf_b W35)) rfl ?_
          refine wq_top (mf_13 W35 :) ?_
          refine wq_zne rfl (by first | omega | decide | exact Nat.lt_of_le_of_lt Nat.and_le_right (by decide) | exact ⟨by omega, by omega⟩) (fun c38 => ?_) (fun c => absurd (show _ from by omega) c)
          refine wq_end rfl (fun _ => rfl) ?_
          exact K0 f35 t31 bn _ _ (by rw [m16, bnd_o, m23, bnd_o, m31, bnd_o, m35]) W35
      · skip
        skip
        refine wq_iast rfl (by first | rfl | assumption) (by first | decide | omega | assumption) (mb_a (mf_b W31) (by decide) : IsA σ31 305 20) rfl (by omega) (by first | decide | omega) ?_
        refine wq_go rfl (fun _ => rfl) ?_
        refine wq_cN (m := 4) rfl rfl ?_
        refine wq_callV rfl rfl (by first | rfl | assumption) (by first | decide | omega | assumption) (Nat.le_of_ble_eq_true rfl) (Nat.le_of_ble_eq_true rfl) rfl rfl ?_
        refine m_must_e (mrf_a2 W31 rfl (by decide) (by decide) (by decide) (show 10 * s ≤ _ from by omega) (show _ < 10 * s + 10 from by omega)) ?_
        have hf0_W31 := mf_0 W31
        have hf9_W31 := mf_9 W31
        refine wq_go rfl (fun _ => rfl) ?_
        refine wq_getf rfl (by first | rfl | assumption) (by first | decide | omega | assumption) ((up_ne _ _ (by decide)).trans (mb_o (mf_b W31))) rfl ?_
        refine wq_top (mf_13 W31 :) ?_
        refine wq_zne rfl (by first | omega | decide | exact Nat.lt_of_le_of_lt Nat.and_le_right (by decide) | exact ⟨by omega, by omega⟩) (fun c38 => ?_) (fun c => absurd (show _ from by omega) c)
        refine wq_end rfl (fun _ => rfl) ?_
        exact K0 f31 t23 bn _ _ (by rw [m16, bnd_o, m23, bnd_o, m31, bnd_e]) (mrf_a2 W31 rfl (by decide) (by decide) (by decide) (show 10 * s ≤ _ from by omega) (show _ < 10 * s + 10 from by omega))
    · skip
      refine wq_iast rfl (by first | rfl | assumption) (by first | decide | omega | assumption) (mb_a (mf_b W23) (by decide) : IsA σ23 304 20) rfl (by omega) (by first | decide | omega) ?_
      skip
      refine wq_go rfl (fun _ => rfl) ?_
      refine wq_getf rfl (by first | rfl | assumption) (by first | decide | omega | assumption) ((up_ne _ _ (by decide)).trans (mb_o (mf_b W23))) rfl ?_
      refine wq_go rfl (fun _ => rfl) ?_
      refine wq_go rfl (fun _ => rfl) ?_
      refine wq_cN (m := 0) rfl rfl ?_
      refine wq_cN (m := 23) rfl rfl ?_
      refine wq_callV rfl rfl (by first | rfl | assumption) (by first | decide | omega | assumption) (Nat.le_of_ble_eq_true rfl) (Nat.le_of_ble_eq_true rfl) rfl rfl ?_
      refine m_bnd_e2 (mrf_a2 W23 rfl (by decide) (by decide) (by decide) (show 10 * s ≤ _ from by omega) (show _ < 10 * s + 10 from by omega)) (fun σ31 F31 W31 => ?_)
      skip
      refine wq_iast rfl (by first | rfl | assumption) (by first | decide | omega | assumption) (mb_a (mf_b W31) (by decide) : IsA σ31 305 20) rfl (by omega) (by first | decide | omega) ?_
      refine wq_go rfl (fun _ => rfl) ?_
      refine wq_cN (m := 4) rfl rfl ?_
      refine wq_callV rfl rfl (by first | rfl | assumption) (by first | decide | omega | assumption) (Nat.le_of_ble_eq_true rfl) (Nat.le_of_ble_eq_true rfl) rfl rfl ?_
      refine m_must_e (mrf_a2 W31 rfl (by decide) (by decide) (by decide) (show 10 * s ≤ _ from by omega) (show _ < 10 * s + 10 from by omega)) ?_
      have hf0_W31 := mf_0 W31
      have hf9_W31 := mf_9 W31
      refine wq_go rfl (fun _ => rfl) ?_
      refine wq_getf rfl (by first | rfl | assumption) (by first | decide | omega | assumption) ((up_ne _ _ (by decide)).trans (mb_o (mf_b W31))) rfl ?_
      refine wq_top (mf_13 W31 :) ?_
      refine wq_zne rfl (by first | omega | decide | exact Nat.lt_of_le_of_lt Nat.and_le_right (by decide) | exact ⟨by omega, by omega⟩) (fun c38 => ?_) (fun c => absurd (show _ from by omega) c)
      refine wq_end rfl (fun _ => rfl) ?_
      exact K0 f23 t16 bn _ _ (by rw [m16, bnd_o, m23, bnd_e]) (mrf_a2 W31 rfl (by decide) (by decide) (by decide) (show 10 * s ≤ _ from by omega) (show _ < 10 * s + 10 from by omega))
  · skip
    refine wq_iast rfl (by first | rfl | assumption) (by first | decide | omega | assumption) (mb_a (mf_b W16) (by decide) : IsA σ16 303 20) rfl (by omega) (by first | decide | omega) ?_
    skip
    refine wq_go rfl (fun _ => rfl) ?_
    refine wq_getf rfl (by first | rfl | assumption) (by first | decide | omega | assumption) ((up_ne _ _ (by decide)).trans (mb_o (mf_b W16))) rfl ?_
    refine wq_go rfl (fun _ => rfl) ?_
    refine wq_go rfl (fun _ => rfl) ?_
    refine wq_cN (m := 0) rfl rfl ?_
    refine wq_callV rfl rfl (by first | rfl | assumption) (by first | decide | omega | assumption) (Nat.le_of_ble_eq_true rfl) (Nat.le_of_ble_eq_true rfl) rfl rfl ?_
    refine m_kn_e (mrf_a2 W16 rfl (by decide) (by decide) (by decide) (show 10 * s ≤ _ from by omega) (show _ < 10 * s + 10 from by omega)) ?_
    refine wq_iast rfl (by first | rfl | assumption) (by first | decide | omega | assumption) ((up_ne _ _ (by decide)).trans (mb_a (mf_b W16) (by decide) : IsA σ16 304 20)) rfl (by omega) (by first | decide | omega) ?_
    skip
    refine wq_go rfl (fun _ => rfl) ?_
    refine wq_getf rfl (by first | rfl | assumption) (by first | decide | omega | assumption) ((up_ne _ _ (by decide)).trans ((up_ne _ _ (by decide)).trans (mb_o (mf_b W16)))) rfl ?_
    refine wq_go rfl (fun _ => rfl) ?_
    refine wq_go rfl (fun _ => rfl) ?_
    refine wq_cN (m := 0) rfl rfl ?_
    refine wq_cN (m := 23) rfl rfl ?_
    refine wq_callV rfl rfl (by first | rfl | assumption) (by first | decide | omega | assumption) (Nat.le_of_ble_eq_true rfl) (Nat.le_of_ble_eq_true rfl) rfl rfl ?_
    refine m_bnd_e2 (mrf_a2 (mrf_a2 W16 rfl (by decide) (by decide) (by decide) (show 10 * s ≤ _ from by omega) (show _ < 10 * s + 10 from by omega)) (ag_fun (up_ne _ _ (by decide))) (by decide) (by decide) (by decide) (show 10 * s ≤ _ from by omega) (show _ < 10 * s + 10 from by omega)) (fun σ31 F31 W31 => ?_)
    skip
    refine wq_iast rfl (by first | rfl | assumption) (by first | decide | omega | assumption) (mb_a (mf_b W31) (by decide) : IsA σ31 305 20) rfl (by omega) (by first | decide | omega) ?_
    refine wq_go rfl (fun _ => rfl) ?_
    refine wq_cN (m := 4) rfl rfl ?_
    refine wq_callV rfl rfl (by first | rfl | assumption) (by first | decide | omega | assumption) (Nat.le_of_ble_eq_true rfl) (Nat.le_of_ble_eq_true rfl) rfl rfl ?_
    refine m_must_e (mrf_a2 W31 rfl (by decide) (by decide) (by decide) (show 10 * s ≤ _ from by omega) (show _ < 10 * s + 10 from by omega)) ?_
    have hf0_W31 := mf_0 W31
    have hf9_W31 := mf_9 W31
    refine wq_go rfl (fun _ => rfl) ?_
    refine wq_getf rfl (by first | rfl | assumption) (by first | decide | omega | assumption) ((up_ne _ _ (by decide)).trans (mb_o (mf_b W31))) rfl ?_
    refine wq_top (mf_13 W31 :) ?_
    refine wq_zne rfl (by first | omega | decide | exact Nat.lt_of_le_of_lt Nat.and_le_right (by decide) | exact ⟨by omega, by omega⟩) (fun c38 => ?_) (fun c => absurd (show _ from by omega) c)
    refine wq_end rfl (fun _ => rfl) ?_
    exact K0 f16 t bn _ _ (by rw [m16, bnd_e]) (mrf_a2 W31 rfl (by decide) (by decide) (by decide) (show 10 * s ≤ _ from by omega) (show _ < 10 * s + 10 from by omega))
theorem m_t6f {xs : List Int32} {d : Nat} {σ : Nat → List Value} {Q : Option Value → (Nat → List Value) → Prop} {B : Bs} {X : Tx} {s t bn cn nn : Nat} {w : Option (Nat × Nat)} {g : Nat → Int32} (hW : MrW B X s t 0 bn cn nn w g σ) (hk : Xk X t = 0) (hnc : ag σ 297 s = nI 4) (K : ∀ g' σ', MrF B X s 2 (Xp X t) bn g' σ' → Q none σ') : Wq xs (d + 6) ax_cd233 6 [(0, .ref 287)] [] σ Q := by
  have hX := mb_X (mw_b hW)
  have ht := mw_t hW
  have hr := mw_r hW
  have hs2 := mb_2 (mw_b hW)
  have hkt := mkK_le _ (hX.1 t)
  have hpt := hX.2.2.1 t
  refine wq_go rfl (fun _ => rfl) ?_
  refine wq_go rfl (fun _ => rfl) ?_
  refine wq_getf rfl (by first | rfl | assumption) (by first | decide | omega | assumption) (mb_o (mw_b hW)) rfl ?_
  refine wq_go rfl (fun _ => rfl) ?_
  refine wq_getf rfl (by first | rfl | assumption) (by first | decide | omega | assumption) (mb_o (mw_b hW)) rfl ?_
  refine wq_top (mb_19 (mw_b hW) :) ?_
  refine wq_iald rfl (by first | rfl | assumption) (by first | decide | omega | assumption) (mb_a (mw_b hW) (by decide) : IsA σ 297 2) rfl (by omega) (by first | decide | omega) ?_
  refine wq_top hnc ?_
  refine wq_cN (m := 4) rfl rfl ?_
  refine wq_callV rfl rfl (by first | rfl | assumption) (by first | decide | omega | assumption) (Nat.le_of_ble_eq_true rfl) (Nat.le_of_ble_eq_true rfl) rfl rfl ?_
  refine m_room hW ⟨by omega, by omega⟩ (a := 4) (m := 4) (by omega) (by decide) (fun g2 σ2 a2 h2 F2 W2 => absurd a2 (by omega)) (fun g2 σ2 h2 F2 W2 => ?_)
  have hf0 := mf_0 W2
  have hf9 := mf_9 W2
  refine wq_go rfl (fun _ => rfl) ?_
  refine wq_getf rfl (by first | rfl | assumption) (by first | decide | omega | assumption) (mb_o (mf_b W2)) rfl ?_
  refine wq_top (mf_13 W2 :) ?_
  refine wq_zle rfl (by first | omega | decide | exact Nat.lt_of_le_of_lt Nat.and_le_right (by decide) | exact ⟨by omega, by omega⟩) (fun c => absurd c (by omega)) (fun c16 => ?_)
  refine wq_end rfl (fun _ => rfl) ?_
  exact K g2 σ2 W2
theorem m_t59f {xs : List Int32} {d : Nat} {σ : Nat → List Value} {Q : Option Value → (Nat → List Value) → Prop} {B : Bs} {X : Tx} {s t bn cn nn : Nat} {w : Option (Nat × Nat)} {g : Nat → Int32} (hW : MrW B X s t 0 bn cn nn w g σ) (hk : Xk X t = 1) (hnc : ag σ 299 s = nI 5) (K : ∀ g' σ', MrF B X s 2 (Xp X t) bn g' σ' → Q none σ') : Wq xs (d + 6) ax_cd233 59 [(0, .ref 287)] [] σ Q := by
  have hX := mb_X (mw_b hW)
  have ht := mw_t hW
  have hr := mw_r hW
  have hs2 := mb_2 (mw_b hW)
  have hkt := mkK_le _ (hX.1 t)
  have hpt := hX.2.2.1 t
  refine wq_go rfl (fun _ => rfl) ?_
  refine wq_go rfl (fun _ => rfl) ?_
  refine wq_getf rfl (by first | rfl | assumption) (by first | decide | omega | assumption) (mb_o (mw_b hW)) rfl ?_
  refine wq_go rfl (fun _ => rfl) ?_
  refine wq_getf rfl (by first | rfl | assumption) (by first | decide | omega | assumption) (mb_o (mw_b hW)) rfl ?_
  refine wq_top (mb_19 (mw_b hW) :) ?_
  refine wq_iald rfl (by first | rfl | assumption) (by first | decide | omega | assumption) (mb_a (mw_b hW) (by decide) : IsA σ 299 2) rfl (by omega) (by first | decide | omega) ?_
  refine wq_top hnc ?_
  refine wq_cN (m := 5) rfl rfl ?_
  refine wq_callV rfl rfl (by first | rfl | assumption) (by first | decide | omega | assumption) (Nat.le_of_ble_eq_true rfl) (Nat.le_of_ble_eq_true rfl) rfl rfl ?_
  refine m_room hW ⟨by omega, by omega⟩ (a := 5) (m := 5) (by omega) (by decide) (fun g2 σ2 a2 h2 F2 W2 => absurd a2 (by omega)) (fun g2 σ2 h2 F2 W2 => ?_)
  have hf0 := mf_0 W2
  have hf9 := mf_9 W2
  refine wq_go rfl (fun _ => rfl) ?_
  refine wq_getf rfl (by first | rfl | assumption) (by first | decide | omega | assumption) (mb_o (mf_b W2)) rfl ?_
  refine wq_top (mf_13 W2 :) ?_
  refine wq_zle rfl (by first | omega | decide | exact Nat.lt_of_le_of_lt Nat.and_le_right (by decide) | exact ⟨by omega, by omega⟩) (fun c => absurd c (by omega)) (fun c69 => ?_)
  refine wq_end rfl (fun _ => rfl) ?_
  exact K g2 σ2 W2
theorem m_t142 {xs : List Int32} {d : Nat} {σ : Nat → List Value} {Q : Option Value → (Nat → List Value) → Prop} {B : Bs} {X : Tx} {s t bn cn nn nc : Nat} {w : Option (Nat × Nat)} {g : Nat → Int32} (hW : MrW B X s t 0 bn cn nn w g σ) (hk : Xk X t = 2) (hnc : ag σ 302 s = nI nc) (hnc4 : nc ≤ 10) (K1 : ∀ g' σ', nc < 10 → t < 400 → Fr x287 σ σ' → MrW B X s (t + 1) 0 bn cn nn w g' σ' → Wq xs (d + 5) ax_cd242 0 [(0, .ref 287)] [] σ' (fun r s' => r = none ∧ Q none s')) (K0 : ∀ g' σ', 10 ≤ nc ∨ t = 400 → Fr x287 σ σ' → MrF B X s 2 (Xp X t) bn g' σ' → Q none σ') : Wq xs (d + 6) ax_cd233 142 [(0, .ref 287)] [] σ Q := by
  have hX := mb_X (mw_b hW)
  have ht := mw_t hW
  have hr := mw_r hW
  have hs2 := mb_2 (mw_b hW)
  have hkt := mkK_le _ (hX.1 t)
  have hpt := hX.2.2.1 t
  refine wq_go rfl (fun _ => rfl) ?_
  refine wq_go rfl (fun _ => rfl) ?_
  refine wq_getf rfl (by first | rfl | assumption) (by first | decide | omega | assumption) (mb_o (mw_b hW)) rfl ?_
  refine wq_go rfl (fun _ => rfl) ?_
  refine wq_getf rfl (by first | rfl | assumption) (by first | decide | omega | assumption) (mb_o (mw_b hW)) rfl ?_
  refine wq_top (mb_19 (mw_b hW) :) ?_
  refine wq_iald rfl (by first | rfl | assumption) (by first | decide | omega | assumption) (mb_a (mw_b hW) (by decide) : IsA σ 302 2) rfl (by omega) (by first | decide | omega) ?_
  refine wq_top hnc ?_
  refine wq_cN (m := 10) rfl rfl ?_
  refine wq_callV rfl rfl (by first | rfl | assumption) (by first | decide | omega | assumption) (Nat.le_of_ble_eq_true rfl) (Nat.le_of_ble_eq_true rfl) rfl rfl ?_
  refine m_room hW ⟨by omega, by omega⟩ (a := nc) (m := 10) (by omega) (by decide) (fun g149 σ149 a149 h149 F149 W149 => ?_) (fun g149 σ149 h149 F149 W149 => ?_)
  · skip
    skip
    refine wq_go rfl (fun _ => rfl) ?_
    refine wq_getf rfl (by first | rfl | assumption) (by first | decide | omega | assumption) (mb_o (mw_b W149)) rfl ?_
    refine wq_top (mw_13 W149 :) ?_
    refine wq_zne rfl (by first | omega | decide | exact Nat.lt_of_le_of_lt Nat.and_le_right (by decide) | exact ⟨by omega, by omega⟩) (fun c => absurd c (by omega)) (fun c152 => ?_)
    refine wq_go rfl (fun _ => rfl) ?_
    refine wq_callV rfl rfl (by first | rfl | assumption) (by first | decide | omega | assumption) (Nat.le_of_ble_eq_true rfl) (Nat.le_of_ble_eq_true rfl) rfl rfl ?_
    refine Wq.mono (K1 g149 σ149 a149 h149 F149 W149) (fun r s' hq => ?_)
    obtain ⟨hr0, hq⟩ := hq
    subst hr0
    refine wq_go rfl (fun _ => rfl) ?_
    refine wq_end rfl (fun _ => rfl) ?_
    exact hq
  · skip
    have hf0_W149 := mf_0 W149
    have hf9_W149 := mf_9 W149
    refine wq_go rfl (fun _ => rfl) ?_
    refine wq_getf rfl (by first | rfl | assumption) (by first | decide | omega | assumption) (mb_o (mf_b W149)) rfl ?_
    refine wq_top (mf_13 W149 :) ?_
    refine wq_zne rfl (by first | omega | decide | exact Nat.lt_of_le_of_lt Nat.and_le_right (by decide) | exact ⟨by omega, by omega⟩) (fun c152 => ?_) (fun c => absurd (show _ from by omega) c)
    refine wq_end rfl (fun _ => rfl) ?_
    exact K0 g149 σ149 h149 F149 W149
theorem xC1_o {j : Nat} (h : 306 ≤ j) : xC1 j = false := by
  have a287 : (j == 287) = false := by simp; omega
  have a295 : (j == 295) = false := by simp; omega
  have a296 : (j == 296) = false := by simp; omega
  have a297 : (j == 297) = false := by simp; omega
  have a298 : (j == 298) = false := by simp; omega
  simp only [xC1, a287, a295, a296, a297, a298, Bool.or_false]
theorem xH1_o {j : Nat} (h : 306 ≤ j) : xH1 j = false := by
  have a287 : (j == 287) = false := by simp; omega
  have a295 : (j == 295) = false := by simp; omega
  have a296 : (j == 296) = false := by simp; omega
  have a299 : (j == 299) = false := by simp; omega
  have a300 : (j == 300) = false := by simp; omega
  have a301 : (j == 301) = false := by simp; omega
  simp only [xH1, a287, a295, a296, a299, a300, a301, Bool.or_false]
theorem xV1_o {j : Nat} (h : 306 ≤ j) : xV1 j = false := by
  have a287 : (j == 287) = false := by simp; omega
  have a302 : (j == 302) = false := by simp; omega
  have a303 : (j == 303) = false := by simp; omega
  have a304 : (j == 304) = false := by simp; omega
  have a305 : (j == 305) = false := by simp; omega
  simp only [xV1, a287, a302, a303, a304, a305, Bool.or_false]
theorem aq_z {σ : Nat → List Value} {p n k : Nat} {f : Nat → Int64} (h : σ p = arrL n f) (hk : ¬ k < n) : aq σ p k = 0 := by
  unfold aq
  rw [h, List.getElem?_eq_none (by rw [arrL_len]; omega)]
