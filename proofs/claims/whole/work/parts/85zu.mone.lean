/-! SETTINGS, LAWS, ONE DECLARATION, BY THE REFERENCE -/
theorem okM_j {X : Tx} {w : Option (Nat × Nat)} {t t' : Nat} (h : okM X w t) (hX : XOk X) (hr : rch X t') (hl : t ≤ t') : okM X w t' := by
  have : ∀ m, ∀ t, t + m = t' → okM X w t → okM X w t' := by
    intro m
    induction m with
    | zero => intro t e h; rw [← e]; exact h
    | succ m ih => intro t e h; exact ih (t + 1) (by omega) (okM_s h hX (hr t (by omega)).1)
  exact this (t' - t) t (by omega) h
theorem m_t156 {xs : List Int32} {d : Nat} {σ : Nat → List Value} {Q : Option Value → (Nat → List Value) → Prop} {B : Bs} {X : Tx} {s t bn cn nn : Nat} {w : Option (Nat × Nat)} {g : Nat → Int32} (hW : MrW B X s t 0 bn cn nn w g σ) (hM : okM X w t) (hk : Xk X t = 7) (K1 : ∀ t1 t2 t3 g' σ', adv t = .inr t1 → must X 24 t1 = .inr t2 → must X 25 t2 = .inr t3 → t1 = t + 1 → t3 = t + 3 → MrW B X s t3 0 bn cn nn (wn w (outB X t1 0 30) 5 (Xp X t1)) g' σ' → okM X (wn w (outB X t1 0 30) 5 (Xp X t1)) t3 → (∀ q, ¬ q = 287 → ¬ q = 306 → σ' q = σ q) → σ' 306 = arr 2 (upd (ag σ 306) s (nI (Xv X t1))) → Q none σ') (K0 : ∀ f' p' bn' g' σ', ((bnd (adv t) fun t1 => bnd (must X 24 t1) fun t2 => must X 25 t2) : Rs Nat) = er f' p' → MrF B X s f' (Xp X p') bn' g' σ' → Q none σ') : Wq xs (d + 6) ax_cd233 156 [(0, .ref 287)] [] σ Q := by
  have hX := mb_X (mw_b hW)
  have ht := mw_t hW
  have hr := mw_r hW
  have hs2 := mb_2 (mw_b hW)
  have hkt := mkK_le _ (hX.1 t)
  have hpt := hX.2.2.1 t
  refine wq_go rfl (fun _ => rfl) ?_
  refine wq_getf rfl (by first | rfl | assumption) (by first | decide | omega | assumption) (mb_o (mw_b hW)) rfl ?_
  refine wq_go rfl (fun _ => rfl) ?_
  refine wq_getf rfl (by first | rfl | assumption) (by first | decide | omega | assumption) (mb_o (mw_b hW)) rfl ?_
  refine wq_top (mb_19 (mw_b hW) :) ?_
  refine wq_go rfl (fun _ => rfl) ?_
  refine wq_cN (m := 0) rfl rfl ?_
  refine wq_cN (m := 30) rfl rfl ?_
  refine wq_callV rfl rfl (by first | rfl | assumption) (by first | decide | omega | assumption) (Nat.le_of_ble_eq_true rfl) (Nat.le_of_ble_eq_true rfl) rfl rfl ?_
  refine m_told hW hM ⟨by omega, by omega⟩ (lo := 0) (hi := 30) (by decide) (by decide) (fun t2 t3 g2 σ2 a1 m1 k1 m2 k2 e2 e3 F2 W2 => ?_) (fun f2 p2 x2 g2 σ2 e2 F2 W2 => ?_)
  · skip
    refine wq_iast rfl (by first | rfl | assumption) (by first | decide | omega | assumption) (mb_a (mw_b W2) (by decide) : IsA σ2 306 2) rfl (by omega) (by first | decide | omega) ?_
    refine wq_go rfl (fun _ => rfl) ?_
    refine wq_end rfl (fun _ => rfl) ?_
    refine K1 (t + 1) t2 t3 _ _ a1 m1 m2 rfl e3 (mrw_a2 W2 rfl (by decide) (by decide) (by decide) (show 1 * s ≤ _ from by omega) (show _ < 1 * s + 1 from by omega)) ?_ (fun q h1 h2 => (up_ne _ _ h2).trans (F2 q (by simp only [x287, beq_eq_false_iff_ne]; exact h1))) ?_
    · rw [show t3 = t + 1 + 1 + 1 by omega]
      exact okM_s (okM_w (okM_s hM hX (by omega)) hX (by omega)) hX (by rw [show t + 1 + 1 = t2 by omega]; omega)
    · rw [up_same, ag_fun (F2 306 rfl)]
  · skip
    refine wq_iast rfl (by first | rfl | assumption) (by first | decide | omega | assumption) (mb_a (mf_b W2) (by decide) : IsA σ2 306 2) rfl (by omega) (by first | decide | omega) ?_
    refine wq_go rfl (fun _ => rfl) ?_
    refine wq_end rfl (fun _ => rfl) ?_
    exact K0 f2 p2 bn _ _ e2 (mrf_a2 W2 rfl (by decide) (by decide) (by decide) (show 1 * s ≤ _ from by omega) (show _ < 1 * s + 1 from by omega))
theorem rm_s156 {xs : List Int32} {d : Nat} {σ : Nat → List Value} {Q : Option Value → (Nat → List Value) → Prop} {B : Bs} {X : Tx} {s bn cn nn : Nat} {G : Gs} {g : Nat → Int32} (h : RmG B X s G bn cn nn g σ) (hk : Xk X (Gt G) = 7) (K1 : ∀ G' bn' cn' nn' g' σ', settX X G 0 30 3 = .inr G' → Gt G < Gt G' → RmG B X s G' bn' cn' nn' g' σ' → Q none σ') (K0 : ∀ f' p' bn' g' σ', settX X G 0 30 3 = er f' p' → MrF B X s f' (Xp X p') bn' g' σ' → Q none σ') : Wq xs (d + 6) ax_cd233 156 [(0, .ref 287)] [] σ Q := by
  obtain ⟨hW, hM, hnn, b4, b5, b10, n7, n9, n2, hbn, hcn, a, ha, hC⟩ := h
  have hs2 := mb_2 (mw_b hW)
  refine m_t156 hW hM hk (fun t1 t2 t3 g' σ' a1 m1 m2 q1 q3 W' M' o e => ?_) (fun f' p' bn' g' σ' e W => K0 f' p' bn' g' σ' ?_ W)
  · refine K1 (t3, wn (Gw G) (outB X t1 0 30) 5 (Xp X t1), setN (GP G) 3 (Xv X t1), Gc G, Gh G) bn cn nn g' σ' ?_ (show Gt G < t3 by omega) ⟨W', M', hnn, b4, b5, b10, (ag_eq (o 297 (by decide) (by decide)) s).trans n7, (ag_eq (o 299 (by decide) (by decide)) s).trans n9, (ag_eq (o 302 (by decide) (by decide)) s).trans n2, (show 4 * bn ≤ t3 by omega), (show cn ≤ t3 by omega), a, fun k hk => ⟨(ag_eq (o 296 (by decide) (by decide)) k).trans (ha k hk).1, (ha k hk).2⟩, fun hw => ?_⟩
    · unfold settX
      simp only [intX, a1, m1, m2, bnd_o]
    · obtain ⟨c1, c2, c3, c4, c5, c6, c7, c8, c9, c10, c11, c12⟩ := hC (wn_ne _ hw).1
      refine ⟨fun i hi => (ag_eq (o 298 (by decide) (by decide)) _).trans (c1 i hi), fun i hi => (ag_eq (o 300 (by decide) (by decide)) _).trans (c2 i hi), fun i hi => (ag_eq (o 301 (by decide) (by decide)) _).trans (c3 i hi), fun i hi => (ag_eq (o 303 (by decide) (by decide)) _).trans (c4 i hi), fun i hi => (ag_eq (o 304 (by decide) (by decide)) _).trans (c5 i hi), fun i hi => (ag_eq (o 305 (by decide) (by decide)) _).trans (c6 i hi), ?_, (ag_eq (o 307 (by decide) (by decide)) s).trans c8, (ag_eq (o 308 (by decide) (by decide)) s).trans c9, (ag_eq (o 309 (by decide) (by decide)) s).trans c10, lwc_eq c11 rfl (fun j p q => o j (by omega) (by omega)), rn_eq c12 rfl rfl (aq_fun (o 295 (by decide) (by decide)))⟩
      rw [ag_arr e (by omega)]
      simp only [upd, if_true]
      rfl
  · unfold settX
    revert e
    cases adv (Gt G) with
    | inl v => exact fun e => er_c e
    | inr t1 =>
      rw [bnd_o, bnd_o]
      unfold intX
      show bnd (must X 24 t1) _ = _ → bnd (bnd (must X 24 t1) _) _ = _
      cases must X 24 t1 with
      | inl v => exact fun e => er_c e
      | inr t2 =>
        rw [bnd_o, bnd_o]
        show _ → bnd (must X 25 t2) _ = _
        cases must X 25 t2 with
        | inl v => exact fun e => er_c e
        | inr t3 => exact fun e => by cases e
theorem m_t166 {xs : List Int32} {d : Nat} {σ : Nat → List Value} {Q : Option Value → (Nat → List Value) → Prop} {B : Bs} {X : Tx} {s t bn cn nn : Nat} {w : Option (Nat × Nat)} {g : Nat → Int32} (hW : MrW B X s t 0 bn cn nn w g σ) (hM : okM X w t) (hk : Xk X t = 8) (K1 : ∀ t1 t2 t3 g' σ', adv t = .inr t1 → must X 24 t1 = .inr t2 → must X 25 t2 = .inr t3 → t1 = t + 1 → t3 = t + 3 → MrW B X s t3 0 bn cn nn (wn w (outB X t1 1 999) 5 (Xp X t1)) g' σ' → okM X (wn w (outB X t1 1 999) 5 (Xp X t1)) t3 → (∀ q, ¬ q = 287 → ¬ q = 307 → σ' q = σ q) → σ' 307 = arr 2 (upd (ag σ 307) s (nI (Xv X t1))) → Q none σ') (K0 : ∀ f' p' bn' g' σ', ((bnd (adv t) fun t1 => bnd (must X 24 t1) fun t2 => must X 25 t2) : Rs Nat) = er f' p' → MrF B X s f' (Xp X p') bn' g' σ' → Q none σ') : Wq xs (d + 6) ax_cd233 166 [(0, .ref 287)] [] σ Q := by
  have hX := mb_X (mw_b hW)
  have ht := mw_t hW
  have hr := mw_r hW
  have hs2 := mb_2 (mw_b hW)
  have hkt := mkK_le _ (hX.1 t)
  have hpt := hX.2.2.1 t
  refine wq_go rfl (fun _ => rfl) ?_
  refine wq_getf rfl (by first | rfl | assumption) (by first | decide | omega | assumption) (mb_o (mw_b hW)) rfl ?_
  refine wq_go rfl (fun _ => rfl) ?_
  refine wq_getf rfl (by first | rfl | assumption) (by first | decide | omega | assumption) (mb_o (mw_b hW)) rfl ?_
  refine wq_top (mb_19 (mw_b hW) :) ?_
  refine wq_go rfl (fun _ => rfl) ?_
  refine wq_cN (m := 1) rfl rfl ?_
  refine wq_cN (m := 999) rfl rfl ?_
  refine wq_callV rfl rfl (by first | rfl | assumption) (by first | decide | omega | assumption) (Nat.le_of_ble_eq_true rfl) (Nat.le_of_ble_eq_true rfl) rfl rfl ?_
  refine m_told hW hM ⟨by omega, by omega⟩ (lo := 1) (hi := 999) (by decide) (by decide) (fun t2 t3 g2 σ2 a1 m1 k1 m2 k2 e2 e3 F2 W2 => ?_) (fun f2 p2 x2 g2 σ2 e2 F2 W2 => ?_)
  · skip
    refine wq_iast rfl (by first | rfl | assumption) (by first | decide | omega | assumption) (mb_a (mw_b W2) (by decide) : IsA σ2 307 2) rfl (by omega) (by first | decide | omega) ?_
    refine wq_go rfl (fun _ => rfl) ?_
    refine wq_end rfl (fun _ => rfl) ?_
    refine K1 (t + 1) t2 t3 _ _ a1 m1 m2 rfl e3 (mrw_a2 W2 rfl (by decide) (by decide) (by decide) (show 1 * s ≤ _ from by omega) (show _ < 1 * s + 1 from by omega)) ?_ (fun q h1 h2 => (up_ne _ _ h2).trans (F2 q (by simp only [x287, beq_eq_false_iff_ne]; exact h1))) ?_
    · rw [show t3 = t + 1 + 1 + 1 by omega]
      exact okM_s (okM_w (okM_s hM hX (by omega)) hX (by omega)) hX (by rw [show t + 1 + 1 = t2 by omega]; omega)
    · rw [up_same, ag_fun (F2 307 rfl)]
  · skip
    refine wq_iast rfl (by first | rfl | assumption) (by first | decide | omega | assumption) (mb_a (mf_b W2) (by decide) : IsA σ2 307 2) rfl (by omega) (by first | decide | omega) ?_
    refine wq_go rfl (fun _ => rfl) ?_
    refine wq_end rfl (fun _ => rfl) ?_
    exact K0 f2 p2 bn _ _ e2 (mrf_a2 W2 rfl (by decide) (by decide) (by decide) (show 1 * s ≤ _ from by omega) (show _ < 1 * s + 1 from by omega))
theorem rm_s166 {xs : List Int32} {d : Nat} {σ : Nat → List Value} {Q : Option Value → (Nat → List Value) → Prop} {B : Bs} {X : Tx} {s bn cn nn : Nat} {G : Gs} {g : Nat → Int32} (h : RmG B X s G bn cn nn g σ) (hk : Xk X (Gt G) = 8) (K1 : ∀ G' bn' cn' nn' g' σ', settX X G 1 999 4 = .inr G' → Gt G < Gt G' → RmG B X s G' bn' cn' nn' g' σ' → Q none σ') (K0 : ∀ f' p' bn' g' σ', settX X G 1 999 4 = er f' p' → MrF B X s f' (Xp X p') bn' g' σ' → Q none σ') : Wq xs (d + 6) ax_cd233 166 [(0, .ref 287)] [] σ Q := by
  obtain ⟨hW, hM, hnn, b4, b5, b10, n7, n9, n2, hbn, hcn, a, ha, hC⟩ := h
  have hs2 := mb_2 (mw_b hW)
  refine m_t166 hW hM hk (fun t1 t2 t3 g' σ' a1 m1 m2 q1 q3 W' M' o e => ?_) (fun f' p' bn' g' σ' e W => K0 f' p' bn' g' σ' ?_ W)
  · refine K1 (t3, wn (Gw G) (outB X t1 1 999) 5 (Xp X t1), setN (GP G) 4 (Xv X t1), Gc G, Gh G) bn cn nn g' σ' ?_ (show Gt G < t3 by omega) ⟨W', M', hnn, b4, b5, b10, (ag_eq (o 297 (by decide) (by decide)) s).trans n7, (ag_eq (o 299 (by decide) (by decide)) s).trans n9, (ag_eq (o 302 (by decide) (by decide)) s).trans n2, (show 4 * bn ≤ t3 by omega), (show cn ≤ t3 by omega), a, fun k hk => ⟨(ag_eq (o 296 (by decide) (by decide)) k).trans (ha k hk).1, (ha k hk).2⟩, fun hw => ?_⟩
    · unfold settX
      simp only [intX, a1, m1, m2, bnd_o]
    · obtain ⟨c1, c2, c3, c4, c5, c6, c7, c8, c9, c10, c11, c12⟩ := hC (wn_ne _ hw).1
      refine ⟨fun i hi => (ag_eq (o 298 (by decide) (by decide)) _).trans (c1 i hi), fun i hi => (ag_eq (o 300 (by decide) (by decide)) _).trans (c2 i hi), fun i hi => (ag_eq (o 301 (by decide) (by decide)) _).trans (c3 i hi), fun i hi => (ag_eq (o 303 (by decide) (by decide)) _).trans (c4 i hi), fun i hi => (ag_eq (o 304 (by decide) (by decide)) _).trans (c5 i hi), fun i hi => (ag_eq (o 305 (by decide) (by decide)) _).trans (c6 i hi), (ag_eq (o 306 (by decide) (by decide)) s).trans c7, ?_, (ag_eq (o 308 (by decide) (by decide)) s).trans c9, (ag_eq (o 309 (by decide) (by decide)) s).trans c10, lwc_eq c11 rfl (fun j p q => o j (by omega) (by omega)), rn_eq c12 rfl rfl (aq_fun (o 295 (by decide) (by decide)))⟩
      rw [ag_arr e (by omega)]
      simp only [upd, if_true]
      rfl
  · unfold settX
    revert e
    cases adv (Gt G) with
    | inl v => exact fun e => er_c e
    | inr t1 =>
      rw [bnd_o, bnd_o]
      unfold intX
      show bnd (must X 24 t1) _ = _ → bnd (bnd (must X 24 t1) _) _ = _
      cases must X 24 t1 with
      | inl v => exact fun e => er_c e
      | inr t2 =>
        rw [bnd_o, bnd_o]
        show _ → bnd (must X 25 t2) _ = _
        cases must X 25 t2 with
        | inl v => exact fun e => er_c e
        | inr t3 => exact fun e => by cases e
theorem m_t176 {xs : List Int32} {d : Nat} {σ : Nat → List Value} {Q : Option Value → (Nat → List Value) → Prop} {B : Bs} {X : Tx} {s t bn cn nn : Nat} {w : Option (Nat × Nat)} {g : Nat → Int32} (hW : MrW B X s t 0 bn cn nn w g σ) (hM : okM X w t) (hk : Xk X t = 9) (K1 : ∀ t1 t2 t3 g' σ', adv t = .inr t1 → must X 24 t1 = .inr t2 → must X 25 t2 = .inr t3 → t1 = t + 1 → t3 = t + 3 → MrW B X s t3 0 bn cn nn (wn w (outB X t1 0 100) 5 (Xp X t1)) g' σ' → okM X (wn w (outB X t1 0 100) 5 (Xp X t1)) t3 → (∀ q, ¬ q = 287 → ¬ q = 308 → σ' q = σ q) → σ' 308 = arr 2 (upd (ag σ 308) s (nI (Xv X t1))) → Q none σ') (K0 : ∀ f' p' bn' g' σ', ((bnd (adv t) fun t1 => bnd (must X 24 t1) fun t2 => must X 25 t2) : Rs Nat) = er f' p' → MrF B X s f' (Xp X p') bn' g' σ' → Q none σ') : Wq xs (d + 6) ax_cd233 176 [(0, .ref 287)] [] σ Q := by
  have hX := mb_X (mw_b hW)
  have ht := mw_t hW
  have hr := mw_r hW
  have hs2 := mb_2 (mw_b hW)
  have hkt := mkK_le _ (hX.1 t)
  have hpt := hX.2.2.1 t
  refine wq_go rfl (fun _ => rfl) ?_
  refine wq_getf rfl (by first | rfl | assumption) (by first | decide | omega | assumption) (mb_o (mw_b hW)) rfl ?_
  refine wq_go rfl (fun _ => rfl) ?_
  refine wq_getf rfl (by first | rfl | assumption) (by first | decide | omega | assumption) (mb_o (mw_b hW)) rfl ?_
  refine wq_top (mb_19 (mw_b hW) :) ?_
  refine wq_go rfl (fun _ => rfl) ?_
  refine wq_cN (m := 0) rfl rfl ?_
  refine wq_cN (m := 100) rfl rfl ?_
  refine wq_callV rfl rfl (by first | rfl | assumption) (by first | decide | omega | assumption) (Nat.le_of_ble_eq_true rfl) (Nat.le_of_ble_eq_true rfl) rfl rfl ?_
  refine m_told hW hM ⟨by omega, by omega⟩ (lo := 0) (hi := 100) (by decide) (by decide) (fun t2 t3 g2 σ2 a1 m1 k1 m2 k2 e2 e3 F2 W2 => ?_) (fun f2 p2 x2 g2 σ2 e2 F2 W2 => ?_)
  · skip
    refine wq_iast rfl (by first | rfl | assumption) (by first | decide | omega | assumption) (mb_a (mw_b W2) (by decide) : IsA σ2 308 2) rfl (by omega) (by first | decide | omega) ?_
    refine wq_go rfl (fun _ => rfl) ?_
    refine wq_end rfl (fun _ => rfl) ?_
    refine K1 (t + 1) t2 t3 _ _ a1 m1 m2 rfl e3 (mrw_a2 W2 rfl (by decide) (by decide) (by decide) (show 1 * s ≤ _ from by omega) (show _ < 1 * s + 1 from by omega)) ?_ (fun q h1 h2 => (up_ne _ _ h2).trans (F2 q (by simp only [x287, beq_eq_false_iff_ne]; exact h1))) ?_
    · rw [show t3 = t + 1 + 1 + 1 by omega]
      exact okM_s (okM_w (okM_s hM hX (by omega)) hX (by omega)) hX (by rw [show t + 1 + 1 = t2 by omega]; omega)
    · rw [up_same, ag_fun (F2 308 rfl)]
  · skip
    refine wq_iast rfl (by first | rfl | assumption) (by first | decide | omega | assumption) (mb_a (mf_b W2) (by decide) : IsA σ2 308 2) rfl (by omega) (by first | decide | omega) ?_
    refine wq_go rfl (fun _ => rfl) ?_
    refine wq_end rfl (fun _ => rfl) ?_
    exact K0 f2 p2 bn _ _ e2 (mrf_a2 W2 rfl (by decide) (by decide) (by decide) (show 1 * s ≤ _ from by omega) (show _ < 1 * s + 1 from by omega))
theorem rm_s176 {xs : List Int32} {d : Nat} {σ : Nat → List Value} {Q : Option Value → (Nat → List Value) → Prop} {B : Bs} {X : Tx} {s bn cn nn : Nat} {G : Gs} {g : Nat → Int32} (h : RmG B X s G bn cn nn g σ) (hk : Xk X (Gt G) = 9) (K1 : ∀ G' bn' cn' nn' g' σ', settX X G 0 100 5 = .inr G' → Gt G < Gt G' → RmG B X s G' bn' cn' nn' g' σ' → Q none σ') (K0 : ∀ f' p' bn' g' σ', settX X G 0 100 5 = er f' p' → MrF B X s f' (Xp X p') bn' g' σ' → Q none σ') : Wq xs (d + 6) ax_cd233 176 [(0, .ref 287)] [] σ Q := by
  obtain ⟨hW, hM, hnn, b4, b5, b10, n7, n9, n2, hbn, hcn, a, ha, hC⟩ := h
  have hs2 := mb_2 (mw_b hW)
  refine m_t176 hW hM hk (fun t1 t2 t3 g' σ' a1 m1 m2 q1 q3 W' M' o e => ?_) (fun f' p' bn' g' σ' e W => K0 f' p' bn' g' σ' ?_ W)
  · refine K1 (t3, wn (Gw G) (outB X t1 0 100) 5 (Xp X t1), setN (GP G) 5 (Xv X t1), Gc G, Gh G) bn cn nn g' σ' ?_ (show Gt G < t3 by omega) ⟨W', M', hnn, b4, b5, b10, (ag_eq (o 297 (by decide) (by decide)) s).trans n7, (ag_eq (o 299 (by decide) (by decide)) s).trans n9, (ag_eq (o 302 (by decide) (by decide)) s).trans n2, (show 4 * bn ≤ t3 by omega), (show cn ≤ t3 by omega), a, fun k hk => ⟨(ag_eq (o 296 (by decide) (by decide)) k).trans (ha k hk).1, (ha k hk).2⟩, fun hw => ?_⟩
    · unfold settX
      simp only [intX, a1, m1, m2, bnd_o]
    · obtain ⟨c1, c2, c3, c4, c5, c6, c7, c8, c9, c10, c11, c12⟩ := hC (wn_ne _ hw).1
      refine ⟨fun i hi => (ag_eq (o 298 (by decide) (by decide)) _).trans (c1 i hi), fun i hi => (ag_eq (o 300 (by decide) (by decide)) _).trans (c2 i hi), fun i hi => (ag_eq (o 301 (by decide) (by decide)) _).trans (c3 i hi), fun i hi => (ag_eq (o 303 (by decide) (by decide)) _).trans (c4 i hi), fun i hi => (ag_eq (o 304 (by decide) (by decide)) _).trans (c5 i hi), fun i hi => (ag_eq (o 305 (by decide) (by decide)) _).trans (c6 i hi), (ag_eq (o 306 (by decide) (by decide)) s).trans c7, (ag_eq (o 307 (by decide) (by decide)) s).trans c8, ?_, (ag_eq (o 309 (by decide) (by decide)) s).trans c10, lwc_eq c11 rfl (fun j p q => o j (by omega) (by omega)), rn_eq c12 rfl rfl (aq_fun (o 295 (by decide) (by decide)))⟩
      rw [ag_arr e (by omega)]
      simp only [upd, if_true]
      rfl
  · unfold settX
    revert e
    cases adv (Gt G) with
    | inl v => exact fun e => er_c e
    | inr t1 =>
      rw [bnd_o, bnd_o]
      unfold intX
      show bnd (must X 24 t1) _ = _ → bnd (bnd (must X 24 t1) _) _ = _
      cases must X 24 t1 with
      | inl v => exact fun e => er_c e
      | inr t2 =>
        rw [bnd_o, bnd_o]
        show _ → bnd (must X 25 t2) _ = _
        cases must X 25 t2 with
        | inl v => exact fun e => er_c e
        | inr t3 => exact fun e => by cases e
theorem m_t186 {xs : List Int32} {d : Nat} {σ : Nat → List Value} {Q : Option Value → (Nat → List Value) → Prop} {B : Bs} {X : Tx} {s t bn cn nn : Nat} {w : Option (Nat × Nat)} {g : Nat → Int32} (hW : MrW B X s t 0 bn cn nn w g σ) (hM : okM X w t) (hk : Xk X t = 10) (K1 : ∀ t1 t2 t3 g' σ', adv t = .inr t1 → must X 24 t1 = .inr t2 → must X 25 t2 = .inr t3 → t1 = t + 1 → t3 = t + 3 → MrW B X s t3 0 bn cn nn (wn w (outB X t1 0 9999) 5 (Xp X t1)) g' σ' → okM X (wn w (outB X t1 0 9999) 5 (Xp X t1)) t3 → (∀ q, ¬ q = 287 → ¬ q = 309 → σ' q = σ q) → σ' 309 = arr 2 (upd (ag σ 309) s (nI (Xv X t1))) → Q none σ') (K0 : ∀ f' p' bn' g' σ', ((bnd (adv t) fun t1 => bnd (must X 24 t1) fun t2 => must X 25 t2) : Rs Nat) = er f' p' → MrF B X s f' (Xp X p') bn' g' σ' → Q none σ') : Wq xs (d + 6) ax_cd233 186 [(0, .ref 287)] [] σ Q := by
  have hX := mb_X (mw_b hW)
  have ht := mw_t hW
  have hr := mw_r hW
  have hs2 := mb_2 (mw_b hW)
  have hkt := mkK_le _ (hX.1 t)
  have hpt := hX.2.2.1 t
  refine wq_go rfl (fun _ => rfl) ?_
  refine wq_getf rfl (by first | rfl | assumption) (by first | decide | omega | assumption) (mb_o (mw_b hW)) rfl ?_
  refine wq_go rfl (fun _ => rfl) ?_
  refine wq_getf rfl (by first | rfl | assumption) (by first | decide | omega | assumption) (mb_o (mw_b hW)) rfl ?_
  refine wq_top (mb_19 (mw_b hW) :) ?_
  refine wq_go rfl (fun _ => rfl) ?_
  refine wq_cN (m := 0) rfl rfl ?_
  refine wq_cN (m := 9999) rfl rfl ?_
  refine wq_callV rfl rfl (by first | rfl | assumption) (by first | decide | omega | assumption) (Nat.le_of_ble_eq_true rfl) (Nat.le_of_ble_eq_true rfl) rfl rfl ?_
  refine m_told hW hM ⟨by omega, by omega⟩ (lo := 0) (hi := 9999) (by decide) (by decide) (fun t2 t3 g2 σ2 a1 m1 k1 m2 k2 e2 e3 F2 W2 => ?_) (fun f2 p2 x2 g2 σ2 e2 F2 W2 => ?_)
  · skip
    refine wq_iast rfl (by first | rfl | assumption) (by first | decide | omega | assumption) (mb_a (mw_b W2) (by decide) : IsA σ2 309 2) rfl (by omega) (by first | decide | omega) ?_
    refine wq_go rfl (fun _ => rfl) ?_
    refine wq_end rfl (fun _ => rfl) ?_
    refine K1 (t + 1) t2 t3 _ _ a1 m1 m2 rfl e3 (mrw_a2 W2 rfl (by decide) (by decide) (by decide) (show 1 * s ≤ _ from by omega) (show _ < 1 * s + 1 from by omega)) ?_ (fun q h1 h2 => (up_ne _ _ h2).trans (F2 q (by simp only [x287, beq_eq_false_iff_ne]; exact h1))) ?_
    · rw [show t3 = t + 1 + 1 + 1 by omega]
      exact okM_s (okM_w (okM_s hM hX (by omega)) hX (by omega)) hX (by rw [show t + 1 + 1 = t2 by omega]; omega)
    · rw [up_same, ag_fun (F2 309 rfl)]
  · skip
    refine wq_iast rfl (by first | rfl | assumption) (by first | decide | omega | assumption) (mb_a (mf_b W2) (by decide) : IsA σ2 309 2) rfl (by omega) (by first | decide | omega) ?_
    refine wq_go rfl (fun _ => rfl) ?_
    refine wq_end rfl (fun _ => rfl) ?_
    exact K0 f2 p2 bn _ _ e2 (mrf_a2 W2 rfl (by decide) (by decide) (by decide) (show 1 * s ≤ _ from by omega) (show _ < 1 * s + 1 from by omega))
theorem rm_s186 {xs : List Int32} {d : Nat} {σ : Nat → List Value} {Q : Option Value → (Nat → List Value) → Prop} {B : Bs} {X : Tx} {s bn cn nn : Nat} {G : Gs} {g : Nat → Int32} (h : RmG B X s G bn cn nn g σ) (hk : Xk X (Gt G) = 10) (K1 : ∀ G' bn' cn' nn' g' σ', settX X G 0 9999 6 = .inr G' → Gt G < Gt G' → RmG B X s G' bn' cn' nn' g' σ' → Q none σ') (K0 : ∀ f' p' bn' g' σ', settX X G 0 9999 6 = er f' p' → MrF B X s f' (Xp X p') bn' g' σ' → Q none σ') : Wq xs (d + 6) ax_cd233 186 [(0, .ref 287)] [] σ Q := by
  obtain ⟨hW, hM, hnn, b4, b5, b10, n7, n9, n2, hbn, hcn, a, ha, hC⟩ := h
  have hs2 := mb_2 (mw_b hW)
  refine m_t186 hW hM hk (fun t1 t2 t3 g' σ' a1 m1 m2 q1 q3 W' M' o e => ?_) (fun f' p' bn' g' σ' e W => K0 f' p' bn' g' σ' ?_ W)
  · refine K1 (t3, wn (Gw G) (outB X t1 0 9999) 5 (Xp X t1), setN (GP G) 6 (Xv X t1), Gc G, Gh G) bn cn nn g' σ' ?_ (show Gt G < t3 by omega) ⟨W', M', hnn, b4, b5, b10, (ag_eq (o 297 (by decide) (by decide)) s).trans n7, (ag_eq (o 299 (by decide) (by decide)) s).trans n9, (ag_eq (o 302 (by decide) (by decide)) s).trans n2, (show 4 * bn ≤ t3 by omega), (show cn ≤ t3 by omega), a, fun k hk => ⟨(ag_eq (o 296 (by decide) (by decide)) k).trans (ha k hk).1, (ha k hk).2⟩, fun hw => ?_⟩
    · unfold settX
      simp only [intX, a1, m1, m2, bnd_o]
    · obtain ⟨c1, c2, c3, c4, c5, c6, c7, c8, c9, c10, c11, c12⟩ := hC (wn_ne _ hw).1
      refine ⟨fun i hi => (ag_eq (o 298 (by decide) (by decide)) _).trans (c1 i hi), fun i hi => (ag_eq (o 300 (by decide) (by decide)) _).trans (c2 i hi), fun i hi => (ag_eq (o 301 (by decide) (by decide)) _).trans (c3 i hi), fun i hi => (ag_eq (o 303 (by decide) (by decide)) _).trans (c4 i hi), fun i hi => (ag_eq (o 304 (by decide) (by decide)) _).trans (c5 i hi), fun i hi => (ag_eq (o 305 (by decide) (by decide)) _).trans (c6 i hi), (ag_eq (o 306 (by decide) (by decide)) s).trans c7, (ag_eq (o 307 (by decide) (by decide)) s).trans c8, (ag_eq (o 308 (by decide) (by decide)) s).trans c9, ?_, lwc_eq c11 rfl (fun j p q => o j (by omega) (by omega)), rn_eq c12 rfl rfl (aq_fun (o 295 (by decide) (by decide)))⟩
      rw [ag_arr e (by omega)]
      simp only [upd, if_true]
      rfl
  · unfold settX
    revert e
    cases adv (Gt G) with
    | inl v => exact fun e => er_c e
    | inr t1 =>
      rw [bnd_o, bnd_o]
      unfold intX
      show bnd (must X 24 t1) _ = _ → bnd (bnd (must X 24 t1) _) _ = _
      cases must X 24 t1 with
      | inl v => exact fun e => er_c e
      | inr t2 =>
        rw [bnd_o, bnd_o]
        show _ → bnd (must X 25 t2) _ = _
        cases must X 25 t2 with
        | inl v => exact fun e => er_c e
        | inr t3 => exact fun e => by cases e
theorem mkK_w : ∀ k, k ≤ 35 → ((3 ≤ k ∧ k ≤ 6) ↔ (23 ≤ mkK k ∧ mkK k ≤ 26)) := by decide +kernel
theorem mkK_3 : ∀ k, k ≤ 35 → 3 ≤ k → k ≤ 6 → mkK k - 23 = k - 3 := by decide +kernel
theorem m_t196n {xs : List Int32} {d : Nat} {σ : Nat → List Value} {Q : Option Value → (Nat → List Value) → Prop} {B : Bs} {X : Tx} {s t bn cn nn : Nat} {w : Option (Nat × Nat)} {g : Nat → Int32} (hW : MrW B X s t 0 bn cn nn w g σ) (hk : ¬ (3 ≤ Xk X t ∧ Xk X t ≤ 6)) (K : ∀ g' σ', MrF B X s 1 (Xp X t) bn g' σ' → Q none σ') : Wq xs (d + 6) ax_cd233 196 [(0, .ref 287)] [] σ Q := by
  have hX := mb_X (mw_b hW)
  have ht := mw_t hW
  have hr := mw_r hW
  have hs2 := mb_2 (mw_b hW)
  have hkt := mkK_le _ (hX.1 t)
  have hpt := hX.2.2.1 t
  have hmw := mkK_w _ (hX.1 t)
  refine wq_go rfl (fun _ => rfl) ?_
  refine wq_getf rfl (by first | rfl | assumption) (by first | decide | omega | assumption) (mb_o (mw_b hW)) rfl ?_
  refine wq_go rfl (fun _ => rfl) ?_
  refine wq_getf rfl (by first | rfl | assumption) (by first | decide | omega | assumption) (mb_o (mw_b hW)) rfl ?_
  refine wq_top (mw_11 hW :) ?_
  refine wq_iald rfl (by first | rfl | assumption) (by first | decide | omega | assumption) (mb_290 (mw_b hW)) rfl (by omega) (by first | decide | omega) ?_
  refine wq_top (mw_k hW) ?_
  refine wq_cN (m := 23) rfl rfl ?_
  refine wq_subZ rfl (nI_z _) (nI_z _) ?_
  refine wq_go rfl (fun _ => rfl) ?_
  refine wq_go rfl (fun _ => rfl) ?_
  refine wq_ylt rfl rfl (by first | omega | decide | exact Nat.lt_of_le_of_lt Nat.and_le_right (by decide) | exact ⟨by omega, by omega⟩) (fun c205 => ?_) (fun c205 => ?_)
  · skip
    refine wq_go rfl (fun _ => rfl) ?_
    refine wq_cN (m := 1) rfl rfl ?_
    refine wq_callV rfl rfl (by first | rfl | assumption) (by first | decide | omega | assumption) (Nat.le_of_ble_eq_true rfl) (Nat.le_of_ble_eq_true rfl) rfl rfl ?_
    refine m_fail hW (k := 1) (by decide) (fun g2 σ2 F2 G2 W2 => ?_)
    have hf0 := mf_0 W2
    have hf9 := mf_9 W2
    refine wq_go rfl (fun _ => rfl) ?_
    refine wq_getf rfl (by first | rfl | assumption) (by first | decide | omega | assumption) (mb_o (mf_b W2)) rfl ?_
    refine wq_top (mf_13 W2 :) ?_
    refine wq_zle rfl (by first | omega | decide | exact Nat.lt_of_le_of_lt Nat.and_le_right (by decide) | exact ⟨by omega, by omega⟩) (fun c => absurd c (by omega)) (fun c218 => ?_)
    refine wq_end rfl (fun _ => rfl) ?_
    exact K g2 σ2 W2
  · skip
    refine wq_go rfl (fun _ => rfl) ?_
    refine wq_getf rfl (by first | rfl | assumption) (by first | decide | omega | assumption) (mb_o (mw_b hW)) rfl ?_
    refine wq_go rfl (fun _ => rfl) ?_
    refine wq_getf rfl (by first | rfl | assumption) (by first | decide | omega | assumption) (mb_o (mw_b hW)) rfl ?_
    refine wq_top (mw_11 hW :) ?_
    refine wq_iald rfl (by first | rfl | assumption) (by first | decide | omega | assumption) (mb_290 (mw_b hW)) rfl (by omega) (by first | decide | omega) ?_
    refine wq_top (mw_k hW) ?_
    refine wq_cN (m := 26) rfl rfl ?_
    refine wq_cle rfl (by first | omega | decide | exact Nat.lt_of_le_of_lt Nat.and_le_right (by decide) | exact ⟨by omega, by omega⟩) (by first | omega | decide | exact Nat.lt_of_le_of_lt Nat.and_le_right (by decide) | exact ⟨by omega, by omega⟩) (fun c => absurd c (by omega)) (fun c212 => ?_)
    refine wq_go rfl (fun _ => rfl) ?_
    refine wq_cN (m := 1) rfl rfl ?_
    refine wq_callV rfl rfl (by first | rfl | assumption) (by first | decide | omega | assumption) (Nat.le_of_ble_eq_true rfl) (Nat.le_of_ble_eq_true rfl) rfl rfl ?_
    refine m_fail hW (k := 1) (by decide) (fun g2 σ2 F2 G2 W2 => ?_)
    have hf0 := mf_0 W2
    have hf9 := mf_9 W2
    refine wq_go rfl (fun _ => rfl) ?_
    refine wq_getf rfl (by first | rfl | assumption) (by first | decide | omega | assumption) (mb_o (mf_b W2)) rfl ?_
    refine wq_top (mf_13 W2 :) ?_
    refine wq_zle rfl (by first | omega | decide | exact Nat.lt_of_le_of_lt Nat.and_le_right (by decide) | exact ⟨by omega, by omega⟩) (fun c => absurd c (by omega)) (fun c218 => ?_)
    refine wq_end rfl (fun _ => rfl) ?_
    exact K g2 σ2 W2
theorem m_t196 {xs : List Int32} {d : Nat} {σ : Nat → List Value} {Q : Option Value → (Nat → List Value) → Prop} {B : Bs} {X : Tx} {s t bn cn nn : Nat} {w : Option (Nat × Nat)} {g : Nat → Int32} (hW : MrW B X s t 0 bn cn nn w g σ) (hk : 3 ≤ Xk X t ∧ Xk X t ≤ 6) (hbn : 4 * bn ≤ t) (K1 : ∀ g' σ', t < 400 → Fr x287 σ σ' → MrW B X s (t + 1) 0 bn cn nn w g' σ' → Wq xs (d + 5) ax_cd245 0 [(0, .ref 287), (1, .int (nI (Xk X t - 3)))] [] σ' (fun r s' => r = none ∧ Q none s')) (K0 : ∀ bn' g' σ', t = 400 → MrF B X s 2 (Xp X t) bn' g' σ' → Q none σ') : Wq xs (d + 6) ax_cd233 196 [(0, .ref 287)] [] σ Q := by
  have hX := mb_X (mw_b hW)
  have ht := mw_t hW
  have hr := mw_r hW
  have hs2 := mb_2 (mw_b hW)
  have hkt := mkK_le _ (hX.1 t)
  have hpt := hX.2.2.1 t
  have hmw := (mkK_w _ (hX.1 t)).mp hk
  have hml := mkK_3 _ (hX.1 t) hk.1 hk.2
  refine wq_go rfl (fun _ => rfl) ?_
  refine wq_getf rfl (by first | rfl | assumption) (by first | decide | omega | assumption) (mb_o (mw_b hW)) rfl ?_
  refine wq_go rfl (fun _ => rfl) ?_
  refine wq_getf rfl (by first | rfl | assumption) (by first | decide | omega | assumption) (mb_o (mw_b hW)) rfl ?_
  refine wq_top (mw_11 hW :) ?_
  refine wq_iald rfl (by first | rfl | assumption) (by first | decide | omega | assumption) (mb_290 (mw_b hW)) rfl (by omega) (by first | decide | omega) ?_
  refine wq_top (mw_k hW) ?_
  refine wq_cN (m := 23) rfl rfl ?_
  refine wq_subN rfl (by omega) ?_
  rw [hml]
  refine wq_go rfl (fun _ => rfl) ?_
  refine wq_go rfl (fun _ => rfl) ?_
  refine wq_zlt rfl (by first | omega | decide | exact Nat.lt_of_le_of_lt Nat.and_le_right (by decide) | exact ⟨by omega, by omega⟩) (fun c => absurd c (by omega)) (fun c205 => ?_)
  refine wq_go rfl (fun _ => rfl) ?_
  refine wq_getf rfl (by first | rfl | assumption) (by first | decide | omega | assumption) (mb_o (mw_b hW)) rfl ?_
  refine wq_go rfl (fun _ => rfl) ?_
  refine wq_getf rfl (by first | rfl | assumption) (by first | decide | omega | assumption) (mb_o (mw_b hW)) rfl ?_
  refine wq_top (mw_11 hW :) ?_
  refine wq_iald rfl (by first | rfl | assumption) (by first | decide | omega | assumption) (mb_290 (mw_b hW)) rfl (by omega) (by first | decide | omega) ?_
  refine wq_top (mw_k hW) ?_
  refine wq_cN (m := 26) rfl rfl ?_
  refine wq_cle rfl (by first | omega | decide | exact Nat.lt_of_le_of_lt Nat.and_le_right (by decide) | exact ⟨by omega, by omega⟩) (by first | omega | decide | exact Nat.lt_of_le_of_lt Nat.and_le_right (by decide) | exact ⟨by omega, by omega⟩) (fun c212 => ?_) (fun c => absurd (show _ from by omega) c)
  refine wq_go rfl (fun _ => rfl) ?_
  refine wq_getf rfl (by first | rfl | assumption) (by first | decide | omega | assumption) (mb_o (mw_b hW)) rfl ?_
  refine wq_top (mw_13 hW :) ?_
  refine wq_zle rfl (by first | omega | decide | exact Nat.lt_of_le_of_lt Nat.and_le_right (by decide) | exact ⟨by omega, by omega⟩) (fun c218 => ?_) (fun c => absurd (show _ from by omega) c)
  refine wq_go rfl (fun _ => rfl) ?_
  refine wq_callV rfl rfl (by first | rfl | assumption) (by first | decide | omega | assumption) (Nat.le_of_ble_eq_true rfl) (Nat.le_of_ble_eq_true rfl) rfl rfl ?_
  refine m_go hW ⟨by omega, by omega⟩ (fun g221 σ221 h221 F221 G221 W221 => ?_) (fun g221 σ221 h221 F221 G221 W221 => ?_)
  · skip
    refine wq_go rfl (fun _ => rfl) ?_
    refine wq_go rfl (fun _ => rfl) ?_
    refine wq_callV rfl rfl (by first | rfl | assumption) (by first | decide | omega | assumption) (Nat.le_of_ble_eq_true rfl) (Nat.le_of_ble_eq_true rfl) rfl rfl ?_
    refine Wq.mono (K1 g221 σ221 h221 F221 W221) (fun r s' hq => ?_)
    obtain ⟨hr0, hq⟩ := hq
    subst hr0
    refine wq_end rfl (fun _ => rfl) ?_
    exact hq
  · skip
    refine wq_go rfl (fun _ => rfl) ?_
    refine wq_go rfl (fun _ => rfl) ?_
    refine wq_callV rfl rfl (by first | rfl | assumption) (by first | decide | omega | assumption) (Nat.le_of_ble_eq_true rfl) (Nat.le_of_ble_eq_true rfl) rfl rfl ?_
    refine m_law_e W221 (by omega) (fun bn' g' σ' W => ?_)
    refine wq_end rfl (fun _ => rfl) ?_
    exact K0 bn' g' σ' h221 W
theorem rm_law {xs : List Int32} {d : Nat} {σ : Nat → List Value} {Q : Option Value → (Nat → List Value) → Prop} {B : Bs} {X : Tx} {s bn cn nn : Nat} {G : Gs} {g : Nat → Int32} (h : RmG B X s G bn cn nn g σ) (h3 : 3 ≤ Xk X (Gt G)) (K1 : ∀ G' bn' cn' nn' g' σ', lawG X G = .inr G' → Gt G < Gt G' → RmG B X s G' bn' cn' nn' g' σ' → Q none σ') (K0 : ∀ f' p' bn' g' σ', lawG X G = er f' p' → MrF B X s f' (Xp X p') bn' g' σ' → Q none σ') : Wq xs (d + 6) ax_cd233 196 [(0, .ref 287)] [] σ Q := by
  obtain ⟨hW, hM, hnn, b4, b5, b10, n7, n9, n2, hbn, hcn, a, ha, hC⟩ := h
  have hs2 := mb_2 (mw_b hW)
  have hX := mb_X (mw_b hW)
  have ht := mw_t hW
  by_cases hk : 3 ≤ Xk X (Gt G) ∧ Xk X (Gt G) ≤ 6
  · refine m_t196 hW hk hbn (fun g1 σ1 h4 F1 W1 => ?_) (fun bn' g' σ' h4 W => K0 2 (Gt G) bn' g' σ' ?_ W)
    · refine m_law (l := Xk X (Gt G) - 3) W1 (by omega) (by omega) (by omega) (fun t5 r z bn' cn' g' σ' e F W hb hc hbb hcc hR lc lb e0 e1 => ⟨rfl, ?_⟩) (fun f' p' bn' g' σ' e W => ⟨rfl, K0 f' p' bn' g' σ' ?_ W⟩)
      · have eD : lawD X (Gt G) = .inr (t5, r, z) := by
          unfold lawD
          rw [if_pos hk]
          unfold lawX
          rw [adv_y h4, bnd_o]
          exact e
        have wf := law_wf hX.2.1 ht eD
        have wt := mw_t W
        refine K1 (t5, Gw G, setL (GP G) (Xk X (Gt G) - 3) (r, z), Gc G, Gh G) bn' cn' nn g' σ' ?_ wf.2.1 ⟨W, ?_, hnn, b4, b5, b10, (ag_eq ((F 297 rfl).trans (F1 297 rfl)) s).trans n7, (ag_eq ((F 299 rfl).trans (F1 299 rfl)) s).trans n9, (ag_eq ((F 302 rfl).trans (F1 302 rfl)) s).trans n2, hb, hc, a, fun k hk => ⟨(ag_eq ((F 296 rfl).trans (F1 296 rfl)) k).trans (ha k hk).1, (ha k hk).2⟩, fun hw => ?_⟩
        · unfold lawG
          rw [eD, bnd_o]
        · exact okM_j hM hX (mw_r W) (Nat.le_of_lt wf.2.1)
        · obtain ⟨c1, c2, c3, c4, c5, c6, c7, c8, c9, c10, c11, c12⟩ := hC hw
          refine ⟨fun i hi => (ag_eq ((F 298 rfl).trans (F1 298 rfl)) _).trans (c1 i hi), fun i hi => (ag_eq ((F 300 rfl).trans (F1 300 rfl)) _).trans (c2 i hi), fun i hi => (ag_eq ((F 301 rfl).trans (F1 301 rfl)) _).trans (c3 i hi), fun i hi => (ag_eq ((F 303 rfl).trans (F1 303 rfl)) _).trans (c4 i hi), fun i hi => (ag_eq ((F 304 rfl).trans (F1 304 rfl)) _).trans (c5 i hi), fun i hi => (ag_eq ((F 305 rfl).trans (F1 305 rfl)) _).trans (c6 i hi), (ag_eq ((F 306 rfl).trans (F1 306 rfl)) s).trans c7, (ag_eq ((F 307 rfl).trans (F1 307 rfl)) s).trans c8, (ag_eq ((F 308 rfl).trans (F1 308 rfl)) s).trans c9, (ag_eq ((F 309 rfl).trans (F1 309 rfl)) s).trans c10, fun l hl => ?_, rn_eq c12 rfl rfl (aq_fun ((F 295 rfl).trans (F1 295 rfl)))⟩
          show ∃ f e, _ ∧ _ ∧ f ≤ 260 ∧ e ≤ 260 ∧ ∀ G', _ → ((f = e ∧ (if l = Xk X (Gt G) - 3 then (r, z) else Plw (GP G) l) = dfl l) ∨ brAt G' f e (if l = Xk X (Gt G) - 3 then (r, z) else Plw (GP G) l).1 (if l = Xk X (Gt G) - 3 then (r, z) else Plw (GP G) l).2)
          by_cases el : l = Xk X (Gt G) - 3
          · rw [if_pos el]
            refine ⟨130 * s + bn, 130 * s + bn', ?_, ?_, by omega, by omega, fun G' hG => Or.inr (hR G' ⟨fun j i p q r => hG.1 j i p (by omega) r, fun j i p q r => hG.2 j i p (by omega) r⟩)⟩
            · rw [ag_arr e0 (by omega)]
              unfold upd
              rw [if_pos (by omega)]
            · rw [ag_arr e1 (by omega)]
              unfold upd
              rw [if_pos (by omega)]
          · rw [if_neg el]
            obtain ⟨f, e', h1, h2, h3, h4, h5⟩ := c11 l hl
            refine ⟨f, e', ?_, ?_, h3, h4, fun G' hG => h5 G' ⟨fun j i p q r => ?_, fun j i p q r => ?_⟩⟩
            · rw [ag_arr e0 (by omega)]
              unfold upd
              rw [if_neg (by omega), ag_eq (F1 310 rfl)]
              exact h1
            · rw [ag_arr e1 (by omega)]
              unfold upd
              rw [if_neg (by omega), ag_eq (F1 311 rfl)]
              exact h2
            · rw [hG.1 j i p q (by omega), brg_j _ _ p, brg_j _ _ p, lb j i p (by omega)]
              exact ag_eq (F1 _ (by simp only [x287, beq_eq_false_iff_ne]; omega)) i
            · rw [hG.2 j i p q (by omega)]
              rcases (show j = 5 ∨ j = 6 ∨ 7 ≤ j by omega) with ej | ej | ej
              · subst ej
                exact (lc i (by omega)).1.trans (ag_eq (F1 317 rfl) i)
              · subst ej
                exact (lc i (by omega)).2.trans (ag_eq (F1 318 rfl) i)
              · unfold brG
                rw [if_neg (by omega), if_neg (by omega)]
      · unfold lawG lawD
        rw [if_pos hk]
        unfold lawX
        rw [adv_y h4, bnd_o, e, bnd_e]
    · unfold lawG lawD
      rw [if_pos hk]
      unfold lawX
      rw [h4, adv_n, bnd_e, bnd_e]
  · refine m_t196n hW hk (fun g' σ' W => K0 1 (Gt G) bn g' σ' ?_ W)
    unfold lawG lawD
    rw [if_neg hk, bnd_e]
theorem sw_tb0 : ∀ k, k ≤ 35 → (k == 0 || k == 1 || k == 2 || k == 7 || k == 8 || k == 9 || k == 10 || (List.lookup ((mkK k : Nat) : Int) ([(20, 6), (21, 59), (22, 142), (23, 196), (24, 196), (25, 196), (26, 196), (27, 156), (28, 166), (29, 176), (30, 186)] : List (Int × Nat))).getD 196 == 196) = true := by decide +kernel
theorem sw_tbl (k : Nat) (h : k ≤ 35) (h0 : ¬ k = 0) (h1 : ¬ k = 1) (h2 : ¬ k = 2) (h7 : ¬ k = 7) (h8 : ¬ k = 8) (h9 : ¬ k = 9) (h10 : ¬ k = 10) : (List.lookup ((mkK k : Nat) : Int) ([(20, 6), (21, 59), (22, 142), (23, 196), (24, 196), (25, 196), (26, 196), (27, 156), (28, 166), (29, 176), (30, 186)] : List (Int × Nat))).getD 196 = 196 := by
  have e := sw_tb0 k h
  simp only [Bool.or_eq_true, beq_iff_eq, h0, h1, h2, h7, h8, h9, h10, false_or] at e
  exact e
theorem m_one {xs : List Int32} {d : Nat} {σ : Nat → List Value} {Q : Option Value → (Nat → List Value) → Prop} {B : Bs} {X : Tx} {s bn cn nn : Nat} {G : Gs} {g : Nat → Int32} (h : RmG B X s G bn cn nn g σ) (K1 : ∀ G' bn' cn' nn' g' σ', declX X G = .inr G' → Gt G < Gt G' → RmG B X s G' bn' cn' nn' g' σ' → Q none σ') (K0 : ∀ f' p' bn' g' σ', declX X G = er f' p' → MrF B X s f' (Xp X p') bn' g' σ' → Q none σ') : Wq xs (d + 6) ax_cd233 0 [(0, .ref 287)] [] σ Q := by
  have hX := mb_X (mw_b h.1)
  have ht := mw_t h.1
  refine wq_go rfl (fun _ => rfl) ?_
  refine wq_getf rfl (by first | rfl | assumption) (by first | decide | omega | assumption) (mb_o (mw_b h.1)) rfl ?_
  refine wq_go rfl (fun _ => rfl) ?_
  refine wq_getf rfl (by first | rfl | assumption) (by first | decide | omega | assumption) (mb_o (mw_b h.1)) rfl ?_
  refine wq_top (mw_11 h.1 :) ?_
  refine wq_iald rfl (by first | rfl | assumption) (by first | decide | omega | assumption) (mb_290 (mw_b h.1)) rfl (by omega) (by first | decide | omega) ?_
  refine wq_top (mw_k h.1) ?_
  skip
  by_cases hk0 : Xk X (Gt G) = 0
  · have hd : declX X G = chairX X G := by
      unfold declX
      rw [hk0]
      rfl
    rw [hd] at K1 K0
    exact wq_swN (j := 20) rfl (by rw [hk0]; rfl) (by decide) rfl (rm_chair h hk0 K1 K0)
  by_cases hk1 : Xk X (Gt G) = 1
  · have hd : declX X G = headX X G := by
      unfold declX
      rw [hk1]
      rfl
    rw [hd] at K1 K0
    exact wq_swN (j := 21) rfl (by rw [hk1]; rfl) (by decide) rfl (rm_head h hk1 K1 K0)
  by_cases hk2 : Xk X (Gt G) = 2
  · have hd : declX X G = visitX X G := by
      unfold declX
      rw [hk2]
      rfl
    rw [hd] at K1 K0
    exact wq_swN (j := 22) rfl (by rw [hk2]; rfl) (by decide) rfl (rm_visit h hk2 K1 K0)
  by_cases hk7 : Xk X (Gt G) = 7
  · have hd : declX X G = settX X G 0 30 3 := by
      unfold declX
      rw [hk7]
      rfl
    rw [hd] at K1 K0
    exact wq_swN (j := 27) rfl (by rw [hk7]; rfl) (by decide) rfl (rm_s156 h hk7 K1 K0)
  by_cases hk8 : Xk X (Gt G) = 8
  · have hd : declX X G = settX X G 1 999 4 := by
      unfold declX
      rw [hk8]
      rfl
    rw [hd] at K1 K0
    exact wq_swN (j := 28) rfl (by rw [hk8]; rfl) (by decide) rfl (rm_s166 h hk8 K1 K0)
  by_cases hk9 : Xk X (Gt G) = 9
  · have hd : declX X G = settX X G 0 100 5 := by
      unfold declX
      rw [hk9]
      rfl
    rw [hd] at K1 K0
    exact wq_swN (j := 29) rfl (by rw [hk9]; rfl) (by decide) rfl (rm_s176 h hk9 K1 K0)
  by_cases hk10 : Xk X (Gt G) = 10
  · have hd : declX X G = settX X G 0 9999 6 := by
      unfold declX
      rw [hk10]
      rfl
    rw [hd] at K1 K0
    exact wq_swN (j := 30) rfl (by rw [hk10]; rfl) (by decide) rfl (rm_s186 h hk10 K1 K0)
  have hd : declX X G = lawG X G := by unfold declX; rw [if_neg hk0, if_neg hk1, if_neg hk2, if_neg hk7, if_neg hk8, if_neg hk9, if_neg hk10]
  rw [hd] at K1 K0
  exact wq_swN (j := mkK (Xk X (Gt G))) rfl rfl (Nat.lt_trans (mkK_le _ (hX.1 _)) (by decide)) (sw_tbl _ (hX.1 _) hk0 hk1 hk2 hk7 hk8 hk9 hk10) (rm_law h (by omega) K1 K0)
