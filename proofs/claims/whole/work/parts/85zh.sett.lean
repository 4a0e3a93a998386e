/-! SETTINGS, IN TERMS OF THE GRAMMAR -/
theorem rdw_y {X : Tx} {f t sc nc nh nv : Nat} {y y' : Nat → Int32} {w : Option (Nat × Nat)} {σ : Nat → List Value} (h : RdW X f t sc nc nh nv y w σ) : RdW X f t sc nc nh nv y' w (up σ 4 (drO sc nc nh nv y')) := by
  obtain ⟨⟨fp, h3⟩, _, h5, h6, h7, h8, h9, h10, h11, h12, h13⟩ := h
  exact ⟨⟨fp, (up_ne _ _ (by decide)).trans h3⟩, up_same _ _ _, h5, h6, h7, h8, shp_eq h9 (fun j a b => up_ne _ _ (by omega)), tkx_eq h10 (fun j a b => up_ne _ _ (by omega)), h11, h12, h13⟩
theorem drc_fr {P : Pl} {sc : Nat} {σ σ' : Nat → List Value} (h : DrC P sc σ) (o : ∀ j, 5 ≤ j → j ≤ 12 → σ' j = σ j) (P' : Pl) (e : ∀ j, j < 3 → P'.1 j = P.1 j) (e2 : P'.2 = P.2) (hP : Pok P') : DrC P' sc σ' := by
  obtain ⟨c1, c2, c3, c4, c5, c6, c7, c8⟩ := h
  obtain ⟨p1, p2⟩ := P'
  obtain ⟨q1, q2⟩ := P
  simp only at e e2
  subst e2
  have e0 := e 0 (by decide)
  have e1 := e 1 (by decide)
  have e2 := e 2 (by decide)
  refine ⟨fun i hi => (ag_eq (o 5 (by omega) (by omega)) i).trans (c1 i (by have hi : i < p1 0 := hi; show i < q1 0; omega)), fun i hi => (ag_eq (o 6 (by omega) (by omega)) i).trans (c2 i (by have hi : i < p1 1 := hi; show i < q1 1; omega)), fun i hi => (ag_eq (o 7 (by omega) (by omega)) i).trans (c3 i (by have hi : i < p1 1 * 4 := hi; show i < q1 1 * 4; omega)), fun i hi => (ag_eq (o 8 (by omega) (by omega)) i).trans (c4 i (by have hi : i < p1 2 := hi; show i < q1 2; omega)), fun i hi => (ag_eq (o 9 (by omega) (by omega)) i).trans (c5 i (by have hi : i < p1 2 := hi; show i < q1 2; omega)), fun i hi => (ag_eq (o 10 (by omega) (by omega)) i).trans (c6 i (by have hi : i < p1 2 := hi; show i < q1 2; omega)), fun l hl => ?_, hP⟩
  obtain ⟨s, s1, s2⟩ := c7 l hl
  exact ⟨s, (ag_eq (o 12 (by omega) (by omega)) l).trans s1, fun g' hg => s2 g' (fun i hi => (hg i hi).trans (ag_eq (o 11 (by omega) (by omega)) i))⟩
theorem g_set48 {xs : List Int32} {d : Nat} {σ : Nat → List Value} {Q : Option Value → (Nat → List Value) → Prop} {X : Tx} {G : Gs} {sc : Nat} {ii : Int32} (h : RdG X G sc σ) (hv : ∀ i, Xv X i < 10000) (hk : Xk X (Gt G) = 7) (K1 : ∀ G' σ', settX X G 0 30 3 = .inr G' → Gt G < Gt G' → Fr xD σ σ' → RdG X G' sc σ' → Wq xs (d + 24) ax_cd31 82 [(1, .int ii), (0, .ref 3)] [] σ' Q) (K0 : ∀ f' t' σ', settX X G 0 30 3 = er f' t' → Fr xD σ σ' → RdF X f' t' σ' → Wq xs (d + 24) ax_cd31 82 [(1, .int ii), (0, .ref 3)] [] σ' Q) : Wq xs (d + 24) ax_cd31 48 [(1, .int ii), (0, .ref 3)] [] σ Q := by
  obtain ⟨hL, hop, gc, gh, y, hW, hgc, hgh, hC⟩ := h
  have hW0 := hW
  obtain ⟨⟨fpl, h3⟩, h4, hsc, hnc, hnh, hnv, hsh, ⟨s, n15, fk, fp, fn, fm, h15, h17, h18, h19, h20, hs, ek, ep, en, em, el, e35⟩, ht, hr, hf⟩ := hW0
  have hk35 := e35 (Gt G)
  have hts := el (Gt G) ht hr
  refine wq_go rfl (fun _ => rfl) ?_
  refine wq_getf rfl (by first | rfl | assumption) (by first | decide | omega | assumption) h3 rfl ?_
  refine wq_go rfl (fun _ => rfl) ?_
  refine wq_cN (m := 0) rfl rfl ?_
  refine wq_cN (m := 30) rfl rfl ?_
  refine wq_callV rfl rfl (by first | rfl | assumption) (by first | decide | omega | assumption) (Nat.le_of_ble_eq_true rfl) (Nat.le_of_ble_eq_true rfl) rfl rfl ?_
  refine c_sett (lo := 0) (hi := 30) hW hL hv (by decide) (by decide) (by omega) (fun t1 t2 t3 σ1 m1 m2 m3 q3 F1 W1 => ?_) (fun f1 t1 x1 w1 σ1 e1 n1 F1 W1 => ?_)
  · skip
    refine wq_putf rfl (by first | rfl | assumption) (by first | decide | omega | assumption) W1.2.1 rfl rfl rfl (by first | exact Nat.le_of_ble_eq_true rfl | (simp; done)) ?_
    refine wq_go rfl (fun _ => rfl) ?_
    have W2 := rdw_y (y' := upd y 4 (nI (Xv X t1))) W1
    refine wq_lv ⟨(by decide : ([1, 0] : List Nat).Nodup), (lvm (List.mem_of_getElem? (i := 0) rfl) (lvm (List.mem_of_getElem? (i := 1) rfl) lvn))⟩ (K1 (t3, wn (Gw G) (outB X t1 0 30) 5 (Xp X t1), setN (GP G) 3 (Xv X t1), Gc G, Gh G) _ ?_ (show Gt G < t3 by omega) (fr_up (f3D F1) rfl) ⟨okL_n _ _ _ hL (by decide), (show sc ≤ 8 + t3 by omega), gc, gh, upd y 4 (nI (Xv X t1)), W2, (up_ne _ _ (by decide)).trans ((F1 13 rfl).trans hgc), (up_ne _ _ (by decide)).trans ((F1 14 rfl).trans hgh), fun hw => ?_⟩)
    · unfold settX
      simp only [intX, m1, m2, m3, bnd_o]
    · have w1 := wn_ne _ hw
      obtain ⟨dc, n1, n2, y4, y5, y6, y7⟩ := hC w1.1
      have b1 := of_decide_eq_false w1.2
      have hj : ∀ a, a < 3 → (setN (GP G) 3 (Xv X t1)).1 a = (GP G).1 a := fun a ha => if_neg (by omega)
      refine ⟨drc_fr dc (fun a h1 h2 => (up_ne _ _ (by omega)).trans (F1 a (by simp only [x3, beq_eq_false_iff_ne]; omega))) _ hj rfl ?_, n1, n2, rfl, y5, y6, y7⟩
      obtain ⟨h1, h2, h3, h4, h5, h6, h7, h8, h9⟩ := dc.2.2.2.2.2.2.2
      exact ⟨h1, h2, h3, (show Xv X t1 ≤ 30 by omega), h5, h6, h7, h8, h9⟩
  · skip
    refine wq_putf rfl (by first | rfl | assumption) (by first | decide | omega | assumption) W1.2.1 rfl rfl rfl (by first | exact Nat.le_of_ble_eq_true rfl | (simp; done)) ?_
    refine wq_go rfl (fun _ => rfl) ?_
    refine wq_lv ⟨(by decide : ([1, 0] : List Nat).Nodup), (lvm (List.mem_of_getElem? (i := 0) rfl) (lvm (List.mem_of_getElem? (i := 1) rfl) lvn))⟩ (K0 f1 t1 _ ?_ (fr_up (f3D F1) rfl) ⟨n1, sc, _, _, _, _, w1, rdw_y (y' := upd y 4 x1) W1⟩)
    unfold settX
    revert e1
    cases adv (Gt G) with
    | inl e => exact fun e => er_c e
    | inr a1 =>
      rw [bnd_o, bnd_o]
      unfold intX
      cases must X 24 a1 with
      | inl e => exact fun e => er_c e
      | inr a2 =>
        simp only [bnd_o]
        cases must X 25 a2 with
        | inl e => exact fun e => er_c e
        | inr a3 => exact fun e => by cases e
theorem g_set56 {xs : List Int32} {d : Nat} {σ : Nat → List Value} {Q : Option Value → (Nat → List Value) → Prop} {X : Tx} {G : Gs} {sc : Nat} {ii : Int32} (h : RdG X G sc σ) (hv : ∀ i, Xv X i < 10000) (hk : Xk X (Gt G) = 8) (K1 : ∀ G' σ', settX X G 1 999 4 = .inr G' → Gt G < Gt G' → Fr xD σ σ' → RdG X G' sc σ' → Wq xs (d + 24) ax_cd31 82 [(1, .int ii), (0, .ref 3)] [] σ' Q) (K0 : ∀ f' t' σ', settX X G 1 999 4 = er f' t' → Fr xD σ σ' → RdF X f' t' σ' → Wq xs (d + 24) ax_cd31 82 [(1, .int ii), (0, .ref 3)] [] σ' Q) : Wq xs (d + 24) ax_cd31 56 [(1, .int ii), (0, .ref 3)] [] σ Q := by
  obtain ⟨hL, hop, gc, gh, y, hW, hgc, hgh, hC⟩ := h
  have hW0 := hW
  obtain ⟨⟨fpl, h3⟩, h4, hsc, hnc, hnh, hnv, hsh, ⟨s, n15, fk, fp, fn, fm, h15, h17, h18, h19, h20, hs, ek, ep, en, em, el, e35⟩, ht, hr, hf⟩ := hW0
  have hk35 := e35 (Gt G)
  have hts := el (Gt G) ht hr
  refine wq_go rfl (fun _ => rfl) ?_
  refine wq_getf rfl (by first | rfl | assumption) (by first | decide | omega | assumption) h3 rfl ?_
  refine wq_go rfl (fun _ => rfl) ?_
  refine wq_cN (m := 1) rfl rfl ?_
  refine wq_cN (m := 999) rfl rfl ?_
  refine wq_callV rfl rfl (by first | rfl | assumption) (by first | decide | omega | assumption) (Nat.le_of_ble_eq_true rfl) (Nat.le_of_ble_eq_true rfl) rfl rfl ?_
  refine c_sett (lo := 1) (hi := 999) hW hL hv (by decide) (by decide) (by omega) (fun t1 t2 t3 σ1 m1 m2 m3 q3 F1 W1 => ?_) (fun f1 t1 x1 w1 σ1 e1 n1 F1 W1 => ?_)
  · skip
    refine wq_putf rfl (by first | rfl | assumption) (by first | decide | omega | assumption) W1.2.1 rfl rfl rfl (by first | exact Nat.le_of_ble_eq_true rfl | (simp; done)) ?_
    refine wq_go rfl (fun _ => rfl) ?_
    have W2 := rdw_y (y' := upd y 5 (nI (Xv X t1))) W1
    refine wq_lv ⟨(by decide : ([1, 0] : List Nat).Nodup), (lvm (List.mem_of_getElem? (i := 0) rfl) (lvm (List.mem_of_getElem? (i := 1) rfl) lvn))⟩ (K1 (t3, wn (Gw G) (outB X t1 1 999) 5 (Xp X t1), setN (GP G) 4 (Xv X t1), Gc G, Gh G) _ ?_ (show Gt G < t3 by omega) (fr_up (f3D F1) rfl) ⟨okL_n _ _ _ hL (by decide), (show sc ≤ 8 + t3 by omega), gc, gh, upd y 5 (nI (Xv X t1)), W2, (up_ne _ _ (by decide)).trans ((F1 13 rfl).trans hgc), (up_ne _ _ (by decide)).trans ((F1 14 rfl).trans hgh), fun hw => ?_⟩)
    · unfold settX
      simp only [intX, m1, m2, m3, bnd_o]
    · have w1 := wn_ne _ hw
      obtain ⟨dc, n1, n2, y4, y5, y6, y7⟩ := hC w1.1
      have b1 := of_decide_eq_false w1.2
      have hj : ∀ a, a < 3 → (setN (GP G) 4 (Xv X t1)).1 a = (GP G).1 a := fun a ha => if_neg (by omega)
      refine ⟨drc_fr dc (fun a h1 h2 => (up_ne _ _ (by omega)).trans (F1 a (by simp only [x3, beq_eq_false_iff_ne]; omega))) _ hj rfl ?_, n1, n2, y4, rfl, y6, y7⟩
      obtain ⟨h1, h2, h3, h4, h5, h6, h7, h8, h9⟩ := dc.2.2.2.2.2.2.2
      exact ⟨h1, h2, h3, h4, (show 1 ≤ Xv X t1 by omega), (show Xv X t1 ≤ 999 by omega), h7, h8, h9⟩
  · skip
    refine wq_putf rfl (by first | rfl | assumption) (by first | decide | omega | assumption) W1.2.1 rfl rfl rfl (by first | exact Nat.le_of_ble_eq_true rfl | (simp; done)) ?_
    refine wq_go rfl (fun _ => rfl) ?_
    refine wq_lv ⟨(by decide : ([1, 0] : List Nat).Nodup), (lvm (List.mem_of_getElem? (i := 0) rfl) (lvm (List.mem_of_getElem? (i := 1) rfl) lvn))⟩ (K0 f1 t1 _ ?_ (fr_up (f3D F1) rfl) ⟨n1, sc, _, _, _, _, w1, rdw_y (y' := upd y 5 x1) W1⟩)
    unfold settX
    revert e1
    cases adv (Gt G) with
    | inl e => exact fun e => er_c e
    | inr a1 =>
      rw [bnd_o, bnd_o]
      unfold intX
      cases must X 24 a1 with
      | inl e => exact fun e => er_c e
      | inr a2 =>
        simp only [bnd_o]
        cases must X 25 a2 with
        | inl e => exact fun e => er_c e
        | inr a3 => exact fun e => by cases e
theorem g_set64 {xs : List Int32} {d : Nat} {σ : Nat → List Value} {Q : Option Value → (Nat → List Value) → Prop} {X : Tx} {G : Gs} {sc : Nat} {ii : Int32} (h : RdG X G sc σ) (hv : ∀ i, Xv X i < 10000) (hk : Xk X (Gt G) = 9) (K1 : ∀ G' σ', settX X G 0 100 5 = .inr G' → Gt G < Gt G' → Fr xD σ σ' → RdG X G' sc σ' → Wq xs (d + 24) ax_cd31 82 [(1, .int ii), (0, .ref 3)] [] σ' Q) (K0 : ∀ f' t' σ', settX X G 0 100 5 = er f' t' → Fr xD σ σ' → RdF X f' t' σ' → Wq xs (d + 24) ax_cd31 82 [(1, .int ii), (0, .ref 3)] [] σ' Q) : Wq xs (d + 24) ax_cd31 64 [(1, .int ii), (0, .ref 3)] [] σ Q := by
  obtain ⟨hL, hop, gc, gh, y, hW, hgc, hgh, hC⟩ := h
  have hW0 := hW
  obtain ⟨⟨fpl, h3⟩, h4, hsc, hnc, hnh, hnv, hsh, ⟨s, n15, fk, fp, fn, fm, h15, h17, h18, h19, h20, hs, ek, ep, en, em, el, e35⟩, ht, hr, hf⟩ := hW0
  have hk35 := e35 (Gt G)
  have hts := el (Gt G) ht hr
  refine wq_go rfl (fun _ => rfl) ?_
  refine wq_getf rfl (by first | rfl | assumption) (by first | decide | omega | assumption) h3 rfl ?_
  refine wq_go rfl (fun _ => rfl) ?_
  refine wq_cN (m := 0) rfl rfl ?_
  refine wq_cN (m := 100) rfl rfl ?_
  refine wq_callV rfl rfl (by first | rfl | assumption) (by first | decide | omega | assumption) (Nat.le_of_ble_eq_true rfl) (Nat.le_of_ble_eq_true rfl) rfl rfl ?_
  refine c_sett (lo := 0) (hi := 100) hW hL hv (by decide) (by decide) (by omega) (fun t1 t2 t3 σ1 m1 m2 m3 q3 F1 W1 => ?_) (fun f1 t1 x1 w1 σ1 e1 n1 F1 W1 => ?_)
  · skip
    refine wq_putf rfl (by first | rfl | assumption) (by first | decide | omega | assumption) W1.2.1 rfl rfl rfl (by first | exact Nat.le_of_ble_eq_true rfl | (simp; done)) ?_
    refine wq_go rfl (fun _ => rfl) ?_
    have W2 := rdw_y (y' := upd y 6 (nI (Xv X t1))) W1
    refine wq_lv ⟨(by decide : ([1, 0] : List Nat).Nodup), (lvm (List.mem_of_getElem? (i := 0) rfl) (lvm (List.mem_of_getElem? (i := 1) rfl) lvn))⟩ (K1 (t3, wn (Gw G) (outB X t1 0 100) 5 (Xp X t1), setN (GP G) 5 (Xv X t1), Gc G, Gh G) _ ?_ (show Gt G < t3 by omega) (fr_up (f3D F1) rfl) ⟨okL_n _ _ _ hL (by decide), (show sc ≤ 8 + t3 by omega), gc, gh, upd y 6 (nI (Xv X t1)), W2, (up_ne _ _ (by decide)).trans ((F1 13 rfl).trans hgc), (up_ne _ _ (by decide)).trans ((F1 14 rfl).trans hgh), fun hw => ?_⟩)
    · unfold settX
      simp only [intX, m1, m2, m3, bnd_o]
    · have w1 := wn_ne _ hw
      obtain ⟨dc, n1, n2, y4, y5, y6, y7⟩ := hC w1.1
      have b1 := of_decide_eq_false w1.2
      have hj : ∀ a, a < 3 → (setN (GP G) 5 (Xv X t1)).1 a = (GP G).1 a := fun a ha => if_neg (by omega)
      refine ⟨drc_fr dc (fun a h1 h2 => (up_ne _ _ (by omega)).trans (F1 a (by simp only [x3, beq_eq_false_iff_ne]; omega))) _ hj rfl ?_, n1, n2, y4, y5, rfl, y7⟩
      obtain ⟨h1, h2, h3, h4, h5, h6, h7, h8, h9⟩ := dc.2.2.2.2.2.2.2
      exact ⟨h1, h2, h3, h4, h5, h6, (show Xv X t1 ≤ 100 by omega), h8, h9⟩
  · skip
    refine wq_putf rfl (by first | rfl | assumption) (by first | decide | omega | assumption) W1.2.1 rfl rfl rfl (by first | exact Nat.le_of_ble_eq_true rfl | (simp; done)) ?_
    refine wq_go rfl (fun _ => rfl) ?_
    refine wq_lv ⟨(by decide : ([1, 0] : List Nat).Nodup), (lvm (List.mem_of_getElem? (i := 0) rfl) (lvm (List.mem_of_getElem? (i := 1) rfl) lvn))⟩ (K0 f1 t1 _ ?_ (fr_up (f3D F1) rfl) ⟨n1, sc, _, _, _, _, w1, rdw_y (y' := upd y 6 x1) W1⟩)
    unfold settX
    revert e1
    cases adv (Gt G) with
    | inl e => exact fun e => er_c e
    | inr a1 =>
      rw [bnd_o, bnd_o]
      unfold intX
      cases must X 24 a1 with
      | inl e => exact fun e => er_c e
      | inr a2 =>
        simp only [bnd_o]
        cases must X 25 a2 with
        | inl e => exact fun e => er_c e
        | inr a3 => exact fun e => by cases e
theorem g_set72 {xs : List Int32} {d : Nat} {σ : Nat → List Value} {Q : Option Value → (Nat → List Value) → Prop} {X : Tx} {G : Gs} {sc : Nat} {ii : Int32} (h : RdG X G sc σ) (hv : ∀ i, Xv X i < 10000) (hk : Xk X (Gt G) = 10) (K1 : ∀ G' σ', settX X G 0 9999 6 = .inr G' → Gt G < Gt G' → Fr xD σ σ' → RdG X G' sc σ' → Wq xs (d + 24) ax_cd31 82 [(1, .int ii), (0, .ref 3)] [] σ' Q) (K0 : ∀ f' t' σ', settX X G 0 9999 6 = er f' t' → Fr xD σ σ' → RdF X f' t' σ' → Wq xs (d + 24) ax_cd31 82 [(1, .int ii), (0, .ref 3)] [] σ' Q) : Wq xs (d + 24) ax_cd31 72 [(1, .int ii), (0, .ref 3)] [] σ Q := by
  obtain ⟨hL, hop, gc, gh, y, hW, hgc, hgh, hC⟩ := h
  have hW0 := hW
  obtain ⟨⟨fpl, h3⟩, h4, hsc, hnc, hnh, hnv, hsh, ⟨s, n15, fk, fp, fn, fm, h15, h17, h18, h19, h20, hs, ek, ep, en, em, el, e35⟩, ht, hr, hf⟩ := hW0
  have hk35 := e35 (Gt G)
  have hts := el (Gt G) ht hr
  refine wq_go rfl (fun _ => rfl) ?_
  refine wq_getf rfl (by first | rfl | assumption) (by first | decide | omega | assumption) h3 rfl ?_
  refine wq_go rfl (fun _ => rfl) ?_
  refine wq_cN (m := 0) rfl rfl ?_
  refine wq_cN (m := 9999) rfl rfl ?_
  refine wq_callV rfl rfl (by first | rfl | assumption) (by first | decide | omega | assumption) (Nat.le_of_ble_eq_true rfl) (Nat.le_of_ble_eq_true rfl) rfl rfl ?_
  refine c_sett (lo := 0) (hi := 9999) hW hL hv (by decide) (by decide) (by omega) (fun t1 t2 t3 σ1 m1 m2 m3 q3 F1 W1 => ?_) (fun f1 t1 x1 w1 σ1 e1 n1 F1 W1 => ?_)
  · skip
    refine wq_putf rfl (by first | rfl | assumption) (by first | decide | omega | assumption) W1.2.1 rfl rfl rfl (by first | exact Nat.le_of_ble_eq_true rfl | (simp; done)) ?_
    refine wq_go rfl (fun _ => rfl) ?_
    have W2 := rdw_y (y' := upd y 7 (nI (Xv X t1))) W1
    refine wq_lv ⟨(by decide : ([1, 0] : List Nat).Nodup), (lvm (List.mem_of_getElem? (i := 0) rfl) (lvm (List.mem_of_getElem? (i := 1) rfl) lvn))⟩ (K1 (t3, wn (Gw G) (outB X t1 0 9999) 5 (Xp X t1), setN (GP G) 6 (Xv X t1), Gc G, Gh G) _ ?_ (show Gt G < t3 by omega) (fr_up (f3D F1) rfl) ⟨okL_n _ _ _ hL (by decide), (show sc ≤ 8 + t3 by omega), gc, gh, upd y 7 (nI (Xv X t1)), W2, (up_ne _ _ (by decide)).trans ((F1 13 rfl).trans hgc), (up_ne _ _ (by decide)).trans ((F1 14 rfl).trans hgh), fun hw => ?_⟩)
    · unfold settX
      simp only [intX, m1, m2, m3, bnd_o]
    · have w1 := wn_ne _ hw
      obtain ⟨dc, n1, n2, y4, y5, y6, y7⟩ := hC w1.1
      have b1 := of_decide_eq_false w1.2
      have hj : ∀ a, a < 3 → (setN (GP G) 6 (Xv X t1)).1 a = (GP G).1 a := fun a ha => if_neg (by omega)
      refine ⟨drc_fr dc (fun a h1 h2 => (up_ne _ _ (by omega)).trans (F1 a (by simp only [x3, beq_eq_false_iff_ne]; omega))) _ hj rfl ?_, n1, n2, y4, y5, y6, rfl⟩
      obtain ⟨h1, h2, h3, h4, h5, h6, h7, h8, h9⟩ := dc.2.2.2.2.2.2.2
      exact ⟨h1, h2, h3, h4, h5, h6, h7, (show Xv X t1 ≤ 9999 by omega), h9⟩
  · skip
    refine wq_putf rfl (by first | rfl | assumption) (by first | decide | omega | assumption) W1.2.1 rfl rfl rfl (by first | exact Nat.le_of_ble_eq_true rfl | (simp; done)) ?_
    refine wq_go rfl (fun _ => rfl) ?_
    refine wq_lv ⟨(by decide : ([1, 0] : List Nat).Nodup), (lvm (List.mem_of_getElem? (i := 0) rfl) (lvm (List.mem_of_getElem? (i := 1) rfl) lvn))⟩ (K0 f1 t1 _ ?_ (fr_up (f3D F1) rfl) ⟨n1, sc, _, _, _, _, w1, rdw_y (y' := upd y 7 x1) W1⟩)
    unfold settX
    revert e1
    cases adv (Gt G) with
    | inl e => exact fun e => er_c e
    | inr a1 =>
      rw [bnd_o, bnd_o]
      unfold intX
      cases must X 24 a1 with
      | inl e => exact fun e => er_c e
      | inr a2 =>
        simp only [bnd_o]
        cases must X 25 a2 with
        | inl e => exact fun e => er_c e
        | inr a3 => exact fun e => by cases e
