/-! HEADS BY THE CLASS -/
def xO : Nat → Bool := fun j => j == 3 || j == 7
def x7 : Nat → Bool := fun j => j == 7
theorem x3_O : ∀ j, x3 j = true → xO j = true := by
  intro j h
  simp only [x3] at h
  simp only [xO, h, Bool.true_or]
theorem x7_O : ∀ j, x7 j = true → xO j = true := by
  intro j h
  simp only [x7] at h
  simp only [xO, h, Bool.or_true]
theorem f3O {σ σ' : Nat → List Value} (F : Fr x3 σ σ') : Fr xO σ σ' := fr_mono F x3_O
theorem f7O {σ σ' : Nat → List Value} (F : Fr x7 σ σ') : Fr xO σ σ' := fr_mono F x7_O
theorem rdw_7 {X : Tx} {f t sc nc nh nv : Nat} {y : Nat → Int32} {w : Option (Nat × Nat)} {σ : Nat → List Value} {g : Nat → Int32} (h : RdW X f t sc nc nh nv y w σ) : RdW X f t sc nc nh nv y w (up σ 7 (arr 20 g)) := by
  obtain ⟨⟨fp, h3⟩, h4, h5, h6, h7, h8, h9, h10, h11, h12, h13⟩ := h
  exact ⟨⟨fp, (up_ne _ _ (by decide)).trans h3⟩, (up_ne _ _ (by decide)).trans h4, h5, h6, h7, h8, shp_a (f := g) h9 (by decide : (7, 20) ∈ shpl), tkx_eq h10 (fun j a b => up_ne _ _ (by omega)), h11, h12, h13⟩
theorem rdw_14 {X : Tx} {f t sc nc nh nv : Nat} {y : Nat → Int32} {w : Option (Nat × Nat)} {σ : Nat → List Value} {g : Nat → Int64} (h : RdW X f t sc nc nh nv y w σ) : RdW X f t sc nc nh nv y w (up σ 14 (arrL 5 g)) := by
  obtain ⟨⟨fp, h3⟩, h4, h5, h6, h7, h8, h9, h10, h11, h12, h13⟩ := h
  exact ⟨⟨fp, (up_ne _ _ (by decide)).trans h3⟩, (up_ne _ _ (by decide)).trans h4, h5, h6, h7, h8, shp_l h9 (Or.inr ⟨rfl, rfl⟩), tkx_eq h10 (fun j a b => up_ne _ _ (by omega)), h11, h12, h13⟩
theorem rdw_6 {X : Tx} {f t sc nc nh nv nh' : Nat} {y : Nat → Int32} {w : Option (Nat × Nat)} {σ : Nat → List Value} {g : Nat → Int32} (h : RdW X f t sc nc nh nv y w σ) (hs : nh' ≤ 5) : RdW X f t sc nc nh' nv y w (up (up σ 6 (arr 5 g)) 4 (drO sc nc nh' nv y)) := by
  obtain ⟨⟨fp, h3⟩, _, h5, h6, h7, h8, h9, h10, h11, h12, h13⟩ := h
  refine ⟨⟨fp, (up_ne _ _ (by decide)).trans ((up_ne _ _ (by decide)).trans h3)⟩, up_same _ _ _, h5, h6, hs, h8, ?_, tkx_eq h10 (fun j a b => (up_ne _ _ (by omega)).trans (up_ne _ _ (by omega))), h11, h12, h13⟩
  exact shp_eq (shp_a (f := g) h9 (by decide : (6, 5) ∈ shpl)) (fun j a b => up_ne _ _ (by omega))
theorem c_ownAny {xs : List Int32} {d : Nat} {σ : Nat → List Value} {Q : Option Value → (Nat → List Value) → Prop} {X : Tx} {f t sc nc nh nv : Nat} {y : Nat → Int32} {w : Option (Nat × Nat)} (hW : RdW X f t sc nc nh nv y w σ) {h th : Nat} {x : Int32} (hh : h ≤ 5) (hth : th < 4)  (K : ∀ σ', Fr x7 σ σ' → RdW X f t sc nc nh nv y w σ' → Q none σ') : Wq xs (d + 0) ax_cd61 0 [(0, .ref 4), (1, .int (nI h)), (2, .int (nI th)), (3, .int x)] [] σ Q := by
  have hW0 := hW
  obtain ⟨⟨fpl, h3⟩, h4, hsc, hnc, hnh, hnv, hsh, ⟨s, n15, fk, fp, fn, fm, h15, h17, h18, h19, h20, hs, ek, ep, en, em, el, e35⟩, ht, hr, hf⟩ := hW0
  have hk35 := e35 t
  have hts := el t ht hr
  refine wq_go rfl (fun _ => rfl) ?_
  refine wq_cN (m := 4) rfl rfl ?_
  refine wq_mulN rfl ?_
  refine wq_go rfl (fun _ => rfl) ?_
  refine wq_addN rfl ?_
  refine wq_go rfl (fun _ => rfl) ?_
  refine wq_go rfl (fun _ => rfl) ?_
  refine wq_zlt rfl (by first | omega | decide | exact Nat.lt_of_le_of_lt Nat.and_le_right (by decide) | exact ⟨by omega, by omega⟩) (fun c => absurd c (by omega)) (fun c7 => ?_)
  refine wq_go rfl (fun _ => rfl) ?_
  refine wq_go rfl (fun _ => rfl) ?_
  refine wq_getf rfl (by first | rfl | assumption) (by first | decide | omega | assumption) h4 rfl ?_
  refine wq_alen rfl (by first | rfl | assumption) (by first | decide | omega | assumption) rfl (shp_g hsh (by decide) : IsA σ 7 20) (arr_len _ _) ?_
  refine wq_cge rfl (by first | omega | decide | exact Nat.lt_of_le_of_lt Nat.and_le_right (by decide) | exact ⟨by omega, by omega⟩) (by first | omega | decide | exact Nat.lt_of_le_of_lt Nat.and_le_right (by decide) | exact ⟨by omega, by omega⟩) (fun c12 => ?_) (fun c12 => ?_)
  · skip
    refine wq_end rfl (fun _ => rfl) ?_
    first | exact K _ (fr_refl _ _) hW | exact K _ (fr_up (fr_refl x7 _) rfl) (rdw_7 hW)
  · skip
    refine wq_go rfl (fun _ => rfl) ?_
    refine wq_getf rfl (by first | rfl | assumption) (by first | decide | omega | assumption) h4 rfl ?_
    refine wq_go rfl (fun _ => rfl) ?_
    refine wq_go rfl (fun _ => rfl) ?_
    refine wq_iast rfl (by first | rfl | assumption) (by first | decide | omega | assumption) (shp_g hsh (by decide) : IsA σ 7 20) rfl (by omega) (by first | decide | omega) ?_
    refine wq_end rfl (fun _ => rfl) ?_
    first | exact K _ (fr_refl _ _) hW | exact K _ (fr_up (fr_refl x7 _) rfl) (rdw_7 hW)
theorem c_own {xs : List Int32} {d : Nat} {σ : Nat → List Value} {Q : Option Value → (Nat → List Value) → Prop} {X : Tx} {f t sc nc nh nv : Nat} {y : Nat → Int32} {w : Option (Nat × Nat)} (hW : RdW X f t sc nc nh nv y w σ) {h th : Nat} {x : Int32} (hh : h ≤ 5) (hth : th < 4) (h5 : h < 5)  (K : ∀ σ', Fr x7 σ σ' → RdW X f t sc nc nh nv y w σ' → ag σ' 7 (h * 4 + th) = x → (∀ i, i < 20 → ¬ i = h * 4 + th → ag σ' 7 i = ag σ 7 i) → Q none σ') : Wq xs (d + 0) ax_cd61 0 [(0, .ref 4), (1, .int (nI h)), (2, .int (nI th)), (3, .int x)] [] σ Q := by
  have hW0 := hW
  obtain ⟨⟨fpl, h3⟩, h4, hsc, hnc, hnh, hnv, hsh, ⟨s, n15, fk, fp, fn, fm, h15, h17, h18, h19, h20, hs, ek, ep, en, em, el, e35⟩, ht, hr, hf⟩ := hW0
  have hk35 := e35 t
  have hts := el t ht hr
  refine wq_go rfl (fun _ => rfl) ?_
  refine wq_cN (m := 4) rfl rfl ?_
  refine wq_mulN rfl ?_
  refine wq_go rfl (fun _ => rfl) ?_
  refine wq_addN rfl ?_
  refine wq_go rfl (fun _ => rfl) ?_
  refine wq_go rfl (fun _ => rfl) ?_
  refine wq_zlt rfl (by first | omega | decide | exact Nat.lt_of_le_of_lt Nat.and_le_right (by decide) | exact ⟨by omega, by omega⟩) (fun c => absurd c (by omega)) (fun c7 => ?_)
  refine wq_go rfl (fun _ => rfl) ?_
  refine wq_go rfl (fun _ => rfl) ?_
  refine wq_getf rfl (by first | rfl | assumption) (by first | decide | omega | assumption) h4 rfl ?_
  refine wq_alen rfl (by first | rfl | assumption) (by first | decide | omega | assumption) rfl (shp_g hsh (by decide) : IsA σ 7 20) (arr_len _ _) ?_
  refine wq_cge rfl (by first | omega | decide | exact Nat.lt_of_le_of_lt Nat.and_le_right (by decide) | exact ⟨by omega, by omega⟩) (by first | omega | decide | exact Nat.lt_of_le_of_lt Nat.and_le_right (by decide) | exact ⟨by omega, by omega⟩) (fun c => absurd c (by omega)) (fun c12 => ?_)
  refine wq_go rfl (fun _ => rfl) ?_
  refine wq_getf rfl (by first | rfl | assumption) (by first | decide | omega | assumption) h4 rfl ?_
  refine wq_go rfl (fun _ => rfl) ?_
  refine wq_go rfl (fun _ => rfl) ?_
  refine wq_iast rfl (by first | rfl | assumption) (by first | decide | omega | assumption) (shp_g hsh (by decide) : IsA σ 7 20) rfl (by omega) (by first | decide | omega) ?_
  refine wq_end rfl (fun _ => rfl) ?_
  refine K _ (fr_up (fr_refl x7 _) rfl) (rdw_7 hW) ?_ (fun i hi hne => ?_)
  · rw [ag_in (up_same _ _ _) (by omega)]
    simp only [upd, if_true]
  · rw [ag_in (up_same _ _ _) hi]
    simp only [upd]
    rw [if_neg hne]
theorem c_addH {xs : List Int32} {d : Nat} {σ : Nat → List Value} {Q : Option Value → (Nat → List Value) → Prop} {X : Tx} {f t sc nc nh nv : Nat} {y : Nat → Int32} {w : Option (Nat × Nat)} (hW : RdW X f t sc nc nh nv y w σ) {m : Nat} (hn : nh < 5)  (K : ∀ σ', σ' = up (up σ 6 (arr 5 (upd (ag σ 6) nh (nI m)))) 4 (drO sc nc (nh + 1) nv y) → RdW X f t sc nc (nh + 1) nv y w σ' → Q none σ') : Wq xs (d + 0) ax_cd62 0 [(0, .ref 4), (1, .int (nI m))] [] σ Q := by
  have hW0 := hW
  obtain ⟨⟨fpl, h3⟩, h4, hsc, hnc, hnh, hnv, hsh, ⟨s, n15, fk, fp, fn, fm, h15, h17, h18, h19, h20, hs, ek, ep, en, em, el, e35⟩, ht, hr, hf⟩ := hW0
  have hk35 := e35 t
  have hts := el t ht hr
  refine wq_go rfl (fun _ => rfl) ?_
  refine wq_getf rfl (by first | rfl | assumption) (by first | decide | omega | assumption) h4 rfl ?_
  refine wq_zlt rfl (by first | omega | decide | exact Nat.lt_of_le_of_lt Nat.and_le_right (by decide) | exact ⟨by omega, by omega⟩) (fun c => absurd c (by omega)) (fun c2 => ?_)
  refine wq_go rfl (fun _ => rfl) ?_
  refine wq_getf rfl (by first | rfl | assumption) (by first | decide | omega | assumption) h4 rfl ?_
  refine wq_go rfl (fun _ => rfl) ?_
  refine wq_getf rfl (by first | rfl | assumption) (by first | decide | omega | assumption) h4 rfl ?_
  refine wq_alen rfl (by first | rfl | assumption) (by first | decide | omega | assumption) rfl (shp_g hsh (by decide) : IsA σ 6 5) (arr_len _ _) ?_
  refine wq_cge rfl (by first | omega | decide | exact Nat.lt_of_le_of_lt Nat.and_le_right (by decide) | exact ⟨by omega, by omega⟩) (by first | omega | decide | exact Nat.lt_of_le_of_lt Nat.and_le_right (by decide) | exact ⟨by omega, by omega⟩) (fun c => absurd c (by omega)) (fun c8 => ?_)
  refine wq_go rfl (fun _ => rfl) ?_
  refine wq_getf rfl (by first | rfl | assumption) (by first | decide | omega | assumption) h4 rfl ?_
  refine wq_go rfl (fun _ => rfl) ?_
  refine wq_getf rfl (by first | rfl | assumption) (by first | decide | omega | assumption) h4 rfl ?_
  refine wq_go rfl (fun _ => rfl) ?_
  refine wq_iast rfl (by first | rfl | assumption) (by first | decide | omega | assumption) (shp_g hsh (by decide) : IsA σ 6 5) rfl (by omega) (by first | decide | omega) ?_
  refine wq_go rfl (fun _ => rfl) ?_
  refine wq_go rfl (fun _ => rfl) ?_
  refine wq_getf rfl (by first | rfl | assumption) (by first | decide | omega | assumption) ((up_ne _ _ (by decide)).trans h4) rfl ?_
  refine wq_cN (m := 1) rfl rfl ?_
  refine wq_addN rfl ?_
  refine wq_putf rfl (by first | rfl | assumption) (by first | decide | omega | assumption) ((up_ne _ _ (by decide)).trans h4) rfl rfl rfl (by first | exact Nat.le_of_ble_eq_true rfl | (simp; done)) ?_
  refine wq_end rfl (fun _ => rfl) ?_
  exact K _ rfl (rdw_6 hW (by omega))
theorem c_head {xs : List Int32} {d : Nat} {σ : Nat → List Value} {Q : Option Value → (Nat → List Value) → Prop} {X : Tx} {t sc nc nh nv : Nat} {y : Nat → Int32} {w : Option (Nat × Nat)} (hW : RdW X 0 t sc nc nh nv y w σ) {gc gh : Nat → Int64} (hgc : σ 13 = arrL 4 gc) (hgh : σ 14 = arrL 5 gh) (hL : okL w) (hv : ∀ i, Xv X i < 10000)  (K1 : ∀ t1 t2 t3 t4 t5 t6 t7 t8 σ', nh < 5 → must X 1 t = .inr t1 → must X 23 t1 = .inr t2 → must X 24 t2 = .inr t3 → must X 24 t3 = .inr t4 → must X 24 t4 = .inr t5 → must X 24 t5 = .inr t6 → must X 24 t6 = .inr t7 → must X 25 t7 = .inr t8 → t8 = t + 8 → RdW X 0 t8 sc nc (nh + 1) nv y (wn (wn (wn (wn (wn (wn w ((nmb gc nc (Xn X t1)).isSome || (nmb gh nh (Xn X t1)).isSome) 3 (Xp X t1)) (outB X t2 0 9) 5 (Xp X t2)) (outB X t3 0 99) 5 (Xp X t3)) (outB X t4 0 99) 5 (Xp X t4)) (outB X t5 0 99) 5 (Xp X t5)) (outB X t6 0 99) 5 (Xp X t6)) σ' → (∀ j, ¬ (j = 3 ∨ j = 4 ∨ j = 6 ∨ j = 7 ∨ j = 14) → σ' j = σ j) → σ' 4 = drO sc nc (nh + 1) nv y → σ' 6 = arr 5 (upd (ag σ 6) nh (nI (Xv X t2))) → σ' 14 = arrL 5 (vp_updL gh nh (Xn X t1)) → ag σ' 7 (nh * 4) = nI (Xv X t3) → ag σ' 7 (nh * 4 + 1) = nI (Xv X t4) → ag σ' 7 (nh * 4 + 2) = nI (Xv X t5) → ag σ' 7 (nh * 4 + 3) = nI (Xv X t6) → (∀ i, i < nh * 4 → ag σ' 7 i = ag σ 7 i) → Q none σ') (K0 : ∀ f' t' w' σ', (if 5 ≤ nh then er 2 t else bnd (must X 1 t) fun t1 => bnd (must X 23 t1) fun t2 => bnd (must X 24 t2) fun t3 => bnd (must X 24 t3) fun t4 => bnd (must X 24 t4) fun t5 => bnd (must X 24 t5) fun t6 => bnd (must X 24 t6) fun t7 => must X 25 t7) = er f' t' → ¬ f' = 0 → Fr xO σ σ' → RdW X f' t' sc nc nh nv y w' σ' → Q none σ') : Wq xs (d + 3) ax_cd60 0 [(0, .ref 3)] [] σ Q := by
  have hW0 := hW
  obtain ⟨⟨fpl, h3⟩, h4, hsc, hnc, hnh, hnv, hsh, ⟨s, n15, fk, fp, fn, fm, h15, h17, h18, h19, h20, hs, ek, ep, en, em, el, e35⟩, ht, hr, hf⟩ := hW0
  have hk35 := e35 t
  have hts := el t ht hr
  refine wq_go rfl (fun _ => rfl) ?_
  refine wq_go rfl (fun _ => rfl) ?_
  refine wq_getf rfl (by first | rfl | assumption) (by first | decide | omega | assumption) h3 rfl ?_
  refine wq_getf rfl (by first | rfl | assumption) (by first | decide | omega | assumption) h4 rfl ?_
  refine wq_cN (m := 5) rfl rfl ?_
  refine wq_callV rfl rfl (by first | rfl | assumption) (by first | decide | omega | assumption) (Nat.le_of_ble_eq_true rfl) (Nat.le_of_ble_eq_true rfl) rfl rfl ?_
  by_cases hn : nh < 5
  · refine c_more_e (a := nh) (m := 5) hW (Or.inr hn) (by omega) (by decide) ?_
    refine wq_go rfl (fun _ => rfl) ?_
    refine wq_cN (m := 1) rfl rfl ?_
    refine wq_callV rfl rfl (by first | rfl | assumption) (by first | decide | omega | assumption) (Nat.le_of_ble_eq_true rfl) (Nat.le_of_ble_eq_true rfl) rfl rfl ?_
    refine c_acc hW (by decide) (fun t1 σ1 m1 q1 k1 F1 W1 => ?_) (fun f1 σ1 m1 n1 u1 F1 W1 => ?_)
    · skip
      refine wq_go rfl (fun _ => rfl) ?_
      refine wq_go rfl (fun _ => rfl) ?_
      refine wq_callV rfl rfl (by first | rfl | assumption) (by first | decide | omega | assumption) (Nat.le_of_ble_eq_true rfl) (Nat.le_of_ble_eq_true rfl) rfl rfl ?_
      refine c_newN (gc := gc) (gh := gh) W1 ((F1 13 rfl).trans hgc) ((F1 14 rfl).trans hgh) hL (fun t2 σ2 m2 q2 F2 W2 => ?_) (fun f2 x2 w2 σ2 m2 n2 F2 W2 => ?_)
      · skip
        refine wq_go rfl (fun _ => rfl) ?_
        refine wq_go rfl (fun _ => rfl) ?_
        refine wq_cN (m := 0) rfl rfl ?_
        refine wq_cN (m := 9) rfl rfl ?_
        refine wq_callV rfl rfl (by first | rfl | assumption) (by first | decide | omega | assumption) (Nat.le_of_ble_eq_true rfl) (Nat.le_of_ble_eq_true rfl) rfl rfl ?_
        refine c_tin (lo := 0) (hi := 9) W2 (okL_n _ _ _ hL (by decide)) hv (by omega) (by omega) (fun t3 σ3 m3 q3 k3 F3 W3 => ?_) (fun f3 x3 w3 σ3 m3 n3 u3 F3 W3 => ?_)
        · skip
          refine wq_go rfl (fun _ => rfl) ?_
          refine wq_cN (m := 0) rfl rfl ?_
          refine wq_go rfl (fun _ => rfl) ?_
          refine wq_go rfl (fun _ => rfl) ?_
          refine wq_cN (m := 4) rfl rfl ?_
          refine wq_cge rfl (by first | omega | decide | exact Nat.lt_of_le_of_lt Nat.and_le_right (by decide) | exact ⟨by omega, by omega⟩) (by first | omega | decide | exact Nat.lt_of_le_of_lt Nat.and_le_right (by decide) | exact ⟨by omega, by omega⟩) (fun c => absurd c (by omega)) (fun c22 => ?_)
          refine wq_go rfl (fun _ => rfl) ?_
          refine wq_getf rfl (by first | rfl | assumption) (by first | decide | omega | assumption) (Classical.choose_spec W3.1) rfl ?_
          refine wq_go rfl (fun _ => rfl) ?_
          refine wq_getf rfl (by first | rfl | assumption) (by first | decide | omega | assumption) (Classical.choose_spec W3.1) rfl ?_
          refine wq_getf rfl (by first | rfl | assumption) (by first | decide | omega | assumption) W3.2.1 rfl ?_
          refine wq_go rfl (fun _ => rfl) ?_
          refine wq_go rfl (fun _ => rfl) ?_
          refine wq_cN (m := 0) rfl rfl ?_
          refine wq_cN (m := 99) rfl rfl ?_
          refine wq_callV rfl rfl (by first | rfl | assumption) (by first | decide | omega | assumption) (Nat.le_of_ble_eq_true rfl) (Nat.le_of_ble_eq_true rfl) rfl rfl ?_
          refine c_tin (lo := 0) (hi := 99) W3 (okL_n _ _ _ (okL_n _ _ _ hL (by decide)) (by decide)) hv (by omega) (by omega) (fun t4 σ4 m4 q4 k4 F4 W4 => ?_) (fun f4 x4 w4 σ4 m4 n4 u4 F4 W4 => ?_)
          · skip
            refine wq_callV rfl rfl (by first | rfl | assumption) (by first | decide | omega | assumption) (Nat.le_of_ble_eq_true rfl) (Nat.le_of_ble_eq_true rfl) rfl rfl ?_
            refine c_own W4 (by omega) (by omega) hn (fun τ4 G4 V4 a4 p4 => ?_)
            refine wq_incN rfl rfl rfl ?_
            refine wq_go rfl (fun _ => rfl) ?_
            refine wq_go rfl (fun _ => rfl) ?_
            refine wq_cN (m := 4) rfl rfl ?_
            refine wq_cge rfl (by first | omega | decide | exact Nat.lt_of_le_of_lt Nat.and_le_right (by decide) | exact ⟨by omega, by omega⟩) (by first | omega | decide | exact Nat.lt_of_le_of_lt Nat.and_le_right (by decide) | exact ⟨by omega, by omega⟩) (fun c => absurd c (by omega)) (fun c22 => ?_)
            refine wq_go rfl (fun _ => rfl) ?_
            refine wq_getf rfl (by first | rfl | assumption) (by first | decide | omega | assumption) (Classical.choose_spec V4.1) rfl ?_
            refine wq_go rfl (fun _ => rfl) ?_
            refine wq_getf rfl (by first | rfl | assumption) (by first | decide | omega | assumption) (Classical.choose_spec V4.1) rfl ?_
            refine wq_getf rfl (by first | rfl | assumption) (by first | decide | omega | assumption) V4.2.1 rfl ?_
            refine wq_go rfl (fun _ => rfl) ?_
            refine wq_go rfl (fun _ => rfl) ?_
            refine wq_cN (m := 0) rfl rfl ?_
            refine wq_cN (m := 99) rfl rfl ?_
            refine wq_callV rfl rfl (by first | rfl | assumption) (by first | decide | omega | assumption) (Nat.le_of_ble_eq_true rfl) (Nat.le_of_ble_eq_true rfl) rfl rfl ?_
            refine c_tin (lo := 0) (hi := 99) V4 (okL_n _ _ _ (okL_n _ _ _ (okL_n _ _ _ hL (by decide)) (by decide)) (by decide)) hv (by omega) (by omega) (fun t5 σ5 m5 q5 k5 F5 W5 => ?_) (fun f5 x5 w5 σ5 m5 n5 u5 F5 W5 => ?_)
            · skip
              refine wq_callV rfl rfl (by first | rfl | assumption) (by first | decide | omega | assumption) (Nat.le_of_ble_eq_true rfl) (Nat.le_of_ble_eq_true rfl) rfl rfl ?_
              refine c_own W5 (by omega) (by omega) hn (fun τ5 G5 V5 a5 p5 => ?_)
              refine wq_incN rfl rfl rfl ?_
              refine wq_go rfl (fun _ => rfl) ?_
              refine wq_go rfl (fun _ => rfl) ?_
              refine wq_cN (m := 4) rfl rfl ?_
              refine wq_cge rfl (by first | omega | decide | exact Nat.lt_of_le_of_lt Nat.and_le_right (by decide) | exact ⟨by omega, by omega⟩) (by first | omega | decide | exact Nat.lt_of_le_of_lt Nat.and_le_right (by decide) | exact ⟨by omega, by omega⟩) (fun c => absurd c (by omega)) (fun c22 => ?_)
              refine wq_go rfl (fun _ => rfl) ?_
              refine wq_getf rfl (by first | rfl | assumption) (by first | decide | omega | assumption) (Classical.choose_spec V5.1) rfl ?_
              refine wq_go rfl (fun _ => rfl) ?_
              refine wq_getf rfl (by first | rfl | assumption) (by first | decide | omega | assumption) (Classical.choose_spec V5.1) rfl ?_
              refine wq_getf rfl (by first | rfl | assumption) (by first | decide | omega | assumption) V5.2.1 rfl ?_
              refine wq_go rfl (fun _ => rfl) ?_
              refine wq_go rfl (fun _ => rfl) ?_
              refine wq_cN (m := 0) rfl rfl ?_
              refine wq_cN (m := 99) rfl rfl ?_
              refine wq_callV rfl rfl (by first | rfl | assumption) (by first | decide | omega | assumption) (Nat.le_of_ble_eq_true rfl) (Nat.le_of_ble_eq_true rfl) rfl rfl ?_
              refine c_tin (lo := 0) (hi := 99) V5 (okL_n _ _ _ (okL_n _ _ _ (okL_n _ _ _ (okL_n _ _ _ hL (by decide)) (by decide)) (by decide)) (by decide)) hv (by omega) (by omega) (fun t6 σ6 m6 q6 k6 F6 W6 => ?_) (fun f6 x6 w6 σ6 m6 n6 u6 F6 W6 => ?_)
              · skip
                refine wq_callV rfl rfl (by first | rfl | assumption) (by first | decide | omega | assumption) (Nat.le_of_ble_eq_true rfl) (Nat.le_of_ble_eq_true rfl) rfl rfl ?_
                refine c_own W6 (by omega) (by omega) hn (fun τ6 G6 V6 a6 p6 => ?_)
                refine wq_incN rfl rfl rfl ?_
                refine wq_go rfl (fun _ => rfl) ?_
                refine wq_go rfl (fun _ => rfl) ?_
                refine wq_cN (m := 4) rfl rfl ?_
                refine wq_cge rfl (by first | omega | decide | exact Nat.lt_of_le_of_lt Nat.and_le_right (by decide) | exact ⟨by omega, by omega⟩) (by first | omega | decide | exact Nat.lt_of_le_of_lt Nat.and_le_right (by decide) | exact ⟨by omega, by omega⟩) (fun c => absurd c (by omega)) (fun c22 => ?_)
                refine wq_go rfl (fun _ => rfl) ?_
                refine wq_getf rfl (by first | rfl | assumption) (by first | decide | omega | assumption) (Classical.choose_spec V6.1) rfl ?_
                refine wq_go rfl (fun _ => rfl) ?_
                refine wq_getf rfl (by first | rfl | assumption) (by first | decide | omega | assumption) (Classical.choose_spec V6.1) rfl ?_
                refine wq_getf rfl (by first | rfl | assumption) (by first | decide | omega | assumption) V6.2.1 rfl ?_
                refine wq_go rfl (fun _ => rfl) ?_
                refine wq_go rfl (fun _ => rfl) ?_
                refine wq_cN (m := 0) rfl rfl ?_
                refine wq_cN (m := 99) rfl rfl ?_
                refine wq_callV rfl rfl (by first | rfl | assumption) (by first | decide | omega | assumption) (Nat.le_of_ble_eq_true rfl) (Nat.le_of_ble_eq_true rfl) rfl rfl ?_
                refine c_tin (lo := 0) (hi := 99) V6 (okL_n _ _ _ (okL_n _ _ _ (okL_n _ _ _ (okL_n _ _ _ (okL_n _ _ _ hL (by decide)) (by decide)) (by decide)) (by decide)) (by decide)) hv (by omega) (by omega) (fun t7 σ7 m7 q7 k7 F7 W7 => ?_) (fun f7 x7 w7 σ7 m7 n7 u7 F7 W7 => ?_)
                · skip
                  refine wq_callV rfl rfl (by first | rfl | assumption) (by first | decide | omega | assumption) (Nat.le_of_ble_eq_true rfl) (Nat.le_of_ble_eq_true rfl) rfl rfl ?_
                  refine c_own W7 (by omega) (by omega) hn (fun τ7 G7 V7 a7 p7 => ?_)
                  refine wq_incN rfl rfl rfl ?_
                  refine wq_go rfl (fun _ => rfl) ?_
                  refine wq_go rfl (fun _ => rfl) ?_
                  refine wq_cN (m := 4) rfl rfl ?_
                  refine wq_cge rfl (by first | omega | decide | exact Nat.lt_of_le_of_lt Nat.and_le_right (by decide) | exact ⟨by omega, by omega⟩) (by first | omega | decide | exact Nat.lt_of_le_of_lt Nat.and_le_right (by decide) | exact ⟨by omega, by omega⟩) (fun c22 => ?_) (fun c => absurd (show _ from by omega) c)
                  refine wq_go rfl (fun _ => rfl) ?_
                  refine wq_cN (m := 25) rfl rfl ?_
                  refine wq_callV rfl rfl (by first | rfl | assumption) (by first | decide | omega | assumption) (Nat.le_of_ble_eq_true rfl) (Nat.le_of_ble_eq_true rfl) rfl rfl ?_
                  refine c_acc V7 (by decide) (fun t8 σ8 m8 q8 k8 F8 W8 => ?_) (fun f8 σ8 m8 n8 u8 F8 W8 => ?_)
                  · skip
                    refine wq_zeq rfl (by first | omega | decide | exact Nat.lt_of_le_of_lt Nat.and_le_right (by decide) | exact ⟨by omega, by omega⟩) (fun c => absurd c (by omega)) (fun c39 => ?_)
                    refine wq_go rfl (fun _ => rfl) ?_
                    refine wq_getf rfl (by first | rfl | assumption) (by first | decide | omega | assumption) (Classical.choose_spec W8.1) rfl ?_
                    refine wq_getf rfl (by first | rfl | assumption) (by first | decide | omega | assumption) W8.2.1 rfl ?_
                    refine wq_go rfl (fun _ => rfl) ?_
                    refine wq_getf rfl (by first | rfl | assumption) (by first | decide | omega | assumption) (Classical.choose_spec W8.1) rfl ?_
                    refine wq_alen rfl (by first | rfl | assumption) (by first | decide | omega | assumption) rfl ((F8 14 rfl).trans ((G7 14 rfl).trans ((F7 14 rfl).trans ((G6 14 rfl).trans ((F6 14 rfl).trans ((G5 14 rfl).trans ((F5 14 rfl).trans ((G4 14 rfl).trans ((F4 14 rfl).trans ((F3 14 rfl).trans ((F2 14 rfl).trans ((F1 14 rfl).trans hgh)))))))))))) (arrL_len _ _) ?_
                    refine wq_cge rfl (by first | omega | decide | exact Nat.lt_of_le_of_lt Nat.and_le_right (by decide) | exact ⟨by omega, by omega⟩) (by first | omega | decide | exact Nat.lt_of_le_of_lt Nat.and_le_right (by decide) | exact ⟨by omega, by omega⟩) (fun c => absurd c (by omega)) (fun c46 => ?_)
                    refine wq_go rfl (fun _ => rfl) ?_
                    refine wq_getf rfl (by first | rfl | assumption) (by first | decide | omega | assumption) (Classical.choose_spec W8.1) rfl ?_
                    refine wq_go rfl (fun _ => rfl) ?_
                    refine wq_getf rfl (by first | rfl | assumption) (by first | decide | omega | assumption) (Classical.choose_spec W8.1) rfl ?_
                    refine wq_getf rfl (by first | rfl | assumption) (by first | decide | omega | assumption) W8.2.1 rfl ?_
                    refine wq_go rfl (fun _ => rfl) ?_
                    refine wq_last rfl (by first | rfl | assumption) (by first | decide | omega | assumption) ((F8 14 rfl).trans ((G7 14 rfl).trans ((F7 14 rfl).trans ((G6 14 rfl).trans ((F6 14 rfl).trans ((G5 14 rfl).trans ((F5 14 rfl).trans ((G4 14 rfl).trans ((F4 14 rfl).trans ((F3 14 rfl).trans ((F2 14 rfl).trans ((F1 14 rfl).trans hgh)))))))))))) rfl (by omega) (by first | decide | omega) ?_
                    refine wq_go rfl (fun _ => rfl) ?_
                    refine wq_getf rfl (by first | rfl | assumption) (by first | decide | omega | assumption) ((up_ne _ _ (by decide)).trans (Classical.choose_spec W8.1)) rfl ?_
                    refine wq_go rfl (fun _ => rfl) ?_
                    refine wq_callV rfl rfl (by first | rfl | assumption) (by first | decide | omega | assumption) (Nat.le_of_ble_eq_true rfl) (Nat.le_of_ble_eq_true rfl) rfl rfl ?_
                    refine c_addH (rdw_14 W8) hn (fun σ9 E9 W9 => ?_)
                    refine wq_end rfl (fun _ => rfl) ?_
                    have fr8 : ∀ j, ¬ j = 3 → ¬ j = 7 → σ8 j = σ j := fun j hj hj7 => by
                      have hx : x3 j = false := by simp only [x3, beq_eq_false_iff_ne]; exact hj
                      have hz : x7 j = false := by simp only [x7, beq_eq_false_iff_ne]; exact hj7
                      exact (F8 j hx).trans ((G7 j hz).trans ((F7 j hx).trans ((G6 j hz).trans ((F6 j hx).trans ((G5 j hz).trans ((F5 j hx).trans ((G4 j hz).trans ((F4 j hx).trans ((F3 j hx).trans ((F2 j hx).trans (F1 j hx)))))))))))
                    have u7 : ∀ i, ag σ9 7 i = ag τ7 7 i := fun i => (ag_eq (by rw [E9, up_ne _ _ (by decide), up_ne _ _ (by decide), up_ne _ _ (by decide)]) i).trans (ag_eq (F8 7 rfl) i)
                    have v6 : ∀ i, i < 20 → ¬ i = nh * 4 + 3 → ag τ7 7 i = ag τ6 7 i := fun i h1 h2 => (p7 i h1 h2).trans (ag_eq (F7 7 rfl) i)
                    have v5 : ∀ i, i < 20 → ¬ i = nh * 4 + 2 → ag τ6 7 i = ag τ5 7 i := fun i h1 h2 => (p6 i h1 h2).trans (ag_eq (F6 7 rfl) i)
                    have v4 : ∀ i, i < 20 → ¬ i = nh * 4 + 1 → ag τ5 7 i = ag τ4 7 i := fun i h1 h2 => (p5 i h1 h2).trans (ag_eq (F5 7 rfl) i)
                    have v3 : ∀ i, i < 20 → ¬ i = nh * 4 → ag τ4 7 i = ag σ 7 i := fun i h1 h2 => (p4 i h1 h2).trans ((ag_eq (F4 7 rfl) i).trans ((ag_eq (F3 7 rfl) i).trans ((ag_eq (F2 7 rfl) i).trans (ag_eq (F1 7 rfl) i))))
                    refine K1 t1 t2 t3 t4 t5 t6 t7 t8 σ9 hn m1 m2 m3 m4 m5 m6 m7 m8 (by omega) W9 (fun j hj => ?_) ?_ ?_ ?_ ?_ ?_ ?_ ?_ (fun i hi => ?_)
                    · rw [E9, up_ne _ _ (by omega), up_ne _ _ (by omega), up_ne _ _ (by omega)]
                      exact fr8 j (by omega) (by omega)
                    · rw [E9]; exact up_same _ _ _
                    · rw [E9, up_ne _ _ (by decide), up_same, show ag (up σ8 14 (arrL 5 (vp_updL gh nh (Xn X t1)))) 6 = ag σ 6 from funext (fun i => (ag_eq (up_ne _ _ (by decide)) i).trans (ag_eq (fr8 6 (by decide) (by decide)) i))]
                    · rw [E9, up_ne _ _ (by decide), up_ne _ _ (by decide), up_same]
                    · rw [u7, v6 _ (by omega) (by omega), v5 _ (by omega) (by omega), v4 _ (by omega) (by omega)]; exact a4
                    · rw [u7, v6 _ (by omega) (by omega), v5 _ (by omega) (by omega)]; exact a5
                    · rw [u7, v6 _ (by omega) (by omega)]; exact a6
                    · rw [u7]; exact a7
                    · rw [u7, v6 _ (by omega) (by omega), v5 _ (by omega) (by omega), v4 _ (by omega) (by omega), v3 _ (by omega) (by omega)]
                  · have f9 : f8 < 10 := W8.2.2.2.2.2.2.2.2.2.2
                    refine wq_zeq rfl (by first | omega | decide | exact Nat.lt_of_le_of_lt Nat.and_le_right (by decide) | exact ⟨by omega, by omega⟩) (fun c39 => ?_) (fun c => absurd (show _ from by omega) c)
                    refine wq_end rfl (fun _ => rfl) ?_
                    exact K0 _ _ _ _ (by rw [if_neg (by omega)]; simp only [m1, m2, m3, m4, m5, m6, m7, m8, bnd_o, bnd_e]) n8 (fr_trans (fr_trans (fr_trans (fr_trans (fr_trans (fr_trans (fr_trans (fr_trans (fr_trans (fr_trans (fr_trans (f3O F1) (f3O F2)) (f3O F3)) (f3O F4)) (f7O G4)) (f3O F5)) (f7O G5)) (f3O F6)) (f7O G6)) (f3O F7)) (f7O G7)) (f3O F8)) W8
                · have f9 : f7 < 10 := W7.2.2.2.2.2.2.2.2.2.2
                  refine wq_callV rfl rfl (by first | rfl | assumption) (by first | decide | omega | assumption) (Nat.le_of_ble_eq_true rfl) (Nat.le_of_ble_eq_true rfl) rfl rfl ?_
                  refine c_ownAny W7 (by omega) (by omega) (fun τ7 G7 V7 => ?_)
                  refine wq_incN rfl rfl rfl ?_
                  refine wq_go rfl (fun _ => rfl) ?_
                  refine wq_go rfl (fun _ => rfl) ?_
                  refine wq_cN (m := 4) rfl rfl ?_
                  refine wq_cge rfl (by first | omega | decide | exact Nat.lt_of_le_of_lt Nat.and_le_right (by decide) | exact ⟨by omega, by omega⟩) (by first | omega | decide | exact Nat.lt_of_le_of_lt Nat.and_le_right (by decide) | exact ⟨by omega, by omega⟩) (fun c22 => ?_) (fun c => absurd (show _ from by omega) c)
                  refine wq_go rfl (fun _ => rfl) ?_
                  refine wq_cN (m := 25) rfl rfl ?_
                  refine wq_callV rfl rfl (by first | rfl | assumption) (by first | decide | omega | assumption) (Nat.le_of_ble_eq_true rfl) (Nat.le_of_ble_eq_true rfl) rfl rfl ?_
                  refine c_acc_e V7 n7 ?_
                  refine wq_zeq rfl (by first | omega | decide | exact Nat.lt_of_le_of_lt Nat.and_le_right (by decide) | exact ⟨by omega, by omega⟩) (fun c39 => ?_) (fun c => absurd (show _ from by omega) c)
                  refine wq_end rfl (fun _ => rfl) ?_
                  exact K0 _ _ _ _ (by rw [if_neg (by omega)]; simp only [m1, m2, m3, m4, m5, m6, m7, bnd_o, bnd_e]) n7 (fr_trans (fr_trans (fr_trans (fr_trans (fr_trans (fr_trans (fr_trans (fr_trans (fr_trans (fr_trans (f3O F1) (f3O F2)) (f3O F3)) (f3O F4)) (f7O G4)) (f3O F5)) (f7O G5)) (f3O F6)) (f7O G6)) (f3O F7)) (f7O G7)) V7
              · have f9 : f6 < 10 := W6.2.2.2.2.2.2.2.2.2.2
                refine wq_callV rfl rfl (by first | rfl | assumption) (by first | decide | omega | assumption) (Nat.le_of_ble_eq_true rfl) (Nat.le_of_ble_eq_true rfl) rfl rfl ?_
                refine c_ownAny W6 (by omega) (by omega) (fun τ6 G6 V6 => ?_)
                refine wq_incN rfl rfl rfl ?_
                refine wq_go rfl (fun _ => rfl) ?_
                refine wq_go rfl (fun _ => rfl) ?_
                refine wq_cN (m := 4) rfl rfl ?_
                refine wq_cge rfl (by first | omega | decide | exact Nat.lt_of_le_of_lt Nat.and_le_right (by decide) | exact ⟨by omega, by omega⟩) (by first | omega | decide | exact Nat.lt_of_le_of_lt Nat.and_le_right (by decide) | exact ⟨by omega, by omega⟩) (fun c => absurd c (by omega)) (fun c22 => ?_)
                refine wq_go rfl (fun _ => rfl) ?_
                refine wq_getf rfl (by first | rfl | assumption) (by first | decide | omega | assumption) (Classical.choose_spec V6.1) rfl ?_
                refine wq_go rfl (fun _ => rfl) ?_
                refine wq_getf rfl (by first | rfl | assumption) (by first | decide | omega | assumption) (Classical.choose_spec V6.1) rfl ?_
                refine wq_getf rfl (by first | rfl | assumption) (by first | decide | omega | assumption) V6.2.1 rfl ?_
                refine wq_go rfl (fun _ => rfl) ?_
                refine wq_go rfl (fun _ => rfl) ?_
                refine wq_cN (m := 0) rfl rfl ?_
                refine wq_cN (m := 99) rfl rfl ?_
                refine wq_callV rfl rfl (by first | rfl | assumption) (by first | decide | omega | assumption) (Nat.le_of_ble_eq_true rfl) (Nat.le_of_ble_eq_true rfl) rfl rfl ?_
                refine c_tin_e (lo := 0) (hi := 99) V6 n6 (fun x7 => ?_)
                refine wq_callV rfl rfl (by first | rfl | assumption) (by first | decide | omega | assumption) (Nat.le_of_ble_eq_true rfl) (Nat.le_of_ble_eq_true rfl) rfl rfl ?_
                refine c_ownAny V6 (by omega) (by omega) (fun τ7 G7 V7 => ?_)
                refine wq_incN rfl rfl rfl ?_
                refine wq_go rfl (fun _ => rfl) ?_
                refine wq_go rfl (fun _ => rfl) ?_
                refine wq_cN (m := 4) rfl rfl ?_
                refine wq_cge rfl (by first | omega | decide | exact Nat.lt_of_le_of_lt Nat.and_le_right (by decide) | exact ⟨by omega, by omega⟩) (by first | omega | decide | exact Nat.lt_of_le_of_lt Nat.and_le_right (by decide) | exact ⟨by omega, by omega⟩) (fun c22 => ?_) (fun c => absurd (show _ from by omega) c)
                refine wq_go rfl (fun _ => rfl) ?_
                refine wq_cN (m := 25) rfl rfl ?_
                refine wq_callV rfl rfl (by first | rfl | assumption) (by first | decide | omega | assumption) (Nat.le_of_ble_eq_true rfl) (Nat.le_of_ble_eq_true rfl) rfl rfl ?_
                refine c_acc_e V7 n6 ?_
                refine wq_zeq rfl (by first | omega | decide | exact Nat.lt_of_le_of_lt Nat.and_le_right (by decide) | exact ⟨by omega, by omega⟩) (fun c39 => ?_) (fun c => absurd (show _ from by omega) c)
                refine wq_end rfl (fun _ => rfl) ?_
                exact K0 _ _ _ _ (by rw [if_neg (by omega)]; simp only [m1, m2, m3, m4, m5, m6, bnd_o, bnd_e]) n6 (fr_trans (fr_trans (fr_trans (fr_trans (fr_trans (fr_trans (fr_trans (fr_trans (fr_trans (f3O F1) (f3O F2)) (f3O F3)) (f3O F4)) (f7O G4)) (f3O F5)) (f7O G5)) (f3O F6)) (f7O G6)) (f7O G7)) V7
            · have f9 : f5 < 10 := W5.2.2.2.2.2.2.2.2.2.2
              refine wq_callV rfl rfl (by first | rfl | assumption) (by first | decide | omega | assumption) (Nat.le_of_ble_eq_true rfl) (Nat.le_of_ble_eq_true rfl) rfl rfl ?_
              refine c_ownAny W5 (by omega) (by omega) (fun τ5 G5 V5 => ?_)
              refine wq_incN rfl rfl rfl ?_
              refine wq_go rfl (fun _ => rfl) ?_
              refine wq_go rfl (fun _ => rfl) ?_
              refine wq_cN (m := 4) rfl rfl ?_
              refine wq_cge rfl (by first | omega | decide | exact Nat.lt_of_le_of_lt Nat.and_le_right (by decide) | exact ⟨by omega, by omega⟩) (by first | omega | decide | exact Nat.lt_of_le_of_lt Nat.and_le_right (by decide) | exact ⟨by omega, by omega⟩) (fun c => absurd c (by omega)) (fun c22 => ?_)
              refine wq_go rfl (fun _ => rfl) ?_
              refine wq_getf rfl (by first | rfl | assumption) (by first | decide | omega | assumption) (Classical.choose_spec V5.1) rfl ?_
              refine wq_go rfl (fun _ => rfl) ?_
              refine wq_getf rfl (by first | rfl | assumption) (by first | decide | omega | assumption) (Classical.choose_spec V5.1) rfl ?_
              refine wq_getf rfl (by first | rfl | assumption) (by first | decide | omega | assumption) V5.2.1 rfl ?_
              refine wq_go rfl (fun _ => rfl) ?_
              refine wq_go rfl (fun _ => rfl) ?_
              refine wq_cN (m := 0) rfl rfl ?_
              refine wq_cN (m := 99) rfl rfl ?_
              refine wq_callV rfl rfl (by first | rfl | assumption) (by first | decide | omega | assumption) (Nat.le_of_ble_eq_true rfl) (Nat.le_of_ble_eq_true rfl) rfl rfl ?_
              refine c_tin_e (lo := 0) (hi := 99) V5 n5 (fun x6 => ?_)
              refine wq_callV rfl rfl (by first | rfl | assumption) (by first | decide | omega | assumption) (Nat.le_of_ble_eq_true rfl) (Nat.le_of_ble_eq_true rfl) rfl rfl ?_
              refine c_ownAny V5 (by omega) (by omega) (fun τ6 G6 V6 => ?_)
              refine wq_incN rfl rfl rfl ?_
              refine wq_go rfl (fun _ => rfl) ?_
              refine wq_go rfl (fun _ => rfl) ?_
              refine wq_cN (m := 4) rfl rfl ?_
              refine wq_cge rfl (by first | omega | decide | exact Nat.lt_of_le_of_lt Nat.and_le_right (by decide) | exact ⟨by omega, by omega⟩) (by first | omega | decide | exact Nat.lt_of_le_of_lt Nat.and_le_right (by decide) | exact ⟨by omega, by omega⟩) (fun c => absurd c (by omega)) (fun c22 => ?_)
              refine wq_go rfl (fun _ => rfl) ?_
              refine wq_getf rfl (by first | rfl | assumption) (by first | decide | omega | assumption) (Classical.choose_spec V6.1) rfl ?_
              refine wq_go rfl (fun _ => rfl) ?_
              refine wq_getf rfl (by first | rfl | assumption) (by first | decide | omega | assumption) (Classical.choose_spec V6.1) rfl ?_
              refine wq_getf rfl (by first | rfl | assumption) (by first | decide | omega | assumption) V6.2.1 rfl ?_
              refine wq_go rfl (fun _ => rfl) ?_
              refine wq_go rfl (fun _ => rfl) ?_
              refine wq_cN (m := 0) rfl rfl ?_
              refine wq_cN (m := 99) rfl rfl ?_
              refine wq_callV rfl rfl (by first | rfl | assumption) (by first | decide | omega | assumption) (Nat.le_of_ble_eq_true rfl) (Nat.le_of_ble_eq_true rfl) rfl rfl ?_
              refine c_tin_e (lo := 0) (hi := 99) V6 n5 (fun x7 => ?_)
              refine wq_callV rfl rfl (by first | rfl | assumption) (by first | decide | omega | assumption) (Nat.le_of_ble_eq_true rfl) (Nat.le_of_ble_eq_true rfl) rfl rfl ?_
              refine c_ownAny V6 (by omega) (by omega) (fun τ7 G7 V7 => ?_)
              refine wq_incN rfl rfl rfl ?_
              refine wq_go rfl (fun _ => rfl) ?_
              refine wq_go rfl (fun _ => rfl) ?_
              refine wq_cN (m := 4) rfl rfl ?_
              refine wq_cge rfl (by first | omega | decide | exact Nat.lt_of_le_of_lt Nat.and_le_right (by decide) | exact ⟨by omega, by omega⟩) (by first | omega | decide | exact Nat.lt_of_le_of_lt Nat.and_le_right (by decide) | exact ⟨by omega, by omega⟩) (fun c22 => ?_) (fun c => absurd (show _ from by omega) c)
              refine wq_go rfl (fun _ => rfl) ?_
              refine wq_cN (m := 25) rfl rfl ?_
              refine wq_callV rfl rfl (by first | rfl | assumption) (by first | decide | omega | assumption) (Nat.le_of_ble_eq_true rfl) (Nat.le_of_ble_eq_true rfl) rfl rfl ?_
              refine c_acc_e V7 n5 ?_
              refine wq_zeq rfl (by first | omega | decide | exact Nat.lt_of_le_of_lt Nat.and_le_right (by decide) | exact ⟨by omega, by omega⟩) (fun c39 => ?_) (fun c => absurd (show _ from by omega) c)
              refine wq_end rfl (fun _ => rfl) ?_
              exact K0 _ _ _ _ (by rw [if_neg (by omega)]; simp only [m1, m2, m3, m4, m5, bnd_o, bnd_e]) n5 (fr_trans (fr_trans (fr_trans (fr_trans (fr_trans (fr_trans (fr_trans (fr_trans (f3O F1) (f3O F2)) (f3O F3)) (f3O F4)) (f7O G4)) (f3O F5)) (f7O G5)) (f7O G6)) (f7O G7)) V7
          · have f9 : f4 < 10 := W4.2.2.2.2.2.2.2.2.2.2
            refine wq_callV rfl rfl (by first | rfl | assumption) (by first | decide | omega | assumption) (Nat.le_of_ble_eq_true rfl) (Nat.le_of_ble_eq_true rfl) rfl rfl ?_
            refine c_ownAny W4 (by omega) (by omega) (fun τ4 G4 V4 => ?_)
            refine wq_incN rfl rfl rfl ?_
            refine wq_go rfl (fun _ => rfl) ?_
            refine wq_go rfl (fun _ => rfl) ?_
            refine wq_cN (m := 4) rfl rfl ?_
            refine wq_cge rfl (by first | omega | decide | exact Nat.lt_of_le_of_lt Nat.and_le_right (by decide) | exact ⟨by omega, by omega⟩) (by first | omega | decide | exact Nat.lt_of_le_of_lt Nat.and_le_right (by decide) | exact ⟨by omega, by omega⟩) (fun c => absurd c (by omega)) (fun c22 => ?_)
            refine wq_go rfl (fun _ => rfl) ?_
            refine wq_getf rfl (by first | rfl | assumption) (by first | decide | omega | assumption) (Classical.choose_spec V4.1) rfl ?_
            refine wq_go rfl (fun _ => rfl) ?_
            refine wq_getf rfl (by first | rfl | assumption) (by first | decide | omega | assumption) (Classical.choose_spec V4.1) rfl ?_
            refine wq_getf rfl (by first | rfl | assumption) (by first | decide | omega | assumption) V4.2.1 rfl ?_
            refine wq_go rfl (fun _ => rfl) ?_
            refine wq_go rfl (fun _ => rfl) ?_
            refine wq_cN (m := 0) rfl rfl ?_
            refine wq_cN (m := 99) rfl rfl ?_
            refine wq_callV rfl rfl (by first | rfl | assumption) (by first | decide | omega | assumption) (Nat.le_of_ble_eq_true rfl) (Nat.le_of_ble_eq_true rfl) rfl rfl ?_
            refine c_tin_e (lo := 0) (hi := 99) V4 n4 (fun x5 => ?_)
            refine wq_callV rfl rfl (by first | rfl | assumption) (by first | decide | omega | assumption) (Nat.le_of_ble_eq_true rfl) (Nat.le_of_ble_eq_true rfl) rfl rfl ?_
            refine c_ownAny V4 (by omega) (by omega) (fun τ5 G5 V5 => ?_)
            refine wq_incN rfl rfl rfl ?_
            refine wq_go rfl (fun _ => rfl) ?_
            refine wq_go rfl (fun _ => rfl) ?_
            refine wq_cN (m := 4) rfl rfl ?_
            refine wq_cge rfl (by first | omega | decide | exact Nat.lt_of_le_of_lt Nat.and_le_right (by decide) | exact ⟨by omega, by omega⟩) (by first | omega | decide | exact Nat.lt_of_le_of_lt Nat.and_le_right (by decide) | exact ⟨by omega, by omega⟩) (fun c => absurd c (by omega)) (fun c22 => ?_)
            refine wq_go rfl (fun _ => rfl) ?_
            refine wq_getf rfl (by first | rfl | assumption) (by first | decide | omega | assumption) (Classical.choose_spec V5.1) rfl ?_
            refine wq_go rfl (fun _ => rfl) ?_
            refine wq_getf rfl (by first | rfl | assumption) (by first | decide | omega | assumption) (Classical.choose_spec V5.1) rfl ?_
            refine wq_getf rfl (by first | rfl | assumption) (by first | decide | omega | assumption) V5.2.1 rfl ?_
            refine wq_go rfl (fun _ => rfl) ?_
            refine wq_go rfl (fun _ => rfl) ?_
            refine wq_cN (m := 0) rfl rfl ?_
            refine wq_cN (m := 99) rfl rfl ?_
            refine wq_callV rfl rfl (by first | rfl | assumption) (by first | decide | omega | assumption) (Nat.le_of_ble_eq_true rfl) (Nat.le_of_ble_eq_true rfl) rfl rfl ?_
            refine c_tin_e (lo := 0) (hi := 99) V5 n4 (fun x6 => ?_)
            refine wq_callV rfl rfl (by first | rfl | assumption) (by first | decide | omega | assumption) (Nat.le_of_ble_eq_true rfl) (Nat.le_of_ble_eq_true rfl) rfl rfl ?_
            refine c_ownAny V5 (by omega) (by omega) (fun τ6 G6 V6 => ?_)
            refine wq_incN rfl rfl rfl ?_
            refine wq_go rfl (fun _ => rfl) ?_
            refine wq_go rfl (fun _ => rfl) ?_
            refine wq_cN (m := 4) rfl rfl ?_
            refine wq_cge rfl (by first | omega | decide | exact Nat.lt_of_le_of_lt Nat.and_le_right (by decide) | exact ⟨by omega, by omega⟩) (by first | omega | decide | exact Nat.lt_of_le_of_lt Nat.and_le_right (by decide) | exact ⟨by omega, by omega⟩) (fun c => absurd c (by omega)) (fun c22 => ?_)
            refine wq_go rfl (fun _ => rfl) ?_
            refine wq_getf rfl (by first | rfl | assumption) (by first | decide | omega | assumption) (Classical.choose_spec V6.1) rfl ?_
            refine wq_go rfl (fun _ => rfl) ?_
            refine wq_getf rfl (by first | rfl | assumption) (by first | decide | omega | assumption) (Classical.choose_spec V6.1) rfl ?_
            refine wq_getf rfl (by first | rfl | assumption) (by first | decide | omega | assumption) V6.2.1 rfl ?_
            refine wq_go rfl (fun _ => rfl) ?_
            refine wq_go rfl (fun _ => rfl) ?_
            refine wq_cN (m := 0) rfl rfl ?_
            refine wq_cN (m := 99) rfl rfl ?_
            refine wq_callV rfl rfl (by first | rfl | assumption) (by first | decide | omega | assumption) (Nat.le_of_ble_eq_true rfl) (Nat.le_of_ble_eq_true rfl) rfl rfl ?_
            refine c_tin_e (lo := 0) (hi := 99) V6 n4 (fun x7 => ?_)
            refine wq_callV rfl rfl (by first | rfl | assumption) (by first | decide | omega | assumption) (Nat.le_of_ble_eq_true rfl) (Nat.le_of_ble_eq_true rfl) rfl rfl ?_
            refine c_ownAny V6 (by omega) (by omega) (fun τ7 G7 V7 => ?_)
            refine wq_incN rfl rfl rfl ?_
            refine wq_go rfl (fun _ => rfl) ?_
            refine wq_go rfl (fun _ => rfl) ?_
            refine wq_cN (m := 4) rfl rfl ?_
            refine wq_cge rfl (by first | omega | decide | exact Nat.lt_of_le_of_lt Nat.and_le_right (by decide) | exact ⟨by omega, by omega⟩) (by first | omega | decide | exact Nat.lt_of_le_of_lt Nat.and_le_right (by decide) | exact ⟨by omega, by omega⟩) (fun c22 => ?_) (fun c => absurd (show _ from by omega) c)
            refine wq_go rfl (fun _ => rfl) ?_
            refine wq_cN (m := 25) rfl rfl ?_
            refine wq_callV rfl rfl (by first | rfl | assumption) (by first | decide | omega | assumption) (Nat.le_of_ble_eq_true rfl) (Nat.le_of_ble_eq_true rfl) rfl rfl ?_
            refine c_acc_e V7 n4 ?_
            refine wq_zeq rfl (by first | omega | decide | exact Nat.lt_of_le_of_lt Nat.and_le_right (by decide) | exact ⟨by omega, by omega⟩) (fun c39 => ?_) (fun c => absurd (show _ from by omega) c)
            refine wq_end rfl (fun _ => rfl) ?_
            exact K0 _ _ _ _ (by rw [if_neg (by omega)]; simp only [m1, m2, m3, m4, bnd_o, bnd_e]) n4 (fr_trans (fr_trans (fr_trans (fr_trans (fr_trans (fr_trans (fr_trans (f3O F1) (f3O F2)) (f3O F3)) (f3O F4)) (f7O G4)) (f7O G5)) (f7O G6)) (f7O G7)) V7
        · have f9 : f3 < 10 := W3.2.2.2.2.2.2.2.2.2.2
          refine wq_go rfl (fun _ => rfl) ?_
          refine wq_cN (m := 0) rfl rfl ?_
          refine wq_go rfl (fun _ => rfl) ?_
          refine wq_go rfl (fun _ => rfl) ?_
          refine wq_cN (m := 4) rfl rfl ?_
          refine wq_cge rfl (by first | omega | decide | exact Nat.lt_of_le_of_lt Nat.and_le_right (by decide) | exact ⟨by omega, by omega⟩) (by first | omega | decide | exact Nat.lt_of_le_of_lt Nat.and_le_right (by decide) | exact ⟨by omega, by omega⟩) (fun c => absurd c (by omega)) (fun c22 => ?_)
          refine wq_go rfl (fun _ => rfl) ?_
          refine wq_getf rfl (by first | rfl | assumption) (by first | decide | omega | assumption) (Classical.choose_spec W3.1) rfl ?_
          refine wq_go rfl (fun _ => rfl) ?_
          refine wq_getf rfl (by first | rfl | assumption) (by first | decide | omega | assumption) (Classical.choose_spec W3.1) rfl ?_
          refine wq_getf rfl (by first | rfl | assumption) (by first | decide | omega | assumption) W3.2.1 rfl ?_
          refine wq_go rfl (fun _ => rfl) ?_
          refine wq_go rfl (fun _ => rfl) ?_
          refine wq_cN (m := 0) rfl rfl ?_
          refine wq_cN (m := 99) rfl rfl ?_
          refine wq_callV rfl rfl (by first | rfl | assumption) (by first | decide | omega | assumption) (Nat.le_of_ble_eq_true rfl) (Nat.le_of_ble_eq_true rfl) rfl rfl ?_
          refine c_tin_e (lo := 0) (hi := 99) W3 n3 (fun x4 => ?_)
          refine wq_callV rfl rfl (by first | rfl | assumption) (by first | decide | omega | assumption) (Nat.le_of_ble_eq_true rfl) (Nat.le_of_ble_eq_true rfl) rfl rfl ?_
          refine c_ownAny W3 (by omega) (by omega) (fun τ4 G4 V4 => ?_)
          refine wq_incN rfl rfl rfl ?_
          refine wq_go rfl (fun _ => rfl) ?_
          refine wq_go rfl (fun _ => rfl) ?_
          refine wq_cN (m := 4) rfl rfl ?_
          refine wq_cge rfl (by first | omega | decide | exact Nat.lt_of_le_of_lt Nat.and_le_right (by decide) | exact ⟨by omega, by omega⟩) (by first | omega | decide | exact Nat.lt_of_le_of_lt Nat.and_le_right (by decide) | exact ⟨by omega, by omega⟩) (fun c => absurd c (by omega)) (fun c22 => ?_)
          refine wq_go rfl (fun _ => rfl) ?_
          refine wq_getf rfl (by first | rfl | assumption) (by first | decide | omega | assumption) (Classical.choose_spec V4.1) rfl ?_
          refine wq_go rfl (fun _ => rfl) ?_
          refine wq_getf rfl (by first | rfl | assumption) (by first | decide | omega | assumption) (Classical.choose_spec V4.1) rfl ?_
          refine wq_getf rfl (by first | rfl | assumption) (by first | decide | omega | assumption) V4.2.1 rfl ?_
          refine wq_go rfl (fun _ => rfl) ?_
          refine wq_go rfl (fun _ => rfl) ?_
          refine wq_cN (m := 0) rfl rfl ?_
          refine wq_cN (m := 99) rfl rfl ?_
          refine wq_callV rfl rfl (by first | rfl | assumption) (by first | decide | omega | assumption) (Nat.le_of_ble_eq_true rfl) (Nat.le_of_ble_eq_true rfl) rfl rfl ?_
          refine c_tin_e (lo := 0) (hi := 99) V4 n3 (fun x5 => ?_)
          refine wq_callV rfl rfl (by first | rfl | assumption) (by first | decide | omega | assumption) (Nat.le_of_ble_eq_true rfl) (Nat.le_of_ble_eq_true rfl) rfl rfl ?_
          refine c_ownAny V4 (by omega) (by omega) (fun τ5 G5 V5 => ?_)
          refine wq_incN rfl rfl rfl ?_
          refine wq_go rfl (fun _ => rfl) ?_
          refine wq_go rfl (fun _ => rfl) ?_
          refine wq_cN (m := 4) rfl rfl ?_
          refine wq_cge rfl (by first | omega | decide | exact Nat.lt_of_le_of_lt Nat.and_le_right (by decide) | exact ⟨by omega, by omega⟩) (by first | omega | decide | exact Nat.lt_of_le_of_lt Nat.and_le_right (by decide) | exact ⟨by omega, by omega⟩) (fun c => absurd c (by omega)) (fun c22 => ?_)
          refine wq_go rfl (fun _ => rfl) ?_
          refine wq_getf rfl (by first | rfl | assumption) (by first | decide | omega | assumption) (Classical.choose_spec V5.1) rfl ?_
          refine wq_go rfl (fun _ => rfl) ?_
          refine wq_getf rfl (by first | rfl | assumption) (by first | decide | omega | assumption) (Classical.choose_spec V5.1) rfl ?_
          refine wq_getf rfl (by first | rfl | assumption) (by first | decide | omega | assumption) V5.2.1 rfl ?_
          refine wq_go rfl (fun _ => rfl) ?_
          refine wq_go rfl (fun _ => rfl) ?_
          refine wq_cN (m := 0) rfl rfl ?_
          refine wq_cN (m := 99) rfl rfl ?_
          refine wq_callV rfl rfl (by first | rfl | assumption) (by first | decide | omega | assumption) (Nat.le_of_ble_eq_true rfl) (Nat.le_of_ble_eq_true rfl) rfl rfl ?_
          refine c_tin_e (lo := 0) (hi := 99) V5 n3 (fun x6 => ?_)
          refine wq_callV rfl rfl (by first | rfl | assumption) (by first | decide | omega | assumption) (Nat.le_of_ble_eq_true rfl) (Nat.le_of_ble_eq_true rfl) rfl rfl ?_
          refine c_ownAny V5 (by omega) (by omega) (fun τ6 G6 V6 => ?_)
          refine wq_incN rfl rfl rfl ?_
          refine wq_go rfl (fun _ => rfl) ?_
          refine wq_go rfl (fun _ => rfl) ?_
          refine wq_cN (m := 4) rfl rfl ?_
          refine wq_cge rfl (by first | omega | decide | exact Nat.lt_of_le_of_lt Nat.and_le_right (by decide) | exact ⟨by omega, by omega⟩) (by first | omega | decide | exact Nat.lt_of_le_of_lt Nat.and_le_right (by decide) | exact ⟨by omega, by omega⟩) (fun c => absurd c (by omega)) (fun c22 => ?_)
          refine wq_go rfl (fun _ => rfl) ?_
          refine wq_getf rfl (by first | rfl | assumption) (by first | decide | omega | assumption) (Classical.choose_spec V6.1) rfl ?_
          refine wq_go rfl (fun _ => rfl) ?_
          refine wq_getf rfl (by first | rfl | assumption) (by first | decide | omega | assumption) (Classical.choose_spec V6.1) rfl ?_
          refine wq_getf rfl (by first | rfl | assumption) (by first | decide | omega | assumption) V6.2.1 rfl ?_
          refine wq_go rfl (fun _ => rfl) ?_
          refine wq_go rfl (fun _ => rfl) ?_
          refine wq_cN (m := 0) rfl rfl ?_
          refine wq_cN (m := 99) rfl rfl ?_
          refine wq_callV rfl rfl (by first | rfl | assumption) (by first | decide | omega | assumption) (Nat.le_of_ble_eq_true rfl) (Nat.le_of_ble_eq_true rfl) rfl rfl ?_
          refine c_tin_e (lo := 0) (hi := 99) V6 n3 (fun x7 => ?_)
          refine wq_callV rfl rfl (by first | rfl | assumption) (by first | decide | omega | assumption) (Nat.le_of_ble_eq_true rfl) (Nat.le_of_ble_eq_true rfl) rfl rfl ?_
          refine c_ownAny V6 (by omega) (by omega) (fun τ7 G7 V7 => ?_)
          refine wq_incN rfl rfl rfl ?_
          refine wq_go rfl (fun _ => rfl) ?_
          refine wq_go rfl (fun _ => rfl) ?_
          refine wq_cN (m := 4) rfl rfl ?_
          refine wq_cge rfl (by first | omega | decide | exact Nat.lt_of_le_of_lt Nat.and_le_right (by decide) | exact ⟨by omega, by omega⟩) (by first | omega | decide | exact Nat.lt_of_le_of_lt Nat.and_le_right (by decide) | exact ⟨by omega, by omega⟩) (fun c22 => ?_) (fun c => absurd (show _ from by omega) c)
          refine wq_go rfl (fun _ => rfl) ?_
          refine wq_cN (m := 25) rfl rfl ?_
          refine wq_callV rfl rfl (by first | rfl | assumption) (by first | decide | omega | assumption) (Nat.le_of_ble_eq_true rfl) (Nat.le_of_ble_eq_true rfl) rfl rfl ?_
          refine c_acc_e V7 n3 ?_
          refine wq_zeq rfl (by first | omega | decide | exact Nat.lt_of_le_of_lt Nat.and_le_right (by decide) | exact ⟨by omega, by omega⟩) (fun c39 => ?_) (fun c => absurd (show _ from by omega) c)
          refine wq_end rfl (fun _ => rfl) ?_
          exact K0 _ _ _ _ (by rw [if_neg (by omega)]; simp only [m1, m2, m3, bnd_o, bnd_e]) n3 (fr_trans (fr_trans (fr_trans (fr_trans (fr_trans (fr_trans (f3O F1) (f3O F2)) (f3O F3)) (f7O G4)) (f7O G5)) (f7O G6)) (f7O G7)) V7
      · have f9 : f2 < 10 := W2.2.2.2.2.2.2.2.2.2.2
        refine wq_go rfl (fun _ => rfl) ?_
        refine wq_go rfl (fun _ => rfl) ?_
        refine wq_cN (m := 0) rfl rfl ?_
        refine wq_cN (m := 9) rfl rfl ?_
        refine wq_callV rfl rfl (by first | rfl | assumption) (by first | decide | omega | assumption) (Nat.le_of_ble_eq_true rfl) (Nat.le_of_ble_eq_true rfl) rfl rfl ?_
        refine c_tin_e (lo := 0) (hi := 9) W2 n2 (fun x3 => ?_)
        refine wq_go rfl (fun _ => rfl) ?_
        refine wq_cN (m := 0) rfl rfl ?_
        refine wq_go rfl (fun _ => rfl) ?_
        refine wq_go rfl (fun _ => rfl) ?_
        refine wq_cN (m := 4) rfl rfl ?_
        refine wq_cge rfl (by first | omega | decide | exact Nat.lt_of_le_of_lt Nat.and_le_right (by decide) | exact ⟨by omega, by omega⟩) (by first | omega | decide | exact Nat.lt_of_le_of_lt Nat.and_le_right (by decide) | exact ⟨by omega, by omega⟩) (fun c => absurd c (by omega)) (fun c22 => ?_)
        refine wq_go rfl (fun _ => rfl) ?_
        refine wq_getf rfl (by first | rfl | assumption) (by first | decide | omega | assumption) (Classical.choose_spec W2.1) rfl ?_
        refine wq_go rfl (fun _ => rfl) ?_
        refine wq_getf rfl (by first | rfl | assumption) (by first | decide | omega | assumption) (Classical.choose_spec W2.1) rfl ?_
        refine wq_getf rfl (by first | rfl | assumption) (by first | decide | omega | assumption) W2.2.1 rfl ?_
        refine wq_go rfl (fun _ => rfl) ?_
        refine wq_go rfl (fun _ => rfl) ?_
        refine wq_cN (m := 0) rfl rfl ?_
        refine wq_cN (m := 99) rfl rfl ?_
        refine wq_callV rfl rfl (by first | rfl | assumption) (by first | decide | omega | assumption) (Nat.le_of_ble_eq_true rfl) (Nat.le_of_ble_eq_true rfl) rfl rfl ?_
        refine c_tin_e (lo := 0) (hi := 99) W2 n2 (fun x4 => ?_)
        refine wq_callV rfl rfl (by first | rfl | assumption) (by first | decide | omega | assumption) (Nat.le_of_ble_eq_true rfl) (Nat.le_of_ble_eq_true rfl) rfl rfl ?_
        refine c_ownAny W2 (by omega) (by omega) (fun τ4 G4 V4 => ?_)
        refine wq_incN rfl rfl rfl ?_
        refine wq_go rfl (fun _ => rfl) ?_
        refine wq_go rfl (fun _ => rfl) ?_
        refine wq_cN (m := 4) rfl rfl ?_
        refine wq_cge rfl (by first | omega | decide | exact Nat.lt_of_le_of_lt Nat.and_le_right (by decide) | exact ⟨by omega, by omega⟩) (by first | omega | decide | exact Nat.lt_of_le_of_lt Nat.and_le_right (by decide) | exact ⟨by omega, by omega⟩) (fun c => absurd c (by omega)) (fun c22 => ?_)
        refine wq_go rfl (fun _ => rfl) ?_
        refine wq_getf rfl (by first | rfl | assumption) (by first | decide | omega | assumption) (Classical.choose_spec V4.1) rfl ?_
        refine wq_go rfl (fun _ => rfl) ?_
        refine wq_getf rfl (by first | rfl | assumption) (by first | decide | omega | assumption) (Classical.choose_spec V4.1) rfl ?_
        refine wq_getf rfl (by first | rfl | assumption) (by first | decide | omega | assumption) V4.2.1 rfl ?_
        refine wq_go rfl (fun _ => rfl) ?_
        refine wq_go rfl (fun _ => rfl) ?_
        refine wq_cN (m := 0) rfl rfl ?_
        refine wq_cN (m := 99) rfl rfl ?_
        refine wq_callV rfl rfl (by first | rfl | assumption) (by first | decide | omega | assumption) (Nat.le_of_ble_eq_true rfl) (Nat.le_of_ble_eq_true rfl) rfl rfl ?_
        refine c_tin_e (lo := 0) (hi := 99) V4 n2 (fun x5 => ?_)
        refine wq_callV rfl rfl (by first | rfl | assumption) (by first | decide | omega | assumption) (Nat.le_of_ble_eq_true rfl) (Nat.le_of_ble_eq_true rfl) rfl rfl ?_
        refine c_ownAny V4 (by omega) (by omega) (fun τ5 G5 V5 => ?_)
        refine wq_incN rfl rfl rfl ?_
        refine wq_go rfl (fun _ => rfl) ?_
        refine wq_go rfl (fun _ => rfl) ?_
        refine wq_cN (m := 4) rfl rfl ?_
        refine wq_cge rfl (by first | omega | decide | exact Nat.lt_of_le_of_lt Nat.and_le_right (by decide) | exact ⟨by omega, by omega⟩) (by first | omega | decide | exact Nat.lt_of_le_of_lt Nat.and_le_right (by decide) | exact ⟨by omega, by omega⟩) (fun c => absurd c (by omega)) (fun c22 => ?_)
        refine wq_go rfl (fun _ => rfl) ?_
        refine wq_getf rfl (by first | rfl | assumption) (by first | decide | omega | assumption) (Classical.choose_spec V5.1) rfl ?_
        refine wq_go rfl (fun _ => rfl) ?_
        refine wq_getf rfl (by first | rfl | assumption) (by first | decide | omega | assumption) (Classical.choose_spec V5.1) rfl ?_
        refine wq_getf rfl (by first | rfl | assumption) (by first | decide | omega | assumption) V5.2.1 rfl ?_
        refine wq_go rfl (fun _ => rfl) ?_
        refine wq_go rfl (fun _ => rfl) ?_
        refine wq_cN (m := 0) rfl rfl ?_
        refine wq_cN (m := 99) rfl rfl ?_
        refine wq_callV rfl rfl (by first | rfl | assumption) (by first | decide | omega | assumption) (Nat.le_of_ble_eq_true rfl) (Nat.le_of_ble_eq_true rfl) rfl rfl ?_
        refine c_tin_e (lo := 0) (hi := 99) V5 n2 (fun x6 => ?_)
        refine wq_callV rfl rfl (by first | rfl | assumption) (by first | decide | omega | assumption) (Nat.le_of_ble_eq_true rfl) (Nat.le_of_ble_eq_true rfl) rfl rfl ?_
        refine c_ownAny V5 (by omega) (by omega) (fun τ6 G6 V6 => ?_)
        refine wq_incN rfl rfl rfl ?_
        refine wq_go rfl (fun _ => rfl) ?_
        refine wq_go rfl (fun _ => rfl) ?_
        refine wq_cN (m := 4) rfl rfl ?_
        refine wq_cge rfl (by first | omega | decide | exact Nat.lt_of_le_of_lt Nat.and_le_right (by decide) | exact ⟨by omega, by omega⟩) (by first | omega | decide | exact Nat.lt_of_le_of_lt Nat.and_le_right (by decide) | exact ⟨by omega, by omega⟩) (fun c => absurd c (by omega)) (fun c22 => ?_)
        refine wq_go rfl (fun _ => rfl) ?_
        refine wq_getf rfl (by first | rfl | assumption) (by first | decide | omega | assumption) (Classical.choose_spec V6.1) rfl ?_
        refine wq_go rfl (fun _ => rfl) ?_
        refine wq_getf rfl (by first | rfl | assumption) (by first | decide | omega | assumption) (Classical.choose_spec V6.1) rfl ?_
        refine wq_getf rfl (by first | rfl | assumption) (by first | decide | omega | assumption) V6.2.1 rfl ?_
        refine wq_go rfl (fun _ => rfl) ?_
        refine wq_go rfl (fun _ => rfl) ?_
        refine wq_cN (m := 0) rfl rfl ?_
        refine wq_cN (m := 99) rfl rfl ?_
        refine wq_callV rfl rfl (by first | rfl | assumption) (by first | decide | omega | assumption) (Nat.le_of_ble_eq_true rfl) (Nat.le_of_ble_eq_true rfl) rfl rfl ?_
        refine c_tin_e (lo := 0) (hi := 99) V6 n2 (fun x7 => ?_)
        refine wq_callV rfl rfl (by first | rfl | assumption) (by first | decide | omega | assumption) (Nat.le_of_ble_eq_true rfl) (Nat.le_of_ble_eq_true rfl) rfl rfl ?_
        refine c_ownAny V6 (by omega) (by omega) (fun τ7 G7 V7 => ?_)
        refine wq_incN rfl rfl rfl ?_
        refine wq_go rfl (fun _ => rfl) ?_
        refine wq_go rfl (fun _ => rfl) ?_
        refine wq_cN (m := 4) rfl rfl ?_
        refine wq_cge rfl (by first | omega | decide | exact Nat.lt_of_le_of_lt Nat.and_le_right (by decide) | exact ⟨by omega, by omega⟩) (by first | omega | decide | exact Nat.lt_of_le_of_lt Nat.and_le_right (by decide) | exact ⟨by omega, by omega⟩) (fun c22 => ?_) (fun c => absurd (show _ from by omega) c)
        refine wq_go rfl (fun _ => rfl) ?_
        refine wq_cN (m := 25) rfl rfl ?_
        refine wq_callV rfl rfl (by first | rfl | assumption) (by first | decide | omega | assumption) (Nat.le_of_ble_eq_true rfl) (Nat.le_of_ble_eq_true rfl) rfl rfl ?_
        refine c_acc_e V7 n2 ?_
        refine wq_zeq rfl (by first | omega | decide | exact Nat.lt_of_le_of_lt Nat.and_le_right (by decide) | exact ⟨by omega, by omega⟩) (fun c39 => ?_) (fun c => absurd (show _ from by omega) c)
        refine wq_end rfl (fun _ => rfl) ?_
        exact K0 _ _ _ _ (by rw [if_neg (by omega)]; simp only [m1, m2, bnd_o, bnd_e]) n2 (fr_trans (fr_trans (fr_trans (fr_trans (fr_trans (f3O F1) (f3O F2)) (f7O G4)) (f7O G5)) (f7O G6)) (f7O G7)) V7
    · have f9 : f1 < 10 := W1.2.2.2.2.2.2.2.2.2.2
      refine wq_go rfl (fun _ => rfl) ?_
      refine wq_go rfl (fun _ => rfl) ?_
      refine wq_callV rfl rfl (by first | rfl | assumption) (by first | decide | omega | assumption) (Nat.le_of_ble_eq_true rfl) (Nat.le_of_ble_eq_true rfl) rfl rfl ?_
      refine c_newN_e W1 n1 (fun x2 => ?_)
      refine wq_go rfl (fun _ => rfl) ?_
      refine wq_go rfl (fun _ => rfl) ?_
      refine wq_cN (m := 0) rfl rfl ?_
      refine wq_cN (m := 9) rfl rfl ?_
      refine wq_callV rfl rfl (by first | rfl | assumption) (by first | decide | omega | assumption) (Nat.le_of_ble_eq_true rfl) (Nat.le_of_ble_eq_true rfl) rfl rfl ?_
      refine c_tin_e (lo := 0) (hi := 9) W1 n1 (fun x3 => ?_)
      refine wq_go rfl (fun _ => rfl) ?_
      refine wq_cN (m := 0) rfl rfl ?_
      refine wq_go rfl (fun _ => rfl) ?_
      refine wq_go rfl (fun _ => rfl) ?_
      refine wq_cN (m := 4) rfl rfl ?_
      refine wq_cge rfl (by first | omega | decide | exact Nat.lt_of_le_of_lt Nat.and_le_right (by decide) | exact ⟨by omega, by omega⟩) (by first | omega | decide | exact Nat.lt_of_le_of_lt Nat.and_le_right (by decide) | exact ⟨by omega, by omega⟩) (fun c => absurd c (by omega)) (fun c22 => ?_)
      refine wq_go rfl (fun _ => rfl) ?_
      refine wq_getf rfl (by first | rfl | assumption) (by first | decide | omega | assumption) (Classical.choose_spec W1.1) rfl ?_
      refine wq_go rfl (fun _ => rfl) ?_
      refine wq_getf rfl (by first | rfl | assumption) (by first | decide | omega | assumption) (Classical.choose_spec W1.1) rfl ?_
      refine wq_getf rfl (by first | rfl | assumption) (by first | decide | omega | assumption) W1.2.1 rfl ?_
      refine wq_go rfl (fun _ => rfl) ?_
      refine wq_go rfl (fun _ => rfl) ?_
      refine wq_cN (m := 0) rfl rfl ?_
      refine wq_cN (m := 99) rfl rfl ?_
      refine wq_callV rfl rfl (by first | rfl | assumption) (by first | decide | omega | assumption) (Nat.le_of_ble_eq_true rfl) (Nat.le_of_ble_eq_true rfl) rfl rfl ?_
      refine c_tin_e (lo := 0) (hi := 99) W1 n1 (fun x4 => ?_)
      refine wq_callV rfl rfl (by first | rfl | assumption) (by first | decide | omega | assumption) (Nat.le_of_ble_eq_true rfl) (Nat.le_of_ble_eq_true rfl) rfl rfl ?_
      refine c_ownAny W1 (by omega) (by omega) (fun τ4 G4 V4 => ?_)
      refine wq_incN rfl rfl rfl ?_
      refine wq_go rfl (fun _ => rfl) ?_
      refine wq_go rfl (fun _ => rfl) ?_
      refine wq_cN (m := 4) rfl rfl ?_
      refine wq_cge rfl (by first | omega | decide | exact Nat.lt_of_le_of_lt Nat.and_le_right (by decide) | exact ⟨by omega, by omega⟩) (by first | omega | decide | exact Nat.lt_of_le_of_lt Nat.and_le_right (by decide) | exact ⟨by omega, by omega⟩) (fun c => absurd c (by omega)) (fun c22 => ?_)
      refine wq_go rfl (fun _ => rfl) ?_
      refine wq_getf rfl (by first | rfl | assumption) (by first | decide | omega | assumption) (Classical.choose_spec V4.1) rfl ?_
      refine wq_go rfl (fun _ => rfl) ?_
      refine wq_getf rfl (by first | rfl | assumption) (by first | decide | omega | assumption) (Classical.choose_spec V4.1) rfl ?_
      refine wq_getf rfl (by first | rfl | assumption) (by first | decide | omega | assumption) V4.2.1 rfl ?_
      refine wq_go rfl (fun _ => rfl) ?_
      refine wq_go rfl (fun _ => rfl) ?_
      refine wq_cN (m := 0) rfl rfl ?_
      refine wq_cN (m := 99) rfl rfl ?_
      refine wq_callV rfl rfl (by first | rfl | assumption) (by first | decide | omega | assumption) (Nat.le_of_ble_eq_true rfl) (Nat.le_of_ble_eq_true rfl) rfl rfl ?_
      refine c_tin_e (lo := 0) (hi := 99) V4 n1 (fun x5 => ?_)
      refine wq_callV rfl rfl (by first | rfl | assumption) (by first | decide | omega | assumption) (Nat.le_of_ble_eq_true rfl) (Nat.le_of_ble_eq_true rfl) rfl rfl ?_
      refine c_ownAny V4 (by omega) (by omega) (fun τ5 G5 V5 => ?_)
      refine wq_incN rfl rfl rfl ?_
      refine wq_go rfl (fun _ => rfl) ?_
      refine wq_go rfl (fun _ => rfl) ?_
      refine wq_cN (m := 4) rfl rfl ?_
      refine wq_cge rfl (by first | omega | decide | exact Nat.lt_of_le_of_lt Nat.and_le_right (by decide) | exact ⟨by omega, by omega⟩) (by first | omega | decide | exact Nat.lt_of_le_of_lt Nat.and_le_right (by decide) | exact ⟨by omega, by omega⟩) (fun c => absurd c (by omega)) (fun c22 => ?_)
      refine wq_go rfl (fun _ => rfl) ?_
      refine wq_getf rfl (by first | rfl | assumption) (by first | decide | omega | assumption) (Classical.choose_spec V5.1) rfl ?_
      refine wq_go rfl (fun _ => rfl) ?_
      refine wq_getf rfl (by first | rfl | assumption) (by first | decide | omega | assumption) (Classical.choose_spec V5.1) rfl ?_
      refine wq_getf rfl (by first | rfl | assumption) (by first | decide | omega | assumption) V5.2.1 rfl ?_
      refine wq_go rfl (fun _ => rfl) ?_
      refine wq_go rfl (fun _ => rfl) ?_
      refine wq_cN (m := 0) rfl rfl ?_
      refine wq_cN (m := 99) rfl rfl ?_
      refine wq_callV rfl rfl (by first | rfl | assumption) (by first | decide | omega | assumption) (Nat.le_of_ble_eq_true rfl) (Nat.le_of_ble_eq_true rfl) rfl rfl ?_
      refine c_tin_e (lo := 0) (hi := 99) V5 n1 (fun x6 => ?_)
      refine wq_callV rfl rfl (by first | rfl | assumption) (by first | decide | omega | assumption) (Nat.le_of_ble_eq_true rfl) (Nat.le_of_ble_eq_true rfl) rfl rfl ?_
      refine c_ownAny V5 (by omega) (by omega) (fun τ6 G6 V6 => ?_)
      refine wq_incN rfl rfl rfl ?_
      refine wq_go rfl (fun _ => rfl) ?_
      refine wq_go rfl (fun _ => rfl) ?_
      refine wq_cN (m := 4) rfl rfl ?_
      refine wq_cge rfl (by first | omega | decide | exact Nat.lt_of_le_of_lt Nat.and_le_right (by decide) | exact ⟨by omega, by omega⟩) (by first | omega | decide | exact Nat.lt_of_le_of_lt Nat.and_le_right (by decide) | exact ⟨by omega, by omega⟩) (fun c => absurd c (by omega)) (fun c22 => ?_)
      refine wq_go rfl (fun _ => rfl) ?_
      refine wq_getf rfl (by first | rfl | assumption) (by first | decide | omega | assumption) (Classical.choose_spec V6.1) rfl ?_
      refine wq_go rfl (fun _ => rfl) ?_
      refine wq_getf rfl (by first | rfl | assumption) (by first | decide | omega | assumption) (Classical.choose_spec V6.1) rfl ?_
      refine wq_getf rfl (by first | rfl | assumption) (by first | decide | omega | assumption) V6.2.1 rfl ?_
      refine wq_go rfl (fun _ => rfl) ?_
      refine wq_go rfl (fun _ => rfl) ?_
      refine wq_cN (m := 0) rfl rfl ?_
      refine wq_cN (m := 99) rfl rfl ?_
      refine wq_callV rfl rfl (by first | rfl | assumption) (by first | decide | omega | assumption) (Nat.le_of_ble_eq_true rfl) (Nat.le_of_ble_eq_true rfl) rfl rfl ?_
      refine c_tin_e (lo := 0) (hi := 99) V6 n1 (fun x7 => ?_)
      refine wq_callV rfl rfl (by first | rfl | assumption) (by first | decide | omega | assumption) (Nat.le_of_ble_eq_true rfl) (Nat.le_of_ble_eq_true rfl) rfl rfl ?_
      refine c_ownAny V6 (by omega) (by omega) (fun τ7 G7 V7 => ?_)
      refine wq_incN rfl rfl rfl ?_
      refine wq_go rfl (fun _ => rfl) ?_
      refine wq_go rfl (fun _ => rfl) ?_
      refine wq_cN (m := 4) rfl rfl ?_
      refine wq_cge rfl (by first | omega | decide | exact Nat.lt_of_le_of_lt Nat.and_le_right (by decide) | exact ⟨by omega, by omega⟩) (by first | omega | decide | exact Nat.lt_of_le_of_lt Nat.and_le_right (by decide) | exact ⟨by omega, by omega⟩) (fun c22 => ?_) (fun c => absurd (show _ from by omega) c)
      refine wq_go rfl (fun _ => rfl) ?_
      refine wq_cN (m := 25) rfl rfl ?_
      refine wq_callV rfl rfl (by first | rfl | assumption) (by first | decide | omega | assumption) (Nat.le_of_ble_eq_true rfl) (Nat.le_of_ble_eq_true rfl) rfl rfl ?_
      refine c_acc_e V7 n1 ?_
      refine wq_zeq rfl (by first | omega | decide | exact Nat.lt_of_le_of_lt Nat.and_le_right (by decide) | exact ⟨by omega, by omega⟩) (fun c39 => ?_) (fun c => absurd (show _ from by omega) c)
      refine wq_end rfl (fun _ => rfl) ?_
      exact K0 _ _ _ _ (by rw [if_neg (by omega)]; simp only [m1, bnd_o, bnd_e]) n1 (fr_trans (fr_trans (fr_trans (fr_trans (f3O F1) (f7O G4)) (f7O G5)) (f7O G6)) (f7O G7)) V7
  · refine c_more (a := nh) (m := 5) hW (by omega) (by omega) (by decide) (fun σ0 F0 W0 => ?_)
    refine wq_go rfl (fun _ => rfl) ?_
    refine wq_cN (m := 1) rfl rfl ?_
    refine wq_callV rfl rfl (by first | rfl | assumption) (by first | decide | omega | assumption) (Nat.le_of_ble_eq_true rfl) (Nat.le_of_ble_eq_true rfl) rfl rfl ?_
    refine c_acc_e W0 (by decide) ?_
    refine wq_go rfl (fun _ => rfl) ?_
    refine wq_go rfl (fun _ => rfl) ?_
    refine wq_callV rfl rfl (by first | rfl | assumption) (by first | decide | omega | assumption) (Nat.le_of_ble_eq_true rfl) (Nat.le_of_ble_eq_true rfl) rfl rfl ?_
    refine c_newN_e W0 (by decide) (fun x2 => ?_)
    refine wq_go rfl (fun _ => rfl) ?_
    refine wq_go rfl (fun _ => rfl) ?_
    refine wq_cN (m := 0) rfl rfl ?_
    refine wq_cN (m := 9) rfl rfl ?_
    refine wq_callV rfl rfl (by first | rfl | assumption) (by first | decide | omega | assumption) (Nat.le_of_ble_eq_true rfl) (Nat.le_of_ble_eq_true rfl) rfl rfl ?_
    refine c_tin_e (lo := 0) (hi := 9) W0 (by decide) (fun x3 => ?_)
    refine wq_go rfl (fun _ => rfl) ?_
    refine wq_cN (m := 0) rfl rfl ?_
    refine wq_go rfl (fun _ => rfl) ?_
    refine wq_go rfl (fun _ => rfl) ?_
    refine wq_cN (m := 4) rfl rfl ?_
    refine wq_cge rfl (by first | omega | decide | exact Nat.lt_of_le_of_lt Nat.and_le_right (by decide) | exact ⟨by omega, by omega⟩) (by first | omega | decide | exact Nat.lt_of_le_of_lt Nat.and_le_right (by decide) | exact ⟨by omega, by omega⟩) (fun c => absurd c (by omega)) (fun c22 => ?_)
    refine wq_go rfl (fun _ => rfl) ?_
    refine wq_getf rfl (by first | rfl | assumption) (by first | decide | omega | assumption) (Classical.choose_spec W0.1) rfl ?_
    refine wq_go rfl (fun _ => rfl) ?_
    refine wq_getf rfl (by first | rfl | assumption) (by first | decide | omega | assumption) (Classical.choose_spec W0.1) rfl ?_
    refine wq_getf rfl (by first | rfl | assumption) (by first | decide | omega | assumption) W0.2.1 rfl ?_
    refine wq_go rfl (fun _ => rfl) ?_
    refine wq_go rfl (fun _ => rfl) ?_
    refine wq_cN (m := 0) rfl rfl ?_
    refine wq_cN (m := 99) rfl rfl ?_
    refine wq_callV rfl rfl (by first | rfl | assumption) (by first | decide | omega | assumption) (Nat.le_of_ble_eq_true rfl) (Nat.le_of_ble_eq_true rfl) rfl rfl ?_
    refine c_tin_e (lo := 0) (hi := 99) W0 (by decide) (fun x4 => ?_)
    refine wq_callV rfl rfl (by first | rfl | assumption) (by first | decide | omega | assumption) (Nat.le_of_ble_eq_true rfl) (Nat.le_of_ble_eq_true rfl) rfl rfl ?_
    refine c_ownAny W0 (by omega) (by omega) (fun τ4 G4 V4 => ?_)
    refine wq_incN rfl rfl rfl ?_
    refine wq_go rfl (fun _ => rfl) ?_
    refine wq_go rfl (fun _ => rfl) ?_
    refine wq_cN (m := 4) rfl rfl ?_
    refine wq_cge rfl (by first | omega | decide | exact Nat.lt_of_le_of_lt Nat.and_le_right (by decide) | exact ⟨by omega, by omega⟩) (by first | omega | decide | exact Nat.lt_of_le_of_lt Nat.and_le_right (by decide) | exact ⟨by omega, by omega⟩) (fun c => absurd c (by omega)) (fun c22 => ?_)
    refine wq_go rfl (fun _ => rfl) ?_
    refine wq_getf rfl (by first | rfl | assumption) (by first | decide | omega | assumption) (Classical.choose_spec V4.1) rfl ?_
    refine wq_go rfl (fun _ => rfl) ?_
    refine wq_getf rfl (by first | rfl | assumption) (by first | decide | omega | assumption) (Classical.choose_spec V4.1) rfl ?_
    refine wq_getf rfl (by first | rfl | assumption) (by first | decide | omega | assumption) V4.2.1 rfl ?_
    refine wq_go rfl (fun _ => rfl) ?_
    refine wq_go rfl (fun _ => rfl) ?_
    refine wq_cN (m := 0) rfl rfl ?_
    refine wq_cN (m := 99) rfl rfl ?_
    refine wq_callV rfl rfl (by first | rfl | assumption) (by first | decide | omega | assumption) (Nat.le_of_ble_eq_true rfl) (Nat.le_of_ble_eq_true rfl) rfl rfl ?_
    refine c_tin_e (lo := 0) (hi := 99) V4 (by decide) (fun x5 => ?_)
    refine wq_callV rfl rfl (by first | rfl | assumption) (by first | decide | omega | assumption) (Nat.le_of_ble_eq_true rfl) (Nat.le_of_ble_eq_true rfl) rfl rfl ?_
    refine c_ownAny V4 (by omega) (by omega) (fun τ5 G5 V5 => ?_)
    refine wq_incN rfl rfl rfl ?_
    refine wq_go rfl (fun _ => rfl) ?_
    refine wq_go rfl (fun _ => rfl) ?_
    refine wq_cN (m := 4) rfl rfl ?_
    refine wq_cge rfl (by first | omega | decide | exact Nat.lt_of_le_of_lt Nat.and_le_right (by decide) | exact ⟨by omega, by omega⟩) (by first | omega | decide | exact Nat.lt_of_le_of_lt Nat.and_le_right (by decide) | exact ⟨by omega, by omega⟩) (fun c => absurd c (by omega)) (fun c22 => ?_)
    refine wq_go rfl (fun _ => rfl) ?_
    refine wq_getf rfl (by first | rfl | assumption) (by first | decide | omega | assumption) (Classical.choose_spec V5.1) rfl ?_
    refine wq_go rfl (fun _ => rfl) ?_
    refine wq_getf rfl (by first | rfl | assumption) (by first | decide | omega | assumption) (Classical.choose_spec V5.1) rfl ?_
    refine wq_getf rfl (by first | rfl | assumption) (by first | decide | omega | assumption) V5.2.1 rfl ?_
    refine wq_go rfl (fun _ => rfl) ?_
    refine wq_go rfl (fun _ => rfl) ?_
    refine wq_cN (m := 0) rfl rfl ?_
    refine wq_cN (m := 99) rfl rfl ?_
    refine wq_callV rfl rfl (by first | rfl | assumption) (by first | decide | omega | assumption) (Nat.le_of_ble_eq_true rfl) (Nat.le_of_ble_eq_true rfl) rfl rfl ?_
    refine c_tin_e (lo := 0) (hi := 99) V5 (by decide) (fun x6 => ?_)
    refine wq_callV rfl rfl (by first | rfl | assumption) (by first | decide | omega | assumption) (Nat.le_of_ble_eq_true rfl) (Nat.le_of_ble_eq_true rfl) rfl rfl ?_
    refine c_ownAny V5 (by omega) (by omega) (fun τ6 G6 V6 => ?_)
    refine wq_incN rfl rfl rfl ?_
    refine wq_go rfl (fun _ => rfl) ?_
    refine wq_go rfl (fun _ => rfl) ?_
    refine wq_cN (m := 4) rfl rfl ?_
    refine wq_cge rfl (by first | omega | decide | exact Nat.lt_of_le_of_lt Nat.and_le_right (by decide) | exact ⟨by omega, by omega⟩) (by first | omega | decide | exact Nat.lt_of_le_of_lt Nat.and_le_right (by decide) | exact ⟨by omega, by omega⟩) (fun c => absurd c (by omega)) (fun c22 => ?_)
    refine wq_go rfl (fun _ => rfl) ?_
    refine wq_getf rfl (by first | rfl | assumption) (by first | decide | omega | assumption) (Classical.choose_spec V6.1) rfl ?_
    refine wq_go rfl (fun _ => rfl) ?_
    refine wq_getf rfl (by first | rfl | assumption) (by first | decide | omega | assumption) (Classical.choose_spec V6.1) rfl ?_
    refine wq_getf rfl (by first | rfl | assumption) (by first | decide | omega | assumption) V6.2.1 rfl ?_
    refine wq_go rfl (fun _ => rfl) ?_
    refine wq_go rfl (fun _ => rfl) ?_
    refine wq_cN (m := 0) rfl rfl ?_
    refine wq_cN (m := 99) rfl rfl ?_
    refine wq_callV rfl rfl (by first | rfl | assumption) (by first | decide | omega | assumption) (Nat.le_of_ble_eq_true rfl) (Nat.le_of_ble_eq_true rfl) rfl rfl ?_
    refine c_tin_e (lo := 0) (hi := 99) V6 (by decide) (fun x7 => ?_)
    refine wq_callV rfl rfl (by first | rfl | assumption) (by first | decide | omega | assumption) (Nat.le_of_ble_eq_true rfl) (Nat.le_of_ble_eq_true rfl) rfl rfl ?_
    refine c_ownAny V6 (by omega) (by omega) (fun τ7 G7 V7 => ?_)
    refine wq_incN rfl rfl rfl ?_
    refine wq_go rfl (fun _ => rfl) ?_
    refine wq_go rfl (fun _ => rfl) ?_
    refine wq_cN (m := 4) rfl rfl ?_
    refine wq_cge rfl (by first | omega | decide | exact Nat.lt_of_le_of_lt Nat.and_le_right (by decide) | exact ⟨by omega, by omega⟩) (by first | omega | decide | exact Nat.lt_of_le_of_lt Nat.and_le_right (by decide) | exact ⟨by omega, by omega⟩) (fun c22 => ?_) (fun c => absurd (show _ from by omega) c)
    refine wq_go rfl (fun _ => rfl) ?_
    refine wq_cN (m := 25) rfl rfl ?_
    refine wq_callV rfl rfl (by first | rfl | assumption) (by first | decide | omega | assumption) (Nat.le_of_ble_eq_true rfl) (Nat.le_of_ble_eq_true rfl) rfl rfl ?_
    refine c_acc_e V7 (by decide) ?_
    refine wq_zeq rfl (by first | omega | decide | exact Nat.lt_of_le_of_lt Nat.and_le_right (by decide) | exact ⟨by omega, by omega⟩) (fun c39 => ?_) (fun c => absurd (show _ from by omega) c)
    refine wq_end rfl (fun _ => rfl) ?_
    exact K0 _ _ _ _ (if_pos (by omega)) (by decide) (fr_trans (fr_trans (fr_trans (fr_trans (f3O F0) (f7O G4)) (f7O G5)) (f7O G6)) (f7O G7)) V7
