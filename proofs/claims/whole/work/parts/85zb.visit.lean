/-! VISITS BY THE CLASS -/
theorem rdw_g {X : Tx} {f t sc nc nh nv sc' nc' nh' nv' : Nat} {y : Nat → Int32} {w : Option (Nat × Nat)} {σ σ' : Nat → List Value} (h : RdW X f t sc nc nh nv y w σ) (e3 : σ' 3 = σ 3) (e4 : σ' 4 = drO sc' nc' nh' nv' y) (b1 : sc' ≤ 408) (b2 : nc' ≤ 4) (b3 : nh' ≤ 5) (b4 : nv' ≤ 10) (hS : Shp σ') (eT : ∀ j, 15 ≤ j → j ≤ 20 → σ' j = σ j) : RdW X f t sc' nc' nh' nv' y w σ' := by
  obtain ⟨⟨fp, h3⟩, _, _, _, _, _, _, h10, h11, h12, h13⟩ := h
  exact ⟨⟨fp, e3.trans h3⟩, e4, b1, b2, b3, b4, hS, tkx_eq h10 eT, h11, h12, h13⟩
theorem c_addV {xs : List Int32} {d : Nat} {σ : Nat → List Value} {Q : Option Value → (Nat → List Value) → Prop} {X : Tx} {f t sc nc nh nv : Nat} {y : Nat → Int32} {w : Option (Nat × Nat)} (hW : RdW X f t sc nc nh nv y w σ) {a b : Int32} {m : Nat} (hn : nv < 10)  (K : ∀ σ', (∀ j, ¬ (j = 4 ∨ j = 8 ∨ j = 9 ∨ j = 10) → σ' j = σ j) → σ' 4 = drO sc nc nh (nv + 1) y → σ' 8 = arr 10 (upd (ag σ 8) nv a) → σ' 9 = arr 10 (upd (ag σ 9) nv b) → σ' 10 = arr 10 (upd (ag σ 10) nv (nI m)) → RdW X f t sc nc nh (nv + 1) y w σ' → Q none σ') : Wq xs (d + 0) ax_cd65 0 [(0, .ref 4), (1, .int a), (2, .int b), (3, .int (nI m))] [] σ Q := by
  have hW0 := hW
  obtain ⟨⟨fpl, h3⟩, h4, hsc, hnc, hnh, hnv, hsh, ⟨s, n15, fk, fp, fn, fm, h15, h17, h18, h19, h20, hs, ek, ep, en, em, el, e35⟩, ht, hr, hf⟩ := hW0
  have hk35 := e35 t
  have hts := el t ht hr
  refine wq_go rfl (fun _ => rfl) ?_
  refine wq_getf rfl (by first | rfl | assumption) (by first | decide | omega | assumption) h4 rfl ?_
  refine wq_zlt rfl (by first | omega | decide | exact Nat.lt_of_le_of_lt Nat.and_le_right (by decide) | exact ⟨by omega, by omega⟩) (fun c => absurd c (by omega)) (fun c2 => ?_)
  refine wq_go rfl (fun _ => rfl) ?_
  refine wq_getf rfl (by first | rfl | assumption) (by first | decide | omega | assumption) h4 rfl ?_
  refine wq_cN (m := 10) rfl rfl ?_
  refine wq_cge rfl (by first | omega | decide | exact Nat.lt_of_le_of_lt Nat.and_le_right (by decide) | exact ⟨by omega, by omega⟩) (by first | omega | decide | exact Nat.lt_of_le_of_lt Nat.and_le_right (by decide) | exact ⟨by omega, by omega⟩) (fun c => absurd c (by omega)) (fun c6 => ?_)
  refine wq_go rfl (fun _ => rfl) ?_
  refine wq_getf rfl (by first | rfl | assumption) (by first | decide | omega | assumption) h4 rfl ?_
  refine wq_go rfl (fun _ => rfl) ?_
  refine wq_getf rfl (by first | rfl | assumption) (by first | decide | omega | assumption) h4 rfl ?_
  refine wq_go rfl (fun _ => rfl) ?_
  refine wq_iast rfl (by first | rfl | assumption) (by first | decide | omega | assumption) (shp_g hsh (by decide) : IsA σ 8 10) rfl (by omega) (by first | decide | omega) ?_
  refine wq_go rfl (fun _ => rfl) ?_
  refine wq_getf rfl (by first | rfl | assumption) (by first | decide | omega | assumption) ((up_ne _ _ (by decide)).trans h4) rfl ?_
  refine wq_go rfl (fun _ => rfl) ?_
  refine wq_getf rfl (by first | rfl | assumption) (by first | decide | omega | assumption) ((up_ne _ _ (by decide)).trans h4) rfl ?_
  refine wq_go rfl (fun _ => rfl) ?_
  refine wq_iast rfl (by first | rfl | assumption) (by first | decide | omega | assumption) ((up_ne _ _ (by decide)).trans (shp_g hsh (by decide) : IsA σ 9 10)) rfl (by omega) (by first | decide | omega) ?_
  refine wq_go rfl (fun _ => rfl) ?_
  refine wq_getf rfl (by first | rfl | assumption) (by first | decide | omega | assumption) ((up_ne _ _ (by decide)).trans ((up_ne _ _ (by decide)).trans h4)) rfl ?_
  refine wq_go rfl (fun _ => rfl) ?_
  refine wq_getf rfl (by first | rfl | assumption) (by first | decide | omega | assumption) ((up_ne _ _ (by decide)).trans ((up_ne _ _ (by decide)).trans h4)) rfl ?_
  refine wq_go rfl (fun _ => rfl) ?_
  refine wq_iast rfl (by first | rfl | assumption) (by first | decide | omega | assumption) ((up_ne _ _ (by decide)).trans ((up_ne _ _ (by decide)).trans (shp_g hsh (by decide) : IsA σ 10 10))) rfl (by omega) (by first | decide | omega) ?_
  refine wq_go rfl (fun _ => rfl) ?_
  refine wq_go rfl (fun _ => rfl) ?_
  refine wq_getf rfl (by first | rfl | assumption) (by first | decide | omega | assumption) ((up_ne _ _ (by decide)).trans ((up_ne _ _ (by decide)).trans ((up_ne _ _ (by decide)).trans h4))) rfl ?_
  refine wq_cN (m := 1) rfl rfl ?_
  refine wq_addN rfl ?_
  refine wq_putf rfl (by first | rfl | assumption) (by first | decide | omega | assumption) ((up_ne _ _ (by decide)).trans ((up_ne _ _ (by decide)).trans ((up_ne _ _ (by decide)).trans h4))) rfl rfl rfl (by first | exact Nat.le_of_ble_eq_true rfl | (simp; done)) ?_
  refine wq_end rfl (fun _ => rfl) ?_
  refine K _ (fun j hj => ?_) (up_same _ _ _) ?_ ?_ ?_ (rdw_g hW ?_ (up_same _ _ _) hsc hnc hnh (by omega) ?_ (fun j h1 h2 => ?_))
  · rw [up_ne _ _ (by omega), up_ne _ _ (by omega), up_ne _ _ (by omega), up_ne _ _ (by omega)]
  · rw [up_ne _ _ (by decide), up_ne _ _ (by decide), up_ne _ _ (by decide), up_same]
  · rw [up_ne _ _ (by decide), up_ne _ _ (by decide), up_same]
  · rw [up_ne _ _ (by decide), up_same]
  · rw [up_ne _ _ (by decide), up_ne _ _ (by decide), up_ne _ _ (by decide), up_ne _ _ (by decide)]
  · exact shp_eq (shp_a (shp_a (shp_a hsh (by decide : (8, 10) ∈ shpl)) (by decide : (9, 10) ∈ shpl)) (by decide : (10, 10) ∈ shpl)) (fun j h1 h2 => up_ne _ _ (by omega))
  · rw [up_ne _ _ (by omega), up_ne _ _ (by omega), up_ne _ _ (by omega), up_ne _ _ (by omega)]
theorem c_visit {xs : List Int32} {d : Nat} {σ : Nat → List Value} {Q : Option Value → (Nat → List Value) → Prop} {X : Tx} {t sc nc nh nv : Nat} {y : Nat → Int32} {w : Option (Nat × Nat)} (hW : RdW X 0 t sc nc nh nv y w σ) {gc gh : Nat → Int64} (hgc : σ 13 = arrL 4 gc) (hgh : σ 14 = arrL 5 gh) (hL : okL w) (hv : ∀ i, Xv X i < 10000)  (K1 : ∀ t1 t2 t3 t4 t5 σ', nv < 10 → must X 2 t = .inr t1 → must X 23 t1 = .inr t2 → must X 23 t2 = .inr t3 → must X 24 t3 = .inr t4 → must X 25 t4 = .inr t5 → t5 = t + 5 → RdW X 0 t5 sc nc nh (nv + 1) y (wn (wn (wn w (nmb gh nh (Xn X t1)).isNone 4 (Xp X t1)) (nmb gc nc (Xn X t2)).isNone 4 (Xp X t2)) (outB X t3 0 23) 5 (Xp X t3)) σ' → (∀ j, ¬ (j = 3 ∨ j = 4 ∨ j = 8 ∨ j = 9 ∨ j = 10) → σ' j = σ j) → σ' 4 = drO sc nc nh (nv + 1) y → σ' 8 = arr 10 (upd (ag σ 8) nv (nmI (nmb gh nh (Xn X t1)))) → σ' 9 = arr 10 (upd (ag σ 9) nv (nmI (nmb gc nc (Xn X t2)))) → σ' 10 = arr 10 (upd (ag σ 10) nv (nI (Xv X t3))) → Q none σ') (K0 : ∀ f' t' w' σ', (if 10 ≤ nv then er 2 t else bnd (must X 2 t) fun t1 => bnd (must X 23 t1) fun t2 => bnd (must X 23 t2) fun t3 => bnd (must X 24 t3) fun t4 => must X 25 t4) = er f' t' → ¬ f' = 0 → Fr x3 σ σ' → RdW X f' t' sc nc nh nv y w' σ' → Q none σ') : Wq xs (d + 3) ax_cd63 0 [(0, .ref 3)] [] σ Q := by
  have hW0 := hW
  obtain ⟨⟨fpl, h3⟩, h4, hsc, hnc, hnh, hnv, hsh, ⟨s, n15, fk, fp, fn, fm, h15, h17, h18, h19, h20, hs, ek, ep, en, em, el, e35⟩, ht, hr, hf⟩ := hW0
  have hk35 := e35 t
  have hts := el t ht hr
  refine wq_go rfl (fun _ => rfl) ?_
  refine wq_go rfl (fun _ => rfl) ?_
  refine wq_getf rfl (by first | rfl | assumption) (by first | decide | omega | assumption) h3 rfl ?_
  refine wq_getf rfl (by first | rfl | assumption) (by first | decide | omega | assumption) h4 rfl ?_
  refine wq_cN (m := 10) rfl rfl ?_
  refine wq_callV rfl rfl (by first | rfl | assumption) (by first | decide | omega | assumption) (Nat.le_of_ble_eq_true rfl) (Nat.le_of_ble_eq_true rfl) rfl rfl ?_
  by_cases hn : nv < 10
  · refine c_more_e (a := nv) (m := 10) hW (Or.inr hn) (by omega) (by decide) ?_
    refine wq_go rfl (fun _ => rfl) ?_
    refine wq_cN (m := 2) rfl rfl ?_
    refine wq_callV rfl rfl (by first | rfl | assumption) (by first | decide | omega | assumption) (Nat.le_of_ble_eq_true rfl) (Nat.le_of_ble_eq_true rfl) rfl rfl ?_
    refine c_acc hW (by decide) (fun t1 σ1 m1 q1 k1 F1 W1 => ?_) (fun f1 σ1 m1 n1 u1 F1 W1 => ?_)
    · skip
      refine wq_go rfl (fun _ => rfl) ?_
      refine wq_go rfl (fun _ => rfl) ?_
      refine wq_go rfl (fun _ => rfl) ?_
      refine wq_getf rfl (by first | rfl | assumption) (by first | decide | omega | assumption) (Classical.choose_spec W1.1) rfl ?_
      refine wq_go rfl (fun _ => rfl) ?_
      refine wq_getf rfl (by first | rfl | assumption) (by first | decide | omega | assumption) (Classical.choose_spec W1.1) rfl ?_
      refine wq_getf rfl (by first | rfl | assumption) (by first | decide | omega | assumption) W1.2.1 rfl ?_
      refine wq_callV rfl rfl (by first | rfl | assumption) (by first | decide | omega | assumption) (Nat.le_of_ble_eq_true rfl) (Nat.le_of_ble_eq_true rfl) rfl rfl ?_
      refine c_knN (N := 5) (g := gh) W1 rfl (by decide) ((F1 14 rfl).trans hgh) hnh (by decide) hL (fun t2 σ2 m2 q2 F2 W2 => ?_) (fun f2 x2 w2 σ2 m2 n2 F2 W2 => ?_)
      · skip
        refine wq_go rfl (fun _ => rfl) ?_
        refine wq_go rfl (fun _ => rfl) ?_
        refine wq_go rfl (fun _ => rfl) ?_
        refine wq_getf rfl (by first | rfl | assumption) (by first | decide | omega | assumption) (Classical.choose_spec W2.1) rfl ?_
        refine wq_go rfl (fun _ => rfl) ?_
        refine wq_getf rfl (by first | rfl | assumption) (by first | decide | omega | assumption) (Classical.choose_spec W2.1) rfl ?_
        refine wq_getf rfl (by first | rfl | assumption) (by first | decide | omega | assumption) W2.2.1 rfl ?_
        refine wq_callV rfl rfl (by first | rfl | assumption) (by first | decide | omega | assumption) (Nat.le_of_ble_eq_true rfl) (Nat.le_of_ble_eq_true rfl) rfl rfl ?_
        refine c_knN (N := 4) (g := gc) W2 rfl (by decide) ((F2 13 rfl).trans ((F1 13 rfl).trans hgc)) hnc (by decide) (okL_n w _ _ hL (by decide)) (fun t3 σ3 m3 q3 F3 W3 => ?_) (fun f3 x3 w3 σ3 m3 n3 F3 W3 => ?_)
        · skip
          refine wq_go rfl (fun _ => rfl) ?_
          refine wq_go rfl (fun _ => rfl) ?_
          refine wq_cN (m := 0) rfl rfl ?_
          refine wq_cN (m := 23) rfl rfl ?_
          refine wq_callV rfl rfl (by first | rfl | assumption) (by first | decide | omega | assumption) (Nat.le_of_ble_eq_true rfl) (Nat.le_of_ble_eq_true rfl) rfl rfl ?_
          refine c_tin (lo := 0) (hi := 23) W3 (okL_n _ _ _ (okL_n w _ _ hL (by decide)) (by decide)) hv (by omega) (by omega) (fun t4 σ4 m4 q4 k4 F4 W4 => ?_) (fun f4 x4 w4 σ4 m4 n4 u4 F4 W4 => ?_)
          · skip
            refine wq_go rfl (fun _ => rfl) ?_
            refine wq_go rfl (fun _ => rfl) ?_
            refine wq_cN (m := 25) rfl rfl ?_
            refine wq_callV rfl rfl (by first | rfl | assumption) (by first | decide | omega | assumption) (Nat.le_of_ble_eq_true rfl) (Nat.le_of_ble_eq_true rfl) rfl rfl ?_
            refine c_acc W4 (by decide) (fun t5 σ5 m5 q5 k5 F5 W5 => ?_) (fun f5 σ5 m5 n5 u5 F5 W5 => ?_)
            · skip
              refine wq_zeq rfl (by first | omega | decide | exact Nat.lt_of_le_of_lt Nat.and_le_right (by decide) | exact ⟨by omega, by omega⟩) (fun c => absurd c (by omega)) (fun c34 => ?_)
              refine wq_go rfl (fun _ => rfl) ?_
              refine wq_getf rfl (by first | rfl | assumption) (by first | decide | omega | assumption) (Classical.choose_spec W5.1) rfl ?_
              refine wq_go rfl (fun _ => rfl) ?_
              refine wq_go rfl (fun _ => rfl) ?_
              refine wq_go rfl (fun _ => rfl) ?_
              refine wq_callV rfl rfl (by first | rfl | assumption) (by first | decide | omega | assumption) (Nat.le_of_ble_eq_true rfl) (Nat.le_of_ble_eq_true rfl) rfl rfl ?_
              refine c_addV W5 hn (fun σ6 o6 e4 e8 e9 e10 W6 => ?_)
              refine wq_end rfl (fun _ => rfl) ?_
              have fr5 : ∀ j, ¬ j = 3 → σ5 j = σ j := fun j hj => by
                have hx : x3 j = false := by simp only [x3, beq_eq_false_iff_ne]; exact hj
                exact (F5 j hx).trans ((F4 j hx).trans ((F3 j hx).trans ((F2 j hx).trans (F1 j hx))))
              have a5 : ∀ p, ¬ p = 3 → ag σ5 p = ag σ p := fun p hp => funext (fun i => ag_eq (fr5 p hp) i)
              rw [a5 8 (by decide)] at e8
              rw [a5 9 (by decide)] at e9
              rw [a5 10 (by decide)] at e10
              exact K1 t1 t2 t3 t4 t5 σ6 hn m1 m2 m3 m4 m5 (by omega) W6 (fun j hj => (o6 j (by omega)).trans (fr5 j (by omega))) e4 e8 e9 e10
            · skip
              have f9 : f5 < 10 := W5.2.2.2.2.2.2.2.2.2.2
              refine wq_zeq rfl (by first | omega | decide | exact Nat.lt_of_le_of_lt Nat.and_le_right (by decide) | exact ⟨by omega, by omega⟩) (fun c34 => ?_) (fun c => absurd (show _ from by omega) c)
              refine wq_end rfl (fun _ => rfl) ?_
              exact K0 _ _ _ _ (by rw [if_neg (by omega)]; simp only [m1, m2, m3, m4, m5, bnd_o, bnd_e]) n5 (fr_trans (fr_trans (fr_trans (fr_trans F1 F2) F3) F4) F5) W5
          · have f9 : f4 < 10 := W4.2.2.2.2.2.2.2.2.2.2
            refine wq_go rfl (fun _ => rfl) ?_
            refine wq_go rfl (fun _ => rfl) ?_
            refine wq_cN (m := 25) rfl rfl ?_
            refine wq_callV rfl rfl (by first | rfl | assumption) (by first | decide | omega | assumption) (Nat.le_of_ble_eq_true rfl) (Nat.le_of_ble_eq_true rfl) rfl rfl ?_
            refine c_acc_e W4 n4 ?_
            refine wq_zeq rfl (by first | omega | decide | exact Nat.lt_of_le_of_lt Nat.and_le_right (by decide) | exact ⟨by omega, by omega⟩) (fun c34 => ?_) (fun c => absurd (show _ from by omega) c)
            refine wq_end rfl (fun _ => rfl) ?_
            exact K0 _ _ _ _ (by rw [if_neg (by omega)]; simp only [m1, m2, m3, m4, bnd_o, bnd_e]) n4 (fr_trans (fr_trans (fr_trans F1 F2) F3) F4) W4
        · have f9 : f3 < 10 := W3.2.2.2.2.2.2.2.2.2.2
          refine wq_go rfl (fun _ => rfl) ?_
          refine wq_go rfl (fun _ => rfl) ?_
          refine wq_cN (m := 0) rfl rfl ?_
          refine wq_cN (m := 23) rfl rfl ?_
          refine wq_callV rfl rfl (by first | rfl | assumption) (by first | decide | omega | assumption) (Nat.le_of_ble_eq_true rfl) (Nat.le_of_ble_eq_true rfl) rfl rfl ?_
          refine c_tin_e (lo := 0) (hi := 23) W3 n3 (fun x4 => ?_)
          refine wq_go rfl (fun _ => rfl) ?_
          refine wq_go rfl (fun _ => rfl) ?_
          refine wq_cN (m := 25) rfl rfl ?_
          refine wq_callV rfl rfl (by first | rfl | assumption) (by first | decide | omega | assumption) (Nat.le_of_ble_eq_true rfl) (Nat.le_of_ble_eq_true rfl) rfl rfl ?_
          refine c_acc_e W3 n3 ?_
          refine wq_zeq rfl (by first | omega | decide | exact Nat.lt_of_le_of_lt Nat.and_le_right (by decide) | exact ⟨by omega, by omega⟩) (fun c34 => ?_) (fun c => absurd (show _ from by omega) c)
          refine wq_end rfl (fun _ => rfl) ?_
          exact K0 _ _ _ _ (by rw [if_neg (by omega)]; simp only [m1, m2, m3, bnd_o, bnd_e]) n3 (fr_trans (fr_trans F1 F2) F3) W3
      · have f9 : f2 < 10 := W2.2.2.2.2.2.2.2.2.2.2
        refine wq_go rfl (fun _ => rfl) ?_
        refine wq_go rfl (fun _ => rfl) ?_
        refine wq_go rfl (fun _ => rfl) ?_
        refine wq_getf rfl (by first | rfl | assumption) (by first | decide | omega | assumption) (Classical.choose_spec W2.1) rfl ?_
        refine wq_go rfl (fun _ => rfl) ?_
        refine wq_getf rfl (by first | rfl | assumption) (by first | decide | omega | assumption) (Classical.choose_spec W2.1) rfl ?_
        refine wq_getf rfl (by first | rfl | assumption) (by first | decide | omega | assumption) W2.2.1 rfl ?_
        refine wq_callV rfl rfl (by first | rfl | assumption) (by first | decide | omega | assumption) (Nat.le_of_ble_eq_true rfl) (Nat.le_of_ble_eq_true rfl) rfl rfl ?_
        obtain ⟨g3', hg3'⟩ := W2.2.2.2.2.2.2.1.2.1
        refine c_knN_e (N := 4) (g := g3') W2 rfl (by decide) hg3' hnc (by decide) n2 (fun x3 => ?_)
        refine wq_go rfl (fun _ => rfl) ?_
        refine wq_go rfl (fun _ => rfl) ?_
        refine wq_cN (m := 0) rfl rfl ?_
        refine wq_cN (m := 23) rfl rfl ?_
        refine wq_callV rfl rfl (by first | rfl | assumption) (by first | decide | omega | assumption) (Nat.le_of_ble_eq_true rfl) (Nat.le_of_ble_eq_true rfl) rfl rfl ?_
        refine c_tin_e (lo := 0) (hi := 23) W2 n2 (fun x4 => ?_)
        refine wq_go rfl (fun _ => rfl) ?_
        refine wq_go rfl (fun _ => rfl) ?_
        refine wq_cN (m := 25) rfl rfl ?_
        refine wq_callV rfl rfl (by first | rfl | assumption) (by first | decide | omega | assumption) (Nat.le_of_ble_eq_true rfl) (Nat.le_of_ble_eq_true rfl) rfl rfl ?_
        refine c_acc_e W2 n2 ?_
        refine wq_zeq rfl (by first | omega | decide | exact Nat.lt_of_le_of_lt Nat.and_le_right (by decide) | exact ⟨by omega, by omega⟩) (fun c34 => ?_) (fun c => absurd (show _ from by omega) c)
        refine wq_end rfl (fun _ => rfl) ?_
        exact K0 _ _ _ _ (by rw [if_neg (by omega)]; simp only [m1, m2, bnd_o, bnd_e]) n2 (fr_trans F1 F2) W2
    · skip
      have f9 : f1 < 10 := W1.2.2.2.2.2.2.2.2.2.2
      refine wq_go rfl (fun _ => rfl) ?_
      refine wq_go rfl (fun _ => rfl) ?_
      refine wq_go rfl (fun _ => rfl) ?_
      refine wq_getf rfl (by first | rfl | assumption) (by first | decide | omega | assumption) (Classical.choose_spec W1.1) rfl ?_
      refine wq_go rfl (fun _ => rfl) ?_
      refine wq_getf rfl (by first | rfl | assumption) (by first | decide | omega | assumption) (Classical.choose_spec W1.1) rfl ?_
      refine wq_getf rfl (by first | rfl | assumption) (by first | decide | omega | assumption) W1.2.1 rfl ?_
      refine wq_callV rfl rfl (by first | rfl | assumption) (by first | decide | omega | assumption) (Nat.le_of_ble_eq_true rfl) (Nat.le_of_ble_eq_true rfl) rfl rfl ?_
      obtain ⟨g2', hg2'⟩ := W1.2.2.2.2.2.2.1.2.2
      refine c_knN_e (N := 5) (g := g2') W1 rfl (by decide) hg2' hnh (by decide) n1 (fun x2 => ?_)
      refine wq_go rfl (fun _ => rfl) ?_
      refine wq_go rfl (fun _ => rfl) ?_
      refine wq_go rfl (fun _ => rfl) ?_
      refine wq_getf rfl (by first | rfl | assumption) (by first | decide | omega | assumption) (Classical.choose_spec W1.1) rfl ?_
      refine wq_go rfl (fun _ => rfl) ?_
      refine wq_getf rfl (by first | rfl | assumption) (by first | decide | omega | assumption) (Classical.choose_spec W1.1) rfl ?_
      refine wq_getf rfl (by first | rfl | assumption) (by first | decide | omega | assumption) W1.2.1 rfl ?_
      refine wq_callV rfl rfl (by first | rfl | assumption) (by first | decide | omega | assumption) (Nat.le_of_ble_eq_true rfl) (Nat.le_of_ble_eq_true rfl) rfl rfl ?_
      obtain ⟨g3', hg3'⟩ := W1.2.2.2.2.2.2.1.2.1
      refine c_knN_e (N := 4) (g := g3') W1 rfl (by decide) hg3' hnc (by decide) n1 (fun x3 => ?_)
      refine wq_go rfl (fun _ => rfl) ?_
      refine wq_go rfl (fun _ => rfl) ?_
      refine wq_cN (m := 0) rfl rfl ?_
      refine wq_cN (m := 23) rfl rfl ?_
      refine wq_callV rfl rfl (by first | rfl | assumption) (by first | decide | omega | assumption) (Nat.le_of_ble_eq_true rfl) (Nat.le_of_ble_eq_true rfl) rfl rfl ?_
      refine c_tin_e (lo := 0) (hi := 23) W1 n1 (fun x4 => ?_)
      refine wq_go rfl (fun _ => rfl) ?_
      refine wq_go rfl (fun _ => rfl) ?_
      refine wq_cN (m := 25) rfl rfl ?_
      refine wq_callV rfl rfl (by first | rfl | assumption) (by first | decide | omega | assumption) (Nat.le_of_ble_eq_true rfl) (Nat.le_of_ble_eq_true rfl) rfl rfl ?_
      refine c_acc_e W1 n1 ?_
      refine wq_zeq rfl (by first | omega | decide | exact Nat.lt_of_le_of_lt Nat.and_le_right (by decide) | exact ⟨by omega, by omega⟩) (fun c34 => ?_) (fun c => absurd (show _ from by omega) c)
      refine wq_end rfl (fun _ => rfl) ?_
      exact K0 _ _ _ _ (by rw [if_neg (by omega)]; simp only [m1, bnd_o, bnd_e]) n1 F1 W1
  · refine c_more (a := nv) (m := 10) hW (by omega) (by omega) (by decide) (fun σ0 F0 W0 => ?_)
    refine wq_go rfl (fun _ => rfl) ?_
    refine wq_cN (m := 2) rfl rfl ?_
    refine wq_callV rfl rfl (by first | rfl | assumption) (by first | decide | omega | assumption) (Nat.le_of_ble_eq_true rfl) (Nat.le_of_ble_eq_true rfl) rfl rfl ?_
    refine c_acc_e W0 (by decide) ?_
    refine wq_go rfl (fun _ => rfl) ?_
    refine wq_go rfl (fun _ => rfl) ?_
    refine wq_go rfl (fun _ => rfl) ?_
    refine wq_getf rfl (by first | rfl | assumption) (by first | decide | omega | assumption) (Classical.choose_spec W0.1) rfl ?_
    refine wq_go rfl (fun _ => rfl) ?_
    refine wq_getf rfl (by first | rfl | assumption) (by first | decide | omega | assumption) (Classical.choose_spec W0.1) rfl ?_
    refine wq_getf rfl (by first | rfl | assumption) (by first | decide | omega | assumption) W0.2.1 rfl ?_
    refine wq_callV rfl rfl (by first | rfl | assumption) (by first | decide | omega | assumption) (Nat.le_of_ble_eq_true rfl) (Nat.le_of_ble_eq_true rfl) rfl rfl ?_
    obtain ⟨g2', hg2'⟩ := W0.2.2.2.2.2.2.1.2.2
    refine c_knN_e (N := 5) (g := g2') W0 rfl (by decide) hg2' hnh (by decide) (by decide) (fun x2 => ?_)
    refine wq_go rfl (fun _ => rfl) ?_
    refine wq_go rfl (fun _ => rfl) ?_
    refine wq_go rfl (fun _ => rfl) ?_
    refine wq_getf rfl (by first | rfl | assumption) (by first | decide | omega | assumption) (Classical.choose_spec W0.1) rfl ?_
    refine wq_go rfl (fun _ => rfl) ?_
    refine wq_getf rfl (by first | rfl | assumption) (by first | decide | omega | assumption) (Classical.choose_spec W0.1) rfl ?_
    refine wq_getf rfl (by first | rfl | assumption) (by first | decide | omega | assumption) W0.2.1 rfl ?_
    refine wq_callV rfl rfl (by first | rfl | assumption) (by first | decide | omega | assumption) (Nat.le_of_ble_eq_true rfl) (Nat.le_of_ble_eq_true rfl) rfl rfl ?_
    obtain ⟨g3', hg3'⟩ := W0.2.2.2.2.2.2.1.2.1
    refine c_knN_e (N := 4) (g := g3') W0 rfl (by decide) hg3' hnc (by decide) (by decide) (fun x3 => ?_)
    refine wq_go rfl (fun _ => rfl) ?_
    refine wq_go rfl (fun _ => rfl) ?_
    refine wq_cN (m := 0) rfl rfl ?_
    refine wq_cN (m := 23) rfl rfl ?_
    refine wq_callV rfl rfl (by first | rfl | assumption) (by first | decide | omega | assumption) (Nat.le_of_ble_eq_true rfl) (Nat.le_of_ble_eq_true rfl) rfl rfl ?_
    refine c_tin_e (lo := 0) (hi := 23) W0 (by decide) (fun x4 => ?_)
    refine wq_go rfl (fun _ => rfl) ?_
    refine wq_go rfl (fun _ => rfl) ?_
    refine wq_cN (m := 25) rfl rfl ?_
    refine wq_callV rfl rfl (by first | rfl | assumption) (by first | decide | omega | assumption) (Nat.le_of_ble_eq_true rfl) (Nat.le_of_ble_eq_true rfl) rfl rfl ?_
    refine c_acc_e W0 (by decide) ?_
    refine wq_zeq rfl (by first | omega | decide | exact Nat.lt_of_le_of_lt Nat.and_le_right (by decide) | exact ⟨by omega, by omega⟩) (fun c34 => ?_) (fun c => absurd (show _ from by omega) c)
    refine wq_end rfl (fun _ => rfl) ?_
    exact K0 _ _ _ _ (if_pos (by omega)) (by decide) F0 W0
