/-! SETTINGS AND CHAIRS BY THE CLASS -/
theorem c_sett {xs : List Int32} {d : Nat} {σ : Nat → List Value} {Q : Option Value → (Nat → List Value) → Prop} {X : Tx} {t sc nc nh nv : Nat} {y : Nat → Int32} {w : Option (Nat × Nat)} (hW : RdW X 0 t sc nc nh nv y w σ) (hL : okL w) (hv : ∀ i, Xv X i < 10000) {lo hi : Nat} (hlo : lo < 10000) (hhi : hi < 10000) (hk34 : Xk X t < 34)  (K1 : ∀ t1 t2 t3 σ', adv t = .inr t1 → must X 24 t1 = .inr t2 → must X 25 t2 = .inr t3 → t3 = t + 3 → Fr x3 σ σ' → RdW X 0 t3 sc nc nh nv y (wn w (outB X t1 lo hi) 5 (Xp X t1)) σ' → Q (some (.int (nI (Xv X t1)))) σ') (K0 : ∀ f' t' x w' σ', (bnd (adv t) fun t1 => bnd (must X 24 t1) fun t2 => must X 25 t2) = er f' t' → ¬ f' = 0 → Fr x3 σ σ' → RdW X f' t' sc nc nh nv y w' σ' → Q (some (.int x)) σ') : Wq xs (d + 3) ax_cd66 0 [(0, .ref 3), (1, .int (nI lo)), (2, .int (nI hi))] [] σ Q := by
  have hW0 := hW
  obtain ⟨⟨fpl, h3⟩, h4, hsc, hnc, hnh, hnv, hsh, ⟨s, n15, fk, fp, fn, fm, h15, h17, h18, h19, h20, hs, ek, ep, en, em, el, e35⟩, ht, hr, hf⟩ := hW0
  have hk35 := e35 t
  have hts := el t ht hr
  refine wq_go rfl (fun _ => rfl) ?_
  refine wq_go rfl (fun _ => rfl) ?_
  refine wq_getf rfl (by first | rfl | assumption) (by first | decide | omega | assumption) h3 rfl ?_
  refine wq_callV rfl rfl (by first | rfl | assumption) (by first | decide | omega | assumption) (Nat.le_of_ble_eq_true rfl) (Nat.le_of_ble_eq_true rfl) rfl rfl ?_
  refine c_acc hW (by omega) (fun t1 σ1 m1 q1 k1 F1 W1 => ?_) (fun f1 σ1 m1 n1 u1 F1 W1 => ?_)
  · have m1 := must_s m1
    refine wq_go rfl (fun _ => rfl) ?_
    refine wq_go rfl (fun _ => rfl) ?_
    refine wq_go rfl (fun _ => rfl) ?_
    refine wq_go rfl (fun _ => rfl) ?_
    refine wq_callV rfl rfl (by first | rfl | assumption) (by first | decide | omega | assumption) (Nat.le_of_ble_eq_true rfl) (Nat.le_of_ble_eq_true rfl) rfl rfl ?_
    refine c_tin (lo := lo) (hi := hi) W1 hL hv (by omega) (by omega) (fun t2 σ2 m2 q2 k2 F2 W2 => ?_) (fun f2 x2 w2 σ2 m2 n2 u2 F2 W2 => ?_)
    · skip
      refine wq_go rfl (fun _ => rfl) ?_
      refine wq_go rfl (fun _ => rfl) ?_
      refine wq_cN (m := 25) rfl rfl ?_
      refine wq_callV rfl rfl (by first | rfl | assumption) (by first | decide | omega | assumption) (Nat.le_of_ble_eq_true rfl) (Nat.le_of_ble_eq_true rfl) rfl rfl ?_
      refine c_acc W2 (by decide) (fun t3 σ3 m3 q3 k3 F3 W3 => ?_) (fun f3 σ3 m3 n3 u3 F3 W3 => ?_)
      · skip
        refine wq_go rfl (fun _ => rfl) ?_
        refine wq_go rfl (fun _ => rfl) ?_
        refine wq_iret rfl ?_
        exact K1 t1 t2 t3 σ3 m1 m2 m3 (by omega) (fr_trans (fr_trans F1 F2) F3) W3
      · skip
        have f9 : f3 < 10 := W3.2.2.2.2.2.2.2.2.2.2
        refine wq_go rfl (fun _ => rfl) ?_
        refine wq_go rfl (fun _ => rfl) ?_
        refine wq_iret rfl ?_
        exact K0 _ _ _ _ _ (by simp only [m1, m2, m3, bnd_o, bnd_e]) n3 (fr_trans (fr_trans F1 F2) F3) W3
    · have f9 : f2 < 10 := W2.2.2.2.2.2.2.2.2.2.2
      refine wq_go rfl (fun _ => rfl) ?_
      refine wq_go rfl (fun _ => rfl) ?_
      refine wq_cN (m := 25) rfl rfl ?_
      refine wq_callV rfl rfl (by first | rfl | assumption) (by first | decide | omega | assumption) (Nat.le_of_ble_eq_true rfl) (Nat.le_of_ble_eq_true rfl) rfl rfl ?_
      refine c_acc_e W2 n2 ?_
      refine wq_go rfl (fun _ => rfl) ?_
      refine wq_go rfl (fun _ => rfl) ?_
      refine wq_iret rfl ?_
      exact K0 _ _ _ _ _ (by simp only [m1, m2, bnd_o, bnd_e]) n2 (fr_trans F1 F2) W2
  · have m1 := must_s m1
    have f9 : f1 < 10 := W1.2.2.2.2.2.2.2.2.2.2
    refine wq_go rfl (fun _ => rfl) ?_
    refine wq_go rfl (fun _ => rfl) ?_
    refine wq_go rfl (fun _ => rfl) ?_
    refine wq_go rfl (fun _ => rfl) ?_
    refine wq_callV rfl rfl (by first | rfl | assumption) (by first | decide | omega | assumption) (Nat.le_of_ble_eq_true rfl) (Nat.le_of_ble_eq_true rfl) rfl rfl ?_
    refine c_tin_e (lo := lo) (hi := hi) W1 n1 (fun x2 => ?_)
    refine wq_go rfl (fun _ => rfl) ?_
    refine wq_go rfl (fun _ => rfl) ?_
    refine wq_cN (m := 25) rfl rfl ?_
    refine wq_callV rfl rfl (by first | rfl | assumption) (by first | decide | omega | assumption) (Nat.le_of_ble_eq_true rfl) (Nat.le_of_ble_eq_true rfl) rfl rfl ?_
    refine c_acc_e W1 n1 ?_
    refine wq_go rfl (fun _ => rfl) ?_
    refine wq_go rfl (fun _ => rfl) ?_
    refine wq_iret rfl ?_
    exact K0 _ _ _ _ _ (by simp only [m1, bnd_o, bnd_e]) n1 F1 W1
theorem rdw_5 {X : Tx} {f t sc nc nh nv nc' : Nat} {y : Nat → Int32} {w : Option (Nat × Nat)} {σ : Nat → List Value} {g : Nat → Int32} (h : RdW X f t sc nc nh nv y w σ) (hs : nc' ≤ 4) : RdW X f t sc nc' nh nv y w (up (up σ 5 (arr 4 g)) 4 (drO sc nc' nh nv y)) := by
  obtain ⟨⟨fp, h3⟩, _, h5, h6, h7, h8, h9, h10, h11, h12, h13⟩ := h
  refine ⟨⟨fp, (up_ne _ _ (by decide)).trans ((up_ne _ _ (by decide)).trans h3)⟩, up_same _ _ _, h5, hs, h7, h8, ?_, tkx_eq h10 (fun j a b => (up_ne _ _ (by omega)).trans (up_ne _ _ (by omega))), h11, h12, h13⟩
  exact shp_eq (shp_a (f := g) h9 (by decide : (5, 4) ∈ shpl)) (fun j a b => up_ne _ _ (by omega))
theorem rdw_13 {X : Tx} {f t sc nc nh nv : Nat} {y : Nat → Int32} {w : Option (Nat × Nat)} {σ : Nat → List Value} {g : Nat → Int64} (h : RdW X f t sc nc nh nv y w σ) : RdW X f t sc nc nh nv y w (up σ 13 (arrL 4 g)) := by
  obtain ⟨⟨fp, h3⟩, h4, h5, h6, h7, h8, h9, h10, h11, h12, h13⟩ := h
  exact ⟨⟨fp, (up_ne _ _ (by decide)).trans h3⟩, (up_ne _ _ (by decide)).trans h4, h5, h6, h7, h8, shp_l h9 (Or.inl ⟨rfl, rfl⟩), tkx_eq h10 (fun j a b => up_ne _ _ (by omega)), h11, h12, h13⟩
theorem c_addC {xs : List Int32} {d : Nat} {σ : Nat → List Value} {Q : Option Value → (Nat → List Value) → Prop} {X : Tx} {f t sc nc nh nv : Nat} {y : Nat → Int32} {w : Option (Nat × Nat)} (hW : RdW X f t sc nc nh nv y w σ) {m : Nat} (hn : nc < 4)  (K : ∀ σ', σ' = up (up σ 5 (arr 4 (upd (ag σ 5) nc (nI m)))) 4 (drO sc (nc + 1) nh nv y) → RdW X f t sc (nc + 1) nh nv y w σ' → Q none σ') : Wq xs (d + 0) ax_cd59 0 [(0, .ref 4), (1, .int (nI m))] [] σ Q := by
  have hW0 := hW
  obtain ⟨⟨fpl, h3⟩, h4, hsc, hnc, hnh, hnv, hsh, ⟨s, n15, fk, fp, fn, fm, h15, h17, h18, h19, h20, hs, ek, ep, en, em, el, e35⟩, ht, hr, hf⟩ := hW0
  have hk35 := e35 t
  have hts := el t ht hr
  refine wq_go rfl (fun _ => rfl) ?_
  refine wq_getf rfl (by first | rfl | assumption) (by first | decide | omega | assumption) h4 rfl ?_
  refine wq_zlt rfl (by first | omega | decide | exact Nat.lt_of_le_of_lt Nat.and_le_right (by decide) | exact ⟨by omega, by omega⟩) (fun c => absurd c (by omega)) (fun c2 => ?_)
  refine wq_go rfl (fun _ => rfl) ?_
  refine wq_getf rfl (by first | rfl | assumption) (by first | decide | omega | assumption) h4 rfl ?_
  refine wq_go rfl (fun _ => rfl) ?_
  refine wq_getf rfl (by first | rfl | assumption) (by first | decide | omega | assumption) h4 rfl ?_
  refine wq_alen rfl (by first | rfl | assumption) (by first | decide | omega | assumption) rfl (shp_g hsh (by decide) : IsA σ 5 4) (arr_len _ _) ?_
  refine wq_cge rfl (by first | omega | decide | exact Nat.lt_of_le_of_lt Nat.and_le_right (by decide) | exact ⟨by omega, by omega⟩) (by first | omega | decide | exact Nat.lt_of_le_of_lt Nat.and_le_right (by decide) | exact ⟨by omega, by omega⟩) (fun c => absurd c (by omega)) (fun c8 => ?_)
  refine wq_go rfl (fun _ => rfl) ?_
  refine wq_getf rfl (by first | rfl | assumption) (by first | decide | omega | assumption) h4 rfl ?_
  refine wq_go rfl (fun _ => rfl) ?_
  refine wq_getf rfl (by first | rfl | assumption) (by first | decide | omega | assumption) h4 rfl ?_
  refine wq_go rfl (fun _ => rfl) ?_
  refine wq_iast rfl (by first | rfl | assumption) (by first | decide | omega | assumption) (shp_g hsh (by decide) : IsA σ 5 4) rfl (by omega) (by first | decide | omega) ?_
  refine wq_go rfl (fun _ => rfl) ?_
  refine wq_go rfl (fun _ => rfl) ?_
  refine wq_getf rfl (by first | rfl | assumption) (by first | decide | omega | assumption) ((up_ne _ _ (by decide)).trans h4) rfl ?_
  refine wq_cN (m := 1) rfl rfl ?_
  refine wq_addN rfl ?_
  refine wq_putf rfl (by first | rfl | assumption) (by first | decide | omega | assumption) ((up_ne _ _ (by decide)).trans h4) rfl rfl rfl (by first | exact Nat.le_of_ble_eq_true rfl | (simp; done)) ?_
  refine wq_end rfl (fun _ => rfl) ?_
  exact K _ rfl (rdw_5 hW (by omega))
theorem c_chair {xs : List Int32} {d : Nat} {σ : Nat → List Value} {Q : Option Value → (Nat → List Value) → Prop} {X : Tx} {t sc nc nh nv : Nat} {y : Nat → Int32} {w : Option (Nat × Nat)} (hW : RdW X 0 t sc nc nh nv y w σ) {gc gh : Nat → Int64} (hgc : σ 13 = arrL 4 gc) (hgh : σ 14 = arrL 5 gh) (hL : okL w) (hv : ∀ i, Xv X i < 10000)  (K1 : ∀ t1 t2 t3 t4 σ', nc < 4 → must X 0 t = .inr t1 → must X 23 t1 = .inr t2 → must X 24 t2 = .inr t3 → must X 25 t3 = .inr t4 → t4 = t + 4 → RdW X 0 t4 sc (nc + 1) nh nv y (wn (wn w ((nmb gc nc (Xn X t1)).isSome || (nmb gh nh (Xn X t1)).isSome) 3 (Xp X t1)) (outB X t2 0 9) 5 (Xp X t2)) σ' → (∀ j, ¬ (j = 3 ∨ j = 4 ∨ j = 5 ∨ j = 13) → σ' j = σ j) → σ' 4 = drO sc (nc + 1) nh nv y → σ' 5 = arr 4 (upd (ag σ 5) nc (nI (Xv X t2))) → σ' 13 = arrL 4 (vp_updL gc nc (Xn X t1)) → Q none σ') (K0 : ∀ f' t' w' σ', (if 4 ≤ nc then er 2 t else bnd (must X 0 t) fun t1 => bnd (must X 23 t1) fun t2 => bnd (must X 24 t2) fun t3 => must X 25 t3) = er f' t' → ¬ f' = 0 → Fr x3 σ σ' → RdW X f' t' sc nc nh nv y w' σ' → Q none σ') : Wq xs (d + 3) ax_cd48 0 [(0, .ref 3)] [] σ Q := by
  have hW0 := hW
  obtain ⟨⟨fpl, h3⟩, h4, hsc, hnc, hnh, hnv, hsh, ⟨s, n15, fk, fp, fn, fm, h15, h17, h18, h19, h20, hs, ek, ep, en, em, el, e35⟩, ht, hr, hf⟩ := hW0
  have hk35 := e35 t
  have hts := el t ht hr
  refine wq_go rfl (fun _ => rfl) ?_
  refine wq_go rfl (fun _ => rfl) ?_
  refine wq_getf rfl (by first | rfl | assumption) (by first | decide | omega | assumption) h3 rfl ?_
  refine wq_getf rfl (by first | rfl | assumption) (by first | decide | omega | assumption) h4 rfl ?_
  refine wq_cN (m := 4) rfl rfl ?_
  refine wq_callV rfl rfl (by first | rfl | assumption) (by first | decide | omega | assumption) (Nat.le_of_ble_eq_true rfl) (Nat.le_of_ble_eq_true rfl) rfl rfl ?_
  by_cases hn : nc < 4
  · refine c_more_e (a := nc) (m := 4) hW (Or.inr hn) (by omega) (by decide) ?_
    refine wq_go rfl (fun _ => rfl) ?_
    refine wq_cN (m := 0) rfl rfl ?_
    refine wq_callV rfl rfl (by first | rfl | assumption) (by first | decide | omega | assumption) (Nat.le_of_ble_eq_true rfl) (Nat.le_of_ble_eq_true rfl) rfl rfl ?_
    refine c_acc hW (by decide) (fun t1 σ1 m1 q1 k1 F1 W1 => ?_) (fun f1 σ1 m1 n1 u1 F1 W1 => ?_)
    · skip
      refine wq_go rfl (fun _ => rfl) ?_
      refine wq_go rfl (fun _ => rfl) ?_
      refine wq_callV rfl rfl (by first | rfl | assumption) (by first | decide | omega | assumption) (Nat.le_of_ble_eq_true rfl) (Nat.le_of_ble_eq_true rfl) rfl rfl ?_
      refine c_newN (gc := gc) (gh := gh) W1 ((F1 13 rfl).trans hgc) ((F1 14 rfl).trans hgh) hL (fun t2 σ2 m2 q2 F2 W2 => ?_) (fun f2 x2 w2 σ2 m2 n2 F2 W2 => ?_)
      · skip
        refine wq_go rfl (fun _ => rfl) ?_
        refine wq_go rfl (fun _ => rfl) ?_
        refine wq_cN (m := 0) rfl rfl ?_
        refine wq_cN (m := 9) rfl rfl ?_
        refine wq_callV rfl rfl (by first | rfl | assumption) (by first | decide | omega | assumption) (Nat.le_of_ble_eq_true rfl) (Nat.le_of_ble_eq_true rfl) rfl rfl ?_
        refine c_tin (lo := 0) (hi := 9) W2 (okL_n w _ _ hL (by decide)) hv (by omega) (by omega) (fun t3 σ3 m3 q3 k3 F3 W3 => ?_) (fun f3 x3 w3 σ3 m3 n3 u3 F3 W3 => ?_)
        · skip
          refine wq_go rfl (fun _ => rfl) ?_
          refine wq_go rfl (fun _ => rfl) ?_
          refine wq_cN (m := 25) rfl rfl ?_
          refine wq_callV rfl rfl (by first | rfl | assumption) (by first | decide | omega | assumption) (Nat.le_of_ble_eq_true rfl) (Nat.le_of_ble_eq_true rfl) rfl rfl ?_
          refine c_acc W3 (by decide) (fun t4 σ4 m4 q4 k4 F4 W4 => ?_) (fun f4 σ4 m4 n4 u4 F4 W4 => ?_)
          · skip
            refine wq_zeq rfl (by first | omega | decide | exact Nat.lt_of_le_of_lt Nat.and_le_right (by decide) | exact ⟨by omega, by omega⟩) (fun c => absurd c (by omega)) (fun c21 => ?_)
            refine wq_go rfl (fun _ => rfl) ?_
            refine wq_getf rfl (by first | rfl | assumption) (by first | decide | omega | assumption) (Classical.choose_spec W4.1) rfl ?_
            refine wq_getf rfl (by first | rfl | assumption) (by first | decide | omega | assumption) W4.2.1 rfl ?_
            refine wq_go rfl (fun _ => rfl) ?_
            refine wq_getf rfl (by first | rfl | assumption) (by first | decide | omega | assumption) (Classical.choose_spec W4.1) rfl ?_
            refine wq_alen rfl (by first | rfl | assumption) (by first | decide | omega | assumption) rfl ((F4 13 rfl).trans ((F3 13 rfl).trans ((F2 13 rfl).trans ((F1 13 rfl).trans hgc)))) (arrL_len _ _) ?_
            refine wq_cge rfl (by first | omega | decide | exact Nat.lt_of_le_of_lt Nat.and_le_right (by decide) | exact ⟨by omega, by omega⟩) (by first | omega | decide | exact Nat.lt_of_le_of_lt Nat.and_le_right (by decide) | exact ⟨by omega, by omega⟩) (fun c => absurd c (by omega)) (fun c28 => ?_)
            refine wq_go rfl (fun _ => rfl) ?_
            refine wq_getf rfl (by first | rfl | assumption) (by first | decide | omega | assumption) (Classical.choose_spec W4.1) rfl ?_
            refine wq_go rfl (fun _ => rfl) ?_
            refine wq_getf rfl (by first | rfl | assumption) (by first | decide | omega | assumption) (Classical.choose_spec W4.1) rfl ?_
            refine wq_getf rfl (by first | rfl | assumption) (by first | decide | omega | assumption) W4.2.1 rfl ?_
            refine wq_go rfl (fun _ => rfl) ?_
            refine wq_last rfl (by first | rfl | assumption) (by first | decide | omega | assumption) ((F4 13 rfl).trans ((F3 13 rfl).trans ((F2 13 rfl).trans ((F1 13 rfl).trans hgc)))) rfl (by omega) (by first | decide | omega) ?_
            refine wq_go rfl (fun _ => rfl) ?_
            refine wq_getf rfl (by first | rfl | assumption) (by first | decide | omega | assumption) ((up_ne _ _ (by decide)).trans (Classical.choose_spec W4.1)) rfl ?_
            refine wq_go rfl (fun _ => rfl) ?_
            refine wq_callV rfl rfl (by first | rfl | assumption) (by first | decide | omega | assumption) (Nat.le_of_ble_eq_true rfl) (Nat.le_of_ble_eq_true rfl) rfl rfl ?_
            refine c_addC (rdw_13 W4) hn (fun σ5 E5 W5 => ?_)
            refine wq_end rfl (fun _ => rfl) ?_
            have fr4 : ∀ j, ¬ j = 3 → σ4 j = σ j := fun j hj => by
              have hx : x3 j = false := by simp only [x3, beq_eq_false_iff_ne]; exact hj
              exact (F4 j hx).trans ((F3 j hx).trans ((F2 j hx).trans (F1 j hx)))
            refine K1 t1 t2 t3 t4 σ5 hn m1 m2 m3 m4 (by omega) W5 (fun j hj => ?_) ?_ ?_ ?_
            · rw [E5, up_ne _ _ (by omega), up_ne _ _ (by omega), up_ne _ _ (by omega)]
              exact fr4 j (by omega)
            · rw [E5]; exact up_same _ _ _
            · rw [E5, up_ne _ _ (by decide), up_same, show ag (up σ4 13 (arrL 4 (vp_updL gc nc (Xn X t1)))) 5 = ag σ 5 from funext (fun i => (ag_eq (up_ne _ _ (by decide)) i).trans (ag_eq (fr4 5 (by decide)) i))]
            · rw [E5, up_ne _ _ (by decide), up_ne _ _ (by decide), up_same]
          · skip
            have f9 : f4 < 10 := W4.2.2.2.2.2.2.2.2.2.2
            refine wq_zeq rfl (by first | omega | decide | exact Nat.lt_of_le_of_lt Nat.and_le_right (by decide) | exact ⟨by omega, by omega⟩) (fun c21 => ?_) (fun c => absurd (show _ from by omega) c)
            refine wq_end rfl (fun _ => rfl) ?_
            exact K0 _ _ _ _ (by rw [if_neg (by omega)]; simp only [m1, m2, m3, m4, bnd_o, bnd_e]) n4 (fr_trans (fr_trans (fr_trans F1 F2) F3) F4) W4
        · have f9 : f3 < 10 := W3.2.2.2.2.2.2.2.2.2.2
          refine wq_go rfl (fun _ => rfl) ?_
          refine wq_go rfl (fun _ => rfl) ?_
          refine wq_cN (m := 25) rfl rfl ?_
          refine wq_callV rfl rfl (by first | rfl | assumption) (by first | decide | omega | assumption) (Nat.le_of_ble_eq_true rfl) (Nat.le_of_ble_eq_true rfl) rfl rfl ?_
          refine c_acc_e W3 n3 ?_
          refine wq_zeq rfl (by first | omega | decide | exact Nat.lt_of_le_of_lt Nat.and_le_right (by decide) | exact ⟨by omega, by omega⟩) (fun c21 => ?_) (fun c => absurd (show _ from by omega) c)
          refine wq_end rfl (fun _ => rfl) ?_
          exact K0 _ _ _ _ (by rw [if_neg (by omega)]; simp only [m1, m2, m3, bnd_o, bnd_e]) n3 (fr_trans (fr_trans F1 F2) F3) W3
      · have f9 : f2 < 10 := W2.2.2.2.2.2.2.2.2.2.2
        refine wq_go rfl (fun _ => rfl) ?_
        refine wq_go rfl (fun _ => rfl) ?_
        refine wq_cN (m := 0) rfl rfl ?_
        refine wq_cN (m := 9) rfl rfl ?_
        refine wq_callV rfl rfl (by first | rfl | assumption) (by first | decide | omega | assumption) (Nat.le_of_ble_eq_true rfl) (Nat.le_of_ble_eq_true rfl) rfl rfl ?_
        refine c_tin_e (lo := 0) (hi := 9) W2 n2 (fun x3 => ?_)
        refine wq_go rfl (fun _ => rfl) ?_
        refine wq_go rfl (fun _ => rfl) ?_
        refine wq_cN (m := 25) rfl rfl ?_
        refine wq_callV rfl rfl (by first | rfl | assumption) (by first | decide | omega | assumption) (Nat.le_of_ble_eq_true rfl) (Nat.le_of_ble_eq_true rfl) rfl rfl ?_
        refine c_acc_e W2 n2 ?_
        refine wq_zeq rfl (by first | omega | decide | exact Nat.lt_of_le_of_lt Nat.and_le_right (by decide) | exact ⟨by omega, by omega⟩) (fun c21 => ?_) (fun c => absurd (show _ from by omega) c)
        refine wq_end rfl (fun _ => rfl) ?_
        exact K0 _ _ _ _ (by rw [if_neg (by omega)]; simp only [m1, m2, bnd_o, bnd_e]) n2 (fr_trans F1 F2) W2
    · skip
      have f9 : f1 < 10 := W1.2.2.2.2.2.2.2.2.2.2
      refine wq_go rfl (fun _ => rfl) ?_
      refine wq_go rfl (fun _ => rfl) ?_
      refine wq_callV rfl rfl (by first | rfl | assumption) (by first | decide | omega | assumption) (Nat.le_of_ble_eq_true rfl) (Nat.le_of_ble_eq_true rfl) rfl rfl ?_
      refine c_newN_e W1 n1 (fun x2 => ?_)
      refine wq_go rfl (fun _ => rfl) ?_
      refine wq_go rfl (fun _ => rfl) ?_
      refine wq_cN (m := 0) rfl rfl ?_
      refine wq_cN (m := 9) rfl rfl ?_
      refine wq_callV rfl rfl (by first | rfl | assumption) (by first | decide | omega | assumption) (Nat.le_of_ble_eq_true rfl) (Nat.le_of_ble_eq_true rfl) rfl rfl ?_
      refine c_tin_e (lo := 0) (hi := 9) W1 n1 (fun x3 => ?_)
      refine wq_go rfl (fun _ => rfl) ?_
      refine wq_go rfl (fun _ => rfl) ?_
      refine wq_cN (m := 25) rfl rfl ?_
      refine wq_callV rfl rfl (by first | rfl | assumption) (by first | decide | omega | assumption) (Nat.le_of_ble_eq_true rfl) (Nat.le_of_ble_eq_true rfl) rfl rfl ?_
      refine c_acc_e W1 n1 ?_
      refine wq_zeq rfl (by first | omega | decide | exact Nat.lt_of_le_of_lt Nat.and_le_right (by decide) | exact ⟨by omega, by omega⟩) (fun c21 => ?_) (fun c => absurd (show _ from by omega) c)
      refine wq_end rfl (fun _ => rfl) ?_
      exact K0 _ _ _ _ (by rw [if_neg (by omega)]; simp only [m1, bnd_o, bnd_e]) n1 F1 W1
  · refine c_more (a := nc) (m := 4) hW (by omega) (by omega) (by decide) (fun σ0 F0 W0 => ?_)
    refine wq_go rfl (fun _ => rfl) ?_
    refine wq_cN (m := 0) rfl rfl ?_
    refine wq_callV rfl rfl (by first | rfl | assumption) (by first | decide | omega | assumption) (Nat.le_of_ble_eq_true rfl) (Nat.le_of_ble_eq_true rfl) rfl rfl ?_
    refine c_acc_e W0 (by decide) ?_
    refine wq_go rfl (fun _ => rfl) ?_
    refine wq_go rfl (fun _ => rfl) ?_
    refine wq_callV rfl rfl (by first | rfl | assumption) (by first | decide | omega | assumption) (Nat.le_of_ble_eq_true rfl) (Nat.le_of_ble_eq_true rfl) rfl rfl ?_
    refine c_newN_e W0 (by decide) (fun x2 => ?_)
    refine wq_go rfl (fun _ => rfl) ?_
    refine wq_go rfl (fun _ => rfl) ?_
    refine wq_cN (m := 0) rfl rfl ?_
    refine wq_cN (m := 9) rfl rfl ?_
    refine wq_callV rfl rfl (by first | rfl | assumption) (by first | decide | omega | assumption) (Nat.le_of_ble_eq_true rfl) (Nat.le_of_ble_eq_true rfl) rfl rfl ?_
    refine c_tin_e (lo := 0) (hi := 9) W0 (by decide) (fun x3 => ?_)
    refine wq_go rfl (fun _ => rfl) ?_
    refine wq_go rfl (fun _ => rfl) ?_
    refine wq_cN (m := 25) rfl rfl ?_
    refine wq_callV rfl rfl (by first | rfl | assumption) (by first | decide | omega | assumption) (Nat.le_of_ble_eq_true rfl) (Nat.le_of_ble_eq_true rfl) rfl rfl ?_
    refine c_acc_e W0 (by decide) ?_
    refine wq_zeq rfl (by first | omega | decide | exact Nat.lt_of_le_of_lt Nat.and_le_right (by decide) | exact ⟨by omega, by omega⟩) (fun c21 => ?_) (fun c => absurd (show _ from by omega) c)
    refine wq_end rfl (fun _ => rfl) ?_
    exact K0 _ _ _ _ (if_pos (by omega)) (by decide) F0 W0
