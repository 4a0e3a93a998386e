/-! PRODUCTS AND SUMS BY THE CLASS -/
theorem c_prod_l {xs : List Int32} {D dd : Nat} {X : Tx} {σ : Nat → List Value} {Q : Option Value → (Nat → List Value) → Prop} (hU : ExOK xs ax_cd72 (D + 1) dd X noW noC) (hdd : dd ≤ 6) {W : List Nat} (hO : opens W = dd) (hN : noP W) {c0 : KCode} {t0 b nc nh nv : Nat} {y : Nat → Int32} {w : Option (Nat × Nat)} (K1 : ∀ t' c' sc' σ', eX X false W t0 c0 = eX X true W t' c' → t0 < t' → ceP (Xk X t') → Fr xE σ σ' → b + c'.length = sc' → RdW X 0 t' sc' nc nh nv y w σ' → codeAt (ag σ' 11) b c' → sc' + ops W ≤ 8 + t' → (∀ i, i < b → ag σ' 11 i = ag σ 11 i) → Q none σ') (K0 : ∀ f' t' sc' σ', eX X false W t0 c0 = er f' t' → ¬ f' = 0 → Fr xE σ σ' → RdW X f' t' sc' nc nh nv y w σ' → Q none σ') : ∀ (m : Nat) (σ1 : Nat → List Value) (t sc : Nat) (c : KCode) (i : Nat), 401 - t ≤ m → i ≤ t → Fr xE σ σ1 → RdW X 0 t sc nc nh nv y w σ1 → b + c.length = sc → codeAt (ag σ1 11) b c → sc + ops W ≤ 8 + t → (∀ i, i < b → ag σ1 11 i = ag σ 11 i) → eX X false W t0 c0 = eX X true W t c → t0 < t → Wq xs (D + 2) ax_cd71 5 [(2, .int (nI i)), (0, .ref 3), (1, .int (nI dd))] [] σ1 Q := by
  intro m
  induction m with
  | zero =>
    intro σ1 t sc c i hm hi hF hW
    exact absurd hW.2.2.2.2.2.2.2.2.1 (by omega)
  | succ m ih =>
    intro σ1 t sc c i hm hi hF hW hb hc hop hp hE hlt
    have hW0 := hW
    obtain ⟨⟨fpl, h3⟩, h4, hsc, hnc, hnh, hnv, hsh, ⟨s, n15, fk, fp, fn, fm, h15, h17, h18, h19, h20, hs, ek, ep, en, em, el, e35⟩, ht, hr, hf⟩ := hW0
    have hk35 := e35 t
    have hts := el t ht hr
    by_cases hkA : Xk X t = 29
    · by_cases h4 : t = 400
      · skip
        refine wq_go rfl (fun _ => rfl) ?_
        refine wq_cN (m := 400) rfl rfl ?_
        refine wq_cgt rfl (by first | omega | decide | exact Nat.lt_of_le_of_lt Nat.and_le_right (by decide) | exact ⟨by omega, by omega⟩) (by first | omega | decide | exact Nat.lt_of_le_of_lt Nat.and_le_right (by decide) | exact ⟨by omega, by omega⟩) (fun c => absurd c (by omega)) (fun c7 => ?_)
        refine wq_go rfl (fun _ => rfl) ?_
        refine wq_getf rfl (by first | rfl | assumption) (by first | decide | omega | assumption) h3 rfl ?_
        refine wq_zne rfl (by first | omega | decide | exact Nat.lt_of_le_of_lt Nat.and_le_right (by decide) | exact ⟨by omega, by omega⟩) (fun c => absurd c (by omega)) (fun c10 => ?_)
        refine wq_go rfl (fun _ => rfl) ?_
        refine wq_getf rfl (by first | rfl | assumption) (by first | decide | omega | assumption) h3 rfl ?_
        refine wq_cN (m := 29) rfl rfl ?_
        refine wq_ceq rfl (by first | omega | decide | exact Nat.lt_of_le_of_lt Nat.and_le_right (by decide) | exact ⟨by omega, by omega⟩) (by first | omega | decide | exact Nat.lt_of_le_of_lt Nat.and_le_right (by decide) | exact ⟨by omega, by omega⟩) (fun c14 => ?_) (fun c => absurd (show _ from by omega) c)
        refine wq_go rfl (fun _ => rfl) ?_
        refine wq_getf rfl (by first | rfl | assumption) (by first | decide | omega | assumption) h3 rfl ?_
        refine wq_cN (m := 29) rfl rfl ?_
        refine wq_cne rfl (by first | omega | decide | exact Nat.lt_of_le_of_lt Nat.and_le_right (by decide) | exact ⟨by omega, by omega⟩) (by first | omega | decide | exact Nat.lt_of_le_of_lt Nat.and_le_right (by decide) | exact ⟨by omega, by omega⟩) (fun c => absurd c (by omega)) (fun c22 => ?_)
        refine wq_cN (m := 4) rfl rfl ?_
        refine wq_go rfl (fun _ => rfl) ?_
        refine wq_go rfl (fun _ => rfl) ?_
        refine wq_go rfl (fun _ => rfl) ?_
        refine wq_go rfl (fun _ => rfl) ?_
        refine wq_getf rfl (by first | rfl | assumption) (by first | decide | omega | assumption) h3 rfl ?_
        refine wq_callV rfl rfl (by first | rfl | assumption) (by first | decide | omega | assumption) (Nat.le_of_ble_eq_true rfl) (Nat.le_of_ble_eq_true rfl) rfl rfl ?_
        refine c_accR hW (by omega) rfl h4 (fun σ3 F3 W3 => ?_)
        refine wq_go rfl (fun _ => rfl) ?_
        refine wq_go rfl (fun _ => rfl) ?_
        refine wq_go rfl (fun _ => rfl) ?_
        refine wq_callV rfl rfl (by first | rfl | assumption) (by first | decide | omega | assumption) (Nat.le_of_ble_eq_true rfl) (Nat.le_of_ble_eq_true rfl) rfl rfl ?_
        refine c_unit_e (dd := dd) W3 (by decide) (by omega) (fun sc4 σ4 F4 W4 => ?_)
        refine wq_go rfl (fun _ => rfl) ?_
        refine wq_getf rfl (by first | rfl | assumption) (by first | decide | omega | assumption) (Classical.choose_spec W4.1) rfl ?_
        refine wq_go rfl (fun _ => rfl) ?_
        refine wq_cN (m := 0) rfl rfl ?_
        refine wq_callV rfl rfl (by first | rfl | assumption) (by first | decide | omega | assumption) (Nat.le_of_ble_eq_true rfl) (Nat.le_of_ble_eq_true rfl) rfl rfl ?_
        refine c_addAny W4 (fun sc6 σ6 F6 W6 => ?_)
        refine wq_incN rfl rfl rfl ?_
        refine wq_go rfl (fun _ => rfl) ?_
        refine wq_go rfl (fun _ => rfl) ?_
        refine wq_cN (m := 400) rfl rfl ?_
        refine wq_cgt rfl (by first | omega | decide | exact Nat.lt_of_le_of_lt Nat.and_le_right (by decide) | exact ⟨by omega, by omega⟩) (by first | omega | decide | exact Nat.lt_of_le_of_lt Nat.and_le_right (by decide) | exact ⟨by omega, by omega⟩) (fun c7 => ?_) (fun c7 => ?_)
        · skip
          refine wq_end rfl (fun _ => rfl) ?_
          exact K0 2 t _ _ (hE.trans (by subst h4; exact d_mul_r (by omega))) (by decide) (fr_trans hF (fr_trans (fr_trans (f3E F3) F4) F6)) W6
        · skip
          refine wq_go rfl (fun _ => rfl) ?_
          refine wq_getf rfl (by first | rfl | assumption) (by first | decide | omega | assumption) (Classical.choose_spec W6.1) rfl ?_
          refine wq_zne rfl (by first | omega | decide | exact Nat.lt_of_le_of_lt Nat.and_le_right (by decide) | exact ⟨by omega, by omega⟩) (fun c10 => ?_) (fun c => absurd (show _ from by omega) c)
          refine wq_end rfl (fun _ => rfl) ?_
          exact K0 2 t _ _ (hE.trans (by subst h4; exact d_mul_r (by omega))) (by decide) (fr_trans hF (fr_trans (fr_trans (f3E F3) F4) F6)) W6
      · have dm : eX X true W t c = eX X false (4 :: W) (t + 1) c := by
          have q := d_mul (c := c) (X := X) (t := t) (W := W) (by omega) (Or.inl hkA) hN
          rw [hkA] at q
          exact q
        refine wq_go rfl (fun _ => rfl) ?_
        refine wq_cN (m := 400) rfl rfl ?_
        refine wq_cgt rfl (by first | omega | decide | exact Nat.lt_of_le_of_lt Nat.and_le_right (by decide) | exact ⟨by omega, by omega⟩) (by first | omega | decide | exact Nat.lt_of_le_of_lt Nat.and_le_right (by decide) | exact ⟨by omega, by omega⟩) (fun c => absurd c (by omega)) (fun c7 => ?_)
        refine wq_go rfl (fun _ => rfl) ?_
        refine wq_getf rfl (by first | rfl | assumption) (by first | decide | omega | assumption) h3 rfl ?_
        refine wq_zne rfl (by first | omega | decide | exact Nat.lt_of_le_of_lt Nat.and_le_right (by decide) | exact ⟨by omega, by omega⟩) (fun c => absurd c (by omega)) (fun c10 => ?_)
        refine wq_go rfl (fun _ => rfl) ?_
        refine wq_getf rfl (by first | rfl | assumption) (by first | decide | omega | assumption) h3 rfl ?_
        refine wq_cN (m := 29) rfl rfl ?_
        refine wq_ceq rfl (by first | omega | decide | exact Nat.lt_of_le_of_lt Nat.and_le_right (by decide) | exact ⟨by omega, by omega⟩) (by first | omega | decide | exact Nat.lt_of_le_of_lt Nat.and_le_right (by decide) | exact ⟨by omega, by omega⟩) (fun c14 => ?_) (fun c => absurd (show _ from by omega) c)
        refine wq_go rfl (fun _ => rfl) ?_
        refine wq_getf rfl (by first | rfl | assumption) (by first | decide | omega | assumption) h3 rfl ?_
        refine wq_cN (m := 29) rfl rfl ?_
        refine wq_cne rfl (by first | omega | decide | exact Nat.lt_of_le_of_lt Nat.and_le_right (by decide) | exact ⟨by omega, by omega⟩) (by first | omega | decide | exact Nat.lt_of_le_of_lt Nat.and_le_right (by decide) | exact ⟨by omega, by omega⟩) (fun c => absurd c (by omega)) (fun c22 => ?_)
        refine wq_cN (m := 4) rfl rfl ?_
        refine wq_go rfl (fun _ => rfl) ?_
        refine wq_go rfl (fun _ => rfl) ?_
        refine wq_go rfl (fun _ => rfl) ?_
        refine wq_go rfl (fun _ => rfl) ?_
        refine wq_getf rfl (by first | rfl | assumption) (by first | decide | omega | assumption) h3 rfl ?_
        refine wq_callV rfl rfl (by first | rfl | assumption) (by first | decide | omega | assumption) (Nat.le_of_ble_eq_true rfl) (Nat.le_of_ble_eq_true rfl) rfl rfl ?_
        refine c_accY hW (by omega) rfl (by omega) (fun σ3 F3 W3 => ?_)
        refine wq_go rfl (fun _ => rfl) ?_
        refine wq_go rfl (fun _ => rfl) ?_
        refine wq_go rfl (fun _ => rfl) ?_
        refine wq_callV rfl rfl (by first | rfl | assumption) (by first | decide | omega | assumption) (Nat.le_of_ble_eq_true rfl) (Nat.le_of_ble_eq_true rfl) rfl rfl ?_
        refine hU σ3 _ (t + 1) sc nc nh nv y w (4 :: W) c b W3 hb (cd_fr hc F3 rfl) (by rw [opens_n (by decide)]; exact hO) trivial (by rw [ops_n (by decide)]; omega) (fun t' c' sc' σ4 e4 l4 k4 F4 b4 W4 d4 o4 p4 => ?_) (fun f' t' sc' σ4 e4 n4 F4 W4 => ?_)
        · rw [ops_n (by decide)] at o4
          have ht4 : t' ≤ 400 := W4.2.2.2.2.2.2.2.2.1
          refine wq_go rfl (fun _ => rfl) ?_
          refine wq_getf rfl (by first | rfl | assumption) (by first | decide | omega | assumption) (Classical.choose_spec W4.1) rfl ?_
          refine wq_go rfl (fun _ => rfl) ?_
          refine wq_cN (m := 0) rfl rfl ?_
          refine wq_callV rfl rfl (by first | rfl | assumption) (by first | decide | omega | assumption) (Nat.le_of_ble_eq_true rfl) (Nat.le_of_ble_eq_true rfl) rfl rfl ?_
          refine c_add W4 (by decide) (by decide) (by omega) (fun σ6 F6 W6 a6 p6 => ?_)
          refine wq_incN rfl rfl rfl ?_
          refine wq_go rfl (fun _ => rfl) ?_
          refine wq_lv ⟨(by decide : ([2, 3, 0, 1] : List Nat).Nodup), (lvm (List.mem_of_getElem? (i := 0) rfl) (lvm (List.mem_of_getElem? (i := 2) rfl) (lvm (List.mem_of_getElem? (i := 3) rfl) lvn)))⟩ (ih σ6 t' (sc' + 1) (c' ++ [(4, 0)]) (i + 1) (by omega) (by omega) (fr_trans hF (fr_trans (f3E F3) (fr_trans F4 F6))) W6 (len1 b4) (cd_snoc b4 d4 a6 p6) (by omega) (fun j hj => (p6 j (by omega)).trans ((p4 j hj).trans ((ag_eq (F3 11 rfl) j).trans (hp j hj)))) (hE.trans (dm.trans (e4.trans (d_popP ht4 (by unfold opP; decide) hN)))) (by omega))
        · have f9 : f' < 10 := W4.2.2.2.2.2.2.2.2.2.2
          refine wq_go rfl (fun _ => rfl) ?_
          refine wq_getf rfl (by first | rfl | assumption) (by first | decide | omega | assumption) (Classical.choose_spec W4.1) rfl ?_
          refine wq_go rfl (fun _ => rfl) ?_
          refine wq_cN (m := 0) rfl rfl ?_
          refine wq_callV rfl rfl (by first | rfl | assumption) (by first | decide | omega | assumption) (Nat.le_of_ble_eq_true rfl) (Nat.le_of_ble_eq_true rfl) rfl rfl ?_
          refine c_addAny W4 (fun sc6 σ6 F6 W6 => ?_)
          refine wq_incN rfl rfl rfl ?_
          refine wq_go rfl (fun _ => rfl) ?_
          refine wq_go rfl (fun _ => rfl) ?_
          refine wq_cN (m := 400) rfl rfl ?_
          refine wq_cgt rfl (by first | omega | decide | exact Nat.lt_of_le_of_lt Nat.and_le_right (by decide) | exact ⟨by omega, by omega⟩) (by first | omega | decide | exact Nat.lt_of_le_of_lt Nat.and_le_right (by decide) | exact ⟨by omega, by omega⟩) (fun c7 => ?_) (fun c7 => ?_)
          · skip
            refine wq_end rfl (fun _ => rfl) ?_
            exact K0 f' t' _ _ (hE.trans (dm.trans e4)) n4 (fr_trans hF (fr_trans (fr_trans (f3E F3) F4) F6)) W6
          · skip
            refine wq_go rfl (fun _ => rfl) ?_
            refine wq_getf rfl (by first | rfl | assumption) (by first | decide | omega | assumption) (Classical.choose_spec W6.1) rfl ?_
            refine wq_zne rfl (by first | omega | decide | exact Nat.lt_of_le_of_lt Nat.and_le_right (by decide) | exact ⟨by omega, by omega⟩) (fun c10 => ?_) (fun c => absurd (show _ from by omega) c)
            refine wq_end rfl (fun _ => rfl) ?_
            exact K0 f' t' _ _ (hE.trans (dm.trans e4)) n4 (fr_trans hF (fr_trans (fr_trans (f3E F3) F4) F6)) W6
    by_cases hkB : Xk X t = 30
    · by_cases h4 : t = 400
      · skip
        refine wq_go rfl (fun _ => rfl) ?_
        refine wq_cN (m := 400) rfl rfl ?_
        refine wq_cgt rfl (by first | omega | decide | exact Nat.lt_of_le_of_lt Nat.and_le_right (by decide) | exact ⟨by omega, by omega⟩) (by first | omega | decide | exact Nat.lt_of_le_of_lt Nat.and_le_right (by decide) | exact ⟨by omega, by omega⟩) (fun c => absurd c (by omega)) (fun c7 => ?_)
        refine wq_go rfl (fun _ => rfl) ?_
        refine wq_getf rfl (by first | rfl | assumption) (by first | decide | omega | assumption) h3 rfl ?_
        refine wq_zne rfl (by first | omega | decide | exact Nat.lt_of_le_of_lt Nat.and_le_right (by decide) | exact ⟨by omega, by omega⟩) (fun c => absurd c (by omega)) (fun c10 => ?_)
        refine wq_go rfl (fun _ => rfl) ?_
        refine wq_getf rfl (by first | rfl | assumption) (by first | decide | omega | assumption) h3 rfl ?_
        refine wq_cN (m := 29) rfl rfl ?_
        refine wq_ceq rfl (by first | omega | decide | exact Nat.lt_of_le_of_lt Nat.and_le_right (by decide) | exact ⟨by omega, by omega⟩) (by first | omega | decide | exact Nat.lt_of_le_of_lt Nat.and_le_right (by decide) | exact ⟨by omega, by omega⟩) (fun c => absurd c (by omega)) (fun c14 => ?_)
        refine wq_go rfl (fun _ => rfl) ?_
        refine wq_getf rfl (by first | rfl | assumption) (by first | decide | omega | assumption) h3 rfl ?_
        refine wq_cN (m := 30) rfl rfl ?_
        refine wq_cne rfl (by first | omega | decide | exact Nat.lt_of_le_of_lt Nat.and_le_right (by decide) | exact ⟨by omega, by omega⟩) (by first | omega | decide | exact Nat.lt_of_le_of_lt Nat.and_le_right (by decide) | exact ⟨by omega, by omega⟩) (fun c => absurd c (by omega)) (fun c18 => ?_)
        refine wq_go rfl (fun _ => rfl) ?_
        refine wq_getf rfl (by first | rfl | assumption) (by first | decide | omega | assumption) h3 rfl ?_
        refine wq_cN (m := 29) rfl rfl ?_
        refine wq_cne rfl (by first | omega | decide | exact Nat.lt_of_le_of_lt Nat.and_le_right (by decide) | exact ⟨by omega, by omega⟩) (by first | omega | decide | exact Nat.lt_of_le_of_lt Nat.and_le_right (by decide) | exact ⟨by omega, by omega⟩) (fun c22 => ?_) (fun c => absurd (show _ from by omega) c)
        refine wq_cN (m := 5) rfl rfl ?_
        refine wq_go rfl (fun _ => rfl) ?_
        refine wq_go rfl (fun _ => rfl) ?_
        refine wq_go rfl (fun _ => rfl) ?_
        refine wq_getf rfl (by first | rfl | assumption) (by first | decide | omega | assumption) h3 rfl ?_
        refine wq_callV rfl rfl (by first | rfl | assumption) (by first | decide | omega | assumption) (Nat.le_of_ble_eq_true rfl) (Nat.le_of_ble_eq_true rfl) rfl rfl ?_
        refine c_accR hW (by omega) rfl h4 (fun σ3 F3 W3 => ?_)
        refine wq_go rfl (fun _ => rfl) ?_
        refine wq_go rfl (fun _ => rfl) ?_
        refine wq_go rfl (fun _ => rfl) ?_
        refine wq_callV rfl rfl (by first | rfl | assumption) (by first | decide | omega | assumption) (Nat.le_of_ble_eq_true rfl) (Nat.le_of_ble_eq_true rfl) rfl rfl ?_
        refine c_unit_e (dd := dd) W3 (by decide) (by omega) (fun sc4 σ4 F4 W4 => ?_)
        refine wq_go rfl (fun _ => rfl) ?_
        refine wq_getf rfl (by first | rfl | assumption) (by first | decide | omega | assumption) (Classical.choose_spec W4.1) rfl ?_
        refine wq_go rfl (fun _ => rfl) ?_
        refine wq_cN (m := 0) rfl rfl ?_
        refine wq_callV rfl rfl (by first | rfl | assumption) (by first | decide | omega | assumption) (Nat.le_of_ble_eq_true rfl) (Nat.le_of_ble_eq_true rfl) rfl rfl ?_
        refine c_addAny W4 (fun sc6 σ6 F6 W6 => ?_)
        refine wq_incN rfl rfl rfl ?_
        refine wq_go rfl (fun _ => rfl) ?_
        refine wq_go rfl (fun _ => rfl) ?_
        refine wq_cN (m := 400) rfl rfl ?_
        refine wq_cgt rfl (by first | omega | decide | exact Nat.lt_of_le_of_lt Nat.and_le_right (by decide) | exact ⟨by omega, by omega⟩) (by first | omega | decide | exact Nat.lt_of_le_of_lt Nat.and_le_right (by decide) | exact ⟨by omega, by omega⟩) (fun c7 => ?_) (fun c7 => ?_)
        · skip
          refine wq_end rfl (fun _ => rfl) ?_
          exact K0 2 t _ _ (hE.trans (by subst h4; exact d_mul_r (by omega))) (by decide) (fr_trans hF (fr_trans (fr_trans (f3E F3) F4) F6)) W6
        · skip
          refine wq_go rfl (fun _ => rfl) ?_
          refine wq_getf rfl (by first | rfl | assumption) (by first | decide | omega | assumption) (Classical.choose_spec W6.1) rfl ?_
          refine wq_zne rfl (by first | omega | decide | exact Nat.lt_of_le_of_lt Nat.and_le_right (by decide) | exact ⟨by omega, by omega⟩) (fun c10 => ?_) (fun c => absurd (show _ from by omega) c)
          refine wq_end rfl (fun _ => rfl) ?_
          exact K0 2 t _ _ (hE.trans (by subst h4; exact d_mul_r (by omega))) (by decide) (fr_trans hF (fr_trans (fr_trans (f3E F3) F4) F6)) W6
      · have dm : eX X true W t c = eX X false (5 :: W) (t + 1) c := by
          have q := d_mul (c := c) (X := X) (t := t) (W := W) (by omega) (Or.inr hkB) hN
          rw [hkB] at q
          exact q
        refine wq_go rfl (fun _ => rfl) ?_
        refine wq_cN (m := 400) rfl rfl ?_
        refine wq_cgt rfl (by first | omega | decide | exact Nat.lt_of_le_of_lt Nat.and_le_right (by decide) | exact ⟨by omega, by omega⟩) (by first | omega | decide | exact Nat.lt_of_le_of_lt Nat.and_le_right (by decide) | exact ⟨by omega, by omega⟩) (fun c => absurd c (by omega)) (fun c7 => ?_)
        refine wq_go rfl (fun _ => rfl) ?_
        refine wq_getf rfl (by first | rfl | assumption) (by first | decide | omega | assumption) h3 rfl ?_
        refine wq_zne rfl (by first | omega | decide | exact Nat.lt_of_le_of_lt Nat.and_le_right (by decide) | exact ⟨by omega, by omega⟩) (fun c => absurd c (by omega)) (fun c10 => ?_)
        refine wq_go rfl (fun _ => rfl) ?_
        refine wq_getf rfl (by first | rfl | assumption) (by first | decide | omega | assumption) h3 rfl ?_
        refine wq_cN (m := 29) rfl rfl ?_
        refine wq_ceq rfl (by first | omega | decide | exact Nat.lt_of_le_of_lt Nat.and_le_right (by decide) | exact ⟨by omega, by omega⟩) (by first | omega | decide | exact Nat.lt_of_le_of_lt Nat.and_le_right (by decide) | exact ⟨by omega, by omega⟩) (fun c => absurd c (by omega)) (fun c14 => ?_)
        refine wq_go rfl (fun _ => rfl) ?_
        refine wq_getf rfl (by first | rfl | assumption) (by first | decide | omega | assumption) h3 rfl ?_
        refine wq_cN (m := 30) rfl rfl ?_
        refine wq_cne rfl (by first | omega | decide | exact Nat.lt_of_le_of_lt Nat.and_le_right (by decide) | exact ⟨by omega, by omega⟩) (by first | omega | decide | exact Nat.lt_of_le_of_lt Nat.and_le_right (by decide) | exact ⟨by omega, by omega⟩) (fun c => absurd c (by omega)) (fun c18 => ?_)
        refine wq_go rfl (fun _ => rfl) ?_
        refine wq_getf rfl (by first | rfl | assumption) (by first | decide | omega | assumption) h3 rfl ?_
        refine wq_cN (m := 29) rfl rfl ?_
        refine wq_cne rfl (by first | omega | decide | exact Nat.lt_of_le_of_lt Nat.and_le_right (by decide) | exact ⟨by omega, by omega⟩) (by first | omega | decide | exact Nat.lt_of_le_of_lt Nat.and_le_right (by decide) | exact ⟨by omega, by omega⟩) (fun c22 => ?_) (fun c => absurd (show _ from by omega) c)
        refine wq_cN (m := 5) rfl rfl ?_
        refine wq_go rfl (fun _ => rfl) ?_
        refine wq_go rfl (fun _ => rfl) ?_
        refine wq_go rfl (fun _ => rfl) ?_
        refine wq_getf rfl (by first | rfl | assumption) (by first | decide | omega | assumption) h3 rfl ?_
        refine wq_callV rfl rfl (by first | rfl | assumption) (by first | decide | omega | assumption) (Nat.le_of_ble_eq_true rfl) (Nat.le_of_ble_eq_true rfl) rfl rfl ?_
        refine c_accY hW (by omega) rfl (by omega) (fun σ3 F3 W3 => ?_)
        refine wq_go rfl (fun _ => rfl) ?_
        refine wq_go rfl (fun _ => rfl) ?_
        refine wq_go rfl (fun _ => rfl) ?_
        refine wq_callV rfl rfl (by first | rfl | assumption) (by first | decide | omega | assumption) (Nat.le_of_ble_eq_true rfl) (Nat.le_of_ble_eq_true rfl) rfl rfl ?_
        refine hU σ3 _ (t + 1) sc nc nh nv y w (5 :: W) c b W3 hb (cd_fr hc F3 rfl) (by rw [opens_n (by decide)]; exact hO) trivial (by rw [ops_n (by decide)]; omega) (fun t' c' sc' σ4 e4 l4 k4 F4 b4 W4 d4 o4 p4 => ?_) (fun f' t' sc' σ4 e4 n4 F4 W4 => ?_)
        · rw [ops_n (by decide)] at o4
          have ht4 : t' ≤ 400 := W4.2.2.2.2.2.2.2.2.1
          refine wq_go rfl (fun _ => rfl) ?_
          refine wq_getf rfl (by first | rfl | assumption) (by first | decide | omega | assumption) (Classical.choose_spec W4.1) rfl ?_
          refine wq_go rfl (fun _ => rfl) ?_
          refine wq_cN (m := 0) rfl rfl ?_
          refine wq_callV rfl rfl (by first | rfl | assumption) (by first | decide | omega | assumption) (Nat.le_of_ble_eq_true rfl) (Nat.le_of_ble_eq_true rfl) rfl rfl ?_
          refine c_add W4 (by decide) (by decide) (by omega) (fun σ6 F6 W6 a6 p6 => ?_)
          refine wq_incN rfl rfl rfl ?_
          refine wq_go rfl (fun _ => rfl) ?_
          refine wq_lv ⟨(by decide : ([2, 3, 0, 1] : List Nat).Nodup), (lvm (List.mem_of_getElem? (i := 0) rfl) (lvm (List.mem_of_getElem? (i := 2) rfl) (lvm (List.mem_of_getElem? (i := 3) rfl) lvn)))⟩ (ih σ6 t' (sc' + 1) (c' ++ [(5, 0)]) (i + 1) (by omega) (by omega) (fr_trans hF (fr_trans (f3E F3) (fr_trans F4 F6))) W6 (len1 b4) (cd_snoc b4 d4 a6 p6) (by omega) (fun j hj => (p6 j (by omega)).trans ((p4 j hj).trans ((ag_eq (F3 11 rfl) j).trans (hp j hj)))) (hE.trans (dm.trans (e4.trans (d_popP ht4 (by unfold opP; decide) hN)))) (by omega))
        · have f9 : f' < 10 := W4.2.2.2.2.2.2.2.2.2.2
          refine wq_go rfl (fun _ => rfl) ?_
          refine wq_getf rfl (by first | rfl | assumption) (by first | decide | omega | assumption) (Classical.choose_spec W4.1) rfl ?_
          refine wq_go rfl (fun _ => rfl) ?_
          refine wq_cN (m := 0) rfl rfl ?_
          refine wq_callV rfl rfl (by first | rfl | assumption) (by first | decide | omega | assumption) (Nat.le_of_ble_eq_true rfl) (Nat.le_of_ble_eq_true rfl) rfl rfl ?_
          refine c_addAny W4 (fun sc6 σ6 F6 W6 => ?_)
          refine wq_incN rfl rfl rfl ?_
          refine wq_go rfl (fun _ => rfl) ?_
          refine wq_go rfl (fun _ => rfl) ?_
          refine wq_cN (m := 400) rfl rfl ?_
          refine wq_cgt rfl (by first | omega | decide | exact Nat.lt_of_le_of_lt Nat.and_le_right (by decide) | exact ⟨by omega, by omega⟩) (by first | omega | decide | exact Nat.lt_of_le_of_lt Nat.and_le_right (by decide) | exact ⟨by omega, by omega⟩) (fun c7 => ?_) (fun c7 => ?_)
          · skip
            refine wq_end rfl (fun _ => rfl) ?_
            exact K0 f' t' _ _ (hE.trans (dm.trans e4)) n4 (fr_trans hF (fr_trans (fr_trans (f3E F3) F4) F6)) W6
          · skip
            refine wq_go rfl (fun _ => rfl) ?_
            refine wq_getf rfl (by first | rfl | assumption) (by first | decide | omega | assumption) (Classical.choose_spec W6.1) rfl ?_
            refine wq_zne rfl (by first | omega | decide | exact Nat.lt_of_le_of_lt Nat.and_le_right (by decide) | exact ⟨by omega, by omega⟩) (fun c10 => ?_) (fun c => absurd (show _ from by omega) c)
            refine wq_end rfl (fun _ => rfl) ?_
            exact K0 f' t' _ _ (hE.trans (dm.trans e4)) n4 (fr_trans hF (fr_trans (fr_trans (f3E F3) F4) F6)) W6
    skip
    refine wq_go rfl (fun _ => rfl) ?_
    refine wq_cN (m := 400) rfl rfl ?_
    refine wq_cgt rfl (by first | omega | decide | exact Nat.lt_of_le_of_lt Nat.and_le_right (by decide) | exact ⟨by omega, by omega⟩) (by first | omega | decide | exact Nat.lt_of_le_of_lt Nat.and_le_right (by decide) | exact ⟨by omega, by omega⟩) (fun c => absurd c (by omega)) (fun c7 => ?_)
    refine wq_go rfl (fun _ => rfl) ?_
    refine wq_getf rfl (by first | rfl | assumption) (by first | decide | omega | assumption) h3 rfl ?_
    refine wq_zne rfl (by first | omega | decide | exact Nat.lt_of_le_of_lt Nat.and_le_right (by decide) | exact ⟨by omega, by omega⟩) (fun c => absurd c (by omega)) (fun c10 => ?_)
    refine wq_go rfl (fun _ => rfl) ?_
    refine wq_getf rfl (by first | rfl | assumption) (by first | decide | omega | assumption) h3 rfl ?_
    refine wq_cN (m := 29) rfl rfl ?_
    refine wq_ceq rfl (by first | omega | decide | exact Nat.lt_of_le_of_lt Nat.and_le_right (by decide) | exact ⟨by omega, by omega⟩) (by first | omega | decide | exact Nat.lt_of_le_of_lt Nat.and_le_right (by decide) | exact ⟨by omega, by omega⟩) (fun c => absurd c (by omega)) (fun c14 => ?_)
    refine wq_go rfl (fun _ => rfl) ?_
    refine wq_getf rfl (by first | rfl | assumption) (by first | decide | omega | assumption) h3 rfl ?_
    refine wq_cN (m := 30) rfl rfl ?_
    refine wq_cne rfl (by first | omega | decide | exact Nat.lt_of_le_of_lt Nat.and_le_right (by decide) | exact ⟨by omega, by omega⟩) (by first | omega | decide | exact Nat.lt_of_le_of_lt Nat.and_le_right (by decide) | exact ⟨by omega, by omega⟩) (fun c18 => ?_) (fun c => absurd (show _ from by omega) c)
    refine wq_end rfl (fun _ => rfl) ?_
    exact K1 t c sc σ1 hE hlt (show ¬ (Xk X t = 29 ∨ Xk X t = 30) by omega) hF hb hW hc hop hp
theorem c_prod {xs : List Int32} {D dd : Nat} {X : Tx} (hU : ExOK xs ax_cd72 (D + 1) dd X noW noC) (hdd : dd ≤ 6) : ExOK xs ax_cd71 (D + 2) dd X noP ceP := by
  intro σ Q t sc nc nh nv y w W c b hW hb hc hO hcw hop K1 K0
  have hW0 := hW
  obtain ⟨⟨fpl, h3⟩, h4, hsc, hnc, hnh, hnv, hsh, ⟨s, n15, fk, fp, fn, fm, h15, h17, h18, h19, h20, hs, ek, ep, en, em, el, e35⟩, ht, hr, hf⟩ := hW0
  have hk35 := e35 t
  have hts := el t ht hr
  refine wq_go rfl (fun _ => rfl) ?_
  refine wq_go rfl (fun _ => rfl) ?_
  refine wq_callV rfl rfl (by first | rfl | assumption) (by first | decide | omega | assumption) (Nat.le_of_ble_eq_true rfl) (Nat.le_of_ble_eq_true rfl) rfl rfl ?_
  refine hU σ _ t sc nc nh nv y w W c b hW hb hc hO trivial hop (fun t' c' sc' σ4 e4 l4 k4 F4 b4 W4 d4 o4 p4 => ?_) (fun f' t' sc' σ4 e4 n4 F4 W4 => ?_)
  · skip
    refine wq_cN (m := 0) rfl rfl ?_
    refine wq_go rfl (fun _ => rfl) ?_
    exact wq_lv ⟨(by decide : ([2, 0, 1] : List Nat).Nodup), (lvm (List.mem_of_getElem? (i := 0) rfl) (lvm (List.mem_of_getElem? (i := 1) rfl) (lvm (List.mem_of_getElem? (i := 2) rfl) lvn)))⟩ (c_prod_l hU hdd hO hcw (t0 := t) (c0 := c) K1 K0 401 σ4 t' sc' c' 0 (by omega) (by omega) F4 W4 b4 d4 o4 p4 e4 l4)
  · have f9 : f' < 10 := W4.2.2.2.2.2.2.2.2.2.2
    refine wq_cN (m := 0) rfl rfl ?_
    refine wq_go rfl (fun _ => rfl) ?_
    refine wq_go rfl (fun _ => rfl) ?_
    refine wq_cN (m := 400) rfl rfl ?_
    refine wq_cgt rfl (by first | omega | decide | exact Nat.lt_of_le_of_lt Nat.and_le_right (by decide) | exact ⟨by omega, by omega⟩) (by first | omega | decide | exact Nat.lt_of_le_of_lt Nat.and_le_right (by decide) | exact ⟨by omega, by omega⟩) (fun c => absurd c (by omega)) (fun c7 => ?_)
    refine wq_go rfl (fun _ => rfl) ?_
    refine wq_getf rfl (by first | rfl | assumption) (by first | decide | omega | assumption) (Classical.choose_spec W4.1) rfl ?_
    refine wq_zne rfl (by first | omega | decide | exact Nat.lt_of_le_of_lt Nat.and_le_right (by decide) | exact ⟨by omega, by omega⟩) (fun c10 => ?_) (fun c => absurd (show _ from by omega) c)
    refine wq_end rfl (fun _ => rfl) ?_
    exact K0 f' t' _ σ4 e4 n4 F4 W4
theorem c_sum_l {xs : List Int32} {D dd : Nat} {X : Tx} {σ : Nat → List Value} {Q : Option Value → (Nat → List Value) → Prop} (hU : ExOK xs ax_cd71 (D + 2) dd X noP ceP) (hdd : dd ≤ 6) {W : List Nat} (hO : opens W = dd) (hN : noO W) {c0 : KCode} {t0 b nc nh nv : Nat} {y : Nat → Int32} {w : Option (Nat × Nat)} (K1 : ∀ t' c' sc' σ', eX X false W t0 c0 = eX X true W t' c' → t0 < t' → ceS (Xk X t') → Fr xE σ σ' → b + c'.length = sc' → RdW X 0 t' sc' nc nh nv y w σ' → codeAt (ag σ' 11) b c' → sc' + ops W ≤ 8 + t' → (∀ i, i < b → ag σ' 11 i = ag σ 11 i) → Q none σ') (K0 : ∀ f' t' sc' σ', eX X false W t0 c0 = er f' t' → ¬ f' = 0 → Fr xE σ σ' → RdW X f' t' sc' nc nh nv y w σ' → Q none σ') : ∀ (m : Nat) (σ1 : Nat → List Value) (t sc : Nat) (c : KCode) (i : Nat), 401 - t ≤ m → i ≤ t → Fr xE σ σ1 → RdW X 0 t sc nc nh nv y w σ1 → b + c.length = sc → codeAt (ag σ1 11) b c → sc + ops W ≤ 8 + t → (∀ i, i < b → ag σ1 11 i = ag σ 11 i) → eX X false W t0 c0 = eX X true W t c → t0 < t → ceP (Xk X t) → Wq xs (D + 3) ax_cd70 5 [(2, .int (nI i)), (0, .ref 3), (1, .int (nI dd))] [] σ1 Q := by
  intro m
  induction m with
  | zero =>
    intro σ1 t sc c i hm hi hF hW
    exact absurd hW.2.2.2.2.2.2.2.2.1 (by omega)
  | succ m ih =>
    intro σ1 t sc c i hm hi hF hW hb hc hop hp hE hlt hx
    have hW0 := hW
    obtain ⟨⟨fpl, h3⟩, h4, hsc, hnc, hnh, hnv, hsh, ⟨s, n15, fk, fp, fn, fm, h15, h17, h18, h19, h20, hs, ek, ep, en, em, el, e35⟩, ht, hr, hf⟩ := hW0
    have hk35 := e35 t
    have hts := el t ht hr
    by_cases hkA : Xk X t = 27
    · by_cases h4 : t = 400
      · skip
        refine wq_go rfl (fun _ => rfl) ?_
        refine wq_cN (m := 400) rfl rfl ?_
        refine wq_cgt rfl (by first | omega | decide | exact Nat.lt_of_le_of_lt Nat.and_le_right (by decide) | exact ⟨by omega, by omega⟩) (by first | omega | decide | exact Nat.lt_of_le_of_lt Nat.and_le_right (by decide) | exact ⟨by omega, by omega⟩) (fun c => absurd c (by omega)) (fun c7 => ?_)
        refine wq_go rfl (fun _ => rfl) ?_
        refine wq_getf rfl (by first | rfl | assumption) (by first | decide | omega | assumption) h3 rfl ?_
        refine wq_zne rfl (by first | omega | decide | exact Nat.lt_of_le_of_lt Nat.and_le_right (by decide) | exact ⟨by omega, by omega⟩) (fun c => absurd c (by omega)) (fun c10 => ?_)
        refine wq_go rfl (fun _ => rfl) ?_
        refine wq_getf rfl (by first | rfl | assumption) (by first | decide | omega | assumption) h3 rfl ?_
        refine wq_cN (m := 27) rfl rfl ?_
        refine wq_ceq rfl (by first | omega | decide | exact Nat.lt_of_le_of_lt Nat.and_le_right (by decide) | exact ⟨by omega, by omega⟩) (by first | omega | decide | exact Nat.lt_of_le_of_lt Nat.and_le_right (by decide) | exact ⟨by omega, by omega⟩) (fun c14 => ?_) (fun c => absurd (show _ from by omega) c)
        refine wq_go rfl (fun _ => rfl) ?_
        refine wq_getf rfl (by first | rfl | assumption) (by first | decide | omega | assumption) h3 rfl ?_
        refine wq_cN (m := 27) rfl rfl ?_
        refine wq_cne rfl (by first | omega | decide | exact Nat.lt_of_le_of_lt Nat.and_le_right (by decide) | exact ⟨by omega, by omega⟩) (by first | omega | decide | exact Nat.lt_of_le_of_lt Nat.and_le_right (by decide) | exact ⟨by omega, by omega⟩) (fun c => absurd c (by omega)) (fun c22 => ?_)
        refine wq_cN (m := 2) rfl rfl ?_
        refine wq_go rfl (fun _ => rfl) ?_
        refine wq_go rfl (fun _ => rfl) ?_
        refine wq_go rfl (fun _ => rfl) ?_
        refine wq_go rfl (fun _ => rfl) ?_
        refine wq_getf rfl (by first | rfl | assumption) (by first | decide | omega | assumption) h3 rfl ?_
        refine wq_callV rfl rfl (by first | rfl | assumption) (by first | decide | omega | assumption) (Nat.le_of_ble_eq_true rfl) (Nat.le_of_ble_eq_true rfl) rfl rfl ?_
        refine c_accR hW (by omega) rfl h4 (fun σ3 F3 W3 => ?_)
        refine wq_go rfl (fun _ => rfl) ?_
        refine wq_go rfl (fun _ => rfl) ?_
        refine wq_go rfl (fun _ => rfl) ?_
        refine wq_callV rfl rfl (by first | rfl | assumption) (by first | decide | omega | assumption) (Nat.le_of_ble_eq_true rfl) (Nat.le_of_ble_eq_true rfl) rfl rfl ?_
        refine c_prod_e (dd := dd) W3 (by decide) (by omega) (fun sc4 σ4 F4 W4 => ?_)
        refine wq_go rfl (fun _ => rfl) ?_
        refine wq_getf rfl (by first | rfl | assumption) (by first | decide | omega | assumption) (Classical.choose_spec W4.1) rfl ?_
        refine wq_go rfl (fun _ => rfl) ?_
        refine wq_cN (m := 0) rfl rfl ?_
        refine wq_callV rfl rfl (by first | rfl | assumption) (by first | decide | omega | assumption) (Nat.le_of_ble_eq_true rfl) (Nat.le_of_ble_eq_true rfl) rfl rfl ?_
        refine c_addAny W4 (fun sc6 σ6 F6 W6 => ?_)
        refine wq_incN rfl rfl rfl ?_
        refine wq_go rfl (fun _ => rfl) ?_
        refine wq_go rfl (fun _ => rfl) ?_
        refine wq_cN (m := 400) rfl rfl ?_
        refine wq_cgt rfl (by first | omega | decide | exact Nat.lt_of_le_of_lt Nat.and_le_right (by decide) | exact ⟨by omega, by omega⟩) (by first | omega | decide | exact Nat.lt_of_le_of_lt Nat.and_le_right (by decide) | exact ⟨by omega, by omega⟩) (fun c7 => ?_) (fun c7 => ?_)
        · skip
          refine wq_end rfl (fun _ => rfl) ?_
          exact K0 2 t _ _ (hE.trans (by subst h4; exact d_add_r (by omega))) (by decide) (fr_trans hF (fr_trans (fr_trans (f3E F3) F4) F6)) W6
        · skip
          refine wq_go rfl (fun _ => rfl) ?_
          refine wq_getf rfl (by first | rfl | assumption) (by first | decide | omega | assumption) (Classical.choose_spec W6.1) rfl ?_
          refine wq_zne rfl (by first | omega | decide | exact Nat.lt_of_le_of_lt Nat.and_le_right (by decide) | exact ⟨by omega, by omega⟩) (fun c10 => ?_) (fun c => absurd (show _ from by omega) c)
          refine wq_end rfl (fun _ => rfl) ?_
          exact K0 2 t _ _ (hE.trans (by subst h4; exact d_add_r (by omega))) (by decide) (fr_trans hF (fr_trans (fr_trans (f3E F3) F4) F6)) W6
      · have dm : eX X true W t c = eX X false (2 :: W) (t + 1) c := by
          have q := d_add (c := c) (X := X) (t := t) (W := W) (by omega) (Or.inl hkA) hN
          rw [hkA] at q
          exact q
        refine wq_go rfl (fun _ => rfl) ?_
        refine wq_cN (m := 400) rfl rfl ?_
        refine wq_cgt rfl (by first | omega | decide | exact Nat.lt_of_le_of_lt Nat.and_le_right (by decide) | exact ⟨by omega, by omega⟩) (by first | omega | decide | exact Nat.lt_of_le_of_lt Nat.and_le_right (by decide) | exact ⟨by omega, by omega⟩) (fun c => absurd c (by omega)) (fun c7 => ?_)
        refine wq_go rfl (fun _ => rfl) ?_
        refine wq_getf rfl (by first | rfl | assumption) (by first | decide | omega | assumption) h3 rfl ?_
        refine wq_zne rfl (by first | omega | decide | exact Nat.lt_of_le_of_lt Nat.and_le_right (by decide) | exact ⟨by omega, by omega⟩) (fun c => absurd c (by omega)) (fun c10 => ?_)
        refine wq_go rfl (fun _ => rfl) ?_
        refine wq_getf rfl (by first | rfl | assumption) (by first | decide | omega | assumption) h3 rfl ?_
        refine wq_cN (m := 27) rfl rfl ?_
        refine wq_ceq rfl (by first | omega | decide | exact Nat.lt_of_le_of_lt Nat.and_le_right (by decide) | exact ⟨by omega, by omega⟩) (by first | omega | decide | exact Nat.lt_of_le_of_lt Nat.and_le_right (by decide) | exact ⟨by omega, by omega⟩) (fun c14 => ?_) (fun c => absurd (show _ from by omega) c)
        refine wq_go rfl (fun _ => rfl) ?_
        refine wq_getf rfl (by first | rfl | assumption) (by first | decide | omega | assumption) h3 rfl ?_
        refine wq_cN (m := 27) rfl rfl ?_
        refine wq_cne rfl (by first | omega | decide | exact Nat.lt_of_le_of_lt Nat.and_le_right (by decide) | exact ⟨by omega, by omega⟩) (by first | omega | decide | exact Nat.lt_of_le_of_lt Nat.and_le_right (by decide) | exact ⟨by omega, by omega⟩) (fun c => absurd c (by omega)) (fun c22 => ?_)
        refine wq_cN (m := 2) rfl rfl ?_
        refine wq_go rfl (fun _ => rfl) ?_
        refine wq_go rfl (fun _ => rfl) ?_
        refine wq_go rfl (fun _ => rfl) ?_
        refine wq_go rfl (fun _ => rfl) ?_
        refine wq_getf rfl (by first | rfl | assumption) (by first | decide | omega | assumption) h3 rfl ?_
        refine wq_callV rfl rfl (by first | rfl | assumption) (by first | decide | omega | assumption) (Nat.le_of_ble_eq_true rfl) (Nat.le_of_ble_eq_true rfl) rfl rfl ?_
        refine c_accY hW (by omega) rfl (by omega) (fun σ3 F3 W3 => ?_)
        refine wq_go rfl (fun _ => rfl) ?_
        refine wq_go rfl (fun _ => rfl) ?_
        refine wq_go rfl (fun _ => rfl) ?_
        refine wq_callV rfl rfl (by first | rfl | assumption) (by first | decide | omega | assumption) (Nat.le_of_ble_eq_true rfl) (Nat.le_of_ble_eq_true rfl) rfl rfl ?_
        refine hU σ3 _ (t + 1) sc nc nh nv y w (2 :: W) c b W3 hb (cd_fr hc F3 rfl) (by rw [opens_n (by decide)]; exact hO) (opS_noP (by unfold opS; decide)) (by rw [ops_n (by decide)]; omega) (fun t' c' sc' σ4 e4 l4 k4 F4 b4 W4 d4 o4 p4 => ?_) (fun f' t' sc' σ4 e4 n4 F4 W4 => ?_)
        · rw [ops_n (by decide)] at o4
          have ht4 : t' ≤ 400 := W4.2.2.2.2.2.2.2.2.1
          refine wq_go rfl (fun _ => rfl) ?_
          refine wq_getf rfl (by first | rfl | assumption) (by first | decide | omega | assumption) (Classical.choose_spec W4.1) rfl ?_
          refine wq_go rfl (fun _ => rfl) ?_
          refine wq_cN (m := 0) rfl rfl ?_
          refine wq_callV rfl rfl (by first | rfl | assumption) (by first | decide | omega | assumption) (Nat.le_of_ble_eq_true rfl) (Nat.le_of_ble_eq_true rfl) rfl rfl ?_
          refine c_add W4 (by decide) (by decide) (by omega) (fun σ6 F6 W6 a6 p6 => ?_)
          refine wq_incN rfl rfl rfl ?_
          refine wq_go rfl (fun _ => rfl) ?_
          refine wq_lv ⟨(by decide : ([2, 3, 0, 1] : List Nat).Nodup), (lvm (List.mem_of_getElem? (i := 0) rfl) (lvm (List.mem_of_getElem? (i := 2) rfl) (lvm (List.mem_of_getElem? (i := 3) rfl) lvn)))⟩ (ih σ6 t' (sc' + 1) (c' ++ [(2, 0)]) (i + 1) (by omega) (by omega) (fr_trans hF (fr_trans (f3E F3) (fr_trans F4 F6))) W6 (len1 b4) (cd_snoc b4 d4 a6 p6) (by omega) (fun j hj => (p6 j (by omega)).trans ((p4 j hj).trans ((ag_eq (F3 11 rfl) j).trans (hp j hj)))) (hE.trans (dm.trans (e4.trans (d_popS ht4 (by unfold opS; decide) hN k4)))) (by omega) k4)
        · have f9 : f' < 10 := W4.2.2.2.2.2.2.2.2.2.2
          refine wq_go rfl (fun _ => rfl) ?_
          refine wq_getf rfl (by first | rfl | assumption) (by first | decide | omega | assumption) (Classical.choose_spec W4.1) rfl ?_
          refine wq_go rfl (fun _ => rfl) ?_
          refine wq_cN (m := 0) rfl rfl ?_
          refine wq_callV rfl rfl (by first | rfl | assumption) (by first | decide | omega | assumption) (Nat.le_of_ble_eq_true rfl) (Nat.le_of_ble_eq_true rfl) rfl rfl ?_
          refine c_addAny W4 (fun sc6 σ6 F6 W6 => ?_)
          refine wq_incN rfl rfl rfl ?_
          refine wq_go rfl (fun _ => rfl) ?_
          refine wq_go rfl (fun _ => rfl) ?_
          refine wq_cN (m := 400) rfl rfl ?_
          refine wq_cgt rfl (by first | omega | decide | exact Nat.lt_of_le_of_lt Nat.and_le_right (by decide) | exact ⟨by omega, by omega⟩) (by first | omega | decide | exact Nat.lt_of_le_of_lt Nat.and_le_right (by decide) | exact ⟨by omega, by omega⟩) (fun c7 => ?_) (fun c7 => ?_)
          · skip
            refine wq_end rfl (fun _ => rfl) ?_
            exact K0 f' t' _ _ (hE.trans (dm.trans e4)) n4 (fr_trans hF (fr_trans (fr_trans (f3E F3) F4) F6)) W6
          · skip
            refine wq_go rfl (fun _ => rfl) ?_
            refine wq_getf rfl (by first | rfl | assumption) (by first | decide | omega | assumption) (Classical.choose_spec W6.1) rfl ?_
            refine wq_zne rfl (by first | omega | decide | exact Nat.lt_of_le_of_lt Nat.and_le_right (by decide) | exact ⟨by omega, by omega⟩) (fun c10 => ?_) (fun c => absurd (show _ from by omega) c)
            refine wq_end rfl (fun _ => rfl) ?_
            exact K0 f' t' _ _ (hE.trans (dm.trans e4)) n4 (fr_trans hF (fr_trans (fr_trans (f3E F3) F4) F6)) W6
    by_cases hkB : Xk X t = 28
    · by_cases h4 : t = 400
      · skip
        refine wq_go rfl (fun _ => rfl) ?_
        refine wq_cN (m := 400) rfl rfl ?_
        refine wq_cgt rfl (by first | omega | decide | exact Nat.lt_of_le_of_lt Nat.and_le_right (by decide) | exact ⟨by omega, by omega⟩) (by first | omega | decide | exact Nat.lt_of_le_of_lt Nat.and_le_right (by decide) | exact ⟨by omega, by omega⟩) (fun c => absurd c (by omega)) (fun c7 => ?_)
        refine wq_go rfl (fun _ => rfl) ?_
        refine wq_getf rfl (by first | rfl | assumption) (by first | decide | omega | assumption) h3 rfl ?_
        refine wq_zne rfl (by first | omega | decide | exact Nat.lt_of_le_of_lt Nat.and_le_right (by decide) | exact ⟨by omega, by omega⟩) (fun c => absurd c (by omega)) (fun c10 => ?_)
        refine wq_go rfl (fun _ => rfl) ?_
        refine wq_getf rfl (by first | rfl | assumption) (by first | decide | omega | assumption) h3 rfl ?_
        refine wq_cN (m := 27) rfl rfl ?_
        refine wq_ceq rfl (by first | omega | decide | exact Nat.lt_of_le_of_lt Nat.and_le_right (by decide) | exact ⟨by omega, by omega⟩) (by first | omega | decide | exact Nat.lt_of_le_of_lt Nat.and_le_right (by decide) | exact ⟨by omega, by omega⟩) (fun c => absurd c (by omega)) (fun c14 => ?_)
        refine wq_go rfl (fun _ => rfl) ?_
        refine wq_getf rfl (by first | rfl | assumption) (by first | decide | omega | assumption) h3 rfl ?_
        refine wq_cN (m := 28) rfl rfl ?_
        refine wq_cne rfl (by first | omega | decide | exact Nat.lt_of_le_of_lt Nat.and_le_right (by decide) | exact ⟨by omega, by omega⟩) (by first | omega | decide | exact Nat.lt_of_le_of_lt Nat.and_le_right (by decide) | exact ⟨by omega, by omega⟩) (fun c => absurd c (by omega)) (fun c18 => ?_)
        refine wq_go rfl (fun _ => rfl) ?_
        refine wq_getf rfl (by first | rfl | assumption) (by first | decide | omega | assumption) h3 rfl ?_
        refine wq_cN (m := 27) rfl rfl ?_
        refine wq_cne rfl (by first | omega | decide | exact Nat.lt_of_le_of_lt Nat.and_le_right (by decide) | exact ⟨by omega, by omega⟩) (by first | omega | decide | exact Nat.lt_of_le_of_lt Nat.and_le_right (by decide) | exact ⟨by omega, by omega⟩) (fun c22 => ?_) (fun c => absurd (show _ from by omega) c)
        refine wq_cN (m := 3) rfl rfl ?_
        refine wq_go rfl (fun _ => rfl) ?_
        refine wq_go rfl (fun _ => rfl) ?_
        refine wq_go rfl (fun _ => rfl) ?_
        refine wq_getf rfl (by first | rfl | assumption) (by first | decide | omega | assumption) h3 rfl ?_
        refine wq_callV rfl rfl (by first | rfl | assumption) (by first | decide | omega | assumption) (Nat.le_of_ble_eq_true rfl) (Nat.le_of_ble_eq_true rfl) rfl rfl ?_
        refine c_accR hW (by omega) rfl h4 (fun σ3 F3 W3 => ?_)
        refine wq_go rfl (fun _ => rfl) ?_
        refine wq_go rfl (fun _ => rfl) ?_
        refine wq_go rfl (fun _ => rfl) ?_
        refine wq_callV rfl rfl (by first | rfl | assumption) (by first | decide | omega | assumption) (Nat.le_of_ble_eq_true rfl) (Nat.le_of_ble_eq_true rfl) rfl rfl ?_
        refine c_prod_e (dd := dd) W3 (by decide) (by omega) (fun sc4 σ4 F4 W4 => ?_)
        refine wq_go rfl (fun _ => rfl) ?_
        refine wq_getf rfl (by first | rfl | assumption) (by first | decide | omega | assumption) (Classical.choose_spec W4.1) rfl ?_
        refine wq_go rfl (fun _ => rfl) ?_
        refine wq_cN (m := 0) rfl rfl ?_
        refine wq_callV rfl rfl (by first | rfl | assumption) (by first | decide | omega | assumption) (Nat.le_of_ble_eq_true rfl) (Nat.le_of_ble_eq_true rfl) rfl rfl ?_
        refine c_addAny W4 (fun sc6 σ6 F6 W6 => ?_)
        refine wq_incN rfl rfl rfl ?_
        refine wq_go rfl (fun _ => rfl) ?_
        refine wq_go rfl (fun _ => rfl) ?_
        refine wq_cN (m := 400) rfl rfl ?_
        refine wq_cgt rfl (by first | omega | decide | exact Nat.lt_of_le_of_lt Nat.and_le_right (by decide) | exact ⟨by omega, by omega⟩) (by first | omega | decide | exact Nat.lt_of_le_of_lt Nat.and_le_right (by decide) | exact ⟨by omega, by omega⟩) (fun c7 => ?_) (fun c7 => ?_)
        · skip
          refine wq_end rfl (fun _ => rfl) ?_
          exact K0 2 t _ _ (hE.trans (by subst h4; exact d_add_r (by omega))) (by decide) (fr_trans hF (fr_trans (fr_trans (f3E F3) F4) F6)) W6
        · skip
          refine wq_go rfl (fun _ => rfl) ?_
          refine wq_getf rfl (by first | rfl | assumption) (by first | decide | omega | assumption) (Classical.choose_spec W6.1) rfl ?_
          refine wq_zne rfl (by first | omega | decide | exact Nat.lt_of_le_of_lt Nat.and_le_right (by decide) | exact ⟨by omega, by omega⟩) (fun c10 => ?_) (fun c => absurd (show _ from by omega) c)
          refine wq_end rfl (fun _ => rfl) ?_
          exact K0 2 t _ _ (hE.trans (by subst h4; exact d_add_r (by omega))) (by decide) (fr_trans hF (fr_trans (fr_trans (f3E F3) F4) F6)) W6
      · have dm : eX X true W t c = eX X false (3 :: W) (t + 1) c := by
          have q := d_add (c := c) (X := X) (t := t) (W := W) (by omega) (Or.inr hkB) hN
          rw [hkB] at q
          exact q
        refine wq_go rfl (fun _ => rfl) ?_
        refine wq_cN (m := 400) rfl rfl ?_
        refine wq_cgt rfl (by first | omega | decide | exact Nat.lt_of_le_of_lt Nat.and_le_right (by decide) | exact ⟨by omega, by omega⟩) (by first | omega | decide | exact Nat.lt_of_le_of_lt Nat.and_le_right (by decide) | exact ⟨by omega, by omega⟩) (fun c => absurd c (by omega)) (fun c7 => ?_)
        refine wq_go rfl (fun _ => rfl) ?_
        refine wq_getf rfl (by first | rfl | assumption) (by first | decide | omega | assumption) h3 rfl ?_
        refine wq_zne rfl (by first | omega | decide | exact Nat.lt_of_le_of_lt Nat.and_le_right (by decide) | exact ⟨by omega, by omega⟩) (fun c => absurd c (by omega)) (fun c10 => ?_)
        refine wq_go rfl (fun _ => rfl) ?_
        refine wq_getf rfl (by first | rfl | assumption) (by first | decide | omega | assumption) h3 rfl ?_
        refine wq_cN (m := 27) rfl rfl ?_
        refine wq_ceq rfl (by first | omega | decide | exact Nat.lt_of_le_of_lt Nat.and_le_right (by decide) | exact ⟨by omega, by omega⟩) (by first | omega | decide | exact Nat.lt_of_le_of_lt Nat.and_le_right (by decide) | exact ⟨by omega, by omega⟩) (fun c => absurd c (by omega)) (fun c14 => ?_)
        refine wq_go rfl (fun _ => rfl) ?_
        refine wq_getf rfl (by first | rfl | assumption) (by first | decide | omega | assumption) h3 rfl ?_
        refine wq_cN (m := 28) rfl rfl ?_
        refine wq_cne rfl (by first | omega | decide | exact Nat.lt_of_le_of_lt Nat.and_le_right (by decide) | exact ⟨by omega, by omega⟩) (by first | omega | decide | exact Nat.lt_of_le_of_lt Nat.and_le_right (by decide) | exact ⟨by omega, by omega⟩) (fun c => absurd c (by omega)) (fun c18 => ?_)
        refine wq_go rfl (fun _ => rfl) ?_
        refine wq_getf rfl (by first | rfl | assumption) (by first | decide | omega | assumption) h3 rfl ?_
        refine wq_cN (m := 27) rfl rfl ?_
        refine wq_cne rfl (by first | omega | decide | exact Nat.lt_of_le_of_lt Nat.and_le_right (by decide) | exact ⟨by omega, by omega⟩) (by first | omega | decide | exact Nat.lt_of_le_of_lt Nat.and_le_right (by decide) | exact ⟨by omega, by omega⟩) (fun c22 => ?_) (fun c => absurd (show _ from by omega) c)
        refine wq_cN (m := 3) rfl rfl ?_
        refine wq_go rfl (fun _ => rfl) ?_
        refine wq_go rfl (fun _ => rfl) ?_
        refine wq_go rfl (fun _ => rfl) ?_
        refine wq_getf rfl (by first | rfl | assumption) (by first | decide | omega | assumption) h3 rfl ?_
        refine wq_callV rfl rfl (by first | rfl | assumption) (by first | decide | omega | assumption) (Nat.le_of_ble_eq_true rfl) (Nat.le_of_ble_eq_true rfl) rfl rfl ?_
        refine c_accY hW (by omega) rfl (by omega) (fun σ3 F3 W3 => ?_)
        refine wq_go rfl (fun _ => rfl) ?_
        refine wq_go rfl (fun _ => rfl) ?_
        refine wq_go rfl (fun _ => rfl) ?_
        refine wq_callV rfl rfl (by first | rfl | assumption) (by first | decide | omega | assumption) (Nat.le_of_ble_eq_true rfl) (Nat.le_of_ble_eq_true rfl) rfl rfl ?_
        refine hU σ3 _ (t + 1) sc nc nh nv y w (3 :: W) c b W3 hb (cd_fr hc F3 rfl) (by rw [opens_n (by decide)]; exact hO) (opS_noP (by unfold opS; decide)) (by rw [ops_n (by decide)]; omega) (fun t' c' sc' σ4 e4 l4 k4 F4 b4 W4 d4 o4 p4 => ?_) (fun f' t' sc' σ4 e4 n4 F4 W4 => ?_)
        · rw [ops_n (by decide)] at o4
          have ht4 : t' ≤ 400 := W4.2.2.2.2.2.2.2.2.1
          refine wq_go rfl (fun _ => rfl) ?_
          refine wq_getf rfl (by first | rfl | assumption) (by first | decide | omega | assumption) (Classical.choose_spec W4.1) rfl ?_
          refine wq_go rfl (fun _ => rfl) ?_
          refine wq_cN (m := 0) rfl rfl ?_
          refine wq_callV rfl rfl (by first | rfl | assumption) (by first | decide | omega | assumption) (Nat.le_of_ble_eq_true rfl) (Nat.le_of_ble_eq_true rfl) rfl rfl ?_
          refine c_add W4 (by decide) (by decide) (by omega) (fun σ6 F6 W6 a6 p6 => ?_)
          refine wq_incN rfl rfl rfl ?_
          refine wq_go rfl (fun _ => rfl) ?_
          refine wq_lv ⟨(by decide : ([2, 3, 0, 1] : List Nat).Nodup), (lvm (List.mem_of_getElem? (i := 0) rfl) (lvm (List.mem_of_getElem? (i := 2) rfl) (lvm (List.mem_of_getElem? (i := 3) rfl) lvn)))⟩ (ih σ6 t' (sc' + 1) (c' ++ [(3, 0)]) (i + 1) (by omega) (by omega) (fr_trans hF (fr_trans (f3E F3) (fr_trans F4 F6))) W6 (len1 b4) (cd_snoc b4 d4 a6 p6) (by omega) (fun j hj => (p6 j (by omega)).trans ((p4 j hj).trans ((ag_eq (F3 11 rfl) j).trans (hp j hj)))) (hE.trans (dm.trans (e4.trans (d_popS ht4 (by unfold opS; decide) hN k4)))) (by omega) k4)
        · have f9 : f' < 10 := W4.2.2.2.2.2.2.2.2.2.2
          refine wq_go rfl (fun _ => rfl) ?_
          refine wq_getf rfl (by first | rfl | assumption) (by first | decide | omega | assumption) (Classical.choose_spec W4.1) rfl ?_
          refine wq_go rfl (fun _ => rfl) ?_
          refine wq_cN (m := 0) rfl rfl ?_
          refine wq_callV rfl rfl (by first | rfl | assumption) (by first | decide | omega | assumption) (Nat.le_of_ble_eq_true rfl) (Nat.le_of_ble_eq_true rfl) rfl rfl ?_
          refine c_addAny W4 (fun sc6 σ6 F6 W6 => ?_)
          refine wq_incN rfl rfl rfl ?_
          refine wq_go rfl (fun _ => rfl) ?_
          refine wq_go rfl (fun _ => rfl) ?_
          refine wq_cN (m := 400) rfl rfl ?_
          refine wq_cgt rfl (by first | omega | decide | exact Nat.lt_of_le_of_lt Nat.and_le_right (by decide) | exact ⟨by omega, by omega⟩) (by first | omega | decide | exact Nat.lt_of_le_of_lt Nat.and_le_right (by decide) | exact ⟨by omega, by omega⟩) (fun c7 => ?_) (fun c7 => ?_)
          · skip
            refine wq_end rfl (fun _ => rfl) ?_
            exact K0 f' t' _ _ (hE.trans (dm.trans e4)) n4 (fr_trans hF (fr_trans (fr_trans (f3E F3) F4) F6)) W6
          · skip
            refine wq_go rfl (fun _ => rfl) ?_
            refine wq_getf rfl (by first | rfl | assumption) (by first | decide | omega | assumption) (Classical.choose_spec W6.1) rfl ?_
            refine wq_zne rfl (by first | omega | decide | exact Nat.lt_of_le_of_lt Nat.and_le_right (by decide) | exact ⟨by omega, by omega⟩) (fun c10 => ?_) (fun c => absurd (show _ from by omega) c)
            refine wq_end rfl (fun _ => rfl) ?_
            exact K0 f' t' _ _ (hE.trans (dm.trans e4)) n4 (fr_trans hF (fr_trans (fr_trans (f3E F3) F4) F6)) W6
    skip
    refine wq_go rfl (fun _ => rfl) ?_
    refine wq_cN (m := 400) rfl rfl ?_
    refine wq_cgt rfl (by first | omega | decide | exact Nat.lt_of_le_of_lt Nat.and_le_right (by decide) | exact ⟨by omega, by omega⟩) (by first | omega | decide | exact Nat.lt_of_le_of_lt Nat.and_le_right (by decide) | exact ⟨by omega, by omega⟩) (fun c => absurd c (by omega)) (fun c7 => ?_)
    refine wq_go rfl (fun _ => rfl) ?_
    refine wq_getf rfl (by first | rfl | assumption) (by first | decide | omega | assumption) h3 rfl ?_
    refine wq_zne rfl (by first | omega | decide | exact Nat.lt_of_le_of_lt Nat.and_le_right (by decide) | exact ⟨by omega, by omega⟩) (fun c => absurd c (by omega)) (fun c10 => ?_)
    refine wq_go rfl (fun _ => rfl) ?_
    refine wq_getf rfl (by first | rfl | assumption) (by first | decide | omega | assumption) h3 rfl ?_
    refine wq_cN (m := 27) rfl rfl ?_
    refine wq_ceq rfl (by first | omega | decide | exact Nat.lt_of_le_of_lt Nat.and_le_right (by decide) | exact ⟨by omega, by omega⟩) (by first | omega | decide | exact Nat.lt_of_le_of_lt Nat.and_le_right (by decide) | exact ⟨by omega, by omega⟩) (fun c => absurd c (by omega)) (fun c14 => ?_)
    refine wq_go rfl (fun _ => rfl) ?_
    refine wq_getf rfl (by first | rfl | assumption) (by first | decide | omega | assumption) h3 rfl ?_
    refine wq_cN (m := 28) rfl rfl ?_
    refine wq_cne rfl (by first | omega | decide | exact Nat.lt_of_le_of_lt Nat.and_le_right (by decide) | exact ⟨by omega, by omega⟩) (by first | omega | decide | exact Nat.lt_of_le_of_lt Nat.and_le_right (by decide) | exact ⟨by omega, by omega⟩) (fun c18 => ?_) (fun c => absurd (show _ from by omega) c)
    refine wq_end rfl (fun _ => rfl) ?_
    exact K1 t c sc σ1 hE hlt ⟨hx, (show ¬ (Xk X t = 27 ∨ Xk X t = 28) by omega)⟩ hF hb hW hc hop hp
theorem c_sum {xs : List Int32} {D dd : Nat} {X : Tx} (hU : ExOK xs ax_cd71 (D + 2) dd X noP ceP) (hdd : dd ≤ 6) : ExOK xs ax_cd70 (D + 3) dd X noO ceS := by
  intro σ Q t sc nc nh nv y w W c b hW hb hc hO hcw hop K1 K0
  have hW0 := hW
  obtain ⟨⟨fpl, h3⟩, h4, hsc, hnc, hnh, hnv, hsh, ⟨s, n15, fk, fp, fn, fm, h15, h17, h18, h19, h20, hs, ek, ep, en, em, el, e35⟩, ht, hr, hf⟩ := hW0
  have hk35 := e35 t
  have hts := el t ht hr
  refine wq_go rfl (fun _ => rfl) ?_
  refine wq_go rfl (fun _ => rfl) ?_
  refine wq_callV rfl rfl (by first | rfl | assumption) (by first | decide | omega | assumption) (Nat.le_of_ble_eq_true rfl) (Nat.le_of_ble_eq_true rfl) rfl rfl ?_
  refine hU σ _ t sc nc nh nv y w W c b hW hb hc hO (noO_P hcw) hop (fun t' c' sc' σ4 e4 l4 k4 F4 b4 W4 d4 o4 p4 => ?_) (fun f' t' sc' σ4 e4 n4 F4 W4 => ?_)
  · skip
    refine wq_cN (m := 0) rfl rfl ?_
    refine wq_go rfl (fun _ => rfl) ?_
    exact wq_lv ⟨(by decide : ([2, 0, 1] : List Nat).Nodup), (lvm (List.mem_of_getElem? (i := 0) rfl) (lvm (List.mem_of_getElem? (i := 1) rfl) (lvm (List.mem_of_getElem? (i := 2) rfl) lvn)))⟩ (c_sum_l hU hdd hO hcw (t0 := t) (c0 := c) K1 K0 401 σ4 t' sc' c' 0 (by omega) (by omega) F4 W4 b4 d4 o4 p4 e4 l4 k4)
  · have f9 : f' < 10 := W4.2.2.2.2.2.2.2.2.2.2
    refine wq_cN (m := 0) rfl rfl ?_
    refine wq_go rfl (fun _ => rfl) ?_
    refine wq_go rfl (fun _ => rfl) ?_
    refine wq_cN (m := 400) rfl rfl ?_
    refine wq_cgt rfl (by first | omega | decide | exact Nat.lt_of_le_of_lt Nat.and_le_right (by decide) | exact ⟨by omega, by omega⟩) (by first | omega | decide | exact Nat.lt_of_le_of_lt Nat.and_le_right (by decide) | exact ⟨by omega, by omega⟩) (fun c => absurd c (by omega)) (fun c7 => ?_)
    refine wq_go rfl (fun _ => rfl) ?_
    refine wq_getf rfl (by first | rfl | assumption) (by first | decide | omega | assumption) (Classical.choose_spec W4.1) rfl ?_
    refine wq_zne rfl (by first | omega | decide | exact Nat.lt_of_le_of_lt Nat.and_le_right (by decide) | exact ⟨by omega, by omega⟩) (fun c10 => ?_) (fun c => absurd (show _ from by omega) c)
    refine wq_end rfl (fun _ => rfl) ?_
    exact K0 f' t' _ σ4 e4 n4 F4 W4
/-- an expression at every depth -/
theorem c_expr {xs : List Int32} {X : Tx} (hv : ∀ i, Xv X i < 10000) : ∀ (k dd D : Nat), dd + k = 6 → 3 * k ≤ D → ExOK xs ax_cd70 (D + 3) dd X noO ceS
  | 0, dd, D, h, hD => c_sum (c_prod (c_unit hv (by omega) (fun q => absurd q (by omega))) (by omega)) (by omega)
  | k + 1, dd, D, h, hD => by
    refine c_sum (c_prod (c_unit hv (by omega) (fun q => ?_)) (by omega)) (by omega)
    obtain ⟨E, rfl⟩ : ∃ E, D = E + 3 := ⟨D - 3, by omega⟩
    exact c_expr hv k (dd + 1) E (by omega) (by omega)
