/-! THE CLASS READS EXPRESSIONS -/
theorem or8 {v k : Nat} (hk : k < 8) : v * 2 ^ 3 ||| k = 8 * v + k := by
  have h := Nat.two_pow_add_eq_or_of_lt (i := 3) (b := k) hk v
  rw [Nat.mul_comm v]
  omega
theorem ag_in {σ : Nat → List Value} {p n i : Nat} {f : Nat → Int32} (e : σ p = arr n f) (h : i < n) : ag σ p i = f i := by
  unfold ag
  rw [e, arr_get f h]
theorem rdw_4 {X : Tx} {f t sc nc nh nv sc' : Nat} {y : Nat → Int32} {w : Option (Nat × Nat)} {σ : Nat → List Value} {g : Nat → Int32} (h : RdW X f t sc nc nh nv y w σ) (hs : sc' ≤ 408) : RdW X f t sc' nc nh nv y w (up (up σ 11 (arr 408 g)) 4 (drO sc' nc nh nv y)) := by
  obtain ⟨⟨fp, h3⟩, _, h5, h6, h7, h8, h9, h10, h11, h12, h13⟩ := h
  refine ⟨⟨fp, (up_ne _ _ (by decide)).trans ((up_ne _ _ (by decide)).trans h3)⟩, up_same _ _ _, hs, h6, h7, h8, ?_, tkx_eq h10 (fun j a b => (up_ne _ _ (by omega)).trans (up_ne _ _ (by omega))), h11, h12, h13⟩
  exact shp_eq (shp_a (f := g) h9 (by decide : (11, 408) ∈ shpl)) (fun j a b => up_ne _ _ (by omega))
theorem codeAt_ext {g g' : Nat → Int32} : ∀ (c : KCode) (p : Nat), codeAt g p c → (∀ i, p ≤ i → i < p + c.length → g' i = g i) → codeAt g' p c
  | [], _, _, _ => trivial
  | (k, v) :: c, p, h, e => ⟨(e p (Nat.le_refl _) (by simp only [List.length_cons]; omega)).trans h.1, codeAt_ext c (p + 1) h.2 (fun i h1 h2 => e i (by omega) (by simp only [List.length_cons]; omega))⟩
theorem codeAt_snoc {g : Nat → Int32} {k v : Nat} : ∀ (c : KCode) (p : Nat), codeAt g p c → g (p + c.length) = nI (8 * v + k) → codeAt g p (c ++ [(k, v)])
  | [], p, _, e => ⟨e, trivial⟩
  | (k', v') :: c, p, h, e => ⟨h.1, codeAt_snoc c (p + 1) h.2 (by rw [show p + 1 + c.length = p + (c.length + 1) by omega]; exact e)⟩
theorem c_addAny {xs : List Int32} {d : Nat} {σ : Nat → List Value} {Q : Option Value → (Nat → List Value) → Prop} {X : Tx} {f t sc nc nh nv : Nat} {y : Nat → Int32} {w : Option (Nat × Nat)} (hW : RdW X f t sc nc nh nv y w σ) {k v : Int32}  (K : ∀ sc' σ', Fr xE σ σ' → RdW X f t sc' nc nh nv y w σ' → Q none σ') : Wq xs (d + 0) ax_cd7 0 [(0, .ref 4), (1, .int k), (2, .int v)] [] σ Q := by
  have hW0 := hW
  obtain ⟨⟨fpl, h3⟩, h4, hsc, hnc, hnh, hnv, hsh, ⟨s, n15, fk, fp, fn, fm, h15, h17, h18, h19, h20, hs, ek, ep, en, em, el, e35⟩, ht, hr, hf⟩ := hW0
  have hk35 := e35 t
  have hts := el t ht hr
  refine wq_go rfl (fun _ => rfl) ?_
  refine wq_getf rfl (by first | rfl | assumption) (by first | decide | omega | assumption) h4 rfl ?_
  refine wq_zlt rfl (by first | omega | decide | exact Nat.lt_of_le_of_lt Nat.and_le_right (by decide) | exact ⟨by omega, by omega⟩) (fun c => absurd c (by omega)) (fun c2 => ?_)
  refine wq_go rfl (fun _ => rfl) ?_
  refine wq_getf rfl (by first | rfl | assumption) (by first | decide | omega | assumption) h4 rfl ?_
  refine wq_go rfl (fun _ => rfl) ?_
  refine wq_getf rfl (by first | rfl | assumption) (by first | decide | omega | assumption) h4 rfl ?_
  refine wq_alen rfl (by first | rfl | assumption) (by first | decide | omega | assumption) rfl (shp_g hsh (by decide) : IsA σ 11 408) (arr_len _ _) ?_
  refine wq_cge rfl (by first | omega | decide | exact Nat.lt_of_le_of_lt Nat.and_le_right (by decide) | exact ⟨by omega, by omega⟩) (by first | omega | decide | exact Nat.lt_of_le_of_lt Nat.and_le_right (by decide) | exact ⟨by omega, by omega⟩) (fun c8 => ?_) (fun c8 => ?_)
  · skip
    refine wq_end rfl (fun _ => rfl) ?_
    first | exact K sc _ (fr_refl _ _) hW | exact K (sc + 1) _ (fr_up (fr_up (fr_refl xE _) rfl) rfl) (rdw_4 hW (by omega))
  · skip
    refine wq_go rfl (fun _ => rfl) ?_
    refine wq_getf rfl (by first | rfl | assumption) (by first | decide | omega | assumption) h4 rfl ?_
    refine wq_go rfl (fun _ => rfl) ?_
    refine wq_getf rfl (by first | rfl | assumption) (by first | decide | omega | assumption) h4 rfl ?_
    refine wq_go rfl (fun _ => rfl) ?_
    refine wq_cN (m := 3) rfl rfl ?_
    refine wq_go rfl (fun _ => rfl) ?_
    refine wq_go rfl (fun _ => rfl) ?_
    refine wq_go rfl (fun _ => rfl) ?_
    refine wq_iast rfl (by first | rfl | assumption) (by first | decide | omega | assumption) (shp_g hsh (by decide) : IsA σ 11 408) rfl (by omega) (by first | decide | omega) ?_
    refine wq_go rfl (fun _ => rfl) ?_
    refine wq_go rfl (fun _ => rfl) ?_
    refine wq_getf rfl (by first | rfl | assumption) (by first | decide | omega | assumption) ((up_ne _ _ (by decide)).trans h4) rfl ?_
    refine wq_cN (m := 1) rfl rfl ?_
    refine wq_addN rfl ?_
    refine wq_putf rfl (by first | rfl | assumption) (by first | decide | omega | assumption) ((up_ne _ _ (by decide)).trans h4) rfl rfl rfl (by first | exact Nat.le_of_ble_eq_true rfl | (simp; done)) ?_
    refine wq_end rfl (fun _ => rfl) ?_
    first | exact K sc _ (fr_refl _ _) hW | exact K (sc + 1) _ (fr_up (fr_up (fr_refl xE _) rfl) rfl) (rdw_4 hW (by omega))
theorem c_add {xs : List Int32} {d : Nat} {σ : Nat → List Value} {Q : Option Value → (Nat → List Value) → Prop} {X : Tx} {f t sc nc nh nv : Nat} {y : Nat → Int32} {w : Option (Nat × Nat)} (hW : RdW X f t sc nc nh nv y w σ) {k v : Nat} (hk : k < 8) (hv : v < 10000) (hs : sc < 408)  (K : ∀ σ', Fr xE σ σ' → RdW X f t (sc + 1) nc nh nv y w σ' → ag σ' 11 sc = nI (8 * v + k) → (∀ i, i < sc → ag σ' 11 i = ag σ 11 i) → Q none σ') : Wq xs (d + 0) ax_cd7 0 [(0, .ref 4), (1, .int (nI k)), (2, .int (nI v))] [] σ Q := by
  have hW0 := hW
  obtain ⟨⟨fpl, h3⟩, h4, hsc, hnc, hnh, hnv, hsh, ⟨s, n15, fk, fp, fn, fm, h15, h17, h18, h19, h20, hs, ek, ep, en, em, el, e35⟩, ht, hr, hf⟩ := hW0
  have hk35 := e35 t
  have hts := el t ht hr
  refine wq_go rfl (fun _ => rfl) ?_
  refine wq_getf rfl (by first | rfl | assumption) (by first | decide | omega | assumption) h4 rfl ?_
  refine wq_zlt rfl (by first | omega | decide | exact Nat.lt_of_le_of_lt Nat.and_le_right (by decide) | exact ⟨by omega, by omega⟩) (fun c => absurd c (by omega)) (fun c2 => ?_)
  refine wq_go rfl (fun _ => rfl) ?_
  refine wq_getf rfl (by first | rfl | assumption) (by first | decide | omega | assumption) h4 rfl ?_
  refine wq_go rfl (fun _ => rfl) ?_
  refine wq_getf rfl (by first | rfl | assumption) (by first | decide | omega | assumption) h4 rfl ?_
  refine wq_alen rfl (by first | rfl | assumption) (by first | decide | omega | assumption) rfl (shp_g hsh (by decide) : IsA σ 11 408) (arr_len _ _) ?_
  refine wq_cge rfl (by first | omega | decide | exact Nat.lt_of_le_of_lt Nat.and_le_right (by decide) | exact ⟨by omega, by omega⟩) (by first | omega | decide | exact Nat.lt_of_le_of_lt Nat.and_le_right (by decide) | exact ⟨by omega, by omega⟩) (fun c => absurd c (by omega)) (fun c8 => ?_)
  refine wq_go rfl (fun _ => rfl) ?_
  refine wq_getf rfl (by first | rfl | assumption) (by first | decide | omega | assumption) h4 rfl ?_
  refine wq_go rfl (fun _ => rfl) ?_
  refine wq_getf rfl (by first | rfl | assumption) (by first | decide | omega | assumption) h4 rfl ?_
  refine wq_go rfl (fun _ => rfl) ?_
  refine wq_cN (m := 3) rfl rfl ?_
  refine wq_shlN rfl (by first | decide | omega) (by omega) ?_
  refine wq_go rfl (fun _ => rfl) ?_
  refine wq_orN rfl ?_
  refine wq_iast rfl (by first | rfl | assumption) (by first | decide | omega | assumption) (shp_g hsh (by decide) : IsA σ 11 408) rfl (by omega) (by first | decide | omega) ?_
  refine wq_go rfl (fun _ => rfl) ?_
  refine wq_go rfl (fun _ => rfl) ?_
  refine wq_getf rfl (by first | rfl | assumption) (by first | decide | omega | assumption) ((up_ne _ _ (by decide)).trans h4) rfl ?_
  refine wq_cN (m := 1) rfl rfl ?_
  refine wq_addN rfl ?_
  refine wq_putf rfl (by first | rfl | assumption) (by first | decide | omega | assumption) ((up_ne _ _ (by decide)).trans h4) rfl rfl rfl (by first | exact Nat.le_of_ble_eq_true rfl | (simp; done)) ?_
  refine wq_end rfl (fun _ => rfl) ?_
  refine K _ (fr_up (fr_up (fr_refl xE _) rfl) rfl) (rdw_4 hW (by omega)) ?_ (fun i hi => ?_)
  · rw [ag_in ((up_ne _ _ (by decide)).trans (up_same _ _ _)) (by omega : sc < 408)]
    simp only [upd, if_true]
    rw [or8 hk]
  · rw [ag_in ((up_ne _ _ (by decide)).trans (up_same _ _ _)) (by omega : i < 408)]
    simp only [upd]
    rw [if_neg (by omega)]
theorem c_unit_e {xs : List Int32} {d : Nat} {σ : Nat → List Value} {Q : Option Value → (Nat → List Value) → Prop} {X : Tx} {f t sc nc nh nv : Nat} {y : Nat → Int32} {w : Option (Nat × Nat)} (hW : RdW X f t sc nc nh nv y w σ) (hf0 : ¬ f = 0) {dd : Nat} (hdd : dd < 10)  (K : ∀ sc' σ', Fr xE σ σ' → RdW X f t sc' nc nh nv y w σ' → Q none σ') : Wq xs (d + 1) ax_cd72 0 [(0, .ref 3), (1, .int (nI dd))] [] σ Q := by
  have hW0 := hW
  obtain ⟨⟨fpl, h3⟩, h4, hsc, hnc, hnh, hnv, hsh, ⟨s, n15, fk, fp, fn, fm, h15, h17, h18, h19, h20, hs, ek, ep, en, em, el, e35⟩, ht, hr, hf⟩ := hW0
  have hk35 := e35 t
  have hts := el t ht hr
  refine wq_go rfl (fun _ => rfl) ?_
  refine wq_getf rfl (by first | rfl | assumption) (by first | decide | omega | assumption) h3 rfl ?_
  refine wq_cN (m := 24) rfl rfl ?_
  refine wq_cne rfl (by first | omega | decide | exact Nat.lt_of_le_of_lt Nat.and_le_right (by decide) | exact ⟨by omega, by omega⟩) (by first | omega | decide | exact Nat.lt_of_le_of_lt Nat.and_le_right (by decide) | exact ⟨by omega, by omega⟩) (fun c3 => ?_) (fun c3 => ?_)
  · skip
    refine wq_go rfl (fun _ => rfl) ?_
    refine wq_getf rfl (by first | rfl | assumption) (by first | decide | omega | assumption) h3 rfl ?_
    refine wq_cN (m := 14) rfl rfl ?_
    refine wq_clt rfl (by first | omega | decide | exact Nat.lt_of_le_of_lt Nat.and_le_right (by decide) | exact ⟨by omega, by omega⟩) (by first | omega | decide | exact Nat.lt_of_le_of_lt Nat.and_le_right (by decide) | exact ⟨by omega, by omega⟩) (fun c21 => ?_) (fun c21 => ?_)
    · skip
      refine wq_go rfl (fun _ => rfl) ?_
      refine wq_getf rfl (by first | rfl | assumption) (by first | decide | omega | assumption) h3 rfl ?_
      refine wq_cN (m := 32) rfl rfl ?_
      refine wq_cne rfl (by first | omega | decide | exact Nat.lt_of_le_of_lt Nat.and_le_right (by decide) | exact ⟨by omega, by omega⟩) (by first | omega | decide | exact Nat.lt_of_le_of_lt Nat.and_le_right (by decide) | exact ⟨by omega, by omega⟩) (fun c43 => ?_) (fun c43 => ?_)
      · skip
        refine wq_go rfl (fun _ => rfl) ?_
        refine wq_cN (m := 32) rfl rfl ?_
        refine wq_callV rfl rfl (by first | rfl | assumption) (by first | decide | omega | assumption) (Nat.le_of_ble_eq_true rfl) (Nat.le_of_ble_eq_true rfl) rfl rfl ?_
        refine c_acc_e hW hf0 ?_
        refine wq_zeq rfl (by first | omega | decide | exact Nat.lt_of_le_of_lt Nat.and_le_right (by decide) | exact ⟨by omega, by omega⟩) (fun c53 => ?_) (fun c => absurd (show _ from by omega) c)
        refine wq_end rfl (fun _ => rfl) ?_
        exact K sc _ (fr_refl _ _) hW
      · skip
        refine wq_go rfl (fun _ => rfl) ?_
        refine wq_cN (m := 6) rfl rfl ?_
        refine wq_clt rfl (by first | omega | decide | exact Nat.lt_of_le_of_lt Nat.and_le_right (by decide) | exact ⟨by omega, by omega⟩) (by first | omega | decide | exact Nat.lt_of_le_of_lt Nat.and_le_right (by decide) | exact ⟨by omega, by omega⟩) (fun c46 => ?_) (fun c46 => ?_)
        · skip
          refine wq_go rfl (fun _ => rfl) ?_
          refine wq_cN (m := 32) rfl rfl ?_
          refine wq_callV rfl rfl (by first | rfl | assumption) (by first | decide | omega | assumption) (Nat.le_of_ble_eq_true rfl) (Nat.le_of_ble_eq_true rfl) rfl rfl ?_
          refine c_acc_e hW hf0 ?_
          refine wq_zeq rfl (by first | omega | decide | exact Nat.lt_of_le_of_lt Nat.and_le_right (by decide) | exact ⟨by omega, by omega⟩) (fun c53 => ?_) (fun c => absurd (show _ from by omega) c)
          refine wq_end rfl (fun _ => rfl) ?_
          exact K sc _ (fr_refl _ _) hW
        · skip
          refine wq_go rfl (fun _ => rfl) ?_
          refine wq_cN (m := 2) rfl rfl ?_
          refine wq_callV rfl rfl (by first | rfl | assumption) (by first | decide | omega | assumption) (Nat.le_of_ble_eq_true rfl) (Nat.le_of_ble_eq_true rfl) rfl rfl ?_
          refine c_ref_e hW hf0 ?_
          refine wq_go rfl (fun _ => rfl) ?_
          refine wq_cN (m := 32) rfl rfl ?_
          refine wq_callV rfl rfl (by first | rfl | assumption) (by first | decide | omega | assumption) (Nat.le_of_ble_eq_true rfl) (Nat.le_of_ble_eq_true rfl) rfl rfl ?_
          refine c_acc_e hW hf0 ?_
          refine wq_zeq rfl (by first | omega | decide | exact Nat.lt_of_le_of_lt Nat.and_le_right (by decide) | exact ⟨by omega, by omega⟩) (fun c53 => ?_) (fun c => absurd (show _ from by omega) c)
          refine wq_end rfl (fun _ => rfl) ?_
          exact K sc _ (fr_refl _ _) hW
    · skip
      refine wq_go rfl (fun _ => rfl) ?_
      refine wq_getf rfl (by first | rfl | assumption) (by first | decide | omega | assumption) h3 rfl ?_
      refine wq_cN (m := 22) rfl rfl ?_
      refine wq_cgt rfl (by first | omega | decide | exact Nat.lt_of_le_of_lt Nat.and_le_right (by decide) | exact ⟨by omega, by omega⟩) (by first | omega | decide | exact Nat.lt_of_le_of_lt Nat.and_le_right (by decide) | exact ⟨by omega, by omega⟩) (fun c25 => ?_) (fun c25 => ?_)
      · skip
        refine wq_go rfl (fun _ => rfl) ?_
        refine wq_getf rfl (by first | rfl | assumption) (by first | decide | omega | assumption) h3 rfl ?_
        refine wq_cN (m := 32) rfl rfl ?_
        refine wq_cne rfl (by first | omega | decide | exact Nat.lt_of_le_of_lt Nat.and_le_right (by decide) | exact ⟨by omega, by omega⟩) (by first | omega | decide | exact Nat.lt_of_le_of_lt Nat.and_le_right (by decide) | exact ⟨by omega, by omega⟩) (fun c43 => ?_) (fun c43 => ?_)
        · skip
          refine wq_go rfl (fun _ => rfl) ?_
          refine wq_cN (m := 32) rfl rfl ?_
          refine wq_callV rfl rfl (by first | rfl | assumption) (by first | decide | omega | assumption) (Nat.le_of_ble_eq_true rfl) (Nat.le_of_ble_eq_true rfl) rfl rfl ?_
          refine c_acc_e hW hf0 ?_
          refine wq_zeq rfl (by first | omega | decide | exact Nat.lt_of_le_of_lt Nat.and_le_right (by decide) | exact ⟨by omega, by omega⟩) (fun c53 => ?_) (fun c => absurd (show _ from by omega) c)
          refine wq_end rfl (fun _ => rfl) ?_
          exact K sc _ (fr_refl _ _) hW
        · skip
          refine wq_go rfl (fun _ => rfl) ?_
          refine wq_cN (m := 6) rfl rfl ?_
          refine wq_clt rfl (by first | omega | decide | exact Nat.lt_of_le_of_lt Nat.and_le_right (by decide) | exact ⟨by omega, by omega⟩) (by first | omega | decide | exact Nat.lt_of_le_of_lt Nat.and_le_right (by decide) | exact ⟨by omega, by omega⟩) (fun c46 => ?_) (fun c46 => ?_)
          · skip
            refine wq_go rfl (fun _ => rfl) ?_
            refine wq_cN (m := 32) rfl rfl ?_
            refine wq_callV rfl rfl (by first | rfl | assumption) (by first | decide | omega | assumption) (Nat.le_of_ble_eq_true rfl) (Nat.le_of_ble_eq_true rfl) rfl rfl ?_
            refine c_acc_e hW hf0 ?_
            refine wq_zeq rfl (by first | omega | decide | exact Nat.lt_of_le_of_lt Nat.and_le_right (by decide) | exact ⟨by omega, by omega⟩) (fun c53 => ?_) (fun c => absurd (show _ from by omega) c)
            refine wq_end rfl (fun _ => rfl) ?_
            exact K sc _ (fr_refl _ _) hW
          · skip
            refine wq_go rfl (fun _ => rfl) ?_
            refine wq_cN (m := 2) rfl rfl ?_
            refine wq_callV rfl rfl (by first | rfl | assumption) (by first | decide | omega | assumption) (Nat.le_of_ble_eq_true rfl) (Nat.le_of_ble_eq_true rfl) rfl rfl ?_
            refine c_ref_e hW hf0 ?_
            refine wq_go rfl (fun _ => rfl) ?_
            refine wq_cN (m := 32) rfl rfl ?_
            refine wq_callV rfl rfl (by first | rfl | assumption) (by first | decide | omega | assumption) (Nat.le_of_ble_eq_true rfl) (Nat.le_of_ble_eq_true rfl) rfl rfl ?_
            refine c_acc_e hW hf0 ?_
            refine wq_zeq rfl (by first | omega | decide | exact Nat.lt_of_le_of_lt Nat.and_le_right (by decide) | exact ⟨by omega, by omega⟩) (fun c53 => ?_) (fun c => absurd (show _ from by omega) c)
            refine wq_end rfl (fun _ => rfl) ?_
            exact K sc _ (fr_refl _ _) hW
      · skip
        refine wq_go rfl (fun _ => rfl) ?_
        refine wq_getf rfl (by first | rfl | assumption) (by first | decide | omega | assumption) h3 rfl ?_
        refine wq_cN (m := 1) rfl rfl ?_
        refine wq_go rfl (fun _ => rfl) ?_
        refine wq_getf rfl (by first | rfl | assumption) (by first | decide | omega | assumption) h3 rfl ?_
        refine wq_cN (m := 14) rfl rfl ?_
        refine wq_subN rfl (by omega) ?_
        refine wq_callV rfl rfl (by first | rfl | assumption) (by first | decide | omega | assumption) (Nat.le_of_ble_eq_true rfl) (Nat.le_of_ble_eq_true rfl) rfl rfl ?_
        refine c_addAny hW (fun sc33 σ33 F33 W33 => ?_)
        refine wq_go rfl (fun _ => rfl) ?_
        refine wq_go rfl (fun _ => rfl) ?_
        refine wq_getf rfl (by first | rfl | assumption) (by first | decide | omega | assumption) (Classical.choose_spec W33.1) rfl ?_
        refine wq_callV rfl rfl (by first | rfl | assumption) (by first | decide | omega | assumption) (Nat.le_of_ble_eq_true rfl) (Nat.le_of_ble_eq_true rfl) rfl rfl ?_
        refine c_acc_e W33 hf0 ?_
        refine wq_go rfl (fun _ => rfl) ?_
        refine wq_go rfl (fun _ => rfl) ?_
        refine wq_end rfl (fun _ => rfl) ?_
        exact K _ _ F33 W33
  · skip
    refine wq_go rfl (fun _ => rfl) ?_
    refine wq_getf rfl (by first | rfl | assumption) (by first | decide | omega | assumption) h3 rfl ?_
    refine wq_cN (m := 0) rfl rfl ?_
    refine wq_go rfl (fun _ => rfl) ?_
    refine wq_getf rfl (by first | rfl | assumption) (by first | decide | omega | assumption) h3 rfl ?_
    refine wq_go rfl (fun _ => rfl) ?_
    refine wq_getf rfl (by first | rfl | assumption) (by first | decide | omega | assumption) h3 rfl ?_
    refine wq_callV rfl rfl (by first | rfl | assumption) (by first | decide | omega | assumption) (Nat.le_of_ble_eq_true rfl) (Nat.le_of_ble_eq_true rfl) rfl rfl ?_
    refine c_tk_numAny hW (fun x => ?_)
    refine wq_callV rfl rfl (by first | rfl | assumption) (by first | decide | omega | assumption) (Nat.le_of_ble_eq_true rfl) (Nat.le_of_ble_eq_true rfl) rfl rfl ?_
    refine c_addAny hW (fun sc12 σ12 F12 W12 => ?_)
    refine wq_go rfl (fun _ => rfl) ?_
    refine wq_cN (m := 24) rfl rfl ?_
    refine wq_callV rfl rfl (by first | rfl | assumption) (by first | decide | omega | assumption) (Nat.le_of_ble_eq_true rfl) (Nat.le_of_ble_eq_true rfl) rfl rfl ?_
    refine c_acc_e W12 hf0 ?_
    refine wq_go rfl (fun _ => rfl) ?_
    refine wq_go rfl (fun _ => rfl) ?_
    refine wq_end rfl (fun _ => rfl) ?_
    exact K _ _ F12 W12
theorem c_prod_e {xs : List Int32} {d : Nat} {σ : Nat → List Value} {Q : Option Value → (Nat → List Value) → Prop} {X : Tx} {f t sc nc nh nv : Nat} {y : Nat → Int32} {w : Option (Nat × Nat)} (hW : RdW X f t sc nc nh nv y w σ) (hf0 : ¬ f = 0) {dd : Nat} (hdd : dd < 10)  (K : ∀ sc' σ', Fr xE σ σ' → RdW X f t sc' nc nh nv y w σ' → Q none σ') : Wq xs (d + 2) ax_cd71 0 [(0, .ref 3), (1, .int (nI dd))] [] σ Q := by
  have hW0 := hW
  obtain ⟨⟨fpl, h3⟩, h4, hsc, hnc, hnh, hnv, hsh, ⟨s, n15, fk, fp, fn, fm, h15, h17, h18, h19, h20, hs, ek, ep, en, em, el, e35⟩, ht, hr, hf⟩ := hW0
  have hk35 := e35 t
  have hts := el t ht hr
  refine wq_go rfl (fun _ => rfl) ?_
  refine wq_go rfl (fun _ => rfl) ?_
  refine wq_callV rfl rfl (by first | rfl | assumption) (by first | decide | omega | assumption) (Nat.le_of_ble_eq_true rfl) (Nat.le_of_ble_eq_true rfl) rfl rfl ?_
  refine c_unit_e hW hf0 hdd (fun sc2 σ2 F2 W2 => ?_)
  refine wq_cN (m := 0) rfl rfl ?_
  refine wq_go rfl (fun _ => rfl) ?_
  refine wq_go rfl (fun _ => rfl) ?_
  refine wq_cN (m := 400) rfl rfl ?_
  refine wq_cgt rfl (by first | omega | decide | exact Nat.lt_of_le_of_lt Nat.and_le_right (by decide) | exact ⟨by omega, by omega⟩) (by first | omega | decide | exact Nat.lt_of_le_of_lt Nat.and_le_right (by decide) | exact ⟨by omega, by omega⟩) (fun c => absurd c (by omega)) (fun c7 => ?_)
  refine wq_go rfl (fun _ => rfl) ?_
  refine wq_getf rfl (by first | rfl | assumption) (by first | decide | omega | assumption) (Classical.choose_spec W2.1) rfl ?_
  refine wq_zne rfl (by first | omega | decide | exact Nat.lt_of_le_of_lt Nat.and_le_right (by decide) | exact ⟨by omega, by omega⟩) (fun c10 => ?_) (fun c => absurd (show _ from by omega) c)
  refine wq_end rfl (fun _ => rfl) ?_
  exact K _ _ F2 W2
theorem c_sum_e {xs : List Int32} {d : Nat} {σ : Nat → List Value} {Q : Option Value → (Nat → List Value) → Prop} {X : Tx} {f t sc nc nh nv : Nat} {y : Nat → Int32} {w : Option (Nat × Nat)} (hW : RdW X f t sc nc nh nv y w σ) (hf0 : ¬ f = 0) {dd : Nat} (hdd : dd < 10)  (K : ∀ sc' σ', Fr xE σ σ' → RdW X f t sc' nc nh nv y w σ' → Q none σ') : Wq xs (d + 3) ax_cd70 0 [(0, .ref 3), (1, .int (nI dd))] [] σ Q := by
  have hW0 := hW
  obtain ⟨⟨fpl, h3⟩, h4, hsc, hnc, hnh, hnv, hsh, ⟨s, n15, fk, fp, fn, fm, h15, h17, h18, h19, h20, hs, ek, ep, en, em, el, e35⟩, ht, hr, hf⟩ := hW0
  have hk35 := e35 t
  have hts := el t ht hr
  refine wq_go rfl (fun _ => rfl) ?_
  refine wq_go rfl (fun _ => rfl) ?_
  refine wq_callV rfl rfl (by first | rfl | assumption) (by first | decide | omega | assumption) (Nat.le_of_ble_eq_true rfl) (Nat.le_of_ble_eq_true rfl) rfl rfl ?_
  refine c_prod_e hW hf0 hdd (fun sc2 σ2 F2 W2 => ?_)
  refine wq_cN (m := 0) rfl rfl ?_
  refine wq_go rfl (fun _ => rfl) ?_
  refine wq_go rfl (fun _ => rfl) ?_
  refine wq_cN (m := 400) rfl rfl ?_
  refine wq_cgt rfl (by first | omega | decide | exact Nat.lt_of_le_of_lt Nat.and_le_right (by decide) | exact ⟨by omega, by omega⟩) (by first | omega | decide | exact Nat.lt_of_le_of_lt Nat.and_le_right (by decide) | exact ⟨by omega, by omega⟩) (fun c => absurd c (by omega)) (fun c7 => ?_)
  refine wq_go rfl (fun _ => rfl) ?_
  refine wq_getf rfl (by first | rfl | assumption) (by first | decide | omega | assumption) (Classical.choose_spec W2.1) rfl ?_
  refine wq_zne rfl (by first | omega | decide | exact Nat.lt_of_le_of_lt Nat.and_le_right (by decide) | exact ⟨by omega, by omega⟩) (fun c10 => ?_) (fun c => absurd (show _ from by omega) c)
  refine wq_end rfl (fun _ => rfl) ?_
  exact K _ _ F2 W2
theorem c_accY {xs : List Int32} {d : Nat} {σ : Nat → List Value} {Q : Option Value → (Nat → List Value) → Prop} {X : Tx} {t sc nc nh nv k : Nat} {y : Nat → Int32} {w : Option (Nat × Nat)} (hW : RdW X 0 t sc nc nh nv y w σ) (hk34 : k < 34) (hk : Xk X t = k) (h4 : t < 400) (K : ∀ σ', Fr x3 σ σ' → RdW X 0 (t + 1) sc nc nh nv y w σ' → Q (some (.int (nI 1))) σ') : Wq xs (d + 0) ax_cd51 0 [(0, .ref 3), (1, .int (nI k))] [] σ Q := c_acc hW hk34 (fun t1 σ' _ e _ F W => by subst e; exact K σ' F W) (fun f' σ' m _ _ _ _ => by
  exfalso
  unfold must at m
  rw [if_pos hk, adv_y h4] at m
  cases m)
theorem c_accR {xs : List Int32} {d : Nat} {σ : Nat → List Value} {Q : Option Value → (Nat → List Value) → Prop} {X : Tx} {t sc nc nh nv k : Nat} {y : Nat → Int32} {w : Option (Nat × Nat)} (hW : RdW X 0 t sc nc nh nv y w σ) (hk34 : k < 34) (hk : Xk X t = k) (h4 : t = 400) (K : ∀ σ', Fr x3 σ σ' → RdW X 2 t sc nc nh nv y w σ' → Q (some (.int (nI 0))) σ') : Wq xs (d + 0) ax_cd51 0 [(0, .ref 3), (1, .int (nI k))] [] σ Q := c_acc hW hk34 (fun t1 σ' m _ _ _ _ => by
  exfalso
  unfold must at m
  rw [if_pos hk, h4, adv_n] at m
  cases m) (fun f' σ' m _ _ F W => by
  unfold must at m
  rw [if_pos hk, h4, adv_n] at m
  cases m
  exact K σ' F W)
theorem c_accN {xs : List Int32} {d : Nat} {σ : Nat → List Value} {Q : Option Value → (Nat → List Value) → Prop} {X : Tx} {t sc nc nh nv k : Nat} {y : Nat → Int32} {w : Option (Nat × Nat)} (hW : RdW X 0 t sc nc nh nv y w σ) (hk34 : k < 34) (hk : ¬ Xk X t = k) (K : ∀ σ', Fr x3 σ σ' → RdW X 1 t sc nc nh nv y w σ' → Q (some (.int (nI 0))) σ') : Wq xs (d + 0) ax_cd51 0 [(0, .ref 3), (1, .int (nI k))] [] σ Q := c_acc hW hk34 (fun t1 σ' _ _ q _ _ => absurd q hk) (fun f' σ' m _ _ F W => by
  unfold must at m
  rw [if_neg hk] at m
  cases m
  exact K σ' F W)
def ExOK (xs : List Int32) (cd : List ax_I) (D dd : Nat) (X : Tx) (cw : List Nat → Prop) (ce : Nat → Prop) : Prop := ∀ (σ : Nat → List Value) (Q : Option Value → (Nat → List Value) → Prop) (t sc nc nh nv : Nat) (y : Nat → Int32) (w : Option (Nat × Nat)) (W : List Nat) (c : KCode) (b : Nat), RdW X 0 t sc nc nh nv y w σ → b + c.length = sc → codeAt (ag σ 11) b c → opens W = dd → cw W → sc + ops W ≤ 8 + t → (∀ t' c' sc' σ', eX X false W t c = eX X true W t' c' → t < t' → ce (Xk X t') → Fr xE σ σ' → b + c'.length = sc' → RdW X 0 t' sc' nc nh nv y w σ' → codeAt (ag σ' 11) b c' → sc' + ops W ≤ 8 + t' → (∀ i, i < b → ag σ' 11 i = ag σ 11 i) → Q none σ') → (∀ f' t' sc' σ', eX X false W t c = er f' t' → ¬ f' = 0 → Fr xE σ σ' → RdW X f' t' sc' nc nh nv y w σ' → Q none σ') → Wq xs D cd 0 [(0, .ref 3), (1, .int (nI dd))] [] σ Q
theorem cd_snoc {σ σ' : Nat → List Value} {b sc k v : Nat} {c : KCode} (hb : b + c.length = sc) (hc : codeAt (ag σ 11) b c) (e : ag σ' 11 sc = nI (8 * v + k)) (p : ∀ i, i < sc → ag σ' 11 i = ag σ 11 i) : codeAt (ag σ' 11) b (c ++ [(k, v)]) := codeAt_snoc c b (codeAt_ext c b hc (fun i h1 h2 => p i (by omega))) (by rw [hb]; exact e)
theorem cd_fr {σ σ' : Nat → List Value} {b : Nat} {c : KCode} {Y : Nat → Bool} (hc : codeAt (ag σ 11) b c) (F : Fr Y σ σ') (h : Y 11 = false) : codeAt (ag σ' 11) b c := codeAt_ext c b hc (fun i _ _ => ag_eq (F 11 h) i)
theorem len1 {b sc : Nat} {c : KCode} {x : Nat × Nat} (h : b + c.length = sc) : b + (c ++ [x]).length = sc + 1 := by
  rw [List.length_append]
  show b + (c.length + 1) = sc + 1
  omega
theorem f3E {σ σ' : Nat → List Value} (F : Fr x3 σ σ') : Fr xE σ σ' := fr_mono F x3_E
def noC : Nat → Prop := fun _ => True
def noW : List Nat → Prop := fun _ => True
def ceP : Nat → Prop := fun k => ¬ (k = 29 ∨ k = 30)
def ceS : Nat → Prop := fun k => ¬ (k = 29 ∨ k = 30) ∧ ¬ (k = 27 ∨ k = 28)
theorem c_unit {xs : List Int32} {D dd : Nat} {X : Tx} (hv : ∀ i, Xv X i < 10000) (hdd : dd ≤ 6) (hS : dd < 6 → ExOK xs ax_cd70 D (dd + 1) X noO ceS) : ExOK xs ax_cd72 (D + 1) dd X noW noC := by
  intro σ Q t sc nc nh nv y w W c b hW hb hc hO hcw hop K1 K0
  have hW0 := hW
  obtain ⟨⟨fpl, h3⟩, h4, hsc, hnc, hnh, hnv, hsh, ⟨s, n15, fk, fp, fn, fm, h15, h17, h18, h19, h20, hs, ek, ep, en, em, el, e35⟩, ht, hr, hf⟩ := hW0
  have hk35 := e35 t
  have hts := el t ht hr
  by_cases hk : Xk X t = 24
  · by_cases h4 : t = 400
    · skip
      refine wq_go rfl (fun _ => rfl) ?_
      refine wq_getf rfl (by first | rfl | assumption) (by first | decide | omega | assumption) h3 rfl ?_
      refine wq_cN (m := 24) rfl rfl ?_
      refine wq_cne rfl (by first | omega | decide | exact Nat.lt_of_le_of_lt Nat.and_le_right (by decide) | exact ⟨by omega, by omega⟩) (by first | omega | decide | exact Nat.lt_of_le_of_lt Nat.and_le_right (by decide) | exact ⟨by omega, by omega⟩) (fun c => absurd c (by omega)) (fun c3 => ?_)
      refine wq_go rfl (fun _ => rfl) ?_
      refine wq_getf rfl (by first | rfl | assumption) (by first | decide | omega | assumption) h3 rfl ?_
      refine wq_cN (m := 0) rfl rfl ?_
      refine wq_go rfl (fun _ => rfl) ?_
      refine wq_getf rfl (by first | rfl | assumption) (by first | decide | omega | assumption) h3 rfl ?_
      refine wq_go rfl (fun _ => rfl) ?_
      refine wq_getf rfl (by first | rfl | assumption) (by first | decide | omega | assumption) h3 rfl ?_
      refine wq_callV rfl rfl (by first | rfl | assumption) (by first | decide | omega | assumption) (Nat.le_of_ble_eq_true rfl) (Nat.le_of_ble_eq_true rfl) rfl rfl ?_
      refine c_tk_numberAt hW hk ?_
      refine wq_callV rfl rfl (by first | rfl | assumption) (by first | decide | omega | assumption) (Nat.le_of_ble_eq_true rfl) (Nat.le_of_ble_eq_true rfl) rfl rfl ?_
      refine c_addAny hW (fun sc2 σ2 F2 W2 => ?_)
      refine wq_go rfl (fun _ => rfl) ?_
      refine wq_cN (m := 24) rfl rfl ?_
      refine wq_callV rfl rfl (by first | rfl | assumption) (by first | decide | omega | assumption) (Nat.le_of_ble_eq_true rfl) (Nat.le_of_ble_eq_true rfl) rfl rfl ?_
      refine c_accR W2 (by omega) hk h4 (fun σ3 F3 W3 => ?_)
      refine wq_go rfl (fun _ => rfl) ?_
      refine wq_go rfl (fun _ => rfl) ?_
      refine wq_end rfl (fun _ => rfl) ?_
      subst h4
      exact K0 2 400 _ σ3 (u_room (by omega)) (by decide) (fr_trans F2 (f3E F3)) W3
    · have hvt := hv t
      refine wq_go rfl (fun _ => rfl) ?_
      refine wq_getf rfl (by first | rfl | assumption) (by first | decide | omega | assumption) h3 rfl ?_
      refine wq_cN (m := 24) rfl rfl ?_
      refine wq_cne rfl (by first | omega | decide | exact Nat.lt_of_le_of_lt Nat.and_le_right (by decide) | exact ⟨by omega, by omega⟩) (by first | omega | decide | exact Nat.lt_of_le_of_lt Nat.and_le_right (by decide) | exact ⟨by omega, by omega⟩) (fun c => absurd c (by omega)) (fun c3 => ?_)
      refine wq_go rfl (fun _ => rfl) ?_
      refine wq_getf rfl (by first | rfl | assumption) (by first | decide | omega | assumption) h3 rfl ?_
      refine wq_cN (m := 0) rfl rfl ?_
      refine wq_go rfl (fun _ => rfl) ?_
      refine wq_getf rfl (by first | rfl | assumption) (by first | decide | omega | assumption) h3 rfl ?_
      refine wq_go rfl (fun _ => rfl) ?_
      refine wq_getf rfl (by first | rfl | assumption) (by first | decide | omega | assumption) h3 rfl ?_
      refine wq_callV rfl rfl (by first | rfl | assumption) (by first | decide | omega | assumption) (Nat.le_of_ble_eq_true rfl) (Nat.le_of_ble_eq_true rfl) rfl rfl ?_
      refine c_tk_numberAt hW hk ?_
      refine wq_callV rfl rfl (by first | rfl | assumption) (by first | decide | omega | assumption) (Nat.le_of_ble_eq_true rfl) (Nat.le_of_ble_eq_true rfl) rfl rfl ?_
      refine c_add hW (by omega) (by omega) (by omega) (fun σ2 F2 W2 a2 p2 => ?_)
      refine wq_go rfl (fun _ => rfl) ?_
      refine wq_cN (m := 24) rfl rfl ?_
      refine wq_callV rfl rfl (by first | rfl | assumption) (by first | decide | omega | assumption) (Nat.le_of_ble_eq_true rfl) (Nat.le_of_ble_eq_true rfl) rfl rfl ?_
      refine c_accY W2 (by omega) hk (by omega) (fun σ3 F3 W3 => ?_)
      refine wq_go rfl (fun _ => rfl) ?_
      refine wq_go rfl (fun _ => rfl) ?_
      refine wq_end rfl (fun _ => rfl) ?_
      exact K1 (t + 1) (c ++ [(0, Xv X t)]) (sc + 1) σ3 (u_int (by omega) hk) (by omega) trivial (fr_trans F2 (f3E F3)) (len1 hb) W3 (cd_fr (cd_snoc hb hc a2 p2) F3 rfl) (by omega) (fun i hi => (ag_eq (F3 11 rfl) i).trans (p2 i (by omega)))
  by_cases hk2 : 14 ≤ Xk X t ∧ Xk X t ≤ 22
  · by_cases h4 : t = 400
    · skip
      refine wq_go rfl (fun _ => rfl) ?_
      refine wq_getf rfl (by first | rfl | assumption) (by first | decide | omega | assumption) h3 rfl ?_
      refine wq_cN (m := 24) rfl rfl ?_
      refine wq_cne rfl (by first | omega | decide | exact Nat.lt_of_le_of_lt Nat.and_le_right (by decide) | exact ⟨by omega, by omega⟩) (by first | omega | decide | exact Nat.lt_of_le_of_lt Nat.and_le_right (by decide) | exact ⟨by omega, by omega⟩) (fun c3 => ?_) (fun c => absurd (show _ from by omega) c)
      refine wq_go rfl (fun _ => rfl) ?_
      refine wq_getf rfl (by first | rfl | assumption) (by first | decide | omega | assumption) h3 rfl ?_
      refine wq_cN (m := 14) rfl rfl ?_
      refine wq_clt rfl (by first | omega | decide | exact Nat.lt_of_le_of_lt Nat.and_le_right (by decide) | exact ⟨by omega, by omega⟩) (by first | omega | decide | exact Nat.lt_of_le_of_lt Nat.and_le_right (by decide) | exact ⟨by omega, by omega⟩) (fun c => absurd c (by omega)) (fun c21 => ?_)
      refine wq_go rfl (fun _ => rfl) ?_
      refine wq_getf rfl (by first | rfl | assumption) (by first | decide | omega | assumption) h3 rfl ?_
      refine wq_cN (m := 22) rfl rfl ?_
      refine wq_cgt rfl (by first | omega | decide | exact Nat.lt_of_le_of_lt Nat.and_le_right (by decide) | exact ⟨by omega, by omega⟩) (by first | omega | decide | exact Nat.lt_of_le_of_lt Nat.and_le_right (by decide) | exact ⟨by omega, by omega⟩) (fun c => absurd c (by omega)) (fun c25 => ?_)
      refine wq_go rfl (fun _ => rfl) ?_
      refine wq_getf rfl (by first | rfl | assumption) (by first | decide | omega | assumption) h3 rfl ?_
      refine wq_cN (m := 1) rfl rfl ?_
      refine wq_go rfl (fun _ => rfl) ?_
      refine wq_getf rfl (by first | rfl | assumption) (by first | decide | omega | assumption) h3 rfl ?_
      refine wq_cN (m := 14) rfl rfl ?_
      refine wq_subN rfl (by omega) ?_
      refine wq_callV rfl rfl (by first | rfl | assumption) (by first | decide | omega | assumption) (Nat.le_of_ble_eq_true rfl) (Nat.le_of_ble_eq_true rfl) rfl rfl ?_
      refine c_addAny hW (fun sc2 σ2 F2 W2 => ?_)
      refine wq_go rfl (fun _ => rfl) ?_
      refine wq_go rfl (fun _ => rfl) ?_
      refine wq_getf rfl (by first | rfl | assumption) (by first | decide | omega | assumption) (Classical.choose_spec W2.1) rfl ?_
      refine wq_callV rfl rfl (by first | rfl | assumption) (by first | decide | omega | assumption) (Nat.le_of_ble_eq_true rfl) (Nat.le_of_ble_eq_true rfl) rfl rfl ?_
      refine c_accR W2 (by omega) rfl h4 (fun σ3 F3 W3 => ?_)
      refine wq_go rfl (fun _ => rfl) ?_
      refine wq_go rfl (fun _ => rfl) ?_
      refine wq_end rfl (fun _ => rfl) ?_
      subst h4
      exact K0 2 400 _ σ3 (u_room (by omega)) (by decide) (fr_trans F2 (f3E F3)) W3
    · skip
      refine wq_go rfl (fun _ => rfl) ?_
      refine wq_getf rfl (by first | rfl | assumption) (by first | decide | omega | assumption) h3 rfl ?_
      refine wq_cN (m := 24) rfl rfl ?_
      refine wq_cne rfl (by first | omega | decide | exact Nat.lt_of_le_of_lt Nat.and_le_right (by decide) | exact ⟨by omega, by omega⟩) (by first | omega | decide | exact Nat.lt_of_le_of_lt Nat.and_le_right (by decide) | exact ⟨by omega, by omega⟩) (fun c3 => ?_) (fun c => absurd (show _ from by omega) c)
      refine wq_go rfl (fun _ => rfl) ?_
      refine wq_getf rfl (by first | rfl | assumption) (by first | decide | omega | assumption) h3 rfl ?_
      refine wq_cN (m := 14) rfl rfl ?_
      refine wq_clt rfl (by first | omega | decide | exact Nat.lt_of_le_of_lt Nat.and_le_right (by decide) | exact ⟨by omega, by omega⟩) (by first | omega | decide | exact Nat.lt_of_le_of_lt Nat.and_le_right (by decide) | exact ⟨by omega, by omega⟩) (fun c => absurd c (by omega)) (fun c21 => ?_)
      refine wq_go rfl (fun _ => rfl) ?_
      refine wq_getf rfl (by first | rfl | assumption) (by first | decide | omega | assumption) h3 rfl ?_
      refine wq_cN (m := 22) rfl rfl ?_
      refine wq_cgt rfl (by first | omega | decide | exact Nat.lt_of_le_of_lt Nat.and_le_right (by decide) | exact ⟨by omega, by omega⟩) (by first | omega | decide | exact Nat.lt_of_le_of_lt Nat.and_le_right (by decide) | exact ⟨by omega, by omega⟩) (fun c => absurd c (by omega)) (fun c25 => ?_)
      refine wq_go rfl (fun _ => rfl) ?_
      refine wq_getf rfl (by first | rfl | assumption) (by first | decide | omega | assumption) h3 rfl ?_
      refine wq_cN (m := 1) rfl rfl ?_
      refine wq_go rfl (fun _ => rfl) ?_
      refine wq_getf rfl (by first | rfl | assumption) (by first | decide | omega | assumption) h3 rfl ?_
      refine wq_cN (m := 14) rfl rfl ?_
      refine wq_subN rfl (by omega) ?_
      refine wq_callV rfl rfl (by first | rfl | assumption) (by first | decide | omega | assumption) (Nat.le_of_ble_eq_true rfl) (Nat.le_of_ble_eq_true rfl) rfl rfl ?_
      refine c_add hW (by omega) (by omega) (by omega) (fun σ2 F2 W2 a2 p2 => ?_)
      refine wq_go rfl (fun _ => rfl) ?_
      refine wq_go rfl (fun _ => rfl) ?_
      refine wq_getf rfl (by first | rfl | assumption) (by first | decide | omega | assumption) (Classical.choose_spec W2.1) rfl ?_
      refine wq_callV rfl rfl (by first | rfl | assumption) (by first | decide | omega | assumption) (Nat.le_of_ble_eq_true rfl) (Nat.le_of_ble_eq_true rfl) rfl rfl ?_
      refine c_accY W2 (by omega) rfl (by omega) (fun σ3 F3 W3 => ?_)
      refine wq_go rfl (fun _ => rfl) ?_
      refine wq_go rfl (fun _ => rfl) ?_
      refine wq_end rfl (fun _ => rfl) ?_
      exact K1 (t + 1) (c ++ [(1, Xk X t - 14)]) (sc + 1) σ3 (u_var (by omega) hk2) (by omega) trivial (fr_trans F2 (f3E F3)) (len1 hb) W3 (cd_fr (cd_snoc hb hc a2 p2) F3 rfl) (by omega) (fun i hi => (ag_eq (F3 11 rfl) i).trans (p2 i (by omega)))
  by_cases hk3 : Xk X t = 32
  · by_cases hd6 : dd < 6
    · by_cases h4 : t = 400
      · skip
        refine wq_go rfl (fun _ => rfl) ?_
        refine wq_getf rfl (by first | rfl | assumption) (by first | decide | omega | assumption) h3 rfl ?_
        refine wq_cN (m := 24) rfl rfl ?_
        refine wq_cne rfl (by first | omega | decide | exact Nat.lt_of_le_of_lt Nat.and_le_right (by decide) | exact ⟨by omega, by omega⟩) (by first | omega | decide | exact Nat.lt_of_le_of_lt Nat.and_le_right (by decide) | exact ⟨by omega, by omega⟩) (fun c3 => ?_) (fun c => absurd (show _ from by omega) c)
        refine wq_go rfl (fun _ => rfl) ?_
        refine wq_getf rfl (by first | rfl | assumption) (by first | decide | omega | assumption) h3 rfl ?_
        refine wq_cN (m := 14) rfl rfl ?_
        refine wq_clt rfl (by first | omega | decide | exact Nat.lt_of_le_of_lt Nat.and_le_right (by decide) | exact ⟨by omega, by omega⟩) (by first | omega | decide | exact Nat.lt_of_le_of_lt Nat.and_le_right (by decide) | exact ⟨by omega, by omega⟩) (fun c => absurd c (by omega)) (fun c21 => ?_)
        refine wq_go rfl (fun _ => rfl) ?_
        refine wq_getf rfl (by first | rfl | assumption) (by first | decide | omega | assumption) h3 rfl ?_
        refine wq_cN (m := 22) rfl rfl ?_
        refine wq_cgt rfl (by first | omega | decide | exact Nat.lt_of_le_of_lt Nat.and_le_right (by decide) | exact ⟨by omega, by omega⟩) (by first | omega | decide | exact Nat.lt_of_le_of_lt Nat.and_le_right (by decide) | exact ⟨by omega, by omega⟩) (fun c25 => ?_) (fun c => absurd (show _ from by omega) c)
        refine wq_go rfl (fun _ => rfl) ?_
        refine wq_getf rfl (by first | rfl | assumption) (by first | decide | omega | assumption) h3 rfl ?_
        refine wq_cN (m := 32) rfl rfl ?_
        refine wq_cne rfl (by first | omega | decide | exact Nat.lt_of_le_of_lt Nat.and_le_right (by decide) | exact ⟨by omega, by omega⟩) (by first | omega | decide | exact Nat.lt_of_le_of_lt Nat.and_le_right (by decide) | exact ⟨by omega, by omega⟩) (fun c => absurd c (by omega)) (fun c43 => ?_)
        refine wq_go rfl (fun _ => rfl) ?_
        refine wq_cN (m := 6) rfl rfl ?_
        refine wq_clt rfl (by first | omega | decide | exact Nat.lt_of_le_of_lt Nat.and_le_right (by decide) | exact ⟨by omega, by omega⟩) (by first | omega | decide | exact Nat.lt_of_le_of_lt Nat.and_le_right (by decide) | exact ⟨by omega, by omega⟩) (fun c46 => ?_) (fun c => absurd (show _ from by omega) c)
        refine wq_go rfl (fun _ => rfl) ?_
        refine wq_cN (m := 32) rfl rfl ?_
        refine wq_callV rfl rfl (by first | rfl | assumption) (by first | decide | omega | assumption) (Nat.le_of_ble_eq_true rfl) (Nat.le_of_ble_eq_true rfl) rfl rfl ?_
        refine c_accR hW (by omega) hk3 h4 (fun σ3 F3 W3 => ?_)
        refine wq_zeq rfl (by first | omega | decide | exact Nat.lt_of_le_of_lt Nat.and_le_right (by decide) | exact ⟨by omega, by omega⟩) (fun c53 => ?_) (fun c => absurd (show _ from by omega) c)
        refine wq_end rfl (fun _ => rfl) ?_
        subst h4
        exact K0 2 400 _ σ3 (u_room (by omega)) (by decide) (f3E F3) W3
      · skip
        refine wq_go rfl (fun _ => rfl) ?_
        refine wq_getf rfl (by first | rfl | assumption) (by first | decide | omega | assumption) h3 rfl ?_
        refine wq_cN (m := 24) rfl rfl ?_
        refine wq_cne rfl (by first | omega | decide | exact Nat.lt_of_le_of_lt Nat.and_le_right (by decide) | exact ⟨by omega, by omega⟩) (by first | omega | decide | exact Nat.lt_of_le_of_lt Nat.and_le_right (by decide) | exact ⟨by omega, by omega⟩) (fun c3 => ?_) (fun c => absurd (show _ from by omega) c)
        refine wq_go rfl (fun _ => rfl) ?_
        refine wq_getf rfl (by first | rfl | assumption) (by first | decide | omega | assumption) h3 rfl ?_
        refine wq_cN (m := 14) rfl rfl ?_
        refine wq_clt rfl (by first | omega | decide | exact Nat.lt_of_le_of_lt Nat.and_le_right (by decide) | exact ⟨by omega, by omega⟩) (by first | omega | decide | exact Nat.lt_of_le_of_lt Nat.and_le_right (by decide) | exact ⟨by omega, by omega⟩) (fun c => absurd c (by omega)) (fun c21 => ?_)
        refine wq_go rfl (fun _ => rfl) ?_
        refine wq_getf rfl (by first | rfl | assumption) (by first | decide | omega | assumption) h3 rfl ?_
        refine wq_cN (m := 22) rfl rfl ?_
        refine wq_cgt rfl (by first | omega | decide | exact Nat.lt_of_le_of_lt Nat.and_le_right (by decide) | exact ⟨by omega, by omega⟩) (by first | omega | decide | exact Nat.lt_of_le_of_lt Nat.and_le_right (by decide) | exact ⟨by omega, by omega⟩) (fun c25 => ?_) (fun c => absurd (show _ from by omega) c)
        refine wq_go rfl (fun _ => rfl) ?_
        refine wq_getf rfl (by first | rfl | assumption) (by first | decide | omega | assumption) h3 rfl ?_
        refine wq_cN (m := 32) rfl rfl ?_
        refine wq_cne rfl (by first | omega | decide | exact Nat.lt_of_le_of_lt Nat.and_le_right (by decide) | exact ⟨by omega, by omega⟩) (by first | omega | decide | exact Nat.lt_of_le_of_lt Nat.and_le_right (by decide) | exact ⟨by omega, by omega⟩) (fun c => absurd c (by omega)) (fun c43 => ?_)
        refine wq_go rfl (fun _ => rfl) ?_
        refine wq_cN (m := 6) rfl rfl ?_
        refine wq_clt rfl (by first | omega | decide | exact Nat.lt_of_le_of_lt Nat.and_le_right (by decide) | exact ⟨by omega, by omega⟩) (by first | omega | decide | exact Nat.lt_of_le_of_lt Nat.and_le_right (by decide) | exact ⟨by omega, by omega⟩) (fun c46 => ?_) (fun c => absurd (show _ from by omega) c)
        refine wq_go rfl (fun _ => rfl) ?_
        refine wq_cN (m := 32) rfl rfl ?_
        refine wq_callV rfl rfl (by first | rfl | assumption) (by first | decide | omega | assumption) (Nat.le_of_ble_eq_true rfl) (Nat.le_of_ble_eq_true rfl) rfl rfl ?_
        refine c_accY hW (by omega) hk3 (by omega) (fun σ3 F3 W3 => ?_)
        refine wq_zeq rfl (by first | omega | decide | exact Nat.lt_of_le_of_lt Nat.and_le_right (by decide) | exact ⟨by omega, by omega⟩) (fun c => absurd c (by omega)) (fun c53 => ?_)
        refine wq_go rfl (fun _ => rfl) ?_
        refine wq_go rfl (fun _ => rfl) ?_
        refine wq_cN (m := 1) rfl rfl ?_
        refine wq_addN rfl ?_
        refine wq_callV rfl rfl (by first | rfl | assumption) (by first | decide | omega | assumption) (Nat.le_of_ble_eq_true rfl) (Nat.le_of_ble_eq_true rfl) rfl rfl ?_
        refine hS hd6 σ3 _ (t + 1) sc nc nh nv y w (6 :: W) c b W3 hb (cd_fr hc F3 rfl) (by rw [opens_6]; omega) (noO_6 W) (by rw [ops_6]; omega) (fun t' c' sc' σ4 e4 l4 k4 F4 b4 W4 d4 o4 p4 => ?_) (fun f' t' sc' σ4 e4 n4 F4 W4 => ?_)
        · rw [ops_6] at o4
          by_cases hk5 : Xk X t' = 33
          · by_cases h5 : t' = 400
            · skip
              refine wq_go rfl (fun _ => rfl) ?_
              refine wq_cN (m := 33) rfl rfl ?_
              refine wq_callV rfl rfl (by first | rfl | assumption) (by first | decide | omega | assumption) (Nat.le_of_ble_eq_true rfl) (Nat.le_of_ble_eq_true rfl) rfl rfl ?_
              refine c_accR W4 (by decide) hk5 h5 (fun σ5 F5 W5 => ?_)
              refine wq_go rfl (fun _ => rfl) ?_
              refine wq_end rfl (fun _ => rfl) ?_
              subst h5
              exact K0 2 400 _ σ5 ((u_opn (by omega) hk3 (by omega)).trans (e4.trans (d_cls_r hk5))) (by decide) (fr_trans (fr_trans (f3E F3) F4) (f3E F5)) W5
            · skip
              refine wq_go rfl (fun _ => rfl) ?_
              refine wq_cN (m := 33) rfl rfl ?_
              refine wq_callV rfl rfl (by first | rfl | assumption) (by first | decide | omega | assumption) (Nat.le_of_ble_eq_true rfl) (Nat.le_of_ble_eq_true rfl) rfl rfl ?_
              refine c_accY W4 (by decide) hk5 (by have := W4.2.2.2.2.2.2.2.2.1; omega) (fun σ5 F5 W5 => ?_)
              refine wq_go rfl (fun _ => rfl) ?_
              refine wq_end rfl (fun _ => rfl) ?_
              have ht4 : t' ≤ 400 := W4.2.2.2.2.2.2.2.2.1
              exact K1 (t' + 1) c' sc' σ5 ((u_opn (by omega) hk3 (by omega)).trans (e4.trans (d_cls (by omega) hk5))) (by omega) trivial (fr_trans (fr_trans (f3E F3) F4) (f3E F5)) b4 W5 (cd_fr d4 F5 rfl) (by omega) (fun i hi => (ag_eq (F5 11 rfl) i).trans ((p4 i hi).trans (ag_eq (F3 11 rfl) i)))
          · skip
            refine wq_go rfl (fun _ => rfl) ?_
            refine wq_cN (m := 33) rfl rfl ?_
            refine wq_callV rfl rfl (by first | rfl | assumption) (by first | decide | omega | assumption) (Nat.le_of_ble_eq_true rfl) (Nat.le_of_ble_eq_true rfl) rfl rfl ?_
            refine c_accN W4 (by decide) hk5 (fun σ5 F5 W5 => ?_)
            refine wq_go rfl (fun _ => rfl) ?_
            refine wq_end rfl (fun _ => rfl) ?_
            have ht4 : t' ≤ 400 := W4.2.2.2.2.2.2.2.2.1
            exact K0 1 t' _ σ5 ((u_opn (by omega) hk3 (by omega)).trans (e4.trans (d_bad ht4 k4.1 k4.2 hk5))) (by decide) (fr_trans (fr_trans (f3E F3) F4) (f3E F5)) W5
        · skip
          refine wq_go rfl (fun _ => rfl) ?_
          refine wq_cN (m := 33) rfl rfl ?_
          refine wq_callV rfl rfl (by first | rfl | assumption) (by first | decide | omega | assumption) (Nat.le_of_ble_eq_true rfl) (Nat.le_of_ble_eq_true rfl) rfl rfl ?_
          refine c_acc_e W4 n4 ?_
          refine wq_go rfl (fun _ => rfl) ?_
          refine wq_end rfl (fun _ => rfl) ?_
          exact K0 f' t' _ σ4 ((u_opn (by omega) hk3 (by omega)).trans e4) n4 (fr_trans (f3E F3) F4) W4
    · skip
      refine wq_go rfl (fun _ => rfl) ?_
      refine wq_getf rfl (by first | rfl | assumption) (by first | decide | omega | assumption) h3 rfl ?_
      refine wq_cN (m := 24) rfl rfl ?_
      refine wq_cne rfl (by first | omega | decide | exact Nat.lt_of_le_of_lt Nat.and_le_right (by decide) | exact ⟨by omega, by omega⟩) (by first | omega | decide | exact Nat.lt_of_le_of_lt Nat.and_le_right (by decide) | exact ⟨by omega, by omega⟩) (fun c3 => ?_) (fun c => absurd (show _ from by omega) c)
      refine wq_go rfl (fun _ => rfl) ?_
      refine wq_getf rfl (by first | rfl | assumption) (by first | decide | omega | assumption) h3 rfl ?_
      refine wq_cN (m := 14) rfl rfl ?_
      refine wq_clt rfl (by first | omega | decide | exact Nat.lt_of_le_of_lt Nat.and_le_right (by decide) | exact ⟨by omega, by omega⟩) (by first | omega | decide | exact Nat.lt_of_le_of_lt Nat.and_le_right (by decide) | exact ⟨by omega, by omega⟩) (fun c => absurd c (by omega)) (fun c21 => ?_)
      refine wq_go rfl (fun _ => rfl) ?_
      refine wq_getf rfl (by first | rfl | assumption) (by first | decide | omega | assumption) h3 rfl ?_
      refine wq_cN (m := 22) rfl rfl ?_
      refine wq_cgt rfl (by first | omega | decide | exact Nat.lt_of_le_of_lt Nat.and_le_right (by decide) | exact ⟨by omega, by omega⟩) (by first | omega | decide | exact Nat.lt_of_le_of_lt Nat.and_le_right (by decide) | exact ⟨by omega, by omega⟩) (fun c25 => ?_) (fun c => absurd (show _ from by omega) c)
      refine wq_go rfl (fun _ => rfl) ?_
      refine wq_getf rfl (by first | rfl | assumption) (by first | decide | omega | assumption) h3 rfl ?_
      refine wq_cN (m := 32) rfl rfl ?_
      refine wq_cne rfl (by first | omega | decide | exact Nat.lt_of_le_of_lt Nat.and_le_right (by decide) | exact ⟨by omega, by omega⟩) (by first | omega | decide | exact Nat.lt_of_le_of_lt Nat.and_le_right (by decide) | exact ⟨by omega, by omega⟩) (fun c => absurd c (by omega)) (fun c43 => ?_)
      refine wq_go rfl (fun _ => rfl) ?_
      refine wq_cN (m := 6) rfl rfl ?_
      refine wq_clt rfl (by first | omega | decide | exact Nat.lt_of_le_of_lt Nat.and_le_right (by decide) | exact ⟨by omega, by omega⟩) (by first | omega | decide | exact Nat.lt_of_le_of_lt Nat.and_le_right (by decide) | exact ⟨by omega, by omega⟩) (fun c => absurd c (by omega)) (fun c46 => ?_)
      refine wq_go rfl (fun _ => rfl) ?_
      refine wq_cN (m := 2) rfl rfl ?_
      refine wq_callV rfl rfl (by first | rfl | assumption) (by first | decide | omega | assumption) (Nat.le_of_ble_eq_true rfl) (Nat.le_of_ble_eq_true rfl) rfl rfl ?_
      refine c_ref hW (by decide) (fun σ2 F2 W2 => ?_)
      refine wq_go rfl (fun _ => rfl) ?_
      refine wq_cN (m := 32) rfl rfl ?_
      refine wq_callV rfl rfl (by first | rfl | assumption) (by first | decide | omega | assumption) (Nat.le_of_ble_eq_true rfl) (Nat.le_of_ble_eq_true rfl) rfl rfl ?_
      refine c_acc_e W2 (by decide) ?_
      refine wq_zeq rfl (by first | omega | decide | exact Nat.lt_of_le_of_lt Nat.and_le_right (by decide) | exact ⟨by omega, by omega⟩) (fun c53 => ?_) (fun c => absurd (show _ from by omega) c)
      refine wq_end rfl (fun _ => rfl) ?_
      exact K0 2 t _ σ2 (u_deep ht hk3 (by omega)) (by decide) (f3E F2) W2
  skip
  refine wq_go rfl (fun _ => rfl) ?_
  refine wq_getf rfl (by first | rfl | assumption) (by first | decide | omega | assumption) h3 rfl ?_
  refine wq_cN (m := 24) rfl rfl ?_
  refine wq_cne rfl (by first | omega | decide | exact Nat.lt_of_le_of_lt Nat.and_le_right (by decide) | exact ⟨by omega, by omega⟩) (by first | omega | decide | exact Nat.lt_of_le_of_lt Nat.and_le_right (by decide) | exact ⟨by omega, by omega⟩) (fun c3 => ?_) (fun c => absurd (show _ from by omega) c)
  refine wq_go rfl (fun _ => rfl) ?_
  refine wq_getf rfl (by first | rfl | assumption) (by first | decide | omega | assumption) h3 rfl ?_
  refine wq_cN (m := 14) rfl rfl ?_
  refine wq_clt rfl (by first | omega | decide | exact Nat.lt_of_le_of_lt Nat.and_le_right (by decide) | exact ⟨by omega, by omega⟩) (by first | omega | decide | exact Nat.lt_of_le_of_lt Nat.and_le_right (by decide) | exact ⟨by omega, by omega⟩) (fun c21 => ?_) (fun c21 => ?_)
  · skip
    refine wq_go rfl (fun _ => rfl) ?_
    refine wq_getf rfl (by first | rfl | assumption) (by first | decide | omega | assumption) h3 rfl ?_
    refine wq_cN (m := 32) rfl rfl ?_
    refine wq_cne rfl (by first | omega | decide | exact Nat.lt_of_le_of_lt Nat.and_le_right (by decide) | exact ⟨by omega, by omega⟩) (by first | omega | decide | exact Nat.lt_of_le_of_lt Nat.and_le_right (by decide) | exact ⟨by omega, by omega⟩) (fun c43 => ?_) (fun c => absurd (show _ from by omega) c)
    refine wq_go rfl (fun _ => rfl) ?_
    refine wq_cN (m := 32) rfl rfl ?_
    refine wq_callV rfl rfl (by first | rfl | assumption) (by first | decide | omega | assumption) (Nat.le_of_ble_eq_true rfl) (Nat.le_of_ble_eq_true rfl) rfl rfl ?_
    refine c_accN hW (by omega) hk3 (fun σ3 F3 W3 => ?_)
    refine wq_zeq rfl (by first | omega | decide | exact Nat.lt_of_le_of_lt Nat.and_le_right (by decide) | exact ⟨by omega, by omega⟩) (fun c53 => ?_) (fun c => absurd (show _ from by omega) c)
    refine wq_end rfl (fun _ => rfl) ?_
    exact K0 1 t _ σ3 (u_bad ht hk hk2 hk3) (by decide) (f3E F3) W3
  · skip
    refine wq_go rfl (fun _ => rfl) ?_
    refine wq_getf rfl (by first | rfl | assumption) (by first | decide | omega | assumption) h3 rfl ?_
    refine wq_cN (m := 22) rfl rfl ?_
    refine wq_cgt rfl (by first | omega | decide | exact Nat.lt_of_le_of_lt Nat.and_le_right (by decide) | exact ⟨by omega, by omega⟩) (by first | omega | decide | exact Nat.lt_of_le_of_lt Nat.and_le_right (by decide) | exact ⟨by omega, by omega⟩) (fun c25 => ?_) (fun c => absurd (show _ from by omega) c)
    refine wq_go rfl (fun _ => rfl) ?_
    refine wq_getf rfl (by first | rfl | assumption) (by first | decide | omega | assumption) h3 rfl ?_
    refine wq_cN (m := 32) rfl rfl ?_
    refine wq_cne rfl (by first | omega | decide | exact Nat.lt_of_le_of_lt Nat.and_le_right (by decide) | exact ⟨by omega, by omega⟩) (by first | omega | decide | exact Nat.lt_of_le_of_lt Nat.and_le_right (by decide) | exact ⟨by omega, by omega⟩) (fun c43 => ?_) (fun c => absurd (show _ from by omega) c)
    refine wq_go rfl (fun _ => rfl) ?_
    refine wq_cN (m := 32) rfl rfl ?_
    refine wq_callV rfl rfl (by first | rfl | assumption) (by first | decide | omega | assumption) (Nat.le_of_ble_eq_true rfl) (Nat.le_of_ble_eq_true rfl) rfl rfl ?_
    refine c_accN hW (by omega) hk3 (fun σ3 F3 W3 => ?_)
    refine wq_zeq rfl (by first | omega | decide | exact Nat.lt_of_le_of_lt Nat.and_le_right (by decide) | exact ⟨by omega, by omega⟩) (fun c53 => ?_) (fun c => absurd (show _ from by omega) c)
    refine wq_end rfl (fun _ => rfl) ?_
    exact K0 1 t _ σ3 (u_bad ht hk hk2 hk3) (by decide) (f3E F3) W3
