/-! THE CLASS READS EXPRESSIONS -/
theorem or8 {v k : Nat} (hk : k < 8) : v * 2 ^ 3 ||| k = 8 * v + k := by
  have h := Nat.two_pow_add_eq_or_of_lt (i := 3) (b := k) hk v
  rw [Nat.mul_comm v]
  omega
theorem ag_in {σ : Nat → List Value} {p n i : Nat} {f : Nat → Int32} (e : σ p = arr n f) (h : i < n) : ag σ p i = f i := by
  unfold ag
  rw [e, arr_get f h]
theorem rdw_4 {X : Tx} {f t sc nc nh nv sc' : Nat} {w : Option (Nat × Nat)} {σ : Nat → List Value} {g y : Nat → Int32} (h : RdW X f t sc nc nh nv w σ) (hs : sc' ≤ 408) : RdW X f t sc' nc nh nv w (up (up σ 11 (arr 408 g)) 4 (drO sc' nc nh nv y)) := by
  obtain ⟨⟨fp, h3⟩, _, h5, h6, h7, h8, h9, h10, h11, h12, h13⟩ := h
  refine ⟨⟨fp, (up_ne _ _ (by decide)).trans ((up_ne _ _ (by decide)).trans h3)⟩, ⟨y, up_same _ _ _⟩, hs, h6, h7, h8, ?_, tkx_eq h10 (fun j a b => (up_ne _ _ (by omega)).trans (up_ne _ _ (by omega))), h11, h12, h13⟩
  exact shp_eq (shp_a (f := g) h9 (by decide : (11, 408) ∈ shpl)) (fun j a b => up_ne _ _ (by omega))
theorem codeAt_ext {g g' : Nat → Int32} : ∀ (c : KCode) (p : Nat), codeAt g p c → (∀ i, p ≤ i → i < p + c.length → g' i = g i) → codeAt g' p c
  | [], _, _, _ => trivial
  | (k, v) :: c, p, h, e => ⟨(e p (Nat.le_refl _) (by simp only [List.length_cons]; omega)).trans h.1, codeAt_ext c (p + 1) h.2 (fun i h1 h2 => e i (by omega) (by simp only [List.length_cons]; omega))⟩
theorem codeAt_snoc {g : Nat → Int32} {k v : Nat} : ∀ (c : KCode) (p : Nat), codeAt g p c → g (p + c.length) = nI (8 * v + k) → codeAt g p (c ++ [(k, v)])
  | [], p, _, e => ⟨e, trivial⟩
  | (k', v') :: c, p, h, e => ⟨h.1, codeAt_snoc c (p + 1) h.2 (by rw [show p + 1 + c.length = p + (c.length + 1) by omega]; exact e)⟩
theorem c_addAny {xs : List Int32} {d : Nat} {σ : Nat → List Value} {Q : Option Value → (Nat → List Value) → Prop} {X : Tx} {f t sc nc nh nv : Nat} {w : Option (Nat × Nat)} (hW : RdW X f t sc nc nh nv w σ) {k v : Int32}  (K : ∀ sc' σ', Fr xE σ σ' → RdW X f t sc' nc nh nv w σ' → Q none σ') : Wq xs (d + 0) ax_cd7 0 [(0, .ref 4), (1, .int k), (2, .int v)] [] σ Q := by
  have hW0 := hW
  obtain ⟨⟨fpl, h3⟩, ⟨yd, h4⟩, hsc, hnc, hnh, hnv, hsh, ⟨s, n15, fk, fp, fn, fm, h15, h17, h18, h19, h20, hs, ek, ep, en, em, el, e35⟩, ht, hr, hf⟩ := hW0
  have hk35 := e35 t
  have hts := el t ht hr
  refine wq_go rfl (fun _ => rfl) ?_
  refine wq_getf rfl (by first | rfl | assumption) (by first | decide | omega | assumption) h4 rfl ?_
  refine wq_zlt rfl (by first | omega | decide | exact Nat.lt_of_le_of_lt Nat.and_le_right (by decide) | exact ⟨by omega, by omega⟩) (fun c => absurd c (by omega)) (fun c2 => ?_)
  refine wq_go rfl (fun _ => rfl) ?_
  refine wq_getf rfl (by first | rfl | assumption) (by first | decide | omega | assumption) h4 rfl ?_
  refine wq_go rfl (fun _ => rfl) ?_
  refine wq_getf rfl (by first | rfl | assumption) (by first | decide | omega | assumption) h4 rfl ?_
  refine wq_alen rfl (by first | rfl | assumption) (by first | decide | omega | assumption) rfl (shp_g hsh (by decide) : IsA σ 11 408) (arr_len _ _) ?_
  refine wq_cge rfl (by first | omega | decide | exact Nat.lt_of_le_of_lt Nat.and_le_right (by decide) | exact ⟨by omega, by omega⟩) (by first | omega | decide | exact Nat.lt_of_le_of_lt Nat.and_le_right (by decide) | exact ⟨by omega, by omega⟩) (fun c8 => ?_) (fun c8 => ?_)
  · skip
    refine wq_end rfl (fun _ => rfl) ?_
    first | exact K sc _ (fr_refl _ _) hW | exact K (sc + 1) _ (fr_up (fr_up (fr_refl xE _) rfl) rfl) (rdw_4 hW (by omega))
  · skip
    refine wq_go rfl (fun _ => rfl) ?_
    refine wq_getf rfl (by first | rfl | assumption) (by first | decide | omega | assumption) h4 rfl ?_
    refine wq_go rfl (fun _ => rfl) ?_
    refine wq_getf rfl (by first | rfl | assumption) (by first | decide | omega | assumption) h4 rfl ?_
    refine wq_go rfl (fun _ => rfl) ?_
    refine wq_cN (m := 3) rfl rfl ?_
    refine wq_go rfl (fun _ => rfl) ?_
    refine wq_go rfl (fun _ => rfl) ?_
    refine wq_go rfl (fun _ => rfl) ?_
    refine wq_iast rfl (by first | rfl | assumption) (by first | decide | omega | assumption) (shp_g hsh (by decide) : IsA σ 11 408) rfl (by omega) (by first | decide | omega) ?_
    refine wq_go rfl (fun _ => rfl) ?_
    refine wq_go rfl (fun _ => rfl) ?_
    refine wq_getf rfl (by first | rfl | assumption) (by first | decide | omega | assumption) ((up_ne _ _ (by decide)).trans h4) rfl ?_
    refine wq_cN (m := 1) rfl rfl ?_
    refine wq_addN rfl ?_
    refine wq_putf rfl (by first | rfl | assumption) (by first | decide | omega | assumption) ((up_ne _ _ (by decide)).trans h4) rfl rfl rfl (by first | exact Nat.le_of_ble_eq_true rfl | (simp; done)) ?_
    refine wq_end rfl (fun _ => rfl) ?_
    first | exact K sc _ (fr_refl _ _) hW | exact K (sc + 1) _ (fr_up (fr_up (fr_refl xE _) rfl) rfl) (rdw_4 hW (by omega))
theorem c_add {xs : List Int32} {d : Nat} {σ : Nat → List Value} {Q : Option Value → (Nat → List Value) → Prop} {X : Tx} {f t sc nc nh nv : Nat} {w : Option (Nat × Nat)} (hW : RdW X f t sc nc nh nv w σ) {k v : Nat} (hk : k < 8) (hv : v < 10000) (hs : sc < 408)  (K : ∀ σ', Fr xE σ σ' → RdW X f t (sc + 1) nc nh nv w σ' → ag σ' 11 sc = nI (8 * v + k) → (∀ i, i < sc → ag σ' 11 i = ag σ 11 i) → Q none σ') : Wq xs (d + 0) ax_cd7 0 [(0, .ref 4), (1, .int (nI k)), (2, .int (nI v))] [] σ Q := by
  have hW0 := hW
  obtain ⟨⟨fpl, h3⟩, ⟨yd, h4⟩, hsc, hnc, hnh, hnv, hsh, ⟨s, n15, fk, fp, fn, fm, h15, h17, h18, h19, h20, hs, ek, ep, en, em, el, e35⟩, ht, hr, hf⟩ := hW0
  have hk35 := e35 t
  have hts := el t ht hr
  refine wq_go rfl (fun _ => rfl) ?_
  refine wq_getf rfl (by first | rfl | assumption) (by first | decide | omega | assumption) h4 rfl ?_
  refine wq_zlt rfl (by first | omega | decide | exact Nat.lt_of_le_of_lt Nat.and_le_right (by decide) | exact ⟨by omega, by omega⟩) (fun c => absurd c (by omega)) (fun c2 => ?_)
  refine wq_go rfl (fun _ => rfl) ?_
  refine wq_getf rfl (by first | rfl | assumption) (by first | decide | omega | assumption) h4 rfl ?_
  refine wq_go rfl (fun _ => rfl) ?_
  refine wq_getf rfl (by first | rfl | assumption) (by first | decide | omega | assumption) h4 rfl ?_
  refine wq_alen rfl (by first | rfl | assumption) (by first | decide | omega | assumption) rfl (shp_g hsh (by decide) : IsA σ 11 408) (arr_len _ _) ?_
  refine wq_cge rfl (by first | omega | decide | exact Nat.lt_of_le_of_lt Nat.and_le_right (by decide) | exact ⟨by omega, by omega⟩) (by first | omega | decide | exact Nat.lt_of_le_of_lt Nat.and_le_right (by decide) | exact ⟨by omega, by omega⟩) (fun c => absurd c (by omega)) (fun c8 => ?_)
  refine wq_go rfl (fun _ => rfl) ?_
  refine wq_getf rfl (by first | rfl | assumption) (by first | decide | omega | assumption) h4 rfl ?_
  refine wq_go rfl (fun _ => rfl) ?_
  refine wq_getf rfl (by first | rfl | assumption) (by first | decide | omega | assumption) h4 rfl ?_
  refine wq_go rfl (fun _ => rfl) ?_
  refine wq_cN (m := 3) rfl rfl ?_
  refine wq_shlN rfl (by first | decide | omega) (by omega) ?_
  refine wq_go rfl (fun _ => rfl) ?_
  refine wq_orN rfl ?_
  refine wq_iast rfl (by first | rfl | assumption) (by first | decide | omega | assumption) (shp_g hsh (by decide) : IsA σ 11 408) rfl (by omega) (by first | decide | omega) ?_
  refine wq_go rfl (fun _ => rfl) ?_
  refine wq_go rfl (fun _ => rfl) ?_
  refine wq_getf rfl (by first | rfl | assumption) (by first | decide | omega | assumption) ((up_ne _ _ (by decide)).trans h4) rfl ?_
  refine wq_cN (m := 1) rfl rfl ?_
  refine wq_addN rfl ?_
  refine wq_putf rfl (by first | rfl | assumption) (by first | decide | omega | assumption) ((up_ne _ _ (by decide)).trans h4) rfl rfl rfl (by first | exact Nat.le_of_ble_eq_true rfl | (simp; done)) ?_
  refine wq_end rfl (fun _ => rfl) ?_
  refine K _ (fr_up (fr_up (fr_refl xE _) rfl) rfl) (rdw_4 hW (by omega)) ?_ (fun i hi => ?_)
  · rw [ag_in ((up_ne _ _ (by decide)).trans (up_same _ _ _)) (by omega : sc < 408)]
    simp only [upd, if_true]
    rw [or8 hk]
  · rw [ag_in ((up_ne _ _ (by decide)).trans (up_same _ _ _)) (by omega : i < 408)]
    simp only [upd]
    rw [if_neg (by omega)]
theorem c_unit_e {xs : List Int32} {d : Nat} {σ : Nat → List Value} {Q : Option Value → (Nat → List Value) → Prop} {X : Tx} {f t sc nc nh nv : Nat} {w : Option (Nat × Nat)} (hW : RdW X f t sc nc nh nv w σ) (hf0 : ¬ f = 0) {dd : Nat} (hdd : dd < 10)  (K : ∀ sc' σ', Fr xE σ σ' → RdW X f t sc' nc nh nv w σ' → Q none σ') : Wq xs (d + 1) ax_cd72 0 [(0, .ref 3), (1, .int (nI dd))] [] σ Q := by
  have hW0 := hW
  obtain ⟨⟨fpl, h3⟩, ⟨yd, h4⟩, hsc, hnc, hnh, hnv, hsh, ⟨s, n15, fk, fp, fn, fm, h15, h17, h18, h19, h20, hs, ek, ep, en, em, el, e35⟩, ht, hr, hf⟩ := hW0
  have hk35 := e35 t
  have hts := el t ht hr
  refine wq_go rfl (fun _ => rfl) ?_
  refine wq_getf rfl (by first | rfl | assumption) (by first | decide | omega | assumption) h3 rfl ?_
  refine wq_cN (m := 24) rfl rfl ?_
  refine wq_cne rfl (by first | omega | decide | exact Nat.lt_of_le_of_lt Nat.and_le_right (by decide) | exact ⟨by omega, by omega⟩) (by first | omega | decide | exact Nat.lt_of_le_of_lt Nat.and_le_right (by decide) | exact ⟨by omega, by omega⟩) (fun c3 => ?_) (fun c3 => ?_)
  · skip
    refine wq_go rfl (fun _ => rfl) ?_
    refine wq_getf rfl (by first | rfl | assumption) (by first | decide | omega | assumption) h3 rfl ?_
    refine wq_cN (m := 14) rfl rfl ?_
    refine wq_clt rfl (by first | omega | decide | exact Nat.lt_of_le_of_lt Nat.and_le_right (by decide) | exact ⟨by omega, by omega⟩) (by first | omega | decide | exact Nat.lt_of_le_of_lt Nat.and_le_right (by decide) | exact ⟨by omega, by omega⟩) (fun c21 => ?_) (fun c21 => ?_)
    · skip
      refine wq_go rfl (fun _ => rfl) ?_
      refine wq_getf rfl (by first | rfl | assumption) (by first | decide | omega | assumption) h3 rfl ?_
      refine wq_cN (m := 32) rfl rfl ?_
      refine wq_cne rfl (by first | omega | decide | exact Nat.lt_of_le_of_lt Nat.and_le_right (by decide) | exact ⟨by omega, by omega⟩) (by first | omega | decide | exact Nat.lt_of_le_of_lt Nat.and_le_right (by decide) | exact ⟨by omega, by omega⟩) (fun c43 => ?_) (fun c43 => ?_)
      · skip
        refine wq_go rfl (fun _ => rfl) ?_
        refine wq_cN (m := 32) rfl rfl ?_
        refine wq_callV rfl rfl (by first | rfl | assumption) (by first | decide | omega | assumption) (Nat.le_of_ble_eq_true rfl) (Nat.le_of_ble_eq_true rfl) rfl rfl ?_
        refine c_acc_e hW hf0 ?_
        refine wq_zeq rfl (by first | omega | decide | exact Nat.lt_of_le_of_lt Nat.and_le_right (by decide) | exact ⟨by omega, by omega⟩) (fun c53 => ?_) (fun c => absurd (show _ from by omega) c)
        refine wq_end rfl (fun _ => rfl) ?_
        exact K sc _ (fr_refl _ _) hW
      · skip
        refine wq_go rfl (fun _ => rfl) ?_
        refine wq_cN (m := 6) rfl rfl ?_
        refine wq_clt rfl (by first | omega | decide | exact Nat.lt_of_le_of_lt Nat.and_le_right (by decide) | exact ⟨by omega, by omega⟩) (by first | omega | decide | exact Nat.lt_of_le_of_lt Nat.and_le_right (by decide) | exact ⟨by omega, by omega⟩) (fun c46 => ?_) (fun c46 => ?_)
        · skip
          refine wq_go rfl (fun _ => rfl) ?_
          refine wq_cN (m := 32) rfl rfl ?_
          refine wq_callV rfl rfl (by first | rfl | assumption) (by first | decide | omega | assumption) (Nat.le_of_ble_eq_true rfl) (Nat.le_of_ble_eq_true rfl) rfl rfl ?_
          refine c_acc_e hW hf0 ?_
          refine wq_zeq rfl (by first | omega | decide | exact Nat.lt_of_le_of_lt Nat.and_le_right (by decide) | exact ⟨by omega, by omega⟩) (fun c53 => ?_) (fun c => absurd (show _ from by omega) c)
          refine wq_end rfl (fun _ => rfl) ?_
          exact K sc _ (fr_refl _ _) hW
        · skip
          refine wq_go rfl (fun _ => rfl) ?_
          refine wq_cN (m := 2) rfl rfl ?_
          refine wq_callV rfl rfl (by first | rfl | assumption) (by first | decide | omega | assumption) (Nat.le_of_ble_eq_true rfl) (Nat.le_of_ble_eq_true rfl) rfl rfl ?_
          refine c_ref_e hW hf0 ?_
          refine wq_go rfl (fun _ => rfl) ?_
          refine wq_cN (m := 32) rfl rfl ?_
          refine wq_callV rfl rfl (by first | rfl | assumption) (by first | decide | omega | assumption) (Nat.le_of_ble_eq_true rfl) (Nat.le_of_ble_eq_true rfl) rfl rfl ?_
          refine c_acc_e hW hf0 ?_
          refine wq_zeq rfl (by first | omega | decide | exact Nat.lt_of_le_of_lt Nat.and_le_right (by decide) | exact ⟨by omega, by omega⟩) (fun c53 => ?_) (fun c => absurd (show _ from by omega) c)
          refine wq_end rfl (fun _ => rfl) ?_
          exact K sc _ (fr_refl _ _) hW
    · skip
      refine wq_go rfl (fun _ => rfl) ?_
      refine wq_getf rfl (by first | rfl | assumption) (by first | decide | omega | assumption) h3 rfl ?_
      refine wq_cN (m := 22) rfl rfl ?_
      refine wq_cgt rfl (by first | omega | decide | exact Nat.lt_of_le_of_lt Nat.and_le_right (by decide) | exact ⟨by omega, by omega⟩) (by first | omega | decide | exact Nat.lt_of_le_of_lt Nat.and_le_right (by decide) | exact ⟨by omega, by omega⟩) (fun c25 => ?_) (fun c25 => ?_)
      · skip
        refine wq_go rfl (fun _ => rfl) ?_
        refine wq_getf rfl (by first | rfl | assumption) (by first | decide | omega | assumption) h3 rfl ?_
        refine wq_cN (m := 32) rfl rfl ?_
        refine wq_cne rfl (by first | omega | decide | exact Nat.lt_of_le_of_lt Nat.and_le_right (by decide) | exact ⟨by omega, by omega⟩) (by first | omega | decide | exact Nat.lt_of_le_of_lt Nat.and_le_right (by decide) | exact ⟨by omega, by omega⟩) (fun c43 => ?_) (fun c43 => ?_)
        · skip
          refine wq_go rfl (fun _ => rfl) ?_
          refine wq_cN (m := 32) rfl rfl ?_
          refine wq_callV rfl rfl (by first | rfl | assumption) (by first | decide | omega | assumption) (Nat.le_of_ble_eq_true rfl) (Nat.le_of_ble_eq_true rfl) rfl rfl ?_
          refine c_acc_e hW hf0 ?_
          refine wq_zeq rfl (by first | omega | decide | exact Nat.lt_of_le_of_lt Nat.and_le_right (by decide) | exact ⟨by omega, by omega⟩) (fun c53 => ?_) (fun c => absurd (show _ from by omega) c)
          refine wq_end rfl (fun _ => rfl) ?_
          exact K sc _ (fr_refl _ _) hW
        · skip
          refine wq_go rfl (fun _ => rfl) ?_
          refine wq_cN (m := 6) rfl rfl ?_
          refine wq_clt rfl (by first | omega | decide | exact Nat.lt_of_le_of_lt Nat.and_le_right (by decide) | exact ⟨by omega, by omega⟩) (by first | omega | decide | exact Nat.lt_of_le_of_lt Nat.and_le_right (by decide) | exact ⟨by omega, by omega⟩) (fun c46 => ?_) (fun c46 => ?_)
          · skip
            refine wq_go rfl (fun _ => rfl) ?_
            refine wq_cN (m := 32) rfl rfl ?_
            refine wq_callV rfl rfl (by first | rfl | assumption) (by first | decide | omega | assumption) (Nat.le_of_ble_eq_true rfl) (Nat.le_of_ble_eq_true rfl) rfl rfl ?_
            refine c_acc_e hW hf0 ?_
            refine wq_zeq rfl (by first | omega | decide | exact Nat.lt_of_le_of_lt Nat.and_le_right (by decide) | exact ⟨by omega, by omega⟩) (fun c53 => ?_) (fun c => absurd (show _ from by omega) c)
            refine wq_end rfl (fun _ => rfl) ?_
            exact K sc _ (fr_refl _ _) hW
          · skip
            refine wq_go rfl (fun _ => rfl) ?_
            refine wq_cN (m := 2) rfl rfl ?_
            refine wq_callV rfl rfl (by first | rfl | assumption) (by first | decide | omega | assumption) (Nat.le_of_ble_eq_true rfl) (Nat.le_of_ble_eq_true rfl) rfl rfl ?_
            refine c_ref_e hW hf0 ?_
            refine wq_go rfl (fun _ => rfl) ?_
            refine wq_cN (m := 32) rfl rfl ?_
            refine wq_callV rfl rfl (by first | rfl | assumption) (by first | decide | omega | assumption) (Nat.le_of_ble_eq_true rfl) (Nat.le_of_ble_eq_true rfl) rfl rfl ?_
            refine c_acc_e hW hf0 ?_
            refine wq_zeq rfl (by first | omega | decide | exact Nat.lt_of_le_of_lt Nat.and_le_right (by decide) | exact ⟨by omega, by omega⟩) (fun c53 => ?_) (fun c => absurd (show _ from by omega) c)
            refine wq_end rfl (fun _ => rfl) ?_
            exact K sc _ (fr_refl _ _) hW
      · skip
        refine wq_go rfl (fun _ => rfl) ?_
        refine wq_getf rfl (by first | rfl | assumption) (by first | decide | omega | assumption) h3 rfl ?_
        refine wq_cN (m := 1) rfl rfl ?_
        refine wq_go rfl (fun _ => rfl) ?_
        refine wq_getf rfl (by first | rfl | assumption) (by first | decide | omega | assumption) h3 rfl ?_
        refine wq_cN (m := 14) rfl rfl ?_
        refine wq_subN rfl (by omega) ?_
        refine wq_callV rfl rfl (by first | rfl | assumption) (by first | decide | omega | assumption) (Nat.le_of_ble_eq_true rfl) (Nat.le_of_ble_eq_true rfl) rfl rfl ?_
        refine c_addAny hW (fun sc33 σ33 F33 W33 => ?_)
        refine wq_go rfl (fun _ => rfl) ?_
        refine wq_go rfl (fun _ => rfl) ?_
        refine wq_getf rfl (by first | rfl | assumption) (by first | decide | omega | assumption) (Classical.choose_spec W33.1) rfl ?_
        refine wq_callV rfl rfl (by first | rfl | assumption) (by first | decide | omega | assumption) (Nat.le_of_ble_eq_true rfl) (Nat.le_of_ble_eq_true rfl) rfl rfl ?_
        refine c_acc_e W33 hf0 ?_
        refine wq_go rfl (fun _ => rfl) ?_
        refine wq_go rfl (fun _ => rfl) ?_
        refine wq_end rfl (fun _ => rfl) ?_
        exact K _ _ F33 W33
  · skip
    refine wq_go rfl (fun _ => rfl) ?_
    refine wq_getf rfl (by first | rfl | assumption) (by first | decide | omega | assumption) h3 rfl ?_
    refine wq_cN (m := 0) rfl rfl ?_
    refine wq_go rfl (fun _ => rfl) ?_
    refine wq_getf rfl (by first | rfl | assumption) (by first | decide | omega | assumption) h3 rfl ?_
    refine wq_go rfl (fun _ => rfl) ?_
    refine wq_getf rfl (by first | rfl | assumption) (by first | decide | omega | assumption) h3 rfl ?_
    refine wq_callV rfl rfl (by first | rfl | assumption) (by first | decide | omega | assumption) (Nat.le_of_ble_eq_true rfl) (Nat.le_of_ble_eq_true rfl) rfl rfl ?_
    refine c_tk_numAny hW (fun x => ?_)
    refine wq_callV rfl rfl (by first | rfl | assumption) (by first | decide | omega | assumption) (Nat.le_of_ble_eq_true rfl) (Nat.le_of_ble_eq_true rfl) rfl rfl ?_
    refine c_addAny hW (fun sc12 σ12 F12 W12 => ?_)
    refine wq_go rfl (fun _ => rfl) ?_
    refine wq_cN (m := 24) rfl rfl ?_
    refine wq_callV rfl rfl (by first | rfl | assumption) (by first | decide | omega | assumption) (Nat.le_of_ble_eq_true rfl) (Nat.le_of_ble_eq_true rfl) rfl rfl ?_
    refine c_acc_e W12 hf0 ?_
    refine wq_go rfl (fun _ => rfl) ?_
    refine wq_go rfl (fun _ => rfl) ?_
    refine wq_end rfl (fun _ => rfl) ?_
    exact K _ _ F12 W12
theorem c_prod_e {xs : List Int32} {d : Nat} {σ : Nat → List Value} {Q : Option Value → (Nat → List Value) → Prop} {X : Tx} {f t sc nc nh nv : Nat} {w : Option (Nat × Nat)} (hW : RdW X f t sc nc nh nv w σ) (hf0 : ¬ f = 0) {dd : Nat} (hdd : dd < 10)  (K : ∀ sc' σ', Fr xE σ σ' → RdW X f t sc' nc nh nv w σ' → Q none σ') : Wq xs (d + 2) ax_cd71 0 [(0, .ref 3), (1, .int (nI dd))] [] σ Q := by
  have hW0 := hW
  obtain ⟨⟨fpl, h3⟩, ⟨yd, h4⟩, hsc, hnc, hnh, hnv, hsh, ⟨s, n15, fk, fp, fn, fm, h15, h17, h18, h19, h20, hs, ek, ep, en, em, el, e35⟩, ht, hr, hf⟩ := hW0
  have hk35 := e35 t
  have hts := el t ht hr
  refine wq_go rfl (fun _ => rfl) ?_
  refine wq_go rfl (fun _ => rfl) ?_
  refine wq_callV rfl rfl (by first | rfl | assumption) (by first | decide | omega | assumption) (Nat.le_of_ble_eq_true rfl) (Nat.le_of_ble_eq_true rfl) rfl rfl ?_
  refine c_unit_e hW hf0 hdd (fun sc2 σ2 F2 W2 => ?_)
  refine wq_cN (m := 0) rfl rfl ?_
  refine wq_go rfl (fun _ => rfl) ?_
  refine wq_go rfl (fun _ => rfl) ?_
  refine wq_cN (m := 400) rfl rfl ?_
  refine wq_cgt rfl (by first | omega | decide | exact Nat.lt_of_le_of_lt Nat.and_le_right (by decide) | exact ⟨by omega, by omega⟩) (by first | omega | decide | exact Nat.lt_of_le_of_lt Nat.and_le_right (by decide) | exact ⟨by omega, by omega⟩) (fun c => absurd c (by omega)) (fun c7 => ?_)
  refine wq_go rfl (fun _ => rfl) ?_
  refine wq_getf rfl (by first | rfl | assumption) (by first | decide | omega | assumption) (Classical.choose_spec W2.1) rfl ?_
  refine wq_zne rfl (by first | omega | decide | exact Nat.lt_of_le_of_lt Nat.and_le_right (by decide) | exact ⟨by omega, by omega⟩) (fun c10 => ?_) (fun c => absurd (show _ from by omega) c)
  refine wq_end rfl (fun _ => rfl) ?_
  exact K _ _ F2 W2
theorem c_sum_e {xs : List Int32} {d : Nat} {σ : Nat → List Value} {Q : Option Value → (Nat → List Value) → Prop} {X : Tx} {f t sc nc nh nv : Nat} {w : Option (Nat × Nat)} (hW : RdW X f t sc nc nh nv w σ) (hf0 : ¬ f = 0) {dd : Nat} (hdd : dd < 10)  (K : ∀ sc' σ', Fr xE σ σ' → RdW X f t sc' nc nh nv w σ' → Q none σ') : Wq xs (d + 3) ax_cd70 0 [(0, .ref 3), (1, .int (nI dd))] [] σ Q := by
  have hW0 := hW
  obtain ⟨⟨fpl, h3⟩, ⟨yd, h4⟩, hsc, hnc, hnh, hnv, hsh, ⟨s, n15, fk, fp, fn, fm, h15, h17, h18, h19, h20, hs, ek, ep, en, em, el, e35⟩, ht, hr, hf⟩ := hW0
  have hk35 := e35 t
  have hts := el t ht hr
  refine wq_go rfl (fun _ => rfl) ?_
  refine wq_go rfl (fun _ => rfl) ?_
  refine wq_callV rfl rfl (by first | rfl | assumption) (by first | decide | omega | assumption) (Nat.le_of_ble_eq_true rfl) (Nat.le_of_ble_eq_true rfl) rfl rfl ?_
  refine c_prod_e hW hf0 hdd (fun sc2 σ2 F2 W2 => ?_)
  refine wq_cN (m := 0) rfl rfl ?_
  refine wq_go rfl (fun _ => rfl) ?_
  refine wq_go rfl (fun _ => rfl) ?_
  refine wq_cN (m := 400) rfl rfl ?_
  refine wq_cgt rfl (by first | omega | decide | exact Nat.lt_of_le_of_lt Nat.and_le_right (by decide) | exact ⟨by omega, by omega⟩) (by first | omega | decide | exact Nat.lt_of_le_of_lt Nat.and_le_right (by decide) | exact ⟨by omega, by omega⟩) (fun c => absurd c (by omega)) (fun c7 => ?_)
  refine wq_go rfl (fun _ => rfl) ?_
  refine wq_getf rfl (by first | rfl | assumption) (by first | decide | omega | assumption) (Classical.choose_spec W2.1) rfl ?_
  refine wq_zne rfl (by first | omega | decide | exact Nat.lt_of_le_of_lt Nat.and_le_right (by decide) | exact ⟨by omega, by omega⟩) (fun c10 => ?_) (fun c => absurd (show _ from by omega) c)
  refine wq_end rfl (fun _ => rfl) ?_
  exact K _ _ F2 W2
