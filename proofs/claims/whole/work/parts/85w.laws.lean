/-! LAWS BY THE CLASS -/
def brsAt (g : Nat → Int32) : Nat → List (KCode × KCode × KCode) → Nat → Prop
  | p, [], p' => p' = p
  | p, (a, b, c) :: r, p' => codeAt g p (a ++ (b ++ ((6, p + a.length + b.length + c.length + 2) :: (c ++ [(7, 0)])))) ∧ brsAt g (p + a.length + b.length + c.length + 2) r p'
theorem brs_le {g : Nat → Int32} : ∀ (l : List (KCode × KCode × KCode)) (p p' : Nat), brsAt g p l p' → p ≤ p'
  | [], p, p', h => by
    have h : p' = p := h
    omega
  | (a, b, c) :: r, p, p', h => by
    have := brs_le r _ _ h.2
    omega
theorem brs_ext {g g' : Nat → Int32} : ∀ (l : List (KCode × KCode × KCode)) (p p' : Nat), brsAt g p l p' → (∀ i, p ≤ i → i < p' → g' i = g i) → brsAt g' p l p'
  | [], p, p', h, _ => h
  | (a, b, c) :: r, p, p', h, e => by
    have hle := brs_le r _ _ h.2
    refine ⟨codeAt_ext _ p h.1 (fun i h1 h2 => e i h1 ?_), brs_ext r _ _ h.2 (fun i h1 h2 => e i (by omega) h2)⟩
    simp only [List.length_append, List.length_cons, List.length_nil] at h2
    omega
theorem law_of {g : Nat → Int32} {z : KCode} : ∀ (l : List (KCode × KCode × KCode)) (p p' : Nat), brsAt g p l p' → codeAt g p' (z ++ [(7, 0)]) → p' + z.length + 1 ≤ 408 → lawAt g p l z
  | [], p, p', h, hc, hl => by
    have h : p' = p := h
    subst h
    exact ⟨hc, hl⟩
  | (a, b, c) :: r, p, p', h, hc, hl => by
    have q := law_of r _ _ h.2 hc hl
    rw [show p + a.length + b.length + c.length + 2 = p + a.length + b.length + c.length + 2 from rfl] at q
    exact ⟨h.1, q⟩
def xL : Nat → Bool := fun j => j == 3 || j == 4 || j == 11 || j == 12
theorem xE_L : ∀ j, xE j = true → xL j = true := by
  intro j h
  simp only [xE] at h
  simp only [xL, h, Bool.true_or]
theorem fEL {σ σ' : Nat → List Value} (F : Fr xE σ σ') : Fr xL σ σ' := fr_mono F xE_L
theorem rdw_12 {X : Tx} {f t sc nc nh nv : Nat} {y : Nat → Int32} {w : Option (Nat × Nat)} {σ : Nat → List Value} {g : Nat → Int32} (h : RdW X f t sc nc nh nv y w σ) : RdW X f t sc nc nh nv y w (up σ 12 (arr 4 g)) := by
  obtain ⟨⟨fp, h3⟩, h4, h5, h6, h7, h8, h9, h10, h11, h12, h13⟩ := h
  exact ⟨⟨fp, (up_ne _ _ (by decide)).trans h3⟩, (up_ne _ _ (by decide)).trans h4, h5, h6, h7, h8, shp_a (f := g) h9 (by decide : (12, 4) ∈ shpl), tkx_eq h10 (fun j a b => up_ne _ _ (by omega)), h11, h12, h13⟩
theorem c_sst {xs : List Int32} {d : Nat} {σ : Nat → List Value} {Q : Option Value → (Nat → List Value) → Prop} {X : Tx} {f t sc nc nh nv : Nat} {y : Nat → Int32} {w : Option (Nat × Nat)} (hW : RdW X f t sc nc nh nv y w σ) {j v : Nat} (hj : j < 4)  (K : ∀ σ', σ' = up σ 12 (arr 4 (upd (ag σ 12) j (nI v))) → RdW X f t sc nc nh nv y w σ' → Q none σ') : Wq xs (d + 0) ax_cd6 0 [(0, .ref 4), (1, .int (nI j)), (2, .int (nI v))] [] σ Q := by
  have hW0 := hW
  obtain ⟨⟨fpl, h3⟩, h4, hsc, hnc, hnh, hnv, hsh, ⟨s, n15, fk, fp, fn, fm, h15, h17, h18, h19, h20, hs, ek, ep, en, em, el, e35⟩, ht, hr, hf⟩ := hW0
  have hk35 := e35 t
  have hts := el t ht hr
  refine wq_go rfl (fun _ => rfl) ?_
  refine wq_zlt rfl (by first | omega | decide | exact Nat.lt_of_le_of_lt Nat.and_le_right (by decide) | exact ⟨by omega, by omega⟩) (fun c => absurd c (by omega)) (fun c1 => ?_)
  refine wq_go rfl (fun _ => rfl) ?_
  refine wq_go rfl (fun _ => rfl) ?_
  refine wq_getf rfl (by first | rfl | assumption) (by first | decide | omega | assumption) h4 rfl ?_
  refine wq_alen rfl (by first | rfl | assumption) (by first | decide | omega | assumption) rfl (shp_g hsh (by decide) : IsA σ 12 4) (arr_len _ _) ?_
  refine wq_cge rfl (by first | omega | decide | exact Nat.lt_of_le_of_lt Nat.and_le_right (by decide) | exact ⟨by omega, by omega⟩) (by first | omega | decide | exact Nat.lt_of_le_of_lt Nat.and_le_right (by decide) | exact ⟨by omega, by omega⟩) (fun c => absurd c (by omega)) (fun c6 => ?_)
  refine wq_go rfl (fun _ => rfl) ?_
  refine wq_getf rfl (by first | rfl | assumption) (by first | decide | omega | assumption) h4 rfl ?_
  refine wq_go rfl (fun _ => rfl) ?_
  refine wq_go rfl (fun _ => rfl) ?_
  refine wq_iast rfl (by first | rfl | assumption) (by first | decide | omega | assumption) (shp_g hsh (by decide) : IsA σ 12 4) rfl (by omega) (by first | decide | omega) ?_
  refine wq_end rfl (fun _ => rfl) ?_
  exact K _ rfl (rdw_12 hW)
theorem c_law_t {xs : List Int32} {d : Nat} {σ : Nat → List Value} {Q : Option Value → (Nat → List Value) → Prop} {X : Tx} {t sc nc nh nv : Nat} {y : Nat → Int32} {w : Option (Nat × Nat)} (hW : RdW X 0 t sc nc nh nv y w σ) {lw sb : Nat} (hv : ∀ i, Xv X i < 10000) (hlw : lw < 4) (hop : sc ≤ 8 + t) (hop2 : sc + 1 ≤ 8 + t) (K1 : ∀ t1 t3 z σ', exX X t = .inr (t1, z) → must X 25 t1 = .inr t3 → t3 = t1 + 1 → t < t1 → z.length ≤ t1 - t → Fr xL σ σ' → RdW X 0 t3 (sc + z.length + 1) nc nh nv y w σ' → codeAt (ag σ' 11) sc (z ++ [(7, 0)]) → (∀ i, i < sc → ag σ' 11 i = ag σ 11 i) → ag σ' 12 lw = nI sb → (∀ i, i < 4 → ¬ i = lw → ag σ' 12 i = ag σ 12 i) → Q none σ') (K0 : ∀ f' t' sc' σ', (exX X t = er f' t' ∨ ∃ t1 z, exX X t = .inr (t1, z) ∧ must X 25 t1 = er f' t') → ¬ f' = 0 → Fr xL σ σ' → RdW X f' t' sc' nc nh nv y w σ' → Q none σ') : Wq xs (d + 23) ax_cd67 49 [(2, .int (nI sb)), (1, .int (nI lw)), (0, .ref 3)] [] σ Q := by
  have hW0 := hW
  obtain ⟨⟨fpl, h3⟩, h4, hsc, hnc, hnh, hnv, hsh, ⟨s, n15, fk, fp, fn, fm, h15, h17, h18, h19, h20, hs, ek, ep, en, em, el, e35⟩, ht, hr, hf⟩ := hW0
  have hk35 := e35 t
  have hts := el t ht hr
  refine wq_go rfl (fun _ => rfl) ?_
  refine wq_cN (m := 0) rfl rfl ?_
  refine wq_callV rfl rfl (by first | rfl | assumption) (by first | decide | omega | assumption) (Nat.le_of_ble_eq_true rfl) (Nat.le_of_ble_eq_true rfl) rfl rfl ?_
  refine c_ex hW hv (by omega) (fun t1 c1 σ1 e1 l1 b1 F1 W1 d1 p1 => ?_) (fun f1 t1 s1 σ1 e1 n1 F1 W1 => ?_)
  · have y1 : t1 ≤ 400 := W1.2.2.2.2.2.2.2.2.1
    refine wq_go rfl (fun _ => rfl) ?_
    refine wq_getf rfl (by first | rfl | assumption) (by first | decide | omega | assumption) (Classical.choose_spec W1.1) rfl ?_
    refine wq_cN (m := 7) rfl rfl ?_
    refine wq_cN (m := 0) rfl rfl ?_
    refine wq_callV rfl rfl (by first | rfl | assumption) (by first | decide | omega | assumption) (Nat.le_of_ble_eq_true rfl) (Nat.le_of_ble_eq_true rfl) rfl rfl ?_
    refine c_add W1 (by decide) (by decide) (by omega) (fun σ2 F2 W2 a2 p2 => ?_)
    refine wq_go rfl (fun _ => rfl) ?_
    refine wq_cN (m := 25) rfl rfl ?_
    refine wq_callV rfl rfl (by first | rfl | assumption) (by first | decide | omega | assumption) (Nat.le_of_ble_eq_true rfl) (Nat.le_of_ble_eq_true rfl) rfl rfl ?_
    refine c_acc W2 (by decide) (fun t3 σ3 m3 q3 k3 F3 W3 => ?_) (fun f3 σ3 m3 n3 u3 F3 W3 => ?_)
    · have y3 : t3 ≤ 400 := W3.2.2.2.2.2.2.2.2.1
      refine wq_zeq rfl (by first | omega | decide | exact Nat.lt_of_le_of_lt Nat.and_le_right (by decide) | exact ⟨by omega, by omega⟩) (fun c => absurd c (by omega)) (fun c60 => ?_)
      refine wq_go rfl (fun _ => rfl) ?_
      refine wq_getf rfl (by first | rfl | assumption) (by first | decide | omega | assumption) (Classical.choose_spec W3.1) rfl ?_
      refine wq_go rfl (fun _ => rfl) ?_
      refine wq_go rfl (fun _ => rfl) ?_
      refine wq_callV rfl rfl (by first | rfl | assumption) (by first | decide | omega | assumption) (Nat.le_of_ble_eq_true rfl) (Nat.le_of_ble_eq_true rfl) rfl rfl ?_
      refine c_sst W3 (by omega) (fun σ9 E9 W9 => ?_)
      refine wq_end rfl (fun _ => rfl) ?_
      have F9 : Fr xL σ3 σ9 := by rw [E9]; exact fr_up (fr_refl _ _) rfl
      have u11 : ∀ i, ag σ9 11 i = ag σ3 11 i := fun i => ag_eq (by rw [E9]; exact up_ne _ _ (by decide)) i
      have u12 : ∀ i, i < 4 → ag σ9 12 i = upd (ag σ3 12) lw (nI sb) i := fun i hi => ag_in (by rw [E9]; exact up_same _ _ _) hi
      have o12 : ∀ i, ag σ3 12 i = ag σ 12 i := fun i => (ag_eq (F3 12 rfl) i).trans ((ag_eq (F2 12 rfl) i).trans (ag_eq (F1 12 rfl) i))
      refine K1 t1 t3 c1 σ9 e1 m3 q3 l1 b1 (fr_trans (fEL (fr_trans (fr_trans F1 F2) (f3E F3))) F9) W9 ?_ (fun i hi => (u11 i).trans ((ag_eq (F3 11 rfl) i).trans ((p2 i (by omega)).trans (p1 i hi)))) ?_ (fun i hi hne => ?_)
      · refine codeAt_ext _ sc (cd_snoc (k := 7) (v := 0) rfl d1 a2 p2) (fun i _ _ => (u11 i).trans (ag_eq (F3 11 rfl) i))
      · rw [u12 lw (by omega)]
        simp only [upd, if_true]
      · rw [u12 i hi]
        simp only [upd]
        rw [if_neg hne]
        exact o12 i
    · have f9 : f3 < 10 := W3.2.2.2.2.2.2.2.2.2.2
      refine wq_zeq rfl (by first | omega | decide | exact Nat.lt_of_le_of_lt Nat.and_le_right (by decide) | exact ⟨by omega, by omega⟩) (fun c60 => ?_) (fun c => absurd (show _ from by omega) c)
      refine wq_end rfl (fun _ => rfl) ?_
      exact K0 _ _ _ _ (Or.inr ⟨_, _, e1, m3⟩) n3 (fEL (fr_trans (fr_trans F1 F2) (f3E F3))) W3
  · have f9 : f1 < 10 := W1.2.2.2.2.2.2.2.2.2.2
    refine wq_go rfl (fun _ => rfl) ?_
    refine wq_getf rfl (by first | rfl | assumption) (by first | decide | omega | assumption) (Classical.choose_spec W1.1) rfl ?_
    refine wq_cN (m := 7) rfl rfl ?_
    refine wq_cN (m := 0) rfl rfl ?_
    refine wq_callV rfl rfl (by first | rfl | assumption) (by first | decide | omega | assumption) (Nat.le_of_ble_eq_true rfl) (Nat.le_of_ble_eq_true rfl) rfl rfl ?_
    refine c_addAny W1 (fun s2 σ2 F2 W2 => ?_)
    refine wq_go rfl (fun _ => rfl) ?_
    refine wq_cN (m := 25) rfl rfl ?_
    refine wq_callV rfl rfl (by first | rfl | assumption) (by first | decide | omega | assumption) (Nat.le_of_ble_eq_true rfl) (Nat.le_of_ble_eq_true rfl) rfl rfl ?_
    refine c_acc_e W2 n1 ?_
    refine wq_zeq rfl (by first | omega | decide | exact Nat.lt_of_le_of_lt Nat.and_le_right (by decide) | exact ⟨by omega, by omega⟩) (fun c60 => ?_) (fun c => absurd (show _ from by omega) c)
    refine wq_end rfl (fun _ => rfl) ?_
    exact K0 _ _ _ _ (Or.inl e1) n1 (fEL (fr_trans F1 F2)) W2
theorem c_law_te {xs : List Int32} {d : Nat} {σ : Nat → List Value} {Q : Option Value → (Nat → List Value) → Prop} {X : Tx} {f t sc nc nh nv : Nat} {y : Nat → Int32} {w : Option (Nat × Nat)} (hW : RdW X f t sc nc nh nv y w σ) (hf0 : ¬ f = 0) {x1 x2 : Int32} (K : ∀ sc' σ', Fr xE σ σ' → RdW X f t sc' nc nh nv y w σ' → Q none σ') : Wq xs (d + 23) ax_cd67 49 [(2, .int x2), (1, .int x1), (0, .ref 3)] [] σ Q := by
  have hW0 := hW
  obtain ⟨⟨fpl, h3⟩, h4, hsc, hnc, hnh, hnv, hsh, ⟨s, n15, fk, fp, fn, fm, h15, h17, h18, h19, h20, hs, ek, ep, en, em, el, e35⟩, ht, hr, hf⟩ := hW0
  have hk35 := e35 t
  have hts := el t ht hr
  refine wq_go rfl (fun _ => rfl) ?_
  refine wq_cN (m := 0) rfl rfl ?_
  refine wq_callV rfl rfl (by first | rfl | assumption) (by first | decide | omega | assumption) (Nat.le_of_ble_eq_true rfl) (Nat.le_of_ble_eq_true rfl) rfl rfl ?_
  refine c_sum_e (dd := 0) hW hf0 (by decide) (fun s1 σ1 F1 W1 => ?_)
  refine wq_go rfl (fun _ => rfl) ?_
  refine wq_getf rfl (by first | rfl | assumption) (by first | decide | omega | assumption) (Classical.choose_spec W1.1) rfl ?_
  refine wq_cN (m := 7) rfl rfl ?_
  refine wq_cN (m := 0) rfl rfl ?_
  refine wq_callV rfl rfl (by first | rfl | assumption) (by first | decide | omega | assumption) (Nat.le_of_ble_eq_true rfl) (Nat.le_of_ble_eq_true rfl) rfl rfl ?_
  refine c_addAny W1 (fun s2 σ2 F2 W2 => ?_)
  refine wq_go rfl (fun _ => rfl) ?_
  refine wq_cN (m := 25) rfl rfl ?_
  refine wq_callV rfl rfl (by first | rfl | assumption) (by first | decide | omega | assumption) (Nat.le_of_ble_eq_true rfl) (Nat.le_of_ble_eq_true rfl) rfl rfl ?_
  refine c_acc_e W2 hf0 ?_
  refine wq_zeq rfl (by first | omega | decide | exact Nat.lt_of_le_of_lt Nat.and_le_right (by decide) | exact ⟨by omega, by omega⟩) (fun c60 => ?_) (fun c => absurd (show _ from by omega) c)
  refine wq_end rfl (fun _ => rfl) ?_
  exact K _ _ (fr_trans F1 F2) W2
