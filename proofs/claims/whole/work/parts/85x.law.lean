/-! A LAW BY THE CLASS -/
def lawD (X : Tx) (t : Nat) : Rs (Nat × KLaw) := if 3 ≤ Xk X t ∧ Xk X t ≤ 6 then lawX X t else er 1 t
theorem must_s {X : Tx} {t : Nat} {r : Rs Nat} (h : must X (Xk X t) t = r) : adv t = r := by
  unfold must at h
  rw [if_pos rfl] at h
  exact h
theorem c_ifs {xs : List Int32} {d : Nat} {Q : Option Value → (Nat → List Value) → Prop} {X : Tx} {nc nh nv sb lw : Nat} {y : Nat → Int32} {w : Option (Nat × Nat)} (hv : ∀ i, Xv X i < 10000) : ∀ (n i : Nat) (σ : Nat → List Value) (t sc : Nat), i + n = 4 → RdW X 0 t sc nc nh nv y w σ → sc ≤ 8 + t → (∀ t' l sc' σ', ifsX X n t = .inr (t', l) → t ≤ t' → Fr xE σ σ' → RdW X 0 t' sc' nc nh nv y w σ' → brsAt (ag σ' 11) sc l sc' → sc' + t ≤ sc + t' → (∀ j, j < sc → ag σ' 11 j = ag σ 11 j) → Wq xs (d + 23) ax_cd67 49 [(2, .int (nI sb)), (1, .int (nI lw)), (0, .ref 3)] [] σ' Q) → (∀ f' t' sc' σ', ifsX X n t = er f' t' → ¬ f' = 0 → Fr xE σ σ' → RdW X f' t' sc' nc nh nv y w σ' → Wq xs (d + 23) ax_cd67 49 [(2, .int (nI sb)), (1, .int (nI lw)), (0, .ref 3)] [] σ' Q) → Wq xs (d + 23) ax_cd67 31 [(3, .int (nI i)), (2, .int (nI sb)), (1, .int (nI lw)), (0, .ref 3)] [] σ Q := by
  intro n
  induction n with
  | zero =>
    intro i σ t sc hi hW hop K1 K0
    have hW0 := hW
    obtain ⟨⟨fpl, h3⟩, h4, hsc, hnc, hnh, hnv, hsh, ⟨s, n15, fk, fp, fn, fm, h15, h17, h18, h19, h20, hs, ek, ep, en, em, el, e35⟩, ht, hr, hf⟩ := hW0
    have hk35 := e35 t
    have hts := el t ht hr
    by_cases hk : Xk X t = 11
    · skip
      refine wq_go rfl (fun _ => rfl) ?_
      refine wq_cN (m := 4) rfl rfl ?_
      refine wq_cgt rfl (by first | omega | decide | exact Nat.lt_of_le_of_lt Nat.and_le_right (by decide) | exact ⟨by omega, by omega⟩) (by first | omega | decide | exact Nat.lt_of_le_of_lt Nat.and_le_right (by decide) | exact ⟨by omega, by omega⟩) (fun c => absurd c (by omega)) (fun c33 => ?_)
      refine wq_go rfl (fun _ => rfl) ?_
      refine wq_getf rfl (by first | rfl | assumption) (by first | decide | omega | assumption) h3 rfl ?_
      refine wq_zne rfl (by first | omega | decide | exact Nat.lt_of_le_of_lt Nat.and_le_right (by decide) | exact ⟨by omega, by omega⟩) (fun c => absurd c (by omega)) (fun c36 => ?_)
      refine wq_go rfl (fun _ => rfl) ?_
      refine wq_getf rfl (by first | rfl | assumption) (by first | decide | omega | assumption) h3 rfl ?_
      refine wq_cN (m := 11) rfl rfl ?_
      refine wq_cne rfl (by first | omega | decide | exact Nat.lt_of_le_of_lt Nat.and_le_right (by decide) | exact ⟨by omega, by omega⟩) (by first | omega | decide | exact Nat.lt_of_le_of_lt Nat.and_le_right (by decide) | exact ⟨by omega, by omega⟩) (fun c => absurd c (by omega)) (fun c40 => ?_)
      refine wq_go rfl (fun _ => rfl) ?_
      refine wq_go rfl (fun _ => rfl) ?_
      refine wq_cN (m := 4) rfl rfl ?_
      refine wq_callV rfl rfl (by first | rfl | assumption) (by first | decide | omega | assumption) (Nat.le_of_ble_eq_true rfl) (Nat.le_of_ble_eq_true rfl) rfl rfl ?_
      refine c_more (a := i) (m := 4) hW (by omega) (by omega) (by decide) (fun σ2 F2 W2 => ?_)
      refine wq_go rfl (fun _ => rfl) ?_
      refine wq_callV rfl rfl (by first | rfl | assumption) (by first | decide | omega | assumption) (Nat.le_of_ble_eq_true rfl) (Nat.le_of_ble_eq_true rfl) rfl rfl ?_
      refine c_if_e W2 (by decide) (fun sc3 σ3 F3 W3 => ?_)
      refine wq_incN rfl rfl rfl ?_
      refine wq_go rfl (fun _ => rfl) ?_
      refine wq_go rfl (fun _ => rfl) ?_
      refine wq_cN (m := 4) rfl rfl ?_
      refine wq_cgt rfl (by first | omega | decide | exact Nat.lt_of_le_of_lt Nat.and_le_right (by decide) | exact ⟨by omega, by omega⟩) (by first | omega | decide | exact Nat.lt_of_le_of_lt Nat.and_le_right (by decide) | exact ⟨by omega, by omega⟩) (fun c33 => ?_) (fun c33 => ?_)
      · skip
        exact wq_lv ⟨(by decide : ([3, 2, 1, 0] : List Nat).Nodup), (lvm (List.mem_of_getElem? (i := 1) rfl) (lvm (List.mem_of_getElem? (i := 2) rfl) (lvm (List.mem_of_getElem? (i := 3) rfl) lvn)))⟩ (K0 _ _ _ _ (if_pos hk) (by decide) (fr_trans (f3E F2) F3) W3)
      · skip
        refine wq_go rfl (fun _ => rfl) ?_
        refine wq_getf rfl (by first | rfl | assumption) (by first | decide | omega | assumption) (Classical.choose_spec W3.1) rfl ?_
        refine wq_zne rfl (by first | omega | decide | exact Nat.lt_of_le_of_lt Nat.and_le_right (by decide) | exact ⟨by omega, by omega⟩) (fun c36 => ?_) (fun c => absurd (show _ from by omega) c)
        exact wq_lv ⟨(by decide : ([3, 2, 1, 0] : List Nat).Nodup), (lvm (List.mem_of_getElem? (i := 1) rfl) (lvm (List.mem_of_getElem? (i := 2) rfl) (lvm (List.mem_of_getElem? (i := 3) rfl) lvn)))⟩ (K0 _ _ _ _ (if_pos hk) (by decide) (fr_trans (f3E F2) F3) W3)
    · skip
      refine wq_go rfl (fun _ => rfl) ?_
      refine wq_cN (m := 4) rfl rfl ?_
      refine wq_cgt rfl (by first | omega | decide | exact Nat.lt_of_le_of_lt Nat.and_le_right (by decide) | exact ⟨by omega, by omega⟩) (by first | omega | decide | exact Nat.lt_of_le_of_lt Nat.and_le_right (by decide) | exact ⟨by omega, by omega⟩) (fun c => absurd c (by omega)) (fun c33 => ?_)
      refine wq_go rfl (fun _ => rfl) ?_
      refine wq_getf rfl (by first | rfl | assumption) (by first | decide | omega | assumption) h3 rfl ?_
      refine wq_zne rfl (by first | omega | decide | exact Nat.lt_of_le_of_lt Nat.and_le_right (by decide) | exact ⟨by omega, by omega⟩) (fun c => absurd c (by omega)) (fun c36 => ?_)
      refine wq_go rfl (fun _ => rfl) ?_
      refine wq_getf rfl (by first | rfl | assumption) (by first | decide | omega | assumption) h3 rfl ?_
      refine wq_cN (m := 11) rfl rfl ?_
      refine wq_cne rfl (by first | omega | decide | exact Nat.lt_of_le_of_lt Nat.and_le_right (by decide) | exact ⟨by omega, by omega⟩) (by first | omega | decide | exact Nat.lt_of_le_of_lt Nat.and_le_right (by decide) | exact ⟨by omega, by omega⟩) (fun c40 => ?_) (fun c => absurd (show _ from by omega) c)
      exact wq_lv ⟨(by decide : ([3, 2, 1, 0] : List Nat).Nodup), (lvm (List.mem_of_getElem? (i := 1) rfl) (lvm (List.mem_of_getElem? (i := 2) rfl) (lvm (List.mem_of_getElem? (i := 3) rfl) lvn)))⟩ (K1 t [] sc σ (if_neg hk) (Nat.le_refl _) (fr_refl _ _) hW rfl (by omega) (fun _ _ => rfl))
  | succ n ih =>
    intro i σ t sc hi hW hop K1 K0
    have hW0 := hW
    obtain ⟨⟨fpl, h3⟩, h4, hsc, hnc, hnh, hnv, hsh, ⟨s, n15, fk, fp, fn, fm, h15, h17, h18, h19, h20, hs, ek, ep, en, em, el, e35⟩, ht, hr, hf⟩ := hW0
    have hk35 := e35 t
    have hts := el t ht hr
    by_cases hk : Xk X t = 11
    · skip
      refine wq_go rfl (fun _ => rfl) ?_
      refine wq_cN (m := 4) rfl rfl ?_
      refine wq_cgt rfl (by first | omega | decide | exact Nat.lt_of_le_of_lt Nat.and_le_right (by decide) | exact ⟨by omega, by omega⟩) (by first | omega | decide | exact Nat.lt_of_le_of_lt Nat.and_le_right (by decide) | exact ⟨by omega, by omega⟩) (fun c => absurd c (by omega)) (fun c33 => ?_)
      refine wq_go rfl (fun _ => rfl) ?_
      refine wq_getf rfl (by first | rfl | assumption) (by first | decide | omega | assumption) h3 rfl ?_
      refine wq_zne rfl (by first | omega | decide | exact Nat.lt_of_le_of_lt Nat.and_le_right (by decide) | exact ⟨by omega, by omega⟩) (fun c => absurd c (by omega)) (fun c36 => ?_)
      refine wq_go rfl (fun _ => rfl) ?_
      refine wq_getf rfl (by first | rfl | assumption) (by first | decide | omega | assumption) h3 rfl ?_
      refine wq_cN (m := 11) rfl rfl ?_
      refine wq_cne rfl (by first | omega | decide | exact Nat.lt_of_le_of_lt Nat.and_le_right (by decide) | exact ⟨by omega, by omega⟩) (by first | omega | decide | exact Nat.lt_of_le_of_lt Nat.and_le_right (by decide) | exact ⟨by omega, by omega⟩) (fun c => absurd c (by omega)) (fun c40 => ?_)
      refine wq_go rfl (fun _ => rfl) ?_
      refine wq_go rfl (fun _ => rfl) ?_
      refine wq_cN (m := 4) rfl rfl ?_
      refine wq_callV rfl rfl (by first | rfl | assumption) (by first | decide | omega | assumption) (Nat.le_of_ble_eq_true rfl) (Nat.le_of_ble_eq_true rfl) rfl rfl ?_
      refine c_more_e (a := i) (m := 4) hW (Or.inr (by omega)) (by omega) (by decide) ?_
      refine wq_go rfl (fun _ => rfl) ?_
      refine wq_callV rfl rfl (by first | rfl | assumption) (by first | decide | omega | assumption) (Nat.le_of_ble_eq_true rfl) (Nat.le_of_ble_eq_true rfl) rfl rfl ?_
      refine c_if hW hv hop (fun t2 a b c σ2 e2 l2 s2 F2 W2 d2 p2 => ?_) (fun f2 t2 sc2 σ2 e2 n2 F2 W2 => ?_)
      · skip
        refine wq_incN rfl rfl rfl ?_
        refine wq_go rfl (fun _ => rfl) ?_
        exact wq_lv ⟨(by decide : ([3, 2, 1, 0] : List Nat).Nodup), (lvm (List.mem_of_getElem? (i := 0) rfl) (lvm (List.mem_of_getElem? (i := 1) rfl) (lvm (List.mem_of_getElem? (i := 2) rfl) (lvm (List.mem_of_getElem? (i := 3) rfl) lvn))))⟩ (ih (i + 1) σ2 t2 _ (by omega) W2 (by omega) (fun t' l sc' σ' E hle F W B S p => K1 t' ((a, b, c) :: l) sc' σ' (by rw [ifsX, if_pos hk, e2, bnd_o]; show bnd (ifsX X n t2) _ = _; rw [E, bnd_o]) (by omega) (fr_trans F2 F) W ⟨codeAt_ext _ sc d2 (fun j h1 h2 => p j (by simp only [List.length_append, List.length_cons, List.length_nil] at h2; omega)), B⟩ (by omega) (fun j hj => (p j (by omega)).trans (p2 j hj))) (fun f' t' sc' σ' E q F W => K0 f' t' sc' σ' (by rw [ifsX, if_pos hk, e2, bnd_o]; show bnd (ifsX X n t2) _ = _; rw [E, bnd_e]) q (fr_trans F2 F) W))
      · have f9 : f2 < 10 := W2.2.2.2.2.2.2.2.2.2.2
        refine wq_incN rfl rfl rfl ?_
        refine wq_go rfl (fun _ => rfl) ?_
        refine wq_go rfl (fun _ => rfl) ?_
        refine wq_cN (m := 4) rfl rfl ?_
        refine wq_cgt rfl (by first | omega | decide | exact Nat.lt_of_le_of_lt Nat.and_le_right (by decide) | exact ⟨by omega, by omega⟩) (by first | omega | decide | exact Nat.lt_of_le_of_lt Nat.and_le_right (by decide) | exact ⟨by omega, by omega⟩) (fun c33 => ?_) (fun c33 => ?_)
        · skip
          exact wq_lv ⟨(by decide : ([3, 2, 1, 0] : List Nat).Nodup), (lvm (List.mem_of_getElem? (i := 1) rfl) (lvm (List.mem_of_getElem? (i := 2) rfl) (lvm (List.mem_of_getElem? (i := 3) rfl) lvn)))⟩ (K0 _ _ _ _ (by rw [ifsX, if_pos hk, e2, bnd_e]) n2 F2 W2)
        · skip
          refine wq_go rfl (fun _ => rfl) ?_
          refine wq_getf rfl (by first | rfl | assumption) (by first | decide | omega | assumption) (Classical.choose_spec W2.1) rfl ?_
          refine wq_zne rfl (by first | omega | decide | exact Nat.lt_of_le_of_lt Nat.and_le_right (by decide) | exact ⟨by omega, by omega⟩) (fun c36 => ?_) (fun c => absurd (show _ from by omega) c)
          exact wq_lv ⟨(by decide : ([3, 2, 1, 0] : List Nat).Nodup), (lvm (List.mem_of_getElem? (i := 1) rfl) (lvm (List.mem_of_getElem? (i := 2) rfl) (lvm (List.mem_of_getElem? (i := 3) rfl) lvn)))⟩ (K0 _ _ _ _ (by rw [ifsX, if_pos hk, e2, bnd_e]) n2 F2 W2)
    · skip
      refine wq_go rfl (fun _ => rfl) ?_
      refine wq_cN (m := 4) rfl rfl ?_
      refine wq_cgt rfl (by first | omega | decide | exact Nat.lt_of_le_of_lt Nat.and_le_right (by decide) | exact ⟨by omega, by omega⟩) (by first | omega | decide | exact Nat.lt_of_le_of_lt Nat.and_le_right (by decide) | exact ⟨by omega, by omega⟩) (fun c => absurd c (by omega)) (fun c33 => ?_)
      refine wq_go rfl (fun _ => rfl) ?_
      refine wq_getf rfl (by first | rfl | assumption) (by first | decide | omega | assumption) h3 rfl ?_
      refine wq_zne rfl (by first | omega | decide | exact Nat.lt_of_le_of_lt Nat.and_le_right (by decide) | exact ⟨by omega, by omega⟩) (fun c => absurd c (by omega)) (fun c36 => ?_)
      refine wq_go rfl (fun _ => rfl) ?_
      refine wq_getf rfl (by first | rfl | assumption) (by first | decide | omega | assumption) h3 rfl ?_
      refine wq_cN (m := 11) rfl rfl ?_
      refine wq_cne rfl (by first | omega | decide | exact Nat.lt_of_le_of_lt Nat.and_le_right (by decide) | exact ⟨by omega, by omega⟩) (by first | omega | decide | exact Nat.lt_of_le_of_lt Nat.and_le_right (by decide) | exact ⟨by omega, by omega⟩) (fun c40 => ?_) (fun c => absurd (show _ from by omega) c)
      exact wq_lv ⟨(by decide : ([3, 2, 1, 0] : List Nat).Nodup), (lvm (List.mem_of_getElem? (i := 1) rfl) (lvm (List.mem_of_getElem? (i := 2) rfl) (lvm (List.mem_of_getElem? (i := 3) rfl) lvn)))⟩ (K1 t [] sc σ (if_neg hk) (Nat.le_refl _) (fr_refl _ _) hW rfl (by omega) (fun _ _ => rfl))
theorem c_law {xs : List Int32} {d : Nat} {σ : Nat → List Value} {Q : Option Value → (Nat → List Value) → Prop} {X : Tx} {t sc nc nh nv : Nat} {y : Nat → Int32} {w : Option (Nat × Nat)} (hW : RdW X 0 t sc nc nh nv y w σ) (hv : ∀ i, Xv X i < 10000) (h3 : 3 ≤ Xk X t) (hop : sc ≤ 8 + t) (K1 : ∀ t' l sc' σ', lawD X t = .inr (t', l) → t < t' → Fr xL σ σ' → RdW X 0 t' sc' nc nh nv y w σ' → sc' ≤ 8 + t' → (∀ g' : Nat → Int32, (∀ j, j < sc' → g' j = ag σ' 11 j) → lawAt g' sc l.1 l.2) → ag σ' 12 (Xk X t - 3) = nI sc → sc ≤ sc' → (∀ j, j < 4 → ¬ j = Xk X t - 3 → ag σ' 12 j = ag σ 12 j) → (∀ j, j < sc → ag σ' 11 j = ag σ 11 j) → Q none σ') (K0 : ∀ f' t' sc' σ', lawD X t = er f' t' → ¬ f' = 0 → Fr xL σ σ' → RdW X f' t' sc' nc nh nv y w σ' → Q none σ') : Wq xs (d + 23) ax_cd67 0 [(0, .ref 3)] [] σ Q := by
  have hW0 := hW
  obtain ⟨⟨fpl, h3⟩, h4, hsc, hnc, hnh, hnv, hsh, ⟨s, n15, fk, fp, fn, fm, h15, h17, h18, h19, h20, hs, ek, ep, en, em, el, e35⟩, ht, hr, hf⟩ := hW0
  have hk35 := e35 t
  have hts := el t ht hr
  by_cases hk : 3 ≤ Xk X t ∧ Xk X t ≤ 6
  · skip
    refine wq_go rfl (fun _ => rfl) ?_
    refine wq_getf rfl (by first | rfl | assumption) (by first | decide | omega | assumption) h3 rfl ?_
    refine wq_cN (m := 3) rfl rfl ?_
    refine wq_subN rfl (by omega) ?_
    refine wq_go rfl (fun _ => rfl) ?_
    refine wq_go rfl (fun _ => rfl) ?_
    refine wq_getf rfl (by first | rfl | assumption) (by first | decide | omega | assumption) h3 rfl ?_
    refine wq_callV rfl rfl (by first | rfl | assumption) (by first | decide | omega | assumption) (Nat.le_of_ble_eq_true rfl) (Nat.le_of_ble_eq_true rfl) rfl rfl ?_
    have hs7 := hW.2.2.1
    refine c_stc hW ?_
    refine wq_go rfl (fun _ => rfl) ?_
    refine wq_go rfl (fun _ => rfl) ?_
    refine wq_getf rfl (by first | rfl | assumption) (by first | decide | omega | assumption) h3 rfl ?_
    refine wq_cN (m := 3) rfl rfl ?_
    refine wq_clt rfl (by first | omega | decide | exact Nat.lt_of_le_of_lt Nat.and_le_right (by decide) | exact ⟨by omega, by omega⟩) (by first | omega | decide | exact Nat.lt_of_le_of_lt Nat.and_le_right (by decide) | exact ⟨by omega, by omega⟩) (fun c => absurd c (by omega)) (fun c12 => ?_)
    refine wq_go rfl (fun _ => rfl) ?_
    refine wq_getf rfl (by first | rfl | assumption) (by first | decide | omega | assumption) h3 rfl ?_
    refine wq_cN (m := 6) rfl rfl ?_
    refine wq_cle rfl (by first | omega | decide | exact Nat.lt_of_le_of_lt Nat.and_le_right (by decide) | exact ⟨by omega, by omega⟩) (by first | omega | decide | exact Nat.lt_of_le_of_lt Nat.and_le_right (by decide) | exact ⟨by omega, by omega⟩) (fun c16 => ?_) (fun c => absurd (show _ from by omega) c)
    refine wq_go rfl (fun _ => rfl) ?_
    refine wq_go rfl (fun _ => rfl) ?_
    refine wq_getf rfl (by first | rfl | assumption) (by first | decide | omega | assumption) h3 rfl ?_
    refine wq_callV rfl rfl (by first | rfl | assumption) (by first | decide | omega | assumption) (Nat.le_of_ble_eq_true rfl) (Nat.le_of_ble_eq_true rfl) rfl rfl ?_
    refine c_acc hW (by omega) (fun t1 σ1 m1 q1 k1 F1 W1 => ?_) (fun f1 σ1 m1 n1 u1 F1 W1 => ?_)
    · have m1 := must_s m1
      refine wq_go rfl (fun _ => rfl) ?_
      refine wq_go rfl (fun _ => rfl) ?_
      refine wq_cN (m := 26) rfl rfl ?_
      refine wq_callV rfl rfl (by first | rfl | assumption) (by first | decide | omega | assumption) (Nat.le_of_ble_eq_true rfl) (Nat.le_of_ble_eq_true rfl) rfl rfl ?_
      refine c_acc W1 (by omega) (fun t2 σ2 m2 q2 k2 F2 W2 => ?_) (fun f2 σ2 m2 n2 u2 F2 W2 => ?_)
      · skip
        refine wq_go rfl (fun _ => rfl) ?_
        refine wq_cN (m := 0) rfl rfl ?_
        refine wq_go rfl (fun _ => rfl) ?_
        have o2 : Fr xE σ σ2 := fr_trans (f3E F1) (f3E F2)
        have g2 : ∀ j, ag σ2 11 j = ag σ 11 j := fun j => (ag_eq (F2 11 rfl) j).trans (ag_eq (F1 11 rfl) j)
        refine wq_lv ⟨(by decide : ([3, 2, 1, 0] : List Nat).Nodup), (lvm (List.mem_of_getElem? (i := 0) rfl) (lvm (List.mem_of_getElem? (i := 1) rfl) (lvm (List.mem_of_getElem? (i := 2) rfl) (lvm (List.mem_of_getElem? (i := 3) rfl) lvn))))⟩ (c_ifs (sb := sc) (lw := Xk X t - 3) hv 4 0 σ2 t2 sc rfl W2 (by omega) (fun t' l sc' σ' E hle F W B S p => ?_) (fun f' t' sc' σ' E n F W => ?_))
        · have hss := brs_le l _ _ B
          refine c_law_t W hv (by omega) (by omega) (by omega) (fun t5 t6 z σ5 e5 m6 q6 l5 b5 F5 W5 d5 p5 r5 s5 => ?_) (fun f' t5 sc5 σ5 hh n5 F5 W5 => ?_)
          · exact K1 t6 (l, z) _ σ5 (by unfold lawD; rw [if_pos hk]; simp only [lawX, m1, m2, bnd_o, bnd_e, E, e5, m6]) (by omega) (fr_trans (fEL (fr_trans o2 F)) F5) W5 (by omega) (fun g' hg => law_of l sc sc' (brs_ext l sc sc' B (fun j _ h2 => (hg j (by omega)).trans (p5 j h2))) (codeAt_ext _ sc' d5 (fun j _ h2 => hg j (by simp only [List.length_append, List.length_cons, List.length_nil] at h2; omega))) W5.2.2.1) r5 (by omega) (fun j hj hne => (s5 j hj hne).trans ((ag_eq (F 12 rfl) j).trans (ag_eq (o2 12 rfl) j))) (fun j hj => (p5 j (by omega)).trans ((p j hj).trans (g2 j)))
          · refine K0 f' t5 sc5 σ5 ?_ n5 (fr_trans (fEL (fr_trans o2 F)) F5) W5
            rcases hh with e5 | ⟨t1', z, e5, m6⟩
            · exact (by unfold lawD; rw [if_pos hk]; simp only [lawX, m1, m2, bnd_o, bnd_e, E, e5])
            · exact (by unfold lawD; rw [if_pos hk]; simp only [lawX, m1, m2, bnd_o, bnd_e, E, e5, m6])
        · exact c_law_te W n (fun sc5 σ5 F5 W5 => K0 f' t' sc5 σ5 (by unfold lawD; rw [if_pos hk]; simp only [lawX, m1, m2, bnd_o, bnd_e, E]) n (fEL (fr_trans (fr_trans o2 F) F5)) W5)
      · skip
        have f9 : f2 < 10 := W2.2.2.2.2.2.2.2.2.2.2
        refine wq_go rfl (fun _ => rfl) ?_
        refine wq_cN (m := 0) rfl rfl ?_
        refine wq_go rfl (fun _ => rfl) ?_
        refine wq_go rfl (fun _ => rfl) ?_
        refine wq_cN (m := 4) rfl rfl ?_
        refine wq_cgt rfl (by first | omega | decide | exact Nat.lt_of_le_of_lt Nat.and_le_right (by decide) | exact ⟨by omega, by omega⟩) (by first | omega | decide | exact Nat.lt_of_le_of_lt Nat.and_le_right (by decide) | exact ⟨by omega, by omega⟩) (fun c => absurd c (by omega)) (fun c33 => ?_)
        refine wq_go rfl (fun _ => rfl) ?_
        refine wq_getf rfl (by first | rfl | assumption) (by first | decide | omega | assumption) (Classical.choose_spec W2.1) rfl ?_
        refine wq_zne rfl (by first | omega | decide | exact Nat.lt_of_le_of_lt Nat.and_le_right (by decide) | exact ⟨by omega, by omega⟩) (fun c36 => ?_) (fun c => absurd (show _ from by omega) c)
        exact wq_lv ⟨(by decide : ([3, 2, 1, 0] : List Nat).Nodup), (lvm (List.mem_of_getElem? (i := 1) rfl) (lvm (List.mem_of_getElem? (i := 2) rfl) (lvm (List.mem_of_getElem? (i := 3) rfl) lvn)))⟩ (c_law_te W2 n2 (fun sc5 σ5 F5 W5 => K0 _ _ sc5 σ5 (by unfold lawD; rw [if_pos hk]; simp only [lawX, m1, bnd_o, bnd_e, m2]) n2 (fEL (fr_trans (fr_trans (f3E F1) (f3E F2)) F5)) W5))
    · have m1 := must_s m1
      have f9 : f1 < 10 := W1.2.2.2.2.2.2.2.2.2.2
      refine wq_go rfl (fun _ => rfl) ?_
      refine wq_go rfl (fun _ => rfl) ?_
      refine wq_cN (m := 26) rfl rfl ?_
      refine wq_callV rfl rfl (by first | rfl | assumption) (by first | decide | omega | assumption) (Nat.le_of_ble_eq_true rfl) (Nat.le_of_ble_eq_true rfl) rfl rfl ?_
      refine c_acc_e W1 n1 ?_
      refine wq_go rfl (fun _ => rfl) ?_
      refine wq_cN (m := 0) rfl rfl ?_
      refine wq_go rfl (fun _ => rfl) ?_
      refine wq_go rfl (fun _ => rfl) ?_
      refine wq_cN (m := 4) rfl rfl ?_
      refine wq_cgt rfl (by first | omega | decide | exact Nat.lt_of_le_of_lt Nat.and_le_right (by decide) | exact ⟨by omega, by omega⟩) (by first | omega | decide | exact Nat.lt_of_le_of_lt Nat.and_le_right (by decide) | exact ⟨by omega, by omega⟩) (fun c => absurd c (by omega)) (fun c33 => ?_)
      refine wq_go rfl (fun _ => rfl) ?_
      refine wq_getf rfl (by first | rfl | assumption) (by first | decide | omega | assumption) (Classical.choose_spec W1.1) rfl ?_
      refine wq_zne rfl (by first | omega | decide | exact Nat.lt_of_le_of_lt Nat.and_le_right (by decide) | exact ⟨by omega, by omega⟩) (fun c36 => ?_) (fun c => absurd (show _ from by omega) c)
      exact wq_lv ⟨(by decide : ([3, 2, 1, 0] : List Nat).Nodup), (lvm (List.mem_of_getElem? (i := 1) rfl) (lvm (List.mem_of_getElem? (i := 2) rfl) (lvm (List.mem_of_getElem? (i := 3) rfl) lvn)))⟩ (c_law_te W1 n1 (fun sc5 σ5 F5 W5 => K0 _ _ sc5 σ5 (by unfold lawD; rw [if_pos hk]; simp only [lawX, m1, bnd_o, bnd_e]) n1 (fEL (fr_trans (f3E F1) F5)) W5))
  · skip
    refine wq_go rfl (fun _ => rfl) ?_
    refine wq_getf rfl (by first | rfl | assumption) (by first | decide | omega | assumption) h3 rfl ?_
    refine wq_cN (m := 3) rfl rfl ?_
    refine wq_subN rfl (by omega) ?_
    refine wq_go rfl (fun _ => rfl) ?_
    refine wq_go rfl (fun _ => rfl) ?_
    refine wq_getf rfl (by first | rfl | assumption) (by first | decide | omega | assumption) h3 rfl ?_
    refine wq_callV rfl rfl (by first | rfl | assumption) (by first | decide | omega | assumption) (Nat.le_of_ble_eq_true rfl) (Nat.le_of_ble_eq_true rfl) rfl rfl ?_
    have hs7 := hW.2.2.1
    refine c_stc hW ?_
    refine wq_go rfl (fun _ => rfl) ?_
    refine wq_go rfl (fun _ => rfl) ?_
    refine wq_getf rfl (by first | rfl | assumption) (by first | decide | omega | assumption) h3 rfl ?_
    refine wq_cN (m := 3) rfl rfl ?_
    refine wq_clt rfl (by first | omega | decide | exact Nat.lt_of_le_of_lt Nat.and_le_right (by decide) | exact ⟨by omega, by omega⟩) (by first | omega | decide | exact Nat.lt_of_le_of_lt Nat.and_le_right (by decide) | exact ⟨by omega, by omega⟩) (fun c => absurd c (by omega)) (fun c12 => ?_)
    refine wq_go rfl (fun _ => rfl) ?_
    refine wq_getf rfl (by first | rfl | assumption) (by first | decide | omega | assumption) h3 rfl ?_
    refine wq_cN (m := 6) rfl rfl ?_
    refine wq_cle rfl (by first | omega | decide | exact Nat.lt_of_le_of_lt Nat.and_le_right (by decide) | exact ⟨by omega, by omega⟩) (by first | omega | decide | exact Nat.lt_of_le_of_lt Nat.and_le_right (by decide) | exact ⟨by omega, by omega⟩) (fun c => absurd c (by omega)) (fun c16 => ?_)
    refine wq_go rfl (fun _ => rfl) ?_
    refine wq_cN (m := 1) rfl rfl ?_
    refine wq_callV rfl rfl (by first | rfl | assumption) (by first | decide | omega | assumption) (Nat.le_of_ble_eq_true rfl) (Nat.le_of_ble_eq_true rfl) rfl rfl ?_
    refine c_ref hW (by decide) (fun σ1 F1 W1 => ?_)
    refine wq_go rfl (fun _ => rfl) ?_
    refine wq_go rfl (fun _ => rfl) ?_
    refine wq_getf rfl (by first | rfl | assumption) (by first | decide | omega | assumption) (Classical.choose_spec W1.1) rfl ?_
    refine wq_callV rfl rfl (by first | rfl | assumption) (by first | decide | omega | assumption) (Nat.le_of_ble_eq_true rfl) (Nat.le_of_ble_eq_true rfl) rfl rfl ?_
    refine c_acc_e W1 (by decide) ?_
    refine wq_go rfl (fun _ => rfl) ?_
    refine wq_go rfl (fun _ => rfl) ?_
    refine wq_cN (m := 26) rfl rfl ?_
    refine wq_callV rfl rfl (by first | rfl | assumption) (by first | decide | omega | assumption) (Nat.le_of_ble_eq_true rfl) (Nat.le_of_ble_eq_true rfl) rfl rfl ?_
    refine c_acc_e W1 (by decide) ?_
    refine wq_go rfl (fun _ => rfl) ?_
    refine wq_cN (m := 0) rfl rfl ?_
    refine wq_go rfl (fun _ => rfl) ?_
    refine wq_go rfl (fun _ => rfl) ?_
    refine wq_cN (m := 4) rfl rfl ?_
    refine wq_cgt rfl (by first | omega | decide | exact Nat.lt_of_le_of_lt Nat.and_le_right (by decide) | exact ⟨by omega, by omega⟩) (by first | omega | decide | exact Nat.lt_of_le_of_lt Nat.and_le_right (by decide) | exact ⟨by omega, by omega⟩) (fun c => absurd c (by omega)) (fun c33 => ?_)
    refine wq_go rfl (fun _ => rfl) ?_
    refine wq_getf rfl (by first | rfl | assumption) (by first | decide | omega | assumption) (Classical.choose_spec W1.1) rfl ?_
    refine wq_zne rfl (by first | omega | decide | exact Nat.lt_of_le_of_lt Nat.and_le_right (by decide) | exact ⟨by omega, by omega⟩) (fun c36 => ?_) (fun c => absurd (show _ from by omega) c)
    exact wq_lv ⟨(by decide : ([3, 2, 1, 0] : List Nat).Nodup), (lvm (List.mem_of_getElem? (i := 1) rfl) (lvm (List.mem_of_getElem? (i := 2) rfl) (lvm (List.mem_of_getElem? (i := 3) rfl) lvn)))⟩ (c_law_te W1 (by decide) (fun sc5 σ5 F5 W5 => K0 _ _ sc5 σ5 (if_neg hk) (by decide) (fEL (fr_trans (f3E F1) F5)) W5))
