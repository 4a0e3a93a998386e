/-! NAMES AND SETTINGS BY THE CLASS -/
theorem nI_m1 {i : Nat} (h : i < 100) : ¬ nI i = -1 := by
  intro e
  have q := congrArg Int32.toInt e
  rw [nI_toInt (by omega), show Int32.toInt (-1) = -1 by decide] at q
  omega
theorem nmb_lt {f : Nat → Int64} {n i : Nat} {x : Int64} (h : nmb f n x = some i) : i < n := by
  have := (nb_lt n 0 i h).2.1
  omega
theorem c_newN {xs : List Int32} {d : Nat} {σ : Nat → List Value} {Q : Option Value → (Nat → List Value) → Prop} {X : Tx} {t sc nc nh nv : Nat} {y : Nat → Int32} {w : Option (Nat × Nat)} (hW : RdW X 0 t sc nc nh nv y w σ) {gc gh : Nat → Int64} (hgc : σ 13 = arrL 4 gc) (hgh : σ 14 = arrL 5 gh) (hL : okL w)  (K1 : ∀ t1 σ', must X 23 t = .inr t1 → t1 = t + 1 → Fr x3 σ σ' → RdW X 0 t1 sc nc nh nv y (wn w ((nmb gc nc (Xn X t)).isSome || (nmb gh nh (Xn X t)).isSome) 3 (Xp X t)) σ' → Q (some (.long (Xn X t))) σ') (K0 : ∀ f' x w' σ', must X 23 t = er f' t → ¬ f' = 0 → Fr x3 σ σ' → RdW X f' t sc nc nh nv y w' σ' → Q (some (.long x)) σ') : Wq xs (d + 2) ax_cd52 0 [(0, .ref 3)] [] σ Q := by
  have hW0 := hW
  obtain ⟨⟨fpl, h3⟩, h4, hsc, hnc, hnh, hnv, hsh, ⟨s, n15, fk, fp, fn, fm, h15, h17, h18, h19, h20, hs, ek, ep, en, em, el, e35⟩, ht, hr, hf⟩ := hW0
  have hk35 := e35 t
  have hts := el t ht hr
  by_cases hk : Xk X t = 23
  · skip
    refine wq_go rfl (fun _ => rfl) ?_
    refine wq_getf rfl (by first | rfl | assumption) (by first | decide | omega | assumption) h3 rfl ?_
    refine wq_go rfl (fun _ => rfl) ?_
    refine wq_getf rfl (by first | rfl | assumption) (by first | decide | omega | assumption) h3 rfl ?_
    refine wq_callV rfl rfl (by first | rfl | assumption) (by first | decide | omega | assumption) (Nat.le_of_ble_eq_true rfl) (Nat.le_of_ble_eq_true rfl) rfl rfl ?_
    refine c_tk_nameAt hW hk ?_
    refine wq_go rfl (fun _ => rfl) ?_
    refine wq_go rfl (fun _ => rfl) ?_
    refine wq_getf rfl (by first | rfl | assumption) (by first | decide | omega | assumption) h3 rfl ?_
    refine wq_cN (m := 23) rfl rfl ?_
    refine wq_cne rfl (by first | omega | decide | exact Nat.lt_of_le_of_lt Nat.and_le_right (by decide) | exact ⟨by omega, by omega⟩) (by first | omega | decide | exact Nat.lt_of_le_of_lt Nat.and_le_right (by decide) | exact ⟨by omega, by omega⟩) (fun c => absurd c (by omega)) (fun c9 => ?_)
    refine wq_go rfl (fun _ => rfl) ?_
    refine wq_go rfl (fun _ => rfl) ?_
    refine wq_getf rfl (by first | rfl | assumption) (by first | decide | omega | assumption) h3 rfl ?_
    refine wq_go rfl (fun _ => rfl) ?_
    refine wq_getf rfl (by first | rfl | assumption) (by first | decide | omega | assumption) h3 rfl ?_
    refine wq_getf rfl (by first | rfl | assumption) (by first | decide | omega | assumption) h4 rfl ?_
    refine wq_callS rfl (Nat.le_of_ble_eq_true rfl) rfl (Nat.le_of_ble_eq_true rfl) (Nat.le_of_ble_eq_true rfl) rfl rfl ?_
    refine c_numberOf (N := 4) (g := gc) rfl (by decide) hgc hnc (by decide) ?_
    cases hc : nmb gc nc (Xn X t) with
    | none =>
      skip
      refine wq_go rfl (fun _ => rfl) ?_
      refine wq_cmp rfl (fun c => absurd (c.symm.trans ((show ax_cmp 1 (nmI none) (-1) = false from by decide))) (by decide)) (fun c18 => ?_)
      refine wq_go rfl (fun _ => rfl) ?_
      refine wq_go rfl (fun _ => rfl) ?_
      refine wq_getf rfl (by first | rfl | assumption) (by first | decide | omega | assumption) h3 rfl ?_
      refine wq_go rfl (fun _ => rfl) ?_
      refine wq_getf rfl (by first | rfl | assumption) (by first | decide | omega | assumption) h3 rfl ?_
      refine wq_getf rfl (by first | rfl | assumption) (by first | decide | omega | assumption) h4 rfl ?_
      refine wq_callS rfl (Nat.le_of_ble_eq_true rfl) rfl (Nat.le_of_ble_eq_true rfl) (Nat.le_of_ble_eq_true rfl) rfl rfl ?_
      refine c_numberOf (N := 5) (g := gh) rfl (by decide) hgh hnh (by decide) ?_
      cases hh : nmb gh nh (Xn X t) with
      | none =>
        skip
        refine wq_go rfl (fun _ => rfl) ?_
        refine wq_cmp rfl (fun c27 => ?_) (fun c => absurd (c.symm.trans ((show ax_cmp 0 (nmI none) (-1) = true from by decide))) (by decide))
        refine wq_go rfl (fun _ => rfl) ?_
        refine wq_cN (m := 23) rfl rfl ?_
        refine wq_callV rfl rfl (by first | rfl | assumption) (by first | decide | omega | assumption) (Nat.le_of_ble_eq_true rfl) (Nat.le_of_ble_eq_true rfl) rfl rfl ?_
        refine c_acc hW (by decide) (fun t1 σ3 m3 q3 k3 F3 W3 => ?_) (fun f3 σ3 m3 n3 u3 F3 W3 => ?_)
        · skip
          refine wq_go rfl (fun _ => rfl) ?_
          refine wq_go rfl (fun _ => rfl) ?_
          refine wq_end rfl (fun _ => rfl) ?_
          rw [hc, hh] at K1
          exact K1 t1 σ3 m3 q3 F3 (by rw [show ((none : Option Nat).isSome || (none : Option Nat).isSome) = false from rfl, wn_f]; exact W3)
        · skip
          refine wq_go rfl (fun _ => rfl) ?_
          refine wq_go rfl (fun _ => rfl) ?_
          refine wq_end rfl (fun _ => rfl) ?_
          exact K0 f3 _ _ σ3 m3 n3 F3 W3
      | some i =>
        have hih := nmb_lt hh
        refine wq_go rfl (fun _ => rfl) ?_
        refine wq_cmp rfl (fun c => absurd (c.symm.trans ((show decide (nI i = -1) = false from decide_eq_false (nI_m1 (by omega))))) (by decide)) (fun c27 => ?_)
        refine wq_go rfl (fun _ => rfl) ?_
        refine wq_cN (m := 3) rfl rfl ?_
        refine wq_callV rfl rfl (by first | rfl | assumption) (by first | decide | omega | assumption) (Nat.le_of_ble_eq_true rfl) (Nat.le_of_ble_eq_true rfl) rfl rfl ?_
        refine c_les hW (by decide) (fun q e => (hL q e).1) (fun q e => (hL q e).2) (fun σ2 F2 W2 => ?_)
        refine wq_go rfl (fun _ => rfl) ?_
        refine wq_cN (m := 23) rfl rfl ?_
        refine wq_callV rfl rfl (by first | rfl | assumption) (by first | decide | omega | assumption) (Nat.le_of_ble_eq_true rfl) (Nat.le_of_ble_eq_true rfl) rfl rfl ?_
        refine c_acc W2 (by decide) (fun t1 σ3 m3 q3 k3 F3 W3 => ?_) (fun f3 σ3 m3 n3 u3 F3 W3 => ?_)
        · skip
          refine wq_go rfl (fun _ => rfl) ?_
          refine wq_go rfl (fun _ => rfl) ?_
          refine wq_end rfl (fun _ => rfl) ?_
          rw [hc, hh] at K1
          exact K1 t1 σ3 m3 q3 (fr_trans F2 F3) W3
        · skip
          refine wq_go rfl (fun _ => rfl) ?_
          refine wq_go rfl (fun _ => rfl) ?_
          refine wq_end rfl (fun _ => rfl) ?_
          exact K0 f3 _ _ σ3 m3 n3 (fr_trans F2 F3) W3
    | some i =>
      have hic := nmb_lt hc
      refine wq_go rfl (fun _ => rfl) ?_
      refine wq_cmp rfl (fun c18 => ?_) (fun c => absurd (c.symm.trans ((show decide (¬ nI i = -1) = true from decide_eq_true (nI_m1 (by omega))))) (by decide))
      refine wq_go rfl (fun _ => rfl) ?_
      refine wq_cN (m := 3) rfl rfl ?_
      refine wq_callV rfl rfl (by first | rfl | assumption) (by first | decide | omega | assumption) (Nat.le_of_ble_eq_true rfl) (Nat.le_of_ble_eq_true rfl) rfl rfl ?_
      refine c_les hW (by decide) (fun q e => (hL q e).1) (fun q e => (hL q e).2) (fun σ2 F2 W2 => ?_)
      refine wq_go rfl (fun _ => rfl) ?_
      refine wq_cN (m := 23) rfl rfl ?_
      refine wq_callV rfl rfl (by first | rfl | assumption) (by first | decide | omega | assumption) (Nat.le_of_ble_eq_true rfl) (Nat.le_of_ble_eq_true rfl) rfl rfl ?_
      refine c_acc W2 (by decide) (fun t1 σ3 m3 q3 k3 F3 W3 => ?_) (fun f3 σ3 m3 n3 u3 F3 W3 => ?_)
      · skip
        refine wq_go rfl (fun _ => rfl) ?_
        refine wq_go rfl (fun _ => rfl) ?_
        refine wq_end rfl (fun _ => rfl) ?_
        rw [hc] at K1
        exact K1 t1 σ3 m3 q3 (fr_trans F2 F3) W3
      · skip
        refine wq_go rfl (fun _ => rfl) ?_
        refine wq_go rfl (fun _ => rfl) ?_
        refine wq_end rfl (fun _ => rfl) ?_
        exact K0 f3 _ _ σ3 m3 n3 (fr_trans F2 F3) W3
  · skip
    refine wq_go rfl (fun _ => rfl) ?_
    refine wq_getf rfl (by first | rfl | assumption) (by first | decide | omega | assumption) h3 rfl ?_
    refine wq_go rfl (fun _ => rfl) ?_
    refine wq_getf rfl (by first | rfl | assumption) (by first | decide | omega | assumption) h3 rfl ?_
    refine wq_callV rfl rfl (by first | rfl | assumption) (by first | decide | omega | assumption) (Nat.le_of_ble_eq_true rfl) (Nat.le_of_ble_eq_true rfl) rfl rfl ?_
    refine c_tk_namAny hW (fun x => ?_)
    refine wq_go rfl (fun _ => rfl) ?_
    refine wq_go rfl (fun _ => rfl) ?_
    refine wq_getf rfl (by first | rfl | assumption) (by first | decide | omega | assumption) h3 rfl ?_
    refine wq_cN (m := 23) rfl rfl ?_
    refine wq_cne rfl (by first | omega | decide | exact Nat.lt_of_le_of_lt Nat.and_le_right (by decide) | exact ⟨by omega, by omega⟩) (by first | omega | decide | exact Nat.lt_of_le_of_lt Nat.and_le_right (by decide) | exact ⟨by omega, by omega⟩) (fun c9 => ?_) (fun c => absurd (show _ from by omega) c)
    refine wq_go rfl (fun _ => rfl) ?_
    refine wq_cN (m := 23) rfl rfl ?_
    refine wq_callV rfl rfl (by first | rfl | assumption) (by first | decide | omega | assumption) (Nat.le_of_ble_eq_true rfl) (Nat.le_of_ble_eq_true rfl) rfl rfl ?_
    refine c_acc hW (by decide) (fun t1 σ3 m3 q3 k3 F3 W3 => ?_) (fun f3 σ3 m3 n3 u3 F3 W3 => ?_)
    · skip
      refine wq_go rfl (fun _ => rfl) ?_
      refine wq_go rfl (fun _ => rfl) ?_
      refine wq_end rfl (fun _ => rfl) ?_
      exact absurd k3 hk
    · skip
      refine wq_go rfl (fun _ => rfl) ?_
      refine wq_go rfl (fun _ => rfl) ?_
      refine wq_end rfl (fun _ => rfl) ?_
      exact K0 f3 _ _ σ3 m3 n3 F3 W3
theorem c_newN_e {xs : List Int32} {d : Nat} {σ : Nat → List Value} {Q : Option Value → (Nat → List Value) → Prop} {X : Tx} {f t sc nc nh nv : Nat} {y : Nat → Int32} {w : Option (Nat × Nat)} (hW : RdW X f t sc nc nh nv y w σ) (hf0 : ¬ f = 0)  (K : ∀ x, Q (some (.long x)) σ) : Wq xs (d + 2) ax_cd52 0 [(0, .ref 3)] [] σ Q := by
  have hW0 := hW
  obtain ⟨⟨fpl, h3⟩, h4, hsc, hnc, hnh, hnv, hsh, ⟨s, n15, fk, fp, fn, fm, h15, h17, h18, h19, h20, hs, ek, ep, en, em, el, e35⟩, ht, hr, hf⟩ := hW0
  have hk35 := e35 t
  have hts := el t ht hr
  obtain ⟨gc, hgc⟩ := hsh.2.1
  obtain ⟨gh, hgh⟩ := hsh.2.2
  refine wq_go rfl (fun _ => rfl) ?_
  refine wq_getf rfl (by first | rfl | assumption) (by first | decide | omega | assumption) h3 rfl ?_
  refine wq_go rfl (fun _ => rfl) ?_
  refine wq_getf rfl (by first | rfl | assumption) (by first | decide | omega | assumption) h3 rfl ?_
  refine wq_callV rfl rfl (by first | rfl | assumption) (by first | decide | omega | assumption) (Nat.le_of_ble_eq_true rfl) (Nat.le_of_ble_eq_true rfl) rfl rfl ?_
  refine c_tk_namAny hW (fun x => ?_)
  refine wq_go rfl (fun _ => rfl) ?_
  refine wq_go rfl (fun _ => rfl) ?_
  refine wq_getf rfl (by first | rfl | assumption) (by first | decide | omega | assumption) h3 rfl ?_
  refine wq_cN (m := 23) rfl rfl ?_
  refine wq_cne rfl (by first | omega | decide | exact Nat.lt_of_le_of_lt Nat.and_le_right (by decide) | exact ⟨by omega, by omega⟩) (by first | omega | decide | exact Nat.lt_of_le_of_lt Nat.and_le_right (by decide) | exact ⟨by omega, by omega⟩) (fun c9 => ?_) (fun c9 => ?_)
  · skip
    refine wq_go rfl (fun _ => rfl) ?_
    refine wq_cN (m := 23) rfl rfl ?_
    refine wq_callV rfl rfl (by first | rfl | assumption) (by first | decide | omega | assumption) (Nat.le_of_ble_eq_true rfl) (Nat.le_of_ble_eq_true rfl) rfl rfl ?_
    refine c_acc_e hW hf0 ?_
    refine wq_go rfl (fun _ => rfl) ?_
    refine wq_go rfl (fun _ => rfl) ?_
    refine wq_end rfl (fun _ => rfl) ?_
    exact K _
  · skip
    refine wq_go rfl (fun _ => rfl) ?_
    refine wq_go rfl (fun _ => rfl) ?_
    refine wq_getf rfl (by first | rfl | assumption) (by first | decide | omega | assumption) h3 rfl ?_
    refine wq_go rfl (fun _ => rfl) ?_
    refine wq_getf rfl (by first | rfl | assumption) (by first | decide | omega | assumption) h3 rfl ?_
    refine wq_getf rfl (by first | rfl | assumption) (by first | decide | omega | assumption) h4 rfl ?_
    refine wq_callS rfl (Nat.le_of_ble_eq_true rfl) rfl (Nat.le_of_ble_eq_true rfl) (Nat.le_of_ble_eq_true rfl) rfl rfl ?_
    refine c_numberOf (N := 4) (g := gc) rfl (by decide) hgc hnc (by decide) ?_
    refine wq_go rfl (fun _ => rfl) ?_
    refine wq_cmp rfl  (fun c18 => ?_) (fun c18 => ?_)
    · skip
      refine wq_go rfl (fun _ => rfl) ?_
      refine wq_cN (m := 3) rfl rfl ?_
      refine wq_callV rfl rfl (by first | rfl | assumption) (by first | decide | omega | assumption) (Nat.le_of_ble_eq_true rfl) (Nat.le_of_ble_eq_true rfl) rfl rfl ?_
      refine c_les_e hW hf0 ?_
      refine wq_go rfl (fun _ => rfl) ?_
      refine wq_cN (m := 23) rfl rfl ?_
      refine wq_callV rfl rfl (by first | rfl | assumption) (by first | decide | omega | assumption) (Nat.le_of_ble_eq_true rfl) (Nat.le_of_ble_eq_true rfl) rfl rfl ?_
      refine c_acc_e hW hf0 ?_
      refine wq_go rfl (fun _ => rfl) ?_
      refine wq_go rfl (fun _ => rfl) ?_
      refine wq_end rfl (fun _ => rfl) ?_
      exact K _
    · skip
      refine wq_go rfl (fun _ => rfl) ?_
      refine wq_go rfl (fun _ => rfl) ?_
      refine wq_getf rfl (by first | rfl | assumption) (by first | decide | omega | assumption) h3 rfl ?_
      refine wq_go rfl (fun _ => rfl) ?_
      refine wq_getf rfl (by first | rfl | assumption) (by first | decide | omega | assumption) h3 rfl ?_
      refine wq_getf rfl (by first | rfl | assumption) (by first | decide | omega | assumption) h4 rfl ?_
      refine wq_callS rfl (Nat.le_of_ble_eq_true rfl) rfl (Nat.le_of_ble_eq_true rfl) (Nat.le_of_ble_eq_true rfl) rfl rfl ?_
      refine c_numberOf (N := 5) (g := gh) rfl (by decide) hgh hnh (by decide) ?_
      refine wq_go rfl (fun _ => rfl) ?_
      refine wq_cmp rfl  (fun c27 => ?_) (fun c27 => ?_)
      · skip
        refine wq_go rfl (fun _ => rfl) ?_
        refine wq_cN (m := 23) rfl rfl ?_
        refine wq_callV rfl rfl (by first | rfl | assumption) (by first | decide | omega | assumption) (Nat.le_of_ble_eq_true rfl) (Nat.le_of_ble_eq_true rfl) rfl rfl ?_
        refine c_acc_e hW hf0 ?_
        refine wq_go rfl (fun _ => rfl) ?_
        refine wq_go rfl (fun _ => rfl) ?_
        refine wq_end rfl (fun _ => rfl) ?_
        exact K _
      · skip
        refine wq_go rfl (fun _ => rfl) ?_
        refine wq_cN (m := 3) rfl rfl ?_
        refine wq_callV rfl rfl (by first | rfl | assumption) (by first | decide | omega | assumption) (Nat.le_of_ble_eq_true rfl) (Nat.le_of_ble_eq_true rfl) rfl rfl ?_
        refine c_les_e hW hf0 ?_
        refine wq_go rfl (fun _ => rfl) ?_
        refine wq_cN (m := 23) rfl rfl ?_
        refine wq_callV rfl rfl (by first | rfl | assumption) (by first | decide | omega | assumption) (Nat.le_of_ble_eq_true rfl) (Nat.le_of_ble_eq_true rfl) rfl rfl ?_
        refine c_acc_e hW hf0 ?_
        refine wq_go rfl (fun _ => rfl) ?_
        refine wq_go rfl (fun _ => rfl) ?_
        refine wq_end rfl (fun _ => rfl) ?_
        exact K _
theorem c_knN {xs : List Int32} {d : Nat} {σ : Nat → List Value} {Q : Option Value → (Nat → List Value) → Prop} {X : Tx} {t sc nc nh nv : Nat} {y : Nat → Int32} {w : Option (Nat × Nat)} (hW : RdW X 0 t sc nc nh nv y w σ) {p N n : Nat} {g : Nat → Int64} (hkp : kd p = .inl .long) (hp : p < 331) (hg : σ p = arrL N g) (hnN : n ≤ N) (hN : N < 100) (hL : okL w)  (K1 : ∀ t1 σ', must X 23 t = .inr t1 → t1 = t + 1 → Fr x3 σ σ' → RdW X 0 t1 sc nc nh nv y (wn w (nmb g n (Xn X t)).isNone 4 (Xp X t)) σ' → Q (some (.int (nmI (nmb g n (Xn X t))))) σ') (K0 : ∀ f' x w' σ', must X 23 t = er f' t → ¬ f' = 0 → Fr x3 σ σ' → RdW X f' t sc nc nh nv y w' σ' → Q (some (.int x)) σ') : Wq xs (d + 2) ax_cd64 0 [(0, .ref 3), (1, .ref p), (2, .int (nI n))] [] σ Q := by
  have hW0 := hW
  obtain ⟨⟨fpl, h3⟩, h4, hsc, hnc, hnh, hnv, hsh, ⟨s, n15, fk, fp, fn, fm, h15, h17, h18, h19, h20, hs, ek, ep, en, em, el, e35⟩, ht, hr, hf⟩ := hW0
  have hk35 := e35 t
  have hts := el t ht hr
  by_cases hk : Xk X t = 23
  · skip
    refine wq_go rfl (fun _ => rfl) ?_
    refine wq_getf rfl (by first | rfl | assumption) (by first | decide | omega | assumption) h3 rfl ?_
    refine wq_go rfl (fun _ => rfl) ?_
    refine wq_getf rfl (by first | rfl | assumption) (by first | decide | omega | assumption) h3 rfl ?_
    refine wq_callV rfl rfl (by first | rfl | assumption) (by first | decide | omega | assumption) (Nat.le_of_ble_eq_true rfl) (Nat.le_of_ble_eq_true rfl) rfl rfl ?_
    refine c_tk_nameAt hW hk ?_
    refine wq_go rfl (fun _ => rfl) ?_
    refine wq_go rfl (fun _ => rfl) ?_
    refine wq_callS rfl (Nat.le_of_ble_eq_true rfl) rfl (Nat.le_of_ble_eq_true rfl) (Nat.le_of_ble_eq_true rfl) rfl rfl ?_
    refine c_numberOf (N := N) (g := g) hkp hp hg hnN hN ?_
    cases hn : nmb g n (Xn X t) with
    | none =>
      skip
      refine wq_go rfl (fun _ => rfl) ?_
      refine wq_go rfl (fun _ => rfl) ?_
      refine wq_getf rfl (by first | rfl | assumption) (by first | decide | omega | assumption) h3 rfl ?_
      refine wq_cN (m := 23) rfl rfl ?_
      refine wq_cne rfl (by first | omega | decide | exact Nat.lt_of_le_of_lt Nat.and_le_right (by decide) | exact ⟨by omega, by omega⟩) (by first | omega | decide | exact Nat.lt_of_le_of_lt Nat.and_le_right (by decide) | exact ⟨by omega, by omega⟩) (fun c => absurd c (by omega)) (fun c12 => ?_)
      refine wq_go rfl (fun _ => rfl) ?_
      refine wq_go rfl (fun _ => rfl) ?_
      refine wq_cmp rfl (fun c => absurd (c.symm.trans ((show ax_cmp 1 (nmI none) (-1) = false from by decide))) (by decide)) (fun c15 => ?_)
      refine wq_go rfl (fun _ => rfl) ?_
      refine wq_cN (m := 4) rfl rfl ?_
      refine wq_callV rfl rfl (by first | rfl | assumption) (by first | decide | omega | assumption) (Nat.le_of_ble_eq_true rfl) (Nat.le_of_ble_eq_true rfl) rfl rfl ?_
      refine c_les hW (by decide) (fun q e => (hL q e).1) (fun q e => (hL q e).2) (fun σ2 F2 W2 => ?_)
      refine wq_go rfl (fun _ => rfl) ?_
      refine wq_cN (m := 23) rfl rfl ?_
      refine wq_callV rfl rfl (by first | rfl | assumption) (by first | decide | omega | assumption) (Nat.le_of_ble_eq_true rfl) (Nat.le_of_ble_eq_true rfl) rfl rfl ?_
      refine c_acc W2 (by decide) (fun t1 σ3 m3 q3 k3 F3 W3 => ?_) (fun f3 σ3 m3 n3 u3 F3 W3 => ?_)
      · skip
        refine wq_go rfl (fun _ => rfl) ?_
        refine wq_go rfl (fun _ => rfl) ?_
        refine wq_iret rfl ?_
        rw [hn] at K1
        exact K1 t1 σ3 m3 q3 (fr_trans F2 F3) W3
      · skip
        refine wq_go rfl (fun _ => rfl) ?_
        refine wq_go rfl (fun _ => rfl) ?_
        refine wq_iret rfl ?_
        exact K0 f3 _ _ σ3 m3 n3 (fr_trans F2 F3) W3
    | some i =>
      have hin := nmb_lt hn
      refine wq_go rfl (fun _ => rfl) ?_
      refine wq_go rfl (fun _ => rfl) ?_
      refine wq_getf rfl (by first | rfl | assumption) (by first | decide | omega | assumption) h3 rfl ?_
      refine wq_cN (m := 23) rfl rfl ?_
      refine wq_cne rfl (by first | omega | decide | exact Nat.lt_of_le_of_lt Nat.and_le_right (by decide) | exact ⟨by omega, by omega⟩) (by first | omega | decide | exact Nat.lt_of_le_of_lt Nat.and_le_right (by decide) | exact ⟨by omega, by omega⟩) (fun c => absurd c (by omega)) (fun c12 => ?_)
      refine wq_go rfl (fun _ => rfl) ?_
      refine wq_go rfl (fun _ => rfl) ?_
      refine wq_cmp rfl (fun c15 => ?_) (fun c => absurd (c.symm.trans ((show decide (¬ nI i = -1) = true from decide_eq_true (nI_m1 (by omega))))) (by decide))
      refine wq_go rfl (fun _ => rfl) ?_
      refine wq_cN (m := 23) rfl rfl ?_
      refine wq_callV rfl rfl (by first | rfl | assumption) (by first | decide | omega | assumption) (Nat.le_of_ble_eq_true rfl) (Nat.le_of_ble_eq_true rfl) rfl rfl ?_
      refine c_acc hW (by decide) (fun t1 σ3 m3 q3 k3 F3 W3 => ?_) (fun f3 σ3 m3 n3 u3 F3 W3 => ?_)
      · skip
        refine wq_go rfl (fun _ => rfl) ?_
        refine wq_go rfl (fun _ => rfl) ?_
        refine wq_iret rfl ?_
        rw [hn] at K1
        exact K1 t1 σ3 m3 q3 F3 (by rw [show (some i : Option Nat).isNone = false from rfl, wn_f]; exact W3)
      · skip
        refine wq_go rfl (fun _ => rfl) ?_
        refine wq_go rfl (fun _ => rfl) ?_
        refine wq_iret rfl ?_
        exact K0 f3 _ _ σ3 m3 n3 F3 W3
  · skip
    refine wq_go rfl (fun _ => rfl) ?_
    refine wq_getf rfl (by first | rfl | assumption) (by first | decide | omega | assumption) h3 rfl ?_
    refine wq_go rfl (fun _ => rfl) ?_
    refine wq_getf rfl (by first | rfl | assumption) (by first | decide | omega | assumption) h3 rfl ?_
    refine wq_callV rfl rfl (by first | rfl | assumption) (by first | decide | omega | assumption) (Nat.le_of_ble_eq_true rfl) (Nat.le_of_ble_eq_true rfl) rfl rfl ?_
    refine c_tk_namAny hW (fun x => ?_)
    refine wq_go rfl (fun _ => rfl) ?_
    refine wq_go rfl (fun _ => rfl) ?_
    refine wq_callS rfl (Nat.le_of_ble_eq_true rfl) rfl (Nat.le_of_ble_eq_true rfl) (Nat.le_of_ble_eq_true rfl) rfl rfl ?_
    refine c_numberOf (N := N) (g := g) hkp hp hg hnN hN ?_
    refine wq_go rfl (fun _ => rfl) ?_
    refine wq_go rfl (fun _ => rfl) ?_
    refine wq_getf rfl (by first | rfl | assumption) (by first | decide | omega | assumption) h3 rfl ?_
    refine wq_cN (m := 23) rfl rfl ?_
    refine wq_cne rfl (by first | omega | decide | exact Nat.lt_of_le_of_lt Nat.and_le_right (by decide) | exact ⟨by omega, by omega⟩) (by first | omega | decide | exact Nat.lt_of_le_of_lt Nat.and_le_right (by decide) | exact ⟨by omega, by omega⟩) (fun c12 => ?_) (fun c => absurd (show _ from by omega) c)
    refine wq_go rfl (fun _ => rfl) ?_
    refine wq_cN (m := 23) rfl rfl ?_
    refine wq_callV rfl rfl (by first | rfl | assumption) (by first | decide | omega | assumption) (Nat.le_of_ble_eq_true rfl) (Nat.le_of_ble_eq_true rfl) rfl rfl ?_
    refine c_acc hW (by decide) (fun t1 σ3 m3 q3 k3 F3 W3 => ?_) (fun f3 σ3 m3 n3 u3 F3 W3 => ?_)
    · skip
      refine wq_go rfl (fun _ => rfl) ?_
      refine wq_go rfl (fun _ => rfl) ?_
      refine wq_iret rfl ?_
      exact absurd k3 hk
    · skip
      refine wq_go rfl (fun _ => rfl) ?_
      refine wq_go rfl (fun _ => rfl) ?_
      refine wq_iret rfl ?_
      exact K0 f3 _ _ σ3 m3 n3 F3 W3
theorem c_knN_e {xs : List Int32} {d : Nat} {σ : Nat → List Value} {Q : Option Value → (Nat → List Value) → Prop} {X : Tx} {f t sc nc nh nv : Nat} {y : Nat → Int32} {w : Option (Nat × Nat)} (hW : RdW X f t sc nc nh nv y w σ) {p N n : Nat} {g : Nat → Int64} (hkp : kd p = .inl .long) (hp : p < 331) (hg : σ p = arrL N g) (hnN : n ≤ N) (hN : N < 100) (hf0 : ¬ f = 0)  (K : ∀ x, Q (some (.int x)) σ) : Wq xs (d + 2) ax_cd64 0 [(0, .ref 3), (1, .ref p), (2, .int (nI n))] [] σ Q := by
  have hW0 := hW
  obtain ⟨⟨fpl, h3⟩, h4, hsc, hnc, hnh, hnv, hsh, ⟨s, n15, fk, fp, fn, fm, h15, h17, h18, h19, h20, hs, ek, ep, en, em, el, e35⟩, ht, hr, hf⟩ := hW0
  have hk35 := e35 t
  have hts := el t ht hr
  refine wq_go rfl (fun _ => rfl) ?_
  refine wq_getf rfl (by first | rfl | assumption) (by first | decide | omega | assumption) h3 rfl ?_
  refine wq_go rfl (fun _ => rfl) ?_
  refine wq_getf rfl (by first | rfl | assumption) (by first | decide | omega | assumption) h3 rfl ?_
  refine wq_callV rfl rfl (by first | rfl | assumption) (by first | decide | omega | assumption) (Nat.le_of_ble_eq_true rfl) (Nat.le_of_ble_eq_true rfl) rfl rfl ?_
  refine c_tk_namAny hW (fun x => ?_)
  refine wq_go rfl (fun _ => rfl) ?_
  refine wq_go rfl (fun _ => rfl) ?_
  refine wq_callS rfl (Nat.le_of_ble_eq_true rfl) rfl (Nat.le_of_ble_eq_true rfl) (Nat.le_of_ble_eq_true rfl) rfl rfl ?_
  refine c_numberOf (N := N) (g := g) hkp hp hg hnN hN ?_
  refine wq_go rfl (fun _ => rfl) ?_
  refine wq_go rfl (fun _ => rfl) ?_
  refine wq_getf rfl (by first | rfl | assumption) (by first | decide | omega | assumption) h3 rfl ?_
  refine wq_cN (m := 23) rfl rfl ?_
  refine wq_cne rfl (by first | omega | decide | exact Nat.lt_of_le_of_lt Nat.and_le_right (by decide) | exact ⟨by omega, by omega⟩) (by first | omega | decide | exact Nat.lt_of_le_of_lt Nat.and_le_right (by decide) | exact ⟨by omega, by omega⟩) (fun c12 => ?_) (fun c12 => ?_)
  · skip
    refine wq_go rfl (fun _ => rfl) ?_
    refine wq_cN (m := 23) rfl rfl ?_
    refine wq_callV rfl rfl (by first | rfl | assumption) (by first | decide | omega | assumption) (Nat.le_of_ble_eq_true rfl) (Nat.le_of_ble_eq_true rfl) rfl rfl ?_
    refine c_acc_e hW hf0 ?_
    refine wq_go rfl (fun _ => rfl) ?_
    refine wq_go rfl (fun _ => rfl) ?_
    refine wq_iret rfl ?_
    exact K _
  · skip
    refine wq_go rfl (fun _ => rfl) ?_
    refine wq_go rfl (fun _ => rfl) ?_
    refine wq_cmp rfl  (fun c15 => ?_) (fun c15 => ?_)
    · skip
      refine wq_go rfl (fun _ => rfl) ?_
      refine wq_cN (m := 23) rfl rfl ?_
      refine wq_callV rfl rfl (by first | rfl | assumption) (by first | decide | omega | assumption) (Nat.le_of_ble_eq_true rfl) (Nat.le_of_ble_eq_true rfl) rfl rfl ?_
      refine c_acc_e hW hf0 ?_
      refine wq_go rfl (fun _ => rfl) ?_
      refine wq_go rfl (fun _ => rfl) ?_
      refine wq_iret rfl ?_
      exact K _
    · skip
      refine wq_go rfl (fun _ => rfl) ?_
      refine wq_cN (m := 4) rfl rfl ?_
      refine wq_callV rfl rfl (by first | rfl | assumption) (by first | decide | omega | assumption) (Nat.le_of_ble_eq_true rfl) (Nat.le_of_ble_eq_true rfl) rfl rfl ?_
      refine c_les_e hW hf0 ?_
      refine wq_go rfl (fun _ => rfl) ?_
      refine wq_cN (m := 23) rfl rfl ?_
      refine wq_callV rfl rfl (by first | rfl | assumption) (by first | decide | omega | assumption) (Nat.le_of_ble_eq_true rfl) (Nat.le_of_ble_eq_true rfl) rfl rfl ?_
      refine c_acc_e hW hf0 ?_
      refine wq_go rfl (fun _ => rfl) ?_
      refine wq_go rfl (fun _ => rfl) ?_
      refine wq_iret rfl ?_
      exact K _
