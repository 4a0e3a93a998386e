/-! READING: DECLARATION BY DECLARATION -/
theorem c_tp_f {xs : List Int32} {d : Nat} {σ : Nat → List Value} {Q : Option Value → (Nat → List Value) → Prop} {X : Tx} {i : Nat} (hi : i ≤ 400) {f t sc nc nh nv : Nat} {y : Nat → Int32} {w : Option (Nat × Nat)} (hW : RdW X f t sc nc nh nv y w σ) (hf0 : ¬ f = 0) (K : Wq xs (d + 24) ax_cd31 84 [(0, .ref 3)] [] σ Q) : Wq xs (d + 24) ax_cd31 82 [(1, .int (nI i)), (0, .ref 3)] [] σ Q := by
  have hW0 := hW
  obtain ⟨⟨fpl, h3⟩, h4, hsc, hnc, hnh, hnv, hsh, ⟨s, n15, fk, fp, fn, fm, h15, h17, h18, h19, h20, hs, ek, ep, en, em, el, e35⟩, ht, hr, hf⟩ := hW0
  have hk35 := e35 t
  have hts := el t ht hr
  refine wq_incN rfl rfl rfl ?_
  refine wq_go rfl (fun _ => rfl) ?_
  refine wq_go rfl (fun _ => rfl) ?_
  refine wq_cN (m := 400) rfl rfl ?_
  refine wq_cgt rfl (by first | omega | decide | exact Nat.lt_of_le_of_lt Nat.and_le_right (by decide) | exact ⟨by omega, by omega⟩) (by first | omega | decide | exact Nat.lt_of_le_of_lt Nat.and_le_right (by decide) | exact ⟨by omega, by omega⟩) (fun c28 => ?_) (fun c28 => ?_)
  · skip
    exact wq_lv ⟨(by decide : ([1, 0] : List Nat).Nodup), (lvm (List.mem_of_getElem? (i := 1) rfl) lvn)⟩ K
  · skip
    refine wq_go rfl (fun _ => rfl) ?_
    refine wq_getf rfl (by first | rfl | assumption) (by first | decide | omega | assumption) h3 rfl ?_
    refine wq_zne rfl (by first | omega | decide | exact Nat.lt_of_le_of_lt Nat.and_le_right (by decide) | exact ⟨by omega, by omega⟩) (fun c31 => ?_) (fun c => absurd (show _ from by omega) c)
    exact wq_lv ⟨(by decide : ([1, 0] : List Nat).Nodup), (lvm (List.mem_of_getElem? (i := 1) rfl) lvn)⟩ K
theorem c_tp_n {xs : List Int32} {d : Nat} {σ : Nat → List Value} {Q : Option Value → (Nat → List Value) → Prop} {i : Nat} (K : Wq xs (d + 24) ax_cd31 26 [(1, .int (nI (i + 1))), (0, .ref 3)] [] σ Q) : Wq xs (d + 24) ax_cd31 82 [(1, .int (nI i)), (0, .ref 3)] [] σ Q := by
  refine wq_incN rfl rfl rfl ?_
  refine wq_go rfl (fun _ => rfl) ?_
  exact wq_lv ⟨(by decide : ([1, 0] : List Nat).Nodup), (lvm (List.mem_of_getElem? (i := 0) rfl) (lvm (List.mem_of_getElem? (i := 1) rfl) lvn))⟩ K
theorem c_tape_l {xs : List Int32} {d : Nat} {σ : Nat → List Value} {Q : Option Value → (Nat → List Value) → Prop} {X : Tx} (hv : ∀ i, Xv X i < 10000) (K1 : ∀ G' sc' σ', allX X 401 G0 = .inr G' → Fr xD σ σ' → RdG X G' sc' σ' → Wq xs (d + 24) ax_cd31 84 [(0, .ref 3)] [] σ' Q) (K0 : ∀ f' t' σ', allX X 401 G0 = er f' t' → Fr xD σ σ' → RdF X f' t' σ' → Wq xs (d + 24) ax_cd31 84 [(0, .ref 3)] [] σ' Q) : ∀ (n i : Nat) (G : Gs) (sc : Nat) (σ1 : Nat → List Value), 401 ≤ n + Gt G → i ≤ Gt G → Fr xD σ σ1 → RdG X G sc σ1 → allX X 401 G0 = allX X n G → Wq xs (d + 24) ax_cd31 26 [(1, .int (nI i)), (0, .ref 3)] [] σ1 Q := by
  intro n
  induction n with
  | zero =>
    intro i G sc σ1 hn hi hF hG
    obtain ⟨_, _, _, _, _, hW, _⟩ := hG
    exact absurd hW.2.2.2.2.2.2.2.2.1 (by omega)
  | succ n ih =>
    intro i G sc σ1 hn hi hF hG hE
    have hG0 := hG
    obtain ⟨hL, hop, gc, gh, y, hW, hgc, hgh, hC⟩ := hG0
    have hW0 := hW
    obtain ⟨⟨fpl, h3⟩, h4, hsc, hnc, hnh, hnv, hsh, ⟨s, n15, fk, fp, fn, fm, h15, h17, h18, h19, h20, hs, ek, ep, en, em, el, e35⟩, ht, hr, hf⟩ := hW0
    have hk35 := e35 (Gt G)
    have hts := el (Gt G) ht hr
    have nx : ∀ G' sc' σ2, declX X G = .inr G' → Gt G < Gt G' → Fr xD σ1 σ2 → RdG X G' sc' σ2 → ¬ Xk X (Gt G) = 34 → Wq xs (d + 24) ax_cd31 82 [(1, .int (nI i)), (0, .ref 3)] [] σ2 Q := fun G' sc' σ2 e l F R hk => c_tp_n (ih (i + 1) G' sc' σ2 (by omega) (by omega) (fr_trans hF F) R (by rw [hE]; show allX X (n + 1) G = _; rw [show allX X (n + 1) G = bnd (declX X G) (allX X n) from if_neg hk, e, bnd_o]))
    have nf : ∀ f' t' σ2, declX X G = er f' t' → Fr xD σ1 σ2 → RdF X f' t' σ2 → ¬ Xk X (Gt G) = 34 → Wq xs (d + 24) ax_cd31 82 [(1, .int (nI i)), (0, .ref 3)] [] σ2 Q := fun f' t' σ2 e F R hk => by
      obtain ⟨n0, sc', nc', nh', nv', y', w', W⟩ := id R
      exact c_tp_f (by omega) W n0 (K0 f' t' σ2 (by rw [hE, show allX X (n + 1) G = bnd (declX X G) (allX X n) from if_neg hk, e, bnd_e]) (fr_trans hF F) R)
    by_cases hk : Xk X (Gt G) = 34
    · skip
      refine wq_go rfl (fun _ => rfl) ?_
      refine wq_cN (m := 400) rfl rfl ?_
      refine wq_cgt rfl (by first | omega | decide | exact Nat.lt_of_le_of_lt Nat.and_le_right (by decide) | exact ⟨by omega, by omega⟩) (by first | omega | decide | exact Nat.lt_of_le_of_lt Nat.and_le_right (by decide) | exact ⟨by omega, by omega⟩) (fun c => absurd c (by omega)) (fun c28 => ?_)
      refine wq_go rfl (fun _ => rfl) ?_
      refine wq_getf rfl (by first | rfl | assumption) (by first | decide | omega | assumption) h3 rfl ?_
      refine wq_zne rfl (by first | omega | decide | exact Nat.lt_of_le_of_lt Nat.and_le_right (by decide) | exact ⟨by omega, by omega⟩) (fun c => absurd c (by omega)) (fun c31 => ?_)
      refine wq_go rfl (fun _ => rfl) ?_
      refine wq_getf rfl (by first | rfl | assumption) (by first | decide | omega | assumption) h3 rfl ?_
      refine wq_cN (m := 34) rfl rfl ?_
      refine wq_ceq rfl (by first | omega | decide | exact Nat.lt_of_le_of_lt Nat.and_le_right (by decide) | exact ⟨by omega, by omega⟩) (by first | omega | decide | exact Nat.lt_of_le_of_lt Nat.and_le_right (by decide) | exact ⟨by omega, by omega⟩) (fun c35 => ?_) (fun c => absurd (show _ from by omega) c)
      exact wq_lv ⟨(by decide : ([1, 0] : List Nat).Nodup), (lvm (List.mem_of_getElem? (i := 1) rfl) lvn)⟩ (K1 G sc σ1 (hE.trans (if_pos hk)) hF hG)
    have hall : allX X (n + 1) G = bnd (declX X G) (allX X n) := if_neg hk
    by_cases hk0 : Xk X (Gt G) = 0
    · have hd : declX X G = chairX X G := by
        unfold declX
        rw [hk0]
        rfl
      refine wq_go rfl (fun _ => rfl) ?_
      refine wq_cN (m := 400) rfl rfl ?_
      refine wq_cgt rfl (by first | omega | decide | exact Nat.lt_of_le_of_lt Nat.and_le_right (by decide) | exact ⟨by omega, by omega⟩) (by first | omega | decide | exact Nat.lt_of_le_of_lt Nat.and_le_right (by decide) | exact ⟨by omega, by omega⟩) (fun c => absurd c (by omega)) (fun c28 => ?_)
      refine wq_go rfl (fun _ => rfl) ?_
      refine wq_getf rfl (by first | rfl | assumption) (by first | decide | omega | assumption) h3 rfl ?_
      refine wq_zne rfl (by first | omega | decide | exact Nat.lt_of_le_of_lt Nat.and_le_right (by decide) | exact ⟨by omega, by omega⟩) (fun c => absurd c (by omega)) (fun c31 => ?_)
      refine wq_go rfl (fun _ => rfl) ?_
      refine wq_getf rfl (by first | rfl | assumption) (by first | decide | omega | assumption) h3 rfl ?_
      refine wq_cN (m := 34) rfl rfl ?_
      refine wq_ceq rfl (by first | omega | decide | exact Nat.lt_of_le_of_lt Nat.and_le_right (by decide) | exact ⟨by omega, by omega⟩) (by first | omega | decide | exact Nat.lt_of_le_of_lt Nat.and_le_right (by decide) | exact ⟨by omega, by omega⟩) (fun c => absurd c (by omega)) (fun c35 => ?_)
      refine wq_go rfl (fun _ => rfl) ?_
      refine wq_getf rfl (by first | rfl | assumption) (by first | decide | omega | assumption) h3 rfl ?_
      refine wq_swN (j := 0) rfl (by rw [hk0]) (by decide) rfl ?_
      refine wq_go rfl (fun _ => rfl) ?_
      refine wq_callV rfl rfl (by first | rfl | assumption) (by first | decide | omega | assumption) (Nat.le_of_ble_eq_true rfl) (Nat.le_of_ble_eq_true rfl) rfl rfl ?_
      refine g_chair hG hv (fun G' sc' σ2 e2 l2 F2 R2 => ?_) (fun f' t' σ2 e2 F2 R2 => ?_)
      · skip
        refine wq_go rfl (fun _ => rfl) ?_
        exact wq_lv ⟨(by decide : ([1, 0] : List Nat).Nodup), (lvm (List.mem_of_getElem? (i := 0) rfl) (lvm (List.mem_of_getElem? (i := 1) rfl) lvn))⟩ (nx G' sc' σ2 (hd.trans e2) l2 F2 R2 hk)
      · skip
        refine wq_go rfl (fun _ => rfl) ?_
        exact wq_lv ⟨(by decide : ([1, 0] : List Nat).Nodup), (lvm (List.mem_of_getElem? (i := 0) rfl) (lvm (List.mem_of_getElem? (i := 1) rfl) lvn))⟩ (nf f' t' σ2 (hd.trans e2) F2 R2 hk)
    by_cases hk1 : Xk X (Gt G) = 1
    · have hd : declX X G = headX X G := by
        unfold declX
        rw [hk1]
        rfl
      refine wq_go rfl (fun _ => rfl) ?_
      refine wq_cN (m := 400) rfl rfl ?_
      refine wq_cgt rfl (by first | omega | decide | exact Nat.lt_of_le_of_lt Nat.and_le_right (by decide) | exact ⟨by omega, by omega⟩) (by first | omega | decide | exact Nat.lt_of_le_of_lt Nat.and_le_right (by decide) | exact ⟨by omega, by omega⟩) (fun c => absurd c (by omega)) (fun c28 => ?_)
      refine wq_go rfl (fun _ => rfl) ?_
      refine wq_getf rfl (by first | rfl | assumption) (by first | decide | omega | assumption) h3 rfl ?_
      refine wq_zne rfl (by first | omega | decide | exact Nat.lt_of_le_of_lt Nat.and_le_right (by decide) | exact ⟨by omega, by omega⟩) (fun c => absurd c (by omega)) (fun c31 => ?_)
      refine wq_go rfl (fun _ => rfl) ?_
      refine wq_getf rfl (by first | rfl | assumption) (by first | decide | omega | assumption) h3 rfl ?_
      refine wq_cN (m := 34) rfl rfl ?_
      refine wq_ceq rfl (by first | omega | decide | exact Nat.lt_of_le_of_lt Nat.and_le_right (by decide) | exact ⟨by omega, by omega⟩) (by first | omega | decide | exact Nat.lt_of_le_of_lt Nat.and_le_right (by decide) | exact ⟨by omega, by omega⟩) (fun c => absurd c (by omega)) (fun c35 => ?_)
      refine wq_go rfl (fun _ => rfl) ?_
      refine wq_getf rfl (by first | rfl | assumption) (by first | decide | omega | assumption) h3 rfl ?_
      refine wq_swN (j := 1) rfl (by rw [hk1]) (by decide) rfl ?_
      refine wq_go rfl (fun _ => rfl) ?_
      refine wq_callV rfl rfl (by first | rfl | assumption) (by first | decide | omega | assumption) (Nat.le_of_ble_eq_true rfl) (Nat.le_of_ble_eq_true rfl) rfl rfl ?_
      refine g_head hG hv (fun G' sc' σ2 e2 l2 F2 R2 => ?_) (fun f' t' σ2 e2 F2 R2 => ?_)
      · skip
        refine wq_go rfl (fun _ => rfl) ?_
        exact wq_lv ⟨(by decide : ([1, 0] : List Nat).Nodup), (lvm (List.mem_of_getElem? (i := 0) rfl) (lvm (List.mem_of_getElem? (i := 1) rfl) lvn))⟩ (nx G' sc' σ2 (hd.trans e2) l2 F2 R2 hk)
      · skip
        refine wq_go rfl (fun _ => rfl) ?_
        exact wq_lv ⟨(by decide : ([1, 0] : List Nat).Nodup), (lvm (List.mem_of_getElem? (i := 0) rfl) (lvm (List.mem_of_getElem? (i := 1) rfl) lvn))⟩ (nf f' t' σ2 (hd.trans e2) F2 R2 hk)
    by_cases hk2 : Xk X (Gt G) = 2
    · have hd : declX X G = visitX X G := by
        unfold declX
        rw [hk2]
        rfl
      refine wq_go rfl (fun _ => rfl) ?_
      refine wq_cN (m := 400) rfl rfl ?_
      refine wq_cgt rfl (by first | omega | decide | exact Nat.lt_of_le_of_lt Nat.and_le_right (by decide) | exact ⟨by omega, by omega⟩) (by first | omega | decide | exact Nat.lt_of_le_of_lt Nat.and_le_right (by decide) | exact ⟨by omega, by omega⟩) (fun c => absurd c (by omega)) (fun c28 => ?_)
      refine wq_go rfl (fun _ => rfl) ?_
      refine wq_getf rfl (by first | rfl | assumption) (by first | decide | omega | assumption) h3 rfl ?_
      refine wq_zne rfl (by first | omega | decide | exact Nat.lt_of_le_of_lt Nat.and_le_right (by decide) | exact ⟨by omega, by omega⟩) (fun c => absurd c (by omega)) (fun c31 => ?_)
      refine wq_go rfl (fun _ => rfl) ?_
      refine wq_getf rfl (by first | rfl | assumption) (by first | decide | omega | assumption) h3 rfl ?_
      refine wq_cN (m := 34) rfl rfl ?_
      refine wq_ceq rfl (by first | omega | decide | exact Nat.lt_of_le_of_lt Nat.and_le_right (by decide) | exact ⟨by omega, by omega⟩) (by first | omega | decide | exact Nat.lt_of_le_of_lt Nat.and_le_right (by decide) | exact ⟨by omega, by omega⟩) (fun c => absurd c (by omega)) (fun c35 => ?_)
      refine wq_go rfl (fun _ => rfl) ?_
      refine wq_getf rfl (by first | rfl | assumption) (by first | decide | omega | assumption) h3 rfl ?_
      refine wq_swN (j := 2) rfl (by rw [hk2]) (by decide) rfl ?_
      refine wq_go rfl (fun _ => rfl) ?_
      refine wq_callV rfl rfl (by first | rfl | assumption) (by first | decide | omega | assumption) (Nat.le_of_ble_eq_true rfl) (Nat.le_of_ble_eq_true rfl) rfl rfl ?_
      refine g_visit hG hv (fun G' sc' σ2 e2 l2 F2 R2 => ?_) (fun f' t' σ2 e2 F2 R2 => ?_)
      · skip
        refine wq_go rfl (fun _ => rfl) ?_
        exact wq_lv ⟨(by decide : ([1, 0] : List Nat).Nodup), (lvm (List.mem_of_getElem? (i := 0) rfl) (lvm (List.mem_of_getElem? (i := 1) rfl) lvn))⟩ (nx G' sc' σ2 (hd.trans e2) l2 F2 R2 hk)
      · skip
        refine wq_go rfl (fun _ => rfl) ?_
        exact wq_lv ⟨(by decide : ([1, 0] : List Nat).Nodup), (lvm (List.mem_of_getElem? (i := 0) rfl) (lvm (List.mem_of_getElem? (i := 1) rfl) lvn))⟩ (nf f' t' σ2 (hd.trans e2) F2 R2 hk)
    by_cases hk7 : Xk X (Gt G) = 7
    · have hd : declX X G = settX X G 0 30 3 := by
        unfold declX
        rw [hk7]
        rfl
      refine wq_go rfl (fun _ => rfl) ?_
      refine wq_cN (m := 400) rfl rfl ?_
      refine wq_cgt rfl (by first | omega | decide | exact Nat.lt_of_le_of_lt Nat.and_le_right (by decide) | exact ⟨by omega, by omega⟩) (by first | omega | decide | exact Nat.lt_of_le_of_lt Nat.and_le_right (by decide) | exact ⟨by omega, by omega⟩) (fun c => absurd c (by omega)) (fun c28 => ?_)
      refine wq_go rfl (fun _ => rfl) ?_
      refine wq_getf rfl (by first | rfl | assumption) (by first | decide | omega | assumption) h3 rfl ?_
      refine wq_zne rfl (by first | omega | decide | exact Nat.lt_of_le_of_lt Nat.and_le_right (by decide) | exact ⟨by omega, by omega⟩) (fun c => absurd c (by omega)) (fun c31 => ?_)
      refine wq_go rfl (fun _ => rfl) ?_
      refine wq_getf rfl (by first | rfl | assumption) (by first | decide | omega | assumption) h3 rfl ?_
      refine wq_cN (m := 34) rfl rfl ?_
      refine wq_ceq rfl (by first | omega | decide | exact Nat.lt_of_le_of_lt Nat.and_le_right (by decide) | exact ⟨by omega, by omega⟩) (by first | omega | decide | exact Nat.lt_of_le_of_lt Nat.and_le_right (by decide) | exact ⟨by omega, by omega⟩) (fun c => absurd c (by omega)) (fun c35 => ?_)
      refine wq_go rfl (fun _ => rfl) ?_
      refine wq_getf rfl (by first | rfl | assumption) (by first | decide | omega | assumption) h3 rfl ?_
      refine wq_swN (j := 7) rfl (by rw [hk7]) (by decide) rfl ?_
      exact wq_lv ⟨(by decide : ([1, 0] : List Nat).Nodup), (lvm (List.mem_of_getElem? (i := 0) rfl) (lvm (List.mem_of_getElem? (i := 1) rfl) lvn))⟩ (g_set48 hG hv hk7 (fun G' σ2 e2 l2 F2 R2 => nx G' sc σ2 (hd.trans e2) l2 F2 R2 hk) (fun f' t' σ2 e2 F2 R2 => nf f' t' σ2 (hd.trans e2) F2 R2 hk))
    by_cases hk8 : Xk X (Gt G) = 8
    · have hd : declX X G = settX X G 1 999 4 := by
        unfold declX
        rw [hk8]
        rfl
      refine wq_go rfl (fun _ => rfl) ?_
      refine wq_cN (m := 400) rfl rfl ?_
      refine wq_cgt rfl (by first | omega | decide | exact Nat.lt_of_le_of_lt Nat.and_le_right (by decide) | exact ⟨by omega, by omega⟩) (by first | omega | decide | exact Nat.lt_of_le_of_lt Nat.and_le_right (by decide) | exact ⟨by omega, by omega⟩) (fun c => absurd c (by omega)) (fun c28 => ?_)
      refine wq_go rfl (fun _ => rfl) ?_
      refine wq_getf rfl (by first | rfl | assumption) (by first | decide | omega | assumption) h3 rfl ?_
      refine wq_zne rfl (by first | omega | decide | exact Nat.lt_of_le_of_lt Nat.and_le_right (by decide) | exact ⟨by omega, by omega⟩) (fun c => absurd c (by omega)) (fun c31 => ?_)
      refine wq_go rfl (fun _ => rfl) ?_
      refine wq_getf rfl (by first | rfl | assumption) (by first | decide | omega | assumption) h3 rfl ?_
      refine wq_cN (m := 34) rfl rfl ?_
      refine wq_ceq rfl (by first | omega | decide | exact Nat.lt_of_le_of_lt Nat.and_le_right (by decide) | exact ⟨by omega, by omega⟩) (by first | omega | decide | exact Nat.lt_of_le_of_lt Nat.and_le_right (by decide) | exact ⟨by omega, by omega⟩) (fun c => absurd c (by omega)) (fun c35 => ?_)
      refine wq_go rfl (fun _ => rfl) ?_
      refine wq_getf rfl (by first | rfl | assumption) (by first | decide | omega | assumption) h3 rfl ?_
      refine wq_swN (j := 8) rfl (by rw [hk8]) (by decide) rfl ?_
      exact wq_lv ⟨(by decide : ([1, 0] : List Nat).Nodup), (lvm (List.mem_of_getElem? (i := 0) rfl) (lvm (List.mem_of_getElem? (i := 1) rfl) lvn))⟩ (g_set56 hG hv hk8 (fun G' σ2 e2 l2 F2 R2 => nx G' sc σ2 (hd.trans e2) l2 F2 R2 hk) (fun f' t' σ2 e2 F2 R2 => nf f' t' σ2 (hd.trans e2) F2 R2 hk))
    by_cases hk9 : Xk X (Gt G) = 9
    · have hd : declX X G = settX X G 0 100 5 := by
        unfold declX
        rw [hk9]
        rfl
      refine wq_go rfl (fun _ => rfl) ?_
      refine wq_cN (m := 400) rfl rfl ?_
      refine wq_cgt rfl (by first | omega | decide | exact Nat.lt_of_le_of_lt Nat.and_le_right (by decide) | exact ⟨by omega, by omega⟩) (by first | omega | decide | exact Nat.lt_of_le_of_lt Nat.and_le_right (by decide) | exact ⟨by omega, by omega⟩) (fun c => absurd c (by omega)) (fun c28 => ?_)
      refine wq_go rfl (fun _ => rfl) ?_
      refine wq_getf rfl (by first | rfl | assumption) (by first | decide | omega | assumption) h3 rfl ?_
      refine wq_zne rfl (by first | omega | decide | exact Nat.lt_of_le_of_lt Nat.and_le_right (by decide) | exact ⟨by omega, by omega⟩) (fun c => absurd c (by omega)) (fun c31 => ?_)
      refine wq_go rfl (fun _ => rfl) ?_
      refine wq_getf rfl (by first | rfl | assumption) (by first | decide | omega | assumption) h3 rfl ?_
      refine wq_cN (m := 34) rfl rfl ?_
      refine wq_ceq rfl (by first | omega | decide | exact Nat.lt_of_le_of_lt Nat.and_le_right (by decide) | exact ⟨by omega, by omega⟩) (by first | omega | decide | exact Nat.lt_of_le_of_lt Nat.and_le_right (by decide) | exact ⟨by omega, by omega⟩) (fun c => absurd c (by omega)) (fun c35 => ?_)
      refine wq_go rfl (fun _ => rfl) ?_
      refine wq_getf rfl (by first | rfl | assumption) (by first | decide | omega | assumption) h3 rfl ?_
      refine wq_swN (j := 9) rfl (by rw [hk9]) (by decide) rfl ?_
      exact wq_lv ⟨(by decide : ([1, 0] : List Nat).Nodup), (lvm (List.mem_of_getElem? (i := 0) rfl) (lvm (List.mem_of_getElem? (i := 1) rfl) lvn))⟩ (g_set64 hG hv hk9 (fun G' σ2 e2 l2 F2 R2 => nx G' sc σ2 (hd.trans e2) l2 F2 R2 hk) (fun f' t' σ2 e2 F2 R2 => nf f' t' σ2 (hd.trans e2) F2 R2 hk))
    by_cases hk10 : Xk X (Gt G) = 10
    · have hd : declX X G = settX X G 0 9999 6 := by
        unfold declX
        rw [hk10]
        rfl
      refine wq_go rfl (fun _ => rfl) ?_
      refine wq_cN (m := 400) rfl rfl ?_
      refine wq_cgt rfl (by first | omega | decide | exact Nat.lt_of_le_of_lt Nat.and_le_right (by decide) | exact ⟨by omega, by omega⟩) (by first | omega | decide | exact Nat.lt_of_le_of_lt Nat.and_le_right (by decide) | exact ⟨by omega, by omega⟩) (fun c => absurd c (by omega)) (fun c28 => ?_)
      refine wq_go rfl (fun _ => rfl) ?_
      refine wq_getf rfl (by first | rfl | assumption) (by first | decide | omega | assumption) h3 rfl ?_
      refine wq_zne rfl (by first | omega | decide | exact Nat.lt_of_le_of_lt Nat.and_le_right (by decide) | exact ⟨by omega, by omega⟩) (fun c => absurd c (by omega)) (fun c31 => ?_)
      refine wq_go rfl (fun _ => rfl) ?_
      refine wq_getf rfl (by first | rfl | assumption) (by first | decide | omega | assumption) h3 rfl ?_
      refine wq_cN (m := 34) rfl rfl ?_
      refine wq_ceq rfl (by first | omega | decide | exact Nat.lt_of_le_of_lt Nat.and_le_right (by decide) | exact ⟨by omega, by omega⟩) (by first | omega | decide | exact Nat.lt_of_le_of_lt Nat.and_le_right (by decide) | exact ⟨by omega, by omega⟩) (fun c => absurd c (by omega)) (fun c35 => ?_)
      refine wq_go rfl (fun _ => rfl) ?_
      refine wq_getf rfl (by first | rfl | assumption) (by first | decide | omega | assumption) h3 rfl ?_
      refine wq_swN (j := 10) rfl (by rw [hk10]) (by decide) rfl ?_
      exact wq_lv ⟨(by decide : ([1, 0] : List Nat).Nodup), (lvm (List.mem_of_getElem? (i := 0) rfl) (lvm (List.mem_of_getElem? (i := 1) rfl) lvn))⟩ (g_set72 hG hv hk10 (fun G' σ2 e2 l2 F2 R2 => nx G' sc σ2 (hd.trans e2) l2 F2 R2 hk) (fun f' t' σ2 e2 F2 R2 => nf f' t' σ2 (hd.trans e2) F2 R2 hk))
    have hd : declX X G = lawG X G := by unfold declX; rw [if_neg hk0, if_neg hk1, if_neg hk2, if_neg hk7, if_neg hk8, if_neg hk9, if_neg hk10]
    refine wq_go rfl (fun _ => rfl) ?_
    refine wq_cN (m := 400) rfl rfl ?_
    refine wq_cgt rfl (by first | omega | decide | exact Nat.lt_of_le_of_lt Nat.and_le_right (by decide) | exact ⟨by omega, by omega⟩) (by first | omega | decide | exact Nat.lt_of_le_of_lt Nat.and_le_right (by decide) | exact ⟨by omega, by omega⟩) (fun c => absurd c (by omega)) (fun c28 => ?_)
    refine wq_go rfl (fun _ => rfl) ?_
    refine wq_getf rfl (by first | rfl | assumption) (by first | decide | omega | assumption) h3 rfl ?_
    refine wq_zne rfl (by first | omega | decide | exact Nat.lt_of_le_of_lt Nat.and_le_right (by decide) | exact ⟨by omega, by omega⟩) (fun c => absurd c (by omega)) (fun c31 => ?_)
    refine wq_go rfl (fun _ => rfl) ?_
    refine wq_getf rfl (by first | rfl | assumption) (by first | decide | omega | assumption) h3 rfl ?_
    refine wq_cN (m := 34) rfl rfl ?_
    refine wq_ceq rfl (by first | omega | decide | exact Nat.lt_of_le_of_lt Nat.and_le_right (by decide) | exact ⟨by omega, by omega⟩) (by first | omega | decide | exact Nat.lt_of_le_of_lt Nat.and_le_right (by decide) | exact ⟨by omega, by omega⟩) (fun c => absurd c (by omega)) (fun c35 => ?_)
    refine wq_go rfl (fun _ => rfl) ?_
    refine wq_getf rfl (by first | rfl | assumption) (by first | decide | omega | assumption) h3 rfl ?_
    have h80 : Wq xs (d + 24) ax_cd31 80 [(1, .int (nI i)), (0, .ref 3)] [] σ1 Q := by
      refine wq_go rfl (fun _ => rfl) ?_
      refine wq_callV rfl rfl (by first | rfl | assumption) (by first | decide | omega | assumption) (Nat.le_of_ble_eq_true rfl) (Nat.le_of_ble_eq_true rfl) rfl rfl ?_
      refine g_law hG hv (by omega) (fun G' sc' σ2 e2 l2 F2 R2 => ?_) (fun f' t' σ2 e2 F2 R2 => ?_)
      · skip
        exact wq_lv ⟨(by decide : ([1, 0] : List Nat).Nodup), (lvm (List.mem_of_getElem? (i := 0) rfl) (lvm (List.mem_of_getElem? (i := 1) rfl) lvn))⟩ (nx G' sc' σ2 (hd.trans e2) l2 F2 R2 hk)
      · skip
        exact wq_lv ⟨(by decide : ([1, 0] : List Nat).Nodup), (lvm (List.mem_of_getElem? (i := 0) rfl) (lvm (List.mem_of_getElem? (i := 1) rfl) lvn))⟩ (nf f' t' σ2 (hd.trans e2) F2 R2 hk)
    rcases (show Xk X (Gt G) = 3 ∨ Xk X (Gt G) = 4 ∨ Xk X (Gt G) = 5 ∨ Xk X (Gt G) = 6 ∨ 11 ≤ Xk X (Gt G) by omega) with e | e | e | e | e
    · exact wq_swN (j := 3) rfl (by rw [e]) (by decide) rfl (wq_lv ⟨(by decide : ([1, 0] : List Nat).Nodup), (lvm (List.mem_of_getElem? (i := 0) rfl) (lvm (List.mem_of_getElem? (i := 1) rfl) lvn))⟩ h80)
    · exact wq_swN (j := 4) rfl (by rw [e]) (by decide) rfl (wq_lv ⟨(by decide : ([1, 0] : List Nat).Nodup), (lvm (List.mem_of_getElem? (i := 0) rfl) (lvm (List.mem_of_getElem? (i := 1) rfl) lvn))⟩ h80)
    · exact wq_swN (j := 5) rfl (by rw [e]) (by decide) rfl (wq_lv ⟨(by decide : ([1, 0] : List Nat).Nodup), (lvm (List.mem_of_getElem? (i := 0) rfl) (lvm (List.mem_of_getElem? (i := 1) rfl) lvn))⟩ h80)
    · exact wq_swN (j := 6) rfl (by rw [e]) (by decide) rfl (wq_lv ⟨(by decide : ([1, 0] : List Nat).Nodup), (lvm (List.mem_of_getElem? (i := 0) rfl) (lvm (List.mem_of_getElem? (i := 1) rfl) lvn))⟩ h80)
    · exact wq_swD 11 rfl (by decide) (by decide) (fun a ha q => by have := (nI_eq (by omega) (by omega)).mp q; omega) (wq_lv ⟨(by decide : ([1, 0] : List Nat).Nodup), (lvm (List.mem_of_getElem? (i := 0) rfl) (lvm (List.mem_of_getElem? (i := 1) rfl) lvn))⟩ h80)
