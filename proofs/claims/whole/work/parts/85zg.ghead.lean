/-! A HEAD, IN TERMS OF THE GRAMMAR -/
theorem pok_H {P : Pl} {m : Nat} {a : Nat → Nat} (h : Pok P) (hn : Phd P < 5) (hm : m ≤ 9) (ha : ∀ j, j < 4 → a j ≤ 99) : Pok (addH P m a) := by
  obtain ⟨h1, h2, h3, h4, h5, h6, h7, h8, h9, h10, h11, h12, h13⟩ := h
  refine ⟨h1, show Phd P + 1 ≤ 5 by omega, h3, h4, h5, h6, h7, h8, fun i hi => ?_, h10, fun i hi => ?_, fun i hi => ?_, h13⟩
  · have := h9 i hi
    exact ⟨Nat.lt_succ_of_lt this.1, this.2.1, this.2.2⟩
  · show updN (Poi P) (Phd P) m i ≤ 9
    have hi : i < Phd P + 1 := hi
    unfold updN
    split
    · exact hm
    · exact h11 i (by omega)
  · have hi : i < (Phd P + 1) * 4 := hi
    show (if Phd P * 4 ≤ i then a (i - Phd P * 4) else Pow P i) ≤ 99
    split
    · exact ha _ (by omega)
    · exact h12 i (by omega)
theorem f0D {σ σ' : Nat → List Value} (F : Fr xO σ σ') : Fr xD σ σ' := fr_mono F (by
  intro j h
  simp only [xO, Bool.or_eq_true, beq_iff_eq] at h
  rcases h with h | h <;> (subst h; rfl))
theorem g_head {xs : List Int32} {d : Nat} {σ : Nat → List Value} {Q : Option Value → (Nat → List Value) → Prop} {X : Tx} {G : Gs} {sc : Nat} (h : RdG X G sc σ) (hv : ∀ i, Xv X i < 10000) (K1 : ∀ G' sc' σ', headX X G = .inr G' → Gt G < Gt G' → Fr xD σ σ' → RdG X G' sc' σ' → Q none σ') (K0 : ∀ f' t' σ', headX X G = er f' t' → Fr xD σ σ' → RdF X f' t' σ' → Q none σ') : Wq xs (d + 3) ax_cd60 0 [(0, .ref 3)] [] σ Q := by
  obtain ⟨hL, hop, gc, gh, y, hW, hgc, hgh, hC⟩ := h
  refine c_head hW hgc hgh hL hv (fun t1 t2 t3 t4 t5 t6 t7 t8 σ' hn m1 m2 m3 m4 m5 m6 m7 m8 q8 W' o e4 e6 e14 a0 a1 a2 a3 ao => ?_) (fun f' t' w' σ' e n F W => ?_)
  · rw [wn_cg (w := Gw G) (fun e => dup_eq (hC e) (Xn X t1))] at W'
    have r3 := (must_k m3).2.1
    have r4 := (must_k m4).2.1
    have r5 := (must_k m5).2.1
    have r6 := (must_k m6).2.1
    refine K1 (t8, wn (wn (wn (wn (wn (wn (Gw G) (dupB G (Xn X t1)) 3 (Xp X t1)) (outB X t2 0 9) 5 (Xp X t2)) (outB X t3 0 99) 5 (Xp X t3)) (outB X t4 0 99) 5 (Xp X t4)) (outB X t5 0 99) 5 (Xp X t5)) (outB X t6 0 99) 5 (Xp X t6), addH (GP G) (Xv X t2) (fun j => Xv X (t2 + 1 + j)), Gc G, upI (Gh G) (Phd (GP G)) (Xn X t1)) sc σ' ?_ (show Gt G < t8 by omega) (fun j hj => o j (by have := xD_i hj; omega)) ⟨okL_n _ _ _ (okL_n _ _ _ (okL_n _ _ _ (okL_n _ _ _ (okL_n _ _ _ (okL_n _ _ _ (hL) (by decide)) (by decide)) (by decide)) (by decide)) (by decide)) (by decide), (show sc ≤ 8 + t8 by omega), gc, vp_updL gh (Phd (GP G)) (Xn X t1), y, W', (o 13 (by omega)).trans hgc, e14, fun hw => ?_⟩
    · unfold headX
      rw [if_neg (by omega)]
      simp only [intX, m1, m2, m3, m4, m5, m6, m7, m8, bnd_o]
    · have w6 := wn_ne _ hw
      have w5 := wn_ne _ w6.1
      have w4 := wn_ne _ w5.1
      have w3 := wn_ne _ w4.1
      have w2 := wn_ne _ w3.1
      have w1 := wn_ne _ w2.1
      obtain ⟨⟨c1, c2, c3, c4, c5, c6, c7, c8⟩, n1, n2, ys⟩ := hC w1.1
      have b2 := of_decide_eq_false w2.2
      have b3 := of_decide_eq_false w3.2
      have b4 := of_decide_eq_false w4.2
      have b5 := of_decide_eq_false w5.2
      have b6 := of_decide_eq_false w6.2
      have u4 : t4 = t2 + 1 + 1 := by omega
      have u5 : t5 = t2 + 1 + 2 := by omega
      have u6 : t6 = t2 + 1 + 3 := by omega
      subst r3
      rw [u4] at b4 a1
      rw [u5] at b5 a2
      rw [u6] at b6 a3
      refine ⟨⟨fun i hi => (ag_eq (o 5 (by omega)) i).trans (c1 i hi), fun i hi => ?_, fun i hi => ?_, fun i hi => (ag_eq (o 8 (by omega)) i).trans (c4 i hi), fun i hi => (ag_eq (o 9 (by omega)) i).trans (c5 i hi), fun i hi => (ag_eq (o 10 (by omega)) i).trans (c6 i hi), fun l hl => ?_, pok_H (m := Xv X t2) (a := fun j => Xv X (t2 + 1 + j)) c8 hn (by omega) (fun j hj => ?_)⟩, n1, fun i hi => ?_, ys⟩
      · have hi : i < Phd (GP G) + 1 := hi
        rw [ag_in e6 (by omega)]
        exact upd_nn (n := 0) (m := 0) rfl c2 i hi
      · have hi : i < (Phd (GP G) + 1) * 4 := hi
        show ag σ' 7 i = nI (if Phd (GP G) * 4 ≤ i then Xv X (t2 + 1 + (i - Phd (GP G) * 4)) else Pow (GP G) i)
        split
        · next hge =>
          rcases (show i = Phd (GP G) * 4 ∨ i = Phd (GP G) * 4 + 1 ∨ i = Phd (GP G) * 4 + 2 ∨ i = Phd (GP G) * 4 + 3 by omega) with e | e | e | e
          · rw [e, Nat.sub_self]; exact a0
          · rw [e, Nat.add_sub_cancel_left]; exact a1
          · rw [e, Nat.add_sub_cancel_left]; exact a2
          · rw [e, Nat.add_sub_cancel_left]; exact a3
        · exact (ao i (by omega)).trans (c3 i (by omega))
      · obtain ⟨s, s1, s2⟩ := c7 l hl
        exact ⟨s, (ag_eq (o 12 (by omega)) l).trans s1, fun g' hg => s2 g' (fun i hi => (hg i hi).trans (ag_eq (o 11 (by omega)) i))⟩
      · show Xv X (t2 + 1 + j) ≤ 99
        rcases (show j = 0 ∨ j = 1 ∨ j = 2 ∨ j = 3 by omega) with e | e | e | e <;> subst e
        · show Xv X (t2 + 1) ≤ 99
          omega
        · omega
        · omega
        · omega
      · have hi : i < Phd (GP G) + 1 := hi
        show vp_updL gh (Phd (GP G)) (Xn X t1) i = upI (Gh G) (Phd (GP G)) (Xn X t1) i
        unfold vp_updL upI
        split
        · rfl
        · exact n2 i (by omega)
  · refine K0 f' t' σ' ?_ (f0D F) ⟨n, sc, _, _, _, _, w', W⟩
    unfold headX
    split
    · next h4 => rw [if_pos h4] at e; exact er_c e
    · next h4 =>
      rw [if_neg h4] at e
      revert e
      cases must X 1 (Gt G) with
      | inl e => exact fun e => er_c e
      | inr t1 =>
        rw [bnd_o, bnd_o]
        cases must X 23 t1 with
        | inl e => exact fun e => er_c e
        | inr t2 =>
          rw [bnd_o, bnd_o]
          unfold intX
          cases must X 24 t2 with
          | inl e => exact fun e => er_c e
          | inr t3 =>
            simp only [bnd_o]
            cases must X 24 t3 with
            | inl e => exact fun e => er_c e
            | inr t4 =>
              simp only [bnd_o]
              cases must X 24 t4 with
              | inl e => exact fun e => er_c e
              | inr t5 =>
                simp only [bnd_o]
                cases must X 24 t5 with
                | inl e => exact fun e => er_c e
                | inr t6 =>
                  simp only [bnd_o]
                  cases must X 24 t6 with
                  | inl e => exact fun e => er_c e
                  | inr t7 =>
                    simp only [bnd_o]
                    cases must X 25 t7 with
                    | inl e => exact fun e => er_c e
                    | inr t8 => exact fun e => by cases e
