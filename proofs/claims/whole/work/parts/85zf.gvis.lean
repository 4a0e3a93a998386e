/-! A VISIT, IN TERMS OF THE GRAMMAR -/
theorem pok_V {P : Pl} {a b c : Nat} (h : Pok P) (hn : Pvs P < 10) (ha : a < Phd P) (hb : b < Pch P) (hc : c < 24) : Pok (addV P a b c) := by
  obtain ⟨h1, h2, h3, h4, h5, h6, h7, h8, h9, h10, h11, h12, h13⟩ := h
  refine ⟨h1, h2, show Pvs P + 1 ≤ 10 by omega, h4, h5, h6, h7, h8, fun i hi => ?_, h10, h11, h12, h13⟩
  have hi : i < Pvs P + 1 := hi
  show updN (Pvh P) (Pvs P) a i < Phd P ∧ updN (Pvc P) (Pvs P) b i < Pch P ∧ updN (Pvt P) (Pvs P) c i < 24
  unfold updN
  by_cases e : i = Pvs P
  · simp only [if_pos e]
    exact ⟨ha, hb, hc⟩
  · simp only [if_neg e]
    exact h9 i (by omega)
theorem nm_h {G : Gs} {sc : Nat} {gc gh : Nat → Int64} {y : Nat → Int32} {σ : Nat → List Value} (h : RdC G sc gc gh y σ) (x : Int64) : nmb gh (Phd (GP G)) x = nmb (Gh G) (Phd (GP G)) x := nb_congr _ 0 (fun j _ hj => h.2.2.1 j (by omega))
theorem nm_c {G : Gs} {sc : Nat} {gc gh : Nat → Int64} {y : Nat → Int32} {σ : Nat → List Value} (h : RdC G sc gc gh y σ) (x : Int64) : nmb gc (Pch (GP G)) x = nmb (Gc G) (Pch (GP G)) x := nb_congr _ 0 (fun j _ hj => h.2.1 j (by omega))
theorem nm_some {o : Option Nat} (h : o.isNone = false) : o = some (o.getD 0) := by
  cases o with
  | none => cases h
  | some i => rfl
theorem upd_nn {n m k : Nat} {f : Nat → Int32} {F : Nat → Nat} {x : Nat} {v : Int32} (e : v = nI x) (h : ∀ i, i < k → f i = nI (F i)) : ∀ i, i < k + 1 → upd f k v i = nI (updN F k x i) := by
  intro i hi
  unfold upd updN
  split
  · exact e
  · exact h i (by omega)
theorem g_visit {xs : List Int32} {d : Nat} {σ : Nat → List Value} {Q : Option Value → (Nat → List Value) → Prop} {X : Tx} {G : Gs} {sc : Nat} (h : RdG X G sc σ) (hv : ∀ i, Xv X i < 10000) (K1 : ∀ G' sc' σ', visitX X G = .inr G' → Gt G < Gt G' → Fr xD σ σ' → RdG X G' sc' σ' → Q none σ') (K0 : ∀ f' t' σ', visitX X G = er f' t' → Fr xD σ σ' → RdF X f' t' σ' → Q none σ') : Wq xs (d + 3) ax_cd63 0 [(0, .ref 3)] [] σ Q := by
  obtain ⟨hL, hop, gc, gh, y, hW, hgc, hgh, hC⟩ := h
  refine c_visit hW hgc hgh hL hv (fun t1 t2 t3 t4 t5 σ' hn m1 m2 m3 m4 m5 q5 W' o e4 e8 e9 e10 => ?_) (fun f' t' w' σ' e n F W => ?_)
  · have ew : wn (wn (Gw G) (nmb gh (Phd (GP G)) (Xn X t1)).isNone 4 (Xp X t1)) (nmb gc (Pch (GP G)) (Xn X t2)).isNone 4 (Xp X t2) = wn (wn (Gw G) (nmb (Gh G) (Phd (GP G)) (Xn X t1)).isNone 4 (Xp X t1)) (nmb (Gc G) (Pch (GP G)) (Xn X t2)).isNone 4 (Xp X t2) := by
      rw [wn_cg (w := Gw G) (fun e => by rw [nm_h (hC e) (Xn X t1)])]
      exact wn_cg (fun e => by rw [nm_c (hC (wn_ne _ e).1) (Xn X t2)])
    rw [ew] at W'
    refine K1 (t5, wn (wn (wn (Gw G) (nmb (Gh G) (Phd (GP G)) (Xn X t1)).isNone 4 (Xp X t1)) (nmb (Gc G) (Pch (GP G)) (Xn X t2)).isNone 4 (Xp X t2)) (outB X t3 0 23) 5 (Xp X t3), addV (GP G) ((nmb (Gh G) (Phd (GP G)) (Xn X t1)).getD 0) ((nmb (Gc G) (Pch (GP G)) (Xn X t2)).getD 0) (Xv X t3), Gc G, Gh G) sc σ' ?_ (show Gt G < t5 by omega) (fun j hj => o j (by have := xD_i hj; omega)) ⟨okL_n _ _ _ (okL_n _ _ _ (okL_n _ _ _ hL (by decide)) (by decide)) (by decide), (show sc ≤ 8 + t5 by omega), gc, gh, y, W', (o 13 (by omega)).trans hgc, (o 14 (by omega)).trans hgh, fun hw => ?_⟩
    · unfold visitX
      rw [if_neg (by omega)]
      simp only [intX, m1, m2, m3, m4, m5, bnd_o]
    · have w1 := wn_ne _ hw
      have w2 := wn_ne _ w1.1
      have w3 := wn_ne _ w2.1
      have hc0 := hC w3.1
      obtain ⟨⟨c1, c2, c3, c4, c5, c6, c7, c8⟩, ns⟩ := hC w3.1
      have s1 := nm_some w3.2
      have s2 := nm_some w2.2
      have hm : Xv X t3 < 24 := by
        have q := of_decide_eq_false w1.2
        omega
      refine ⟨⟨fun i hi => (ag_eq (o 5 (by omega)) i).trans (c1 i hi), fun i hi => (ag_eq (o 6 (by omega)) i).trans (c2 i hi), fun i hi => (ag_eq (o 7 (by omega)) i).trans (c3 i hi), fun i hi => ?_, fun i hi => ?_, fun i hi => ?_, fun l hl => ?_, pok_V c8 hn (nmb_lt s1) (nmb_lt s2) hm⟩, ns⟩
      · have hi : i < Pvs (GP G) + 1 := hi
        rw [ag_in e8 (by omega)]
        exact upd_nn (n := 0) (m := 0) (by rw [nm_h hc0, s1]; rfl) c4 i hi
      · have hi : i < Pvs (GP G) + 1 := hi
        rw [ag_in e9 (by omega)]
        exact upd_nn (n := 0) (m := 0) (by rw [nm_c hc0, s2]; rfl) c5 i hi
      · have hi : i < Pvs (GP G) + 1 := hi
        rw [ag_in e10 (by omega)]
        exact upd_nn (n := 0) (m := 0) rfl c6 i hi
      · obtain ⟨s, s1, s2⟩ := c7 l hl
        exact ⟨s, (ag_eq (o 12 (by omega)) l).trans s1, fun g' hg => s2 g' (fun i hi => (hg i hi).trans (ag_eq (o 11 (by omega)) i))⟩
  · refine K0 f' t' σ' ?_ (f3D F) ⟨n, sc, _, _, _, _, w', W⟩
    unfold visitX
    split
    · next h4 => rw [if_pos h4] at e; exact er_c e
    · next h4 =>
      rw [if_neg h4] at e
      revert e
      cases must X 2 (Gt G) with
      | inl e => exact fun e => er_c e
      | inr t1 =>
        rw [bnd_o, bnd_o]
        cases must X 23 t1 with
        | inl e => exact fun e => er_c e
        | inr t2 =>
          rw [bnd_o, bnd_o]
          cases must X 23 t2 with
          | inl e => exact fun e => er_c e
          | inr t3 =>
            rw [bnd_o, bnd_o]
            unfold intX
            cases must X 24 t3 with
            | inl e => exact fun e => er_c e
            | inr t4 =>
              simp only [bnd_o]
              cases must X 25 t4 with
              | inl e => exact fun e => er_c e
              | inr t5 => exact fun e => by cases e
