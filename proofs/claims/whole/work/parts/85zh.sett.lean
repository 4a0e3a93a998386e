/-! SETTINGS, IN TERMS OF THE GRAMMAR -/
theorem rdw_y {X : Tx} {f t sc nc nh nv : Nat} {y y' : Nat → Int32} {w : Option (Nat × Nat)} {σ : Nat → List Value} (h : RdW X f t sc nc nh nv y w σ) : RdW X f t sc nc nh nv y' w (up σ 4 (drO sc nc nh nv y')) := by
  obtain ⟨⟨fp, h3⟩, _, h5, h6, h7, h8, h9, h10, h11, h12, h13⟩ := h
  exact ⟨⟨fp, (up_ne _ _ (by decide)).trans h3⟩, up_same _ _ _, h5, h6, h7, h8, shp_eq h9 (fun j a b => up_ne _ _ (by omega)), tkx_eq h10 (fun j a b => up_ne _ _ (by omega)), h11, h12, h13⟩
theorem drc_fr {P : Pl} {sc : Nat} {σ σ' : Nat → List Value} (h : DrC P sc σ) (o : ∀ j, 5 ≤ j → j ≤ 12 → σ' j = σ j) (P' : Pl) (e : ∀ j, j < 3 → P'.1 j = P.1 j) (e2 : P'.2 = P.2) (hP : Pok P') : DrC P' sc σ' := by
  obtain ⟨c1, c2, c3, c4, c5, c6, c7, c8⟩ := h
  obtain ⟨p1, p2⟩ := P'
  obtain ⟨q1, q2⟩ := P
  simp only at e e2
  subst e2
  have e0 := e 0 (by decide)
  have e1 := e 1 (by decide)
  have e2 := e 2 (by decide)
  refine ⟨fun i hi => (ag_eq (o 5 (by omega) (by omega)) i).trans (c1 i (by have hi : i < p1 0 := hi; show i < q1 0; omega)), fun i hi => (ag_eq (o 6 (by omega) (by omega)) i).trans (c2 i (by have hi : i < p1 1 := hi; show i < q1 1; omega)), fun i hi => (ag_eq (o 7 (by omega) (by omega)) i).trans (c3 i (by have hi : i < p1 1 * 4 := hi; show i < q1 1 * 4; omega)), fun i hi => (ag_eq (o 8 (by omega) (by omega)) i).trans (c4 i (by have hi : i < p1 2 := hi; show i < q1 2; omega)), fun i hi => (ag_eq (o 9 (by omega) (by omega)) i).trans (c5 i (by have hi : i < p1 2 := hi; show i < q1 2; omega)), fun i hi => (ag_eq (o 10 (by omega) (by omega)) i).trans (c6 i (by have hi : i < p1 2 := hi; show i < q1 2; omega)), fun l hl => ?_, hP⟩
  obtain ⟨s, s1, s2⟩ := c7 l hl
  exact ⟨s, (ag_eq (o 12 (by omega) (by omega)) l).trans s1, fun g' hg => s2 g' (fun i hi => (hg i hi).trans (ag_eq (o 11 (by omega) (by omega)) i))⟩
