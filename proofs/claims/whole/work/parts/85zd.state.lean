/-! WHAT THE CLASS HAS READ SO FAR -/
def DrC (P : Pl) (sc : Nat) (σ : Nat → List Value) : Prop := (∀ i, i < Pch P → ag σ 5 i = nI (Pme P i)) ∧ (∀ i, i < Phd P → ag σ 6 i = nI (Poi P i)) ∧ (∀ i, i < Phd P * 4 → ag σ 7 i = nI (Pow P i)) ∧ (∀ i, i < Pvs P → ag σ 8 i = nI (Pvh P i)) ∧ (∀ i, i < Pvs P → ag σ 9 i = nI (Pvc P i)) ∧ (∀ i, i < Pvs P → ag σ 10 i = nI (Pvt P i)) ∧ (∀ l, l < 4 → ∃ s, ag σ 12 l = nI s ∧ ∀ g' : Nat → Int32, (∀ i, i < sc → g' i = ag σ 11 i) → lawAt g' s (Plw P l).1 (Plw P l).2) ∧ Pok P
/-- with no lesser fault the draft stands for the plan -/
def RdC (G : Gs) (sc : Nat) (gc gh : Nat → Int64) (y : Nat → Int32) (σ : Nat → List Value) : Prop := DrC (GP G) sc σ ∧ (∀ i, i < Pch (GP G) → gc i = Gc G i) ∧ (∀ i, i < Phd (GP G) → gh i = Gh G i) ∧ y 4 = nI (Pmo (GP G)) ∧ y 5 = nI (Psa (GP G)) ∧ y 6 = nI (Pmt (GP G)) ∧ y 7 = nI (Psd (GP G))
def RdG (X : Tx) (G : Gs) (sc : Nat) (σ : Nat → List Value) : Prop := okL (Gw G) ∧ sc ≤ 8 + Gt G ∧ ∃ gc gh y, RdW X 0 (Gt G) sc (Pch (GP G)) (Phd (GP G)) (Pvs (GP G)) y (Gw G) σ ∧ σ 13 = arrL 4 gc ∧ σ 14 = arrL 5 gh ∧ (Gw G = none → RdC G sc gc gh y σ)
/-- a fault is noted, at t -/
def RdF (X : Tx) (f t : Nat) (σ : Nat → List Value) : Prop := ¬ f = 0 ∧ ∃ sc nc nh nv y w, RdW X f t sc nc nh nv y w σ
def xD : Nat → Bool := fun j => Nat.ble 3 j && Nat.ble j 14
theorem xD_o {j : Nat} (h : j < 3 ∨ 14 < j) : xD j = false := by
  unfold xD
  rcases Nat.lt_or_ge j 3 with q | q
  · rw [ble_f q]; rfl
  · rw [show Nat.ble j 14 = false from ble_f (by omega)]; simp
theorem xD_i {j : Nat} (h : xD j = false) : j < 3 ∨ 14 < j := by
  rcases Nat.lt_or_ge j 3 with q | q
  · exact Or.inl q
  · rcases Nat.lt_or_ge 14 j with r | r
    · exact Or.inr r
    · exfalso
      unfold xD at h
      rw [Nat.ble_eq_true_of_le q, Nat.ble_eq_true_of_le r] at h
      cases h
theorem f3D {σ σ' : Nat → List Value} (F : Fr x3 σ σ') : Fr xD σ σ' := fr_mono F (by
  intro j h
  simp only [x3, beq_iff_eq] at h
  subst h
  rfl)
theorem wn_cg {w : Option (Nat × Nat)} {b b' : Bool} {k p : Nat} (h : w = none → b = b') : wn w b k p = wn w b' k p := by
  cases w with
  | some q => rfl
  | none => rw [h rfl]
theorem dup_eq {G : Gs} {sc : Nat} {gc gh : Nat → Int64} {y : Nat → Int32} {σ : Nat → List Value} (h : RdC G sc gc gh y σ) (x : Int64) : ((nmb gc (Pch (GP G)) x).isSome || (nmb gh (Phd (GP G)) x).isSome) = dupB G x := by
  unfold dupB nmb
  rw [nb_congr _ 0 (fun j _ hj => h.2.1 j (by omega)), nb_congr _ 0 (fun j _ hj => h.2.2.1 j (by omega))]
theorem pok_C {P : Pl} {m : Nat} (h : Pok P) (hc : Pch P < 4) (hm : m ≤ 9) : Pok (addC P m) := by
  obtain ⟨h1, h2, h3, h4, h5, h6, h7, h8, h9, h10, h11, h12, h13⟩ := h
  refine ⟨show Pch P + 1 ≤ 4 by omega, h2, h3, h4, h5, h6, h7, h8, fun i hi => ?_, fun i hi => ?_, h11, h12, h13⟩
  · have := h9 i hi
    exact ⟨this.1, Nat.lt_succ_of_lt this.2.1, this.2.2⟩
  · show updN (Pme P) (Pch P) m i ≤ 9
    have hi : i < Pch P + 1 := hi
    unfold updN
    split
    · exact hm
    · exact h10 i (by omega)
theorem er_c {α β : Type} {x : Nat × Nat} {f t : Nat} (h : (Sum.inl x : Rs α) = er f t) : (Sum.inl x : Rs β) = er f t := by
  cases h
  rfl
theorem g_chair {xs : List Int32} {d : Nat} {σ : Nat → List Value} {Q : Option Value → (Nat → List Value) → Prop} {X : Tx} {G : Gs} {sc : Nat} (h : RdG X G sc σ) (hv : ∀ i, Xv X i < 10000) (K1 : ∀ G' sc' σ', chairX X G = .inr G' → Gt G < Gt G' → Fr xD σ σ' → RdG X G' sc' σ' → Q none σ') (K0 : ∀ f' t' σ', chairX X G = er f' t' → Fr xD σ σ' → RdF X f' t' σ' → Q none σ') : Wq xs (d + 3) ax_cd48 0 [(0, .ref 3)] [] σ Q := by
  obtain ⟨hL, hop, gc, gh, y, hW, hgc, hgh, hC⟩ := h
  refine c_chair hW hgc hgh hL hv (fun t1 t2 t3 t4 σ' hn m1 m2 m3 m4 q4 W' o e4 e5 e13 => ?_) (fun f' t' w' σ' e n F W => ?_)
  · rw [wn_cg (w := Gw G) (fun e => dup_eq (hC e) (Xn X t1))] at W'
    refine K1 (t4, wn (wn (Gw G) (dupB G (Xn X t1)) 3 (Xp X t1)) (outB X t2 0 9) 5 (Xp X t2), addC (GP G) (Xv X t2), upI (Gc G) (Pch (GP G)) (Xn X t1), Gh G) sc σ' ?_ (show Gt G < t4 by omega) (fun j hj => o j (by have := xD_i hj; omega)) ⟨okL_n _ _ _ (okL_n _ _ _ hL (by decide)) (by decide), (show sc ≤ 8 + t4 by omega), vp_updL gc (Pch (GP G)) (Xn X t1), gh, y, W', e13, (o 14 (by omega)).trans hgh, fun hw => ?_⟩
    · unfold chairX
      rw [if_neg (by omega)]
      simp only [intX, m1, m2, m3, m4, bnd_o]
    · have w1 := wn_ne _ hw
      have w2 := wn_ne _ w1.1
      obtain ⟨⟨c1, c2, c3, c4, c5, c6, c7, c8⟩, n1, n2, ys⟩ := hC w2.1
      have hm : Xv X t2 ≤ 9 := by
        have q := of_decide_eq_false w1.2
        omega
      refine ⟨⟨fun i hi => ?_, fun i hi => (ag_eq (o 6 (by omega)) i).trans (c2 i hi), fun i hi => (ag_eq (o 7 (by omega)) i).trans (c3 i hi), fun i hi => (ag_eq (o 8 (by omega)) i).trans (c4 i hi), fun i hi => (ag_eq (o 9 (by omega)) i).trans (c5 i hi), fun i hi => (ag_eq (o 10 (by omega)) i).trans (c6 i hi), fun l hl => ?_, pok_C c8 hn hm⟩, fun i hi => ?_, n2, ys⟩
      · have hi : i < Pch (GP G) + 1 := hi
        rw [ag_in e5 (by omega)]
        show upd (ag σ 5) (Pch (GP G)) (nI (Xv X t2)) i = nI (updN (Pme (GP G)) (Pch (GP G)) (Xv X t2) i)
        unfold upd updN
        split
        · rfl
        · exact c1 i (by omega)
      · obtain ⟨s, s1, s2⟩ := c7 l hl
        exact ⟨s, (ag_eq (o 12 (by omega)) l).trans s1, fun g' hg => s2 g' (fun i hi => (hg i hi).trans (ag_eq (o 11 (by omega)) i))⟩
      · have hi : i < Pch (GP G) + 1 := hi
        show vp_updL gc (Pch (GP G)) (Xn X t1) i = upI (Gc G) (Pch (GP G)) (Xn X t1) i
        unfold vp_updL upI
        split
        · rfl
        · exact n1 i (by omega)
  · refine K0 f' t' σ' ?_ (f3D F) ⟨n, sc, _, _, _, _, w', W⟩
    unfold chairX
    split
    · next h4 => rw [if_pos h4] at e; exact er_c e
    · next h4 =>
      rw [if_neg h4] at e
      revert e
      cases must X 0 (Gt G) with
      | inl e => exact fun e => er_c e
      | inr t1 =>
        rw [bnd_o, bnd_o]
        cases must X 23 t1 with
        | inl e => exact fun e => er_c e
        | inr t2 =>
          rw [bnd_o, bnd_o]
          unfold intX
          cases must X 24 t2 with
          | inl e => exact fun e => er_c e
          | inr t3 =>
            simp only [bnd_o]
            cases must X 25 t3 with
            | inl e => exact fun e => er_c e
            | inr t4 => exact fun e => by cases e
