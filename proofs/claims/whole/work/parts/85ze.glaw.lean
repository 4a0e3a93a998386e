/-! A LAW, IN TERMS OF THE GRAMMAR -/
theorem pok_L {P : Pl} {l : Nat} {L : KLaw} (h : Pok P) (hL : wfl L.1 L.2 = true) : Pok (setL P l L) := by
  obtain ⟨h1, h2, h3, h4, h5, h6, h7, h8, h9, h10, h11, h12, h13⟩ := h
  refine ⟨h1, h2, h3, h4, h5, h6, h7, h8, h9, h10, h11, h12, fun j hj => ?_⟩
  show wfl (if j = l then L else Plw P j).1 (if j = l then L else Plw P j).2 = true
  split
  · exact hL
  · exact h13 j hj
theorem fLD {σ σ' : Nat → List Value} (F : Fr xL σ σ') : Fr xD σ σ' := fr_mono F (by
  intro j h
  simp only [xL, Bool.or_eq_true, beq_iff_eq] at h
  rcases h with ((h | h) | h) | h <;> (subst h; rfl))
theorem g_law {xs : List Int32} {d : Nat} {σ : Nat → List Value} {Q : Option Value → (Nat → List Value) → Prop} {X : Tx} {G : Gs} {sc : Nat} (h : RdG X G sc σ) (hv : ∀ i, Xv X i < 10000) (h3 : 3 ≤ Xk X (Gt G)) (K1 : ∀ G' sc' σ', lawG X G = .inr G' → Gt G < Gt G' → Fr xD σ σ' → RdG X G' sc' σ' → Q none σ') (K0 : ∀ f' t' σ', lawG X G = er f' t' → Fr xD σ σ' → RdF X f' t' σ' → Q none σ') : Wq xs (d + 23) ax_cd67 0 [(0, .ref 3)] [] σ Q := by
  obtain ⟨hL, hop, gc, gh, y, hW, hgc, hgh, hC⟩ := h
  have ht : Gt G ≤ 400 := hW.2.2.2.2.2.2.2.2.1
  refine c_law hW hv h3 hop (fun t' l sc' σ' e lt F W op la a12 ss o12 p11 => ?_) (fun f' t' sc' σ' e n F W => ?_)
  · have wf := law_wf hv ht e
    refine K1 (t', Gw G, setL (GP G) (Xk X (Gt G) - 3) l, Gc G, Gh G) sc' σ' ?_ lt (fLD F) ⟨hL, op, gc, gh, y, W, (F 13 rfl).trans hgc, (F 14 rfl).trans hgh, fun hw => ?_⟩
    · unfold lawG
      rw [e, bnd_o]
    · obtain ⟨⟨c1, c2, c3, c4, c5, c6, c7, c8⟩, ns⟩ := hC hw
      refine ⟨⟨fun i hi => (ag_eq (F 5 rfl) i).trans (c1 i hi), fun i hi => (ag_eq (F 6 rfl) i).trans (c2 i hi), fun i hi => (ag_eq (F 7 rfl) i).trans (c3 i hi), fun i hi => (ag_eq (F 8 rfl) i).trans (c4 i hi), fun i hi => (ag_eq (F 9 rfl) i).trans (c5 i hi), fun i hi => (ag_eq (F 10 rfl) i).trans (c6 i hi), fun j hj => ?_, pok_L c8 wf.2.2.2⟩, ns⟩
      show ∃ s, ag σ' 12 j = nI s ∧ ∀ g' : Nat → Int32, (∀ i, i < sc' → g' i = ag σ' 11 i) → lawAt g' s (if j = Xk X (Gt G) - 3 then l else Plw (GP G) j).1 (if j = Xk X (Gt G) - 3 then l else Plw (GP G) j).2
      by_cases hj' : j = Xk X (Gt G) - 3
      · rw [if_pos hj']
        exact ⟨sc, by rw [hj']; exact a12, fun g' hg => la g' hg⟩
      · rw [if_neg hj']
        obtain ⟨s, s1, s2⟩ := c7 j hj
        exact ⟨s, (o12 j hj hj').trans s1, fun g' hg => s2 g' (fun i hi => (hg i (by omega)).trans (p11 i hi))⟩
  · refine K0 f' t' σ' ?_ (fLD F) ⟨n, sc', _, _, _, _, _, W⟩
    unfold lawG
    rw [e, bnd_e]
