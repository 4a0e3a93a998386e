/-! NAMES, AS THE REFERENCE KEEPS THEM -/
theorem any_iff {f : Nat → Int64} {x : Int64} : ∀ n, anyN f x n = true ↔ ∃ k, k < n ∧ f k = x
  | 0 => ⟨(fun h => by cases h), fun ⟨k, h, _⟩ => absurd h (Nat.not_lt_zero k)⟩
  | n + 1 => by
    rw [anyN, Bool.or_eq_true, any_iff n]
    constructor
    · intro h
      rcases h with ⟨k, h1, h2⟩ | h
      · exact ⟨k, by omega, h2⟩
      · exact ⟨n, by omega, of_decide_eq_true h⟩
    · intro ⟨k, h1, h2⟩
      by_cases e : k = n
      · subst e; exact Or.inr (decide_eq_true h2)
      · exact Or.inl ⟨k, by omega, h2⟩
theorem nmb_iff {f : Nat → Int64} {n : Nat} {x : Int64} : (nmb f n x).isSome = true ↔ ∃ k, k < n ∧ f k = x := by
  cases e : nmb f n x with
  | none => exact ⟨(fun h => by cases h), fun ⟨k, h1, h2⟩ => absurd h2 (nb_none n 0 e k (by omega) (by omega))⟩
  | some j =>
    have := nb_lt n 0 j e
    exact ⟨fun _ => ⟨j, by omega, this.2.2⟩, fun _ => rfl⟩
def RmN (P : Pl) (gc gh f : Nat → Int64) (a : Nat → Nat) (nn : Nat) : Prop := (∀ i, i < Pch P → ∃ k, k < nn ∧ f k = gc i ∧ a k = i) ∧ (∀ i, i < Phd P → ∃ k, k < nn ∧ f k = gh i ∧ a k = 10 + i) ∧ (∀ k, k < nn → (a k < Pch P ∧ f k = gc (a k)) ∨ (10 ≤ a k ∧ a k < 10 + Phd P ∧ f k = gh (a k - 10))) ∧ (∀ i j, i < Pch P → j < Pch P → gc i = gc j → i = j) ∧ (∀ i j, i < Phd P → j < Phd P → gh i = gh j → i = j)
theorem rn_dup {G : Gs} {f : Nat → Int64} {a : Nat → Nat} {nn : Nat} (h : RmN (GP G) (Gc G) (Gh G) f a nn) (x : Int64) : anyN f x nn = dupB G x := by
  apply Bool.eq_iff_iff.mpr
  unfold dupB
  rw [any_iff, Bool.or_eq_true, nmb_iff, nmb_iff]
  constructor
  · intro ⟨k, h1, h2⟩
    rcases h.2.2.1 k h1 with ⟨q1, q2⟩ | ⟨q1, q2, q3⟩
    · exact Or.inl ⟨a k, q1, q2.symm.trans h2⟩
    · exact Or.inr ⟨a k - 10, by omega, q3.symm.trans h2⟩
  · intro h'
    rcases h' with ⟨i, h1, h2⟩ | ⟨i, h1, h2⟩
    · obtain ⟨k, k1, k2, _⟩ := h.1 i h1
      exact ⟨k, k1, k2.trans h2⟩
    · obtain ⟨k, k1, k2, _⟩ := h.2.1 i h1
      exact ⟨k, k1, k2.trans h2⟩
theorem kn_some {f : Nat → Int64} {a : Nat → Nat} {lo : Nat} {x : Int64} : ∀ m i v, knF f a lo x m i = some v → ∃ k, i ≤ k ∧ k < i + m ∧ f k = x ∧ lo ≤ a k ∧ a k < lo + 10 ∧ v = a k - lo
  | 0, i, v, h => by cases h
  | m + 1, i, v, h => by
    rw [knF] at h
    split at h
    · next c =>
      cases h
      exact ⟨i, by omega, by omega, c.1, c.2.1, c.2.2, rfl⟩
    · obtain ⟨k, h1, h2, h3⟩ := kn_some m (i + 1) v h
      exact ⟨k, by omega, by omega, h3⟩
theorem kn_none {f : Nat → Int64} {a : Nat → Nat} {lo : Nat} {x : Int64} : ∀ m i, knF f a lo x m i = none → ∀ k, i ≤ k → k < i + m → ¬ (f k = x ∧ lo ≤ a k ∧ a k < lo + 10)
  | 0, i, _, k, h1, h2 => by omega
  | m + 1, i, h, k, h1, h2 => by
    rw [knF] at h
    split at h
    · cases h
    · next c =>
      by_cases e : k = i
      · subst e; exact c
      · exact kn_none m (i + 1) h k (by omega) (by omega)
theorem rn_h {G : Gs} {f : Nat → Int64} {a : Nat → Nat} {nn : Nat} (h : RmN (GP G) (Gc G) (Gh G) f a nn) (hc : Pch (GP G) ≤ 4) (hh : Phd (GP G) ≤ 5) (x : Int64) : knF f a 10 x nn 0 = nmb (Gh G) (Phd (GP G)) x := by
  cases e : nmb (Gh G) (Phd (GP G)) x with
  | none =>
    cases e2 : knF f a 10 x nn 0 with
    | none => rfl
    | some v =>
      obtain ⟨k, k1, k2, k3, k4, k5, _⟩ := kn_some nn 0 v e2
      rcases h.2.2.1 k (by omega) with ⟨q1, _⟩ | ⟨_, q2, q3⟩
      · omega
      · have := nmb_iff.mpr ⟨a k - 10, (by omega : a k - 10 < Phd (GP G)), q3.symm.trans k3⟩
        rw [e] at this
        cases this
  | some i =>
    have gi := nb_lt _ 0 i e
    cases e2 : knF f a 10 x nn 0 with
    | none =>
      obtain ⟨k, k1, k2, k3⟩ := h.2.1 i (by omega)
      exact absurd ⟨k2.trans gi.2.2, by omega, by omega⟩ (kn_none nn 0 e2 k (by omega) (by omega))
    | some v =>
      obtain ⟨k, k1, k2, k3, k4, k5, k6⟩ := kn_some nn 0 v e2
      rcases h.2.2.1 k (by omega) with ⟨q1, _⟩ | ⟨_, q2, q3⟩
      · omega
      · have := h.2.2.2.2 (a k - 10) i (by omega) (by omega) (q3.symm.trans (k3.trans gi.2.2.symm))
        rw [k6, this]
theorem rn_c {G : Gs} {f : Nat → Int64} {a : Nat → Nat} {nn : Nat} (h : RmN (GP G) (Gc G) (Gh G) f a nn) (hc : Pch (GP G) ≤ 4) (x : Int64) : knF f a 0 x nn 0 = nmb (Gc G) (Pch (GP G)) x := by
  cases e : nmb (Gc G) (Pch (GP G)) x with
  | none =>
    cases e2 : knF f a 0 x nn 0 with
    | none => rfl
    | some v =>
      obtain ⟨k, k1, k2, k3, k4, k5, _⟩ := kn_some nn 0 v e2
      rcases h.2.2.1 k (by omega) with ⟨q1, q2⟩ | ⟨q1, _⟩
      · have := nmb_iff.mpr ⟨a k, q1, q2.symm.trans k3⟩
        rw [e] at this
        cases this
      · omega
  | some i =>
    have gi := nb_lt _ 0 i e
    cases e2 : knF f a 0 x nn 0 with
    | none =>
      obtain ⟨k, k1, k2, k3⟩ := h.1 i (by omega)
      exact absurd ⟨k2.trans gi.2.2, by omega, by omega⟩ (kn_none nn 0 e2 k (by omega) (by omega))
    | some v =>
      obtain ⟨k, k1, k2, k3, k4, k5, k6⟩ := kn_some nn 0 v e2
      rcases h.2.2.1 k (by omega) with ⟨q1, q2⟩ | ⟨q1, _⟩
      · have := h.2.2.2.1 (a k) i q1 (by omega) (q2.symm.trans (k3.trans gi.2.2.symm))
        rw [k6, this]
        rfl
      · omega
theorem rn_addC {P : Pl} {gc gh f : Nat → Int64} {a : Nat → Nat} {nn m : Nat} {x : Int64} (h : RmN P gc gh f a nn) (hx : anyN f x nn = false) : RmN (addC P m) (upI gc (Pch P) x) gh (vp_updL f nn x) (updN a nn (Pch P)) (nn + 1) := by
  obtain ⟨h1, h2, h3, h4, h5⟩ := h
  have nx : ∀ k, k < nn → ¬ f k = x := fun k hk e => by
    have := (any_iff nn).mpr ⟨k, hk, e⟩
    rw [hx] at this
    cases this
  have gx : ∀ i, i < Pch P → ¬ gc i = x := fun i hi e => by
    obtain ⟨k, k1, k2, _⟩ := h1 i hi
    exact nx k k1 (k2.trans e)
  have fo : ∀ k, ¬ k = nn → vp_updL f nn x k = f k := fun k hk => by unfold vp_updL; rw [if_neg hk]
  have ao : ∀ k, ¬ k = nn → updN a nn (Pch P) k = a k := fun k hk => by unfold updN; rw [if_neg hk]
  have go : ∀ i, ¬ i = Pch P → upI gc (Pch P) x i = gc i := fun i hi => by unfold upI; rw [if_neg hi]
  have fn : vp_updL f nn x nn = x := by unfold vp_updL; rw [if_pos rfl]
  have an : updN a nn (Pch P) nn = Pch P := by unfold updN; rw [if_pos rfl]
  have gn : upI gc (Pch P) x (Pch P) = x := by unfold upI; rw [if_pos rfl]
  refine ⟨fun i hi => ?_, fun i hi => ?_, fun k hk => ?_, fun i j hi hj e => ?_, h5⟩
  · have hi : i < Pch P + 1 := hi
    by_cases e : i = Pch P
    · subst e
      exact ⟨nn, by omega, by rw [fn, gn], an⟩
    · obtain ⟨k, k1, k2, k3⟩ := h1 i (by omega)
      exact ⟨k, by omega, by rw [fo k (by omega), go i e]; exact k2, by rw [ao k (by omega)]; exact k3⟩
  · obtain ⟨k, k1, k2, k3⟩ := h2 i hi
    exact ⟨k, by omega, by rw [fo k (by omega)]; exact k2, by rw [ao k (by omega)]; exact k3⟩
  · show (updN a nn (Pch P) k < Pch P + 1 ∧ _) ∨ _
    by_cases e : k = nn
    · subst e
      rw [an, fn, gn]
      exact Or.inl ⟨by omega, rfl⟩
    · rw [ao k e, fo k e]
      rcases h3 k (by omega) with ⟨q1, q2⟩ | q
      · exact Or.inl ⟨by omega, by rw [go _ (by omega)]; exact q2⟩
      · exact Or.inr q
  · have hi : i < Pch P + 1 := hi
    have hj : j < Pch P + 1 := hj
    by_cases e1 : i = Pch P
    · by_cases e2 : j = Pch P
      · omega
      · rw [e1, gn, go j e2] at e
        exact absurd e.symm (gx j (by omega))
    · by_cases e2 : j = Pch P
      · rw [e2, gn, go i e1] at e
        exact absurd e (gx i (by omega))
      · rw [go i e1, go j e2] at e
        exact h4 i j (by omega) (by omega) e
theorem rn_addH {P : Pl} {gc gh f : Nat → Int64} {a b : Nat → Nat} {nn m : Nat} {x : Int64} (h : RmN P gc gh f a nn) (hx : anyN f x nn = false) : RmN (addH P m b) gc (upI gh (Phd P) x) (vp_updL f nn x) (updN a nn (10 + Phd P)) (nn + 1) := by
  obtain ⟨h1, h2, h3, h4, h5⟩ := h
  have nx : ∀ k, k < nn → ¬ f k = x := fun k hk e => by
    have := (any_iff nn).mpr ⟨k, hk, e⟩
    rw [hx] at this
    cases this
  have gx : ∀ i, i < Phd P → ¬ gh i = x := fun i hi e => by
    obtain ⟨k, k1, k2, _⟩ := h2 i hi
    exact nx k k1 (k2.trans e)
  have fo : ∀ k, ¬ k = nn → vp_updL f nn x k = f k := fun k hk => by unfold vp_updL; rw [if_neg hk]
  have ao : ∀ k, ¬ k = nn → updN a nn (10 + Phd P) k = a k := fun k hk => by unfold updN; rw [if_neg hk]
  have go : ∀ i, ¬ i = Phd P → upI gh (Phd P) x i = gh i := fun i hi => by unfold upI; rw [if_neg hi]
  have fn : vp_updL f nn x nn = x := by unfold vp_updL; rw [if_pos rfl]
  have an : updN a nn (10 + Phd P) nn = 10 + Phd P := by unfold updN; rw [if_pos rfl]
  have gn : upI gh (Phd P) x (Phd P) = x := by unfold upI; rw [if_pos rfl]
  refine ⟨fun i hi => ?_, fun i hi => ?_, fun k hk => ?_, h4, fun i j hi hj e => ?_⟩
  · obtain ⟨k, k1, k2, k3⟩ := h1 i hi
    exact ⟨k, by omega, by rw [fo k (by omega)]; exact k2, by rw [ao k (by omega)]; exact k3⟩
  · have hi : i < Phd P + 1 := hi
    by_cases e : i = Phd P
    · subst e
      exact ⟨nn, by omega, by rw [fn, gn], an⟩
    · obtain ⟨k, k1, k2, k3⟩ := h2 i (by omega)
      exact ⟨k, by omega, by rw [fo k (by omega), go i e]; exact k2, by rw [ao k (by omega)]; exact k3⟩
  · show _ ∨ (_ ∧ updN a nn (10 + Phd P) k < 10 + (Phd P + 1) ∧ _)
    by_cases e : k = nn
    · subst e
      rw [an, fn, show 10 + Phd P - 10 = Phd P by omega, gn]
      exact Or.inr ⟨by omega, by omega, rfl⟩
    · rw [ao k e, fo k e]
      rcases h3 k (by omega) with q | ⟨q1, q2, q3⟩
      · exact Or.inl q
      · exact Or.inr ⟨q1, by omega, by rw [go _ (by omega)]; exact q3⟩
  · have hi : i < Phd P + 1 := hi
    have hj : j < Phd P + 1 := hj
    by_cases e1 : i = Phd P
    · by_cases e2 : j = Phd P
      · omega
      · rw [e1, gn, go j e2] at e
        exact absurd e.symm (gx j (by omega))
    · by_cases e2 : j = Phd P
      · rw [e2, gn, go i e1] at e
        exact absurd e (gx i (by omega))
      · rw [go i e1, go j e2] at e
        exact h5 i j (by omega) (by omega) e
theorem rn_eq {P P' : Pl} {gc gh f f' : Nat → Int64} {a : Nat → Nat} {nn : Nat} (h : RmN P gc gh f a nn) (e1 : Pch P' = Pch P) (e2 : Phd P' = Phd P) (e3 : f' = f) : RmN P' gc gh f' a nn := by
  subst e3
  unfold RmN
  rw [e1, e2]
  exact h
/-! WHAT THE REFERENCE HAS READ SO FAR -/
def LwC (P : Pl) (s bn cn : Nat) (σ : Nat → List Value) : Prop := ∀ l, l < 4 → ∃ f e, ag σ 310 (4 * s + l) = nI f ∧ ag σ 311 (4 * s + l) = nI e ∧ f ≤ 260 ∧ e ≤ 260 ∧ ∀ G', agr s 0 bn 0 cn (brG σ) G' → ((f = e ∧ Plw P l = dfl l) ∨ brAt G' f e (Plw P l).1 (Plw P l).2)
theorem lwc_eq {P P' : Pl} {s bn cn : Nat} {σ σ' : Nat → List Value} (h : LwC P s bn cn σ) (hP : Plw P' = Plw P) (e : ∀ j, 310 ≤ j → j ≤ 318 → σ' j = σ j) : LwC P' s bn cn σ' := by
  have eb := brG_eq (e 312 (by omega) (by omega)) (e 313 (by omega) (by omega)) (e 314 (by omega) (by omega)) (e 315 (by omega) (by omega)) (e 316 (by omega) (by omega)) (e 317 (by omega) (by omega)) (e 318 (by omega) (by omega))
  intro l hl
  obtain ⟨f, e', h1, h2, h3, h4, h5⟩ := h l hl
  refine ⟨f, e', (ag_eq (e 310 (by omega) (by omega)) _).trans h1, (ag_eq (e 311 (by omega) (by omega)) _).trans h2, h3, h4, ?_⟩
  rw [eb, hP]
  exact h5
def RmC (G : Gs) (s bn cn nn : Nat) (a : Nat → Nat) (σ : Nat → List Value) : Prop := (∀ i, i < Pch (GP G) → ag σ 298 (4 * s + i) = nI (Pme (GP G) i)) ∧ (∀ i, i < Phd (GP G) → ag σ 300 (5 * s + i) = nI (Poi (GP G) i)) ∧ (∀ i, i < Phd (GP G) * 4 → ag σ 301 (20 * s + i) = nI (Pow (GP G) i)) ∧ (∀ i, i < Pvs (GP G) → ag σ 303 (10 * s + i) = nI (Pvh (GP G) i)) ∧ (∀ i, i < Pvs (GP G) → ag σ 304 (10 * s + i) = nI (Pvc (GP G) i)) ∧ (∀ i, i < Pvs (GP G) → ag σ 305 (10 * s + i) = nI (Pvt (GP G) i)) ∧ ag σ 306 s = nI (Pmo (GP G)) ∧ ag σ 307 s = nI (Psa (GP G)) ∧ ag σ 308 s = nI (Pmt (GP G)) ∧ ag σ 309 s = nI (Psd (GP G)) ∧ LwC (GP G) s bn cn σ ∧ RmN (GP G) (Gc G) (Gh G) (aq σ 295) a nn
def RmG (B : Bs) (X : Tx) (s : Nat) (G : Gs) (bn cn nn : Nat) (g : Nat → Int32) (σ : Nat → List Value) : Prop := MrW B X s (Gt G) 0 bn cn nn (Gw G) g σ ∧ okM X (Gw G) (Gt G) ∧ nn = Pch (GP G) + Phd (GP G) ∧ Pch (GP G) ≤ 4 ∧ Phd (GP G) ≤ 5 ∧ Pvs (GP G) ≤ 10 ∧ ag σ 297 s = nI (Pch (GP G)) ∧ ag σ 299 s = nI (Phd (GP G)) ∧ ag σ 302 s = nI (Pvs (GP G)) ∧ 4 * bn ≤ Gt G ∧ cn ≤ Gt G ∧ ∃ a : Nat → Nat, (∀ k, k < nn → ag σ 296 k = nI (a k) ∧ a k < 100) ∧ (Gw G = none → RmC G s bn cn nn a σ)
theorem ch_er {X : Tx} {G : Gs} {f' t' : Nat} (e : ((if 4 ≤ Pch (GP G) then er 2 (Gt G) else bnd (must X 0 (Gt G)) fun t1 => bnd (must X 23 t1) fun t2 => bnd (must X 24 t2) fun t3 => must X 25 t3) : Rs Nat) = er f' t') : chairX X G = er f' t' := by
  unfold chairX
  split
  · next h4 => rw [if_pos h4] at e; exact er_c e
  · next h4 =>
    rw [if_neg h4] at e
    revert e
    cases must X 0 (Gt G) with
    | inl e => exact fun e => er_c e
    | inr t1 =>
      rw [bnd_o, bnd_o]
      cases must X 23 t1 with
      | inl e => exact fun e => er_c e
      | inr t2 =>
        rw [bnd_o, bnd_o]
        unfold intX
        cases must X 24 t2 with
        | inl e => exact fun e => er_c e
        | inr t3 =>
          simp only [bnd_o]
          cases must X 25 t3 with
          | inl e => exact fun e => er_c e
          | inr t4 => exact fun e => by cases e
theorem hd_er {X : Tx} {G : Gs} {f' t' : Nat} (e : ((if 5 ≤ Phd (GP G) then er 2 (Gt G) else bnd (must X 1 (Gt G)) fun t1 => bnd (must X 23 t1) fun t2 => bnd (must X 24 t2) fun t3 => bnd (must X 24 t3) fun t4 => bnd (must X 24 t4) fun t5 => bnd (must X 24 t5) fun t6 => bnd (must X 24 t6) fun t7 => must X 25 t7) : Rs Nat) = er f' t') : headX X G = er f' t' := by
  unfold headX
  split
  · next h4 => rw [if_pos h4] at e; exact er_c e
  · next h4 =>
    rw [if_neg h4] at e
    revert e
    cases must X 1 (Gt G) with
    | inl e => exact fun e => er_c e
    | inr t1 =>
      rw [bnd_o, bnd_o]
      cases must X 23 t1 with
      | inl e => exact fun e => er_c e
      | inr t2 =>
        rw [bnd_o, bnd_o]
        unfold intX
        cases must X 24 t2 with
        | inl e => exact fun e => er_c e
        | inr t3 =>
          simp only [bnd_o]
          cases must X 24 t3 with
          | inl e => exact fun e => er_c e
          | inr t4 =>
            simp only [bnd_o]
            cases must X 24 t4 with
            | inl e => exact fun e => er_c e
            | inr t5 =>
              simp only [bnd_o]
              cases must X 24 t5 with
              | inl e => exact fun e => er_c e
              | inr t6 =>
                simp only [bnd_o]
                cases must X 24 t6 with
                | inl e => exact fun e => er_c e
                | inr t7 =>
                  simp only [bnd_o]
                  cases must X 25 t7 with
                  | inl e => exact fun e => er_c e
                  | inr t8 => exact fun e => by cases e
theorem vi_er {X : Tx} {G : Gs} {f' t' : Nat} (e : ((if 10 ≤ Pvs (GP G) then er 2 (Gt G) else bnd (must X 2 (Gt G)) fun t1 => bnd (must X 23 t1) fun t2 => bnd (must X 23 t2) fun t3 => bnd (must X 24 t3) fun t4 => must X 25 t4) : Rs Nat) = er f' t') : visitX X G = er f' t' := by
  unfold visitX
  split
  · next h4 => rw [if_pos h4] at e; exact er_c e
  · next h4 =>
    rw [if_neg h4] at e
    revert e
    cases must X 2 (Gt G) with
    | inl e => exact fun e => er_c e
    | inr t1 =>
      rw [bnd_o, bnd_o]
      cases must X 23 t1 with
      | inl e => exact fun e => er_c e
      | inr t2 =>
        rw [bnd_o, bnd_o]
        cases must X 23 t2 with
        | inl e => exact fun e => er_c e
        | inr t3 =>
          rw [bnd_o, bnd_o]
          unfold intX
          cases must X 24 t3 with
          | inl e => exact fun e => er_c e
          | inr t4 =>
            simp only [bnd_o]
            cases must X 25 t4 with
            | inl e => exact fun e => er_c e
            | inr t5 => exact fun e => by cases e
theorem rm_chair {xs : List Int32} {d : Nat} {σ : Nat → List Value} {Q : Option Value → (Nat → List Value) → Prop} {B : Bs} {X : Tx} {s bn cn nn : Nat} {G : Gs} {g : Nat → Int32} (h : RmG B X s G bn cn nn g σ) (hk : Xk X (Gt G) = 0) (K1 : ∀ G' bn' cn' nn' g' σ', chairX X G = .inr G' → Gt G < Gt G' → RmG B X s G' bn' cn' nn' g' σ' → Q none σ') (K0 : ∀ f' p' bn' g' σ', chairX X G = er f' p' → MrF B X s f' (Xp X p') bn' g' σ' → Q none σ') : Wq xs (d + 6) ax_cd233 6 [(0, .ref 287)] [] σ Q := by
  obtain ⟨hW, hM, hnn, b4, b5, b10, n7, n9, n2, hbn, hcn, a, ha, hC⟩ := h
  have hs2 := mb_2 (mw_b hW)
  by_cases h9 : Pch (GP G) = 4
  · refine m_t6f hW hk (n7.trans (by rw [h9])) (fun g' σ' W => K0 2 (Gt G) bn g' σ' (if_pos (by omega)) W)
  refine m_t6 hW hM (by omega) hk n7 b4 (fun t1 t2 t3 t4 g' σ' hn m1 m2 m3 m4 q4 W' M' F e297 e298 e295 e296 => ?_) (fun f' p' bn' g' σ' e W => K0 f' p' bn' g' σ' (ch_er e) W)
  rw [wn_cg (w := Gw G) (fun e => rn_dup (hC e).2.2.2.2.2.2.2.2.2.2.2 (Xn X t1))] at W' M'
  refine K1 (t4, wn (wn (Gw G) (dupB G (Xn X t1)) 3 (Xp X t1)) (outB X t2 0 9) 5 (Xp X t2), addC (GP G) (Xv X t2), upI (Gc G) (Pch (GP G)) (Xn X t1), Gh G) bn cn (nn + 1) g' σ' ?_ (show Gt G < t4 by omega) ⟨W', M', (show nn + 1 = Pch (GP G) + 1 + Phd (GP G) by omega), (show Pch (GP G) + 1 ≤ 4 by omega), b5, b10, ?_, (ag_eq (F 299 rfl) s).trans n9, (ag_eq (F 302 rfl) s).trans n2, (show 4 * bn ≤ t4 by omega), (show cn ≤ t4 by omega), updN a nn (Pch (GP G)), fun k hk => ?_, fun hw => ?_⟩
  · unfold chairX
    rw [if_neg (by omega)]
    simp only [intX, m1, m2, m3, m4, bnd_o]
  · rw [ag_arr e297 (by omega)]
    simp only [upd, if_true]
    rfl
  · rw [ag_arr e296 (by omega)]
    unfold upd updN
    split
    · exact ⟨rfl, by omega⟩
    · exact ha k (by omega)
  · have w1 := wn_ne _ hw
    have w2 := wn_ne _ w1.1
    obtain ⟨c1, c2, c3, c4, c5, c6, c7, c8, c9, c10, c11, c12⟩ := hC w2.1
    refine ⟨fun i hi => ?_, fun i hi => (ag_eq (F 300 rfl) _).trans (c2 i hi), fun i hi => (ag_eq (F 301 rfl) _).trans (c3 i hi), fun i hi => (ag_eq (F 303 rfl) _).trans (c4 i hi), fun i hi => (ag_eq (F 304 rfl) _).trans (c5 i hi), fun i hi => (ag_eq (F 305 rfl) _).trans (c6 i hi), (ag_eq (F 306 rfl) s).trans c7, (ag_eq (F 307 rfl) s).trans c8, (ag_eq (F 308 rfl) s).trans c9, (ag_eq (F 309 rfl) s).trans c10, lwc_eq c11 rfl (fun j p q => F j (xC1_o (by omega))), ?_⟩
    · have hi : i < Pch (GP G) + 1 := hi
      rw [ag_arr e298 (by omega)]
      show upd (ag σ 298) (4 * s + Pch (GP G)) (nI (Xv X t2)) (4 * s + i) = nI (updN (Pme (GP G)) (Pch (GP G)) (Xv X t2) i)
      unfold upd updN
      by_cases e : i = Pch (GP G)
      · rw [if_pos (by omega), if_pos e]
      · rw [if_neg (by omega), if_neg e]
        exact c1 i (by omega)
    · have hx : anyN (aq σ 295) (Xn X t1) nn = false := (rn_dup c12 (Xn X t1)).trans w2.2
      have r := rn_addC (m := Xv X t2) c12 hx
      refine rn_eq r rfl rfl ?_
      funext k
      by_cases hk : k < 9
      · exact aq_arr e295 hk
      · rw [aq_z e295 hk]
        unfold vp_updL
        rw [if_neg (by omega), aq_z (mb_q (mw_b hW)) hk]
theorem rm_head {xs : List Int32} {d : Nat} {σ : Nat → List Value} {Q : Option Value → (Nat → List Value) → Prop} {B : Bs} {X : Tx} {s bn cn nn : Nat} {G : Gs} {g : Nat → Int32} (h : RmG B X s G bn cn nn g σ) (hk : Xk X (Gt G) = 1) (K1 : ∀ G' bn' cn' nn' g' σ', headX X G = .inr G' → Gt G < Gt G' → RmG B X s G' bn' cn' nn' g' σ' → Q none σ') (K0 : ∀ f' p' bn' g' σ', headX X G = er f' p' → MrF B X s f' (Xp X p') bn' g' σ' → Q none σ') : Wq xs (d + 6) ax_cd233 59 [(0, .ref 287)] [] σ Q := by
  obtain ⟨hW, hM, hnn, b4, b5, b10, n7, n9, n2, hbn, hcn, a, ha, hC⟩ := h
  have hs2 := mb_2 (mw_b hW)
  by_cases h9 : Phd (GP G) = 5
  · refine m_t59f hW hk (n9.trans (by rw [h9])) (fun g' σ' W => K0 2 (Gt G) bn g' σ' (if_pos (by omega)) W)
  refine m_t59 hW hM (by omega) hk n9 b5 (fun t1 t2 t3 t4 t5 t6 t7 t8 g' σ' hn m1 m2 m3 m4 m5 m6 m7 m8 q8 W' M' F e299 e300 e301 e295 e296 => ?_) (fun f' p' bn' g' σ' e W => K0 f' p' bn' g' σ' (hd_er e) W)
  rw [wn_cg (w := Gw G) (fun e => rn_dup (hC e).2.2.2.2.2.2.2.2.2.2.2 (Xn X t1))] at W' M'
  have r3 := (must_k m3).2.1
  have r4 := (must_k m4).2.1
  have r5 := (must_k m5).2.1
  have r6 := (must_k m6).2.1
  refine K1 (t8, wn (wn (wn (wn (wn (wn (Gw G) (dupB G (Xn X t1)) 3 (Xp X t1)) (outB X t2 0 9) 5 (Xp X t2)) (outB X t3 0 99) 5 (Xp X t3)) (outB X t4 0 99) 5 (Xp X t4)) (outB X t5 0 99) 5 (Xp X t5)) (outB X t6 0 99) 5 (Xp X t6), addH (GP G) (Xv X t2) (fun j => Xv X (t2 + 1 + j)), Gc G, upI (Gh G) (Phd (GP G)) (Xn X t1)) bn cn (nn + 1) g' σ' ?_ (show Gt G < t8 by omega) ⟨W', M', (show nn + 1 = Pch (GP G) + (Phd (GP G) + 1) by omega), b4, (show Phd (GP G) + 1 ≤ 5 by omega), b10, (ag_eq (F 297 rfl) s).trans n7, ?_, (ag_eq (F 302 rfl) s).trans n2, (show 4 * bn ≤ t8 by omega), (show cn ≤ t8 by omega), updN a nn (10 + Phd (GP G)), fun k hk => ?_, fun hw => ?_⟩
  · unfold headX
    rw [if_neg (by omega)]
    simp only [intX, m1, m2, m3, m4, m5, m6, m7, m8, bnd_o]
  · rw [ag_arr e299 (by omega)]
    simp only [upd, if_true]
    rfl
  · rw [ag_arr e296 (by omega)]
    unfold upd updN
    split
    · exact ⟨rfl, by omega⟩
    · exact ha k (by omega)
  · have w6 := wn_ne _ hw
    have w5 := wn_ne _ w6.1
    have w4 := wn_ne _ w5.1
    have w3 := wn_ne _ w4.1
    have w2 := wn_ne _ w3.1
    have w1 := wn_ne _ w2.1
    obtain ⟨c1, c2, c3, c4, c5, c6, c7, c8, c9, c10, c11, c12⟩ := hC w1.1
    refine ⟨fun i hi => (ag_eq (F 298 rfl) _).trans (c1 i hi), fun i hi => ?_, fun i hi => ?_, fun i hi => (ag_eq (F 303 rfl) _).trans (c4 i hi), fun i hi => (ag_eq (F 304 rfl) _).trans (c5 i hi), fun i hi => (ag_eq (F 305 rfl) _).trans (c6 i hi), (ag_eq (F 306 rfl) s).trans c7, (ag_eq (F 307 rfl) s).trans c8, (ag_eq (F 308 rfl) s).trans c9, (ag_eq (F 309 rfl) s).trans c10, lwc_eq c11 rfl (fun j p q => F j (xH1_o (by omega))), ?_⟩
    · have hi : i < Phd (GP G) + 1 := hi
      rw [ag_arr e300 (by omega)]
      show upd (ag σ 300) (5 * s + Phd (GP G)) (nI (Xv X t2)) (5 * s + i) = nI (updN (Poi (GP G)) (Phd (GP G)) (Xv X t2) i)
      unfold upd updN
      by_cases e : i = Phd (GP G)
      · rw [if_pos (by omega), if_pos e]
      · rw [if_neg (by omega), if_neg e]
        exact c2 i (by omega)
    · have hi : i < (Phd (GP G) + 1) * 4 := hi
      rw [ag_arr e301 (by omega)]
      show _ = nI (if Phd (GP G) * 4 ≤ i then Xv X (t2 + 1 + (i - Phd (GP G) * 4)) else Pow (GP G) i)
      have u4 : t4 = t2 + 1 + 1 := by omega
      have u5 : t5 = t2 + 1 + 2 := by omega
      have u6 : t6 = t2 + 1 + 3 := by omega
      unfold upd
      by_cases hge : Phd (GP G) * 4 ≤ i
      · rw [if_pos hge]
        rcases (show i = Phd (GP G) * 4 ∨ i = Phd (GP G) * 4 + 1 ∨ i = Phd (GP G) * 4 + 2 ∨ i = Phd (GP G) * 4 + 3 by omega) with e | e | e | e
        · rw [if_neg (by omega), if_neg (by omega), if_neg (by omega), if_pos (by omega), e, Nat.sub_self, r3]
        · rw [if_neg (by omega), if_neg (by omega), if_pos (by omega), e, Nat.add_sub_cancel_left, u4]
        · rw [if_neg (by omega), if_pos (by omega), e, Nat.add_sub_cancel_left, u5]
        · rw [if_pos (by omega), e, Nat.add_sub_cancel_left, u6]
      · rw [if_neg hge, if_neg (by omega), if_neg (by omega), if_neg (by omega), if_neg (by omega)]
        exact c3 i (by omega)
    · have hx : anyN (aq σ 295) (Xn X t1) nn = false := (rn_dup c12 (Xn X t1)).trans w1.2
      have r := rn_addH (m := Xv X t2) (b := fun j => Xv X (t2 + 1 + j)) c12 hx
      refine rn_eq r rfl rfl ?_
      funext k
      by_cases hk : k < 9
      · exact aq_arr e295 hk
      · rw [aq_z e295 hk]
        unfold vp_updL
        rw [if_neg (by omega), aq_z (mb_q (mw_b hW)) hk]
theorem rm_visit {xs : List Int32} {d : Nat} {σ : Nat → List Value} {Q : Option Value → (Nat → List Value) → Prop} {B : Bs} {X : Tx} {s bn cn nn : Nat} {G : Gs} {g : Nat → Int32} (h : RmG B X s G bn cn nn g σ) (hk : Xk X (Gt G) = 2) (K1 : ∀ G' bn' cn' nn' g' σ', visitX X G = .inr G' → Gt G < Gt G' → RmG B X s G' bn' cn' nn' g' σ' → Q none σ') (K0 : ∀ f' p' bn' g' σ', visitX X G = er f' p' → MrF B X s f' (Xp X p') bn' g' σ' → Q none σ') : Wq xs (d + 6) ax_cd233 142 [(0, .ref 287)] [] σ Q := by
  obtain ⟨hW, hM, hnn, b4, b5, b10, n7, n9, n2, hbn, hcn, a, ha, hC⟩ := h
  have hs2 := mb_2 (mw_b hW)
  have hX := mb_X (mw_b hW)
  refine m_t142 hW hk n2 b10 (fun g1 σ1 hn h4 F1 W1 => ?_) (fun g1 σ1 hn F1 W1 => K0 2 (Gt G) bn g1 σ1 (vi_er ?_) W1)
  · have M1 := okM_s hM hX (by omega)
    refine m_visit (nc := Pvs (GP G)) (a := a) W1 M1 (by omega) (fun i hi => ⟨(ag_eq (F1 296 rfl) i).trans (ha i hi).1, (ha i hi).2⟩) ((ag_eq (F1 302 rfl) s).trans n2) hn (fun t2 t3 t4 t5 g' σ' m2 m3 m4 m5 q5 W' M' F e302 e303 e304 e305 => ⟨rfl, ?_⟩) (fun f' p' bn' g' σ' e W => ⟨rfl, K0 f' p' bn' g' σ' (vi_er ?_) W⟩)
    · have eh : Gw G = none → knF (aq σ1 295) a 10 (Xn X (Gt G + 1)) nn 0 = nmb (Gh G) (Phd (GP G)) (Xn X (Gt G + 1)) := fun e => by
        rw [aq_fun (F1 295 rfl)]
        exact rn_h (hC e).2.2.2.2.2.2.2.2.2.2.2 b4 b5 _
      have ec : Gw G = none → knF (aq σ1 295) a 0 (Xn X t2) nn 0 = nmb (Gc G) (Pch (GP G)) (Xn X t2) := fun e => by
        rw [aq_fun (F1 295 rfl)]
        exact rn_c (hC e).2.2.2.2.2.2.2.2.2.2.2 b4 _
      have ew : wn (wn (Gw G) (knF (aq σ1 295) a 10 (Xn X (Gt G + 1)) nn 0).isNone 4 (Xp X (Gt G + 1))) (knF (aq σ1 295) a 0 (Xn X t2) nn 0).isNone 4 (Xp X t2) = wn (wn (Gw G) (nmb (Gh G) (Phd (GP G)) (Xn X (Gt G + 1))).isNone 4 (Xp X (Gt G + 1))) (nmb (Gc G) (Pch (GP G)) (Xn X t2)).isNone 4 (Xp X t2) := by
        rw [wn_cg (w := Gw G) (fun e => by rw [eh e])]
        exact wn_cg (fun e => by rw [ec (wn_ne _ e).1])
      rw [ew] at W' M'
      refine K1 (t5, wn (wn (wn (Gw G) (nmb (Gh G) (Phd (GP G)) (Xn X (Gt G + 1))).isNone 4 (Xp X (Gt G + 1))) (nmb (Gc G) (Pch (GP G)) (Xn X t2)).isNone 4 (Xp X t2)) (outB X t3 0 23) 5 (Xp X t3), addV (GP G) ((nmb (Gh G) (Phd (GP G)) (Xn X (Gt G + 1))).getD 0) ((nmb (Gc G) (Pch (GP G)) (Xn X t2)).getD 0) (Xv X t3), Gc G, Gh G) bn cn nn g' σ' ?_ (show Gt G < t5 by omega) ⟨W', M', hnn, b4, b5, (show Pvs (GP G) + 1 ≤ 10 by omega), (ag_eq ((F 297 rfl).trans (F1 297 rfl)) s).trans n7, (ag_eq ((F 299 rfl).trans (F1 299 rfl)) s).trans n9, ?_, (show 4 * bn ≤ t5 by omega), (show cn ≤ t5 by omega), a, fun k hk => ⟨(ag_eq ((F 296 rfl).trans (F1 296 rfl)) k).trans (ha k hk).1, (ha k hk).2⟩, fun hw => ?_⟩
      · unfold visitX
        rw [if_neg (by omega)]
        simp only [intX, must_y hk h4, m2, m3, m4, m5, bnd_o]
      · rw [ag_arr e302 (by omega)]
        simp only [upd, if_true]
        rfl
      · have w1 := wn_ne _ hw
        have w2 := wn_ne _ w1.1
        have w3 := wn_ne _ w2.1
        obtain ⟨c1, c2, c3, c4, c5, c6, c7, c8, c9, c10, c11, c12⟩ := hC w3.1
        have s1 := nm_some w3.2
        have s2 := nm_some w2.2
        have up3 : ∀ (p : Nat) (F' : Nat → Nat) (v : Nat) (x : Int32), σ1 p = σ p → x = nI v → (∀ i, i < Pvs (GP G) → ag σ p (10 * s + i) = nI (F' i)) → ∀ i, i < Pvs (GP G) + 1 → upd (ag σ1 p) (10 * s + Pvs (GP G)) x (10 * s + i) = nI (updN F' (Pvs (GP G)) v i) := fun p F' v x ep ex hh i hi => by
          unfold upd updN
          by_cases e : i = Pvs (GP G)
          · rw [if_pos (by omega), if_pos e, ex]
          · rw [if_neg (by omega), if_neg e, ag_eq ep]
            exact hh i (by omega)
        refine ⟨fun i hi => (ag_eq ((F 298 rfl).trans (F1 298 rfl)) _).trans (c1 i hi), fun i hi => (ag_eq ((F 300 rfl).trans (F1 300 rfl)) _).trans (c2 i hi), fun i hi => (ag_eq ((F 301 rfl).trans (F1 301 rfl)) _).trans (c3 i hi), fun i hi => ?_, fun i hi => ?_, fun i hi => ?_, (ag_eq ((F 306 rfl).trans (F1 306 rfl)) s).trans c7, (ag_eq ((F 307 rfl).trans (F1 307 rfl)) s).trans c8, (ag_eq ((F 308 rfl).trans (F1 308 rfl)) s).trans c9, (ag_eq ((F 309 rfl).trans (F1 309 rfl)) s).trans c10, lwc_eq c11 rfl (fun j p q => (F j (xV1_o (by omega))).trans (F1 j (by simp only [x287, beq_eq_false_iff_ne]; omega))), rn_eq c12 rfl rfl (aq_fun ((F 295 rfl).trans (F1 295 rfl)))⟩
        · have hi : i < Pvs (GP G) + 1 := hi
          rw [ag_arr e303 (by omega)]
          exact up3 303 (Pvh (GP G)) _ _ (F1 303 rfl) (by rw [eh w3.1, s1]; rfl) c4 i hi
        · have hi : i < Pvs (GP G) + 1 := hi
          rw [ag_arr e304 (by omega)]
          exact up3 304 (Pvc (GP G)) _ _ (F1 304 rfl) (by rw [ec w3.1, s2]; rfl) c5 i hi
        · have hi : i < Pvs (GP G) + 1 := hi
          rw [ag_arr e305 (by omega)]
          exact up3 305 (Pvt (GP G)) _ _ (F1 305 rfl) rfl c6 i hi
    · rw [if_neg (by omega), must_y hk h4, bnd_o]
      exact e
  · by_cases h4 : 10 ≤ Pvs (GP G)
    · rw [if_pos h4]
    · have h5 : Gt G = 400 := by omega
      rw [if_neg h4, h5]
      rw [h5] at hk
      rw [must_r hk, bnd_e]
