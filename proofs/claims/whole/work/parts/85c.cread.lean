/-! THE CLASS READS: what it has at hand -/
def wF (w : Option (Nat × Nat)) : Int32 := match w with
  | none => nI 0
  | some q => nI q.1
def wP (w : Option (Nat × Nat)) : Int32 := match w with
  | none => -1
  | some q => nI q.2
/-- the first of the lesser faults stays -/
def wn (w : Option (Nat × Nat)) (c : Bool) (k p : Nat) : Option (Nat × Nat) := match w with
  | some q => some q
  | none => if c = true then some (k, p) else none
theorem wn_f (w : Option (Nat × Nat)) (k p : Nat) : wn w false k p = w := by cases w <;> rfl
def rdO (t k f : Nat) (w : Option (Nat × Nat)) (fp : Int32) : List Value := [.ref 15, .ref 4, .ref 13, .ref 14, .int (nI t), .int (nI k), .int (nI f), .int (wF w), .int (wP w), .int fp]
def drO (sc nc nh nv : Nat) (y : Nat → Int32) : List Value := [.ref 5, .ref 6, .ref 7, .ref 8, .ref 9, .ref 10, .ref 11, .ref 12, .int (nI sc), .int (nI nc), .int (nI nh), .int (nI nv), .int (y 4), .int (y 5), .int (y 6), .int (y 7)]
def shpl : List (Nat × Nat) := [(5, 4), (6, 5), (7, 20), (8, 10), (9, 10), (10, 10), (11, 408), (12, 4)]
def Shp (σ : Nat → List Value) : Prop := (∀ q ∈ shpl, IsA σ q.1 q.2) ∧ IsL σ 13 4 ∧ IsL σ 14 5
theorem shp_g {σ : Nat → List Value} (h : Shp σ) {p n : Nat} (hm : (p, n) ∈ shpl) : IsA σ p n := h.1 (p, n) hm
theorem shp_a {σ : Nat → List Value} (h : Shp σ) {p n : Nat} {f : Nat → Int32} (hm : (p, n) ∈ shpl) : Shp (up σ p (arr n f)) := by
  have hp : p ≤ 12 := by
    simp only [shpl, List.mem_cons, Prod.mk.injEq, List.not_mem_nil, or_false] at hm
    omega
  refine ⟨fun q hq => ?_, isL_eq (up_ne _ _ (by omega)) h.2.1, isL_eq (up_ne _ _ (by omega)) h.2.2⟩
  by_cases e : q.1 = p
  · have e2 : q.2 = n := by
      obtain ⟨a, b⟩ := q
      have : ∀ x ∈ shpl, ∀ y ∈ shpl, x.1 = y.1 → x.2 = y.2 := by decide
      exact this _ hq _ hm e
    rw [e, e2]
    exact isA_of (up_same _ _ _)
  · exact isA_eq (up_ne _ _ e) (h.1 q hq)
theorem shp_l {σ : Nat → List Value} (h : Shp σ) {p n : Nat} {f : Nat → Int64} (hm : (p = 13 ∧ n = 4) ∨ (p = 14 ∧ n = 5)) : Shp (up σ p (arrL n f)) := by
  refine ⟨fun q hq => isA_eq (up_ne _ _ (by
    simp only [shpl, List.mem_cons, List.not_mem_nil, or_false] at hq
    rcases hq with e | e | e | e | e | e | e | e <;> subst e <;> (show ¬ _ = p) <;> simp only <;> omega)) (h.1 q hq), ?_, ?_⟩
  · rcases hm with ⟨e1, e2⟩ | ⟨e1, e2⟩
    · subst e1; subst e2; exact ⟨f, up_same _ _ _⟩
    · subst e1; exact isL_eq (up_ne _ _ (by decide)) h.2.1
  · rcases hm with ⟨e1, e2⟩ | ⟨e1, e2⟩
    · subst e1; exact isL_eq (up_ne _ _ (by decide)) h.2.2
    · subst e1; subst e2; exact ⟨f, up_same _ _ _⟩
theorem shp_eq {σ σ' : Nat → List Value} (h : Shp σ) (e : ∀ j, 5 ≤ j → j ≤ 14 → σ' j = σ j) : Shp σ' := by
  refine ⟨fun q hq => isA_eq (e _ ?_ ?_) (h.1 q hq), isL_eq (e 13 (by omega) (by omega)) h.2.1, isL_eq (e 14 (by omega) (by omega)) h.2.2⟩ <;>
    (simp only [shpl, List.mem_cons, List.not_mem_nil, or_false] at hq; rcases hq with e | e | e | e | e | e | e | e <;> subst e <;> simp only <;> omega)
/-- tokens up to t can be taken -/
def rch (X : Tx) (t : Nat) : Prop := ∀ i, i < t → ¬ Xk X i = 34 ∧ ¬ Xk X i = 35
theorem rch_s {X : Tx} {t : Nat} (h : rch X t) (h1 : ¬ Xk X t = 34) (h2 : ¬ Xk X t = 35) : rch X (t + 1) := by
  intro i hi
  by_cases e : i = t
  · subst e; exact ⟨h1, h2⟩
  · exact h i (by omega)
def TkX (X : Tx) (σ : Nat → List Value) : Prop := ∃ (s : Nat) (n : Int32) (fk fp fn : Nat → Int32) (fm : Nat → Int64), σ 15 = tkO (nI s) n ∧ σ 17 = arr 401 fk ∧ σ 18 = arr 401 fp ∧ σ 19 = arr 401 fn ∧ σ 20 = arrL 401 fm ∧ s ≤ 401 ∧ (∀ j, j < s → fk j = nI (Xk X j)) ∧ (∀ j, j < s → fp j = nI (Xp X j)) ∧ (∀ j, j < s → Xk X j = 24 → fn j = nI (Xv X j)) ∧ (∀ j, j < s → Xk X j = 23 → fm j = Xn X j) ∧ (∀ j, j ≤ 400 → rch X j → j < s) ∧ ∀ j, Xk X j ≤ 35
theorem tkx_eq {X : Tx} {σ σ' : Nat → List Value} (h : TkX X σ) (e : ∀ j, 15 ≤ j → j ≤ 20 → σ' j = σ j) : TkX X σ' := by
  obtain ⟨s, n, fk, fp, fn, fm, h1, h2, h3, h4, h5, h6⟩ := h
  exact ⟨s, n, fk, fp, fn, fm, (e 15 (by omega) (by omega)).trans h1, (e 17 (by omega) (by omega)).trans h2, (e 18 (by omega) (by omega)).trans h3, (e 19 (by omega) (by omega)).trans h4, (e 20 (by omega) (by omega)).trans h5, h6⟩
def RdW (X : Tx) (f t sc nc nh nv : Nat) (y : Nat → Int32) (w : Option (Nat × Nat)) (σ : Nat → List Value) : Prop := (∃ fp, σ 3 = rdO t (Xk X t) f w fp) ∧ (σ 4 = drO sc nc nh nv y) ∧ sc ≤ 408 ∧ nc ≤ 4 ∧ nh ≤ 5 ∧ nv ≤ 10 ∧ Shp σ ∧ TkX X σ ∧ t ≤ 400 ∧ rch X t ∧ f < 10
def x3 : Nat → Bool := fun j => j == 3
def xE : Nat → Bool := fun j => j == 3 || j == 4 || j == 11
theorem x3_E : ∀ j, x3 j = true → xE j = true := by
  intro j h
  simp only [x3] at h
  simp only [xE, h, Bool.true_or]
theorem rdw_3 {X : Tx} {f t sc nc nh nv f' t' : Nat} {y : Nat → Int32} {w w' : Option (Nat × Nat)} {σ : Nat → List Value} {fp : Int32} (h : RdW X f t sc nc nh nv y w σ) (ht : t' ≤ 400) (hr : rch X t') (hf : f' < 10) : RdW X f' t' sc nc nh nv y w' (up σ 3 (rdO t' (Xk X t') f' w' fp)) := by
  obtain ⟨_, h4, h5, h6, h7, h8, h9, h10, _, _, _⟩ := h
  exact ⟨⟨fp, up_same _ _ _⟩, (up_ne _ _ (by decide)).trans h4, h5, h6, h7, h8, shp_eq h9 (fun j a b => up_ne _ _ (by omega)), tkx_eq h10 (fun j a b => up_ne _ _ (by omega)), ht, hr, hf⟩

theorem c_tk_kindAt {xs : List Int32} {d : Nat} {σ : Nat → List Value} {Q : Option Value → (Nat → List Value) → Prop} {X : Tx} {f t sc nc nh nv : Nat} {y : Nat → Int32} {w : Option (Nat × Nat)} (hW : RdW X f t sc nc nh nv y w σ)  (K : Q (some (.int (nI (Xk X t)))) σ) : Wq xs (d + 0) ax_cd47 0 [(0, .ref 15), (1, .int (nI t))] [] σ Q := by
  have hW0 := hW
  obtain ⟨⟨fpl, h3⟩, h4, hsc, hnc, hnh, hnv, hsh, ⟨s, n15, fk, fp, fn, fm, h15, h17, h18, h19, h20, hs, ek, ep, en, em, el, e35⟩, ht, hr, hf⟩ := hW0
  have hk35 := e35 t
  have hts := el t ht hr
  refine wq_go rfl (fun _ => rfl) ?_
  refine wq_zlt rfl (by first | omega | decide | exact Nat.lt_of_le_of_lt Nat.and_le_right (by decide) | exact ⟨by omega, by omega⟩) (fun c => absurd c (by omega)) (fun c1 => ?_)
  refine wq_go rfl (fun _ => rfl) ?_
  refine wq_go rfl (fun _ => rfl) ?_
  refine wq_getf rfl (by first | rfl | assumption) (by first | decide | omega | assumption) h15 rfl ?_
  refine wq_cge rfl (by first | omega | decide | exact Nat.lt_of_le_of_lt Nat.and_le_right (by decide) | exact ⟨by omega, by omega⟩) (by first | omega | decide | exact Nat.lt_of_le_of_lt Nat.and_le_right (by decide) | exact ⟨by omega, by omega⟩) (fun c => absurd c (by omega)) (fun c5 => ?_)
  refine wq_go rfl (fun _ => rfl) ?_
  refine wq_go rfl (fun _ => rfl) ?_
  refine wq_getf rfl (by first | rfl | assumption) (by first | decide | omega | assumption) h15 rfl ?_
  refine wq_alen rfl (by first | rfl | assumption) (by first | decide | omega | assumption) rfl h17 (arr_len _ _) ?_
  refine wq_cge rfl (by first | omega | decide | exact Nat.lt_of_le_of_lt Nat.and_le_right (by decide) | exact ⟨by omega, by omega⟩) (by first | omega | decide | exact Nat.lt_of_le_of_lt Nat.and_le_right (by decide) | exact ⟨by omega, by omega⟩) (fun c => absurd c (by omega)) (fun c10 => ?_)
  refine wq_go rfl (fun _ => rfl) ?_
  refine wq_getf rfl (by first | rfl | assumption) (by first | decide | omega | assumption) h15 rfl ?_
  refine wq_go rfl (fun _ => rfl) ?_
  refine wq_iald rfl (by first | rfl | assumption) (by first | decide | omega | assumption) h17 rfl (by omega) (by first | decide | omega) ?_
  refine wq_top (ek t hts) ?_
  refine wq_go rfl (fun _ => rfl) ?_
  refine wq_iret rfl ?_
  exact K
theorem c_tk_placeAt {xs : List Int32} {d : Nat} {σ : Nat → List Value} {Q : Option Value → (Nat → List Value) → Prop} {X : Tx} {f t sc nc nh nv : Nat} {y : Nat → Int32} {w : Option (Nat × Nat)} (hW : RdW X f t sc nc nh nv y w σ)  (K : Q (some (.int (nI (Xp X t)))) σ) : Wq xs (d + 0) ax_cd56 0 [(0, .ref 15), (1, .int (nI t))] [] σ Q := by
  have hW0 := hW
  obtain ⟨⟨fpl, h3⟩, h4, hsc, hnc, hnh, hnv, hsh, ⟨s, n15, fk, fp, fn, fm, h15, h17, h18, h19, h20, hs, ek, ep, en, em, el, e35⟩, ht, hr, hf⟩ := hW0
  have hk35 := e35 t
  have hts := el t ht hr
  refine wq_go rfl (fun _ => rfl) ?_
  refine wq_zlt rfl (by first | omega | decide | exact Nat.lt_of_le_of_lt Nat.and_le_right (by decide) | exact ⟨by omega, by omega⟩) (fun c => absurd c (by omega)) (fun c1 => ?_)
  refine wq_go rfl (fun _ => rfl) ?_
  refine wq_go rfl (fun _ => rfl) ?_
  refine wq_getf rfl (by first | rfl | assumption) (by first | decide | omega | assumption) h15 rfl ?_
  refine wq_cge rfl (by first | omega | decide | exact Nat.lt_of_le_of_lt Nat.and_le_right (by decide) | exact ⟨by omega, by omega⟩) (by first | omega | decide | exact Nat.lt_of_le_of_lt Nat.and_le_right (by decide) | exact ⟨by omega, by omega⟩) (fun c => absurd c (by omega)) (fun c5 => ?_)
  refine wq_go rfl (fun _ => rfl) ?_
  refine wq_go rfl (fun _ => rfl) ?_
  refine wq_getf rfl (by first | rfl | assumption) (by first | decide | omega | assumption) h15 rfl ?_
  refine wq_alen rfl (by first | rfl | assumption) (by first | decide | omega | assumption) rfl h18 (arr_len _ _) ?_
  refine wq_cge rfl (by first | omega | decide | exact Nat.lt_of_le_of_lt Nat.and_le_right (by decide) | exact ⟨by omega, by omega⟩) (by first | omega | decide | exact Nat.lt_of_le_of_lt Nat.and_le_right (by decide) | exact ⟨by omega, by omega⟩) (fun c => absurd c (by omega)) (fun c10 => ?_)
  refine wq_go rfl (fun _ => rfl) ?_
  refine wq_getf rfl (by first | rfl | assumption) (by first | decide | omega | assumption) h15 rfl ?_
  refine wq_go rfl (fun _ => rfl) ?_
  refine wq_iald rfl (by first | rfl | assumption) (by first | decide | omega | assumption) h18 rfl (by omega) (by first | decide | omega) ?_
  refine wq_top (ep t hts) ?_
  refine wq_go rfl (fun _ => rfl) ?_
  refine wq_iret rfl ?_
  exact K
theorem c_tk_numberAt {xs : List Int32} {d : Nat} {σ : Nat → List Value} {Q : Option Value → (Nat → List Value) → Prop} {X : Tx} {f t sc nc nh nv : Nat} {y : Nat → Int32} {w : Option (Nat × Nat)} (hW : RdW X f t sc nc nh nv y w σ) (hk : Xk X t = 24)  (K : Q (some (.int (nI (Xv X t)))) σ) : Wq xs (d + 0) ax_cd58 0 [(0, .ref 15), (1, .int (nI t))] [] σ Q := by
  have hW0 := hW
  obtain ⟨⟨fpl, h3⟩, h4, hsc, hnc, hnh, hnv, hsh, ⟨s, n15, fk, fp, fn, fm, h15, h17, h18, h19, h20, hs, ek, ep, en, em, el, e35⟩, ht, hr, hf⟩ := hW0
  have hk35 := e35 t
  have hts := el t ht hr
  refine wq_go rfl (fun _ => rfl) ?_
  refine wq_zlt rfl (by first | omega | decide | exact Nat.lt_of_le_of_lt Nat.and_le_right (by decide) | exact ⟨by omega, by omega⟩) (fun c => absurd c (by omega)) (fun c1 => ?_)
  refine wq_go rfl (fun _ => rfl) ?_
  refine wq_go rfl (fun _ => rfl) ?_
  refine wq_getf rfl (by first | rfl | assumption) (by first | decide | omega | assumption) h15 rfl ?_
  refine wq_cge rfl (by first | omega | decide | exact Nat.lt_of_le_of_lt Nat.and_le_right (by decide) | exact ⟨by omega, by omega⟩) (by first | omega | decide | exact Nat.lt_of_le_of_lt Nat.and_le_right (by decide) | exact ⟨by omega, by omega⟩) (fun c => absurd c (by omega)) (fun c5 => ?_)
  refine wq_go rfl (fun _ => rfl) ?_
  refine wq_go rfl (fun _ => rfl) ?_
  refine wq_getf rfl (by first | rfl | assumption) (by first | decide | omega | assumption) h15 rfl ?_
  refine wq_alen rfl (by first | rfl | assumption) (by first | decide | omega | assumption) rfl h19 (arr_len _ _) ?_
  refine wq_cge rfl (by first | omega | decide | exact Nat.lt_of_le_of_lt Nat.and_le_right (by decide) | exact ⟨by omega, by omega⟩) (by first | omega | decide | exact Nat.lt_of_le_of_lt Nat.and_le_right (by decide) | exact ⟨by omega, by omega⟩) (fun c => absurd c (by omega)) (fun c10 => ?_)
  refine wq_go rfl (fun _ => rfl) ?_
  refine wq_getf rfl (by first | rfl | assumption) (by first | decide | omega | assumption) h15 rfl ?_
  refine wq_go rfl (fun _ => rfl) ?_
  refine wq_iald rfl (by first | rfl | assumption) (by first | decide | omega | assumption) h19 rfl (by omega) (by first | decide | omega) ?_
  refine wq_top (en t hts hk) ?_
  refine wq_go rfl (fun _ => rfl) ?_
  refine wq_iret rfl ?_
  exact K
theorem c_tk_numAny {xs : List Int32} {d : Nat} {σ : Nat → List Value} {Q : Option Value → (Nat → List Value) → Prop} {X : Tx} {f t sc nc nh nv : Nat} {y : Nat → Int32} {w : Option (Nat × Nat)} (hW : RdW X f t sc nc nh nv y w σ)  (K : ∀ x, Q (some (.int x)) σ) : Wq xs (d + 0) ax_cd58 0 [(0, .ref 15), (1, .int (nI t))] [] σ Q := by
  have hW0 := hW
  obtain ⟨⟨fpl, h3⟩, h4, hsc, hnc, hnh, hnv, hsh, ⟨s, n15, fk, fp, fn, fm, h15, h17, h18, h19, h20, hs, ek, ep, en, em, el, e35⟩, ht, hr, hf⟩ := hW0
  have hk35 := e35 t
  have hts := el t ht hr
  refine wq_go rfl (fun _ => rfl) ?_
  refine wq_zlt rfl (by first | omega | decide | exact Nat.lt_of_le_of_lt Nat.and_le_right (by decide) | exact ⟨by omega, by omega⟩) (fun c => absurd c (by omega)) (fun c1 => ?_)
  refine wq_go rfl (fun _ => rfl) ?_
  refine wq_go rfl (fun _ => rfl) ?_
  refine wq_getf rfl (by first | rfl | assumption) (by first | decide | omega | assumption) h15 rfl ?_
  refine wq_cge rfl (by first | omega | decide | exact Nat.lt_of_le_of_lt Nat.and_le_right (by decide) | exact ⟨by omega, by omega⟩) (by first | omega | decide | exact Nat.lt_of_le_of_lt Nat.and_le_right (by decide) | exact ⟨by omega, by omega⟩) (fun c => absurd c (by omega)) (fun c5 => ?_)
  refine wq_go rfl (fun _ => rfl) ?_
  refine wq_go rfl (fun _ => rfl) ?_
  refine wq_getf rfl (by first | rfl | assumption) (by first | decide | omega | assumption) h15 rfl ?_
  refine wq_alen rfl (by first | rfl | assumption) (by first | decide | omega | assumption) rfl h19 (arr_len _ _) ?_
  refine wq_cge rfl (by first | omega | decide | exact Nat.lt_of_le_of_lt Nat.and_le_right (by decide) | exact ⟨by omega, by omega⟩) (by first | omega | decide | exact Nat.lt_of_le_of_lt Nat.and_le_right (by decide) | exact ⟨by omega, by omega⟩) (fun c => absurd c (by omega)) (fun c10 => ?_)
  refine wq_go rfl (fun _ => rfl) ?_
  refine wq_getf rfl (by first | rfl | assumption) (by first | decide | omega | assumption) h15 rfl ?_
  refine wq_go rfl (fun _ => rfl) ?_
  refine wq_iald rfl (by first | rfl | assumption) (by first | decide | omega | assumption) h19 rfl (by omega) (by first | decide | omega) ?_
  refine wq_go rfl (fun _ => rfl) ?_
  refine wq_iret rfl ?_
  exact K _
theorem c_tk_nameAt {xs : List Int32} {d : Nat} {σ : Nat → List Value} {Q : Option Value → (Nat → List Value) → Prop} {X : Tx} {f t sc nc nh nv : Nat} {y : Nat → Int32} {w : Option (Nat × Nat)} (hW : RdW X f t sc nc nh nv y w σ) (hk : Xk X t = 23)  (K : Q (some (.long (Xn X t))) σ) : Wq xs (d + 0) ax_cd53 0 [(0, .ref 15), (1, .int (nI t))] [] σ Q := by
  have hW0 := hW
  obtain ⟨⟨fpl, h3⟩, h4, hsc, hnc, hnh, hnv, hsh, ⟨s, n15, fk, fp, fn, fm, h15, h17, h18, h19, h20, hs, ek, ep, en, em, el, e35⟩, ht, hr, hf⟩ := hW0
  have hk35 := e35 t
  have hts := el t ht hr
  refine wq_go rfl (fun _ => rfl) ?_
  refine wq_zlt rfl (by first | omega | decide | exact Nat.lt_of_le_of_lt Nat.and_le_right (by decide) | exact ⟨by omega, by omega⟩) (fun c => absurd c (by omega)) (fun c1 => ?_)
  refine wq_go rfl (fun _ => rfl) ?_
  refine wq_go rfl (fun _ => rfl) ?_
  refine wq_getf rfl (by first | rfl | assumption) (by first | decide | omega | assumption) h15 rfl ?_
  refine wq_cge rfl (by first | omega | decide | exact Nat.lt_of_le_of_lt Nat.and_le_right (by decide) | exact ⟨by omega, by omega⟩) (by first | omega | decide | exact Nat.lt_of_le_of_lt Nat.and_le_right (by decide) | exact ⟨by omega, by omega⟩) (fun c => absurd c (by omega)) (fun c5 => ?_)
  refine wq_go rfl (fun _ => rfl) ?_
  refine wq_go rfl (fun _ => rfl) ?_
  refine wq_getf rfl (by first | rfl | assumption) (by first | decide | omega | assumption) h15 rfl ?_
  refine wq_alen rfl (by first | rfl | assumption) (by first | decide | omega | assumption) rfl h20 (arrL_len _ _) ?_
  refine wq_cge rfl (by first | omega | decide | exact Nat.lt_of_le_of_lt Nat.and_le_right (by decide) | exact ⟨by omega, by omega⟩) (by first | omega | decide | exact Nat.lt_of_le_of_lt Nat.and_le_right (by decide) | exact ⟨by omega, by omega⟩) (fun c => absurd c (by omega)) (fun c10 => ?_)
  refine wq_go rfl (fun _ => rfl) ?_
  refine wq_getf rfl (by first | rfl | assumption) (by first | decide | omega | assumption) h15 rfl ?_
  refine wq_go rfl (fun _ => rfl) ?_
  refine wq_lald rfl (by first | rfl | assumption) (by first | decide | omega | assumption) h20 rfl (by omega) (by first | decide | omega) ?_
  refine wq_go rfl (fun _ => rfl) ?_
  refine wq_end rfl (fun _ => rfl) ?_
  rw [em t hts hk]
  exact K
theorem c_tk_namAny {xs : List Int32} {d : Nat} {σ : Nat → List Value} {Q : Option Value → (Nat → List Value) → Prop} {X : Tx} {f t sc nc nh nv : Nat} {y : Nat → Int32} {w : Option (Nat × Nat)} (hW : RdW X f t sc nc nh nv y w σ)  (K : ∀ x, Q (some (.long x)) σ) : Wq xs (d + 0) ax_cd53 0 [(0, .ref 15), (1, .int (nI t))] [] σ Q := by
  have hW0 := hW
  obtain ⟨⟨fpl, h3⟩, h4, hsc, hnc, hnh, hnv, hsh, ⟨s, n15, fk, fp, fn, fm, h15, h17, h18, h19, h20, hs, ek, ep, en, em, el, e35⟩, ht, hr, hf⟩ := hW0
  have hk35 := e35 t
  have hts := el t ht hr
  refine wq_go rfl (fun _ => rfl) ?_
  refine wq_zlt rfl (by first | omega | decide | exact Nat.lt_of_le_of_lt Nat.and_le_right (by decide) | exact ⟨by omega, by omega⟩) (fun c => absurd c (by omega)) (fun c1 => ?_)
  refine wq_go rfl (fun _ => rfl) ?_
  refine wq_go rfl (fun _ => rfl) ?_
  refine wq_getf rfl (by first | rfl | assumption) (by first | decide | omega | assumption) h15 rfl ?_
  refine wq_cge rfl (by first | omega | decide | exact Nat.lt_of_le_of_lt Nat.and_le_right (by decide) | exact ⟨by omega, by omega⟩) (by first | omega | decide | exact Nat.lt_of_le_of_lt Nat.and_le_right (by decide) | exact ⟨by omega, by omega⟩) (fun c => absurd c (by omega)) (fun c5 => ?_)
  refine wq_go rfl (fun _ => rfl) ?_
  refine wq_go rfl (fun _ => rfl) ?_
  refine wq_getf rfl (by first | rfl | assumption) (by first | decide | omega | assumption) h15 rfl ?_
  refine wq_alen rfl (by first | rfl | assumption) (by first | decide | omega | assumption) rfl h20 (arrL_len _ _) ?_
  refine wq_cge rfl (by first | omega | decide | exact Nat.lt_of_le_of_lt Nat.and_le_right (by decide) | exact ⟨by omega, by omega⟩) (by first | omega | decide | exact Nat.lt_of_le_of_lt Nat.and_le_right (by decide) | exact ⟨by omega, by omega⟩) (fun c => absurd c (by omega)) (fun c10 => ?_)
  refine wq_go rfl (fun _ => rfl) ?_
  refine wq_getf rfl (by first | rfl | assumption) (by first | decide | omega | assumption) h15 rfl ?_
  refine wq_go rfl (fun _ => rfl) ?_
  refine wq_lald rfl (by first | rfl | assumption) (by first | decide | omega | assumption) h20 rfl (by omega) (by first | decide | omega) ?_
  refine wq_go rfl (fun _ => rfl) ?_
  refine wq_end rfl (fun _ => rfl) ?_
  exact K _
theorem c_acc_e {xs : List Int32} {d : Nat} {σ : Nat → List Value} {Q : Option Value → (Nat → List Value) → Prop} {X : Tx} {f t sc nc nh nv : Nat} {y : Nat → Int32} {w : Option (Nat × Nat)} (hW : RdW X f t sc nc nh nv y w σ) (hf0 : ¬ f = 0) {k : Int32}  (K : Q (some (.int (nI 0))) σ) : Wq xs (d + 0) ax_cd51 0 [(0, .ref 3), (1, .int k)] [] σ Q := by
  have hW0 := hW
  obtain ⟨⟨fpl, h3⟩, h4, hsc, hnc, hnh, hnv, hsh, ⟨s, n15, fk, fp, fn, fm, h15, h17, h18, h19, h20, hs, ek, ep, en, em, el, e35⟩, ht, hr, hf⟩ := hW0
  have hk35 := e35 t
  have hts := el t ht hr
  refine wq_go rfl (fun _ => rfl) ?_
  refine wq_getf rfl (by first | rfl | assumption) (by first | decide | omega | assumption) h3 rfl ?_
  refine wq_zne rfl (by first | omega | decide | exact Nat.lt_of_le_of_lt Nat.and_le_right (by decide) | exact ⟨by omega, by omega⟩) (fun c2 => ?_) (fun c => absurd (show _ from by omega) c)
  refine wq_go rfl (fun _ => rfl) ?_
  refine wq_getf rfl (by first | rfl | assumption) (by first | decide | omega | assumption) h3 rfl ?_
  refine wq_zne rfl (by first | omega | decide | exact Nat.lt_of_le_of_lt Nat.and_le_right (by decide) | exact ⟨by omega, by omega⟩) (fun c12 => ?_) (fun c => absurd (show _ from by omega) c)
  refine wq_go rfl (fun _ => rfl) ?_
  refine wq_getf rfl (by first | rfl | assumption) (by first | decide | omega | assumption) h3 rfl ?_
  refine wq_zeq rfl (by first | omega | decide | exact Nat.lt_of_le_of_lt Nat.and_le_right (by decide) | exact ⟨by omega, by omega⟩) (fun c => absurd c (by omega)) (fun c22 => ?_)
  refine wq_cN (m := 0) rfl rfl ?_
  refine wq_nret rfl (by decide) ?_
  exact K
theorem c_acc {xs : List Int32} {d : Nat} {σ : Nat → List Value} {Q : Option Value → (Nat → List Value) → Prop} {X : Tx} {t sc nc nh nv : Nat} {y : Nat → Int32} {w : Option (Nat × Nat)} (hW : RdW X 0 t sc nc nh nv y w σ) {k : Nat} (hk34 : k < 34)  (K1 : ∀ t1 σ', must X k t = .inr t1 → t1 = t + 1 → Xk X t = k → Fr x3 σ σ' → RdW X 0 t1 sc nc nh nv y w σ' → Q (some (.int (nI 1))) σ') (K0 : ∀ f' σ', must X k t = er f' t → ¬ f' = 0 → f' ≤ 2 → Fr x3 σ σ' → RdW X f' t sc nc nh nv y w σ' → Q (some (.int (nI 0))) σ') : Wq xs (d + 0) ax_cd51 0 [(0, .ref 3), (1, .int (nI k))] [] σ Q := by
  have hW0 := hW
  obtain ⟨⟨fpl, h3⟩, h4, hsc, hnc, hnh, hnv, hsh, ⟨s, n15, fk, fp, fn, fm, h15, h17, h18, h19, h20, hs, ek, ep, en, em, el, e35⟩, ht, hr, hf⟩ := hW0
  have hk35 := e35 t
  have hts := el t ht hr
  by_cases hk : Xk X t = k
  · by_cases h4' : t = 400
    · skip
      refine wq_go rfl (fun _ => rfl) ?_
      refine wq_getf rfl (by first | rfl | assumption) (by first | decide | omega | assumption) h3 rfl ?_
      refine wq_zne rfl (by first | omega | decide | exact Nat.lt_of_le_of_lt Nat.and_le_right (by decide) | exact ⟨by omega, by omega⟩) (fun c => absurd c (by omega)) (fun c2 => ?_)
      refine wq_go rfl (fun _ => rfl) ?_
      refine wq_getf rfl (by first | rfl | assumption) (by first | decide | omega | assumption) h3 rfl ?_
      refine wq_go rfl (fun _ => rfl) ?_
      refine wq_ceq rfl (by first | omega | decide | exact Nat.lt_of_le_of_lt Nat.and_le_right (by decide) | exact ⟨by omega, by omega⟩) (by first | omega | decide | exact Nat.lt_of_le_of_lt Nat.and_le_right (by decide) | exact ⟨by omega, by omega⟩) (fun c6 => ?_) (fun c => absurd (show _ from by omega) c)
      refine wq_go rfl (fun _ => rfl) ?_
      refine wq_getf rfl (by first | rfl | assumption) (by first | decide | omega | assumption) h3 rfl ?_
      refine wq_zne rfl (by first | omega | decide | exact Nat.lt_of_le_of_lt Nat.and_le_right (by decide) | exact ⟨by omega, by omega⟩) (fun c => absurd c (by omega)) (fun c12 => ?_)
      refine wq_go rfl (fun _ => rfl) ?_
      refine wq_getf rfl (by first | rfl | assumption) (by first | decide | omega | assumption) h3 rfl ?_
      refine wq_cN (m := 400) rfl rfl ?_
      refine wq_clt rfl (by first | omega | decide | exact Nat.lt_of_le_of_lt Nat.and_le_right (by decide) | exact ⟨by omega, by omega⟩) (by first | omega | decide | exact Nat.lt_of_le_of_lt Nat.and_le_right (by decide) | exact ⟨by omega, by omega⟩) (fun c => absurd c (by omega)) (fun c16 => ?_)
      refine wq_go rfl (fun _ => rfl) ?_
      refine wq_cN (m := 2) rfl rfl ?_
      refine wq_putf rfl (by first | rfl | assumption) (by first | decide | omega | assumption) h3 rfl rfl rfl (by first | exact Nat.le_of_ble_eq_true rfl | (simp; done)) ?_
      refine wq_go rfl (fun _ => rfl) ?_
      refine wq_getf rfl (by first | rfl | assumption) (by first | decide | omega | assumption) (up_same _ _ _) rfl ?_
      refine wq_zeq rfl (by first | omega | decide | exact Nat.lt_of_le_of_lt Nat.and_le_right (by decide) | exact ⟨by omega, by omega⟩) (fun c => absurd c (by omega)) (fun c22 => ?_)
      refine wq_cN (m := 0) rfl rfl ?_
      refine wq_nret rfl (by decide) ?_
      subst h4'
      exact K0 2 _ (by unfold must; rw [if_pos hk]; rfl) (by decide) (by decide) (fr_up (fr_refl _ _) rfl) (rdw_3 hW ht hr (by decide))
    · have hts1 := el (t + 1) (by omega) (rch_s hr (by omega) (by omega))
      refine wq_go rfl (fun _ => rfl) ?_
      refine wq_getf rfl (by first | rfl | assumption) (by first | decide | omega | assumption) h3 rfl ?_
      refine wq_zne rfl (by first | omega | decide | exact Nat.lt_of_le_of_lt Nat.and_le_right (by decide) | exact ⟨by omega, by omega⟩) (fun c => absurd c (by omega)) (fun c2 => ?_)
      refine wq_go rfl (fun _ => rfl) ?_
      refine wq_getf rfl (by first | rfl | assumption) (by first | decide | omega | assumption) h3 rfl ?_
      refine wq_go rfl (fun _ => rfl) ?_
      refine wq_ceq rfl (by first | omega | decide | exact Nat.lt_of_le_of_lt Nat.and_le_right (by decide) | exact ⟨by omega, by omega⟩) (by first | omega | decide | exact Nat.lt_of_le_of_lt Nat.and_le_right (by decide) | exact ⟨by omega, by omega⟩) (fun c6 => ?_) (fun c => absurd (show _ from by omega) c)
      refine wq_go rfl (fun _ => rfl) ?_
      refine wq_getf rfl (by first | rfl | assumption) (by first | decide | omega | assumption) h3 rfl ?_
      refine wq_zne rfl (by first | omega | decide | exact Nat.lt_of_le_of_lt Nat.and_le_right (by decide) | exact ⟨by omega, by omega⟩) (fun c => absurd c (by omega)) (fun c12 => ?_)
      refine wq_go rfl (fun _ => rfl) ?_
      refine wq_getf rfl (by first | rfl | assumption) (by first | decide | omega | assumption) h3 rfl ?_
      refine wq_cN (m := 400) rfl rfl ?_
      refine wq_clt rfl (by first | omega | decide | exact Nat.lt_of_le_of_lt Nat.and_le_right (by decide) | exact ⟨by omega, by omega⟩) (by first | omega | decide | exact Nat.lt_of_le_of_lt Nat.and_le_right (by decide) | exact ⟨by omega, by omega⟩) (fun c16 => ?_) (fun c => absurd (show _ from by omega) c)
      refine wq_go rfl (fun _ => rfl) ?_
      refine wq_getf rfl (by first | rfl | assumption) (by first | decide | omega | assumption) h3 rfl ?_
      refine wq_zeq rfl (by first | omega | decide | exact Nat.lt_of_le_of_lt Nat.and_le_right (by decide) | exact ⟨by omega, by omega⟩) (fun c22 => ?_) (fun c => absurd (show _ from by omega) c)
      refine wq_go rfl (fun _ => rfl) ?_
      refine wq_go rfl (fun _ => rfl) ?_
      refine wq_getf rfl (by first | rfl | assumption) (by first | decide | omega | assumption) h3 rfl ?_
      refine wq_cN (m := 1) rfl rfl ?_
      refine wq_addN rfl ?_
      refine wq_putf rfl (by first | rfl | assumption) (by first | decide | omega | assumption) h3 rfl rfl rfl (by first | exact Nat.le_of_ble_eq_true rfl | (simp; done)) ?_
      refine wq_go rfl (fun _ => rfl) ?_
      refine wq_go rfl (fun _ => rfl) ?_
      refine wq_getf rfl (by first | rfl | assumption) (by first | decide | omega | assumption) (up_same _ _ _) rfl ?_
      refine wq_go rfl (fun _ => rfl) ?_
      refine wq_getf rfl (by first | rfl | assumption) (by first | decide | omega | assumption) (up_same _ _ _) rfl ?_
      refine wq_getfN rfl (by first | rfl | assumption) (by first | decide | omega | assumption) ((up_ne _ _ (by decide)).trans h15) rfl ?_
      refine wq_cge rfl (by first | omega | decide | exact Nat.lt_of_le_of_lt Nat.and_le_right (by decide) | exact ⟨by omega, by omega⟩) (by first | omega | decide | exact Nat.lt_of_le_of_lt Nat.and_le_right (by decide) | exact ⟨by omega, by omega⟩) (fun c => absurd c (by omega)) (fun c37 => ?_)
      refine wq_go rfl (fun _ => rfl) ?_
      refine wq_getf rfl (by first | rfl | assumption) (by first | decide | omega | assumption) (up_same _ _ _) rfl ?_
      refine wq_go rfl (fun _ => rfl) ?_
      refine wq_getf rfl (by first | rfl | assumption) (by first | decide | omega | assumption) (up_same _ _ _) rfl ?_
      refine wq_getfN rfl (by first | rfl | assumption) (by first | decide | omega | assumption) ((up_ne _ _ (by decide)).trans h15) rfl ?_
      refine wq_alen rfl (by first | rfl | assumption) (by first | decide | omega | assumption) rfl ((up_ne _ _ (by decide)).trans h17) (arr_len _ _) ?_
      refine wq_cge rfl (by first | omega | decide | exact Nat.lt_of_le_of_lt Nat.and_le_right (by decide) | exact ⟨by omega, by omega⟩) (by first | omega | decide | exact Nat.lt_of_le_of_lt Nat.and_le_right (by decide) | exact ⟨by omega, by omega⟩) (fun c => absurd c (by omega)) (fun c44 => ?_)
      refine wq_go rfl (fun _ => rfl) ?_
      refine wq_getf rfl (by first | rfl | assumption) (by first | decide | omega | assumption) (up_same _ _ _) rfl ?_
      refine wq_getfN rfl (by first | rfl | assumption) (by first | decide | omega | assumption) ((up_ne _ _ (by decide)).trans h15) rfl ?_
      refine wq_go rfl (fun _ => rfl) ?_
      refine wq_getf rfl (by first | rfl | assumption) (by first | decide | omega | assumption) (up_same _ _ _) rfl ?_
      refine wq_iald rfl (by first | rfl | assumption) (by first | decide | omega | assumption) ((up_ne _ _ (by decide)).trans h17) rfl (by omega) (by first | decide | omega) ?_
      refine wq_top (ek (t + 1) hts1) ?_
      refine wq_go rfl (fun _ => rfl) ?_
      refine wq_putf rfl (by first | rfl | assumption) (by first | decide | omega | assumption) (up_same _ _ _) rfl rfl rfl (by first | exact Nat.le_of_ble_eq_true rfl | (simp; done)) ?_
      rw [up_up]
      refine wq_cN (m := 1) rfl rfl ?_
      refine wq_nret rfl (by decide) ?_
      exact K1 (t + 1) _ (by unfold must; rw [if_pos hk, adv_y (by omega)]) rfl hk (fr_up (fr_refl _ _) rfl) (rdw_3 hW (by omega) (rch_s hr (by omega) (by omega)) (by decide))
  · skip
    refine wq_go rfl (fun _ => rfl) ?_
    refine wq_getf rfl (by first | rfl | assumption) (by first | decide | omega | assumption) h3 rfl ?_
    refine wq_zne rfl (by first | omega | decide | exact Nat.lt_of_le_of_lt Nat.and_le_right (by decide) | exact ⟨by omega, by omega⟩) (fun c => absurd c (by omega)) (fun c2 => ?_)
    refine wq_go rfl (fun _ => rfl) ?_
    refine wq_getf rfl (by first | rfl | assumption) (by first | decide | omega | assumption) h3 rfl ?_
    refine wq_go rfl (fun _ => rfl) ?_
    refine wq_ceq rfl (by first | omega | decide | exact Nat.lt_of_le_of_lt Nat.and_le_right (by decide) | exact ⟨by omega, by omega⟩) (by first | omega | decide | exact Nat.lt_of_le_of_lt Nat.and_le_right (by decide) | exact ⟨by omega, by omega⟩) (fun c => absurd c (by omega)) (fun c6 => ?_)
    refine wq_go rfl (fun _ => rfl) ?_
    refine wq_cN (m := 1) rfl rfl ?_
    refine wq_putf rfl (by first | rfl | assumption) (by first | decide | omega | assumption) h3 rfl rfl rfl (by first | exact Nat.le_of_ble_eq_true rfl | (simp; done)) ?_
    refine wq_go rfl (fun _ => rfl) ?_
    refine wq_getf rfl (by first | rfl | assumption) (by first | decide | omega | assumption) (up_same _ _ _) rfl ?_
    refine wq_zne rfl (by first | omega | decide | exact Nat.lt_of_le_of_lt Nat.and_le_right (by decide) | exact ⟨by omega, by omega⟩) (fun c12 => ?_) (fun c => absurd (show _ from by omega) c)
    refine wq_go rfl (fun _ => rfl) ?_
    refine wq_getf rfl (by first | rfl | assumption) (by first | decide | omega | assumption) (up_same _ _ _) rfl ?_
    refine wq_zeq rfl (by first | omega | decide | exact Nat.lt_of_le_of_lt Nat.and_le_right (by decide) | exact ⟨by omega, by omega⟩) (fun c => absurd c (by omega)) (fun c22 => ?_)
    refine wq_cN (m := 0) rfl rfl ?_
    refine wq_nret rfl (by decide) ?_
    exact K0 1 _ (by unfold must; rw [if_neg hk]) (by decide) (by decide) (fr_up (fr_refl _ _) rfl) (rdw_3 hW ht hr (by decide))
theorem c_ref_e {xs : List Int32} {d : Nat} {σ : Nat → List Value} {Q : Option Value → (Nat → List Value) → Prop} {X : Tx} {f t sc nc nh nv : Nat} {y : Nat → Int32} {w : Option (Nat × Nat)} (hW : RdW X f t sc nc nh nv y w σ) (hf0 : ¬ f = 0) {k : Int32}  (K : Q none σ) : Wq xs (d + 0) ax_cd50 0 [(0, .ref 3), (1, .int k)] [] σ Q := by
  have hW0 := hW
  obtain ⟨⟨fpl, h3⟩, h4, hsc, hnc, hnh, hnv, hsh, ⟨s, n15, fk, fp, fn, fm, h15, h17, h18, h19, h20, hs, ek, ep, en, em, el, e35⟩, ht, hr, hf⟩ := hW0
  have hk35 := e35 t
  have hts := el t ht hr
  refine wq_go rfl (fun _ => rfl) ?_
  refine wq_getf rfl (by first | rfl | assumption) (by first | decide | omega | assumption) h3 rfl ?_
  refine wq_zne rfl (by first | omega | decide | exact Nat.lt_of_le_of_lt Nat.and_le_right (by decide) | exact ⟨by omega, by omega⟩) (fun c2 => ?_) (fun c => absurd (show _ from by omega) c)
  refine wq_end rfl (fun _ => rfl) ?_
  exact K
theorem c_ref {xs : List Int32} {d : Nat} {σ : Nat → List Value} {Q : Option Value → (Nat → List Value) → Prop} {X : Tx} {t sc nc nh nv : Nat} {y : Nat → Int32} {w : Option (Nat × Nat)} (hW : RdW X 0 t sc nc nh nv y w σ) {k : Nat} (hk : k < 10)  (K : ∀ σ', Fr x3 σ σ' → RdW X k t sc nc nh nv y w σ' → Q none σ') : Wq xs (d + 0) ax_cd50 0 [(0, .ref 3), (1, .int (nI k))] [] σ Q := by
  have hW0 := hW
  obtain ⟨⟨fpl, h3⟩, h4, hsc, hnc, hnh, hnv, hsh, ⟨s, n15, fk, fp, fn, fm, h15, h17, h18, h19, h20, hs, ek, ep, en, em, el, e35⟩, ht, hr, hf⟩ := hW0
  have hk35 := e35 t
  have hts := el t ht hr
  refine wq_go rfl (fun _ => rfl) ?_
  refine wq_getf rfl (by first | rfl | assumption) (by first | decide | omega | assumption) h3 rfl ?_
  refine wq_zne rfl (by first | omega | decide | exact Nat.lt_of_le_of_lt Nat.and_le_right (by decide) | exact ⟨by omega, by omega⟩) (fun c => absurd c (by omega)) (fun c2 => ?_)
  refine wq_go rfl (fun _ => rfl) ?_
  refine wq_go rfl (fun _ => rfl) ?_
  refine wq_putf rfl (by first | rfl | assumption) (by first | decide | omega | assumption) h3 rfl rfl rfl (by first | exact Nat.le_of_ble_eq_true rfl | (simp; done)) ?_
  refine wq_end rfl (fun _ => rfl) ?_
  exact K _ (fr_up (fr_refl _ _) rfl) (rdw_3 hW ht hr hk)
theorem c_more_e {xs : List Int32} {d : Nat} {σ : Nat → List Value} {Q : Option Value → (Nat → List Value) → Prop} {X : Tx} {f t sc nc nh nv : Nat} {y : Nat → Int32} {w : Option (Nat × Nat)} (hW : RdW X f t sc nc nh nv y w σ) {a m : Nat} (hf0 : ¬ f = 0 ∨ a < m) (ha : a < 1000) (hm : m < 1000)  (K : Q none σ) : Wq xs (d + 1) ax_cd49 0 [(0, .ref 3), (1, .int (nI a)), (2, .int (nI m))] [] σ Q := by
  have hW0 := hW
  obtain ⟨⟨fpl, h3⟩, h4, hsc, hnc, hnh, hnv, hsh, ⟨s, n15, fk, fp, fn, fm, h15, h17, h18, h19, h20, hs, ek, ep, en, em, el, e35⟩, ht, hr, hf⟩ := hW0
  have hk35 := e35 t
  have hts := el t ht hr
  refine wq_go rfl (fun _ => rfl) ?_
  refine wq_go rfl (fun _ => rfl) ?_
  refine wq_clt rfl (by first | omega | decide | exact Nat.lt_of_le_of_lt Nat.and_le_right (by decide) | exact ⟨by omega, by omega⟩) (by first | omega | decide | exact Nat.lt_of_le_of_lt Nat.and_le_right (by decide) | exact ⟨by omega, by omega⟩) (fun c2 => ?_) (fun c2 => ?_)
  · skip
    refine wq_end rfl (fun _ => rfl) ?_
    exact K
  · skip
    refine wq_go rfl (fun _ => rfl) ?_
    refine wq_cN (m := 2) rfl rfl ?_
    refine wq_callV rfl rfl (by first | rfl | assumption) (by first | decide | omega | assumption) (Nat.le_of_ble_eq_true rfl) (Nat.le_of_ble_eq_true rfl) rfl rfl ?_
    refine c_ref_e hW (by omega) ?_
    refine wq_end rfl (fun _ => rfl) ?_
    exact K
theorem c_more {xs : List Int32} {d : Nat} {σ : Nat → List Value} {Q : Option Value → (Nat → List Value) → Prop} {X : Tx} {t sc nc nh nv : Nat} {y : Nat → Int32} {w : Option (Nat × Nat)} (hW : RdW X 0 t sc nc nh nv y w σ) {a m : Nat} (ham : m ≤ a) (ha : a < 1000) (hm : m < 1000)  (K : ∀ σ', Fr x3 σ σ' → RdW X 2 t sc nc nh nv y w σ' → Q none σ') : Wq xs (d + 1) ax_cd49 0 [(0, .ref 3), (1, .int (nI a)), (2, .int (nI m))] [] σ Q := by
  have hW0 := hW
  obtain ⟨⟨fpl, h3⟩, h4, hsc, hnc, hnh, hnv, hsh, ⟨s, n15, fk, fp, fn, fm, h15, h17, h18, h19, h20, hs, ek, ep, en, em, el, e35⟩, ht, hr, hf⟩ := hW0
  have hk35 := e35 t
  have hts := el t ht hr
  refine wq_go rfl (fun _ => rfl) ?_
  refine wq_go rfl (fun _ => rfl) ?_
  refine wq_clt rfl (by first | omega | decide | exact Nat.lt_of_le_of_lt Nat.and_le_right (by decide) | exact ⟨by omega, by omega⟩) (by first | omega | decide | exact Nat.lt_of_le_of_lt Nat.and_le_right (by decide) | exact ⟨by omega, by omega⟩) (fun c => absurd c (by omega)) (fun c2 => ?_)
  refine wq_go rfl (fun _ => rfl) ?_
  refine wq_cN (m := 2) rfl rfl ?_
  refine wq_callV rfl rfl (by first | rfl | assumption) (by first | decide | omega | assumption) (Nat.le_of_ble_eq_true rfl) (Nat.le_of_ble_eq_true rfl) rfl rfl ?_
  refine c_ref hW (by decide) (fun σ2 F2 W2 => ?_)
  refine wq_end rfl (fun _ => rfl) ?_
  exact K σ2 F2 W2
theorem c_les_e {xs : List Int32} {d : Nat} {σ : Nat → List Value} {Q : Option Value → (Nat → List Value) → Prop} {X : Tx} {f t sc nc nh nv : Nat} {y : Nat → Int32} {w : Option (Nat × Nat)} (hW : RdW X f t sc nc nh nv y w σ) (hf0 : ¬ f = 0) {k : Int32}  (K : Q none σ) : Wq xs (d + 1) ax_cd55 0 [(0, .ref 3), (1, .int k)] [] σ Q := by
  have hW0 := hW
  obtain ⟨⟨fpl, h3⟩, h4, hsc, hnc, hnh, hnv, hsh, ⟨s, n15, fk, fp, fn, fm, h15, h17, h18, h19, h20, hs, ek, ep, en, em, el, e35⟩, ht, hr, hf⟩ := hW0
  have hk35 := e35 t
  have hts := el t ht hr
  refine wq_go rfl (fun _ => rfl) ?_
  refine wq_getf rfl (by first | rfl | assumption) (by first | decide | omega | assumption) h3 rfl ?_
  refine wq_zne rfl (by first | omega | decide | exact Nat.lt_of_le_of_lt Nat.and_le_right (by decide) | exact ⟨by omega, by omega⟩) (fun c2 => ?_) (fun c => absurd (show _ from by omega) c)
  refine wq_end rfl (fun _ => rfl) ?_
  exact K
theorem wq_tkp {xs : List Int32} {d : Nat} {σ : Nat → List Value} {Q : Option Value → (Nat → List Value) → Prop} {X : Tx} {f t sc nc nh nv : Nat} {y : Nat → Int32} {w : Option (Nat × Nat)} (hW : RdW X f t sc nc nh nv y w σ) {u : List Value} (K : Q (some (.int (nI (Xp X t)))) (up σ 3 u)) : Wq xs (d + 0) ax_cd56 0 [(0, .ref 15), (1, .int (nI t))] [] (up σ 3 u) Q := by
  have hW0 := hW
  obtain ⟨⟨fpl, h3⟩, h4, hsc, hnc, hnh, hnv, hsh, ⟨s, n15, fk, fp, fn, fm, h15, h17, h18, h19, h20, hs, ek, ep, en, em, el, e35⟩, ht, hr, hf⟩ := hW0
  have hk35 := e35 t
  have hts := el t ht hr
  refine wq_go rfl (fun _ => rfl) ?_
  refine wq_zlt rfl (by first | omega | decide | exact Nat.lt_of_le_of_lt Nat.and_le_right (by decide) | exact ⟨by omega, by omega⟩) (fun c => absurd c (by omega)) (fun c1 => ?_)
  refine wq_go rfl (fun _ => rfl) ?_
  refine wq_go rfl (fun _ => rfl) ?_
  refine wq_getf rfl (by first | rfl | assumption) (by first | decide | omega | assumption) ((up_ne _ _ (by decide)).trans h15) rfl ?_
  refine wq_cge rfl (by first | omega | decide | exact Nat.lt_of_le_of_lt Nat.and_le_right (by decide) | exact ⟨by omega, by omega⟩) (by first | omega | decide | exact Nat.lt_of_le_of_lt Nat.and_le_right (by decide) | exact ⟨by omega, by omega⟩) (fun c => absurd c (by omega)) (fun c5 => ?_)
  refine wq_go rfl (fun _ => rfl) ?_
  refine wq_go rfl (fun _ => rfl) ?_
  refine wq_getf rfl (by first | rfl | assumption) (by first | decide | omega | assumption) ((up_ne _ _ (by decide)).trans h15) rfl ?_
  refine wq_alen rfl (by first | rfl | assumption) (by first | decide | omega | assumption) rfl ((up_ne _ _ (by decide)).trans h18) (arr_len _ _) ?_
  refine wq_cge rfl (by first | omega | decide | exact Nat.lt_of_le_of_lt Nat.and_le_right (by decide) | exact ⟨by omega, by omega⟩) (by first | omega | decide | exact Nat.lt_of_le_of_lt Nat.and_le_right (by decide) | exact ⟨by omega, by omega⟩) (fun c => absurd c (by omega)) (fun c10 => ?_)
  refine wq_go rfl (fun _ => rfl) ?_
  refine wq_getf rfl (by first | rfl | assumption) (by first | decide | omega | assumption) ((up_ne _ _ (by decide)).trans h15) rfl ?_
  refine wq_go rfl (fun _ => rfl) ?_
  refine wq_iald rfl (by first | rfl | assumption) (by first | decide | omega | assumption) ((up_ne _ _ (by decide)).trans h18) rfl (by omega) (by first | decide | omega) ?_
  refine wq_top (ep t hts) ?_
  refine wq_go rfl (fun _ => rfl) ?_
  refine wq_iret rfl ?_
  exact K
theorem c_les {xs : List Int32} {d : Nat} {σ : Nat → List Value} {Q : Option Value → (Nat → List Value) → Prop} {X : Tx} {t sc nc nh nv : Nat} {y : Nat → Int32} {w : Option (Nat × Nat)} (hW : RdW X 0 t sc nc nh nv y w σ) {k : Nat} (hk : k < 10) (hq0 : ∀ q, w = some q → ¬ q.1 = 0) (hq1 : ∀ q, w = some q → q.1 < 10)  (K : ∀ σ', Fr x3 σ σ' → RdW X 0 t sc nc nh nv y (wn w true k (Xp X t)) σ' → Q none σ') : Wq xs (d + 1) ax_cd55 0 [(0, .ref 3), (1, .int (nI k))] [] σ Q := by
  have hW0 := hW
  obtain ⟨⟨fpl, h3⟩, h4, hsc, hnc, hnh, hnv, hsh, ⟨s, n15, fk, fp, fn, fm, h15, h17, h18, h19, h20, hs, ek, ep, en, em, el, e35⟩, ht, hr, hf⟩ := hW0
  have hk35 := e35 t
  have hts := el t ht hr
  refine wq_go rfl (fun _ => rfl) ?_
  refine wq_getf rfl (by first | rfl | assumption) (by first | decide | omega | assumption) h3 rfl ?_
  refine wq_zne rfl (by first | omega | decide | exact Nat.lt_of_le_of_lt Nat.and_le_right (by decide) | exact ⟨by omega, by omega⟩) (fun c => absurd c (by omega)) (fun c2 => ?_)
  cases w with
  | none =>
    refine wq_go rfl (fun _ => rfl) ?_
    refine wq_getf rfl (by first | rfl | assumption) (by first | decide | omega | assumption) h3 rfl ?_
    refine wq_if rfl (fun c => absurd (c.symm.trans ((show ax_cmp 1 (nI 0) 0 = false from rfl))) (by decide)) (fun c5 => ?_)
    refine wq_go rfl (fun _ => rfl) ?_
    refine wq_go rfl (fun _ => rfl) ?_
    refine wq_putf rfl (by first | rfl | assumption) (by first | decide | omega | assumption) h3 rfl rfl rfl (by first | exact Nat.le_of_ble_eq_true rfl | (simp; done)) ?_
    refine wq_go rfl (fun _ => rfl) ?_
    refine wq_go rfl (fun _ => rfl) ?_
    refine wq_getf rfl (by first | rfl | assumption) (by first | decide | omega | assumption) (up_same _ _ _) rfl ?_
    refine wq_go rfl (fun _ => rfl) ?_
    refine wq_getf rfl (by first | rfl | assumption) (by first | decide | omega | assumption) (up_same _ _ _) rfl ?_
    refine wq_callV rfl rfl (by first | rfl | assumption) (by first | decide | omega | assumption) (Nat.le_of_ble_eq_true rfl) (Nat.le_of_ble_eq_true rfl) rfl rfl ?_
    have hWu := rdw_3 (f' := 0) (t' := t) (w' := some (k, 0)) (fp := fpl) hW ht hr (by decide)
    refine wq_tkp hW ?_
    refine wq_putf rfl (by first | rfl | assumption) (by first | decide | omega | assumption) (up_same _ _ _) rfl rfl rfl (by first | exact Nat.le_of_ble_eq_true rfl | (simp; done)) ?_
    rw [up_up]
    refine wq_end rfl (fun _ => rfl) ?_
    exact K _ (fr_up (fr_refl _ _) rfl) (rdw_3 (w' := some (k, Xp X t)) hW ht hr (by decide))
  | some q =>
    have hq : ¬ q.1 = 0 := hq0 q rfl
    have hq9 : q.1 < 10 := hq1 q rfl
    refine wq_go rfl (fun _ => rfl) ?_
    refine wq_getf rfl (by first | rfl | assumption) (by first | decide | omega | assumption) h3 rfl ?_
    refine wq_if rfl (fun c5 => ?_) (fun c => absurd (c.symm.trans ((show decide (nI q.1 ≠ 0) = true from decide_eq_true (fun e => hq ((nI_eq (by omega) (by decide) (b := 0)).mp e))))) (by decide))
    refine wq_end rfl (fun _ => rfl) ?_
    exact K _ (fr_refl _ _) hW
theorem c_tin_e {xs : List Int32} {d : Nat} {σ : Nat → List Value} {Q : Option Value → (Nat → List Value) → Prop} {X : Tx} {f t sc nc nh nv : Nat} {y : Nat → Int32} {w : Option (Nat × Nat)} (hW : RdW X f t sc nc nh nv y w σ) (hf0 : ¬ f = 0) {lo hi : Nat}  (K : ∀ x, Q (some (.int x)) σ) : Wq xs (d + 2) ax_cd57 0 [(0, .ref 3), (1, .int (nI lo)), (2, .int (nI hi))] [] σ Q := by
  have hW0 := hW
  obtain ⟨⟨fpl, h3⟩, h4, hsc, hnc, hnh, hnv, hsh, ⟨s, n15, fk, fp, fn, fm, h15, h17, h18, h19, h20, hs, ek, ep, en, em, el, e35⟩, ht, hr, hf⟩ := hW0
  have hk35 := e35 t
  have hts := el t ht hr
  refine wq_go rfl (fun _ => rfl) ?_
  refine wq_getf rfl (by first | rfl | assumption) (by first | decide | omega | assumption) h3 rfl ?_
  refine wq_go rfl (fun _ => rfl) ?_
  refine wq_getf rfl (by first | rfl | assumption) (by first | decide | omega | assumption) h3 rfl ?_
  refine wq_callV rfl rfl (by first | rfl | assumption) (by first | decide | omega | assumption) (Nat.le_of_ble_eq_true rfl) (Nat.le_of_ble_eq_true rfl) rfl rfl ?_
  refine c_tk_numAny hW (fun x => ?_)
  refine wq_go rfl (fun _ => rfl) ?_
  refine wq_go rfl (fun _ => rfl) ?_
  refine wq_getf rfl (by first | rfl | assumption) (by first | decide | omega | assumption) h3 rfl ?_
  refine wq_cN (m := 24) rfl rfl ?_
  refine wq_cne rfl (by first | omega | decide | exact Nat.lt_of_le_of_lt Nat.and_le_right (by decide) | exact ⟨by omega, by omega⟩) (by first | omega | decide | exact Nat.lt_of_le_of_lt Nat.and_le_right (by decide) | exact ⟨by omega, by omega⟩) (fun c9 => ?_) (fun c9 => ?_)
  · skip
    refine wq_go rfl (fun _ => rfl) ?_
    refine wq_cN (m := 24) rfl rfl ?_
    refine wq_callV rfl rfl (by first | rfl | assumption) (by first | decide | omega | assumption) (Nat.le_of_ble_eq_true rfl) (Nat.le_of_ble_eq_true rfl) rfl rfl ?_
    refine c_acc_e hW hf0 ?_
    refine wq_go rfl (fun _ => rfl) ?_
    refine wq_go rfl (fun _ => rfl) ?_
    refine wq_iret rfl ?_
    exact K _
  · skip
    refine wq_go rfl (fun _ => rfl) ?_
    refine wq_go rfl (fun _ => rfl) ?_
    refine wq_cmp rfl  (fun c12 => ?_) (fun c12 => ?_)
    · skip
      refine wq_go rfl (fun _ => rfl) ?_
      refine wq_cN (m := 5) rfl rfl ?_
      refine wq_callV rfl rfl (by first | rfl | assumption) (by first | decide | omega | assumption) (Nat.le_of_ble_eq_true rfl) (Nat.le_of_ble_eq_true rfl) rfl rfl ?_
      refine c_les_e hW hf0 ?_
      refine wq_go rfl (fun _ => rfl) ?_
      refine wq_cN (m := 24) rfl rfl ?_
      refine wq_callV rfl rfl (by first | rfl | assumption) (by first | decide | omega | assumption) (Nat.le_of_ble_eq_true rfl) (Nat.le_of_ble_eq_true rfl) rfl rfl ?_
      refine c_acc_e hW hf0 ?_
      refine wq_go rfl (fun _ => rfl) ?_
      refine wq_go rfl (fun _ => rfl) ?_
      refine wq_iret rfl ?_
      exact K _
    · skip
      refine wq_go rfl (fun _ => rfl) ?_
      refine wq_go rfl (fun _ => rfl) ?_
      refine wq_cmp rfl  (fun c15 => ?_) (fun c15 => ?_)
      · skip
        refine wq_go rfl (fun _ => rfl) ?_
        refine wq_cN (m := 24) rfl rfl ?_
        refine wq_callV rfl rfl (by first | rfl | assumption) (by first | decide | omega | assumption) (Nat.le_of_ble_eq_true rfl) (Nat.le_of_ble_eq_true rfl) rfl rfl ?_
        refine c_acc_e hW hf0 ?_
        refine wq_go rfl (fun _ => rfl) ?_
        refine wq_go rfl (fun _ => rfl) ?_
        refine wq_iret rfl ?_
        exact K _
      · skip
        refine wq_go rfl (fun _ => rfl) ?_
        refine wq_cN (m := 5) rfl rfl ?_
        refine wq_callV rfl rfl (by first | rfl | assumption) (by first | decide | omega | assumption) (Nat.le_of_ble_eq_true rfl) (Nat.le_of_ble_eq_true rfl) rfl rfl ?_
        refine c_les_e hW hf0 ?_
        refine wq_go rfl (fun _ => rfl) ?_
        refine wq_cN (m := 24) rfl rfl ?_
        refine wq_callV rfl rfl (by first | rfl | assumption) (by first | decide | omega | assumption) (Nat.le_of_ble_eq_true rfl) (Nat.le_of_ble_eq_true rfl) rfl rfl ?_
        refine c_acc_e hW hf0 ?_
        refine wq_go rfl (fun _ => rfl) ?_
        refine wq_go rfl (fun _ => rfl) ?_
        refine wq_iret rfl ?_
        exact K _
/-- the lesser faults' numbers -/
def okL (w : Option (Nat × Nat)) : Prop := ∀ q, w = some q → ¬ q.1 = 0 ∧ q.1 < 10
theorem okL_n (w : Option (Nat × Nat)) (c : Bool) {k : Nat} (p : Nat) (h : okL w) (hk : ¬ k = 0 ∧ k < 10) : okL (wn w c k p) := by
  unfold wn
  cases w with
  | some q => exact h
  | none =>
    intro q e
    simp only at e
    split at e
    · cases e; exact hk
    · cases e
theorem wn_ne (w : Option (Nat × Nat)) {c : Bool} {k p : Nat} (h : wn w c k p = none) : w = none ∧ c = false := by
  unfold wn at h
  cases w with
  | some q => cases h
  | none =>
    refine ⟨rfl, ?_⟩
    simp only at h
    split at h
    · cases h
    · next e => exact Bool.eq_false_iff.mpr e
theorem c_tin {xs : List Int32} {d : Nat} {σ : Nat → List Value} {Q : Option Value → (Nat → List Value) → Prop} {X : Tx} {t sc nc nh nv : Nat} {y : Nat → Int32} {w : Option (Nat × Nat)} (hW : RdW X 0 t sc nc nh nv y w σ) (hL : okL w) (hv : ∀ i, Xv X i < 10000) {lo hi : Nat} (hlo : lo < 10000) (hhi : hi < 10000)  (K1 : ∀ t1 σ', must X 24 t = .inr t1 → t1 = t + 1 → Xk X t = 24 → Fr x3 σ σ' → RdW X 0 t1 sc nc nh nv y (wn w (decide (Xv X t < lo ∨ hi < Xv X t)) 5 (Xp X t)) σ' → Q (some (.int (nI (Xv X t)))) σ') (K0 : ∀ f' x w' σ', must X 24 t = er f' t → ¬ f' = 0 → f' ≤ 2 → Fr x3 σ σ' → RdW X f' t sc nc nh nv y w' σ' → Q (some (.int x)) σ') : Wq xs (d + 2) ax_cd57 0 [(0, .ref 3), (1, .int (nI lo)), (2, .int (nI hi))] [] σ Q := by
  have hW0 := hW
  obtain ⟨⟨fpl, h3⟩, h4, hsc, hnc, hnh, hnv, hsh, ⟨s, n15, fk, fp, fn, fm, h15, h17, h18, h19, h20, hs, ek, ep, en, em, el, e35⟩, ht, hr, hf⟩ := hW0
  have hk35 := e35 t
  have hvt := hv t
  have hts := el t ht hr
  by_cases hk : Xk X t = 24
  · skip
    refine wq_go rfl (fun _ => rfl) ?_
    refine wq_getf rfl (by first | rfl | assumption) (by first | decide | omega | assumption) h3 rfl ?_
    refine wq_go rfl (fun _ => rfl) ?_
    refine wq_getf rfl (by first | rfl | assumption) (by first | decide | omega | assumption) h3 rfl ?_
    refine wq_callV rfl rfl (by first | rfl | assumption) (by first | decide | omega | assumption) (Nat.le_of_ble_eq_true rfl) (Nat.le_of_ble_eq_true rfl) rfl rfl ?_
    refine c_tk_numberAt hW hk ?_
    refine wq_go rfl (fun _ => rfl) ?_
    refine wq_go rfl (fun _ => rfl) ?_
    refine wq_getf rfl (by first | rfl | assumption) (by first | decide | omega | assumption) h3 rfl ?_
    refine wq_cN (m := 24) rfl rfl ?_
    refine wq_cne rfl (by first | omega | decide | exact Nat.lt_of_le_of_lt Nat.and_le_right (by decide) | exact ⟨by omega, by omega⟩) (by first | omega | decide | exact Nat.lt_of_le_of_lt Nat.and_le_right (by decide) | exact ⟨by omega, by omega⟩) (fun c => absurd c (by omega)) (fun c9 => ?_)
    refine wq_go rfl (fun _ => rfl) ?_
    refine wq_go rfl (fun _ => rfl) ?_
    refine wq_clt rfl (by first | omega | decide | exact Nat.lt_of_le_of_lt Nat.and_le_right (by decide) | exact ⟨by omega, by omega⟩) (by first | omega | decide | exact Nat.lt_of_le_of_lt Nat.and_le_right (by decide) | exact ⟨by omega, by omega⟩) (fun c12 => ?_) (fun c12 => ?_)
    · skip
      refine wq_go rfl (fun _ => rfl) ?_
      refine wq_cN (m := 5) rfl rfl ?_
      refine wq_callV rfl rfl (by first | rfl | assumption) (by first | decide | omega | assumption) (Nat.le_of_ble_eq_true rfl) (Nat.le_of_ble_eq_true rfl) rfl rfl ?_
      refine c_les hW (by decide) (fun q e => (hL q e).1) (fun q e => (hL q e).2) (fun σ2 F2 W2 => ?_)
      refine wq_go rfl (fun _ => rfl) ?_
      refine wq_cN (m := 24) rfl rfl ?_
      refine wq_callV rfl rfl (by first | rfl | assumption) (by first | decide | omega | assumption) (Nat.le_of_ble_eq_true rfl) (Nat.le_of_ble_eq_true rfl) rfl rfl ?_
      refine c_acc W2 (by decide) (fun t1 σ3 m3 q3 k3 F3 W3 => ?_) (fun f3 σ3 m3 n3 u3 F3 W3 => ?_)
      · skip
        refine wq_go rfl (fun _ => rfl) ?_
        refine wq_go rfl (fun _ => rfl) ?_
        refine wq_iret rfl ?_
        rw [show decide (Xv X t < lo ∨ hi < Xv X t) = true from decide_eq_true (by omega)] at K1
        exact K1 t1 σ3 m3 q3 k3 (fr_trans F2 F3) W3
      · skip
        refine wq_go rfl (fun _ => rfl) ?_
        refine wq_go rfl (fun _ => rfl) ?_
        refine wq_iret rfl ?_
        exact K0 f3 _ _ σ3 m3 n3 u3 (fr_trans F2 F3) W3
    · skip
      refine wq_go rfl (fun _ => rfl) ?_
      refine wq_go rfl (fun _ => rfl) ?_
      refine wq_cle rfl (by first | omega | decide | exact Nat.lt_of_le_of_lt Nat.and_le_right (by decide) | exact ⟨by omega, by omega⟩) (by first | omega | decide | exact Nat.lt_of_le_of_lt Nat.and_le_right (by decide) | exact ⟨by omega, by omega⟩) (fun c15 => ?_) (fun c15 => ?_)
      · skip
        refine wq_go rfl (fun _ => rfl) ?_
        refine wq_cN (m := 24) rfl rfl ?_
        refine wq_callV rfl rfl (by first | rfl | assumption) (by first | decide | omega | assumption) (Nat.le_of_ble_eq_true rfl) (Nat.le_of_ble_eq_true rfl) rfl rfl ?_
        refine c_acc hW (by decide) (fun t1 σ3 m3 q3 k3 F3 W3 => ?_) (fun f3 σ3 m3 n3 u3 F3 W3 => ?_)
        · skip
          refine wq_go rfl (fun _ => rfl) ?_
          refine wq_go rfl (fun _ => rfl) ?_
          refine wq_iret rfl ?_
          rw [show decide (Xv X t < lo ∨ hi < Xv X t) = false from decide_eq_false (by omega), wn_f] at K1
          exact K1 t1 σ3 m3 q3 k3 F3 W3
        · skip
          refine wq_go rfl (fun _ => rfl) ?_
          refine wq_go rfl (fun _ => rfl) ?_
          refine wq_iret rfl ?_
          exact K0 f3 _ _ σ3 m3 n3 u3 F3 W3
      · skip
        refine wq_go rfl (fun _ => rfl) ?_
        refine wq_cN (m := 5) rfl rfl ?_
        refine wq_callV rfl rfl (by first | rfl | assumption) (by first | decide | omega | assumption) (Nat.le_of_ble_eq_true rfl) (Nat.le_of_ble_eq_true rfl) rfl rfl ?_
        refine c_les hW (by decide) (fun q e => (hL q e).1) (fun q e => (hL q e).2) (fun σ2 F2 W2 => ?_)
        refine wq_go rfl (fun _ => rfl) ?_
        refine wq_cN (m := 24) rfl rfl ?_
        refine wq_callV rfl rfl (by first | rfl | assumption) (by first | decide | omega | assumption) (Nat.le_of_ble_eq_true rfl) (Nat.le_of_ble_eq_true rfl) rfl rfl ?_
        refine c_acc W2 (by decide) (fun t1 σ3 m3 q3 k3 F3 W3 => ?_) (fun f3 σ3 m3 n3 u3 F3 W3 => ?_)
        · skip
          refine wq_go rfl (fun _ => rfl) ?_
          refine wq_go rfl (fun _ => rfl) ?_
          refine wq_iret rfl ?_
          rw [show decide (Xv X t < lo ∨ hi < Xv X t) = true from decide_eq_true (by omega)] at K1
          exact K1 t1 σ3 m3 q3 k3 (fr_trans F2 F3) W3
        · skip
          refine wq_go rfl (fun _ => rfl) ?_
          refine wq_go rfl (fun _ => rfl) ?_
          refine wq_iret rfl ?_
          exact K0 f3 _ _ σ3 m3 n3 u3 (fr_trans F2 F3) W3
  · skip
    refine wq_go rfl (fun _ => rfl) ?_
    refine wq_getf rfl (by first | rfl | assumption) (by first | decide | omega | assumption) h3 rfl ?_
    refine wq_go rfl (fun _ => rfl) ?_
    refine wq_getf rfl (by first | rfl | assumption) (by first | decide | omega | assumption) h3 rfl ?_
    refine wq_callV rfl rfl (by first | rfl | assumption) (by first | decide | omega | assumption) (Nat.le_of_ble_eq_true rfl) (Nat.le_of_ble_eq_true rfl) rfl rfl ?_
    refine c_tk_numAny hW (fun x => ?_)
    refine wq_go rfl (fun _ => rfl) ?_
    refine wq_go rfl (fun _ => rfl) ?_
    refine wq_getf rfl (by first | rfl | assumption) (by first | decide | omega | assumption) h3 rfl ?_
    refine wq_cN (m := 24) rfl rfl ?_
    refine wq_cne rfl (by first | omega | decide | exact Nat.lt_of_le_of_lt Nat.and_le_right (by decide) | exact ⟨by omega, by omega⟩) (by first | omega | decide | exact Nat.lt_of_le_of_lt Nat.and_le_right (by decide) | exact ⟨by omega, by omega⟩) (fun c9 => ?_) (fun c => absurd (show _ from by omega) c)
    refine wq_go rfl (fun _ => rfl) ?_
    refine wq_cN (m := 24) rfl rfl ?_
    refine wq_callV rfl rfl (by first | rfl | assumption) (by first | decide | omega | assumption) (Nat.le_of_ble_eq_true rfl) (Nat.le_of_ble_eq_true rfl) rfl rfl ?_
    refine c_acc hW (by decide) (fun t1 σ3 m3 q3 k3 F3 W3 => ?_) (fun f3 σ3 m3 n3 u3 F3 W3 => ?_)
    · skip
      refine wq_go rfl (fun _ => rfl) ?_
      refine wq_go rfl (fun _ => rfl) ?_
      refine wq_iret rfl ?_
      exact absurd k3 hk
    · skip
      refine wq_go rfl (fun _ => rfl) ?_
      refine wq_go rfl (fun _ => rfl) ?_
      refine wq_iret rfl ?_
      exact K0 f3 _ _ σ3 m3 n3 u3 F3 W3
def nbF (f : Nat → Int64) (x : Int64) : Nat → Nat → Option Nat
  | 0, _ => none
  | m + 1, i => if f i = x then some i else nbF f x m (i + 1)
def nmb (f : Nat → Int64) (n : Nat) (x : Int64) : Option Nat := nbF f x n 0
def nmI (o : Option Nat) : Int32 := match o with
  | none => -1
  | some i => nI i
theorem nb_y {f : Nat → Int64} {x : Int64} {m i : Nat} {o : Option Nat} (h : nbF f x (m + 1) i = o) (c : f i = x) : o = some i := by
  rw [← h, nbF, if_pos c]
theorem nb_n {f : Nat → Int64} {x : Int64} {m i : Nat} {o : Option Nat} (h : nbF f x (m + 1) i = o) (c : ¬ f i = x) : nbF f x m (i + 1) = o := by
  rw [← h, nbF, if_neg c]
theorem nb_lt {f : Nat → Int64} {x : Int64} : ∀ m i j, nbF f x m i = some j → i ≤ j ∧ j < i + m ∧ f j = x
  | 0, i, j, h => by cases h
  | m + 1, i, j, h => by
    unfold nbF at h
    split at h
    · next e => cases h; exact ⟨by omega, by omega, e⟩
    · have := nb_lt m (i + 1) j h
      exact ⟨by omega, by omega, this.2.2⟩
theorem nb_none {f : Nat → Int64} {x : Int64} : ∀ m i, nbF f x m i = none → ∀ j, i ≤ j → j < i + m → ¬ f j = x
  | 0, i, h, j, h1, h2 => by omega
  | m + 1, i, h, j, h1, h2 => by
    unfold nbF at h
    split at h
    · cases h
    · next e =>
      by_cases q : j = i
      · subst q; exact e
      · exact nb_none m (i + 1) h j (by omega) (by omega)
theorem nb_first {f : Nat → Int64} {x : Int64} : ∀ m i j, nbF f x m i = some j → ∀ q, i ≤ q → q < j → ¬ f q = x
  | 0, i, j, h => by cases h
  | m + 1, i, j, h => by
    unfold nbF at h
    split at h
    · cases h; intro q h1 h2; omega
    · next e =>
      intro q h1 h2
      by_cases r : q = i
      · subst r; exact e
      · exact nb_first m (i + 1) j h q (by omega) h2
theorem nb_congr {f g : Nat → Int64} {x : Int64} : ∀ m i, (∀ j, i ≤ j → j < i + m → f j = g j) → nbF f x m i = nbF g x m i
  | 0, i, h => rfl
  | m + 1, i, h => by
    unfold nbF
    rw [h i (by omega) (by omega), nb_congr m (i + 1) (fun j h1 h2 => h j (by omega) (by omega))]
theorem c_num_l {xs : List Int32} {d : Nat} {σ : Nat → List Value} {Q : Option Value → (Nat → List Value) → Prop} {p N n : Nat} {g : Nat → Int64} (hkp : kd p = .inl .long) (hp : p < 331) (hg : σ p = arrL N g) (hnN : n ≤ N) (hN : N < 100) {x : Int64} {o : Option Nat}  (K : Q (some (.int (nmI o))) σ) : ∀ (m u : Nat), m + u = n → nbF g x m u = o → Wq xs (d + 0) ax_cd54 2 [(4, .int (nI u)), (0, .long x), (2, .ref p), (3, .int (nI n))] [] σ Q := by
  intro m
  induction m with
  | zero =>
    intro u hm hE
    refine wq_go rfl (fun _ => rfl) ?_
    refine wq_go rfl (fun _ => rfl) ?_
    refine wq_alen rfl (by first | rfl | assumption) (by first | decide | omega | assumption) rfl hg (arrL_len _ _) ?_
    refine wq_cge rfl (by first | omega | decide | exact Nat.lt_of_le_of_lt Nat.and_le_right (by decide) | exact ⟨by omega, by omega⟩) (by first | omega | decide | exact Nat.lt_of_le_of_lt Nat.and_le_right (by decide) | exact ⟨by omega, by omega⟩) (fun c5 => ?_) (fun c5 => ?_)
    · skip
      refine wq_go rfl (fun _ => rfl) ?_
      refine wq_iret rfl ?_
      have hE : none = o := hE
      subst hE
      exact K
    · skip
      refine wq_go rfl (fun _ => rfl) ?_
      refine wq_go rfl (fun _ => rfl) ?_
      refine wq_cge rfl (by first | omega | decide | exact Nat.lt_of_le_of_lt Nat.and_le_right (by decide) | exact ⟨by omega, by omega⟩) (by first | omega | decide | exact Nat.lt_of_le_of_lt Nat.and_le_right (by decide) | exact ⟨by omega, by omega⟩) (fun c8 => ?_) (fun c => absurd (show _ from by omega) c)
      refine wq_go rfl (fun _ => rfl) ?_
      refine wq_iret rfl ?_
      have hE : none = o := hE
      subst hE
      exact K
  | succ m ih =>
    intro u hm hE
    refine wq_go rfl (fun _ => rfl) ?_
    refine wq_go rfl (fun _ => rfl) ?_
    refine wq_alen rfl (by first | rfl | assumption) (by first | decide | omega | assumption) rfl hg (arrL_len _ _) ?_
    refine wq_cge rfl (by first | omega | decide | exact Nat.lt_of_le_of_lt Nat.and_le_right (by decide) | exact ⟨by omega, by omega⟩) (by first | omega | decide | exact Nat.lt_of_le_of_lt Nat.and_le_right (by decide) | exact ⟨by omega, by omega⟩) (fun c => absurd c (by omega)) (fun c5 => ?_)
    refine wq_go rfl (fun _ => rfl) ?_
    refine wq_go rfl (fun _ => rfl) ?_
    refine wq_cge rfl (by first | omega | decide | exact Nat.lt_of_le_of_lt Nat.and_le_right (by decide) | exact ⟨by omega, by omega⟩) (by first | omega | decide | exact Nat.lt_of_le_of_lt Nat.and_le_right (by decide) | exact ⟨by omega, by omega⟩) (fun c => absurd c (by omega)) (fun c8 => ?_)
    refine wq_go rfl (fun _ => rfl) ?_
    refine wq_go rfl (fun _ => rfl) ?_
    refine wq_lald rfl (by first | rfl | assumption) (by first | decide | omega | assumption) hg rfl (by omega) (by first | decide | omega) ?_
    refine wq_go rfl (fun _ => rfl) ?_
    refine wq_go rfl (fun _ => rfl) ?_
    refine wq_if rfl  (fun c14 => ?_) (fun c14 => ?_)
    · skip
      have hne : ¬ g u = x := fun e => (of_decide_eq_true c14) ((lg_cmp_eq _ _).mpr e)
      refine wq_incN rfl rfl rfl ?_
      refine wq_go rfl (fun _ => rfl) ?_
      exact ih (u + 1) (by omega) (nb_n hE hne)
    · skip
      have hee : g u = x := (lg_cmp_eq _ _).mp (Classical.not_not.mp (of_decide_eq_false c14))
      refine wq_go rfl (fun _ => rfl) ?_
      refine wq_iret rfl ?_
      have hE2 := nb_y hE hee
      subst hE2
      exact K
theorem c_numberOf {xs : List Int32} {d : Nat} {σ : Nat → List Value} {Q : Option Value → (Nat → List Value) → Prop} {p N n : Nat} {g : Nat → Int64} (hkp : kd p = .inl .long) (hp : p < 331) (hg : σ p = arrL N g) (hnN : n ≤ N) (hN : N < 100) {x : Int64}  (K : Q (some (.int (nmI (nmb g n x)))) σ) : Wq xs (d + 0) ax_cd54 0 [(0, .long x), (2, .ref p), (3, .int (nI n))] [] σ Q := by
  refine wq_cN (m := 0) rfl rfl ?_
  refine wq_go rfl (fun _ => rfl) ?_
  exact c_num_l hkp hp hg hnN hN K n 0 rfl rfl
