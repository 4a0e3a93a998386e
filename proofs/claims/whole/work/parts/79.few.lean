/-! THE FEWEST SITTINGS: both ways of looking -/
theorem frC_some {f : Nat → Option (List Nat)} {s : Nat} : ∀ (m c : Nat) (l : List Nat), frC f s m c = some l → ∃ c' l', c ≤ c' ∧ c' < c + m ∧ f c' = some l' ∧ l = (10 * s + c') :: l' ∧ ∀ j, c ≤ j → j < c' → f j = none
  | 0, c, l, h => by cases h
  | m + 1, c, l, h => by
    unfold frC at h
    cases e : f c with
    | some l' =>
      rw [e] at h
      cases h
      exact ⟨c, l', by omega, by omega, e, rfl, fun j h1 h2 => by omega⟩
    | none =>
      rw [e] at h
      obtain ⟨c', l', h1, h2, h3, h4, h5⟩ := frC_some m (c + 1) l h
      refine ⟨c', l', by omega, by omega, h3, h4, fun j h6 h7 => ?_⟩
      by_cases hj : j = c
      · subst hj; exact e
      · exact h5 j (by omega) h7
theorem frC_none {f : Nat → Option (List Nat)} {s : Nat} : ∀ (m c : Nat), frC f s m c = none → ∀ j, c ≤ j → j < c + m → f j = none
  | 0, c, h, j, h1, h2 => by omega
  | m + 1, c, h, j, h1, h2 => by
    unfold frC at h
    cases e : f c with
    | some l' => rw [e] at h; cases h
    | none =>
      rw [e] at h
      by_cases hj : j = c
      · subst hj; exact e
      · exact frC_none m (c + 1) h j (by omega) (by omega)
theorem frH_some {g : Nat → Option (List Nat)} : ∀ (m s : Nat) (l : List Nat), frH g m s = some l → ∃ s', s ≤ s' ∧ s' < s + m ∧ g s' = some l ∧ ∀ j, s ≤ j → j < s' → g j = none
  | 0, s, l, h => by cases h
  | m + 1, s, l, h => by
    unfold frH at h
    cases e : g s with
    | some l' =>
      rw [e] at h
      cases h
      exact ⟨s, by omega, by omega, e, fun j h1 h2 => by omega⟩
    | none =>
      rw [e] at h
      obtain ⟨s', h1, h2, h3, h5⟩ := frH_some m (s + 1) l h
      refine ⟨s', by omega, by omega, h3, fun j h6 h7 => ?_⟩
      by_cases hj : j = s
      · subst hj; exact e
      · exact h5 j (by omega) h7
theorem frH_none {g : Nat → Option (List Nat)} : ∀ (m s : Nat), frH g m s = none → ∀ j, s ≤ j → j < s + m → g j = none
  | 0, s, h, j, h1, h2 => by omega
  | m + 1, s, h, j, h1, h2 => by
    unfold frH at h
    cases e : g s with
    | some l' => rw [e] at h; cases h
    | none =>
      rw [e] at h
      by_cases hj : j = s
      · subst hj; exact e
      · exact frH_none m (s + 1) h j (by omega) (by omega)
theorem frC_congr {f g : Nat → Option (List Nat)} {s : Nat} : ∀ (m c : Nat), (∀ j, c ≤ j → j < c + m → f j = g j) → frC f s m c = frC g s m c
  | 0, c, h => rfl
  | m + 1, c, h => by
    unfold frC
    rw [h c (by omega) (by omega), frC_congr m (c + 1) (fun j h1 h2 => h j (by omega) (by omega))]
theorem frH_congr {f g : Nat → Option (List Nat)} : ∀ (m s : Nat), (∀ j, s ≤ j → j < s + m → f j = g j) → frH f m s = frH g m s
  | 0, s, h => rfl
  | m + 1, s, h => by
    unfold frH
    rw [h s (by omega) (by omega), frH_congr m (s + 1) (fun j h1 h2 => h j (by omega) (by omega))]
theorem frH_one {g : Nat → Option (List Nat)} {h : Nat} (hg : ∀ s, ¬ s = h → g s = none) : ∀ (m s : Nat), s ≤ h → h < s + m → frH g m s = g h
  | 0, s, h1, h2 => by omega
  | m + 1, s, h1, h2 => by
    unfold frH
    by_cases e : s = h
    · subst e
      cases e2 : g s with
      | some l => rfl
      | none =>
        cases e3 : frH g m (s + 1) with
        | none => rfl
        | some l =>
          obtain ⟨s', h3, _, h4, _⟩ := frH_some m (s + 1) l e3
          rw [hg s' (by omega)] at h4
          cases h4
    · rw [hg s e]
      exact frH_one hg m (s + 1) (by omega) (by omega)
def al (P : Pl) : Nat := Phd P * Pch P
def wS (P : Pl) : Nat → Nat → St → St
  | 0, _, S => S
  | n + 1, w, S => wS P n (w % al P ^ n) (seatS P S (w / al P ^ n / Pch P) (w / al P ^ n % Pch P))
def wL (P : Pl) : Nat → Nat → List Nat
  | 0, _ => []
  | n + 1, w => (10 * (w / al P ^ n / Pch P) + w / al P ^ n % Pch P) :: wL P n (w % al P ^ n)
def fall (P : Pl) (h t : Nat) : Nat → St → Option (List Nat)
  | 0, S => if says1 S (Psa P) h t = true then some [] else none
  | n + 1, S => frH (fun s => frC (fun c => fall P h t n (seatS P S s c)) s (Pch P) 0) (Phd P) 0
theorem dv {q A r : Nat} (h : r < A) : (q * A + r) / A = q ∧ (q * A + r) % A = r := by
  constructor
  · rw [Nat.add_comm, Nat.add_mul_div_right _ _ (by omega), Nat.div_eq_of_lt h, Nat.zero_add]
  · rw [Nat.add_comm, Nat.add_mul_mod_self_right, Nat.mod_eq_of_lt h]
theorem lex_lt {s c H C : Nat} (hs : s < H) (hc : c < C) : s * C + c < H * C := by
  have h : (s + 1) * C ≤ H * C := Nat.mul_le_mul_right C hs
  rw [Nat.add_mul, Nat.one_mul] at h
  omega
theorem fall_none {P : Pl} {h t : Nat} : ∀ (n : Nat) (S : St), fall P h t n S = none → ∀ w, w < al P ^ n → says1 (wS P n w S) (Psa P) h t = false
  | 0, S, hf, w, hw => by
    unfold fall at hf
    split at hf
    · cases hf
    · next e => exact Bool.eq_false_iff.mpr e
  | n + 1, S, hf, w, hw => by
    unfold fall at hf
    have hA : 0 < al P ^ n := by
      rcases Nat.eq_zero_or_pos (al P ^ n) with e | e
      · rw [Nat.pow_succ, e, Nat.zero_mul] at hw; omega
      · exact e
    have hd : w / al P ^ n < al P := Nat.div_lt_of_lt_mul (by rw [Nat.pow_succ] at hw; exact hw)
    have hC : 0 < Pch P := by
      rcases Nat.eq_zero_or_pos (Pch P) with e | e
      · unfold al at hd; rw [e, Nat.mul_zero] at hd; exact absurd hd (Nat.not_lt_zero _)
      · exact e
    have hs : w / al P ^ n / Pch P < Phd P := Nat.div_lt_of_lt_mul (by unfold al at hd ⊢; rw [Nat.mul_comm (Pch P)]; exact hd)
    have hc : w / al P ^ n % Pch P < Pch P := Nat.mod_lt _ hC
    have h1 := frH_none _ _ hf _ (Nat.zero_le _) (by omega : w / al P ^ n / Pch P < 0 + Phd P)
    have h2 := frC_none _ _ h1 _ (Nat.zero_le _) (by omega : w / al P ^ n % Pch P < 0 + Pch P)
    exact fall_none n _ h2 _ (Nat.mod_lt _ hA)
theorem fall_some {P : Pl} {h t : Nat} : ∀ (n : Nat) (S : St) (l : List Nat), fall P h t n S = some l → ∃ w, w < al P ^ n ∧ l = wL P n w ∧ says1 (wS P n w S) (Psa P) h t = true ∧ ∀ v, v < w → says1 (wS P n v S) (Psa P) h t = false
  | 0, S, l, hf => by
    unfold fall at hf
    split at hf
    · next e =>
      cases hf
      exact ⟨0, by simp, rfl, e, fun v hv => by omega⟩
    · cases hf
  | n + 1, S, l, hf => by
    unfold fall at hf
    obtain ⟨s, _, hs, hs1, hs2⟩ := frH_some _ _ _ hf
    obtain ⟨c, l', _, hc, hc1, hc2, hc3⟩ := frC_some _ _ _ hs1
    obtain ⟨w, hw1, hw2, hw3, hw4⟩ := fall_some n _ l' hc1
    have hC : 0 < Pch P := by omega
    obtain ⟨d1, d2⟩ := dv (q := s * Pch P + c) hw1
    obtain ⟨d3, d4⟩ := dv (q := s) (show c < Pch P by omega)
    refine ⟨(s * Pch P + c) * al P ^ n + w, ?_, ?_, ?_, ?_⟩
    · rw [Nat.pow_succ, Nat.mul_comm (al P ^ n)]
      exact lex_lt (lex_lt (by omega) (by omega)) hw1
    · rw [hc2, hw2]
      show _ = (10 * (((s * Pch P + c) * al P ^ n + w) / al P ^ n / Pch P) + ((s * Pch P + c) * al P ^ n + w) / al P ^ n % Pch P) :: wL P n (((s * Pch P + c) * al P ^ n + w) % al P ^ n)
      rw [d1, d2, d3, d4]
    · unfold wS
      rw [d1, d2, d3, d4]
      exact hw3
    · intro v hv
      have hA : 0 < al P ^ n := by omega
      have hvm := Nat.mod_lt v hA
      have hvd := Nat.div_add_mod v (al P ^ n)
      unfold wS
      rcases Nat.lt_trichotomy (v / al P ^ n) (s * Pch P + c) with hlt | heq | hgt
      · have hcm := Nat.mod_lt (v / al P ^ n) hC
        have hcd := Nat.div_add_mod (v / al P ^ n) (Pch P)
        have hlx : v / al P ^ n / Pch P < s ∨ (v / al P ^ n / Pch P = s ∧ v / al P ^ n % Pch P < c) := by
          rcases Nat.lt_trichotomy (v / al P ^ n / Pch P) s with h1 | h1 | h1
          · exact Or.inl h1
          · refine Or.inr ⟨h1, ?_⟩
            rw [h1, Nat.mul_comm] at hcd
            omega
          · exfalso
            have := Nat.mul_le_mul_right (Pch P) h1
            rw [Nat.succ_mul] at this
            rw [Nat.mul_comm] at hcd
            omega
        rcases hlx with h1 | ⟨h1, h2⟩
        · have e1 := hs2 _ (Nat.zero_le _) h1
          have e2 := frC_none _ _ e1 _ (Nat.zero_le _) (by omega : v / al P ^ n % Pch P < 0 + Pch P)
          exact fall_none n _ e2 _ hvm
        · have e2 := hc3 _ (Nat.zero_le _) h2
          rw [h1]
          exact fall_none n _ e2 _ hvm
      · rw [heq, d3, d4]
        apply hw4
        rw [heq, Nat.mul_comm] at hvd
        omega
      · exfalso
        have h5 := Nat.mul_le_mul_right (al P ^ n) hgt
        rw [Nat.succ_mul] at h5
        have h6 := Nat.div_mul_le_self v (al P ^ n)
        omega
theorem says_seat (P : Pl) {S : St} (hok : Sok S) {h t c : Nat} (hh : h < 5) (ht : t < 4) (hc : c < 4) : (if says1 (seatS P S h c) (Psa P) h t = true then some ([] : List Nat) else none) = lastF P S h t c := by
  have hg := gain_bd P hok (h := h) (c := c) (t := t) hh hc ht
  unfold lastF says1
  rw [seat_ow P S h c ht]
  by_cases e : (Psa P : Int) - (Sow S (h * 4 + t) : Int) ≤ gainZ P S h c t
  · rw [if_pos e, if_pos (decide_eq_true (by omega))]
  · rw [if_neg e, if_neg (fun q => by have := of_decide_eq_true q; omega)]
theorem fall_fnd {P : Pl} (hP : Pok P) {h t : Nat} (hh : h < Phd P) (ht : t < 4) : ∀ (k : Nat) (S : St), Sok S → (∀ j, j ≤ k → fall P h t j S = none) → fall P h t (k + 1) S = fnd P h t (k + 1) S
  | 0, S, hok, h0 => by
    have hP1 := hP.1
    have hP2 := hP.2.1
    have hs : ¬ says1 S (Psa P) h t = true := by
      intro e
      have := h0 0 (by omega)
      unfold fall at this
      rw [if_pos e] at this
      cases this
    show frH (fun s => frC (fun c => fall P h t 0 (seatS P S s c)) s (Pch P) 0) (Phd P) 0 = frC (lastF P S h t) h (Pch P) 0
    rw [frH_one (h := h) ?_ (Phd P) 0 (by omega) (by omega)]
    · apply frC_congr
      intro j h1 h2
      exact says_seat P hok (by omega) ht (by omega)
    · intro s hsn
      cases e : frC (fun c => fall P h t 0 (seatS P S s c)) s (Pch P) 0 with
      | none => rfl
      | some l =>
        obtain ⟨c, l', _, _, h3, _, _⟩ := frC_some _ _ _ e
        unfold fall at h3
        rw [if_neg (fun q => hs (by unfold says1 at q ⊢; rw [seat_own P S c t hsn ht] at q; exact q))] at h3
        cases h3
  | k + 1, S, hok, h0 => by
    have hP1 := hP.1
    have hP2 := hP.2.1
    show frH (fun s => frC (fun c => fall P h t (k + 1) (seatS P S s c)) s (Pch P) 0) (Phd P) 0 = frH (fun s => frC (fun c => fnd P h t (k + 1) (seatS P S s c)) s (Pch P) 0) (Phd P) 0
    apply frH_congr
    intro s _ hs
    apply frC_congr
    intro c _ hc
    refine fall_fnd hP hh ht k _ (seat_ok P hok (by omega) (by omega)) (fun j hj => ?_)
    have h1 := h0 (j + 1) (by omega)
    have h2 := frH_none _ _ (show frH (fun s => frC (fun c => fall P h t j (seatS P S s c)) s (Pch P) 0) (Phd P) 0 = none from h1) s (by omega) hs
    exact frC_none _ _ h2 c (by omega) hc
theorem fall_of {P : Pl} {S : St} {h t n : Nat} (hf : ∀ v, v < al P ^ n → says1 (wS P n v S) (Psa P) h t = false) : fall P h t n S = none := by
  cases e : fall P h t n S with
  | none => rfl
  | some l =>
    obtain ⟨w, h1, _, h2, _⟩ := fall_some n S l e
    rw [hf w h1] at h2
    cases h2
theorem fall_at {P : Pl} {S : St} {h t n w : Nat} (hw : w < al P ^ n) (hs : says1 (wS P n w S) (Psa P) h t = true) (hv : ∀ v, v < w → says1 (wS P n v S) (Psa P) h t = false) : fall P h t n S = some (wL P n w) := by
  cases e : fall P h t n S with
  | none =>
    rw [fall_none n S e w hw] at hs
    cases hs
  | some l =>
    obtain ⟨w', h1, h2, h3, h4⟩ := fall_some n S l e
    rcases Nat.lt_trichotomy w w' with hl | hl | hl
    · rw [h4 w hl] at hs; cases hs
    · subst hl; rw [h2]
    · rw [hv w' hl] at h3; cases h3
theorem few_way {P : Pl} (hP : Pok P) {S : St} (hok : Sok S) {h t n w : Nat} (hh : h < Phd P) (ht : t < 4) (hn : n ≤ 3) (h0 : ∀ j, j < n → ∀ v, v < al P ^ j → says1 (wS P j v S) (Psa P) h t = false) (hw : w < al P ^ n) (hs : says1 (wS P n w S) (Psa P) h t = true) (hv : ∀ v, v < w → says1 (wS P n v S) (Psa P) h t = false) : fewI P S h t = nI n ∧ fewL P S h t = wL P n w := by
  have hf := fall_at hw hs hv
  have hz : ∀ j, j < n → fall P h t j S = none := fun j hj => fall_of (h0 j hj)
  have e0 : ∀ k, k < n → ¬ says1 S (Psa P) h t = true := by
    intro k hk e
    have := hz 0 (by omega)
    unfold fall at this
    rw [if_pos e] at this
    cases this
  have eq : ∀ k, k + 1 ≤ n → fnd P h t (k + 1) S = fall P h t (k + 1) S := fun k hk => (fall_fnd hP hh ht k S hok (fun j hj => hz j (by omega))).symm
  unfold fewI fewL
  rcases (show n = 0 ∨ n = 1 ∨ n = 2 ∨ n = 3 by omega) with rfl | rfl | rfl | rfl
  · have : says1 S (Psa P) h t = true := hs
    rw [if_pos this, if_pos this]
    exact ⟨rfl, rfl⟩
  · rw [if_neg (e0 0 (by omega)), if_neg (e0 0 (by omega)), eq 0 (by omega), hf]
    exact ⟨rfl, rfl⟩
  · rw [if_neg (e0 0 (by omega)), if_neg (e0 0 (by omega)), eq 0 (by omega), hz 1 (by omega), eq 1 (by omega), hf]
    exact ⟨rfl, rfl⟩
  · rw [if_neg (e0 0 (by omega)), if_neg (e0 0 (by omega)), eq 0 (by omega), hz 1 (by omega), eq 1 (by omega), hz 2 (by omega), eq 2 (by omega), hf]
    exact ⟨rfl, rfl⟩
theorem few_none {P : Pl} (hP : Pok P) {S : St} (hok : Sok S) {h t : Nat} (hh : h < Phd P) (ht : t < 4) (h0 : ∀ j, j ≤ 3 → ∀ v, v < al P ^ j → says1 (wS P j v S) (Psa P) h t = false) : fewI P S h t = -2 := by
  have hz : ∀ j, j ≤ 3 → fall P h t j S = none := fun j hj => fall_of (h0 j hj)
  have e0 : ¬ says1 S (Psa P) h t = true := by
    intro e
    have := hz 0 (by omega)
    unfold fall at this
    rw [if_pos e] at this
    cases this
  have eq : ∀ k, k + 1 ≤ 3 → fnd P h t (k + 1) S = none := fun k hk => (fall_fnd hP hh ht k S hok (fun j hj => hz j (by omega))).symm.trans (hz _ hk)
  unfold fewI
  rw [if_neg e0, eq 0 (by omega), eq 1 (by omega), eq 2 (by omega)]
theorem fnd_len {P : Pl} {h t : Nat} : ∀ (k : Nat) (S : St) (l : List Nat), fnd P h t (k + 1) S = some l → l.length = k + 1
  | 0, S, l, hf => by
    obtain ⟨c, l', _, _, h3, h4, _⟩ := frC_some _ _ _ (show frC (lastF P S h t) h (Pch P) 0 = some l from hf)
    unfold lastF at h3
    split at h3
    · cases h3
      rw [h4]
      rfl
    · cases h3
  | k + 1, S, l, hf => by
    obtain ⟨s, _, _, h1, _⟩ := frH_some _ _ _ (show frH (fun s => frC (fun c => fnd P h t (k + 1) (seatS P S s c)) s (Pch P) 0) (Phd P) 0 = some l from hf)
    obtain ⟨c, l', _, _, h3, h4, _⟩ := frC_some _ _ _ h1
    rw [h4, List.length_cons, fnd_len k _ l' h3]
theorem few_i (P : Pl) (S : St) (h t : Nat) : fewI P S h t = -2 ∨ (fewI P S h t = nI (fewL P S h t).length ∧ (fewL P S h t).length ≤ 3) := by
  unfold fewI fewL
  split
  · exact Or.inr ⟨rfl, by simp⟩
  · cases e1 : fnd P h t 1 S with
    | some l => have := fnd_len 0 S l e1; refine Or.inr ⟨?_, ?_⟩ <;> simp only [this] <;> first | rfl | decide
    | none =>
      cases e2 : fnd P h t 2 S with
      | some l => have := fnd_len 1 S l e2; refine Or.inr ⟨?_, ?_⟩ <;> simp only [this] <;> first | rfl | decide
      | none =>
        cases e3 : fnd P h t 3 S with
        | some l => have := fnd_len 2 S l e3; refine Or.inr ⟨?_, ?_⟩ <;> simp only [this] <;> first | rfl | decide
        | none => exact Or.inl rfl
theorem wL_get (P : Pl) : ∀ (n w i : Nat), i < n → w < al P ^ n → (wL P n w).getD i 0 = 10 * (w / al P ^ (n - 1 - i) % al P / Pch P) + w / al P ^ (n - 1 - i) % al P % Pch P
  | 0, w, i, hi, hw => by omega
  | n + 1, w, 0, hi, hw => by
    have hd : w / al P ^ n < al P := Nat.div_lt_of_lt_mul (by rw [Nat.pow_succ] at hw; exact hw)
    show 10 * (w / al P ^ n / Pch P) + w / al P ^ n % Pch P = _
    rw [show n + 1 - 1 - 0 = n by omega, Nat.mod_eq_of_lt hd]
  | n + 1, w, i + 1, hi, hw => by
    have hA : 0 < al P ^ n := by
      rcases Nat.eq_zero_or_pos (al P ^ n) with e | e
      · rw [Nat.pow_succ, e, Nat.zero_mul] at hw; omega
      · exact e
    show (wL P n (w % al P ^ n)).getD i 0 = _
    rw [wL_get P n _ i (by omega) (Nat.mod_lt _ hA)]
    have e : w % al P ^ n / al P ^ (n - 1 - i) % al P = w / al P ^ (n - 1 - i) % al P := by
      have hp : al P ^ n = al P ^ (n - 1 - i) * (al P * al P ^ i) := by
        rw [← Nat.mul_assoc, ← Nat.pow_succ, ← Nat.pow_add]
        congr 1
        omega
      rw [hp, Nat.mod_mul_right_div_self, Nat.mod_mul_right_mod]
    rw [e, show n + 1 - 1 - (i + 1) = n - 1 - i by omega]
theorem wL_len (P : Pl) : ∀ (n w : Nat), (wL P n w).length = n
  | 0, w => rfl
  | n + 1, w => by
    show (wL P n (w % al P ^ n)).length + 1 = n + 1
    rw [wL_len P n]
theorem al_le {P : Pl} (hP : Pok P) : al P ≤ 20 := by
  have := Nat.mul_le_mul hP.2.1 hP.1
  unfold al
  omega
theorem alp_le {P : Pl} (hP : Pok P) {n : Nat} (hn : n ≤ 3) : al P ^ n ≤ 8000 := by
  have h1 : al P ^ n ≤ 20 ^ n := Nat.pow_le_pow_left (al_le hP) n
  have h2 : (20 : Nat) ^ n ≤ 20 ^ 3 := Nat.pow_le_pow_right (by decide) hn
  omega
theorem lt_m1 {x : Int32} (h : x < 0) (h1 : ¬ x = -1) : x < -1 := by
  obtain ⟨p, hp, e⟩ := zI_of x
  subst e
  have h0 := (zI_lt hp (q := 0) ⟨by decide, by decide⟩).mp h
  refine (zI_lt hp (q := -1) ⟨by decide, by decide⟩).mpr ?_
  have : ¬ p = -1 := fun e => h1 (by rw [e]; rfl)
  omega

theorem few_m2 {k : Nat} (h : k ≤ 3) : ¬ nI k = -2 := by
  rcases (show k = 0 ∨ k = 1 ∨ k = 2 ∨ k = 3 by omega) with rfl | rfl | rfl | rfl <;> decide
theorem ck_sittings {n : Nat} {A : Sy} (hn : n < 512) (hA : Aok n A) (a0 a1 a2 : Int32) : COk ax_cd145 [.int a0, .int a1, .int a2] A A (F_sittings A a0 a1 a2) := by
  intro xs d σ Q hI K
  obtain ⟨hPok, ⟨hok, hhr72, hzq, hsum⟩, hAH, hAZ, hAn, hAh, hTok, hAl⟩ := hA
  have hP' := hPok
  obtain ⟨hP1, hP2, hP3, hP4, hP5, hP6, hP7, hP8, hPv, hPm, hPo, hPw, hPl⟩ := hP'
  have hok' := hok
  obtain ⟨hot, hoh, hosc, hokp⟩ := hok'
  have hI0 := hI
  obtain ⟨hC, hS, ⟨ST, hT⟩, hD, hR⟩ := hI0
  have hR0 := hR
  obtain ⟨hH, ⟨nx, hy⟩, hZ, ⟨ft, hf1, hf2, hf3⟩, ⟨⟨r0, r1, r2, r3, r4, hrd1⟩, hrd2, hrd3⟩⟩ := hR0
  show Wq xs (d + 12) ax_cd145 0 [(0, .ref 0), (1, .int a0), (2, .int a1), (3, .int a2)] [] σ Q
  refine wq_go rfl (fun _ => rfl) ?_
  refine wq_getf rfl (by first | rfl | assumption) (by first | decide | omega | assumption) (cw_c0 hC) rfl ?_
  refine wq_go rfl (fun _ => rfl) ?_
  refine wq_callV rfl rfl (by first | rfl | assumption) (by first | decide | omega | assumption) (Nat.le_of_ble_eq_true rfl) (Nat.le_of_ble_eq_true rfl) rfl rfl ?_
  refine c_hasHeadD hC (fun h lh qh eh => ?_) (fun eh => ?_)
  · subst qh
    refine wq_zeq rfl (by first | omega | decide | exact Nat.lt_of_le_of_lt Nat.and_le_right (by decide) | exact ⟨by omega, by omega⟩) (fun c => absurd c (by omega)) (fun c4 => ?_)
    refine wq_go rfl (fun _ => rfl) ?_
    refine wq_callS rfl (Nat.le_of_ble_eq_true rfl) rfl (Nat.le_of_ble_eq_true rfl) (Nat.le_of_ble_eq_true rfl) rfl rfl ?_
    refine c_isThoughtD  (fun t lt qt et => ?_) (fun et => ?_)
    · subst qt
      refine wq_zeq rfl (by first | omega | decide | exact Nat.lt_of_le_of_lt Nat.and_le_right (by decide) | exact ⟨by omega, by omega⟩) (fun c => absurd c (by omega)) (fun c7 => ?_)
      by_cases hm1 : a2 = -1
      · subst hm1
        refine wq_go rfl (fun _ => rfl) ?_
        refine wq_go rfl (fun _ => rfl) ?_
        refine wq_dlt rfl (show (_ : Int32) = zI (-1) from by decide) (show (_ : Int32) = zI (-1) from by decide) (by first | omega | decide | exact Nat.lt_of_le_of_lt Nat.and_le_right (by decide) | exact ⟨by omega, by omega⟩) (by first | omega | decide | exact Nat.lt_of_le_of_lt Nat.and_le_right (by decide) | exact ⟨by omega, by omega⟩) (fun c => absurd c (by omega)) (fun c10 => ?_)
        refine wq_go rfl (fun _ => rfl) ?_
        refine wq_cN (m := 3) rfl rfl ?_
        refine wq_dlt rfl (show (_ : Int32) = zI (-1) from by decide) (nI_z _) (by first | omega | decide | exact Nat.lt_of_le_of_lt Nat.and_le_right (by decide) | exact ⟨by omega, by omega⟩) (by first | omega | decide | exact Nat.lt_of_le_of_lt Nat.and_le_right (by decide) | exact ⟨by omega, by omega⟩) (fun c13 => ?_) (fun c => absurd (show _ from by omega) c)
        refine wq_go rfl (fun _ => rfl) ?_
        refine wq_getf rfl (by first | rfl | assumption) (by first | decide | omega | assumption) (cw_c0 hC) rfl ?_
        refine wq_go rfl (fun _ => rfl) ?_
        refine wq_go rfl (fun _ => rfl) ?_
        refine wq_callV rfl rfl (by first | rfl | assumption) (by first | decide | omega | assumption) (Nat.le_of_ble_eq_true rfl) (Nat.le_of_ble_eq_true rfl) rfl rfl ?_
        refine c_fewest hS hC hok hD lh lt (fun σ5 F5 C5 T5 P5 => ?_)
        rcases few_i (AP A) (AS A) h t with hfi | ⟨hfi, hfl⟩
        · rw [hfi]
          refine wq_go rfl (fun _ => rfl) ?_
          refine wq_go rfl (fun _ => rfl) ?_
          refine wq_go rfl (fun _ => rfl) ?_
          refine wq_deq rfl (show (_ : Int32) = zI (-2) from by decide) (show (_ : Int32) = zI (-2) from by decide) (by first | omega | decide | exact Nat.lt_of_le_of_lt Nat.and_le_right (by decide) | exact ⟨by omega, by omega⟩) (by first | omega | decide | exact Nat.lt_of_le_of_lt Nat.and_le_right (by decide) | exact ⟨by omega, by omega⟩) (fun c24 => ?_) (fun c => absurd (show _ from by omega) c)
          refine wq_go rfl (fun _ => rfl) ?_
          refine wq_iret rfl ?_
          exact ansQ (K _ (hi_scr scr_F F5) (ci_F hI F5 C5 T5)) (by simp only [F_sittings, eh, et, hfi, od_s, od_n, od_c] <;> rfl)
        · rw [hfi]
          refine wq_go rfl (fun _ => rfl) ?_
          refine wq_go rfl (fun _ => rfl) ?_
          refine wq_go rfl (fun _ => rfl) ?_
          refine wq_deq rfl (nI_z _) (show (_ : Int32) = zI (-2) from by decide) (by first | omega | decide | exact Nat.lt_of_le_of_lt Nat.and_le_right (by decide) | exact ⟨by omega, by omega⟩) (by first | omega | decide | exact Nat.lt_of_le_of_lt Nat.and_le_right (by decide) | exact ⟨by omega, by omega⟩) (fun c => absurd c (by omega)) (fun c24 => ?_)
          refine wq_go rfl (fun _ => rfl) ?_
          refine wq_go rfl (fun _ => rfl) ?_
          refine wq_dne rfl (show (_ : Int32) = zI (-1) from by decide) (show (_ : Int32) = zI (-1) from by decide) (by first | omega | decide | exact Nat.lt_of_le_of_lt Nat.and_le_right (by decide) | exact ⟨by omega, by omega⟩) (by first | omega | decide | exact Nat.lt_of_le_of_lt Nat.and_le_right (by decide) | exact ⟨by omega, by omega⟩) (fun c => absurd c (by omega)) (fun c27 => ?_)
          refine wq_go rfl (fun _ => rfl) ?_
          refine wq_iret rfl ?_
          exact ansQ (K _ (hi_scr scr_F F5) (ci_F hI F5 C5 T5)) (by simp only [F_sittings, eh, et, hfi, od_s, od_n, od_c] <;> rfl)
      · skip
        rcases pk_ix a2 (n := 3) (by omega) with hw | hw | ⟨w, lw, qw⟩
        · have ew : dec (3) a2 = none := dec_none (fun h hh e => by subst e; exact nI_pos (by omega) hw)
          refine wq_go rfl (fun _ => rfl) ?_
          refine wq_go rfl (fun _ => rfl) ?_
          refine wq_cmp rfl (fun c10 => ?_) (fun c => absurd (c.symm.trans (decide_eq_true (lt_m1 hw hm1))) (by decide))
          refine wq_go rfl (fun _ => rfl) ?_
          refine wq_iret rfl ?_
          exact ansQ (K _ (hi_refl _) hI) (by simp only [F_sittings, eh, et, ew, od_s, od_n, od_c, if_neg hm1] <;> first | rfl | (rw [if_neg (by omega)]; first | rw [if_pos (by omega)] | rw [if_neg (by omega)]) | (rw [if_neg (few_m2 (by omega))]; first | rw [if_pos (by omega)] | rw [if_neg (by omega)]))
        · have ew : dec (3) a2 = none := dec_none (fun h hh e => by subst e; exact nI_ge hh (by omega) hw)
          refine wq_go rfl (fun _ => rfl) ?_
          refine wq_go rfl (fun _ => rfl) ?_
          refine wq_cmp rfl (fun c => absurd (c.symm.trans (decide_eq_false (fun e => by have h1 := Int32.lt_of_le_of_lt hw e; exact absurd h1 (by decide)))) (by decide)) (fun c10 => ?_)
          refine wq_go rfl (fun _ => rfl) ?_
          refine wq_cN (m := 3) rfl rfl ?_
          refine wq_cmp rfl (fun c => absurd (c.symm.trans (decide_eq_false (fun e => absurd (Int32.lt_of_lt_of_le e hw) Int32.lt_irrefl))) (by decide)) (fun c13 => ?_)
          refine wq_go rfl (fun _ => rfl) ?_
          refine wq_iret rfl ?_
          exact ansQ (K _ (hi_refl _) hI) (by simp only [F_sittings, eh, et, ew, od_s, od_n, od_c, if_neg hm1] <;> first | rfl | (rw [if_neg (by omega)]; first | rw [if_pos (by omega)] | rw [if_neg (by omega)]) | (rw [if_neg (few_m2 (by omega))]; first | rw [if_pos (by omega)] | rw [if_neg (by omega)]))
        · subst qw
          have ew : dec (3) (nI w) = some w := dec_some lw (by omega)
          refine wq_go rfl (fun _ => rfl) ?_
          refine wq_go rfl (fun _ => rfl) ?_
          refine wq_dlt rfl (nI_z _) (show (_ : Int32) = zI (-1) from by decide) (by first | omega | decide | exact Nat.lt_of_le_of_lt Nat.and_le_right (by decide) | exact ⟨by omega, by omega⟩) (by first | omega | decide | exact Nat.lt_of_le_of_lt Nat.and_le_right (by decide) | exact ⟨by omega, by omega⟩) (fun c => absurd c (by omega)) (fun c10 => ?_)
          refine wq_go rfl (fun _ => rfl) ?_
          refine wq_cN (m := 3) rfl rfl ?_
          refine wq_clt rfl (by first | omega | decide | exact Nat.lt_of_le_of_lt Nat.and_le_right (by decide) | exact ⟨by omega, by omega⟩) (by first | omega | decide | exact Nat.lt_of_le_of_lt Nat.and_le_right (by decide) | exact ⟨by omega, by omega⟩) (fun c13 => ?_) (fun c => absurd (show _ from by omega) c)
          refine wq_go rfl (fun _ => rfl) ?_
          refine wq_getf rfl (by first | rfl | assumption) (by first | decide | omega | assumption) (cw_c0 hC) rfl ?_
          refine wq_go rfl (fun _ => rfl) ?_
          refine wq_go rfl (fun _ => rfl) ?_
          refine wq_callV rfl rfl (by first | rfl | assumption) (by first | decide | omega | assumption) (Nat.le_of_ble_eq_true rfl) (Nat.le_of_ble_eq_true rfl) rfl rfl ?_
          refine c_fewest hS hC hok hD lh lt (fun σ5 F5 C5 T5 P5 => ?_)
          rcases few_i (AP A) (AS A) h t with hfi | ⟨hfi, hfl⟩
          · rw [hfi]
            refine wq_go rfl (fun _ => rfl) ?_
            refine wq_go rfl (fun _ => rfl) ?_
            refine wq_go rfl (fun _ => rfl) ?_
            refine wq_deq rfl (show (_ : Int32) = zI (-2) from by decide) (show (_ : Int32) = zI (-2) from by decide) (by first | omega | decide | exact Nat.lt_of_le_of_lt Nat.and_le_right (by decide) | exact ⟨by omega, by omega⟩) (by first | omega | decide | exact Nat.lt_of_le_of_lt Nat.and_le_right (by decide) | exact ⟨by omega, by omega⟩) (fun c24 => ?_) (fun c => absurd (show _ from by omega) c)
            refine wq_go rfl (fun _ => rfl) ?_
            refine wq_iret rfl ?_
            exact ansQ (K _ (hi_scr scr_F F5) (ci_F hI F5 C5 T5)) (by simp only [F_sittings, eh, et, ew, hfi, od_s, od_n, od_c, if_neg hm1] <;> first | rfl | (rw [if_neg (by omega)]; first | rw [if_pos (by omega)] | rw [if_neg (by omega)]) | (rw [if_neg (few_m2 (by omega))]; first | rw [if_pos (by omega)] | rw [if_neg (by omega)]))
          · rw [hfi]
            refine wq_go rfl (fun _ => rfl) ?_
            refine wq_go rfl (fun _ => rfl) ?_
            refine wq_go rfl (fun _ => rfl) ?_
            refine wq_deq rfl (nI_z _) (show (_ : Int32) = zI (-2) from by decide) (by first | omega | decide | exact Nat.lt_of_le_of_lt Nat.and_le_right (by decide) | exact ⟨by omega, by omega⟩) (by first | omega | decide | exact Nat.lt_of_le_of_lt Nat.and_le_right (by decide) | exact ⟨by omega, by omega⟩) (fun c => absurd c (by omega)) (fun c24 => ?_)
            refine wq_go rfl (fun _ => rfl) ?_
            refine wq_go rfl (fun _ => rfl) ?_
            refine wq_dne rfl (nI_z _) (show (_ : Int32) = zI (-1) from by decide) (by first | omega | decide | exact Nat.lt_of_le_of_lt Nat.and_le_right (by decide) | exact ⟨by omega, by omega⟩) (by first | omega | decide | exact Nat.lt_of_le_of_lt Nat.and_le_right (by decide) | exact ⟨by omega, by omega⟩) (fun c27 => ?_) (fun c => absurd (show _ from by omega) c)
            refine wq_go rfl (fun _ => rfl) ?_
            refine wq_go rfl (fun _ => rfl) ?_
            refine wq_cge rfl (by first | omega | decide | exact Nat.lt_of_le_of_lt Nat.and_le_right (by decide) | exact ⟨by omega, by omega⟩) (by first | omega | decide | exact Nat.lt_of_le_of_lt Nat.and_le_right (by decide) | exact ⟨by omega, by omega⟩) (fun c32 => ?_) (fun c32 => ?_)
            · skip
              refine wq_go rfl (fun _ => rfl) ?_
              refine wq_iret rfl ?_
              exact ansQ (K _ (hi_scr scr_F F5) (ci_F hI F5 C5 T5)) (by simp only [F_sittings, eh, et, ew, hfi, od_s, od_n, od_c, if_neg hm1] <;> first | rfl | (rw [if_neg (by omega)]; first | rw [if_pos (by omega)] | rw [if_neg (by omega)]) | (rw [if_neg (few_m2 (by omega))]; first | rw [if_pos (by omega)] | rw [if_neg (by omega)]))
            · skip
              refine wq_go rfl (fun _ => rfl) ?_
              refine wq_getf rfl (by first | rfl | assumption) (by first | decide | omega | assumption) (cw_c0 C5) rfl ?_
              refine wq_go rfl (fun _ => rfl) ?_
              refine wq_callV rfl rfl (by first | rfl | assumption) (by first | decide | omega | assumption) (Nat.le_of_ble_eq_true rfl) (Nat.le_of_ble_eq_true rfl) rfl rfl ?_
              refine c_Foresight_sittingAt C5 (by omega) ?_
              refine wq_top (P5 w (by omega)) ?_
              refine wq_go rfl (fun _ => rfl) ?_
              refine wq_iret rfl ?_
              exact ansQ (K _ (hi_scr scr_F F5) (ci_F hI F5 C5 T5)) (by simp only [F_sittings, eh, et, ew, hfi, od_s, od_n, od_c, if_neg hm1] <;> first | rfl | (rw [if_neg (by omega)]; first | rw [if_pos (by omega)] | rw [if_neg (by omega)]) | (rw [if_neg (few_m2 (by omega))]; first | rw [if_pos (by omega)] | rw [if_neg (by omega)]))
    · skip
      refine wq_zeq rfl (by first | omega | decide | exact Nat.lt_of_le_of_lt Nat.and_le_right (by decide) | exact ⟨by omega, by omega⟩) (fun c7 => ?_) (fun c => absurd (show _ from by omega) c)
      refine wq_go rfl (fun _ => rfl) ?_
      refine wq_iret rfl ?_
      exact ansQ (K _ (hi_refl _) hI) (by simp only [F_sittings, eh, et, od_s, od_n, od_c] <;> rfl)
  · skip
    refine wq_zeq rfl (by first | omega | decide | exact Nat.lt_of_le_of_lt Nat.and_le_right (by decide) | exact ⟨by omega, by omega⟩) (fun c4 => ?_) (fun c => absurd (show _ from by omega) c)
    refine wq_go rfl (fun _ => rfl) ?_
    refine wq_iret rfl ?_
    exact ansQ (K _ (hi_refl _) hI) (by simp only [F_sittings, eh, od_s, od_n, od_c] <;> rfl)
theorem m_all {xs : List Int32} {d : Nat} {σ : Nat → List Value} {Q : Option Value → (Nat → List Value) → Prop} {P : Pl} {L : Nat} {g : Nat → Int32} (hM : MD P L g σ)  (K : Q (some (.int (nI (al P)))) σ) : Wq xs (d + 0) ax_cd293 0 [(0, .ref 287)] [] σ Q := by
  have hL2 := md_l2 hM
  obtain ⟨hP1, hP2, hP3, hP4, hP5, hP6, hP7, hP8, hPv, hPm, hPo, hPw, hPl⟩ := md_pok hM
  refine wq_go rfl (fun _ => rfl) ?_
  refine wq_getf rfl (by first | rfl | assumption) (by first | decide | omega | assumption) (md_o hM) rfl ?_
  refine wq_go rfl (fun _ => rfl) ?_
  refine wq_getf rfl (by first | rfl | assumption) (by first | decide | omega | assumption) (md_o hM) rfl ?_
  refine wq_top (md_l hM) ?_
  refine wq_iald rfl (by first | rfl | assumption) (by first | decide | omega | assumption) (md_c299 hM) rfl (by omega) (by first | decide | omega) ?_
  refine wq_top (md_m299 hM) ?_
  refine wq_go rfl (fun _ => rfl) ?_
  refine wq_getf rfl (by first | rfl | assumption) (by first | decide | omega | assumption) (md_o hM) rfl ?_
  refine wq_go rfl (fun _ => rfl) ?_
  refine wq_getf rfl (by first | rfl | assumption) (by first | decide | omega | assumption) (md_o hM) rfl ?_
  refine wq_top (md_l hM) ?_
  refine wq_iald rfl (by first | rfl | assumption) (by first | decide | omega | assumption) (md_c297 hM) rfl (by omega) (by first | decide | omega) ?_
  refine wq_top (md_m297 hM) ?_
  refine wq_mulN rfl ?_
  refine wq_iret rfl ?_
  exact K
theorem m_power_l {xs : List Int32} {d : Nat} {σ : Nat → List Value} {Q : Option Value → (Nat → List Value) → Prop} {v n : Nat} (hn : n < 100)  (K : Q (some (.int (nI (v ^ n)))) σ) : ∀ (m u : Nat), m + u = n → Wq xs (d + 0) ax_cd294 4 [(3, .int (nI u)), (2, .int (nI (v ^ u))), (0, .int (nI v)), (1, .int (nI n))] [] σ Q := by
  intro m
  induction m with
  | zero =>
    intro u hm
    refine wq_go rfl (fun _ => rfl) ?_
    refine wq_go rfl (fun _ => rfl) ?_
    refine wq_cge rfl (by first | omega | decide | exact Nat.lt_of_le_of_lt Nat.and_le_right (by decide) | exact ⟨by omega, by omega⟩) (by first | omega | decide | exact Nat.lt_of_le_of_lt Nat.and_le_right (by decide) | exact ⟨by omega, by omega⟩) (fun c6 => ?_) (fun c => absurd (show _ from by omega) c)
    refine wq_go rfl (fun _ => rfl) ?_
    refine wq_iret rfl ?_
    rw [show u = n by omega]
    exact K
  | succ m ih =>
    intro u hm
    refine wq_go rfl (fun _ => rfl) ?_
    refine wq_go rfl (fun _ => rfl) ?_
    refine wq_cge rfl (by first | omega | decide | exact Nat.lt_of_le_of_lt Nat.and_le_right (by decide) | exact ⟨by omega, by omega⟩) (by first | omega | decide | exact Nat.lt_of_le_of_lt Nat.and_le_right (by decide) | exact ⟨by omega, by omega⟩) (fun c => absurd c (by omega)) (fun c6 => ?_)
    refine wq_go rfl (fun _ => rfl) ?_
    refine wq_go rfl (fun _ => rfl) ?_
    refine wq_mulN rfl ?_
    refine wq_go rfl (fun _ => rfl) ?_
    refine wq_incN rfl rfl rfl ?_
    refine wq_go rfl (fun _ => rfl) ?_
    rw [← Nat.pow_succ]
    exact ih (u + 1) (by omega)
theorem m_power {xs : List Int32} {d : Nat} {σ : Nat → List Value} {Q : Option Value → (Nat → List Value) → Prop} {v n : Nat} (hn : n < 100) (K : Q (some (.int (nI (v ^ n)))) σ) : Wq xs (d + 0) ax_cd294 0 [(0, .int (nI v)), (1, .int (nI n))] [] σ Q := by
  refine wq_cN (m := 1) rfl rfl ?_
  refine wq_go rfl (fun _ => rfl) ?_
  refine wq_cN (m := 0) rfl rfl ?_
  refine wq_go rfl (fun _ => rfl) ?_
  exact m_power_l hn K n 0 rfl
theorem m_digitOf {xs : List Int32} {d : Nat} {σ : Nat → List Value} {Q : Option Value → (Nat → List Value) → Prop} {P : Pl} {L : Nat} {g : Nat → Int32} (hM : MD P L g σ) {w n i : Nat} (hn : n ≤ 3) (hi : i < n) (hw : w < al P ^ n)  (K : Q (some (.int (nI (w / al P ^ (n - 1 - i) % al P)))) σ) : Wq xs (d + 1) ax_cd296 0 [(0, .ref 287), (1, .int (nI w)), (2, .int (nI n)), (3, .int (nI i))] [] σ Q := by
  have hL2 := md_l2 hM
  obtain ⟨hP1, hP2, hP3, hP4, hP5, hP6, hP7, hP8, hPv, hPm, hPo, hPw, hPl⟩ := md_pok hM
  have ha := al_le (md_pok hM)
  have hp := alp_le (md_pok hM) (n := n) hn
  have hp1 := alp_le (md_pok hM) (n := n - 1 - i) (by omega)
  have ha0 : 0 < al P := by
    rcases Nat.eq_zero_or_pos (al P) with e | e
    · rw [e, Nat.zero_pow (by omega)] at hw; omega
    · exact e
  have hp0 : 0 < al P ^ (n - 1 - i) := Nat.pow_pos ha0
  have hdl := Nat.div_le_self w (al P ^ (n - 1 - i))
  refine wq_go rfl (fun _ => rfl) ?_
  refine wq_go rfl (fun _ => rfl) ?_
  refine wq_callV rfl rfl (by first | rfl | assumption) (by first | decide | omega | assumption) (Nat.le_of_ble_eq_true rfl) (Nat.le_of_ble_eq_true rfl) rfl rfl ?_
  refine m_all hM ?_
  refine wq_go rfl (fun _ => rfl) ?_
  refine wq_cN (m := 1) rfl rfl ?_
  refine wq_subN rfl (by omega) ?_
  refine wq_go rfl (fun _ => rfl) ?_
  refine wq_subN rfl (by omega) ?_
  refine wq_callS rfl (Nat.le_of_ble_eq_true rfl) rfl (Nat.le_of_ble_eq_true rfl) (Nat.le_of_ble_eq_true rfl) rfl rfl ?_
  refine m_power (by omega) ?_
  refine wq_divN rfl (by first | decide | omega) (by first | decide | omega) (by first | decide | omega) ?_
  refine wq_go rfl (fun _ => rfl) ?_
  refine wq_callV rfl rfl (by first | rfl | assumption) (by first | decide | omega | assumption) (Nat.le_of_ble_eq_true rfl) (Nat.le_of_ble_eq_true rfl) rfl rfl ?_
  refine m_all hM ?_
  refine wq_remN rfl (by first | decide | omega) (by first | decide | omega) (by first | decide | omega) ?_
  refine wq_iret rfl ?_
  exact K
theorem m_way_l {xs : List Int32} {d : Nat} {σ : Nat → List Value} {Q : Option Value → (Nat → List Value) → Prop} {P : Pl} {L : Nat} {g : Nat → Int32} (hL2 : L < 2) (hP : Pok P) {T : St} {h t w n : Nat} (hh : h < Phd P) (ht : t < 4) (hn : n ≤ 3) (hw : w < al P ^ n)  (K1 : ∀ σ' g', Fr xR σ σ' → FrG yB g g' → MD P L g' σ' → says1 T (Psa P) h t = true → Q (some (.int (nI 1))) σ') (K0 : ∀ σ' g', Fr xR σ σ' → FrG yB g g' → MD P L g' σ' → says1 T (Psa P) h t = false → Q (some (.int (nI 0))) σ') : ∀ (m u : Nat), m + u = n → ∀ σ1 g1 Sc, Fr xR σ σ1 → FrG yB g g1 → MD P L g1 σ1 → RwIs σ1 Sc → Sok Sc → wS P m (w % al P ^ m) Sc = T → Wq xs (d + 5) ax_cd295 4 [(5, .int (nI u)), (0, .ref 287), (1, .int (nI h)), (2, .int (nI t)), (3, .int (nI w)), (4, .int (nI n))] [] σ1 Q := by
  have hP' := hP
  obtain ⟨hP1, hP2, hP3, hP4, hP5, hP6, hP7, hP8, hPv, hPm, hPo, hPw, hPl⟩ := hP'
  have ha := al_le hP
  intro m
  induction m with
  | zero =>
    intro u hm σ1 g1 Sc hF1 hG1 hM1 hR1 hok1 hwS
    have hT : Sc = T := hwS
    subst hT
    refine wq_go rfl (fun _ => rfl) ?_
    refine wq_go rfl (fun _ => rfl) ?_
    refine wq_cge rfl (by first | omega | decide | exact Nat.lt_of_le_of_lt Nat.and_le_right (by decide) | exact ⟨by omega, by omega⟩) (by first | omega | decide | exact Nat.lt_of_le_of_lt Nat.and_le_right (by decide) | exact ⟨by omega, by omega⟩) (fun c6 => ?_) (fun c => absurd (show _ from by omega) c)
    refine wq_go rfl (fun _ => rfl) ?_
    refine wq_go rfl (fun _ => rfl) ?_
    refine wq_go rfl (fun _ => rfl) ?_
    refine wq_callV rfl rfl (by first | rfl | assumption) (by first | decide | omega | assumption) (Nat.le_of_ble_eq_true rfl) (Nat.le_of_ble_eq_true rfl) rfl rfl ?_
    refine m_doesSay hM1 hok1 hR1 (by omega) (by omega) (fun eb => ?_) (fun eb => ?_)
    · skip
      refine wq_nret rfl (by decide) ?_
      first | exact K1 _ g1 hF1 hG1 hM1 eb | exact K0 _ g1 hF1 hG1 hM1 eb
    · skip
      refine wq_nret rfl (by decide) ?_
      first | exact K1 _ g1 hF1 hG1 hM1 eb | exact K0 _ g1 hF1 hG1 hM1 eb
  | succ m ih =>
    intro u hm σ1 g1 Sc hF1 hG1 hM1 hR1 hok1 hwS
    have hnm : n - 1 - u = m := by omega
    have hp1 := alp_le hP (n := m) (by omega)
    have ha0 : 0 < al P := by
      rcases Nat.eq_zero_or_pos (al P) with e | e
      · rw [e, Nat.zero_pow (by omega)] at hw; omega
      · exact e
    have hC0 : 0 < Pch P := by
      rcases Nat.eq_zero_or_pos (Pch P) with e | e
      · unfold al at ha0; rw [e, Nat.mul_zero] at ha0; omega
      · exact e
    have hdm : w / al P ^ (n - 1 - u) % al P < al P := Nat.mod_lt _ ha0
    have hs1 : w / al P ^ (n - 1 - u) % al P / Pch P < Phd P := Nat.div_lt_of_lt_mul (by unfold al at hdm ⊢; rw [Nat.mul_comm (Pch P)]; exact hdm)
    have hc1 : w / al P ^ (n - 1 - u) % al P % Pch P < Pch P := Nat.mod_lt _ hC0
    have hwN : wS P m (w % al P ^ m) (seatS P Sc (w / al P ^ (n - 1 - u) % al P / Pch P) (w / al P ^ (n - 1 - u) % al P % Pch P)) = T := by
      unfold wS at hwS
      rw [show w % al P ^ (m + 1) / al P ^ m = w / al P ^ m % al P by rw [Nat.pow_succ, Nat.mod_mul_right_div_self], show w % al P ^ (m + 1) % al P ^ m = w % al P ^ m by rw [Nat.pow_succ, Nat.mod_mul_right_mod]] at hwS
      rw [hnm]
      exact hwS
    refine wq_go rfl (fun _ => rfl) ?_
    refine wq_go rfl (fun _ => rfl) ?_
    refine wq_cge rfl (by first | omega | decide | exact Nat.lt_of_le_of_lt Nat.and_le_right (by decide) | exact ⟨by omega, by omega⟩) (by first | omega | decide | exact Nat.lt_of_le_of_lt Nat.and_le_right (by decide) | exact ⟨by omega, by omega⟩) (fun c => absurd c (by omega)) (fun c6 => ?_)
    refine wq_go rfl (fun _ => rfl) ?_
    refine wq_go rfl (fun _ => rfl) ?_
    refine wq_go rfl (fun _ => rfl) ?_
    refine wq_go rfl (fun _ => rfl) ?_
    refine wq_callV rfl rfl (by first | rfl | assumption) (by first | decide | omega | assumption) (Nat.le_of_ble_eq_true rfl) (Nat.le_of_ble_eq_true rfl) rfl rfl ?_
    refine m_digitOf hM1 hn (by omega) hw ?_
    refine wq_go rfl (fun _ => rfl) ?_
    refine wq_go rfl (fun _ => rfl) ?_
    refine wq_go rfl (fun _ => rfl) ?_
    refine wq_go rfl (fun _ => rfl) ?_
    refine wq_getf rfl (by first | rfl | assumption) (by first | decide | omega | assumption) (md_o hM1) rfl ?_
    refine wq_go rfl (fun _ => rfl) ?_
    refine wq_getf rfl (by first | rfl | assumption) (by first | decide | omega | assumption) (md_o hM1) rfl ?_
    refine wq_top (md_l hM1) ?_
    refine wq_iald rfl (by first | rfl | assumption) (by first | decide | omega | assumption) (md_c297 hM1) rfl (by omega) (by first | decide | omega) ?_
    refine wq_top (md_m297 hM1) ?_
    refine wq_divN rfl (by first | decide | omega) (by first | decide | omega) (by first | decide | omega) ?_
    refine wq_go rfl (fun _ => rfl) ?_
    refine wq_go rfl (fun _ => rfl) ?_
    refine wq_getf rfl (by first | rfl | assumption) (by first | decide | omega | assumption) (md_o hM1) rfl ?_
    refine wq_go rfl (fun _ => rfl) ?_
    refine wq_getf rfl (by first | rfl | assumption) (by first | decide | omega | assumption) (md_o hM1) rfl ?_
    refine wq_top (md_l hM1) ?_
    refine wq_iald rfl (by first | rfl | assumption) (by first | decide | omega | assumption) (md_c297 hM1) rfl (by omega) (by first | decide | omega) ?_
    refine wq_top (md_m297 hM1) ?_
    refine wq_remN rfl (by first | decide | omega) (by first | decide | omega) (by first | decide | omega) ?_
    refine wq_callV rfl rfl (by first | rfl | assumption) (by first | decide | omega | assumption) (Nat.le_of_ble_eq_true rfl) (Nat.le_of_ble_eq_true rfl) rfl rfl ?_
    refine m_sits hM1 hok1 hR1 hs1 hc1 (fun σ2 g2 F2 G2 M2 R2 => ?_)
    refine wq_incN rfl rfl rfl ?_
    refine wq_go rfl (fun _ => rfl) ?_
    exact wq_lv ⟨(by decide : ([5, 6, 0, 1, 2, 3, 4] : List Nat).Nodup), (lvm (List.mem_of_getElem? (i := 0) rfl) (lvm (List.mem_of_getElem? (i := 2) rfl) (lvm (List.mem_of_getElem? (i := 3) rfl) (lvm (List.mem_of_getElem? (i := 4) rfl) (lvm (List.mem_of_getElem? (i := 5) rfl) (lvm (List.mem_of_getElem? (i := 6) rfl) lvn))))))⟩ (ih (u + 1) (by omega) _ _ _ (fr_trans hF1 F2) (fg_trans hG1 G2) M2 R2 (seat_ok P hok1 (by omega) (by omega)) hwN)
theorem m_doesWay {xs : List Int32} {d : Nat} {σ : Nat → List Value} {Q : Option Value → (Nat → List Value) → Prop} {P : Pl} {L : Nat} {g : Nat → Int32} (hM : MD P L g σ) {S : St} (hok : Sok S) (hN : NwIs σ S) {h t w n : Nat} (hh : h < Phd P) (ht : t < 4) (hn : n ≤ 3) (hw : w < al P ^ n)  (K1 : ∀ σ' g', Fr xR σ σ' → FrG yC g g' → MD P L g' σ' → says1 (wS P n w S) (Psa P) h t = true → Q (some (.int (nI 1))) σ') (K0 : ∀ σ' g', Fr xR σ σ' → FrG yC g g' → MD P L g' σ' → says1 (wS P n w S) (Psa P) h t = false → Q (some (.int (nI 0))) σ') : Wq xs (d + 5) ax_cd295 0 [(0, .ref 287), (1, .int (nI h)), (2, .int (nI t)), (3, .int (nI w)), (4, .int (nI n))] [] σ Q := by
  have hL2 := md_l2 hM
  obtain ⟨hP1, hP2, hP3, hP4, hP5, hP6, hP7, hP8, hPv, hPm, hPo, hPw, hPl⟩ := md_pok hM
  refine wq_go rfl (fun _ => rfl) ?_
  refine wq_callV rfl rfl (by first | rfl | assumption) (by first | decide | omega | assumption) (Nat.le_of_ble_eq_true rfl) (Nat.le_of_ble_eq_true rfl) rfl rfl ?_
  refine m_copies hM hN (fun σ5 g5 F5 G5 s5 t5 M5 R5 => ?_)
  have W5 : NwIs σ5 S := (F5 322 rfl).trans hN
  refine wq_cN (m := 0) rfl rfl ?_
  refine wq_go rfl (fun _ => rfl) ?_
  exact wq_lv ⟨(by decide : ([5, 0, 1, 2, 3, 4] : List Nat).Nodup), (lvm (List.mem_of_getElem? (i := 0) rfl) (lvm (List.mem_of_getElem? (i := 1) rfl) (lvm (List.mem_of_getElem? (i := 2) rfl) (lvm (List.mem_of_getElem? (i := 3) rfl) (lvm (List.mem_of_getElem? (i := 4) rfl) (lvm (List.mem_of_getElem? (i := 5) rfl) lvn))))))⟩ (m_way_l hL2 (md_pok hM) hh ht hn hw (fun σ9 g9 F9 G9 M9 e9 => K1 σ9 g9 (fr_trans (fr_trans (fr_refl xR σ) (fr_mono F5 xC_R)) F9) (fg_trans (fg_trans (fg_refl yC g) G5) (fg_mono G9 yB_C)) M9 e9) (fun σ9 g9 F9 G9 M9 e9 => K0 σ9 g9 (fr_trans (fr_trans (fr_refl xR σ) (fr_mono F5 xC_R)) F9) (fg_trans (fg_trans (fg_refl yC g) G5) (fg_mono G9 yB_C)) M9 e9) n 0 rfl _ _ S (fr_refl _ _) (fg_refl _ _) M5 R5 hok (by rw [Nat.mod_eq_of_lt hw]))
theorem m_sit_i {xs : List Int32} {d : Nat} {σ : Nat → List Value} {Q : Option Value → (Nat → List Value) → Prop} {P : Pl} {L : Nat} {g : Nat → Int32} (hL2 : L < 2) (hP : Pok P) {S : St} (hok : Sok S) {h t n : Nat} {z : Int32} (hh : h < Phd P) (ht : t < 4) (hn : n ≤ 3)  (K1 : ∀ σ' g' w, Fr xR σ σ' → FrG yC g g' → MD P L g' σ' → NwIs σ' S → w < al P ^ n → says1 (wS P n w S) (Psa P) h t = true → (∀ v, v < w → says1 (wS P n v S) (Psa P) h t = false) → Wq xs (d + 7) ax_cd292 35 [(5, .int (nI w)), (4, .int (nI n)), (0, .ref 287), (1, .int (nI h)), (2, .int (nI t)), (3, .int z)] [] σ' Q) (K0 : ∀ σ' g', Fr xR σ σ' → FrG yC g g' → MD P L g' σ' → NwIs σ' S → (∀ v, v < al P ^ n → says1 (wS P n v S) (Psa P) h t = false) → Wq xs (d + 7) ax_cd292 71 [(4, .int (nI n)), (0, .ref 287), (1, .int (nI h)), (2, .int (nI t)), (3, .int z)] [] σ' Q) : ∀ (m u : Nat), m + u = al P ^ n → ∀ σ1 g1, Fr xR σ σ1 → FrG yC g g1 → MD P L g1 σ1 → NwIs σ1 S → (∀ v, v < u → says1 (wS P n v S) (Psa P) h t = false) → Wq xs (d + 7) ax_cd292 21 [(5, .int (nI u)), (4, .int (nI n)), (0, .ref 287), (1, .int (nI h)), (2, .int (nI t)), (3, .int z)] [] σ1 Q := by
  have hP' := hP
  obtain ⟨hP1, hP2, hP3, hP4, hP5, hP6, hP7, hP8, hPv, hPm, hPo, hPw, hPl⟩ := hP'
  have hhr := hok.2.1
  have ha := al_le hP
  have hp := alp_le hP hn
  intro m
  induction m with
  | zero =>
    intro u hm σ1 g1 hF1 hG1 hM1 hN1 hv
    refine wq_go rfl (fun _ => rfl) ?_
    refine wq_go rfl (fun _ => rfl) ?_
    refine wq_callV rfl rfl (by first | rfl | assumption) (by first | decide | omega | assumption) (Nat.le_of_ble_eq_true rfl) (Nat.le_of_ble_eq_true rfl) rfl rfl ?_
    refine m_all hM1 ?_
    refine wq_go rfl (fun _ => rfl) ?_
    refine wq_callS rfl (Nat.le_of_ble_eq_true rfl) rfl (Nat.le_of_ble_eq_true rfl) (Nat.le_of_ble_eq_true rfl) rfl rfl ?_
    refine m_power (by omega) ?_
    refine wq_cge rfl (by first | omega | decide | exact Nat.lt_of_le_of_lt Nat.and_le_right (by decide) | exact ⟨by omega, by omega⟩) (by first | omega | decide | exact Nat.lt_of_le_of_lt Nat.and_le_right (by decide) | exact ⟨by omega, by omega⟩) (fun c26 => ?_) (fun c => absurd (show _ from by omega) c)
    exact wq_lv ⟨(by decide : ([5, 4, 0, 1, 2, 3] : List Nat).Nodup), (lvm (List.mem_of_getElem? (i := 1) rfl) (lvm (List.mem_of_getElem? (i := 2) rfl) (lvm (List.mem_of_getElem? (i := 3) rfl) (lvm (List.mem_of_getElem? (i := 4) rfl) (lvm (List.mem_of_getElem? (i := 5) rfl) lvn)))))⟩ (K0 σ1 g1 hF1 hG1 hM1 hN1 (fun v hv1 => hv v (by omega)))
  | succ m ih =>
    intro u hm σ1 g1 hF1 hG1 hM1 hN1 hv
    refine wq_go rfl (fun _ => rfl) ?_
    refine wq_go rfl (fun _ => rfl) ?_
    refine wq_callV rfl rfl (by first | rfl | assumption) (by first | decide | omega | assumption) (Nat.le_of_ble_eq_true rfl) (Nat.le_of_ble_eq_true rfl) rfl rfl ?_
    refine m_all hM1 ?_
    refine wq_go rfl (fun _ => rfl) ?_
    refine wq_callS rfl (Nat.le_of_ble_eq_true rfl) rfl (Nat.le_of_ble_eq_true rfl) (Nat.le_of_ble_eq_true rfl) rfl rfl ?_
    refine m_power (by omega) ?_
    refine wq_cge rfl (by first | omega | decide | exact Nat.lt_of_le_of_lt Nat.and_le_right (by decide) | exact ⟨by omega, by omega⟩) (by first | omega | decide | exact Nat.lt_of_le_of_lt Nat.and_le_right (by decide) | exact ⟨by omega, by omega⟩) (fun c => absurd c (by omega)) (fun c26 => ?_)
    refine wq_go rfl (fun _ => rfl) ?_
    refine wq_go rfl (fun _ => rfl) ?_
    refine wq_go rfl (fun _ => rfl) ?_
    refine wq_go rfl (fun _ => rfl) ?_
    refine wq_go rfl (fun _ => rfl) ?_
    refine wq_callV rfl rfl (by first | rfl | assumption) (by first | decide | omega | assumption) (Nat.le_of_ble_eq_true rfl) (Nat.le_of_ble_eq_true rfl) rfl rfl ?_
    refine m_doesWay hM1 hok hN1 hh ht hn (w := u) (by omega) (fun σ2 g2 F2 G2 M2 eb => ?_) (fun σ2 g2 F2 G2 M2 eb => ?_)
    · have N2 : NwIs σ2 S := (F2 322 rfl).trans hN1
      refine wq_zne rfl (by first | omega | decide | exact Nat.lt_of_le_of_lt Nat.and_le_right (by decide) | exact ⟨by omega, by omega⟩) (fun c33 => ?_) (fun c => absurd (show _ from by omega) c)
      exact wq_lv ⟨(by decide : ([5, 4, 0, 1, 2, 3] : List Nat).Nodup), (lvm (List.mem_of_getElem? (i := 0) rfl) (lvm (List.mem_of_getElem? (i := 1) rfl) (lvm (List.mem_of_getElem? (i := 2) rfl) (lvm (List.mem_of_getElem? (i := 3) rfl) (lvm (List.mem_of_getElem? (i := 4) rfl) (lvm (List.mem_of_getElem? (i := 5) rfl) lvn))))))⟩ (K1 σ2 g2 u (fr_trans hF1 F2) (fg_trans hG1 G2) M2 N2 (by omega) eb hv)
    · have N2 : NwIs σ2 S := (F2 322 rfl).trans hN1
      refine wq_zne rfl (by first | omega | decide | exact Nat.lt_of_le_of_lt Nat.and_le_right (by decide) | exact ⟨by omega, by omega⟩) (fun c => absurd c (by omega)) (fun c33 => ?_)
      refine wq_go rfl (fun _ => rfl) ?_
      refine wq_incN rfl rfl rfl ?_
      refine wq_go rfl (fun _ => rfl) ?_
      exact ih (u + 1) (by omega) _ _ (fr_trans hF1 F2) (fg_trans hG1 G2) M2 N2 (fun v hv1 => by
        by_cases q : v = u
        · subst q; exact eb
        · exact hv v (by omega))
theorem mk_sittings {n : Nat} {A : Sy} (hn : n < 512) (hA : Aok n A) (a0 a1 a2 : Int32) : MOk ax_cd292 [.int a0, .int a1, .int a2] A A (F_sittings A a0 a1 a2) := by
  intro xs d σ Q hI K
  obtain ⟨hPok, ⟨hok, hhr72, hzq, hsum⟩, hAH, hAZ, hAn, hAh, hTok, hAl⟩ := hA
  have hP' := hPok
  obtain ⟨hP1, hP2, hP3, hP4, hP5, hP6, hP7, hP8, hPv, hPm, hPo, hPw, hPl⟩ := hP'
  have hok' := hok
  obtain ⟨hot, hoh, hosc, hokp⟩ := hok'
  have hI0 := hI
  obtain ⟨L, g, hM, hMR, hMT⟩ := hI0
  have hN : NwIs σ (AS A) := hMR.1
  have hL2 := md_l2 hM
  show Wq xs (d + 12) ax_cd292 0 [(0, .ref 287), (1, .int a0), (2, .int a1), (3, .int a2)] [] σ Q
  refine wq_go rfl (fun _ => rfl) ?_
  refine wq_go rfl (fun _ => rfl) ?_
  refine wq_callV rfl rfl (by first | rfl | assumption) (by first | decide | omega | assumption) (Nat.le_of_ble_eq_true rfl) (Nat.le_of_ble_eq_true rfl) rfl rfl ?_
  refine m_isHead hM (fun h lh qh eh => ?_) (fun eh => ?_)
  · subst qh
    refine wq_zeq rfl (by first | omega | decide | exact Nat.lt_of_le_of_lt Nat.and_le_right (by decide) | exact ⟨by omega, by omega⟩) (fun c => absurd c (by omega)) (fun c3 => ?_)
    refine wq_go rfl (fun _ => rfl) ?_
    refine wq_callS rfl (Nat.le_of_ble_eq_true rfl) rfl (Nat.le_of_ble_eq_true rfl) (Nat.le_of_ble_eq_true rfl) rfl rfl ?_
    refine m_isThought  (fun t lt qt et => ?_) (fun et => ?_)
    · subst qt
      refine wq_zeq rfl (by first | omega | decide | exact Nat.lt_of_le_of_lt Nat.and_le_right (by decide) | exact ⟨by omega, by omega⟩) (fun c => absurd c (by omega)) (fun c6 => ?_)
      refine wq_go rfl (fun _ => rfl) ?_
      refine wq_go rfl (fun _ => rfl) ?_
      refine wq_cN (m := 2) rfl rfl ?_
      refine wq_callS rfl (Nat.le_of_ble_eq_true rfl) rfl (Nat.le_of_ble_eq_true rfl) (Nat.le_of_ble_eq_true rfl) rfl rfl ?_
      by_cases hm1 : a2 = -1
      · subst hm1
        refine m_inZ (p := -1) (lo := -1) (hi := 2) ⟨by decide, by decide⟩ ⟨by decide, by decide⟩ ⟨by decide, by decide⟩ (fun _ _ => ?_) (fun h0 => absurd h0 (by decide))
        refine wq_zne rfl (by first | omega | decide | exact Nat.lt_of_le_of_lt Nat.and_le_right (by decide) | exact ⟨by omega, by omega⟩) (fun c11 => ?_) (fun c => absurd (show _ from by omega) c)
        refine wq_cN (m := 0) rfl rfl ?_
        refine wq_go rfl (fun _ => rfl) ?_
        refine wq_go rfl (fun _ => rfl) ?_
        refine wq_cN (m := 3) rfl rfl ?_
        refine wq_cgt rfl (by first | omega | decide | exact Nat.lt_of_le_of_lt Nat.and_le_right (by decide) | exact ⟨by omega, by omega⟩) (by first | omega | decide | exact Nat.lt_of_le_of_lt Nat.and_le_right (by decide) | exact ⟨by omega, by omega⟩) (fun c => absurd c (by omega)) (fun c18 => ?_)
        refine wq_cN (m := 0) rfl rfl ?_
        refine wq_go rfl (fun _ => rfl) ?_
        refine wq_lv ⟨(by decide : ([5, 4, 0, 1, 2, 3] : List Nat).Nodup), (lvm (List.mem_of_getElem? (i := 0) rfl) (lvm (List.mem_of_getElem? (i := 1) rfl) (lvm (List.mem_of_getElem? (i := 2) rfl) (lvm (List.mem_of_getElem? (i := 3) rfl) (lvm (List.mem_of_getElem? (i := 4) rfl) (lvm (List.mem_of_getElem? (i := 5) rfl) lvn))))))⟩ (m_sit_i (σ := _) (g := _) (L := L) hL2 hPok hok (n := _) lh lt (by omega) (fun σ0a g0a v0 F0a G0a M0a N0a w0a w0b w0c => ?_) (fun σ0b g0b F0b G0b M0b N0b k0 => ?_) _ 0 (Nat.add_zero _) _ _ (fr_refl _ _) (fg_refl _ _) hM hN (fun v hv => absurd hv (by omega)))
        · skip
          obtain ⟨hfi, hfl⟩ := few_way hPok hok lh lt (n := 0) (by decide) (fun j hj => by omega) w0a w0b w0c
          have hln := wL_len (AP A) 0 v0
          have hva : v0 < al (AP A) ^ 0 := w0a
          have hab := al_le hPok
          have hlg := fun i hi => wL_get (AP A) 0 v0 i hi w0a
          refine wq_go rfl (fun _ => rfl) ?_
          refine wq_go rfl (fun _ => rfl) ?_
          refine wq_dne rfl (show (_ : Int32) = zI (-1) from by decide) (show (_ : Int32) = zI (-1) from by decide) (by first | omega | decide | exact Nat.lt_of_le_of_lt Nat.and_le_right (by decide) | exact ⟨by omega, by omega⟩) (by first | omega | decide | exact Nat.lt_of_le_of_lt Nat.and_le_right (by decide) | exact ⟨by omega, by omega⟩) (fun c => absurd c (by omega)) (fun c37 => ?_)
          refine wq_go rfl (fun _ => rfl) ?_
          refine wq_iret rfl ?_
          exact ansQ (K _ (lo_R (fr_trans (fr_refl xR σ) F0a)) (mi_k hMR hMT (fr_trans (fr_refl xR σ) F0a) (fg_trans (fg_refl yC g) G0a) M0a)) (by simp only [F_sittings, eh, et, od_s, od_n, od_c, hfi, hfl, hln] <;> first | rfl | (rw [if_neg (by decide)]; first | (rw [if_neg (by omega)]; done) | (rw [if_pos (by omega)]; exact congrArg nI (hlg w (by omega)).symm)))
        · skip
          refine wq_incN rfl rfl rfl ?_
          refine wq_go rfl (fun _ => rfl) ?_
          refine wq_go rfl (fun _ => rfl) ?_
          refine wq_cN (m := 3) rfl rfl ?_
          refine wq_cgt rfl (by first | omega | decide | exact Nat.lt_of_le_of_lt Nat.and_le_right (by decide) | exact ⟨by omega, by omega⟩) (by first | omega | decide | exact Nat.lt_of_le_of_lt Nat.and_le_right (by decide) | exact ⟨by omega, by omega⟩) (fun c => absurd c (by omega)) (fun c18 => ?_)
          refine wq_cN (m := 0) rfl rfl ?_
          refine wq_go rfl (fun _ => rfl) ?_
          refine wq_lv ⟨(by decide : ([5, 4, 0, 1, 2, 3] : List Nat).Nodup), (lvm (List.mem_of_getElem? (i := 0) rfl) (lvm (List.mem_of_getElem? (i := 1) rfl) (lvm (List.mem_of_getElem? (i := 2) rfl) (lvm (List.mem_of_getElem? (i := 3) rfl) (lvm (List.mem_of_getElem? (i := 4) rfl) (lvm (List.mem_of_getElem? (i := 5) rfl) lvn))))))⟩ (m_sit_i (σ := _) (g := _) (L := L) hL2 hPok hok (n := _) lh lt (by omega) (fun σ1a g1a v1 F1a G1a M1a N1a w1a w1b w1c => ?_) (fun σ1b g1b F1b G1b M1b N1b k1 => ?_) _ 0 (Nat.add_zero _) _ _ (fr_refl _ _) (fg_refl _ _) M0b N0b (fun v hv => absurd hv (by omega)))
          · skip
            obtain ⟨hfi, hfl⟩ := few_way hPok hok lh lt (n := 1) (by decide) (fun j hj => by
              rcases (show j = 0 by omega) with rfl
              · exact k0) w1a w1b w1c
            have hln := wL_len (AP A) 1 v1
            have hva : v1 < al (AP A) ^ 1 := w1a
            have hab := al_le hPok
            have hlg := fun i hi => wL_get (AP A) 1 v1 i hi w1a
            refine wq_go rfl (fun _ => rfl) ?_
            refine wq_go rfl (fun _ => rfl) ?_
            refine wq_dne rfl (show (_ : Int32) = zI (-1) from by decide) (show (_ : Int32) = zI (-1) from by decide) (by first | omega | decide | exact Nat.lt_of_le_of_lt Nat.and_le_right (by decide) | exact ⟨by omega, by omega⟩) (by first | omega | decide | exact Nat.lt_of_le_of_lt Nat.and_le_right (by decide) | exact ⟨by omega, by omega⟩) (fun c => absurd c (by omega)) (fun c37 => ?_)
            refine wq_go rfl (fun _ => rfl) ?_
            refine wq_iret rfl ?_
            exact ansQ (K _ (lo_R (fr_trans (fr_trans (fr_refl xR σ) F0b) F1a)) (mi_k hMR hMT (fr_trans (fr_trans (fr_refl xR σ) F0b) F1a) (fg_trans (fg_trans (fg_refl yC g) G0b) G1a) M1a)) (by simp only [F_sittings, eh, et, od_s, od_n, od_c, hfi, hfl, hln] <;> first | rfl | (rw [if_neg (by decide)]; first | (rw [if_neg (by omega)]; done) | (rw [if_pos (by omega)]; exact congrArg nI (hlg w (by omega)).symm)))
          · skip
            refine wq_incN rfl rfl rfl ?_
            refine wq_go rfl (fun _ => rfl) ?_
            refine wq_go rfl (fun _ => rfl) ?_
            refine wq_cN (m := 3) rfl rfl ?_
            refine wq_cgt rfl (by first | omega | decide | exact Nat.lt_of_le_of_lt Nat.and_le_right (by decide) | exact ⟨by omega, by omega⟩) (by first | omega | decide | exact Nat.lt_of_le_of_lt Nat.and_le_right (by decide) | exact ⟨by omega, by omega⟩) (fun c => absurd c (by omega)) (fun c18 => ?_)
            refine wq_cN (m := 0) rfl rfl ?_
            refine wq_go rfl (fun _ => rfl) ?_
            refine wq_lv ⟨(by decide : ([5, 4, 0, 1, 2, 3] : List Nat).Nodup), (lvm (List.mem_of_getElem? (i := 0) rfl) (lvm (List.mem_of_getElem? (i := 1) rfl) (lvm (List.mem_of_getElem? (i := 2) rfl) (lvm (List.mem_of_getElem? (i := 3) rfl) (lvm (List.mem_of_getElem? (i := 4) rfl) (lvm (List.mem_of_getElem? (i := 5) rfl) lvn))))))⟩ (m_sit_i (σ := _) (g := _) (L := L) hL2 hPok hok (n := _) lh lt (by omega) (fun σ2a g2a v2 F2a G2a M2a N2a w2a w2b w2c => ?_) (fun σ2b g2b F2b G2b M2b N2b k2 => ?_) _ 0 (Nat.add_zero _) _ _ (fr_refl _ _) (fg_refl _ _) M1b N1b (fun v hv => absurd hv (by omega)))
            · skip
              obtain ⟨hfi, hfl⟩ := few_way hPok hok lh lt (n := 2) (by decide) (fun j hj => by
                rcases (show j = 0 ∨ j = 1 by omega) with rfl | rfl
                · exact k0
                · exact k1) w2a w2b w2c
              have hln := wL_len (AP A) 2 v2
              have hva : v2 < al (AP A) ^ 2 := w2a
              have hab := al_le hPok
              have hlg := fun i hi => wL_get (AP A) 2 v2 i hi w2a
              refine wq_go rfl (fun _ => rfl) ?_
              refine wq_go rfl (fun _ => rfl) ?_
              refine wq_dne rfl (show (_ : Int32) = zI (-1) from by decide) (show (_ : Int32) = zI (-1) from by decide) (by first | omega | decide | exact Nat.lt_of_le_of_lt Nat.and_le_right (by decide) | exact ⟨by omega, by omega⟩) (by first | omega | decide | exact Nat.lt_of_le_of_lt Nat.and_le_right (by decide) | exact ⟨by omega, by omega⟩) (fun c => absurd c (by omega)) (fun c37 => ?_)
              refine wq_go rfl (fun _ => rfl) ?_
              refine wq_iret rfl ?_
              exact ansQ (K _ (lo_R (fr_trans (fr_trans (fr_trans (fr_refl xR σ) F0b) F1b) F2a)) (mi_k hMR hMT (fr_trans (fr_trans (fr_trans (fr_refl xR σ) F0b) F1b) F2a) (fg_trans (fg_trans (fg_trans (fg_refl yC g) G0b) G1b) G2a) M2a)) (by simp only [F_sittings, eh, et, od_s, od_n, od_c, hfi, hfl, hln] <;> first | rfl | (rw [if_neg (by decide)]; first | (rw [if_neg (by omega)]; done) | (rw [if_pos (by omega)]; exact congrArg nI (hlg w (by omega)).symm)))
            · skip
              refine wq_incN rfl rfl rfl ?_
              refine wq_go rfl (fun _ => rfl) ?_
              refine wq_go rfl (fun _ => rfl) ?_
              refine wq_cN (m := 3) rfl rfl ?_
              refine wq_cgt rfl (by first | omega | decide | exact Nat.lt_of_le_of_lt Nat.and_le_right (by decide) | exact ⟨by omega, by omega⟩) (by first | omega | decide | exact Nat.lt_of_le_of_lt Nat.and_le_right (by decide) | exact ⟨by omega, by omega⟩) (fun c => absurd c (by omega)) (fun c18 => ?_)
              refine wq_cN (m := 0) rfl rfl ?_
              refine wq_go rfl (fun _ => rfl) ?_
              refine wq_lv ⟨(by decide : ([5, 4, 0, 1, 2, 3] : List Nat).Nodup), (lvm (List.mem_of_getElem? (i := 0) rfl) (lvm (List.mem_of_getElem? (i := 1) rfl) (lvm (List.mem_of_getElem? (i := 2) rfl) (lvm (List.mem_of_getElem? (i := 3) rfl) (lvm (List.mem_of_getElem? (i := 4) rfl) (lvm (List.mem_of_getElem? (i := 5) rfl) lvn))))))⟩ (m_sit_i (σ := _) (g := _) (L := L) hL2 hPok hok (n := _) lh lt (by omega) (fun σ3a g3a v3 F3a G3a M3a N3a w3a w3b w3c => ?_) (fun σ3b g3b F3b G3b M3b N3b k3 => ?_) _ 0 (Nat.add_zero _) _ _ (fr_refl _ _) (fg_refl _ _) M2b N2b (fun v hv => absurd hv (by omega)))
              · skip
                obtain ⟨hfi, hfl⟩ := few_way hPok hok lh lt (n := 3) (by decide) (fun j hj => by
                  rcases (show j = 0 ∨ j = 1 ∨ j = 2 by omega) with rfl | rfl | rfl
                  · exact k0
                  · exact k1
                  · exact k2) w3a w3b w3c
                have hln := wL_len (AP A) 3 v3
                have hva : v3 < al (AP A) ^ 3 := w3a
                have hab := al_le hPok
                have hlg := fun i hi => wL_get (AP A) 3 v3 i hi w3a
                refine wq_go rfl (fun _ => rfl) ?_
                refine wq_go rfl (fun _ => rfl) ?_
                refine wq_dne rfl (show (_ : Int32) = zI (-1) from by decide) (show (_ : Int32) = zI (-1) from by decide) (by first | omega | decide | exact Nat.lt_of_le_of_lt Nat.and_le_right (by decide) | exact ⟨by omega, by omega⟩) (by first | omega | decide | exact Nat.lt_of_le_of_lt Nat.and_le_right (by decide) | exact ⟨by omega, by omega⟩) (fun c => absurd c (by omega)) (fun c37 => ?_)
                refine wq_go rfl (fun _ => rfl) ?_
                refine wq_iret rfl ?_
                exact ansQ (K _ (lo_R (fr_trans (fr_trans (fr_trans (fr_trans (fr_refl xR σ) F0b) F1b) F2b) F3a)) (mi_k hMR hMT (fr_trans (fr_trans (fr_trans (fr_trans (fr_refl xR σ) F0b) F1b) F2b) F3a) (fg_trans (fg_trans (fg_trans (fg_trans (fg_refl yC g) G0b) G1b) G2b) G3a) M3a)) (by simp only [F_sittings, eh, et, od_s, od_n, od_c, hfi, hfl, hln] <;> first | rfl | (rw [if_neg (by decide)]; first | (rw [if_neg (by omega)]; done) | (rw [if_pos (by omega)]; exact congrArg nI (hlg w (by omega)).symm)))
              · skip
                refine wq_incN rfl rfl rfl ?_
                refine wq_go rfl (fun _ => rfl) ?_
                refine wq_go rfl (fun _ => rfl) ?_
                refine wq_cN (m := 3) rfl rfl ?_
                refine wq_cgt rfl (by first | omega | decide | exact Nat.lt_of_le_of_lt Nat.and_le_right (by decide) | exact ⟨by omega, by omega⟩) (by first | omega | decide | exact Nat.lt_of_le_of_lt Nat.and_le_right (by decide) | exact ⟨by omega, by omega⟩) (fun c18 => ?_) (fun c => absurd (show _ from by omega) c)
                have hfn := few_none hPok hok lh lt (fun j hj => by
                  rcases (show j = 0 ∨ j = 1 ∨ j = 2 ∨ j = 3 by omega) with rfl | rfl | rfl | rfl
                  · exact k0
                  · exact k1
                  · exact k2
                  · exact k3)
                refine wq_go rfl (fun _ => rfl) ?_
                refine wq_iret rfl ?_
                exact ansQ (K _ (lo_R (fr_trans (fr_trans (fr_trans (fr_trans (fr_refl xR σ) F0b) F1b) F2b) F3b)) (mi_k hMR hMT (fr_trans (fr_trans (fr_trans (fr_trans (fr_refl xR σ) F0b) F1b) F2b) F3b) (fg_trans (fg_trans (fg_trans (fg_trans (fg_refl yC g) G0b) G1b) G2b) G3b) M3b)) (by simp only [F_sittings, eh, et, od_s, od_n, od_c, hfn] <;> rfl)
      · obtain ⟨p, hp, e⟩ := zI_of a2
        subst e
        have hp' := hp
        obtain ⟨hp1, hp2⟩ := hp'
        have hpm : ¬ p = -1 := fun e => hm1 (by rw [e]; rfl)
        refine m_inZ (p := p) (lo := -1) (hi := 2) hp ⟨by decide, by decide⟩ ⟨by decide, by decide⟩ (fun h1 h2 => ?_) (fun h0 => ?_)
        · obtain ⟨w, rfl⟩ : ∃ w : Nat, p = w := ⟨p.toNat, by omega⟩
          rw [← nI_z] at hm1 K ⊢
          have ew : dec 3 (nI w) = some w := dec_some (by omega) (by decide)
          refine wq_zne rfl (by first | omega | decide | exact Nat.lt_of_le_of_lt Nat.and_le_right (by decide) | exact ⟨by omega, by omega⟩) (fun c11 => ?_) (fun c => absurd (show _ from by omega) c)
          refine wq_cN (m := 0) rfl rfl ?_
          refine wq_go rfl (fun _ => rfl) ?_
          refine wq_go rfl (fun _ => rfl) ?_
          refine wq_cN (m := 3) rfl rfl ?_
          refine wq_cgt rfl (by first | omega | decide | exact Nat.lt_of_le_of_lt Nat.and_le_right (by decide) | exact ⟨by omega, by omega⟩) (by first | omega | decide | exact Nat.lt_of_le_of_lt Nat.and_le_right (by decide) | exact ⟨by omega, by omega⟩) (fun c => absurd c (by omega)) (fun c18 => ?_)
          refine wq_cN (m := 0) rfl rfl ?_
          refine wq_go rfl (fun _ => rfl) ?_
          refine wq_lv ⟨(by decide : ([5, 4, 0, 1, 2, 3] : List Nat).Nodup), (lvm (List.mem_of_getElem? (i := 0) rfl) (lvm (List.mem_of_getElem? (i := 1) rfl) (lvm (List.mem_of_getElem? (i := 2) rfl) (lvm (List.mem_of_getElem? (i := 3) rfl) (lvm (List.mem_of_getElem? (i := 4) rfl) (lvm (List.mem_of_getElem? (i := 5) rfl) lvn))))))⟩ (m_sit_i (σ := _) (g := _) (L := L) hL2 hPok hok (n := _) lh lt (by omega) (fun σ0a g0a v0 F0a G0a M0a N0a w0a w0b w0c => ?_) (fun σ0b g0b F0b G0b M0b N0b k0 => ?_) _ 0 (Nat.add_zero _) _ _ (fr_refl _ _) (fg_refl _ _) hM hN (fun v hv => absurd hv (by omega)))
          · skip
            obtain ⟨hfi, hfl⟩ := few_way hPok hok lh lt (n := 0) (by decide) (fun j hj => by omega) w0a w0b w0c
            have hln := wL_len (AP A) 0 v0
            have hva : v0 < al (AP A) ^ 0 := w0a
            have hab := al_le hPok
            have hlg := fun i hi => wL_get (AP A) 0 v0 i hi w0a
            refine wq_go rfl (fun _ => rfl) ?_
            refine wq_go rfl (fun _ => rfl) ?_
            refine wq_dne rfl (nI_z _) (show (_ : Int32) = zI (-1) from by decide) (by first | omega | decide | exact Nat.lt_of_le_of_lt Nat.and_le_right (by decide) | exact ⟨by omega, by omega⟩) (by first | omega | decide | exact Nat.lt_of_le_of_lt Nat.and_le_right (by decide) | exact ⟨by omega, by omega⟩) (fun c37 => ?_) (fun c => absurd (show _ from by omega) c)
            refine wq_go rfl (fun _ => rfl) ?_
            refine wq_go rfl (fun _ => rfl) ?_
            refine wq_clt rfl (by first | omega | decide | exact Nat.lt_of_le_of_lt Nat.and_le_right (by decide) | exact ⟨by omega, by omega⟩) (by first | omega | decide | exact Nat.lt_of_le_of_lt Nat.and_le_right (by decide) | exact ⟨by omega, by omega⟩) (fun c42 => ?_) (fun c42 => ?_)
            · skip
              refine wq_go rfl (fun _ => rfl) ?_
              refine wq_go rfl (fun _ => rfl) ?_
              refine wq_go rfl (fun _ => rfl) ?_
              refine wq_go rfl (fun _ => rfl) ?_
              refine wq_callV rfl rfl (by first | rfl | assumption) (by first | decide | omega | assumption) (Nat.le_of_ble_eq_true rfl) (Nat.le_of_ble_eq_true rfl) rfl rfl ?_
              refine m_digitOf M0a (by omega) (by omega) hva ?_
              have ha0 : 0 < al (AP A) := by
                rcases Nat.eq_zero_or_pos (al (AP A)) with e | e
                · rw [e, Nat.zero_pow (by omega)] at hva; omega
                · exact e
              have hC0 : 0 < Pch (AP A) := by
                rcases Nat.eq_zero_or_pos (Pch (AP A)) with e | e
                · unfold al at ha0; rw [e, Nat.mul_zero] at ha0; omega
                · exact e
              have hdm : v0 / al (AP A) ^ (0 - 1 - w) % al (AP A) < al (AP A) := Nat.mod_lt _ ha0
              refine wq_go rfl (fun _ => rfl) ?_
              refine wq_cN (m := 10) rfl rfl ?_
              refine wq_go rfl (fun _ => rfl) ?_
              refine wq_go rfl (fun _ => rfl) ?_
              refine wq_getf rfl (by first | rfl | assumption) (by first | decide | omega | assumption) (md_o M0a) rfl ?_
              refine wq_go rfl (fun _ => rfl) ?_
              refine wq_getf rfl (by first | rfl | assumption) (by first | decide | omega | assumption) (md_o M0a) rfl ?_
              refine wq_top (md_l M0a) ?_
              refine wq_iald rfl (by first | rfl | assumption) (by first | decide | omega | assumption) (md_c297 M0a) rfl (by omega) (by first | decide | omega) ?_
              refine wq_top (md_m297 M0a) ?_
              refine wq_divN rfl (by first | decide | omega) (by first | decide | omega) (by first | decide | omega) ?_
              refine wq_mulN rfl ?_
              refine wq_go rfl (fun _ => rfl) ?_
              refine wq_go rfl (fun _ => rfl) ?_
              refine wq_getf rfl (by first | rfl | assumption) (by first | decide | omega | assumption) (md_o M0a) rfl ?_
              refine wq_go rfl (fun _ => rfl) ?_
              refine wq_getf rfl (by first | rfl | assumption) (by first | decide | omega | assumption) (md_o M0a) rfl ?_
              refine wq_top (md_l M0a) ?_
              refine wq_iald rfl (by first | rfl | assumption) (by first | decide | omega | assumption) (md_c297 M0a) rfl (by omega) (by first | decide | omega) ?_
              refine wq_top (md_m297 M0a) ?_
              refine wq_remN rfl (by first | decide | omega) (by first | decide | omega) (by first | decide | omega) ?_
              refine wq_addN rfl ?_
              refine wq_iret rfl ?_
              exact ansQ (K _ (lo_R (fr_trans (fr_refl xR σ) F0a)) (mi_k hMR hMT (fr_trans (fr_refl xR σ) F0a) (fg_trans (fg_refl yC g) G0a) M0a)) (by simp only [F_sittings, eh, et, ew, od_s, od_n, od_c, if_neg hm1, hfi, hfl, hln] <;> first | rfl | (rw [if_neg (by decide)]; first | (rw [if_neg (by omega)]; done) | (rw [if_pos (by omega)]; exact congrArg nI (hlg w (by omega)).symm)))
            · skip
              refine wq_go rfl (fun _ => rfl) ?_
              refine wq_iret rfl ?_
              exact ansQ (K _ (lo_R (fr_trans (fr_refl xR σ) F0a)) (mi_k hMR hMT (fr_trans (fr_refl xR σ) F0a) (fg_trans (fg_refl yC g) G0a) M0a)) (by simp only [F_sittings, eh, et, ew, od_s, od_n, od_c, if_neg hm1, hfi, hfl, hln] <;> first | rfl | (rw [if_neg (by decide)]; first | (rw [if_neg (by omega)]; done) | (rw [if_pos (by omega)]; exact congrArg nI (hlg w (by omega)).symm)))
          · skip
            refine wq_incN rfl rfl rfl ?_
            refine wq_go rfl (fun _ => rfl) ?_
            refine wq_go rfl (fun _ => rfl) ?_
            refine wq_cN (m := 3) rfl rfl ?_
            refine wq_cgt rfl (by first | omega | decide | exact Nat.lt_of_le_of_lt Nat.and_le_right (by decide) | exact ⟨by omega, by omega⟩) (by first | omega | decide | exact Nat.lt_of_le_of_lt Nat.and_le_right (by decide) | exact ⟨by omega, by omega⟩) (fun c => absurd c (by omega)) (fun c18 => ?_)
            refine wq_cN (m := 0) rfl rfl ?_
            refine wq_go rfl (fun _ => rfl) ?_
            refine wq_lv ⟨(by decide : ([5, 4, 0, 1, 2, 3] : List Nat).Nodup), (lvm (List.mem_of_getElem? (i := 0) rfl) (lvm (List.mem_of_getElem? (i := 1) rfl) (lvm (List.mem_of_getElem? (i := 2) rfl) (lvm (List.mem_of_getElem? (i := 3) rfl) (lvm (List.mem_of_getElem? (i := 4) rfl) (lvm (List.mem_of_getElem? (i := 5) rfl) lvn))))))⟩ (m_sit_i (σ := _) (g := _) (L := L) hL2 hPok hok (n := _) lh lt (by omega) (fun σ1a g1a v1 F1a G1a M1a N1a w1a w1b w1c => ?_) (fun σ1b g1b F1b G1b M1b N1b k1 => ?_) _ 0 (Nat.add_zero _) _ _ (fr_refl _ _) (fg_refl _ _) M0b N0b (fun v hv => absurd hv (by omega)))
            · skip
              obtain ⟨hfi, hfl⟩ := few_way hPok hok lh lt (n := 1) (by decide) (fun j hj => by
                rcases (show j = 0 by omega) with rfl
                · exact k0) w1a w1b w1c
              have hln := wL_len (AP A) 1 v1
              have hva : v1 < al (AP A) ^ 1 := w1a
              have hab := al_le hPok
              have hlg := fun i hi => wL_get (AP A) 1 v1 i hi w1a
              refine wq_go rfl (fun _ => rfl) ?_
              refine wq_go rfl (fun _ => rfl) ?_
              refine wq_dne rfl (nI_z _) (show (_ : Int32) = zI (-1) from by decide) (by first | omega | decide | exact Nat.lt_of_le_of_lt Nat.and_le_right (by decide) | exact ⟨by omega, by omega⟩) (by first | omega | decide | exact Nat.lt_of_le_of_lt Nat.and_le_right (by decide) | exact ⟨by omega, by omega⟩) (fun c37 => ?_) (fun c => absurd (show _ from by omega) c)
              refine wq_go rfl (fun _ => rfl) ?_
              refine wq_go rfl (fun _ => rfl) ?_
              refine wq_clt rfl (by first | omega | decide | exact Nat.lt_of_le_of_lt Nat.and_le_right (by decide) | exact ⟨by omega, by omega⟩) (by first | omega | decide | exact Nat.lt_of_le_of_lt Nat.and_le_right (by decide) | exact ⟨by omega, by omega⟩) (fun c42 => ?_) (fun c42 => ?_)
              · skip
                refine wq_go rfl (fun _ => rfl) ?_
                refine wq_go rfl (fun _ => rfl) ?_
                refine wq_go rfl (fun _ => rfl) ?_
                refine wq_go rfl (fun _ => rfl) ?_
                refine wq_callV rfl rfl (by first | rfl | assumption) (by first | decide | omega | assumption) (Nat.le_of_ble_eq_true rfl) (Nat.le_of_ble_eq_true rfl) rfl rfl ?_
                refine m_digitOf M1a (by omega) (by omega) hva ?_
                have ha0 : 0 < al (AP A) := by
                  rcases Nat.eq_zero_or_pos (al (AP A)) with e | e
                  · rw [e, Nat.zero_pow (by omega)] at hva; omega
                  · exact e
                have hC0 : 0 < Pch (AP A) := by
                  rcases Nat.eq_zero_or_pos (Pch (AP A)) with e | e
                  · unfold al at ha0; rw [e, Nat.mul_zero] at ha0; omega
                  · exact e
                have hdm : v1 / al (AP A) ^ (0 + 1 - 1 - w) % al (AP A) < al (AP A) := Nat.mod_lt _ ha0
                refine wq_go rfl (fun _ => rfl) ?_
                refine wq_cN (m := 10) rfl rfl ?_
                refine wq_go rfl (fun _ => rfl) ?_
                refine wq_go rfl (fun _ => rfl) ?_
                refine wq_getf rfl (by first | rfl | assumption) (by first | decide | omega | assumption) (md_o M1a) rfl ?_
                refine wq_go rfl (fun _ => rfl) ?_
                refine wq_getf rfl (by first | rfl | assumption) (by first | decide | omega | assumption) (md_o M1a) rfl ?_
                refine wq_top (md_l M1a) ?_
                refine wq_iald rfl (by first | rfl | assumption) (by first | decide | omega | assumption) (md_c297 M1a) rfl (by omega) (by first | decide | omega) ?_
                refine wq_top (md_m297 M1a) ?_
                refine wq_divN rfl (by first | decide | omega) (by first | decide | omega) (by first | decide | omega) ?_
                refine wq_mulN rfl ?_
                refine wq_go rfl (fun _ => rfl) ?_
                refine wq_go rfl (fun _ => rfl) ?_
                refine wq_getf rfl (by first | rfl | assumption) (by first | decide | omega | assumption) (md_o M1a) rfl ?_
                refine wq_go rfl (fun _ => rfl) ?_
                refine wq_getf rfl (by first | rfl | assumption) (by first | decide | omega | assumption) (md_o M1a) rfl ?_
                refine wq_top (md_l M1a) ?_
                refine wq_iald rfl (by first | rfl | assumption) (by first | decide | omega | assumption) (md_c297 M1a) rfl (by omega) (by first | decide | omega) ?_
                refine wq_top (md_m297 M1a) ?_
                refine wq_remN rfl (by first | decide | omega) (by first | decide | omega) (by first | decide | omega) ?_
                refine wq_addN rfl ?_
                refine wq_iret rfl ?_
                exact ansQ (K _ (lo_R (fr_trans (fr_trans (fr_refl xR σ) F0b) F1a)) (mi_k hMR hMT (fr_trans (fr_trans (fr_refl xR σ) F0b) F1a) (fg_trans (fg_trans (fg_refl yC g) G0b) G1a) M1a)) (by simp only [F_sittings, eh, et, ew, od_s, od_n, od_c, if_neg hm1, hfi, hfl, hln] <;> first | rfl | (rw [if_neg (by decide)]; first | (rw [if_neg (by omega)]; done) | (rw [if_pos (by omega)]; exact congrArg nI (hlg w (by omega)).symm)))
              · skip
                refine wq_go rfl (fun _ => rfl) ?_
                refine wq_iret rfl ?_
                exact ansQ (K _ (lo_R (fr_trans (fr_trans (fr_refl xR σ) F0b) F1a)) (mi_k hMR hMT (fr_trans (fr_trans (fr_refl xR σ) F0b) F1a) (fg_trans (fg_trans (fg_refl yC g) G0b) G1a) M1a)) (by simp only [F_sittings, eh, et, ew, od_s, od_n, od_c, if_neg hm1, hfi, hfl, hln] <;> first | rfl | (rw [if_neg (by decide)]; first | (rw [if_neg (by omega)]; done) | (rw [if_pos (by omega)]; exact congrArg nI (hlg w (by omega)).symm)))
            · skip
              refine wq_incN rfl rfl rfl ?_
              refine wq_go rfl (fun _ => rfl) ?_
              refine wq_go rfl (fun _ => rfl) ?_
              refine wq_cN (m := 3) rfl rfl ?_
              refine wq_cgt rfl (by first | omega | decide | exact Nat.lt_of_le_of_lt Nat.and_le_right (by decide) | exact ⟨by omega, by omega⟩) (by first | omega | decide | exact Nat.lt_of_le_of_lt Nat.and_le_right (by decide) | exact ⟨by omega, by omega⟩) (fun c => absurd c (by omega)) (fun c18 => ?_)
              refine wq_cN (m := 0) rfl rfl ?_
              refine wq_go rfl (fun _ => rfl) ?_
              refine wq_lv ⟨(by decide : ([5, 4, 0, 1, 2, 3] : List Nat).Nodup), (lvm (List.mem_of_getElem? (i := 0) rfl) (lvm (List.mem_of_getElem? (i := 1) rfl) (lvm (List.mem_of_getElem? (i := 2) rfl) (lvm (List.mem_of_getElem? (i := 3) rfl) (lvm (List.mem_of_getElem? (i := 4) rfl) (lvm (List.mem_of_getElem? (i := 5) rfl) lvn))))))⟩ (m_sit_i (σ := _) (g := _) (L := L) hL2 hPok hok (n := _) lh lt (by omega) (fun σ2a g2a v2 F2a G2a M2a N2a w2a w2b w2c => ?_) (fun σ2b g2b F2b G2b M2b N2b k2 => ?_) _ 0 (Nat.add_zero _) _ _ (fr_refl _ _) (fg_refl _ _) M1b N1b (fun v hv => absurd hv (by omega)))
              · skip
                obtain ⟨hfi, hfl⟩ := few_way hPok hok lh lt (n := 2) (by decide) (fun j hj => by
                  rcases (show j = 0 ∨ j = 1 by omega) with rfl | rfl
                  · exact k0
                  · exact k1) w2a w2b w2c
                have hln := wL_len (AP A) 2 v2
                have hva : v2 < al (AP A) ^ 2 := w2a
                have hab := al_le hPok
                have hlg := fun i hi => wL_get (AP A) 2 v2 i hi w2a
                refine wq_go rfl (fun _ => rfl) ?_
                refine wq_go rfl (fun _ => rfl) ?_
                refine wq_dne rfl (nI_z _) (show (_ : Int32) = zI (-1) from by decide) (by first | omega | decide | exact Nat.lt_of_le_of_lt Nat.and_le_right (by decide) | exact ⟨by omega, by omega⟩) (by first | omega | decide | exact Nat.lt_of_le_of_lt Nat.and_le_right (by decide) | exact ⟨by omega, by omega⟩) (fun c37 => ?_) (fun c => absurd (show _ from by omega) c)
                refine wq_go rfl (fun _ => rfl) ?_
                refine wq_go rfl (fun _ => rfl) ?_
                refine wq_clt rfl (by first | omega | decide | exact Nat.lt_of_le_of_lt Nat.and_le_right (by decide) | exact ⟨by omega, by omega⟩) (by first | omega | decide | exact Nat.lt_of_le_of_lt Nat.and_le_right (by decide) | exact ⟨by omega, by omega⟩) (fun c42 => ?_) (fun c42 => ?_)
                · skip
                  refine wq_go rfl (fun _ => rfl) ?_
                  refine wq_go rfl (fun _ => rfl) ?_
                  refine wq_go rfl (fun _ => rfl) ?_
                  refine wq_go rfl (fun _ => rfl) ?_
                  refine wq_callV rfl rfl (by first | rfl | assumption) (by first | decide | omega | assumption) (Nat.le_of_ble_eq_true rfl) (Nat.le_of_ble_eq_true rfl) rfl rfl ?_
                  refine m_digitOf M2a (by omega) (by omega) hva ?_
                  have ha0 : 0 < al (AP A) := by
                    rcases Nat.eq_zero_or_pos (al (AP A)) with e | e
                    · rw [e, Nat.zero_pow (by omega)] at hva; omega
                    · exact e
                  have hC0 : 0 < Pch (AP A) := by
                    rcases Nat.eq_zero_or_pos (Pch (AP A)) with e | e
                    · unfold al at ha0; rw [e, Nat.mul_zero] at ha0; omega
                    · exact e
                  have hdm : v2 / al (AP A) ^ (0 + 1 + 1 - 1 - w) % al (AP A) < al (AP A) := Nat.mod_lt _ ha0
                  refine wq_go rfl (fun _ => rfl) ?_
                  refine wq_cN (m := 10) rfl rfl ?_
                  refine wq_go rfl (fun _ => rfl) ?_
                  refine wq_go rfl (fun _ => rfl) ?_
                  refine wq_getf rfl (by first | rfl | assumption) (by first | decide | omega | assumption) (md_o M2a) rfl ?_
                  refine wq_go rfl (fun _ => rfl) ?_
                  refine wq_getf rfl (by first | rfl | assumption) (by first | decide | omega | assumption) (md_o M2a) rfl ?_
                  refine wq_top (md_l M2a) ?_
                  refine wq_iald rfl (by first | rfl | assumption) (by first | decide | omega | assumption) (md_c297 M2a) rfl (by omega) (by first | decide | omega) ?_
                  refine wq_top (md_m297 M2a) ?_
                  refine wq_divN rfl (by first | decide | omega) (by first | decide | omega) (by first | decide | omega) ?_
                  refine wq_mulN rfl ?_
                  refine wq_go rfl (fun _ => rfl) ?_
                  refine wq_go rfl (fun _ => rfl) ?_
                  refine wq_getf rfl (by first | rfl | assumption) (by first | decide | omega | assumption) (md_o M2a) rfl ?_
                  refine wq_go rfl (fun _ => rfl) ?_
                  refine wq_getf rfl (by first | rfl | assumption) (by first | decide | omega | assumption) (md_o M2a) rfl ?_
                  refine wq_top (md_l M2a) ?_
                  refine wq_iald rfl (by first | rfl | assumption) (by first | decide | omega | assumption) (md_c297 M2a) rfl (by omega) (by first | decide | omega) ?_
                  refine wq_top (md_m297 M2a) ?_
                  refine wq_remN rfl (by first | decide | omega) (by first | decide | omega) (by first | decide | omega) ?_
                  refine wq_addN rfl ?_
                  refine wq_iret rfl ?_
                  exact ansQ (K _ (lo_R (fr_trans (fr_trans (fr_trans (fr_refl xR σ) F0b) F1b) F2a)) (mi_k hMR hMT (fr_trans (fr_trans (fr_trans (fr_refl xR σ) F0b) F1b) F2a) (fg_trans (fg_trans (fg_trans (fg_refl yC g) G0b) G1b) G2a) M2a)) (by simp only [F_sittings, eh, et, ew, od_s, od_n, od_c, if_neg hm1, hfi, hfl, hln] <;> first | rfl | (rw [if_neg (by decide)]; first | (rw [if_neg (by omega)]; done) | (rw [if_pos (by omega)]; exact congrArg nI (hlg w (by omega)).symm)))
                · skip
                  refine wq_go rfl (fun _ => rfl) ?_
                  refine wq_iret rfl ?_
                  exact ansQ (K _ (lo_R (fr_trans (fr_trans (fr_trans (fr_refl xR σ) F0b) F1b) F2a)) (mi_k hMR hMT (fr_trans (fr_trans (fr_trans (fr_refl xR σ) F0b) F1b) F2a) (fg_trans (fg_trans (fg_trans (fg_refl yC g) G0b) G1b) G2a) M2a)) (by simp only [F_sittings, eh, et, ew, od_s, od_n, od_c, if_neg hm1, hfi, hfl, hln] <;> first | rfl | (rw [if_neg (by decide)]; first | (rw [if_neg (by omega)]; done) | (rw [if_pos (by omega)]; exact congrArg nI (hlg w (by omega)).symm)))
              · skip
                refine wq_incN rfl rfl rfl ?_
                refine wq_go rfl (fun _ => rfl) ?_
                refine wq_go rfl (fun _ => rfl) ?_
                refine wq_cN (m := 3) rfl rfl ?_
                refine wq_cgt rfl (by first | omega | decide | exact Nat.lt_of_le_of_lt Nat.and_le_right (by decide) | exact ⟨by omega, by omega⟩) (by first | omega | decide | exact Nat.lt_of_le_of_lt Nat.and_le_right (by decide) | exact ⟨by omega, by omega⟩) (fun c => absurd c (by omega)) (fun c18 => ?_)
                refine wq_cN (m := 0) rfl rfl ?_
                refine wq_go rfl (fun _ => rfl) ?_
                refine wq_lv ⟨(by decide : ([5, 4, 0, 1, 2, 3] : List Nat).Nodup), (lvm (List.mem_of_getElem? (i := 0) rfl) (lvm (List.mem_of_getElem? (i := 1) rfl) (lvm (List.mem_of_getElem? (i := 2) rfl) (lvm (List.mem_of_getElem? (i := 3) rfl) (lvm (List.mem_of_getElem? (i := 4) rfl) (lvm (List.mem_of_getElem? (i := 5) rfl) lvn))))))⟩ (m_sit_i (σ := _) (g := _) (L := L) hL2 hPok hok (n := _) lh lt (by omega) (fun σ3a g3a v3 F3a G3a M3a N3a w3a w3b w3c => ?_) (fun σ3b g3b F3b G3b M3b N3b k3 => ?_) _ 0 (Nat.add_zero _) _ _ (fr_refl _ _) (fg_refl _ _) M2b N2b (fun v hv => absurd hv (by omega)))
                · skip
                  obtain ⟨hfi, hfl⟩ := few_way hPok hok lh lt (n := 3) (by decide) (fun j hj => by
                    rcases (show j = 0 ∨ j = 1 ∨ j = 2 by omega) with rfl | rfl | rfl
                    · exact k0
                    · exact k1
                    · exact k2) w3a w3b w3c
                  have hln := wL_len (AP A) 3 v3
                  have hva : v3 < al (AP A) ^ 3 := w3a
                  have hab := al_le hPok
                  have hlg := fun i hi => wL_get (AP A) 3 v3 i hi w3a
                  refine wq_go rfl (fun _ => rfl) ?_
                  refine wq_go rfl (fun _ => rfl) ?_
                  refine wq_dne rfl (nI_z _) (show (_ : Int32) = zI (-1) from by decide) (by first | omega | decide | exact Nat.lt_of_le_of_lt Nat.and_le_right (by decide) | exact ⟨by omega, by omega⟩) (by first | omega | decide | exact Nat.lt_of_le_of_lt Nat.and_le_right (by decide) | exact ⟨by omega, by omega⟩) (fun c37 => ?_) (fun c => absurd (show _ from by omega) c)
                  refine wq_go rfl (fun _ => rfl) ?_
                  refine wq_go rfl (fun _ => rfl) ?_
                  refine wq_clt rfl (by first | omega | decide | exact Nat.lt_of_le_of_lt Nat.and_le_right (by decide) | exact ⟨by omega, by omega⟩) (by first | omega | decide | exact Nat.lt_of_le_of_lt Nat.and_le_right (by decide) | exact ⟨by omega, by omega⟩) (fun c42 => ?_) (fun c42 => ?_)
                  · skip
                    refine wq_go rfl (fun _ => rfl) ?_
                    refine wq_go rfl (fun _ => rfl) ?_
                    refine wq_go rfl (fun _ => rfl) ?_
                    refine wq_go rfl (fun _ => rfl) ?_
                    refine wq_callV rfl rfl (by first | rfl | assumption) (by first | decide | omega | assumption) (Nat.le_of_ble_eq_true rfl) (Nat.le_of_ble_eq_true rfl) rfl rfl ?_
                    refine m_digitOf M3a (by omega) (by omega) hva ?_
                    have ha0 : 0 < al (AP A) := by
                      rcases Nat.eq_zero_or_pos (al (AP A)) with e | e
                      · rw [e, Nat.zero_pow (by omega)] at hva; omega
                      · exact e
                    have hC0 : 0 < Pch (AP A) := by
                      rcases Nat.eq_zero_or_pos (Pch (AP A)) with e | e
                      · unfold al at ha0; rw [e, Nat.mul_zero] at ha0; omega
                      · exact e
                    have hdm : v3 / al (AP A) ^ (0 + 1 + 1 + 1 - 1 - w) % al (AP A) < al (AP A) := Nat.mod_lt _ ha0
                    refine wq_go rfl (fun _ => rfl) ?_
                    refine wq_cN (m := 10) rfl rfl ?_
                    refine wq_go rfl (fun _ => rfl) ?_
                    refine wq_go rfl (fun _ => rfl) ?_
                    refine wq_getf rfl (by first | rfl | assumption) (by first | decide | omega | assumption) (md_o M3a) rfl ?_
                    refine wq_go rfl (fun _ => rfl) ?_
                    refine wq_getf rfl (by first | rfl | assumption) (by first | decide | omega | assumption) (md_o M3a) rfl ?_
                    refine wq_top (md_l M3a) ?_
                    refine wq_iald rfl (by first | rfl | assumption) (by first | decide | omega | assumption) (md_c297 M3a) rfl (by omega) (by first | decide | omega) ?_
                    refine wq_top (md_m297 M3a) ?_
                    refine wq_divN rfl (by first | decide | omega) (by first | decide | omega) (by first | decide | omega) ?_
                    refine wq_mulN rfl ?_
                    refine wq_go rfl (fun _ => rfl) ?_
                    refine wq_go rfl (fun _ => rfl) ?_
                    refine wq_getf rfl (by first | rfl | assumption) (by first | decide | omega | assumption) (md_o M3a) rfl ?_
                    refine wq_go rfl (fun _ => rfl) ?_
                    refine wq_getf rfl (by first | rfl | assumption) (by first | decide | omega | assumption) (md_o M3a) rfl ?_
                    refine wq_top (md_l M3a) ?_
                    refine wq_iald rfl (by first | rfl | assumption) (by first | decide | omega | assumption) (md_c297 M3a) rfl (by omega) (by first | decide | omega) ?_
                    refine wq_top (md_m297 M3a) ?_
                    refine wq_remN rfl (by first | decide | omega) (by first | decide | omega) (by first | decide | omega) ?_
                    refine wq_addN rfl ?_
                    refine wq_iret rfl ?_
                    exact ansQ (K _ (lo_R (fr_trans (fr_trans (fr_trans (fr_trans (fr_refl xR σ) F0b) F1b) F2b) F3a)) (mi_k hMR hMT (fr_trans (fr_trans (fr_trans (fr_trans (fr_refl xR σ) F0b) F1b) F2b) F3a) (fg_trans (fg_trans (fg_trans (fg_trans (fg_refl yC g) G0b) G1b) G2b) G3a) M3a)) (by simp only [F_sittings, eh, et, ew, od_s, od_n, od_c, if_neg hm1, hfi, hfl, hln] <;> first | rfl | (rw [if_neg (by decide)]; first | (rw [if_neg (by omega)]; done) | (rw [if_pos (by omega)]; exact congrArg nI (hlg w (by omega)).symm)))
                  · skip
                    refine wq_go rfl (fun _ => rfl) ?_
                    refine wq_iret rfl ?_
                    exact ansQ (K _ (lo_R (fr_trans (fr_trans (fr_trans (fr_trans (fr_refl xR σ) F0b) F1b) F2b) F3a)) (mi_k hMR hMT (fr_trans (fr_trans (fr_trans (fr_trans (fr_refl xR σ) F0b) F1b) F2b) F3a) (fg_trans (fg_trans (fg_trans (fg_trans (fg_refl yC g) G0b) G1b) G2b) G3a) M3a)) (by simp only [F_sittings, eh, et, ew, od_s, od_n, od_c, if_neg hm1, hfi, hfl, hln] <;> first | rfl | (rw [if_neg (by decide)]; first | (rw [if_neg (by omega)]; done) | (rw [if_pos (by omega)]; exact congrArg nI (hlg w (by omega)).symm)))
                · skip
                  refine wq_incN rfl rfl rfl ?_
                  refine wq_go rfl (fun _ => rfl) ?_
                  refine wq_go rfl (fun _ => rfl) ?_
                  refine wq_cN (m := 3) rfl rfl ?_
                  refine wq_cgt rfl (by first | omega | decide | exact Nat.lt_of_le_of_lt Nat.and_le_right (by decide) | exact ⟨by omega, by omega⟩) (by first | omega | decide | exact Nat.lt_of_le_of_lt Nat.and_le_right (by decide) | exact ⟨by omega, by omega⟩) (fun c18 => ?_) (fun c => absurd (show _ from by omega) c)
                  have hfn := few_none hPok hok lh lt (fun j hj => by
                    rcases (show j = 0 ∨ j = 1 ∨ j = 2 ∨ j = 3 by omega) with rfl | rfl | rfl | rfl
                    · exact k0
                    · exact k1
                    · exact k2
                    · exact k3)
                  refine wq_go rfl (fun _ => rfl) ?_
                  refine wq_iret rfl ?_
                  exact ansQ (K _ (lo_R (fr_trans (fr_trans (fr_trans (fr_trans (fr_refl xR σ) F0b) F1b) F2b) F3b)) (mi_k hMR hMT (fr_trans (fr_trans (fr_trans (fr_trans (fr_refl xR σ) F0b) F1b) F2b) F3b) (fg_trans (fg_trans (fg_trans (fg_trans (fg_refl yC g) G0b) G1b) G2b) G3b) M3b)) (by simp only [F_sittings, eh, et, ew, od_s, od_n, od_c, if_neg hm1, hfn] <;> rfl)
        · have ew : dec 3 (zI p) = none := by rw [dec_zI (by decide) hp, if_neg (by omega)]
          refine wq_zne rfl (by first | omega | decide | exact Nat.lt_of_le_of_lt Nat.and_le_right (by decide) | exact ⟨by omega, by omega⟩) (fun c => absurd c (by omega)) (fun c11 => ?_)
          refine wq_go rfl (fun _ => rfl) ?_
          refine wq_iret rfl ?_
          exact ansQ (K _ (lo_R (fr_refl xR σ)) (mi_k hMR hMT (fr_refl xR σ) (fg_refl yC g) hM)) (by simp only [F_sittings, eh, et, ew, od_s, od_n, od_c, if_neg hm1] <;> rfl)
    · skip
      refine wq_zeq rfl (by first | omega | decide | exact Nat.lt_of_le_of_lt Nat.and_le_right (by decide) | exact ⟨by omega, by omega⟩) (fun c6 => ?_) (fun c => absurd (show _ from by omega) c)
      refine wq_go rfl (fun _ => rfl) ?_
      refine wq_iret rfl ?_
      exact ansQ (K _ (lo_R (fr_refl xR σ)) (mi_k hMR hMT (fr_refl xR σ) (fg_refl yC g) hM)) (by simp only [F_sittings, eh, et, od_s, od_n, od_c] <;> rfl)
  · skip
    refine wq_zeq rfl (by first | omega | decide | exact Nat.lt_of_le_of_lt Nat.and_le_right (by decide) | exact ⟨by omega, by omega⟩) (fun c3 => ?_) (fun c => absurd (show _ from by omega) c)
    refine wq_go rfl (fun _ => rfl) ?_
    refine wq_iret rfl ?_
    exact ansQ (K _ (lo_R (fr_refl xR σ)) (mi_k hMR hMT (fr_refl xR σ) (fg_refl yC g) hM)) (by simp only [F_sittings, eh, od_s, od_n, od_c] <;> rfl)
