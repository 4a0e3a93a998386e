/-! THE MATHEMATICS OF IT -/
abbrev KCode : Type := List (Nat × Nat)
abbrev KLaw : Type := List (KCode × KCode × KCode) × KCode
def sumF (f : Nat → Nat) : Nat → Nat
  | 0 => 0
  | n + 1 => sumF f n + f n
def bset (f : Nat → Bool) : Nat → Nat
  | 0 => 0
  | n + 1 => if f n = true then bset f n ||| 2 ^ n else bset f n
theorem bset_lt (f : Nat → Bool) : ∀ n, bset f n < 2 ^ n
  | 0 => by simp [bset]
  | n + 1 => by
    have h := bset_lt f n
    have h2 : 2 ^ n < 2 ^ (n + 1) := Nat.pow_lt_pow_right (by decide) (by omega)
    unfold bset
    split
    · exact Nat.or_lt_two_pow (by omega) h2
    · omega
theorem bset_bit (f : Nat → Bool) (j : Nat) : ∀ n, (bset f n).testBit j = (decide (j < n) && f j)
  | 0 => by simp [bset]
  | n + 1 => by
    have h := bset_bit f j n
    unfold bset
    by_cases hj : j = n
    · subst hj
      split
      · next e => simp [h, Nat.testBit_or, Nat.testBit_two_pow_self, e]
      · next e => simp [h, e]
    · have h3 : decide (j < n + 1) = decide (j < n) := decide_eq_decide.mpr (by omega)
      rw [h3]
      split
      · rw [Nat.testBit_or, h, Nat.testBit_two_pow_of_ne (fun e => hj e.symm)]
        simp
      · exact h
theorem bset_congr {f g : Nat → Bool} : ∀ n, (∀ j, j < n → f j = g j) → bset f n = bset g n
  | 0, _ => rfl
  | n + 1, h => by
    unfold bset
    rw [bset_congr n (fun j hj => h j (by omega)), h n (by omega)]
theorem sumF_congr {f g : Nat → Nat} : ∀ n, (∀ j, j < n → f j = g j) → sumF f n = sumF g n
  | 0, _ => rfl
  | n + 1, h => by
    unfold sumF
    rw [sumF_congr n (fun j hj => h j (by omega)), h n (by omega)]
theorem sumF_le (f : Nat → Nat) : ∀ (n j : Nat), j < n → f j ≤ sumF f n
  | 0, _, h => by omega
  | n + 1, j, h => by
    unfold sumF
    by_cases e : j = n
    · subst e
      omega
    · have := sumF_le f n j (by omega)
      omega
theorem sumF_upd (f : Nat → Nat) (k x : Nat) : ∀ n, k < n → sumF (updN f k x) n + f k = sumF f n + x
  | 0, h => by omega
  | n + 1, h => by
    unfold sumF
    by_cases e : k = n
    · subst e
      rw [sumF_congr (g := f) k (fun j hj => updN_ne f x (by omega)), updN_same]
      omega
    · have := sumF_upd f k x n (by omega)
      rw [updN_ne f x (by omega)]
      omega
def opv (k : Nat) (a b : Int32) : Int32 := if k = 2 then a + b else if k = 3 then a - b else if k = 4 then a * b else a / b
def evc (vs : Nat → Int32) : KCode → List Int32 → Option (List Int32)
  | [], s => some s
  | (k, v) :: c, s => if k = 0 then evc vs c (nI v :: s) else if k = 1 then evc vs c (vs v :: s) else match s with
    | b :: a :: s' => if k = 5 ∧ b = 0 then none else evc vs c (opv k a b :: s')
    | _ => none
def evt (vs : Nat → Int32) (c : KCode) : Option Int32 := match evc vs c [] with
  | some [x] => some x
  | _ => none
def evl (vs : Nat → Int32) : List (KCode × KCode × KCode) → KCode → Int32
  | [], z => (evt vs z).getD 0
  | (a, b, t) :: r, z => match evt vs a with
    | some u => match evt vs b with
      | some v => if u < v then (evt vs t).getD 0 else evl vs r z
      | none => 0
    | none => 0
def cpN (x : Int32) (m : Nat) : Nat := if x < 0 then 0 else if nI m < x then m else x.toNatClampNeg
theorem cpN_le {x : Int32} {m : Nat} (hm : m < 2 ^ 31) : cpN x m ≤ m := by
  unfold cpN
  split
  · omega
  · next h0 =>
    split
    · omega
    · next h =>
      obtain ⟨j, hj, e⟩ := nI_of h0
      subst e
      rw [nI_clamp hj]
      rcases Nat.lt_or_ge m j with h2 | h2
      · exact absurd (nI_lt h2 hj) h
      · exact h2
theorem cpN_nI (x : Int32) (m : Nat) : nI (cpN x m) = if x < 0 then 0 else if nI m < x then nI m else x := by
  unfold cpN
  split
  · rfl
  · next h0 =>
    split
    · rfl
    · obtain ⟨j, hj, e⟩ := nI_of h0
      subst e
      rw [nI_clamp hj]
/-- what a law tells, held between nothing and m -/
def tv (L : KLaw) (V : Nat → Nat) (m : Nat) : Nat := cpN (evl (fun j => nI (V j)) L.1 L.2) m
def wfc : KCode → Nat → Nat → Bool
  | [], d, e => d == e
  | (k, v) :: c, d, e => if k < 2 then v < 10000 && (k == 0 || v < 9) && d < 16 && wfc c (d + 1) e else k < 6 && v < 10000 && 2 ≤ d && wfc c (d - 1) e
def wfl : List (KCode × KCode × KCode) → KCode → Bool
  | [], z => wfc z 0 1
  | (a, b, t) :: r, z => wfc a 0 1 && wfc b 0 1 && wfc t 0 1 && wfl r z
theorem evc_len (vs : Nat → Int32) : ∀ (c : KCode) (d e : Nat) (s s' : List Int32), wfc c d e = true → s.length = d → evc vs c s = some s' → s'.length = e
  | [], d, e, s, s', h, hs, he => by
    simp only [wfc, beq_iff_eq] at h
    simp only [evc, Option.some.injEq] at he
    rw [← he]
    omega
  | (k, v) :: c, d, e, s, s', h, hs, he => by
    unfold wfc at h
    unfold evc at he
    by_cases h2 : k < 2
    · rw [if_pos h2] at h
      simp only [Bool.and_eq_true] at h
      by_cases h0 : k = 0
      · rw [if_pos h0] at he
        exact evc_len vs c (d + 1) e _ s' h.2 (by simp [hs]) he
      · rw [if_neg h0, if_pos (show k = 1 by omega)] at he
        exact evc_len vs c (d + 1) e _ s' h.2 (by simp [hs]) he
    · rw [if_neg h2] at h
      simp only [Bool.and_eq_true, decide_eq_true_eq] at h
      rw [if_neg (by omega), if_neg (by omega)] at he
      match s, hs, he with
      | b :: a :: s2, hs, he =>
        simp only at he
        split at he
        · cases he
        · simp only [List.length_cons] at hs
          exact evc_len vs c (d - 1) e _ s' h.2 (by simp only [List.length_cons]; omega) he
      | [], hs, he => cases he
      | [_], hs, he => cases he
theorem evc_app (vs : Nat → Int32) (z : List Int32) : ∀ (c : KCode) (d e : Nat) (s : List Int32), wfc c d e = true → s.length = d → evc vs c (s ++ z) = (evc vs c s).map (· ++ z)
  | [], d, e, s, h, hs => rfl
  | (k, v) :: c, d, e, s, h, hs => by
    unfold wfc at h
    unfold evc
    by_cases h2 : k < 2
    · rw [if_pos h2] at h
      simp only [Bool.and_eq_true] at h
      by_cases h0 : k = 0
      · rw [if_pos h0, if_pos h0]
        exact evc_app vs z c (d + 1) e (nI v :: s) h.2 (by simp [hs])
      · rw [if_neg h0, if_pos (show k = 1 by omega), if_neg h0, if_pos (show k = 1 by omega)]
        exact evc_app vs z c (d + 1) e (vs v :: s) h.2 (by simp [hs])
    · rw [if_neg h2] at h
      simp only [Bool.and_eq_true, decide_eq_true_eq] at h
      rw [if_neg (by omega), if_neg (by omega), if_neg (by omega), if_neg (by omega)]
      match s, hs with
      | b :: a :: s2, hs =>
        simp only [List.cons_append]
        split
        · rfl
        · simp only [List.length_cons] at hs
          exact evc_app vs z c (d - 1) e (opv k a b :: s2) h.2 (by simp only [List.length_cons]; omega)
      | [], hs => simp only [List.length_nil] at hs; omega
      | [_], hs => simp only [List.length_cons, List.length_nil] at hs; omega
theorem evt_some (vs : Nat → Int32) {c : KCode} (h : wfc c 0 1 = true) (z : List Int32) : evc vs c z = (evt vs c).map (· :: z) := by
  have h1 := evc_app vs z c 0 1 [] h rfl
  have h2 := fun s' => evc_len vs c 0 1 [] s' h rfl
  unfold evt
  rw [List.nil_append] at h1
  rw [h1]
  cases he : evc vs c [] with
  | none => rfl
  | some s =>
    have := h2 s he
    match s, this with
    | [x], _ => rfl
/-! THE PLAN -/
/-- scalars (chairs, heads, visits, monday, says, moth, seed), mesh, oil, own, who, chair, hour of visits, laws -/
abbrev Pl : Type := (Nat → Nat) × (Nat → Nat) × (Nat → Nat) × (Nat → Nat) × (Nat → Nat) × (Nat → Nat) × (Nat → Nat) × (Nat → KLaw)
def Pch (P : Pl) : Nat := P.1 0
def Phd (P : Pl) : Nat := P.1 1
def Pvs (P : Pl) : Nat := P.1 2
def Pmo (P : Pl) : Nat := P.1 3
def Psa (P : Pl) : Nat := P.1 4
def Pmt (P : Pl) : Nat := P.1 5
def Psd (P : Pl) : Nat := P.1 6
def Pme (P : Pl) : Nat → Nat := P.2.1
def Poi (P : Pl) : Nat → Nat := P.2.2.1
def Pow (P : Pl) : Nat → Nat := P.2.2.2.1
def Pvh (P : Pl) : Nat → Nat := P.2.2.2.2.1
def Pvc (P : Pl) : Nat → Nat := P.2.2.2.2.2.1
def Pvt (P : Pl) : Nat → Nat := P.2.2.2.2.2.2.1
def Plw (P : Pl) : Nat → KLaw := P.2.2.2.2.2.2.2
def Pok (P : Pl) : Prop := Pch P ≤ 4 ∧ Phd P ≤ 5 ∧ Pvs P ≤ 10 ∧ Pmo P ≤ 30 ∧ 1 ≤ Psa P ∧ Psa P ≤ 999 ∧ Pmt P ≤ 100 ∧ Psd P ≤ 9999 ∧ (∀ i, i < Pvs P → Pvh P i < Phd P ∧ Pvc P i < Pch P ∧ Pvt P i < 24) ∧ (∀ i, i < Pch P → Pme P i ≤ 9) ∧ (∀ i, i < Phd P → Poi P i ≤ 9) ∧ (∀ i, i < Phd P * 4 → Pow P i ≤ 99) ∧ (∀ l, l < 4 → wfl (Plw P l).1 (Plw P l).2 = true)
/-! FRAMES -/
def Fr (X : Nat → Bool) (σ σ' : Nat → List Value) : Prop := ∀ j, X j = false → σ' j = σ j
theorem fr_refl (X : Nat → Bool) (σ : Nat → List Value) : Fr X σ σ := fun _ _ => rfl
theorem fr_up {X : Nat → Bool} {σ σ' : Nat → List Value} {k : Nat} {vs : List Value} (h : Fr X σ σ') (hk : X k = true) : Fr X σ (up σ' k vs) := by
  intro j hj
  rw [up_ne _ _ (fun e => by subst e; rw [hk] at hj; cases hj)]
  exact h j hj
theorem fr_trans {X : Nat → Bool} {σ σ' σ'' : Nat → List Value} (h : Fr X σ σ') (h' : Fr X σ' σ'') : Fr X σ σ'' := fun j hj => (h' j hj).trans (h j hj)
theorem fr_mono {X Y : Nat → Bool} {σ σ' : Nat → List Value} (h : Fr X σ σ') (hXY : ∀ j, X j = true → Y j = true) : Fr Y σ σ' := by
  intro j hj
  apply h j
  cases hx : X j with
  | false => rfl
  | true => rw [hXY j hx] at hj; cases hj
def ag (σ : Nat → List Value) (p i : Nat) : Int32 := match (σ p)[i]? with
  | some (.int x) => x
  | _ => 0
theorem ag_arr {σ : Nat → List Value} {p n i : Nat} {f : Nat → Int32} (h : σ p = arr n f) (hi : i < n) : ag σ p i = f i := by
  unfold ag
  rw [h, arr_get f hi]
theorem ag_arrN {σ : Nat → List Value} {p n i : Nat} {f : Nat → Nat} (h : σ p = arrN n f) (hi : i < n) : ag σ p i = nI (f i) := ag_arr h hi
def IsA (σ : Nat → List Value) (p n : Nat) : Prop := σ p = arr n (ag σ p)
theorem isA_of {σ : Nat → List Value} {p n : Nat} {f : Nat → Int32} (h : σ p = arr n f) : IsA σ p n := by
  unfold IsA
  rw [h]
  apply arr_congr
  intro j hj
  exact (ag_arr h hj).symm
theorem isA_ofN {σ : Nat → List Value} {p n : Nat} {f : Nat → Nat} (h : σ p = arrN n f) : IsA σ p n := isA_of h
theorem isA_eq {σ σ' : Nat → List Value} {p n : Nat} (e : σ' p = σ p) (h : IsA σ p n) : IsA σ' p n := by
  unfold IsA at h
  exact isA_of (e.trans h)
theorem ag_eq {σ σ' : Nat → List Value} {p : Nat} (e : σ' p = σ p) (i : Nat) : ag σ' p i = ag σ p i := by
  unfold ag
  rw [e]
theorem ag_fun {σ σ' : Nat → List Value} {p : Nat} (e : σ' p = σ p) : ag σ' p = ag σ p := funext (ag_eq e)
/-! THE CLASS'S WORLD -/
def codeAt (g : Nat → Int32) : Nat → KCode → Prop
  | _, [] => True
  | p, (k, v) :: c => g p = nI (8 * v + k) ∧ codeAt g (p + 1) c
def lawAt (g : Nat → Int32) : Nat → List (KCode × KCode × KCode) → KCode → Prop
  | p, [], z => codeAt g p (z ++ [(7, 0)]) ∧ p + z.length + 1 ≤ 408
  | p, (a, b, t) :: r, z => codeAt g p (a ++ (b ++ ((6, p + a.length + b.length + t.length + 2) :: (t ++ [(7, 0)])))) ∧ lawAt g (p + a.length + b.length + t.length + 2) r z
def CW (P : Pl) (σ : Nat → List Value) : Prop := (σ 0 = [.ref 1, .ref 3, .ref 21, .ref 30, .ref 35, .ref 40, .ref 63, .ref 68, .ref 270]) ∧ (σ 21 = [.ref 22, .ref 23, .ref 24, .ref 25, .ref 26, .ref 27, .ref 28, .ref 29, (σ 21).getD 8 .null, .int (nI (Pch P)), .int (nI (Phd P)), .int (nI (Pvs P)), .int (nI (Pmo P)), .int (nI (Psa P)), .int (nI (Pmt P)), .int (nI (Psd P))]) ∧ (IsA σ 22 4) ∧ (∀ i, i < Pch P → ag σ 22 i = nI (Pme P i)) ∧ (IsA σ 23 5) ∧ (∀ i, i < Phd P → ag σ 23 i = nI (Poi P i)) ∧ (IsA σ 24 20) ∧ (∀ i, i < Phd P * 4 → ag σ 24 i = nI (Pow P i)) ∧ (IsA σ 25 10) ∧ (∀ i, i < Pvs P → ag σ 25 i = nI (Pvh P i)) ∧ (IsA σ 26 10) ∧ (∀ i, i < Pvs P → ag σ 26 i = nI (Pvc P i)) ∧ (IsA σ 27 10) ∧ (∀ i, i < Pvs P → ag σ 27 i = nI (Pvt P i)) ∧ (IsA σ 28 408) ∧ (IsA σ 29 4) ∧ (∀ l, l < 4 → ∃ s, ag σ 29 l = nI s ∧ lawAt (ag σ 28) s (Plw P l).1 (Plw P l).2) ∧ (σ 30 = [.ref 21, .ref 32, .ref 31]) ∧ (σ 32 = [.ref 21, .ref 33, .ref 34]) ∧ (σ 40 = [.ref 21, .ref 30, .ref 35, .ref 41, .ref 46, .ref 47]) ∧ (σ 46 = [.ref 48, .ref 53, .ref 58]) ∧ (Pok P) ∧ (IsA σ 31 4) ∧ (IsA σ 33 32) ∧ (IsA σ 34 9) ∧ (IsA σ 47 3)
theorem cw_c0 {P : Pl} {σ : Nat → List Value} (h : CW P σ) : σ 0 = [.ref 1, .ref 3, .ref 21, .ref 30, .ref 35, .ref 40, .ref 63, .ref 68, .ref 270] := h.1
theorem cw_c21 {P : Pl} {σ : Nat → List Value} (h : CW P σ) : σ 21 = [.ref 22, .ref 23, .ref 24, .ref 25, .ref 26, .ref 27, .ref 28, .ref 29, (σ 21).getD 8 .null, .int (nI (Pch P)), .int (nI (Phd P)), .int (nI (Pvs P)), .int (nI (Pmo P)), .int (nI (Psa P)), .int (nI (Pmt P)), .int (nI (Psd P))] := h.2.1
theorem cw_c22 {P : Pl} {σ : Nat → List Value} (h : CW P σ) : IsA σ 22 4 := h.2.2.1
theorem cw_m22 {P : Pl} {σ : Nat → List Value} (h : CW P σ) : ∀ i, i < Pch P → ag σ 22 i = nI (Pme P i) := h.2.2.2.1
theorem cw_c23 {P : Pl} {σ : Nat → List Value} (h : CW P σ) : IsA σ 23 5 := h.2.2.2.2.1
theorem cw_m23 {P : Pl} {σ : Nat → List Value} (h : CW P σ) : ∀ i, i < Phd P → ag σ 23 i = nI (Poi P i) := h.2.2.2.2.2.1
theorem cw_c24 {P : Pl} {σ : Nat → List Value} (h : CW P σ) : IsA σ 24 20 := h.2.2.2.2.2.2.1
theorem cw_m24 {P : Pl} {σ : Nat → List Value} (h : CW P σ) : ∀ i, i < Phd P * 4 → ag σ 24 i = nI (Pow P i) := h.2.2.2.2.2.2.2.1
theorem cw_c25 {P : Pl} {σ : Nat → List Value} (h : CW P σ) : IsA σ 25 10 := h.2.2.2.2.2.2.2.2.1
theorem cw_m25 {P : Pl} {σ : Nat → List Value} (h : CW P σ) : ∀ i, i < Pvs P → ag σ 25 i = nI (Pvh P i) := h.2.2.2.2.2.2.2.2.2.1
theorem cw_c26 {P : Pl} {σ : Nat → List Value} (h : CW P σ) : IsA σ 26 10 := h.2.2.2.2.2.2.2.2.2.2.1
theorem cw_m26 {P : Pl} {σ : Nat → List Value} (h : CW P σ) : ∀ i, i < Pvs P → ag σ 26 i = nI (Pvc P i) := h.2.2.2.2.2.2.2.2.2.2.2.1
theorem cw_c27 {P : Pl} {σ : Nat → List Value} (h : CW P σ) : IsA σ 27 10 := h.2.2.2.2.2.2.2.2.2.2.2.2.1
theorem cw_m27 {P : Pl} {σ : Nat → List Value} (h : CW P σ) : ∀ i, i < Pvs P → ag σ 27 i = nI (Pvt P i) := h.2.2.2.2.2.2.2.2.2.2.2.2.2.1
theorem cw_c28 {P : Pl} {σ : Nat → List Value} (h : CW P σ) : IsA σ 28 408 := h.2.2.2.2.2.2.2.2.2.2.2.2.2.2.1
theorem cw_c29 {P : Pl} {σ : Nat → List Value} (h : CW P σ) : IsA σ 29 4 := h.2.2.2.2.2.2.2.2.2.2.2.2.2.2.2.1
theorem cw_m29 {P : Pl} {σ : Nat → List Value} (h : CW P σ) : ∀ l, l < 4 → ∃ s, ag σ 29 l = nI s ∧ lawAt (ag σ 28) s (Plw P l).1 (Plw P l).2 := h.2.2.2.2.2.2.2.2.2.2.2.2.2.2.2.2.1
theorem cw_c30 {P : Pl} {σ : Nat → List Value} (h : CW P σ) : σ 30 = [.ref 21, .ref 32, .ref 31] := h.2.2.2.2.2.2.2.2.2.2.2.2.2.2.2.2.2.1
theorem cw_c32 {P : Pl} {σ : Nat → List Value} (h : CW P σ) : σ 32 = [.ref 21, .ref 33, .ref 34] := h.2.2.2.2.2.2.2.2.2.2.2.2.2.2.2.2.2.2.1
theorem cw_c40 {P : Pl} {σ : Nat → List Value} (h : CW P σ) : σ 40 = [.ref 21, .ref 30, .ref 35, .ref 41, .ref 46, .ref 47] := h.2.2.2.2.2.2.2.2.2.2.2.2.2.2.2.2.2.2.2.1
theorem cw_c46 {P : Pl} {σ : Nat → List Value} (h : CW P σ) : σ 46 = [.ref 48, .ref 53, .ref 58] := h.2.2.2.2.2.2.2.2.2.2.2.2.2.2.2.2.2.2.2.2.1
theorem cw_pok {P : Pl} {σ : Nat → List Value} (h : CW P σ) : Pok P := h.2.2.2.2.2.2.2.2.2.2.2.2.2.2.2.2.2.2.2.2.2.1
theorem cw_c31 {P : Pl} {σ : Nat → List Value} (h : CW P σ) : IsA σ 31 4 := h.2.2.2.2.2.2.2.2.2.2.2.2.2.2.2.2.2.2.2.2.2.2.1
theorem cw_c33 {P : Pl} {σ : Nat → List Value} (h : CW P σ) : IsA σ 33 32 := h.2.2.2.2.2.2.2.2.2.2.2.2.2.2.2.2.2.2.2.2.2.2.2.1
theorem cw_c34 {P : Pl} {σ : Nat → List Value} (h : CW P σ) : IsA σ 34 9 := h.2.2.2.2.2.2.2.2.2.2.2.2.2.2.2.2.2.2.2.2.2.2.2.2.1
theorem cw_c47 {P : Pl} {σ : Nat → List Value} (h : CW P σ) : IsA σ 47 3 := h.2.2.2.2.2.2.2.2.2.2.2.2.2.2.2.2.2.2.2.2.2.2.2.2.2
def cwl : List Nat := [0, 21, 22, 23, 24, 25, 26, 27, 28, 29, 30, 32, 40, 46]
theorem cw_fr {P : Pl} {σ σ' : Nat → List Value} {X : Nat → Bool} (h : CW P σ) (hF : Fr X σ σ') (hX : ∀ p ∈ cwl, X p = false) (h31 : IsA σ' 31 4) (h33 : IsA σ' 33 32) (h34 : IsA σ' 34 9) (h47 : IsA σ' 47 3) : CW P σ' := by
  have e0 : σ' 0 = σ 0 := hF 0 (hX 0 (by decide))
  have e21 : σ' 21 = σ 21 := hF 21 (hX 21 (by decide))
  have e22 : σ' 22 = σ 22 := hF 22 (hX 22 (by decide))
  have e23 : σ' 23 = σ 23 := hF 23 (hX 23 (by decide))
  have e24 : σ' 24 = σ 24 := hF 24 (hX 24 (by decide))
  have e25 : σ' 25 = σ 25 := hF 25 (hX 25 (by decide))
  have e26 : σ' 26 = σ 26 := hF 26 (hX 26 (by decide))
  have e27 : σ' 27 = σ 27 := hF 27 (hX 27 (by decide))
  have e28 : σ' 28 = σ 28 := hF 28 (hX 28 (by decide))
  have e29 : σ' 29 = σ 29 := hF 29 (hX 29 (by decide))
  have e30 : σ' 30 = σ 30 := hF 30 (hX 30 (by decide))
  have e32 : σ' 32 = σ 32 := hF 32 (hX 32 (by decide))
  have e40 : σ' 40 = σ 40 := hF 40 (hX 40 (by decide))
  have e46 : σ' 46 = σ 46 := hF 46 (hX 46 (by decide))
  exact ⟨by rw [e0]; exact cw_c0 h, by rw [e21]; exact cw_c21 h, isA_eq e22 (cw_c22 h), by rw [ag_fun e22]; exact cw_m22 h, isA_eq e23 (cw_c23 h), by rw [ag_fun e23]; exact cw_m23 h, isA_eq e24 (cw_c24 h), by rw [ag_fun e24]; exact cw_m24 h, isA_eq e25 (cw_c25 h), by rw [ag_fun e25]; exact cw_m25 h, isA_eq e26 (cw_c26 h), by rw [ag_fun e26]; exact cw_m26 h, isA_eq e27 (cw_c27 h), by rw [ag_fun e27]; exact cw_m27 h, isA_eq e28 (cw_c28 h), isA_eq e29 (cw_c29 h), by rw [ag_fun e28, ag_fun e29]; exact cw_m29 h, by rw [e30]; exact cw_c30 h, by rw [e32]; exact cw_c32 h, by rw [e40]; exact cw_c40 h, by rw [e46]; exact cw_c46 h, cw_pok h, h31, h33, h34, h47⟩
def x33 : Nat → Bool := fun j => j == 33
def x34 : Nat → Bool := fun j => j == 34
def xsc : Nat → Bool := fun j => j == 33 || j == 34
def inS (k j : Nat) : Bool := Nat.ble k j && Nat.ble j (k + 4)
def xS (k : Nat) : Nat → Bool := fun j => j == 31 || j == 33 || j == 34 || inS k j
def xk (k : Nat) : Nat → Bool := fun j => inS k j
/-- no place of a state, no scratch -/
def cst (p : Nat) : Bool := Nat.ble p 30 || p == 32 || p == 40 || p == 46 || p == 47 || (Nat.ble 63 p && Nat.ble p 69) || p == 270 || p == 271 || Nat.ble 287 p
theorem ble_f {a b : Nat} (h : b < a) : Nat.ble a b = false := by
  cases e : Nat.ble a b with
  | false => rfl
  | true => have := Nat.le_of_ble_eq_true e; omega
def St_ls : List Nat := (List.range 331).filter (fun k => decide (kd k = .inr 7))
theorem St_mem {k : Nat} (h : kd k = .inr 7) : k ∈ St_ls := by
  have hk : k < 331 := by have := St_k h; omega
  exact List.mem_filter.mpr ⟨List.mem_range.mpr hk, decide_eq_true h⟩
theorem St_c1 : St_ls.all (fun k => (List.range 331).all (fun p => !(cst p || p == 31 || p == 33 || p == 34) || !(inS k p))) = true := by decide +kernel
theorem St_c2 : St_ls.all (fun k => Nat.ble 35 k && Nat.ble (k + 5) 287) = true := by decide +kernel
theorem St_c3 : St_ls.all (fun k => St_ls.all (fun j => k == j || Nat.ble (k + 5) j || Nat.ble (j + 5) k)) = true := by decide +kernel
theorem St_rng {k : Nat} (h : kd k = .inr 7) : 35 ≤ k ∧ k + 4 < 287 := by
  have := List.all_eq_true.mp St_c2 k (St_mem h)
  simp only [Bool.and_eq_true, Nat.ble_eq] at this
  omega
theorem St_off {k p : Nat} (h : kd k = .inr 7) (hp : cst p = true ∨ p = 31 ∨ p = 33 ∨ p = 34) : inS k p = false := by
  rcases Nat.lt_or_ge p 331 with hl | hl
  · have := List.all_eq_true.mp (List.all_eq_true.mp St_c1 k (St_mem h)) p (List.mem_range.mpr hl)
    cases hi : inS k p with
    | false => rfl
    | true =>
      rw [hi] at this
      simp only [Bool.not_true, Bool.or_false, Bool.not_eq_true', Bool.or_eq_false_iff] at this
      rcases hp with e | e | e | e
      · rw [e] at this; simp at this
      · subst e; simp at this
      · subst e; simp at this
      · subst e; simp at this
  · have := St_rng h
    unfold inS
    rw [ble_f (show k + 4 < p by omega)]
    simp
theorem St_two {k k' : Nat} (h : kd k = .inr 7) (h' : kd k' = .inr 7) (hn : k ≠ k') : k + 4 < k' ∨ k' + 4 < k := by
  have := List.all_eq_true.mp (List.all_eq_true.mp St_c3 k (St_mem h)) k' (St_mem h')
  simp only [Bool.or_eq_true, beq_iff_eq, Nat.ble_eq] at this
  omega
theorem xS_off {k p : Nat} (h : kd k = .inr 7) (hp : cst p = true) : xS k p = false := by
  unfold xS
  rw [St_off h (Or.inl hp)]
  have h1 : ∀ p, p < 35 → cst p = true → (p == 31 || p == 33 || p == 34 || false) = false := by decide
  rcases Nat.lt_or_ge p 35 with hl | hl
  · exact h1 p hl hp
  · have a1 : (p == 31) = false := by simp; omega
    have a2 : (p == 33) = false := by simp; omega
    have a3 : (p == 34) = false := by simp; omega
    rw [a1, a2, a3]
    rfl
theorem xS_cwl {k : Nat} (h : kd k = .inr 7) : ∀ p ∈ cwl, xS k p = false := by
  intro p hp
  have : ∀ p ∈ cwl, cst p = true := by decide
  exact xS_off h (this p hp)
theorem xS_in {k j : Nat} (h : k ≤ j) (h' : j ≤ k + 4) : xS k j = true := by
  simp [xS, inS, Nat.ble_eq, h, h']
theorem xsc_cwl : ∀ p ∈ cwl, xsc p = false := by decide
theorem xsc_st {k j : Nat} (h : kd k = .inr 7) (h1 : k ≤ j) (h2 : j ≤ k + 4) : xsc j = false := by
  have := St_rng h
  have a2 : (j == 33) = false := by simp; omega
  have a3 : (j == 34) = false := by simp; omega
  simp [xsc, a2, a3]
theorem xsc_S {k : Nat} : ∀ j, xsc j = true → xS k j = true := by
  intro j h
  simp only [xsc, Bool.or_eq_true] at h
  simp only [xS, Bool.or_eq_true]
  rcases h with h | h
  · exact Or.inl (Or.inl (Or.inr h))
  · exact Or.inl (Or.inr h)
theorem xk_S {k : Nat} : ∀ j, xk k j = true → xS k j = true := by
  intro j h
  simp only [xS, Bool.or_eq_true]
  exact Or.inr h
theorem st_fr {k : Nat} {S : St} {σ σ' : Nat → List Value} {X : Nat → Bool} (hS : StIs σ k S) (hF : Fr X σ σ') (hX : ∀ j, k ≤ j → j ≤ k + 4 → X j = false) : StIs σ' k S := by
  obtain ⟨h0, h1, h2, h3, h4⟩ := hS
  exact ⟨(hF k (hX k (by omega) (by omega))).trans h0, (hF (k + 1) (hX _ (by omega) (by omega))).trans h1, (hF (k + 2) (hX _ (by omega) (by omega))).trans h2, (hF (k + 3) (hX _ (by omega) (by omega))).trans h3, (hF (k + 4) (hX _ (by omega) (by omega))).trans h4⟩
theorem st_sc {k : Nat} {S : St} {σ σ' : Nat → List Value} (hk : kd k = .inr 7) (hF : Fr xsc σ σ') (hS : StIs σ k S) : StIs σ' k S := st_fr hS hF (fun _ h1 h2 => xsc_st hk h1 h2)
theorem st_S {k k' : Nat} {S : St} {σ σ' : Nat → List Value} (hk : kd k = .inr 7) (hk' : kd k' = .inr 7) (hn : k ≠ k') (hF : Fr (xS k') σ σ') (hS : StIs σ k S) : StIs σ' k S := by
  refine st_fr hS hF (fun j h1 h2 => ?_)
  have := St_two hk hk' hn
  have := St_rng hk
  have a1 : (j == 31) = false := by simp; omega
  have a2 : (j == 33) = false := by simp; omega
  have a3 : (j == 34) = false := by simp; omega
  unfold xS inS
  rw [a1, a2, a3]
  rcases Nat.lt_or_ge j k' with h | h
  · rw [show Nat.ble k' j = false from ble_f h]; rfl
  · rw [show Nat.ble j (k' + 4) = false from ble_f (by omega)]; simp
/-- cw over a change of a state alone -/
theorem cw_k {P : Pl} {k : Nat} {σ σ' : Nat → List Value} (hk : kd k = .inr 7) (h : CW P σ) (hF : Fr (xk k) σ σ') : CW P σ' := by
  have o : ∀ p, cst p = true ∨ p = 31 ∨ p = 33 ∨ p = 34 → σ' p = σ p := fun p hp => hF p (St_off hk hp)
  refine cw_fr h (fr_mono hF xk_S) (xS_cwl hk) (isA_eq (o 31 (by decide)) (cw_c31 h)) (isA_eq (o 33 (by decide)) (cw_c33 h)) (isA_eq (o 34 (by decide)) (cw_c34 h)) (isA_eq (o 47 (by decide)) (cw_c47 h))
