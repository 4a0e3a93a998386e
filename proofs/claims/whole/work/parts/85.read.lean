/-! READING: what a row of tokens tells -/
/-- kinds, numbers, names, places -/
abbrev Tx : Type := (Nat → Nat) × (Nat → Nat) × (Nat → Int64) × (Nat → Nat)
def Xk (X : Tx) : Nat → Nat := X.1
def Xv (X : Tx) : Nat → Nat := X.2.1
def Xn (X : Tx) : Nat → Int64 := X.2.2.1
def Xp (X : Tx) : Nat → Nat := X.2.2.2
/-- a fault and the token that it is found at, or what was read -/
abbrev Rs (α : Type) : Type := (Nat × Nat) ⊕ α
def er {α : Type} (f t : Nat) : Rs α := .inl (f, t)
def bnd {α β : Type} (r : Rs α) (k : α → Rs β) : Rs β := match r with
  | .inl e => .inl e
  | .inr a => k a
theorem bnd_e {α β : Type} (f t : Nat) (k : α → Rs β) : bnd (er f t) k = er f t := rfl
theorem bnd_o {α β : Type} (a : α) (k : α → Rs β) : bnd (.inr a) k = k a := rfl
def adv (t : Nat) : Rs Nat := if t = 400 then er 2 t else .inr (t + 1)
theorem adv_y {t : Nat} (h : t < 400) : adv t = .inr (t + 1) := if_neg (by omega)
theorem adv_n : adv 400 = er 2 400 := rfl
def must (X : Tx) (k t : Nat) : Rs Nat := if Xk X t = k then adv t else er 1 t
/-- signs that wait: 2 .. 5 for + - * /, 6 for a bracket -/
def opens : List Nat → Nat
  | [] => 0
  | w :: W => (if w = 6 then 1 else 0) + opens W
def ops : List Nat → Nat
  | [] => 0
  | w :: W => (if w = 6 then 0 else 1) + ops W
theorem ops_n {w : Nat} {W : List Nat} (h : ¬ w = 6) : ops (w :: W) = ops W + 1 := by
  show (if w = 6 then 0 else 1) + ops W = _
  rw [if_neg h, Nat.add_comm]
theorem ops_6 (W : List Nat) : ops (6 :: W) = ops W := Nat.zero_add _
theorem opens_n {w : Nat} {W : List Nat} (h : ¬ w = 6) : opens (w :: W) = opens W := by
  show (if w = 6 then 1 else 0) + opens W = _
  rw [if_neg h, Nat.zero_add]
theorem opens_6 (W : List Nat) : opens (6 :: W) = opens W + 1 := Nat.add_comm _ _
def popP (W : List Nat) (c : KCode) : List Nat × KCode := match W with
  | [] => ([], c)
  | w :: W' => if w = 4 ∨ w = 5 then (W', c ++ [(w, 0)]) else (w :: W', c)
def popS (W : List Nat) (c : KCode) : List Nat × KCode := match W with
  | [] => ([], c)
  | w :: W' => if w = 2 ∨ w = 3 then (W', c ++ [(w, 0)]) else (w :: W', c)
/-- false: a unit is wanted; true: one has been read -/
def mX (X : Tx) : Nat → Bool → List Nat → Nat → KCode → Rs (Nat × KCode)
  | 0, _, _, _, _ => er 0 0
  | n + 1, false, W, t, c =>
    if Xk X t = 24 then bnd (adv t) (fun t1 => mX X n true W t1 (c ++ [(0, Xv X t)]))
    else if 14 ≤ Xk X t ∧ Xk X t ≤ 22 then bnd (adv t) (fun t1 => mX X n true W t1 (c ++ [(1, Xk X t - 14)]))
    else if Xk X t = 32 then (if 6 ≤ opens W then er 2 t else bnd (adv t) (fun t1 => mX X n false (6 :: W) t1 c))
    else er 1 t
  | n + 1, true, W, t, c =>
    if Xk X t = 29 ∨ Xk X t = 30 then bnd (adv t) (fun t1 => mX X n false ((Xk X t - 25) :: (popP W c).1) t1 (popP W c).2)
    else if Xk X t = 27 ∨ Xk X t = 28 then bnd (adv t) (fun t1 => mX X n false ((Xk X t - 25) :: (popS (popP W c).1 (popP W c).2).1) t1 (popS (popP W c).1 (popP W c).2).2)
    else match (popS (popP W c).1 (popP W c).2).1 with
      | [] => .inr (t, (popS (popP W c).1 (popP W c).2).2)
      | _ :: W3 => bnd (must X 33 t) (fun t1 => mX X n true W3 t1 (popS (popP W c).1 (popP W c).2).2)
def eX (X : Tx) (b : Bool) (W : List Nat) (t : Nat) (c : KCode) : Rs (Nat × KCode) := mX X (401 - t) b W t c
/-- an expression from t on -/
def exX (X : Tx) (t : Nat) : Rs (Nat × KCode) := eX X false [] t []
def opP (w : Nat) : Prop := w = 4 ∨ w = 5
def opS (w : Nat) : Prop := w = 2 ∨ w = 3
def noP (W : List Nat) : Prop := ∀ w W', W = w :: W' → ¬ opP w
def noO (W : List Nat) : Prop := ∀ w W', W = w :: W' → w = 6
def okW : List Nat → Prop
  | [] => True
  | w :: W => okW W ∧ (w = 6 ∨ (opS w ∧ noO W) ∨ (opP w ∧ noP W))
theorem noO_P {W : List Nat} (h : noO W) : noP W := by
  intro w W' e q
  have := h w W' e
  subst this
  rcases q with q | q <;> omega
theorem noO_nil : noO [] := fun w W' e => by cases e
theorem noO_6 (W : List Nat) : noO (6 :: W) := fun w W' e => by cases e; rfl
theorem popP_no {W : List Nat} {c : KCode} (h : noP W) : popP W c = (W, c) := by
  unfold popP
  cases W with
  | nil => rfl
  | cons w W' =>
    exact if_neg (h w W' rfl)
theorem popP_y {w : Nat} {W : List Nat} {c : KCode} (h : opP w) : popP (w :: W) c = (W, c ++ [(w, 0)]) := if_pos h
theorem popS_no {W : List Nat} {c : KCode} (h : noO W) : popS W c = (W, c) := by
  unfold popS
  cases W with
  | nil => rfl
  | cons w W' =>
    have := h w W' rfl
    subst this
    rfl
theorem popS_y {w : Nat} {W : List Nat} {c : KCode} (h : opS w) : popS (w :: W) c = (W, c ++ [(w, 0)]) := if_pos h
theorem opS_noP {w : Nat} {W : List Nat} (h : opS w) : noP (w :: W) := by
  intro w' W' e q
  cases e
  rcases h with h | h <;> rcases q with q | q <;> omega
/-! a step of it -/
theorem e_lt {X : Tx} {b : Bool} {W : List Nat} {t : Nat} {c : KCode} (h : t ≤ 400) : eX X b W t c = mX X ((400 - t) + 1) b W t c := by
  unfold eX
  rw [show 401 - t = (400 - t) + 1 by omega]
theorem e_nx {X : Tx} {b : Bool} {W : List Nat} {t : Nat} {c : KCode} (h : t < 400) : mX X (400 - t) b W (t + 1) c = eX X b W (t + 1) c := by
  unfold eX
  rw [show 401 - (t + 1) = 400 - t by omega]
theorem u_int {X : Tx} {W : List Nat} {t : Nat} {c : KCode} (h : t < 400) (k : Xk X t = 24) : eX X false W t c = eX X true W (t + 1) (c ++ [(0, Xv X t)]) := by
  rw [e_lt (by omega), mX, if_pos k, adv_y h, bnd_o, e_nx h]
theorem u_var {X : Tx} {W : List Nat} {t : Nat} {c : KCode} (h : t < 400) (k : 14 ≤ Xk X t ∧ Xk X t ≤ 22) : eX X false W t c = eX X true W (t + 1) (c ++ [(1, Xk X t - 14)]) := by
  rw [e_lt (by omega), mX, if_neg (by omega), if_pos k, adv_y h, bnd_o, e_nx h]
theorem u_opn {X : Tx} {W : List Nat} {t : Nat} {c : KCode} (h : t < 400) (k : Xk X t = 32) (o : opens W < 6) : eX X false W t c = eX X false (6 :: W) (t + 1) c := by
  rw [e_lt (by omega), mX, if_neg (by omega), if_neg (by omega), if_pos k, if_neg (by omega), adv_y h, bnd_o, e_nx h]
theorem u_deep {X : Tx} {W : List Nat} {t : Nat} {c : KCode} (h : t ≤ 400) (k : Xk X t = 32) (o : 6 ≤ opens W) : eX X false W t c = er 2 t := by
  rw [e_lt h, mX, if_neg (by omega), if_neg (by omega), if_pos k, if_pos o]
theorem u_room {X : Tx} {W : List Nat} {c : KCode} (k : Xk X 400 = 24 ∨ (14 ≤ Xk X 400 ∧ Xk X 400 ≤ 22) ∨ Xk X 400 = 32) : eX X false W 400 c = er 2 400 := by
  rw [e_lt (by omega), mX]
  rcases k with k | k | k
  · rw [if_pos k, adv_n, bnd_e]
  · rw [if_neg (by omega), if_pos k, adv_n, bnd_e]
  · rw [if_neg (by omega), if_neg (by omega), if_pos k]
    split
    · rfl
    · rw [adv_n, bnd_e]
theorem u_bad {X : Tx} {W : List Nat} {t : Nat} {c : KCode} (h : t ≤ 400) (k1 : ¬ Xk X t = 24) (k2 : ¬ (14 ≤ Xk X t ∧ Xk X t ≤ 22)) (k3 : ¬ Xk X t = 32) : eX X false W t c = er 1 t := by
  rw [e_lt h, mX, if_neg k1, if_neg k2, if_neg k3]
theorem d_mul {X : Tx} {W : List Nat} {t : Nat} {c : KCode} (h : t < 400) (k : Xk X t = 29 ∨ Xk X t = 30) (hW : noP W) : eX X true W t c = eX X false ((Xk X t - 25) :: W) (t + 1) c := by
  rw [e_lt (by omega), mX, if_pos k, adv_y h, bnd_o, popP_no hW, e_nx h]
theorem d_mul_r {X : Tx} {W : List Nat} {c : KCode} (k : Xk X 400 = 29 ∨ Xk X 400 = 30) : eX X true W 400 c = er 2 400 := by
  rw [e_lt (by omega), mX, if_pos k, adv_n, bnd_e]
theorem d_add {X : Tx} {W : List Nat} {t : Nat} {c : KCode} (h : t < 400) (k : Xk X t = 27 ∨ Xk X t = 28) (hW : noO W) : eX X true W t c = eX X false ((Xk X t - 25) :: W) (t + 1) c := by
  rw [e_lt (by omega), mX, if_neg (by omega), if_pos k, adv_y h, bnd_o, popP_no (noO_P hW), popS_no hW, e_nx h]
theorem d_add_r {X : Tx} {W : List Nat} {c : KCode} (k : Xk X 400 = 27 ∨ Xk X 400 = 28) : eX X true W 400 c = er 2 400 := by
  rw [e_lt (by omega), mX, if_neg (by omega), if_pos k, adv_n, bnd_e]
/-- a sign that waits is worked out behind its second unit -/
theorem d_popP {X : Tx} {w : Nat} {W : List Nat} {t : Nat} {c : KCode} (h : t ≤ 400) (hw : opP w) (hW : noP W) : eX X true (w :: W) t c = eX X true W t (c ++ [(w, 0)]) := by
  rw [e_lt h, e_lt h, mX, mX, popP_y hw, popP_no hW]
theorem d_popS {X : Tx} {w : Nat} {W : List Nat} {t : Nat} {c : KCode} (h : t ≤ 400) (hw : opS w) (hW : noO W) (k : ¬ (Xk X t = 29 ∨ Xk X t = 30)) : eX X true (w :: W) t c = eX X true W t (c ++ [(w, 0)]) := by
  rw [e_lt h, e_lt h, mX, mX, if_neg k, if_neg k, popP_no (opS_noP hw), popP_no (noO_P hW), popS_y hw, popS_no hW]
theorem d_end {X : Tx} {t : Nat} {c : KCode} (h : t ≤ 400) (k1 : ¬ (Xk X t = 29 ∨ Xk X t = 30)) (k2 : ¬ (Xk X t = 27 ∨ Xk X t = 28)) : eX X true [] t c = .inr (t, c) := by
  rw [e_lt h, mX, if_neg k1, if_neg k2]
  rfl
theorem d_cls {X : Tx} {W : List Nat} {t : Nat} {c : KCode} (h : t < 400) (k : Xk X t = 33) : eX X true (6 :: W) t c = eX X true W (t + 1) c := by
  rw [e_lt (by omega), mX, if_neg (by omega), if_neg (by omega)]
  show bnd (must X 33 t) _ = _
  unfold must
  rw [if_pos k, adv_y h, bnd_o, e_nx h]
  rfl
theorem d_cls_r {X : Tx} {W : List Nat} {c : KCode} (k : Xk X 400 = 33) : eX X true (6 :: W) 400 c = er 2 400 := by
  rw [e_lt (by omega), mX, if_neg (by omega), if_neg (by omega)]
  show bnd (must X 33 400) _ = _
  unfold must
  rw [if_pos k, adv_n, bnd_e]
theorem d_bad {X : Tx} {W : List Nat} {t : Nat} {c : KCode} (h : t ≤ 400) (k1 : ¬ (Xk X t = 29 ∨ Xk X t = 30)) (k2 : ¬ (Xk X t = 27 ∨ Xk X t = 28)) (k3 : ¬ Xk X t = 33) : eX X true (6 :: W) t c = er 1 t := by
  rw [e_lt h, mX, if_neg k1, if_neg k2]
  show bnd (must X 33 t) _ = _
  unfold must
  rw [if_neg k3, bnd_e]
/-! what comes out of it -/
theorem wfc_app : ∀ (a b : KCode) (d e f : Nat), wfc a d e = true → wfc b e f = true → wfc (a ++ b) d f = true
  | [], b, d, e, f, h1, h2 => by
    simp only [wfc, beq_iff_eq] at h1
    subst h1
    exact h2
  | (k, v) :: a, b, d, e, f, h1, h2 => by
    unfold wfc at h1
    show wfc ((k, v) :: (a ++ b)) d f = true
    unfold wfc
    by_cases hk : k < 2
    · rw [if_pos hk] at h1 ⊢
      simp only [Bool.and_eq_true] at h1 ⊢
      exact ⟨h1.1, wfc_app a b _ e f h1.2 h2⟩
    · rw [if_neg hk] at h1 ⊢
      simp only [Bool.and_eq_true] at h1 ⊢
      exact ⟨h1.1, wfc_app a b _ e f h1.2 h2⟩
theorem wfc_num {c : KCode} {d v : Nat} (h : wfc c 0 d = true) (hv : v < 10000) (hd : d < 16) : wfc (c ++ [(0, v)]) 0 (d + 1) = true := by
  refine wfc_app c _ 0 d _ h ?_
  unfold wfc
  rw [if_pos (by decide)]
  simp [wfc, hv, hd]
theorem wfc_var {c : KCode} {d v : Nat} (h : wfc c 0 d = true) (hv : v < 9) (hd : d < 16) : wfc (c ++ [(1, v)]) 0 (d + 1) = true := by
  refine wfc_app c _ 0 d _ h ?_
  unfold wfc
  rw [if_pos (by decide)]
  simp [wfc, hv, hd]
  omega
theorem wfc_op {c : KCode} {d w : Nat} (h : wfc c 0 (d + 2) = true) (hw : 2 ≤ w ∧ w ≤ 5) : wfc (c ++ [(w, 0)]) 0 (d + 1) = true := by
  refine wfc_app c _ 0 (d + 2) _ h ?_
  unfold wfc
  rw [if_neg (by omega)]
  simp [wfc]
  omega
/-- how many signs can wait -/
theorem ops_le : ∀ W, okW W → ops W ≤ 2 * opens W + 2 ∧ (noP W → ops W ≤ 2 * opens W + 1) ∧ (noO W → ops W ≤ 2 * opens W)
  | [], _ => ⟨by decide, fun _ => by decide, fun _ => by decide⟩
  | w :: W, h => by
    obtain ⟨h1, h2⟩ := h
    obtain ⟨i1, i2, i3⟩ := ops_le W h1
    unfold ops opens
    rcases h2 with h | ⟨h, g⟩ | ⟨h, g⟩
    · subst h
      simp only [if_true]
      refine ⟨by omega, fun _ => by omega, fun _ => ?_⟩
      omega
    · have := i3 g
      have hw : ¬ w = 6 := by rcases h with h | h <;> omega
      rw [if_neg hw, if_neg hw]
      refine ⟨by omega, fun _ => by omega, fun q => absurd (q w W rfl) hw⟩
    · have := i2 g
      have hw : ¬ w = 6 := by rcases h with h | h <;> omega
      rw [if_neg hw, if_neg hw]
      refine ⟨by omega, fun q => absurd h (q w W rfl), fun q => absurd (q w W rfl) hw⟩
theorem popP_inv {W : List Nat} {c : KCode} (hW : okW W) (hc : wfc c 0 (ops W + 1) = true) : okW (popP W c).1 ∧ noP (popP W c).1 ∧ opens (popP W c).1 = opens W ∧ wfc (popP W c).2 0 (ops (popP W c).1 + 1) = true ∧ (popP W c).2.length + ops (popP W c).1 = c.length + ops W := by
  cases W with
  | nil => exact ⟨trivial, noO_P noO_nil, rfl, hc, rfl⟩
  | cons w W =>
    by_cases h : opP w
    · rw [popP_y h]
      obtain ⟨h1, h2⟩ := hW
      have hw : ¬ w = 6 := by rcases h with h | h <;> omega
      have g : noP W := by
        rcases h2 with q | ⟨q, _⟩ | ⟨_, q⟩
        · omega
        · exfalso; rcases q with q | q <;> rcases h with h | h <;> omega
        · exact q
      rw [ops_n hw] at hc ⊢
      have hw2 : 2 ≤ w ∧ w ≤ 5 := by rcases h with h | h <;> omega
      refine ⟨h1, g, (opens_n hw).symm, wfc_op (d := ops W) hc hw2, ?_⟩
      show (c ++ [(w, 0)]).length + ops W = _
      simp only [List.length_append, List.length_cons, List.length_nil]
      omega
    · have g : noP (w :: W) := fun w' W' e q => by cases e; exact h q
      rw [popP_no g]
      exact ⟨hW, g, rfl, hc, rfl⟩
theorem popS_inv {W : List Nat} {c : KCode} (hW : okW W) (hN : noP W) (hc : wfc c 0 (ops W + 1) = true) : okW (popS W c).1 ∧ noO (popS W c).1 ∧ opens (popS W c).1 = opens W ∧ wfc (popS W c).2 0 (ops (popS W c).1 + 1) = true ∧ (popS W c).2.length + ops (popS W c).1 = c.length + ops W := by
  cases W with
  | nil => exact ⟨trivial, noO_nil, rfl, hc, rfl⟩
  | cons w W =>
    by_cases h : opS w
    · rw [popS_y h]
      obtain ⟨h1, h2⟩ := hW
      have hw : ¬ w = 6 := by rcases h with h | h <;> omega
      have g : noO W := by
        rcases h2 with q | ⟨_, q⟩ | ⟨q, _⟩
        · omega
        · exact q
        · exact absurd q (hN w W rfl)
      rw [ops_n hw] at hc ⊢
      have hw2 : 2 ≤ w ∧ w ≤ 5 := by rcases h with h | h <;> omega
      refine ⟨h1, g, (opens_n hw).symm, wfc_op (d := ops W) hc hw2, ?_⟩
      show (c ++ [(w, 0)]).length + ops W = _
      simp only [List.length_append, List.length_cons, List.length_nil]
      omega
    · have g : noO (w :: W) := by
        intro w' W' e
        cases e
        rcases hW.2 with q | ⟨q, _⟩ | ⟨q, _⟩
        · exact q
        · exact absurd q h
        · exact absurd q (hN w W rfl)
      rw [popS_no g]
      exact ⟨hW, g, rfl, hc, rfl⟩
theorem mX_inv {X : Tx} (hv : ∀ i, Xv X i < 10000) {t' : Nat} {c' : KCode} (t0 : Nat) : ∀ (n : Nat) (b : Bool) (W : List Nat) (t : Nat) (c : KCode), okW W → opens W ≤ 6 → t ≤ 400 → t0 ≤ t → c.length + ops W ≤ t - t0 → wfc c 0 (ops W + (if b = true then 1 else 0)) = true → mX X n b W t c = .inr (t', c') → t ≤ t' ∧ t' ≤ 400 ∧ (b = false → t < t') ∧ wfc c' 0 1 = true ∧ c'.length ≤ t' - t0
  | 0, b, W, t, c, _, _, _, _, _, _, h => by
    unfold mX at h
    cases h
  | n + 1, false, W, t, c, hW, hO, ht, h0, hl, hc, h => by
    have hol := (ops_le W hW).1
    have hc : wfc c 0 (ops W) = true := hc
    unfold mX at h
    by_cases e4 : t = 400
    · subst e4
      rw [adv_n] at h
      simp only [bnd_e] at h
      repeat' split at h
      all_goals cases h
    · rw [adv_y (by omega)] at h
      simp only [bnd_o] at h
      split at h
      · have := mX_inv hv t0 n true W (t + 1) _ hW hO (by omega) (by omega) (by simp only [List.length_append, List.length_cons, List.length_nil]; omega) (wfc_num hc (hv t) (by omega)) h
        exact ⟨by omega, this.2.1, fun _ => by omega, this.2.2.2⟩
      · split at h
        · next k => 
          have := mX_inv hv t0 n true W (t + 1) _ hW hO (by omega) (by omega) (by simp only [List.length_append, List.length_cons, List.length_nil]; omega) (wfc_var hc (by omega) (by omega)) h
          exact ⟨by omega, this.2.1, fun _ => by omega, this.2.2.2⟩
        · split at h
          · split at h
            · cases h
            · next k o =>
              have := mX_inv hv t0 n false (6 :: W) (t + 1) c ⟨hW, Or.inl rfl⟩ (by rw [opens_6]; omega) (by omega) (by omega) (by rw [ops_6]; omega) (by rw [ops_6]; exact hc) h
              exact ⟨by omega, this.2.1, fun _ => by omega, this.2.2.2⟩
          · cases h
  | n + 1, true, W, t, c, hW, hO, ht, h0, hl, hc, h => by
    have hc : wfc c 0 (ops W + 1) = true := hc
    obtain ⟨p1, p2, p3, p4, p5⟩ := popP_inv hW hc
    obtain ⟨s1, s2, s3, s4, s5⟩ := popS_inv p1 p2 p4
    unfold mX at h
    split at h
    · next k =>
      by_cases e4 : t = 400
      · subst e4; rw [adv_n] at h; cases h
      · rw [adv_y (by omega), bnd_o] at h
        have hk6 : ¬ Xk X t - 25 = 6 := by omega
        have := mX_inv hv t0 n false ((Xk X t - 25) :: (popP W c).1) (t + 1) _ ⟨p1, Or.inr (Or.inr ⟨(by unfold opP; omega), p2⟩)⟩ (by rw [opens_n hk6]; omega) (by omega) (by omega) (by rw [ops_n hk6]; omega) (by rw [ops_n hk6]; exact p4) h
        exact ⟨by omega, this.2.1, (fun q => by cases q), this.2.2.2⟩
    · split at h
      · next k =>
        by_cases e4 : t = 400
        · subst e4; rw [adv_n] at h; cases h
        · rw [adv_y (by omega), bnd_o] at h
          have hk6 : ¬ Xk X t - 25 = 6 := by omega
          have := mX_inv hv t0 n false ((Xk X t - 25) :: (popS (popP W c).1 (popP W c).2).1) (t + 1) _ ⟨s1, Or.inr (Or.inl ⟨(by unfold opS; omega), s2⟩)⟩ (by rw [opens_n hk6]; omega) (by omega) (by omega) (by rw [ops_n hk6]; omega) (by rw [ops_n hk6]; exact s4) h
          exact ⟨by omega, this.2.1, (fun q => by cases q), this.2.2.2⟩
      · split at h
        · next hz =>
          cases h
          rw [hz] at s4 s5
          exact ⟨by omega, ht, (fun q => by cases q), s4, by have : ops [] = 0 := rfl; omega⟩
        · next w W3 hz =>
          unfold must at h
          split at h
          · by_cases e4 : t = 400
            · subst e4; rw [adv_n] at h; cases h
            · rw [adv_y (by omega), bnd_o] at h
              rw [hz] at s1 s2 s3 s4 s5
              have hw := s2 w W3 rfl
              subst hw
              rw [opens_6] at s3
              rw [ops_6] at s4 s5
              have := mX_inv hv t0 n true W3 (t + 1) _ s1.1 (by omega) (by omega) (by omega) (by omega) s4 h
              exact ⟨by omega, this.2.1, (fun q => by cases q), this.2.2.2⟩
          · cases h
theorem exX_inv {X : Tx} (hv : ∀ i, Xv X i < 10000) {t t' : Nat} {c' : KCode} (ht : t ≤ 400) (h : exX X t = .inr (t', c')) : t < t' ∧ t' ≤ 400 ∧ wfc c' 0 1 = true ∧ c'.length ≤ t' - t := by
  have := mX_inv hv t (401 - t) false [] t [] trivial (by decide) ht (Nat.le_refl _) (by simp [ops]) rfl h
  exact ⟨this.2.2.1 rfl, this.2.1, this.2.2.2.1, this.2.2.2.2⟩
