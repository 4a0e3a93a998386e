/-! THE REFERENCE READS: what it has at hand -/
def aq (σ : Nat → List Value) (p i : Nat) : Int64 := match (σ p)[i]? with
  | some (.long x) => x
  | _ => 0
theorem aq_arr {σ : Nat → List Value} {p n i : Nat} {f : Nat → Int64} (h : σ p = arrL n f) (hi : i < n) : aq σ p i = f i := by
  unfold aq
  rw [h, arrL_get f hi]
def IsQ (σ : Nat → List Value) (p n : Nat) : Prop := σ p = arrL n (aq σ p)
theorem isQ_of {σ : Nat → List Value} {p n : Nat} {f : Nat → Int64} (h : σ p = arrL n f) : IsQ σ p n := by
  unfold IsQ
  rw [h]
  apply arrL_congr
  intro j hj
  exact (aq_arr h hj).symm
theorem isQ_eq {σ σ' : Nat → List Value} {p n : Nat} (e : σ' p = σ p) (h : IsQ σ p n) : IsQ σ' p n := by
  unfold IsQ at h
  exact isQ_of (e.trans h)
theorem aq_eq {σ σ' : Nat → List Value} {p : Nat} (e : σ' p = σ p) (i : Nat) : aq σ' p i = aq σ p i := by
  unfold aq
  rw [e]
theorem aq_fun {σ σ' : Nat → List Value} {p : Nat} (e : σ' p = σ p) : aq σ' p = aq σ p := funext (aq_eq e)
def shpm : List (Nat × Nat) := [(296, 9), (297, 2), (298, 8), (299, 2), (300, 10), (301, 40), (302, 2), (303, 20), (304, 20), (305, 20), (306, 2), (307, 2), (308, 2), (309, 2), (310, 8), (311, 8), (312, 260), (313, 260), (314, 260), (315, 260), (316, 260), (317, 840), (318, 840), (319, 64)]
theorem shpm_rg : ∀ q ∈ shpm, 296 ≤ q.1 ∧ q.1 ≤ 319 := by decide
theorem shpm_un : ∀ x ∈ shpm, ∀ y ∈ shpm, x.1 = y.1 → x.2 = y.2 := by decide
/-- how much of a row one side has -/
def sd (p : Nat) : Nat := ((shpm.lookup p).getD 0) / 2
theorem shpm_sd : ∀ q ∈ shpm, 297 ≤ q.1 → q.1 ≤ 318 → q.2 = 2 * sd q.1 := by decide
def Msh (σ : Nat → List Value) : Prop := (∀ q ∈ shpm, IsA σ q.1 q.2) ∧ IsQ σ 295 9
theorem msh_g {σ : Nat → List Value} (h : Msh σ) {p n : Nat} (hm : (p, n) ∈ shpm) : IsA σ p n := h.1 (p, n) hm
theorem msh_a {σ : Nat → List Value} (h : Msh σ) {p n : Nat} {f : Nat → Int32} (hm : (p, n) ∈ shpm) : Msh (up σ p (arr n f)) := by
  have hp := shpm_rg _ hm
  simp only at hp
  refine ⟨fun q hq => ?_, isQ_eq (up_ne _ _ (by omega)) h.2⟩
  by_cases e : q.1 = p
  · have e2 : q.2 = n := shpm_un _ hq _ hm e
    rw [e, e2]
    exact isA_of (up_same _ _ _)
  · exact isA_eq (up_ne _ _ e) (h.1 q hq)
theorem msh_q {σ : Nat → List Value} (h : Msh σ) {f : Nat → Int64} : Msh (up σ 295 (arrL 9 f)) := by
  refine ⟨fun q hq => isA_eq (up_ne _ _ ?_) (h.1 q hq), isQ_of (up_same _ _ _)⟩
  have := shpm_rg _ hq
  omega
theorem msh_eq {σ σ' : Nat → List Value} (h : Msh σ) (e : ∀ j, 295 ≤ j → j ≤ 319 → σ' j = σ j) : Msh σ' := by
  refine ⟨fun q hq => isA_eq (e _ ?_ ?_) (h.1 q hq), isQ_eq (e 295 (by omega) (by omega)) h.2⟩
  · have := shpm_rg _ hq
    omega
  · have := shpm_rg _ hq
    omega
/-- the tokens, as the reference has cut them -/
def MkX (X : Tx) (σ : Nat → List Value) : Prop := IsA σ 290 403 ∧ IsA σ 291 403 ∧ IsA σ 292 403 ∧ IsQ σ 293 403 ∧ (∀ j, j ≤ 400 → rch X j → ag σ 290 j = nI (mkK (Xk X j))) ∧ (∀ j, j ≤ 400 → rch X j → ag σ 291 j = nI (Xp X j)) ∧ (∀ j, j ≤ 400 → rch X j → Xk X j = 24 → ag σ 292 j = nI (Xv X j)) ∧ (∀ j, j ≤ 400 → rch X j → Xk X j = 23 → aq σ 293 j = Xn X j)
theorem mkx_eq {X : Tx} {σ σ' : Nat → List Value} (h : MkX X σ) (e : ∀ j, 290 ≤ j → j ≤ 293 → σ' j = σ j) : MkX X σ' := by
  obtain ⟨h1, h2, h3, h4, h5, h6, h7, h8⟩ := h
  exact ⟨isA_eq (e 290 (by omega) (by omega)) h1, isA_eq (e 291 (by omega) (by omega)) h2, isA_eq (e 292 (by omega) (by omega)) h3, isQ_eq (e 293 (by omega) (by omega)) h4, fun j a b => (ag_eq (e 290 (by omega) (by omega)) j).trans (h5 j a b), fun j a b => (ag_eq (e 291 (by omega) (by omega)) j).trans (h6 j a b), fun j a b c => (ag_eq (e 292 (by omega) (by omega)) j).trans (h7 j a b c), fun j a b c => (aq_eq (e 293 (by omega) (by omega)) j).trans (h8 j a b c)⟩
def XOk (X : Tx) : Prop := (∀ j, Xk X j ≤ 35) ∧ (∀ j, Xv X j < 10000) ∧ (∀ j, Xp X j ≤ 2000) ∧ ∀ j, ¬ Xk X j = 34 → Xp X j < Xp X (j + 1)
/-- places that reading changes -/
def xRd : Nat → Bool := fun j => j == 287 || (Nat.ble 295 j && Nat.ble j 319)
theorem xRd_o {j : Nat} (h : (j < 295 ∨ 319 < j) ∧ ¬ j = 287) : xRd j = false := by
  unfold xRd
  have a : (j == 287) = false := by simp; omega
  rw [a]
  rcases Nat.lt_or_ge j 295 with q | q
  · rw [ble_f q]; rfl
  · rw [show Nat.ble j 319 = false from ble_f (by omega)]; simp
theorem xRd_i {j : Nat} (h : 295 ≤ j ∧ j ≤ 319) : xRd j = true := by
  unfold xRd
  rw [Nat.ble_eq_true_of_le h.1, Nat.ble_eq_true_of_le h.2]
  simp
/-- the other side stays as it was -/
def Kp (s : Nat) (σ0 σ : Nat → List Value) : Prop := Fr xRd σ0 σ ∧ ∀ p i, 297 ≤ p → p ≤ 318 → (i < sd p * s ∨ sd p * s + sd p ≤ i) → i < 2 * sd p → ag σ p i = ag σ0 p i
theorem kp_refl (s : Nat) (σ : Nat → List Value) : Kp s σ σ := ⟨fr_refl _ _, fun _ _ _ _ _ _ => rfl⟩
theorem kp_o {s p : Nat} {σ0 σ : Nat → List Value} {vs : List Value} (h : Kp s σ0 σ) (hp : p = 287 ∨ p = 295 ∨ p = 296 ∨ p = 319) : Kp s σ0 (up σ p vs) := by
  refine ⟨fr_up h.1 (by rcases hp with e | e | e | e <;> subst e <;> rfl), fun q i h1 h2 h3 h4 => ?_⟩
  rw [ag_eq (up_ne _ _ (by omega))]
  exact h.2 q i h1 h2 h3 h4
theorem kp_a {s p n m : Nat} {σ0 σ : Nat → List Value} {x : Int32} (h : Kp s σ0 σ) (hm : (p, n) ∈ shpm) (h1 : 297 ≤ p) (h2 : p ≤ 318) (h3 : sd p * s ≤ m) (h4 : m < sd p * s + sd p) : Kp s σ0 (up σ p (arr n (upd (ag σ p) m x))) := by
  refine ⟨fr_up h.1 (xRd_i (by omega)), fun q i q1 q2 q3 q4 => ?_⟩
  by_cases e : q = p
  · subst e
    have hn := shpm_sd _ hm h1 h2
    simp only at hn
    rw [ag_arr (up_same _ _ _) (by omega : i < n)]
    unfold upd
    rw [if_neg (by omega)]
    exact h.2 q i q1 q2 q3 q4
  · rw [ag_eq (up_ne _ _ e)]
    exact h.2 q i q1 q2 q3 q4
def yR : Nat → Bool := fun b => b == 11 || b == 12 || b == 13 || b == 14 || b == 15 || b == 16 || b == 20 || b == 38 || b == 44 || b == 48
def x287 : Nat → Bool := fun j => j == 287
abbrev Bs : Type := (Nat → Int32) × (Nat → List Value)
def MrB (B : Bs) (X : Tx) (s : Nat) (g : Nat → Int32) (σ : Nat → List Value) : Prop := σ 287 = mo g ∧ FrG yR B.1 g ∧ Kp s B.2 σ ∧ g 19 = nI s ∧ s < 2 ∧ Msh σ ∧ MkX X σ ∧ XOk X
theorem mrb_o {B : Bs} {X : Tx} {s : Nat} {g g' : Nat → Int32} {σ : Nat → List Value} (h : MrB B X s g σ) (hG : FrG yR g g') : MrB B X s g' (up σ 287 (mo g')) := by
  obtain ⟨_, h2, h3, h4, h5, h6, h7, h8⟩ := h
  exact ⟨up_same _ _ _, fg_trans h2 hG, kp_o h3 (by omega), (hG 19 rfl).trans h4, h5, msh_eq h6 (fun j _ _ => up_ne _ _ (by omega)), mkx_eq h7 (fun j _ _ => up_ne _ _ (by omega)), h8⟩
theorem mrb_a {B : Bs} {X : Tx} {s : Nat} {g : Nat → Int32} {σ : Nat → List Value} {p n m : Nat} {x : Int32} (h : MrB B X s g σ) (hm : (p, n) ∈ shpm) (h1 : 297 ≤ p) (h2 : p ≤ 318) (h3 : sd p * s ≤ m) (h4 : m < sd p * s + sd p) : MrB B X s g (up σ p (arr n (upd (ag σ p) m x))) := by
  obtain ⟨a1, a2, a3, a4, a5, a6, a7, a8⟩ := h
  exact ⟨(up_ne _ _ (by omega)).trans a1, a2, kp_a a3 hm h1 h2 h3 h4, a4, a5, msh_a a6 hm, mkx_eq a7 (fun j _ _ => up_ne _ _ (by omega)), a8⟩
theorem mrb_n {B : Bs} {X : Tx} {s : Nat} {g : Nat → Int32} {σ : Nat → List Value} {p n : Nat} {f : Nat → Int32} (h : MrB B X s g σ) (hm : (p, n) ∈ shpm) (hp : p = 296 ∨ p = 319) : MrB B X s g (up σ p (arr n f)) := by
  obtain ⟨a1, a2, a3, a4, a5, a6, a7, a8⟩ := h
  exact ⟨(up_ne _ _ (by omega)).trans a1, a2, kp_o a3 (by omega), a4, a5, msh_a a6 hm, mkx_eq a7 (fun j _ _ => up_ne _ _ (by omega)), a8⟩
theorem mrb_q {B : Bs} {X : Tx} {s : Nat} {g : Nat → Int32} {σ : Nat → List Value} {f : Nat → Int64} (h : MrB B X s g σ) : MrB B X s g (up σ 295 (arrL 9 f)) := by
  obtain ⟨a1, a2, a3, a4, a5, a6, a7, a8⟩ := h
  exact ⟨(up_ne _ _ (by omega)).trans a1, a2, kp_o a3 (by omega), a4, a5, msh_q a6, mkx_eq a7 (fun j _ _ => up_ne _ _ (by omega)), a8⟩
/-- lesser faults that are noted -/
def okV (w : Option (Nat × Nat)) : Prop := ∀ q, w = some q → ¬ q.1 = 0 ∧ q.1 < 10 ∧ q.2 ≤ 2000
def okM (X : Tx) (w : Option (Nat × Nat)) (t : Nat) : Prop := ∀ q, w = some q → q.2 < Xp X t
/-- all is well so far: token t is at hand, o brackets are open -/
def MrW (B : Bs) (X : Tx) (s t o bn cn nn : Nat) (w : Option (Nat × Nat)) (g : Nat → Int32) (σ : Nat → List Value) : Prop := MrB B X s g σ ∧ g 11 = nI t ∧ g 12 = nI o ∧ g 13 = nI 0 ∧ g 15 = wF w ∧ (∀ q, w = some q → g 16 = nI q.2) ∧ g 20 = nI nn ∧ g 38 = nI (130 * s + bn) ∧ g 44 = nI (420 * s + cn) ∧ t ≤ 400 ∧ rch X t ∧ okV w
/-- a fault is noted, its place p -/
def MrF (B : Bs) (X : Tx) (s f p bn : Nat) (g : Nat → Int32) (σ : Nat → List Value) : Prop := MrB B X s g σ ∧ g 13 = nI f ∧ ¬ f = 0 ∧ f < 10 ∧ g 14 = nI p ∧ g 38 = nI (130 * s + bn)
theorem okM_s {X : Tx} {w : Option (Nat × Nat)} {t : Nat} (h : okM X w t) (hX : XOk X) (hk : ¬ Xk X t = 34) : okM X w (t + 1) := fun q e => Nat.lt_trans (h q e) (hX.2.2.2 t hk)
theorem okM_n {X : Tx} {w : Option (Nat × Nat)} {t u k : Nat} {b : Bool} (h : okM X w t) (hu : Xp X u < Xp X t) : okM X (wn w b k (Xp X u)) t := by
  intro q e
  cases w with
  | some r => exact h q e
  | none =>
    cases b with
    | true =>
      have e : some (k, Xp X u) = some q := e
      cases e; exact hu
    | false =>
      have e : none = some q := e
      cases e
theorem okV_n {X : Tx} {w : Option (Nat × Nat)} {u k : Nat} {b : Bool} (h : okV w) (hX : XOk X) (hk : ¬ k = 0 ∧ k < 10) : okV (wn w b k (Xp X u)) := by
  intro q e
  cases w with
  | some r => exact h q e
  | none =>
    cases b with
    | true =>
      have e : some (k, Xp X u) = some q := e
      cases e; exact ⟨hk.1, hk.2, hX.2.2.1 u⟩
    | false =>
      have e : none = some q := e
      cases e
theorem okV_p {w : Option (Nat × Nat)} (h : okV w) : okL w := fun q e => ⟨(h q e).1, (h q e).2.1⟩
