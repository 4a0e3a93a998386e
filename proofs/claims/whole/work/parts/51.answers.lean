/-! STATE: ANSWERS -/
def amst (f : Nat → Int) (o : Option Nat) (x : Nat) : Option Nat := match o with
  | none => some x
  | some b => if f b < f x then some x else some b
def am (f : Nat → Int) (l : List Nat) : Option Nat := l.foldl (amst f) none
def oI (o : Option Nat) : Int32 := match o with
  | none => -2
  | some b => nI b
def oV (f : Nat → Nat) (o : Option Nat) : Nat := match o with
  | none => 0
  | some b => f b
theorem am_snoc (f : Nat → Int) (l : List Nat) (x : Nat) : am f (l ++ [x]) = amst f (am f l) x := by
  simp [am, List.foldl_append]
theorem am_n {f : Nat → Int} {l : List Nat} (x : Nat) (h : am f l = none) : am f (l ++ [x]) = some x := by
  rw [am_snoc, h]; rfl
theorem am_g {f : Nat → Int} {l : List Nat} {b : Nat} (x : Nat) (h : am f l = some b) (c : f b < f x) : am f (l ++ [x]) = some x := by
  rw [am_snoc, h]
  simp only [amst, if_pos c]
theorem am_l {f : Nat → Int} {l : List Nat} {b : Nat} (x : Nat) (h : am f l = some b) (c : ¬ f b < f x) : am f (l ++ [x]) = some b := by
  rw [am_snoc, h]
  simp only [amst, if_neg c]
theorem am_fold {f : Nat → Int} {b : Nat} : ∀ (l : List Nat) (o : Option Nat), l.foldl (amst f) o = some b → b ∈ l ∨ o = some b
  | [], o, h => Or.inr h
  | x :: l, o, h => by
    rcases am_fold l _ h with h1 | h1
    · exact Or.inl (List.mem_cons_of_mem _ h1)
    · unfold amst at h1
      split at h1
      · simp only [Option.some.injEq] at h1
        exact Or.inl (by simp [h1])
      · split at h1
        · simp only [Option.some.injEq] at h1
          exact Or.inl (by simp [h1])
        · exact Or.inr h1
theorem am_mem {f : Nat → Int} {l : List Nat} {b : Nat} (h : am f l = some b) : b ∈ l := by
  rcases am_fold l none h with h1 | h1
  · exact h1
  · cases h1
theorem am_rlt {f : Nat → Int} {n b : Nat} (h : am f (List.range n) = some b) : b < n := List.mem_range.mp (am_mem h)
theorem bset_t {f : Nat → Bool} {u : Nat} (h : f u = true) : bset f (u + 1) = bset f u ||| 2 ^ u := by
  rw [bset, if_pos h]
theorem bset_f {f : Nat → Bool} {u : Nat} (h : ¬ f u = true) : bset f (u + 1) = bset f u ||| 0 := by
  rw [bset, if_neg h, Nat.or_zero]
def says1 (S : St) (w : Nat) (h t : Nat) : Bool := decide (w ≤ Sow S (h * 4 + t))
def orF (f : Nat → Nat) : Nat → Nat
  | 0 => 0
  | n + 1 => orF f n ||| f n
def dist (f : Nat → Nat) (a b : Nat) : Nat := sumF (fun t => ((f (a * 4 + t) : Int) - (f (b * 4 + t) : Int)).natAbs) 4
theorem abs_z {p : Int} (h : -100000 < p ∧ p < 100000) : (if (0 : Int32) ≤ zI p then zI p else 0 - zI p) = nI p.natAbs := by
  have z0 : (0 : Int32) = zI 0 := rfl
  rw [nI_z, z0, zI_sub]
  split
  · next h1 =>
    have := (zI_le (p := 0) (q := p) ⟨by decide, by decide⟩ ⟨by omega, by omega⟩).mp h1
    rw [Int.natAbs_of_nonneg this]
  · next h1 =>
    have h2 : ¬ 0 ≤ p := fun e => h1 ((zI_le (p := 0) (q := p) ⟨by decide, by decide⟩ ⟨by omega, by omega⟩).mpr e)
    congr 1
    omega
def pl1 (a j : Nat) : List Nat := (List.range j).map (fun i => 10 * a + (a + 1 + i))
def pls (n : Nat) : Nat → List Nat
  | 0 => []
  | a + 1 => pls n a ++ pl1 a (n - (a + 1))
theorem pl1_s (a j : Nat) : pl1 a (j + 1) = pl1 a j ++ [10 * a + (a + 1 + j)] := by
  simp [pl1, List.range_succ]
def far2 (f : Nat → Nat) (x : Nat) : Int := -((dist f (x / 10) (x % 10) : Nat) : Int)
def setb (x c : Nat) (v : Bool) : Nat := if v then x ||| 2 ^ c else clr x c

theorem c_saidBy_l {xs : List Int32} {d : Nat} {σ : Nat → List Value} {Q : Option Value → (Nat → List Value) → Prop} {k : Nat} {S : St} (hk : kd k = .inr 7) (hS : StIs σ k S) (hok : Sok S) {h w : Nat} (hh : h < 5) (hw : w < 1000) (K : Q (some (.int (nI (bset (fun t => says1 S w h t) 4)))) σ) : ∀ (m u : Nat), m + u = 4 → Wq xs (d + 1) ax_cd94 4 [(4, .int (nI u)), (3, .int (nI (bset (fun t => says1 S w h t) u))), (0, .ref k), (1, .int (nI h)), (2, .int (nI w))] [] σ Q := by
  obtain ⟨hk1, hk2, hk3, hk4, hk5⟩ := St_k hk
  have hkr := St_rng hk
  intro m
  induction m with
  | zero =>
    intro u hm
    refine wq_go rfl (fun _ => rfl) ?_
    refine wq_cN (m := 4) rfl rfl ?_
    refine wq_cge rfl (by first | omega | decide | exact Nat.lt_of_le_of_lt Nat.and_le_right (by decide) | exact ⟨by omega, by omega⟩) (by first | omega | decide | exact Nat.lt_of_le_of_lt Nat.and_le_right (by decide) | exact ⟨by omega, by omega⟩) (fun c6 => ?_) (fun c => absurd (show _ from by omega) c)
    refine wq_go rfl (fun _ => rfl) ?_
    refine wq_iret rfl ?_
    rw [show u = 4 by omega]
    exact K
  | succ m ih =>
    intro u hm
    refine wq_go rfl (fun _ => rfl) ?_
    refine wq_cN (m := 4) rfl rfl ?_
    refine wq_cge rfl (by first | omega | decide | exact Nat.lt_of_le_of_lt Nat.and_le_right (by decide) | exact ⟨by omega, by omega⟩) (by first | omega | decide | exact Nat.lt_of_le_of_lt Nat.and_le_right (by decide) | exact ⟨by omega, by omega⟩) (fun c => absurd c (by omega)) (fun c6 => ?_)
    refine wq_go rfl (fun _ => rfl) ?_
    refine wq_go rfl (fun _ => rfl) ?_
    refine wq_go rfl (fun _ => rfl) ?_
    refine wq_go rfl (fun _ => rfl) ?_
    refine wq_callV rfl rfl (by first | rfl | assumption) (by first | decide | omega | assumption) (Nat.le_of_ble_eq_true rfl) (Nat.le_of_ble_eq_true rfl) rfl rfl ?_
    refine c_State_own hk hS (by first | assumption | omega | decide) (by first | assumption | omega | decide) ?_
    have ob := ow_le hok (i := h * 4 + u) (by omega)
    refine wq_go rfl (fun _ => rfl) ?_
    refine wq_clt rfl (by first | omega | decide | exact Nat.lt_of_le_of_lt Nat.and_le_right (by decide) | exact ⟨by omega, by omega⟩) (by first | omega | decide | exact Nat.lt_of_le_of_lt Nat.and_le_right (by decide) | exact ⟨by omega, by omega⟩) (fun c13 => ?_) (fun c13 => ?_)
    · skip
      refine wq_cN (m := 0) rfl rfl ?_
      refine wq_orN rfl ?_
      refine wq_go rfl (fun _ => rfl) ?_
      refine wq_incN rfl rfl rfl ?_
      refine wq_go rfl (fun _ => rfl) ?_
      first | rw [← bset_t (f := (fun t => says1 S w h t)) (u := u) (decide_eq_true (by omega))] | rw [← bset_f (f := (fun t => says1 S w h t)) (u := u) (fun e => absurd (of_decide_eq_true e) (by omega))]
      exact ih (u + 1) (by omega)
    · skip
      refine wq_cN (m := 1) rfl rfl ?_
      refine wq_go rfl (fun _ => rfl) ?_
      refine wq_shl1 rfl (by first | decide | omega) ?_
      refine wq_go rfl (fun _ => rfl) ?_
      refine wq_orN rfl ?_
      refine wq_go rfl (fun _ => rfl) ?_
      refine wq_incN rfl rfl rfl ?_
      refine wq_go rfl (fun _ => rfl) ?_
      first | rw [← bset_t (f := (fun t => says1 S w h t)) (u := u) (decide_eq_true (by omega))] | rw [← bset_f (f := (fun t => says1 S w h t)) (u := u) (fun e => absurd (of_decide_eq_true e) (by omega))]
      exact ih (u + 1) (by omega)
theorem c_State_saidBy {xs : List Int32} {d : Nat} {σ : Nat → List Value} {Q : Option Value → (Nat → List Value) → Prop} {k : Nat} {S : St} (hk : kd k = .inr 7) (hS : StIs σ k S) (hok : Sok S) {h w : Nat} (hh : h < 5) (hw : w < 1000) (K : Q (some (.int (nI (bset (fun t => says1 S w h t) 4)))) σ) : Wq xs (d + 1) ax_cd94 0 [(0, .ref k), (1, .int (nI h)), (2, .int (nI w))] [] σ Q := by
  obtain ⟨hk1, hk2, hk3, hk4, hk5⟩ := St_k hk
  have hkr := St_rng hk
  refine wq_cN (m := 0) rfl rfl ?_
  refine wq_go rfl (fun _ => rfl) ?_
  refine wq_cN (m := 0) rfl rfl ?_
  refine wq_go rfl (fun _ => rfl) ?_
  exact c_saidBy_l hk hS hok hh hw K 4 0 rfl
theorem c_sayersOf_l {xs : List Int32} {d : Nat} {σ : Nat → List Value} {Q : Option Value → (Nat → List Value) → Prop} {k : Nat} {S : St} (hk : kd k = .inr 7) (hS : StIs σ k S) (hok : Sok S) {t n w : Nat} (ht : t < 4) (hn : n ≤ 5) (hw : w < 1000) (K : Q (some (.int (nI (bset (fun h => says1 S w h t) n)))) σ) : ∀ (m u : Nat), m + u = n → Wq xs (d + 1) ax_cd163 4 [(5, .int (nI u)), (4, .int (nI (bset (fun h => says1 S w h t) u))), (0, .ref k), (1, .int (nI t)), (2, .int (nI n)), (3, .int (nI w))] [] σ Q := by
  obtain ⟨hk1, hk2, hk3, hk4, hk5⟩ := St_k hk
  have hkr := St_rng hk
  intro m
  induction m with
  | zero =>
    intro u hm
    refine wq_go rfl (fun _ => rfl) ?_
    refine wq_go rfl (fun _ => rfl) ?_
    refine wq_cge rfl (by first | omega | decide | exact Nat.lt_of_le_of_lt Nat.and_le_right (by decide) | exact ⟨by omega, by omega⟩) (by first | omega | decide | exact Nat.lt_of_le_of_lt Nat.and_le_right (by decide) | exact ⟨by omega, by omega⟩) (fun c6 => ?_) (fun c => absurd (show _ from by omega) c)
    refine wq_go rfl (fun _ => rfl) ?_
    refine wq_iret rfl ?_
    rw [show u = n by omega]
    exact K
  | succ m ih =>
    intro u hm
    refine wq_go rfl (fun _ => rfl) ?_
    refine wq_go rfl (fun _ => rfl) ?_
    refine wq_cge rfl (by first | omega | decide | exact Nat.lt_of_le_of_lt Nat.and_le_right (by decide) | exact ⟨by omega, by omega⟩) (by first | omega | decide | exact Nat.lt_of_le_of_lt Nat.and_le_right (by decide) | exact ⟨by omega, by omega⟩) (fun c => absurd c (by omega)) (fun c6 => ?_)
    refine wq_go rfl (fun _ => rfl) ?_
    refine wq_go rfl (fun _ => rfl) ?_
    refine wq_go rfl (fun _ => rfl) ?_
    refine wq_go rfl (fun _ => rfl) ?_
    refine wq_callV rfl rfl (by first | rfl | assumption) (by first | decide | omega | assumption) (Nat.le_of_ble_eq_true rfl) (Nat.le_of_ble_eq_true rfl) rfl rfl ?_
    refine c_State_own hk hS (by first | assumption | omega | decide) (by first | assumption | omega | decide) ?_
    have ob := ow_le hok (i := u * 4 + t) (by omega)
    refine wq_go rfl (fun _ => rfl) ?_
    refine wq_clt rfl (by first | omega | decide | exact Nat.lt_of_le_of_lt Nat.and_le_right (by decide) | exact ⟨by omega, by omega⟩) (by first | omega | decide | exact Nat.lt_of_le_of_lt Nat.and_le_right (by decide) | exact ⟨by omega, by omega⟩) (fun c13 => ?_) (fun c13 => ?_)
    · skip
      refine wq_cN (m := 0) rfl rfl ?_
      refine wq_orN rfl ?_
      refine wq_go rfl (fun _ => rfl) ?_
      refine wq_incN rfl rfl rfl ?_
      refine wq_go rfl (fun _ => rfl) ?_
      first | rw [← bset_t (f := (fun h => says1 S w h t)) (u := u) (decide_eq_true (by omega))] | rw [← bset_f (f := (fun h => says1 S w h t)) (u := u) (fun e => absurd (of_decide_eq_true e) (by omega))]
      exact ih (u + 1) (by omega)
    · skip
      refine wq_cN (m := 1) rfl rfl ?_
      refine wq_go rfl (fun _ => rfl) ?_
      refine wq_shl1 rfl (by first | decide | omega) ?_
      refine wq_go rfl (fun _ => rfl) ?_
      refine wq_orN rfl ?_
      refine wq_go rfl (fun _ => rfl) ?_
      refine wq_incN rfl rfl rfl ?_
      refine wq_go rfl (fun _ => rfl) ?_
      first | rw [← bset_t (f := (fun h => says1 S w h t)) (u := u) (decide_eq_true (by omega))] | rw [← bset_f (f := (fun h => says1 S w h t)) (u := u) (fun e => absurd (of_decide_eq_true e) (by omega))]
      exact ih (u + 1) (by omega)
theorem c_State_sayersOf {xs : List Int32} {d : Nat} {σ : Nat → List Value} {Q : Option Value → (Nat → List Value) → Prop} {k : Nat} {S : St} (hk : kd k = .inr 7) (hS : StIs σ k S) (hok : Sok S) {t n w : Nat} (ht : t < 4) (hn : n ≤ 5) (hw : w < 1000) (K : Q (some (.int (nI (bset (fun h => says1 S w h t) n)))) σ) : Wq xs (d + 1) ax_cd163 0 [(0, .ref k), (1, .int (nI t)), (2, .int (nI n)), (3, .int (nI w))] [] σ Q := by
  obtain ⟨hk1, hk2, hk3, hk4, hk5⟩ := St_k hk
  have hkr := St_rng hk
  refine wq_cN (m := 0) rfl rfl ?_
  refine wq_go rfl (fun _ => rfl) ?_
  refine wq_cN (m := 0) rfl rfl ?_
  refine wq_go rfl (fun _ => rfl) ?_
  exact c_sayersOf_l hk hS hok ht hn hw K n 0 rfl
theorem c_sayers_l {xs : List Int32} {d : Nat} {σ : Nat → List Value} {Q : Option Value → (Nat → List Value) → Prop} {k : Nat} {S : St} (hk : kd k = .inr 7) (hS : StIs σ k S) (hok : Sok S) {n w : Nat} (hn : n ≤ 5) (hw : w < 1000) (K : Q (some (.int (nI (orF (fun t => bset (fun h => says1 S w h t) n) 4)))) σ) : ∀ (m u : Nat), m + u = 4 → Wq xs (d + 2) ax_cd212 4 [(4, .int (nI u)), (3, .int (nI (orF (fun t => bset (fun h => says1 S w h t) n) u))), (0, .ref k), (1, .int (nI n)), (2, .int (nI w))] [] σ Q := by
  obtain ⟨hk1, hk2, hk3, hk4, hk5⟩ := St_k hk
  have hkr := St_rng hk
  intro m
  induction m with
  | zero =>
    intro u hm
    refine wq_go rfl (fun _ => rfl) ?_
    refine wq_cN (m := 4) rfl rfl ?_
    refine wq_cge rfl (by first | omega | decide | exact Nat.lt_of_le_of_lt Nat.and_le_right (by decide) | exact ⟨by omega, by omega⟩) (by first | omega | decide | exact Nat.lt_of_le_of_lt Nat.and_le_right (by decide) | exact ⟨by omega, by omega⟩) (fun c6 => ?_) (fun c => absurd (show _ from by omega) c)
    refine wq_go rfl (fun _ => rfl) ?_
    refine wq_iret rfl ?_
    rw [show u = 4 by omega]
    exact K
  | succ m ih =>
    intro u hm
    refine wq_go rfl (fun _ => rfl) ?_
    refine wq_cN (m := 4) rfl rfl ?_
    refine wq_cge rfl (by first | omega | decide | exact Nat.lt_of_le_of_lt Nat.and_le_right (by decide) | exact ⟨by omega, by omega⟩) (by first | omega | decide | exact Nat.lt_of_le_of_lt Nat.and_le_right (by decide) | exact ⟨by omega, by omega⟩) (fun c => absurd c (by omega)) (fun c6 => ?_)
    refine wq_go rfl (fun _ => rfl) ?_
    refine wq_go rfl (fun _ => rfl) ?_
    refine wq_go rfl (fun _ => rfl) ?_
    refine wq_go rfl (fun _ => rfl) ?_
    refine wq_go rfl (fun _ => rfl) ?_
    refine wq_callV rfl rfl (by first | rfl | assumption) (by first | decide | omega | assumption) (Nat.le_of_ble_eq_true rfl) (Nat.le_of_ble_eq_true rfl) rfl rfl ?_
    refine c_State_sayersOf hk hS hok (by first | assumption | omega | decide) (by first | assumption | omega | decide) (by first | assumption | omega | decide) ?_
    refine wq_orN rfl ?_
    refine wq_go rfl (fun _ => rfl) ?_
    refine wq_incN rfl rfl rfl ?_
    refine wq_go rfl (fun _ => rfl) ?_
    exact ih (u + 1) (by omega)
theorem c_State_sayers {xs : List Int32} {d : Nat} {σ : Nat → List Value} {Q : Option Value → (Nat → List Value) → Prop} {k : Nat} {S : St} (hk : kd k = .inr 7) (hS : StIs σ k S) (hok : Sok S) {n w : Nat} (hn : n ≤ 5) (hw : w < 1000) (K : Q (some (.int (nI (orF (fun t => bset (fun h => says1 S w h t) n) 4)))) σ) : Wq xs (d + 2) ax_cd212 0 [(0, .ref k), (1, .int (nI n)), (2, .int (nI w))] [] σ Q := by
  obtain ⟨hk1, hk2, hk3, hk4, hk5⟩ := St_k hk
  have hkr := St_rng hk
  refine wq_cN (m := 0) rfl rfl ?_
  refine wq_go rfl (fun _ => rfl) ?_
  refine wq_cN (m := 0) rfl rfl ?_
  refine wq_go rfl (fun _ => rfl) ?_
  exact c_sayers_l hk hS hok hn hw K 4 0 rfl
def sumE (f : Nat → Nat) (a : Nat) : Nat → Nat
  | 0 => a
  | n + 1 => sumE f a n + f n
theorem sumE_eq (f : Nat → Nat) (a : Nat) : ∀ n, sumE f a n = a + sumF f n
  | 0 => rfl
  | n + 1 => by rw [sumE, sumF, sumE_eq f a n]; omega
theorem c_everything_m {xs : List Int32} {d : Nat} {σ : Nat → List Value} {Q : Option Value → (Nat → List Value) → Prop} {k : Nat} {S : St} (hk : kd k = .inr 7) (hS : StIs σ k S) (K : Q (some (.int (nI (sumF (fun c => s4 (Ssq S) (c * 4)) 4 + sumF (fun h => s4 (Sow S) (h * 4)) 5)))) σ) : ∀ (m u : Nat), m + u = 5 → Wq xs (d + 1) ax_cd211 17 [(2, .int (nI u)), (1, .int (nI (sumE (fun h => s4 (Sow S) (h * 4)) (sumF (fun c => s4 (Ssq S) (c * 4)) 4) u))), (0, .ref k)] [] σ Q := by
  obtain ⟨hk1, hk2, hk3, hk4, hk5⟩ := St_k hk
  have hkr := St_rng hk
  intro m
  induction m with
  | zero =>
    intro u hm
    refine wq_go rfl (fun _ => rfl) ?_
    refine wq_cN (m := 5) rfl rfl ?_
    refine wq_cge rfl (by first | omega | decide | exact Nat.lt_of_le_of_lt Nat.and_le_right (by decide) | exact ⟨by omega, by omega⟩) (by first | omega | decide | exact Nat.lt_of_le_of_lt Nat.and_le_right (by decide) | exact ⟨by omega, by omega⟩) (fun c19 => ?_) (fun c => absurd (show _ from by omega) c)
    refine wq_go rfl (fun _ => rfl) ?_
    refine wq_iret rfl ?_
    rw [show u = 5 by omega, sumE_eq]
    exact K
  | succ m ih =>
    intro u hm
    refine wq_go rfl (fun _ => rfl) ?_
    refine wq_cN (m := 5) rfl rfl ?_
    refine wq_cge rfl (by first | omega | decide | exact Nat.lt_of_le_of_lt Nat.and_le_right (by decide) | exact ⟨by omega, by omega⟩) (by first | omega | decide | exact Nat.lt_of_le_of_lt Nat.and_le_right (by decide) | exact ⟨by omega, by omega⟩) (fun c => absurd c (by omega)) (fun c19 => ?_)
    refine wq_go rfl (fun _ => rfl) ?_
    refine wq_go rfl (fun _ => rfl) ?_
    refine wq_go rfl (fun _ => rfl) ?_
    refine wq_callV rfl rfl (by first | rfl | assumption) (by first | decide | omega | assumption) (Nat.le_of_ble_eq_true rfl) (Nat.le_of_ble_eq_true rfl) rfl rfl ?_
    refine c_State_ownAll hk hS (by first | assumption | omega | decide) ?_
    refine wq_addN rfl ?_
    refine wq_go rfl (fun _ => rfl) ?_
    refine wq_incN rfl rfl rfl ?_
    refine wq_go rfl (fun _ => rfl) ?_
    exact ih (u + 1) (by omega)
theorem c_everything_l {xs : List Int32} {d : Nat} {σ : Nat → List Value} {Q : Option Value → (Nat → List Value) → Prop} {k : Nat} {S : St} (hk : kd k = .inr 7) (hS : StIs σ k S) (K : Q (some (.int (nI (sumF (fun c => s4 (Ssq S) (c * 4)) 4 + sumF (fun h => s4 (Sow S) (h * 4)) 5)))) σ) : ∀ (m u : Nat), m + u = 4 → Wq xs (d + 1) ax_cd211 4 [(2, .int (nI u)), (1, .int (nI (sumF (fun c => s4 (Ssq S) (c * 4)) u))), (0, .ref k)] [] σ Q := by
  obtain ⟨hk1, hk2, hk3, hk4, hk5⟩ := St_k hk
  have hkr := St_rng hk
  intro m
  induction m with
  | zero =>
    intro u hm
    refine wq_go rfl (fun _ => rfl) ?_
    refine wq_cN (m := 4) rfl rfl ?_
    refine wq_cge rfl (by first | omega | decide | exact Nat.lt_of_le_of_lt Nat.and_le_right (by decide) | exact ⟨by omega, by omega⟩) (by first | omega | decide | exact Nat.lt_of_le_of_lt Nat.and_le_right (by decide) | exact ⟨by omega, by omega⟩) (fun c6 => ?_) (fun c => absurd (show _ from by omega) c)
    refine wq_cN (m := 0) rfl rfl ?_
    refine wq_go rfl (fun _ => rfl) ?_
    rw [show u = 4 by omega]
    exact c_everything_m hk hS K 5 0 rfl
  | succ m ih =>
    intro u hm
    refine wq_go rfl (fun _ => rfl) ?_
    refine wq_cN (m := 4) rfl rfl ?_
    refine wq_cge rfl (by first | omega | decide | exact Nat.lt_of_le_of_lt Nat.and_le_right (by decide) | exact ⟨by omega, by omega⟩) (by first | omega | decide | exact Nat.lt_of_le_of_lt Nat.and_le_right (by decide) | exact ⟨by omega, by omega⟩) (fun c => absurd c (by omega)) (fun c6 => ?_)
    refine wq_go rfl (fun _ => rfl) ?_
    refine wq_go rfl (fun _ => rfl) ?_
    refine wq_go rfl (fun _ => rfl) ?_
    refine wq_callV rfl rfl (by first | rfl | assumption) (by first | decide | omega | assumption) (Nat.le_of_ble_eq_true rfl) (Nat.le_of_ble_eq_true rfl) rfl rfl ?_
    refine c_State_clothAll hk hS (by first | assumption | omega | decide) ?_
    refine wq_addN rfl ?_
    refine wq_go rfl (fun _ => rfl) ?_
    refine wq_incN rfl rfl rfl ?_
    refine wq_go rfl (fun _ => rfl) ?_
    exact ih (u + 1) (by omega)
theorem c_State_everything {xs : List Int32} {d : Nat} {σ : Nat → List Value} {Q : Option Value → (Nat → List Value) → Prop} {k : Nat} {S : St} (hk : kd k = .inr 7) (hS : StIs σ k S) (K : Q (some (.int (nI (sumF (fun c => s4 (Ssq S) (c * 4)) 4 + sumF (fun h => s4 (Sow S) (h * 4)) 5)))) σ) : Wq xs (d + 1) ax_cd211 0 [(0, .ref k)] [] σ Q := by
  obtain ⟨hk1, hk2, hk3, hk4, hk5⟩ := St_k hk
  have hkr := St_rng hk
  refine wq_cN (m := 0) rfl rfl ?_
  refine wq_go rfl (fun _ => rfl) ?_
  refine wq_cN (m := 0) rfl rfl ?_
  refine wq_go rfl (fun _ => rfl) ?_
  exact c_everything_l hk hS K 4 0 rfl
theorem s4_le {f : Nat → Nat} {i b : Nat} (h : ∀ j, j < 4 → f (i + j) ≤ b) : s4 f i ≤ 4 * b := by
  have h0 := h 0 (by decide)
  have h1 := h 1 (by decide)
  have h2 := h 2 (by decide)
  have h3 := h 3 (by decide)
  simp only [s4, sumF]
  omega
theorem c_emptySquares_l {xs : List Int32} {d : Nat} {σ : Nat → List Value} {Q : Option Value → (Nat → List Value) → Prop} {k : Nat} {S : St} (hk : kd k = .inr 7) (hS : StIs σ k S) (hok : Sok S) {n : Nat} (hn : n ≤ 4) (K : Q (some (.int (nI (bset (fun c => decide (s4 (Ssq S) (c * 4) = 0)) n)))) σ) : ∀ (m u : Nat), m + u = n → Wq xs (d + 1) ax_cd213 4 [(3, .int (nI u)), (2, .int (nI (bset (fun c => decide (s4 (Ssq S) (c * 4) = 0)) u))), (0, .ref k), (1, .int (nI n))] [] σ Q := by
  obtain ⟨hk1, hk2, hk3, hk4, hk5⟩ := St_k hk
  have hkr := St_rng hk
  intro m
  induction m with
  | zero =>
    intro u hm
    refine wq_go rfl (fun _ => rfl) ?_
    refine wq_go rfl (fun _ => rfl) ?_
    refine wq_cge rfl (by first | omega | decide | exact Nat.lt_of_le_of_lt Nat.and_le_right (by decide) | exact ⟨by omega, by omega⟩) (by first | omega | decide | exact Nat.lt_of_le_of_lt Nat.and_le_right (by decide) | exact ⟨by omega, by omega⟩) (fun c6 => ?_) (fun c => absurd (show _ from by omega) c)
    refine wq_go rfl (fun _ => rfl) ?_
    refine wq_iret rfl ?_
    rw [show u = n by omega]
    exact K
  | succ m ih =>
    intro u hm
    refine wq_go rfl (fun _ => rfl) ?_
    refine wq_go rfl (fun _ => rfl) ?_
    refine wq_cge rfl (by first | omega | decide | exact Nat.lt_of_le_of_lt Nat.and_le_right (by decide) | exact ⟨by omega, by omega⟩) (by first | omega | decide | exact Nat.lt_of_le_of_lt Nat.and_le_right (by decide) | exact ⟨by omega, by omega⟩) (fun c => absurd c (by omega)) (fun c6 => ?_)
    refine wq_go rfl (fun _ => rfl) ?_
    refine wq_go rfl (fun _ => rfl) ?_
    refine wq_go rfl (fun _ => rfl) ?_
    refine wq_callV rfl rfl (by first | rfl | assumption) (by first | decide | omega | assumption) (Nat.le_of_ble_eq_true rfl) (Nat.le_of_ble_eq_true rfl) rfl rfl ?_
    refine c_State_clothAll hk hS (by first | assumption | omega | decide) ?_
    have ob := s4_le (f := Ssq S) (i := u * 4) (b := 1980) (fun j hj => sq_le hok (by omega))
    refine wq_zne rfl (by first | omega | decide | exact Nat.lt_of_le_of_lt Nat.and_le_right (by decide) | exact ⟨by omega, by omega⟩) (fun c11 => ?_) (fun c11 => ?_)
    · skip
      refine wq_cN (m := 0) rfl rfl ?_
      refine wq_orN rfl ?_
      refine wq_go rfl (fun _ => rfl) ?_
      refine wq_incN rfl rfl rfl ?_
      refine wq_go rfl (fun _ => rfl) ?_
      first | rw [← bset_t (f := (fun c => decide (s4 (Ssq S) (c * 4) = 0))) (u := u) (decide_eq_true (by omega))] | rw [← bset_f (f := (fun c => decide (s4 (Ssq S) (c * 4) = 0))) (u := u) (fun e => absurd (of_decide_eq_true e) (by omega))]
      exact ih (u + 1) (by omega)
    · skip
      refine wq_cN (m := 1) rfl rfl ?_
      refine wq_go rfl (fun _ => rfl) ?_
      refine wq_shl1 rfl (by first | decide | omega) ?_
      refine wq_go rfl (fun _ => rfl) ?_
      refine wq_orN rfl ?_
      refine wq_go rfl (fun _ => rfl) ?_
      refine wq_incN rfl rfl rfl ?_
      refine wq_go rfl (fun _ => rfl) ?_
      first | rw [← bset_t (f := (fun c => decide (s4 (Ssq S) (c * 4) = 0))) (u := u) (decide_eq_true (by omega))] | rw [← bset_f (f := (fun c => decide (s4 (Ssq S) (c * 4) = 0))) (u := u) (fun e => absurd (of_decide_eq_true e) (by omega))]
      exact ih (u + 1) (by omega)
theorem c_State_emptySquares {xs : List Int32} {d : Nat} {σ : Nat → List Value} {Q : Option Value → (Nat → List Value) → Prop} {k : Nat} {S : St} (hk : kd k = .inr 7) (hS : StIs σ k S) (hok : Sok S) {n : Nat} (hn : n ≤ 4) (K : Q (some (.int (nI (bset (fun c => decide (s4 (Ssq S) (c * 4) = 0)) n)))) σ) : Wq xs (d + 1) ax_cd213 0 [(0, .ref k), (1, .int (nI n))] [] σ Q := by
  obtain ⟨hk1, hk2, hk3, hk4, hk5⟩ := St_k hk
  have hkr := St_rng hk
  refine wq_cN (m := 0) rfl rfl ?_
  refine wq_go rfl (fun _ => rfl) ?_
  refine wq_cN (m := 0) rfl rfl ?_
  refine wq_go rfl (fun _ => rfl) ?_
  exact c_emptySquares_l hk hS hok hn K n 0 rfl
theorem c_thoughtsIn_l {xs : List Int32} {d : Nat} {σ : Nat → List Value} {Q : Option Value → (Nat → List Value) → Prop} {k : Nat} {S : St} (hk : kd k = .inr 7) (hS : StIs σ k S) (hok : Sok S) (K : Q (some (.int (nI (orF (fun i => if 0 < Ssq S i then 2 ^ (i % 4) else 0) 16)))) σ) : ∀ (m u : Nat), m + u = 16 → Wq xs (d + 0) ax_cd215 4 [(2, .int (nI u)), (1, .int (nI (orF (fun i => if 0 < Ssq S i then 2 ^ (i % 4) else 0) u))), (0, .ref k)] [] σ Q := by
  obtain ⟨hk1, hk2, hk3, hk4, hk5⟩ := St_k hk
  have hkr := St_rng hk
  intro m
  induction m with
  | zero =>
    intro u hm
    refine wq_go rfl (fun _ => rfl) ?_
    refine wq_go rfl (fun _ => rfl) ?_
    refine wq_getf rfl (by first | rfl | assumption) (by first | decide | omega | assumption) hS.1 rfl ?_
    refine wq_alen rfl (by first | rfl | assumption) (by first | decide | omega | assumption) rfl hS.2.1 (arrN_len _ _) ?_
    refine wq_cge rfl (by first | omega | decide | exact Nat.lt_of_le_of_lt Nat.and_le_right (by decide) | exact ⟨by omega, by omega⟩) (by first | omega | decide | exact Nat.lt_of_le_of_lt Nat.and_le_right (by decide) | exact ⟨by omega, by omega⟩) (fun c8 => ?_) (fun c => absurd (show _ from by omega) c)
    refine wq_go rfl (fun _ => rfl) ?_
    refine wq_iret rfl ?_
    rw [show u = 16 by omega]
    exact K
  | succ m ih =>
    intro u hm
    refine wq_go rfl (fun _ => rfl) ?_
    refine wq_go rfl (fun _ => rfl) ?_
    refine wq_getf rfl (by first | rfl | assumption) (by first | decide | omega | assumption) hS.1 rfl ?_
    refine wq_alen rfl (by first | rfl | assumption) (by first | decide | omega | assumption) rfl hS.2.1 (arrN_len _ _) ?_
    refine wq_cge rfl (by first | omega | decide | exact Nat.lt_of_le_of_lt Nat.and_le_right (by decide) | exact ⟨by omega, by omega⟩) (by first | omega | decide | exact Nat.lt_of_le_of_lt Nat.and_le_right (by decide) | exact ⟨by omega, by omega⟩) (fun c => absurd c (by omega)) (fun c8 => ?_)
    refine wq_go rfl (fun _ => rfl) ?_
    refine wq_go rfl (fun _ => rfl) ?_
    refine wq_getf rfl (by first | rfl | assumption) (by first | decide | omega | assumption) hS.1 rfl ?_
    refine wq_go rfl (fun _ => rfl) ?_
    refine wq_ialdN rfl (by first | rfl | assumption) (by first | decide | omega | assumption) hS.2.1 rfl (by omega) (by first | decide | omega) ?_
    have ob := sq_le hok (i := u) (by omega)
    refine wq_zle rfl (by first | omega | decide | exact Nat.lt_of_le_of_lt Nat.and_le_right (by decide) | exact ⟨by omega, by omega⟩) (fun c14 => ?_) (fun c14 => ?_)
    · skip
      refine wq_cN (m := 0) rfl rfl ?_
      refine wq_orN rfl ?_
      refine wq_go rfl (fun _ => rfl) ?_
      refine wq_incN rfl rfl rfl ?_
      refine wq_go rfl (fun _ => rfl) ?_
      first | rw [show orF (fun i => if 0 < Ssq S i then 2 ^ (i % 4) else 0) u ||| 2 ^ (u % 4) = orF (fun i => if 0 < Ssq S i then 2 ^ (i % 4) else 0) (u + 1) from by rw [orF, if_pos (by omega)]] | rw [show orF (fun i => if 0 < Ssq S i then 2 ^ (i % 4) else 0) u ||| 0 = orF (fun i => if 0 < Ssq S i then 2 ^ (i % 4) else 0) (u + 1) from by rw [orF, if_neg (by omega)]]
      exact ih (u + 1) (by omega)
    · skip
      refine wq_cN (m := 1) rfl rfl ?_
      refine wq_go rfl (fun _ => rfl) ?_
      refine wq_cN (m := 4) rfl rfl ?_
      refine wq_remN rfl (by first | decide | omega) (by first | decide | omega) (by first | decide | omega) ?_
      refine wq_shl1 rfl (by first | decide | omega) ?_
      refine wq_go rfl (fun _ => rfl) ?_
      refine wq_orN rfl ?_
      refine wq_go rfl (fun _ => rfl) ?_
      refine wq_incN rfl rfl rfl ?_
      refine wq_go rfl (fun _ => rfl) ?_
      first | rw [show orF (fun i => if 0 < Ssq S i then 2 ^ (i % 4) else 0) u ||| 2 ^ (u % 4) = orF (fun i => if 0 < Ssq S i then 2 ^ (i % 4) else 0) (u + 1) from by rw [orF, if_pos (by omega)]] | rw [show orF (fun i => if 0 < Ssq S i then 2 ^ (i % 4) else 0) u ||| 0 = orF (fun i => if 0 < Ssq S i then 2 ^ (i % 4) else 0) (u + 1) from by rw [orF, if_neg (by omega)]]
      exact ih (u + 1) (by omega)
theorem c_State_thoughtsInSquares {xs : List Int32} {d : Nat} {σ : Nat → List Value} {Q : Option Value → (Nat → List Value) → Prop} {k : Nat} {S : St} (hk : kd k = .inr 7) (hS : StIs σ k S) (hok : Sok S) (K : Q (some (.int (nI (orF (fun i => if 0 < Ssq S i then 2 ^ (i % 4) else 0) 16)))) σ) : Wq xs (d + 0) ax_cd215 0 [(0, .ref k)] [] σ Q := by
  obtain ⟨hk1, hk2, hk3, hk4, hk5⟩ := St_k hk
  have hkr := St_rng hk
  refine wq_cN (m := 0) rfl rfl ?_
  refine wq_go rfl (fun _ => rfl) ?_
  refine wq_cN (m := 0) rfl rfl ?_
  refine wq_go rfl (fun _ => rfl) ?_
  exact c_thoughtsIn_l hk hS hok K 16 0 rfl
theorem c_satEver_l {xs : List Int32} {d : Nat} {σ : Nat → List Value} {Q : Option Value → (Nat → List Value) → Prop} {k : Nat} {S : St} (hk : kd k = .inr 7) (hS : StIs σ k S) (K : Q (some (.int (nI (sumF (Ssb S) 5)))) σ) : ∀ (m u : Nat), m + u = 5 → Wq xs (d + 0) ax_cd214 4 [(2, .int (nI u)), (1, .int (nI (sumF (Ssb S) u))), (0, .ref k)] [] σ Q := by
  obtain ⟨hk1, hk2, hk3, hk4, hk5⟩ := St_k hk
  have hkr := St_rng hk
  intro m
  induction m with
  | zero =>
    intro u hm
    refine wq_go rfl (fun _ => rfl) ?_
    refine wq_go rfl (fun _ => rfl) ?_
    refine wq_getf rfl (by first | rfl | assumption) (by first | decide | omega | assumption) hS.1 rfl ?_
    refine wq_alen rfl (by first | rfl | assumption) (by first | decide | omega | assumption) rfl hS.2.2.2.2 (arrN_len _ _) ?_
    refine wq_cge rfl (by first | omega | decide | exact Nat.lt_of_le_of_lt Nat.and_le_right (by decide) | exact ⟨by omega, by omega⟩) (by first | omega | decide | exact Nat.lt_of_le_of_lt Nat.and_le_right (by decide) | exact ⟨by omega, by omega⟩) (fun c8 => ?_) (fun c => absurd (show _ from by omega) c)
    refine wq_go rfl (fun _ => rfl) ?_
    refine wq_iret rfl ?_
    rw [show u = 5 by omega]
    exact K
  | succ m ih =>
    intro u hm
    refine wq_go rfl (fun _ => rfl) ?_
    refine wq_go rfl (fun _ => rfl) ?_
    refine wq_getf rfl (by first | rfl | assumption) (by first | decide | omega | assumption) hS.1 rfl ?_
    refine wq_alen rfl (by first | rfl | assumption) (by first | decide | omega | assumption) rfl hS.2.2.2.2 (arrN_len _ _) ?_
    refine wq_cge rfl (by first | omega | decide | exact Nat.lt_of_le_of_lt Nat.and_le_right (by decide) | exact ⟨by omega, by omega⟩) (by first | omega | decide | exact Nat.lt_of_le_of_lt Nat.and_le_right (by decide) | exact ⟨by omega, by omega⟩) (fun c => absurd c (by omega)) (fun c8 => ?_)
    refine wq_go rfl (fun _ => rfl) ?_
    refine wq_go rfl (fun _ => rfl) ?_
    refine wq_getf rfl (by first | rfl | assumption) (by first | decide | omega | assumption) hS.1 rfl ?_
    refine wq_go rfl (fun _ => rfl) ?_
    refine wq_ialdN rfl (by first | rfl | assumption) (by first | decide | omega | assumption) hS.2.2.2.2 rfl (by omega) (by first | decide | omega) ?_
    refine wq_addN rfl ?_
    refine wq_go rfl (fun _ => rfl) ?_
    refine wq_incN rfl rfl rfl ?_
    refine wq_go rfl (fun _ => rfl) ?_
    exact ih (u + 1) (by omega)
theorem c_State_satEver {xs : List Int32} {d : Nat} {σ : Nat → List Value} {Q : Option Value → (Nat → List Value) → Prop} {k : Nat} {S : St} (hk : kd k = .inr 7) (hS : StIs σ k S) (K : Q (some (.int (nI (sumF (Ssb S) 5)))) σ) : Wq xs (d + 0) ax_cd214 0 [(0, .ref k)] [] σ Q := by
  obtain ⟨hk1, hk2, hk3, hk4, hk5⟩ := St_k hk
  have hkr := St_rng hk
  refine wq_cN (m := 0) rfl rfl ?_
  refine wq_go rfl (fun _ => rfl) ?_
  refine wq_cN (m := 0) rfl rfl ?_
  refine wq_go rfl (fun _ => rfl) ?_
  exact c_satEver_l hk hS K 5 0 rfl
theorem c_firstMost_l {xs : List Int32} {d : Nat} {σ : Nat → List Value} {Q : Option Value → (Nat → List Value) → Prop} {p N : Nat} {f : Nat → Nat} (hkp : kd p = .inl .int) (hlp : p < 331) (hp : σ p = arrN N f) (hN : N < 2 ^ 30) (hf : ∀ i, i < N → f i ≤ 1980) {a s n : Nat} (hs : s ≤ 4) (ha : a ≤ 16) (hn : n ≤ 5) (hb : ∀ i, i < n → a + i * s < N) (K : Q (some (.int (oI (am (fun i => (f (a + i * s) : Int)) (List.range n))))) σ) : ∀ (m u : Nat), m + u = n → Wq xs (d + 0) ax_cd157 6 [(6, .int (nI u)), (5, .int (nI (oV (fun i => f (a + i * s)) (am (fun i => (f (a + i * s) : Int)) (List.range u))))), (4, .int (oI (am (fun i => (f (a + i * s) : Int)) (List.range u)))), (0, .ref p), (1, .int (nI a)), (2, .int (nI s)), (3, .int (nI n))] [] σ Q := by
  intro m
  induction m with
  | zero =>
    intro u hm
    refine wq_go rfl (fun _ => rfl) ?_
    refine wq_go rfl (fun _ => rfl) ?_
    refine wq_cge rfl (by first | omega | decide | exact Nat.lt_of_le_of_lt Nat.and_le_right (by decide) | exact ⟨by omega, by omega⟩) (by first | omega | decide | exact Nat.lt_of_le_of_lt Nat.and_le_right (by decide) | exact ⟨by omega, by omega⟩) (fun c8 => ?_) (fun c => absurd (show _ from by omega) c)
    refine wq_go rfl (fun _ => rfl) ?_
    refine wq_iret rfl ?_
    rw [show u = n by omega]
    exact K
  | succ m ih =>
    intro u hm
    cases hb0 : am (fun i => (f (a + i * s) : Int)) (List.range u) with
    | none =>
      refine wq_go rfl (fun _ => rfl) ?_
      refine wq_go rfl (fun _ => rfl) ?_
      refine wq_cge rfl (by first | omega | decide | exact Nat.lt_of_le_of_lt Nat.and_le_right (by decide) | exact ⟨by omega, by omega⟩) (by first | omega | decide | exact Nat.lt_of_le_of_lt Nat.and_le_right (by decide) | exact ⟨by omega, by omega⟩) (fun c => absurd c (by omega)) (fun c8 => ?_)
      have hbu := hb u (by omega)
      have ob := hf _ hbu
      have hus : u * s ≤ 5 * 4 := Nat.mul_le_mul (by omega) hs
      refine wq_go rfl (fun _ => rfl) ?_
      refine wq_go rfl (fun _ => rfl) ?_
      refine wq_go rfl (fun _ => rfl) ?_
      refine wq_mulN rfl ?_
      refine wq_addN rfl ?_
      refine wq_go rfl (fun _ => rfl) ?_
      refine wq_go rfl (fun _ => rfl) ?_
      refine wq_zlt rfl (by first | omega | decide | exact Nat.lt_of_le_of_lt Nat.and_le_right (by decide) | exact ⟨by omega, by omega⟩) (fun c => absurd c (by omega)) (fun c16 => ?_)
      refine wq_go rfl (fun _ => rfl) ?_
      refine wq_go rfl (fun _ => rfl) ?_
      refine wq_alen rfl (by first | rfl | assumption) (by first | decide | omega | assumption) rfl hp (arrN_len _ _) ?_
      refine wq_cge rfl (by first | omega | decide | exact Nat.lt_of_le_of_lt Nat.and_le_right (by decide) | exact ⟨by omega, by omega⟩) (by first | omega | decide | exact Nat.lt_of_le_of_lt Nat.and_le_right (by decide) | exact ⟨by omega, by omega⟩) (fun c => absurd c (by omega)) (fun c20 => ?_)
      refine wq_go rfl (fun _ => rfl) ?_
      refine wq_go rfl (fun _ => rfl) ?_
      refine wq_ialdN rfl (by first | rfl | assumption) (by first | decide | omega | assumption) hp rfl (by omega) (by first | decide | omega) ?_
      refine wq_go rfl (fun _ => rfl) ?_
      refine wq_go rfl (fun _ => rfl) ?_
      refine wq_go rfl (fun _ => rfl) ?_
      refine wq_go rfl (fun _ => rfl) ?_
      refine wq_deq rfl (show (_ : Int32) = zI (-2) from by decide) (show (_ : Int32) = zI (-2) from by decide) (by first | omega | decide | exact Nat.lt_of_le_of_lt Nat.and_le_right (by decide) | exact ⟨by omega, by omega⟩) (by first | omega | decide | exact Nat.lt_of_le_of_lt Nat.and_le_right (by decide) | exact ⟨by omega, by omega⟩) (fun c29 => ?_) (fun c => absurd (show _ from by omega) c)
      refine wq_go rfl (fun _ => rfl) ?_
      refine wq_go rfl (fun _ => rfl) ?_
      refine wq_go rfl (fun _ => rfl) ?_
      refine wq_go rfl (fun _ => rfl) ?_
      refine wq_incN rfl rfl rfl ?_
      refine wq_go rfl (fun _ => rfl) ?_
      have hi := ih (u + 1) (by omega)
      rw [List.range_succ] at hi
      first | rw [am_n (f := (fun i => (f (a + i * s) : Int))) u hb0] at hi | rw [am_g (f := (fun i => (f (a + i * s) : Int))) u hb0 (by omega)] at hi | rw [am_l (f := (fun i => (f (a + i * s) : Int))) u hb0 (by omega)] at hi
      exact wq_lv ⟨(by decide : ([6, 5, 4, 8, 7, 0, 1, 2, 3] : List Nat).Nodup), (lvm (List.mem_of_getElem? (i := 0) rfl) (lvm (List.mem_of_getElem? (i := 1) rfl) (lvm (List.mem_of_getElem? (i := 2) rfl) (lvm (List.mem_of_getElem? (i := 5) rfl) (lvm (List.mem_of_getElem? (i := 6) rfl) (lvm (List.mem_of_getElem? (i := 7) rfl) (lvm (List.mem_of_getElem? (i := 8) rfl) lvn)))))))⟩ hi
    | some b =>
      refine wq_go rfl (fun _ => rfl) ?_
      refine wq_go rfl (fun _ => rfl) ?_
      refine wq_cge rfl (by first | omega | decide | exact Nat.lt_of_le_of_lt Nat.and_le_right (by decide) | exact ⟨by omega, by omega⟩) (by first | omega | decide | exact Nat.lt_of_le_of_lt Nat.and_le_right (by decide) | exact ⟨by omega, by omega⟩) (fun c => absurd c (by omega)) (fun c8 => ?_)
      have hbu := hb u (by omega)
      have ob := hf _ hbu
      have hus : u * s ≤ 5 * 4 := Nat.mul_le_mul (by omega) hs
      refine wq_go rfl (fun _ => rfl) ?_
      refine wq_go rfl (fun _ => rfl) ?_
      refine wq_go rfl (fun _ => rfl) ?_
      refine wq_mulN rfl ?_
      refine wq_addN rfl ?_
      refine wq_go rfl (fun _ => rfl) ?_
      refine wq_go rfl (fun _ => rfl) ?_
      refine wq_zlt rfl (by first | omega | decide | exact Nat.lt_of_le_of_lt Nat.and_le_right (by decide) | exact ⟨by omega, by omega⟩) (fun c => absurd c (by omega)) (fun c16 => ?_)
      refine wq_go rfl (fun _ => rfl) ?_
      refine wq_go rfl (fun _ => rfl) ?_
      refine wq_alen rfl (by first | rfl | assumption) (by first | decide | omega | assumption) rfl hp (arrN_len _ _) ?_
      refine wq_cge rfl (by first | omega | decide | exact Nat.lt_of_le_of_lt Nat.and_le_right (by decide) | exact ⟨by omega, by omega⟩) (by first | omega | decide | exact Nat.lt_of_le_of_lt Nat.and_le_right (by decide) | exact ⟨by omega, by omega⟩) (fun c => absurd c (by omega)) (fun c20 => ?_)
      refine wq_go rfl (fun _ => rfl) ?_
      refine wq_go rfl (fun _ => rfl) ?_
      refine wq_ialdN rfl (by first | rfl | assumption) (by first | decide | omega | assumption) hp rfl (by omega) (by first | decide | omega) ?_
      refine wq_go rfl (fun _ => rfl) ?_
      refine wq_go rfl (fun _ => rfl) ?_
      have hbu2 := am_rlt hb0
      have ob2 := hf (a + b * s) (hb b (by omega))
      simp only [oV]
      refine wq_go rfl (fun _ => rfl) ?_
      refine wq_go rfl (fun _ => rfl) ?_
      refine wq_deq rfl (nI_z _) (show (_ : Int32) = zI (-2) from by decide) (by first | omega | decide | exact Nat.lt_of_le_of_lt Nat.and_le_right (by decide) | exact ⟨by omega, by omega⟩) (by first | omega | decide | exact Nat.lt_of_le_of_lt Nat.and_le_right (by decide) | exact ⟨by omega, by omega⟩) (fun c => absurd c (by omega)) (fun c29 => ?_)
      refine wq_go rfl (fun _ => rfl) ?_
      refine wq_go rfl (fun _ => rfl) ?_
      refine wq_cle rfl (by first | omega | decide | exact Nat.lt_of_le_of_lt Nat.and_le_right (by decide) | exact ⟨by omega, by omega⟩) (by first | omega | decide | exact Nat.lt_of_le_of_lt Nat.and_le_right (by decide) | exact ⟨by omega, by omega⟩) (fun c32 => ?_) (fun c32 => ?_)
      · skip
        refine wq_incN rfl rfl rfl ?_
        refine wq_go rfl (fun _ => rfl) ?_
        have hi := ih (u + 1) (by omega)
        rw [List.range_succ] at hi
        first | rw [am_n (f := (fun i => (f (a + i * s) : Int))) u hb0] at hi | rw [am_g (f := (fun i => (f (a + i * s) : Int))) u hb0 (by omega)] at hi | rw [am_l (f := (fun i => (f (a + i * s) : Int))) u hb0 (by omega)] at hi
        exact wq_lv ⟨(by decide : ([6, 8, 7, 5, 4, 0, 1, 2, 3] : List Nat).Nodup), (lvm (List.mem_of_getElem? (i := 0) rfl) (lvm (List.mem_of_getElem? (i := 3) rfl) (lvm (List.mem_of_getElem? (i := 4) rfl) (lvm (List.mem_of_getElem? (i := 5) rfl) (lvm (List.mem_of_getElem? (i := 6) rfl) (lvm (List.mem_of_getElem? (i := 7) rfl) (lvm (List.mem_of_getElem? (i := 8) rfl) lvn)))))))⟩ hi
      · skip
        refine wq_go rfl (fun _ => rfl) ?_
        refine wq_go rfl (fun _ => rfl) ?_
        refine wq_go rfl (fun _ => rfl) ?_
        refine wq_go rfl (fun _ => rfl) ?_
        refine wq_incN rfl rfl rfl ?_
        refine wq_go rfl (fun _ => rfl) ?_
        have hi := ih (u + 1) (by omega)
        rw [List.range_succ] at hi
        first | rw [am_n (f := (fun i => (f (a + i * s) : Int))) u hb0] at hi | rw [am_g (f := (fun i => (f (a + i * s) : Int))) u hb0 (by omega)] at hi | rw [am_l (f := (fun i => (f (a + i * s) : Int))) u hb0 (by omega)] at hi
        exact wq_lv ⟨(by decide : ([6, 5, 4, 8, 7, 0, 1, 2, 3] : List Nat).Nodup), (lvm (List.mem_of_getElem? (i := 0) rfl) (lvm (List.mem_of_getElem? (i := 1) rfl) (lvm (List.mem_of_getElem? (i := 2) rfl) (lvm (List.mem_of_getElem? (i := 5) rfl) (lvm (List.mem_of_getElem? (i := 6) rfl) (lvm (List.mem_of_getElem? (i := 7) rfl) (lvm (List.mem_of_getElem? (i := 8) rfl) lvn)))))))⟩ hi
theorem c_State_firstMost {xs : List Int32} {d : Nat} {σ : Nat → List Value} {Q : Option Value → (Nat → List Value) → Prop} {p N : Nat} {f : Nat → Nat} (hkp : kd p = .inl .int) (hlp : p < 331) (hp : σ p = arrN N f) (hN : N < 2 ^ 30) (hf : ∀ i, i < N → f i ≤ 1980) {a s n : Nat} (hs : s ≤ 4) (ha : a ≤ 16) (hn : n ≤ 5) (hb : ∀ i, i < n → a + i * s < N) (K : Q (some (.int (oI (am (fun i => (f (a + i * s) : Int)) (List.range n))))) σ) : Wq xs (d + 0) ax_cd157 0 [(0, .ref p), (1, .int (nI a)), (2, .int (nI s)), (3, .int (nI n))] [] σ Q := by
  refine wq_go rfl (fun _ => rfl) ?_
  refine wq_go rfl (fun _ => rfl) ?_
  refine wq_cN (m := 0) rfl rfl ?_
  refine wq_go rfl (fun _ => rfl) ?_
  refine wq_cN (m := 0) rfl rfl ?_
  refine wq_go rfl (fun _ => rfl) ?_
  exact c_firstMost_l hkp hlp hp hN hf hs ha hn hb K n 0 rfl
theorem c_State_headWithMost {xs : List Int32} {d : Nat} {σ : Nat → List Value} {Q : Option Value → (Nat → List Value) → Prop} {k : Nat} {S : St} (hk : kd k = .inr 7) (hS : StIs σ k S) (hok : Sok S) {t n : Nat} (ht : t < 4) (hn : n ≤ 5) (K : Q (some (.int (oI (am (fun i => (Sow S (t + i * 4) : Int)) (List.range n))))) σ) : Wq xs (d + 1) ax_cd156 0 [(0, .ref k), (1, .int (nI t)), (2, .int (nI n))] [] σ Q := by
  obtain ⟨hk1, hk2, hk3, hk4, hk5⟩ := St_k hk
  have hkr := St_rng hk
  refine wq_go rfl (fun _ => rfl) ?_
  refine wq_getf rfl (by first | rfl | assumption) (by first | decide | omega | assumption) hS.1 rfl ?_
  refine wq_go rfl (fun _ => rfl) ?_
  refine wq_cN (m := 4) rfl rfl ?_
  refine wq_go rfl (fun _ => rfl) ?_
  refine wq_callS rfl (Nat.le_of_ble_eq_true rfl) rfl (Nat.le_of_ble_eq_true rfl) (Nat.le_of_ble_eq_true rfl) rfl rfl ?_
  refine c_State_firstMost (by assumption) (by omega) hS.2.2.1 (by decide) (fun i hi => ow_le hok hi) (by omega) (by omega) (by omega) (fun i hi => by omega) ?_
  refine wq_iret rfl ?_
  exact K
theorem c_State_chairWithMost {xs : List Int32} {d : Nat} {σ : Nat → List Value} {Q : Option Value → (Nat → List Value) → Prop} {k : Nat} {S : St} (hk : kd k = .inr 7) (hS : StIs σ k S) (hok : Sok S) {t n : Nat} (ht : t < 4) (hn : n ≤ 4) (K : Q (some (.int (oI (am (fun i => (Ssq S (t + i * 4) : Int)) (List.range n))))) σ) : Wq xs (d + 1) ax_cd158 0 [(0, .ref k), (1, .int (nI t)), (2, .int (nI n))] [] σ Q := by
  obtain ⟨hk1, hk2, hk3, hk4, hk5⟩ := St_k hk
  have hkr := St_rng hk
  refine wq_go rfl (fun _ => rfl) ?_
  refine wq_getf rfl (by first | rfl | assumption) (by first | decide | omega | assumption) hS.1 rfl ?_
  refine wq_go rfl (fun _ => rfl) ?_
  refine wq_cN (m := 4) rfl rfl ?_
  refine wq_go rfl (fun _ => rfl) ?_
  refine wq_callS rfl (Nat.le_of_ble_eq_true rfl) rfl (Nat.le_of_ble_eq_true rfl) (Nat.le_of_ble_eq_true rfl) rfl rfl ?_
  refine c_State_firstMost (by assumption) (by omega) hS.2.1 (by decide) (fun i hi => sq_le hok hi) (by omega) (by omega) (by omega) (fun i hi => by omega) ?_
  refine wq_iret rfl ?_
  exact K
theorem c_State_thoughtWithMost {xs : List Int32} {d : Nat} {σ : Nat → List Value} {Q : Option Value → (Nat → List Value) → Prop} {k : Nat} {S : St} (hk : kd k = .inr 7) (hS : StIs σ k S) (hok : Sok S) {h : Nat} (hh : h < 5) (K : Q (some (.int (oI (am (fun i => (Sow S (h * 4 + i * 1) : Int)) (List.range 4))))) σ) : Wq xs (d + 1) ax_cd178 0 [(0, .ref k), (1, .int (nI h))] [] σ Q := by
  obtain ⟨hk1, hk2, hk3, hk4, hk5⟩ := St_k hk
  have hkr := St_rng hk
  refine wq_go rfl (fun _ => rfl) ?_
  refine wq_getf rfl (by first | rfl | assumption) (by first | decide | omega | assumption) hS.1 rfl ?_
  refine wq_go rfl (fun _ => rfl) ?_
  refine wq_cN (m := 4) rfl rfl ?_
  refine wq_mulN rfl ?_
  refine wq_cN (m := 1) rfl rfl ?_
  refine wq_cN (m := 4) rfl rfl ?_
  refine wq_callS rfl (Nat.le_of_ble_eq_true rfl) rfl (Nat.le_of_ble_eq_true rfl) (Nat.le_of_ble_eq_true rfl) rfl rfl ?_
  refine c_State_firstMost (by assumption) (by omega) hS.2.2.1 (by decide) (fun i hi => ow_le hok hi) (by omega) (by omega) (by omega) (fun i hi => by omega) ?_
  refine wq_iret rfl ?_
  exact K
theorem c_fullest_l {xs : List Int32} {d : Nat} {σ : Nat → List Value} {Q : Option Value → (Nat → List Value) → Prop} {k : Nat} {S : St} (hk : kd k = .inr 7) (hS : StIs σ k S) (hok : Sok S) {n : Nat} (hn : n ≤ 5) (K : Q (some (.int (oI (am (fun h => (s4 (Sow S) (h * 4) : Int)) (List.range n))))) σ) : ∀ (m u : Nat), m + u = n → Wq xs (d + 1) ax_cd175 4 [(3, .int (nI u)), (2, .int (oI (am (fun h => (s4 (Sow S) (h * 4) : Int)) (List.range u)))), (0, .ref k), (1, .int (nI n))] [] σ Q := by
  obtain ⟨hk1, hk2, hk3, hk4, hk5⟩ := St_k hk
  have hkr := St_rng hk
  intro m
  induction m with
  | zero =>
    intro u hm
    refine wq_go rfl (fun _ => rfl) ?_
    refine wq_go rfl (fun _ => rfl) ?_
    refine wq_cge rfl (by first | omega | decide | exact Nat.lt_of_le_of_lt Nat.and_le_right (by decide) | exact ⟨by omega, by omega⟩) (by first | omega | decide | exact Nat.lt_of_le_of_lt Nat.and_le_right (by decide) | exact ⟨by omega, by omega⟩) (fun c6 => ?_) (fun c => absurd (show _ from by omega) c)
    refine wq_go rfl (fun _ => rfl) ?_
    refine wq_iret rfl ?_
    rw [show u = n by omega]
    exact K
  | succ m ih =>
    intro u hm
    cases hb0 : am (fun h => (s4 (Sow S) (h * 4) : Int)) (List.range u) with
    | none =>
      refine wq_go rfl (fun _ => rfl) ?_
      refine wq_go rfl (fun _ => rfl) ?_
      refine wq_cge rfl (by first | omega | decide | exact Nat.lt_of_le_of_lt Nat.and_le_right (by decide) | exact ⟨by omega, by omega⟩) (by first | omega | decide | exact Nat.lt_of_le_of_lt Nat.and_le_right (by decide) | exact ⟨by omega, by omega⟩) (fun c => absurd c (by omega)) (fun c6 => ?_)
      refine wq_go rfl (fun _ => rfl) ?_
      refine wq_go rfl (fun _ => rfl) ?_
      refine wq_deq rfl (show (_ : Int32) = zI (-2) from by decide) (show (_ : Int32) = zI (-2) from by decide) (by first | omega | decide | exact Nat.lt_of_le_of_lt Nat.and_le_right (by decide) | exact ⟨by omega, by omega⟩) (by first | omega | decide | exact Nat.lt_of_le_of_lt Nat.and_le_right (by decide) | exact ⟨by omega, by omega⟩) (fun c9 => ?_) (fun c => absurd (show _ from by omega) c)
      refine wq_go rfl (fun _ => rfl) ?_
      refine wq_go rfl (fun _ => rfl) ?_
      refine wq_incN rfl rfl rfl ?_
      refine wq_go rfl (fun _ => rfl) ?_
      have hi := ih (u + 1) (by omega)
      rw [List.range_succ] at hi
      first | rw [am_n (f := (fun h => (s4 (Sow S) (h * 4) : Int))) u hb0] at hi | rw [am_g (f := (fun h => (s4 (Sow S) (h * 4) : Int))) u hb0 (by omega)] at hi | rw [am_l (f := (fun h => (s4 (Sow S) (h * 4) : Int))) u hb0 (by omega)] at hi
      exact wq_lv ⟨(by decide : ([3, 2, 0, 1] : List Nat).Nodup), (lvm (List.mem_of_getElem? (i := 0) rfl) (lvm (List.mem_of_getElem? (i := 1) rfl) (lvm (List.mem_of_getElem? (i := 2) rfl) (lvm (List.mem_of_getElem? (i := 3) rfl) lvn))))⟩ hi
    | some b =>
      refine wq_go rfl (fun _ => rfl) ?_
      refine wq_go rfl (fun _ => rfl) ?_
      refine wq_cge rfl (by first | omega | decide | exact Nat.lt_of_le_of_lt Nat.and_le_right (by decide) | exact ⟨by omega, by omega⟩) (by first | omega | decide | exact Nat.lt_of_le_of_lt Nat.and_le_right (by decide) | exact ⟨by omega, by omega⟩) (fun c => absurd c (by omega)) (fun c6 => ?_)
      have hbn := am_rlt hb0
      have ob1 := s4_le (f := Sow S) (i := u * 4) (b := 1980) (fun j hj => ow_le hok (by omega))
      have ob2 := s4_le (f := Sow S) (i := b * 4) (b := 1980) (fun j hj => ow_le hok (by omega))
      refine wq_go rfl (fun _ => rfl) ?_
      refine wq_go rfl (fun _ => rfl) ?_
      refine wq_deq rfl (nI_z _) (show (_ : Int32) = zI (-2) from by decide) (by first | omega | decide | exact Nat.lt_of_le_of_lt Nat.and_le_right (by decide) | exact ⟨by omega, by omega⟩) (by first | omega | decide | exact Nat.lt_of_le_of_lt Nat.and_le_right (by decide) | exact ⟨by omega, by omega⟩) (fun c => absurd c (by omega)) (fun c9 => ?_)
      refine wq_go rfl (fun _ => rfl) ?_
      refine wq_go rfl (fun _ => rfl) ?_
      refine wq_callV rfl rfl (by first | rfl | assumption) (by first | decide | omega | assumption) (Nat.le_of_ble_eq_true rfl) (Nat.le_of_ble_eq_true rfl) rfl rfl ?_
      refine c_State_ownAll hk hS (by first | assumption | omega | decide) ?_
      refine wq_go rfl (fun _ => rfl) ?_
      refine wq_go rfl (fun _ => rfl) ?_
      refine wq_callV rfl rfl (by first | rfl | assumption) (by first | decide | omega | assumption) (Nat.le_of_ble_eq_true rfl) (Nat.le_of_ble_eq_true rfl) rfl rfl ?_
      refine c_State_ownAll hk hS (by first | assumption | omega | decide) ?_
      refine wq_cle rfl (by first | omega | decide | exact Nat.lt_of_le_of_lt Nat.and_le_right (by decide) | exact ⟨by omega, by omega⟩) (by first | omega | decide | exact Nat.lt_of_le_of_lt Nat.and_le_right (by decide) | exact ⟨by omega, by omega⟩) (fun c16 => ?_) (fun c16 => ?_)
      · skip
        refine wq_incN rfl rfl rfl ?_
        refine wq_go rfl (fun _ => rfl) ?_
        have hi := ih (u + 1) (by omega)
        rw [List.range_succ] at hi
        first | rw [am_n (f := (fun h => (s4 (Sow S) (h * 4) : Int))) u hb0] at hi | rw [am_g (f := (fun h => (s4 (Sow S) (h * 4) : Int))) u hb0 (by omega)] at hi | rw [am_l (f := (fun h => (s4 (Sow S) (h * 4) : Int))) u hb0 (by omega)] at hi
        exact wq_lv ⟨(by decide : ([3, 2, 0, 1] : List Nat).Nodup), (lvm (List.mem_of_getElem? (i := 0) rfl) (lvm (List.mem_of_getElem? (i := 1) rfl) (lvm (List.mem_of_getElem? (i := 2) rfl) (lvm (List.mem_of_getElem? (i := 3) rfl) lvn))))⟩ hi
      · skip
        refine wq_go rfl (fun _ => rfl) ?_
        refine wq_go rfl (fun _ => rfl) ?_
        refine wq_incN rfl rfl rfl ?_
        refine wq_go rfl (fun _ => rfl) ?_
        have hi := ih (u + 1) (by omega)
        rw [List.range_succ] at hi
        first | rw [am_n (f := (fun h => (s4 (Sow S) (h * 4) : Int))) u hb0] at hi | rw [am_g (f := (fun h => (s4 (Sow S) (h * 4) : Int))) u hb0 (by omega)] at hi | rw [am_l (f := (fun h => (s4 (Sow S) (h * 4) : Int))) u hb0 (by omega)] at hi
        exact wq_lv ⟨(by decide : ([3, 2, 0, 1] : List Nat).Nodup), (lvm (List.mem_of_getElem? (i := 0) rfl) (lvm (List.mem_of_getElem? (i := 1) rfl) (lvm (List.mem_of_getElem? (i := 2) rfl) (lvm (List.mem_of_getElem? (i := 3) rfl) lvn))))⟩ hi
theorem c_State_fullestHead {xs : List Int32} {d : Nat} {σ : Nat → List Value} {Q : Option Value → (Nat → List Value) → Prop} {k : Nat} {S : St} (hk : kd k = .inr 7) (hS : StIs σ k S) (hok : Sok S) {n : Nat} (hn : n ≤ 5) (K : Q (some (.int (oI (am (fun h => (s4 (Sow S) (h * 4) : Int)) (List.range n))))) σ) : Wq xs (d + 1) ax_cd175 0 [(0, .ref k), (1, .int (nI n))] [] σ Q := by
  obtain ⟨hk1, hk2, hk3, hk4, hk5⟩ := St_k hk
  have hkr := St_rng hk
  refine wq_go rfl (fun _ => rfl) ?_
  refine wq_go rfl (fun _ => rfl) ?_
  refine wq_cN (m := 0) rfl rfl ?_
  refine wq_go rfl (fun _ => rfl) ?_
  exact c_fullest_l hk hS hok hn K n 0 rfl
theorem c_apart_l {xs : List Int32} {d : Nat} {σ : Nat → List Value} {Q : Option Value → (Nat → List Value) → Prop} {p N : Nat} {f : Nat → Nat} (hkp : kd p = .inl .int) (hlp : p < 331) (hp : σ p = arrN N f) (hN : N < 2 ^ 30) (hf : ∀ i, i < N → f i ≤ 1980) {a b : Nat} (ha : a * 4 + 4 ≤ N) (hb : b * 4 + 4 ≤ N) (K : Q (some (.int (nI (dist f a b)))) σ) : ∀ (m u : Nat), m + u = 4 → Wq xs (d + 0) ax_cd169 4 [(4, .int (nI u)), (3, .int (nI (sumF (fun t => ((f (a * 4 + t) : Int) - (f (b * 4 + t) : Int)).natAbs) u))), (0, .ref p), (1, .int (nI a)), (2, .int (nI b))] [] σ Q := by
  intro m
  induction m with
  | zero =>
    intro u hm
    refine wq_go rfl (fun _ => rfl) ?_
    refine wq_cN (m := 4) rfl rfl ?_
    refine wq_cge rfl (by first | omega | decide | exact Nat.lt_of_le_of_lt Nat.and_le_right (by decide) | exact ⟨by omega, by omega⟩) (by first | omega | decide | exact Nat.lt_of_le_of_lt Nat.and_le_right (by decide) | exact ⟨by omega, by omega⟩) (fun c6 => ?_) (fun c => absurd (show _ from by omega) c)
    refine wq_go rfl (fun _ => rfl) ?_
    refine wq_iret rfl ?_
    rw [show u = 4 by omega]
    exact K
  | succ m ih =>
    intro u hm
    refine wq_go rfl (fun _ => rfl) ?_
    refine wq_cN (m := 4) rfl rfl ?_
    refine wq_cge rfl (by first | omega | decide | exact Nat.lt_of_le_of_lt Nat.and_le_right (by decide) | exact ⟨by omega, by omega⟩) (by first | omega | decide | exact Nat.lt_of_le_of_lt Nat.and_le_right (by decide) | exact ⟨by omega, by omega⟩) (fun c => absurd c (by omega)) (fun c6 => ?_)
    refine wq_go rfl (fun _ => rfl) ?_
    refine wq_cN (m := 4) rfl rfl ?_
    refine wq_mulN rfl ?_
    refine wq_go rfl (fun _ => rfl) ?_
    refine wq_addN rfl ?_
    refine wq_go rfl (fun _ => rfl) ?_
    refine wq_go rfl (fun _ => rfl) ?_
    refine wq_cN (m := 4) rfl rfl ?_
    refine wq_mulN rfl ?_
    refine wq_go rfl (fun _ => rfl) ?_
    refine wq_addN rfl ?_
    refine wq_go rfl (fun _ => rfl) ?_
    refine wq_go rfl (fun _ => rfl) ?_
    refine wq_zlt rfl (by first | omega | decide | exact Nat.lt_of_le_of_lt Nat.and_le_right (by decide) | exact ⟨by omega, by omega⟩) (fun c => absurd c (by omega)) (fun c20 => ?_)
    refine wq_go rfl (fun _ => rfl) ?_
    refine wq_go rfl (fun _ => rfl) ?_
    refine wq_alen rfl (by first | rfl | assumption) (by first | decide | omega | assumption) rfl hp (arrN_len _ _) ?_
    refine wq_cge rfl (by first | omega | decide | exact Nat.lt_of_le_of_lt Nat.and_le_right (by decide) | exact ⟨by omega, by omega⟩) (by first | omega | decide | exact Nat.lt_of_le_of_lt Nat.and_le_right (by decide) | exact ⟨by omega, by omega⟩) (fun c => absurd c (by omega)) (fun c24 => ?_)
    refine wq_go rfl (fun _ => rfl) ?_
    refine wq_zlt rfl (by first | omega | decide | exact Nat.lt_of_le_of_lt Nat.and_le_right (by decide) | exact ⟨by omega, by omega⟩) (fun c => absurd c (by omega)) (fun c26 => ?_)
    refine wq_go rfl (fun _ => rfl) ?_
    refine wq_go rfl (fun _ => rfl) ?_
    refine wq_alen rfl (by first | rfl | assumption) (by first | decide | omega | assumption) rfl hp (arrN_len _ _) ?_
    refine wq_cge rfl (by first | omega | decide | exact Nat.lt_of_le_of_lt Nat.and_le_right (by decide) | exact ⟨by omega, by omega⟩) (by first | omega | decide | exact Nat.lt_of_le_of_lt Nat.and_le_right (by decide) | exact ⟨by omega, by omega⟩) (fun c => absurd c (by omega)) (fun c30 => ?_)
    refine wq_go rfl (fun _ => rfl) ?_
    refine wq_go rfl (fun _ => rfl) ?_
    refine wq_go rfl (fun _ => rfl) ?_
    refine wq_ialdN rfl (by first | rfl | assumption) (by first | decide | omega | assumption) hp rfl (by omega) (by first | decide | omega) ?_
    refine wq_go rfl (fun _ => rfl) ?_
    refine wq_go rfl (fun _ => rfl) ?_
    refine wq_ialdN rfl (by first | rfl | assumption) (by first | decide | omega | assumption) hp rfl (by omega) (by first | decide | omega) ?_
    have ob1 := hf (a * 4 + u) (by omega)
    have ob2 := hf (b * 4 + u) (by omega)
    refine wq_subZ rfl (nI_z _) (nI_z _) ?_
    refine wq_go rfl (fun _ => rfl) ?_
    refine wq_top (abs_z ⟨by omega, by omega⟩) ?_
    refine wq_addN rfl ?_
    refine wq_go rfl (fun _ => rfl) ?_
    refine wq_incN rfl rfl rfl ?_
    refine wq_go rfl (fun _ => rfl) ?_
    exact wq_lv ⟨(by decide : ([4, 3, 6, 5, 0, 1, 2] : List Nat).Nodup), (lvm (List.mem_of_getElem? (i := 0) rfl) (lvm (List.mem_of_getElem? (i := 1) rfl) (lvm (List.mem_of_getElem? (i := 4) rfl) (lvm (List.mem_of_getElem? (i := 5) rfl) (lvm (List.mem_of_getElem? (i := 6) rfl) lvn)))))⟩ (ih (u + 1) (by omega))
theorem c_State_apart {xs : List Int32} {d : Nat} {σ : Nat → List Value} {Q : Option Value → (Nat → List Value) → Prop} {p N : Nat} {f : Nat → Nat} (hkp : kd p = .inl .int) (hlp : p < 331) (hp : σ p = arrN N f) (hN : N < 2 ^ 30) (hf : ∀ i, i < N → f i ≤ 1980) {a b : Nat} (ha : a * 4 + 4 ≤ N) (hb : b * 4 + 4 ≤ N) (K : Q (some (.int (nI (dist f a b)))) σ) : Wq xs (d + 0) ax_cd169 0 [(0, .ref p), (1, .int (nI a)), (2, .int (nI b))] [] σ Q := by
  refine wq_cN (m := 0) rfl rfl ?_
  refine wq_go rfl (fun _ => rfl) ?_
  refine wq_cN (m := 0) rfl rfl ?_
  refine wq_go rfl (fun _ => rfl) ?_
  exact c_apart_l hkp hlp hp hN hf ha hb K 4 0 rfl
theorem far2_c (f : Nat → Nat) {a b : Nat} (hb : b < 10) : far2 f (10 * a + b) = -((dist f a b : Nat) : Int) := by
  unfold far2
  rw [show (10 * a + b) / 10 = a by omega, show (10 * a + b) % 10 = b by omega]
theorem dist_le {f : Nat → Nat} {a b N : Nat} (hf : ∀ i, i < N → f i ≤ 1980) (ha : a * 4 + 4 ≤ N) (hb : b * 4 + 4 ≤ N) : dist f a b ≤ 7920 := by
  unfold dist
  have h : ∀ t, t < 4 → ((f (a * 4 + t) : Int) - (f (b * 4 + t) : Int)).natAbs ≤ 1980 := by
    intro t ht
    have := hf (a * 4 + t) (by omega)
    have := hf (b * 4 + t) (by omega)
    omega
  have h0 := h 0 (by decide)
  have h1 := h 1 (by decide)
  have h2 := h 2 (by decide)
  have h3 := h 3 (by decide)
  simp only [sumF]
  omega
theorem pls_lt {n : Nat} (hn : n ≤ 5) : ∀ (a x : Nat), a ≤ n → x ∈ pls n a → x / 10 < n ∧ x % 10 < n
  | 0, x, _, h => by cases h
  | a + 1, x, ha, h => by
    rcases List.mem_append.mp h with h | h
    · exact pls_lt hn a x (by omega) h
    · obtain ⟨i, hi, e⟩ := List.mem_map.mp h
      have := List.mem_range.mp hi
      omega
theorem pl_lt {n a j x : Nat} (hn : n ≤ 5) (ha : a < n) (hj : a + 1 + j ≤ n) (h : x ∈ pls n a ++ pl1 a j) : x / 10 < n ∧ x % 10 < n := by
  rcases List.mem_append.mp h with h | h
  · exact pls_lt hn a x (by omega) h
  · obtain ⟨i, hi, e⟩ := List.mem_map.mp h
    have := List.mem_range.mp hi
    omega
def least (f : Nat → Nat) (o : Option Nat) : Nat := match o with
  | none => 0
  | some x => dist f (x / 10) (x % 10)
theorem c_closest_i {xs : List Int32} {d : Nat} {σ : Nat → List Value} {Q : Option Value → (Nat → List Value) → Prop} {p N : Nat} {f : Nat → Nat} (hkp : kd p = .inl .int) (hlp : p < 331) (hp : σ p = arrN N f) (hN : N < 2 ^ 30) (hf : ∀ i, i < N → f i ≤ 1980) {n : Nat} (hn : n ≤ 5) (hnN : n * 4 ≤ N) {a : Nat} (ha : a < n) (K : ∀ (w : Nat), Wq xs (d + 1) ax_cd168 6 [(4, .int (nI (a + 1))), (3, .int (nI (least f (am (far2 f) (pls n (a + 1)))))), (2, .int (oI (am (far2 f) (pls n (a + 1))))), (0, .ref p), (1, .int (nI n))] [] σ Q) : ∀ (m u : Nat), m + u = n - (a + 1) → Wq xs (d + 1) ax_cd168 13 [(5, .int (nI (a + 1 + u))), (4, .int (nI a)), (3, .int (nI (least f (am (far2 f) (pls n a ++ pl1 a u))))), (2, .int (oI (am (far2 f) (pls n a ++ pl1 a u)))), (0, .ref p), (1, .int (nI n))] [] σ Q := by
  intro m
  induction m with
  | zero =>
    intro u hm
    refine wq_go rfl (fun _ => rfl) ?_
    refine wq_go rfl (fun _ => rfl) ?_
    refine wq_cge rfl (by first | omega | decide | exact Nat.lt_of_le_of_lt Nat.and_le_right (by decide) | exact ⟨by omega, by omega⟩) (by first | omega | decide | exact Nat.lt_of_le_of_lt Nat.and_le_right (by decide) | exact ⟨by omega, by omega⟩) (fun c15 => ?_) (fun c => absurd (show _ from by omega) c)
    refine wq_incN rfl rfl rfl ?_
    refine wq_go rfl (fun _ => rfl) ?_
    have hK := K 0
    rw [show pls n (a + 1) = pls n a ++ pl1 a u from by rw [pls, show n - (a + 1) = u by omega]] at hK
    exact wq_lv ⟨(by decide : ([4, 5, 3, 2, 0, 1] : List Nat).Nodup), (lvm (List.mem_of_getElem? (i := 0) rfl) (lvm (List.mem_of_getElem? (i := 2) rfl) (lvm (List.mem_of_getElem? (i := 3) rfl) (lvm (List.mem_of_getElem? (i := 4) rfl) (lvm (List.mem_of_getElem? (i := 5) rfl) lvn)))))⟩ hK
  | succ m ih =>
    intro u hm
    cases hb0 : am (far2 f) (pls n a ++ pl1 a u) with
    | none =>
      refine wq_go rfl (fun _ => rfl) ?_
      refine wq_go rfl (fun _ => rfl) ?_
      refine wq_cge rfl (by first | omega | decide | exact Nat.lt_of_le_of_lt Nat.and_le_right (by decide) | exact ⟨by omega, by omega⟩) (by first | omega | decide | exact Nat.lt_of_le_of_lt Nat.and_le_right (by decide) | exact ⟨by omega, by omega⟩) (fun c => absurd c (by omega)) (fun c15 => ?_)
      refine wq_go rfl (fun _ => rfl) ?_
      refine wq_go rfl (fun _ => rfl) ?_
      refine wq_go rfl (fun _ => rfl) ?_
      refine wq_callS rfl (Nat.le_of_ble_eq_true rfl) rfl (Nat.le_of_ble_eq_true rfl) (Nat.le_of_ble_eq_true rfl) rfl rfl ?_
      refine c_State_apart hkp hlp hp hN hf (by omega) (by omega) ?_
      refine wq_go rfl (fun _ => rfl) ?_
      refine wq_go rfl (fun _ => rfl) ?_
      refine wq_go rfl (fun _ => rfl) ?_
      refine wq_deq rfl (show (_ : Int32) = zI (-2) from by decide) (show (_ : Int32) = zI (-2) from by decide) (by first | omega | decide | exact Nat.lt_of_le_of_lt Nat.and_le_right (by decide) | exact ⟨by omega, by omega⟩) (by first | omega | decide | exact Nat.lt_of_le_of_lt Nat.and_le_right (by decide) | exact ⟨by omega, by omega⟩) (fun c23 => ?_) (fun c => absurd (show _ from by omega) c)
      refine wq_cN (m := 10) rfl rfl ?_
      refine wq_go rfl (fun _ => rfl) ?_
      refine wq_mulN rfl ?_
      refine wq_go rfl (fun _ => rfl) ?_
      refine wq_addN rfl ?_
      refine wq_go rfl (fun _ => rfl) ?_
      refine wq_go rfl (fun _ => rfl) ?_
      refine wq_go rfl (fun _ => rfl) ?_
      refine wq_incN rfl rfl rfl ?_
      refine wq_go rfl (fun _ => rfl) ?_
      have hi := ih (u + 1) (by omega)
      rw [pl1_s, ← List.append_assoc] at hi
      first | rw [am_n (f := (far2 f)) _ hb0] at hi | rw [am_g (f := (far2 f)) _ hb0 (by rw [far2_c f (by omega)]; simp only [far2]; omega)] at hi | rw [am_l (f := (far2 f)) _ hb0 (by rw [far2_c f (by omega)]; simp only [far2]; omega)] at hi
      simp only [oI, least] at hi
      try rw [show (10 * a + (a + 1 + u)) / 10 = a by omega, show (10 * a + (a + 1 + u)) % 10 = a + 1 + u by omega] at hi
      exact wq_lv ⟨(by decide : ([5, 3, 2, 6, 4, 0, 1] : List Nat).Nodup), (lvm (List.mem_of_getElem? (i := 0) rfl) (lvm (List.mem_of_getElem? (i := 4) rfl) (lvm (List.mem_of_getElem? (i := 1) rfl) (lvm (List.mem_of_getElem? (i := 2) rfl) (lvm (List.mem_of_getElem? (i := 5) rfl) (lvm (List.mem_of_getElem? (i := 6) rfl) lvn))))))⟩ hi
    | some b =>
      refine wq_go rfl (fun _ => rfl) ?_
      refine wq_go rfl (fun _ => rfl) ?_
      refine wq_cge rfl (by first | omega | decide | exact Nat.lt_of_le_of_lt Nat.and_le_right (by decide) | exact ⟨by omega, by omega⟩) (by first | omega | decide | exact Nat.lt_of_le_of_lt Nat.and_le_right (by decide) | exact ⟨by omega, by omega⟩) (fun c => absurd c (by omega)) (fun c15 => ?_)
      have hbn := pl_lt hn ha (by omega) (am_mem hb0)
      have ob1 := dist_le (a := a) (b := a + 1 + u) hf (by omega) (by omega)
      have ob2 := dist_le (a := b / 10) (b := b % 10) hf (by omega) (by omega)
      simp only [least]
      refine wq_go rfl (fun _ => rfl) ?_
      refine wq_go rfl (fun _ => rfl) ?_
      refine wq_go rfl (fun _ => rfl) ?_
      refine wq_callS rfl (Nat.le_of_ble_eq_true rfl) rfl (Nat.le_of_ble_eq_true rfl) (Nat.le_of_ble_eq_true rfl) rfl rfl ?_
      refine c_State_apart hkp hlp hp hN hf (by omega) (by omega) ?_
      refine wq_go rfl (fun _ => rfl) ?_
      refine wq_go rfl (fun _ => rfl) ?_
      refine wq_go rfl (fun _ => rfl) ?_
      refine wq_deq rfl (nI_z _) (show (_ : Int32) = zI (-2) from by decide) (by first | omega | decide | exact Nat.lt_of_le_of_lt Nat.and_le_right (by decide) | exact ⟨by omega, by omega⟩) (by first | omega | decide | exact Nat.lt_of_le_of_lt Nat.and_le_right (by decide) | exact ⟨by omega, by omega⟩) (fun c => absurd c (by omega)) (fun c23 => ?_)
      refine wq_go rfl (fun _ => rfl) ?_
      refine wq_go rfl (fun _ => rfl) ?_
      refine wq_cge rfl (by first | omega | decide | exact Nat.lt_of_le_of_lt Nat.and_le_right (by decide) | exact ⟨by omega, by omega⟩) (by first | omega | decide | exact Nat.lt_of_le_of_lt Nat.and_le_right (by decide) | exact ⟨by omega, by omega⟩) (fun c26 => ?_) (fun c26 => ?_)
      · skip
        refine wq_incN rfl rfl rfl ?_
        refine wq_go rfl (fun _ => rfl) ?_
        have hi := ih (u + 1) (by omega)
        rw [pl1_s, ← List.append_assoc] at hi
        first | rw [am_n (f := (far2 f)) _ hb0] at hi | rw [am_g (f := (far2 f)) _ hb0 (by rw [far2_c f (by omega)]; simp only [far2]; omega)] at hi | rw [am_l (f := (far2 f)) _ hb0 (by rw [far2_c f (by omega)]; simp only [far2]; omega)] at hi
        simp only [oI, least] at hi
        try rw [show (10 * a + (a + 1 + u)) / 10 = a by omega, show (10 * a + (a + 1 + u)) % 10 = a + 1 + u by omega] at hi
        exact wq_lv ⟨(by decide : ([5, 6, 4, 3, 2, 0, 1] : List Nat).Nodup), (lvm (List.mem_of_getElem? (i := 0) rfl) (lvm (List.mem_of_getElem? (i := 2) rfl) (lvm (List.mem_of_getElem? (i := 3) rfl) (lvm (List.mem_of_getElem? (i := 4) rfl) (lvm (List.mem_of_getElem? (i := 5) rfl) (lvm (List.mem_of_getElem? (i := 6) rfl) lvn))))))⟩ hi
      · skip
        refine wq_cN (m := 10) rfl rfl ?_
        refine wq_go rfl (fun _ => rfl) ?_
        refine wq_mulN rfl ?_
        refine wq_go rfl (fun _ => rfl) ?_
        refine wq_addN rfl ?_
        refine wq_go rfl (fun _ => rfl) ?_
        refine wq_go rfl (fun _ => rfl) ?_
        refine wq_go rfl (fun _ => rfl) ?_
        refine wq_incN rfl rfl rfl ?_
        refine wq_go rfl (fun _ => rfl) ?_
        have hi := ih (u + 1) (by omega)
        rw [pl1_s, ← List.append_assoc] at hi
        first | rw [am_n (f := (far2 f)) _ hb0] at hi | rw [am_g (f := (far2 f)) _ hb0 (by rw [far2_c f (by omega)]; simp only [far2]; omega)] at hi | rw [am_l (f := (far2 f)) _ hb0 (by rw [far2_c f (by omega)]; simp only [far2]; omega)] at hi
        simp only [oI, least] at hi
        try rw [show (10 * a + (a + 1 + u)) / 10 = a by omega, show (10 * a + (a + 1 + u)) % 10 = a + 1 + u by omega] at hi
        exact wq_lv ⟨(by decide : ([5, 3, 2, 6, 4, 0, 1] : List Nat).Nodup), (lvm (List.mem_of_getElem? (i := 0) rfl) (lvm (List.mem_of_getElem? (i := 4) rfl) (lvm (List.mem_of_getElem? (i := 1) rfl) (lvm (List.mem_of_getElem? (i := 2) rfl) (lvm (List.mem_of_getElem? (i := 5) rfl) (lvm (List.mem_of_getElem? (i := 6) rfl) lvn))))))⟩ hi
theorem c_closest_o {xs : List Int32} {d : Nat} {σ : Nat → List Value} {Q : Option Value → (Nat → List Value) → Prop} {p N : Nat} {f : Nat → Nat} (hkp : kd p = .inl .int) (hlp : p < 331) (hp : σ p = arrN N f) (hN : N < 2 ^ 30) (hf : ∀ i, i < N → f i ≤ 1980) {n : Nat} (hn : n ≤ 5) (hnN : n * 4 ≤ N) (K : Q (some (.int (oI (am (far2 f) (pls n n))))) σ) : ∀ (m u : Nat), m + u = n → Wq xs (d + 1) ax_cd168 6 [(4, .int (nI u)), (3, .int (nI (least f (am (far2 f) (pls n u))))), (2, .int (oI (am (far2 f) (pls n u)))), (0, .ref p), (1, .int (nI n))] [] σ Q := by
  intro m
  induction m with
  | zero =>
    intro u hm
    refine wq_go rfl (fun _ => rfl) ?_
    refine wq_go rfl (fun _ => rfl) ?_
    refine wq_cge rfl (by first | omega | decide | exact Nat.lt_of_le_of_lt Nat.and_le_right (by decide) | exact ⟨by omega, by omega⟩) (by first | omega | decide | exact Nat.lt_of_le_of_lt Nat.and_le_right (by decide) | exact ⟨by omega, by omega⟩) (fun c8 => ?_) (fun c => absurd (show _ from by omega) c)
    refine wq_go rfl (fun _ => rfl) ?_
    refine wq_iret rfl ?_
    rw [show u = n by omega]
    exact K
  | succ m ih =>
    intro u hm
    refine wq_go rfl (fun _ => rfl) ?_
    refine wq_go rfl (fun _ => rfl) ?_
    refine wq_cge rfl (by first | omega | decide | exact Nat.lt_of_le_of_lt Nat.and_le_right (by decide) | exact ⟨by omega, by omega⟩) (by first | omega | decide | exact Nat.lt_of_le_of_lt Nat.and_le_right (by decide) | exact ⟨by omega, by omega⟩) (fun c => absurd c (by omega)) (fun c8 => ?_)
    refine wq_go rfl (fun _ => rfl) ?_
    refine wq_cN (m := 1) rfl rfl ?_
    refine wq_addN rfl ?_
    refine wq_go rfl (fun _ => rfl) ?_
    have hi := c_closest_i hkp hlp hp hN hf hn hnN (a := u) (by omega) (fun _ => ih (u + 1) (by omega)) (n - (u + 1)) 0 (by omega)
    rw [show pls n u ++ pl1 u 0 = pls n u from List.append_nil _] at hi
    exact hi
theorem c_State_closest {xs : List Int32} {d : Nat} {σ : Nat → List Value} {Q : Option Value → (Nat → List Value) → Prop} {p N : Nat} {f : Nat → Nat} (hkp : kd p = .inl .int) (hlp : p < 331) (hp : σ p = arrN N f) (hN : N < 2 ^ 30) (hf : ∀ i, i < N → f i ≤ 1980) {n : Nat} (hn : n ≤ 5) (hnN : n * 4 ≤ N) (K : Q (some (.int (oI (am (far2 f) (pls n n))))) σ) : Wq xs (d + 1) ax_cd168 0 [(0, .ref p), (1, .int (nI n))] [] σ Q := by
  refine wq_go rfl (fun _ => rfl) ?_
  refine wq_go rfl (fun _ => rfl) ?_
  refine wq_cN (m := 0) rfl rfl ?_
  refine wq_go rfl (fun _ => rfl) ?_
  refine wq_cN (m := 0) rfl rfl ?_
  refine wq_go rfl (fun _ => rfl) ?_
  exact c_closest_o hkp hlp hp hN hf hn hnN K n 0 rfl
theorem c_State_closestHeads {xs : List Int32} {d : Nat} {σ : Nat → List Value} {Q : Option Value → (Nat → List Value) → Prop} {k : Nat} {S : St} (hk : kd k = .inr 7) (hS : StIs σ k S) (hok : Sok S) {n : Nat} (hn : n ≤ 5) (K : Q (some (.int (oI (am (far2 (Sow S)) (pls n n))))) σ) : Wq xs (d + 2) ax_cd172 0 [(0, .ref k), (1, .int (nI n))] [] σ Q := by
  obtain ⟨hk1, hk2, hk3, hk4, hk5⟩ := St_k hk
  have hkr := St_rng hk
  refine wq_go rfl (fun _ => rfl) ?_
  refine wq_getf rfl (by first | rfl | assumption) (by first | decide | omega | assumption) hS.1 rfl ?_
  refine wq_go rfl (fun _ => rfl) ?_
  refine wq_callS rfl (Nat.le_of_ble_eq_true rfl) rfl (Nat.le_of_ble_eq_true rfl) (Nat.le_of_ble_eq_true rfl) rfl rfl ?_
  refine c_State_closest (by assumption) (by omega) hS.2.2.1 (by decide) (fun i hi => ow_le hok hi) (by omega) (by omega) ?_
  refine wq_iret rfl ?_
  exact K
theorem c_State_closestChairs {xs : List Int32} {d : Nat} {σ : Nat → List Value} {Q : Option Value → (Nat → List Value) → Prop} {k : Nat} {S : St} (hk : kd k = .inr 7) (hS : StIs σ k S) (hok : Sok S) {n : Nat} (hn : n ≤ 4) (K : Q (some (.int (oI (am (far2 (Ssq S)) (pls n n))))) σ) : Wq xs (d + 2) ax_cd167 0 [(0, .ref k), (1, .int (nI n))] [] σ Q := by
  obtain ⟨hk1, hk2, hk3, hk4, hk5⟩ := St_k hk
  have hkr := St_rng hk
  refine wq_go rfl (fun _ => rfl) ?_
  refine wq_getf rfl (by first | rfl | assumption) (by first | decide | omega | assumption) hS.1 rfl ?_
  refine wq_go rfl (fun _ => rfl) ?_
  refine wq_callS rfl (Nat.le_of_ble_eq_true rfl) rfl (Nat.le_of_ble_eq_true rfl) (Nat.le_of_ble_eq_true rfl) rfl rfl ?_
  refine c_State_closest (by assumption) (by omega) hS.2.1 (by decide) (fun i hi => sq_le hok hi) (by omega) (by omega) ?_
  refine wq_iret rfl ?_
  exact K
theorem c_State_headsApart {xs : List Int32} {d : Nat} {σ : Nat → List Value} {Q : Option Value → (Nat → List Value) → Prop} {k : Nat} {S : St} (hk : kd k = .inr 7) (hS : StIs σ k S) (hok : Sok S) {a b : Nat} (ha : a < 5) (hb : b < 5) (K : Q (some (.int (nI (dist (Sow S) a b)))) σ) : Wq xs (d + 1) ax_cd173 0 [(0, .ref k), (1, .int (nI a)), (2, .int (nI b))] [] σ Q := by
  obtain ⟨hk1, hk2, hk3, hk4, hk5⟩ := St_k hk
  have hkr := St_rng hk
  refine wq_go rfl (fun _ => rfl) ?_
  refine wq_getf rfl (by first | rfl | assumption) (by first | decide | omega | assumption) hS.1 rfl ?_
  refine wq_go rfl (fun _ => rfl) ?_
  refine wq_go rfl (fun _ => rfl) ?_
  refine wq_callS rfl (Nat.le_of_ble_eq_true rfl) rfl (Nat.le_of_ble_eq_true rfl) (Nat.le_of_ble_eq_true rfl) rfl rfl ?_
  refine c_State_apart (by assumption) (by omega) hS.2.2.1 (by decide) (fun i hi => ow_le hok hi) (by omega) (by omega) ?_
  refine wq_iret rfl ?_
  exact K
theorem c_State_squaresApart {xs : List Int32} {d : Nat} {σ : Nat → List Value} {Q : Option Value → (Nat → List Value) → Prop} {k : Nat} {S : St} (hk : kd k = .inr 7) (hS : StIs σ k S) (hok : Sok S) {a b : Nat} (ha : a < 4) (hb : b < 4) (K : Q (some (.int (nI (dist (Ssq S) a b)))) σ) : Wq xs (d + 1) ax_cd170 0 [(0, .ref k), (1, .int (nI a)), (2, .int (nI b))] [] σ Q := by
  obtain ⟨hk1, hk2, hk3, hk4, hk5⟩ := St_k hk
  have hkr := St_rng hk
  refine wq_go rfl (fun _ => rfl) ?_
  refine wq_getf rfl (by first | rfl | assumption) (by first | decide | omega | assumption) hS.1 rfl ?_
  refine wq_go rfl (fun _ => rfl) ?_
  refine wq_go rfl (fun _ => rfl) ?_
  refine wq_callS rfl (Nat.le_of_ble_eq_true rfl) rfl (Nat.le_of_ble_eq_true rfl) (Nat.le_of_ble_eq_true rfl) rfl rfl ?_
  refine c_State_apart (by assumption) (by omega) hS.2.1 (by decide) (fun i hi => sq_le hok hi) (by omega) (by omega) ?_
  refine wq_iret rfl ?_
  exact K
