/-! THE LAW'S LOOP -/
section LAWR
variable {xs : List Int32} {d : Nat} {cd : List ax_I} {i a b j m : Nat} {lv : ax_L} {r : List Value} {σ : Nat → List Value} {Q : Option Value → (Nat → List Value) → Prop} {v : Value} {t : List (Int × Nat)}
theorem wq_slen (h : cd[i]? = some (51, a, b, v, t)) (K : Wq xs d cd (i + 1) lv (.int (nI xs.length) :: r) σ Q) : Wq xs d cd i lv (.retAddr 0 :: r) σ Q := by
  refine wp_go h ?_ K
  rw [ax_e51]
  unfold ax_s51
  simp [ax_ro, nI]
theorem wq_sald {x : Int32} (h : cd[i]? = some (52, a, b, v, t)) (hj : x = nI m) (hm : m < xs.length) (hn : xs.length < 2 ^ 31) (K : Wq xs d cd (i + 1) lv (.int (xs.getD m 0) :: r) σ Q) : Wq xs d cd i lv (.int x :: .retAddr 0 :: r) σ Q := by
  obtain ⟨g1, g2⟩ := nI_ok hj hm hn
  refine wp_go h ?_ K
  rw [ax_e52]
  unfold ax_s52
  simp [ax_ro, g1, g2, hm]
theorem wq_swN {x : Int32} {i' : Nat} (h : cd[i]? = some (48, a, b, v, t)) (hx : x = nI j) (hj : j < 2 ^ 31) (ht : (t.lookup (j : Int)).getD a = i') (K : Wq xs d cd i' lv r σ Q) : Wq xs d cd i lv (.int x :: r) σ Q := by
  subst hx
  subst ht
  refine wp_go h ?_ K
  rw [ax_e48]
  unfold ax_s48
  simp [nI_toInt hj]
end LAWR
def Runs (xs : List Int32) (d : Nat) (cd : List ax_I) (lv : ax_L) (σ : Nat → List Value) (r : Option Value) (σ' : Nat → List Value) : Prop := Wq xs d cd 0 lv [] σ (fun r' s' => r' = r ∧ s' = σ')
/-- the class's call and then the reference's, with one answer, and the invariant behind both; n: how many calls went before -/
def PairOK (Inv : Nat → (Nat → List Value) → Prop) (c1 c2 : List ax_I) (as : List Value) : Prop := ∀ (xs : List Int32) (n : Nat) (σ : Nat → List Value), n < 512 → Inv n σ → ∃ (v : Int32) (σ1 σ2 : Nat → List Value), Runs xs 59 c1 (lv_args 0 (.ref 0 :: as)) σ (some (.int v)) σ1 ∧ Runs xs 59 c2 (lv_args 0 (.ref 287 :: as)) σ1 (some (.int v)) σ2 ∧ Inv (n + 1) σ2

set_option maxRecDepth 100000 in
theorem law_c0 {Inv : Nat → (Nat → List Value) → Prop} {xs : List Int32} {n : Nat} {σ : Nat → List Value} {Q : Option Value → (Nat → List Value) → Prop} (hL : xs.length ≤ 3072) (hi : 6 * n + 6 ≤ xs.length) (hI : Inv n σ) (hp : (∀ (a0 a1 a2 a3 a4 : Int32), PairOK Inv ax_cd24 ax_cd222 [.int a0, .int a1, .int a2, .int a3, .int a4])) (K : ∀ s, Inv (n + 1) s → Wq xs 60 ax_cd336 1139 [(3, .int (nI (6 * n))), (2, .ref 287), (1, .ref 0), (0, .retAddr 0)] [] s Q) : Wq xs 60 ax_cd336 22 [(3, .int (nI (6 * n))), (2, .ref 287), (1, .ref 0), (0, .retAddr 0)] [] σ Q := by
  obtain ⟨v, σ1, σ2, h1, h2, h3⟩ := hp (xs.getD (6 * n + 1) 0) (xs.getD (6 * n + 2) 0) (xs.getD (6 * n + 3) 0) (xs.getD (6 * n + 4) 0) (xs.getD (6 * n + 5) 0) xs n σ (by omega) hI
  refine wq_go rfl (fun _ => rfl) ?_
  refine wq_go rfl (fun _ => rfl) ?_
  refine wq_go rfl (fun _ => rfl) ?_
  refine wq_cN (m := 1) rfl rfl ?_
  refine wq_addN rfl ?_
  refine wq_sald rfl rfl (by omega) (by omega) ?_
  refine wq_go rfl (fun _ => rfl) ?_
  refine wq_go rfl (fun _ => rfl) ?_
  refine wq_cN (m := 2) rfl rfl ?_
  refine wq_addN rfl ?_
  refine wq_sald rfl rfl (by omega) (by omega) ?_
  refine wq_go rfl (fun _ => rfl) ?_
  refine wq_go rfl (fun _ => rfl) ?_
  refine wq_cN (m := 3) rfl rfl ?_
  refine wq_addN rfl ?_
  refine wq_sald rfl rfl (by omega) (by omega) ?_
  refine wq_go rfl (fun _ => rfl) ?_
  refine wq_go rfl (fun _ => rfl) ?_
  refine wq_cN (m := 4) rfl rfl ?_
  refine wq_addN rfl ?_
  refine wq_sald rfl rfl (by omega) (by omega) ?_
  refine wq_go rfl (fun _ => rfl) ?_
  refine wq_go rfl (fun _ => rfl) ?_
  refine wq_cN (m := 5) rfl rfl ?_
  refine wq_addN rfl ?_
  refine wq_sald rfl rfl (by omega) (by omega) ?_
  refine wq_callV rfl rfl (by first | rfl | assumption) (by first | decide | omega | assumption) (Nat.le_of_ble_eq_true rfl) (Nat.le_of_ble_eq_true rfl) rfl rfl ?_
  refine Wq.mono h1 (fun r s hq => ?_)
  obtain ⟨rfl, rfl⟩ := hq
  refine wq_go rfl (fun _ => rfl) ?_
  refine wq_go rfl (fun _ => rfl) ?_
  refine wq_go rfl (fun _ => rfl) ?_
  refine wq_cN (m := 1) rfl rfl ?_
  refine wq_addN rfl ?_
  refine wq_sald rfl rfl (by omega) (by omega) ?_
  refine wq_go rfl (fun _ => rfl) ?_
  refine wq_go rfl (fun _ => rfl) ?_
  refine wq_cN (m := 2) rfl rfl ?_
  refine wq_addN rfl ?_
  refine wq_sald rfl rfl (by omega) (by omega) ?_
  refine wq_go rfl (fun _ => rfl) ?_
  refine wq_go rfl (fun _ => rfl) ?_
  refine wq_cN (m := 3) rfl rfl ?_
  refine wq_addN rfl ?_
  refine wq_sald rfl rfl (by omega) (by omega) ?_
  refine wq_go rfl (fun _ => rfl) ?_
  refine wq_go rfl (fun _ => rfl) ?_
  refine wq_cN (m := 4) rfl rfl ?_
  refine wq_addN rfl ?_
  refine wq_sald rfl rfl (by omega) (by omega) ?_
  refine wq_go rfl (fun _ => rfl) ?_
  refine wq_go rfl (fun _ => rfl) ?_
  refine wq_cN (m := 5) rfl rfl ?_
  refine wq_addN rfl ?_
  refine wq_sald rfl rfl (by omega) (by omega) ?_
  refine wq_callV rfl rfl (by first | rfl | assumption) (by first | decide | omega | assumption) (Nat.le_of_ble_eq_true rfl) (Nat.le_of_ble_eq_true rfl) rfl rfl ?_
  refine Wq.mono h2 (fun r s hq => ?_)
  obtain ⟨rfl, rfl⟩ := hq
  refine wq_cmp rfl (fun c76 => ?_) (fun c => absurd (show ax_cmp 0 v v = true from decide_eq_true rfl) (by rw [c]; decide))
  exact K _ h3
set_option maxRecDepth 100000 in
theorem law_c1 {Inv : Nat → (Nat → List Value) → Prop} {xs : List Int32} {n : Nat} {σ : Nat → List Value} {Q : Option Value → (Nat → List Value) → Prop} (hL : xs.length ≤ 3072) (hi : 6 * n + 6 ≤ xs.length) (hI : Inv n σ) (hp : (∀ (a0 : Int32), PairOK Inv ax_cd28 ax_cd224 [.int a0])) (K : ∀ s, Inv (n + 1) s → Wq xs 60 ax_cd336 1139 [(3, .int (nI (6 * n))), (2, .ref 287), (1, .ref 0), (0, .retAddr 0)] [] s Q) : Wq xs 60 ax_cd336 79 [(3, .int (nI (6 * n))), (2, .ref 287), (1, .ref 0), (0, .retAddr 0)] [] σ Q := by
  obtain ⟨v, σ1, σ2, h1, h2, h3⟩ := hp (xs.getD (6 * n + 1) 0) xs n σ (by omega) hI
  refine wq_go rfl (fun _ => rfl) ?_
  refine wq_go rfl (fun _ => rfl) ?_
  refine wq_go rfl (fun _ => rfl) ?_
  refine wq_cN (m := 1) rfl rfl ?_
  refine wq_addN rfl ?_
  refine wq_sald rfl rfl (by omega) (by omega) ?_
  refine wq_callV rfl rfl (by first | rfl | assumption) (by first | decide | omega | assumption) (Nat.le_of_ble_eq_true rfl) (Nat.le_of_ble_eq_true rfl) rfl rfl ?_
  refine Wq.mono h1 (fun r s hq => ?_)
  obtain ⟨rfl, rfl⟩ := hq
  refine wq_go rfl (fun _ => rfl) ?_
  refine wq_go rfl (fun _ => rfl) ?_
  refine wq_go rfl (fun _ => rfl) ?_
  refine wq_cN (m := 1) rfl rfl ?_
  refine wq_addN rfl ?_
  refine wq_sald rfl rfl (by omega) (by omega) ?_
  refine wq_callV rfl rfl (by first | rfl | assumption) (by first | decide | omega | assumption) (Nat.le_of_ble_eq_true rfl) (Nat.le_of_ble_eq_true rfl) rfl rfl ?_
  refine Wq.mono h2 (fun r s hq => ?_)
  obtain ⟨rfl, rfl⟩ := hq
  refine wq_cmp rfl (fun c93 => ?_) (fun c => absurd (show ax_cmp 0 v v = true from decide_eq_true rfl) (by rw [c]; decide))
  exact K _ h3
set_option maxRecDepth 100000 in
theorem law_c2 {Inv : Nat → (Nat → List Value) → Prop} {xs : List Int32} {n : Nat} {σ : Nat → List Value} {Q : Option Value → (Nat → List Value) → Prop} (hL : xs.length ≤ 3072) (hi : 6 * n + 6 ≤ xs.length) (hI : Inv n σ) (hp : (PairOK Inv ax_cd30 ax_cd225 [])) (K : ∀ s, Inv (n + 1) s → Wq xs 60 ax_cd336 1139 [(3, .int (nI (6 * n))), (2, .ref 287), (1, .ref 0), (0, .retAddr 0)] [] s Q) : Wq xs 60 ax_cd336 96 [(3, .int (nI (6 * n))), (2, .ref 287), (1, .ref 0), (0, .retAddr 0)] [] σ Q := by
  obtain ⟨v, σ1, σ2, h1, h2, h3⟩ := hp  xs n σ (by omega) hI
  refine wq_go rfl (fun _ => rfl) ?_
  refine wq_callV rfl rfl (by first | rfl | assumption) (by first | decide | omega | assumption) (Nat.le_of_ble_eq_true rfl) (Nat.le_of_ble_eq_true rfl) rfl rfl ?_
  refine Wq.mono h1 (fun r s hq => ?_)
  obtain ⟨rfl, rfl⟩ := hq
  refine wq_go rfl (fun _ => rfl) ?_
  refine wq_callV rfl rfl (by first | rfl | assumption) (by first | decide | omega | assumption) (Nat.le_of_ble_eq_true rfl) (Nat.le_of_ble_eq_true rfl) rfl rfl ?_
  refine Wq.mono h2 (fun r s hq => ?_)
  obtain ⟨rfl, rfl⟩ := hq
  refine wq_cmp rfl (fun c100 => ?_) (fun c => absurd (show ax_cmp 0 v v = true from decide_eq_true rfl) (by rw [c]; decide))
  exact K _ h3
set_option maxRecDepth 100000 in
theorem law_c3 {Inv : Nat → (Nat → List Value) → Prop} {xs : List Int32} {n : Nat} {σ : Nat → List Value} {Q : Option Value → (Nat → List Value) → Prop} (hL : xs.length ≤ 3072) (hi : 6 * n + 6 ≤ xs.length) (hI : Inv n σ) (hp : (PairOK Inv ax_cd83 ax_cd251 [])) (K : ∀ s, Inv (n + 1) s → Wq xs 60 ax_cd336 1139 [(3, .int (nI (6 * n))), (2, .ref 287), (1, .ref 0), (0, .retAddr 0)] [] s Q) : Wq xs 60 ax_cd336 103 [(3, .int (nI (6 * n))), (2, .ref 287), (1, .ref 0), (0, .retAddr 0)] [] σ Q := by
  obtain ⟨v, σ1, σ2, h1, h2, h3⟩ := hp  xs n σ (by omega) hI
  refine wq_go rfl (fun _ => rfl) ?_
  refine wq_callV rfl rfl (by first | rfl | assumption) (by first | decide | omega | assumption) (Nat.le_of_ble_eq_true rfl) (Nat.le_of_ble_eq_true rfl) rfl rfl ?_
  refine Wq.mono h1 (fun r s hq => ?_)
  obtain ⟨rfl, rfl⟩ := hq
  refine wq_go rfl (fun _ => rfl) ?_
  refine wq_callV rfl rfl (by first | rfl | assumption) (by first | decide | omega | assumption) (Nat.le_of_ble_eq_true rfl) (Nat.le_of_ble_eq_true rfl) rfl rfl ?_
  refine Wq.mono h2 (fun r s hq => ?_)
  obtain ⟨rfl, rfl⟩ := hq
  refine wq_cmp rfl (fun c107 => ?_) (fun c => absurd (show ax_cmp 0 v v = true from decide_eq_true rfl) (by rw [c]; decide))
  exact K _ h3
set_option maxRecDepth 100000 in
theorem law_c4 {Inv : Nat → (Nat → List Value) → Prop} {xs : List Int32} {n : Nat} {σ : Nat → List Value} {Q : Option Value → (Nat → List Value) → Prop} (hL : xs.length ≤ 3072) (hi : 6 * n + 6 ≤ xs.length) (hI : Inv n σ) (hp : (∀ (a0 a1 : Int32), PairOK Inv ax_cd85 ax_cd252 [.int a0, .int a1])) (K : ∀ s, Inv (n + 1) s → Wq xs 60 ax_cd336 1139 [(3, .int (nI (6 * n))), (2, .ref 287), (1, .ref 0), (0, .retAddr 0)] [] s Q) : Wq xs 60 ax_cd336 110 [(3, .int (nI (6 * n))), (2, .ref 287), (1, .ref 0), (0, .retAddr 0)] [] σ Q := by
  obtain ⟨v, σ1, σ2, h1, h2, h3⟩ := hp (xs.getD (6 * n + 1) 0) (xs.getD (6 * n + 2) 0) xs n σ (by omega) hI
  refine wq_go rfl (fun _ => rfl) ?_
  refine wq_go rfl (fun _ => rfl) ?_
  refine wq_go rfl (fun _ => rfl) ?_
  refine wq_cN (m := 1) rfl rfl ?_
  refine wq_addN rfl ?_
  refine wq_sald rfl rfl (by omega) (by omega) ?_
  refine wq_go rfl (fun _ => rfl) ?_
  refine wq_go rfl (fun _ => rfl) ?_
  refine wq_cN (m := 2) rfl rfl ?_
  refine wq_addN rfl ?_
  refine wq_sald rfl rfl (by omega) (by omega) ?_
  refine wq_callV rfl rfl (by first | rfl | assumption) (by first | decide | omega | assumption) (Nat.le_of_ble_eq_true rfl) (Nat.le_of_ble_eq_true rfl) rfl rfl ?_
  refine Wq.mono h1 (fun r s hq => ?_)
  obtain ⟨rfl, rfl⟩ := hq
  refine wq_go rfl (fun _ => rfl) ?_
  refine wq_go rfl (fun _ => rfl) ?_
  refine wq_go rfl (fun _ => rfl) ?_
  refine wq_cN (m := 1) rfl rfl ?_
  refine wq_addN rfl ?_
  refine wq_sald rfl rfl (by omega) (by omega) ?_
  refine wq_go rfl (fun _ => rfl) ?_
  refine wq_go rfl (fun _ => rfl) ?_
  refine wq_cN (m := 2) rfl rfl ?_
  refine wq_addN rfl ?_
  refine wq_sald rfl rfl (by omega) (by omega) ?_
  refine wq_callV rfl rfl (by first | rfl | assumption) (by first | decide | omega | assumption) (Nat.le_of_ble_eq_true rfl) (Nat.le_of_ble_eq_true rfl) rfl rfl ?_
  refine Wq.mono h2 (fun r s hq => ?_)
  obtain ⟨rfl, rfl⟩ := hq
  refine wq_cmp rfl (fun c134 => ?_) (fun c => absurd (show ax_cmp 0 v v = true from decide_eq_true rfl) (by rw [c]; decide))
  exact K _ h3
set_option maxRecDepth 100000 in
theorem law_c5 {Inv : Nat → (Nat → List Value) → Prop} {xs : List Int32} {n : Nat} {σ : Nat → List Value} {Q : Option Value → (Nat → List Value) → Prop} (hL : xs.length ≤ 3072) (hi : 6 * n + 6 ≤ xs.length) (hI : Inv n σ) (hp : (∀ (a0 a1 : Int32), PairOK Inv ax_cd91 ax_cd255 [.int a0, .int a1])) (K : ∀ s, Inv (n + 1) s → Wq xs 60 ax_cd336 1139 [(3, .int (nI (6 * n))), (2, .ref 287), (1, .ref 0), (0, .retAddr 0)] [] s Q) : Wq xs 60 ax_cd336 137 [(3, .int (nI (6 * n))), (2, .ref 287), (1, .ref 0), (0, .retAddr 0)] [] σ Q := by
  obtain ⟨v, σ1, σ2, h1, h2, h3⟩ := hp (xs.getD (6 * n + 1) 0) (xs.getD (6 * n + 2) 0) xs n σ (by omega) hI
  refine wq_go rfl (fun _ => rfl) ?_
  refine wq_go rfl (fun _ => rfl) ?_
  refine wq_go rfl (fun _ => rfl) ?_
  refine wq_cN (m := 1) rfl rfl ?_
  refine wq_addN rfl ?_
  refine wq_sald rfl rfl (by omega) (by omega) ?_
  refine wq_go rfl (fun _ => rfl) ?_
  refine wq_go rfl (fun _ => rfl) ?_
  refine wq_cN (m := 2) rfl rfl ?_
  refine wq_addN rfl ?_
  refine wq_sald rfl rfl (by omega) (by omega) ?_
  refine wq_callV rfl rfl (by first | rfl | assumption) (by first | decide | omega | assumption) (Nat.le_of_ble_eq_true rfl) (Nat.le_of_ble_eq_true rfl) rfl rfl ?_
  refine Wq.mono h1 (fun r s hq => ?_)
  obtain ⟨rfl, rfl⟩ := hq
  refine wq_go rfl (fun _ => rfl) ?_
  refine wq_go rfl (fun _ => rfl) ?_
  refine wq_go rfl (fun _ => rfl) ?_
  refine wq_cN (m := 1) rfl rfl ?_
  refine wq_addN rfl ?_
  refine wq_sald rfl rfl (by omega) (by omega) ?_
  refine wq_go rfl (fun _ => rfl) ?_
  refine wq_go rfl (fun _ => rfl) ?_
  refine wq_cN (m := 2) rfl rfl ?_
  refine wq_addN rfl ?_
  refine wq_sald rfl rfl (by omega) (by omega) ?_
  refine wq_callV rfl rfl (by first | rfl | assumption) (by first | decide | omega | assumption) (Nat.le_of_ble_eq_true rfl) (Nat.le_of_ble_eq_true rfl) rfl rfl ?_
  refine Wq.mono h2 (fun r s hq => ?_)
  obtain ⟨rfl, rfl⟩ := hq
  refine wq_cmp rfl (fun c161 => ?_) (fun c => absurd (show ax_cmp 0 v v = true from decide_eq_true rfl) (by rw [c]; decide))
  exact K _ h3
set_option maxRecDepth 100000 in
theorem law_c6 {Inv : Nat → (Nat → List Value) → Prop} {xs : List Int32} {n : Nat} {σ : Nat → List Value} {Q : Option Value → (Nat → List Value) → Prop} (hL : xs.length ≤ 3072) (hi : 6 * n + 6 ≤ xs.length) (hI : Inv n σ) (hp : (∀ (a0 a1 : Int32), PairOK Inv ax_cd96 ax_cd260 [.int a0, .int a1])) (K : ∀ s, Inv (n + 1) s → Wq xs 60 ax_cd336 1139 [(3, .int (nI (6 * n))), (2, .ref 287), (1, .ref 0), (0, .retAddr 0)] [] s Q) : Wq xs 60 ax_cd336 164 [(3, .int (nI (6 * n))), (2, .ref 287), (1, .ref 0), (0, .retAddr 0)] [] σ Q := by
  obtain ⟨v, σ1, σ2, h1, h2, h3⟩ := hp (xs.getD (6 * n + 1) 0) (xs.getD (6 * n + 2) 0) xs n σ (by omega) hI
  refine wq_go rfl (fun _ => rfl) ?_
  refine wq_go rfl (fun _ => rfl) ?_
  refine wq_go rfl (fun _ => rfl) ?_
  refine wq_cN (m := 1) rfl rfl ?_
  refine wq_addN rfl ?_
  refine wq_sald rfl rfl (by omega) (by omega) ?_
  refine wq_go rfl (fun _ => rfl) ?_
  refine wq_go rfl (fun _ => rfl) ?_
  refine wq_cN (m := 2) rfl rfl ?_
  refine wq_addN rfl ?_
  refine wq_sald rfl rfl (by omega) (by omega) ?_
  refine wq_callV rfl rfl (by first | rfl | assumption) (by first | decide | omega | assumption) (Nat.le_of_ble_eq_true rfl) (Nat.le_of_ble_eq_true rfl) rfl rfl ?_
  refine Wq.mono h1 (fun r s hq => ?_)
  obtain ⟨rfl, rfl⟩ := hq
  refine wq_go rfl (fun _ => rfl) ?_
  refine wq_go rfl (fun _ => rfl) ?_
  refine wq_go rfl (fun _ => rfl) ?_
  refine wq_cN (m := 1) rfl rfl ?_
  refine wq_addN rfl ?_
  refine wq_sald rfl rfl (by omega) (by omega) ?_
  refine wq_go rfl (fun _ => rfl) ?_
  refine wq_go rfl (fun _ => rfl) ?_
  refine wq_cN (m := 2) rfl rfl ?_
  refine wq_addN rfl ?_
  refine wq_sald rfl rfl (by omega) (by omega) ?_
  refine wq_callV rfl rfl (by first | rfl | assumption) (by first | decide | omega | assumption) (Nat.le_of_ble_eq_true rfl) (Nat.le_of_ble_eq_true rfl) rfl rfl ?_
  refine Wq.mono h2 (fun r s hq => ?_)
  obtain ⟨rfl, rfl⟩ := hq
  refine wq_cmp rfl (fun c188 => ?_) (fun c => absurd (show ax_cmp 0 v v = true from decide_eq_true rfl) (by rw [c]; decide))
  exact K _ h3
set_option maxRecDepth 100000 in
theorem law_c7 {Inv : Nat → (Nat → List Value) → Prop} {xs : List Int32} {n : Nat} {σ : Nat → List Value} {Q : Option Value → (Nat → List Value) → Prop} (hL : xs.length ≤ 3072) (hi : 6 * n + 6 ≤ xs.length) (hI : Inv n σ) (hp : (∀ (a0 a1 a2 a3 : Int32), PairOK Inv ax_cd102 ax_cd262 [.int a0, .int a1, .int a2, .int a3])) (K : ∀ s, Inv (n + 1) s → Wq xs 60 ax_cd336 1139 [(3, .int (nI (6 * n))), (2, .ref 287), (1, .ref 0), (0, .retAddr 0)] [] s Q) : Wq xs 60 ax_cd336 191 [(3, .int (nI (6 * n))), (2, .ref 287), (1, .ref 0), (0, .retAddr 0)] [] σ Q := by
  obtain ⟨v, σ1, σ2, h1, h2, h3⟩ := hp (xs.getD (6 * n + 1) 0) (xs.getD (6 * n + 2) 0) (xs.getD (6 * n + 3) 0) (xs.getD (6 * n + 4) 0) xs n σ (by omega) hI
  refine wq_go rfl (fun _ => rfl) ?_
  refine wq_go rfl (fun _ => rfl) ?_
  refine wq_go rfl (fun _ => rfl) ?_
  refine wq_cN (m := 1) rfl rfl ?_
  refine wq_addN rfl ?_
  refine wq_sald rfl rfl (by omega) (by omega) ?_
  refine wq_go rfl (fun _ => rfl) ?_
  refine wq_go rfl (fun _ => rfl) ?_
  refine wq_cN (m := 2) rfl rfl ?_
  refine wq_addN rfl ?_
  refine wq_sald rfl rfl (by omega) (by omega) ?_
  refine wq_go rfl (fun _ => rfl) ?_
  refine wq_go rfl (fun _ => rfl) ?_
  refine wq_cN (m := 3) rfl rfl ?_
  refine wq_addN rfl ?_
  refine wq_sald rfl rfl (by omega) (by omega) ?_
  refine wq_go rfl (fun _ => rfl) ?_
  refine wq_go rfl (fun _ => rfl) ?_
  refine wq_cN (m := 4) rfl rfl ?_
  refine wq_addN rfl ?_
  refine wq_sald rfl rfl (by omega) (by omega) ?_
  refine wq_callV rfl rfl (by first | rfl | assumption) (by first | decide | omega | assumption) (Nat.le_of_ble_eq_true rfl) (Nat.le_of_ble_eq_true rfl) rfl rfl ?_
  refine Wq.mono h1 (fun r s hq => ?_)
  obtain ⟨rfl, rfl⟩ := hq
  refine wq_go rfl (fun _ => rfl) ?_
  refine wq_go rfl (fun _ => rfl) ?_
  refine wq_go rfl (fun _ => rfl) ?_
  refine wq_cN (m := 1) rfl rfl ?_
  refine wq_addN rfl ?_
  refine wq_sald rfl rfl (by omega) (by omega) ?_
  refine wq_go rfl (fun _ => rfl) ?_
  refine wq_go rfl (fun _ => rfl) ?_
  refine wq_cN (m := 2) rfl rfl ?_
  refine wq_addN rfl ?_
  refine wq_sald rfl rfl (by omega) (by omega) ?_
  refine wq_go rfl (fun _ => rfl) ?_
  refine wq_go rfl (fun _ => rfl) ?_
  refine wq_cN (m := 3) rfl rfl ?_
  refine wq_addN rfl ?_
  refine wq_sald rfl rfl (by omega) (by omega) ?_
  refine wq_go rfl (fun _ => rfl) ?_
  refine wq_go rfl (fun _ => rfl) ?_
  refine wq_cN (m := 4) rfl rfl ?_
  refine wq_addN rfl ?_
  refine wq_sald rfl rfl (by omega) (by omega) ?_
  refine wq_callV rfl rfl (by first | rfl | assumption) (by first | decide | omega | assumption) (Nat.le_of_ble_eq_true rfl) (Nat.le_of_ble_eq_true rfl) rfl rfl ?_
  refine Wq.mono h2 (fun r s hq => ?_)
  obtain ⟨rfl, rfl⟩ := hq
  refine wq_cmp rfl (fun c235 => ?_) (fun c => absurd (show ax_cmp 0 v v = true from decide_eq_true rfl) (by rw [c]; decide))
  exact K _ h3
set_option maxRecDepth 100000 in
theorem law_c8 {Inv : Nat → (Nat → List Value) → Prop} {xs : List Int32} {n : Nat} {σ : Nat → List Value} {Q : Option Value → (Nat → List Value) → Prop} (hL : xs.length ≤ 3072) (hi : 6 * n + 6 ≤ xs.length) (hI : Inv n σ) (hp : (∀ (a0 a1 : Int32), PairOK Inv ax_cd117 ax_cd274 [.int a0, .int a1])) (K : ∀ s, Inv (n + 1) s → Wq xs 60 ax_cd336 1139 [(3, .int (nI (6 * n))), (2, .ref 287), (1, .ref 0), (0, .retAddr 0)] [] s Q) : Wq xs 60 ax_cd336 238 [(3, .int (nI (6 * n))), (2, .ref 287), (1, .ref 0), (0, .retAddr 0)] [] σ Q := by
  obtain ⟨v, σ1, σ2, h1, h2, h3⟩ := hp (xs.getD (6 * n + 1) 0) (xs.getD (6 * n + 2) 0) xs n σ (by omega) hI
  refine wq_go rfl (fun _ => rfl) ?_
  refine wq_go rfl (fun _ => rfl) ?_
  refine wq_go rfl (fun _ => rfl) ?_
  refine wq_cN (m := 1) rfl rfl ?_
  refine wq_addN rfl ?_
  refine wq_sald rfl rfl (by omega) (by omega) ?_
  refine wq_go rfl (fun _ => rfl) ?_
  refine wq_go rfl (fun _ => rfl) ?_
  refine wq_cN (m := 2) rfl rfl ?_
  refine wq_addN rfl ?_
  refine wq_sald rfl rfl (by omega) (by omega) ?_
  refine wq_callV rfl rfl (by first | rfl | assumption) (by first | decide | omega | assumption) (Nat.le_of_ble_eq_true rfl) (Nat.le_of_ble_eq_true rfl) rfl rfl ?_
  refine Wq.mono h1 (fun r s hq => ?_)
  obtain ⟨rfl, rfl⟩ := hq
  refine wq_go rfl (fun _ => rfl) ?_
  refine wq_go rfl (fun _ => rfl) ?_
  refine wq_go rfl (fun _ => rfl) ?_
  refine wq_cN (m := 1) rfl rfl ?_
  refine wq_addN rfl ?_
  refine wq_sald rfl rfl (by omega) (by omega) ?_
  refine wq_go rfl (fun _ => rfl) ?_
  refine wq_go rfl (fun _ => rfl) ?_
  refine wq_cN (m := 2) rfl rfl ?_
  refine wq_addN rfl ?_
  refine wq_sald rfl rfl (by omega) (by omega) ?_
  refine wq_callV rfl rfl (by first | rfl | assumption) (by first | decide | omega | assumption) (Nat.le_of_ble_eq_true rfl) (Nat.le_of_ble_eq_true rfl) rfl rfl ?_
  refine Wq.mono h2 (fun r s hq => ?_)
  obtain ⟨rfl, rfl⟩ := hq
  refine wq_cmp rfl (fun c262 => ?_) (fun c => absurd (show ax_cmp 0 v v = true from decide_eq_true rfl) (by rw [c]; decide))
  exact K _ h3
set_option maxRecDepth 100000 in
theorem law_c9 {Inv : Nat → (Nat → List Value) → Prop} {xs : List Int32} {n : Nat} {σ : Nat → List Value} {Q : Option Value → (Nat → List Value) → Prop} (hL : xs.length ≤ 3072) (hi : 6 * n + 6 ≤ xs.length) (hI : Inv n σ) (hp : (∀ (a0 : Int32), PairOK Inv ax_cd124 ax_cd277 [.int a0])) (K : ∀ s, Inv (n + 1) s → Wq xs 60 ax_cd336 1139 [(3, .int (nI (6 * n))), (2, .ref 287), (1, .ref 0), (0, .retAddr 0)] [] s Q) : Wq xs 60 ax_cd336 265 [(3, .int (nI (6 * n))), (2, .ref 287), (1, .ref 0), (0, .retAddr 0)] [] σ Q := by
  obtain ⟨v, σ1, σ2, h1, h2, h3⟩ := hp (xs.getD (6 * n + 1) 0) xs n σ (by omega) hI
  refine wq_go rfl (fun _ => rfl) ?_
  refine wq_go rfl (fun _ => rfl) ?_
  refine wq_go rfl (fun _ => rfl) ?_
  refine wq_cN (m := 1) rfl rfl ?_
  refine wq_addN rfl ?_
  refine wq_sald rfl rfl (by omega) (by omega) ?_
  refine wq_callV rfl rfl (by first | rfl | assumption) (by first | decide | omega | assumption) (Nat.le_of_ble_eq_true rfl) (Nat.le_of_ble_eq_true rfl) rfl rfl ?_
  refine Wq.mono h1 (fun r s hq => ?_)
  obtain ⟨rfl, rfl⟩ := hq
  refine wq_go rfl (fun _ => rfl) ?_
  refine wq_go rfl (fun _ => rfl) ?_
  refine wq_go rfl (fun _ => rfl) ?_
  refine wq_cN (m := 1) rfl rfl ?_
  refine wq_addN rfl ?_
  refine wq_sald rfl rfl (by omega) (by omega) ?_
  refine wq_callV rfl rfl (by first | rfl | assumption) (by first | decide | omega | assumption) (Nat.le_of_ble_eq_true rfl) (Nat.le_of_ble_eq_true rfl) rfl rfl ?_
  refine Wq.mono h2 (fun r s hq => ?_)
  obtain ⟨rfl, rfl⟩ := hq
  refine wq_cmp rfl (fun c279 => ?_) (fun c => absurd (show ax_cmp 0 v v = true from decide_eq_true rfl) (by rw [c]; decide))
  exact K _ h3
set_option maxRecDepth 100000 in
theorem law_c10 {Inv : Nat → (Nat → List Value) → Prop} {xs : List Int32} {n : Nat} {σ : Nat → List Value} {Q : Option Value → (Nat → List Value) → Prop} (hL : xs.length ≤ 3072) (hi : 6 * n + 6 ≤ xs.length) (hI : Inv n σ) (hp : (∀ (a0 : Int32), PairOK Inv ax_cd128 ax_cd279 [.int a0])) (K : ∀ s, Inv (n + 1) s → Wq xs 60 ax_cd336 1139 [(3, .int (nI (6 * n))), (2, .ref 287), (1, .ref 0), (0, .retAddr 0)] [] s Q) : Wq xs 60 ax_cd336 282 [(3, .int (nI (6 * n))), (2, .ref 287), (1, .ref 0), (0, .retAddr 0)] [] σ Q := by
  obtain ⟨v, σ1, σ2, h1, h2, h3⟩ := hp (xs.getD (6 * n + 1) 0) xs n σ (by omega) hI
  refine wq_go rfl (fun _ => rfl) ?_
  refine wq_go rfl (fun _ => rfl) ?_
  refine wq_go rfl (fun _ => rfl) ?_
  refine wq_cN (m := 1) rfl rfl ?_
  refine wq_addN rfl ?_
  refine wq_sald rfl rfl (by omega) (by omega) ?_
  refine wq_callV rfl rfl (by first | rfl | assumption) (by first | decide | omega | assumption) (Nat.le_of_ble_eq_true rfl) (Nat.le_of_ble_eq_true rfl) rfl rfl ?_
  refine Wq.mono h1 (fun r s hq => ?_)
  obtain ⟨rfl, rfl⟩ := hq
  refine wq_go rfl (fun _ => rfl) ?_
  refine wq_go rfl (fun _ => rfl) ?_
  refine wq_go rfl (fun _ => rfl) ?_
  refine wq_cN (m := 1) rfl rfl ?_
  refine wq_addN rfl ?_
  refine wq_sald rfl rfl (by omega) (by omega) ?_
  refine wq_callV rfl rfl (by first | rfl | assumption) (by first | decide | omega | assumption) (Nat.le_of_ble_eq_true rfl) (Nat.le_of_ble_eq_true rfl) rfl rfl ?_
  refine Wq.mono h2 (fun r s hq => ?_)
  obtain ⟨rfl, rfl⟩ := hq
  refine wq_cmp rfl (fun c296 => ?_) (fun c => absurd (show ax_cmp 0 v v = true from decide_eq_true rfl) (by rw [c]; decide))
  exact K _ h3
set_option maxRecDepth 100000 in
theorem law_c11 {Inv : Nat → (Nat → List Value) → Prop} {xs : List Int32} {n : Nat} {σ : Nat → List Value} {Q : Option Value → (Nat → List Value) → Prop} (hL : xs.length ≤ 3072) (hi : 6 * n + 6 ≤ xs.length) (hI : Inv n σ) (hp : (∀ (a0 a1 : Int32), PairOK Inv ax_cd129 ax_cd280 [.int a0, .int a1])) (K : ∀ s, Inv (n + 1) s → Wq xs 60 ax_cd336 1139 [(3, .int (nI (6 * n))), (2, .ref 287), (1, .ref 0), (0, .retAddr 0)] [] s Q) : Wq xs 60 ax_cd336 299 [(3, .int (nI (6 * n))), (2, .ref 287), (1, .ref 0), (0, .retAddr 0)] [] σ Q := by
  obtain ⟨v, σ1, σ2, h1, h2, h3⟩ := hp (xs.getD (6 * n + 1) 0) (xs.getD (6 * n + 2) 0) xs n σ (by omega) hI
  refine wq_go rfl (fun _ => rfl) ?_
  refine wq_go rfl (fun _ => rfl) ?_
  refine wq_go rfl (fun _ => rfl) ?_
  refine wq_cN (m := 1) rfl rfl ?_
  refine wq_addN rfl ?_
  refine wq_sald rfl rfl (by omega) (by omega) ?_
  refine wq_go rfl (fun _ => rfl) ?_
  refine wq_go rfl (fun _ => rfl) ?_
  refine wq_cN (m := 2) rfl rfl ?_
  refine wq_addN rfl ?_
  refine wq_sald rfl rfl (by omega) (by omega) ?_
  refine wq_callV rfl rfl (by first | rfl | assumption) (by first | decide | omega | assumption) (Nat.le_of_ble_eq_true rfl) (Nat.le_of_ble_eq_true rfl) rfl rfl ?_
  refine Wq.mono h1 (fun r s hq => ?_)
  obtain ⟨rfl, rfl⟩ := hq
  refine wq_go rfl (fun _ => rfl) ?_
  refine wq_go rfl (fun _ => rfl) ?_
  refine wq_go rfl (fun _ => rfl) ?_
  refine wq_cN (m := 1) rfl rfl ?_
  refine wq_addN rfl ?_
  refine wq_sald rfl rfl (by omega) (by omega) ?_
  refine wq_go rfl (fun _ => rfl) ?_
  refine wq_go rfl (fun _ => rfl) ?_
  refine wq_cN (m := 2) rfl rfl ?_
  refine wq_addN rfl ?_
  refine wq_sald rfl rfl (by omega) (by omega) ?_
  refine wq_callV rfl rfl (by first | rfl | assumption) (by first | decide | omega | assumption) (Nat.le_of_ble_eq_true rfl) (Nat.le_of_ble_eq_true rfl) rfl rfl ?_
  refine Wq.mono h2 (fun r s hq => ?_)
  obtain ⟨rfl, rfl⟩ := hq
  refine wq_cmp rfl (fun c323 => ?_) (fun c => absurd (show ax_cmp 0 v v = true from decide_eq_true rfl) (by rw [c]; decide))
  exact K _ h3
set_option maxRecDepth 100000 in
theorem law_c12 {Inv : Nat → (Nat → List Value) → Prop} {xs : List Int32} {n : Nat} {σ : Nat → List Value} {Q : Option Value → (Nat → List Value) → Prop} (hL : xs.length ≤ 3072) (hi : 6 * n + 6 ≤ xs.length) (hI : Inv n σ) (hp : (∀ (a0 a1 : Int32), (a1 = 0 ∨ a1 = 1) → PairOK Inv ax_cd131 ax_cd282 [.int a0, .int a1])) (K : ∀ s, Inv (n + 1) s → Wq xs 60 ax_cd336 1139 [(3, .int (nI (6 * n))), (2, .ref 287), (1, .ref 0), (0, .retAddr 0)] [] s Q) : Wq xs 60 ax_cd336 326 [(3, .int (nI (6 * n))), (2, .ref 287), (1, .ref 0), (0, .retAddr 0)] [] σ Q := by
  by_cases hb : xs.getD (6 * n + 2) 0 = 0
  · skip
    obtain ⟨v, σ1, σ2, h1, h2, h3⟩ := hp (xs.getD (6 * n + 1) 0) (0) (Or.inl rfl) xs n σ (by omega) hI
    refine wq_go rfl (fun _ => rfl) ?_
    refine wq_go rfl (fun _ => rfl) ?_
    refine wq_go rfl (fun _ => rfl) ?_
    refine wq_cN (m := 1) rfl rfl ?_
    refine wq_addN rfl ?_
    refine wq_sald rfl rfl (by omega) (by omega) ?_
    refine wq_go rfl (fun _ => rfl) ?_
    refine wq_go rfl (fun _ => rfl) ?_
    refine wq_cN (m := 2) rfl rfl ?_
    refine wq_addN rfl ?_
    refine wq_sald rfl rfl (by omega) (by omega) ?_
    refine wq_if rfl (fun c337 => ?_) (fun c => absurd (show ax_cmp 0 (xs.getD (6 * n + 2) 0) 0 = true from by rw [hb]; rfl) (by rw [c]; decide))
    refine wq_cN (m := 0) rfl rfl ?_
    refine wq_callV rfl rfl (by first | rfl | assumption) (by first | decide | omega | assumption) (Nat.le_of_ble_eq_true rfl) (Nat.le_of_ble_eq_true rfl) rfl rfl ?_
    refine Wq.mono h1 (fun r s hq => ?_)
    obtain ⟨rfl, rfl⟩ := hq
    refine wq_go rfl (fun _ => rfl) ?_
    refine wq_go rfl (fun _ => rfl) ?_
    refine wq_go rfl (fun _ => rfl) ?_
    refine wq_cN (m := 1) rfl rfl ?_
    refine wq_addN rfl ?_
    refine wq_sald rfl rfl (by omega) (by omega) ?_
    refine wq_go rfl (fun _ => rfl) ?_
    refine wq_go rfl (fun _ => rfl) ?_
    refine wq_cN (m := 2) rfl rfl ?_
    refine wq_addN rfl ?_
    refine wq_sald rfl rfl (by omega) (by omega) ?_
    refine wq_if rfl (fun c353 => ?_) (fun c => absurd (show ax_cmp 0 (xs.getD (6 * n + 2) 0) 0 = true from by rw [hb]; rfl) (by rw [c]; decide))
    refine wq_cN (m := 0) rfl rfl ?_
    refine wq_callV rfl rfl (by first | rfl | assumption) (by first | decide | omega | assumption) (Nat.le_of_ble_eq_true rfl) (Nat.le_of_ble_eq_true rfl) rfl rfl ?_
    refine Wq.mono h2 (fun r s hq => ?_)
    obtain ⟨rfl, rfl⟩ := hq
    refine wq_cmp rfl (fun c358 => ?_) (fun c => absurd (show ax_cmp 0 v v = true from decide_eq_true rfl) (by rw [c]; decide))
    exact K _ h3
  · skip
    obtain ⟨v, σ1, σ2, h1, h2, h3⟩ := hp (xs.getD (6 * n + 1) 0) (1) (Or.inr rfl) xs n σ (by omega) hI
    refine wq_go rfl (fun _ => rfl) ?_
    refine wq_go rfl (fun _ => rfl) ?_
    refine wq_go rfl (fun _ => rfl) ?_
    refine wq_cN (m := 1) rfl rfl ?_
    refine wq_addN rfl ?_
    refine wq_sald rfl rfl (by omega) (by omega) ?_
    refine wq_go rfl (fun _ => rfl) ?_
    refine wq_go rfl (fun _ => rfl) ?_
    refine wq_cN (m := 2) rfl rfl ?_
    refine wq_addN rfl ?_
    refine wq_sald rfl rfl (by omega) (by omega) ?_
    refine wq_if rfl (fun c => absurd (show ax_cmp 0 (xs.getD (6 * n + 2) 0) 0 = false from decide_eq_false hb) (by rw [c]; decide)) (fun c337 => ?_)
    refine wq_cN (m := 1) rfl rfl ?_
    refine wq_go rfl (fun _ => rfl) ?_
    refine wq_callV rfl rfl (by first | rfl | assumption) (by first | decide | omega | assumption) (Nat.le_of_ble_eq_true rfl) (Nat.le_of_ble_eq_true rfl) rfl rfl ?_
    refine Wq.mono h1 (fun r s hq => ?_)
    obtain ⟨rfl, rfl⟩ := hq
    refine wq_go rfl (fun _ => rfl) ?_
    refine wq_go rfl (fun _ => rfl) ?_
    refine wq_go rfl (fun _ => rfl) ?_
    refine wq_cN (m := 1) rfl rfl ?_
    refine wq_addN rfl ?_
    refine wq_sald rfl rfl (by omega) (by omega) ?_
    refine wq_go rfl (fun _ => rfl) ?_
    refine wq_go rfl (fun _ => rfl) ?_
    refine wq_cN (m := 2) rfl rfl ?_
    refine wq_addN rfl ?_
    refine wq_sald rfl rfl (by omega) (by omega) ?_
    refine wq_if rfl (fun c => absurd (show ax_cmp 0 (xs.getD (6 * n + 2) 0) 0 = false from decide_eq_false hb) (by rw [c]; decide)) (fun c353 => ?_)
    refine wq_cN (m := 1) rfl rfl ?_
    refine wq_go rfl (fun _ => rfl) ?_
    refine wq_callV rfl rfl (by first | rfl | assumption) (by first | decide | omega | assumption) (Nat.le_of_ble_eq_true rfl) (Nat.le_of_ble_eq_true rfl) rfl rfl ?_
    refine Wq.mono h2 (fun r s hq => ?_)
    obtain ⟨rfl, rfl⟩ := hq
    refine wq_cmp rfl (fun c358 => ?_) (fun c => absurd (show ax_cmp 0 v v = true from decide_eq_true rfl) (by rw [c]; decide))
    exact K _ h3
set_option maxRecDepth 100000 in
theorem law_c13 {Inv : Nat → (Nat → List Value) → Prop} {xs : List Int32} {n : Nat} {σ : Nat → List Value} {Q : Option Value → (Nat → List Value) → Prop} (hL : xs.length ≤ 3072) (hi : 6 * n + 6 ≤ xs.length) (hI : Inv n σ) (hp : (∀ (a0 : Int32), PairOK Inv ax_cd133 ax_cd283 [.int a0])) (K : ∀ s, Inv (n + 1) s → Wq xs 60 ax_cd336 1139 [(3, .int (nI (6 * n))), (2, .ref 287), (1, .ref 0), (0, .retAddr 0)] [] s Q) : Wq xs 60 ax_cd336 361 [(3, .int (nI (6 * n))), (2, .ref 287), (1, .ref 0), (0, .retAddr 0)] [] σ Q := by
  obtain ⟨v, σ1, σ2, h1, h2, h3⟩ := hp (xs.getD (6 * n + 1) 0) xs n σ (by omega) hI
  refine wq_go rfl (fun _ => rfl) ?_
  refine wq_go rfl (fun _ => rfl) ?_
  refine wq_go rfl (fun _ => rfl) ?_
  refine wq_cN (m := 1) rfl rfl ?_
  refine wq_addN rfl ?_
  refine wq_sald rfl rfl (by omega) (by omega) ?_
  refine wq_callV rfl rfl (by first | rfl | assumption) (by first | decide | omega | assumption) (Nat.le_of_ble_eq_true rfl) (Nat.le_of_ble_eq_true rfl) rfl rfl ?_
  refine Wq.mono h1 (fun r s hq => ?_)
  obtain ⟨rfl, rfl⟩ := hq
  refine wq_go rfl (fun _ => rfl) ?_
  refine wq_go rfl (fun _ => rfl) ?_
  refine wq_go rfl (fun _ => rfl) ?_
  refine wq_cN (m := 1) rfl rfl ?_
  refine wq_addN rfl ?_
  refine wq_sald rfl rfl (by omega) (by omega) ?_
  refine wq_callV rfl rfl (by first | rfl | assumption) (by first | decide | omega | assumption) (Nat.le_of_ble_eq_true rfl) (Nat.le_of_ble_eq_true rfl) rfl rfl ?_
  refine Wq.mono h2 (fun r s hq => ?_)
  obtain ⟨rfl, rfl⟩ := hq
  refine wq_cmp rfl (fun c375 => ?_) (fun c => absurd (show ax_cmp 0 v v = true from decide_eq_true rfl) (by rw [c]; decide))
  exact K _ h3
set_option maxRecDepth 100000 in
theorem law_c14 {Inv : Nat → (Nat → List Value) → Prop} {xs : List Int32} {n : Nat} {σ : Nat → List Value} {Q : Option Value → (Nat → List Value) → Prop} (hL : xs.length ≤ 3072) (hi : 6 * n + 6 ≤ xs.length) (hI : Inv n σ) (hp : (PairOK Inv ax_cd143 ax_cd291 [])) (K : ∀ s, Inv (n + 1) s → Wq xs 60 ax_cd336 1139 [(3, .int (nI (6 * n))), (2, .ref 287), (1, .ref 0), (0, .retAddr 0)] [] s Q) : Wq xs 60 ax_cd336 378 [(3, .int (nI (6 * n))), (2, .ref 287), (1, .ref 0), (0, .retAddr 0)] [] σ Q := by
  obtain ⟨v, σ1, σ2, h1, h2, h3⟩ := hp  xs n σ (by omega) hI
  refine wq_go rfl (fun _ => rfl) ?_
  refine wq_callV rfl rfl (by first | rfl | assumption) (by first | decide | omega | assumption) (Nat.le_of_ble_eq_true rfl) (Nat.le_of_ble_eq_true rfl) rfl rfl ?_
  refine Wq.mono h1 (fun r s hq => ?_)
  obtain ⟨rfl, rfl⟩ := hq
  refine wq_go rfl (fun _ => rfl) ?_
  refine wq_callV rfl rfl (by first | rfl | assumption) (by first | decide | omega | assumption) (Nat.le_of_ble_eq_true rfl) (Nat.le_of_ble_eq_true rfl) rfl rfl ?_
  refine Wq.mono h2 (fun r s hq => ?_)
  obtain ⟨rfl, rfl⟩ := hq
  refine wq_cmp rfl (fun c382 => ?_) (fun c => absurd (show ax_cmp 0 v v = true from decide_eq_true rfl) (by rw [c]; decide))
  exact K _ h3
set_option maxRecDepth 100000 in
theorem law_c15 {Inv : Nat → (Nat → List Value) → Prop} {xs : List Int32} {n : Nat} {σ : Nat → List Value} {Q : Option Value → (Nat → List Value) → Prop} (hL : xs.length ≤ 3072) (hi : 6 * n + 6 ≤ xs.length) (hI : Inv n σ) (hp : (∀ (a0 a1 a2 : Int32), PairOK Inv ax_cd145 ax_cd292 [.int a0, .int a1, .int a2])) (K : ∀ s, Inv (n + 1) s → Wq xs 60 ax_cd336 1139 [(3, .int (nI (6 * n))), (2, .ref 287), (1, .ref 0), (0, .retAddr 0)] [] s Q) : Wq xs 60 ax_cd336 385 [(3, .int (nI (6 * n))), (2, .ref 287), (1, .ref 0), (0, .retAddr 0)] [] σ Q := by
  obtain ⟨v, σ1, σ2, h1, h2, h3⟩ := hp (xs.getD (6 * n + 1) 0) (xs.getD (6 * n + 2) 0) (xs.getD (6 * n + 3) 0) xs n σ (by omega) hI
  refine wq_go rfl (fun _ => rfl) ?_
  refine wq_go rfl (fun _ => rfl) ?_
  refine wq_go rfl (fun _ => rfl) ?_
  refine wq_cN (m := 1) rfl rfl ?_
  refine wq_addN rfl ?_
  refine wq_sald rfl rfl (by omega) (by omega) ?_
  refine wq_go rfl (fun _ => rfl) ?_
  refine wq_go rfl (fun _ => rfl) ?_
  refine wq_cN (m := 2) rfl rfl ?_
  refine wq_addN rfl ?_
  refine wq_sald rfl rfl (by omega) (by omega) ?_
  refine wq_go rfl (fun _ => rfl) ?_
  refine wq_go rfl (fun _ => rfl) ?_
  refine wq_cN (m := 3) rfl rfl ?_
  refine wq_addN rfl ?_
  refine wq_sald rfl rfl (by omega) (by omega) ?_
  refine wq_callV rfl rfl (by first | rfl | assumption) (by first | decide | omega | assumption) (Nat.le_of_ble_eq_true rfl) (Nat.le_of_ble_eq_true rfl) rfl rfl ?_
  refine Wq.mono h1 (fun r s hq => ?_)
  obtain ⟨rfl, rfl⟩ := hq
  refine wq_go rfl (fun _ => rfl) ?_
  refine wq_go rfl (fun _ => rfl) ?_
  refine wq_go rfl (fun _ => rfl) ?_
  refine wq_cN (m := 1) rfl rfl ?_
  refine wq_addN rfl ?_
  refine wq_sald rfl rfl (by omega) (by omega) ?_
  refine wq_go rfl (fun _ => rfl) ?_
  refine wq_go rfl (fun _ => rfl) ?_
  refine wq_cN (m := 2) rfl rfl ?_
  refine wq_addN rfl ?_
  refine wq_sald rfl rfl (by omega) (by omega) ?_
  refine wq_go rfl (fun _ => rfl) ?_
  refine wq_go rfl (fun _ => rfl) ?_
  refine wq_cN (m := 3) rfl rfl ?_
  refine wq_addN rfl ?_
  refine wq_sald rfl rfl (by omega) (by omega) ?_
  refine wq_callV rfl rfl (by first | rfl | assumption) (by first | decide | omega | assumption) (Nat.le_of_ble_eq_true rfl) (Nat.le_of_ble_eq_true rfl) rfl rfl ?_
  refine Wq.mono h2 (fun r s hq => ?_)
  obtain ⟨rfl, rfl⟩ := hq
  refine wq_cmp rfl (fun c419 => ?_) (fun c => absurd (show ax_cmp 0 v v = true from decide_eq_true rfl) (by rw [c]; decide))
  exact K _ h3
set_option maxRecDepth 100000 in
theorem law_c16 {Inv : Nat → (Nat → List Value) → Prop} {xs : List Int32} {n : Nat} {σ : Nat → List Value} {Q : Option Value → (Nat → List Value) → Prop} (hL : xs.length ≤ 3072) (hi : 6 * n + 6 ≤ xs.length) (hI : Inv n σ) (hp : (∀ (a0 a1 a2 : Int32), PairOK Inv ax_cd150 ax_cd297 [.int a0, .int a1, .int a2])) (K : ∀ s, Inv (n + 1) s → Wq xs 60 ax_cd336 1139 [(3, .int (nI (6 * n))), (2, .ref 287), (1, .ref 0), (0, .retAddr 0)] [] s Q) : Wq xs 60 ax_cd336 422 [(3, .int (nI (6 * n))), (2, .ref 287), (1, .ref 0), (0, .retAddr 0)] [] σ Q := by
  obtain ⟨v, σ1, σ2, h1, h2, h3⟩ := hp (xs.getD (6 * n + 1) 0) (xs.getD (6 * n + 2) 0) (xs.getD (6 * n + 3) 0) xs n σ (by omega) hI
  refine wq_go rfl (fun _ => rfl) ?_
  refine wq_go rfl (fun _ => rfl) ?_
  refine wq_go rfl (fun _ => rfl) ?_
  refine wq_cN (m := 1) rfl rfl ?_
  refine wq_addN rfl ?_
  refine wq_sald rfl rfl (by omega) (by omega) ?_
  refine wq_go rfl (fun _ => rfl) ?_
  refine wq_go rfl (fun _ => rfl) ?_
  refine wq_cN (m := 2) rfl rfl ?_
  refine wq_addN rfl ?_
  refine wq_sald rfl rfl (by omega) (by omega) ?_
  refine wq_go rfl (fun _ => rfl) ?_
  refine wq_go rfl (fun _ => rfl) ?_
  refine wq_cN (m := 3) rfl rfl ?_
  refine wq_addN rfl ?_
  refine wq_sald rfl rfl (by omega) (by omega) ?_
  refine wq_callV rfl rfl (by first | rfl | assumption) (by first | decide | omega | assumption) (Nat.le_of_ble_eq_true rfl) (Nat.le_of_ble_eq_true rfl) rfl rfl ?_
  refine Wq.mono h1 (fun r s hq => ?_)
  obtain ⟨rfl, rfl⟩ := hq
  refine wq_go rfl (fun _ => rfl) ?_
  refine wq_go rfl (fun _ => rfl) ?_
  refine wq_go rfl (fun _ => rfl) ?_
  refine wq_cN (m := 1) rfl rfl ?_
  refine wq_addN rfl ?_
  refine wq_sald rfl rfl (by omega) (by omega) ?_
  refine wq_go rfl (fun _ => rfl) ?_
  refine wq_go rfl (fun _ => rfl) ?_
  refine wq_cN (m := 2) rfl rfl ?_
  refine wq_addN rfl ?_
  refine wq_sald rfl rfl (by omega) (by omega) ?_
  refine wq_go rfl (fun _ => rfl) ?_
  refine wq_go rfl (fun _ => rfl) ?_
  refine wq_cN (m := 3) rfl rfl ?_
  refine wq_addN rfl ?_
  refine wq_sald rfl rfl (by omega) (by omega) ?_
  refine wq_callV rfl rfl (by first | rfl | assumption) (by first | decide | omega | assumption) (Nat.le_of_ble_eq_true rfl) (Nat.le_of_ble_eq_true rfl) rfl rfl ?_
  refine Wq.mono h2 (fun r s hq => ?_)
  obtain ⟨rfl, rfl⟩ := hq
  refine wq_cmp rfl (fun c456 => ?_) (fun c => absurd (show ax_cmp 0 v v = true from decide_eq_true rfl) (by rw [c]; decide))
  exact K _ h3
set_option maxRecDepth 100000 in
theorem law_c17 {Inv : Nat → (Nat → List Value) → Prop} {xs : List Int32} {n : Nat} {σ : Nat → List Value} {Q : Option Value → (Nat → List Value) → Prop} (hL : xs.length ≤ 3072) (hi : 6 * n + 6 ≤ xs.length) (hI : Inv n σ) (hp : (∀ (a0 a1 a2 : Int32), PairOK Inv ax_cd152 ax_cd298 [.int a0, .int a1, .int a2])) (K : ∀ s, Inv (n + 1) s → Wq xs 60 ax_cd336 1139 [(3, .int (nI (6 * n))), (2, .ref 287), (1, .ref 0), (0, .retAddr 0)] [] s Q) : Wq xs 60 ax_cd336 459 [(3, .int (nI (6 * n))), (2, .ref 287), (1, .ref 0), (0, .retAddr 0)] [] σ Q := by
  obtain ⟨v, σ1, σ2, h1, h2, h3⟩ := hp (xs.getD (6 * n + 1) 0) (xs.getD (6 * n + 2) 0) (xs.getD (6 * n + 3) 0) xs n σ (by omega) hI
  refine wq_go rfl (fun _ => rfl) ?_
  refine wq_go rfl (fun _ => rfl) ?_
  refine wq_go rfl (fun _ => rfl) ?_
  refine wq_cN (m := 1) rfl rfl ?_
  refine wq_addN rfl ?_
  refine wq_sald rfl rfl (by omega) (by omega) ?_
  refine wq_go rfl (fun _ => rfl) ?_
  refine wq_go rfl (fun _ => rfl) ?_
  refine wq_cN (m := 2) rfl rfl ?_
  refine wq_addN rfl ?_
  refine wq_sald rfl rfl (by omega) (by omega) ?_
  refine wq_go rfl (fun _ => rfl) ?_
  refine wq_go rfl (fun _ => rfl) ?_
  refine wq_cN (m := 3) rfl rfl ?_
  refine wq_addN rfl ?_
  refine wq_sald rfl rfl (by omega) (by omega) ?_
  refine wq_callV rfl rfl (by first | rfl | assumption) (by first | decide | omega | assumption) (Nat.le_of_ble_eq_true rfl) (Nat.le_of_ble_eq_true rfl) rfl rfl ?_
  refine Wq.mono h1 (fun r s hq => ?_)
  obtain ⟨rfl, rfl⟩ := hq
  refine wq_go rfl (fun _ => rfl) ?_
  refine wq_go rfl (fun _ => rfl) ?_
  refine wq_go rfl (fun _ => rfl) ?_
  refine wq_cN (m := 1) rfl rfl ?_
  refine wq_addN rfl ?_
  refine wq_sald rfl rfl (by omega) (by omega) ?_
  refine wq_go rfl (fun _ => rfl) ?_
  refine wq_go rfl (fun _ => rfl) ?_
  refine wq_cN (m := 2) rfl rfl ?_
  refine wq_addN rfl ?_
  refine wq_sald rfl rfl (by omega) (by omega) ?_
  refine wq_go rfl (fun _ => rfl) ?_
  refine wq_go rfl (fun _ => rfl) ?_
  refine wq_cN (m := 3) rfl rfl ?_
  refine wq_addN rfl ?_
  refine wq_sald rfl rfl (by omega) (by omega) ?_
  refine wq_callV rfl rfl (by first | rfl | assumption) (by first | decide | omega | assumption) (Nat.le_of_ble_eq_true rfl) (Nat.le_of_ble_eq_true rfl) rfl rfl ?_
  refine Wq.mono h2 (fun r s hq => ?_)
  obtain ⟨rfl, rfl⟩ := hq
  refine wq_cmp rfl (fun c493 => ?_) (fun c => absurd (show ax_cmp 0 v v = true from decide_eq_true rfl) (by rw [c]; decide))
  exact K _ h3
set_option maxRecDepth 100000 in
theorem law_c18 {Inv : Nat → (Nat → List Value) → Prop} {xs : List Int32} {n : Nat} {σ : Nat → List Value} {Q : Option Value → (Nat → List Value) → Prop} (hL : xs.length ≤ 3072) (hi : 6 * n + 6 ≤ xs.length) (hI : Inv n σ) (hp : (∀ (a0 a1 : Int32), PairOK Inv ax_cd153 ax_cd300 [.int a0, .int a1])) (K : ∀ s, Inv (n + 1) s → Wq xs 60 ax_cd336 1139 [(3, .int (nI (6 * n))), (2, .ref 287), (1, .ref 0), (0, .retAddr 0)] [] s Q) : Wq xs 60 ax_cd336 496 [(3, .int (nI (6 * n))), (2, .ref 287), (1, .ref 0), (0, .retAddr 0)] [] σ Q := by
  obtain ⟨v, σ1, σ2, h1, h2, h3⟩ := hp (xs.getD (6 * n + 1) 0) (xs.getD (6 * n + 2) 0) xs n σ (by omega) hI
  refine wq_go rfl (fun _ => rfl) ?_
  refine wq_go rfl (fun _ => rfl) ?_
  refine wq_go rfl (fun _ => rfl) ?_
  refine wq_cN (m := 1) rfl rfl ?_
  refine wq_addN rfl ?_
  refine wq_sald rfl rfl (by omega) (by omega) ?_
  refine wq_go rfl (fun _ => rfl) ?_
  refine wq_go rfl (fun _ => rfl) ?_
  refine wq_cN (m := 2) rfl rfl ?_
  refine wq_addN rfl ?_
  refine wq_sald rfl rfl (by omega) (by omega) ?_
  refine wq_callV rfl rfl (by first | rfl | assumption) (by first | decide | omega | assumption) (Nat.le_of_ble_eq_true rfl) (Nat.le_of_ble_eq_true rfl) rfl rfl ?_
  refine Wq.mono h1 (fun r s hq => ?_)
  obtain ⟨rfl, rfl⟩ := hq
  refine wq_go rfl (fun _ => rfl) ?_
  refine wq_go rfl (fun _ => rfl) ?_
  refine wq_go rfl (fun _ => rfl) ?_
  refine wq_cN (m := 1) rfl rfl ?_
  refine wq_addN rfl ?_
  refine wq_sald rfl rfl (by omega) (by omega) ?_
  refine wq_go rfl (fun _ => rfl) ?_
  refine wq_go rfl (fun _ => rfl) ?_
  refine wq_cN (m := 2) rfl rfl ?_
  refine wq_addN rfl ?_
  refine wq_sald rfl rfl (by omega) (by omega) ?_
  refine wq_callV rfl rfl (by first | rfl | assumption) (by first | decide | omega | assumption) (Nat.le_of_ble_eq_true rfl) (Nat.le_of_ble_eq_true rfl) rfl rfl ?_
  refine Wq.mono h2 (fun r s hq => ?_)
  obtain ⟨rfl, rfl⟩ := hq
  refine wq_cmp rfl (fun c520 => ?_) (fun c => absurd (show ax_cmp 0 v v = true from decide_eq_true rfl) (by rw [c]; decide))
  exact K _ h3
set_option maxRecDepth 100000 in
theorem law_c19 {Inv : Nat → (Nat → List Value) → Prop} {xs : List Int32} {n : Nat} {σ : Nat → List Value} {Q : Option Value → (Nat → List Value) → Prop} (hL : xs.length ≤ 3072) (hi : 6 * n + 6 ≤ xs.length) (hI : Inv n σ) (hp : (∀ (a0 a1 : Int32), PairOK Inv ax_cd155 ax_cd301 [.int a0, .int a1])) (K : ∀ s, Inv (n + 1) s → Wq xs 60 ax_cd336 1139 [(3, .int (nI (6 * n))), (2, .ref 287), (1, .ref 0), (0, .retAddr 0)] [] s Q) : Wq xs 60 ax_cd336 523 [(3, .int (nI (6 * n))), (2, .ref 287), (1, .ref 0), (0, .retAddr 0)] [] σ Q := by
  obtain ⟨v, σ1, σ2, h1, h2, h3⟩ := hp (xs.getD (6 * n + 1) 0) (xs.getD (6 * n + 2) 0) xs n σ (by omega) hI
  refine wq_go rfl (fun _ => rfl) ?_
  refine wq_go rfl (fun _ => rfl) ?_
  refine wq_go rfl (fun _ => rfl) ?_
  refine wq_cN (m := 1) rfl rfl ?_
  refine wq_addN rfl ?_
  refine wq_sald rfl rfl (by omega) (by omega) ?_
  refine wq_go rfl (fun _ => rfl) ?_
  refine wq_go rfl (fun _ => rfl) ?_
  refine wq_cN (m := 2) rfl rfl ?_
  refine wq_addN rfl ?_
  refine wq_sald rfl rfl (by omega) (by omega) ?_
  refine wq_callV rfl rfl (by first | rfl | assumption) (by first | decide | omega | assumption) (Nat.le_of_ble_eq_true rfl) (Nat.le_of_ble_eq_true rfl) rfl rfl ?_
  refine Wq.mono h1 (fun r s hq => ?_)
  obtain ⟨rfl, rfl⟩ := hq
  refine wq_go rfl (fun _ => rfl) ?_
  refine wq_go rfl (fun _ => rfl) ?_
  refine wq_go rfl (fun _ => rfl) ?_
  refine wq_cN (m := 1) rfl rfl ?_
  refine wq_addN rfl ?_
  refine wq_sald rfl rfl (by omega) (by omega) ?_
  refine wq_go rfl (fun _ => rfl) ?_
  refine wq_go rfl (fun _ => rfl) ?_
  refine wq_cN (m := 2) rfl rfl ?_
  refine wq_addN rfl ?_
  refine wq_sald rfl rfl (by omega) (by omega) ?_
  refine wq_callV rfl rfl (by first | rfl | assumption) (by first | decide | omega | assumption) (Nat.le_of_ble_eq_true rfl) (Nat.le_of_ble_eq_true rfl) rfl rfl ?_
  refine Wq.mono h2 (fun r s hq => ?_)
  obtain ⟨rfl, rfl⟩ := hq
  refine wq_cmp rfl (fun c547 => ?_) (fun c => absurd (show ax_cmp 0 v v = true from decide_eq_true rfl) (by rw [c]; decide))
  exact K _ h3
set_option maxRecDepth 100000 in
theorem law_c20 {Inv : Nat → (Nat → List Value) → Prop} {xs : List Int32} {n : Nat} {σ : Nat → List Value} {Q : Option Value → (Nat → List Value) → Prop} (hL : xs.length ≤ 3072) (hi : 6 * n + 6 ≤ xs.length) (hI : Inv n σ) (hp : (∀ (a0 a1 : Int32), PairOK Inv ax_cd159 ax_cd303 [.int a0, .int a1])) (K : ∀ s, Inv (n + 1) s → Wq xs 60 ax_cd336 1139 [(3, .int (nI (6 * n))), (2, .ref 287), (1, .ref 0), (0, .retAddr 0)] [] s Q) : Wq xs 60 ax_cd336 550 [(3, .int (nI (6 * n))), (2, .ref 287), (1, .ref 0), (0, .retAddr 0)] [] σ Q := by
  obtain ⟨v, σ1, σ2, h1, h2, h3⟩ := hp (xs.getD (6 * n + 1) 0) (xs.getD (6 * n + 2) 0) xs n σ (by omega) hI
  refine wq_go rfl (fun _ => rfl) ?_
  refine wq_go rfl (fun _ => rfl) ?_
  refine wq_go rfl (fun _ => rfl) ?_
  refine wq_cN (m := 1) rfl rfl ?_
  refine wq_addN rfl ?_
  refine wq_sald rfl rfl (by omega) (by omega) ?_
  refine wq_go rfl (fun _ => rfl) ?_
  refine wq_go rfl (fun _ => rfl) ?_
  refine wq_cN (m := 2) rfl rfl ?_
  refine wq_addN rfl ?_
  refine wq_sald rfl rfl (by omega) (by omega) ?_
  refine wq_callV rfl rfl (by first | rfl | assumption) (by first | decide | omega | assumption) (Nat.le_of_ble_eq_true rfl) (Nat.le_of_ble_eq_true rfl) rfl rfl ?_
  refine Wq.mono h1 (fun r s hq => ?_)
  obtain ⟨rfl, rfl⟩ := hq
  refine wq_go rfl (fun _ => rfl) ?_
  refine wq_go rfl (fun _ => rfl) ?_
  refine wq_go rfl (fun _ => rfl) ?_
  refine wq_cN (m := 1) rfl rfl ?_
  refine wq_addN rfl ?_
  refine wq_sald rfl rfl (by omega) (by omega) ?_
  refine wq_go rfl (fun _ => rfl) ?_
  refine wq_go rfl (fun _ => rfl) ?_
  refine wq_cN (m := 2) rfl rfl ?_
  refine wq_addN rfl ?_
  refine wq_sald rfl rfl (by omega) (by omega) ?_
  refine wq_callV rfl rfl (by first | rfl | assumption) (by first | decide | omega | assumption) (Nat.le_of_ble_eq_true rfl) (Nat.le_of_ble_eq_true rfl) rfl rfl ?_
  refine Wq.mono h2 (fun r s hq => ?_)
  obtain ⟨rfl, rfl⟩ := hq
  refine wq_cmp rfl (fun c574 => ?_) (fun c => absurd (show ax_cmp 0 v v = true from decide_eq_true rfl) (by rw [c]; decide))
  exact K _ h3
set_option maxRecDepth 100000 in
theorem law_c21 {Inv : Nat → (Nat → List Value) → Prop} {xs : List Int32} {n : Nat} {σ : Nat → List Value} {Q : Option Value → (Nat → List Value) → Prop} (hL : xs.length ≤ 3072) (hi : 6 * n + 6 ≤ xs.length) (hI : Inv n σ) (hp : (∀ (a0 a1 a2 : Int32), PairOK Inv ax_cd161 ax_cd307 [.int a0, .int a1, .int a2])) (K : ∀ s, Inv (n + 1) s → Wq xs 60 ax_cd336 1139 [(3, .int (nI (6 * n))), (2, .ref 287), (1, .ref 0), (0, .retAddr 0)] [] s Q) : Wq xs 60 ax_cd336 577 [(3, .int (nI (6 * n))), (2, .ref 287), (1, .ref 0), (0, .retAddr 0)] [] σ Q := by
  obtain ⟨v, σ1, σ2, h1, h2, h3⟩ := hp (xs.getD (6 * n + 1) 0) (xs.getD (6 * n + 2) 0) (xs.getD (6 * n + 3) 0) xs n σ (by omega) hI
  refine wq_go rfl (fun _ => rfl) ?_
  refine wq_go rfl (fun _ => rfl) ?_
  refine wq_go rfl (fun _ => rfl) ?_
  refine wq_cN (m := 1) rfl rfl ?_
  refine wq_addN rfl ?_
  refine wq_sald rfl rfl (by omega) (by omega) ?_
  refine wq_go rfl (fun _ => rfl) ?_
  refine wq_go rfl (fun _ => rfl) ?_
  refine wq_cN (m := 2) rfl rfl ?_
  refine wq_addN rfl ?_
  refine wq_sald rfl rfl (by omega) (by omega) ?_
  refine wq_go rfl (fun _ => rfl) ?_
  refine wq_go rfl (fun _ => rfl) ?_
  refine wq_cN (m := 3) rfl rfl ?_
  refine wq_addN rfl ?_
  refine wq_sald rfl rfl (by omega) (by omega) ?_
  refine wq_callV rfl rfl (by first | rfl | assumption) (by first | decide | omega | assumption) (Nat.le_of_ble_eq_true rfl) (Nat.le_of_ble_eq_true rfl) rfl rfl ?_
  refine Wq.mono h1 (fun r s hq => ?_)
  obtain ⟨rfl, rfl⟩ := hq
  refine wq_go rfl (fun _ => rfl) ?_
  refine wq_go rfl (fun _ => rfl) ?_
  refine wq_go rfl (fun _ => rfl) ?_
  refine wq_cN (m := 1) rfl rfl ?_
  refine wq_addN rfl ?_
  refine wq_sald rfl rfl (by omega) (by omega) ?_
  refine wq_go rfl (fun _ => rfl) ?_
  refine wq_go rfl (fun _ => rfl) ?_
  refine wq_cN (m := 2) rfl rfl ?_
  refine wq_addN rfl ?_
  refine wq_sald rfl rfl (by omega) (by omega) ?_
  refine wq_go rfl (fun _ => rfl) ?_
  refine wq_go rfl (fun _ => rfl) ?_
  refine wq_cN (m := 3) rfl rfl ?_
  refine wq_addN rfl ?_
  refine wq_sald rfl rfl (by omega) (by omega) ?_
  refine wq_callV rfl rfl (by first | rfl | assumption) (by first | decide | omega | assumption) (Nat.le_of_ble_eq_true rfl) (Nat.le_of_ble_eq_true rfl) rfl rfl ?_
  refine Wq.mono h2 (fun r s hq => ?_)
  obtain ⟨rfl, rfl⟩ := hq
  refine wq_cmp rfl (fun c611 => ?_) (fun c => absurd (show ax_cmp 0 v v = true from decide_eq_true rfl) (by rw [c]; decide))
  exact K _ h3
set_option maxRecDepth 100000 in
theorem law_c22 {Inv : Nat → (Nat → List Value) → Prop} {xs : List Int32} {n : Nat} {σ : Nat → List Value} {Q : Option Value → (Nat → List Value) → Prop} (hL : xs.length ≤ 3072) (hi : 6 * n + 6 ≤ xs.length) (hI : Inv n σ) (hp : (∀ (a0 a1 a2 : Int32), PairOK Inv ax_cd164 ax_cd308 [.int a0, .int a1, .int a2])) (K : ∀ s, Inv (n + 1) s → Wq xs 60 ax_cd336 1139 [(3, .int (nI (6 * n))), (2, .ref 287), (1, .ref 0), (0, .retAddr 0)] [] s Q) : Wq xs 60 ax_cd336 614 [(3, .int (nI (6 * n))), (2, .ref 287), (1, .ref 0), (0, .retAddr 0)] [] σ Q := by
  obtain ⟨v, σ1, σ2, h1, h2, h3⟩ := hp (xs.getD (6 * n + 1) 0) (xs.getD (6 * n + 2) 0) (xs.getD (6 * n + 3) 0) xs n σ (by omega) hI
  refine wq_go rfl (fun _ => rfl) ?_
  refine wq_go rfl (fun _ => rfl) ?_
  refine wq_go rfl (fun _ => rfl) ?_
  refine wq_cN (m := 1) rfl rfl ?_
  refine wq_addN rfl ?_
  refine wq_sald rfl rfl (by omega) (by omega) ?_
  refine wq_go rfl (fun _ => rfl) ?_
  refine wq_go rfl (fun _ => rfl) ?_
  refine wq_cN (m := 2) rfl rfl ?_
  refine wq_addN rfl ?_
  refine wq_sald rfl rfl (by omega) (by omega) ?_
  refine wq_go rfl (fun _ => rfl) ?_
  refine wq_go rfl (fun _ => rfl) ?_
  refine wq_cN (m := 3) rfl rfl ?_
  refine wq_addN rfl ?_
  refine wq_sald rfl rfl (by omega) (by omega) ?_
  refine wq_callV rfl rfl (by first | rfl | assumption) (by first | decide | omega | assumption) (Nat.le_of_ble_eq_true rfl) (Nat.le_of_ble_eq_true rfl) rfl rfl ?_
  refine Wq.mono h1 (fun r s hq => ?_)
  obtain ⟨rfl, rfl⟩ := hq
  refine wq_go rfl (fun _ => rfl) ?_
  refine wq_go rfl (fun _ => rfl) ?_
  refine wq_go rfl (fun _ => rfl) ?_
  refine wq_cN (m := 1) rfl rfl ?_
  refine wq_addN rfl ?_
  refine wq_sald rfl rfl (by omega) (by omega) ?_
  refine wq_go rfl (fun _ => rfl) ?_
  refine wq_go rfl (fun _ => rfl) ?_
  refine wq_cN (m := 2) rfl rfl ?_
  refine wq_addN rfl ?_
  refine wq_sald rfl rfl (by omega) (by omega) ?_
  refine wq_go rfl (fun _ => rfl) ?_
  refine wq_go rfl (fun _ => rfl) ?_
  refine wq_cN (m := 3) rfl rfl ?_
  refine wq_addN rfl ?_
  refine wq_sald rfl rfl (by omega) (by omega) ?_
  refine wq_callV rfl rfl (by first | rfl | assumption) (by first | decide | omega | assumption) (Nat.le_of_ble_eq_true rfl) (Nat.le_of_ble_eq_true rfl) rfl rfl ?_
  refine Wq.mono h2 (fun r s hq => ?_)
  obtain ⟨rfl, rfl⟩ := hq
  refine wq_cmp rfl (fun c648 => ?_) (fun c => absurd (show ax_cmp 0 v v = true from decide_eq_true rfl) (by rw [c]; decide))
  exact K _ h3
set_option maxRecDepth 100000 in
theorem law_c23 {Inv : Nat → (Nat → List Value) → Prop} {xs : List Int32} {n : Nat} {σ : Nat → List Value} {Q : Option Value → (Nat → List Value) → Prop} (hL : xs.length ≤ 3072) (hi : 6 * n + 6 ≤ xs.length) (hI : Inv n σ) (hp : (∀ (a0 : Int32), PairOK Inv ax_cd166 ax_cd309 [.int a0])) (K : ∀ s, Inv (n + 1) s → Wq xs 60 ax_cd336 1139 [(3, .int (nI (6 * n))), (2, .ref 287), (1, .ref 0), (0, .retAddr 0)] [] s Q) : Wq xs 60 ax_cd336 651 [(3, .int (nI (6 * n))), (2, .ref 287), (1, .ref 0), (0, .retAddr 0)] [] σ Q := by
  obtain ⟨v, σ1, σ2, h1, h2, h3⟩ := hp (xs.getD (6 * n + 1) 0) xs n σ (by omega) hI
  refine wq_go rfl (fun _ => rfl) ?_
  refine wq_go rfl (fun _ => rfl) ?_
  refine wq_go rfl (fun _ => rfl) ?_
  refine wq_cN (m := 1) rfl rfl ?_
  refine wq_addN rfl ?_
  refine wq_sald rfl rfl (by omega) (by omega) ?_
  refine wq_callV rfl rfl (by first | rfl | assumption) (by first | decide | omega | assumption) (Nat.le_of_ble_eq_true rfl) (Nat.le_of_ble_eq_true rfl) rfl rfl ?_
  refine Wq.mono h1 (fun r s hq => ?_)
  obtain ⟨rfl, rfl⟩ := hq
  refine wq_go rfl (fun _ => rfl) ?_
  refine wq_go rfl (fun _ => rfl) ?_
  refine wq_go rfl (fun _ => rfl) ?_
  refine wq_cN (m := 1) rfl rfl ?_
  refine wq_addN rfl ?_
  refine wq_sald rfl rfl (by omega) (by omega) ?_
  refine wq_callV rfl rfl (by first | rfl | assumption) (by first | decide | omega | assumption) (Nat.le_of_ble_eq_true rfl) (Nat.le_of_ble_eq_true rfl) rfl rfl ?_
  refine Wq.mono h2 (fun r s hq => ?_)
  obtain ⟨rfl, rfl⟩ := hq
  refine wq_cmp rfl (fun c665 => ?_) (fun c => absurd (show ax_cmp 0 v v = true from decide_eq_true rfl) (by rw [c]; decide))
  exact K _ h3
set_option maxRecDepth 100000 in
theorem law_c24 {Inv : Nat → (Nat → List Value) → Prop} {xs : List Int32} {n : Nat} {σ : Nat → List Value} {Q : Option Value → (Nat → List Value) → Prop} (hL : xs.length ≤ 3072) (hi : 6 * n + 6 ≤ xs.length) (hI : Inv n σ) (hp : (∀ (a0 : Int32), PairOK Inv ax_cd171 ax_cd313 [.int a0])) (K : ∀ s, Inv (n + 1) s → Wq xs 60 ax_cd336 1139 [(3, .int (nI (6 * n))), (2, .ref 287), (1, .ref 0), (0, .retAddr 0)] [] s Q) : Wq xs 60 ax_cd336 668 [(3, .int (nI (6 * n))), (2, .ref 287), (1, .ref 0), (0, .retAddr 0)] [] σ Q := by
  obtain ⟨v, σ1, σ2, h1, h2, h3⟩ := hp (xs.getD (6 * n + 1) 0) xs n σ (by omega) hI
  refine wq_go rfl (fun _ => rfl) ?_
  refine wq_go rfl (fun _ => rfl) ?_
  refine wq_go rfl (fun _ => rfl) ?_
  refine wq_cN (m := 1) rfl rfl ?_
  refine wq_addN rfl ?_
  refine wq_sald rfl rfl (by omega) (by omega) ?_
  refine wq_callV rfl rfl (by first | rfl | assumption) (by first | decide | omega | assumption) (Nat.le_of_ble_eq_true rfl) (Nat.le_of_ble_eq_true rfl) rfl rfl ?_
  refine Wq.mono h1 (fun r s hq => ?_)
  obtain ⟨rfl, rfl⟩ := hq
  refine wq_go rfl (fun _ => rfl) ?_
  refine wq_go rfl (fun _ => rfl) ?_
  refine wq_go rfl (fun _ => rfl) ?_
  refine wq_cN (m := 1) rfl rfl ?_
  refine wq_addN rfl ?_
  refine wq_sald rfl rfl (by omega) (by omega) ?_
  refine wq_callV rfl rfl (by first | rfl | assumption) (by first | decide | omega | assumption) (Nat.le_of_ble_eq_true rfl) (Nat.le_of_ble_eq_true rfl) rfl rfl ?_
  refine Wq.mono h2 (fun r s hq => ?_)
  obtain ⟨rfl, rfl⟩ := hq
  refine wq_cmp rfl (fun c682 => ?_) (fun c => absurd (show ax_cmp 0 v v = true from decide_eq_true rfl) (by rw [c]; decide))
  exact K _ h3
set_option maxRecDepth 100000 in
theorem law_c25 {Inv : Nat → (Nat → List Value) → Prop} {xs : List Int32} {n : Nat} {σ : Nat → List Value} {Q : Option Value → (Nat → List Value) → Prop} (hL : xs.length ≤ 3072) (hi : 6 * n + 6 ≤ xs.length) (hI : Inv n σ) (hp : (∀ (a0 : Int32), PairOK Inv ax_cd174 ax_cd314 [.int a0])) (K : ∀ s, Inv (n + 1) s → Wq xs 60 ax_cd336 1139 [(3, .int (nI (6 * n))), (2, .ref 287), (1, .ref 0), (0, .retAddr 0)] [] s Q) : Wq xs 60 ax_cd336 685 [(3, .int (nI (6 * n))), (2, .ref 287), (1, .ref 0), (0, .retAddr 0)] [] σ Q := by
  obtain ⟨v, σ1, σ2, h1, h2, h3⟩ := hp (xs.getD (6 * n + 1) 0) xs n σ (by omega) hI
  refine wq_go rfl (fun _ => rfl) ?_
  refine wq_go rfl (fun _ => rfl) ?_
  refine wq_go rfl (fun _ => rfl) ?_
  refine wq_cN (m := 1) rfl rfl ?_
  refine wq_addN rfl ?_
  refine wq_sald rfl rfl (by omega) (by omega) ?_
  refine wq_callV rfl rfl (by first | rfl | assumption) (by first | decide | omega | assumption) (Nat.le_of_ble_eq_true rfl) (Nat.le_of_ble_eq_true rfl) rfl rfl ?_
  refine Wq.mono h1 (fun r s hq => ?_)
  obtain ⟨rfl, rfl⟩ := hq
  refine wq_go rfl (fun _ => rfl) ?_
  refine wq_go rfl (fun _ => rfl) ?_
  refine wq_go rfl (fun _ => rfl) ?_
  refine wq_cN (m := 1) rfl rfl ?_
  refine wq_addN rfl ?_
  refine wq_sald rfl rfl (by omega) (by omega) ?_
  refine wq_callV rfl rfl (by first | rfl | assumption) (by first | decide | omega | assumption) (Nat.le_of_ble_eq_true rfl) (Nat.le_of_ble_eq_true rfl) rfl rfl ?_
  refine Wq.mono h2 (fun r s hq => ?_)
  obtain ⟨rfl, rfl⟩ := hq
  refine wq_cmp rfl (fun c699 => ?_) (fun c => absurd (show ax_cmp 0 v v = true from decide_eq_true rfl) (by rw [c]; decide))
  exact K _ h3
set_option maxRecDepth 100000 in
theorem law_c26 {Inv : Nat → (Nat → List Value) → Prop} {xs : List Int32} {n : Nat} {σ : Nat → List Value} {Q : Option Value → (Nat → List Value) → Prop} (hL : xs.length ≤ 3072) (hi : 6 * n + 6 ≤ xs.length) (hI : Inv n σ) (hp : (∀ (a0 a1 : Int32), PairOK Inv ax_cd176 ax_cd315 [.int a0, .int a1])) (K : ∀ s, Inv (n + 1) s → Wq xs 60 ax_cd336 1139 [(3, .int (nI (6 * n))), (2, .ref 287), (1, .ref 0), (0, .retAddr 0)] [] s Q) : Wq xs 60 ax_cd336 702 [(3, .int (nI (6 * n))), (2, .ref 287), (1, .ref 0), (0, .retAddr 0)] [] σ Q := by
  obtain ⟨v, σ1, σ2, h1, h2, h3⟩ := hp (xs.getD (6 * n + 1) 0) (xs.getD (6 * n + 2) 0) xs n σ (by omega) hI
  refine wq_go rfl (fun _ => rfl) ?_
  refine wq_go rfl (fun _ => rfl) ?_
  refine wq_go rfl (fun _ => rfl) ?_
  refine wq_cN (m := 1) rfl rfl ?_
  refine wq_addN rfl ?_
  refine wq_sald rfl rfl (by omega) (by omega) ?_
  refine wq_go rfl (fun _ => rfl) ?_
  refine wq_go rfl (fun _ => rfl) ?_
  refine wq_cN (m := 2) rfl rfl ?_
  refine wq_addN rfl ?_
  refine wq_sald rfl rfl (by omega) (by omega) ?_
  refine wq_callV rfl rfl (by first | rfl | assumption) (by first | decide | omega | assumption) (Nat.le_of_ble_eq_true rfl) (Nat.le_of_ble_eq_true rfl) rfl rfl ?_
  refine Wq.mono h1 (fun r s hq => ?_)
  obtain ⟨rfl, rfl⟩ := hq
  refine wq_go rfl (fun _ => rfl) ?_
  refine wq_go rfl (fun _ => rfl) ?_
  refine wq_go rfl (fun _ => rfl) ?_
  refine wq_cN (m := 1) rfl rfl ?_
  refine wq_addN rfl ?_
  refine wq_sald rfl rfl (by omega) (by omega) ?_
  refine wq_go rfl (fun _ => rfl) ?_
  refine wq_go rfl (fun _ => rfl) ?_
  refine wq_cN (m := 2) rfl rfl ?_
  refine wq_addN rfl ?_
  refine wq_sald rfl rfl (by omega) (by omega) ?_
  refine wq_callV rfl rfl (by first | rfl | assumption) (by first | decide | omega | assumption) (Nat.le_of_ble_eq_true rfl) (Nat.le_of_ble_eq_true rfl) rfl rfl ?_
  refine Wq.mono h2 (fun r s hq => ?_)
  obtain ⟨rfl, rfl⟩ := hq
  refine wq_cmp rfl (fun c726 => ?_) (fun c => absurd (show ax_cmp 0 v v = true from decide_eq_true rfl) (by rw [c]; decide))
  exact K _ h3
set_option maxRecDepth 100000 in
theorem law_c27 {Inv : Nat → (Nat → List Value) → Prop} {xs : List Int32} {n : Nat} {σ : Nat → List Value} {Q : Option Value → (Nat → List Value) → Prop} (hL : xs.length ≤ 3072) (hi : 6 * n + 6 ≤ xs.length) (hI : Inv n σ) (hp : (∀ (a0 : Int32), PairOK Inv ax_cd177 ax_cd316 [.int a0])) (K : ∀ s, Inv (n + 1) s → Wq xs 60 ax_cd336 1139 [(3, .int (nI (6 * n))), (2, .ref 287), (1, .ref 0), (0, .retAddr 0)] [] s Q) : Wq xs 60 ax_cd336 729 [(3, .int (nI (6 * n))), (2, .ref 287), (1, .ref 0), (0, .retAddr 0)] [] σ Q := by
  obtain ⟨v, σ1, σ2, h1, h2, h3⟩ := hp (xs.getD (6 * n + 1) 0) xs n σ (by omega) hI
  refine wq_go rfl (fun _ => rfl) ?_
  refine wq_go rfl (fun _ => rfl) ?_
  refine wq_go rfl (fun _ => rfl) ?_
  refine wq_cN (m := 1) rfl rfl ?_
  refine wq_addN rfl ?_
  refine wq_sald rfl rfl (by omega) (by omega) ?_
  refine wq_callV rfl rfl (by first | rfl | assumption) (by first | decide | omega | assumption) (Nat.le_of_ble_eq_true rfl) (Nat.le_of_ble_eq_true rfl) rfl rfl ?_
  refine Wq.mono h1 (fun r s hq => ?_)
  obtain ⟨rfl, rfl⟩ := hq
  refine wq_go rfl (fun _ => rfl) ?_
  refine wq_go rfl (fun _ => rfl) ?_
  refine wq_go rfl (fun _ => rfl) ?_
  refine wq_cN (m := 1) rfl rfl ?_
  refine wq_addN rfl ?_
  refine wq_sald rfl rfl (by omega) (by omega) ?_
  refine wq_callV rfl rfl (by first | rfl | assumption) (by first | decide | omega | assumption) (Nat.le_of_ble_eq_true rfl) (Nat.le_of_ble_eq_true rfl) rfl rfl ?_
  refine Wq.mono h2 (fun r s hq => ?_)
  obtain ⟨rfl, rfl⟩ := hq
  refine wq_cmp rfl (fun c743 => ?_) (fun c => absurd (show ax_cmp 0 v v = true from decide_eq_true rfl) (by rw [c]; decide))
  exact K _ h3
set_option maxRecDepth 100000 in
theorem law_c28 {Inv : Nat → (Nat → List Value) → Prop} {xs : List Int32} {n : Nat} {σ : Nat → List Value} {Q : Option Value → (Nat → List Value) → Prop} (hL : xs.length ≤ 3072) (hi : 6 * n + 6 ≤ xs.length) (hI : Inv n σ) (hp : (∀ (a0 a1 : Int32), PairOK Inv ax_cd179 ax_cd317 [.int a0, .int a1])) (K : ∀ s, Inv (n + 1) s → Wq xs 60 ax_cd336 1139 [(3, .int (nI (6 * n))), (2, .ref 287), (1, .ref 0), (0, .retAddr 0)] [] s Q) : Wq xs 60 ax_cd336 746 [(3, .int (nI (6 * n))), (2, .ref 287), (1, .ref 0), (0, .retAddr 0)] [] σ Q := by
  obtain ⟨v, σ1, σ2, h1, h2, h3⟩ := hp (xs.getD (6 * n + 1) 0) (xs.getD (6 * n + 2) 0) xs n σ (by omega) hI
  refine wq_go rfl (fun _ => rfl) ?_
  refine wq_go rfl (fun _ => rfl) ?_
  refine wq_go rfl (fun _ => rfl) ?_
  refine wq_cN (m := 1) rfl rfl ?_
  refine wq_addN rfl ?_
  refine wq_sald rfl rfl (by omega) (by omega) ?_
  refine wq_go rfl (fun _ => rfl) ?_
  refine wq_go rfl (fun _ => rfl) ?_
  refine wq_cN (m := 2) rfl rfl ?_
  refine wq_addN rfl ?_
  refine wq_sald rfl rfl (by omega) (by omega) ?_
  refine wq_callV rfl rfl (by first | rfl | assumption) (by first | decide | omega | assumption) (Nat.le_of_ble_eq_true rfl) (Nat.le_of_ble_eq_true rfl) rfl rfl ?_
  refine Wq.mono h1 (fun r s hq => ?_)
  obtain ⟨rfl, rfl⟩ := hq
  refine wq_go rfl (fun _ => rfl) ?_
  refine wq_go rfl (fun _ => rfl) ?_
  refine wq_go rfl (fun _ => rfl) ?_
  refine wq_cN (m := 1) rfl rfl ?_
  refine wq_addN rfl ?_
  refine wq_sald rfl rfl (by omega) (by omega) ?_
  refine wq_go rfl (fun _ => rfl) ?_
  refine wq_go rfl (fun _ => rfl) ?_
  refine wq_cN (m := 2) rfl rfl ?_
  refine wq_addN rfl ?_
  refine wq_sald rfl rfl (by omega) (by omega) ?_
  refine wq_callV rfl rfl (by first | rfl | assumption) (by first | decide | omega | assumption) (Nat.le_of_ble_eq_true rfl) (Nat.le_of_ble_eq_true rfl) rfl rfl ?_
  refine Wq.mono h2 (fun r s hq => ?_)
  obtain ⟨rfl, rfl⟩ := hq
  refine wq_cmp rfl (fun c770 => ?_) (fun c => absurd (show ax_cmp 0 v v = true from decide_eq_true rfl) (by rw [c]; decide))
  exact K _ h3
set_option maxRecDepth 100000 in
theorem law_c29 {Inv : Nat → (Nat → List Value) → Prop} {xs : List Int32} {n : Nat} {σ : Nat → List Value} {Q : Option Value → (Nat → List Value) → Prop} (hL : xs.length ≤ 3072) (hi : 6 * n + 6 ≤ xs.length) (hI : Inv n σ) (hp : (∀ (a0 : Int32), PairOK Inv ax_cd180 ax_cd305 [.int a0])) (K : ∀ s, Inv (n + 1) s → Wq xs 60 ax_cd336 1139 [(3, .int (nI (6 * n))), (2, .ref 287), (1, .ref 0), (0, .retAddr 0)] [] s Q) : Wq xs 60 ax_cd336 773 [(3, .int (nI (6 * n))), (2, .ref 287), (1, .ref 0), (0, .retAddr 0)] [] σ Q := by
  obtain ⟨v, σ1, σ2, h1, h2, h3⟩ := hp (xs.getD (6 * n + 1) 0) xs n σ (by omega) hI
  refine wq_go rfl (fun _ => rfl) ?_
  refine wq_go rfl (fun _ => rfl) ?_
  refine wq_go rfl (fun _ => rfl) ?_
  refine wq_cN (m := 1) rfl rfl ?_
  refine wq_addN rfl ?_
  refine wq_sald rfl rfl (by omega) (by omega) ?_
  refine wq_callV rfl rfl (by first | rfl | assumption) (by first | decide | omega | assumption) (Nat.le_of_ble_eq_true rfl) (Nat.le_of_ble_eq_true rfl) rfl rfl ?_
  refine Wq.mono h1 (fun r s hq => ?_)
  obtain ⟨rfl, rfl⟩ := hq
  refine wq_go rfl (fun _ => rfl) ?_
  refine wq_go rfl (fun _ => rfl) ?_
  refine wq_go rfl (fun _ => rfl) ?_
  refine wq_cN (m := 1) rfl rfl ?_
  refine wq_addN rfl ?_
  refine wq_sald rfl rfl (by omega) (by omega) ?_
  refine wq_callV rfl rfl (by first | rfl | assumption) (by first | decide | omega | assumption) (Nat.le_of_ble_eq_true rfl) (Nat.le_of_ble_eq_true rfl) rfl rfl ?_
  refine Wq.mono h2 (fun r s hq => ?_)
  obtain ⟨rfl, rfl⟩ := hq
  refine wq_cmp rfl (fun c787 => ?_) (fun c => absurd (show ax_cmp 0 v v = true from decide_eq_true rfl) (by rw [c]; decide))
  exact K _ h3
set_option maxRecDepth 100000 in
theorem law_c30 {Inv : Nat → (Nat → List Value) → Prop} {xs : List Int32} {n : Nat} {σ : Nat → List Value} {Q : Option Value → (Nat → List Value) → Prop} (hL : xs.length ≤ 3072) (hi : 6 * n + 6 ≤ xs.length) (hI : Inv n σ) (hp : (∀ (a0 : Int32), PairOK Inv ax_cd182 ax_cd318 [.int a0])) (K : ∀ s, Inv (n + 1) s → Wq xs 60 ax_cd336 1139 [(3, .int (nI (6 * n))), (2, .ref 287), (1, .ref 0), (0, .retAddr 0)] [] s Q) : Wq xs 60 ax_cd336 790 [(3, .int (nI (6 * n))), (2, .ref 287), (1, .ref 0), (0, .retAddr 0)] [] σ Q := by
  obtain ⟨v, σ1, σ2, h1, h2, h3⟩ := hp (xs.getD (6 * n + 1) 0) xs n σ (by omega) hI
  refine wq_go rfl (fun _ => rfl) ?_
  refine wq_go rfl (fun _ => rfl) ?_
  refine wq_go rfl (fun _ => rfl) ?_
  refine wq_cN (m := 1) rfl rfl ?_
  refine wq_addN rfl ?_
  refine wq_sald rfl rfl (by omega) (by omega) ?_
  refine wq_callV rfl rfl (by first | rfl | assumption) (by first | decide | omega | assumption) (Nat.le_of_ble_eq_true rfl) (Nat.le_of_ble_eq_true rfl) rfl rfl ?_
  refine Wq.mono h1 (fun r s hq => ?_)
  obtain ⟨rfl, rfl⟩ := hq
  refine wq_go rfl (fun _ => rfl) ?_
  refine wq_go rfl (fun _ => rfl) ?_
  refine wq_go rfl (fun _ => rfl) ?_
  refine wq_cN (m := 1) rfl rfl ?_
  refine wq_addN rfl ?_
  refine wq_sald rfl rfl (by omega) (by omega) ?_
  refine wq_callV rfl rfl (by first | rfl | assumption) (by first | decide | omega | assumption) (Nat.le_of_ble_eq_true rfl) (Nat.le_of_ble_eq_true rfl) rfl rfl ?_
  refine Wq.mono h2 (fun r s hq => ?_)
  obtain ⟨rfl, rfl⟩ := hq
  refine wq_cmp rfl (fun c804 => ?_) (fun c => absurd (show ax_cmp 0 v v = true from decide_eq_true rfl) (by rw [c]; decide))
  exact K _ h3
set_option maxRecDepth 100000 in
theorem law_c31 {Inv : Nat → (Nat → List Value) → Prop} {xs : List Int32} {n : Nat} {σ : Nat → List Value} {Q : Option Value → (Nat → List Value) → Prop} (hL : xs.length ≤ 3072) (hi : 6 * n + 6 ≤ xs.length) (hI : Inv n σ) (hp : (∀ (a0 : Int32), PairOK Inv ax_cd183 ax_cd319 [.int a0])) (K : ∀ s, Inv (n + 1) s → Wq xs 60 ax_cd336 1139 [(3, .int (nI (6 * n))), (2, .ref 287), (1, .ref 0), (0, .retAddr 0)] [] s Q) : Wq xs 60 ax_cd336 807 [(3, .int (nI (6 * n))), (2, .ref 287), (1, .ref 0), (0, .retAddr 0)] [] σ Q := by
  obtain ⟨v, σ1, σ2, h1, h2, h3⟩ := hp (xs.getD (6 * n + 1) 0) xs n σ (by omega) hI
  refine wq_go rfl (fun _ => rfl) ?_
  refine wq_go rfl (fun _ => rfl) ?_
  refine wq_go rfl (fun _ => rfl) ?_
  refine wq_cN (m := 1) rfl rfl ?_
  refine wq_addN rfl ?_
  refine wq_sald rfl rfl (by omega) (by omega) ?_
  refine wq_callV rfl rfl (by first | rfl | assumption) (by first | decide | omega | assumption) (Nat.le_of_ble_eq_true rfl) (Nat.le_of_ble_eq_true rfl) rfl rfl ?_
  refine Wq.mono h1 (fun r s hq => ?_)
  obtain ⟨rfl, rfl⟩ := hq
  refine wq_go rfl (fun _ => rfl) ?_
  refine wq_go rfl (fun _ => rfl) ?_
  refine wq_go rfl (fun _ => rfl) ?_
  refine wq_cN (m := 1) rfl rfl ?_
  refine wq_addN rfl ?_
  refine wq_sald rfl rfl (by omega) (by omega) ?_
  refine wq_callV rfl rfl (by first | rfl | assumption) (by first | decide | omega | assumption) (Nat.le_of_ble_eq_true rfl) (Nat.le_of_ble_eq_true rfl) rfl rfl ?_
  refine Wq.mono h2 (fun r s hq => ?_)
  obtain ⟨rfl, rfl⟩ := hq
  refine wq_cmp rfl (fun c821 => ?_) (fun c => absurd (show ax_cmp 0 v v = true from decide_eq_true rfl) (by rw [c]; decide))
  exact K _ h3
set_option maxRecDepth 100000 in
theorem law_c32 {Inv : Nat → (Nat → List Value) → Prop} {xs : List Int32} {n : Nat} {σ : Nat → List Value} {Q : Option Value → (Nat → List Value) → Prop} (hL : xs.length ≤ 3072) (hi : 6 * n + 6 ≤ xs.length) (hI : Inv n σ) (hp : (∀ (a0 a1 a2 : Int32), PairOK Inv ax_cd186 ax_cd320 [.int a0, .int a1, .int a2])) (K : ∀ s, Inv (n + 1) s → Wq xs 60 ax_cd336 1139 [(3, .int (nI (6 * n))), (2, .ref 287), (1, .ref 0), (0, .retAddr 0)] [] s Q) : Wq xs 60 ax_cd336 824 [(3, .int (nI (6 * n))), (2, .ref 287), (1, .ref 0), (0, .retAddr 0)] [] σ Q := by
  obtain ⟨v, σ1, σ2, h1, h2, h3⟩ := hp (xs.getD (6 * n + 1) 0) (xs.getD (6 * n + 2) 0) (xs.getD (6 * n + 3) 0) xs n σ (by omega) hI
  refine wq_go rfl (fun _ => rfl) ?_
  refine wq_go rfl (fun _ => rfl) ?_
  refine wq_go rfl (fun _ => rfl) ?_
  refine wq_cN (m := 1) rfl rfl ?_
  refine wq_addN rfl ?_
  refine wq_sald rfl rfl (by omega) (by omega) ?_
  refine wq_go rfl (fun _ => rfl) ?_
  refine wq_go rfl (fun _ => rfl) ?_
  refine wq_cN (m := 2) rfl rfl ?_
  refine wq_addN rfl ?_
  refine wq_sald rfl rfl (by omega) (by omega) ?_
  refine wq_go rfl (fun _ => rfl) ?_
  refine wq_go rfl (fun _ => rfl) ?_
  refine wq_cN (m := 3) rfl rfl ?_
  refine wq_addN rfl ?_
  refine wq_sald rfl rfl (by omega) (by omega) ?_
  refine wq_callV rfl rfl (by first | rfl | assumption) (by first | decide | omega | assumption) (Nat.le_of_ble_eq_true rfl) (Nat.le_of_ble_eq_true rfl) rfl rfl ?_
  refine Wq.mono h1 (fun r s hq => ?_)
  obtain ⟨rfl, rfl⟩ := hq
  refine wq_go rfl (fun _ => rfl) ?_
  refine wq_go rfl (fun _ => rfl) ?_
  refine wq_go rfl (fun _ => rfl) ?_
  refine wq_cN (m := 1) rfl rfl ?_
  refine wq_addN rfl ?_
  refine wq_sald rfl rfl (by omega) (by omega) ?_
  refine wq_go rfl (fun _ => rfl) ?_
  refine wq_go rfl (fun _ => rfl) ?_
  refine wq_cN (m := 2) rfl rfl ?_
  refine wq_addN rfl ?_
  refine wq_sald rfl rfl (by omega) (by omega) ?_
  refine wq_go rfl (fun _ => rfl) ?_
  refine wq_go rfl (fun _ => rfl) ?_
  refine wq_cN (m := 3) rfl rfl ?_
  refine wq_addN rfl ?_
  refine wq_sald rfl rfl (by omega) (by omega) ?_
  refine wq_callV rfl rfl (by first | rfl | assumption) (by first | decide | omega | assumption) (Nat.le_of_ble_eq_true rfl) (Nat.le_of_ble_eq_true rfl) rfl rfl ?_
  refine Wq.mono h2 (fun r s hq => ?_)
  obtain ⟨rfl, rfl⟩ := hq
  refine wq_cmp rfl (fun c858 => ?_) (fun c => absurd (show ax_cmp 0 v v = true from decide_eq_true rfl) (by rw [c]; decide))
  exact K _ h3
set_option maxRecDepth 100000 in
theorem law_c33 {Inv : Nat → (Nat → List Value) → Prop} {xs : List Int32} {n : Nat} {σ : Nat → List Value} {Q : Option Value → (Nat → List Value) → Prop} (hL : xs.length ≤ 3072) (hi : 6 * n + 6 ≤ xs.length) (hI : Inv n σ) (hp : (∀ (a0 a1 a2 : Int32), PairOK Inv ax_cd187 ax_cd321 [.int a0, .int a1, .int a2])) (K : ∀ s, Inv (n + 1) s → Wq xs 60 ax_cd336 1139 [(3, .int (nI (6 * n))), (2, .ref 287), (1, .ref 0), (0, .retAddr 0)] [] s Q) : Wq xs 60 ax_cd336 861 [(3, .int (nI (6 * n))), (2, .ref 287), (1, .ref 0), (0, .retAddr 0)] [] σ Q := by
  obtain ⟨v, σ1, σ2, h1, h2, h3⟩ := hp (xs.getD (6 * n + 1) 0) (xs.getD (6 * n + 2) 0) (xs.getD (6 * n + 3) 0) xs n σ (by omega) hI
  refine wq_go rfl (fun _ => rfl) ?_
  refine wq_go rfl (fun _ => rfl) ?_
  refine wq_go rfl (fun _ => rfl) ?_
  refine wq_cN (m := 1) rfl rfl ?_
  refine wq_addN rfl ?_
  refine wq_sald rfl rfl (by omega) (by omega) ?_
  refine wq_go rfl (fun _ => rfl) ?_
  refine wq_go rfl (fun _ => rfl) ?_
  refine wq_cN (m := 2) rfl rfl ?_
  refine wq_addN rfl ?_
  refine wq_sald rfl rfl (by omega) (by omega) ?_
  refine wq_go rfl (fun _ => rfl) ?_
  refine wq_go rfl (fun _ => rfl) ?_
  refine wq_cN (m := 3) rfl rfl ?_
  refine wq_addN rfl ?_
  refine wq_sald rfl rfl (by omega) (by omega) ?_
  refine wq_callV rfl rfl (by first | rfl | assumption) (by first | decide | omega | assumption) (Nat.le_of_ble_eq_true rfl) (Nat.le_of_ble_eq_true rfl) rfl rfl ?_
  refine Wq.mono h1 (fun r s hq => ?_)
  obtain ⟨rfl, rfl⟩ := hq
  refine wq_go rfl (fun _ => rfl) ?_
  refine wq_go rfl (fun _ => rfl) ?_
  refine wq_go rfl (fun _ => rfl) ?_
  refine wq_cN (m := 1) rfl rfl ?_
  refine wq_addN rfl ?_
  refine wq_sald rfl rfl (by omega) (by omega) ?_
  refine wq_go rfl (fun _ => rfl) ?_
  refine wq_go rfl (fun _ => rfl) ?_
  refine wq_cN (m := 2) rfl rfl ?_
  refine wq_addN rfl ?_
  refine wq_sald rfl rfl (by omega) (by omega) ?_
  refine wq_go rfl (fun _ => rfl) ?_
  refine wq_go rfl (fun _ => rfl) ?_
  refine wq_cN (m := 3) rfl rfl ?_
  refine wq_addN rfl ?_
  refine wq_sald rfl rfl (by omega) (by omega) ?_
  refine wq_callV rfl rfl (by first | rfl | assumption) (by first | decide | omega | assumption) (Nat.le_of_ble_eq_true rfl) (Nat.le_of_ble_eq_true rfl) rfl rfl ?_
  refine Wq.mono h2 (fun r s hq => ?_)
  obtain ⟨rfl, rfl⟩ := hq
  refine wq_cmp rfl (fun c895 => ?_) (fun c => absurd (show ax_cmp 0 v v = true from decide_eq_true rfl) (by rw [c]; decide))
  exact K _ h3
set_option maxRecDepth 100000 in
theorem law_c34 {Inv : Nat → (Nat → List Value) → Prop} {xs : List Int32} {n : Nat} {σ : Nat → List Value} {Q : Option Value → (Nat → List Value) → Prop} (hL : xs.length ≤ 3072) (hi : 6 * n + 6 ≤ xs.length) (hI : Inv n σ) (hp : (∀ (a0 a1 : Int32), PairOK Inv ax_cd188 ax_cd322 [.int a0, .int a1])) (K : ∀ s, Inv (n + 1) s → Wq xs 60 ax_cd336 1139 [(3, .int (nI (6 * n))), (2, .ref 287), (1, .ref 0), (0, .retAddr 0)] [] s Q) : Wq xs 60 ax_cd336 898 [(3, .int (nI (6 * n))), (2, .ref 287), (1, .ref 0), (0, .retAddr 0)] [] σ Q := by
  obtain ⟨v, σ1, σ2, h1, h2, h3⟩ := hp (xs.getD (6 * n + 1) 0) (xs.getD (6 * n + 2) 0) xs n σ (by omega) hI
  refine wq_go rfl (fun _ => rfl) ?_
  refine wq_go rfl (fun _ => rfl) ?_
  refine wq_go rfl (fun _ => rfl) ?_
  refine wq_cN (m := 1) rfl rfl ?_
  refine wq_addN rfl ?_
  refine wq_sald rfl rfl (by omega) (by omega) ?_
  refine wq_go rfl (fun _ => rfl) ?_
  refine wq_go rfl (fun _ => rfl) ?_
  refine wq_cN (m := 2) rfl rfl ?_
  refine wq_addN rfl ?_
  refine wq_sald rfl rfl (by omega) (by omega) ?_
  refine wq_callV rfl rfl (by first | rfl | assumption) (by first | decide | omega | assumption) (Nat.le_of_ble_eq_true rfl) (Nat.le_of_ble_eq_true rfl) rfl rfl ?_
  refine Wq.mono h1 (fun r s hq => ?_)
  obtain ⟨rfl, rfl⟩ := hq
  refine wq_go rfl (fun _ => rfl) ?_
  refine wq_go rfl (fun _ => rfl) ?_
  refine wq_go rfl (fun _ => rfl) ?_
  refine wq_cN (m := 1) rfl rfl ?_
  refine wq_addN rfl ?_
  refine wq_sald rfl rfl (by omega) (by omega) ?_
  refine wq_go rfl (fun _ => rfl) ?_
  refine wq_go rfl (fun _ => rfl) ?_
  refine wq_cN (m := 2) rfl rfl ?_
  refine wq_addN rfl ?_
  refine wq_sald rfl rfl (by omega) (by omega) ?_
  refine wq_callV rfl rfl (by first | rfl | assumption) (by first | decide | omega | assumption) (Nat.le_of_ble_eq_true rfl) (Nat.le_of_ble_eq_true rfl) rfl rfl ?_
  refine Wq.mono h2 (fun r s hq => ?_)
  obtain ⟨rfl, rfl⟩ := hq
  refine wq_cmp rfl (fun c922 => ?_) (fun c => absurd (show ax_cmp 0 v v = true from decide_eq_true rfl) (by rw [c]; decide))
  exact K _ h3
set_option maxRecDepth 100000 in
theorem law_c35 {Inv : Nat → (Nat → List Value) → Prop} {xs : List Int32} {n : Nat} {σ : Nat → List Value} {Q : Option Value → (Nat → List Value) → Prop} (hL : xs.length ≤ 3072) (hi : 6 * n + 6 ≤ xs.length) (hI : Inv n σ) (hp : (∀ (a0 a1 a2 a3 : Int32), PairOK Inv ax_cd189 ax_cd323 [.int a0, .int a1, .int a2, .int a3])) (K : ∀ s, Inv (n + 1) s → Wq xs 60 ax_cd336 1139 [(3, .int (nI (6 * n))), (2, .ref 287), (1, .ref 0), (0, .retAddr 0)] [] s Q) : Wq xs 60 ax_cd336 925 [(3, .int (nI (6 * n))), (2, .ref 287), (1, .ref 0), (0, .retAddr 0)] [] σ Q := by
  obtain ⟨v, σ1, σ2, h1, h2, h3⟩ := hp (xs.getD (6 * n + 1) 0) (xs.getD (6 * n + 2) 0) (xs.getD (6 * n + 3) 0) (xs.getD (6 * n + 4) 0) xs n σ (by omega) hI
  refine wq_go rfl (fun _ => rfl) ?_
  refine wq_go rfl (fun _ => rfl) ?_
  refine wq_go rfl (fun _ => rfl) ?_
  refine wq_cN (m := 1) rfl rfl ?_
  refine wq_addN rfl ?_
  refine wq_sald rfl rfl (by omega) (by omega) ?_
  refine wq_go rfl (fun _ => rfl) ?_
  refine wq_go rfl (fun _ => rfl) ?_
  refine wq_cN (m := 2) rfl rfl ?_
  refine wq_addN rfl ?_
  refine wq_sald rfl rfl (by omega) (by omega) ?_
  refine wq_go rfl (fun _ => rfl) ?_
  refine wq_go rfl (fun _ => rfl) ?_
  refine wq_cN (m := 3) rfl rfl ?_
  refine wq_addN rfl ?_
  refine wq_sald rfl rfl (by omega) (by omega) ?_
  refine wq_go rfl (fun _ => rfl) ?_
  refine wq_go rfl (fun _ => rfl) ?_
  refine wq_cN (m := 4) rfl rfl ?_
  refine wq_addN rfl ?_
  refine wq_sald rfl rfl (by omega) (by omega) ?_
  refine wq_callV rfl rfl (by first | rfl | assumption) (by first | decide | omega | assumption) (Nat.le_of_ble_eq_true rfl) (Nat.le_of_ble_eq_true rfl) rfl rfl ?_
  refine Wq.mono h1 (fun r s hq => ?_)
  obtain ⟨rfl, rfl⟩ := hq
  refine wq_go rfl (fun _ => rfl) ?_
  refine wq_go rfl (fun _ => rfl) ?_
  refine wq_go rfl (fun _ => rfl) ?_
  refine wq_cN (m := 1) rfl rfl ?_
  refine wq_addN rfl ?_
  refine wq_sald rfl rfl (by omega) (by omega) ?_
  refine wq_go rfl (fun _ => rfl) ?_
  refine wq_go rfl (fun _ => rfl) ?_
  refine wq_cN (m := 2) rfl rfl ?_
  refine wq_addN rfl ?_
  refine wq_sald rfl rfl (by omega) (by omega) ?_
  refine wq_go rfl (fun _ => rfl) ?_
  refine wq_go rfl (fun _ => rfl) ?_
  refine wq_cN (m := 3) rfl rfl ?_
  refine wq_addN rfl ?_
  refine wq_sald rfl rfl (by omega) (by omega) ?_
  refine wq_go rfl (fun _ => rfl) ?_
  refine wq_go rfl (fun _ => rfl) ?_
  refine wq_cN (m := 4) rfl rfl ?_
  refine wq_addN rfl ?_
  refine wq_sald rfl rfl (by omega) (by omega) ?_
  refine wq_callV rfl rfl (by first | rfl | assumption) (by first | decide | omega | assumption) (Nat.le_of_ble_eq_true rfl) (Nat.le_of_ble_eq_true rfl) rfl rfl ?_
  refine Wq.mono h2 (fun r s hq => ?_)
  obtain ⟨rfl, rfl⟩ := hq
  refine wq_cmp rfl (fun c969 => ?_) (fun c => absurd (show ax_cmp 0 v v = true from decide_eq_true rfl) (by rw [c]; decide))
  exact K _ h3
set_option maxRecDepth 100000 in
theorem law_c36 {Inv : Nat → (Nat → List Value) → Prop} {xs : List Int32} {n : Nat} {σ : Nat → List Value} {Q : Option Value → (Nat → List Value) → Prop} (hL : xs.length ≤ 3072) (hi : 6 * n + 6 ≤ xs.length) (hI : Inv n σ) (hp : (∀ (a0 a1 a2 a3 : Int32), (a3 = 0 ∨ a3 = 1) → PairOK Inv ax_cd191 ax_cd324 [.int a0, .int a1, .int a2, .int a3])) (K : ∀ s, Inv (n + 1) s → Wq xs 60 ax_cd336 1139 [(3, .int (nI (6 * n))), (2, .ref 287), (1, .ref 0), (0, .retAddr 0)] [] s Q) : Wq xs 60 ax_cd336 972 [(3, .int (nI (6 * n))), (2, .ref 287), (1, .ref 0), (0, .retAddr 0)] [] σ Q := by
  by_cases hb : xs.getD (6 * n + 4) 0 = 0
  · skip
    obtain ⟨v, σ1, σ2, h1, h2, h3⟩ := hp (xs.getD (6 * n + 1) 0) (xs.getD (6 * n + 2) 0) (xs.getD (6 * n + 3) 0) (0) (Or.inl rfl) xs n σ (by omega) hI
    refine wq_go rfl (fun _ => rfl) ?_
    refine wq_go rfl (fun _ => rfl) ?_
    refine wq_go rfl (fun _ => rfl) ?_
    refine wq_cN (m := 1) rfl rfl ?_
    refine wq_addN rfl ?_
    refine wq_sald rfl rfl (by omega) (by omega) ?_
    refine wq_go rfl (fun _ => rfl) ?_
    refine wq_go rfl (fun _ => rfl) ?_
    refine wq_cN (m := 2) rfl rfl ?_
    refine wq_addN rfl ?_
    refine wq_sald rfl rfl (by omega) (by omega) ?_
    refine wq_go rfl (fun _ => rfl) ?_
    refine wq_go rfl (fun _ => rfl) ?_
    refine wq_cN (m := 3) rfl rfl ?_
    refine wq_addN rfl ?_
    refine wq_sald rfl rfl (by omega) (by omega) ?_
    refine wq_go rfl (fun _ => rfl) ?_
    refine wq_go rfl (fun _ => rfl) ?_
    refine wq_cN (m := 4) rfl rfl ?_
    refine wq_addN rfl ?_
    refine wq_sald rfl rfl (by omega) (by omega) ?_
    refine wq_if rfl (fun c993 => ?_) (fun c => absurd (show ax_cmp 0 (xs.getD (6 * n + 4) 0) 0 = true from by rw [hb]; rfl) (by rw [c]; decide))
    refine wq_cN (m := 0) rfl rfl ?_
    refine wq_callV rfl rfl (by first | rfl | assumption) (by first | decide | omega | assumption) (Nat.le_of_ble_eq_true rfl) (Nat.le_of_ble_eq_true rfl) rfl rfl ?_
    refine Wq.mono h1 (fun r s hq => ?_)
    obtain ⟨rfl, rfl⟩ := hq
    refine wq_go rfl (fun _ => rfl) ?_
    refine wq_go rfl (fun _ => rfl) ?_
    refine wq_go rfl (fun _ => rfl) ?_
    refine wq_cN (m := 1) rfl rfl ?_
    refine wq_addN rfl ?_
    refine wq_sald rfl rfl (by omega) (by omega) ?_
    refine wq_go rfl (fun _ => rfl) ?_
    refine wq_go rfl (fun _ => rfl) ?_
    refine wq_cN (m := 2) rfl rfl ?_
    refine wq_addN rfl ?_
    refine wq_sald rfl rfl (by omega) (by omega) ?_
    refine wq_go rfl (fun _ => rfl) ?_
    refine wq_go rfl (fun _ => rfl) ?_
    refine wq_cN (m := 3) rfl rfl ?_
    refine wq_addN rfl ?_
    refine wq_sald rfl rfl (by omega) (by omega) ?_
    refine wq_go rfl (fun _ => rfl) ?_
    refine wq_go rfl (fun _ => rfl) ?_
    refine wq_cN (m := 4) rfl rfl ?_
    refine wq_addN rfl ?_
    refine wq_sald rfl rfl (by omega) (by omega) ?_
    refine wq_if rfl (fun c1019 => ?_) (fun c => absurd (show ax_cmp 0 (xs.getD (6 * n + 4) 0) 0 = true from by rw [hb]; rfl) (by rw [c]; decide))
    refine wq_cN (m := 0) rfl rfl ?_
    refine wq_callV rfl rfl (by first | rfl | assumption) (by first | decide | omega | assumption) (Nat.le_of_ble_eq_true rfl) (Nat.le_of_ble_eq_true rfl) rfl rfl ?_
    refine Wq.mono h2 (fun r s hq => ?_)
    obtain ⟨rfl, rfl⟩ := hq
    refine wq_cmp rfl (fun c1024 => ?_) (fun c => absurd (show ax_cmp 0 v v = true from decide_eq_true rfl) (by rw [c]; decide))
    exact K _ h3
  · skip
    obtain ⟨v, σ1, σ2, h1, h2, h3⟩ := hp (xs.getD (6 * n + 1) 0) (xs.getD (6 * n + 2) 0) (xs.getD (6 * n + 3) 0) (1) (Or.inr rfl) xs n σ (by omega) hI
    refine wq_go rfl (fun _ => rfl) ?_
    refine wq_go rfl (fun _ => rfl) ?_
    refine wq_go rfl (fun _ => rfl) ?_
    refine wq_cN (m := 1) rfl rfl ?_
    refine wq_addN rfl ?_
    refine wq_sald rfl rfl (by omega) (by omega) ?_
    refine wq_go rfl (fun _ => rfl) ?_
    refine wq_go rfl (fun _ => rfl) ?_
    refine wq_cN (m := 2) rfl rfl ?_
    refine wq_addN rfl ?_
    refine wq_sald rfl rfl (by omega) (by omega) ?_
    refine wq_go rfl (fun _ => rfl) ?_
    refine wq_go rfl (fun _ => rfl) ?_
    refine wq_cN (m := 3) rfl rfl ?_
    refine wq_addN rfl ?_
    refine wq_sald rfl rfl (by omega) (by omega) ?_
    refine wq_go rfl (fun _ => rfl) ?_
    refine wq_go rfl (fun _ => rfl) ?_
    refine wq_cN (m := 4) rfl rfl ?_
    refine wq_addN rfl ?_
    refine wq_sald rfl rfl (by omega) (by omega) ?_
    refine wq_if rfl (fun c => absurd (show ax_cmp 0 (xs.getD (6 * n + 4) 0) 0 = false from decide_eq_false hb) (by rw [c]; decide)) (fun c993 => ?_)
    refine wq_cN (m := 1) rfl rfl ?_
    refine wq_go rfl (fun _ => rfl) ?_
    refine wq_callV rfl rfl (by first | rfl | assumption) (by first | decide | omega | assumption) (Nat.le_of_ble_eq_true rfl) (Nat.le_of_ble_eq_true rfl) rfl rfl ?_
    refine Wq.mono h1 (fun r s hq => ?_)
    obtain ⟨rfl, rfl⟩ := hq
    refine wq_go rfl (fun _ => rfl) ?_
    refine wq_go rfl (fun _ => rfl) ?_
    refine wq_go rfl (fun _ => rfl) ?_
    refine wq_cN (m := 1) rfl rfl ?_
    refine wq_addN rfl ?_
    refine wq_sald rfl rfl (by omega) (by omega) ?_
    refine wq_go rfl (fun _ => rfl) ?_
    refine wq_go rfl (fun _ => rfl) ?_
    refine wq_cN (m := 2) rfl rfl ?_
    refine wq_addN rfl ?_
    refine wq_sald rfl rfl (by omega) (by omega) ?_
    refine wq_go rfl (fun _ => rfl) ?_
    refine wq_go rfl (fun _ => rfl) ?_
    refine wq_cN (m := 3) rfl rfl ?_
    refine wq_addN rfl ?_
    refine wq_sald rfl rfl (by omega) (by omega) ?_
    refine wq_go rfl (fun _ => rfl) ?_
    refine wq_go rfl (fun _ => rfl) ?_
    refine wq_cN (m := 4) rfl rfl ?_
    refine wq_addN rfl ?_
    refine wq_sald rfl rfl (by omega) (by omega) ?_
    refine wq_if rfl (fun c => absurd (show ax_cmp 0 (xs.getD (6 * n + 4) 0) 0 = false from decide_eq_false hb) (by rw [c]; decide)) (fun c1019 => ?_)
    refine wq_cN (m := 1) rfl rfl ?_
    refine wq_go rfl (fun _ => rfl) ?_
    refine wq_callV rfl rfl (by first | rfl | assumption) (by first | decide | omega | assumption) (Nat.le_of_ble_eq_true rfl) (Nat.le_of_ble_eq_true rfl) rfl rfl ?_
    refine Wq.mono h2 (fun r s hq => ?_)
    obtain ⟨rfl, rfl⟩ := hq
    refine wq_cmp rfl (fun c1024 => ?_) (fun c => absurd (show ax_cmp 0 v v = true from decide_eq_true rfl) (by rw [c]; decide))
    exact K _ h3
set_option maxRecDepth 100000 in
theorem law_c37 {Inv : Nat → (Nat → List Value) → Prop} {xs : List Int32} {n : Nat} {σ : Nat → List Value} {Q : Option Value → (Nat → List Value) → Prop} (hL : xs.length ≤ 3072) (hi : 6 * n + 6 ≤ xs.length) (hI : Inv n σ) (hp : (PairOK Inv ax_cd194 ax_cd325 [])) (K : ∀ s, Inv (n + 1) s → Wq xs 60 ax_cd336 1139 [(3, .int (nI (6 * n))), (2, .ref 287), (1, .ref 0), (0, .retAddr 0)] [] s Q) : Wq xs 60 ax_cd336 1027 [(3, .int (nI (6 * n))), (2, .ref 287), (1, .ref 0), (0, .retAddr 0)] [] σ Q := by
  obtain ⟨v, σ1, σ2, h1, h2, h3⟩ := hp  xs n σ (by omega) hI
  refine wq_go rfl (fun _ => rfl) ?_
  refine wq_callV rfl rfl (by first | rfl | assumption) (by first | decide | omega | assumption) (Nat.le_of_ble_eq_true rfl) (Nat.le_of_ble_eq_true rfl) rfl rfl ?_
  refine Wq.mono h1 (fun r s hq => ?_)
  obtain ⟨rfl, rfl⟩ := hq
  refine wq_go rfl (fun _ => rfl) ?_
  refine wq_callV rfl rfl (by first | rfl | assumption) (by first | decide | omega | assumption) (Nat.le_of_ble_eq_true rfl) (Nat.le_of_ble_eq_true rfl) rfl rfl ?_
  refine Wq.mono h2 (fun r s hq => ?_)
  obtain ⟨rfl, rfl⟩ := hq
  refine wq_cmp rfl (fun c1031 => ?_) (fun c => absurd (show ax_cmp 0 v v = true from decide_eq_true rfl) (by rw [c]; decide))
  exact K _ h3
set_option maxRecDepth 100000 in
theorem law_c38 {Inv : Nat → (Nat → List Value) → Prop} {xs : List Int32} {n : Nat} {σ : Nat → List Value} {Q : Option Value → (Nat → List Value) → Prop} (hL : xs.length ≤ 3072) (hi : 6 * n + 6 ≤ xs.length) (hI : Inv n σ) (hp : (∀ (a0 a1 : Int32), PairOK Inv ax_cd196 ax_cd326 [.int a0, .int a1])) (K : ∀ s, Inv (n + 1) s → Wq xs 60 ax_cd336 1139 [(3, .int (nI (6 * n))), (2, .ref 287), (1, .ref 0), (0, .retAddr 0)] [] s Q) : Wq xs 60 ax_cd336 1034 [(3, .int (nI (6 * n))), (2, .ref 287), (1, .ref 0), (0, .retAddr 0)] [] σ Q := by
  obtain ⟨v, σ1, σ2, h1, h2, h3⟩ := hp (xs.getD (6 * n + 1) 0) (xs.getD (6 * n + 2) 0) xs n σ (by omega) hI
  refine wq_go rfl (fun _ => rfl) ?_
  refine wq_go rfl (fun _ => rfl) ?_
  refine wq_go rfl (fun _ => rfl) ?_
  refine wq_cN (m := 1) rfl rfl ?_
  refine wq_addN rfl ?_
  refine wq_sald rfl rfl (by omega) (by omega) ?_
  refine wq_go rfl (fun _ => rfl) ?_
  refine wq_go rfl (fun _ => rfl) ?_
  refine wq_cN (m := 2) rfl rfl ?_
  refine wq_addN rfl ?_
  refine wq_sald rfl rfl (by omega) (by omega) ?_
  refine wq_callV rfl rfl (by first | rfl | assumption) (by first | decide | omega | assumption) (Nat.le_of_ble_eq_true rfl) (Nat.le_of_ble_eq_true rfl) rfl rfl ?_
  refine Wq.mono h1 (fun r s hq => ?_)
  obtain ⟨rfl, rfl⟩ := hq
  refine wq_go rfl (fun _ => rfl) ?_
  refine wq_go rfl (fun _ => rfl) ?_
  refine wq_go rfl (fun _ => rfl) ?_
  refine wq_cN (m := 1) rfl rfl ?_
  refine wq_addN rfl ?_
  refine wq_sald rfl rfl (by omega) (by omega) ?_
  refine wq_go rfl (fun _ => rfl) ?_
  refine wq_go rfl (fun _ => rfl) ?_
  refine wq_cN (m := 2) rfl rfl ?_
  refine wq_addN rfl ?_
  refine wq_sald rfl rfl (by omega) (by omega) ?_
  refine wq_callV rfl rfl (by first | rfl | assumption) (by first | decide | omega | assumption) (Nat.le_of_ble_eq_true rfl) (Nat.le_of_ble_eq_true rfl) rfl rfl ?_
  refine Wq.mono h2 (fun r s hq => ?_)
  obtain ⟨rfl, rfl⟩ := hq
  refine wq_cmp rfl (fun c1058 => ?_) (fun c => absurd (show ax_cmp 0 v v = true from decide_eq_true rfl) (by rw [c]; decide))
  exact K _ h3
set_option maxRecDepth 100000 in
theorem law_c39 {Inv : Nat → (Nat → List Value) → Prop} {xs : List Int32} {n : Nat} {σ : Nat → List Value} {Q : Option Value → (Nat → List Value) → Prop} (hL : xs.length ≤ 3072) (hi : 6 * n + 6 ≤ xs.length) (hI : Inv n σ) (hp : (∀ (a0 a1 : Int32), PairOK Inv ax_cd200 ax_cd330 [.int a0, .int a1])) (K : ∀ s, Inv (n + 1) s → Wq xs 60 ax_cd336 1139 [(3, .int (nI (6 * n))), (2, .ref 287), (1, .ref 0), (0, .retAddr 0)] [] s Q) : Wq xs 60 ax_cd336 1061 [(3, .int (nI (6 * n))), (2, .ref 287), (1, .ref 0), (0, .retAddr 0)] [] σ Q := by
  obtain ⟨v, σ1, σ2, h1, h2, h3⟩ := hp (xs.getD (6 * n + 1) 0) (xs.getD (6 * n + 2) 0) xs n σ (by omega) hI
  refine wq_go rfl (fun _ => rfl) ?_
  refine wq_go rfl (fun _ => rfl) ?_
  refine wq_go rfl (fun _ => rfl) ?_
  refine wq_cN (m := 1) rfl rfl ?_
  refine wq_addN rfl ?_
  refine wq_sald rfl rfl (by omega) (by omega) ?_
  refine wq_go rfl (fun _ => rfl) ?_
  refine wq_go rfl (fun _ => rfl) ?_
  refine wq_cN (m := 2) rfl rfl ?_
  refine wq_addN rfl ?_
  refine wq_sald rfl rfl (by omega) (by omega) ?_
  refine wq_callV rfl rfl (by first | rfl | assumption) (by first | decide | omega | assumption) (Nat.le_of_ble_eq_true rfl) (Nat.le_of_ble_eq_true rfl) rfl rfl ?_
  refine Wq.mono h1 (fun r s hq => ?_)
  obtain ⟨rfl, rfl⟩ := hq
  refine wq_go rfl (fun _ => rfl) ?_
  refine wq_go rfl (fun _ => rfl) ?_
  refine wq_go rfl (fun _ => rfl) ?_
  refine wq_cN (m := 1) rfl rfl ?_
  refine wq_addN rfl ?_
  refine wq_sald rfl rfl (by omega) (by omega) ?_
  refine wq_go rfl (fun _ => rfl) ?_
  refine wq_go rfl (fun _ => rfl) ?_
  refine wq_cN (m := 2) rfl rfl ?_
  refine wq_addN rfl ?_
  refine wq_sald rfl rfl (by omega) (by omega) ?_
  refine wq_callV rfl rfl (by first | rfl | assumption) (by first | decide | omega | assumption) (Nat.le_of_ble_eq_true rfl) (Nat.le_of_ble_eq_true rfl) rfl rfl ?_
  refine Wq.mono h2 (fun r s hq => ?_)
  obtain ⟨rfl, rfl⟩ := hq
  refine wq_cmp rfl (fun c1085 => ?_) (fun c => absurd (show ax_cmp 0 v v = true from decide_eq_true rfl) (by rw [c]; decide))
  exact K _ h3
set_option maxRecDepth 100000 in
theorem law_c40 {Inv : Nat → (Nat → List Value) → Prop} {xs : List Int32} {n : Nat} {σ : Nat → List Value} {Q : Option Value → (Nat → List Value) → Prop} (hL : xs.length ≤ 3072) (hi : 6 * n + 6 ≤ xs.length) (hI : Inv n σ) (hp : (∀ (a0 : Int32), PairOK Inv ax_cd202 ax_cd331 [.int a0])) (K : ∀ s, Inv (n + 1) s → Wq xs 60 ax_cd336 1139 [(3, .int (nI (6 * n))), (2, .ref 287), (1, .ref 0), (0, .retAddr 0)] [] s Q) : Wq xs 60 ax_cd336 1088 [(3, .int (nI (6 * n))), (2, .ref 287), (1, .ref 0), (0, .retAddr 0)] [] σ Q := by
  obtain ⟨v, σ1, σ2, h1, h2, h3⟩ := hp (xs.getD (6 * n + 1) 0) xs n σ (by omega) hI
  refine wq_go rfl (fun _ => rfl) ?_
  refine wq_go rfl (fun _ => rfl) ?_
  refine wq_go rfl (fun _ => rfl) ?_
  refine wq_cN (m := 1) rfl rfl ?_
  refine wq_addN rfl ?_
  refine wq_sald rfl rfl (by omega) (by omega) ?_
  refine wq_callV rfl rfl (by first | rfl | assumption) (by first | decide | omega | assumption) (Nat.le_of_ble_eq_true rfl) (Nat.le_of_ble_eq_true rfl) rfl rfl ?_
  refine Wq.mono h1 (fun r s hq => ?_)
  obtain ⟨rfl, rfl⟩ := hq
  refine wq_go rfl (fun _ => rfl) ?_
  refine wq_go rfl (fun _ => rfl) ?_
  refine wq_go rfl (fun _ => rfl) ?_
  refine wq_cN (m := 1) rfl rfl ?_
  refine wq_addN rfl ?_
  refine wq_sald rfl rfl (by omega) (by omega) ?_
  refine wq_callV rfl rfl (by first | rfl | assumption) (by first | decide | omega | assumption) (Nat.le_of_ble_eq_true rfl) (Nat.le_of_ble_eq_true rfl) rfl rfl ?_
  refine Wq.mono h2 (fun r s hq => ?_)
  obtain ⟨rfl, rfl⟩ := hq
  refine wq_cmp rfl (fun c1102 => ?_) (fun c => absurd (show ax_cmp 0 v v = true from decide_eq_true rfl) (by rw [c]; decide))
  exact K _ h3
set_option maxRecDepth 100000 in
theorem law_c41 {Inv : Nat → (Nat → List Value) → Prop} {xs : List Int32} {n : Nat} {σ : Nat → List Value} {Q : Option Value → (Nat → List Value) → Prop} (hL : xs.length ≤ 3072) (hi : 6 * n + 6 ≤ xs.length) (hI : Inv n σ) (hp : (∀ (a0 : Int32), PairOK Inv ax_cd204 ax_cd332 [.int a0])) (K : ∀ s, Inv (n + 1) s → Wq xs 60 ax_cd336 1139 [(3, .int (nI (6 * n))), (2, .ref 287), (1, .ref 0), (0, .retAddr 0)] [] s Q) : Wq xs 60 ax_cd336 1105 [(3, .int (nI (6 * n))), (2, .ref 287), (1, .ref 0), (0, .retAddr 0)] [] σ Q := by
  obtain ⟨v, σ1, σ2, h1, h2, h3⟩ := hp (xs.getD (6 * n + 1) 0) xs n σ (by omega) hI
  refine wq_go rfl (fun _ => rfl) ?_
  refine wq_go rfl (fun _ => rfl) ?_
  refine wq_go rfl (fun _ => rfl) ?_
  refine wq_cN (m := 1) rfl rfl ?_
  refine wq_addN rfl ?_
  refine wq_sald rfl rfl (by omega) (by omega) ?_
  refine wq_callV rfl rfl (by first | rfl | assumption) (by first | decide | omega | assumption) (Nat.le_of_ble_eq_true rfl) (Nat.le_of_ble_eq_true rfl) rfl rfl ?_
  refine Wq.mono h1 (fun r s hq => ?_)
  obtain ⟨rfl, rfl⟩ := hq
  refine wq_go rfl (fun _ => rfl) ?_
  refine wq_go rfl (fun _ => rfl) ?_
  refine wq_go rfl (fun _ => rfl) ?_
  refine wq_cN (m := 1) rfl rfl ?_
  refine wq_addN rfl ?_
  refine wq_sald rfl rfl (by omega) (by omega) ?_
  refine wq_callV rfl rfl (by first | rfl | assumption) (by first | decide | omega | assumption) (Nat.le_of_ble_eq_true rfl) (Nat.le_of_ble_eq_true rfl) rfl rfl ?_
  refine Wq.mono h2 (fun r s hq => ?_)
  obtain ⟨rfl, rfl⟩ := hq
  refine wq_cmp rfl (fun c1119 => ?_) (fun c => absurd (show ax_cmp 0 v v = true from decide_eq_true rfl) (by rw [c]; decide))
  exact K _ h3
set_option maxRecDepth 100000 in
theorem law_c42 {Inv : Nat → (Nat → List Value) → Prop} {xs : List Int32} {n : Nat} {σ : Nat → List Value} {Q : Option Value → (Nat → List Value) → Prop} (hL : xs.length ≤ 3072) (hi : 6 * n + 6 ≤ xs.length) (hI : Inv n σ) (hp : (∀ (a0 : Int32), PairOK Inv ax_cd206 ax_cd333 [.int a0])) (K : ∀ s, Inv (n + 1) s → Wq xs 60 ax_cd336 1139 [(3, .int (nI (6 * n))), (2, .ref 287), (1, .ref 0), (0, .retAddr 0)] [] s Q) : Wq xs 60 ax_cd336 1122 [(3, .int (nI (6 * n))), (2, .ref 287), (1, .ref 0), (0, .retAddr 0)] [] σ Q := by
  obtain ⟨v, σ1, σ2, h1, h2, h3⟩ := hp (xs.getD (6 * n + 1) 0) xs n σ (by omega) hI
  refine wq_go rfl (fun _ => rfl) ?_
  refine wq_go rfl (fun _ => rfl) ?_
  refine wq_go rfl (fun _ => rfl) ?_
  refine wq_cN (m := 1) rfl rfl ?_
  refine wq_addN rfl ?_
  refine wq_sald rfl rfl (by omega) (by omega) ?_
  refine wq_callV rfl rfl (by first | rfl | assumption) (by first | decide | omega | assumption) (Nat.le_of_ble_eq_true rfl) (Nat.le_of_ble_eq_true rfl) rfl rfl ?_
  refine Wq.mono h1 (fun r s hq => ?_)
  obtain ⟨rfl, rfl⟩ := hq
  refine wq_go rfl (fun _ => rfl) ?_
  refine wq_go rfl (fun _ => rfl) ?_
  refine wq_go rfl (fun _ => rfl) ?_
  refine wq_cN (m := 1) rfl rfl ?_
  refine wq_addN rfl ?_
  refine wq_sald rfl rfl (by omega) (by omega) ?_
  refine wq_callV rfl rfl (by first | rfl | assumption) (by first | decide | omega | assumption) (Nat.le_of_ble_eq_true rfl) (Nat.le_of_ble_eq_true rfl) rfl rfl ?_
  refine Wq.mono h2 (fun r s hq => ?_)
  obtain ⟨rfl, rfl⟩ := hq
  refine wq_cmp rfl (fun c1136 => ?_) (fun c => absurd (show ax_cmp 0 v v = true from decide_eq_true rfl) (by rw [c]; decide))
  exact K _ h3
set_option maxRecDepth 100000 in
theorem law_loop {Inv : Nat → (Nat → List Value) → Prop} {xs : List Int32} (hL : xs.length ≤ 3072)
    (hp0 : (∀ (a0 a1 a2 a3 a4 : Int32), PairOK Inv ax_cd24 ax_cd222 [.int a0, .int a1, .int a2, .int a3, .int a4]))
    (hp1 : (∀ (a0 : Int32), PairOK Inv ax_cd28 ax_cd224 [.int a0]))
    (hp2 : (PairOK Inv ax_cd30 ax_cd225 []))
    (hp3 : (PairOK Inv ax_cd83 ax_cd251 []))
    (hp4 : (∀ (a0 a1 : Int32), PairOK Inv ax_cd85 ax_cd252 [.int a0, .int a1]))
    (hp5 : (∀ (a0 a1 : Int32), PairOK Inv ax_cd91 ax_cd255 [.int a0, .int a1]))
    (hp6 : (∀ (a0 a1 : Int32), PairOK Inv ax_cd96 ax_cd260 [.int a0, .int a1]))
    (hp7 : (∀ (a0 a1 a2 a3 : Int32), PairOK Inv ax_cd102 ax_cd262 [.int a0, .int a1, .int a2, .int a3]))
    (hp8 : (∀ (a0 a1 : Int32), PairOK Inv ax_cd117 ax_cd274 [.int a0, .int a1]))
    (hp9 : (∀ (a0 : Int32), PairOK Inv ax_cd124 ax_cd277 [.int a0]))
    (hp10 : (∀ (a0 : Int32), PairOK Inv ax_cd128 ax_cd279 [.int a0]))
    (hp11 : (∀ (a0 a1 : Int32), PairOK Inv ax_cd129 ax_cd280 [.int a0, .int a1]))
    (hp12 : (∀ (a0 a1 : Int32), (a1 = 0 ∨ a1 = 1) → PairOK Inv ax_cd131 ax_cd282 [.int a0, .int a1]))
    (hp13 : (∀ (a0 : Int32), PairOK Inv ax_cd133 ax_cd283 [.int a0]))
    (hp14 : (PairOK Inv ax_cd143 ax_cd291 []))
    (hp15 : (∀ (a0 a1 a2 : Int32), PairOK Inv ax_cd145 ax_cd292 [.int a0, .int a1, .int a2]))
    (hp16 : (∀ (a0 a1 a2 : Int32), PairOK Inv ax_cd150 ax_cd297 [.int a0, .int a1, .int a2]))
    (hp17 : (∀ (a0 a1 a2 : Int32), PairOK Inv ax_cd152 ax_cd298 [.int a0, .int a1, .int a2]))
    (hp18 : (∀ (a0 a1 : Int32), PairOK Inv ax_cd153 ax_cd300 [.int a0, .int a1]))
    (hp19 : (∀ (a0 a1 : Int32), PairOK Inv ax_cd155 ax_cd301 [.int a0, .int a1]))
    (hp20 : (∀ (a0 a1 : Int32), PairOK Inv ax_cd159 ax_cd303 [.int a0, .int a1]))
    (hp21 : (∀ (a0 a1 a2 : Int32), PairOK Inv ax_cd161 ax_cd307 [.int a0, .int a1, .int a2]))
    (hp22 : (∀ (a0 a1 a2 : Int32), PairOK Inv ax_cd164 ax_cd308 [.int a0, .int a1, .int a2]))
    (hp23 : (∀ (a0 : Int32), PairOK Inv ax_cd166 ax_cd309 [.int a0]))
    (hp24 : (∀ (a0 : Int32), PairOK Inv ax_cd171 ax_cd313 [.int a0]))
    (hp25 : (∀ (a0 : Int32), PairOK Inv ax_cd174 ax_cd314 [.int a0]))
    (hp26 : (∀ (a0 a1 : Int32), PairOK Inv ax_cd176 ax_cd315 [.int a0, .int a1]))
    (hp27 : (∀ (a0 : Int32), PairOK Inv ax_cd177 ax_cd316 [.int a0]))
    (hp28 : (∀ (a0 a1 : Int32), PairOK Inv ax_cd179 ax_cd317 [.int a0, .int a1]))
    (hp29 : (∀ (a0 : Int32), PairOK Inv ax_cd180 ax_cd305 [.int a0]))
    (hp30 : (∀ (a0 : Int32), PairOK Inv ax_cd182 ax_cd318 [.int a0]))
    (hp31 : (∀ (a0 : Int32), PairOK Inv ax_cd183 ax_cd319 [.int a0]))
    (hp32 : (∀ (a0 a1 a2 : Int32), PairOK Inv ax_cd186 ax_cd320 [.int a0, .int a1, .int a2]))
    (hp33 : (∀ (a0 a1 a2 : Int32), PairOK Inv ax_cd187 ax_cd321 [.int a0, .int a1, .int a2]))
    (hp34 : (∀ (a0 a1 : Int32), PairOK Inv ax_cd188 ax_cd322 [.int a0, .int a1]))
    (hp35 : (∀ (a0 a1 a2 a3 : Int32), PairOK Inv ax_cd189 ax_cd323 [.int a0, .int a1, .int a2, .int a3]))
    (hp36 : (∀ (a0 a1 a2 a3 : Int32), (a3 = 0 ∨ a3 = 1) → PairOK Inv ax_cd191 ax_cd324 [.int a0, .int a1, .int a2, .int a3]))
    (hp37 : (PairOK Inv ax_cd194 ax_cd325 []))
    (hp38 : (∀ (a0 a1 : Int32), PairOK Inv ax_cd196 ax_cd326 [.int a0, .int a1]))
    (hp39 : (∀ (a0 a1 : Int32), PairOK Inv ax_cd200 ax_cd330 [.int a0, .int a1]))
    (hp40 : (∀ (a0 : Int32), PairOK Inv ax_cd202 ax_cd331 [.int a0]))
    (hp41 : (∀ (a0 : Int32), PairOK Inv ax_cd204 ax_cd332 [.int a0]))
    (hp42 : (∀ (a0 : Int32), PairOK Inv ax_cd206 ax_cd333 [.int a0]))
    (hU : ∀ n s, Inv n s → Inv (n + 1) s) : ∀ (f n : Nat) (σ : Nat → List Value), 6 * n ≤ xs.length → xs.length < 6 * n + 6 * f + 6 → Inv n σ → Wq xs 60 ax_cd336 10 [(3, .int (nI (6 * n))), (2, .ref 287), (1, .ref 0), (0, .retAddr 0)] [] σ (fun r s => r = some (.int 1) ∧ ∃ m, Inv m s) := by
  intro f
  induction f with
  | zero =>
    intro n σ hn hf hI
    refine wq_go rfl (fun _ => rfl) ?_
    refine wq_go rfl (fun _ => rfl) ?_
    refine wq_slen rfl ?_
    refine wq_cN (m := 6) rfl rfl ?_
    refine wq_subZ rfl (nI_z _) (nI_z _) ?_
    refine wq_dgt rfl (nI_z _) rfl ⟨by omega, by omega⟩ ⟨by omega, by omega⟩ (fun c => ?_) (fun c => absurd (show ((xs.length : Int) - 6 < (6 * n : Nat)) from by omega) c)
    refine wq_cN (m := 1) rfl rfl ?_
    refine wq_nret rfl (by decide) ?_
    exact ⟨rfl, n, hI⟩
  | succ f ih =>
    intro n σ hn hf hI
    refine wq_go rfl (fun _ => rfl) ?_
    refine wq_go rfl (fun _ => rfl) ?_
    refine wq_slen rfl ?_
    refine wq_cN (m := 6) rfl rfl ?_
    refine wq_subZ rfl (nI_z _) (nI_z _) ?_
    rcases Nat.lt_or_ge xs.length (6 * n + 6) with hlt | hge
    · refine wq_dgt rfl (nI_z _) rfl ⟨by omega, by omega⟩ ⟨by omega, by omega⟩ (fun c => ?_) (fun c => absurd (show ((xs.length : Int) - 6 < (6 * n : Nat)) from by omega) c)
      refine wq_cN (m := 1) rfl rfl ?_
      refine wq_nret rfl (by decide) ?_
      exact ⟨rfl, n, hI⟩
    · refine wq_dgt rfl (nI_z _) rfl ⟨by omega, by omega⟩ ⟨by omega, by omega⟩ (fun c => absurd c (by omega)) (fun c => ?_)
      have next : ∀ s, Inv (n + 1) s → Wq xs 60 ax_cd336 1139 [(3, .int (nI (6 * n))), (2, .ref 287), (1, .ref 0), (0, .retAddr 0)] [] s (fun r s => r = some (.int 1) ∧ ∃ m, Inv m s) := by
        intro s hs
        refine wq_go (i' := 1140) (st' := []) (lv' := [(3, .int (nI (6 * (n + 1)))), (2, .ref 287), (1, .ref 0), (0, .retAddr 0)]) rfl (fun _ => ?_) ?_
        · show some (Sum.inl (1140, ax_st1 [(3, .int (nI (6 * n))), (2, .ref 287), (1, .ref 0), (0, .retAddr 0)] 3 (.int (nI (6 * n) + 6)), [], _)) = _
          rw [show nI (6 * n) + 6 = nI (6 * (n + 1)) from nI_add (6 * n) 6]
          rfl
        refine wq_go rfl (fun _ => rfl) ?_
        exact ih (n + 1) s (by omega) (by omega) hs
      refine wq_go rfl (fun _ => rfl) ?_
      refine wq_go rfl (fun _ => rfl) ?_
      refine wq_sald rfl rfl (by omega) (by omega) ?_
      refine wq_go rfl (fun _ => rfl) ?_
      refine wq_go rfl (fun _ => rfl) ?_
      obtain ⟨j, hj, e⟩ := pk_andE (xs.getD (6 * n) 0) (m := 63) 6 (by decide)
      match j, hj, e with
      | 0, _, e => exact wq_swN rfl e (by decide) rfl (law_c0 hL hge hI hp0 next)
      | 1, _, e => exact wq_swN rfl e (by decide) rfl (law_c1 hL hge hI hp1 next)
      | 2, _, e => exact wq_swN rfl e (by decide) rfl (law_c2 hL hge hI hp2 next)
      | 3, _, e => exact wq_swN rfl e (by decide) rfl (law_c3 hL hge hI hp3 next)
      | 4, _, e => exact wq_swN rfl e (by decide) rfl (law_c4 hL hge hI hp4 next)
      | 5, _, e => exact wq_swN rfl e (by decide) rfl (law_c5 hL hge hI hp5 next)
      | 6, _, e => exact wq_swN rfl e (by decide) rfl (law_c6 hL hge hI hp6 next)
      | 7, _, e => exact wq_swN rfl e (by decide) rfl (law_c7 hL hge hI hp7 next)
      | 8, _, e => exact wq_swN rfl e (by decide) rfl (law_c8 hL hge hI hp8 next)
      | 9, _, e => exact wq_swN rfl e (by decide) rfl (law_c9 hL hge hI hp9 next)
      | 10, _, e => exact wq_swN rfl e (by decide) rfl (law_c10 hL hge hI hp10 next)
      | 11, _, e => exact wq_swN rfl e (by decide) rfl (law_c11 hL hge hI hp11 next)
      | 12, _, e => exact wq_swN rfl e (by decide) rfl (law_c12 hL hge hI hp12 next)
      | 13, _, e => exact wq_swN rfl e (by decide) rfl (law_c13 hL hge hI hp13 next)
      | 14, _, e => exact wq_swN rfl e (by decide) rfl (law_c14 hL hge hI hp14 next)
      | 15, _, e => exact wq_swN rfl e (by decide) rfl (law_c15 hL hge hI hp15 next)
      | 16, _, e => exact wq_swN rfl e (by decide) rfl (law_c16 hL hge hI hp16 next)
      | 17, _, e => exact wq_swN rfl e (by decide) rfl (law_c17 hL hge hI hp17 next)
      | 18, _, e => exact wq_swN rfl e (by decide) rfl (law_c18 hL hge hI hp18 next)
      | 19, _, e => exact wq_swN rfl e (by decide) rfl (law_c19 hL hge hI hp19 next)
      | 20, _, e => exact wq_swN rfl e (by decide) rfl (law_c20 hL hge hI hp20 next)
      | 21, _, e => exact wq_swN rfl e (by decide) rfl (law_c21 hL hge hI hp21 next)
      | 22, _, e => exact wq_swN rfl e (by decide) rfl (law_c22 hL hge hI hp22 next)
      | 23, _, e => exact wq_swN rfl e (by decide) rfl (law_c23 hL hge hI hp23 next)
      | 24, _, e => exact wq_swN rfl e (by decide) rfl (law_c24 hL hge hI hp24 next)
      | 25, _, e => exact wq_swN rfl e (by decide) rfl (law_c25 hL hge hI hp25 next)
      | 26, _, e => exact wq_swN rfl e (by decide) rfl (law_c26 hL hge hI hp26 next)
      | 27, _, e => exact wq_swN rfl e (by decide) rfl (law_c27 hL hge hI hp27 next)
      | 28, _, e => exact wq_swN rfl e (by decide) rfl (law_c28 hL hge hI hp28 next)
      | 29, _, e => exact wq_swN rfl e (by decide) rfl (law_c29 hL hge hI hp29 next)
      | 30, _, e => exact wq_swN rfl e (by decide) rfl (law_c30 hL hge hI hp30 next)
      | 31, _, e => exact wq_swN rfl e (by decide) rfl (law_c31 hL hge hI hp31 next)
      | 32, _, e => exact wq_swN rfl e (by decide) rfl (law_c32 hL hge hI hp32 next)
      | 33, _, e => exact wq_swN rfl e (by decide) rfl (law_c33 hL hge hI hp33 next)
      | 34, _, e => exact wq_swN rfl e (by decide) rfl (law_c34 hL hge hI hp34 next)
      | 35, _, e => exact wq_swN rfl e (by decide) rfl (law_c35 hL hge hI hp35 next)
      | 36, _, e => exact wq_swN rfl e (by decide) rfl (law_c36 hL hge hI hp36 next)
      | 37, _, e => exact wq_swN rfl e (by decide) rfl (law_c37 hL hge hI hp37 next)
      | 38, _, e => exact wq_swN rfl e (by decide) rfl (law_c38 hL hge hI hp38 next)
      | 39, _, e => exact wq_swN rfl e (by decide) rfl (law_c39 hL hge hI hp39 next)
      | 40, _, e => exact wq_swN rfl e (by decide) rfl (law_c40 hL hge hI hp40 next)
      | 41, _, e => exact wq_swN rfl e (by decide) rfl (law_c41 hL hge hI hp41 next)
      | 42, _, e => exact wq_swN rfl e (by decide) rfl (law_c42 hL hge hI hp42 next)
      | 43, _, e => exact wq_swN rfl e (by decide) rfl (next σ (hU n σ hI))
      | 44, _, e => exact wq_swN rfl e (by decide) rfl (next σ (hU n σ hI))
      | 45, _, e => exact wq_swN rfl e (by decide) rfl (next σ (hU n σ hI))
      | 46, _, e => exact wq_swN rfl e (by decide) rfl (next σ (hU n σ hI))
      | 47, _, e => exact wq_swN rfl e (by decide) rfl (next σ (hU n σ hI))
      | 48, _, e => exact wq_swN rfl e (by decide) rfl (next σ (hU n σ hI))
      | 49, _, e => exact wq_swN rfl e (by decide) rfl (next σ (hU n σ hI))
      | 50, _, e => exact wq_swN rfl e (by decide) rfl (next σ (hU n σ hI))
      | 51, _, e => exact wq_swN rfl e (by decide) rfl (next σ (hU n σ hI))
      | 52, _, e => exact wq_swN rfl e (by decide) rfl (next σ (hU n σ hI))
      | 53, _, e => exact wq_swN rfl e (by decide) rfl (next σ (hU n σ hI))
      | 54, _, e => exact wq_swN rfl e (by decide) rfl (next σ (hU n σ hI))
      | 55, _, e => exact wq_swN rfl e (by decide) rfl (next σ (hU n σ hI))
      | 56, _, e => exact wq_swN rfl e (by decide) rfl (next σ (hU n σ hI))
      | 57, _, e => exact wq_swN rfl e (by decide) rfl (next σ (hU n σ hI))
      | 58, _, e => exact wq_swN rfl e (by decide) rfl (next σ (hU n σ hI))
      | 59, _, e => exact wq_swN rfl e (by decide) rfl (next σ (hU n σ hI))
      | 60, _, e => exact wq_swN rfl e (by decide) rfl (next σ (hU n σ hI))
      | 61, _, e => exact wq_swN rfl e (by decide) rfl (next σ (hU n σ hI))
      | 62, _, e => exact wq_swN rfl e (by decide) rfl (next σ (hU n σ hI))
      | 63, _, e => exact wq_swN rfl e (by decide) rfl (next σ (hU n σ hI))
      | j + 64, hj, _ => exact absurd hj (by omega)
