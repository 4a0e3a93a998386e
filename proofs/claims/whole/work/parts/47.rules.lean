/-! MORE RULES -/
theorem up_up (σ : Nat → List Value) (k : Nat) (u v : List Value) : up (up σ k u) k v = up σ k v := by
  funext j
  by_cases h : j = k <;> simp [up, h]
theorem up_comm (σ : Nat → List Value) {k l : Nat} (u v : List Value) (h : k ≠ l) : up (up σ k u) l v = up (up σ l v) k u := by
  funext j
  by_cases h1 : j = k
  · subst h1
    simp [up, h]
  · simp [up, h1]
theorem nI_and (x y : Nat) : nI x &&& nI y = nI (x &&& y) := by
  apply Int32.toBitVec.inj
  simp [nI]
theorem nI_or (x y : Nat) : nI x ||| nI y = nI (x ||| y) := by
  apply Int32.toBitVec.inj
  simp [nI]
theorem sh_31 : ∀ k, k < 32 → nI k &&& 31 = nI k := by decide
theorem sh_s : ∀ k, k < 32 → ((nI k).toBitVec.smod 32).toNat = k := by decide
theorem sh_u : ∀ k, k < 32 → (((nI k).toUInt32 &&& Int32.toUInt32 31).toBitVec % 32).toNat = k := by decide
section WQB
variable {xs : List Int32} {d : Nat} {cd : List ax_I} {i j a b k m n x y : Nat} {lv lv' : ax_L} {st r : List Value} {σ : Nat → List Value} {Q : Option Value → (Nat → List Value) → Prop} {v : Value} {t : List (Int × Nat)}
theorem wq_andN (h : cd[i]? = some (9, a, 8, v, t)) (K : Wq xs d cd (i + 1) lv (.int (nI (x &&& y)) :: r) σ Q) : Wq xs d cd i lv (.int (nI y) :: .int (nI x) :: r) σ Q := by
  rw [← nI_and] at K
  exact wq_go h (fun _ => rfl) K
theorem wq_orN (h : cd[i]? = some (9, a, 9, v, t)) (K : Wq xs d cd (i + 1) lv (.int (nI (x ||| y)) :: r) σ Q) : Wq xs d cd i lv (.int (nI y) :: .int (nI x) :: r) σ Q := by
  rw [← nI_or] at K
  exact wq_go h (fun _ => rfl) K
theorem wq_shlN (h : cd[i]? = some (9, a, 5, v, t)) (hy : y < 32) (hx : x * 2 ^ y < 2 ^ 32) (K : Wq xs d cd (i + 1) lv (.int (nI (x * 2 ^ y)) :: r) σ Q) : Wq xs d cd i lv (.int (nI y) :: .int (nI x) :: r) σ Q := by
  rw [← pk_shlN (nI y) y (sh_s y hy) hx, ← sh_31 y hy] at K
  exact wq_go h (fun _ => rfl) K
theorem wq_shl1 (h : cd[i]? = some (9, a, 5, v, t)) (hy : y < 32) (K : Wq xs d cd (i + 1) lv (.int (nI (2 ^ y)) :: r) σ Q) : Wq xs d cd i lv (.int (nI y) :: .int (nI 1) :: r) σ Q := by
  refine wq_shlN h hy ?_ ?_
  · rw [Nat.one_mul]
    exact Nat.pow_lt_pow_right (by decide) hy
  · rw [Nat.one_mul]
    exact K
theorem wq_shrN (h : cd[i]? = some (9, a, 6, v, t)) (hx : x < 2 ^ 31) (hy : y < 32) (K : Wq xs d cd (i + 1) lv (.int (nI (x / 2 ^ y)) :: r) σ Q) : Wq xs d cd i lv (.int (nI y) :: .int (nI x) :: r) σ Q := by
  rw [← pk_shrN hx (nI y) y (sh_s y hy), ← sh_31 y hy] at K
  exact wq_go h (fun _ => rfl) K
theorem wq_ushN (h : cd[i]? = some (9, a, 7, v, t)) (hx : x < 2 ^ 31) (hy : y < 32) (K : Wq xs d cd (i + 1) lv (.int (nI (x / 2 ^ y)) :: r) σ Q) : Wq xs d cd i lv (.int (nI y) :: .int (nI x) :: r) σ Q := by
  rw [← pk_ushrN (by omega) (nI y) y (sh_u y hy)] at K
  exact wq_go h (fun _ => rfl) K
theorem wq_decN {u : Int32} {c : Nat} (h : cd[i]? = some (8, a, b, .int u, t)) (hl : lv.lookup a = some (.int (nI x))) (hu : u = -nI c) (hc : c ≤ x) (hlv : ax_st1 lv a (.int (nI (x - c))) = lv') (K : Wq xs d cd (i + 1) lv' st σ Q) : Wq xs d cd i lv st σ Q := by
  subst hlv
  subst hu
  rw [← pk_sub hc, Int32.sub_eq_add_neg] at K
  refine wp_go h ?_ K
  rw [ax_e8]
  unfold ax_s8
  simp only [hl]
/-- a run out of a walk -/
theorem wq_runs (h : Wq xs d cd 0 lv [] σ Q) : ∃ r s, Runs xs d cd lv σ r s ∧ Q r s := by
  obtain ⟨n, r, w, e, s, e2, q⟩ := h
  exact ⟨r, s, ⟨n, r, w, e, s, e2, rfl, rfl⟩, q⟩
end WQB
theorem lvn {lv : ax_L} : ∀ q ∈ ([] : ax_L), q ∈ lv := fun _ h => absurd h List.not_mem_nil
theorem lvm {lv l : ax_L} {a : Nat × Value} (h : a ∈ lv) (t : ∀ q ∈ l, q ∈ lv) : ∀ q ∈ a :: l, q ∈ lv := by
  intro q hq
  rcases List.mem_cons.mp hq with e | e
  · rw [e]; exact h
  · exact t q e
theorem bit1 : ∀ x : Nat, x &&& 1 = x % 2 := fun x => Nat.and_one_is_mod x
theorem tb_div (x k : Nat) : x / 2 ^ k % 2 = if x.testBit k then 1 else 0 := by
  rw [Nat.testBit_eq_decide_div_mod_eq]
  have := Nat.mod_two_eq_zero_or_one (x / 2 ^ k)
  split
  · next h => simpa using h
  · next h => simp at h; omega
/-- one call of the class and one of the reference, in a row -/
theorem pair_of {Inv : Nat → (Nat → List Value) → Prop} {c1 c2 : List ax_I} {as : List Value} (h : ∀ (xs : List Int32) (n : Nat) (σ : Nat → List Value), n < 512 → Inv n σ → Wq xs 59 c1 0 (lv_args 0 (.ref 0 :: as)) [] σ (fun r s => ∃ v, r = some (.int v) ∧ Wq xs 59 c2 0 (lv_args 0 (.ref 287 :: as)) [] s (fun r' s' => r' = some (.int v) ∧ Inv (n + 1) s'))) : PairOK Inv c1 c2 as := by
  intro xs n σ hn hI
  obtain ⟨r, s, hr, v, e, h2⟩ := wq_runs (h xs n σ hn hI)
  obtain ⟨r', s', hr', e', hI'⟩ := wq_runs h2
  subst e
  subst e'
  exact ⟨v, s, s', hr, hr', hI'⟩
