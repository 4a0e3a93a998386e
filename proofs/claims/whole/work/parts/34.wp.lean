/-! RUNS OF THE ABSTRACT MACHINE, goal first -/
theorem ax_fuel {ro : ax_W} {ct : ax_T} {pg : Nat → List ax_I} : ∀ (n d : Nat) (cd : List ax_I) (i : Nat) (lv : ax_L) (st : List Value) (w : ax_W) (x : Option Value × ax_W), ax_ex ro ct pg n d cd i lv st w = some x → ax_ex ro ct pg (n + 1) d cd i lv st w = some x := by
  intro n
  induction n with
  | zero => intro d cd i lv st w x h; cases h
  | succ n ih =>
    intro d cd i lv st w x h
    rw [ax_ex] at h
    rw [ax_ex]
    split at h
    · cases h
    · next ai hai =>
      split at h
      · cases h
      · next q hq =>
        exact ih _ _ _ _ _ _ _ h
      · next q hq =>
        split at h
        · cases h
        · next d' =>
          split at h
          · cases h
          · next r hr =>
            rw [ih _ _ _ _ _ _ _ hr]
            exact ih _ _ _ _ _ _ _ h
      · exact h
theorem ax_fuel_le {ro : ax_W} {ct : ax_T} {pg : Nat → List ax_I} {n k d : Nat} {cd : List ax_I} {i : Nat} {lv : ax_L} {st : List Value} {w : ax_W} {x : Option Value × ax_W} (h : ax_ex ro ct pg n d cd i lv st w = some x) (hk : n ≤ k) : ax_ex ro ct pg k d cd i lv st w = some x := by
  obtain ⟨j, rfl⟩ := Nat.exists_eq_add_of_le hk
  induction j with
  | zero => exact h
  | succ j ih => exact ax_fuel _ _ _ _ _ _ _ _ (ih (Nat.le_add_right _ _))
/-- from here the machine comes to a return with Q -/
def Wp (xs : List Int32) (d : Nat) (cd : List ax_I) (i : Nat) (lv : ax_L) (st : List Value) (w : ax_W) (Q : Option Value → ax_W → Prop) : Prop := ∃ (n : Nat) (r : Option Value) (w' : ax_W), ax_ex (ax_ro xs) ax_cts ax_pg n d cd i lv st w = some (r, w') ∧ Q r w'
section WP
variable {xs : List Int32} {d : Nat} {cd : List ax_I} {i i' : Nat} {lv lv' : ax_L} {st st' : List Value} {w w' : ax_W} {Q Q' : Option Value → ax_W → Prop} {ai : ax_I}
theorem Wp.mono (h : Wp xs d cd i lv st w Q) (hq : ∀ r w', Q r w' → Q' r w') : Wp xs d cd i lv st w Q' := by
  obtain ⟨n, r, w', h1, h2⟩ := h
  exact ⟨n, r, w', h1, hq r w' h2⟩
theorem wp_go (h : cd[i]? = some ai) (hs : ax_stp (ax_ro xs) ax_cts ai i lv st w = some (.inl (i', lv', st', w'))) (k : Wp xs d cd i' lv' st' w' Q) : Wp xs d cd i lv st w Q := by
  obtain ⟨n, r, w2, h1, h2⟩ := k
  refine ⟨n + 1, r, w2, ?_, h2⟩
  rw [ax_ex, h]
  dsimp only
  rw [hs]
  exact h1
theorem wp_end {r : Option Value} (h : cd[i]? = some ai) (hs : ax_stp (ax_ro xs) ax_cts ai i lv st w = some (.inr (.inr r))) (k : Q r w) : Wp xs d cd i lv st w Q := by
  refine ⟨1, r, w, ?_, k⟩
  rw [ax_ex, h]
  dsimp only
  rw [hs]
theorem wp_call {y : Nat} {as rest : List Value} (h : cd[i]? = some ai) (hs : ax_stp (ax_ro xs) ax_cts ai i lv st w = some (.inr (.inl (y, as, rest)))) (hc : Wp xs d (ax_pg y) 0 (lv_args 0 as) [] w Q') (k : ∀ r w', Q' r w' → Wp xs (d + 1) cd (i + 1) lv (r.toList ++ rest) w' Q) : Wp xs (d + 1) cd i lv st w Q := by
  obtain ⟨n1, r1, w1, e1, q1⟩ := hc
  obtain ⟨n2, r2, w2, e2, q2⟩ := k r1 w1 q1
  refine ⟨n1 + n2 + 1, r2, w2, ?_, q2⟩
  rw [ax_ex, h]
  dsimp only
  rw [hs]
  dsimp only
  rw [ax_fuel_le e1 (by omega)]
  exact ax_fuel_le e2 (by omega)
end WP
