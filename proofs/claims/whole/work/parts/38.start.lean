/-! THE START WORLD -/
def ax_ro0 : ax_W := [(.inl .float, []), (.inr 100, [.retAddr 2, .int 0]), (.inl .byte, ax_wB.map .int), (.inr 100, [.retAddr 4, .int 0]), (.inl .byte, ax_sB.map .int)]
def ax_Ro (ro ro' : ax_W) : Prop := ∀ (j : Nat) (c : ax_C), ro[j]? = some c → c.1 = .inl .float ∨ ro'[j]? = some c
theorem ax_Ro_ok (xs : List Int32) : ax_Ro ax_ro0 (ax_ro xs) := by
  intro j c h
  match j, h with
  | 0, h => cases h; exact Or.inl rfl
  | 1, h => exact Or.inr h
  | 2, h => exact Or.inr h
  | 3, h => exact Or.inr h
  | 4, h => exact Or.inr h
  | j + 5, h => simp [ax_ro0] at h
theorem ax_rr50 {ro ro' : ax_W} {ct : ax_T} {a b : Nat} {v : Value} {t : List (Int × Nat)} {i : Nat} {lv : ax_L} {st : List Value} {w : ax_W} {x : ax_R} (hR : ax_Ro ro ro') (h : ax_s50 ro ct a b v t i lv st w = some x) : ax_s50 ro' ct a b v t i lv st w = some x := by
  unfold ax_s50 at h ⊢
  split at h
  · next j r =>
    cases hc : ro[j]? with
    | none => rw [hc] at h; cases h
    | some c =>
      rcases hR _ _ hc with hf | hq
      · rw [hc] at h
        obtain ⟨k, vs⟩ := c
        dsimp only at hf
        subst hf
        simp at h
      · rw [hc] at h
        rw [hq]
        exact h
  · cases h
theorem ax_rr51 {ro ro' : ax_W} {ct : ax_T} {a b : Nat} {v : Value} {t : List (Int × Nat)} {i : Nat} {lv : ax_L} {st : List Value} {w : ax_W} {x : ax_R} (hR : ax_Ro ro ro') (h : ax_s51 ro ct a b v t i lv st w = some x) : ax_s51 ro' ct a b v t i lv st w = some x := by
  unfold ax_s51 at h ⊢
  split at h
  · next j r =>
    cases hc : ro[j]? with
    | none => rw [hc] at h; cases h
    | some c =>
      rcases hR _ _ hc with hf | hq
      · rw [hc] at h
        obtain ⟨k, vs⟩ := c
        dsimp only at hf
        subst hf
        simp at h
      · rw [hc] at h
        rw [hq]
        exact h
  · cases h
theorem ax_rr52 {ro ro' : ax_W} {ct : ax_T} {a b : Nat} {v : Value} {t : List (Int × Nat)} {i : Nat} {lv : ax_L} {st : List Value} {w : ax_W} {x : ax_R} (hR : ax_Ro ro ro') (h : ax_s52 ro ct a b v t i lv st w = some x) : ax_s52 ro' ct a b v t i lv st w = some x := by
  unfold ax_s52 at h ⊢
  split at h
  · next y j r =>
    cases hc : ro[j]? with
    | none => rw [hc] at h; cases h
    | some c =>
      rcases hR _ _ hc with hf | hq
      · rw [hc] at h
        obtain ⟨k, vs⟩ := c
        dsimp only at hf
        subst hf
        simp at h
      · rw [hc] at h
        rw [hq]
        exact h
  · cases h
theorem ax_rr53 {ro ro' : ax_W} {ct : ax_T} {a b : Nat} {v : Value} {t : List (Int × Nat)} {i : Nat} {lv : ax_L} {st : List Value} {w : ax_W} {x : ax_R} (hR : ax_Ro ro ro') (h : ax_s53 ro ct a b v t i lv st w = some x) : ax_s53 ro' ct a b v t i lv st w = some x := by
  unfold ax_s53 at h ⊢
  split at h
  · next y j r =>
    cases hc : ro[j]? with
    | none => rw [hc] at h; cases h
    | some c =>
      rcases hR _ _ hc with hf | hq
      · rw [hc] at h
        obtain ⟨k, vs⟩ := c
        dsimp only at hf
        subst hf
        simp at h
      · rw [hc] at h
        rw [hq]
        exact h
  · cases h
theorem ax_rr54 {ro ro' : ax_W} {ct : ax_T} {a b : Nat} {v : Value} {t : List (Int × Nat)} {i : Nat} {lv : ax_L} {st : List Value} {w : ax_W} {x : ax_R} (hR : ax_Ro ro ro') (h : ax_s54 ro ct a b v t i lv st w = some x) : ax_s54 ro' ct a b v t i lv st w = some x := by
  unfold ax_s54 at h ⊢
  split at h
  · next j r hdr =>
    cases hc : ro[j]? with
    | none => rw [hc] at h; cases h
    | some c =>
      rcases hR _ _ hc with hf | hq
      · rw [hc] at h
        obtain ⟨k, vs⟩ := c
        dsimp only at hf
        subst hf
        simp at h
      · rw [hc] at h
        rw [hq]
        first | exact h | (rw [hdr]; exact h)
  · cases h
theorem ax_stp_ro {ro ro' : ax_W} {ct : ax_T} {ai : ax_I} {i : Nat} {lv : ax_L} {st : List Value} {w : ax_W} {x : ax_R} (hR : ax_Ro ro ro') (h : ax_stp ro ct ai i lv st w = some x) : ax_stp ro' ct ai i lv st w = some x := by
  obtain ⟨op, a, b, v, t⟩ := ai
  have hlt := ax_op_lt h
  match op, h, hlt with
  | 0, h, _ =>
    change ax_s0 ro ct a b v t i lv st w = some x at h
    show ax_s0 ro' ct a b v t i lv st w = some x
    unfold ax_s0 at h ⊢
    exact h
  | 1, h, _ =>
    change ax_s1 ro ct a b v t i lv st w = some x at h
    show ax_s1 ro' ct a b v t i lv st w = some x
    unfold ax_s1 at h ⊢
    exact h
  | 2, h, _ =>
    change ax_s2 ro ct a b v t i lv st w = some x at h
    show ax_s2 ro' ct a b v t i lv st w = some x
    unfold ax_s2 at h ⊢
    exact h
  | 3, h, _ =>
    change ax_s3 ro ct a b v t i lv st w = some x at h
    show ax_s3 ro' ct a b v t i lv st w = some x
    unfold ax_s3 at h ⊢
    exact h
  | 4, h, _ =>
    change ax_s4 ro ct a b v t i lv st w = some x at h
    show ax_s4 ro' ct a b v t i lv st w = some x
    unfold ax_s4 at h ⊢
    exact h
  | 5, h, _ =>
    change ax_s5 ro ct a b v t i lv st w = some x at h
    show ax_s5 ro' ct a b v t i lv st w = some x
    unfold ax_s5 at h ⊢
    exact h
  | 6, h, _ =>
    change ax_s6 ro ct a b v t i lv st w = some x at h
    show ax_s6 ro' ct a b v t i lv st w = some x
    unfold ax_s6 at h ⊢
    exact h
  | 7, h, _ =>
    change ax_s7 ro ct a b v t i lv st w = some x at h
    show ax_s7 ro' ct a b v t i lv st w = some x
    unfold ax_s7 at h ⊢
    exact h
  | 8, h, _ =>
    change ax_s8 ro ct a b v t i lv st w = some x at h
    show ax_s8 ro' ct a b v t i lv st w = some x
    unfold ax_s8 at h ⊢
    exact h
  | 9, h, _ =>
    change ax_s9 ro ct a b v t i lv st w = some x at h
    show ax_s9 ro' ct a b v t i lv st w = some x
    unfold ax_s9 at h ⊢
    exact h
  | 10, h, _ =>
    change ax_s10 ro ct a b v t i lv st w = some x at h
    show ax_s10 ro' ct a b v t i lv st w = some x
    unfold ax_s10 at h ⊢
    exact h
  | 11, h, _ =>
    change ax_s11 ro ct a b v t i lv st w = some x at h
    show ax_s11 ro' ct a b v t i lv st w = some x
    unfold ax_s11 at h ⊢
    exact h
  | 12, h, _ =>
    change ax_s12 ro ct a b v t i lv st w = some x at h
    show ax_s12 ro' ct a b v t i lv st w = some x
    unfold ax_s12 at h ⊢
    exact h
  | 13, h, _ =>
    change ax_s13 ro ct a b v t i lv st w = some x at h
    show ax_s13 ro' ct a b v t i lv st w = some x
    unfold ax_s13 at h ⊢
    exact h
  | 14, h, _ =>
    change ax_s14 ro ct a b v t i lv st w = some x at h
    show ax_s14 ro' ct a b v t i lv st w = some x
    unfold ax_s14 at h ⊢
    exact h
  | 15, h, _ =>
    change ax_s15 ro ct a b v t i lv st w = some x at h
    show ax_s15 ro' ct a b v t i lv st w = some x
    unfold ax_s15 at h ⊢
    exact h
  | 16, h, _ =>
    change ax_s16 ro ct a b v t i lv st w = some x at h
    show ax_s16 ro' ct a b v t i lv st w = some x
    unfold ax_s16 at h ⊢
    exact h
  | 17, h, _ =>
    change ax_s17 ro ct a b v t i lv st w = some x at h
    show ax_s17 ro' ct a b v t i lv st w = some x
    unfold ax_s17 at h ⊢
    exact h
  | 18, h, _ =>
    change ax_s18 ro ct a b v t i lv st w = some x at h
    show ax_s18 ro' ct a b v t i lv st w = some x
    unfold ax_s18 at h ⊢
    exact h
  | 19, h, _ =>
    change ax_s19 ro ct a b v t i lv st w = some x at h
    show ax_s19 ro' ct a b v t i lv st w = some x
    unfold ax_s19 at h ⊢
    exact h
  | 20, h, _ =>
    change ax_s20 ro ct a b v t i lv st w = some x at h
    show ax_s20 ro' ct a b v t i lv st w = some x
    unfold ax_s20 at h ⊢
    exact h
  | 21, h, _ =>
    change ax_s21 ro ct a b v t i lv st w = some x at h
    show ax_s21 ro' ct a b v t i lv st w = some x
    unfold ax_s21 at h ⊢
    exact h
  | 22, h, _ =>
    change ax_s22 ro ct a b v t i lv st w = some x at h
    show ax_s22 ro' ct a b v t i lv st w = some x
    unfold ax_s22 at h ⊢
    exact h
  | 23, h, _ =>
    change ax_s23 ro ct a b v t i lv st w = some x at h
    show ax_s23 ro' ct a b v t i lv st w = some x
    unfold ax_s23 at h ⊢
    exact h
  | 24, h, _ =>
    change ax_s24 ro ct a b v t i lv st w = some x at h
    show ax_s24 ro' ct a b v t i lv st w = some x
    unfold ax_s24 at h ⊢
    exact h
  | 25, h, _ =>
    change ax_s25 ro ct a b v t i lv st w = some x at h
    show ax_s25 ro' ct a b v t i lv st w = some x
    unfold ax_s25 at h ⊢
    exact h
  | 26, h, _ =>
    change ax_s26 ro ct a b v t i lv st w = some x at h
    show ax_s26 ro' ct a b v t i lv st w = some x
    unfold ax_s26 at h ⊢
    exact h
  | 27, h, _ =>
    change ax_s27 ro ct a b v t i lv st w = some x at h
    show ax_s27 ro' ct a b v t i lv st w = some x
    unfold ax_s27 at h ⊢
    exact h
  | 28, h, _ =>
    change ax_s28 ro ct a b v t i lv st w = some x at h
    show ax_s28 ro' ct a b v t i lv st w = some x
    unfold ax_s28 at h ⊢
    exact h
  | 29, h, _ =>
    change ax_s29 ro ct a b v t i lv st w = some x at h
    show ax_s29 ro' ct a b v t i lv st w = some x
    unfold ax_s29 at h ⊢
    exact h
  | 30, h, _ =>
    change ax_s30 ro ct a b v t i lv st w = some x at h
    show ax_s30 ro' ct a b v t i lv st w = some x
    unfold ax_s30 at h ⊢
    exact h
  | 31, h, _ =>
    change ax_s31 ro ct a b v t i lv st w = some x at h
    show ax_s31 ro' ct a b v t i lv st w = some x
    unfold ax_s31 at h ⊢
    exact h
  | 32, h, _ =>
    change ax_s32 ro ct a b v t i lv st w = some x at h
    show ax_s32 ro' ct a b v t i lv st w = some x
    unfold ax_s32 at h ⊢
    exact h
  | 33, h, _ =>
    change ax_s33 ro ct a b v t i lv st w = some x at h
    show ax_s33 ro' ct a b v t i lv st w = some x
    unfold ax_s33 at h ⊢
    exact h
  | 34, h, _ =>
    change ax_s34 ro ct a b v t i lv st w = some x at h
    show ax_s34 ro' ct a b v t i lv st w = some x
    unfold ax_s34 at h ⊢
    exact h
  | 35, h, _ =>
    change ax_s35 ro ct a b v t i lv st w = some x at h
    show ax_s35 ro' ct a b v t i lv st w = some x
    unfold ax_s35 at h ⊢
    exact h
  | 36, h, _ =>
    change ax_s36 ro ct a b v t i lv st w = some x at h
    show ax_s36 ro' ct a b v t i lv st w = some x
    unfold ax_s36 at h ⊢
    exact h
  | 37, h, _ =>
    change ax_s37 ro ct a b v t i lv st w = some x at h
    show ax_s37 ro' ct a b v t i lv st w = some x
    unfold ax_s37 at h ⊢
    exact h
  | 38, h, _ =>
    change ax_s38 ro ct a b v t i lv st w = some x at h
    show ax_s38 ro' ct a b v t i lv st w = some x
    unfold ax_s38 at h ⊢
    exact h
  | 39, h, _ =>
    change ax_s39 ro ct a b v t i lv st w = some x at h
    show ax_s39 ro' ct a b v t i lv st w = some x
    unfold ax_s39 at h ⊢
    exact h
  | 40, h, _ =>
    change ax_s40 ro ct a b v t i lv st w = some x at h
    show ax_s40 ro' ct a b v t i lv st w = some x
    unfold ax_s40 at h ⊢
    exact h
  | 41, h, _ =>
    change ax_s41 ro ct a b v t i lv st w = some x at h
    show ax_s41 ro' ct a b v t i lv st w = some x
    unfold ax_s41 at h ⊢
    exact h
  | 42, h, _ => cases h
  | 43, h, _ =>
    change ax_s43 ro ct a b v t i lv st w = some x at h
    show ax_s43 ro' ct a b v t i lv st w = some x
    unfold ax_s43 at h ⊢
    exact h
  | 44, h, _ =>
    change ax_s44 ro ct a b v t i lv st w = some x at h
    show ax_s44 ro' ct a b v t i lv st w = some x
    unfold ax_s44 at h ⊢
    exact h
  | 45, h, _ =>
    change ax_s45 ro ct a b v t i lv st w = some x at h
    show ax_s45 ro' ct a b v t i lv st w = some x
    unfold ax_s45 at h ⊢
    exact h
  | 46, h, _ =>
    change ax_s46 ro ct a b v t i lv st w = some x at h
    show ax_s46 ro' ct a b v t i lv st w = some x
    unfold ax_s46 at h ⊢
    exact h
  | 47, h, _ =>
    change ax_s47 ro ct a b v t i lv st w = some x at h
    show ax_s47 ro' ct a b v t i lv st w = some x
    unfold ax_s47 at h ⊢
    exact h
  | 48, h, _ =>
    change ax_s48 ro ct a b v t i lv st w = some x at h
    show ax_s48 ro' ct a b v t i lv st w = some x
    unfold ax_s48 at h ⊢
    exact h
  | 49, h, _ =>
    change ax_s49 ro ct a b v t i lv st w = some x at h
    show ax_s49 ro' ct a b v t i lv st w = some x
    unfold ax_s49 at h ⊢
    exact h
  | 50, h, _ => exact ax_rr50 (ct := ct) (a := a) (b := b) (v := v) (t := t) (i := i) (lv := lv) (st := st) (w := w) hR h
  | 51, h, _ => exact ax_rr51 (ct := ct) (a := a) (b := b) (v := v) (t := t) (i := i) (lv := lv) (st := st) (w := w) hR h
  | 52, h, _ => exact ax_rr52 (ct := ct) (a := a) (b := b) (v := v) (t := t) (i := i) (lv := lv) (st := st) (w := w) hR h
  | 53, h, _ => exact ax_rr53 (ct := ct) (a := a) (b := b) (v := v) (t := t) (i := i) (lv := lv) (st := st) (w := w) hR h
  | 54, h, _ => exact ax_rr54 (ct := ct) (a := a) (b := b) (v := v) (t := t) (i := i) (lv := lv) (st := st) (w := w) hR h
  | 55, h, _ =>
    change ax_s55 ro ct a b v t i lv st w = some x at h
    show ax_s55 ro' ct a b v t i lv st w = some x
    unfold ax_s55 at h ⊢
    exact h
  | 56, h, _ =>
    change ax_s56 ro ct a b v t i lv st w = some x at h
    show ax_s56 ro' ct a b v t i lv st w = some x
    unfold ax_s56 at h ⊢
    exact h
theorem ax_ex_ro {ro ro' : ax_W} {ct : ax_T} {pg : Nat → List ax_I} (hR : ax_Ro ro ro') : ∀ (n d : Nat) (cd : List ax_I) (i : Nat) (lv : ax_L) (st : List Value) (w : ax_W) (x : Option Value × ax_W), ax_ex ro ct pg n d cd i lv st w = some x → ax_ex ro' ct pg n d cd i lv st w = some x := by
  intro n
  induction n with
  | zero => intro d cd i lv st w x h; cases h
  | succ n ih =>
    intro d cd i lv st w x h
    rw [ax_ex] at h
    rw [ax_ex]
    cases hai : cd[i]? with
    | none => rw [hai] at h; cases h
    | some ai =>
      rw [hai] at h
      dsimp only at h ⊢
      cases hst : ax_stp ro ct ai i lv st w with
      | none => rw [hst] at h; cases h
      | some y =>
        rw [hst] at h
        rw [ax_stp_ro hR hst]
        cases y with
        | inl q => exact ih _ _ _ _ _ _ _ h
        | inr z =>
          cases z with
          | inl q =>
            dsimp only at h ⊢
            cases d with
            | zero => cases h
            | succ d' =>
              dsimp only at h ⊢
              cases hc : ax_ex ro ct pg n d' (pg q.1) 0 (lv_args 0 q.2.1) [] w with
              | none => rw [hc] at h; cases h
              | some r =>
                rw [hc] at h
                rw [ih _ _ _ _ _ _ _ hc]
                exact ih _ _ _ _ _ _ _ h
          | inr v => exact h
def ax_W1 : ax_W := [(.inr 0, [.ref 1, .ref 3, .ref 21, .ref 30, .ref 35, .ref 40, .ref 63, .ref 68, .ref 270]),
  (.inr 1, [.ref 2, .int 0]),
  (.inl .byte, List.replicate 2000 (.int 0)),
  (.inr 2, [.ref 15, .ref 4, .ref 13, .ref 14, .int 0, .int 34, .int 0, .int 0, .int (-1), .int (-1)]),
  (.inr 3, [.ref 5, .ref 6, .ref 7, .ref 8, .ref 9, .ref 10, .ref 11, .ref 12, .int 8, .int 0, .int 0, .int 0, .int 0, .int 50, .int 0, .int 0]),
  (.inl .int, [.int 0, .int 0, .int 0, .int 0]),
  (.inl .int, List.replicate 5 (.int 0)),
  (.inl .int, List.replicate 20 (.int 0)),
  (.inl .int, List.replicate 10 (.int 0)),
  (.inl .int, List.replicate 10 (.int 0)),
  (.inl .int, List.replicate 10 (.int 0)),
  (.inl .int, ([.int 8] ++ ([.int 7] ++ ([.int 8] ++ ([.int 7] ++ ([.int 25] ++ ([.int 7] ++ ([.int 0] ++ ([.int 7] ++ (List.replicate 400 (.int 0))))))))))),
  (.inl .int, [.int 0, .int 2, .int 4, .int 6]),
  (.inl .long, [.long 0, .long 0, .long 0, .long 0]),
  (.inl .long, List.replicate 5 (.long 0)),
  (.inr 4, [.ref 1, .ref 16, .ref 17, .ref 18, .ref 19, .ref 20, .int 0, .int 0]),
  (.inl .long, [.long 1752777, .long 161140, .long 11882963, .long 5948362, .long 230501935, .long 330936265, .long 3211399, .long 194785936, .long 375400, .long 267362, .long 377761, .long 249, .long 399641, .long 107681, .long 260045, .long 11190, .long 7871591333, .long 1842002, .long 11570, .long 168984, .long 13898, .long 12387257, .long 1065]),
  (.inl .int, List.replicate 401 (.int 0)),
  (.inl .int, List.replicate 401 (.int 0)),
  (.inl .int, List.replicate 401 (.int 0)),
  (.inl .long, List.replicate 401 (.long 0)),
  (.inr 3, [.ref 22, .ref 23, .ref 24, .ref 25, .ref 26, .ref 27, .ref 28, .ref 29, .int 8, .int 0, .int 0, .int 0, .int 0, .int 50, .int 0, .int 0]),
  (.inl .int, [.int 0, .int 0, .int 0, .int 0]),
  (.inl .int, List.replicate 5 (.int 0)),
  (.inl .int, List.replicate 20 (.int 0)),
  (.inl .int, List.replicate 10 (.int 0)),
  (.inl .int, List.replicate 10 (.int 0)),
  (.inl .int, List.replicate 10 (.int 0)),
  (.inl .int, ([.int 8] ++ ([.int 7] ++ ([.int 8] ++ ([.int 7] ++ ([.int 25] ++ ([.int 7] ++ ([.int 0] ++ ([.int 7] ++ (List.replicate 400 (.int 0))))))))))),
  (.inl .int, [.int 0, .int 2, .int 4, .int 6]),
  (.inr 5, [.ref 21, .ref 32, .ref 31]),
  (.inl .int, [.int 0, .int 0, .int 0, .int 0]),
  (.inr 6, [.ref 21, .ref 33, .ref 34]),
  (.inl .int, List.replicate 32 (.int 0)),
  (.inl .int, List.replicate 9 (.int 0)),
  (.inr 7, [.ref 36, .ref 37, .ref 38, .ref 39, .int 0, .int 0, .int 0, .int 0]),
  (.inl .int, List.replicate 16 (.int 0)),
  (.inl .int, List.replicate 20 (.int 0)),
  (.inl .int, [.int 0, .int 0, .int 0, .int 0]),
  (.inl .int, List.replicate 5 (.int 0)),
  (.inr 8, [.ref 21, .ref 30, .ref 35, .ref 41, .ref 46, .ref 47]),
  (.inr 7, [.ref 42, .ref 43, .ref 44, .ref 45, .int 0, .int 0, .int 0, .int 0]),
  (.inl .int, List.replicate 16 (.int 0)),
  (.inl .int, List.replicate 20 (.int 0)),
  (.inl .int, [.int 0, .int 0, .int 0, .int 0]),
  (.inl .int, List.replicate 5 (.int 0)),
  (.inl (.object "HeadCloths$State"), [.ref 48, .ref 53, .ref 58]),
  (.inl .int, [.int 0, .int 0, .int 0]),
  (.inr 7, [.ref 49, .ref 50, .ref 51, .ref 52, .int 0, .int 0, .int 0, .int 0]),
  (.inl .int, List.replicate 16 (.int 0)),
  (.inl .int, List.replicate 20 (.int 0)),
  (.inl .int, [.int 0, .int 0, .int 0, .int 0]),
  (.inl .int, List.replicate 5 (.int 0)),
  (.inr 7, [.ref 54, .ref 55, .ref 56, .ref 57, .int 0, .int 0, .int 0, .int 0]),
  (.inl .int, List.replicate 16 (.int 0)),
  (.inl .int, List.replicate 20 (.int 0)),
  (.inl .int, [.int 0, .int 0, .int 0, .int 0]),
  (.inl .int, List.replicate 5 (.int 0)),
  (.inr 7, [.ref 59, .ref 60, .ref 61, .ref 62, .int 0, .int 0, .int 0, .int 0]),
  (.inl .int, List.replicate 16 (.int 0)),
  (.inl .int, List.replicate 20 (.int 0)),
  (.inl .int, [.int 0, .int 0, .int 0, .int 0]),
  (.inl .int, List.replicate 5 (.int 0)),
  (.inr 9, [.ref 21, .ref 30, .ref 35, .ref 64, .ref 65, .ref 66, .ref 67, .int 0]),
  (.inl .int, List.replicate 20 (.int 0)),
  (.inl .int, List.replicate 20 (.int 0)),
  (.inl .int, List.replicate 20 (.int 0)),
  (.inl .boolean, List.replicate 20 (.int 0)),
  (.inr 10, [.ref 69, .int 0, .int 0]),
  (.inl (.object "HeadCloths$State"), [.ref 70, .ref 75, .ref 80, .ref 85, .ref 90, .ref 95, .ref 100, .ref 105, .ref 110, .ref 115, .ref 120, .ref 125, .ref 130, .ref 135, .ref 140, .ref 145, .ref 150, .ref 155, .ref 160, .ref 165, .ref 170, .ref 175, .ref 180, .ref 185, .ref 190, .ref 195, .ref 200, .ref 205, .ref 210, .ref 215, .ref 220, .ref 225, .ref 230, .ref 235, .ref 240, .ref 245, .ref 250, .ref 255, .ref 260, .ref 265]),
  (.inr 7, [.ref 71, .ref 72, .ref 73, .ref 74, .int 0, .int 0, .int 0, .int 0]),
  (.inl .int, List.replicate 16 (.int 0)),
  (.inl .int, List.replicate 20 (.int 0)),
  (.inl .int, [.int 0, .int 0, .int 0, .int 0]),
  (.inl .int, List.replicate 5 (.int 0)),
  (.inr 7, [.ref 76, .ref 77, .ref 78, .ref 79, .int 0, .int 0, .int 0, .int 0]),
  (.inl .int, List.replicate 16 (.int 0)),
  (.inl .int, List.replicate 20 (.int 0)),
  (.inl .int, [.int 0, .int 0, .int 0, .int 0]),
  (.inl .int, List.replicate 5 (.int 0)),
  (.inr 7, [.ref 81, .ref 82, .ref 83, .ref 84, .int 0, .int 0, .int 0, .int 0]),
  (.inl .int, List.replicate 16 (.int 0)),
  (.inl .int, List.replicate 20 (.int 0)),
  (.inl .int, [.int 0, .int 0, .int 0, .int 0]),
  (.inl .int, List.replicate 5 (.int 0)),
  (.inr 7, [.ref 86, .ref 87, .ref 88, .ref 89, .int 0, .int 0, .int 0, .int 0]),
  (.inl .int, List.replicate 16 (.int 0)),
  (.inl .int, List.replicate 20 (.int 0)),
  (.inl .int, [.int 0, .int 0, .int 0, .int 0]),
  (.inl .int, List.replicate 5 (.int 0)),
  (.inr 7, [.ref 91, .ref 92, .ref 93, .ref 94, .int 0, .int 0, .int 0, .int 0]),
  (.inl .int, List.replicate 16 (.int 0)),
  (.inl .int, List.replicate 20 (.int 0)),
  (.inl .int, [.int 0, .int 0, .int 0, .int 0]),
  (.inl .int, List.replicate 5 (.int 0)),
  (.inr 7, [.ref 96, .ref 97, .ref 98, .ref 99, .int 0, .int 0, .int 0, .int 0]),
  (.inl .int, List.replicate 16 (.int 0)),
  (.inl .int, List.replicate 20 (.int 0)),
  (.inl .int, [.int 0, .int 0, .int 0, .int 0]),
  (.inl .int, List.replicate 5 (.int 0)),
  (.inr 7, [.ref 101, .ref 102, .ref 103, .ref 104, .int 0, .int 0, .int 0, .int 0]),
  (.inl .int, List.replicate 16 (.int 0)),
  (.inl .int, List.replicate 20 (.int 0)),
  (.inl .int, [.int 0, .int 0, .int 0, .int 0]),
  (.inl .int, List.replicate 5 (.int 0)),
  (.inr 7, [.ref 106, .ref 107, .ref 108, .ref 109, .int 0, .int 0, .int 0, .int 0]),
  (.inl .int, List.replicate 16 (.int 0)),
  (.inl .int, List.replicate 20 (.int 0)),
  (.inl .int, [.int 0, .int 0, .int 0, .int 0]),
  (.inl .int, List.replicate 5 (.int 0)),
  (.inr 7, [.ref 111, .ref 112, .ref 113, .ref 114, .int 0, .int 0, .int 0, .int 0]),
  (.inl .int, List.replicate 16 (.int 0)),
  (.inl .int, List.replicate 20 (.int 0)),
  (.inl .int, [.int 0, .int 0, .int 0, .int 0]),
  (.inl .int, List.replicate 5 (.int 0)),
  (.inr 7, [.ref 116, .ref 117, .ref 118, .ref 119, .int 0, .int 0, .int 0, .int 0]),
  (.inl .int, List.replicate 16 (.int 0)),
  (.inl .int, List.replicate 20 (.int 0)),
  (.inl .int, [.int 0, .int 0, .int 0, .int 0]),
  (.inl .int, List.replicate 5 (.int 0)),
  (.inr 7, [.ref 121, .ref 122, .ref 123, .ref 124, .int 0, .int 0, .int 0, .int 0]),
  (.inl .int, List.replicate 16 (.int 0)),
  (.inl .int, List.replicate 20 (.int 0)),
  (.inl .int, [.int 0, .int 0, .int 0, .int 0]),
  (.inl .int, List.replicate 5 (.int 0)),
  (.inr 7, [.ref 126, .ref 127, .ref 128, .ref 129, .int 0, .int 0, .int 0, .int 0]),
  (.inl .int, List.replicate 16 (.int 0)),
  (.inl .int, List.replicate 20 (.int 0)),
  (.inl .int, [.int 0, .int 0, .int 0, .int 0]),
  (.inl .int, List.replicate 5 (.int 0)),
  (.inr 7, [.ref 131, .ref 132, .ref 133, .ref 134, .int 0, .int 0, .int 0, .int 0]),
  (.inl .int, List.replicate 16 (.int 0)),
  (.inl .int, List.replicate 20 (.int 0)),
  (.inl .int, [.int 0, .int 0, .int 0, .int 0]),
  (.inl .int, List.replicate 5 (.int 0)),
  (.inr 7, [.ref 136, .ref 137, .ref 138, .ref 139, .int 0, .int 0, .int 0, .int 0]),
  (.inl .int, List.replicate 16 (.int 0)),
  (.inl .int, List.replicate 20 (.int 0)),
  (.inl .int, [.int 0, .int 0, .int 0, .int 0]),
  (.inl .int, List.replicate 5 (.int 0)),
  (.inr 7, [.ref 141, .ref 142, .ref 143, .ref 144, .int 0, .int 0, .int 0, .int 0]),
  (.inl .int, List.replicate 16 (.int 0)),
  (.inl .int, List.replicate 20 (.int 0)),
  (.inl .int, [.int 0, .int 0, .int 0, .int 0]),
  (.inl .int, List.replicate 5 (.int 0)),
  (.inr 7, [.ref 146, .ref 147, .ref 148, .ref 149, .int 0, .int 0, .int 0, .int 0]),
  (.inl .int, List.replicate 16 (.int 0)),
  (.inl .int, List.replicate 20 (.int 0)),
  (.inl .int, [.int 0, .int 0, .int 0, .int 0]),
  (.inl .int, List.replicate 5 (.int 0)),
  (.inr 7, [.ref 151, .ref 152, .ref 153, .ref 154, .int 0, .int 0, .int 0, .int 0]),
  (.inl .int, List.replicate 16 (.int 0)),
  (.inl .int, List.replicate 20 (.int 0)),
  (.inl .int, [.int 0, .int 0, .int 0, .int 0]),
  (.inl .int, List.replicate 5 (.int 0)),
  (.inr 7, [.ref 156, .ref 157, .ref 158, .ref 159, .int 0, .int 0, .int 0, .int 0]),
  (.inl .int, List.replicate 16 (.int 0)),
  (.inl .int, List.replicate 20 (.int 0)),
  (.inl .int, [.int 0, .int 0, .int 0, .int 0]),
  (.inl .int, List.replicate 5 (.int 0)),
  (.inr 7, [.ref 161, .ref 162, .ref 163, .ref 164, .int 0, .int 0, .int 0, .int 0]),
  (.inl .int, List.replicate 16 (.int 0)),
  (.inl .int, List.replicate 20 (.int 0)),
  (.inl .int, [.int 0, .int 0, .int 0, .int 0]),
  (.inl .int, List.replicate 5 (.int 0)),
  (.inr 7, [.ref 166, .ref 167, .ref 168, .ref 169, .int 0, .int 0, .int 0, .int 0]),
  (.inl .int, List.replicate 16 (.int 0)),
  (.inl .int, List.replicate 20 (.int 0)),
  (.inl .int, [.int 0, .int 0, .int 0, .int 0]),
  (.inl .int, List.replicate 5 (.int 0)),
  (.inr 7, [.ref 171, .ref 172, .ref 173, .ref 174, .int 0, .int 0, .int 0, .int 0]),
  (.inl .int, List.replicate 16 (.int 0)),
  (.inl .int, List.replicate 20 (.int 0)),
  (.inl .int, [.int 0, .int 0, .int 0, .int 0]),
  (.inl .int, List.replicate 5 (.int 0)),
  (.inr 7, [.ref 176, .ref 177, .ref 178, .ref 179, .int 0, .int 0, .int 0, .int 0]),
  (.inl .int, List.replicate 16 (.int 0)),
  (.inl .int, List.replicate 20 (.int 0)),
  (.inl .int, [.int 0, .int 0, .int 0, .int 0]),
  (.inl .int, List.replicate 5 (.int 0)),
  (.inr 7, [.ref 181, .ref 182, .ref 183, .ref 184, .int 0, .int 0, .int 0, .int 0]),
  (.inl .int, List.replicate 16 (.int 0)),
  (.inl .int, List.replicate 20 (.int 0)),
  (.inl .int, [.int 0, .int 0, .int 0, .int 0]),
  (.inl .int, List.replicate 5 (.int 0)),
  (.inr 7, [.ref 186, .ref 187, .ref 188, .ref 189, .int 0, .int 0, .int 0, .int 0]),
  (.inl .int, List.replicate 16 (.int 0)),
  (.inl .int, List.replicate 20 (.int 0)),
  (.inl .int, [.int 0, .int 0, .int 0, .int 0]),
  (.inl .int, List.replicate 5 (.int 0)),
  (.inr 7, [.ref 191, .ref 192, .ref 193, .ref 194, .int 0, .int 0, .int 0, .int 0]),
  (.inl .int, List.replicate 16 (.int 0)),
  (.inl .int, List.replicate 20 (.int 0)),
  (.inl .int, [.int 0, .int 0, .int 0, .int 0]),
  (.inl .int, List.replicate 5 (.int 0)),
  (.inr 7, [.ref 196, .ref 197, .ref 198, .ref 199, .int 0, .int 0, .int 0, .int 0]),
  (.inl .int, List.replicate 16 (.int 0)),
  (.inl .int, List.replicate 20 (.int 0)),
  (.inl .int, [.int 0, .int 0, .int 0, .int 0]),
  (.inl .int, List.replicate 5 (.int 0)),
  (.inr 7, [.ref 201, .ref 202, .ref 203, .ref 204, .int 0, .int 0, .int 0, .int 0]),
  (.inl .int, List.replicate 16 (.int 0)),
  (.inl .int, List.replicate 20 (.int 0)),
  (.inl .int, [.int 0, .int 0, .int 0, .int 0]),
  (.inl .int, List.replicate 5 (.int 0)),
  (.inr 7, [.ref 206, .ref 207, .ref 208, .ref 209, .int 0, .int 0, .int 0, .int 0]),
  (.inl .int, List.replicate 16 (.int 0)),
  (.inl .int, List.replicate 20 (.int 0)),
  (.inl .int, [.int 0, .int 0, .int 0, .int 0]),
  (.inl .int, List.replicate 5 (.int 0)),
  (.inr 7, [.ref 211, .ref 212, .ref 213, .ref 214, .int 0, .int 0, .int 0, .int 0]),
  (.inl .int, List.replicate 16 (.int 0)),
  (.inl .int, List.replicate 20 (.int 0)),
  (.inl .int, [.int 0, .int 0, .int 0, .int 0]),
  (.inl .int, List.replicate 5 (.int 0)),
  (.inr 7, [.ref 216, .ref 217, .ref 218, .ref 219, .int 0, .int 0, .int 0, .int 0]),
  (.inl .int, List.replicate 16 (.int 0)),
  (.inl .int, List.replicate 20 (.int 0)),
  (.inl .int, [.int 0, .int 0, .int 0, .int 0]),
  (.inl .int, List.replicate 5 (.int 0)),
  (.inr 7, [.ref 221, .ref 222, .ref 223, .ref 224, .int 0, .int 0, .int 0, .int 0]),
  (.inl .int, List.replicate 16 (.int 0)),
  (.inl .int, List.replicate 20 (.int 0)),
  (.inl .int, [.int 0, .int 0, .int 0, .int 0]),
  (.inl .int, List.replicate 5 (.int 0)),
  (.inr 7, [.ref 226, .ref 227, .ref 228, .ref 229, .int 0, .int 0, .int 0, .int 0]),
  (.inl .int, List.replicate 16 (.int 0)),
  (.inl .int, List.replicate 20 (.int 0)),
  (.inl .int, [.int 0, .int 0, .int 0, .int 0]),
  (.inl .int, List.replicate 5 (.int 0)),
  (.inr 7, [.ref 231, .ref 232, .ref 233, .ref 234, .int 0, .int 0, .int 0, .int 0]),
  (.inl .int, List.replicate 16 (.int 0)),
  (.inl .int, List.replicate 20 (.int 0)),
  (.inl .int, [.int 0, .int 0, .int 0, .int 0]),
  (.inl .int, List.replicate 5 (.int 0)),
  (.inr 7, [.ref 236, .ref 237, .ref 238, .ref 239, .int 0, .int 0, .int 0, .int 0]),
  (.inl .int, List.replicate 16 (.int 0)),
  (.inl .int, List.replicate 20 (.int 0)),
  (.inl .int, [.int 0, .int 0, .int 0, .int 0]),
  (.inl .int, List.replicate 5 (.int 0)),
  (.inr 7, [.ref 241, .ref 242, .ref 243, .ref 244, .int 0, .int 0, .int 0, .int 0]),
  (.inl .int, List.replicate 16 (.int 0)),
  (.inl .int, List.replicate 20 (.int 0)),
  (.inl .int, [.int 0, .int 0, .int 0, .int 0]),
  (.inl .int, List.replicate 5 (.int 0)),
  (.inr 7, [.ref 246, .ref 247, .ref 248, .ref 249, .int 0, .int 0, .int 0, .int 0]),
  (.inl .int, List.replicate 16 (.int 0)),
  (.inl .int, List.replicate 20 (.int 0)),
  (.inl .int, [.int 0, .int 0, .int 0, .int 0]),
  (.inl .int, List.replicate 5 (.int 0)),
  (.inr 7, [.ref 251, .ref 252, .ref 253, .ref 254, .int 0, .int 0, .int 0, .int 0]),
  (.inl .int, List.replicate 16 (.int 0)),
  (.inl .int, List.replicate 20 (.int 0)),
  (.inl .int, [.int 0, .int 0, .int 0, .int 0]),
  (.inl .int, List.replicate 5 (.int 0)),
  (.inr 7, [.ref 256, .ref 257, .ref 258, .ref 259, .int 0, .int 0, .int 0, .int 0]),
  (.inl .int, List.replicate 16 (.int 0)),
  (.inl .int, List.replicate 20 (.int 0)),
  (.inl .int, [.int 0, .int 0, .int 0, .int 0]),
  (.inl .int, List.replicate 5 (.int 0)),
  (.inr 7, [.ref 261, .ref 262, .ref 263, .ref 264, .int 0, .int 0, .int 0, .int 0]),
  (.inl .int, List.replicate 16 (.int 0)),
  (.inl .int, List.replicate 20 (.int 0)),
  (.inl .int, [.int 0, .int 0, .int 0, .int 0]),
  (.inl .int, List.replicate 5 (.int 0)),
  (.inr 7, [.ref 266, .ref 267, .ref 268, .ref 269, .int 0, .int 0, .int 0, .int 0]),
  (.inl .int, List.replicate 16 (.int 0)),
  (.inl .int, List.replicate 20 (.int 0)),
  (.inl .int, [.int 0, .int 0, .int 0, .int 0]),
  (.inl .int, List.replicate 5 (.int 0)),
  (.inr 11, [.ref 271, .int 0]),
  (.inl (.object "HeadCloths$State"), [.ref 272, .ref 277, .ref 282]),
  (.inr 7, [.ref 273, .ref 274, .ref 275, .ref 276, .int 0, .int 0, .int 0, .int 0]),
  (.inl .int, List.replicate 16 (.int 0)),
  (.inl .int, List.replicate 20 (.int 0)),
  (.inl .int, [.int 0, .int 0, .int 0, .int 0]),
  (.inl .int, List.replicate 5 (.int 0)),
  (.inr 7, [.ref 278, .ref 279, .ref 280, .ref 281, .int 0, .int 0, .int 0, .int 0]),
  (.inl .int, List.replicate 16 (.int 0)),
  (.inl .int, List.replicate 20 (.int 0)),
  (.inl .int, [.int 0, .int 0, .int 0, .int 0]),
  (.inl .int, List.replicate 5 (.int 0)),
  (.inr 7, [.ref 283, .ref 284, .ref 285, .ref 286, .int 0, .int 0, .int 0, .int 0]),
  (.inl .int, List.replicate 16 (.int 0)),
  (.inl .int, List.replicate 20 (.int 0)),
  (.inl .int, [.int 0, .int 0, .int 0, .int 0]),
  (.inl .int, List.replicate 5 (.int 0))]
def ax_W2 : ax_W := [(.inr 12, ([.int 0] ++ ([.ref 288] ++ ([.int 0] ++ ([.ref 289] ++ ([.int 0] ++ ([.ref 290] ++ ([.ref 291] ++ ([.ref 292] ++ ([.ref 293] ++ ([.ref 294] ++ (List.replicate 7 (.int 0) ++ ([.int (-1)] ++ ([.int 0, .int 0, .int 0] ++ ([.ref 295] ++ ([.ref 296] ++ ([.ref 297] ++ ([.ref 298] ++ ([.ref 299] ++ ([.ref 300] ++ ([.ref 301] ++ ([.ref 302] ++ ([.ref 303] ++ ([.ref 304] ++ ([.ref 305] ++ ([.ref 306] ++ ([.ref 307] ++ ([.ref 308] ++ ([.ref 309] ++ ([.ref 310] ++ ([.ref 311] ++ ([.int 0] ++ ([.ref 312] ++ ([.ref 313] ++ ([.ref 314] ++ ([.ref 315] ++ ([.ref 316] ++ ([.int 0] ++ ([.ref 317] ++ ([.ref 318] ++ ([.ref 319] ++ ([.int 0] ++ ([.ref 320] ++ ([.ref 321] ++ ([.int 0] ++ ([.ref 322] ++ ([.ref 323] ++ ([.int 0, .int 0] ++ ([.ref 324] ++ ([.int 0] ++ ([.ref 325] ++ ([.int 0] ++ ([.ref 326] ++ ([.ref 327] ++ ([.ref 328] ++ ([.ref 329] ++ ([.ref 330]))))))))))))))))))))))))))))))))))))))))))))))))))))))))),
  (.inl .byte, List.replicate 2000 (.int 0)),
  (.inl .byte, List.replicate 2000 (.int 0)),
  (.inl .int, List.replicate 403 (.int 0)),
  (.inl .int, List.replicate 403 (.int 0)),
  (.inl .int, List.replicate 403 (.int 0)),
  (.inl .long, List.replicate 403 (.long 0)),
  (.inl .long, [.long 1752777, .long 161140, .long 11882963, .long 5948362, .long 230501935, .long 330936265, .long 3211399, .long 194785936, .long 375400, .long 267362, .long 377761, .long 249, .long 399641, .long 107681, .long 260045, .long 11190, .long 7871591333, .long 1842002, .long 11570, .long 168984, .long 13898, .long 12387257, .long 1065]),
  (.inl .long, List.replicate 9 (.long 0)),
  (.inl .int, List.replicate 9 (.int 0)),
  (.inl .int, [.int 0, .int 0]),
  (.inl .int, List.replicate 8 (.int 0)),
  (.inl .int, [.int 0, .int 0]),
  (.inl .int, List.replicate 10 (.int 0)),
  (.inl .int, List.replicate 40 (.int 0)),
  (.inl .int, [.int 0, .int 0]),
  (.inl .int, List.replicate 20 (.int 0)),
  (.inl .int, List.replicate 20 (.int 0)),
  (.inl .int, List.replicate 20 (.int 0)),
  (.inl .int, [.int 0, .int 0]),
  (.inl .int, [.int 50, .int 50]),
  (.inl .int, [.int 0, .int 0]),
  (.inl .int, [.int 0, .int 0]),
  (.inl .int, List.replicate 8 (.int 0)),
  (.inl .int, List.replicate 8 (.int 0)),
  (.inl .boolean, List.replicate 260 (.int 0)),
  (.inl .int, List.replicate 260 (.int 0)),
  (.inl .int, List.replicate 260 (.int 0)),
  (.inl .int, List.replicate 260 (.int 0)),
  (.inl .int, List.replicate 260 (.int 0)),
  (.inl .int, List.replicate 840 (.int 0)),
  (.inl .int, List.replicate 840 (.int 0)),
  (.inl .int, List.replicate 64 (.int 0)),
  (.inl .int, List.replicate 9 (.int 0)),
  (.inl .int, List.replicate 400 (.int 0)),
  (.inl .int, List.replicate 61 (.int 0)),
  (.inl .int, List.replicate 61 (.int 0)),
  (.inl .int, [.int 0, .int 0, .int 0, .int 0]),
  (.inl .int, List.replicate 2440 (.int 0)),
  (.inl .int, List.replicate 20 (.int 0)),
  (.inl .int, List.replicate 20 (.int 0)),
  (.inl .boolean, List.replicate 20 (.int 0)),
  (.inl .boolean, [.int 0, .int 0, .int 0]),
  (.inl .int, List.replicate 183 (.int 0))]
