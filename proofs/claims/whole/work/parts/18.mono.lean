/-! A STEP NEVER TAKES CELLS AWAY -/
theorem ax_mo0 {ro : ax_W} {ct : ax_T} {a b i : Nat} {v : Value} {t : List (Int × Nat)} {lv : ax_L} {st : List Value} {w : ax_W} {q : Nat × ax_L × List Value × ax_W} (hs : ax_s0 ro ct a b v t i lv st w = some (.inl q)) : q.2.2.2 = w := by
  unfold ax_s0 at hs
  repeat' (first | (cases hs; done) | split at hs)
  all_goals (first | rfl | (cases hs; rfl))
theorem ax_mo1 {ro : ax_W} {ct : ax_T} {a b i : Nat} {v : Value} {t : List (Int × Nat)} {lv : ax_L} {st : List Value} {w : ax_W} {q : Nat × ax_L × List Value × ax_W} (hs : ax_s1 ro ct a b v t i lv st w = some (.inl q)) : q.2.2.2 = w := by
  unfold ax_s1 at hs
  repeat' (first | (cases hs; done) | split at hs)
  all_goals (first | rfl | (cases hs; rfl))
theorem ax_mo2 {ro : ax_W} {ct : ax_T} {a b i : Nat} {v : Value} {t : List (Int × Nat)} {lv : ax_L} {st : List Value} {w : ax_W} {q : Nat × ax_L × List Value × ax_W} (hs : ax_s2 ro ct a b v t i lv st w = some (.inl q)) : q.2.2.2 = w := by
  unfold ax_s2 at hs
  repeat' (first | (cases hs; done) | split at hs)
  all_goals (first | rfl | (cases hs; rfl))
theorem ax_mo3 {ro : ax_W} {ct : ax_T} {a b i : Nat} {v : Value} {t : List (Int × Nat)} {lv : ax_L} {st : List Value} {w : ax_W} {q : Nat × ax_L × List Value × ax_W} (hs : ax_s3 ro ct a b v t i lv st w = some (.inl q)) : q.2.2.2 = w := by
  unfold ax_s3 at hs
  repeat' (first | (cases hs; done) | split at hs)
  all_goals (first | rfl | (cases hs; rfl))
theorem ax_mo4 {ro : ax_W} {ct : ax_T} {a b i : Nat} {v : Value} {t : List (Int × Nat)} {lv : ax_L} {st : List Value} {w : ax_W} {q : Nat × ax_L × List Value × ax_W} (hs : ax_s4 ro ct a b v t i lv st w = some (.inl q)) : q.2.2.2 = w := by
  unfold ax_s4 at hs
  repeat' (first | (cases hs; done) | split at hs)
  all_goals (first | rfl | (cases hs; rfl))
theorem ax_mo5 {ro : ax_W} {ct : ax_T} {a b i : Nat} {v : Value} {t : List (Int × Nat)} {lv : ax_L} {st : List Value} {w : ax_W} {q : Nat × ax_L × List Value × ax_W} (hs : ax_s5 ro ct a b v t i lv st w = some (.inl q)) : q.2.2.2 = w := by
  unfold ax_s5 at hs
  repeat' (first | (cases hs; done) | split at hs)
  all_goals (first | rfl | (cases hs; rfl))
theorem ax_mo6 {ro : ax_W} {ct : ax_T} {a b i : Nat} {v : Value} {t : List (Int × Nat)} {lv : ax_L} {st : List Value} {w : ax_W} {q : Nat × ax_L × List Value × ax_W} (hs : ax_s6 ro ct a b v t i lv st w = some (.inl q)) : q.2.2.2 = w := by
  unfold ax_s6 at hs
  repeat' (first | (cases hs; done) | split at hs)
  all_goals (first | rfl | (cases hs; rfl))
theorem ax_mo7 {ro : ax_W} {ct : ax_T} {a b i : Nat} {v : Value} {t : List (Int × Nat)} {lv : ax_L} {st : List Value} {w : ax_W} {q : Nat × ax_L × List Value × ax_W} (hs : ax_s7 ro ct a b v t i lv st w = some (.inl q)) : q.2.2.2 = w := by
  unfold ax_s7 at hs
  repeat' (first | (cases hs; done) | split at hs)
  all_goals (first | rfl | (cases hs; rfl))
theorem ax_mo8 {ro : ax_W} {ct : ax_T} {a b i : Nat} {v : Value} {t : List (Int × Nat)} {lv : ax_L} {st : List Value} {w : ax_W} {q : Nat × ax_L × List Value × ax_W} (hs : ax_s8 ro ct a b v t i lv st w = some (.inl q)) : q.2.2.2 = w := by
  unfold ax_s8 at hs
  repeat' (first | (cases hs; done) | split at hs)
  all_goals (first | rfl | (cases hs; rfl))
theorem ax_mo9 {ro : ax_W} {ct : ax_T} {a b i : Nat} {v : Value} {t : List (Int × Nat)} {lv : ax_L} {st : List Value} {w : ax_W} {q : Nat × ax_L × List Value × ax_W} (hs : ax_s9 ro ct a b v t i lv st w = some (.inl q)) : q.2.2.2 = w := by
  unfold ax_s9 at hs
  repeat' (first | (cases hs; done) | split at hs)
  all_goals (first | rfl | (cases hs; rfl))
theorem ax_mo10 {ro : ax_W} {ct : ax_T} {a b i : Nat} {v : Value} {t : List (Int × Nat)} {lv : ax_L} {st : List Value} {w : ax_W} {q : Nat × ax_L × List Value × ax_W} (hs : ax_s10 ro ct a b v t i lv st w = some (.inl q)) : q.2.2.2 = w := by
  unfold ax_s10 at hs
  repeat' (first | (cases hs; done) | split at hs)
  all_goals (first | rfl | (cases hs; rfl))
theorem ax_mo11 {ro : ax_W} {ct : ax_T} {a b i : Nat} {v : Value} {t : List (Int × Nat)} {lv : ax_L} {st : List Value} {w : ax_W} {q : Nat × ax_L × List Value × ax_W} (hs : ax_s11 ro ct a b v t i lv st w = some (.inl q)) : q.2.2.2 = w := by
  unfold ax_s11 at hs
  repeat' (first | (cases hs; done) | split at hs)
  all_goals (first | rfl | (cases hs; rfl))
theorem ax_mo12 {ro : ax_W} {ct : ax_T} {a b i : Nat} {v : Value} {t : List (Int × Nat)} {lv : ax_L} {st : List Value} {w : ax_W} {q : Nat × ax_L × List Value × ax_W} (hs : ax_s12 ro ct a b v t i lv st w = some (.inl q)) : q.2.2.2 = w := by
  unfold ax_s12 at hs
  repeat' (first | (cases hs; done) | split at hs)
  all_goals (first | rfl | (cases hs; rfl))
theorem ax_mo13 {ro : ax_W} {ct : ax_T} {a b i : Nat} {v : Value} {t : List (Int × Nat)} {lv : ax_L} {st : List Value} {w : ax_W} {q : Nat × ax_L × List Value × ax_W} (hs : ax_s13 ro ct a b v t i lv st w = some (.inl q)) : q.2.2.2 = w := by
  unfold ax_s13 at hs
  repeat' (first | (cases hs; done) | split at hs)
  all_goals (first | rfl | (cases hs; rfl))
theorem ax_mo14 {ro : ax_W} {ct : ax_T} {a b i : Nat} {v : Value} {t : List (Int × Nat)} {lv : ax_L} {st : List Value} {w : ax_W} {q : Nat × ax_L × List Value × ax_W} (hs : ax_s14 ro ct a b v t i lv st w = some (.inl q)) : q.2.2.2 = w := by
  unfold ax_s14 at hs
  repeat' (first | (cases hs; done) | split at hs)
  all_goals (first | rfl | (cases hs; rfl))
theorem ax_mo15 {ro : ax_W} {ct : ax_T} {a b i : Nat} {v : Value} {t : List (Int × Nat)} {lv : ax_L} {st : List Value} {w : ax_W} {q : Nat × ax_L × List Value × ax_W} (hs : ax_s15 ro ct a b v t i lv st w = some (.inl q)) : q.2.2.2 = w := by
  unfold ax_s15 at hs
  repeat' (first | (cases hs; done) | split at hs)
  all_goals (first | rfl | (cases hs; rfl))
theorem ax_mo16 {ro : ax_W} {ct : ax_T} {a b i : Nat} {v : Value} {t : List (Int × Nat)} {lv : ax_L} {st : List Value} {w : ax_W} {q : Nat × ax_L × List Value × ax_W} (hs : ax_s16 ro ct a b v t i lv st w = some (.inl q)) : q.2.2.2 = w := by
  unfold ax_s16 at hs
  repeat' (first | (cases hs; done) | split at hs)
  all_goals (first | rfl | (cases hs; rfl))
theorem ax_mo17 {ro : ax_W} {ct : ax_T} {a b i : Nat} {v : Value} {t : List (Int × Nat)} {lv : ax_L} {st : List Value} {w : ax_W} {q : Nat × ax_L × List Value × ax_W} (hs : ax_s17 ro ct a b v t i lv st w = some (.inl q)) : q.2.2.2 = w := by
  unfold ax_s17 at hs
  repeat' (first | (cases hs; done) | split at hs)
  all_goals (first | rfl | (cases hs; rfl))
theorem ax_mo18 {ro : ax_W} {ct : ax_T} {a b i : Nat} {v : Value} {t : List (Int × Nat)} {lv : ax_L} {st : List Value} {w : ax_W} {q : Nat × ax_L × List Value × ax_W} (hs : ax_s18 ro ct a b v t i lv st w = some (.inl q)) : q.2.2.2 = w := by
  unfold ax_s18 at hs
  repeat' (first | (cases hs; done) | split at hs)
  all_goals (first | rfl | (cases hs; rfl))
theorem ax_mo19 {ro : ax_W} {ct : ax_T} {a b i : Nat} {v : Value} {t : List (Int × Nat)} {lv : ax_L} {st : List Value} {w : ax_W} {q : Nat × ax_L × List Value × ax_W} (hs : ax_s19 ro ct a b v t i lv st w = some (.inl q)) : q.2.2.2 = w := by
  unfold ax_s19 at hs
  repeat' (first | (cases hs; done) | split at hs)
  all_goals (first | rfl | (cases hs; rfl))
theorem ax_mo20 {ro : ax_W} {ct : ax_T} {a b i : Nat} {v : Value} {t : List (Int × Nat)} {lv : ax_L} {st : List Value} {w : ax_W} {q : Nat × ax_L × List Value × ax_W} (hs : ax_s20 ro ct a b v t i lv st w = some (.inl q)) : q.2.2.2 = w := by
  unfold ax_s20 at hs
  repeat' (first | (cases hs; done) | split at hs)
  all_goals (first | rfl | (cases hs; rfl))
theorem ax_mo21 {ro : ax_W} {ct : ax_T} {a b i : Nat} {v : Value} {t : List (Int × Nat)} {lv : ax_L} {st : List Value} {w : ax_W} {q : Nat × ax_L × List Value × ax_W} (hs : ax_s21 ro ct a b v t i lv st w = some (.inl q)) : q.2.2.2 = w := by
  unfold ax_s21 at hs
  repeat' (first | (cases hs; done) | split at hs)
  all_goals (first | rfl | (cases hs; rfl))
theorem ax_mo22 {ro : ax_W} {ct : ax_T} {a b i : Nat} {v : Value} {t : List (Int × Nat)} {lv : ax_L} {st : List Value} {w : ax_W} {q : Nat × ax_L × List Value × ax_W} (hs : ax_s22 ro ct a b v t i lv st w = some (.inl q)) : q.2.2.2 = w := by
  unfold ax_s22 at hs
  repeat' (first | (cases hs; done) | split at hs)
  all_goals (first | rfl | (cases hs; rfl))
theorem ax_mo24 {ro : ax_W} {ct : ax_T} {a b i : Nat} {v : Value} {t : List (Int × Nat)} {lv : ax_L} {st : List Value} {w : ax_W} {q : Nat × ax_L × List Value × ax_W} (hs : ax_s24 ro ct a b v t i lv st w = some (.inl q)) : q.2.2.2 = w := by
  unfold ax_s24 at hs
  repeat' (first | (cases hs; done) | split at hs)
  all_goals (first | rfl | (cases hs; rfl))
theorem ax_mo25 {ro : ax_W} {ct : ax_T} {a b i : Nat} {v : Value} {t : List (Int × Nat)} {lv : ax_L} {st : List Value} {w : ax_W} {q : Nat × ax_L × List Value × ax_W} (hs : ax_s25 ro ct a b v t i lv st w = some (.inl q)) : q.2.2.2 = w := by
  unfold ax_s25 at hs
  repeat' (first | (cases hs; done) | split at hs)
  all_goals (first | rfl | (cases hs; rfl))
theorem ax_mo26 {ro : ax_W} {ct : ax_T} {a b i : Nat} {v : Value} {t : List (Int × Nat)} {lv : ax_L} {st : List Value} {w : ax_W} {q : Nat × ax_L × List Value × ax_W} (hs : ax_s26 ro ct a b v t i lv st w = some (.inl q)) : q.2.2.2 = w := by
  unfold ax_s26 at hs
  repeat' (first | (cases hs; done) | split at hs)
  all_goals (first | rfl | (cases hs; rfl))
theorem ax_mo27 {ro : ax_W} {ct : ax_T} {a b i : Nat} {v : Value} {t : List (Int × Nat)} {lv : ax_L} {st : List Value} {w : ax_W} {q : Nat × ax_L × List Value × ax_W} (hs : ax_s27 ro ct a b v t i lv st w = some (.inl q)) : q.2.2.2 = w := by
  unfold ax_s27 at hs
  repeat' (first | (cases hs; done) | split at hs)
  all_goals (first | rfl | (cases hs; rfl))
theorem ax_mo28 {ro : ax_W} {ct : ax_T} {a b i : Nat} {v : Value} {t : List (Int × Nat)} {lv : ax_L} {st : List Value} {w : ax_W} {q : Nat × ax_L × List Value × ax_W} (hs : ax_s28 ro ct a b v t i lv st w = some (.inl q)) : q.2.2.2 = w := by
  unfold ax_s28 at hs
  repeat' (first | (cases hs; done) | split at hs)
  all_goals (first | rfl | (cases hs; rfl))
theorem ax_mo36 {ro : ax_W} {ct : ax_T} {a b i : Nat} {v : Value} {t : List (Int × Nat)} {lv : ax_L} {st : List Value} {w : ax_W} {q : Nat × ax_L × List Value × ax_W} (hs : ax_s36 ro ct a b v t i lv st w = some (.inl q)) : q.2.2.2 = w := by
  unfold ax_s36 at hs
  repeat' (first | (cases hs; done) | split at hs)
  all_goals (first | rfl | (cases hs; rfl))
theorem ax_mo37 {ro : ax_W} {ct : ax_T} {a b i : Nat} {v : Value} {t : List (Int × Nat)} {lv : ax_L} {st : List Value} {w : ax_W} {q : Nat × ax_L × List Value × ax_W} (hs : ax_s37 ro ct a b v t i lv st w = some (.inl q)) : q.2.2.2 = w := by
  unfold ax_s37 at hs
  repeat' (first | (cases hs; done) | split at hs)
  all_goals (first | rfl | (cases hs; rfl))
theorem ax_mo38 {ro : ax_W} {ct : ax_T} {a b i : Nat} {v : Value} {t : List (Int × Nat)} {lv : ax_L} {st : List Value} {w : ax_W} {q : Nat × ax_L × List Value × ax_W} (hs : ax_s38 ro ct a b v t i lv st w = some (.inl q)) : q.2.2.2 = w := by
  unfold ax_s38 at hs
  repeat' (first | (cases hs; done) | split at hs)
  all_goals (first | rfl | (cases hs; rfl))
theorem ax_mo39 {ro : ax_W} {ct : ax_T} {a b i : Nat} {v : Value} {t : List (Int × Nat)} {lv : ax_L} {st : List Value} {w : ax_W} {q : Nat × ax_L × List Value × ax_W} (hs : ax_s39 ro ct a b v t i lv st w = some (.inl q)) : q.2.2.2 = w := by
  unfold ax_s39 at hs
  repeat' (first | (cases hs; done) | split at hs)
  all_goals (first | rfl | (cases hs; rfl))
theorem ax_mo40 {ro : ax_W} {ct : ax_T} {a b i : Nat} {v : Value} {t : List (Int × Nat)} {lv : ax_L} {st : List Value} {w : ax_W} {q : Nat × ax_L × List Value × ax_W} (hs : ax_s40 ro ct a b v t i lv st w = some (.inl q)) : q.2.2.2 = w := by
  unfold ax_s40 at hs
  repeat' (first | (cases hs; done) | split at hs)
  all_goals (first | rfl | (cases hs; rfl))
theorem ax_mo41 {ro : ax_W} {ct : ax_T} {a b i : Nat} {v : Value} {t : List (Int × Nat)} {lv : ax_L} {st : List Value} {w : ax_W} {q : Nat × ax_L × List Value × ax_W} (hs : ax_s41 ro ct a b v t i lv st w = some (.inl q)) : q.2.2.2 = w := by
  unfold ax_s41 at hs
  repeat' (first | (cases hs; done) | split at hs)
  all_goals (first | rfl | (cases hs; rfl))
theorem ax_mo44 {ro : ax_W} {ct : ax_T} {a b i : Nat} {v : Value} {t : List (Int × Nat)} {lv : ax_L} {st : List Value} {w : ax_W} {q : Nat × ax_L × List Value × ax_W} (hs : ax_s44 ro ct a b v t i lv st w = some (.inl q)) : q.2.2.2 = w := by
  unfold ax_s44 at hs
  repeat' (first | (cases hs; done) | split at hs)
  all_goals (first | rfl | (cases hs; rfl))
theorem ax_mo45 {ro : ax_W} {ct : ax_T} {a b i : Nat} {v : Value} {t : List (Int × Nat)} {lv : ax_L} {st : List Value} {w : ax_W} {q : Nat × ax_L × List Value × ax_W} (hs : ax_s45 ro ct a b v t i lv st w = some (.inl q)) : q.2.2.2 = w := by
  unfold ax_s45 at hs
  repeat' (first | (cases hs; done) | split at hs)
  all_goals (first | rfl | (cases hs; rfl))
theorem ax_mo46 {ro : ax_W} {ct : ax_T} {a b i : Nat} {v : Value} {t : List (Int × Nat)} {lv : ax_L} {st : List Value} {w : ax_W} {q : Nat × ax_L × List Value × ax_W} (hs : ax_s46 ro ct a b v t i lv st w = some (.inl q)) : q.2.2.2 = w := by
  unfold ax_s46 at hs
  repeat' (first | (cases hs; done) | split at hs)
  all_goals (first | rfl | (cases hs; rfl))
theorem ax_mo47 {ro : ax_W} {ct : ax_T} {a b i : Nat} {v : Value} {t : List (Int × Nat)} {lv : ax_L} {st : List Value} {w : ax_W} {q : Nat × ax_L × List Value × ax_W} (hs : ax_s47 ro ct a b v t i lv st w = some (.inl q)) : q.2.2.2 = w := by
  unfold ax_s47 at hs
  repeat' (first | (cases hs; done) | split at hs)
  all_goals (first | rfl | (cases hs; rfl))
theorem ax_mo48 {ro : ax_W} {ct : ax_T} {a b i : Nat} {v : Value} {t : List (Int × Nat)} {lv : ax_L} {st : List Value} {w : ax_W} {q : Nat × ax_L × List Value × ax_W} (hs : ax_s48 ro ct a b v t i lv st w = some (.inl q)) : q.2.2.2 = w := by
  unfold ax_s48 at hs
  repeat' (first | (cases hs; done) | split at hs)
  all_goals (first | rfl | (cases hs; rfl))
theorem ax_mo49 {ro : ax_W} {ct : ax_T} {a b i : Nat} {v : Value} {t : List (Int × Nat)} {lv : ax_L} {st : List Value} {w : ax_W} {q : Nat × ax_L × List Value × ax_W} (hs : ax_s49 ro ct a b v t i lv st w = some (.inl q)) : q.2.2.2 = w := by
  unfold ax_s49 at hs
  repeat' (first | (cases hs; done) | split at hs)
  all_goals (first | rfl | (cases hs; rfl))
theorem ax_mo50 {ro : ax_W} {ct : ax_T} {a b i : Nat} {v : Value} {t : List (Int × Nat)} {lv : ax_L} {st : List Value} {w : ax_W} {q : Nat × ax_L × List Value × ax_W} (hs : ax_s50 ro ct a b v t i lv st w = some (.inl q)) : q.2.2.2 = w := by
  unfold ax_s50 at hs
  repeat' (first | (cases hs; done) | split at hs)
  all_goals (first | rfl | (cases hs; rfl))
theorem ax_mo51 {ro : ax_W} {ct : ax_T} {a b i : Nat} {v : Value} {t : List (Int × Nat)} {lv : ax_L} {st : List Value} {w : ax_W} {q : Nat × ax_L × List Value × ax_W} (hs : ax_s51 ro ct a b v t i lv st w = some (.inl q)) : q.2.2.2 = w := by
  unfold ax_s51 at hs
  repeat' (first | (cases hs; done) | split at hs)
  all_goals (first | rfl | (cases hs; rfl))
theorem ax_mo52 {ro : ax_W} {ct : ax_T} {a b i : Nat} {v : Value} {t : List (Int × Nat)} {lv : ax_L} {st : List Value} {w : ax_W} {q : Nat × ax_L × List Value × ax_W} (hs : ax_s52 ro ct a b v t i lv st w = some (.inl q)) : q.2.2.2 = w := by
  unfold ax_s52 at hs
  repeat' (first | (cases hs; done) | split at hs)
  all_goals (first | rfl | (cases hs; rfl))
theorem ax_mo53 {ro : ax_W} {ct : ax_T} {a b i : Nat} {v : Value} {t : List (Int × Nat)} {lv : ax_L} {st : List Value} {w : ax_W} {q : Nat × ax_L × List Value × ax_W} (hs : ax_s53 ro ct a b v t i lv st w = some (.inl q)) : q.2.2.2 = w := by
  unfold ax_s53 at hs
  repeat' (first | (cases hs; done) | split at hs)
  all_goals (first | rfl | (cases hs; rfl))
theorem ax_mo54 {ro : ax_W} {ct : ax_T} {a b i : Nat} {v : Value} {t : List (Int × Nat)} {lv : ax_L} {st : List Value} {w : ax_W} {q : Nat × ax_L × List Value × ax_W} (hs : ax_s54 ro ct a b v t i lv st w = some (.inl q)) : q.2.2.2 = w := by
  unfold ax_s54 at hs
  repeat' (first | (cases hs; done) | split at hs)
  all_goals (first | rfl | (cases hs; rfl))
theorem ax_mo55 {ro : ax_W} {ct : ax_T} {a b i : Nat} {v : Value} {t : List (Int × Nat)} {lv : ax_L} {st : List Value} {w : ax_W} {q : Nat × ax_L × List Value × ax_W} (hs : ax_s55 ro ct a b v t i lv st w = some (.inl q)) : q.2.2.2 = w := by
  unfold ax_s55 at hs
  repeat' (first | (cases hs; done) | split at hs)
  all_goals (first | rfl | (cases hs; rfl))
theorem ax_mo56 {ro : ax_W} {ct : ax_T} {a b i : Nat} {v : Value} {t : List (Int × Nat)} {lv : ax_L} {st : List Value} {w : ax_W} {q : Nat × ax_L × List Value × ax_W} (hs : ax_s56 ro ct a b v t i lv st w = some (.inl q)) : q.2.2.2 = w := by
  unfold ax_s56 at hs
  repeat' (first | (cases hs; done) | split at hs)
  all_goals (first | rfl | (cases hs; rfl))
theorem ax_mo23 {ro : ax_W} {ct : ax_T} {a b i : Nat} {v : Value} {t : List (Int × Nat)} {lv : ax_L} {st : List Value} {w : ax_W} {q : Nat × ax_L × List Value × ax_W} (hs : ax_s23 ro ct a b v t i lv st w = some (.inl q)) : ∃ k c c', w[k]? = some c ∧ c'.2.length = c.2.length ∧ q.2.2.2 = w.set k c' := by
  unfold ax_s23 at hs
  repeat' (first | (cases hs; done) | split at hs)
  all_goals (cases hs)
  all_goals (refine ⟨_, _, _, ‹_›, ?_, rfl⟩; first | (simp; done) | (simp_all; done))
theorem ax_mo29 {ro : ax_W} {ct : ax_T} {a b i : Nat} {v : Value} {t : List (Int × Nat)} {lv : ax_L} {st : List Value} {w : ax_W} {q : Nat × ax_L × List Value × ax_W} (hs : ax_s29 ro ct a b v t i lv st w = some (.inl q)) : ∃ k c c', w[k]? = some c ∧ c'.2.length = c.2.length ∧ q.2.2.2 = w.set k c' := by
  unfold ax_s29 at hs
  repeat' (first | (cases hs; done) | split at hs)
  all_goals (cases hs)
  all_goals (refine ⟨_, _, _, ‹_›, ?_, rfl⟩; first | (simp; done) | (simp_all; done))
theorem ax_mo30 {ro : ax_W} {ct : ax_T} {a b i : Nat} {v : Value} {t : List (Int × Nat)} {lv : ax_L} {st : List Value} {w : ax_W} {q : Nat × ax_L × List Value × ax_W} (hs : ax_s30 ro ct a b v t i lv st w = some (.inl q)) : ∃ k c c', w[k]? = some c ∧ c'.2.length = c.2.length ∧ q.2.2.2 = w.set k c' := by
  unfold ax_s30 at hs
  repeat' (first | (cases hs; done) | split at hs)
  all_goals (cases hs)
  all_goals (refine ⟨_, _, _, ‹_›, ?_, rfl⟩; first | (simp; done) | (simp_all; done))
theorem ax_mo31 {ro : ax_W} {ct : ax_T} {a b i : Nat} {v : Value} {t : List (Int × Nat)} {lv : ax_L} {st : List Value} {w : ax_W} {q : Nat × ax_L × List Value × ax_W} (hs : ax_s31 ro ct a b v t i lv st w = some (.inl q)) : ∃ k c c', w[k]? = some c ∧ c'.2.length = c.2.length ∧ q.2.2.2 = w.set k c' := by
  unfold ax_s31 at hs
  repeat' (first | (cases hs; done) | split at hs)
  all_goals (cases hs)
  all_goals (refine ⟨_, _, _, ‹_›, ?_, rfl⟩; first | (simp; done) | (simp_all; done))
theorem ax_mo32 {ro : ax_W} {ct : ax_T} {a b i : Nat} {v : Value} {t : List (Int × Nat)} {lv : ax_L} {st : List Value} {w : ax_W} {q : Nat × ax_L × List Value × ax_W} (hs : ax_s32 ro ct a b v t i lv st w = some (.inl q)) : ∃ k c c', w[k]? = some c ∧ c'.2.length = c.2.length ∧ q.2.2.2 = w.set k c' := by
  unfold ax_s32 at hs
  repeat' (first | (cases hs; done) | split at hs)
  all_goals (cases hs)
  all_goals (refine ⟨_, _, _, ‹_›, ?_, rfl⟩; first | (simp; done) | (simp_all; done))
theorem ax_mo43 {ro : ax_W} {ct : ax_T} {a b i : Nat} {v : Value} {t : List (Int × Nat)} {lv : ax_L} {st : List Value} {w : ax_W} {q : Nat × ax_L × List Value × ax_W} (hs : ax_s43 ro ct a b v t i lv st w = some (.inl q)) : ∃ k c c', w[k]? = some c ∧ c'.2.length = c.2.length ∧ q.2.2.2 = w.set k c' := by
  unfold ax_s43 at hs
  repeat' (first | (cases hs; done) | split at hs)
  all_goals (cases hs)
  all_goals (refine ⟨_, _, _, ‹_›, ?_, rfl⟩; first | (simp; done) | (simp_all; done))
theorem ax_mo33 {ro : ax_W} {ct : ax_T} {a b i : Nat} {v : Value} {t : List (Int × Nat)} {lv : ax_L} {st : List Value} {w : ax_W} {q : Nat × ax_L × List Value × ax_W} (hs : ax_s33 ro ct a b v t i lv st w = some (.inl q)) : ∃ c, q.2.2.2 = w ++ [c] := by
  unfold ax_s33 at hs
  repeat' (first | (cases hs; done) | split at hs)
  all_goals (cases hs; exact ⟨_, rfl⟩)
theorem ax_mo34 {ro : ax_W} {ct : ax_T} {a b i : Nat} {v : Value} {t : List (Int × Nat)} {lv : ax_L} {st : List Value} {w : ax_W} {q : Nat × ax_L × List Value × ax_W} (hs : ax_s34 ro ct a b v t i lv st w = some (.inl q)) : ∃ c, q.2.2.2 = w ++ [c] := by
  unfold ax_s34 at hs
  repeat' (first | (cases hs; done) | split at hs)
  all_goals (cases hs; exact ⟨_, rfl⟩)
theorem ax_mo35 {ro : ax_W} {ct : ax_T} {a b i : Nat} {v : Value} {t : List (Int × Nat)} {lv : ax_L} {st : List Value} {w : ax_W} {q : Nat × ax_L × List Value × ax_W} (hs : ax_s35 ro ct a b v t i lv st w = some (.inl q)) : ∃ c, q.2.2.2 = w ++ [c] := by
  unfold ax_s35 at hs
  repeat' (first | (cases hs; done) | split at hs)
  all_goals (cases hs; exact ⟨_, rfl⟩)
theorem ax_mo_same {w w2 : ax_W} (h : w2 = w) : w.length ≤ w2.length ∧ ax_sl w ≤ ax_sl w2 := by rw [h]; exact ⟨Nat.le_refl _, Nat.le_refl _⟩
theorem ax_mo_set {w w2 : ax_W} (h : ∃ (k : Nat) (c c' : ax_C), w[k]? = some c ∧ c'.2.length = c.2.length ∧ w2 = w.set k c') : w.length ≤ w2.length ∧ ax_sl w ≤ ax_sl w2 := by
  obtain ⟨k, c, c', h1, h2, rfl⟩ := h
  rw [ax_sl_set h1 h2, List.length_set]
  exact ⟨Nat.le_refl _, Nat.le_refl _⟩
theorem ax_mo_push {w w2 : ax_W} (h : ∃ c : ax_C, w2 = w ++ [c]) : w.length ≤ w2.length ∧ ax_sl w ≤ ax_sl w2 := by
  obtain ⟨c, rfl⟩ := h
  rw [ax_sl_push]
  simp
theorem ax_op_lt {ro : ax_W} {ct : ax_T} {op a b i : Nat} {v : Value} {t : List (Int × Nat)} {lv : ax_L} {st : List Value} {w : ax_W} {x : ax_R} (hs : ax_stp ro ct (op, a, b, v, t) i lv st w = some x) : op < 57 := by
  rcases Nat.lt_or_ge op 57 with h | h
  · exact h
  · exfalso
    unfold ax_stp at hs
    split at hs <;> first | (cases hs; done) | (rename_i he; have := congrArg Prod.fst he; simp only at this; omega)
theorem ax_mono1 {ro : ax_W} {ct : ax_T} {ai : ax_I} {i : Nat} {lv : ax_L} {st : List Value} {w : ax_W} {q : Nat × ax_L × List Value × ax_W} (hs : ax_stp ro ct ai i lv st w = some (.inl q)) : w.length ≤ q.2.2.2.length ∧ ax_sl w ≤ ax_sl q.2.2.2 := by
  obtain ⟨op, a, b, v, t⟩ := ai
  have hlt := ax_op_lt hs
  match op, hs, hlt with
  | 0, hs, _ => exact ax_mo_same (ax_mo0 (ro := ro) (ct := ct) (a := a) (b := b) (v := v) (t := t) (i := i) (lv := lv) (st := st) (w := w) hs)
  | 1, hs, _ => exact ax_mo_same (ax_mo1 (ro := ro) (ct := ct) (a := a) (b := b) (v := v) (t := t) (i := i) (lv := lv) (st := st) (w := w) hs)
  | 2, hs, _ => exact ax_mo_same (ax_mo2 (ro := ro) (ct := ct) (a := a) (b := b) (v := v) (t := t) (i := i) (lv := lv) (st := st) (w := w) hs)
  | 3, hs, _ => exact ax_mo_same (ax_mo3 (ro := ro) (ct := ct) (a := a) (b := b) (v := v) (t := t) (i := i) (lv := lv) (st := st) (w := w) hs)
  | 4, hs, _ => exact ax_mo_same (ax_mo4 (ro := ro) (ct := ct) (a := a) (b := b) (v := v) (t := t) (i := i) (lv := lv) (st := st) (w := w) hs)
  | 5, hs, _ => exact ax_mo_same (ax_mo5 (ro := ro) (ct := ct) (a := a) (b := b) (v := v) (t := t) (i := i) (lv := lv) (st := st) (w := w) hs)
  | 6, hs, _ => exact ax_mo_same (ax_mo6 (ro := ro) (ct := ct) (a := a) (b := b) (v := v) (t := t) (i := i) (lv := lv) (st := st) (w := w) hs)
  | 7, hs, _ => exact ax_mo_same (ax_mo7 (ro := ro) (ct := ct) (a := a) (b := b) (v := v) (t := t) (i := i) (lv := lv) (st := st) (w := w) hs)
  | 8, hs, _ => exact ax_mo_same (ax_mo8 (ro := ro) (ct := ct) (a := a) (b := b) (v := v) (t := t) (i := i) (lv := lv) (st := st) (w := w) hs)
  | 9, hs, _ => exact ax_mo_same (ax_mo9 (ro := ro) (ct := ct) (a := a) (b := b) (v := v) (t := t) (i := i) (lv := lv) (st := st) (w := w) hs)
  | 10, hs, _ => exact ax_mo_same (ax_mo10 (ro := ro) (ct := ct) (a := a) (b := b) (v := v) (t := t) (i := i) (lv := lv) (st := st) (w := w) hs)
  | 11, hs, _ => exact ax_mo_same (ax_mo11 (ro := ro) (ct := ct) (a := a) (b := b) (v := v) (t := t) (i := i) (lv := lv) (st := st) (w := w) hs)
  | 12, hs, _ => exact ax_mo_same (ax_mo12 (ro := ro) (ct := ct) (a := a) (b := b) (v := v) (t := t) (i := i) (lv := lv) (st := st) (w := w) hs)
  | 13, hs, _ => exact ax_mo_same (ax_mo13 (ro := ro) (ct := ct) (a := a) (b := b) (v := v) (t := t) (i := i) (lv := lv) (st := st) (w := w) hs)
  | 14, hs, _ => exact ax_mo_same (ax_mo14 (ro := ro) (ct := ct) (a := a) (b := b) (v := v) (t := t) (i := i) (lv := lv) (st := st) (w := w) hs)
  | 15, hs, _ => exact ax_mo_same (ax_mo15 (ro := ro) (ct := ct) (a := a) (b := b) (v := v) (t := t) (i := i) (lv := lv) (st := st) (w := w) hs)
  | 16, hs, _ => exact ax_mo_same (ax_mo16 (ro := ro) (ct := ct) (a := a) (b := b) (v := v) (t := t) (i := i) (lv := lv) (st := st) (w := w) hs)
  | 17, hs, _ => exact ax_mo_same (ax_mo17 (ro := ro) (ct := ct) (a := a) (b := b) (v := v) (t := t) (i := i) (lv := lv) (st := st) (w := w) hs)
  | 18, hs, _ => exact ax_mo_same (ax_mo18 (ro := ro) (ct := ct) (a := a) (b := b) (v := v) (t := t) (i := i) (lv := lv) (st := st) (w := w) hs)
  | 19, hs, _ => exact ax_mo_same (ax_mo19 (ro := ro) (ct := ct) (a := a) (b := b) (v := v) (t := t) (i := i) (lv := lv) (st := st) (w := w) hs)
  | 20, hs, _ => exact ax_mo_same (ax_mo20 (ro := ro) (ct := ct) (a := a) (b := b) (v := v) (t := t) (i := i) (lv := lv) (st := st) (w := w) hs)
  | 21, hs, _ => exact ax_mo_same (ax_mo21 (ro := ro) (ct := ct) (a := a) (b := b) (v := v) (t := t) (i := i) (lv := lv) (st := st) (w := w) hs)
  | 22, hs, _ => exact ax_mo_same (ax_mo22 (ro := ro) (ct := ct) (a := a) (b := b) (v := v) (t := t) (i := i) (lv := lv) (st := st) (w := w) hs)
  | 23, hs, _ => exact ax_mo_set (ax_mo23 (ro := ro) (ct := ct) (a := a) (b := b) (v := v) (t := t) (i := i) (lv := lv) (st := st) (w := w) hs)
  | 24, hs, _ => exact ax_mo_same (ax_mo24 (ro := ro) (ct := ct) (a := a) (b := b) (v := v) (t := t) (i := i) (lv := lv) (st := st) (w := w) hs)
  | 25, hs, _ => exact ax_mo_same (ax_mo25 (ro := ro) (ct := ct) (a := a) (b := b) (v := v) (t := t) (i := i) (lv := lv) (st := st) (w := w) hs)
  | 26, hs, _ => exact ax_mo_same (ax_mo26 (ro := ro) (ct := ct) (a := a) (b := b) (v := v) (t := t) (i := i) (lv := lv) (st := st) (w := w) hs)
  | 27, hs, _ => exact ax_mo_same (ax_mo27 (ro := ro) (ct := ct) (a := a) (b := b) (v := v) (t := t) (i := i) (lv := lv) (st := st) (w := w) hs)
  | 28, hs, _ => exact ax_mo_same (ax_mo28 (ro := ro) (ct := ct) (a := a) (b := b) (v := v) (t := t) (i := i) (lv := lv) (st := st) (w := w) hs)
  | 29, hs, _ => exact ax_mo_set (ax_mo29 (ro := ro) (ct := ct) (a := a) (b := b) (v := v) (t := t) (i := i) (lv := lv) (st := st) (w := w) hs)
  | 30, hs, _ => exact ax_mo_set (ax_mo30 (ro := ro) (ct := ct) (a := a) (b := b) (v := v) (t := t) (i := i) (lv := lv) (st := st) (w := w) hs)
  | 31, hs, _ => exact ax_mo_set (ax_mo31 (ro := ro) (ct := ct) (a := a) (b := b) (v := v) (t := t) (i := i) (lv := lv) (st := st) (w := w) hs)
  | 32, hs, _ => exact ax_mo_set (ax_mo32 (ro := ro) (ct := ct) (a := a) (b := b) (v := v) (t := t) (i := i) (lv := lv) (st := st) (w := w) hs)
  | 33, hs, _ => exact ax_mo_push (ax_mo33 (ro := ro) (ct := ct) (a := a) (b := b) (v := v) (t := t) (i := i) (lv := lv) (st := st) (w := w) hs)
  | 34, hs, _ => exact ax_mo_push (ax_mo34 (ro := ro) (ct := ct) (a := a) (b := b) (v := v) (t := t) (i := i) (lv := lv) (st := st) (w := w) hs)
  | 35, hs, _ => exact ax_mo_push (ax_mo35 (ro := ro) (ct := ct) (a := a) (b := b) (v := v) (t := t) (i := i) (lv := lv) (st := st) (w := w) hs)
  | 36, hs, _ => exact ax_mo_same (ax_mo36 (ro := ro) (ct := ct) (a := a) (b := b) (v := v) (t := t) (i := i) (lv := lv) (st := st) (w := w) hs)
  | 37, hs, _ => exact ax_mo_same (ax_mo37 (ro := ro) (ct := ct) (a := a) (b := b) (v := v) (t := t) (i := i) (lv := lv) (st := st) (w := w) hs)
  | 38, hs, _ => exact ax_mo_same (ax_mo38 (ro := ro) (ct := ct) (a := a) (b := b) (v := v) (t := t) (i := i) (lv := lv) (st := st) (w := w) hs)
  | 39, hs, _ => exact ax_mo_same (ax_mo39 (ro := ro) (ct := ct) (a := a) (b := b) (v := v) (t := t) (i := i) (lv := lv) (st := st) (w := w) hs)
  | 40, hs, _ => exact ax_mo_same (ax_mo40 (ro := ro) (ct := ct) (a := a) (b := b) (v := v) (t := t) (i := i) (lv := lv) (st := st) (w := w) hs)
  | 41, hs, _ => exact ax_mo_same (ax_mo41 (ro := ro) (ct := ct) (a := a) (b := b) (v := v) (t := t) (i := i) (lv := lv) (st := st) (w := w) hs)
  | 42, hs, _ => cases hs
  | 43, hs, _ => exact ax_mo_set (ax_mo43 (ro := ro) (ct := ct) (a := a) (b := b) (v := v) (t := t) (i := i) (lv := lv) (st := st) (w := w) hs)
  | 44, hs, _ => exact ax_mo_same (ax_mo44 (ro := ro) (ct := ct) (a := a) (b := b) (v := v) (t := t) (i := i) (lv := lv) (st := st) (w := w) hs)
  | 45, hs, _ => exact ax_mo_same (ax_mo45 (ro := ro) (ct := ct) (a := a) (b := b) (v := v) (t := t) (i := i) (lv := lv) (st := st) (w := w) hs)
  | 46, hs, _ => exact ax_mo_same (ax_mo46 (ro := ro) (ct := ct) (a := a) (b := b) (v := v) (t := t) (i := i) (lv := lv) (st := st) (w := w) hs)
  | 47, hs, _ => exact ax_mo_same (ax_mo47 (ro := ro) (ct := ct) (a := a) (b := b) (v := v) (t := t) (i := i) (lv := lv) (st := st) (w := w) hs)
  | 48, hs, _ => exact ax_mo_same (ax_mo48 (ro := ro) (ct := ct) (a := a) (b := b) (v := v) (t := t) (i := i) (lv := lv) (st := st) (w := w) hs)
  | 49, hs, _ => exact ax_mo_same (ax_mo49 (ro := ro) (ct := ct) (a := a) (b := b) (v := v) (t := t) (i := i) (lv := lv) (st := st) (w := w) hs)
  | 50, hs, _ => exact ax_mo_same (ax_mo50 (ro := ro) (ct := ct) (a := a) (b := b) (v := v) (t := t) (i := i) (lv := lv) (st := st) (w := w) hs)
  | 51, hs, _ => exact ax_mo_same (ax_mo51 (ro := ro) (ct := ct) (a := a) (b := b) (v := v) (t := t) (i := i) (lv := lv) (st := st) (w := w) hs)
  | 52, hs, _ => exact ax_mo_same (ax_mo52 (ro := ro) (ct := ct) (a := a) (b := b) (v := v) (t := t) (i := i) (lv := lv) (st := st) (w := w) hs)
  | 53, hs, _ => exact ax_mo_same (ax_mo53 (ro := ro) (ct := ct) (a := a) (b := b) (v := v) (t := t) (i := i) (lv := lv) (st := st) (w := w) hs)
  | 54, hs, _ => exact ax_mo_same (ax_mo54 (ro := ro) (ct := ct) (a := a) (b := b) (v := v) (t := t) (i := i) (lv := lv) (st := st) (w := w) hs)
  | 55, hs, _ => exact ax_mo_same (ax_mo55 (ro := ro) (ct := ct) (a := a) (b := b) (v := v) (t := t) (i := i) (lv := lv) (st := st) (w := w) hs)
  | 56, hs, _ => exact ax_mo_same (ax_mo56 (ro := ro) (ct := ct) (a := a) (b := b) (v := v) (t := t) (i := i) (lv := lv) (st := st) (w := w) hs)
theorem ax_mono {ro : ax_W} {ct : ax_T} {pg : Nat → List ax_I} : ∀ (n d : Nat) (cd : List ax_I) (i : Nat) (lv : ax_L) (st : List Value) (w : ax_W) (x : Option Value × ax_W), ax_ex ro ct pg n d cd i lv st w = some x → w.length ≤ x.2.length ∧ ax_sl w ≤ ax_sl x.2 := by
  intro n
  induction n with
  | zero => intro d cd i lv st w x h; cases h
  | succ n ih =>
    intro d cd i lv st w x h
    rw [ax_ex] at h
    split at h
    · cases h
    · split at h
      · cases h
      · next q hq =>
        have h1 := ax_mono1 hq
        have h2 := ih _ _ _ _ _ _ _ h
        omega
      · split at h
        · cases h
        · split at h
          · cases h
          · next r hr =>
            have h1 := ih _ _ _ _ _ _ _ hr
            have h2 := ih _ _ _ _ _ _ _ h
            omega
      · cases h
        exact ⟨Nat.le_refl _, Nat.le_refl _⟩
