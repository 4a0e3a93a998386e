/-! WHAT THE CELLS MEAN: the class's side -/
/-- squares, owns, satIn, satBy, hour, suds, starched, kept -/
abbrev St : Type := (Nat → Nat) × (Nat → Nat) × (Nat → Nat) × (Nat → Nat) × Nat × Nat × Nat × Nat
def Ssq (S : St) : Nat → Nat := S.1
def Sow (S : St) : Nat → Nat := S.2.1
def Ssi (S : St) : Nat → Nat := S.2.2.1
def Ssb (S : St) : Nat → Nat := S.2.2.2.1
def Shr (S : St) : Nat := S.2.2.2.2.1
def Ssd (S : St) : Nat := S.2.2.2.2.2.1
def Ssc (S : St) : Nat := S.2.2.2.2.2.2.1
def Skp (S : St) : Nat := S.2.2.2.2.2.2.2
def StIs (σ : Nat → List Value) (k : Nat) (S : St) : Prop := σ k = [.ref (k + 1), .ref (k + 2), .ref (k + 3), .ref (k + 4), .int (nI (Shr S)), .int (nI (Ssd S)), .int (nI (Ssc S)), .int (nI (Skp S))] ∧ σ (k + 1) = arrN 16 (Ssq S) ∧ σ (k + 2) = arrN 20 (Sow S) ∧ σ (k + 3) = arrN 4 (Ssi S) ∧ σ (k + 4) = arrN 5 (Ssb S)
theorem kd_St : ∀ k, k < 331 → kd k = .inr 7 → kd (k + 1) = .inl .int ∧ kd (k + 2) = .inl .int ∧ kd (k + 3) = .inl .int ∧ kd (k + 4) = .inl .int ∧ k + 4 < 331 := by decide +kernel
theorem kd_out {k : Nat} (h : 331 ≤ k) : kd k = .inr 0 := by
  unfold kd
  rw [List.getD_eq_getElem?_getD, List.getElem?_eq_none (by have : ax_kds.length = 331 := by decide +kernel
                                                            omega)]
  rfl
theorem St_k {k : Nat} (h : kd k = .inr 7) : kd (k + 1) = .inl .int ∧ kd (k + 2) = .inl .int ∧ kd (k + 3) = .inl .int ∧ kd (k + 4) = .inl .int ∧ k + 4 < 331 := by
  rcases Nat.lt_or_ge k 331 with hk | hk
  · exact kd_St k hk h
  · rw [kd_out hk] at h
    cases h
