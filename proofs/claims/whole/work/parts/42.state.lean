/-! LEAVES OF State -/
theorem c_State_own {xs : List Int32} {d : Nat} {σ : Nat → List Value} {Q : Option Value → (Nat → List Value) → Prop} {k : Nat} {S : St} (hk : kd k = .inr 7) (hS : StIs σ k S) {h t : Nat} (hh : h < 5) (ht : t < 4) (K : Q (some (.int (nI (Sow S (h * 4 + t))))) σ) : Wq xs (d + 0) ax_cd92 0 [(0, .ref k), (1, .int (nI h)), (2, .int (nI t))] [] σ Q := by
  obtain ⟨hk1, hk2, hk3, hk4, hk5⟩ := St_k hk
  obtain ⟨h0, h1, h2, h3, h4⟩ := hS
  refine wq_go rfl (fun _ => rfl) ?_
  refine wq_cN (m := 4) rfl rfl ?_
  refine wq_mulN rfl ?_
  refine wq_go rfl (fun _ => rfl) ?_
  refine wq_addN rfl ?_
  refine wq_go rfl (fun _ => rfl) ?_
  refine wq_go rfl (fun _ => rfl) ?_
  refine wq_zlt rfl (by omega) (fun c => absurd c (by omega)) (fun c7 => ?_)
  refine wq_go rfl (fun _ => rfl) ?_
  refine wq_go rfl (fun _ => rfl) ?_
  refine wq_getf rfl (by first | rfl | assumption) (by first | decide | omega | assumption) (by first | assumption | rfl) rfl ?_
  refine wq_alen rfl (by first | rfl | assumption) (by first | decide | omega | assumption) rfl (by first | assumption | rfl) (by first | exact arrN_len _ _ | exact arr_len _ _ | exact arrL_len _ _) ?_
  refine wq_cge rfl (by omega) (by omega) (fun c => absurd c (by omega)) (fun c12 => ?_)
  refine wq_go rfl (fun _ => rfl) ?_
  refine wq_getf rfl (by first | rfl | assumption) (by first | decide | omega | assumption) (by first | assumption | rfl) rfl ?_
  refine wq_go rfl (fun _ => rfl) ?_
  refine wq_ialdN rfl (by first | rfl | assumption) (by first | decide | omega | assumption) (by first | assumption | rfl) rfl (by omega) (by decide) ?_
  refine wq_go rfl (fun _ => rfl) ?_
  refine wq_iret rfl ?_
  exact K
theorem c_State_cloth {xs : List Int32} {d : Nat} {σ : Nat → List Value} {Q : Option Value → (Nat → List Value) → Prop} {k : Nat} {S : St} (hk : kd k = .inr 7) (hS : StIs σ k S) {c t : Nat} (hc : c < 4) (ht : t < 4) (K : Q (some (.int (nI (Ssq S (c * 4 + t))))) σ) : Wq xs (d + 0) ax_cd87 0 [(0, .ref k), (1, .int (nI c)), (2, .int (nI t))] [] σ Q := by
  obtain ⟨hk1, hk2, hk3, hk4, hk5⟩ := St_k hk
  obtain ⟨h0, h1, h2, h3, h4⟩ := hS
  refine wq_go rfl (fun _ => rfl) ?_
  refine wq_cN (m := 4) rfl rfl ?_
  refine wq_mulN rfl ?_
  refine wq_go rfl (fun _ => rfl) ?_
  refine wq_addN rfl ?_
  refine wq_go rfl (fun _ => rfl) ?_
  refine wq_go rfl (fun _ => rfl) ?_
  refine wq_zlt rfl (by omega) (fun c => absurd c (by omega)) (fun c7 => ?_)
  refine wq_go rfl (fun _ => rfl) ?_
  refine wq_go rfl (fun _ => rfl) ?_
  refine wq_getf rfl (by first | rfl | assumption) (by first | decide | omega | assumption) (by first | assumption | rfl) rfl ?_
  refine wq_alen rfl (by first | rfl | assumption) (by first | decide | omega | assumption) rfl (by first | assumption | rfl) (by first | exact arrN_len _ _ | exact arr_len _ _ | exact arrL_len _ _) ?_
  refine wq_cge rfl (by omega) (by omega) (fun c => absurd c (by omega)) (fun c12 => ?_)
  refine wq_go rfl (fun _ => rfl) ?_
  refine wq_getf rfl (by first | rfl | assumption) (by first | decide | omega | assumption) (by first | assumption | rfl) rfl ?_
  refine wq_go rfl (fun _ => rfl) ?_
  refine wq_ialdN rfl (by first | rfl | assumption) (by first | decide | omega | assumption) (by first | assumption | rfl) rfl (by omega) (by decide) ?_
  refine wq_go rfl (fun _ => rfl) ?_
  refine wq_iret rfl ?_
  exact K
theorem c_State_satIn {xs : List Int32} {d : Nat} {σ : Nat → List Value} {Q : Option Value → (Nat → List Value) → Prop} {k : Nat} {S : St} (hk : kd k = .inr 7) (hS : StIs σ k S) {c : Nat} (hc : c < 4) (K : Q (some (.int (nI (Ssi S c)))) σ) : Wq xs (d + 0) ax_cd90 0 [(0, .ref k), (1, .int (nI c))] [] σ Q := by
  obtain ⟨hk1, hk2, hk3, hk4, hk5⟩ := St_k hk
  obtain ⟨h0, h1, h2, h3, h4⟩ := hS
  refine wq_go rfl (fun _ => rfl) ?_
  refine wq_zlt rfl (by omega) (fun c => absurd c (by omega)) (fun c1 => ?_)
  refine wq_go rfl (fun _ => rfl) ?_
  refine wq_go rfl (fun _ => rfl) ?_
  refine wq_getf rfl (by first | rfl | assumption) (by first | decide | omega | assumption) (by first | assumption | rfl) rfl ?_
  refine wq_alen rfl (by first | rfl | assumption) (by first | decide | omega | assumption) rfl (by first | assumption | rfl) (by first | exact arrN_len _ _ | exact arr_len _ _ | exact arrL_len _ _) ?_
  refine wq_cge rfl (by omega) (by omega) (fun c => absurd c (by omega)) (fun c6 => ?_)
  refine wq_go rfl (fun _ => rfl) ?_
  refine wq_getf rfl (by first | rfl | assumption) (by first | decide | omega | assumption) (by first | assumption | rfl) rfl ?_
  refine wq_go rfl (fun _ => rfl) ?_
  refine wq_ialdN rfl (by first | rfl | assumption) (by first | decide | omega | assumption) (by first | assumption | rfl) rfl (by omega) (by decide) ?_
  refine wq_go rfl (fun _ => rfl) ?_
  refine wq_iret rfl ?_
  exact K
theorem c_State_satBy {xs : List Int32} {d : Nat} {σ : Nat → List Value} {Q : Option Value → (Nat → List Value) → Prop} {k : Nat} {S : St} (hk : kd k = .inr 7) (hS : StIs σ k S) {h : Nat} (hh : h < 5) (K : Q (some (.int (nI (Ssb S h)))) σ) : Wq xs (d + 0) ax_cd95 0 [(0, .ref k), (1, .int (nI h))] [] σ Q := by
  obtain ⟨hk1, hk2, hk3, hk4, hk5⟩ := St_k hk
  obtain ⟨h0, h1, h2, h3, h4⟩ := hS
  refine wq_go rfl (fun _ => rfl) ?_
  refine wq_zlt rfl (by omega) (fun c => absurd c (by omega)) (fun c1 => ?_)
  refine wq_go rfl (fun _ => rfl) ?_
  refine wq_go rfl (fun _ => rfl) ?_
  refine wq_getf rfl (by first | rfl | assumption) (by first | decide | omega | assumption) (by first | assumption | rfl) rfl ?_
  refine wq_alen rfl (by first | rfl | assumption) (by first | decide | omega | assumption) rfl (by first | assumption | rfl) (by first | exact arrN_len _ _ | exact arr_len _ _ | exact arrL_len _ _) ?_
  refine wq_cge rfl (by omega) (by omega) (fun c => absurd c (by omega)) (fun c6 => ?_)
  refine wq_go rfl (fun _ => rfl) ?_
  refine wq_getf rfl (by first | rfl | assumption) (by first | decide | omega | assumption) (by first | assumption | rfl) rfl ?_
  refine wq_go rfl (fun _ => rfl) ?_
  refine wq_ialdN rfl (by first | rfl | assumption) (by first | decide | omega | assumption) (by first | assumption | rfl) rfl (by omega) (by decide) ?_
  refine wq_go rfl (fun _ => rfl) ?_
  refine wq_iret rfl ?_
  exact K
theorem c_State_hourOfDay {xs : List Int32} {d : Nat} {σ : Nat → List Value} {Q : Option Value → (Nat → List Value) → Prop} {k : Nat} {S : St} (hk : kd k = .inr 7) (hS : StIs σ k S) (hr : Shr S < 2 ^ 31) (K : Q (some (.int (nI (Shr S % 24)))) σ) : Wq xs (d + 0) ax_cd106 0 [(0, .ref k)] [] σ Q := by
  obtain ⟨hk1, hk2, hk3, hk4, hk5⟩ := St_k hk
  obtain ⟨h0, h1, h2, h3, h4⟩ := hS
  refine wq_go rfl (fun _ => rfl) ?_
  refine wq_getf rfl (by first | rfl | assumption) (by first | decide | omega | assumption) (by first | assumption | rfl) rfl ?_
  refine wq_cN (m := 24) rfl rfl ?_
  refine wq_remN rfl (by first | decide | omega) (by first | decide | omega) (by first | decide | omega) ?_
  refine wq_iret rfl ?_
  exact K
