/-! CALLS THAT CHANGE: the reference -/
def x325 : Nat → Bool := fun j => j == 325
def xU : Nat → Bool := fun j => j == 287 || j == 325 || j == 322
def xQ : Nat → Bool := fun j => xR j || j == 325 || j == 322
def y57 : Nat → Bool := fun b => b == 57
def yQ : Nat → Bool := fun b => b == 51 || b == 54 || b == 55 || b == 57
theorem md_o5 {P : Pl} {L : Nat} {g : Nat → Int32} {σ : Nat → List Value} {p : Nat} {vs : List Value} (h : MD P L g σ) (hp : p = 288 ∨ 325 ≤ p) : MD P L g (up σ p vs) := by
  have o : ∀ j, (289 ≤ j ∧ j ≤ 324) ∨ j = 287 → up σ p vs j = σ j := fun j hj => up_ne _ _ (by omega)
  refine md_fr (X := fun j => j == p) h (fr_up (fr_refl _ _) (by simp)) (fun q hq => ?_) ((o 287 (by omega)).trans (md_o h)) rfl (isA_eq (o 320 (by omega)) (md_c320 h)) (isA_eq (o 321 (by omega)) (md_c321 h)) (isA_eq (o 324 (by omega)) (md_c324 h)) (isA_eq (o 322 (by omega)) (md_c322 h)) (isA_eq (o 323 (by omega)) (md_c323 h))
  have : 297 ≤ q ∧ q ≤ 318 := by
    simp only [mdl, List.mem_cons, List.not_mem_nil, or_false] at hq
    omega
  simp only [beq_eq_false_iff_ne]
  omega
theorem x325_U : ∀ j, x325 j = true → xU j = true := by
  intro j h
  simp only [x325] at h
  simp only [xU, Bool.or_eq_true]
  exact Or.inl (Or.inr h)
theorem xU_Q : ∀ j, xU j = true → xQ j = true := by
  intro j h
  simp only [xU, Bool.or_eq_true] at h
  simp only [xQ, xR, Bool.or_eq_true]
  rcases h with (h | h) | h
  · exact Or.inl (Or.inl (Or.inl (Or.inl (Or.inl (Or.inl h)))))
  · exact Or.inl (Or.inr h)
  · exact Or.inr h
theorem xR_Q : ∀ j, xR j = true → xQ j = true := by
  intro j h
  simp only [xQ, Bool.or_eq_true]
  exact Or.inl (Or.inl h)
theorem x322_U : ∀ j, x322 j = true → xU j = true := by
  intro j h
  simp only [x322] at h
  simp only [xU, Bool.or_eq_true]
  exact Or.inr h
theorem yC_Q : ∀ j, yC j = true → yQ j = true := by
  intro j h
  simp only [yC, Bool.or_eq_true] at h
  simp only [yQ, Bool.or_eq_true]
  exact Or.inl h
theorem y57_Q : ∀ j, y57 j = true → yQ j = true := by
  intro j h
  simp only [y57] at h
  simp only [yQ, Bool.or_eq_true]
  exact Or.inr h
theorem xQ_lo {j : Nat} (h : (j < 320 ∧ j ≠ 287) ∨ 326 ≤ j) : xQ j = false := by
  have a1 : (j == 287) = false := by simp; omega
  have a2 : (j == 320) = false := by simp; omega
  have a3 : (j == 321) = false := by simp; omega
  have a4 : (j == 323) = false := by simp; omega
  have a5 : (j == 324) = false := by simp; omega
  have a6 : (j == 325) = false := by simp; omega
  have a7 : (j == 322) = false := by simp; omega
  simp only [xQ, xR, a1, a2, a3, a4, a5, a6, a7, Bool.or_false]
theorem lo_Q {σ σ' : Nat → List Value} (h : Fr xQ σ σ') : Lo σ σ' := lo_fr h (fun j hj => xQ_lo (by omega))
/-- what the calls on the state leave as it was -/
theorem mi_rec {A : Sy} {g g' : Nat → Int32} {L : Nat} {σ σ' : Nat → List Value} {S' : St} {f' : Nat → Int32} (hR : MR A g σ) (hT : MT (AP A) L σ) (hF : Fr xQ σ σ') (hG : FrG yQ g g') (hM : MD (AP A) L g' σ') (hN : NwIs σ' S') (h57 : g' 57 = nI (min (An A + 1) 40)) (e : σ' 325 = arr 2440 f') (hh : ∀ j, j < min (An A + 1) 40 → ∀ k, k < 61 → f' (61 * j + k) = nI (rowF (hpush (An A) (AS A) (AH A) j) k)) : MI (recd A S') σ' := by
  obtain ⟨h1, h2, h3, h4, ⟨f5, h5, h5'⟩, ⟨f6, h6, h6'⟩, ⟨f7, h7, h7'⟩, h8, ⟨f9, h9, h9'⟩, h10, h11, ⟨f12, h12, h12'⟩⟩ := hR
  have o : ∀ j, (j < 320 ∧ j ≠ 287) ∨ 326 ≤ j → σ' j = σ j := fun j hj => hF j (xQ_lo hj)
  exact ⟨L, g', hM, ⟨hN, h57, ⟨f', e, hh⟩, (hG 59 rfl).trans h4, ⟨f5, (o 326 (by omega)).trans h5, h5'⟩, ⟨f6, (o 327 (by omega)).trans h6, h6'⟩, ⟨f7, (o 328 (by omega)).trans h7, h7'⟩, (o 329 (by omega)).trans h8, ⟨f9, (o 330 (by omega)).trans h9, h9'⟩, (hG 17 rfl).trans h10, (hG 2 rfl).trans h11, ⟨f12, (o 288 (by omega)).trans h12, h12'⟩⟩, mt_eq hT (fun j hj => o j (by omega))⟩
theorem mi_S {A : Sy} {g g' : Nat → Int32} {L n : Nat} {σ σ' : Nat → List Value} {S' : St} (hR : MR A g σ) (hT : MT (AP A) L σ) (hF : Fr xU σ σ') (e325 : σ' 325 = σ 325) (hG : FrG yQ g g') (hM : MD (AP A) L g' σ') (hN : NwIs σ' S') (h57 : g' 57 = nI n) (hn : n ≤ An A) : MI (AP A, S', AH A, n, AZ A, Ah A, AT A, Ab A, Al A, Ap A) σ' := by
  obtain ⟨h1, h2, ⟨f3, h3, h3'⟩, h4, ⟨f5, h5, h5'⟩, ⟨f6, h6, h6'⟩, ⟨f7, h7, h7'⟩, h8, ⟨f9, h9, h9'⟩, h10, h11, ⟨f12, h12, h12'⟩⟩ := hR
  have o : ∀ j, (j < 320 ∧ j ≠ 287) ∨ 326 ≤ j → σ' j = σ j := fun j hj => (fr_mono hF xU_Q) j (xQ_lo hj)
  exact ⟨L, g', hM, ⟨hN, h57, ⟨f3, e325.trans h3, fun j hj => h3' j (Nat.lt_of_lt_of_le hj hn)⟩, (hG 59 rfl).trans h4, ⟨f5, (o 326 (by omega)).trans h5, h5'⟩, ⟨f6, (o 327 (by omega)).trans h6, h6'⟩, ⟨f7, (o 328 (by omega)).trans h7, h7'⟩, (o 329 (by omega)).trans h8, ⟨f9, (o 330 (by omega)).trans h9, h9'⟩, (hG 17 rfl).trans h10, (hG 2 rfl).trans h11, ⟨f12, (o 288 (by omega)).trans h12, h12'⟩⟩, mt_eq hT (fun j hj => o j (by omega))⟩

theorem m_rec1 {xs : List Int32} {d : Nat} {σ : Nat → List Value} {Q : Option Value → (Nat → List Value) → Prop} {P : Pl} {L : Nat} {g f : Nat → Int32}  (K : ∀ σ' f', Fr x325 σ σ' → MD P L g σ' → σ' 325 = arr 2440 f' → (∀ j, j < 2379 → f' j = f (j + 61)) → Wq xs (d + 1) ax_cd276 21 [(0, .ref 287)] [] σ' Q) : ∀ (m u : Nat), m + u = 2379 → ∀ σ1 fA, Fr x325 σ σ1 → MD P L g σ1 → σ1 325 = arr 2440 fA → (∀ j, j < 2440 → fA j = if j < u then f (j + 61) else f j) → Wq xs (d + 1) ax_cd276 6 [(1, .int (nI u)), (0, .ref 287)] [] σ1 Q := by
  intro m
  induction m with
  | zero =>
    intro u hm σ1 fA hF1 hM1 h1 hA
    refine wq_go rfl (fun _ => rfl) ?_
    refine wq_cN (m := 2379) rfl rfl ?_
    refine wq_cge rfl (by first | omega | decide | exact Nat.lt_of_le_of_lt Nat.and_le_right (by decide) | exact ⟨by omega, by omega⟩) (by first | omega | decide | exact Nat.lt_of_le_of_lt Nat.and_le_right (by decide) | exact ⟨by omega, by omega⟩) (fun c8 => ?_) (fun c => absurd (show _ from by omega) c)
    exact wq_lv ⟨(by decide : ([1, 0] : List Nat).Nodup), (lvm (List.mem_of_getElem? (i := 1) rfl) lvn)⟩ (K σ1 fA hF1 hM1 h1 (fun j hj => by rw [hA j (by omega), if_pos (by omega)]))
  | succ m ih =>
    intro u hm σ1 fA hF1 hM1 h1 hA
    refine wq_go rfl (fun _ => rfl) ?_
    refine wq_cN (m := 2379) rfl rfl ?_
    refine wq_cge rfl (by first | omega | decide | exact Nat.lt_of_le_of_lt Nat.and_le_right (by decide) | exact ⟨by omega, by omega⟩) (by first | omega | decide | exact Nat.lt_of_le_of_lt Nat.and_le_right (by decide) | exact ⟨by omega, by omega⟩) (fun c => absurd c (by omega)) (fun c8 => ?_)
    refine wq_go rfl (fun _ => rfl) ?_
    refine wq_getf rfl (by first | rfl | assumption) (by first | decide | omega | assumption) (md_o hM1) rfl ?_
    refine wq_go rfl (fun _ => rfl) ?_
    refine wq_go rfl (fun _ => rfl) ?_
    refine wq_getf rfl (by first | rfl | assumption) (by first | decide | omega | assumption) (md_o hM1) rfl ?_
    refine wq_go rfl (fun _ => rfl) ?_
    refine wq_cN (m := 61) rfl rfl ?_
    refine wq_addN rfl ?_
    refine wq_iald rfl (by first | rfl | assumption) (by first | decide | omega | assumption) h1 rfl (by omega) (by first | decide | omega) ?_
    refine wq_iast rfl (by first | rfl | assumption) (by first | decide | omega | assumption) h1 rfl (by omega) (by first | decide | omega) ?_
    refine wq_incN rfl rfl rfl ?_
    refine wq_go rfl (fun _ => rfl) ?_
    exact ih (u + 1) (by omega) _ _ (fr_up hF1 rfl) (md_o5 hM1 (by decide)) (up_same _ _ _) (fun j hj => by
      by_cases q : j = u
      · subst q; rw [if_pos (by omega)]; simp only [upd, if_true]; rw [hA (j + 61) (by omega), if_neg (by omega)]
      · simp only [upd]; rw [if_neg q, hA j hj]; by_cases q2 : j < u
        · rw [if_pos q2, if_pos (by omega)]
        · rw [if_neg q2, if_neg (by omega)])
theorem m_rec2 {xs : List Int32} {d : Nat} {σ : Nat → List Value} {Q : Option Value → (Nat → List Value) → Prop} {P : Pl} {L : Nat} {g f : Nat → Int32} {S S' : St} {n0 : Nat} (hu : g 57 = nI n0) (hn0 : n0 < 40) (hN : NwIs σ S) (hR : RwIs σ S')  (K : ∀ σ' f', Fr xU σ σ' → MD P L (upd g 57 (nI (n0 + 1))) σ' → NwIs σ' S' → σ' 325 = arr 2440 f' → (∀ j, j < 61 * n0 → f' j = f j) → (∀ j, j < 61 → f' (61 * n0 + j) = nI (rowF S j)) → Q none σ') : ∀ (m u : Nat), m + u = 61 → ∀ σ1 fA, Fr x325 σ σ1 → MD P L g σ1 → σ1 325 = arr 2440 fA → (∀ j, j < 61 * n0 → fA j = f j) → (∀ j, j < u → fA (61 * n0 + j) = nI (rowF S j)) → Wq xs (d + 1) ax_cd276 29 [(1, .int (nI u)), (0, .ref 287)] [] σ1 Q := by
  intro m
  induction m with
  | zero =>
    intro u hm σ1 fA hF1 hM1 h1 hA hB
    refine wq_go rfl (fun _ => rfl) ?_
    refine wq_cN (m := 61) rfl rfl ?_
    refine wq_cge rfl (by first | omega | decide | exact Nat.lt_of_le_of_lt Nat.and_le_right (by decide) | exact ⟨by omega, by omega⟩) (by first | omega | decide | exact Nat.lt_of_le_of_lt Nat.and_le_right (by decide) | exact ⟨by omega, by omega⟩) (fun c31 => ?_) (fun c => absurd (show _ from by omega) c)
    refine wq_go rfl (fun _ => rfl) ?_
    refine wq_go rfl (fun _ => rfl) ?_
    refine wq_getf rfl (by first | rfl | assumption) (by first | decide | omega | assumption) (md_o hM1) rfl ?_
    refine wq_top hu ?_
    refine wq_cN (m := 1) rfl rfl ?_
    refine wq_addN rfl ?_
    refine wq_mput rfl (md_o hM1) rfl rfl rfl rfl ?_
    refine wq_go rfl (fun _ => rfl) ?_
    refine wq_callV rfl rfl (by first | rfl | assumption) (by first | decide | omega | assumption) (Nat.le_of_ble_eq_true rfl) (Nat.le_of_ble_eq_true rfl) rfl rfl ?_
    refine m_keepsRow (md_u287 hM1 rfl) ((up_ne _ _ (by decide)).trans ((hF1 323 rfl).trans hR)) (fun σ3 F3 M3 N3 => ?_)
    refine wq_end rfl (fun _ => rfl) ?_
    exact K σ3 fA (fr_trans (fr_up (fr_mono hF1 x325_U) rfl) (fr_mono F3 x322_U)) M3 N3 ((F3 325 rfl).trans ((up_ne _ _ (by decide)).trans h1)) hA (fun j hj => hB j (by omega))
  | succ m ih =>
    intro u hm σ1 fA hF1 hM1 h1 hA hB
    refine wq_go rfl (fun _ => rfl) ?_
    refine wq_cN (m := 61) rfl rfl ?_
    refine wq_cge rfl (by first | omega | decide | exact Nat.lt_of_le_of_lt Nat.and_le_right (by decide) | exact ⟨by omega, by omega⟩) (by first | omega | decide | exact Nat.lt_of_le_of_lt Nat.and_le_right (by decide) | exact ⟨by omega, by omega⟩) (fun c => absurd c (by omega)) (fun c31 => ?_)
    refine wq_go rfl (fun _ => rfl) ?_
    refine wq_getf rfl (by first | rfl | assumption) (by first | decide | omega | assumption) (md_o hM1) rfl ?_
    refine wq_cN (m := 61) rfl rfl ?_
    refine wq_go rfl (fun _ => rfl) ?_
    refine wq_getf rfl (by first | rfl | assumption) (by first | decide | omega | assumption) (md_o hM1) rfl ?_
    refine wq_top hu ?_
    refine wq_mulN rfl ?_
    refine wq_go rfl (fun _ => rfl) ?_
    refine wq_addN rfl ?_
    refine wq_go rfl (fun _ => rfl) ?_
    refine wq_getf rfl (by first | rfl | assumption) (by first | decide | omega | assumption) (md_o hM1) rfl ?_
    refine wq_go rfl (fun _ => rfl) ?_
    refine wq_ialdN rfl (by first | rfl | assumption) (by first | decide | omega | assumption) ((hF1 322 rfl).trans hN) rfl (by omega) (by first | decide | omega) ?_
    refine wq_iast rfl (by first | rfl | assumption) (by first | decide | omega | assumption) h1 rfl (by omega) (by first | decide | omega) ?_
    refine wq_incN rfl rfl rfl ?_
    refine wq_go rfl (fun _ => rfl) ?_
    exact ih (u + 1) (by omega) _ _ (fr_up hF1 rfl) (md_o5 hM1 (by decide)) (up_same _ _ _) (fun j hj => by simp only [upd]; rw [if_neg (by omega)]; exact hA j hj) (fun j hj => by
      by_cases q : j = u
      · subst q; simp only [upd, if_true]
      · simp only [upd]; rw [if_neg (by omega)]; exact hB j (by omega))
theorem m_records {xs : List Int32} {d : Nat} {σ : Nat → List Value} {Q : Option Value → (Nat → List Value) → Prop} {P : Pl} {L : Nat} {g f : Nat → Int32} (hM : MD P L g σ) {S S' : St} {n : Nat} {H : Nat → St} (hR : RwIs σ S') (hN : NwIs σ S) (hu : g 57 = nI n) (hn : n ≤ 40) (h325 : σ 325 = arr 2440 f) (hf : ∀ j, j < n → ∀ k, k < 61 → f (61 * j + k) = nI (rowF (H j) k))  (K : ∀ σ' g' f', Fr xU σ σ' → FrG y57 g g' → g' 57 = nI (min (n + 1) 40) → MD P L g' σ' → NwIs σ' S' → σ' 325 = arr 2440 f' → (∀ j, j < min (n + 1) 40 → ∀ k, k < 61 → f' (61 * j + k) = nI (rowF (hpush n S H j) k)) → Q none σ') : Wq xs (d + 1) ax_cd276 0 [(0, .ref 287)] [] σ Q := by
  refine wq_go rfl (fun _ => rfl) ?_
  refine wq_getf rfl (by first | rfl | assumption) (by first | decide | omega | assumption) (md_o hM) rfl ?_
  refine wq_top hu ?_
  refine wq_cN (m := 40) rfl rfl ?_
  refine wq_cne rfl (by first | omega | decide | exact Nat.lt_of_le_of_lt Nat.and_le_right (by decide) | exact ⟨by omega, by omega⟩) (by first | omega | decide | exact Nat.lt_of_le_of_lt Nat.and_le_right (by decide) | exact ⟨by omega, by omega⟩) (fun c3 => ?_) (fun c3 => ?_)
  · skip
    refine wq_cN (m := 0) rfl rfl ?_
    refine wq_go rfl (fun _ => rfl) ?_
    refine wq_lv ⟨(by decide : ([1, 0] : List Nat).Nodup), (lvm (List.mem_of_getElem? (i := 0) rfl) (lvm (List.mem_of_getElem? (i := 1) rfl) lvn))⟩ (m_rec2 (f := f) (n0 := n) hu (by omega) hN hR (fun σ3 f3 F3 M3 N3 e3 a3 b3 => ?_) 61 0 rfl σ f (fr_refl _ _) hM h325 (fun _ _ => rfl) (fun j hj => absurd hj (by omega)))
    refine K σ3 _ f3 F3 (fg_up (fg_refl _ _) rfl) (by rw [show min (n + 1) 40 = n + 1 by omega]; simp [upd]) M3 N3 e3 (fun j hj k hk => ?_)
    unfold hpush
    rw [if_pos (by omega)]
    by_cases q : j = n
    · subst q
      rw [if_pos rfl]
      exact b3 k hk
    · rw [if_neg q, a3 _ (by omega)]
      exact hf j (by omega) k hk
  · skip
    refine wq_cN (m := 0) rfl rfl ?_
    refine wq_go rfl (fun _ => rfl) ?_
    have hn40 : n = 40 := by omega
    subst hn40
    refine wq_lv ⟨(by decide : ([1, 0] : List Nat).Nodup), (lvm (List.mem_of_getElem? (i := 0) rfl) (lvm (List.mem_of_getElem? (i := 1) rfl) lvn))⟩ (m_rec1 (f := f) (g := g) (L := L) (P := P) (σ := σ) (fun σ2 f2 F2 M2 e2 a2 => ?_) 2379 0 rfl σ f (fr_refl _ _) hM h325 (fun j hj => by rw [if_neg (by omega)]))
    refine wq_go rfl (fun _ => rfl) ?_
    refine wq_go rfl (fun _ => rfl) ?_
    refine wq_getf rfl (by first | rfl | assumption) (by first | decide | omega | assumption) (md_o M2) rfl ?_
    refine wq_top hu ?_
    refine wq_cN (m := 1) rfl rfl ?_
    refine wq_subN rfl (by omega) ?_
    refine wq_mput rfl (md_o M2) rfl rfl rfl rfl ?_
    refine wq_cN (m := 0) rfl rfl ?_
    refine wq_go rfl (fun _ => rfl) ?_
    have R2 : RwIs (up σ2 287 (mo (upd g 57 (nI (40 - 1))))) S' := (up_ne _ _ (by decide)).trans ((F2 323 rfl).trans hR)
    have N2 : NwIs (up σ2 287 (mo (upd g 57 (nI (40 - 1))))) S := (up_ne _ _ (by decide)).trans ((F2 322 rfl).trans hN)
    refine wq_lv ⟨(by decide : ([1, 0] : List Nat).Nodup), (lvm (List.mem_of_getElem? (i := 0) rfl) (lvm (List.mem_of_getElem? (i := 1) rfl) lvn))⟩ (m_rec2 (f := f2) (n0 := 39) (g := upd g 57 (nI (40 - 1))) rfl (by decide) N2 R2 (fun σ3 f3 F3 M3 N3 e3 a3 b3 => ?_) 61 0 rfl _ f2 (fr_refl _ _) (md_u287 M2 rfl) ((up_ne _ _ (by decide)).trans e2) (fun _ _ => rfl) (fun j hj => absurd hj (by omega)))
    refine K σ3 _ f3 (fr_trans (fr_up (fr_mono F2 x325_U) rfl) F3) (fg_up (fg_up (fg_refl _ _) rfl) rfl) (by simp [upd]) M3 N3 e3 (fun j hj k hk => ?_)
    unfold hpush
    rw [if_neg (by omega)]
    by_cases q : j = 39
    · subst q
      rw [if_pos rfl]
      exact b3 k hk
    · rw [if_neg q, a3 _ (by omega), a2 _ (by omega), ← hf (j + 1) (by omega) k hk]
      congr 1
      omega
theorem mg_sit {n : Nat} {A : Sy} (hn : n < 512) (hA : Aok n A) (a0 a1 : Int32) : MOk ax_cd274 [.int a0, .int a1] A (G_sit A a0 a1).1 (G_sit A a0 a1).2 := by
  intro xs d σ Q hI K
  obtain ⟨hPok, ⟨hok, hhr72, hzq, hsum⟩, hAH, hAZ, hAn, hAh, hTok, hAl⟩ := hA
  have hP' := hPok
  obtain ⟨hP1, hP2, hP3, hP4, hP5, hP6, hP7, hP8, hPv, hPm, hPo, hPw, hPl⟩ := hP'
  have hok' := hok
  obtain ⟨hot, hoh, hosc, hokp⟩ := hok'
  have hI0 := hI
  obtain ⟨L, g, hM, hMR, hMT⟩ := hI0
  have hN : NwIs σ (AS A) := hMR.1
  have hL2 := md_l2 hM
  obtain ⟨f3, h3, h3'⟩ := hMR.2.2.1
  show Wq xs (d + 12) ax_cd274 0 [(0, .ref 287), (1, .int a0), (2, .int a1)] [] σ Q
  refine wq_go rfl (fun _ => rfl) ?_
  refine wq_go rfl (fun _ => rfl) ?_
  refine wq_callV rfl rfl (by first | rfl | assumption) (by first | decide | omega | assumption) (Nat.le_of_ble_eq_true rfl) (Nat.le_of_ble_eq_true rfl) rfl rfl ?_
  refine m_isHead hM (fun h lh qh eh => ?_) (fun eh => ?_)
  · subst qh
    refine wq_zeq rfl (by first | omega | decide | exact Nat.lt_of_le_of_lt Nat.and_le_right (by decide) | exact ⟨by omega, by omega⟩) (fun c => absurd c (by omega)) (fun c3 => ?_)
    refine wq_go rfl (fun _ => rfl) ?_
    refine wq_go rfl (fun _ => rfl) ?_
    refine wq_callV rfl rfl (by first | rfl | assumption) (by first | decide | omega | assumption) (Nat.le_of_ble_eq_true rfl) (Nat.le_of_ble_eq_true rfl) rfl rfl ?_
    refine m_isChair hM (fun c lc qc ec => ?_) (fun ec => ?_)
    · subst qc
      refine wq_zne rfl (by first | omega | decide | exact Nat.lt_of_le_of_lt Nat.and_le_right (by decide) | exact ⟨by omega, by omega⟩) (fun c7 => ?_) (fun c => absurd (show _ from by omega) c)
      refine wq_go rfl (fun _ => rfl) ?_
      refine wq_callV rfl rfl (by first | rfl | assumption) (by first | decide | omega | assumption) (Nat.le_of_ble_eq_true rfl) (Nat.le_of_ble_eq_true rfl) rfl rfl ?_
      refine m_copies hM hN (fun σ7 g7 F7 G7 s7 t7 M7 R7 => ?_)
      have W7 : NwIs σ7 (AS A) := (F7 322 rfl).trans hN
      refine wq_go rfl (fun _ => rfl) ?_
      refine wq_go rfl (fun _ => rfl) ?_
      refine wq_go rfl (fun _ => rfl) ?_
      refine wq_callV rfl rfl (by first | rfl | assumption) (by first | decide | omega | assumption) (Nat.le_of_ble_eq_true rfl) (Nat.le_of_ble_eq_true rfl) rfl rfl ?_
      refine m_sits M7 hok R7 (by omega) (by omega) (fun σ8 g8 F8 G8 M8 R8 => ?_)
      have W8 : NwIs σ8 (AS A) := (F8 322 rfl).trans W7
      refine wq_go rfl (fun _ => rfl) ?_
      refine wq_callV rfl rfl (by first | rfl | assumption) (by first | decide | omega | assumption) (Nat.le_of_ble_eq_true rfl) (Nat.le_of_ble_eq_true rfl) rfl rfl ?_
      refine m_records (S' := seatS (AP A) (AS A) h c) M8 R8 W8 (((fg_trans (fg_trans (fg_refl yC g) G7) (fg_mono G8 yB_C)) 57 rfl).trans hMR.2.1) hAn (((fr_trans (fr_trans (fr_refl xR σ) (fr_mono F7 xC_R)) F8) 325 rfl).trans h3) h3' (fun σ9 g9 f9 F9 G9 u9 M9 N9 e9 h9 => ?_)
      have I9 := mi_rec hMR hMT (fr_trans (fr_mono (fr_trans (fr_trans (fr_refl xR σ) (fr_mono F7 xC_R)) F8) xR_Q) (fr_mono F9 xU_Q)) (fg_trans (fg_mono (fg_trans (fg_trans (fg_refl yC g) G7) (fg_mono G8 yB_C)) yC_Q) (fg_mono G9 y57_Q)) M9 N9 u9 e9 h9
      have L9 := lo_Q (fr_trans (fr_mono (fr_trans (fr_trans (fr_refl xR σ) (fr_mono F7 xC_R)) F8) xR_Q) (fr_mono F9 xU_Q))
      refine wq_cN (m := 1) rfl rfl ?_
      refine wq_nret rfl (by decide) ?_
      have K' := K
      simp only [G_sit, eh, ec, oq_s, oq_n, oq_c] at K'
      exact K' _ L9 I9
    · skip
      refine wq_zne rfl (by first | omega | decide | exact Nat.lt_of_le_of_lt Nat.and_le_right (by decide) | exact ⟨by omega, by omega⟩) (fun c => absurd c (by omega)) (fun c7 => ?_)
      refine wq_cN (m := 0) rfl rfl ?_
      refine wq_nret rfl (by decide) ?_
      have K' := K
      simp only [G_sit, eh, ec, oq_s, oq_n, oq_c] at K'
      exact K' _ (lo_R (fr_refl xR σ)) (mi_k hMR hMT (fr_refl xR σ) (fg_refl yC g) hM)
  · skip
    refine wq_zeq rfl (by first | omega | decide | exact Nat.lt_of_le_of_lt Nat.and_le_right (by decide) | exact ⟨by omega, by omega⟩) (fun c3 => ?_) (fun c => absurd (show _ from by omega) c)
    refine wq_cN (m := 0) rfl rfl ?_
    refine wq_nret rfl (by decide) ?_
    have K' := K
    simp only [G_sit, eh, oq_s, oq_n, oq_c] at K'
    exact K' _ (lo_R (fr_refl xR σ)) (mi_k hMR hMT (fr_refl xR σ) (fg_refl yC g) hM)
theorem mg_wash {n : Nat} {A : Sy} (hn : n < 512) (hA : Aok n A) (a0 : Int32) : MOk ax_cd277 [.int a0] A (G_wash A a0).1 (G_wash A a0).2 := by
  intro xs d σ Q hI K
  obtain ⟨hPok, ⟨hok, hhr72, hzq, hsum⟩, hAH, hAZ, hAn, hAh, hTok, hAl⟩ := hA
  have hP' := hPok
  obtain ⟨hP1, hP2, hP3, hP4, hP5, hP6, hP7, hP8, hPv, hPm, hPo, hPw, hPl⟩ := hP'
  have hok' := hok
  obtain ⟨hot, hoh, hosc, hokp⟩ := hok'
  have hI0 := hI
  obtain ⟨L, g, hM, hMR, hMT⟩ := hI0
  have hN : NwIs σ (AS A) := hMR.1
  have hL2 := md_l2 hM
  obtain ⟨f3, h3, h3'⟩ := hMR.2.2.1
  show Wq xs (d + 12) ax_cd277 0 [(0, .ref 287), (1, .int a0)] [] σ Q
  refine wq_go rfl (fun _ => rfl) ?_
  refine wq_go rfl (fun _ => rfl) ?_
  refine wq_callV rfl rfl (by first | rfl | assumption) (by first | decide | omega | assumption) (Nat.le_of_ble_eq_true rfl) (Nat.le_of_ble_eq_true rfl) rfl rfl ?_
  refine m_isChair hM (fun c lc qc ec => ?_) (fun ec => ?_)
  · subst qc
    refine wq_zne rfl (by first | omega | decide | exact Nat.lt_of_le_of_lt Nat.and_le_right (by decide) | exact ⟨by omega, by omega⟩) (fun c3 => ?_) (fun c => absurd (show _ from by omega) c)
    refine wq_go rfl (fun _ => rfl) ?_
    refine wq_callV rfl rfl (by first | rfl | assumption) (by first | decide | omega | assumption) (Nat.le_of_ble_eq_true rfl) (Nat.le_of_ble_eq_true rfl) rfl rfl ?_
    refine m_copies hM hN (fun σ6 g6 F6 G6 s6 t6 M6 R6 => ?_)
    have W6 : NwIs σ6 (AS A) := (F6 322 rfl).trans hN
    refine wq_go rfl (fun _ => rfl) ?_
    refine wq_go rfl (fun _ => rfl) ?_
    refine wq_callV rfl rfl (by first | rfl | assumption) (by first | decide | omega | assumption) (Nat.le_of_ble_eq_true rfl) (Nat.le_of_ble_eq_true rfl) rfl rfl ?_
    refine m_isWashed M6 hok R6 (by omega) (fun σ7 g7 F7 G7 M7 R7 => ?_)
    have W7 : NwIs σ7 (AS A) := (F7 322 rfl).trans W6
    refine wq_go rfl (fun _ => rfl) ?_
    refine wq_getf rfl (by first | rfl | assumption) (by first | decide | omega | assumption) (md_o M7) rfl ?_
    refine wq_cN (m := 60) rfl rfl ?_
    refine wq_ialdN rfl (by first | rfl | assumption) (by first | decide | omega | assumption) R7 rfl (by omega) (by first | decide | omega) ?_
    refine wq_top (congrArg nI ((rf_sd _).trans (wash_sd (AP A) (AS A) c))) ?_
    refine wq_go rfl (fun _ => rfl) ?_
    refine wq_getf rfl (by first | rfl | assumption) (by first | decide | omega | assumption) (md_o M7) rfl ?_
    refine wq_cN (m := 60) rfl rfl ?_
    refine wq_ialdN rfl (by first | rfl | assumption) (by first | decide | omega | assumption) W7 rfl (by omega) (by first | decide | omega) ?_
    refine wq_top (congrArg nI (rf_sd _)) ?_
    refine wq_subN rfl (by omega) ?_
    refine wq_top (congrArg nI (show Ssd (AS A) + sumF (washN (AP A) (AS A) c) 4 - Ssd (AS A) = sumF (washN (AP A) (AS A) c) 4 by omega)) ?_
    refine wq_go rfl (fun _ => rfl) ?_
    refine wq_go rfl (fun _ => rfl) ?_
    refine wq_callV rfl rfl (by first | rfl | assumption) (by first | decide | omega | assumption) (Nat.le_of_ble_eq_true rfl) (Nat.le_of_ble_eq_true rfl) rfl rfl ?_
    refine m_records (S' := washS (AP A) (AS A) c) M7 R7 W7 (((fg_trans (fg_trans (fg_refl yC g) G6) (fg_mono G7 yB_C)) 57 rfl).trans hMR.2.1) hAn (((fr_trans (fr_trans (fr_refl xR σ) (fr_mono F6 xC_R)) F7) 325 rfl).trans h3) h3' (fun σ9 g9 f9 F9 G9 u9 M9 N9 e9 h9 => ?_)
    have I9 := mi_rec hMR hMT (fr_trans (fr_mono (fr_trans (fr_trans (fr_refl xR σ) (fr_mono F6 xC_R)) F7) xR_Q) (fr_mono F9 xU_Q)) (fg_trans (fg_mono (fg_trans (fg_trans (fg_refl yC g) G6) (fg_mono G7 yB_C)) yC_Q) (fg_mono G9 y57_Q)) M9 N9 u9 e9 h9
    have L9 := lo_Q (fr_trans (fr_mono (fr_trans (fr_trans (fr_refl xR σ) (fr_mono F6 xC_R)) F7) xR_Q) (fr_mono F9 xU_Q))
    refine wq_go rfl (fun _ => rfl) ?_
    refine wq_iret rfl ?_
    have K' := K
    simp only [G_wash, ec, oq_s, oq_n, oq_c] at K'
    exact K' _ L9 I9
  · skip
    refine wq_zne rfl (by first | omega | decide | exact Nat.lt_of_le_of_lt Nat.and_le_right (by decide) | exact ⟨by omega, by omega⟩) (fun c => absurd c (by omega)) (fun c3 => ?_)
    refine wq_go rfl (fun _ => rfl) ?_
    refine wq_iret rfl ?_
    have K' := K
    simp only [G_wash, ec, oq_s, oq_n, oq_c] at K'
    exact K' _ (lo_R (fr_refl xR σ)) (mi_k hMR hMT (fr_refl xR σ) (fg_refl yC g) hM)
theorem mg_starch {n : Nat} {A : Sy} (hn : n < 512) (hA : Aok n A) (a0 : Int32) : MOk ax_cd279 [.int a0] A (G_starch A a0).1 (G_starch A a0).2 := by
  intro xs d σ Q hI K
  obtain ⟨hPok, ⟨hok, hhr72, hzq, hsum⟩, hAH, hAZ, hAn, hAh, hTok, hAl⟩ := hA
  have hP' := hPok
  obtain ⟨hP1, hP2, hP3, hP4, hP5, hP6, hP7, hP8, hPv, hPm, hPo, hPw, hPl⟩ := hP'
  have hok' := hok
  obtain ⟨hot, hoh, hosc, hokp⟩ := hok'
  have hI0 := hI
  obtain ⟨L, g, hM, hMR, hMT⟩ := hI0
  have hN : NwIs σ (AS A) := hMR.1
  have hL2 := md_l2 hM
  obtain ⟨f3, h3, h3'⟩ := hMR.2.2.1
  show Wq xs (d + 12) ax_cd279 0 [(0, .ref 287), (1, .int a0)] [] σ Q
  refine wq_go rfl (fun _ => rfl) ?_
  refine wq_go rfl (fun _ => rfl) ?_
  refine wq_callV rfl rfl (by first | rfl | assumption) (by first | decide | omega | assumption) (Nat.le_of_ble_eq_true rfl) (Nat.le_of_ble_eq_true rfl) rfl rfl ?_
  refine m_isChair hM (fun c lc qc ec => ?_) (fun ec => ?_)
  · subst qc
    refine wq_zeq rfl (by first | omega | decide | exact Nat.lt_of_le_of_lt Nat.and_le_right (by decide) | exact ⟨by omega, by omega⟩) (fun c => absurd c (by omega)) (fun c3 => ?_)
    refine wq_go rfl (fun _ => rfl) ?_
    refine wq_getf rfl (by first | rfl | assumption) (by first | decide | omega | assumption) (md_o hM) rfl ?_
    refine wq_cN (m := 16) rfl rfl ?_
    refine wq_go rfl (fun _ => rfl) ?_
    refine wq_addN rfl ?_
    refine wq_ialdN rfl (by first | rfl | assumption) (by first | decide | omega | assumption) hN rfl (by omega) (by first | decide | omega) ?_
    refine wq_top (congrArg nI (rf_sc _ (by omega))) ?_
    have hb1 := bitN_le (Ssc (AS A)) c
    refine wq_cN (m := 1) rfl rfl ?_
    refine wq_cne rfl (by first | omega | decide | exact Nat.lt_of_le_of_lt Nat.and_le_right (by decide) | exact ⟨by omega, by omega⟩) (by first | omega | decide | exact Nat.lt_of_le_of_lt Nat.and_le_right (by decide) | exact ⟨by omega, by omega⟩) (fun c11 => ?_) (fun c11 => ?_)
    · skip
      refine wq_go rfl (fun _ => rfl) ?_
      refine wq_callV rfl rfl (by first | rfl | assumption) (by first | decide | omega | assumption) (Nat.le_of_ble_eq_true rfl) (Nat.le_of_ble_eq_true rfl) rfl rfl ?_
      refine m_copies hM hN (fun σ6 g6 F6 G6 s6 t6 M6 R6 => ?_)
      have W6 : NwIs σ6 (AS A) := (F6 322 rfl).trans hN
      refine wq_go rfl (fun _ => rfl) ?_
      refine wq_getf rfl (by first | rfl | assumption) (by first | decide | omega | assumption) (md_o M6) rfl ?_
      refine wq_cN (m := 16) rfl rfl ?_
      refine wq_go rfl (fun _ => rfl) ?_
      refine wq_addN rfl ?_
      refine wq_cN (m := 1) rfl rfl ?_
      refine wq_iastN rfl (by first | rfl | assumption) (by first | decide | omega | assumption) R6 rfl (by omega) (by first | decide | omega) ?_
      skip
      refine wq_go rfl (fun _ => rfl) ?_
      refine wq_callV rfl rfl (by first | rfl | assumption) (by first | decide | omega | assumption) (Nat.le_of_ble_eq_true rfl) (Nat.le_of_ble_eq_true rfl) rfl rfl ?_
      refine m_records (S' := setSc (AS A) (Ssc (AS A) ||| 2 ^ c)) (md_u323 M6) (rw_up (fun j hj => rf_st (AS A) (by omega) hj)) ((up_ne _ _ (by decide)).trans W6) (((fg_trans (fg_refl yC g) G6) 57 rfl).trans hMR.2.1) hAn (((fr_up (fr_trans (fr_refl xR σ) (fr_mono F6 xC_R)) rfl) 325 rfl).trans h3) h3' (fun σ9 g9 f9 F9 G9 u9 M9 N9 e9 h9 => ?_)
      have I9 := mi_rec hMR hMT (fr_trans (fr_mono (fr_up (fr_trans (fr_refl xR σ) (fr_mono F6 xC_R)) rfl) xR_Q) (fr_mono F9 xU_Q)) (fg_trans (fg_mono (fg_trans (fg_refl yC g) G6) yC_Q) (fg_mono G9 y57_Q)) M9 N9 u9 e9 h9
      have L9 := lo_Q (fr_trans (fr_mono (fr_up (fr_trans (fr_refl xR σ) (fr_mono F6 xC_R)) rfl) xR_Q) (fr_mono F9 xU_Q))
      refine wq_cN (m := 1) rfl rfl ?_
      refine wq_nret rfl (by decide) ?_
      have K' := K
      simp only [G_starch, ec, oq_s, oq_n, oq_c] at K'
      first | exact K' _ L9 I9 | (rw [if_pos (bitN_1 (by omega))] at K'; exact K' _ L9 I9) | (rw [if_neg (fun e => by rw [bitN_0 (by omega)] at e; cases e)] at K'; exact K' _ L9 I9)
    · skip
      refine wq_cN (m := 0) rfl rfl ?_
      refine wq_nret rfl (by decide) ?_
      have K' := K
      simp only [G_starch, ec, oq_s, oq_n, oq_c] at K'
      first | exact K' _ (lo_R (fr_refl xR σ)) (mi_k hMR hMT (fr_refl xR σ) (fg_refl yC g) hM) | (rw [if_pos (bitN_1 (by omega))] at K'; exact K' _ (lo_R (fr_refl xR σ)) (mi_k hMR hMT (fr_refl xR σ) (fg_refl yC g) hM)) | (rw [if_neg (fun e => by rw [bitN_0 (by omega)] at e; cases e)] at K'; exact K' _ (lo_R (fr_refl xR σ)) (mi_k hMR hMT (fr_refl xR σ) (fg_refl yC g) hM))
  · skip
    refine wq_zeq rfl (by first | omega | decide | exact Nat.lt_of_le_of_lt Nat.and_le_right (by decide) | exact ⟨by omega, by omega⟩) (fun c3 => ?_) (fun c => absurd (show _ from by omega) c)
    refine wq_cN (m := 0) rfl rfl ?_
    refine wq_nret rfl (by decide) ?_
    have K' := K
    simp only [G_starch, ec, oq_s, oq_n, oq_c] at K'
    first | exact K' _ (lo_R (fr_refl xR σ)) (mi_k hMR hMT (fr_refl xR σ) (fg_refl yC g) hM) | (rw [if_pos (bitN_1 (by omega))] at K'; exact K' _ (lo_R (fr_refl xR σ)) (mi_k hMR hMT (fr_refl xR σ) (fg_refl yC g) hM)) | (rw [if_neg (fun e => by rw [bitN_0 (by omega)] at e; cases e)] at K'; exact K' _ (lo_R (fr_refl xR σ)) (mi_k hMR hMT (fr_refl xR σ) (fg_refl yC g) hM))
def swR (f : Nat → Nat) (a b u : Nat) : Nat → Nat := fun j => if 4 * a ≤ j ∧ j < 4 * a + u then f (j - 4 * a + 4 * b) else if 4 * b ≤ j ∧ j < 4 * b + u then f (j - 4 * b + 4 * a) else f j
theorem swR_0 (f : Nat → Nat) (a b j : Nat) : swR f a b 0 j = f j := by
  unfold swR
  rw [if_neg (by omega), if_neg (by omega)]
theorem swR_a (f : Nat → Nat) {a b u : Nat} (hab : a ≠ b) (hu : u < 4) : swR f a b u (4 * a + u) = f (4 * a + u) := by
  unfold swR
  rw [if_neg (by omega), if_neg (by omega)]
theorem swR_b (f : Nat → Nat) {a b u : Nat} (hab : a ≠ b) (hu : u < 4) : swR f a b u (4 * b + u) = f (4 * b + u) := by
  unfold swR
  rw [if_neg (by omega), if_neg (by omega)]
theorem swR_s (f : Nat → Nat) {a b u : Nat} (hab : a ≠ b) (hu : u < 4) (j : Nat) : updN (updN (swR f a b u) (4 * a + u) (swR f a b u (4 * b + u))) (4 * b + u) (swR f a b u (4 * a + u)) j = swR f a b (u + 1) j := by
  rw [swR_a f hab hu, swR_b f hab hu]
  by_cases h1 : j = 4 * b + u
  · subst h1
    rw [updN_same]
    unfold swR
    rw [if_neg (by omega), if_pos (by omega)]
    congr 1
    omega
  · rw [updN_ne _ _ h1]
    by_cases h2 : j = 4 * a + u
    · subst h2
      rw [updN_same]
      unfold swR
      rw [if_pos (by omega)]
      congr 1
      omega
    · rw [updN_ne _ _ h2]
      unfold swR
      by_cases q1 : 4 * a ≤ j ∧ j < 4 * a + u
      · rw [if_pos q1, if_pos (by omega)]
      · rw [if_neg q1, if_neg (show ¬ (4 * a ≤ j ∧ j < 4 * a + (u + 1)) by omega)]
        by_cases q2 : 4 * b ≤ j ∧ j < 4 * b + u
        · rw [if_pos q2, if_pos (by omega)]
        · rw [if_neg q2, if_neg (show ¬ (4 * b ≤ j ∧ j < 4 * b + (u + 1)) by omega)]
theorem bitN_setb {x c : Nat} (hc : c < 10) (hx : x < 1024) (v : Bool) (j : Nat) : bitN (setb x c v) j = if j = c then bN v else bitN x j := by
  unfold setb
  cases v with
  | true => rw [if_pos rfl, bitN_or]; rfl
  | false => rw [if_neg (by decide), bitN_clr hc hx]; rfl
theorem bN_tb (x k : Nat) : bN (x.testBit k) = bitN x k := rfl
theorem rf_ch (S : St) {a b : Nat} (ha : a < 4) (hb : b < 4) (hab : a ≠ b) (hs : Ssc S < 16) {j : Nat} (hj : j < 61) : updN (updN (swR (rowF S) a b 4) (16 + a) (rowF S (16 + b))) (16 + b) (rowF S (16 + a)) j = rowF (chS S a b) j := by
  have hl : setb (Ssc S) a ((Ssc S).testBit b) < 16 := setb_lt ha hs
  by_cases h1 : 16 ≤ j ∧ j < 20
  · have e : rowF (chS S a b) j = if j - 16 = b then bitN (Ssc S) a else if j - 16 = a then bitN (Ssc S) b else bitN (Ssc S) (j - 16) := by
      rw [rf_b _ h1.1 h1.2]
      show bitN (setb (setb (Ssc S) a ((Ssc S).testBit b)) b ((Ssc S).testBit a)) (j - 16) = _
      rw [bitN_setb (by omega) (by omega), bitN_setb (by omega) (by omega), bN_tb, bN_tb]
    rw [e, rf_sc S ha, rf_sc S hb]
    by_cases q1 : j = 16 + b
    · subst q1
      rw [updN_same, if_pos (by omega)]
    · rw [updN_ne _ _ q1, if_neg (show ¬ j - 16 = b by omega)]
      by_cases q2 : j = 16 + a
      · subst q2
        rw [updN_same, if_pos (by omega)]
      · rw [updN_ne _ _ q2, if_neg (show ¬ j - 16 = a by omega)]
        unfold swR
        rw [if_neg (by omega), if_neg (by omega), rf_b S h1.1 h1.2]
  · rw [updN_ne _ _ (by omega), updN_ne _ _ (by omega)]
    by_cases h2 : j < 16
    · rw [rf_a (chS S a b) h2]
      show swR (rowF S) a b 4 j = swF (Ssq S) a b 4 j
      unfold swR swF
      by_cases q1 : 4 * a ≤ j ∧ j < 4 * a + 4
      · rw [if_pos q1, if_pos (by omega), rf_a S (by omega)]
        congr 1
        omega
      · rw [if_neg q1, if_neg (show ¬ (a * 4 ≤ j ∧ j < a * 4 + 4) by omega)]
        by_cases q2 : 4 * b ≤ j ∧ j < 4 * b + 4
        · rw [if_pos q2, if_pos (by omega), rf_a S (by omega)]
          congr 1
          omega
        · rw [if_neg q2, if_neg (show ¬ (b * 4 ≤ j ∧ j < b * 4 + 4) by omega), rf_a S h2]
    · have e : swR (rowF S) a b 4 j = rowF S j := by
        unfold swR
        rw [if_neg (by omega), if_neg (by omega)]
      rw [e]
      unfold rowF
      rw [if_neg h2, if_neg h2, if_neg (show ¬ j < 20 by omega), if_neg (show ¬ j < 20 by omega)]
      rfl
theorem m_swaps {xs : List Int32} {d : Nat} {σ : Nat → List Value} {Q : Option Value → (Nat → List Value) → Prop} {P : Pl} {L : Nat} {g : Nat → Int32} (hM : MD P L g σ) {f : Nat → Nat} (hR : σ 323 = arrN 61 f) {k o : Nat} (hk : k < 61) (ho : o < 61)  (K : ∀ σ', Fr x323 σ σ' → MD P L g σ' → σ' 323 = arrN 61 (updN (updN f k (f o)) o (f k)) → Q none σ') : Wq xs (d + 0) ax_cd281 0 [(0, .ref 287), (1, .int (nI k)), (2, .int (nI o))] [] σ Q := by
  refine wq_go rfl (fun _ => rfl) ?_
  refine wq_getf rfl (by first | rfl | assumption) (by first | decide | omega | assumption) (md_o hM) rfl ?_
  refine wq_go rfl (fun _ => rfl) ?_
  refine wq_ialdN rfl (by first | rfl | assumption) (by first | decide | omega | assumption) hR rfl (by omega) (by first | decide | omega) ?_
  refine wq_go rfl (fun _ => rfl) ?_
  refine wq_go rfl (fun _ => rfl) ?_
  refine wq_getf rfl (by first | rfl | assumption) (by first | decide | omega | assumption) (md_o hM) rfl ?_
  refine wq_go rfl (fun _ => rfl) ?_
  refine wq_go rfl (fun _ => rfl) ?_
  refine wq_getf rfl (by first | rfl | assumption) (by first | decide | omega | assumption) (md_o hM) rfl ?_
  refine wq_go rfl (fun _ => rfl) ?_
  refine wq_ialdN rfl (by first | rfl | assumption) (by first | decide | omega | assumption) hR rfl (by omega) (by first | decide | omega) ?_
  refine wq_iastN rfl (by first | rfl | assumption) (by first | decide | omega | assumption) hR rfl (by omega) (by first | decide | omega) ?_
  refine wq_go rfl (fun _ => rfl) ?_
  refine wq_getf rfl (by first | rfl | assumption) (by first | decide | omega | assumption) ((up_ne _ _ (by decide)).trans (md_o hM)) rfl ?_
  refine wq_go rfl (fun _ => rfl) ?_
  refine wq_go rfl (fun _ => rfl) ?_
  refine wq_iastN rfl (by first | rfl | assumption) (by first | decide | omega | assumption) (up_same _ _ _) rfl (by omega) (by first | decide | omega) ?_
  rw [up_up]
  refine wq_end rfl (fun _ => rfl) ?_
  exact K _ (fr_up (fr_refl _ _) rfl) (md_u323 hM) (up_same _ _ _)
theorem m_chg_l {xs : List Int32} {d : Nat} {σ : Nat → List Value} {Q : Option Value → (Nat → List Value) → Prop} {P : Pl} {L : Nat} {g : Nat → Int32} {f : Nat → Nat} {c o : Nat} (hc : c < 4) (ho : o < 4) (hco : c ≠ o)  (K : ∀ σ', Fr x323 σ σ' → MD P L g σ' → σ' 323 = arrN 61 (swR f c o 4) → Wq xs (d + 1) ax_cd280 34 [(0, .ref 287), (1, .int (nI c)), (2, .int (nI o))] [] σ' Q) : ∀ (m u : Nat), m + u = 4 → ∀ σ1, Fr x323 σ σ1 → MD P L g σ1 → σ1 323 = arrN 61 (swR f c o u) → Wq xs (d + 1) ax_cd280 17 [(3, .int (nI u)), (0, .ref 287), (1, .int (nI c)), (2, .int (nI o))] [] σ1 Q := by
  intro m
  induction m with
  | zero =>
    intro u hm σ1 hF1 hM1 hR1
    refine wq_go rfl (fun _ => rfl) ?_
    refine wq_cN (m := 4) rfl rfl ?_
    refine wq_cge rfl (by first | omega | decide | exact Nat.lt_of_le_of_lt Nat.and_le_right (by decide) | exact ⟨by omega, by omega⟩) (by first | omega | decide | exact Nat.lt_of_le_of_lt Nat.and_le_right (by decide) | exact ⟨by omega, by omega⟩) (fun c19 => ?_) (fun c => absurd (show _ from by omega) c)
    have hu : u = 4 := by omega
    subst hu
    exact wq_lv ⟨(by decide : ([3, 0, 1, 2] : List Nat).Nodup), (lvm (List.mem_of_getElem? (i := 1) rfl) (lvm (List.mem_of_getElem? (i := 2) rfl) (lvm (List.mem_of_getElem? (i := 3) rfl) lvn)))⟩ (K σ1 hF1 hM1 hR1)
  | succ m ih =>
    intro u hm σ1 hF1 hM1 hR1
    refine wq_go rfl (fun _ => rfl) ?_
    refine wq_cN (m := 4) rfl rfl ?_
    refine wq_cge rfl (by first | omega | decide | exact Nat.lt_of_le_of_lt Nat.and_le_right (by decide) | exact ⟨by omega, by omega⟩) (by first | omega | decide | exact Nat.lt_of_le_of_lt Nat.and_le_right (by decide) | exact ⟨by omega, by omega⟩) (fun c => absurd c (by omega)) (fun c19 => ?_)
    refine wq_go rfl (fun _ => rfl) ?_
    refine wq_cN (m := 4) rfl rfl ?_
    refine wq_go rfl (fun _ => rfl) ?_
    refine wq_mulN rfl ?_
    refine wq_go rfl (fun _ => rfl) ?_
    refine wq_addN rfl ?_
    refine wq_cN (m := 4) rfl rfl ?_
    refine wq_go rfl (fun _ => rfl) ?_
    refine wq_mulN rfl ?_
    refine wq_go rfl (fun _ => rfl) ?_
    refine wq_addN rfl ?_
    refine wq_callV rfl rfl (by first | rfl | assumption) (by first | decide | omega | assumption) (Nat.le_of_ble_eq_true rfl) (Nat.le_of_ble_eq_true rfl) rfl rfl ?_
    refine m_swaps hM1 hR1 (by omega) (by omega) (fun σ2 F2 M2 R2 => ?_)
    refine wq_incN rfl rfl rfl ?_
    refine wq_go rfl (fun _ => rfl) ?_
    exact ih (u + 1) (by omega) σ2 (fr_trans hF1 F2) M2 (R2.trans (arrN_congr (fun j hj => swR_s f hco (by omega) j)))
theorem x323_R : ∀ j, x323 j = true → xR j = true := fun j h => xC_R j (x323_C j h)
theorem mg_change {n : Nat} {A : Sy} (hn : n < 512) (hA : Aok n A) (a0 a1 : Int32) : MOk ax_cd280 [.int a0, .int a1] A (G_change A a0 a1).1 (G_change A a0 a1).2 := by
  intro xs d σ Q hI K
  obtain ⟨hPok, ⟨hok, hhr72, hzq, hsum⟩, hAH, hAZ, hAn, hAh, hTok, hAl⟩ := hA
  have hP' := hPok
  obtain ⟨hP1, hP2, hP3, hP4, hP5, hP6, hP7, hP8, hPv, hPm, hPo, hPw, hPl⟩ := hP'
  have hok' := hok
  obtain ⟨hot, hoh, hosc, hokp⟩ := hok'
  have hI0 := hI
  obtain ⟨L, g, hM, hMR, hMT⟩ := hI0
  have hN : NwIs σ (AS A) := hMR.1
  have hL2 := md_l2 hM
  obtain ⟨f3, h3, h3'⟩ := hMR.2.2.1
  show Wq xs (d + 12) ax_cd280 0 [(0, .ref 287), (1, .int a0), (2, .int a1)] [] σ Q
  refine wq_go rfl (fun _ => rfl) ?_
  refine wq_go rfl (fun _ => rfl) ?_
  refine wq_callV rfl rfl (by first | rfl | assumption) (by first | decide | omega | assumption) (Nat.le_of_ble_eq_true rfl) (Nat.le_of_ble_eq_true rfl) rfl rfl ?_
  refine m_isChair hM (fun c lc qc ec => ?_) (fun ec => ?_)
  · subst qc
    refine wq_zeq rfl (by first | omega | decide | exact Nat.lt_of_le_of_lt Nat.and_le_right (by decide) | exact ⟨by omega, by omega⟩) (fun c => absurd c (by omega)) (fun c3 => ?_)
    refine wq_go rfl (fun _ => rfl) ?_
    refine wq_go rfl (fun _ => rfl) ?_
    refine wq_callV rfl rfl (by first | rfl | assumption) (by first | decide | omega | assumption) (Nat.le_of_ble_eq_true rfl) (Nat.le_of_ble_eq_true rfl) rfl rfl ?_
    refine m_isChair hM (fun o lo qo eo => ?_) (fun eo => ?_)
    · subst qo
      refine wq_zeq rfl (by first | omega | decide | exact Nat.lt_of_le_of_lt Nat.and_le_right (by decide) | exact ⟨by omega, by omega⟩) (fun c => absurd c (by omega)) (fun c7 => ?_)
      refine wq_go rfl (fun _ => rfl) ?_
      refine wq_go rfl (fun _ => rfl) ?_
      refine wq_cne rfl (by first | omega | decide | exact Nat.lt_of_le_of_lt Nat.and_le_right (by decide) | exact ⟨by omega, by omega⟩) (by first | omega | decide | exact Nat.lt_of_le_of_lt Nat.and_le_right (by decide) | exact ⟨by omega, by omega⟩) (fun c10 => ?_) (fun c10 => ?_)
      · skip
        refine wq_go rfl (fun _ => rfl) ?_
        refine wq_callV rfl rfl (by first | rfl | assumption) (by first | decide | omega | assumption) (Nat.le_of_ble_eq_true rfl) (Nat.le_of_ble_eq_true rfl) rfl rfl ?_
        refine m_copies hM hN (fun σ7 g7 F7 G7 s7 t7 M7 R7 => ?_)
        have W7 : NwIs σ7 (AS A) := (F7 322 rfl).trans hN
        refine wq_cN (m := 0) rfl rfl ?_
        refine wq_go rfl (fun _ => rfl) ?_
        refine wq_lv ⟨(by decide : ([3, 0, 1, 2] : List Nat).Nodup), (lvm (List.mem_of_getElem? (i := 0) rfl) (lvm (List.mem_of_getElem? (i := 1) rfl) (lvm (List.mem_of_getElem? (i := 2) rfl) (lvm (List.mem_of_getElem? (i := 3) rfl) lvn))))⟩ (m_chg_l (f := rowF (AS A)) (c := c) (o := o) (by omega) (by omega) (by omega) (fun σ17 F17 M17 R17 => ?_) 4 0 rfl _ (fr_refl _ _) M7 (R7.trans (arrN_congr (fun j hj => (swR_0 _ _ _ j).symm))))
        have W17 : NwIs σ17 (AS A) := (F17 322 rfl).trans W7
        refine wq_go rfl (fun _ => rfl) ?_
        refine wq_cN (m := 16) rfl rfl ?_
        refine wq_go rfl (fun _ => rfl) ?_
        refine wq_addN rfl ?_
        refine wq_cN (m := 16) rfl rfl ?_
        refine wq_go rfl (fun _ => rfl) ?_
        refine wq_addN rfl ?_
        refine wq_callV rfl rfl (by first | rfl | assumption) (by first | decide | omega | assumption) (Nat.le_of_ble_eq_true rfl) (Nat.le_of_ble_eq_true rfl) rfl rfl ?_
        refine m_swaps M17 R17 (by omega) (by omega) (fun σ18 F18 M18 R18' => ?_)
        have W18 : NwIs σ18 (AS A) := (F18 322 rfl).trans W17
        have e16 : ∀ q, q < 4 → swR (rowF (AS A)) c o 4 (16 + q) = rowF (AS A) (16 + q) := fun q hq => by
          unfold swR
          rw [if_neg (by omega), if_neg (by omega)]
        rw [e16 c (by omega), e16 o (by omega)] at R18'
        have R18 : RwIs σ18 (chS (AS A) c o) := R18'.trans (arrN_congr (fun j hj => rf_ch (AS A) (by omega) (by omega) (by omega) hosc hj))
        refine wq_go rfl (fun _ => rfl) ?_
        refine wq_callV rfl rfl (by first | rfl | assumption) (by first | decide | omega | assumption) (Nat.le_of_ble_eq_true rfl) (Nat.le_of_ble_eq_true rfl) rfl rfl ?_
        refine m_records (S' := chS (AS A) c o) M18 R18 W18 (((fg_trans (fg_refl yC g) G7) 57 rfl).trans hMR.2.1) hAn (((fr_trans (fr_trans (fr_trans (fr_refl xR σ) (fr_mono F7 xC_R)) (fr_mono F17 x323_R)) (fr_mono F18 x323_R)) 325 rfl).trans h3) h3' (fun σ9 g9 f9 F9 G9 u9 M9 N9 e9 h9 => ?_)
        have I9 := mi_rec hMR hMT (fr_trans (fr_mono (fr_trans (fr_trans (fr_trans (fr_refl xR σ) (fr_mono F7 xC_R)) (fr_mono F17 x323_R)) (fr_mono F18 x323_R)) xR_Q) (fr_mono F9 xU_Q)) (fg_trans (fg_mono (fg_trans (fg_refl yC g) G7) yC_Q) (fg_mono G9 y57_Q)) M9 N9 u9 e9 h9
        have L9 := lo_Q (fr_trans (fr_mono (fr_trans (fr_trans (fr_trans (fr_refl xR σ) (fr_mono F7 xC_R)) (fr_mono F17 x323_R)) (fr_mono F18 x323_R)) xR_Q) (fr_mono F9 xU_Q))
        refine wq_cN (m := 1) rfl rfl ?_
        refine wq_nret rfl (by decide) ?_
        have K' := K
        simp only [G_change, ec, eo, oq_s, oq_n, oq_c] at K'
        first | exact K' _ L9 I9 | (rw [if_pos (by omega)] at K'; exact K' _ L9 I9) | (rw [if_neg (by omega)] at K'; exact K' _ L9 I9)
      · skip
        refine wq_cN (m := 0) rfl rfl ?_
        refine wq_nret rfl (by decide) ?_
        have K' := K
        simp only [G_change, ec, eo, oq_s, oq_n, oq_c] at K'
        first | exact K' _ (lo_R (fr_refl xR σ)) (mi_k hMR hMT (fr_refl xR σ) (fg_refl yC g) hM) | (rw [if_pos (by omega)] at K'; exact K' _ (lo_R (fr_refl xR σ)) (mi_k hMR hMT (fr_refl xR σ) (fg_refl yC g) hM)) | (rw [if_neg (by omega)] at K'; exact K' _ (lo_R (fr_refl xR σ)) (mi_k hMR hMT (fr_refl xR σ) (fg_refl yC g) hM))
    · skip
      refine wq_zeq rfl (by first | omega | decide | exact Nat.lt_of_le_of_lt Nat.and_le_right (by decide) | exact ⟨by omega, by omega⟩) (fun c7 => ?_) (fun c => absurd (show _ from by omega) c)
      refine wq_cN (m := 0) rfl rfl ?_
      refine wq_nret rfl (by decide) ?_
      have K' := K
      simp only [G_change, ec, eo, oq_s, oq_n, oq_c] at K'
      first | exact K' _ (lo_R (fr_refl xR σ)) (mi_k hMR hMT (fr_refl xR σ) (fg_refl yC g) hM) | (rw [if_pos (by omega)] at K'; exact K' _ (lo_R (fr_refl xR σ)) (mi_k hMR hMT (fr_refl xR σ) (fg_refl yC g) hM)) | (rw [if_neg (by omega)] at K'; exact K' _ (lo_R (fr_refl xR σ)) (mi_k hMR hMT (fr_refl xR σ) (fg_refl yC g) hM))
  · skip
    refine wq_zeq rfl (by first | omega | decide | exact Nat.lt_of_le_of_lt Nat.and_le_right (by decide) | exact ⟨by omega, by omega⟩) (fun c3 => ?_) (fun c => absurd (show _ from by omega) c)
    refine wq_cN (m := 0) rfl rfl ?_
    refine wq_nret rfl (by decide) ?_
    have K' := K
    simp only [G_change, ec, oq_s, oq_n, oq_c] at K'
    first | exact K' _ (lo_R (fr_refl xR σ)) (mi_k hMR hMT (fr_refl xR σ) (fg_refl yC g) hM) | (rw [if_pos (by omega)] at K'; exact K' _ (lo_R (fr_refl xR σ)) (mi_k hMR hMT (fr_refl xR σ) (fg_refl yC g) hM)) | (rw [if_neg (by omega)] at K'; exact K' _ (lo_R (fr_refl xR σ)) (mi_k hMR hMT (fr_refl xR σ) (fg_refl yC g) hM))
theorem mg_keep0 {n : Nat} {A : Sy} (hn : n < 512) (hA : Aok n A) (a0 : Int32) : MOk ax_cd282 [.int a0, .int (nI 0)] A (G_keep A a0 0).1 (G_keep A a0 0).2 := by
  intro xs d σ Q hI K
  obtain ⟨hPok, ⟨hok, hhr72, hzq, hsum⟩, hAH, hAZ, hAn, hAh, hTok, hAl⟩ := hA
  have hP' := hPok
  obtain ⟨hP1, hP2, hP3, hP4, hP5, hP6, hP7, hP8, hPv, hPm, hPo, hPw, hPl⟩ := hP'
  have hok' := hok
  obtain ⟨hot, hoh, hosc, hokp⟩ := hok'
  have hI0 := hI
  obtain ⟨L, g, hM, hMR, hMT⟩ := hI0
  have hN : NwIs σ (AS A) := hMR.1
  have hL2 := md_l2 hM
  obtain ⟨f3, h3, h3'⟩ := hMR.2.2.1
  show Wq xs (d + 12) ax_cd282 0 [(0, .ref 287), (1, .int a0), (2, .int (nI 0))] [] σ Q
  refine wq_go rfl (fun _ => rfl) ?_
  refine wq_go rfl (fun _ => rfl) ?_
  refine wq_callV rfl rfl (by first | rfl | assumption) (by first | decide | omega | assumption) (Nat.le_of_ble_eq_true rfl) (Nat.le_of_ble_eq_true rfl) rfl rfl ?_
  refine m_isVisit hM (fun i li qi ei => ?_) (fun ei => ?_)
  · subst qi
    refine wq_zeq rfl (by first | omega | decide | exact Nat.lt_of_le_of_lt Nat.and_le_right (by decide) | exact ⟨by omega, by omega⟩) (fun c => absurd c (by omega)) (fun c3 => ?_)
    refine wq_go rfl (fun _ => rfl) ?_
    refine wq_getf rfl (by first | rfl | assumption) (by first | decide | omega | assumption) (md_o hM) rfl ?_
    refine wq_cN (m := 49) rfl rfl ?_
    refine wq_go rfl (fun _ => rfl) ?_
    refine wq_addN rfl ?_
    refine wq_ialdN rfl (by first | rfl | assumption) (by first | decide | omega | assumption) hN rfl (by omega) (by first | decide | omega) ?_
    refine wq_top (congrArg nI (rf_kp _ (by omega))) ?_
    have hb1 := bitN_le (Skp (AS A)) i
    refine wq_cN (m := 1) rfl rfl ?_
    refine wq_cne rfl (by first | omega | decide | exact Nat.lt_of_le_of_lt Nat.and_le_right (by decide) | exact ⟨by omega, by omega⟩) (by first | omega | decide | exact Nat.lt_of_le_of_lt Nat.and_le_right (by decide) | exact ⟨by omega, by omega⟩) (fun c11 => ?_) (fun c11 => ?_)
    · skip
      refine wq_cN (m := 0) rfl rfl ?_
      refine wq_go rfl (fun _ => rfl) ?_
      refine wq_cne rfl (by first | omega | decide | exact Nat.lt_of_le_of_lt Nat.and_le_right (by decide) | exact ⟨by omega, by omega⟩) (by first | omega | decide | exact Nat.lt_of_le_of_lt Nat.and_le_right (by decide) | exact ⟨by omega, by omega⟩) (fun c => absurd c (by omega)) (fun c16 => ?_)
      refine wq_cN (m := 0) rfl rfl ?_
      refine wq_nret rfl (by decide) ?_
      have K' := K
      simp only [G_keep, ei, oq_s, oq_n, oq_c] at K'
      first | exact K' _ (lo_R (fr_refl xR σ)) (mi_k hMR hMT (fr_refl xR σ) (fg_refl yC g) hM) | (rw [if_pos (by omega)] at K'; exact K' _ (lo_R (fr_refl xR σ)) (mi_k hMR hMT (fr_refl xR σ) (fg_refl yC g) hM)) | (rw [if_neg (by omega)] at K'; exact K' _ (lo_R (fr_refl xR σ)) (mi_k hMR hMT (fr_refl xR σ) (fg_refl yC g) hM)) | (rw [if_neg (by omega), if_pos rfl] at K'; exact K' _ (lo_R (fr_refl xR σ)) (mi_k hMR hMT (fr_refl xR σ) (fg_refl yC g) hM))
    · skip
      refine wq_cN (m := 1) rfl rfl ?_
      refine wq_go rfl (fun _ => rfl) ?_
      refine wq_go rfl (fun _ => rfl) ?_
      refine wq_cne rfl (by first | omega | decide | exact Nat.lt_of_le_of_lt Nat.and_le_right (by decide) | exact ⟨by omega, by omega⟩) (by first | omega | decide | exact Nat.lt_of_le_of_lt Nat.and_le_right (by decide) | exact ⟨by omega, by omega⟩) (fun c16 => ?_) (fun c => absurd (show _ from by omega) c)
      refine wq_go rfl (fun _ => rfl) ?_
      refine wq_callV rfl rfl (by first | rfl | assumption) (by first | decide | omega | assumption) (Nat.le_of_ble_eq_true rfl) (Nat.le_of_ble_eq_true rfl) rfl rfl ?_
      refine m_copies hM hN (fun σ6 g6 F6 G6 s6 t6 M6 R6 => ?_)
      have W6 : NwIs σ6 (AS A) := (F6 322 rfl).trans hN
      refine wq_go rfl (fun _ => rfl) ?_
      refine wq_getf rfl (by first | rfl | assumption) (by first | decide | omega | assumption) (md_o M6) rfl ?_
      refine wq_cN (m := 49) rfl rfl ?_
      refine wq_go rfl (fun _ => rfl) ?_
      refine wq_addN rfl ?_
      refine wq_go rfl (fun _ => rfl) ?_
      refine wq_zeq rfl (by first | omega | decide | exact Nat.lt_of_le_of_lt Nat.and_le_right (by decide) | exact ⟨by omega, by omega⟩) (fun c27 => ?_) (fun c => absurd (show _ from by omega) c)
      refine wq_cN (m := 0) rfl rfl ?_
      refine wq_iastN rfl (by first | rfl | assumption) (by first | decide | omega | assumption) R6 rfl (by omega) (by first | decide | omega) ?_
      skip
      refine wq_go rfl (fun _ => rfl) ?_
      refine wq_callV rfl rfl (by first | rfl | assumption) (by first | decide | omega | assumption) (Nat.le_of_ble_eq_true rfl) (Nat.le_of_ble_eq_true rfl) rfl rfl ?_
      refine m_records (S' := setKp (AS A) (clr (Skp (AS A)) i)) (md_u323 M6) (rw_up (fun j hj => rf_k0 (AS A) (by omega) hokp hj)) ((up_ne _ _ (by decide)).trans W6) (((fg_trans (fg_refl yC g) G6) 57 rfl).trans hMR.2.1) hAn (((fr_up (fr_trans (fr_refl xR σ) (fr_mono F6 xC_R)) rfl) 325 rfl).trans h3) h3' (fun σ9 g9 f9 F9 G9 u9 M9 N9 e9 h9 => ?_)
      have I9 := mi_rec hMR hMT (fr_trans (fr_mono (fr_up (fr_trans (fr_refl xR σ) (fr_mono F6 xC_R)) rfl) xR_Q) (fr_mono F9 xU_Q)) (fg_trans (fg_mono (fg_trans (fg_refl yC g) G6) yC_Q) (fg_mono G9 y57_Q)) M9 N9 u9 e9 h9
      have L9 := lo_Q (fr_trans (fr_mono (fr_up (fr_trans (fr_refl xR σ) (fr_mono F6 xC_R)) rfl) xR_Q) (fr_mono F9 xU_Q))
      refine wq_cN (m := 1) rfl rfl ?_
      refine wq_nret rfl (by decide) ?_
      have K' := K
      simp only [G_keep, ei, oq_s, oq_n, oq_c] at K'
      first | exact K' _ L9 I9 | (rw [if_pos (by omega)] at K'; exact K' _ L9 I9) | (rw [if_neg (by omega)] at K'; exact K' _ L9 I9) | (rw [if_neg (by omega), if_pos rfl] at K'; exact K' _ L9 I9)
  · skip
    refine wq_zeq rfl (by first | omega | decide | exact Nat.lt_of_le_of_lt Nat.and_le_right (by decide) | exact ⟨by omega, by omega⟩) (fun c3 => ?_) (fun c => absurd (show _ from by omega) c)
    refine wq_cN (m := 0) rfl rfl ?_
    refine wq_nret rfl (by decide) ?_
    have K' := K
    simp only [G_keep, ei, oq_s, oq_n, oq_c] at K'
    first | exact K' _ (lo_R (fr_refl xR σ)) (mi_k hMR hMT (fr_refl xR σ) (fg_refl yC g) hM) | (rw [if_pos (by omega)] at K'; exact K' _ (lo_R (fr_refl xR σ)) (mi_k hMR hMT (fr_refl xR σ) (fg_refl yC g) hM)) | (rw [if_neg (by omega)] at K'; exact K' _ (lo_R (fr_refl xR σ)) (mi_k hMR hMT (fr_refl xR σ) (fg_refl yC g) hM)) | (rw [if_neg (by omega), if_pos rfl] at K'; exact K' _ (lo_R (fr_refl xR σ)) (mi_k hMR hMT (fr_refl xR σ) (fg_refl yC g) hM))
theorem mg_keep1 {n : Nat} {A : Sy} (hn : n < 512) (hA : Aok n A) (a0 : Int32) : MOk ax_cd282 [.int a0, .int (nI 1)] A (G_keep A a0 1).1 (G_keep A a0 1).2 := by
  intro xs d σ Q hI K
  obtain ⟨hPok, ⟨hok, hhr72, hzq, hsum⟩, hAH, hAZ, hAn, hAh, hTok, hAl⟩ := hA
  have hP' := hPok
  obtain ⟨hP1, hP2, hP3, hP4, hP5, hP6, hP7, hP8, hPv, hPm, hPo, hPw, hPl⟩ := hP'
  have hok' := hok
  obtain ⟨hot, hoh, hosc, hokp⟩ := hok'
  have hI0 := hI
  obtain ⟨L, g, hM, hMR, hMT⟩ := hI0
  have hN : NwIs σ (AS A) := hMR.1
  have hL2 := md_l2 hM
  obtain ⟨f3, h3, h3'⟩ := hMR.2.2.1
  show Wq xs (d + 12) ax_cd282 0 [(0, .ref 287), (1, .int a0), (2, .int (nI 1))] [] σ Q
  refine wq_go rfl (fun _ => rfl) ?_
  refine wq_go rfl (fun _ => rfl) ?_
  refine wq_callV rfl rfl (by first | rfl | assumption) (by first | decide | omega | assumption) (Nat.le_of_ble_eq_true rfl) (Nat.le_of_ble_eq_true rfl) rfl rfl ?_
  refine m_isVisit hM (fun i li qi ei => ?_) (fun ei => ?_)
  · subst qi
    refine wq_zeq rfl (by first | omega | decide | exact Nat.lt_of_le_of_lt Nat.and_le_right (by decide) | exact ⟨by omega, by omega⟩) (fun c => absurd c (by omega)) (fun c3 => ?_)
    refine wq_go rfl (fun _ => rfl) ?_
    refine wq_getf rfl (by first | rfl | assumption) (by first | decide | omega | assumption) (md_o hM) rfl ?_
    refine wq_cN (m := 49) rfl rfl ?_
    refine wq_go rfl (fun _ => rfl) ?_
    refine wq_addN rfl ?_
    refine wq_ialdN rfl (by first | rfl | assumption) (by first | decide | omega | assumption) hN rfl (by omega) (by first | decide | omega) ?_
    refine wq_top (congrArg nI (rf_kp _ (by omega))) ?_
    have hb1 := bitN_le (Skp (AS A)) i
    refine wq_cN (m := 1) rfl rfl ?_
    refine wq_cne rfl (by first | omega | decide | exact Nat.lt_of_le_of_lt Nat.and_le_right (by decide) | exact ⟨by omega, by omega⟩) (by first | omega | decide | exact Nat.lt_of_le_of_lt Nat.and_le_right (by decide) | exact ⟨by omega, by omega⟩) (fun c11 => ?_) (fun c11 => ?_)
    · skip
      refine wq_cN (m := 0) rfl rfl ?_
      refine wq_go rfl (fun _ => rfl) ?_
      refine wq_cne rfl (by first | omega | decide | exact Nat.lt_of_le_of_lt Nat.and_le_right (by decide) | exact ⟨by omega, by omega⟩) (by first | omega | decide | exact Nat.lt_of_le_of_lt Nat.and_le_right (by decide) | exact ⟨by omega, by omega⟩) (fun c16 => ?_) (fun c => absurd (show _ from by omega) c)
      refine wq_go rfl (fun _ => rfl) ?_
      refine wq_callV rfl rfl (by first | rfl | assumption) (by first | decide | omega | assumption) (Nat.le_of_ble_eq_true rfl) (Nat.le_of_ble_eq_true rfl) rfl rfl ?_
      refine m_copies hM hN (fun σ6 g6 F6 G6 s6 t6 M6 R6 => ?_)
      have W6 : NwIs σ6 (AS A) := (F6 322 rfl).trans hN
      refine wq_go rfl (fun _ => rfl) ?_
      refine wq_getf rfl (by first | rfl | assumption) (by first | decide | omega | assumption) (md_o M6) rfl ?_
      refine wq_cN (m := 49) rfl rfl ?_
      refine wq_go rfl (fun _ => rfl) ?_
      refine wq_addN rfl ?_
      refine wq_go rfl (fun _ => rfl) ?_
      refine wq_zeq rfl (by first | omega | decide | exact Nat.lt_of_le_of_lt Nat.and_le_right (by decide) | exact ⟨by omega, by omega⟩) (fun c => absurd c (by omega)) (fun c27 => ?_)
      refine wq_cN (m := 1) rfl rfl ?_
      refine wq_go rfl (fun _ => rfl) ?_
      refine wq_iastN rfl (by first | rfl | assumption) (by first | decide | omega | assumption) R6 rfl (by omega) (by first | decide | omega) ?_
      skip
      refine wq_go rfl (fun _ => rfl) ?_
      refine wq_callV rfl rfl (by first | rfl | assumption) (by first | decide | omega | assumption) (Nat.le_of_ble_eq_true rfl) (Nat.le_of_ble_eq_true rfl) rfl rfl ?_
      refine m_records (S' := setKp (AS A) (Skp (AS A) ||| 2 ^ i)) (md_u323 M6) (rw_up (fun j hj => rf_k1 (AS A) (by omega) hj)) ((up_ne _ _ (by decide)).trans W6) (((fg_trans (fg_refl yC g) G6) 57 rfl).trans hMR.2.1) hAn (((fr_up (fr_trans (fr_refl xR σ) (fr_mono F6 xC_R)) rfl) 325 rfl).trans h3) h3' (fun σ9 g9 f9 F9 G9 u9 M9 N9 e9 h9 => ?_)
      have I9 := mi_rec hMR hMT (fr_trans (fr_mono (fr_up (fr_trans (fr_refl xR σ) (fr_mono F6 xC_R)) rfl) xR_Q) (fr_mono F9 xU_Q)) (fg_trans (fg_mono (fg_trans (fg_refl yC g) G6) yC_Q) (fg_mono G9 y57_Q)) M9 N9 u9 e9 h9
      have L9 := lo_Q (fr_trans (fr_mono (fr_up (fr_trans (fr_refl xR σ) (fr_mono F6 xC_R)) rfl) xR_Q) (fr_mono F9 xU_Q))
      refine wq_cN (m := 1) rfl rfl ?_
      refine wq_nret rfl (by decide) ?_
      have K' := K
      simp only [G_keep, ei, oq_s, oq_n, oq_c] at K'
      first | exact K' _ L9 I9 | (rw [if_pos (by omega)] at K'; exact K' _ L9 I9) | (rw [if_neg (by omega)] at K'; exact K' _ L9 I9) | (rw [if_neg (by omega), if_neg (by decide)] at K'; exact K' _ L9 I9)
    · skip
      refine wq_cN (m := 1) rfl rfl ?_
      refine wq_go rfl (fun _ => rfl) ?_
      refine wq_go rfl (fun _ => rfl) ?_
      refine wq_cne rfl (by first | omega | decide | exact Nat.lt_of_le_of_lt Nat.and_le_right (by decide) | exact ⟨by omega, by omega⟩) (by first | omega | decide | exact Nat.lt_of_le_of_lt Nat.and_le_right (by decide) | exact ⟨by omega, by omega⟩) (fun c => absurd c (by omega)) (fun c16 => ?_)
      refine wq_cN (m := 0) rfl rfl ?_
      refine wq_nret rfl (by decide) ?_
      have K' := K
      simp only [G_keep, ei, oq_s, oq_n, oq_c] at K'
      first | exact K' _ (lo_R (fr_refl xR σ)) (mi_k hMR hMT (fr_refl xR σ) (fg_refl yC g) hM) | (rw [if_pos (by omega)] at K'; exact K' _ (lo_R (fr_refl xR σ)) (mi_k hMR hMT (fr_refl xR σ) (fg_refl yC g) hM)) | (rw [if_neg (by omega)] at K'; exact K' _ (lo_R (fr_refl xR σ)) (mi_k hMR hMT (fr_refl xR σ) (fg_refl yC g) hM)) | (rw [if_neg (by omega), if_neg (by decide)] at K'; exact K' _ (lo_R (fr_refl xR σ)) (mi_k hMR hMT (fr_refl xR σ) (fg_refl yC g) hM))
  · skip
    refine wq_zeq rfl (by first | omega | decide | exact Nat.lt_of_le_of_lt Nat.and_le_right (by decide) | exact ⟨by omega, by omega⟩) (fun c3 => ?_) (fun c => absurd (show _ from by omega) c)
    refine wq_cN (m := 0) rfl rfl ?_
    refine wq_nret rfl (by decide) ?_
    have K' := K
    simp only [G_keep, ei, oq_s, oq_n, oq_c] at K'
    first | exact K' _ (lo_R (fr_refl xR σ)) (mi_k hMR hMT (fr_refl xR σ) (fg_refl yC g) hM) | (rw [if_pos (by omega)] at K'; exact K' _ (lo_R (fr_refl xR σ)) (mi_k hMR hMT (fr_refl xR σ) (fg_refl yC g) hM)) | (rw [if_neg (by omega)] at K'; exact K' _ (lo_R (fr_refl xR σ)) (mi_k hMR hMT (fr_refl xR σ) (fg_refl yC g) hM)) | (rw [if_neg (by omega), if_neg (by decide)] at K'; exact K' _ (lo_R (fr_refl xR σ)) (mi_k hMR hMT (fr_refl xR σ) (fg_refl yC g) hM))
theorem mg_hours {n : Nat} {A : Sy} (hn : n < 512) (hA : Aok n A) (a0 : Int32) : MOk ax_cd283 [.int a0] A (G_hours A a0).1 (G_hours A a0).2 := by
  intro xs d σ Q hI K
  obtain ⟨hPok, ⟨hok, hhr72, hzq, hsum⟩, hAH, hAZ, hAn, hAh, hTok, hAl⟩ := hA
  have hP' := hPok
  obtain ⟨hP1, hP2, hP3, hP4, hP5, hP6, hP7, hP8, hPv, hPm, hPo, hPw, hPl⟩ := hP'
  have hok' := hok
  obtain ⟨hot, hoh, hosc, hokp⟩ := hok'
  have hI0 := hI
  obtain ⟨L, g, hM, hMR, hMT⟩ := hI0
  have hN : NwIs σ (AS A) := hMR.1
  have hL2 := md_l2 hM
  obtain ⟨f3, h3, h3'⟩ := hMR.2.2.1
  show Wq xs (d + 12) ax_cd283 0 [(0, .ref 287), (1, .int a0)] [] σ Q
  refine wq_go rfl (fun _ => rfl) ?_
  refine wq_callS rfl (Nat.le_of_ble_eq_true rfl) rfl (Nat.le_of_ble_eq_true rfl) (Nat.le_of_ble_eq_true rfl) rfl rfl ?_
  refine m_isLong  (fun n ln qn en => ?_) (fun en => ?_)
  · subst qn
    refine wq_zne rfl (by first | omega | decide | exact Nat.lt_of_le_of_lt Nat.and_le_right (by decide) | exact ⟨by omega, by omega⟩) (fun c2 => ?_) (fun c => absurd (show _ from by omega) c)
    refine wq_go rfl (fun _ => rfl) ?_
    refine wq_zne rfl (by first | omega | decide | exact Nat.lt_of_le_of_lt Nat.and_le_right (by decide) | exact ⟨by omega, by omega⟩) (fun c6 => ?_) (fun c6 => ?_)
    · skip
      refine wq_go rfl (fun _ => rfl) ?_
      refine wq_callV rfl rfl (by first | rfl | assumption) (by first | decide | omega | assumption) (Nat.le_of_ble_eq_true rfl) (Nat.le_of_ble_eq_true rfl) rfl rfl ?_
      refine m_copies hM hN (fun σ6 g6 F6 G6 s6 t6 M6 R6 => ?_)
      have W6 : NwIs σ6 (AS A) := (F6 322 rfl).trans hN
      refine wq_go rfl (fun _ => rfl) ?_
      refine wq_go rfl (fun _ => rfl) ?_
      refine wq_callV rfl rfl (by first | rfl | assumption) (by first | decide | omega | assumption) (Nat.le_of_ble_eq_true rfl) (Nat.le_of_ble_eq_true rfl) rfl rfl ?_
      refine m_goes M6 hok R6 hzq (mo := 1) (by decide) t6 s6 (n := n) (by omega) (by omega) (fun σ7 g7 F7 G7 M7 R7 => ?_)
      have W7 : NwIs σ7 (AS A) := (F7 322 rfl).trans W6
      refine wq_go rfl (fun _ => rfl) ?_
      refine wq_callV rfl rfl (by first | rfl | assumption) (by first | decide | omega | assumption) (Nat.le_of_ble_eq_true rfl) (Nat.le_of_ble_eq_true rfl) rfl rfl ?_
      refine m_records (S' := goS (AP A) 1 (Psd (AP A)) (AS A) n) M7 R7 W7 (((fg_trans (fg_trans (fg_refl yC g) G6) (fg_mono G7 yB_C)) 57 rfl).trans hMR.2.1) hAn (((fr_trans (fr_trans (fr_refl xR σ) (fr_mono F6 xC_R)) F7) 325 rfl).trans h3) h3' (fun σ9 g9 f9 F9 G9 u9 M9 N9 e9 h9 => ?_)
      have I9 := mi_rec hMR hMT (fr_trans (fr_mono (fr_trans (fr_trans (fr_refl xR σ) (fr_mono F6 xC_R)) F7) xR_Q) (fr_mono F9 xU_Q)) (fg_trans (fg_mono (fg_trans (fg_trans (fg_refl yC g) G6) (fg_mono G7 yB_C)) yC_Q) (fg_mono G9 y57_Q)) M9 N9 u9 e9 h9
      have L9 := lo_Q (fr_trans (fr_mono (fr_trans (fr_trans (fr_refl xR σ) (fr_mono F6 xC_R)) F7) xR_Q) (fr_mono F9 xU_Q))
      refine wq_go rfl (fun _ => rfl) ?_
      refine wq_getf rfl (by first | rfl | assumption) (by first | decide | omega | assumption) (md_o M9) rfl ?_
      refine wq_cN (m := 59) rfl rfl ?_
      refine wq_ialdN rfl (by first | rfl | assumption) (by first | decide | omega | assumption) N9 rfl (by omega) (by first | decide | omega) ?_
      refine wq_top (congrArg nI ((rf_hr _).trans (go_hr _ _ _ _ _))) ?_
      refine wq_iret rfl ?_
      have K' := K
      simp only [G_hours, en, oq_s, oq_n, oq_c] at K'
      first | exact K' _ L9 I9 | (rw [if_pos (by omega)] at K'; exact K' _ L9 I9) | (rw [if_neg (by omega)] at K'; exact K' _ L9 I9)
    · skip
      refine wq_go rfl (fun _ => rfl) ?_
      refine wq_getf rfl (by first | rfl | assumption) (by first | decide | omega | assumption) (md_o hM) rfl ?_
      refine wq_cN (m := 59) rfl rfl ?_
      refine wq_ialdN rfl (by first | rfl | assumption) (by first | decide | omega | assumption) hN rfl (by omega) (by first | decide | omega) ?_
      refine wq_top (congrArg nI (rf_hr _)) ?_
      refine wq_iret rfl ?_
      have K' := K
      simp only [G_hours, en, oq_s, oq_n, oq_c] at K'
      first | exact K' _ (lo_R (fr_refl xR σ)) (mi_k hMR hMT (fr_refl xR σ) (fg_refl yC g) hM) | (rw [if_pos (by omega)] at K'; exact K' _ (lo_R (fr_refl xR σ)) (mi_k hMR hMT (fr_refl xR σ) (fg_refl yC g) hM)) | (rw [if_neg (by omega)] at K'; exact K' _ (lo_R (fr_refl xR σ)) (mi_k hMR hMT (fr_refl xR σ) (fg_refl yC g) hM))
  · skip
    refine wq_zne rfl (by first | omega | decide | exact Nat.lt_of_le_of_lt Nat.and_le_right (by decide) | exact ⟨by omega, by omega⟩) (fun c => absurd c (by omega)) (fun c2 => ?_)
    refine wq_go rfl (fun _ => rfl) ?_
    refine wq_iret rfl ?_
    have K' := K
    simp only [G_hours, en, oq_s, oq_n, oq_c] at K'
    first | exact K' _ (lo_R (fr_refl xR σ)) (mi_k hMR hMT (fr_refl xR σ) (fg_refl yC g) hM) | (rw [if_pos (by omega)] at K'; exact K' _ (lo_R (fr_refl xR σ)) (mi_k hMR hMT (fr_refl xR σ) (fg_refl yC g) hM)) | (rw [if_neg (by omega)] at K'; exact K' _ (lo_R (fr_refl xR σ)) (mi_k hMR hMT (fr_refl xR σ) (fg_refl yC g) hM))
theorem m_undo_l {xs : List Int32} {d : Nat} {σ : Nat → List Value} {Q : Option Value → (Nat → List Value) → Prop} {P : Pl} {L : Nat} {g f : Nat → Int32} {S' : St} {n : Nat} (hu : g 57 = nI n) (hn : n < 40) (h325 : σ 325 = arr 2440 f) (hf : ∀ k, k < 61 → f (61 * n + k) = nI (rowF S' k))  (K : ∀ σ', Fr x322 σ σ' → MD P L g σ' → NwIs σ' S' → Q (some (.int (nI 1))) σ') : ∀ (m u : Nat), m + u = 61 → ∀ σ1 fA, Fr x322 σ σ1 → MD P L g σ1 → σ1 322 = arr 61 fA → (∀ j, j < u → fA j = nI (rowF S' j)) → Wq xs (d + 0) ax_cd291 13 [(1, .int (nI u)), (0, .ref 287)] [] σ1 Q := by
  intro m
  induction m with
  | zero =>
    intro u hm σ1 fA hF1 hM1 h1 hA
    refine wq_go rfl (fun _ => rfl) ?_
    refine wq_cN (m := 61) rfl rfl ?_
    refine wq_cge rfl (by first | omega | decide | exact Nat.lt_of_le_of_lt Nat.and_le_right (by decide) | exact ⟨by omega, by omega⟩) (by first | omega | decide | exact Nat.lt_of_le_of_lt Nat.and_le_right (by decide) | exact ⟨by omega, by omega⟩) (fun c15 => ?_) (fun c => absurd (show _ from by omega) c)
    refine wq_cN (m := 1) rfl rfl ?_
    refine wq_nret rfl (by decide) ?_
    exact K σ1 hF1 hM1 (h1.trans (arr_row (fun j hj => hA j (by omega))))
  | succ m ih =>
    intro u hm σ1 fA hF1 hM1 h1 hA
    refine wq_go rfl (fun _ => rfl) ?_
    refine wq_cN (m := 61) rfl rfl ?_
    refine wq_cge rfl (by first | omega | decide | exact Nat.lt_of_le_of_lt Nat.and_le_right (by decide) | exact ⟨by omega, by omega⟩) (by first | omega | decide | exact Nat.lt_of_le_of_lt Nat.and_le_right (by decide) | exact ⟨by omega, by omega⟩) (fun c => absurd c (by omega)) (fun c15 => ?_)
    refine wq_go rfl (fun _ => rfl) ?_
    refine wq_getf rfl (by first | rfl | assumption) (by first | decide | omega | assumption) (md_o hM1) rfl ?_
    refine wq_go rfl (fun _ => rfl) ?_
    refine wq_go rfl (fun _ => rfl) ?_
    refine wq_getf rfl (by first | rfl | assumption) (by first | decide | omega | assumption) (md_o hM1) rfl ?_
    refine wq_cN (m := 61) rfl rfl ?_
    refine wq_go rfl (fun _ => rfl) ?_
    refine wq_getf rfl (by first | rfl | assumption) (by first | decide | omega | assumption) (md_o hM1) rfl ?_
    refine wq_top hu ?_
    refine wq_mulN rfl ?_
    refine wq_go rfl (fun _ => rfl) ?_
    refine wq_addN rfl ?_
    refine wq_iald rfl (by first | rfl | assumption) (by first | decide | omega | assumption) ((hF1 325 rfl).trans h325) rfl (by omega) (by first | decide | omega) ?_
    refine wq_iast rfl (by first | rfl | assumption) (by first | decide | omega | assumption) h1 rfl (by omega) (by first | decide | omega) ?_
    refine wq_incN rfl rfl rfl ?_
    refine wq_go rfl (fun _ => rfl) ?_
    exact ih (u + 1) (by omega) _ _ (fr_up hF1 rfl) (md_u322 hM1) (up_same _ _ _) (ga_s hA (hf u (by omega)))
theorem mg_undo {n : Nat} {A : Sy} (hn : n < 512) (hA : Aok n A) : MOk ax_cd291 [] A (G_undo A).1 (G_undo A).2 := by
  intro xs d σ Q hI K
  obtain ⟨hPok, ⟨hok, hhr72, hzq, hsum⟩, hAH, hAZ, hAn, hAh, hTok, hAl⟩ := hA
  have hP' := hPok
  obtain ⟨hP1, hP2, hP3, hP4, hP5, hP6, hP7, hP8, hPv, hPm, hPo, hPw, hPl⟩ := hP'
  have hok' := hok
  obtain ⟨hot, hoh, hosc, hokp⟩ := hok'
  have hI0 := hI
  obtain ⟨L, g, hM, hMR, hMT⟩ := hI0
  have hN : NwIs σ (AS A) := hMR.1
  have hL2 := md_l2 hM
  obtain ⟨f3, h3, h3'⟩ := hMR.2.2.1
  show Wq xs (d + 12) ax_cd291 0 [(0, .ref 287)] [] σ Q
  refine wq_go rfl (fun _ => rfl) ?_
  refine wq_getf rfl (by first | rfl | assumption) (by first | decide | omega | assumption) (md_o hM) rfl ?_
  refine wq_top hMR.2.1 ?_
  by_cases hz : An A = 0
  · skip
    refine wq_zne rfl (by first | omega | decide | exact Nat.lt_of_le_of_lt Nat.and_le_right (by decide) | exact ⟨by omega, by omega⟩) (fun c => absurd c (by omega)) (fun c2 => ?_)
    refine wq_cN (m := 0) rfl rfl ?_
    refine wq_nret rfl (by decide) ?_
    have K' := K
    simp only [G_undo, if_pos hz, oq_s, oq_n, oq_c] at K'
    exact K' _ (lo_R (fr_refl xR σ)) (mi_k hMR hMT (fr_refl xR σ) (fg_refl yC g) hM)
  · skip
    refine wq_zne rfl (by first | omega | decide | exact Nat.lt_of_le_of_lt Nat.and_le_right (by decide) | exact ⟨by omega, by omega⟩) (fun c2 => ?_) (fun c => absurd (show _ from by omega) c)
    refine wq_go rfl (fun _ => rfl) ?_
    refine wq_go rfl (fun _ => rfl) ?_
    refine wq_getf rfl (by first | rfl | assumption) (by first | decide | omega | assumption) (md_o hM) rfl ?_
    refine wq_top hMR.2.1 ?_
    refine wq_cN (m := 1) rfl rfl ?_
    refine wq_subN rfl (by omega) ?_
    refine wq_mput rfl (md_o hM) rfl rfl rfl rfl ?_
    refine wq_cN (m := 0) rfl rfl ?_
    refine wq_go rfl (fun _ => rfl) ?_
    exact wq_lv ⟨(by decide : ([1, 0] : List Nat).Nodup), (lvm (List.mem_of_getElem? (i := 0) rfl) (lvm (List.mem_of_getElem? (i := 1) rfl) lvn))⟩ (m_undo_l (g := upd g 57 (nI (An A - 1))) (n := An A - 1) rfl (by omega) ((up_ne _ _ (by decide)).trans h3) (h3' (An A - 1) (by omega)) (fun σ9 F9 M9 N9 => by
      have K' := K
      simp only [G_undo, if_neg hz] at K'
      have F8 : Fr xU σ σ9 := fr_trans (fr_up (fr_refl xU σ) rfl) (fr_mono F9 x322_U)
      exact K' _ (lo_Q (fr_mono F8 xU_Q)) (mi_S hMR hMT F8 ((F9 325 rfl).trans (up_ne _ _ (by decide))) (fg_up (fg_refl yQ g) rfl) M9 N9 rfl (by omega))) 61 0 rfl _ _ (fr_refl _ _) (md_u287 hM rfl) ((up_ne _ _ (by decide)).trans (md_c322 hM)) ga_0)
theorem m_res_l {xs : List Int32} {d : Nat} {σ : Nat → List Value} {Q : Option Value → (Nat → List Value) → Prop} {P : Pl} {L : Nat} {g f : Nat → Int32} {S' : St} {s : Nat} (hs : s < 3) (h330 : σ 330 = arr 183 f) (hf : ∀ k, k < 61 → f (61 * s + k) = nI (rowF S' k))  (K : ∀ σ', Fr xU σ σ' → σ' 325 = σ 325 → MD P L (upd g 57 (nI 0)) σ' → NwIs σ' S' → Q (some (.int (nI 1))) σ') : ∀ (m u : Nat), m + u = 61 → ∀ σ1 fA, Fr x322 σ σ1 → MD P L g σ1 → σ1 322 = arr 61 fA → (∀ j, j < u → fA j = nI (rowF S' j)) → Wq xs (d + 0) ax_cd332 14 [(2, .int (nI u)), (0, .ref 287), (1, .int (nI s))] [] σ1 Q := by
  intro m
  induction m with
  | zero =>
    intro u hm σ1 fA hF1 hM1 h1 hA
    refine wq_go rfl (fun _ => rfl) ?_
    refine wq_cN (m := 61) rfl rfl ?_
    refine wq_cge rfl (by first | omega | decide | exact Nat.lt_of_le_of_lt Nat.and_le_right (by decide) | exact ⟨by omega, by omega⟩) (by first | omega | decide | exact Nat.lt_of_le_of_lt Nat.and_le_right (by decide) | exact ⟨by omega, by omega⟩) (fun c16 => ?_) (fun c => absurd (show _ from by omega) c)
    refine wq_go rfl (fun _ => rfl) ?_
    refine wq_cN (m := 0) rfl rfl ?_
    refine wq_mput rfl (md_o hM1) rfl rfl rfl rfl ?_
    refine wq_cN (m := 1) rfl rfl ?_
    refine wq_nret rfl (by decide) ?_
    exact K _ (fr_up (fr_mono hF1 x322_U) rfl) ((up_ne _ _ (by decide)).trans (hF1 325 rfl)) (md_u287 hM1 rfl) ((up_ne _ _ (by decide)).trans (h1.trans (arr_row (fun j hj => hA j (by omega)))))
  | succ m ih =>
    intro u hm σ1 fA hF1 hM1 h1 hA
    refine wq_go rfl (fun _ => rfl) ?_
    refine wq_cN (m := 61) rfl rfl ?_
    refine wq_cge rfl (by first | omega | decide | exact Nat.lt_of_le_of_lt Nat.and_le_right (by decide) | exact ⟨by omega, by omega⟩) (by first | omega | decide | exact Nat.lt_of_le_of_lt Nat.and_le_right (by decide) | exact ⟨by omega, by omega⟩) (fun c => absurd c (by omega)) (fun c16 => ?_)
    refine wq_go rfl (fun _ => rfl) ?_
    refine wq_getf rfl (by first | rfl | assumption) (by first | decide | omega | assumption) (md_o hM1) rfl ?_
    refine wq_go rfl (fun _ => rfl) ?_
    refine wq_go rfl (fun _ => rfl) ?_
    refine wq_getf rfl (by first | rfl | assumption) (by first | decide | omega | assumption) (md_o hM1) rfl ?_
    refine wq_cN (m := 61) rfl rfl ?_
    refine wq_go rfl (fun _ => rfl) ?_
    refine wq_mulN rfl ?_
    refine wq_go rfl (fun _ => rfl) ?_
    refine wq_addN rfl ?_
    refine wq_iald rfl (by first | rfl | assumption) (by first | decide | omega | assumption) ((hF1 330 rfl).trans h330) rfl (by omega) (by first | decide | omega) ?_
    refine wq_iast rfl (by first | rfl | assumption) (by first | decide | omega | assumption) h1 rfl (by omega) (by first | decide | omega) ?_
    refine wq_incN rfl rfl rfl ?_
    refine wq_go rfl (fun _ => rfl) ?_
    exact ih (u + 1) (by omega) _ _ (fr_up hF1 rfl) (md_u322 hM1) (up_same _ _ _) (ga_s hA (hf u (by omega)))
theorem mg_restore {n : Nat} {A : Sy} (hn : n < 512) (hA : Aok n A) (a0 : Int32) : MOk ax_cd332 [.int a0] A (G_restore A a0).1 (G_restore A a0).2 := by
  intro xs d σ Q hI K
  obtain ⟨hPok, ⟨hok, hhr72, hzq, hsum⟩, hAH, hAZ, hAn, hAh, hTok, hAl⟩ := hA
  have hP' := hPok
  obtain ⟨hP1, hP2, hP3, hP4, hP5, hP6, hP7, hP8, hPv, hPm, hPo, hPw, hPl⟩ := hP'
  have hok' := hok
  obtain ⟨hot, hoh, hosc, hokp⟩ := hok'
  have hI0 := hI
  obtain ⟨L, g, hM, hMR, hMT⟩ := hI0
  have hN : NwIs σ (AS A) := hMR.1
  have hL2 := md_l2 hM
  obtain ⟨f3, h3, h3'⟩ := hMR.2.2.1
  obtain ⟨f9, h9, h9'⟩ := hMR.2.2.2.2.2.2.2.2.1
  show Wq xs (d + 12) ax_cd332 0 [(0, .ref 287), (1, .int a0)] [] σ Q
  refine wq_go rfl (fun _ => rfl) ?_
  refine wq_cN (m := 0) rfl rfl ?_
  refine wq_cN (m := 2) rfl rfl ?_
  refine wq_callS rfl (Nat.le_of_ble_eq_true rfl) rfl (Nat.le_of_ble_eq_true rfl) (Nat.le_of_ble_eq_true rfl) rfl rfl ?_
  refine m_in (n := 3) (by decide) (fun s ls qs es => ?_) (fun es => ?_)
  · subst qs
    refine wq_zeq rfl (by first | omega | decide | exact Nat.lt_of_le_of_lt Nat.and_le_right (by decide) | exact ⟨by omega, by omega⟩) (fun c => absurd c (by omega)) (fun c4 => ?_)
    refine wq_go rfl (fun _ => rfl) ?_
    refine wq_getf rfl (by first | rfl | assumption) (by first | decide | omega | assumption) (md_o hM) rfl ?_
    refine wq_go rfl (fun _ => rfl) ?_
    refine wq_baldN rfl (by first | rfl | assumption) (Or.inr rfl) (by first | decide | omega | assumption) hMR.2.2.2.2.2.2.2.1 rfl (by omega) (by first | decide | omega) ?_
    have hb1 := bitN_le (Ah A) s
    refine wq_zne rfl (by first | omega | decide | exact Nat.lt_of_le_of_lt Nat.and_le_right (by decide) | exact ⟨by omega, by omega⟩) (fun c9 => ?_) (fun c9 => ?_)
    · skip
      refine wq_cN (m := 0) rfl rfl ?_
      refine wq_go rfl (fun _ => rfl) ?_
      have htb : (Ah A).testBit s = true := by
        have hb1 := bitN_le (Ah A) s
        exact bitN_1 (by omega)
      exact wq_lv ⟨(by decide : ([2, 0, 1] : List Nat).Nodup), (lvm (List.mem_of_getElem? (i := 0) rfl) (lvm (List.mem_of_getElem? (i := 1) rfl) (lvm (List.mem_of_getElem? (i := 2) rfl) lvn)))⟩ (m_res_l ls h9 (h9' s ls htb) (fun σ9 F9 e9 M9 N9 => by
        have K' := K
        simp only [G_restore, es, oq_s, if_pos htb] at K'
        exact K' _ (lo_Q (fr_mono F9 xU_Q)) (mi_S hMR hMT F9 e9 (fg_up (fg_refl yQ g) rfl) M9 N9 rfl (Nat.zero_le _))) 61 0 rfl _ _ (fr_refl _ _) hM (md_c322 hM) ga_0)
    · skip
      refine wq_cN (m := 0) rfl rfl ?_
      refine wq_nret rfl (by decide) ?_
      have K' := K
      simp only [G_restore, es, oq_s, oq_n, oq_c] at K'
      first | exact K' _ (lo_R (fr_refl xR σ)) (mi_k hMR hMT (fr_refl xR σ) (fg_refl yC g) hM) | (rw [if_neg (fun e => by rw [bitN_0 (by omega)] at e; cases e)] at K'; exact K' _ (lo_R (fr_refl xR σ)) (mi_k hMR hMT (fr_refl xR σ) (fg_refl yC g) hM))
  · skip
    refine wq_zeq rfl (by first | omega | decide | exact Nat.lt_of_le_of_lt Nat.and_le_right (by decide) | exact ⟨by omega, by omega⟩) (fun c4 => ?_) (fun c => absurd (show _ from by omega) c)
    refine wq_cN (m := 0) rfl rfl ?_
    refine wq_nret rfl (by decide) ?_
    have K' := K
    simp only [G_restore, es, oq_s, oq_n, oq_c] at K'
    first | exact K' _ (lo_R (fr_refl xR σ)) (mi_k hMR hMT (fr_refl xR σ) (fg_refl yC g) hM) | (rw [if_neg (fun e => by rw [bitN_0 (by omega)] at e; cases e)] at K'; exact K' _ (lo_R (fr_refl xR σ)) (mi_k hMR hMT (fr_refl xR σ) (fg_refl yC g) hM))
def x9 : Nat → Bool := fun j => j == 329 || j == 330
def x330 : Nat → Bool := fun j => j == 330
theorem mi_hold {A : Sy} {g : Nat → Int32} {L s : Nat} {σ σ' : Nat → List Value} {f' f : Nat → Int32} (hR : MR A g σ) (hT : MT (AP A) L σ) (hs : s < 3) (hh8 : Ah A < 8) (hF : Fr x9 σ σ') (hM : MD (AP A) L g σ') (e9 : σ' 329 = arrN 3 (updN (bitN (Ah A)) s 1)) (e0 : σ 330 = arr 183 f) (e : σ' 330 = arr 183 f') (ha : ∀ j, j < 183 → ¬ (61 * s ≤ j ∧ j < 61 * s + 61) → f' j = f j) (hb : ∀ k, k < 61 → f' (61 * s + k) = nI (rowF (AS A) k)) : MI (holdA A s) σ' := by
  obtain ⟨h1, h2, ⟨f3, h3, h3'⟩, h4, ⟨f5, h5, h5'⟩, ⟨f6, h6, h6'⟩, ⟨f7, h7, h7'⟩, h8, ⟨f9, h9, h9'⟩, h10, h11, ⟨f12, h12, h12'⟩⟩ := hR
  have o : ∀ j, j < 329 → σ' j = σ j := fun j hj => hF j (by
    have a1 : (j == 329) = false := by simp; omega
    have a2 : (j == 330) = false := by simp; omega
    simp only [x9, a1, a2, Bool.or_false])
  refine ⟨L, g, hM, ⟨(o 322 (by omega)).trans h1, h2, ⟨f3, (o 325 (by omega)).trans h3, h3'⟩, h4, ⟨f5, (o 326 (by omega)).trans h5, h5'⟩, ⟨f6, (o 327 (by omega)).trans h6, h6'⟩, ⟨f7, (o 328 (by omega)).trans h7, h7'⟩, ?_, ⟨f', e, fun i hi hbt k hk => ?_⟩, h10, h11, ⟨f12, (o 288 (by omega)).trans h12, h12'⟩⟩, mt_eq hT (fun j hj => o j (by omega))⟩
  · rw [e9]
    apply arrN_congr
    intro j hj
    show updN (bitN (Ah A)) s 1 j = bitN (Ah A ||| 2 ^ s) j
    rw [bitN_or]
    rfl
  · show f' (61 * i + k) = nI (rowF (if i = s then AS A else AZ A i) k)
    by_cases q : i = s
    · subst q
      rw [if_pos rfl]
      exact hb k hk
    · rw [if_neg q, ha _ (by omega) (by omega)]
      have hbt : (Ah A ||| 2 ^ s).testBit i = true := hbt
      rw [or_tb, decide_eq_false q, Bool.or_false] at hbt
      have : arr 183 f = arr 183 f9 := e0.symm.trans h9
      have e7 := arr_get f (show 61 * i + k < 183 by omega)
      rw [this, arr_get f9 (show 61 * i + k < 183 by omega)] at e7
      simp only [Option.some.injEq, Value.int.injEq] at e7
      rw [← e7]
      exact h9' i hi hbt k hk
theorem m_hold_l {xs : List Int32} {d : Nat} {σ : Nat → List Value} {Q : Option Value → (Nat → List Value) → Prop} {P : Pl} {L : Nat} {g f : Nat → Int32} {S : St} {s : Nat} (hs : s < 3) (hN : NwIs σ S)  (K : ∀ σ' f', Fr x330 σ σ' → MD P L g σ' → σ' 330 = arr 183 f' → (∀ j, j < 183 → ¬ (61 * s ≤ j ∧ j < 61 * s + 61) → f' j = f j) → (∀ k, k < 61 → f' (61 * s + k) = nI (rowF S k)) → Q (some (.int (nI 1))) σ') : ∀ (m u : Nat), m + u = 61 → ∀ σ1 fA, Fr x330 σ σ1 → MD P L g σ1 → σ1 330 = arr 183 fA → (∀ j, j < 183 → ¬ (61 * s ≤ j ∧ j < 61 * s + 61) → fA j = f j) → (∀ k, k < u → fA (61 * s + k) = nI (rowF S k)) → Wq xs (d + 0) ax_cd331 14 [(2, .int (nI u)), (0, .ref 287), (1, .int (nI s))] [] σ1 Q := by
  intro m
  induction m with
  | zero =>
    intro u hm σ1 fA hF1 hM1 h1 hA hB
    refine wq_go rfl (fun _ => rfl) ?_
    refine wq_cN (m := 61) rfl rfl ?_
    refine wq_cge rfl (by first | omega | decide | exact Nat.lt_of_le_of_lt Nat.and_le_right (by decide) | exact ⟨by omega, by omega⟩) (by first | omega | decide | exact Nat.lt_of_le_of_lt Nat.and_le_right (by decide) | exact ⟨by omega, by omega⟩) (fun c16 => ?_) (fun c => absurd (show _ from by omega) c)
    refine wq_cN (m := 1) rfl rfl ?_
    refine wq_nret rfl (by decide) ?_
    exact K σ1 fA hF1 hM1 h1 hA (fun k hk => hB k (by omega))
  | succ m ih =>
    intro u hm σ1 fA hF1 hM1 h1 hA hB
    refine wq_go rfl (fun _ => rfl) ?_
    refine wq_cN (m := 61) rfl rfl ?_
    refine wq_cge rfl (by first | omega | decide | exact Nat.lt_of_le_of_lt Nat.and_le_right (by decide) | exact ⟨by omega, by omega⟩) (by first | omega | decide | exact Nat.lt_of_le_of_lt Nat.and_le_right (by decide) | exact ⟨by omega, by omega⟩) (fun c => absurd c (by omega)) (fun c16 => ?_)
    refine wq_go rfl (fun _ => rfl) ?_
    refine wq_getf rfl (by first | rfl | assumption) (by first | decide | omega | assumption) (md_o hM1) rfl ?_
    refine wq_cN (m := 61) rfl rfl ?_
    refine wq_go rfl (fun _ => rfl) ?_
    refine wq_mulN rfl ?_
    refine wq_go rfl (fun _ => rfl) ?_
    refine wq_addN rfl ?_
    refine wq_go rfl (fun _ => rfl) ?_
    refine wq_getf rfl (by first | rfl | assumption) (by first | decide | omega | assumption) (md_o hM1) rfl ?_
    refine wq_go rfl (fun _ => rfl) ?_
    refine wq_ialdN rfl (by first | rfl | assumption) (by first | decide | omega | assumption) ((hF1 322 rfl).trans hN) rfl (by omega) (by first | decide | omega) ?_
    refine wq_iast rfl (by first | rfl | assumption) (by first | decide | omega | assumption) h1 rfl (by omega) (by first | decide | omega) ?_
    refine wq_incN rfl rfl rfl ?_
    refine wq_go rfl (fun _ => rfl) ?_
    exact ih (u + 1) (by omega) _ _ (fr_up hF1 rfl) (md_o5 hM1 (by decide)) (up_same _ _ _) (fun j hj hq => by simp only [upd]; rw [if_neg (by omega)]; exact hA j hj hq) (fun k hk => by
      by_cases q : k = u
      · subst q; simp only [upd, if_true]
      · simp only [upd]; rw [if_neg (by omega)]; exact hB k (by omega))
theorem mg_hold {n : Nat} {A : Sy} (hn : n < 512) (hA : Aok n A) (a0 : Int32) : MOk ax_cd331 [.int a0] A (G_hold A a0).1 (G_hold A a0).2 := by
  intro xs d σ Q hI K
  obtain ⟨hPok, ⟨hok, hhr72, hzq, hsum⟩, hAH, hAZ, hAn, hAh, hTok, hAl⟩ := hA
  have hP' := hPok
  obtain ⟨hP1, hP2, hP3, hP4, hP5, hP6, hP7, hP8, hPv, hPm, hPo, hPw, hPl⟩ := hP'
  have hok' := hok
  obtain ⟨hot, hoh, hosc, hokp⟩ := hok'
  have hI0 := hI
  obtain ⟨L, g, hM, hMR, hMT⟩ := hI0
  have hN : NwIs σ (AS A) := hMR.1
  have hL2 := md_l2 hM
  obtain ⟨f3, h3, h3'⟩ := hMR.2.2.1
  obtain ⟨f9, h9, h9'⟩ := hMR.2.2.2.2.2.2.2.2.1
  show Wq xs (d + 12) ax_cd331 0 [(0, .ref 287), (1, .int a0)] [] σ Q
  refine wq_go rfl (fun _ => rfl) ?_
  refine wq_cN (m := 0) rfl rfl ?_
  refine wq_cN (m := 2) rfl rfl ?_
  refine wq_callS rfl (Nat.le_of_ble_eq_true rfl) rfl (Nat.le_of_ble_eq_true rfl) (Nat.le_of_ble_eq_true rfl) rfl rfl ?_
  refine m_in (n := 3) (by decide) (fun s ls qs es => ?_) (fun es => ?_)
  · subst qs
    refine wq_zne rfl (by first | omega | decide | exact Nat.lt_of_le_of_lt Nat.and_le_right (by decide) | exact ⟨by omega, by omega⟩) (fun c4 => ?_) (fun c => absurd (show _ from by omega) c)
    refine wq_go rfl (fun _ => rfl) ?_
    refine wq_getf rfl (by first | rfl | assumption) (by first | decide | omega | assumption) (md_o hM) rfl ?_
    refine wq_go rfl (fun _ => rfl) ?_
    refine wq_cN (m := 1) rfl rfl ?_
    refine wq_bastN rfl (by first | rfl | assumption) (Or.inr rfl) (by first | decide | omega | assumption) hMR.2.2.2.2.2.2.2.1 (by decide) rfl (by omega) (by first | decide | omega) ?_
    refine wq_cN (m := 0) rfl rfl ?_
    refine wq_go rfl (fun _ => rfl) ?_
    exact wq_lv ⟨(by decide : ([2, 0, 1] : List Nat).Nodup), (lvm (List.mem_of_getElem? (i := 0) rfl) (lvm (List.mem_of_getElem? (i := 1) rfl) (lvm (List.mem_of_getElem? (i := 2) rfl) lvn)))⟩ (m_hold_l (f := f9) (g := g) ls ((up_ne _ _ (by decide)).trans hN) (fun σ9 f8 F9 M9 e9 a9 b9 => by
      have K' := K
      simp only [G_hold, es, oq_s] at K'
      have F8 : Fr x9 σ σ9 := fr_trans (fr_up (fr_refl x9 σ) rfl) (fr_mono F9 (fun j hj => by simp only [x330] at hj; simp only [x9, hj, Bool.or_true]))
      exact K' _ (lo_fr F8 (fun j hj => by
        have a1 : (j == 329) = false := by simp; omega
        have a2 : (j == 330) = false := by simp; omega
        simp only [x9, a1, a2, Bool.or_false])) (mi_hold hMR hMT ls hAh F8 M9 ((F9 329 rfl).trans (up_same _ _ _)) h9 e9 a9 b9)) 61 0 rfl _ _ (fr_refl _ _) (md_o5 hM (by decide)) ((up_ne _ _ (by decide)).trans h9) (fun _ _ _ => rfl) (fun k hk => absurd hk (by omega)))
  · skip
    refine wq_zne rfl (by first | omega | decide | exact Nat.lt_of_le_of_lt Nat.and_le_right (by decide) | exact ⟨by omega, by omega⟩) (fun c => absurd c (by omega)) (fun c4 => ?_)
    refine wq_cN (m := 0) rfl rfl ?_
    refine wq_nret rfl (by decide) ?_
    have K' := K
    simp only [G_hold, es, oq_s, oq_n, oq_c] at K'
    exact K' _ (lo_R (fr_refl xR σ)) (mi_k hMR hMT (fr_refl xR σ) (fg_refl yC g) hM)
def xTd : Nat → Bool := fun j => j == 287 || j == 326 || j == 327 || j == 328
def y59 : Nat → Bool := fun b => b == 59
theorem xTd_lo {j : Nat} (h : (j < 326 ∧ ¬ j = 287) ∨ 329 ≤ j) : xTd j = false := by
  have a1 : (j == 287) = false := by simp; omega
  have a2 : (j == 326) = false := by simp; omega
  have a3 : (j == 327) = false := by simp; omega
  have a4 : (j == 328) = false := by simp; omega
  simp only [xTd, a1, a2, a3, a4, Bool.or_false]
theorem mi_told {A : Sy} {g g' : Nat → Int32} {L : Nat} {σ σ' : Nat → List Value} {T : Tl} (hR : MR A g σ) (hT : MT (AP A) L σ) (hF : Fr xTd σ σ') (hG : FrG y59 g g') (hM : MD (AP A) L g' σ') (h59 : g' 59 = nI (Tn T)) (h6 : ∃ f, σ' 326 = arr 20 f ∧ ∀ j, j < Tn T → f j = nI (4 * Tc T j + Tt T j)) (h7 : ∃ f, σ' 327 = arr 20 f ∧ ∀ j, j < Tn T → f j = nI (Ta T j)) (h8 : ∃ f, σ' 328 = arr 20 f ∧ ∀ j, j < Tn T → f j = nI (Ts T j)) : MI (setAT A T) σ' := by
  obtain ⟨h1, h2, ⟨f3, h3, h3'⟩, _, _, _, _, h8', ⟨f9, h9, h9'⟩, h10, h11, ⟨f12, h12, h12'⟩⟩ := hR
  have o : ∀ j, (j < 326 ∧ ¬ j = 287) ∨ 329 ≤ j → σ' j = σ j := fun j hj => hF j (xTd_lo hj)
  exact ⟨L, g', hM, ⟨(o 322 (by omega)).trans h1, (hG 57 rfl).trans h2, ⟨f3, (o 325 (by omega)).trans h3, h3'⟩, h59, h6, h7, h8, (o 329 (by omega)).trans h8', ⟨f9, (o 330 (by omega)).trans h9, h9'⟩, (hG 17 rfl).trans h10, (hG 2 rfl).trans h11, ⟨f12, (o 288 (by omega)).trans h12, h12'⟩⟩, mt_eq hT (fun j hj => o j (by omega))⟩
theorem told_s {f : Nat → Int32} {F : Nat → Nat} {n x : Nat} (h : ∀ j, j < n → f j = nI (F j)) : ∀ j, j < n + 1 → upd f n (nI x) j = nI (updN F n x j) := by
  intro j hj
  by_cases q : j = n
  · subst q; simp [upd, updN]
  · simp only [upd, updN]
    rw [if_neg q, if_neg q]
    exact h j (by omega)
theorem mg_tell0 {n : Nat} {A : Sy} (hn : n < 512) (hA : Aok n A) (a0 a1 a2 : Int32) : MOk ax_cd324 [.int a0, .int a1, .int a2, .int (nI 0)] A (G_tell A a0 a1 a2 0).1 (G_tell A a0 a1 a2 0).2 := by
  intro xs d σ Q hI K
  obtain ⟨hPok, ⟨hok, hhr72, hzq, hsum⟩, hAH, hAZ, hAn, hAh, hTok, hAl⟩ := hA
  have hP' := hPok
  obtain ⟨hP1, hP2, hP3, hP4, hP5, hP6, hP7, hP8, hPv, hPm, hPo, hPw, hPl⟩ := hP'
  have hok' := hok
  obtain ⟨hot, hoh, hosc, hokp⟩ := hok'
  have hI0 := hI
  obtain ⟨L, g, hM, hMR, hMT⟩ := hI0
  have hN : NwIs σ (AS A) := hMR.1
  have hL2 := md_l2 hM
  obtain ⟨f3, h3, h3'⟩ := hMR.2.2.1
  have hTn := hTok.1
  obtain ⟨f6, h326, h6⟩ := hMR.2.2.2.2.1
  obtain ⟨f7, h327, h7⟩ := hMR.2.2.2.2.2.1
  obtain ⟨f8, h328, h8⟩ := hMR.2.2.2.2.2.2.1
  show Wq xs (d + 12) ax_cd324 0 [(0, .ref 287), (1, .int a0), (2, .int a1), (3, .int a2), (4, .int (nI 0))] [] σ Q
  refine wq_go rfl (fun _ => rfl) ?_
  refine wq_getf rfl (by first | rfl | assumption) (by first | decide | omega | assumption) (md_o hM) rfl ?_
  refine wq_top hMR.2.2.2.1 ?_
  refine wq_cN (m := 20) rfl rfl ?_
  by_cases hz : Tn (AT A) = 20
  · skip
    refine wq_ceq rfl (by first | omega | decide | exact Nat.lt_of_le_of_lt Nat.and_le_right (by decide) | exact ⟨by omega, by omega⟩) (by first | omega | decide | exact Nat.lt_of_le_of_lt Nat.and_le_right (by decide) | exact ⟨by omega, by omega⟩) (fun c3 => ?_) (fun c => absurd (show _ from by omega) c)
    refine wq_go rfl (fun _ => rfl) ?_
    refine wq_iret rfl ?_
    have K' := K
    simp only [G_tell, oq_s, oq_n, oq_c, if_pos hz] at K'
    exact K' _ (fun _ _ => rfl) hI
  · skip
    refine wq_ceq rfl (by first | omega | decide | exact Nat.lt_of_le_of_lt Nat.and_le_right (by decide) | exact ⟨by omega, by omega⟩) (by first | omega | decide | exact Nat.lt_of_le_of_lt Nat.and_le_right (by decide) | exact ⟨by omega, by omega⟩) (fun c => absurd c (by omega)) (fun c3 => ?_)
    refine wq_go rfl (fun _ => rfl) ?_
    refine wq_go rfl (fun _ => rfl) ?_
    refine wq_callV rfl rfl (by first | rfl | assumption) (by first | decide | omega | assumption) (Nat.le_of_ble_eq_true rfl) (Nat.le_of_ble_eq_true rfl) rfl rfl ?_
    refine m_isChair hM (fun c lc qc ec => ?_) (fun ec => ?_)
    · subst qc
      refine wq_zeq rfl (by first | omega | decide | exact Nat.lt_of_le_of_lt Nat.and_le_right (by decide) | exact ⟨by omega, by omega⟩) (fun c => absurd c (by omega)) (fun c7 => ?_)
      refine wq_go rfl (fun _ => rfl) ?_
      refine wq_callS rfl (Nat.le_of_ble_eq_true rfl) rfl (Nat.le_of_ble_eq_true rfl) (Nat.le_of_ble_eq_true rfl) rfl rfl ?_
      refine m_isThought  (fun t lt qt et => ?_) (fun et => ?_)
      · subst qt
        refine wq_zeq rfl (by first | omega | decide | exact Nat.lt_of_le_of_lt Nat.and_le_right (by decide) | exact ⟨by omega, by omega⟩) (fun c => absurd c (by omega)) (fun c10 => ?_)
        refine wq_go rfl (fun _ => rfl) ?_
        refine wq_cN (m := 0) rfl rfl ?_
        refine wq_cN (m := 999) rfl rfl ?_
        refine wq_callS rfl (Nat.le_of_ble_eq_true rfl) rfl (Nat.le_of_ble_eq_true rfl) (Nat.le_of_ble_eq_true rfl) rfl rfl ?_
        refine m_in (n := 1000) (by decide) (fun w lw qw ew => ?_) (fun ew => ?_)
        · subst qw
          refine wq_zne rfl (by first | omega | decide | exact Nat.lt_of_le_of_lt Nat.and_le_right (by decide) | exact ⟨by omega, by omega⟩) (fun c15 => ?_) (fun c => absurd (show _ from by omega) c)
          refine wq_go rfl (fun _ => rfl) ?_
          refine wq_getf rfl (by first | rfl | assumption) (by first | decide | omega | assumption) (md_o hM) rfl ?_
          refine wq_go rfl (fun _ => rfl) ?_
          refine wq_getf rfl (by first | rfl | assumption) (by first | decide | omega | assumption) (md_o hM) rfl ?_
          refine wq_top hMR.2.2.2.1 ?_
          refine wq_cN (m := 4) rfl rfl ?_
          refine wq_go rfl (fun _ => rfl) ?_
          refine wq_mulN rfl ?_
          refine wq_go rfl (fun _ => rfl) ?_
          refine wq_addN rfl ?_
          refine wq_iast rfl (by first | rfl | assumption) (by first | decide | omega | assumption) h326 rfl (by omega) (by first | decide | omega) ?_
          refine wq_go rfl (fun _ => rfl) ?_
          refine wq_getf rfl (by first | rfl | assumption) (by first | decide | omega | assumption) ((up_ne _ _ (by decide)).trans (md_o hM)) rfl ?_
          refine wq_go rfl (fun _ => rfl) ?_
          refine wq_getf rfl (by first | rfl | assumption) (by first | decide | omega | assumption) ((up_ne _ _ (by decide)).trans (md_o hM)) rfl ?_
          refine wq_top hMR.2.2.2.1 ?_
          refine wq_go rfl (fun _ => rfl) ?_
          refine wq_iast rfl (by first | rfl | assumption) (by first | decide | omega | assumption) ((up_ne _ _ (by decide)).trans h327) rfl (by omega) (by first | decide | omega) ?_
          refine wq_go rfl (fun _ => rfl) ?_
          refine wq_getf rfl (by first | rfl | assumption) (by first | decide | omega | assumption) ((up_ne _ _ (by decide)).trans ((up_ne _ _ (by decide)).trans (md_o hM))) rfl ?_
          refine wq_go rfl (fun _ => rfl) ?_
          refine wq_getf rfl (by first | rfl | assumption) (by first | decide | omega | assumption) ((up_ne _ _ (by decide)).trans ((up_ne _ _ (by decide)).trans (md_o hM))) rfl ?_
          refine wq_top hMR.2.2.2.1 ?_
          refine wq_go rfl (fun _ => rfl) ?_
          refine wq_bast rfl (by first | rfl | assumption) (Or.inr rfl) (by first | decide | omega | assumption) ((up_ne _ _ (by decide)).trans ((up_ne _ _ (by decide)).trans h328)) rfl (by omega) (by first | decide | omega) ?_
          rw [nar_b (show 0 < 2 by decide)]
          refine wq_go rfl (fun _ => rfl) ?_
          refine wq_go rfl (fun _ => rfl) ?_
          refine wq_getf rfl (by first | rfl | assumption) (by first | decide | omega | assumption) ((up_ne _ _ (by decide)).trans ((up_ne _ _ (by decide)).trans ((up_ne _ _ (by decide)).trans (md_o hM)))) rfl ?_
          refine wq_top hMR.2.2.2.1 ?_
          refine wq_cN (m := 1) rfl rfl ?_
          refine wq_addN rfl ?_
          refine wq_mput rfl ((up_ne _ _ (by decide)).trans ((up_ne _ _ (by decide)).trans ((up_ne _ _ (by decide)).trans (md_o hM)))) rfl rfl rfl rfl ?_
          refine wq_go rfl (fun _ => rfl) ?_
          refine wq_getf rfl (by first | rfl | assumption) (by first | decide | omega | assumption) (up_same _ _ _) rfl ?_
          refine wq_cN (m := 1) rfl rfl ?_
          refine wq_subN rfl (by omega) ?_
          refine wq_iret rfl ?_
          have K' := K
          simp only [G_tell, ec, et, ew, oq_s, oq_n, oq_c, if_neg hz] at K'
          refine ansQ (K' _ (lo_fr (fr_up (fr_up (fr_up (fr_up (fr_refl xTd σ) rfl) rfl) rfl) rfl) (fun j hj => xTd_lo (by omega))) (mi_told hMR hMT (fr_up (fr_up (fr_up (fr_up (fr_refl xTd σ) rfl) rfl) rfl) rfl) (fg_up (fg_refl y59 g) rfl) (md_u287 (md_o5 (md_o5 (md_o5 hM (by decide)) (by decide)) (by decide)) rfl) rfl ⟨_, ((up_ne _ _ (by decide)).trans ((up_ne _ _ (by decide)).trans ((up_ne _ _ (by decide)).trans (up_same _ _ _)))), ?_⟩ ⟨_, ((up_ne _ _ (by decide)).trans ((up_ne _ _ (by decide)).trans (up_same _ _ _))), ?_⟩ ⟨_, ((up_ne _ _ (by decide)).trans (up_same _ _ _)), ?_⟩)) (congrArg nI (by omega))
          · intro j hj
            have hj : j < Tn (AT A) + 1 := hj
            show upd f6 (Tn (AT A)) (nI (4 * c + t)) j = nI (4 * updN (Tc (AT A)) (Tn (AT A)) c j + updN (Tt (AT A)) (Tn (AT A)) t j)
            by_cases q : j = Tn (AT A)
            · rw [q, updN_same, updN_same]; simp [upd]
            · rw [updN_ne _ _ q, updN_ne _ _ q]; simp only [upd]; rw [if_neg q]; exact h6 j (by omega)
          · exact told_s h7
          · exact told_s h8
        · skip
          refine wq_zne rfl (by first | omega | decide | exact Nat.lt_of_le_of_lt Nat.and_le_right (by decide) | exact ⟨by omega, by omega⟩) (fun c => absurd c (by omega)) (fun c15 => ?_)
          refine wq_go rfl (fun _ => rfl) ?_
          refine wq_iret rfl ?_
          have K' := K
          simp only [G_tell, ec, et, ew, oq_s, oq_n, oq_c, if_neg hz] at K'
          exact K' _ (fun _ _ => rfl) hI
      · skip
        refine wq_zeq rfl (by first | omega | decide | exact Nat.lt_of_le_of_lt Nat.and_le_right (by decide) | exact ⟨by omega, by omega⟩) (fun c10 => ?_) (fun c => absurd (show _ from by omega) c)
        refine wq_go rfl (fun _ => rfl) ?_
        refine wq_iret rfl ?_
        have K' := K
        simp only [G_tell, ec, et, oq_s, oq_n, oq_c, if_neg hz] at K'
        exact K' _ (fun _ _ => rfl) hI
    · skip
      refine wq_zeq rfl (by first | omega | decide | exact Nat.lt_of_le_of_lt Nat.and_le_right (by decide) | exact ⟨by omega, by omega⟩) (fun c7 => ?_) (fun c => absurd (show _ from by omega) c)
      refine wq_go rfl (fun _ => rfl) ?_
      refine wq_iret rfl ?_
      have K' := K
      simp only [G_tell, ec, oq_s, oq_n, oq_c, if_neg hz] at K'
      exact K' _ (fun _ _ => rfl) hI
theorem mg_tell1 {n : Nat} {A : Sy} (hn : n < 512) (hA : Aok n A) (a0 a1 a2 : Int32) : MOk ax_cd324 [.int a0, .int a1, .int a2, .int (nI 1)] A (G_tell A a0 a1 a2 1).1 (G_tell A a0 a1 a2 1).2 := by
  intro xs d σ Q hI K
  obtain ⟨hPok, ⟨hok, hhr72, hzq, hsum⟩, hAH, hAZ, hAn, hAh, hTok, hAl⟩ := hA
  have hP' := hPok
  obtain ⟨hP1, hP2, hP3, hP4, hP5, hP6, hP7, hP8, hPv, hPm, hPo, hPw, hPl⟩ := hP'
  have hok' := hok
  obtain ⟨hot, hoh, hosc, hokp⟩ := hok'
  have hI0 := hI
  obtain ⟨L, g, hM, hMR, hMT⟩ := hI0
  have hN : NwIs σ (AS A) := hMR.1
  have hL2 := md_l2 hM
  obtain ⟨f3, h3, h3'⟩ := hMR.2.2.1
  have hTn := hTok.1
  obtain ⟨f6, h326, h6⟩ := hMR.2.2.2.2.1
  obtain ⟨f7, h327, h7⟩ := hMR.2.2.2.2.2.1
  obtain ⟨f8, h328, h8⟩ := hMR.2.2.2.2.2.2.1
  show Wq xs (d + 12) ax_cd324 0 [(0, .ref 287), (1, .int a0), (2, .int a1), (3, .int a2), (4, .int (nI 1))] [] σ Q
  refine wq_go rfl (fun _ => rfl) ?_
  refine wq_getf rfl (by first | rfl | assumption) (by first | decide | omega | assumption) (md_o hM) rfl ?_
  refine wq_top hMR.2.2.2.1 ?_
  refine wq_cN (m := 20) rfl rfl ?_
  by_cases hz : Tn (AT A) = 20
  · skip
    refine wq_ceq rfl (by first | omega | decide | exact Nat.lt_of_le_of_lt Nat.and_le_right (by decide) | exact ⟨by omega, by omega⟩) (by first | omega | decide | exact Nat.lt_of_le_of_lt Nat.and_le_right (by decide) | exact ⟨by omega, by omega⟩) (fun c3 => ?_) (fun c => absurd (show _ from by omega) c)
    refine wq_go rfl (fun _ => rfl) ?_
    refine wq_iret rfl ?_
    have K' := K
    simp only [G_tell, oq_s, oq_n, oq_c, if_pos hz] at K'
    exact K' _ (fun _ _ => rfl) hI
  · skip
    refine wq_ceq rfl (by first | omega | decide | exact Nat.lt_of_le_of_lt Nat.and_le_right (by decide) | exact ⟨by omega, by omega⟩) (by first | omega | decide | exact Nat.lt_of_le_of_lt Nat.and_le_right (by decide) | exact ⟨by omega, by omega⟩) (fun c => absurd c (by omega)) (fun c3 => ?_)
    refine wq_go rfl (fun _ => rfl) ?_
    refine wq_go rfl (fun _ => rfl) ?_
    refine wq_callV rfl rfl (by first | rfl | assumption) (by first | decide | omega | assumption) (Nat.le_of_ble_eq_true rfl) (Nat.le_of_ble_eq_true rfl) rfl rfl ?_
    refine m_isChair hM (fun c lc qc ec => ?_) (fun ec => ?_)
    · subst qc
      refine wq_zeq rfl (by first | omega | decide | exact Nat.lt_of_le_of_lt Nat.and_le_right (by decide) | exact ⟨by omega, by omega⟩) (fun c => absurd c (by omega)) (fun c7 => ?_)
      refine wq_go rfl (fun _ => rfl) ?_
      refine wq_callS rfl (Nat.le_of_ble_eq_true rfl) rfl (Nat.le_of_ble_eq_true rfl) (Nat.le_of_ble_eq_true rfl) rfl rfl ?_
      refine m_isThought  (fun t lt qt et => ?_) (fun et => ?_)
      · subst qt
        refine wq_zeq rfl (by first | omega | decide | exact Nat.lt_of_le_of_lt Nat.and_le_right (by decide) | exact ⟨by omega, by omega⟩) (fun c => absurd c (by omega)) (fun c10 => ?_)
        refine wq_go rfl (fun _ => rfl) ?_
        refine wq_cN (m := 0) rfl rfl ?_
        refine wq_cN (m := 999) rfl rfl ?_
        refine wq_callS rfl (Nat.le_of_ble_eq_true rfl) rfl (Nat.le_of_ble_eq_true rfl) (Nat.le_of_ble_eq_true rfl) rfl rfl ?_
        refine m_in (n := 1000) (by decide) (fun w lw qw ew => ?_) (fun ew => ?_)
        · subst qw
          refine wq_zne rfl (by first | omega | decide | exact Nat.lt_of_le_of_lt Nat.and_le_right (by decide) | exact ⟨by omega, by omega⟩) (fun c15 => ?_) (fun c => absurd (show _ from by omega) c)
          refine wq_go rfl (fun _ => rfl) ?_
          refine wq_getf rfl (by first | rfl | assumption) (by first | decide | omega | assumption) (md_o hM) rfl ?_
          refine wq_go rfl (fun _ => rfl) ?_
          refine wq_getf rfl (by first | rfl | assumption) (by first | decide | omega | assumption) (md_o hM) rfl ?_
          refine wq_top hMR.2.2.2.1 ?_
          refine wq_cN (m := 4) rfl rfl ?_
          refine wq_go rfl (fun _ => rfl) ?_
          refine wq_mulN rfl ?_
          refine wq_go rfl (fun _ => rfl) ?_
          refine wq_addN rfl ?_
          refine wq_iast rfl (by first | rfl | assumption) (by first | decide | omega | assumption) h326 rfl (by omega) (by first | decide | omega) ?_
          refine wq_go rfl (fun _ => rfl) ?_
          refine wq_getf rfl (by first | rfl | assumption) (by first | decide | omega | assumption) ((up_ne _ _ (by decide)).trans (md_o hM)) rfl ?_
          refine wq_go rfl (fun _ => rfl) ?_
          refine wq_getf rfl (by first | rfl | assumption) (by first | decide | omega | assumption) ((up_ne _ _ (by decide)).trans (md_o hM)) rfl ?_
          refine wq_top hMR.2.2.2.1 ?_
          refine wq_go rfl (fun _ => rfl) ?_
          refine wq_iast rfl (by first | rfl | assumption) (by first | decide | omega | assumption) ((up_ne _ _ (by decide)).trans h327) rfl (by omega) (by first | decide | omega) ?_
          refine wq_go rfl (fun _ => rfl) ?_
          refine wq_getf rfl (by first | rfl | assumption) (by first | decide | omega | assumption) ((up_ne _ _ (by decide)).trans ((up_ne _ _ (by decide)).trans (md_o hM))) rfl ?_
          refine wq_go rfl (fun _ => rfl) ?_
          refine wq_getf rfl (by first | rfl | assumption) (by first | decide | omega | assumption) ((up_ne _ _ (by decide)).trans ((up_ne _ _ (by decide)).trans (md_o hM))) rfl ?_
          refine wq_top hMR.2.2.2.1 ?_
          refine wq_go rfl (fun _ => rfl) ?_
          refine wq_bast rfl (by first | rfl | assumption) (Or.inr rfl) (by first | decide | omega | assumption) ((up_ne _ _ (by decide)).trans ((up_ne _ _ (by decide)).trans h328)) rfl (by omega) (by first | decide | omega) ?_
          rw [nar_b (show 1 < 2 by decide)]
          refine wq_go rfl (fun _ => rfl) ?_
          refine wq_go rfl (fun _ => rfl) ?_
          refine wq_getf rfl (by first | rfl | assumption) (by first | decide | omega | assumption) ((up_ne _ _ (by decide)).trans ((up_ne _ _ (by decide)).trans ((up_ne _ _ (by decide)).trans (md_o hM)))) rfl ?_
          refine wq_top hMR.2.2.2.1 ?_
          refine wq_cN (m := 1) rfl rfl ?_
          refine wq_addN rfl ?_
          refine wq_mput rfl ((up_ne _ _ (by decide)).trans ((up_ne _ _ (by decide)).trans ((up_ne _ _ (by decide)).trans (md_o hM)))) rfl rfl rfl rfl ?_
          refine wq_go rfl (fun _ => rfl) ?_
          refine wq_getf rfl (by first | rfl | assumption) (by first | decide | omega | assumption) (up_same _ _ _) rfl ?_
          refine wq_cN (m := 1) rfl rfl ?_
          refine wq_subN rfl (by omega) ?_
          refine wq_iret rfl ?_
          have K' := K
          simp only [G_tell, ec, et, ew, oq_s, oq_n, oq_c, if_neg hz] at K'
          refine ansQ (K' _ (lo_fr (fr_up (fr_up (fr_up (fr_up (fr_refl xTd σ) rfl) rfl) rfl) rfl) (fun j hj => xTd_lo (by omega))) (mi_told hMR hMT (fr_up (fr_up (fr_up (fr_up (fr_refl xTd σ) rfl) rfl) rfl) rfl) (fg_up (fg_refl y59 g) rfl) (md_u287 (md_o5 (md_o5 (md_o5 hM (by decide)) (by decide)) (by decide)) rfl) rfl ⟨_, ((up_ne _ _ (by decide)).trans ((up_ne _ _ (by decide)).trans ((up_ne _ _ (by decide)).trans (up_same _ _ _)))), ?_⟩ ⟨_, ((up_ne _ _ (by decide)).trans ((up_ne _ _ (by decide)).trans (up_same _ _ _))), ?_⟩ ⟨_, ((up_ne _ _ (by decide)).trans (up_same _ _ _)), ?_⟩)) (congrArg nI (by omega))
          · intro j hj
            have hj : j < Tn (AT A) + 1 := hj
            show upd f6 (Tn (AT A)) (nI (4 * c + t)) j = nI (4 * updN (Tc (AT A)) (Tn (AT A)) c j + updN (Tt (AT A)) (Tn (AT A)) t j)
            by_cases q : j = Tn (AT A)
            · rw [q, updN_same, updN_same]; simp [upd]
            · rw [updN_ne _ _ q, updN_ne _ _ q]; simp only [upd]; rw [if_neg q]; exact h6 j (by omega)
          · exact told_s h7
          · exact told_s h8
        · skip
          refine wq_zne rfl (by first | omega | decide | exact Nat.lt_of_le_of_lt Nat.and_le_right (by decide) | exact ⟨by omega, by omega⟩) (fun c => absurd c (by omega)) (fun c15 => ?_)
          refine wq_go rfl (fun _ => rfl) ?_
          refine wq_iret rfl ?_
          have K' := K
          simp only [G_tell, ec, et, ew, oq_s, oq_n, oq_c, if_neg hz] at K'
          exact K' _ (fun _ _ => rfl) hI
      · skip
        refine wq_zeq rfl (by first | omega | decide | exact Nat.lt_of_le_of_lt Nat.and_le_right (by decide) | exact ⟨by omega, by omega⟩) (fun c10 => ?_) (fun c => absurd (show _ from by omega) c)
        refine wq_go rfl (fun _ => rfl) ?_
        refine wq_iret rfl ?_
        have K' := K
        simp only [G_tell, ec, et, oq_s, oq_n, oq_c, if_neg hz] at K'
        exact K' _ (fun _ _ => rfl) hI
    · skip
      refine wq_zeq rfl (by first | omega | decide | exact Nat.lt_of_le_of_lt Nat.and_le_right (by decide) | exact ⟨by omega, by omega⟩) (fun c7 => ?_) (fun c => absurd (show _ from by omega) c)
      refine wq_go rfl (fun _ => rfl) ?_
      refine wq_iret rfl ?_
      have K' := K
      simp only [G_tell, ec, oq_s, oq_n, oq_c, if_neg hz] at K'
      exact K' _ (fun _ _ => rfl) hI
theorem mg_forget {n : Nat} {A : Sy} (hn : n < 512) (hA : Aok n A) : MOk ax_cd325 [] A (G_forget A).1 (G_forget A).2 := by
  intro xs d σ Q hI K
  obtain ⟨hPok, ⟨hok, hhr72, hzq, hsum⟩, hAH, hAZ, hAn, hAh, hTok, hAl⟩ := hA
  have hP' := hPok
  obtain ⟨hP1, hP2, hP3, hP4, hP5, hP6, hP7, hP8, hPv, hPm, hPo, hPw, hPl⟩ := hP'
  have hok' := hok
  obtain ⟨hot, hoh, hosc, hokp⟩ := hok'
  have hI0 := hI
  obtain ⟨L, g, hM, hMR, hMT⟩ := hI0
  have hN : NwIs σ (AS A) := hMR.1
  have hL2 := md_l2 hM
  obtain ⟨f3, h3, h3'⟩ := hMR.2.2.1
  have hTn := hTok.1
  obtain ⟨f6, h326, h6⟩ := hMR.2.2.2.2.1
  obtain ⟨f7, h327, h7⟩ := hMR.2.2.2.2.2.1
  obtain ⟨f8, h328, h8⟩ := hMR.2.2.2.2.2.2.1
  show Wq xs (d + 12) ax_cd325 0 [(0, .ref 287)] [] σ Q
  refine wq_go rfl (fun _ => rfl) ?_
  refine wq_getf rfl (by first | rfl | assumption) (by first | decide | omega | assumption) (md_o hM) rfl ?_
  refine wq_top hMR.2.2.2.1 ?_
  refine wq_go rfl (fun _ => rfl) ?_
  refine wq_go rfl (fun _ => rfl) ?_
  refine wq_cN (m := 0) rfl rfl ?_
  refine wq_mput rfl (md_o hM) rfl rfl rfl rfl ?_
  refine wq_go rfl (fun _ => rfl) ?_
  refine wq_iret rfl ?_
  have F1 : Fr xTd σ (up σ 287 (mo (upd g 59 (nI 0)))) := fr_up (fr_refl _ _) rfl
  exact K _ (lo_fr F1 (fun j hj => xTd_lo (by omega))) (mi_told hMR hMT F1 (fg_up (fg_refl y59 g) rfl) (md_u287 hM rfl) rfl ⟨f6, (up_ne _ _ (by decide)).trans h326, fun j hj => absurd hj (Nat.not_lt_zero j)⟩ ⟨f7, (up_ne _ _ (by decide)).trans h327, fun j hj => absurd hj (Nat.not_lt_zero j)⟩ ⟨f8, (up_ne _ _ (by decide)).trans h328, fun j hj => absurd hj (Nat.not_lt_zero j)⟩)
