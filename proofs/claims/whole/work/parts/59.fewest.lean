/-! FORESIGHT: THE FEWEST SITTINGS -/
def frC (f : Nat → Option (List Nat)) (s : Nat) : Nat → Nat → Option (List Nat)
  | 0, _ => none
  | m + 1, c => match f c with
    | some l => some ((10 * s + c) :: l)
    | none => frC f s m (c + 1)
def frH (g : Nat → Option (List Nat)) : Nat → Nat → Option (List Nat)
  | 0, _ => none
  | m + 1, s => match g s with
    | some l => some l
    | none => frH g m (s + 1)
def lastF (P : Pl) (S : St) (h t c : Nat) : Option (List Nat) := if (Psa P : Int) - (Sow S (h * 4 + t) : Int) ≤ gainZ P S h c t then some [] else none
def fnd (P : Pl) (h t : Nat) : Nat → St → Option (List Nat)
  | 0, _ => none
  | 1, S => frC (lastF P S h t) h (Pch P) 0
  | k + 2, S => frH (fun s => frC (fun c => fnd P h t (k + 1) (seatS P S s c)) s (Pch P) 0) (Phd P) 0
theorem frC_y {f : Nat → Option (List Nat)} {s m c : Nat} {l : List Nat} {o : Option (List Nat)} (h : o = frC f s (m + 1) c) (e : f c = some l) : o = some ((10 * s + c) :: l) := by
  rw [h, frC, e]
theorem frC_n {f : Nat → Option (List Nat)} {s m c : Nat} {o : Option (List Nat)} (h : o = frC f s (m + 1) c) (e : f c = none) : o = frC f s m (c + 1) := by
  rw [h, frC, e]
theorem frH_y {g : Nat → Option (List Nat)} {m s : Nat} {l : List Nat} {o : Option (List Nat)} (h : o = frH g (m + 1) s) (e : g s = some l) : o = some l := by
  rw [h, frH, e]
theorem frH_n {g : Nat → Option (List Nat)} {m s : Nat} {o : Option (List Nat)} (h : o = frH g (m + 1) s) (e : g s = none) : o = frH g m (s + 1) := by
  rw [h, frH, e]
def x47 : Nat → Bool := fun j => j == 47
def xP : Nat → Bool := fun j => j == 33 || j == 34 || j == 47
def xF (dd : Nat) : Nat → Bool := fun j => j == 31 || j == 33 || j == 34 || j == 47 || (Nat.ble (48 + 5 * dd) j && Nat.ble j 62)
def Sts (σ : Nat → List Value) (dd : Nat) : Prop := ∀ e, dd ≤ e → e < 3 → ∃ S', StIs σ (48 + 5 * e) S'
def PathK (σ σ' : Nat → List Value) (dd : Nat) : Prop := ∀ j, j < dd → ag σ' 47 j = ag σ 47 j
def Path (σ' : Nat → List Value) (dd : Nat) (l : List Nat) : Prop := ∀ i, i < l.length → ag σ' 47 (dd + i) = nI (l.getD i 0)
theorem cw_47 {P : Pl} {σ : Nat → List Value} {f : Nat → Int32} (h : CW P σ) : CW P (up σ 47 (arr 3 f)) := by
  have hF : Fr x47 σ (up σ 47 (arr 3 f)) := fr_up (fr_refl _ _) rfl
  exact cw_fr h hF (by decide) (isA_eq (hF 31 rfl) (cw_c31 h)) (isA_eq (hF 33 rfl) (cw_c33 h)) (isA_eq (hF 34 rfl) (cw_c34 h)) (isA_of (up_same _ _ _))
theorem xsc_P : ∀ j, xsc j = true → xP j = true := by
  intro j h
  simp only [xsc, xP, Bool.or_eq_true] at h ⊢
  rcases h with h | h
  · exact Or.inl (Or.inl h)
  · exact Or.inl (Or.inr h)
theorem x47_P : ∀ j, x47 j = true → xP j = true := by
  intro j h
  simp only [x47, xP, Bool.or_eq_true] at h ⊢
  exact Or.inr h
theorem xP_F (dd : Nat) : ∀ j, xP j = true → xF dd j = true := by
  intro j h
  simp only [xP, xF, Bool.or_eq_true] at h ⊢
  rcases h with (h | h) | h
  · exact Or.inl (Or.inl (Or.inl (Or.inr h)))
  · exact Or.inl (Or.inl (Or.inr h))
  · exact Or.inl (Or.inr h)
theorem xS_F {dd kn : Nat} (hd : dd < 3) (hk : kn = 48 + 5 * dd) : ∀ j, xS kn j = true → xF dd j = true := by
  intro j h
  subst hk
  simp only [xS, xF, inS, Bool.or_eq_true, Bool.and_eq_true, Nat.ble_eq] at h ⊢
  rcases h with ((h | h) | h) | h
  · exact Or.inl (Or.inl (Or.inl (Or.inl h)))
  · exact Or.inl (Or.inl (Or.inl (Or.inr h)))
  · exact Or.inl (Or.inl (Or.inr h))
  · exact Or.inr ⟨h.1, by omega⟩
theorem xF_F (dd : Nat) : ∀ j, xF (dd + 1) j = true → xF dd j = true := by
  intro j h
  simp only [xF, Bool.or_eq_true, Bool.and_eq_true, Nat.ble_eq] at h ⊢
  rcases h with h | h
  · exact Or.inl h
  · exact Or.inr ⟨by omega, h.2⟩
theorem st_F {dd k : Nat} {S : St} {σ σ' : Nat → List Value} (hk : kd k = .inr 7) (hd : k + 4 < 48 + 5 * dd) (hF : Fr (xF dd) σ σ') (hS : StIs σ k S) : StIs σ' k S := by
  refine st_fr hS hF (fun j h1 h2 => ?_)
  have := St_rng hk
  have h47 := St_off hk (p := 47) (Or.inl rfl)
  have a1 : (j == 31) = false := by simp; omega
  have a2 : (j == 33) = false := by simp; omega
  have a3 : (j == 34) = false := by simp; omega
  have a4 : (j == 47) = false := by
    rw [beq_eq_false_iff_ne]
    intro e
    subst e
    have : inS k 47 = true := by simp only [inS, Bool.and_eq_true, Nat.ble_eq]; exact ⟨h1, h2⟩
    rw [this] at h47
    cases h47
  have a5 : Nat.ble (48 + 5 * dd) j = false := ble_f (by omega)
  simp only [xF, a1, a2, a3, a4, a5, Bool.or_false, Bool.false_and]
theorem kn_7 {dd kn : Nat} (hd : dd < 3) (hk : kn = 48 + 5 * dd) : kd kn = .inr 7 := by
  subst hk
  match dd, hd with
  | 0, _ => rfl
  | 1, _ => rfl
  | 2, _ => rfl
theorem path_set {σ : Nat → List Value} {dd x : Nat} (hd : dd < 3) : Path (up σ 47 (arr 3 (upd (ag σ 47) dd (nI x)))) dd [x] := by
  intro i hi
  have hi : i = 0 := by simpa using hi
  subst hi
  rw [ag_arr (up_same _ _ _) (by omega)]
  simp [upd]
theorem pathK_set {σ : Nat → List Value} {dd : Nat} {x : Int32} (hd : dd < 3) : PathK σ (up σ 47 (arr 3 (upd (ag σ 47) dd x))) dd := by
  intro j hj
  rw [ag_arr (up_same _ _ _) (by omega)]
  simp only [upd]
  rw [if_neg (by omega)]
theorem pathK_fr {σ σ' : Nat → List Value} {X : Nat → Bool} {dd : Nat} (hF : Fr X σ σ') (hX : X 47 = false) : PathK σ σ' dd := fun j _ => ag_eq (hF 47 hX) j
theorem pathK_tr {σ σ' σ'' : Nat → List Value} {dd e : Nat} (h : PathK σ σ' dd) (h' : PathK σ' σ'' e) (he : dd ≤ e) : PathK σ σ'' dd := fun j hj => (h' j (by omega)).trans (h j hj)
theorem path_cons {σ σ' : Nat → List Value} {dd x : Nat} {l : List Nat} (hk : PathK σ σ' (dd + 1)) (hx : ag σ 47 dd = nI x) (h : Path σ' (dd + 1) l) : Path σ' dd (x :: l) := by
  intro i hi
  match i, hi with
  | 0, _ => rw [Nat.add_zero, hk dd (by omega), hx]; rfl
  | i + 1, hi =>
    have := h i (by simpa using hi)
    rw [show dd + (i + 1) = dd + 1 + i by omega, this]
    rfl
theorem sts_fr {σ σ' : Nat → List Value} {dd : Nat} (h : Sts σ dd) (hF : Fr xP σ σ') : Sts σ' dd := by
  intro e h1 h2
  obtain ⟨S', hS⟩ := h e h1 h2
  refine ⟨S', st_fr hS hF (fun j j1 j2 => ?_)⟩
  have a1 : (j == 33) = false := by simp; omega
  have a2 : (j == 34) = false := by simp; omega
  have a3 : (j == 47) = false := by simp; omega
  simp only [xP, a1, a2, a3, Bool.or_false]
theorem sts_S {σ σ' : Nat → List Value} {dd kn : Nat} (hd : dd < 3) (hk : kn = 48 + 5 * dd) (h : Sts σ (dd + 1)) (hF : Fr (xS kn) σ σ') : Sts σ' (dd + 1) := by
  intro e h1 h2
  obtain ⟨S', hS⟩ := h e h1 h2
  exact ⟨S', st_S (kn_7 h2 rfl) (kn_7 hd hk) (by omega) hF hS⟩
theorem sts_add {σ : Nat → List Value} {dd kn : Nat} {S : St} (hk : kn = 48 + 5 * dd) (h : Sts σ (dd + 1)) (hS : StIs σ kn S) : Sts σ dd := by
  intro e h1 h2
  rcases Nat.eq_or_lt_of_le h1 with h3 | h3
  · subst h3
    subst hk
    exact ⟨S, hS⟩
  · exact h e h3 h2
theorem sts_mono {σ : Nat → List Value} {dd : Nat} (h : Sts σ dd) : Sts σ (dd + 1) := fun e h1 h2 => h e (by omega) h2

theorem c_fl_l {xs : List Int32} {d : Nat} {σ : Nat → List Value} {Q : Option Value → (Nat → List Value) → Prop} {k : Nat} {S : St} (hk : kd k = .inr 7) {P : Pl} (hP : Pok P) (hok : Sok S) {h t dd : Nat} (hh : h < Phd P) (ht : t < 4) (hdd : dd < 3)  (K1 : ∀ l σ', Fr xP σ σ' → CW P σ' → PathK σ σ' dd → frC (lastF P S h t) h (Pch P) 0 = some l → Path σ' dd l → Q (some (.int (nI 1))) σ') (K0 : ∀ σ', Fr xP σ σ' → CW P σ' → PathK σ σ' dd → frC (lastF P S h t) h (Pch P) 0 = none → Q (some (.int (nI 0))) σ') : ∀ (m u : Nat), m + u = Pch P → ∀ σ1, Fr xsc σ σ1 → CW P σ1 → StIs σ1 k S → frC (lastF P S h t) h (Pch P) 0 = frC (lastF P S h t) h m u → Wq xs (d + 3) ax_cd148 11 [(6, .int (nI u)), (5, .int (zI ((Psa P : Int) - (Sow S (h * 4 + t) : Int)))), (0, .ref 40), (1, .ref k), (2, .int (nI h)), (3, .int (nI t)), (4, .int (nI dd))] [] σ1 Q := by
  have hP' := hP
  obtain ⟨hP1, hP2, hP3, hP4, hP5, hP6, hP7, hP8, hPv, hPm, hPo, hPw, hPl⟩ := hP'
  have hhr := hok.2.1
  have hbo := ow_le hok (i := h * 4 + t) (by omega)
  intro m
  induction m with
  | zero =>
    intro u hm σ1 hF1 hC1 hS1 hfr
    refine wq_go rfl (fun _ => rfl) ?_
    refine wq_go rfl (fun _ => rfl) ?_
    refine wq_getf rfl (by first | rfl | assumption) (by first | decide | omega | assumption) (cw_c40 hC1) rfl ?_
    refine wq_getf rfl (by first | rfl | assumption) (by first | decide | omega | assumption) (cw_c21 hC1) rfl ?_
    refine wq_cge rfl (by first | omega | decide | exact Nat.lt_of_le_of_lt Nat.and_le_right (by decide) | exact ⟨by omega, by omega⟩) (by first | omega | decide | exact Nat.lt_of_le_of_lt Nat.and_le_right (by decide) | exact ⟨by omega, by omega⟩) (fun c15 => ?_) (fun c => absurd (show _ from by omega) c)
    refine wq_cN (m := 0) rfl rfl ?_
    refine wq_nret rfl (by decide) ?_
    exact K0 _ (fr_mono hF1 xsc_P) hC1 (pathK_fr hF1 rfl) hfr
  | succ m ih =>
    intro u hm σ1 hF1 hC1 hS1 hfr
    have hgb := gain_bd P hok (h := h) (c := u) (t := t) (by omega) (by omega) ht
    have hbs := sq_le hok (i := u * 4 + t) (by omega)
    refine wq_go rfl (fun _ => rfl) ?_
    refine wq_go rfl (fun _ => rfl) ?_
    refine wq_getf rfl (by first | rfl | assumption) (by first | decide | omega | assumption) (cw_c40 hC1) rfl ?_
    refine wq_getf rfl (by first | rfl | assumption) (by first | decide | omega | assumption) (cw_c21 hC1) rfl ?_
    refine wq_cge rfl (by first | omega | decide | exact Nat.lt_of_le_of_lt Nat.and_le_right (by decide) | exact ⟨by omega, by omega⟩) (by first | omega | decide | exact Nat.lt_of_le_of_lt Nat.and_le_right (by decide) | exact ⟨by omega, by omega⟩) (fun c => absurd c (by omega)) (fun c15 => ?_)
    refine wq_go rfl (fun _ => rfl) ?_
    refine wq_getf rfl (by first | rfl | assumption) (by first | decide | omega | assumption) (cw_c40 hC1) rfl ?_
    refine wq_go rfl (fun _ => rfl) ?_
    refine wq_go rfl (fun _ => rfl) ?_
    refine wq_go rfl (fun _ => rfl) ?_
    refine wq_go rfl (fun _ => rfl) ?_
    refine wq_callV rfl rfl (by first | rfl | assumption) (by first | decide | omega | assumption) (Nat.le_of_ble_eq_true rfl) (Nat.le_of_ble_eq_true rfl) rfl rfl ?_
    refine c_House_gainOf hk hS1 hC1 hok hh (by omega) ht (fun σ6 F6 C6 => ?_)
    have S6 := st_sc hk F6 hS1
    refine wq_go rfl (fun _ => rfl) ?_
    refine wq_dlt rfl rfl rfl (by first | omega | decide | exact Nat.lt_of_le_of_lt Nat.and_le_right (by decide) | exact ⟨by omega, by omega⟩) (by first | omega | decide | exact Nat.lt_of_le_of_lt Nat.and_le_right (by decide) | exact ⟨by omega, by omega⟩) (fun c24 => ?_) (fun c24 => ?_)
    · skip
      refine wq_incN rfl rfl rfl ?_
      refine wq_go rfl (fun _ => rfl) ?_
      exact ih (u + 1) (by omega) _ (fr_trans hF1 F6) C6 S6 (frC_n hfr (if_neg (by omega)))
    · skip
      refine wq_go rfl (fun _ => rfl) ?_
      refine wq_zlt rfl (by first | omega | decide | exact Nat.lt_of_le_of_lt Nat.and_le_right (by decide) | exact ⟨by omega, by omega⟩) (fun c => absurd c (by omega)) (fun c26 => ?_)
      refine wq_go rfl (fun _ => rfl) ?_
      refine wq_go rfl (fun _ => rfl) ?_
      refine wq_getf rfl (by first | rfl | assumption) (by first | decide | omega | assumption) (cw_c40 C6) rfl ?_
      refine wq_alen rfl (by first | rfl | assumption) (by first | decide | omega | assumption) rfl (cw_c47 C6) (arr_len _ _) ?_
      refine wq_cge rfl (by first | omega | decide | exact Nat.lt_of_le_of_lt Nat.and_le_right (by decide) | exact ⟨by omega, by omega⟩) (by first | omega | decide | exact Nat.lt_of_le_of_lt Nat.and_le_right (by decide) | exact ⟨by omega, by omega⟩) (fun c => absurd c (by omega)) (fun c31 => ?_)
      refine wq_go rfl (fun _ => rfl) ?_
      refine wq_getf rfl (by first | rfl | assumption) (by first | decide | omega | assumption) (cw_c40 C6) rfl ?_
      refine wq_go rfl (fun _ => rfl) ?_
      refine wq_cN (m := 10) rfl rfl ?_
      refine wq_go rfl (fun _ => rfl) ?_
      refine wq_mulN rfl ?_
      refine wq_go rfl (fun _ => rfl) ?_
      refine wq_addN rfl ?_
      refine wq_iast rfl (by first | rfl | assumption) (by first | decide | omega | assumption) (cw_c47 C6) rfl (by omega) (by first | decide | omega) ?_
      refine wq_cN (m := 1) rfl rfl ?_
      refine wq_nret rfl (by decide) ?_
      exact K1 [10 * h + u] _ (fr_up (fr_mono (fr_trans hF1 F6) xsc_P) rfl) (cw_47 C6) (pathK_tr (pathK_fr (fr_trans hF1 F6) rfl) (pathK_set (by omega)) (Nat.le_refl _)) (frC_y hfr (if_pos (by omega))) (path_set (by omega))
theorem c_Foresight_findLast {xs : List Int32} {d : Nat} {σ : Nat → List Value} {Q : Option Value → (Nat → List Value) → Prop} {k : Nat} {S : St} (hk : kd k = .inr 7) (hS : StIs σ k S) {P : Pl} (hC : CW P σ) (hok : Sok S) {h t dd : Nat} (hh : h < Phd P) (ht : t < 4) (hdd : dd < 3)  (K1 : ∀ l σ', Fr xP σ σ' → CW P σ' → PathK σ σ' dd → frC (lastF P S h t) h (Pch P) 0 = some l → Path σ' dd l → Q (some (.int (nI 1))) σ') (K0 : ∀ σ', Fr xP σ σ' → CW P σ' → PathK σ σ' dd → frC (lastF P S h t) h (Pch P) 0 = none → Q (some (.int (nI 0))) σ') : Wq xs (d + 3) ax_cd148 0 [(0, .ref 40), (1, .ref k), (2, .int (nI h)), (3, .int (nI t)), (4, .int (nI dd))] [] σ Q := by
  have hPk := cw_pok hC
  obtain ⟨hP1, hP2, hP3, hP4, hP5, hP6, hP7, hP8, hPv, hPm, hPo, hPw, hPl⟩ := hPk
  have hhr := hok.2.1
  have hbo := ow_le hok (i := h * 4 + t) (by omega)
  have hkr := St_rng hk
  refine wq_go rfl (fun _ => rfl) ?_
  refine wq_getf rfl (by first | rfl | assumption) (by first | decide | omega | assumption) (cw_c40 hC) rfl ?_
  refine wq_getf rfl (by first | rfl | assumption) (by first | decide | omega | assumption) (cw_c21 hC) rfl ?_
  refine wq_go rfl (fun _ => rfl) ?_
  refine wq_go rfl (fun _ => rfl) ?_
  refine wq_go rfl (fun _ => rfl) ?_
  refine wq_callV rfl rfl (by first | rfl | assumption) (by first | decide | omega | assumption) (Nat.le_of_ble_eq_true rfl) (Nat.le_of_ble_eq_true rfl) rfl rfl ?_
  refine c_State_own hk hS (by omega) (by omega) ?_
  refine wq_subZ rfl (nI_z _) (nI_z _) ?_
  refine wq_go rfl (fun _ => rfl) ?_
  refine wq_cN (m := 0) rfl rfl ?_
  refine wq_go rfl (fun _ => rfl) ?_
  exact c_fl_l hk (cw_pok hC) hok hh ht hdd K1 K0 (Pch P) 0 rfl σ (fr_refl _ _) hC hS rfl
def FSok (P : Pl) (h t n dd : Nat) : Prop := ∀ (xs : List Int32) (d : Nat) (σ : Nat → List Value) (Q : Option Value → (Nat → List Value) → Prop) (k : Nat) (S : St), kd k = .inr 7 → k + 4 < 48 + 5 * dd → StIs σ k S → CW P σ → Sok S → Sts σ dd → (∀ l σ', Fr (xF dd) σ σ' → CW P σ' → Sts σ' dd → PathK σ σ' dd → fnd P h t (n) S = some l → Path σ' dd l → Q (some (.int (nI 1))) σ') → (∀ σ', Fr (xF dd) σ σ' → CW P σ' → Sts σ' dd → PathK σ σ' dd → fnd P h t (n) S = none → Q (some (.int (nI 0))) σ') → Wq xs (d + n + 3) ax_cd147 0 [(0, .ref 40), (1, .ref k), (2, .int (nI h)), (3, .int (nI t)), (4, .int (nI dd)), (5, .int (nI (dd + n)))] [] σ Q
theorem fs_1 {P : Pl} {h t : Nat} (hh : h < Phd P) (ht : t < 4) {dd : Nat} (hdd : dd < 3) : FSok P h t 1 dd := by
  intro xs d σ Q k S hk hkd hS hC hok hT K1 K0
  refine wq_go rfl (fun _ => rfl) ?_
  refine wq_zlt rfl (by first | omega | decide | exact Nat.lt_of_le_of_lt Nat.and_le_right (by decide) | exact ⟨by omega, by omega⟩) (fun c => absurd c (by omega)) (fun c1 => ?_)
  refine wq_go rfl (fun _ => rfl) ?_
  refine wq_go rfl (fun _ => rfl) ?_
  refine wq_getf rfl (by first | rfl | assumption) (by first | decide | omega | assumption) (cw_c40 hC) rfl ?_
  refine wq_alen rfl (by first | rfl | assumption) (by first | decide | omega | assumption) rfl (cw_c47 hC) (arr_len _ _) ?_
  refine wq_cge rfl (by first | omega | decide | exact Nat.lt_of_le_of_lt Nat.and_le_right (by decide) | exact ⟨by omega, by omega⟩) (by first | omega | decide | exact Nat.lt_of_le_of_lt Nat.and_le_right (by decide) | exact ⟨by omega, by omega⟩) (fun c => absurd c (by omega)) (fun c6 => ?_)
  refine wq_go rfl (fun _ => rfl) ?_
  refine wq_go rfl (fun _ => rfl) ?_
  refine wq_cge rfl (by first | omega | decide | exact Nat.lt_of_le_of_lt Nat.and_le_right (by decide) | exact ⟨by omega, by omega⟩) (by first | omega | decide | exact Nat.lt_of_le_of_lt Nat.and_le_right (by decide) | exact ⟨by omega, by omega⟩) (fun c => absurd c (by omega)) (fun c9 => ?_)
  refine wq_go rfl (fun _ => rfl) ?_
  refine wq_go rfl (fun _ => rfl) ?_
  refine wq_go rfl (fun _ => rfl) ?_
  refine wq_go rfl (fun _ => rfl) ?_
  refine wq_cN (m := 1) rfl rfl ?_
  refine wq_subN rfl (by omega) ?_
  refine wq_cne rfl (by first | omega | decide | exact Nat.lt_of_le_of_lt Nat.and_le_right (by decide) | exact ⟨by omega, by omega⟩) (by first | omega | decide | exact Nat.lt_of_le_of_lt Nat.and_le_right (by decide) | exact ⟨by omega, by omega⟩) (fun c => absurd c (by omega)) (fun c18 => ?_)
  refine wq_go rfl (fun _ => rfl) ?_
  refine wq_go rfl (fun _ => rfl) ?_
  refine wq_go rfl (fun _ => rfl) ?_
  refine wq_go rfl (fun _ => rfl) ?_
  refine wq_go rfl (fun _ => rfl) ?_
  refine wq_callV rfl rfl (by first | rfl | assumption) (by first | decide | omega | assumption) (Nat.le_of_ble_eq_true rfl) (Nat.le_of_ble_eq_true rfl) rfl rfl ?_
  refine c_Foresight_findLast hk hS hC hok hh ht hdd (fun l σ' F C pk e p => ?_) (fun σ' F C pk e => ?_)
  · skip
    refine wq_nret rfl (by decide) ?_
    exact K1 l σ' (fr_mono F (xP_F dd)) C (sts_fr hT F) pk e p
  · skip
    refine wq_nret rfl (by decide) ?_
    exact K0 σ' (fr_mono F (xP_F dd)) C (sts_fr hT F) pk e
  
theorem c_fs_i {xs : List Int32} {d : Nat} {σ : Nat → List Value} {Q : Option Value → (Nat → List Value) → Prop} {k kn : Nat} {S : St} (hk : kd k = .inr 7) {P : Pl} (hP : Pok P) (hok : Sok S) {h t dd n : Nat} (hh : h < Phd P) (ht : t < 4) (hdd : dd < 2) (hn : dd + n < 3) (hkd : k + 4 < 48 + 5 * dd) (hkn : kn = 48 + 5 * dd) (hR : FSok P h t (n + 1) (dd + 1)) {s : Nat} (hs : s < Phd P)  (K1 : ∀ l σ', Fr (xF dd) σ σ' → CW P σ' → Sts σ' dd → PathK σ σ' dd → frC (fun c => fnd P h t (n + 1) (seatS P S s c)) s (Pch P) 0 = some l → Path σ' dd l → Q (some (.int (nI 1))) σ') (K0 : ∀ σ', Fr (xF dd) σ σ' → CW P σ' → StIs σ' k S → Sts σ' dd → PathK σ σ' dd → frC (fun c => fnd P h t (n + 1) (seatS P S s c)) s (Pch P) 0 = none → Wq xs (d + n + 5) ax_cd147 33 [(7, .int (nI (s + 1))), (6, .ref kn), (0, .ref 40), (1, .ref k), (2, .int (nI h)), (3, .int (nI t)), (4, .int (nI dd)), (5, .int (nI (dd + (n + 2))))] [] σ' Q) : ∀ (m u : Nat), m + u = Pch P → ∀ σ1, Fr (xF dd) σ σ1 → CW P σ1 → StIs σ1 k S → Sts σ1 dd → PathK σ σ1 dd → frC (fun c => fnd P h t (n + 1) (seatS P S s c)) s (Pch P) 0 = frC (fun c => fnd P h t (n + 1) (seatS P S s c)) s m u → Wq xs (d + n + 5) ax_cd147 42 [(8, .int (nI u)), (7, .int (nI s)), (6, .ref kn), (0, .ref 40), (1, .ref k), (2, .int (nI h)), (3, .int (nI t)), (4, .int (nI dd)), (5, .int (nI (dd + (n + 2))))] [] σ1 Q := by
  have hP' := hP
  obtain ⟨hP1, hP2, hP3, hP4, hP5, hP6, hP7, hP8, hPv, hPm, hPo, hPw, hPl⟩ := hP'
  have hhr := hok.2.1
  have hkn7 := kn_7 (by omega) hkn
  have hne : k ≠ kn := by omega
  intro m
  induction m with
  | zero =>
    intro u hm σ1 hF1 hC1 hS1 hT1 hP1 hfr
    refine wq_go rfl (fun _ => rfl) ?_
    refine wq_go rfl (fun _ => rfl) ?_
    refine wq_getf rfl (by first | rfl | assumption) (by first | decide | omega | assumption) (cw_c40 hC1) rfl ?_
    refine wq_getf rfl (by first | rfl | assumption) (by first | decide | omega | assumption) (cw_c21 hC1) rfl ?_
    refine wq_cge rfl (by first | omega | decide | exact Nat.lt_of_le_of_lt Nat.and_le_right (by decide) | exact ⟨by omega, by omega⟩) (by first | omega | decide | exact Nat.lt_of_le_of_lt Nat.and_le_right (by decide) | exact ⟨by omega, by omega⟩) (fun c46 => ?_) (fun c => absurd (show _ from by omega) c)
    refine wq_incN rfl rfl rfl ?_
    refine wq_go rfl (fun _ => rfl) ?_
    exact wq_lv ⟨(by decide : ([7, 8, 6, 0, 1, 2, 3, 4, 5] : List Nat).Nodup), (lvm (List.mem_of_getElem? (i := 0) rfl) (lvm (List.mem_of_getElem? (i := 2) rfl) (lvm (List.mem_of_getElem? (i := 3) rfl) (lvm (List.mem_of_getElem? (i := 4) rfl) (lvm (List.mem_of_getElem? (i := 5) rfl) (lvm (List.mem_of_getElem? (i := 6) rfl) (lvm (List.mem_of_getElem? (i := 7) rfl) (lvm (List.mem_of_getElem? (i := 8) rfl) lvn))))))))⟩ (K0 σ1 hF1 hC1 hS1 hT1 hP1 hfr)
  | succ m ih =>
    intro u hm σ1 hF1 hC1 hS1 hT1 hP1 hfr
    refine wq_go rfl (fun _ => rfl) ?_
    refine wq_go rfl (fun _ => rfl) ?_
    refine wq_getf rfl (by first | rfl | assumption) (by first | decide | omega | assumption) (cw_c40 hC1) rfl ?_
    refine wq_getf rfl (by first | rfl | assumption) (by first | decide | omega | assumption) (cw_c21 hC1) rfl ?_
    refine wq_cge rfl (by first | omega | decide | exact Nat.lt_of_le_of_lt Nat.and_le_right (by decide) | exact ⟨by omega, by omega⟩) (by first | omega | decide | exact Nat.lt_of_le_of_lt Nat.and_le_right (by decide) | exact ⟨by omega, by omega⟩) (fun c => absurd c (by omega)) (fun c46 => ?_)
    refine wq_go rfl (fun _ => rfl) ?_
    refine wq_go rfl (fun _ => rfl) ?_
    refine wq_callV rfl rfl (by first | rfl | assumption) (by first | decide | omega | assumption) (Nat.le_of_ble_eq_true rfl) (Nat.le_of_ble_eq_true rfl) rfl rfl ?_
    obtain ⟨S0, hN1⟩ := hT1 dd (Nat.le_refl _) (by omega)
    rw [← hkn] at hN1
    refine c_State_copyFrom hkn7 hN1 hk hS1 (fun e => hne e.symm) (fun σ2 F2 N2 => ?_)
    have C2 := cw_k hkn7 hC1 F2
    have S2 := st_S hk hkn7 hne (fr_mono F2 xk_S) hS1
    have T2 := sts_S (by omega) hkn (sts_mono hT1) (fr_mono F2 xk_S)
    have P2 : PathK σ1 σ2 dd := pathK_fr (fr_mono F2 xk_S) (xS_off hkn7 rfl)
    refine wq_go rfl (fun _ => rfl) ?_
    refine wq_getf rfl (by first | rfl | assumption) (by first | decide | omega | assumption) (cw_c40 C2) rfl ?_
    refine wq_go rfl (fun _ => rfl) ?_
    refine wq_go rfl (fun _ => rfl) ?_
    refine wq_go rfl (fun _ => rfl) ?_
    refine wq_callV rfl rfl (by first | rfl | assumption) (by first | decide | omega | assumption) (Nat.le_of_ble_eq_true rfl) (Nat.le_of_ble_eq_true rfl) rfl rfl ?_
    refine c_House_seat hkn7 N2 C2 hok hs (by omega) (fun σ3 F3 C3 N3 => ?_)
    have S3 := st_S hk hkn7 hne F3 S2
    have T3 := sts_S (by omega) hkn T2 F3
    have P3 : PathK σ2 σ3 dd := pathK_fr F3 (xS_off hkn7 rfl)
    refine wq_go rfl (fun _ => rfl) ?_
    refine wq_getf rfl (by first | rfl | assumption) (by first | decide | omega | assumption) (cw_c40 C3) rfl ?_
    refine wq_go rfl (fun _ => rfl) ?_
    refine wq_cN (m := 10) rfl rfl ?_
    refine wq_go rfl (fun _ => rfl) ?_
    refine wq_mulN rfl ?_
    refine wq_go rfl (fun _ => rfl) ?_
    refine wq_addN rfl ?_
    refine wq_iast rfl (by first | rfl | assumption) (by first | decide | omega | assumption) (cw_c47 C3) rfl (by omega) (by first | decide | omega) ?_
    refine wq_go rfl (fun _ => rfl) ?_
    refine wq_go rfl (fun _ => rfl) ?_
    refine wq_go rfl (fun _ => rfl) ?_
    refine wq_go rfl (fun _ => rfl) ?_
    refine wq_go rfl (fun _ => rfl) ?_
    refine wq_cN (m := 1) rfl rfl ?_
    refine wq_addN rfl ?_
    refine wq_go rfl (fun _ => rfl) ?_
    refine wq_callV rfl rfl (by first | rfl | assumption) (by first | decide | omega | assumption) (Nat.le_of_ble_eq_true rfl) (Nat.le_of_ble_eq_true rfl) rfl rfl ?_
    have F4 : Fr xP σ3 (up σ3 47 (arr 3 (upd (ag σ3 47) dd (nI (10 * s + u))))) := fr_up (fr_refl _ _) rfl
    have C4 := cw_47 (f := upd (ag σ3 47) dd (nI (10 * s + u))) C3
    have N4 := st_F hkn7 (by omega) (fr_mono F4 (xP_F (dd + 1))) N3
    have S4 := st_F hk hkd (fr_mono F4 (xP_F dd)) S3
    have T4 := sts_fr T3 F4
    have P4 : PathK σ3 _ dd := pathK_set (σ := σ3) (x := nI (10 * s + u)) (by omega)
    have A4 : ag (up σ3 47 (arr 3 (upd (ag σ3 47) dd (nI (10 * s + u))))) 47 dd = nI (10 * s + u) := path_set (σ := σ3) (x := 10 * s + u) (by omega) 0 (Nat.zero_lt_one)
    have FF := fr_trans hF1 (fr_trans (fr_mono F2 (fun j hj => xS_F (by omega) hkn j (xk_S j hj))) (fr_trans (fr_mono F3 (xS_F (by omega) hkn)) (fr_mono F4 (xP_F dd))))
    have PP := pathK_tr hP1 (pathK_tr P2 (pathK_tr P3 P4 (Nat.le_refl _)) (Nat.le_refl _)) (Nat.le_refl _)
    rw [show dd + (n + 2) = (dd + 1) + (n + 1) by omega]
    refine hR xs d _ _ kn (seatS P S s u) hkn7 (by omega) N4 C4 (seat_ok P hok (by omega) (by omega)) T4 (fun l σ5 F5 C5 T5 P5 e5 q5 => ?_) (fun σ5 F5 C5 T5 P5 e5 => ?_)
    · skip
      refine wq_zeq rfl (by omega) (fun c => absurd c (by omega)) (fun c => ?_)
      refine wq_cN (m := 1) rfl rfl ?_
      refine wq_nret rfl (by decide) ?_
      exact K1 _ σ5 (fr_trans FF (fr_mono F5 (xF_F dd))) C5 (sts_add hkn T5 (st_F hkn7 (by omega) F5 N4)) (pathK_tr PP P5 (by omega)) (frC_y hfr e5) (path_cons P5 A4 q5)
    · skip
      refine wq_zeq rfl (by omega) (fun c => ?_) (fun c => absurd rfl c)
      refine wq_incN rfl rfl rfl ?_
      refine wq_go rfl (fun _ => rfl) ?_
      rw [show (dd + 1) + (n + 1) = dd + (n + 2) by omega]
      exact ih (u + 1) (by omega) σ5 (fr_trans FF (fr_mono F5 (xF_F dd))) C5 (st_F hk (by omega) F5 S4) (sts_add hkn T5 (st_F hkn7 (by omega) F5 N4)) (pathK_tr PP P5 (by omega)) (frC_n hfr e5)
    
theorem c_fs_o {xs : List Int32} {d : Nat} {σ : Nat → List Value} {Q : Option Value → (Nat → List Value) → Prop} {k kn : Nat} {S : St} (hk : kd k = .inr 7) {P : Pl} (hP : Pok P) (hok : Sok S) {h t dd n : Nat} (hh : h < Phd P) (ht : t < 4) (hdd : dd < 2) (hn : dd + n < 3) (hkd : k + 4 < 48 + 5 * dd) (hkn : kn = 48 + 5 * dd) (hR : FSok P h t (n + 1) (dd + 1))  (K1 : ∀ l σ', Fr (xF dd) σ σ' → CW P σ' → Sts σ' dd → PathK σ σ' dd → fnd P h t (n + 2) S = some l → Path σ' dd l → Q (some (.int (nI 1))) σ') (K0 : ∀ σ', Fr (xF dd) σ σ' → CW P σ' → Sts σ' dd → PathK σ σ' dd → fnd P h t (n + 2) S = none → Q (some (.int (nI 0))) σ') : ∀ (m u : Nat), m + u = Phd P → ∀ σ1, Fr (xF dd) σ σ1 → CW P σ1 → StIs σ1 k S → Sts σ1 dd → PathK σ σ1 dd → frH (fun s => frC (fun c => fnd P h t (n + 1) (seatS P S s c)) s (Pch P) 0) (Phd P) 0 = frH (fun s => frC (fun c => fnd P h t (n + 1) (seatS P S s c)) s (Pch P) 0) m u → Wq xs (d + n + 5) ax_cd147 33 [(7, .int (nI u)), (6, .ref kn), (0, .ref 40), (1, .ref k), (2, .int (nI h)), (3, .int (nI t)), (4, .int (nI dd)), (5, .int (nI (dd + (n + 2))))] [] σ1 Q := by
  have hP' := hP
  obtain ⟨hP1, hP2, hP3, hP4, hP5, hP6, hP7, hP8, hPv, hPm, hPo, hPw, hPl⟩ := hP'
  have hhr := hok.2.1
  have hkn7 := kn_7 (by omega) hkn
  have hne : k ≠ kn := by omega
  intro m
  induction m with
  | zero =>
    intro u hm σ1 hF1 hC1 hS1 hT1 hP1 hfr
    refine wq_go rfl (fun _ => rfl) ?_
    refine wq_go rfl (fun _ => rfl) ?_
    refine wq_getf rfl (by first | rfl | assumption) (by first | decide | omega | assumption) (cw_c40 hC1) rfl ?_
    refine wq_getf rfl (by first | rfl | assumption) (by first | decide | omega | assumption) (cw_c21 hC1) rfl ?_
    refine wq_cge rfl (by first | omega | decide | exact Nat.lt_of_le_of_lt Nat.and_le_right (by decide) | exact ⟨by omega, by omega⟩) (by first | omega | decide | exact Nat.lt_of_le_of_lt Nat.and_le_right (by decide) | exact ⟨by omega, by omega⟩) (fun c37 => ?_) (fun c => absurd (show _ from by omega) c)
    refine wq_cN (m := 0) rfl rfl ?_
    refine wq_nret rfl (by decide) ?_
    exact K0 σ1 hF1 hC1 hT1 hP1 hfr
  | succ m ih =>
    intro u hm σ1 hF1 hC1 hS1 hT1 hP1 hfr
    refine wq_go rfl (fun _ => rfl) ?_
    refine wq_go rfl (fun _ => rfl) ?_
    refine wq_getf rfl (by first | rfl | assumption) (by first | decide | omega | assumption) (cw_c40 hC1) rfl ?_
    refine wq_getf rfl (by first | rfl | assumption) (by first | decide | omega | assumption) (cw_c21 hC1) rfl ?_
    refine wq_cge rfl (by first | omega | decide | exact Nat.lt_of_le_of_lt Nat.and_le_right (by decide) | exact ⟨by omega, by omega⟩) (by first | omega | decide | exact Nat.lt_of_le_of_lt Nat.and_le_right (by decide) | exact ⟨by omega, by omega⟩) (fun c => absurd c (by omega)) (fun c37 => ?_)
    refine wq_go rfl (fun _ => rfl) ?_
    refine wq_go rfl (fun _ => rfl) ?_
    refine wq_cN (m := 0) rfl rfl ?_
    refine wq_go rfl (fun _ => rfl) ?_
    exact wq_lv ⟨(by decide : ([8, 7, 6, 0, 1, 2, 3, 4, 5] : List Nat).Nodup), (lvm (List.mem_of_getElem? (i := 0) rfl) (lvm (List.mem_of_getElem? (i := 1) rfl) (lvm (List.mem_of_getElem? (i := 2) rfl) (lvm (List.mem_of_getElem? (i := 3) rfl) (lvm (List.mem_of_getElem? (i := 4) rfl) (lvm (List.mem_of_getElem? (i := 5) rfl) (lvm (List.mem_of_getElem? (i := 6) rfl) (lvm (List.mem_of_getElem? (i := 7) rfl) (lvm (List.mem_of_getElem? (i := 8) rfl) lvn)))))))))⟩ (c_fs_i (σ := σ1) hk hP hok hh ht hdd hn hkd hkn hR (s := u) (by omega) (fun l σ5 F5 C5 T5 P5 e5 q5 => K1 l σ5 (fr_trans hF1 F5) C5 T5 (pathK_tr hP1 P5 (Nat.le_refl _)) (frH_y hfr e5) q5) (fun σ5 F5 C5 S5 T5 P5 e5 => ih (u + 1) (by omega) σ5 (fr_trans hF1 F5) C5 S5 T5 (pathK_tr hP1 P5 (Nat.le_refl _)) (frH_n hfr e5)) (Pch P) 0 rfl σ1 (fr_refl _ _) hC1 hS1 hT1 (fun _ _ => rfl) rfl)
theorem fs_s {P : Pl} {h t : Nat} (hh : h < Phd P) (ht : t < 4) {dd n : Nat} (hdd : dd < 2) (hn : dd + n < 3) (hR : FSok P h t (n + 1) (dd + 1)) : FSok P h t (n + 2) dd := by
  intro xs d σ Q k S hk hkd hS hC hok hT K1 K0
  rcases (show dd = 0 ∨ dd = 1 by omega) with e | e
  · subst e
    refine wq_go rfl (fun _ => rfl) ?_
    refine wq_zlt rfl (by first | omega | decide | exact Nat.lt_of_le_of_lt Nat.and_le_right (by decide) | exact ⟨by omega, by omega⟩) (fun c => absurd c (by omega)) (fun c1 => ?_)
    refine wq_go rfl (fun _ => rfl) ?_
    refine wq_go rfl (fun _ => rfl) ?_
    refine wq_getf rfl (by first | rfl | assumption) (by first | decide | omega | assumption) (cw_c40 hC) rfl ?_
    refine wq_alen rfl (by first | rfl | assumption) (by first | decide | omega | assumption) rfl (cw_c47 hC) (arr_len _ _) ?_
    refine wq_cge rfl (by first | omega | decide | exact Nat.lt_of_le_of_lt Nat.and_le_right (by decide) | exact ⟨by omega, by omega⟩) (by first | omega | decide | exact Nat.lt_of_le_of_lt Nat.and_le_right (by decide) | exact ⟨by omega, by omega⟩) (fun c => absurd c (by omega)) (fun c6 => ?_)
    refine wq_go rfl (fun _ => rfl) ?_
    refine wq_go rfl (fun _ => rfl) ?_
    refine wq_cge rfl (by first | omega | decide | exact Nat.lt_of_le_of_lt Nat.and_le_right (by decide) | exact ⟨by omega, by omega⟩) (by first | omega | decide | exact Nat.lt_of_le_of_lt Nat.and_le_right (by decide) | exact ⟨by omega, by omega⟩) (fun c => absurd c (by omega)) (fun c9 => ?_)
    refine wq_go rfl (fun _ => rfl) ?_
    refine wq_go rfl (fun _ => rfl) ?_
    refine wq_go rfl (fun _ => rfl) ?_
    refine wq_go rfl (fun _ => rfl) ?_
    refine wq_cN (m := 1) rfl rfl ?_
    refine wq_subN rfl (by omega) ?_
    refine wq_cne rfl (by first | omega | decide | exact Nat.lt_of_le_of_lt Nat.and_le_right (by decide) | exact ⟨by omega, by omega⟩) (by first | omega | decide | exact Nat.lt_of_le_of_lt Nat.and_le_right (by decide) | exact ⟨by omega, by omega⟩) (fun c18 => ?_) (fun c => absurd (show _ from by omega) c)
    refine wq_go rfl (fun _ => rfl) ?_
    refine wq_getf rfl (by first | rfl | assumption) (by first | decide | omega | assumption) (cw_c40 hC) rfl ?_
    refine wq_go rfl (fun _ => rfl) ?_
    refine wq_aald rfl (by first | rfl | assumption) (by first | decide | omega | assumption) (cw_c46 hC) rfl (by decide) (by first | decide | omega) rfl ?_
    refine wq_go rfl (fun _ => rfl) ?_
    refine wq_cN (m := 0) rfl rfl ?_
    refine wq_go rfl (fun _ => rfl) ?_
    exact c_fs_o (dd := 0) (kn := 48) hk (cw_pok hC) hok hh ht (by omega) (by omega) hkd (by omega) hR K1 K0 (Phd P) 0 rfl σ (fr_refl _ _) hC hS hT (fun _ _ => rfl) rfl
  · subst e
    refine wq_go rfl (fun _ => rfl) ?_
    refine wq_zlt rfl (by first | omega | decide | exact Nat.lt_of_le_of_lt Nat.and_le_right (by decide) | exact ⟨by omega, by omega⟩) (fun c => absurd c (by omega)) (fun c1 => ?_)
    refine wq_go rfl (fun _ => rfl) ?_
    refine wq_go rfl (fun _ => rfl) ?_
    refine wq_getf rfl (by first | rfl | assumption) (by first | decide | omega | assumption) (cw_c40 hC) rfl ?_
    refine wq_alen rfl (by first | rfl | assumption) (by first | decide | omega | assumption) rfl (cw_c47 hC) (arr_len _ _) ?_
    refine wq_cge rfl (by first | omega | decide | exact Nat.lt_of_le_of_lt Nat.and_le_right (by decide) | exact ⟨by omega, by omega⟩) (by first | omega | decide | exact Nat.lt_of_le_of_lt Nat.and_le_right (by decide) | exact ⟨by omega, by omega⟩) (fun c => absurd c (by omega)) (fun c6 => ?_)
    refine wq_go rfl (fun _ => rfl) ?_
    refine wq_go rfl (fun _ => rfl) ?_
    refine wq_cge rfl (by first | omega | decide | exact Nat.lt_of_le_of_lt Nat.and_le_right (by decide) | exact ⟨by omega, by omega⟩) (by first | omega | decide | exact Nat.lt_of_le_of_lt Nat.and_le_right (by decide) | exact ⟨by omega, by omega⟩) (fun c => absurd c (by omega)) (fun c9 => ?_)
    refine wq_go rfl (fun _ => rfl) ?_
    refine wq_go rfl (fun _ => rfl) ?_
    refine wq_go rfl (fun _ => rfl) ?_
    refine wq_go rfl (fun _ => rfl) ?_
    refine wq_cN (m := 1) rfl rfl ?_
    refine wq_subN rfl (by omega) ?_
    refine wq_cne rfl (by first | omega | decide | exact Nat.lt_of_le_of_lt Nat.and_le_right (by decide) | exact ⟨by omega, by omega⟩) (by first | omega | decide | exact Nat.lt_of_le_of_lt Nat.and_le_right (by decide) | exact ⟨by omega, by omega⟩) (fun c18 => ?_) (fun c => absurd (show _ from by omega) c)
    refine wq_go rfl (fun _ => rfl) ?_
    refine wq_getf rfl (by first | rfl | assumption) (by first | decide | omega | assumption) (cw_c40 hC) rfl ?_
    refine wq_go rfl (fun _ => rfl) ?_
    refine wq_aald rfl (by first | rfl | assumption) (by first | decide | omega | assumption) (cw_c46 hC) rfl (by decide) (by first | decide | omega) rfl ?_
    refine wq_go rfl (fun _ => rfl) ?_
    refine wq_cN (m := 0) rfl rfl ?_
    refine wq_go rfl (fun _ => rfl) ?_
    exact c_fs_o (dd := 1) (kn := 53) hk (cw_pok hC) hok hh ht (by omega) (by omega) hkd (by omega) hR K1 K0 (Phd P) 0 rfl σ (fr_refl _ _) hC hS hT (fun _ _ => rfl) rfl
def fewI (P : Pl) (S : St) (h t : Nat) : Int32 := if says1 S (Psa P) h t = true then 0 else match fnd P h t 1 S with
  | some _ => 1
  | none => match fnd P h t 2 S with
    | some _ => 2
    | none => match fnd P h t 3 S with
      | some _ => 3
      | none => -2
def fewL (P : Pl) (S : St) (h t : Nat) : List Nat := if says1 S (Psa P) h t = true then [] else match fnd P h t 1 S with
  | some l => l
  | none => match fnd P h t 2 S with
    | some l => l
    | none => match fnd P h t 3 S with
      | some l => l
      | none => []
theorem fs_2 {P : Pl} {h t : Nat} (hh : h < Phd P) (ht : t < 4) {dd : Nat} (hdd : dd < 2) : FSok P h t 2 dd := fs_s (n := 0) hh ht hdd (by omega) (fs_1 hh ht (by omega))
theorem fs_3 {P : Pl} {h t : Nat} (hh : h < Phd P) (ht : t < 4) : FSok P h t 3 0 := fs_s (n := 1) hh ht (by omega) (by omega) (fs_2 hh ht (by omega))


theorem c_fewest {xs : List Int32} {d : Nat} {σ : Nat → List Value} {Q : Option Value → (Nat → List Value) → Prop} {S : St} (hS : StIs σ 35 S) {P : Pl} (hC : CW P σ) (hok : Sok S) (hT : Sts σ 0) {h t : Nat} (hh : h < Phd P) (ht : t < 4) (K : ∀ σ', Fr (xF 0) σ σ' → CW P σ' → Sts σ' 0 → (∀ i, i < (fewL P S h t).length → ag σ' 47 i = nI ((fewL P S h t).getD i 0)) → Q (some (.int (fewI P S h t))) σ') : Wq xs (d + 7) ax_cd146 0 [(0, .ref 40), (1, .int (nI h)), (2, .int (nI t))] [] σ Q := by
  have hPk := cw_pok hC
  obtain ⟨hP1, hP2, hP3, hP4, hP5, hP6, hP7, hP8, hPv, hPm, hPo, hPw, hPl⟩ := hPk
  have hhr := hok.2.1
  have hbo := ow_le hok (i := h * 4 + t) (by omega)
  refine wq_go rfl (fun _ => rfl) ?_
  refine wq_getf rfl (by first | rfl | assumption) (by first | decide | omega | assumption) (cw_c40 hC) rfl ?_
  refine wq_go rfl (fun _ => rfl) ?_
  refine wq_go rfl (fun _ => rfl) ?_
  refine wq_callV rfl rfl (by first | rfl | assumption) (by first | decide | omega | assumption) (Nat.le_of_ble_eq_true rfl) (Nat.le_of_ble_eq_true rfl) rfl rfl ?_
  refine c_State_own k35 hS (by omega) (by omega) ?_
  refine wq_go rfl (fun _ => rfl) ?_
  refine wq_getf rfl (by first | rfl | assumption) (by first | decide | omega | assumption) (cw_c40 hC) rfl ?_
  refine wq_getf rfl (by first | rfl | assumption) (by first | decide | omega | assumption) (cw_c21 hC) rfl ?_
  refine wq_clt rfl (by first | omega | decide | exact Nat.lt_of_le_of_lt Nat.and_le_right (by decide) | exact ⟨by omega, by omega⟩) (by first | omega | decide | exact Nat.lt_of_le_of_lt Nat.and_le_right (by decide) | exact ⟨by omega, by omega⟩) (fun c8 => ?_) (fun c8 => ?_)
  · skip
    have hsy : ¬ says1 S (Psa P) h t = true := fun e => absurd (of_decide_eq_true e) (by omega)
    refine wq_cN (m := 1) rfl rfl ?_
    refine wq_go rfl (fun _ => rfl) ?_
    refine wq_go rfl (fun _ => rfl) ?_
    refine wq_cN (m := 3) rfl rfl ?_
    refine wq_cgt rfl (by first | omega | decide | exact Nat.lt_of_le_of_lt Nat.and_le_right (by decide) | exact ⟨by omega, by omega⟩) (by first | omega | decide | exact Nat.lt_of_le_of_lt Nat.and_le_right (by decide) | exact ⟨by omega, by omega⟩) (fun c => absurd c (by omega)) (fun c15 => ?_)
    refine wq_go rfl (fun _ => rfl) ?_
    refine wq_go rfl (fun _ => rfl) ?_
    refine wq_getf rfl (by first | rfl | assumption) (by first | decide | omega | assumption) (cw_c40 hC) rfl ?_
    refine wq_go rfl (fun _ => rfl) ?_
    refine wq_go rfl (fun _ => rfl) ?_
    refine wq_cN (m := 0) rfl rfl ?_
    refine wq_go rfl (fun _ => rfl) ?_
    refine wq_callV rfl rfl (by first | rfl | assumption) (by first | decide | omega | assumption) (Nat.le_of_ble_eq_true rfl) (Nat.le_of_ble_eq_true rfl) rfl rfl ?_
    refine fs_1 hh ht (dd := 0) (by omega) xs (d + 2) _ _ 35 S rfl (by omega) hS hC hok hT (fun l σ4 F4 C4 T4 P4 e1 q1 => ?_) (fun σ4 F4 C4 T4 P4 e1 => ?_)
    · skip
      refine wq_zeq rfl (by omega) (fun c => absurd c (by omega)) (fun c => ?_)
      refine wq_go rfl (fun _ => rfl) ?_
      refine wq_iret rfl ?_
      have hI : fewI P S h t = nI 1 := (by unfold fewI; rw [if_neg hsy, e1] <;> rfl)
      have hL : fewL P S h t = l := (by unfold fewL; rw [if_neg hsy, e1] <;> rfl)
      rw [← hI]
      exact K σ4 (fr_trans (fr_refl (xF 0) σ) F4) C4 T4 (by rw [hL]; intro i hi; have := q1 i hi; rw [Nat.zero_add] at this; exact this)
    refine wq_zeq rfl (by omega) (fun c => ?_) (fun c => absurd rfl c)
    have S4 := st_F k35 (by omega) F4 hS
    refine wq_incN rfl rfl rfl ?_
    refine wq_go rfl (fun _ => rfl) ?_
    refine wq_go rfl (fun _ => rfl) ?_
    refine wq_cN (m := 3) rfl rfl ?_
    refine wq_cgt rfl (by first | omega | decide | exact Nat.lt_of_le_of_lt Nat.and_le_right (by decide) | exact ⟨by omega, by omega⟩) (by first | omega | decide | exact Nat.lt_of_le_of_lt Nat.and_le_right (by decide) | exact ⟨by omega, by omega⟩) (fun c => absurd c (by omega)) (fun c15 => ?_)
    refine wq_go rfl (fun _ => rfl) ?_
    refine wq_go rfl (fun _ => rfl) ?_
    refine wq_getf rfl (by first | rfl | assumption) (by first | decide | omega | assumption) (cw_c40 C4) rfl ?_
    refine wq_go rfl (fun _ => rfl) ?_
    refine wq_go rfl (fun _ => rfl) ?_
    refine wq_cN (m := 0) rfl rfl ?_
    refine wq_go rfl (fun _ => rfl) ?_
    refine wq_callV rfl rfl (by first | rfl | assumption) (by first | decide | omega | assumption) (Nat.le_of_ble_eq_true rfl) (Nat.le_of_ble_eq_true rfl) rfl rfl ?_
    refine fs_2 hh ht (dd := 0) (by omega) xs (d + 1) _ _ 35 S rfl (by omega) S4 C4 hok T4 (fun l σ5 F5 C5 T5 P5 e2 q2 => ?_) (fun σ5 F5 C5 T5 P5 e2 => ?_)
    · skip
      refine wq_zeq rfl (by omega) (fun c => absurd c (by omega)) (fun c => ?_)
      refine wq_go rfl (fun _ => rfl) ?_
      refine wq_iret rfl ?_
      have hI : fewI P S h t = nI 2 := (by unfold fewI; rw [if_neg hsy, e1, e2] <;> rfl)
      have hL : fewL P S h t = l := (by unfold fewL; rw [if_neg hsy, e1, e2] <;> rfl)
      rw [← hI]
      exact K σ5 (fr_trans (fr_trans (fr_refl (xF 0) σ) F4) F5) C5 T5 (by rw [hL]; intro i hi; have := q2 i hi; rw [Nat.zero_add] at this; exact this)
    refine wq_zeq rfl (by omega) (fun c => ?_) (fun c => absurd rfl c)
    have S5 := st_F k35 (by omega) F5 S4
    refine wq_incN rfl rfl rfl ?_
    refine wq_go rfl (fun _ => rfl) ?_
    refine wq_go rfl (fun _ => rfl) ?_
    refine wq_cN (m := 3) rfl rfl ?_
    refine wq_cgt rfl (by first | omega | decide | exact Nat.lt_of_le_of_lt Nat.and_le_right (by decide) | exact ⟨by omega, by omega⟩) (by first | omega | decide | exact Nat.lt_of_le_of_lt Nat.and_le_right (by decide) | exact ⟨by omega, by omega⟩) (fun c => absurd c (by omega)) (fun c15 => ?_)
    refine wq_go rfl (fun _ => rfl) ?_
    refine wq_go rfl (fun _ => rfl) ?_
    refine wq_getf rfl (by first | rfl | assumption) (by first | decide | omega | assumption) (cw_c40 C5) rfl ?_
    refine wq_go rfl (fun _ => rfl) ?_
    refine wq_go rfl (fun _ => rfl) ?_
    refine wq_cN (m := 0) rfl rfl ?_
    refine wq_go rfl (fun _ => rfl) ?_
    refine wq_callV rfl rfl (by first | rfl | assumption) (by first | decide | omega | assumption) (Nat.le_of_ble_eq_true rfl) (Nat.le_of_ble_eq_true rfl) rfl rfl ?_
    refine fs_3 hh ht xs d _ _ 35 S rfl (by omega) S5 C5 hok T5 (fun l σ6 F6 C6 T6 P6 e3 q3 => ?_) (fun σ6 F6 C6 T6 P6 e3 => ?_)
    · skip
      refine wq_zeq rfl (by omega) (fun c => absurd c (by omega)) (fun c => ?_)
      refine wq_go rfl (fun _ => rfl) ?_
      refine wq_iret rfl ?_
      have hI : fewI P S h t = nI 3 := (by unfold fewI; rw [if_neg hsy, e1, e2, e3] <;> rfl)
      have hL : fewL P S h t = l := (by unfold fewL; rw [if_neg hsy, e1, e2, e3] <;> rfl)
      rw [← hI]
      exact K σ6 (fr_trans (fr_trans (fr_trans (fr_refl (xF 0) σ) F4) F5) F6) C6 T6 (by rw [hL]; intro i hi; have := q3 i hi; rw [Nat.zero_add] at this; exact this)
    refine wq_zeq rfl (by omega) (fun c => ?_) (fun c => absurd rfl c)
    have S6 := st_F k35 (by omega) F6 S5
    refine wq_incN rfl rfl rfl ?_
    refine wq_go rfl (fun _ => rfl) ?_
    refine wq_go rfl (fun _ => rfl) ?_
    refine wq_cN (m := 3) rfl rfl ?_
    refine wq_cgt rfl (by first | omega | decide | exact Nat.lt_of_le_of_lt Nat.and_le_right (by decide) | exact ⟨by omega, by omega⟩) (by first | omega | decide | exact Nat.lt_of_le_of_lt Nat.and_le_right (by decide) | exact ⟨by omega, by omega⟩) (fun c15 => ?_) (fun c => absurd (show _ from by omega) c)
    refine wq_go rfl (fun _ => rfl) ?_
    refine wq_iret rfl ?_
    have hI : fewI P S h t = -2 := by unfold fewI; rw [if_neg hsy, e1, e2, e3] <;> rfl
    have hL : fewL P S h t = [] := by unfold fewL; rw [if_neg hsy, e1, e2, e3] <;> rfl
    have K' := K σ6 (fr_trans (fr_trans (fr_trans (fr_refl (xF 0) σ) F4) F5) F6) C6 T6 (by rw [hL]; intro i hi; exact absurd hi (Nat.not_lt_zero _))
    rw [hI] at K'
    exact K'
  · skip
    refine wq_cN (m := 0) rfl rfl ?_
    refine wq_iret rfl ?_
    have hsy : says1 S (Psa P) h t = true := decide_eq_true (by omega)
    have hI : fewI P S h t = nI 0 := by unfold fewI; rw [if_pos hsy] <;> rfl
    rw [← hI]
    exact K σ (fr_refl _ _) hC hT (by unfold fewL; rw [if_pos hsy]; intro i hi; exact absurd hi (Nat.not_lt_zero _))
theorem c_Foresight_sittingAt {xs : List Int32} {d : Nat} {σ : Nat → List Value} {Q : Option Value → (Nat → List Value) → Prop} {P : Pl} (hC : CW P σ) {i : Nat} (hi : i < 3) (K : Q (some (.int (ag σ 47 i))) σ) : Wq xs (d + 0) ax_cd149 0 [(0, .ref 40), (1, .int (nI i))] [] σ Q := by
  refine wq_go rfl (fun _ => rfl) ?_
  refine wq_zlt rfl (by first | omega | decide | exact Nat.lt_of_le_of_lt Nat.and_le_right (by decide) | exact ⟨by omega, by omega⟩) (fun c => absurd c (by omega)) (fun c1 => ?_)
  refine wq_go rfl (fun _ => rfl) ?_
  refine wq_go rfl (fun _ => rfl) ?_
  refine wq_getf rfl (by first | rfl | assumption) (by first | decide | omega | assumption) (cw_c40 hC) rfl ?_
  refine wq_alen rfl (by first | rfl | assumption) (by first | decide | omega | assumption) rfl (cw_c47 hC) (arr_len _ _) ?_
  refine wq_cge rfl (by first | omega | decide | exact Nat.lt_of_le_of_lt Nat.and_le_right (by decide) | exact ⟨by omega, by omega⟩) (by first | omega | decide | exact Nat.lt_of_le_of_lt Nat.and_le_right (by decide) | exact ⟨by omega, by omega⟩) (fun c => absurd c (by omega)) (fun c6 => ?_)
  refine wq_go rfl (fun _ => rfl) ?_
  refine wq_getf rfl (by first | rfl | assumption) (by first | decide | omega | assumption) (cw_c40 hC) rfl ?_
  refine wq_go rfl (fun _ => rfl) ?_
  refine wq_iald rfl (by first | rfl | assumption) (by first | decide | omega | assumption) (cw_c47 hC) rfl (by omega) (by first | decide | omega) ?_
  refine wq_go rfl (fun _ => rfl) ?_
  refine wq_iret rfl ?_
  exact K
