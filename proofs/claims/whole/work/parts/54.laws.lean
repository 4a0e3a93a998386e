/-! LAWS -/
def Vsit (P : Pl) (S : St) (h c t : Nat) : Nat → Nat
  | 0 => Pme P c
  | 1 => Poi P h
  | 2 => t
  | 3 => Ssq S (c * 4 + t)
  | 4 => Sow S (h * 4 + t)
  | 5 => Shr S % 24
  | 6 => Ssi S c
  | 7 => h
  | _ => s4 (Ssq S) (c * 4)
def Vwash (P : Pl) (S : St) (c t : Nat) : Nat → Nat
  | 0 => Pme P c
  | 1 => 0
  | 2 => t
  | 3 => Ssq S (c * 4 + t)
  | 4 => 0
  | 5 => Shr S % 24
  | 6 => Ssi S c
  | 7 => c
  | _ => s4 (Ssq S) (c * 4)
def Vfade (P : Pl) (S : St) (h t : Nat) : Nat → Nat
  | 0 => 0
  | 1 => Poi P h
  | 2 => t
  | 3 => 0
  | 4 => Sow S (h * 4 + t)
  | 5 => Shr S % 24
  | 6 => Ssb S h
  | 7 => h
  | _ => s4 (Sow S) (h * 4)
theorem cw_u34 {P : Pl} {σ : Nat → List Value} {f : Nat → Int32} (h : CW P σ) : CW P (up σ 34 (arr 9 f)) :=
  cw_fr h (fr_up (fr_refl x34 σ) rfl) (by decide) (isA_eq (up_ne _ _ (by decide)) (cw_c31 h)) (isA_eq (up_ne _ _ (by decide)) (cw_c33 h)) (isA_of (up_same _ _ _)) (isA_eq (up_ne _ _ (by decide)) (cw_c47 h))
theorem cw_u33 {P : Pl} {σ : Nat → List Value} {f : Nat → Int32} (h : CW P σ) : CW P (up σ 33 (arr 32 f)) :=
  cw_fr h (fr_up (fr_refl x33 σ) rfl) (by decide) (isA_eq (up_ne _ _ (by decide)) (cw_c31 h)) (isA_of (up_same _ _ _)) (isA_eq (up_ne _ _ (by decide)) (cw_c34 h)) (isA_eq (up_ne _ _ (by decide)) (cw_c47 h))
theorem cw_u31 {P : Pl} {σ : Nat → List Value} {f : Nat → Int32} (h : CW P σ) : CW P (up σ 31 (arr 4 f)) :=
  cw_fr (X := fun j => j == 31) h (fr_up (fr_refl _ σ) rfl) (by decide) (isA_of (up_same _ _ _)) (isA_eq (up_ne _ _ (by decide)) (cw_c33 h)) (isA_eq (up_ne _ _ (by decide)) (cw_c34 h)) (isA_eq (up_ne _ _ (by decide)) (cw_c47 h))
theorem st_ne {σ : Nat → List Value} {k q : Nat} {S : St} {vs : List Value} (hS : StIs σ k S) (hq : q < k ∨ k + 4 < q) : StIs (up σ q vs) k S := by
  obtain ⟨h0, h1, h2, h3, h4⟩ := hS
  exact ⟨(up_ne _ _ (by omega)).trans h0, (up_ne _ _ (by omega)).trans h1, (up_ne _ _ (by omega)).trans h2, (up_ne _ _ (by omega)).trans h3, (up_ne _ _ (by omega)).trans h4⟩
theorem st_u34 {σ : Nat → List Value} {k : Nat} {S : St} {vs : List Value} (hk : kd k = .inr 7) (hS : StIs σ k S) : StIs (up σ 34 vs) k S := st_ne hS (by have := St_rng hk; omega)
theorem st_u33 {σ : Nat → List Value} {k : Nat} {S : St} {vs : List Value} (hk : kd k = .inr 7) (hS : StIs σ k S) : StIs (up σ 33 vs) k S := st_ne hS (by have := St_rng hk; omega)
theorem st_u31 {σ : Nat → List Value} {k : Nat} {S : St} {vs : List Value} (hk : kd k = .inr 7) (hS : StIs σ k S) : StIs (up σ 31 vs) k S := st_ne hS (by have := St_rng hk; omega)

theorem c_Laws_setSitting {xs : List Int32} {d : Nat} {σ : Nat → List Value} {Q : Option Value → (Nat → List Value) → Prop} {k : Nat} {S : St} (hk : kd k = .inr 7) (hS : StIs σ k S) {P : Pl} (hC : CW P σ) (hok : Sok S) {h c t : Nat} (hh : h < Phd P) (hc : c < Pch P) (ht : t < 4) (K : ∀ σ', Fr x34 σ σ' → σ' 34 = arrN 9 (Vsit P S h c t) → Q none σ') : Wq xs (d + 1) ax_cd105 0 [(0, .ref 32), (1, .ref k), (2, .int (nI h)), (3, .int (nI c)), (4, .int (nI t))] [] σ Q := by
  obtain ⟨hk1, hk2, hk3, hk4, hk5⟩ := St_k hk
  have hkr := St_rng hk
  have hPk := cw_pok hC
  obtain ⟨hP1, hP2, hP3, hP4, hP5, hP6, hP7, hP8, hPv, hPm, hPo, hPw, hPl⟩ := hPk
  have hhr := hok.2.1
  refine wq_go rfl (fun _ => rfl) ?_
  refine wq_getf rfl (by first | rfl | assumption) (by first | decide | omega | assumption) (cw_c32 hC) rfl ?_
  refine wq_cN (m := 0) rfl rfl ?_
  refine wq_go rfl (fun _ => rfl) ?_
  refine wq_getf rfl (by first | rfl | assumption) (by first | decide | omega | assumption) (cw_c32 hC) rfl ?_
  refine wq_go rfl (fun _ => rfl) ?_
  refine wq_callV rfl rfl (by first | rfl | assumption) (by first | decide | omega | assumption) (Nat.le_of_ble_eq_true rfl) (Nat.le_of_ble_eq_true rfl) rfl rfl ?_
  refine c_Plan_meshOf hC (by first | assumption | omega | decide) ?_
  refine wq_iast rfl (by first | rfl | assumption) (by first | decide | omega | assumption) (cw_c34 hC) rfl (by omega) (by first | decide | omega) ?_
  refine wq_go rfl (fun _ => rfl) ?_
  refine wq_getf rfl (by first | rfl | assumption) (by first | decide | omega | assumption) (cw_c32 (cw_u34 hC)) rfl ?_
  refine wq_cN (m := 1) rfl rfl ?_
  refine wq_go rfl (fun _ => rfl) ?_
  refine wq_getf rfl (by first | rfl | assumption) (by first | decide | omega | assumption) (cw_c32 (cw_u34 hC)) rfl ?_
  refine wq_go rfl (fun _ => rfl) ?_
  refine wq_callV rfl rfl (by first | rfl | assumption) (by first | decide | omega | assumption) (Nat.le_of_ble_eq_true rfl) (Nat.le_of_ble_eq_true rfl) rfl rfl ?_
  refine c_Plan_oilOf (cw_u34 hC) (by first | assumption | omega | decide) ?_
  refine wq_iast rfl (by first | rfl | assumption) (by first | decide | omega | assumption) (up_same _ _ _) rfl (by omega) (by first | decide | omega) ?_
  rw [up_up]
  refine wq_go rfl (fun _ => rfl) ?_
  refine wq_getf rfl (by first | rfl | assumption) (by first | decide | omega | assumption) (cw_c32 (cw_u34 hC)) rfl ?_
  refine wq_cN (m := 2) rfl rfl ?_
  refine wq_go rfl (fun _ => rfl) ?_
  refine wq_iast rfl (by first | rfl | assumption) (by first | decide | omega | assumption) (up_same _ _ _) rfl (by omega) (by first | decide | omega) ?_
  rw [up_up]
  refine wq_go rfl (fun _ => rfl) ?_
  refine wq_getf rfl (by first | rfl | assumption) (by first | decide | omega | assumption) (cw_c32 (cw_u34 hC)) rfl ?_
  refine wq_cN (m := 3) rfl rfl ?_
  refine wq_go rfl (fun _ => rfl) ?_
  refine wq_go rfl (fun _ => rfl) ?_
  refine wq_go rfl (fun _ => rfl) ?_
  refine wq_callV rfl rfl (by first | rfl | assumption) (by first | decide | omega | assumption) (Nat.le_of_ble_eq_true rfl) (Nat.le_of_ble_eq_true rfl) rfl rfl ?_
  refine c_State_cloth hk (st_u34 hk hS) (by first | assumption | omega | decide) (by first | assumption | omega | decide) ?_
  refine wq_iast rfl (by first | rfl | assumption) (by first | decide | omega | assumption) (up_same _ _ _) rfl (by omega) (by first | decide | omega) ?_
  rw [up_up]
  refine wq_go rfl (fun _ => rfl) ?_
  refine wq_getf rfl (by first | rfl | assumption) (by first | decide | omega | assumption) (cw_c32 (cw_u34 hC)) rfl ?_
  refine wq_cN (m := 4) rfl rfl ?_
  refine wq_go rfl (fun _ => rfl) ?_
  refine wq_go rfl (fun _ => rfl) ?_
  refine wq_go rfl (fun _ => rfl) ?_
  refine wq_callV rfl rfl (by first | rfl | assumption) (by first | decide | omega | assumption) (Nat.le_of_ble_eq_true rfl) (Nat.le_of_ble_eq_true rfl) rfl rfl ?_
  refine c_State_own hk (st_u34 hk hS) (by first | assumption | omega | decide) (by first | assumption | omega | decide) ?_
  refine wq_iast rfl (by first | rfl | assumption) (by first | decide | omega | assumption) (up_same _ _ _) rfl (by omega) (by first | decide | omega) ?_
  rw [up_up]
  refine wq_go rfl (fun _ => rfl) ?_
  refine wq_getf rfl (by first | rfl | assumption) (by first | decide | omega | assumption) (cw_c32 (cw_u34 hC)) rfl ?_
  refine wq_cN (m := 5) rfl rfl ?_
  refine wq_go rfl (fun _ => rfl) ?_
  refine wq_callV rfl rfl (by first | rfl | assumption) (by first | decide | omega | assumption) (Nat.le_of_ble_eq_true rfl) (Nat.le_of_ble_eq_true rfl) rfl rfl ?_
  refine c_State_hourOfDay hk (st_u34 hk hS) (by first | assumption | omega | decide) ?_
  refine wq_iast rfl (by first | rfl | assumption) (by first | decide | omega | assumption) (up_same _ _ _) rfl (by omega) (by first | decide | omega) ?_
  rw [up_up]
  refine wq_go rfl (fun _ => rfl) ?_
  refine wq_getf rfl (by first | rfl | assumption) (by first | decide | omega | assumption) (cw_c32 (cw_u34 hC)) rfl ?_
  refine wq_cN (m := 6) rfl rfl ?_
  refine wq_go rfl (fun _ => rfl) ?_
  refine wq_go rfl (fun _ => rfl) ?_
  refine wq_callV rfl rfl (by first | rfl | assumption) (by first | decide | omega | assumption) (Nat.le_of_ble_eq_true rfl) (Nat.le_of_ble_eq_true rfl) rfl rfl ?_
  refine c_State_satIn hk (st_u34 hk hS) (by first | assumption | omega | decide) ?_
  refine wq_iast rfl (by first | rfl | assumption) (by first | decide | omega | assumption) (up_same _ _ _) rfl (by omega) (by first | decide | omega) ?_
  rw [up_up]
  refine wq_go rfl (fun _ => rfl) ?_
  refine wq_getf rfl (by first | rfl | assumption) (by first | decide | omega | assumption) (cw_c32 (cw_u34 hC)) rfl ?_
  refine wq_cN (m := 7) rfl rfl ?_
  refine wq_go rfl (fun _ => rfl) ?_
  refine wq_iast rfl (by first | rfl | assumption) (by first | decide | omega | assumption) (up_same _ _ _) rfl (by omega) (by first | decide | omega) ?_
  rw [up_up]
  refine wq_go rfl (fun _ => rfl) ?_
  refine wq_getf rfl (by first | rfl | assumption) (by first | decide | omega | assumption) (cw_c32 (cw_u34 hC)) rfl ?_
  refine wq_cN (m := 8) rfl rfl ?_
  refine wq_go rfl (fun _ => rfl) ?_
  refine wq_go rfl (fun _ => rfl) ?_
  refine wq_callV rfl rfl (by first | rfl | assumption) (by first | decide | omega | assumption) (Nat.le_of_ble_eq_true rfl) (Nat.le_of_ble_eq_true rfl) rfl rfl ?_
  refine c_State_clothAll hk (st_u34 hk hS) (by first | assumption | omega | decide) ?_
  refine wq_iast rfl (by first | rfl | assumption) (by first | decide | omega | assumption) (up_same _ _ _) rfl (by omega) (by first | decide | omega) ?_
  rw [up_up]
  refine wq_end rfl (fun _ => rfl) ?_
  refine K _ (fr_up (fr_refl _ _) rfl) ((up_same _ _ _).trans (arr_congr (fun j hj => ?_)))
  match j, hj with
  | 0, _ => rfl
  | 1, _ => rfl
  | 2, _ => rfl
  | 3, _ => rfl
  | 4, _ => rfl
  | 5, _ => rfl
  | 6, _ => rfl
  | 7, _ => rfl
  | 8, _ => rfl
  | j + 9, hj => exact absurd hj (by omega)
theorem c_Laws_setWashing {xs : List Int32} {d : Nat} {σ : Nat → List Value} {Q : Option Value → (Nat → List Value) → Prop} {k : Nat} {S : St} (hk : kd k = .inr 7) (hS : StIs σ k S) {P : Pl} (hC : CW P σ) (hok : Sok S) {c t : Nat} (hc : c < Pch P) (ht : t < 4) (K : ∀ σ', Fr x34 σ σ' → σ' 34 = arrN 9 (Vwash P S c t) → Q none σ') : Wq xs (d + 1) ax_cd113 0 [(0, .ref 32), (1, .ref k), (2, .int (nI c)), (3, .int (nI t))] [] σ Q := by
  obtain ⟨hk1, hk2, hk3, hk4, hk5⟩ := St_k hk
  have hkr := St_rng hk
  have hPk := cw_pok hC
  obtain ⟨hP1, hP2, hP3, hP4, hP5, hP6, hP7, hP8, hPv, hPm, hPo, hPw, hPl⟩ := hPk
  have hhr := hok.2.1
  refine wq_go rfl (fun _ => rfl) ?_
  refine wq_getf rfl (by first | rfl | assumption) (by first | decide | omega | assumption) (cw_c32 hC) rfl ?_
  refine wq_cN (m := 0) rfl rfl ?_
  refine wq_go rfl (fun _ => rfl) ?_
  refine wq_getf rfl (by first | rfl | assumption) (by first | decide | omega | assumption) (cw_c32 hC) rfl ?_
  refine wq_go rfl (fun _ => rfl) ?_
  refine wq_callV rfl rfl (by first | rfl | assumption) (by first | decide | omega | assumption) (Nat.le_of_ble_eq_true rfl) (Nat.le_of_ble_eq_true rfl) rfl rfl ?_
  refine c_Plan_meshOf hC (by first | assumption | omega | decide) ?_
  refine wq_iast rfl (by first | rfl | assumption) (by first | decide | omega | assumption) (cw_c34 hC) rfl (by omega) (by first | decide | omega) ?_
  refine wq_go rfl (fun _ => rfl) ?_
  refine wq_getf rfl (by first | rfl | assumption) (by first | decide | omega | assumption) (cw_c32 (cw_u34 hC)) rfl ?_
  refine wq_cN (m := 1) rfl rfl ?_
  refine wq_cN (m := 0) rfl rfl ?_
  refine wq_iast rfl (by first | rfl | assumption) (by first | decide | omega | assumption) (up_same _ _ _) rfl (by omega) (by first | decide | omega) ?_
  rw [up_up]
  refine wq_go rfl (fun _ => rfl) ?_
  refine wq_getf rfl (by first | rfl | assumption) (by first | decide | omega | assumption) (cw_c32 (cw_u34 hC)) rfl ?_
  refine wq_cN (m := 2) rfl rfl ?_
  refine wq_go rfl (fun _ => rfl) ?_
  refine wq_iast rfl (by first | rfl | assumption) (by first | decide | omega | assumption) (up_same _ _ _) rfl (by omega) (by first | decide | omega) ?_
  rw [up_up]
  refine wq_go rfl (fun _ => rfl) ?_
  refine wq_getf rfl (by first | rfl | assumption) (by first | decide | omega | assumption) (cw_c32 (cw_u34 hC)) rfl ?_
  refine wq_cN (m := 3) rfl rfl ?_
  refine wq_go rfl (fun _ => rfl) ?_
  refine wq_go rfl (fun _ => rfl) ?_
  refine wq_go rfl (fun _ => rfl) ?_
  refine wq_callV rfl rfl (by first | rfl | assumption) (by first | decide | omega | assumption) (Nat.le_of_ble_eq_true rfl) (Nat.le_of_ble_eq_true rfl) rfl rfl ?_
  refine c_State_cloth hk (st_u34 hk hS) (by first | assumption | omega | decide) (by first | assumption | omega | decide) ?_
  refine wq_iast rfl (by first | rfl | assumption) (by first | decide | omega | assumption) (up_same _ _ _) rfl (by omega) (by first | decide | omega) ?_
  rw [up_up]
  refine wq_go rfl (fun _ => rfl) ?_
  refine wq_getf rfl (by first | rfl | assumption) (by first | decide | omega | assumption) (cw_c32 (cw_u34 hC)) rfl ?_
  refine wq_cN (m := 4) rfl rfl ?_
  refine wq_cN (m := 0) rfl rfl ?_
  refine wq_iast rfl (by first | rfl | assumption) (by first | decide | omega | assumption) (up_same _ _ _) rfl (by omega) (by first | decide | omega) ?_
  rw [up_up]
  refine wq_go rfl (fun _ => rfl) ?_
  refine wq_getf rfl (by first | rfl | assumption) (by first | decide | omega | assumption) (cw_c32 (cw_u34 hC)) rfl ?_
  refine wq_cN (m := 5) rfl rfl ?_
  refine wq_go rfl (fun _ => rfl) ?_
  refine wq_callV rfl rfl (by first | rfl | assumption) (by first | decide | omega | assumption) (Nat.le_of_ble_eq_true rfl) (Nat.le_of_ble_eq_true rfl) rfl rfl ?_
  refine c_State_hourOfDay hk (st_u34 hk hS) (by first | assumption | omega | decide) ?_
  refine wq_iast rfl (by first | rfl | assumption) (by first | decide | omega | assumption) (up_same _ _ _) rfl (by omega) (by first | decide | omega) ?_
  rw [up_up]
  refine wq_go rfl (fun _ => rfl) ?_
  refine wq_getf rfl (by first | rfl | assumption) (by first | decide | omega | assumption) (cw_c32 (cw_u34 hC)) rfl ?_
  refine wq_cN (m := 6) rfl rfl ?_
  refine wq_go rfl (fun _ => rfl) ?_
  refine wq_go rfl (fun _ => rfl) ?_
  refine wq_callV rfl rfl (by first | rfl | assumption) (by first | decide | omega | assumption) (Nat.le_of_ble_eq_true rfl) (Nat.le_of_ble_eq_true rfl) rfl rfl ?_
  refine c_State_satIn hk (st_u34 hk hS) (by first | assumption | omega | decide) ?_
  refine wq_iast rfl (by first | rfl | assumption) (by first | decide | omega | assumption) (up_same _ _ _) rfl (by omega) (by first | decide | omega) ?_
  rw [up_up]
  refine wq_go rfl (fun _ => rfl) ?_
  refine wq_getf rfl (by first | rfl | assumption) (by first | decide | omega | assumption) (cw_c32 (cw_u34 hC)) rfl ?_
  refine wq_cN (m := 7) rfl rfl ?_
  refine wq_go rfl (fun _ => rfl) ?_
  refine wq_iast rfl (by first | rfl | assumption) (by first | decide | omega | assumption) (up_same _ _ _) rfl (by omega) (by first | decide | omega) ?_
  rw [up_up]
  refine wq_go rfl (fun _ => rfl) ?_
  refine wq_getf rfl (by first | rfl | assumption) (by first | decide | omega | assumption) (cw_c32 (cw_u34 hC)) rfl ?_
  refine wq_cN (m := 8) rfl rfl ?_
  refine wq_go rfl (fun _ => rfl) ?_
  refine wq_go rfl (fun _ => rfl) ?_
  refine wq_callV rfl rfl (by first | rfl | assumption) (by first | decide | omega | assumption) (Nat.le_of_ble_eq_true rfl) (Nat.le_of_ble_eq_true rfl) rfl rfl ?_
  refine c_State_clothAll hk (st_u34 hk hS) (by first | assumption | omega | decide) ?_
  refine wq_iast rfl (by first | rfl | assumption) (by first | decide | omega | assumption) (up_same _ _ _) rfl (by omega) (by first | decide | omega) ?_
  rw [up_up]
  refine wq_end rfl (fun _ => rfl) ?_
  refine K _ (fr_up (fr_refl _ _) rfl) ((up_same _ _ _).trans (arr_congr (fun j hj => ?_)))
  match j, hj with
  | 0, _ => rfl
  | 1, _ => rfl
  | 2, _ => rfl
  | 3, _ => rfl
  | 4, _ => rfl
  | 5, _ => rfl
  | 6, _ => rfl
  | 7, _ => rfl
  | 8, _ => rfl
  | j + 9, hj => exact absurd hj (by omega)
theorem c_Laws_setFading {xs : List Int32} {d : Nat} {σ : Nat → List Value} {Q : Option Value → (Nat → List Value) → Prop} {k : Nat} {S : St} (hk : kd k = .inr 7) (hS : StIs σ k S) {P : Pl} (hC : CW P σ) (hok : Sok S) {h t : Nat} (hh : h < Phd P) (ht : t < 4) (K : ∀ σ', Fr x34 σ σ' → σ' 34 = arrN 9 (Vfade P S h t) → Q none σ') : Wq xs (d + 1) ax_cd115 0 [(0, .ref 32), (1, .ref k), (2, .int (nI h)), (3, .int (nI t))] [] σ Q := by
  obtain ⟨hk1, hk2, hk3, hk4, hk5⟩ := St_k hk
  have hkr := St_rng hk
  have hPk := cw_pok hC
  obtain ⟨hP1, hP2, hP3, hP4, hP5, hP6, hP7, hP8, hPv, hPm, hPo, hPw, hPl⟩ := hPk
  have hhr := hok.2.1
  refine wq_go rfl (fun _ => rfl) ?_
  refine wq_getf rfl (by first | rfl | assumption) (by first | decide | omega | assumption) (cw_c32 hC) rfl ?_
  refine wq_cN (m := 0) rfl rfl ?_
  refine wq_cN (m := 0) rfl rfl ?_
  refine wq_iast rfl (by first | rfl | assumption) (by first | decide | omega | assumption) (cw_c34 hC) rfl (by omega) (by first | decide | omega) ?_
  refine wq_go rfl (fun _ => rfl) ?_
  refine wq_getf rfl (by first | rfl | assumption) (by first | decide | omega | assumption) (cw_c32 (cw_u34 hC)) rfl ?_
  refine wq_cN (m := 1) rfl rfl ?_
  refine wq_go rfl (fun _ => rfl) ?_
  refine wq_getf rfl (by first | rfl | assumption) (by first | decide | omega | assumption) (cw_c32 (cw_u34 hC)) rfl ?_
  refine wq_go rfl (fun _ => rfl) ?_
  refine wq_callV rfl rfl (by first | rfl | assumption) (by first | decide | omega | assumption) (Nat.le_of_ble_eq_true rfl) (Nat.le_of_ble_eq_true rfl) rfl rfl ?_
  refine c_Plan_oilOf (cw_u34 hC) (by first | assumption | omega | decide) ?_
  refine wq_iast rfl (by first | rfl | assumption) (by first | decide | omega | assumption) (up_same _ _ _) rfl (by omega) (by first | decide | omega) ?_
  rw [up_up]
  refine wq_go rfl (fun _ => rfl) ?_
  refine wq_getf rfl (by first | rfl | assumption) (by first | decide | omega | assumption) (cw_c32 (cw_u34 hC)) rfl ?_
  refine wq_cN (m := 2) rfl rfl ?_
  refine wq_go rfl (fun _ => rfl) ?_
  refine wq_iast rfl (by first | rfl | assumption) (by first | decide | omega | assumption) (up_same _ _ _) rfl (by omega) (by first | decide | omega) ?_
  rw [up_up]
  refine wq_go rfl (fun _ => rfl) ?_
  refine wq_getf rfl (by first | rfl | assumption) (by first | decide | omega | assumption) (cw_c32 (cw_u34 hC)) rfl ?_
  refine wq_cN (m := 3) rfl rfl ?_
  refine wq_cN (m := 0) rfl rfl ?_
  refine wq_iast rfl (by first | rfl | assumption) (by first | decide | omega | assumption) (up_same _ _ _) rfl (by omega) (by first | decide | omega) ?_
  rw [up_up]
  refine wq_go rfl (fun _ => rfl) ?_
  refine wq_getf rfl (by first | rfl | assumption) (by first | decide | omega | assumption) (cw_c32 (cw_u34 hC)) rfl ?_
  refine wq_cN (m := 4) rfl rfl ?_
  refine wq_go rfl (fun _ => rfl) ?_
  refine wq_go rfl (fun _ => rfl) ?_
  refine wq_go rfl (fun _ => rfl) ?_
  refine wq_callV rfl rfl (by first | rfl | assumption) (by first | decide | omega | assumption) (Nat.le_of_ble_eq_true rfl) (Nat.le_of_ble_eq_true rfl) rfl rfl ?_
  refine c_State_own hk (st_u34 hk hS) (by first | assumption | omega | decide) (by first | assumption | omega | decide) ?_
  refine wq_iast rfl (by first | rfl | assumption) (by first | decide | omega | assumption) (up_same _ _ _) rfl (by omega) (by first | decide | omega) ?_
  rw [up_up]
  refine wq_go rfl (fun _ => rfl) ?_
  refine wq_getf rfl (by first | rfl | assumption) (by first | decide | omega | assumption) (cw_c32 (cw_u34 hC)) rfl ?_
  refine wq_cN (m := 5) rfl rfl ?_
  refine wq_go rfl (fun _ => rfl) ?_
  refine wq_callV rfl rfl (by first | rfl | assumption) (by first | decide | omega | assumption) (Nat.le_of_ble_eq_true rfl) (Nat.le_of_ble_eq_true rfl) rfl rfl ?_
  refine c_State_hourOfDay hk (st_u34 hk hS) (by first | assumption | omega | decide) ?_
  refine wq_iast rfl (by first | rfl | assumption) (by first | decide | omega | assumption) (up_same _ _ _) rfl (by omega) (by first | decide | omega) ?_
  rw [up_up]
  refine wq_go rfl (fun _ => rfl) ?_
  refine wq_getf rfl (by first | rfl | assumption) (by first | decide | omega | assumption) (cw_c32 (cw_u34 hC)) rfl ?_
  refine wq_cN (m := 6) rfl rfl ?_
  refine wq_go rfl (fun _ => rfl) ?_
  refine wq_go rfl (fun _ => rfl) ?_
  refine wq_callV rfl rfl (by first | rfl | assumption) (by first | decide | omega | assumption) (Nat.le_of_ble_eq_true rfl) (Nat.le_of_ble_eq_true rfl) rfl rfl ?_
  refine c_State_satBy hk (st_u34 hk hS) (by first | assumption | omega | decide) ?_
  refine wq_iast rfl (by first | rfl | assumption) (by first | decide | omega | assumption) (up_same _ _ _) rfl (by omega) (by first | decide | omega) ?_
  rw [up_up]
  refine wq_go rfl (fun _ => rfl) ?_
  refine wq_getf rfl (by first | rfl | assumption) (by first | decide | omega | assumption) (cw_c32 (cw_u34 hC)) rfl ?_
  refine wq_cN (m := 7) rfl rfl ?_
  refine wq_go rfl (fun _ => rfl) ?_
  refine wq_iast rfl (by first | rfl | assumption) (by first | decide | omega | assumption) (up_same _ _ _) rfl (by omega) (by first | decide | omega) ?_
  rw [up_up]
  refine wq_go rfl (fun _ => rfl) ?_
  refine wq_getf rfl (by first | rfl | assumption) (by first | decide | omega | assumption) (cw_c32 (cw_u34 hC)) rfl ?_
  refine wq_cN (m := 8) rfl rfl ?_
  refine wq_go rfl (fun _ => rfl) ?_
  refine wq_go rfl (fun _ => rfl) ?_
  refine wq_callV rfl rfl (by first | rfl | assumption) (by first | decide | omega | assumption) (Nat.le_of_ble_eq_true rfl) (Nat.le_of_ble_eq_true rfl) rfl rfl ?_
  refine c_State_ownAll hk (st_u34 hk hS) (by first | assumption | omega | decide) ?_
  refine wq_iast rfl (by first | rfl | assumption) (by first | decide | omega | assumption) (up_same _ _ _) rfl (by omega) (by first | decide | omega) ?_
  rw [up_up]
  refine wq_end rfl (fun _ => rfl) ?_
  refine K _ (fr_up (fr_refl _ _) rfl) ((up_same _ _ _).trans (arr_congr (fun j hj => ?_)))
  match j, hj with
  | 0, _ => rfl
  | 1, _ => rfl
  | 2, _ => rfl
  | 3, _ => rfl
  | 4, _ => rfl
  | 5, _ => rfl
  | 6, _ => rfl
  | 7, _ => rfl
  | 8, _ => rfl
  | j + 9, hj => exact absurd hj (by omega)
theorem wq_divX {xs : List Int32} {d : Nat} {cd : List ax_I} {i a : Nat} {lv : ax_L} {r : List Value} {σ : Nat → List Value} {Q : Option Value → (Nat → List Value) → Prop} {v : Value} {t : List (Int × Nat)} {x y : Int32} (h : cd[i]? = some (9, a, 3, v, t)) (hy : ¬ y = 0) (K : Wq xs d cd (i + 1) lv (.int (x / y) :: r) σ Q) : Wq xs d cd i lv (.int y :: .int x :: r) σ Q := by
  refine wp_go h ?_ K
  rw [ax_e9]
  unfold ax_s9
  simp only [ax_bin, hy, if_false]
theorem and7 {v k : Nat} (hk : k < 8) : (8 * v + k) &&& 7 = k := by
  rw [show (7 : Nat) = 2 ^ 3 - 1 from rfl, Nat.and_two_pow_sub_one_eq_mod]
  omega
theorem shr3 {v k : Nat} (hk : k < 8) : (8 * v + k) / 2 ^ 3 = v := by
  rw [show (2 : Nat) ^ 3 = 8 from rfl]
  omega
theorem mx_p {p v : Nat} (hpv : p + 1 ≤ v) (hv : v < 10000) : (if nI p < nI (v - 1) then nI (v - 1) else nI p) = nI (v - 1) := by
  split
  · rfl
  · next h =>
    rcases Nat.lt_or_ge p (v - 1) with h1 | h1
    · exact absurd (nI_lt h1 (by omega)) h
    · rw [show v - 1 = p by omega]
def stl (f : Nat → Int32) : Nat → List Int32
  | 0 => []
  | n + 1 => f n :: stl f n
theorem stl_upd (f : Nat → Int32) (j : Nat) (x : Int32) : ∀ n, n ≤ j → stl (upd f j x) n = stl f n
  | 0, _ => rfl
  | n + 1, h => by
    unfold stl
    rw [stl_upd f j x n (by omega), pk_un (by omega)]
theorem stl_push (f : Nat → Int32) (n : Nat) (x : Int32) : stl (upd f n x) (n + 1) = x :: stl f n := by
  rw [stl, pk_us, stl_upd f n x n (Nat.le_refl n)]
theorem mm_z (x : Int32) {m : Nat} (hm : m < 2 ^ 31) : (if (0 : Int32) < (if nI m < x then nI m else x) then (if nI m < x then nI m else x) else 0) = nI (cpN x m) := by
  rw [cpN_nI]
  by_cases h : nI m < x
  · rw [if_pos h]
    have h0 : ¬ x < 0 := fun e => nI_pos hm (Int32.lt_trans h e)
    rw [if_neg h0]
    split
    · rfl
    · next h1 =>
      have : m = 0 := by
        rcases Nat.eq_zero_or_pos m with h2 | h2
        · exact h2
        · exact absurd ((nI_ltI (a := 0) (by decide) hm).mpr h2) h1
      rw [this]
      rfl
  · rw [if_neg h]
    by_cases h0 : x < 0
    · rw [if_pos h0, if_neg (fun e => Int32.lt_irrefl (Int32.lt_trans e h0))]
    · rw [if_neg h0]
      split
      · rfl
      · next h1 =>
        obtain ⟨j, hj, e⟩ := nI_of h0
        subst e
        rcases Nat.eq_zero_or_pos j with h2 | h2
        · rw [h2]; rfl
        · exact absurd ((nI_ltI (a := 0) (by decide) hj).mpr h2) h1
theorem c_combined2 {xs : List Int32} {d : Nat} {σ : Nat → List Value} {Q : Option Value → (Nat → List Value) → Prop} {x y : Int32}  (K : Q (some (.int (opv 2 x y))) σ) : Wq xs (d + 0) ax_cd110 0 [(0, .int (nI 2)), (1, .int x), (2, .int y)] [] σ Q := by
  refine wq_go rfl (fun _ => rfl) ?_
  refine wq_swN rfl rfl (by decide) rfl ?_
  refine wq_go rfl (fun _ => rfl) ?_
  refine wq_go rfl (fun _ => rfl) ?_
  refine wq_go rfl (fun _ => rfl) ?_
  refine wq_iret rfl ?_
  exact K
theorem c_combined3 {xs : List Int32} {d : Nat} {σ : Nat → List Value} {Q : Option Value → (Nat → List Value) → Prop} {x y : Int32}  (K : Q (some (.int (opv 3 x y))) σ) : Wq xs (d + 0) ax_cd110 0 [(0, .int (nI 3)), (1, .int x), (2, .int y)] [] σ Q := by
  refine wq_go rfl (fun _ => rfl) ?_
  refine wq_swN rfl rfl (by decide) rfl ?_
  refine wq_go rfl (fun _ => rfl) ?_
  refine wq_go rfl (fun _ => rfl) ?_
  refine wq_go rfl (fun _ => rfl) ?_
  refine wq_iret rfl ?_
  exact K
theorem c_combined4 {xs : List Int32} {d : Nat} {σ : Nat → List Value} {Q : Option Value → (Nat → List Value) → Prop} {x y : Int32}  (K : Q (some (.int (opv 4 x y))) σ) : Wq xs (d + 0) ax_cd110 0 [(0, .int (nI 4)), (1, .int x), (2, .int y)] [] σ Q := by
  refine wq_go rfl (fun _ => rfl) ?_
  refine wq_swN rfl rfl (by decide) rfl ?_
  refine wq_go rfl (fun _ => rfl) ?_
  refine wq_go rfl (fun _ => rfl) ?_
  refine wq_go rfl (fun _ => rfl) ?_
  refine wq_iret rfl ?_
  exact K
theorem c_combined5 {xs : List Int32} {d : Nat} {σ : Nat → List Value} {Q : Option Value → (Nat → List Value) → Prop} {x y : Int32} (hy : ¬ y = 0)  (K : Q (some (.int (opv 5 x y))) σ) : Wq xs (d + 0) ax_cd110 0 [(0, .int (nI 5)), (1, .int x), (2, .int y)] [] σ Q := by
  refine wq_go rfl (fun _ => rfl) ?_
  refine wq_swN rfl rfl (by decide) rfl ?_
  refine wq_go rfl (fun _ => rfl) ?_
  refine wq_if rfl (fun c15 => ?_) (fun c => absurd (c.symm.trans (decide_eq_true hy)) (by decide))
  refine wq_go rfl (fun _ => rfl) ?_
  refine wq_go rfl (fun _ => rfl) ?_
  refine wq_divX rfl hy ?_
  refine wq_iret rfl ?_
  exact K
theorem told_num {xs : List Int32} {d : Nat} {σ : Nat → List Value} {Q : Option Value → (Nat → List Value) → Prop} {P : Pl} (hC : CW P σ) {f : Nat → Int32} (h33 : σ 33 = arr 32 f) {l M p D v : Nat} (hM : 0 < M) (hM2 : M < 2 ^ 31) (hp : p < 408) (hg : ag σ 28 p = nI (8 * v + 0)) (hD : D < 32) (hv : v < 10000) (K : Wq xs (d + 1) ax_cd108 11 [(5, .int (nI (p + 1))), (4, .int (nI (D + 1))), (3, .ref 28), (0, .ref 32), (1, .int (nI l)), (2, .int (nI M))] [] (up σ 33 (arr 32 (upd f D (nI v)))) Q) : Wq xs (d + 1) ax_cd108 11 [(5, .int (nI (p))), (4, .int (nI (D))), (3, .ref 28), (0, .ref 32), (1, .int (nI l)), (2, .int (nI M))] [] σ Q := by
  refine wq_go rfl (fun _ => rfl) ?_
  refine wq_zlt rfl (by first | omega | decide | exact Nat.lt_of_le_of_lt Nat.and_le_right (by decide) | exact ⟨by omega, by omega⟩) (fun c => absurd c (by omega)) (fun c12 => ?_)
  refine wq_go rfl (fun _ => rfl) ?_
  refine wq_go rfl (fun _ => rfl) ?_
  refine wq_alen rfl (by first | rfl | assumption) (by first | decide | omega | assumption) rfl (cw_c28 hC) (arr_len _ _) ?_
  refine wq_cge rfl (by first | omega | decide | exact Nat.lt_of_le_of_lt Nat.and_le_right (by decide) | exact ⟨by omega, by omega⟩) (by first | omega | decide | exact Nat.lt_of_le_of_lt Nat.and_le_right (by decide) | exact ⟨by omega, by omega⟩) (fun c => absurd c (by omega)) (fun c16 => ?_)
  refine wq_go rfl (fun _ => rfl) ?_
  refine wq_zle rfl (by first | omega | decide | exact Nat.lt_of_le_of_lt Nat.and_le_right (by decide) | exact ⟨by omega, by omega⟩) (fun c => absurd c (by omega)) (fun c18 => ?_)
  refine wq_go rfl (fun _ => rfl) ?_
  refine wq_go rfl (fun _ => rfl) ?_
  refine wq_iald rfl (by first | rfl | assumption) (by first | decide | omega | assumption) (cw_c28 hC) rfl (by omega) (by first | decide | omega) ?_
  refine wq_top hg ?_
  refine wq_cN (m := 7) rfl rfl ?_
  refine wq_andN rfl ?_
  refine wq_top (congrArg nI (and7 (v := v) (k := 0) (by decide))) ?_
  refine wq_go rfl (fun _ => rfl) ?_
  refine wq_go rfl (fun _ => rfl) ?_
  refine wq_go rfl (fun _ => rfl) ?_
  refine wq_iald rfl (by first | rfl | assumption) (by first | decide | omega | assumption) (cw_c28 hC) rfl (by omega) (by first | decide | omega) ?_
  refine wq_top hg ?_
  refine wq_cN (m := 3) rfl rfl ?_
  refine wq_ushN rfl (by omega) (by decide) ?_
  refine wq_top (congrArg nI (shr3 (v := v) (k := 0) (by decide))) ?_
  refine wq_go rfl (fun _ => rfl) ?_
  refine wq_go rfl (fun _ => rfl) ?_
  refine wq_cN (m := 7) rfl rfl ?_
  refine wq_cne rfl (by first | omega | decide | exact Nat.lt_of_le_of_lt Nat.and_le_right (by decide) | exact ⟨by omega, by omega⟩) (by first | omega | decide | exact Nat.lt_of_le_of_lt Nat.and_le_right (by decide) | exact ⟨by omega, by omega⟩) (fun c33 => ?_) (fun c => absurd (show _ from by omega) c)
  refine wq_go rfl (fun _ => rfl) ?_
  refine wq_zeq rfl (by first | omega | decide | exact Nat.lt_of_le_of_lt Nat.and_le_right (by decide) | exact ⟨by omega, by omega⟩) (fun c49 => ?_) (fun c => absurd (show _ from by omega) c)
  refine wq_go rfl (fun _ => rfl) ?_
  refine wq_zlt rfl (by first | omega | decide | exact Nat.lt_of_le_of_lt Nat.and_le_right (by decide) | exact ⟨by omega, by omega⟩) (fun c => absurd c (by omega)) (fun c54 => ?_)
  refine wq_go rfl (fun _ => rfl) ?_
  refine wq_go rfl (fun _ => rfl) ?_
  refine wq_getf rfl (by first | rfl | assumption) (by first | decide | omega | assumption) (cw_c32 hC) rfl ?_
  refine wq_alen rfl (by first | rfl | assumption) (by first | decide | omega | assumption) rfl h33 (arr_len _ _) ?_
  refine wq_clt rfl (by first | omega | decide | exact Nat.lt_of_le_of_lt Nat.and_le_right (by decide) | exact ⟨by omega, by omega⟩) (by first | omega | decide | exact Nat.lt_of_le_of_lt Nat.and_le_right (by decide) | exact ⟨by omega, by omega⟩) (fun c59 => ?_) (fun c => absurd (show _ from by omega) c)
  refine wq_go rfl (fun _ => rfl) ?_
  refine wq_getf rfl (by first | rfl | assumption) (by first | decide | omega | assumption) (cw_c32 hC) rfl ?_
  refine wq_go rfl (fun _ => rfl) ?_
  refine wq_go rfl (fun _ => rfl) ?_
  refine wq_zeq rfl (by first | omega | decide | exact Nat.lt_of_le_of_lt Nat.and_le_right (by decide) | exact ⟨by omega, by omega⟩) (fun c66 => ?_) (fun c => absurd (show _ from by omega) c)
  refine wq_go rfl (fun _ => rfl) ?_
  refine wq_go rfl (fun _ => rfl) ?_
  refine wq_iast rfl (by first | rfl | assumption) (by first | decide | omega | assumption) h33 rfl (by omega) (by first | decide | omega) ?_
  refine wq_incN rfl rfl rfl ?_
  refine wq_go rfl (fun _ => rfl) ?_
  refine wq_incN rfl rfl rfl ?_
  refine wq_go rfl (fun _ => rfl) ?_
  exact wq_lv ⟨(by decide : ([5, 4, 7, 6, 3, 0, 1, 2] : List Nat).Nodup), (lvm (List.mem_of_getElem? (i := 0) rfl) (lvm (List.mem_of_getElem? (i := 1) rfl) (lvm (List.mem_of_getElem? (i := 4) rfl) (lvm (List.mem_of_getElem? (i := 5) rfl) (lvm (List.mem_of_getElem? (i := 6) rfl) (lvm (List.mem_of_getElem? (i := 7) rfl) lvn))))))⟩ K
theorem told_var {xs : List Int32} {d : Nat} {σ : Nat → List Value} {Q : Option Value → (Nat → List Value) → Prop} {P : Pl} (hC : CW P σ) {f : Nat → Int32} (h33 : σ 33 = arr 32 f) {l M p D v : Nat} (hM : 0 < M) (hM2 : M < 2 ^ 31) (hp : p < 408) (hg : ag σ 28 p = nI (8 * v + 1)) (hD : D < 32) (hv : v < 9) {V : Nat → Nat} (h34 : σ 34 = arrN 9 V) (K : Wq xs (d + 1) ax_cd108 11 [(5, .int (nI (p + 1))), (4, .int (nI (D + 1))), (3, .ref 28), (0, .ref 32), (1, .int (nI l)), (2, .int (nI M))] [] (up σ 33 (arr 32 (upd f D (nI (V v))))) Q) : Wq xs (d + 1) ax_cd108 11 [(5, .int (nI (p))), (4, .int (nI (D))), (3, .ref 28), (0, .ref 32), (1, .int (nI l)), (2, .int (nI M))] [] σ Q := by
  refine wq_go rfl (fun _ => rfl) ?_
  refine wq_zlt rfl (by first | omega | decide | exact Nat.lt_of_le_of_lt Nat.and_le_right (by decide) | exact ⟨by omega, by omega⟩) (fun c => absurd c (by omega)) (fun c12 => ?_)
  refine wq_go rfl (fun _ => rfl) ?_
  refine wq_go rfl (fun _ => rfl) ?_
  refine wq_alen rfl (by first | rfl | assumption) (by first | decide | omega | assumption) rfl (cw_c28 hC) (arr_len _ _) ?_
  refine wq_cge rfl (by first | omega | decide | exact Nat.lt_of_le_of_lt Nat.and_le_right (by decide) | exact ⟨by omega, by omega⟩) (by first | omega | decide | exact Nat.lt_of_le_of_lt Nat.and_le_right (by decide) | exact ⟨by omega, by omega⟩) (fun c => absurd c (by omega)) (fun c16 => ?_)
  refine wq_go rfl (fun _ => rfl) ?_
  refine wq_zle rfl (by first | omega | decide | exact Nat.lt_of_le_of_lt Nat.and_le_right (by decide) | exact ⟨by omega, by omega⟩) (fun c => absurd c (by omega)) (fun c18 => ?_)
  refine wq_go rfl (fun _ => rfl) ?_
  refine wq_go rfl (fun _ => rfl) ?_
  refine wq_iald rfl (by first | rfl | assumption) (by first | decide | omega | assumption) (cw_c28 hC) rfl (by omega) (by first | decide | omega) ?_
  refine wq_top hg ?_
  refine wq_cN (m := 7) rfl rfl ?_
  refine wq_andN rfl ?_
  refine wq_top (congrArg nI (and7 (v := v) (k := 1) (by decide))) ?_
  refine wq_go rfl (fun _ => rfl) ?_
  refine wq_go rfl (fun _ => rfl) ?_
  refine wq_go rfl (fun _ => rfl) ?_
  refine wq_iald rfl (by first | rfl | assumption) (by first | decide | omega | assumption) (cw_c28 hC) rfl (by omega) (by first | decide | omega) ?_
  refine wq_top hg ?_
  refine wq_cN (m := 3) rfl rfl ?_
  refine wq_ushN rfl (by omega) (by decide) ?_
  refine wq_top (congrArg nI (shr3 (v := v) (k := 1) (by decide))) ?_
  refine wq_go rfl (fun _ => rfl) ?_
  refine wq_go rfl (fun _ => rfl) ?_
  refine wq_cN (m := 7) rfl rfl ?_
  refine wq_cne rfl (by first | omega | decide | exact Nat.lt_of_le_of_lt Nat.and_le_right (by decide) | exact ⟨by omega, by omega⟩) (by first | omega | decide | exact Nat.lt_of_le_of_lt Nat.and_le_right (by decide) | exact ⟨by omega, by omega⟩) (fun c33 => ?_) (fun c => absurd (show _ from by omega) c)
  refine wq_go rfl (fun _ => rfl) ?_
  refine wq_zeq rfl (by first | omega | decide | exact Nat.lt_of_le_of_lt Nat.and_le_right (by decide) | exact ⟨by omega, by omega⟩) (fun c => absurd c (by omega)) (fun c49 => ?_)
  refine wq_go rfl (fun _ => rfl) ?_
  refine wq_cN (m := 1) rfl rfl ?_
  refine wq_cne rfl (by first | omega | decide | exact Nat.lt_of_le_of_lt Nat.and_le_right (by decide) | exact ⟨by omega, by omega⟩) (by first | omega | decide | exact Nat.lt_of_le_of_lt Nat.and_le_right (by decide) | exact ⟨by omega, by omega⟩) (fun c => absurd c (by omega)) (fun c52 => ?_)
  refine wq_go rfl (fun _ => rfl) ?_
  refine wq_zlt rfl (by first | omega | decide | exact Nat.lt_of_le_of_lt Nat.and_le_right (by decide) | exact ⟨by omega, by omega⟩) (fun c => absurd c (by omega)) (fun c54 => ?_)
  refine wq_go rfl (fun _ => rfl) ?_
  refine wq_go rfl (fun _ => rfl) ?_
  refine wq_getf rfl (by first | rfl | assumption) (by first | decide | omega | assumption) (cw_c32 hC) rfl ?_
  refine wq_alen rfl (by first | rfl | assumption) (by first | decide | omega | assumption) rfl h33 (arr_len _ _) ?_
  refine wq_clt rfl (by first | omega | decide | exact Nat.lt_of_le_of_lt Nat.and_le_right (by decide) | exact ⟨by omega, by omega⟩) (by first | omega | decide | exact Nat.lt_of_le_of_lt Nat.and_le_right (by decide) | exact ⟨by omega, by omega⟩) (fun c59 => ?_) (fun c => absurd (show _ from by omega) c)
  refine wq_go rfl (fun _ => rfl) ?_
  refine wq_getf rfl (by first | rfl | assumption) (by first | decide | omega | assumption) (cw_c32 hC) rfl ?_
  refine wq_go rfl (fun _ => rfl) ?_
  refine wq_go rfl (fun _ => rfl) ?_
  refine wq_zeq rfl (by first | omega | decide | exact Nat.lt_of_le_of_lt Nat.and_le_right (by decide) | exact ⟨by omega, by omega⟩) (fun c => absurd c (by omega)) (fun c66 => ?_)
  refine wq_go rfl (fun _ => rfl) ?_
  refine wq_go rfl (fun _ => rfl) ?_
  refine wq_getf rfl (by first | rfl | assumption) (by first | decide | omega | assumption) (cw_c32 hC) rfl ?_
  refine wq_alen rfl (by first | rfl | assumption) (by first | decide | omega | assumption) rfl h34 (arrN_len _ _) ?_
  refine wq_clt rfl (by first | omega | decide | exact Nat.lt_of_le_of_lt Nat.and_le_right (by decide) | exact ⟨by omega, by omega⟩) (by first | omega | decide | exact Nat.lt_of_le_of_lt Nat.and_le_right (by decide) | exact ⟨by omega, by omega⟩) (fun c71 => ?_) (fun c => absurd (show _ from by omega) c)
  refine wq_go rfl (fun _ => rfl) ?_
  refine wq_getf rfl (by first | rfl | assumption) (by first | decide | omega | assumption) (cw_c32 hC) rfl ?_
  refine wq_go rfl (fun _ => rfl) ?_
  refine wq_ialdN rfl (by first | rfl | assumption) (by first | decide | omega | assumption) h34 rfl (by omega) (by first | decide | omega) ?_
  refine wq_iast rfl (by first | rfl | assumption) (by first | decide | omega | assumption) h33 rfl (by omega) (by first | decide | omega) ?_
  refine wq_incN rfl rfl rfl ?_
  refine wq_go rfl (fun _ => rfl) ?_
  refine wq_incN rfl rfl rfl ?_
  refine wq_go rfl (fun _ => rfl) ?_
  exact wq_lv ⟨(by decide : ([5, 4, 7, 6, 3, 0, 1, 2] : List Nat).Nodup), (lvm (List.mem_of_getElem? (i := 0) rfl) (lvm (List.mem_of_getElem? (i := 1) rfl) (lvm (List.mem_of_getElem? (i := 4) rfl) (lvm (List.mem_of_getElem? (i := 5) rfl) (lvm (List.mem_of_getElem? (i := 6) rfl) (lvm (List.mem_of_getElem? (i := 7) rfl) lvn))))))⟩ K
theorem told_bin2 {xs : List Int32} {d : Nat} {σ : Nat → List Value} {Q : Option Value → (Nat → List Value) → Prop} {P : Pl} (hC : CW P σ) {f : Nat → Int32} (h33 : σ 33 = arr 32 f) {l M p D v : Nat} (hM : 0 < M) (hM2 : M < 2 ^ 31) (hp : p < 408) (hg : ag σ 28 p = nI (8 * v + 2)) (hD : D + 2 ≤ 32) (hv : v < 10000)  (K : Wq xs (d + 1) ax_cd108 11 [(5, .int (nI (p + 1))), (4, .int (nI (D + 1))), (3, .ref 28), (0, .ref 32), (1, .int (nI l)), (2, .int (nI M))] [] (up σ 33 (arr 32 (upd f D (opv 2 (f D) (f (D + 1)))))) Q) : Wq xs (d + 1) ax_cd108 11 [(5, .int (nI (p))), (4, .int (nI (D + 2))), (3, .ref 28), (0, .ref 32), (1, .int (nI l)), (2, .int (nI M))] [] σ Q := by
  refine wq_go rfl (fun _ => rfl) ?_
  refine wq_zlt rfl (by first | omega | decide | exact Nat.lt_of_le_of_lt Nat.and_le_right (by decide) | exact ⟨by omega, by omega⟩) (fun c => absurd c (by omega)) (fun c12 => ?_)
  refine wq_go rfl (fun _ => rfl) ?_
  refine wq_go rfl (fun _ => rfl) ?_
  refine wq_alen rfl (by first | rfl | assumption) (by first | decide | omega | assumption) rfl (cw_c28 hC) (arr_len _ _) ?_
  refine wq_cge rfl (by first | omega | decide | exact Nat.lt_of_le_of_lt Nat.and_le_right (by decide) | exact ⟨by omega, by omega⟩) (by first | omega | decide | exact Nat.lt_of_le_of_lt Nat.and_le_right (by decide) | exact ⟨by omega, by omega⟩) (fun c => absurd c (by omega)) (fun c16 => ?_)
  refine wq_go rfl (fun _ => rfl) ?_
  refine wq_zle rfl (by first | omega | decide | exact Nat.lt_of_le_of_lt Nat.and_le_right (by decide) | exact ⟨by omega, by omega⟩) (fun c => absurd c (by omega)) (fun c18 => ?_)
  refine wq_go rfl (fun _ => rfl) ?_
  refine wq_go rfl (fun _ => rfl) ?_
  refine wq_iald rfl (by first | rfl | assumption) (by first | decide | omega | assumption) (cw_c28 hC) rfl (by omega) (by first | decide | omega) ?_
  refine wq_top hg ?_
  refine wq_cN (m := 7) rfl rfl ?_
  refine wq_andN rfl ?_
  refine wq_top (congrArg nI (and7 (v := v) (k := 2) (by decide))) ?_
  refine wq_go rfl (fun _ => rfl) ?_
  refine wq_go rfl (fun _ => rfl) ?_
  refine wq_go rfl (fun _ => rfl) ?_
  refine wq_iald rfl (by first | rfl | assumption) (by first | decide | omega | assumption) (cw_c28 hC) rfl (by omega) (by first | decide | omega) ?_
  refine wq_top hg ?_
  refine wq_cN (m := 3) rfl rfl ?_
  refine wq_ushN rfl (by omega) (by decide) ?_
  refine wq_top (congrArg nI (shr3 (v := v) (k := 2) (by decide))) ?_
  refine wq_go rfl (fun _ => rfl) ?_
  refine wq_go rfl (fun _ => rfl) ?_
  refine wq_cN (m := 7) rfl rfl ?_
  refine wq_cne rfl (by first | omega | decide | exact Nat.lt_of_le_of_lt Nat.and_le_right (by decide) | exact ⟨by omega, by omega⟩) (by first | omega | decide | exact Nat.lt_of_le_of_lt Nat.and_le_right (by decide) | exact ⟨by omega, by omega⟩) (fun c33 => ?_) (fun c => absurd (show _ from by omega) c)
  refine wq_go rfl (fun _ => rfl) ?_
  refine wq_zeq rfl (by first | omega | decide | exact Nat.lt_of_le_of_lt Nat.and_le_right (by decide) | exact ⟨by omega, by omega⟩) (fun c => absurd c (by omega)) (fun c49 => ?_)
  refine wq_go rfl (fun _ => rfl) ?_
  refine wq_cN (m := 1) rfl rfl ?_
  refine wq_cne rfl (by first | omega | decide | exact Nat.lt_of_le_of_lt Nat.and_le_right (by decide) | exact ⟨by omega, by omega⟩) (by first | omega | decide | exact Nat.lt_of_le_of_lt Nat.and_le_right (by decide) | exact ⟨by omega, by omega⟩) (fun c52 => ?_) (fun c => absurd (show _ from by omega) c)
  refine wq_go rfl (fun _ => rfl) ?_
  refine wq_cN (m := 2) rfl rfl ?_
  refine wq_clt rfl (by first | omega | decide | exact Nat.lt_of_le_of_lt Nat.and_le_right (by decide) | exact ⟨by omega, by omega⟩) (by first | omega | decide | exact Nat.lt_of_le_of_lt Nat.and_le_right (by decide) | exact ⟨by omega, by omega⟩) (fun c => absurd c (by omega)) (fun c83 => ?_)
  refine wq_go rfl (fun _ => rfl) ?_
  refine wq_go rfl (fun _ => rfl) ?_
  refine wq_getf rfl (by first | rfl | assumption) (by first | decide | omega | assumption) (cw_c32 hC) rfl ?_
  refine wq_alen rfl (by first | rfl | assumption) (by first | decide | omega | assumption) rfl h33 (arr_len _ _) ?_
  refine wq_cle rfl (by first | omega | decide | exact Nat.lt_of_le_of_lt Nat.and_le_right (by decide) | exact ⟨by omega, by omega⟩) (by first | omega | decide | exact Nat.lt_of_le_of_lt Nat.and_le_right (by decide) | exact ⟨by omega, by omega⟩) (fun c88 => ?_) (fun c => absurd (show _ from by omega) c)
  refine wq_go rfl (fun _ => rfl) ?_
  refine wq_getf rfl (by first | rfl | assumption) (by first | decide | omega | assumption) (cw_c32 hC) rfl ?_
  refine wq_go rfl (fun _ => rfl) ?_
  refine wq_cN (m := 2) rfl rfl ?_
  refine wq_subN rfl (by omega) ?_
  refine wq_top (congrArg nI (show D + 2 - 2 = D by omega)) ?_
  refine wq_iald rfl (by first | rfl | assumption) (by first | decide | omega | assumption) h33 rfl (by omega) (by first | decide | omega) ?_
  refine wq_go rfl (fun _ => rfl) ?_
  refine wq_go rfl (fun _ => rfl) ?_
  refine wq_getf rfl (by first | rfl | assumption) (by first | decide | omega | assumption) (cw_c32 hC) rfl ?_
  refine wq_go rfl (fun _ => rfl) ?_
  refine wq_cN (m := 1) rfl rfl ?_
  refine wq_subN rfl (by omega) ?_
  refine wq_top (congrArg nI (show D + 2 - 1 = D + 1 by omega)) ?_
  refine wq_iald rfl (by first | rfl | assumption) (by first | decide | omega | assumption) h33 rfl (by omega) (by first | decide | omega) ?_
  refine wq_go rfl (fun _ => rfl) ?_
  refine wq_decN (c := 2) rfl rfl rfl (by omega) rfl ?_
  rw [show D + 2 - 2 = D by omega]
  refine wq_go rfl (fun _ => rfl) ?_
  refine wq_cN (m := 6) rfl rfl ?_
  refine wq_cne rfl (by first | omega | decide | exact Nat.lt_of_le_of_lt Nat.and_le_right (by decide) | exact ⟨by omega, by omega⟩) (by first | omega | decide | exact Nat.lt_of_le_of_lt Nat.and_le_right (by decide) | exact ⟨by omega, by omega⟩) (fun c108 => ?_) (fun c => absurd (show _ from by omega) c)
  refine wq_go rfl (fun _ => rfl) ?_
  refine wq_cN (m := 5) rfl rfl ?_
  refine wq_cne rfl (by first | omega | decide | exact Nat.lt_of_le_of_lt Nat.and_le_right (by decide) | exact ⟨by omega, by omega⟩) (by first | omega | decide | exact Nat.lt_of_le_of_lt Nat.and_le_right (by decide) | exact ⟨by omega, by omega⟩) (fun c123 => ?_) (fun c => absurd (show _ from by omega) c)
  refine wq_go rfl (fun _ => rfl) ?_
  refine wq_getf rfl (by first | rfl | assumption) (by first | decide | omega | assumption) (cw_c32 hC) rfl ?_
  refine wq_go rfl (fun _ => rfl) ?_
  refine wq_go rfl (fun _ => rfl) ?_
  refine wq_go rfl (fun _ => rfl) ?_
  refine wq_go rfl (fun _ => rfl) ?_
  refine wq_callS rfl (Nat.le_of_ble_eq_true rfl) rfl (Nat.le_of_ble_eq_true rfl) (Nat.le_of_ble_eq_true rfl) rfl rfl ?_
  refine c_combined2  ?_
  refine wq_iast rfl (by first | rfl | assumption) (by first | decide | omega | assumption) h33 rfl (by omega) (by first | decide | omega) ?_
  refine wq_incN rfl rfl rfl ?_
  refine wq_incN rfl rfl rfl ?_
  refine wq_go rfl (fun _ => rfl) ?_
  exact wq_lv ⟨(by decide : ([5, 4, 9, 8, 7, 6, 3, 0, 1, 2] : List Nat).Nodup), (lvm (List.mem_of_getElem? (i := 0) rfl) (lvm (List.mem_of_getElem? (i := 1) rfl) (lvm (List.mem_of_getElem? (i := 6) rfl) (lvm (List.mem_of_getElem? (i := 7) rfl) (lvm (List.mem_of_getElem? (i := 8) rfl) (lvm (List.mem_of_getElem? (i := 9) rfl) lvn))))))⟩ K
theorem told_bin3 {xs : List Int32} {d : Nat} {σ : Nat → List Value} {Q : Option Value → (Nat → List Value) → Prop} {P : Pl} (hC : CW P σ) {f : Nat → Int32} (h33 : σ 33 = arr 32 f) {l M p D v : Nat} (hM : 0 < M) (hM2 : M < 2 ^ 31) (hp : p < 408) (hg : ag σ 28 p = nI (8 * v + 3)) (hD : D + 2 ≤ 32) (hv : v < 10000)  (K : Wq xs (d + 1) ax_cd108 11 [(5, .int (nI (p + 1))), (4, .int (nI (D + 1))), (3, .ref 28), (0, .ref 32), (1, .int (nI l)), (2, .int (nI M))] [] (up σ 33 (arr 32 (upd f D (opv 3 (f D) (f (D + 1)))))) Q) : Wq xs (d + 1) ax_cd108 11 [(5, .int (nI (p))), (4, .int (nI (D + 2))), (3, .ref 28), (0, .ref 32), (1, .int (nI l)), (2, .int (nI M))] [] σ Q := by
  refine wq_go rfl (fun _ => rfl) ?_
  refine wq_zlt rfl (by first | omega | decide | exact Nat.lt_of_le_of_lt Nat.and_le_right (by decide) | exact ⟨by omega, by omega⟩) (fun c => absurd c (by omega)) (fun c12 => ?_)
  refine wq_go rfl (fun _ => rfl) ?_
  refine wq_go rfl (fun _ => rfl) ?_
  refine wq_alen rfl (by first | rfl | assumption) (by first | decide | omega | assumption) rfl (cw_c28 hC) (arr_len _ _) ?_
  refine wq_cge rfl (by first | omega | decide | exact Nat.lt_of_le_of_lt Nat.and_le_right (by decide) | exact ⟨by omega, by omega⟩) (by first | omega | decide | exact Nat.lt_of_le_of_lt Nat.and_le_right (by decide) | exact ⟨by omega, by omega⟩) (fun c => absurd c (by omega)) (fun c16 => ?_)
  refine wq_go rfl (fun _ => rfl) ?_
  refine wq_zle rfl (by first | omega | decide | exact Nat.lt_of_le_of_lt Nat.and_le_right (by decide) | exact ⟨by omega, by omega⟩) (fun c => absurd c (by omega)) (fun c18 => ?_)
  refine wq_go rfl (fun _ => rfl) ?_
  refine wq_go rfl (fun _ => rfl) ?_
  refine wq_iald rfl (by first | rfl | assumption) (by first | decide | omega | assumption) (cw_c28 hC) rfl (by omega) (by first | decide | omega) ?_
  refine wq_top hg ?_
  refine wq_cN (m := 7) rfl rfl ?_
  refine wq_andN rfl ?_
  refine wq_top (congrArg nI (and7 (v := v) (k := 3) (by decide))) ?_
  refine wq_go rfl (fun _ => rfl) ?_
  refine wq_go rfl (fun _ => rfl) ?_
  refine wq_go rfl (fun _ => rfl) ?_
  refine wq_iald rfl (by first | rfl | assumption) (by first | decide | omega | assumption) (cw_c28 hC) rfl (by omega) (by first | decide | omega) ?_
  refine wq_top hg ?_
  refine wq_cN (m := 3) rfl rfl ?_
  refine wq_ushN rfl (by omega) (by decide) ?_
  refine wq_top (congrArg nI (shr3 (v := v) (k := 3) (by decide))) ?_
  refine wq_go rfl (fun _ => rfl) ?_
  refine wq_go rfl (fun _ => rfl) ?_
  refine wq_cN (m := 7) rfl rfl ?_
  refine wq_cne rfl (by first | omega | decide | exact Nat.lt_of_le_of_lt Nat.and_le_right (by decide) | exact ⟨by omega, by omega⟩) (by first | omega | decide | exact Nat.lt_of_le_of_lt Nat.and_le_right (by decide) | exact ⟨by omega, by omega⟩) (fun c33 => ?_) (fun c => absurd (show _ from by omega) c)
  refine wq_go rfl (fun _ => rfl) ?_
  refine wq_zeq rfl (by first | omega | decide | exact Nat.lt_of_le_of_lt Nat.and_le_right (by decide) | exact ⟨by omega, by omega⟩) (fun c => absurd c (by omega)) (fun c49 => ?_)
  refine wq_go rfl (fun _ => rfl) ?_
  refine wq_cN (m := 1) rfl rfl ?_
  refine wq_cne rfl (by first | omega | decide | exact Nat.lt_of_le_of_lt Nat.and_le_right (by decide) | exact ⟨by omega, by omega⟩) (by first | omega | decide | exact Nat.lt_of_le_of_lt Nat.and_le_right (by decide) | exact ⟨by omega, by omega⟩) (fun c52 => ?_) (fun c => absurd (show _ from by omega) c)
  refine wq_go rfl (fun _ => rfl) ?_
  refine wq_cN (m := 2) rfl rfl ?_
  refine wq_clt rfl (by first | omega | decide | exact Nat.lt_of_le_of_lt Nat.and_le_right (by decide) | exact ⟨by omega, by omega⟩) (by first | omega | decide | exact Nat.lt_of_le_of_lt Nat.and_le_right (by decide) | exact ⟨by omega, by omega⟩) (fun c => absurd c (by omega)) (fun c83 => ?_)
  refine wq_go rfl (fun _ => rfl) ?_
  refine wq_go rfl (fun _ => rfl) ?_
  refine wq_getf rfl (by first | rfl | assumption) (by first | decide | omega | assumption) (cw_c32 hC) rfl ?_
  refine wq_alen rfl (by first | rfl | assumption) (by first | decide | omega | assumption) rfl h33 (arr_len _ _) ?_
  refine wq_cle rfl (by first | omega | decide | exact Nat.lt_of_le_of_lt Nat.and_le_right (by decide) | exact ⟨by omega, by omega⟩) (by first | omega | decide | exact Nat.lt_of_le_of_lt Nat.and_le_right (by decide) | exact ⟨by omega, by omega⟩) (fun c88 => ?_) (fun c => absurd (show _ from by omega) c)
  refine wq_go rfl (fun _ => rfl) ?_
  refine wq_getf rfl (by first | rfl | assumption) (by first | decide | omega | assumption) (cw_c32 hC) rfl ?_
  refine wq_go rfl (fun _ => rfl) ?_
  refine wq_cN (m := 2) rfl rfl ?_
  refine wq_subN rfl (by omega) ?_
  refine wq_top (congrArg nI (show D + 2 - 2 = D by omega)) ?_
  refine wq_iald rfl (by first | rfl | assumption) (by first | decide | omega | assumption) h33 rfl (by omega) (by first | decide | omega) ?_
  refine wq_go rfl (fun _ => rfl) ?_
  refine wq_go rfl (fun _ => rfl) ?_
  refine wq_getf rfl (by first | rfl | assumption) (by first | decide | omega | assumption) (cw_c32 hC) rfl ?_
  refine wq_go rfl (fun _ => rfl) ?_
  refine wq_cN (m := 1) rfl rfl ?_
  refine wq_subN rfl (by omega) ?_
  refine wq_top (congrArg nI (show D + 2 - 1 = D + 1 by omega)) ?_
  refine wq_iald rfl (by first | rfl | assumption) (by first | decide | omega | assumption) h33 rfl (by omega) (by first | decide | omega) ?_
  refine wq_go rfl (fun _ => rfl) ?_
  refine wq_decN (c := 2) rfl rfl rfl (by omega) rfl ?_
  rw [show D + 2 - 2 = D by omega]
  refine wq_go rfl (fun _ => rfl) ?_
  refine wq_cN (m := 6) rfl rfl ?_
  refine wq_cne rfl (by first | omega | decide | exact Nat.lt_of_le_of_lt Nat.and_le_right (by decide) | exact ⟨by omega, by omega⟩) (by first | omega | decide | exact Nat.lt_of_le_of_lt Nat.and_le_right (by decide) | exact ⟨by omega, by omega⟩) (fun c108 => ?_) (fun c => absurd (show _ from by omega) c)
  refine wq_go rfl (fun _ => rfl) ?_
  refine wq_cN (m := 5) rfl rfl ?_
  refine wq_cne rfl (by first | omega | decide | exact Nat.lt_of_le_of_lt Nat.and_le_right (by decide) | exact ⟨by omega, by omega⟩) (by first | omega | decide | exact Nat.lt_of_le_of_lt Nat.and_le_right (by decide) | exact ⟨by omega, by omega⟩) (fun c123 => ?_) (fun c => absurd (show _ from by omega) c)
  refine wq_go rfl (fun _ => rfl) ?_
  refine wq_getf rfl (by first | rfl | assumption) (by first | decide | omega | assumption) (cw_c32 hC) rfl ?_
  refine wq_go rfl (fun _ => rfl) ?_
  refine wq_go rfl (fun _ => rfl) ?_
  refine wq_go rfl (fun _ => rfl) ?_
  refine wq_go rfl (fun _ => rfl) ?_
  refine wq_callS rfl (Nat.le_of_ble_eq_true rfl) rfl (Nat.le_of_ble_eq_true rfl) (Nat.le_of_ble_eq_true rfl) rfl rfl ?_
  refine c_combined3  ?_
  refine wq_iast rfl (by first | rfl | assumption) (by first | decide | omega | assumption) h33 rfl (by omega) (by first | decide | omega) ?_
  refine wq_incN rfl rfl rfl ?_
  refine wq_incN rfl rfl rfl ?_
  refine wq_go rfl (fun _ => rfl) ?_
  exact wq_lv ⟨(by decide : ([5, 4, 9, 8, 7, 6, 3, 0, 1, 2] : List Nat).Nodup), (lvm (List.mem_of_getElem? (i := 0) rfl) (lvm (List.mem_of_getElem? (i := 1) rfl) (lvm (List.mem_of_getElem? (i := 6) rfl) (lvm (List.mem_of_getElem? (i := 7) rfl) (lvm (List.mem_of_getElem? (i := 8) rfl) (lvm (List.mem_of_getElem? (i := 9) rfl) lvn))))))⟩ K
theorem told_bin4 {xs : List Int32} {d : Nat} {σ : Nat → List Value} {Q : Option Value → (Nat → List Value) → Prop} {P : Pl} (hC : CW P σ) {f : Nat → Int32} (h33 : σ 33 = arr 32 f) {l M p D v : Nat} (hM : 0 < M) (hM2 : M < 2 ^ 31) (hp : p < 408) (hg : ag σ 28 p = nI (8 * v + 4)) (hD : D + 2 ≤ 32) (hv : v < 10000)  (K : Wq xs (d + 1) ax_cd108 11 [(5, .int (nI (p + 1))), (4, .int (nI (D + 1))), (3, .ref 28), (0, .ref 32), (1, .int (nI l)), (2, .int (nI M))] [] (up σ 33 (arr 32 (upd f D (opv 4 (f D) (f (D + 1)))))) Q) : Wq xs (d + 1) ax_cd108 11 [(5, .int (nI (p))), (4, .int (nI (D + 2))), (3, .ref 28), (0, .ref 32), (1, .int (nI l)), (2, .int (nI M))] [] σ Q := by
  refine wq_go rfl (fun _ => rfl) ?_
  refine wq_zlt rfl (by first | omega | decide | exact Nat.lt_of_le_of_lt Nat.and_le_right (by decide) | exact ⟨by omega, by omega⟩) (fun c => absurd c (by omega)) (fun c12 => ?_)
  refine wq_go rfl (fun _ => rfl) ?_
  refine wq_go rfl (fun _ => rfl) ?_
  refine wq_alen rfl (by first | rfl | assumption) (by first | decide | omega | assumption) rfl (cw_c28 hC) (arr_len _ _) ?_
  refine wq_cge rfl (by first | omega | decide | exact Nat.lt_of_le_of_lt Nat.and_le_right (by decide) | exact ⟨by omega, by omega⟩) (by first | omega | decide | exact Nat.lt_of_le_of_lt Nat.and_le_right (by decide) | exact ⟨by omega, by omega⟩) (fun c => absurd c (by omega)) (fun c16 => ?_)
  refine wq_go rfl (fun _ => rfl) ?_
  refine wq_zle rfl (by first | omega | decide | exact Nat.lt_of_le_of_lt Nat.and_le_right (by decide) | exact ⟨by omega, by omega⟩) (fun c => absurd c (by omega)) (fun c18 => ?_)
  refine wq_go rfl (fun _ => rfl) ?_
  refine wq_go rfl (fun _ => rfl) ?_
  refine wq_iald rfl (by first | rfl | assumption) (by first | decide | omega | assumption) (cw_c28 hC) rfl (by omega) (by first | decide | omega) ?_
  refine wq_top hg ?_
  refine wq_cN (m := 7) rfl rfl ?_
  refine wq_andN rfl ?_
  refine wq_top (congrArg nI (and7 (v := v) (k := 4) (by decide))) ?_
  refine wq_go rfl (fun _ => rfl) ?_
  refine wq_go rfl (fun _ => rfl) ?_
  refine wq_go rfl (fun _ => rfl) ?_
  refine wq_iald rfl (by first | rfl | assumption) (by first | decide | omega | assumption) (cw_c28 hC) rfl (by omega) (by first | decide | omega) ?_
  refine wq_top hg ?_
  refine wq_cN (m := 3) rfl rfl ?_
  refine wq_ushN rfl (by omega) (by decide) ?_
  refine wq_top (congrArg nI (shr3 (v := v) (k := 4) (by decide))) ?_
  refine wq_go rfl (fun _ => rfl) ?_
  refine wq_go rfl (fun _ => rfl) ?_
  refine wq_cN (m := 7) rfl rfl ?_
  refine wq_cne rfl (by first | omega | decide | exact Nat.lt_of_le_of_lt Nat.and_le_right (by decide) | exact ⟨by omega, by omega⟩) (by first | omega | decide | exact Nat.lt_of_le_of_lt Nat.and_le_right (by decide) | exact ⟨by omega, by omega⟩) (fun c33 => ?_) (fun c => absurd (show _ from by omega) c)
  refine wq_go rfl (fun _ => rfl) ?_
  refine wq_zeq rfl (by first | omega | decide | exact Nat.lt_of_le_of_lt Nat.and_le_right (by decide) | exact ⟨by omega, by omega⟩) (fun c => absurd c (by omega)) (fun c49 => ?_)
  refine wq_go rfl (fun _ => rfl) ?_
  refine wq_cN (m := 1) rfl rfl ?_
  refine wq_cne rfl (by first | omega | decide | exact Nat.lt_of_le_of_lt Nat.and_le_right (by decide) | exact ⟨by omega, by omega⟩) (by first | omega | decide | exact Nat.lt_of_le_of_lt Nat.and_le_right (by decide) | exact ⟨by omega, by omega⟩) (fun c52 => ?_) (fun c => absurd (show _ from by omega) c)
  refine wq_go rfl (fun _ => rfl) ?_
  refine wq_cN (m := 2) rfl rfl ?_
  refine wq_clt rfl (by first | omega | decide | exact Nat.lt_of_le_of_lt Nat.and_le_right (by decide) | exact ⟨by omega, by omega⟩) (by first | omega | decide | exact Nat.lt_of_le_of_lt Nat.and_le_right (by decide) | exact ⟨by omega, by omega⟩) (fun c => absurd c (by omega)) (fun c83 => ?_)
  refine wq_go rfl (fun _ => rfl) ?_
  refine wq_go rfl (fun _ => rfl) ?_
  refine wq_getf rfl (by first | rfl | assumption) (by first | decide | omega | assumption) (cw_c32 hC) rfl ?_
  refine wq_alen rfl (by first | rfl | assumption) (by first | decide | omega | assumption) rfl h33 (arr_len _ _) ?_
  refine wq_cle rfl (by first | omega | decide | exact Nat.lt_of_le_of_lt Nat.and_le_right (by decide) | exact ⟨by omega, by omega⟩) (by first | omega | decide | exact Nat.lt_of_le_of_lt Nat.and_le_right (by decide) | exact ⟨by omega, by omega⟩) (fun c88 => ?_) (fun c => absurd (show _ from by omega) c)
  refine wq_go rfl (fun _ => rfl) ?_
  refine wq_getf rfl (by first | rfl | assumption) (by first | decide | omega | assumption) (cw_c32 hC) rfl ?_
  refine wq_go rfl (fun _ => rfl) ?_
  refine wq_cN (m := 2) rfl rfl ?_
  refine wq_subN rfl (by omega) ?_
  refine wq_top (congrArg nI (show D + 2 - 2 = D by omega)) ?_
  refine wq_iald rfl (by first | rfl | assumption) (by first | decide | omega | assumption) h33 rfl (by omega) (by first | decide | omega) ?_
  refine wq_go rfl (fun _ => rfl) ?_
  refine wq_go rfl (fun _ => rfl) ?_
  refine wq_getf rfl (by first | rfl | assumption) (by first | decide | omega | assumption) (cw_c32 hC) rfl ?_
  refine wq_go rfl (fun _ => rfl) ?_
  refine wq_cN (m := 1) rfl rfl ?_
  refine wq_subN rfl (by omega) ?_
  refine wq_top (congrArg nI (show D + 2 - 1 = D + 1 by omega)) ?_
  refine wq_iald rfl (by first | rfl | assumption) (by first | decide | omega | assumption) h33 rfl (by omega) (by first | decide | omega) ?_
  refine wq_go rfl (fun _ => rfl) ?_
  refine wq_decN (c := 2) rfl rfl rfl (by omega) rfl ?_
  rw [show D + 2 - 2 = D by omega]
  refine wq_go rfl (fun _ => rfl) ?_
  refine wq_cN (m := 6) rfl rfl ?_
  refine wq_cne rfl (by first | omega | decide | exact Nat.lt_of_le_of_lt Nat.and_le_right (by decide) | exact ⟨by omega, by omega⟩) (by first | omega | decide | exact Nat.lt_of_le_of_lt Nat.and_le_right (by decide) | exact ⟨by omega, by omega⟩) (fun c108 => ?_) (fun c => absurd (show _ from by omega) c)
  refine wq_go rfl (fun _ => rfl) ?_
  refine wq_cN (m := 5) rfl rfl ?_
  refine wq_cne rfl (by first | omega | decide | exact Nat.lt_of_le_of_lt Nat.and_le_right (by decide) | exact ⟨by omega, by omega⟩) (by first | omega | decide | exact Nat.lt_of_le_of_lt Nat.and_le_right (by decide) | exact ⟨by omega, by omega⟩) (fun c123 => ?_) (fun c => absurd (show _ from by omega) c)
  refine wq_go rfl (fun _ => rfl) ?_
  refine wq_getf rfl (by first | rfl | assumption) (by first | decide | omega | assumption) (cw_c32 hC) rfl ?_
  refine wq_go rfl (fun _ => rfl) ?_
  refine wq_go rfl (fun _ => rfl) ?_
  refine wq_go rfl (fun _ => rfl) ?_
  refine wq_go rfl (fun _ => rfl) ?_
  refine wq_callS rfl (Nat.le_of_ble_eq_true rfl) rfl (Nat.le_of_ble_eq_true rfl) (Nat.le_of_ble_eq_true rfl) rfl rfl ?_
  refine c_combined4  ?_
  refine wq_iast rfl (by first | rfl | assumption) (by first | decide | omega | assumption) h33 rfl (by omega) (by first | decide | omega) ?_
  refine wq_incN rfl rfl rfl ?_
  refine wq_incN rfl rfl rfl ?_
  refine wq_go rfl (fun _ => rfl) ?_
  exact wq_lv ⟨(by decide : ([5, 4, 9, 8, 7, 6, 3, 0, 1, 2] : List Nat).Nodup), (lvm (List.mem_of_getElem? (i := 0) rfl) (lvm (List.mem_of_getElem? (i := 1) rfl) (lvm (List.mem_of_getElem? (i := 6) rfl) (lvm (List.mem_of_getElem? (i := 7) rfl) (lvm (List.mem_of_getElem? (i := 8) rfl) (lvm (List.mem_of_getElem? (i := 9) rfl) lvn))))))⟩ K
theorem told_bin5 {xs : List Int32} {d : Nat} {σ : Nat → List Value} {Q : Option Value → (Nat → List Value) → Prop} {P : Pl} (hC : CW P σ) {f : Nat → Int32} (h33 : σ 33 = arr 32 f) {l M p D v : Nat} (hM : 0 < M) (hM2 : M < 2 ^ 31) (hp : p < 408) (hg : ag σ 28 p = nI (8 * v + 5)) (hD : D + 2 ≤ 32) (hv : v < 10000) (hy : ¬ f (D + 1) = 0)  (K : Wq xs (d + 1) ax_cd108 11 [(5, .int (nI (p + 1))), (4, .int (nI (D + 1))), (3, .ref 28), (0, .ref 32), (1, .int (nI l)), (2, .int (nI M))] [] (up σ 33 (arr 32 (upd f D (opv 5 (f D) (f (D + 1)))))) Q) : Wq xs (d + 1) ax_cd108 11 [(5, .int (nI (p))), (4, .int (nI (D + 2))), (3, .ref 28), (0, .ref 32), (1, .int (nI l)), (2, .int (nI M))] [] σ Q := by
  refine wq_go rfl (fun _ => rfl) ?_
  refine wq_zlt rfl (by first | omega | decide | exact Nat.lt_of_le_of_lt Nat.and_le_right (by decide) | exact ⟨by omega, by omega⟩) (fun c => absurd c (by omega)) (fun c12 => ?_)
  refine wq_go rfl (fun _ => rfl) ?_
  refine wq_go rfl (fun _ => rfl) ?_
  refine wq_alen rfl (by first | rfl | assumption) (by first | decide | omega | assumption) rfl (cw_c28 hC) (arr_len _ _) ?_
  refine wq_cge rfl (by first | omega | decide | exact Nat.lt_of_le_of_lt Nat.and_le_right (by decide) | exact ⟨by omega, by omega⟩) (by first | omega | decide | exact Nat.lt_of_le_of_lt Nat.and_le_right (by decide) | exact ⟨by omega, by omega⟩) (fun c => absurd c (by omega)) (fun c16 => ?_)
  refine wq_go rfl (fun _ => rfl) ?_
  refine wq_zle rfl (by first | omega | decide | exact Nat.lt_of_le_of_lt Nat.and_le_right (by decide) | exact ⟨by omega, by omega⟩) (fun c => absurd c (by omega)) (fun c18 => ?_)
  refine wq_go rfl (fun _ => rfl) ?_
  refine wq_go rfl (fun _ => rfl) ?_
  refine wq_iald rfl (by first | rfl | assumption) (by first | decide | omega | assumption) (cw_c28 hC) rfl (by omega) (by first | decide | omega) ?_
  refine wq_top hg ?_
  refine wq_cN (m := 7) rfl rfl ?_
  refine wq_andN rfl ?_
  refine wq_top (congrArg nI (and7 (v := v) (k := 5) (by decide))) ?_
  refine wq_go rfl (fun _ => rfl) ?_
  refine wq_go rfl (fun _ => rfl) ?_
  refine wq_go rfl (fun _ => rfl) ?_
  refine wq_iald rfl (by first | rfl | assumption) (by first | decide | omega | assumption) (cw_c28 hC) rfl (by omega) (by first | decide | omega) ?_
  refine wq_top hg ?_
  refine wq_cN (m := 3) rfl rfl ?_
  refine wq_ushN rfl (by omega) (by decide) ?_
  refine wq_top (congrArg nI (shr3 (v := v) (k := 5) (by decide))) ?_
  refine wq_go rfl (fun _ => rfl) ?_
  refine wq_go rfl (fun _ => rfl) ?_
  refine wq_cN (m := 7) rfl rfl ?_
  refine wq_cne rfl (by first | omega | decide | exact Nat.lt_of_le_of_lt Nat.and_le_right (by decide) | exact ⟨by omega, by omega⟩) (by first | omega | decide | exact Nat.lt_of_le_of_lt Nat.and_le_right (by decide) | exact ⟨by omega, by omega⟩) (fun c33 => ?_) (fun c => absurd (show _ from by omega) c)
  refine wq_go rfl (fun _ => rfl) ?_
  refine wq_zeq rfl (by first | omega | decide | exact Nat.lt_of_le_of_lt Nat.and_le_right (by decide) | exact ⟨by omega, by omega⟩) (fun c => absurd c (by omega)) (fun c49 => ?_)
  refine wq_go rfl (fun _ => rfl) ?_
  refine wq_cN (m := 1) rfl rfl ?_
  refine wq_cne rfl (by first | omega | decide | exact Nat.lt_of_le_of_lt Nat.and_le_right (by decide) | exact ⟨by omega, by omega⟩) (by first | omega | decide | exact Nat.lt_of_le_of_lt Nat.and_le_right (by decide) | exact ⟨by omega, by omega⟩) (fun c52 => ?_) (fun c => absurd (show _ from by omega) c)
  refine wq_go rfl (fun _ => rfl) ?_
  refine wq_cN (m := 2) rfl rfl ?_
  refine wq_clt rfl (by first | omega | decide | exact Nat.lt_of_le_of_lt Nat.and_le_right (by decide) | exact ⟨by omega, by omega⟩) (by first | omega | decide | exact Nat.lt_of_le_of_lt Nat.and_le_right (by decide) | exact ⟨by omega, by omega⟩) (fun c => absurd c (by omega)) (fun c83 => ?_)
  refine wq_go rfl (fun _ => rfl) ?_
  refine wq_go rfl (fun _ => rfl) ?_
  refine wq_getf rfl (by first | rfl | assumption) (by first | decide | omega | assumption) (cw_c32 hC) rfl ?_
  refine wq_alen rfl (by first | rfl | assumption) (by first | decide | omega | assumption) rfl h33 (arr_len _ _) ?_
  refine wq_cle rfl (by first | omega | decide | exact Nat.lt_of_le_of_lt Nat.and_le_right (by decide) | exact ⟨by omega, by omega⟩) (by first | omega | decide | exact Nat.lt_of_le_of_lt Nat.and_le_right (by decide) | exact ⟨by omega, by omega⟩) (fun c88 => ?_) (fun c => absurd (show _ from by omega) c)
  refine wq_go rfl (fun _ => rfl) ?_
  refine wq_getf rfl (by first | rfl | assumption) (by first | decide | omega | assumption) (cw_c32 hC) rfl ?_
  refine wq_go rfl (fun _ => rfl) ?_
  refine wq_cN (m := 2) rfl rfl ?_
  refine wq_subN rfl (by omega) ?_
  refine wq_top (congrArg nI (show D + 2 - 2 = D by omega)) ?_
  refine wq_iald rfl (by first | rfl | assumption) (by first | decide | omega | assumption) h33 rfl (by omega) (by first | decide | omega) ?_
  refine wq_go rfl (fun _ => rfl) ?_
  refine wq_go rfl (fun _ => rfl) ?_
  refine wq_getf rfl (by first | rfl | assumption) (by first | decide | omega | assumption) (cw_c32 hC) rfl ?_
  refine wq_go rfl (fun _ => rfl) ?_
  refine wq_cN (m := 1) rfl rfl ?_
  refine wq_subN rfl (by omega) ?_
  refine wq_top (congrArg nI (show D + 2 - 1 = D + 1 by omega)) ?_
  refine wq_iald rfl (by first | rfl | assumption) (by first | decide | omega | assumption) h33 rfl (by omega) (by first | decide | omega) ?_
  refine wq_go rfl (fun _ => rfl) ?_
  refine wq_decN (c := 2) rfl rfl rfl (by omega) rfl ?_
  rw [show D + 2 - 2 = D by omega]
  refine wq_go rfl (fun _ => rfl) ?_
  refine wq_cN (m := 6) rfl rfl ?_
  refine wq_cne rfl (by first | omega | decide | exact Nat.lt_of_le_of_lt Nat.and_le_right (by decide) | exact ⟨by omega, by omega⟩) (by first | omega | decide | exact Nat.lt_of_le_of_lt Nat.and_le_right (by decide) | exact ⟨by omega, by omega⟩) (fun c108 => ?_) (fun c => absurd (show _ from by omega) c)
  refine wq_go rfl (fun _ => rfl) ?_
  refine wq_cN (m := 5) rfl rfl ?_
  refine wq_cne rfl (by first | omega | decide | exact Nat.lt_of_le_of_lt Nat.and_le_right (by decide) | exact ⟨by omega, by omega⟩) (by first | omega | decide | exact Nat.lt_of_le_of_lt Nat.and_le_right (by decide) | exact ⟨by omega, by omega⟩) (fun c => absurd c (by omega)) (fun c123 => ?_)
  refine wq_go rfl (fun _ => rfl) ?_
  refine wq_if rfl (fun c125 => ?_) (fun c => absurd (c.symm.trans (decide_eq_true hy)) (by decide))
  refine wq_go rfl (fun _ => rfl) ?_
  refine wq_getf rfl (by first | rfl | assumption) (by first | decide | omega | assumption) (cw_c32 hC) rfl ?_
  refine wq_go rfl (fun _ => rfl) ?_
  refine wq_go rfl (fun _ => rfl) ?_
  refine wq_go rfl (fun _ => rfl) ?_
  refine wq_go rfl (fun _ => rfl) ?_
  refine wq_callS rfl (Nat.le_of_ble_eq_true rfl) rfl (Nat.le_of_ble_eq_true rfl) (Nat.le_of_ble_eq_true rfl) rfl rfl ?_
  refine c_combined5 hy ?_
  refine wq_iast rfl (by first | rfl | assumption) (by first | decide | omega | assumption) h33 rfl (by omega) (by first | decide | omega) ?_
  refine wq_incN rfl rfl rfl ?_
  refine wq_incN rfl rfl rfl ?_
  refine wq_go rfl (fun _ => rfl) ?_
  exact wq_lv ⟨(by decide : ([5, 4, 9, 8, 7, 6, 3, 0, 1, 2] : List Nat).Nodup), (lvm (List.mem_of_getElem? (i := 0) rfl) (lvm (List.mem_of_getElem? (i := 1) rfl) (lvm (List.mem_of_getElem? (i := 6) rfl) (lvm (List.mem_of_getElem? (i := 7) rfl) (lvm (List.mem_of_getElem? (i := 8) rfl) (lvm (List.mem_of_getElem? (i := 9) rfl) lvn))))))⟩ K
theorem told_div0 {xs : List Int32} {d : Nat} {σ : Nat → List Value} {Q : Option Value → (Nat → List Value) → Prop} {P : Pl} (hC : CW P σ) {f : Nat → Int32} (h33 : σ 33 = arr 32 f) {l M p D v : Nat} (hM : 0 < M) (hM2 : M < 2 ^ 31) (hp : p < 408) (hg : ag σ 28 p = nI (8 * v + 5)) (hD : D + 2 ≤ 32) (hv : v < 10000) (hy : f (D + 1) = 0) (K : Q (some (.int (nI 0))) σ) : Wq xs (d + 1) ax_cd108 11 [(5, .int (nI (p))), (4, .int (nI (D + 2))), (3, .ref 28), (0, .ref 32), (1, .int (nI l)), (2, .int (nI M))] [] σ Q := by
  refine wq_go rfl (fun _ => rfl) ?_
  refine wq_zlt rfl (by first | omega | decide | exact Nat.lt_of_le_of_lt Nat.and_le_right (by decide) | exact ⟨by omega, by omega⟩) (fun c => absurd c (by omega)) (fun c12 => ?_)
  refine wq_go rfl (fun _ => rfl) ?_
  refine wq_go rfl (fun _ => rfl) ?_
  refine wq_alen rfl (by first | rfl | assumption) (by first | decide | omega | assumption) rfl (cw_c28 hC) (arr_len _ _) ?_
  refine wq_cge rfl (by first | omega | decide | exact Nat.lt_of_le_of_lt Nat.and_le_right (by decide) | exact ⟨by omega, by omega⟩) (by first | omega | decide | exact Nat.lt_of_le_of_lt Nat.and_le_right (by decide) | exact ⟨by omega, by omega⟩) (fun c => absurd c (by omega)) (fun c16 => ?_)
  refine wq_go rfl (fun _ => rfl) ?_
  refine wq_zle rfl (by first | omega | decide | exact Nat.lt_of_le_of_lt Nat.and_le_right (by decide) | exact ⟨by omega, by omega⟩) (fun c => absurd c (by omega)) (fun c18 => ?_)
  refine wq_go rfl (fun _ => rfl) ?_
  refine wq_go rfl (fun _ => rfl) ?_
  refine wq_iald rfl (by first | rfl | assumption) (by first | decide | omega | assumption) (cw_c28 hC) rfl (by omega) (by first | decide | omega) ?_
  refine wq_top hg ?_
  refine wq_cN (m := 7) rfl rfl ?_
  refine wq_andN rfl ?_
  refine wq_top (congrArg nI (and7 (v := v) (k := 5) (by decide))) ?_
  refine wq_go rfl (fun _ => rfl) ?_
  refine wq_go rfl (fun _ => rfl) ?_
  refine wq_go rfl (fun _ => rfl) ?_
  refine wq_iald rfl (by first | rfl | assumption) (by first | decide | omega | assumption) (cw_c28 hC) rfl (by omega) (by first | decide | omega) ?_
  refine wq_top hg ?_
  refine wq_cN (m := 3) rfl rfl ?_
  refine wq_ushN rfl (by omega) (by decide) ?_
  refine wq_top (congrArg nI (shr3 (v := v) (k := 5) (by decide))) ?_
  refine wq_go rfl (fun _ => rfl) ?_
  refine wq_go rfl (fun _ => rfl) ?_
  refine wq_cN (m := 7) rfl rfl ?_
  refine wq_cne rfl (by first | omega | decide | exact Nat.lt_of_le_of_lt Nat.and_le_right (by decide) | exact ⟨by omega, by omega⟩) (by first | omega | decide | exact Nat.lt_of_le_of_lt Nat.and_le_right (by decide) | exact ⟨by omega, by omega⟩) (fun c33 => ?_) (fun c => absurd (show _ from by omega) c)
  refine wq_go rfl (fun _ => rfl) ?_
  refine wq_zeq rfl (by first | omega | decide | exact Nat.lt_of_le_of_lt Nat.and_le_right (by decide) | exact ⟨by omega, by omega⟩) (fun c => absurd c (by omega)) (fun c49 => ?_)
  refine wq_go rfl (fun _ => rfl) ?_
  refine wq_cN (m := 1) rfl rfl ?_
  refine wq_cne rfl (by first | omega | decide | exact Nat.lt_of_le_of_lt Nat.and_le_right (by decide) | exact ⟨by omega, by omega⟩) (by first | omega | decide | exact Nat.lt_of_le_of_lt Nat.and_le_right (by decide) | exact ⟨by omega, by omega⟩) (fun c52 => ?_) (fun c => absurd (show _ from by omega) c)
  refine wq_go rfl (fun _ => rfl) ?_
  refine wq_cN (m := 2) rfl rfl ?_
  refine wq_clt rfl (by first | omega | decide | exact Nat.lt_of_le_of_lt Nat.and_le_right (by decide) | exact ⟨by omega, by omega⟩) (by first | omega | decide | exact Nat.lt_of_le_of_lt Nat.and_le_right (by decide) | exact ⟨by omega, by omega⟩) (fun c => absurd c (by omega)) (fun c83 => ?_)
  refine wq_go rfl (fun _ => rfl) ?_
  refine wq_go rfl (fun _ => rfl) ?_
  refine wq_getf rfl (by first | rfl | assumption) (by first | decide | omega | assumption) (cw_c32 hC) rfl ?_
  refine wq_alen rfl (by first | rfl | assumption) (by first | decide | omega | assumption) rfl h33 (arr_len _ _) ?_
  refine wq_cle rfl (by first | omega | decide | exact Nat.lt_of_le_of_lt Nat.and_le_right (by decide) | exact ⟨by omega, by omega⟩) (by first | omega | decide | exact Nat.lt_of_le_of_lt Nat.and_le_right (by decide) | exact ⟨by omega, by omega⟩) (fun c88 => ?_) (fun c => absurd (show _ from by omega) c)
  refine wq_go rfl (fun _ => rfl) ?_
  refine wq_getf rfl (by first | rfl | assumption) (by first | decide | omega | assumption) (cw_c32 hC) rfl ?_
  refine wq_go rfl (fun _ => rfl) ?_
  refine wq_cN (m := 2) rfl rfl ?_
  refine wq_subN rfl (by omega) ?_
  refine wq_top (congrArg nI (show D + 2 - 2 = D by omega)) ?_
  refine wq_iald rfl (by first | rfl | assumption) (by first | decide | omega | assumption) h33 rfl (by omega) (by first | decide | omega) ?_
  refine wq_go rfl (fun _ => rfl) ?_
  refine wq_go rfl (fun _ => rfl) ?_
  refine wq_getf rfl (by first | rfl | assumption) (by first | decide | omega | assumption) (cw_c32 hC) rfl ?_
  refine wq_go rfl (fun _ => rfl) ?_
  refine wq_cN (m := 1) rfl rfl ?_
  refine wq_subN rfl (by omega) ?_
  refine wq_top (congrArg nI (show D + 2 - 1 = D + 1 by omega)) ?_
  refine wq_iald rfl (by first | rfl | assumption) (by first | decide | omega | assumption) h33 rfl (by omega) (by first | decide | omega) ?_
  refine wq_go rfl (fun _ => rfl) ?_
  refine wq_decN (c := 2) rfl rfl rfl (by omega) rfl ?_
  rw [show D + 2 - 2 = D by omega]
  refine wq_go rfl (fun _ => rfl) ?_
  refine wq_cN (m := 6) rfl rfl ?_
  refine wq_cne rfl (by first | omega | decide | exact Nat.lt_of_le_of_lt Nat.and_le_right (by decide) | exact ⟨by omega, by omega⟩) (by first | omega | decide | exact Nat.lt_of_le_of_lt Nat.and_le_right (by decide) | exact ⟨by omega, by omega⟩) (fun c108 => ?_) (fun c => absurd (show _ from by omega) c)
  refine wq_go rfl (fun _ => rfl) ?_
  refine wq_cN (m := 5) rfl rfl ?_
  refine wq_cne rfl (by first | omega | decide | exact Nat.lt_of_le_of_lt Nat.and_le_right (by decide) | exact ⟨by omega, by omega⟩) (by first | omega | decide | exact Nat.lt_of_le_of_lt Nat.and_le_right (by decide) | exact ⟨by omega, by omega⟩) (fun c => absurd c (by omega)) (fun c123 => ?_)
  refine wq_go rfl (fun _ => rfl) ?_
  refine wq_if rfl (fun c => absurd (c.symm.trans (decide_eq_false (fun e => e hy))) (by decide)) (fun c125 => ?_)
  refine wq_cN (m := 0) rfl rfl ?_
  refine wq_iret rfl ?_
  exact K
theorem told_less {xs : List Int32} {d : Nat} {σ : Nat → List Value} {Q : Option Value → (Nat → List Value) → Prop} {P : Pl} (hC : CW P σ) {f : Nat → Int32} (h33 : σ 33 = arr 32 f) {l M p D v : Nat} (hM : 0 < M) (hM2 : M < 2 ^ 31) (hp : p < 408) (hg : ag σ 28 p = nI (8 * v + 6)) (hD : D + 2 ≤ 32) (hv : v < 10000) (hpv : p + 1 ≤ v) (K1 : f D < f (D + 1) → Wq xs (d + 1) ax_cd108 11 [(5, .int (nI (p + 1))), (4, .int (nI (D))), (3, .ref 28), (0, .ref 32), (1, .int (nI l)), (2, .int (nI M))] [] σ Q) (K0 : ¬ f D < f (D + 1) → Wq xs (d + 1) ax_cd108 11 [(5, .int (nI (v))), (4, .int (nI (D))), (3, .ref 28), (0, .ref 32), (1, .int (nI l)), (2, .int (nI M))] [] σ Q) : Wq xs (d + 1) ax_cd108 11 [(5, .int (nI (p))), (4, .int (nI (D + 2))), (3, .ref 28), (0, .ref 32), (1, .int (nI l)), (2, .int (nI M))] [] σ Q := by
  refine wq_go rfl (fun _ => rfl) ?_
  refine wq_zlt rfl (by first | omega | decide | exact Nat.lt_of_le_of_lt Nat.and_le_right (by decide) | exact ⟨by omega, by omega⟩) (fun c => absurd c (by omega)) (fun c12 => ?_)
  refine wq_go rfl (fun _ => rfl) ?_
  refine wq_go rfl (fun _ => rfl) ?_
  refine wq_alen rfl (by first | rfl | assumption) (by first | decide | omega | assumption) rfl (cw_c28 hC) (arr_len _ _) ?_
  refine wq_cge rfl (by first | omega | decide | exact Nat.lt_of_le_of_lt Nat.and_le_right (by decide) | exact ⟨by omega, by omega⟩) (by first | omega | decide | exact Nat.lt_of_le_of_lt Nat.and_le_right (by decide) | exact ⟨by omega, by omega⟩) (fun c => absurd c (by omega)) (fun c16 => ?_)
  refine wq_go rfl (fun _ => rfl) ?_
  refine wq_zle rfl (by first | omega | decide | exact Nat.lt_of_le_of_lt Nat.and_le_right (by decide) | exact ⟨by omega, by omega⟩) (fun c => absurd c (by omega)) (fun c18 => ?_)
  refine wq_go rfl (fun _ => rfl) ?_
  refine wq_go rfl (fun _ => rfl) ?_
  refine wq_iald rfl (by first | rfl | assumption) (by first | decide | omega | assumption) (cw_c28 hC) rfl (by omega) (by first | decide | omega) ?_
  refine wq_top hg ?_
  refine wq_cN (m := 7) rfl rfl ?_
  refine wq_andN rfl ?_
  refine wq_top (congrArg nI (and7 (v := v) (k := 6) (by decide))) ?_
  refine wq_go rfl (fun _ => rfl) ?_
  refine wq_go rfl (fun _ => rfl) ?_
  refine wq_go rfl (fun _ => rfl) ?_
  refine wq_iald rfl (by first | rfl | assumption) (by first | decide | omega | assumption) (cw_c28 hC) rfl (by omega) (by first | decide | omega) ?_
  refine wq_top hg ?_
  refine wq_cN (m := 3) rfl rfl ?_
  refine wq_ushN rfl (by omega) (by decide) ?_
  refine wq_top (congrArg nI (shr3 (v := v) (k := 6) (by decide))) ?_
  refine wq_go rfl (fun _ => rfl) ?_
  refine wq_go rfl (fun _ => rfl) ?_
  refine wq_cN (m := 7) rfl rfl ?_
  refine wq_cne rfl (by first | omega | decide | exact Nat.lt_of_le_of_lt Nat.and_le_right (by decide) | exact ⟨by omega, by omega⟩) (by first | omega | decide | exact Nat.lt_of_le_of_lt Nat.and_le_right (by decide) | exact ⟨by omega, by omega⟩) (fun c33 => ?_) (fun c => absurd (show _ from by omega) c)
  refine wq_go rfl (fun _ => rfl) ?_
  refine wq_zeq rfl (by first | omega | decide | exact Nat.lt_of_le_of_lt Nat.and_le_right (by decide) | exact ⟨by omega, by omega⟩) (fun c => absurd c (by omega)) (fun c49 => ?_)
  refine wq_go rfl (fun _ => rfl) ?_
  refine wq_cN (m := 1) rfl rfl ?_
  refine wq_cne rfl (by first | omega | decide | exact Nat.lt_of_le_of_lt Nat.and_le_right (by decide) | exact ⟨by omega, by omega⟩) (by first | omega | decide | exact Nat.lt_of_le_of_lt Nat.and_le_right (by decide) | exact ⟨by omega, by omega⟩) (fun c52 => ?_) (fun c => absurd (show _ from by omega) c)
  refine wq_go rfl (fun _ => rfl) ?_
  refine wq_cN (m := 2) rfl rfl ?_
  refine wq_clt rfl (by first | omega | decide | exact Nat.lt_of_le_of_lt Nat.and_le_right (by decide) | exact ⟨by omega, by omega⟩) (by first | omega | decide | exact Nat.lt_of_le_of_lt Nat.and_le_right (by decide) | exact ⟨by omega, by omega⟩) (fun c => absurd c (by omega)) (fun c83 => ?_)
  refine wq_go rfl (fun _ => rfl) ?_
  refine wq_go rfl (fun _ => rfl) ?_
  refine wq_getf rfl (by first | rfl | assumption) (by first | decide | omega | assumption) (cw_c32 hC) rfl ?_
  refine wq_alen rfl (by first | rfl | assumption) (by first | decide | omega | assumption) rfl h33 (arr_len _ _) ?_
  refine wq_cle rfl (by first | omega | decide | exact Nat.lt_of_le_of_lt Nat.and_le_right (by decide) | exact ⟨by omega, by omega⟩) (by first | omega | decide | exact Nat.lt_of_le_of_lt Nat.and_le_right (by decide) | exact ⟨by omega, by omega⟩) (fun c88 => ?_) (fun c => absurd (show _ from by omega) c)
  refine wq_go rfl (fun _ => rfl) ?_
  refine wq_getf rfl (by first | rfl | assumption) (by first | decide | omega | assumption) (cw_c32 hC) rfl ?_
  refine wq_go rfl (fun _ => rfl) ?_
  refine wq_cN (m := 2) rfl rfl ?_
  refine wq_subN rfl (by omega) ?_
  refine wq_top (congrArg nI (show D + 2 - 2 = D by omega)) ?_
  refine wq_iald rfl (by first | rfl | assumption) (by first | decide | omega | assumption) h33 rfl (by omega) (by first | decide | omega) ?_
  refine wq_go rfl (fun _ => rfl) ?_
  refine wq_go rfl (fun _ => rfl) ?_
  refine wq_getf rfl (by first | rfl | assumption) (by first | decide | omega | assumption) (cw_c32 hC) rfl ?_
  refine wq_go rfl (fun _ => rfl) ?_
  refine wq_cN (m := 1) rfl rfl ?_
  refine wq_subN rfl (by omega) ?_
  refine wq_top (congrArg nI (show D + 2 - 1 = D + 1 by omega)) ?_
  refine wq_iald rfl (by first | rfl | assumption) (by first | decide | omega | assumption) h33 rfl (by omega) (by first | decide | omega) ?_
  refine wq_go rfl (fun _ => rfl) ?_
  refine wq_decN (c := 2) rfl rfl rfl (by omega) rfl ?_
  rw [show D + 2 - 2 = D by omega]
  refine wq_go rfl (fun _ => rfl) ?_
  refine wq_cN (m := 6) rfl rfl ?_
  refine wq_cne rfl (by first | omega | decide | exact Nat.lt_of_le_of_lt Nat.and_le_right (by decide) | exact ⟨by omega, by omega⟩) (by first | omega | decide | exact Nat.lt_of_le_of_lt Nat.and_le_right (by decide) | exact ⟨by omega, by omega⟩) (fun c => absurd c (by omega)) (fun c108 => ?_)
  refine wq_go rfl (fun _ => rfl) ?_
  refine wq_go rfl (fun _ => rfl) ?_
  refine wq_cmp rfl  (fun c111 => ?_) (fun c111 => ?_)
  · skip
    have hlt : ¬ f D < f (D + 1) := fun e => Int32.not_le.mpr e (of_decide_eq_true c111)
    refine wq_go rfl (fun _ => rfl) ?_
    refine wq_go rfl (fun _ => rfl) ?_
    refine wq_cN (m := 1) rfl rfl ?_
    refine wq_subN rfl (by omega) ?_
    refine wq_go rfl (fun _ => rfl) ?_
    refine wq_top (mx_p hpv hv) ?_
    refine wq_go rfl (fun _ => rfl) ?_
    refine wq_go rfl (fun _ => rfl) ?_
    refine wq_incN rfl rfl rfl ?_
    refine wq_go rfl (fun _ => rfl) ?_
    first | exact wq_lv ⟨(by decide : ([5, 4, 9, 8, 7, 6, 3, 0, 1, 2] : List Nat).Nodup), (lvm (List.mem_of_getElem? (i := 0) rfl) (lvm (List.mem_of_getElem? (i := 1) rfl) (lvm (List.mem_of_getElem? (i := 6) rfl) (lvm (List.mem_of_getElem? (i := 7) rfl) (lvm (List.mem_of_getElem? (i := 8) rfl) (lvm (List.mem_of_getElem? (i := 9) rfl) lvn))))))⟩ (K1 hlt) | (have hK := K0 hlt; rw [show v = v - 1 + 1 by omega] at hK; exact wq_lv ⟨(by decide : ([5, 4, 9, 8, 7, 6, 3, 0, 1, 2] : List Nat).Nodup), (lvm (List.mem_of_getElem? (i := 0) rfl) (lvm (List.mem_of_getElem? (i := 1) rfl) (lvm (List.mem_of_getElem? (i := 6) rfl) (lvm (List.mem_of_getElem? (i := 7) rfl) (lvm (List.mem_of_getElem? (i := 8) rfl) (lvm (List.mem_of_getElem? (i := 9) rfl) lvn))))))⟩ hK)
  · skip
    have hlt : f D < f (D + 1) := Int32.not_le.mp (of_decide_eq_false c111)
    refine wq_go rfl (fun _ => rfl) ?_
    refine wq_go rfl (fun _ => rfl) ?_
    refine wq_go rfl (fun _ => rfl) ?_
    refine wq_go rfl (fun _ => rfl) ?_
    refine wq_incN rfl rfl rfl ?_
    refine wq_go rfl (fun _ => rfl) ?_
    first | exact wq_lv ⟨(by decide : ([5, 4, 9, 8, 7, 6, 3, 0, 1, 2] : List Nat).Nodup), (lvm (List.mem_of_getElem? (i := 0) rfl) (lvm (List.mem_of_getElem? (i := 1) rfl) (lvm (List.mem_of_getElem? (i := 6) rfl) (lvm (List.mem_of_getElem? (i := 7) rfl) (lvm (List.mem_of_getElem? (i := 8) rfl) (lvm (List.mem_of_getElem? (i := 9) rfl) lvn))))))⟩ (K1 hlt) | (have hK := K0 hlt; rw [show v = v - 1 + 1 by omega] at hK; exact wq_lv ⟨(by decide : ([5, 4, 9, 8, 7, 6, 3, 0, 1, 2] : List Nat).Nodup), (lvm (List.mem_of_getElem? (i := 0) rfl) (lvm (List.mem_of_getElem? (i := 1) rfl) (lvm (List.mem_of_getElem? (i := 6) rfl) (lvm (List.mem_of_getElem? (i := 7) rfl) (lvm (List.mem_of_getElem? (i := 8) rfl) (lvm (List.mem_of_getElem? (i := 9) rfl) lvn))))))⟩ hK)
theorem told_ans {xs : List Int32} {d : Nat} {σ : Nat → List Value} {Q : Option Value → (Nat → List Value) → Prop} {P : Pl} (hC : CW P σ) {f : Nat → Int32} (h33 : σ 33 = arr 32 f) {l M p D v9 : Nat} (hM : 0 < M) (hM2 : M < 2 ^ 31) (hp : p < 408) (hg : ag σ 28 p = nI (8 * 0 + 7))  (K : Q (some (.int (nI (cpN (f 0) M)))) σ) : Wq xs (d + 1) ax_cd108 11 [(5, .int (nI (p))), (4, .int (nI (1))), (3, .ref 28), (0, .ref 32), (1, .int (nI l)), (2, .int (nI M))] [] σ Q := by
  refine wq_go rfl (fun _ => rfl) ?_
  refine wq_zlt rfl (by first | omega | decide | exact Nat.lt_of_le_of_lt Nat.and_le_right (by decide) | exact ⟨by omega, by omega⟩) (fun c => absurd c (by omega)) (fun c12 => ?_)
  refine wq_go rfl (fun _ => rfl) ?_
  refine wq_go rfl (fun _ => rfl) ?_
  refine wq_alen rfl (by first | rfl | assumption) (by first | decide | omega | assumption) rfl (cw_c28 hC) (arr_len _ _) ?_
  refine wq_cge rfl (by first | omega | decide | exact Nat.lt_of_le_of_lt Nat.and_le_right (by decide) | exact ⟨by omega, by omega⟩) (by first | omega | decide | exact Nat.lt_of_le_of_lt Nat.and_le_right (by decide) | exact ⟨by omega, by omega⟩) (fun c => absurd c (by omega)) (fun c16 => ?_)
  refine wq_go rfl (fun _ => rfl) ?_
  refine wq_zle rfl (by first | omega | decide | exact Nat.lt_of_le_of_lt Nat.and_le_right (by decide) | exact ⟨by omega, by omega⟩) (fun c => absurd c (by omega)) (fun c18 => ?_)
  refine wq_go rfl (fun _ => rfl) ?_
  refine wq_go rfl (fun _ => rfl) ?_
  refine wq_iald rfl (by first | rfl | assumption) (by first | decide | omega | assumption) (cw_c28 hC) rfl (by omega) (by first | decide | omega) ?_
  refine wq_top hg ?_
  refine wq_cN (m := 7) rfl rfl ?_
  refine wq_andN rfl ?_
  refine wq_top (congrArg nI (and7 (v := 0) (k := 7) (by decide))) ?_
  refine wq_go rfl (fun _ => rfl) ?_
  refine wq_go rfl (fun _ => rfl) ?_
  refine wq_go rfl (fun _ => rfl) ?_
  refine wq_iald rfl (by first | rfl | assumption) (by first | decide | omega | assumption) (cw_c28 hC) rfl (by omega) (by first | decide | omega) ?_
  refine wq_top hg ?_
  refine wq_cN (m := 3) rfl rfl ?_
  refine wq_ushN rfl (by omega) (by decide) ?_
  refine wq_top (congrArg nI (shr3 (v := 0) (k := 7) (by decide))) ?_
  refine wq_go rfl (fun _ => rfl) ?_
  refine wq_go rfl (fun _ => rfl) ?_
  refine wq_cN (m := 7) rfl rfl ?_
  refine wq_cne rfl (by first | omega | decide | exact Nat.lt_of_le_of_lt Nat.and_le_right (by decide) | exact ⟨by omega, by omega⟩) (by first | omega | decide | exact Nat.lt_of_le_of_lt Nat.and_le_right (by decide) | exact ⟨by omega, by omega⟩) (fun c => absurd c (by omega)) (fun c33 => ?_)
  refine wq_go rfl (fun _ => rfl) ?_
  refine wq_cN (m := 1) rfl rfl ?_
  refine wq_cne rfl (by first | omega | decide | exact Nat.lt_of_le_of_lt Nat.and_le_right (by decide) | exact ⟨by omega, by omega⟩) (by first | omega | decide | exact Nat.lt_of_le_of_lt Nat.and_le_right (by decide) | exact ⟨by omega, by omega⟩) (fun c => absurd c (by omega)) (fun c36 => ?_)
  refine wq_cN (m := 0) rfl rfl ?_
  refine wq_go rfl (fun _ => rfl) ?_
  refine wq_getf rfl (by first | rfl | assumption) (by first | decide | omega | assumption) (cw_c32 hC) rfl ?_
  refine wq_cN (m := 0) rfl rfl ?_
  refine wq_iald rfl (by first | rfl | assumption) (by first | decide | omega | assumption) h33 rfl (by omega) (by first | decide | omega) ?_
  refine wq_go rfl (fun _ => rfl) ?_
  refine wq_go rfl (fun _ => rfl) ?_
  refine wq_go rfl (fun _ => rfl) ?_
  refine wq_top (mm_z (f 0) hM2) ?_
  refine wq_go rfl (fun _ => rfl) ?_
  refine wq_iret rfl ?_
  exact K
theorem told_code {xs : List Int32} {d : Nat} {Q : Option Value → (Nat → List Value) → Prop} {P : Pl} {l M : Nat} {V : Nat → Nat} {g : Nat → Int32} (hM : 0 < M) (hM2 : M < 2 ^ 31) (B : Nat) (hB : B ≤ 1) : ∀ (c : KCode) (dd e p : Nat) (f : Nat → Int32) (σ : Nat → List Value), wfc c dd e = true → dd ≤ 17 → p + c.length < 408 → CW P σ → ag σ 28 = g → σ 33 = arr 32 f → σ 34 = arrN 9 V → codeAt g p c → (∀ σ', Fr x33 σ σ' → CW P σ' → evc (fun j => nI (V j)) c (stl f (B + dd)) = none → Q (some (.int (nI 0))) σ') → (∀ σ' f', Fr x33 σ σ' → CW P σ' → σ' 33 = arr 32 f' → evc (fun j => nI (V j)) c (stl f (B + dd)) = some (stl f' (B + e)) → Wq xs (d + 1) ax_cd108 11 [(5, .int (nI (p + c.length))), (4, .int (nI (B + e))), (3, .ref 28), (0, .ref 32), (1, .int (nI l)), (2, .int (nI M))] [] σ' Q) → Wq xs (d + 1) ax_cd108 11 [(5, .int (nI (p))), (4, .int (nI (B + dd))), (3, .ref 28), (0, .ref 32), (1, .int (nI l)), (2, .int (nI M))] [] σ Q
  | [], dd, e, p, f, σ, hw, hd9, hp, hC, hg, h33, h34, hc, K0, K1 => by
    simp only [wfc, beq_iff_eq] at hw
    subst hw
    exact K1 σ f (fr_refl _ _) hC h33 rfl
  | (k, v) :: c, dd, e, p, f, σ, hw, hd9, hp, hC, hg, h33, h34, hc, K0, K1 => by
    simp only [List.length_cons] at hp K1
    obtain ⟨hc1, hc2⟩ := hc
    rw [← hg] at hc1
    unfold wfc at hw
    have fin : ∀ (f2 : Nat → Int32) (d2 : Nat), wfc c d2 e = true → d2 ≤ 17 → evc (fun j => nI (V j)) ((k, v) :: c) (stl f (B + dd)) = evc (fun j => nI (V j)) c (stl f2 (B + d2)) → Wq xs (d + 1) ax_cd108 11 [(5, .int (nI (p + 1))), (4, .int (nI (B + d2))), (3, .ref 28), (0, .ref 32), (1, .int (nI l)), (2, .int (nI M))] [] (up σ 33 (arr 32 f2)) Q := by
      intro f2 d2 hw2 hd8 he
      refine told_code hM hM2 B hB c d2 e (p + 1) f2 (up σ 33 (arr 32 f2)) hw2 hd8 (by omega) (cw_u33 hC) ?_ (up_same _ _ _) ((up_ne _ _ (by decide)).trans h34) hc2 ?_ ?_
      · rw [← hg]
        exact ag_fun (up_ne _ _ (by decide))
      · intro σ' hF hC' hn
        exact K0 σ' (fr_trans (fr_up (fr_refl _ _) rfl) hF) hC' (he.trans hn)
      · intro σ' f' hF hC' h33' hs
        have := K1 σ' f' (fr_trans (fr_up (fr_refl _ _) rfl) hF) hC' h33' (he.trans hs)
        rw [show p + (c.length + 1) = p + 1 + c.length by omega] at this
        exact this
    by_cases h2 : k < 2
    · rw [if_pos h2] at hw
      simp only [Bool.and_eq_true, decide_eq_true_eq, Bool.or_eq_true, beq_iff_eq] at hw
      obtain ⟨⟨⟨hv, hv9⟩, hd⟩, hw2⟩ := hw
      by_cases h0 : k = 0
      · subst h0
        refine told_num hC h33 hM hM2 (by omega) hc1 (by omega) hv ?_
        refine fin _ (dd + 1) hw2 (by omega) ?_
        rw [show B + (dd + 1) = B + dd + 1 by omega, stl_push]
        rfl
      · have h1 : k = 1 := by omega
        subst h1
        refine told_var hC h33 hM hM2 (by omega) hc1 (by omega) (by omega) h34 ?_
        refine fin _ (dd + 1) hw2 (by omega) ?_
        rw [show B + (dd + 1) = B + dd + 1 by omega, stl_push]
        rfl
    · rw [if_neg h2] at hw
      simp only [Bool.and_eq_true, decide_eq_true_eq] at hw
      obtain ⟨⟨⟨hk6, hv⟩, hd⟩, hw2⟩ := hw
      obtain ⟨D, hD⟩ : ∃ D, B + dd = D + 2 := ⟨B + dd - 2, by omega⟩
      have hD1 : B + (dd - 1) = D + 1 := by omega
      have hev : evc (fun j => nI (V j)) ((k, v) :: c) (stl f (B + dd)) = if k = 5 ∧ f (D + 1) = 0 then none else evc (fun j => nI (V j)) c (stl (upd f D (opv k (f D) (f (D + 1)))) (D + 1)) := by
        rw [hD, stl_push, show stl f (D + 2) = f (D + 1) :: f D :: stl f D from rfl]
        conv => lhs; unfold evc
        rw [if_neg (by omega), if_neg (by omega)]
      have fin2 : ¬ (k = 5 ∧ f (D + 1) = 0) → Wq xs (d + 1) ax_cd108 11 [(5, .int (nI (p + 1))), (4, .int (nI (D + 1))), (3, .ref 28), (0, .ref 32), (1, .int (nI l)), (2, .int (nI M))] [] (up σ 33 (arr 32 (upd f D (opv k (f D) (f (D + 1)))))) Q := by
        intro hn
        have := fin (upd f D (opv k (f D) (f (D + 1)))) (dd - 1) hw2 (by omega) (by rw [hev, if_neg hn, hD1])
        rw [hD1] at this
        exact this
      rw [hD]
      match k, hk6, h2, hc1, fin2, hev with
      | 2, _, _, hc1, fin2, _ => exact told_bin2 hC h33 hM hM2 (by omega) hc1 (by omega) hv (fin2 (by omega))
      | 3, _, _, hc1, fin2, _ => exact told_bin3 hC h33 hM hM2 (by omega) hc1 (by omega) hv (fin2 (by omega))
      | 4, _, _, hc1, fin2, _ => exact told_bin4 hC h33 hM hM2 (by omega) hc1 (by omega) hv (fin2 (by omega))
      | 5, _, _, hc1, fin2, hev =>
        by_cases hy : f (D + 1) = 0
        · exact told_div0 hC h33 hM hM2 (by omega) hc1 (by omega) hv hy (K0 σ (fr_refl _ _) hC (by rw [hev, if_pos ⟨rfl, hy⟩]))
        · exact told_bin5 hC h33 hM hM2 (by omega) hc1 (by omega) hv hy (fin2 (fun e => hy e.2))
      | 0, _, h2, _, _, _ => exact absurd (by decide) h2
      | 1, _, h2, _, _, _ => exact absurd (by decide) h2
      | k + 6, h, _, _, _, _ => exact absurd h (by omega)
