/-! HISTORY, SLOTS -/
def hyR : List Value := (List.range 40).map (fun i => .ref (70 + 5 * i))
theorem hyR_get {i k : Nat} (h : i < 40) (hk : k = 70 + 5 * i) : hyR[i]? = some (.ref k) := by
  subst hk
  simp [hyR, h]
theorem hyR_len : hyR.length = 40 := by simp [hyR]
theorem hy_7 : ∀ i, i < 40 → kd (70 + 5 * i) = .inr 7 := by decide +kernel
theorem hy_7k {i k : Nat} (h : i < 40) (hk : k = 70 + 5 * i) : kd k = .inr 7 := by
  subst hk
  exact hy_7 i h
def xH (k : Nat) : Nat → Bool := fun j => j == 68 || inS k j
theorem xk_H {k : Nat} : ∀ j, xk k j = true → xH k j = true := by
  intro j h
  simp only [xH, Bool.or_eq_true]
  exact Or.inr h
theorem xH_68 {k : Nat} : xH k 68 = true := rfl
def slR : List Value := [.ref 272, .ref 277, .ref 282]
theorem slR_get {i k : Nat} (h : i < 3) (hk : k = 272 + 5 * i) : slR[i]? = some (.ref k) := by
  subst hk
  match i, h with
  | 0, _ => rfl
  | 1, _ => rfl
  | 2, _ => rfl
theorem sl_7k {i k : Nat} (h : i < 3) (hk : k = 272 + 5 * i) : kd k = .inr 7 := by
  subst hk
  match i, h with
  | 0, _ => rfl
  | 1, _ => rfl
  | 2, _ => rfl
def xZ (k : Nat) : Nat → Bool := fun j => j == 270 || inS k j
theorem xk_Z {k : Nat} : ∀ j, xk k j = true → xZ k j = true := by
  intro j h
  simp only [xZ, Bool.or_eq_true]
  exact Or.inr h
theorem xZ_270 {k : Nat} : xZ k 270 = true := rfl

theorem c_History_remember {xs : List Int32} {d : Nat} {σ : Nat → List Value} {Q : Option Value → (Nat → List Value) → Prop} {nx n kx : Nat} (h68 : σ 68 = [.ref 69, .int (nI nx), .int (nI n)]) (h69 : σ 69 = hyR) (hnx : nx < 40) (hn : n ≤ 40) (hkx : kx = 70 + 5 * nx) {S S0 : St} (hX : StIs σ kx S0) (hS : StIs σ 35 S)  (K : ∀ σ', Fr (xH kx) σ σ' → σ' 68 = [.ref 69, .int (nI ((nx + 1) % 40)), .int (nI (min (n + 1) 40))] → StIs σ' kx S → Q none σ') : Wq xs (d + 1) ax_cd118 0 [(0, .ref 68), (1, .ref 35)] [] σ Q := by
  have hkx7 := hy_7k hnx hkx
  refine wq_go rfl (fun _ => rfl) ?_
  refine wq_getf rfl (by first | rfl | assumption) (by first | decide | omega | assumption) h68 rfl ?_
  refine wq_zlt rfl (by first | omega | decide | exact Nat.lt_of_le_of_lt Nat.and_le_right (by decide) | exact ⟨by omega, by omega⟩) (fun c => absurd c (by omega)) (fun c2 => ?_)
  refine wq_go rfl (fun _ => rfl) ?_
  refine wq_getf rfl (by first | rfl | assumption) (by first | decide | omega | assumption) h68 rfl ?_
  refine wq_go rfl (fun _ => rfl) ?_
  refine wq_getf rfl (by first | rfl | assumption) (by first | decide | omega | assumption) h68 rfl ?_
  refine wq_alen rfl (by first | rfl | assumption) (by first | decide | omega | assumption) rfl h69 hyR_len ?_
  refine wq_cge rfl (by first | omega | decide | exact Nat.lt_of_le_of_lt Nat.and_le_right (by decide) | exact ⟨by omega, by omega⟩) (by first | omega | decide | exact Nat.lt_of_le_of_lt Nat.and_le_right (by decide) | exact ⟨by omega, by omega⟩) (fun c => absurd c (by omega)) (fun c8 => ?_)
  refine wq_go rfl (fun _ => rfl) ?_
  refine wq_getf rfl (by first | rfl | assumption) (by first | decide | omega | assumption) h68 rfl ?_
  refine wq_go rfl (fun _ => rfl) ?_
  refine wq_getf rfl (by first | rfl | assumption) (by first | decide | omega | assumption) h68 rfl ?_
  refine wq_aald rfl (by first | rfl | assumption) (by first | decide | omega | assumption) h69 rfl (by rw [hyR_len]; exact hnx) (by first | decide | omega) (hyR_get hnx hkx) ?_
  refine wq_go rfl (fun _ => rfl) ?_
  refine wq_go rfl (fun _ => rfl) ?_
  refine wq_getf rfl (by first | rfl | assumption) (by first | decide | omega | assumption) h68 rfl ?_
  refine wq_go rfl (fun _ => rfl) ?_
  refine wq_getf rfl (by first | rfl | assumption) (by first | decide | omega | assumption) h68 rfl ?_
  refine wq_aald rfl (by first | rfl | assumption) (by first | decide | omega | assumption) h69 rfl (by rw [hyR_len]; exact hnx) (by first | decide | omega) (hyR_get hnx hkx) ?_
  refine wq_go rfl (fun _ => rfl) ?_
  refine wq_callV rfl rfl (by first | rfl | assumption) (by first | decide | omega | assumption) (Nat.le_of_ble_eq_true rfl) (Nat.le_of_ble_eq_true rfl) rfl rfl ?_
  refine c_State_copyFrom hkx7 hX kk35 hS (by omega) (fun σ2 F2 X2 => ?_)
  have e68 : σ2 68 = [.ref 69, .int (nI nx), .int (nI n)] := (F2 68 (St_off hkx7 (Or.inl rfl))).trans h68
  refine wq_go rfl (fun _ => rfl) ?_
  refine wq_go rfl (fun _ => rfl) ?_
  refine wq_getf rfl (by first | rfl | assumption) (by first | decide | omega | assumption) e68 rfl ?_
  refine wq_cN (m := 1) rfl rfl ?_
  refine wq_addN rfl ?_
  refine wq_cN (m := 40) rfl rfl ?_
  refine wq_remN rfl (by first | decide | omega) (by first | decide | omega) (by first | decide | omega) ?_
  refine wq_putf rfl (by first | rfl | assumption) (by first | decide | omega | assumption) e68 rfl rfl rfl (by simp) ?_
  refine wq_go rfl (fun _ => rfl) ?_
  refine wq_go rfl (fun _ => rfl) ?_
  refine wq_getf rfl (by first | rfl | assumption) (by first | decide | omega | assumption) (up_same _ _ _) rfl ?_
  refine wq_cN (m := 1) rfl rfl ?_
  refine wq_addN rfl ?_
  refine wq_cN (m := 40) rfl rfl ?_
  refine wq_go rfl (fun _ => rfl) ?_
  refine wq_top (min_nI (by omega) (by decide)) ?_
  refine wq_putf rfl (by first | rfl | assumption) (by first | decide | omega | assumption) (up_same _ _ _) rfl rfl rfl (by simp) ?_
  rw [up_up]
  refine wq_end rfl (fun _ => rfl) ?_
  exact K _ (fr_up (fr_mono F2 xk_H) xH_68) (up_same _ _ _) ⟨((up_ne _ _ (by omega)).trans X2.1), ((up_ne _ _ (by omega)).trans X2.2.1), ((up_ne _ _ (by omega)).trans X2.2.2.1), ((up_ne _ _ (by omega)).trans X2.2.2.2.1), ((up_ne _ _ (by omega)).trans X2.2.2.2.2)⟩
theorem c_takeBack0 {xs : List Int32} {d : Nat} {σ : Nat → List Value} {Q : Option Value → (Nat → List Value) → Prop} {nx : Nat} (h68 : σ 68 = [.ref 69, .int (nI nx), .int (nI 0)]) (K : Q (some (.int (nI 0))) σ) : Wq xs (d + 0) ax_cd144 0 [(0, .ref 68), (1, .ref 35)] [] σ Q := by
  refine wq_go rfl (fun _ => rfl) ?_
  refine wq_getf rfl (by first | rfl | assumption) (by first | decide | omega | assumption) h68 rfl ?_
  refine wq_zgt rfl (by first | omega | decide | exact Nat.lt_of_le_of_lt Nat.and_le_right (by decide) | exact ⟨by omega, by omega⟩) (fun c => absurd c (by omega)) (fun c2 => ?_)
  refine wq_cN (m := 0) rfl rfl ?_
  refine wq_nret rfl (by decide) ?_
  exact K
def x68 : Nat → Bool := fun j => j == 68
theorem c_History_takeBack {xs : List Int32} {d : Nat} {σ : Nat → List Value} {Q : Option Value → (Nat → List Value) → Prop} {nx n py ky : Nat} (h68 : σ 68 = [.ref 69, .int (nI nx), .int (nI n)]) (h69 : σ 69 = hyR) (hnx : nx < 40) (hn0 : 0 < n) (hn : n ≤ 40) (hpy : py = (nx + 40 - 1) % 40) (hky : ky = 70 + 5 * py) {S S0 : St} (hY : StIs σ ky S0) (hS : StIs σ 35 S)  (K : ∀ σ', Fr (xH 35) σ σ' → σ' 68 = [.ref 69, .int (nI py), .int (nI (n - 1))] → StIs σ' 35 S0 → Q (some (.int (nI 1))) σ') : Wq xs (d + 1) ax_cd144 0 [(0, .ref 68), (1, .ref 35)] [] σ Q := by
  have hpl : py < 40 := by omega
  have hky7 := hy_7k hpl hky
  refine wq_go rfl (fun _ => rfl) ?_
  refine wq_getf rfl (by first | rfl | assumption) (by first | decide | omega | assumption) h68 rfl ?_
  refine wq_zgt rfl (by first | omega | decide | exact Nat.lt_of_le_of_lt Nat.and_le_right (by decide) | exact ⟨by omega, by omega⟩) (fun c2 => ?_) (fun c => absurd (show _ from by omega) c)
  refine wq_go rfl (fun _ => rfl) ?_
  refine wq_go rfl (fun _ => rfl) ?_
  refine wq_getf rfl (by first | rfl | assumption) (by first | decide | omega | assumption) h68 rfl ?_
  refine wq_cN (m := 40) rfl rfl ?_
  refine wq_addN rfl ?_
  refine wq_cN (m := 1) rfl rfl ?_
  refine wq_subN rfl (by omega) ?_
  refine wq_cN (m := 40) rfl rfl ?_
  refine wq_remN rfl (by first | decide | omega) (by first | decide | omega) (by first | decide | omega) ?_
  rw [← hpy]
  refine wq_putf rfl (by first | rfl | assumption) (by first | decide | omega | assumption) h68 rfl rfl rfl (by simp) ?_
  refine wq_go rfl (fun _ => rfl) ?_
  refine wq_go rfl (fun _ => rfl) ?_
  refine wq_getf rfl (by first | rfl | assumption) (by first | decide | omega | assumption) (up_same _ _ _) rfl ?_
  refine wq_cN (m := 1) rfl rfl ?_
  refine wq_subN rfl (by omega) ?_
  refine wq_putf rfl (by first | rfl | assumption) (by first | decide | omega | assumption) (up_same _ _ _) rfl rfl rfl (by simp) ?_
  rw [up_up]
  refine wq_go rfl (fun _ => rfl) ?_
  refine wq_getf rfl (by first | rfl | assumption) (by first | decide | omega | assumption) (up_same _ _ _) rfl ?_
  refine wq_zlt rfl (by first | omega | decide | exact Nat.lt_of_le_of_lt Nat.and_le_right (by decide) | exact ⟨by omega, by omega⟩) (fun c => absurd c (by omega)) (fun c23 => ?_)
  refine wq_go rfl (fun _ => rfl) ?_
  refine wq_getf rfl (by first | rfl | assumption) (by first | decide | omega | assumption) (up_same _ _ _) rfl ?_
  refine wq_go rfl (fun _ => rfl) ?_
  refine wq_getf rfl (by first | rfl | assumption) (by first | decide | omega | assumption) (up_same _ _ _) rfl ?_
  refine wq_alen rfl (by first | rfl | assumption) (by first | decide | omega | assumption) rfl ((up_ne _ _ (by decide)).trans h69) hyR_len ?_
  refine wq_cge rfl (by first | omega | decide | exact Nat.lt_of_le_of_lt Nat.and_le_right (by decide) | exact ⟨by omega, by omega⟩) (by first | omega | decide | exact Nat.lt_of_le_of_lt Nat.and_le_right (by decide) | exact ⟨by omega, by omega⟩) (fun c => absurd c (by omega)) (fun c29 => ?_)
  refine wq_go rfl (fun _ => rfl) ?_
  refine wq_go rfl (fun _ => rfl) ?_
  refine wq_getf rfl (by first | rfl | assumption) (by first | decide | omega | assumption) (up_same _ _ _) rfl ?_
  refine wq_go rfl (fun _ => rfl) ?_
  refine wq_getf rfl (by first | rfl | assumption) (by first | decide | omega | assumption) (up_same _ _ _) rfl ?_
  refine wq_aald rfl (by first | rfl | assumption) (by first | decide | omega | assumption) ((up_ne _ _ (by decide)).trans h69) rfl (by rw [hyR_len]; exact hpl) (by first | decide | omega) (hyR_get hpl hky) ?_
  refine wq_callV rfl rfl (by first | rfl | assumption) (by first | decide | omega | assumption) (Nat.le_of_ble_eq_true rfl) (Nat.le_of_ble_eq_true rfl) rfl rfl ?_
  have hU : Fr x68 σ (up σ 68 [.ref 69, .int (nI py), .int (nI (n - 1))]) := fr_up (fr_refl _ _) rfl
  have Y2 := st_fr hY hU (fun j h1 h2 => by simp only [x68, beq_eq_false_iff_ne]; omega)
  have S2 := st_fr hS hU (fun j h1 h2 => by simp only [x68, beq_eq_false_iff_ne]; omega)
  refine c_State_copyFrom kk35 S2 hky7 Y2 (by omega) (fun σ3 F3 S3 => ?_)
  refine wq_cN (m := 1) rfl rfl ?_
  refine wq_nret rfl (by decide) ?_
  exact K _ (fr_trans (fr_mono hU (fun j hj => by simp only [x68] at hj; simp only [xH, Bool.or_eq_true]; exact Or.inl hj)) (fr_mono F3 xk_H)) ((F3 68 rfl).trans (up_same _ _ _)) S3
theorem c_History_size {xs : List Int32} {d : Nat} {σ : Nat → List Value} {Q : Option Value → (Nat → List Value) → Prop} {nx n : Nat} (h68 : σ 68 = [.ref 69, .int (nI nx), .int (nI n)]) (K : Q (some (.int (nI n))) σ) : Wq xs (d + 0) ax_cd207 0 [(0, .ref 68)] [] σ Q := by
  refine wq_go rfl (fun _ => rfl) ?_
  refine wq_getf rfl (by first | rfl | assumption) (by first | decide | omega | assumption) h68 rfl ?_
  refine wq_iret rfl ?_
  exact K
theorem c_History_clear {xs : List Int32} {d : Nat} {σ : Nat → List Value} {Q : Option Value → (Nat → List Value) → Prop} {nx n : Nat} (h68 : σ 68 = [.ref 69, .int (nI nx), .int (nI n)]) (K : ∀ σ', Fr x68 σ σ' → σ' 68 = [.ref 69, .int (nI nx), .int (nI 0)] → Q none σ') : Wq xs (d + 0) ax_cd80 0 [(0, .ref 68)] [] σ Q := by
  refine wq_go rfl (fun _ => rfl) ?_
  refine wq_cN (m := 0) rfl rfl ?_
  refine wq_putf rfl (by first | rfl | assumption) (by first | decide | omega | assumption) h68 rfl rfl rfl (by simp) ?_
  refine wq_end rfl (fun _ => rfl) ?_
  exact K _ (fr_up (fr_refl _ _) rfl) (up_same _ _ _)
theorem c_Slots_put_bad {xs : List Int32} {d : Nat} {σ : Nat → List Value} {Q : Option Value → (Nat → List Value) → Prop} {hl : Nat} (h270 : σ 270 = [.ref 271, .int (nI hl)]) (h271 : σ 271 = slR)  {x : Int32} (hx0 : ∀ h, h < 3 → x ≠ nI h) (K : Q (some (.int (nI 0))) σ) : Wq xs (d + 0) ax_cd203 0 [(0, .ref 270), (1, .int x), (2, .ref 35)] [] σ Q := by
  rcases pk_ix x (n := 3) (by omega) with hx | hx | ⟨j, hj, e⟩
  · skip
    refine wq_go rfl (fun _ => rfl) ?_
    refine wq_if rfl (fun c1 => ?_) (fun c => absurd (c.symm.trans (decide_eq_true hx)) (by decide))
    refine wq_cN (m := 0) rfl rfl ?_
    refine wq_nret rfl (by decide) ?_
    exact K
  · skip
    refine wq_go rfl (fun _ => rfl) ?_
    refine wq_if rfl (fun c => absurd (c.symm.trans (decide_eq_false (fun e => by have h1 := Int32.lt_of_le_of_lt hx e; exact nI_pos (by omega) h1))) (by decide)) (fun c1 => ?_)
    refine wq_go rfl (fun _ => rfl) ?_
    refine wq_go rfl (fun _ => rfl) ?_
    refine wq_getf rfl (by first | rfl | assumption) (by first | decide | omega | assumption) h270 rfl ?_
    refine wq_alen rfl (by first | rfl | assumption) (by first | decide | omega | assumption) rfl h271 (show slR.length = 3 from rfl) ?_
    refine wq_cmp rfl (fun c6 => ?_) (fun c => absurd (c.symm.trans (decide_eq_true hx)) (by decide))
    refine wq_cN (m := 0) rfl rfl ?_
    refine wq_nret rfl (by decide) ?_
    exact K
  · exact absurd e (hx0 j hj)
theorem c_Slots_fetch_bad {xs : List Int32} {d : Nat} {σ : Nat → List Value} {Q : Option Value → (Nat → List Value) → Prop} {hl : Nat} (h270 : σ 270 = [.ref 271, .int (nI hl)]) (h271 : σ 271 = slR)  {x : Int32} (hx0 : ∀ h, h < 3 → x ≠ nI h) (K : Q (some (.int (nI 0))) σ) : Wq xs (d + 0) ax_cd205 0 [(0, .ref 270), (1, .int x), (2, .ref 35)] [] σ Q := by
  rcases pk_ix x (n := 3) (by omega) with hx | hx | ⟨j, hj, e⟩
  · skip
    refine wq_go rfl (fun _ => rfl) ?_
    refine wq_if rfl (fun c1 => ?_) (fun c => absurd (c.symm.trans (decide_eq_true hx)) (by decide))
    refine wq_cN (m := 0) rfl rfl ?_
    refine wq_nret rfl (by decide) ?_
    exact K
  · skip
    refine wq_go rfl (fun _ => rfl) ?_
    refine wq_if rfl (fun c => absurd (c.symm.trans (decide_eq_false (fun e => by have h1 := Int32.lt_of_le_of_lt hx e; exact nI_pos (by omega) h1))) (by decide)) (fun c1 => ?_)
    refine wq_go rfl (fun _ => rfl) ?_
    refine wq_go rfl (fun _ => rfl) ?_
    refine wq_getf rfl (by first | rfl | assumption) (by first | decide | omega | assumption) h270 rfl ?_
    refine wq_alen rfl (by first | rfl | assumption) (by first | decide | omega | assumption) rfl h271 (show slR.length = 3 from rfl) ?_
    refine wq_cmp rfl (fun c6 => ?_) (fun c => absurd (c.symm.trans (decide_eq_true hx)) (by decide))
    refine wq_cN (m := 0) rfl rfl ?_
    refine wq_nret rfl (by decide) ?_
    exact K
  · exact absurd e (hx0 j hj)
theorem c_Slots_put {xs : List Int32} {d : Nat} {σ : Nat → List Value} {Q : Option Value → (Nat → List Value) → Prop} {hl : Nat} (h270 : σ 270 = [.ref 271, .int (nI hl)]) (h271 : σ 271 = slR) (hl8 : hl < 8) {s ks : Nat} (hs : s < 3) (hks : ks = 272 + 5 * s) {S S0 : St} (hZ : StIs σ ks S0) (hS : StIs σ 35 S)  (K : ∀ σ', Fr (xZ ks) σ σ' → σ' 270 = [.ref 271, .int (nI (hl ||| 2 ^ s))] → StIs σ' ks S → Q (some (.int (nI 1))) σ') : Wq xs (d + 1) ax_cd203 0 [(0, .ref 270), (1, .int (nI s)), (2, .ref 35)] [] σ Q := by
  have hks7 := sl_7k hs hks
  refine wq_go rfl (fun _ => rfl) ?_
  refine wq_zlt rfl (by first | omega | decide | exact Nat.lt_of_le_of_lt Nat.and_le_right (by decide) | exact ⟨by omega, by omega⟩) (fun c => absurd c (by omega)) (fun c1 => ?_)
  refine wq_go rfl (fun _ => rfl) ?_
  refine wq_go rfl (fun _ => rfl) ?_
  refine wq_getf rfl (by first | rfl | assumption) (by first | decide | omega | assumption) h270 rfl ?_
  refine wq_alen rfl (by first | rfl | assumption) (by first | decide | omega | assumption) rfl h271 (show slR.length = 3 from rfl) ?_
  refine wq_cge rfl (by first | omega | decide | exact Nat.lt_of_le_of_lt Nat.and_le_right (by decide) | exact ⟨by omega, by omega⟩) (by first | omega | decide | exact Nat.lt_of_le_of_lt Nat.and_le_right (by decide) | exact ⟨by omega, by omega⟩) (fun c => absurd c (by omega)) (fun c6 => ?_)
  refine wq_go rfl (fun _ => rfl) ?_
  refine wq_getf rfl (by first | rfl | assumption) (by first | decide | omega | assumption) h270 rfl ?_
  refine wq_go rfl (fun _ => rfl) ?_
  refine wq_aald rfl (by first | rfl | assumption) (by first | decide | omega | assumption) h271 rfl (by exact hs) (by first | decide | omega) (slR_get hs hks) ?_
  refine wq_go rfl (fun _ => rfl) ?_
  refine wq_go rfl (fun _ => rfl) ?_
  refine wq_getf rfl (by first | rfl | assumption) (by first | decide | omega | assumption) h270 rfl ?_
  refine wq_go rfl (fun _ => rfl) ?_
  refine wq_aald rfl (by first | rfl | assumption) (by first | decide | omega | assumption) h271 rfl (by exact hs) (by first | decide | omega) (slR_get hs hks) ?_
  refine wq_go rfl (fun _ => rfl) ?_
  refine wq_callV rfl rfl (by first | rfl | assumption) (by first | decide | omega | assumption) (Nat.le_of_ble_eq_true rfl) (Nat.le_of_ble_eq_true rfl) rfl rfl ?_
  refine c_State_copyFrom hks7 hZ kk35 hS (by omega) (fun σ2 F2 Z2 => ?_)
  have e270 : σ2 270 = [.ref 271, .int (nI hl)] := (F2 270 (St_off hks7 (Or.inl rfl))).trans h270
  refine wq_go rfl (fun _ => rfl) ?_
  refine wq_go rfl (fun _ => rfl) ?_
  refine wq_getf rfl (by first | rfl | assumption) (by first | decide | omega | assumption) e270 rfl ?_
  refine wq_cN (m := 1) rfl rfl ?_
  refine wq_go rfl (fun _ => rfl) ?_
  refine wq_shl1 rfl (by first | decide | omega) ?_
  refine wq_orN rfl ?_
  refine wq_putf rfl (by first | rfl | assumption) (by first | decide | omega | assumption) e270 rfl rfl rfl (by simp) ?_
  refine wq_cN (m := 1) rfl rfl ?_
  refine wq_nret rfl (by decide) ?_
  exact K _ (fr_up (fr_mono F2 xk_Z) xZ_270) (up_same _ _ _) ⟨((up_ne _ _ (by omega)).trans Z2.1), ((up_ne _ _ (by omega)).trans Z2.2.1), ((up_ne _ _ (by omega)).trans Z2.2.2.1), ((up_ne _ _ (by omega)).trans Z2.2.2.2.1), ((up_ne _ _ (by omega)).trans Z2.2.2.2.2)⟩
theorem c_Slots_fetch {xs : List Int32} {d : Nat} {σ : Nat → List Value} {Q : Option Value → (Nat → List Value) → Prop} {hl : Nat} (h270 : σ 270 = [.ref 271, .int (nI hl)]) (h271 : σ 271 = slR) (hl8 : hl < 8) {s ks : Nat} (hs : s < 3) (hks : ks = 272 + 5 * s) {S S0 : St} (hZ : StIs σ ks S0) (hS : StIs σ 35 S) (hb : hl.testBit s = true) (K : ∀ σ', Fr (xk 35) σ σ' → StIs σ' 35 S0 → Q (some (.int (nI 1))) σ') : Wq xs (d + 1) ax_cd205 0 [(0, .ref 270), (1, .int (nI s)), (2, .ref 35)] [] σ Q := by
  have hks7 := sl_7k hs hks
  refine wq_go rfl (fun _ => rfl) ?_
  refine wq_zlt rfl (by first | omega | decide | exact Nat.lt_of_le_of_lt Nat.and_le_right (by decide) | exact ⟨by omega, by omega⟩) (fun c => absurd c (by omega)) (fun c1 => ?_)
  refine wq_go rfl (fun _ => rfl) ?_
  refine wq_go rfl (fun _ => rfl) ?_
  refine wq_getf rfl (by first | rfl | assumption) (by first | decide | omega | assumption) h270 rfl ?_
  refine wq_alen rfl (by first | rfl | assumption) (by first | decide | omega | assumption) rfl h271 (show slR.length = 3 from rfl) ?_
  refine wq_cge rfl (by first | omega | decide | exact Nat.lt_of_le_of_lt Nat.and_le_right (by decide) | exact ⟨by omega, by omega⟩) (by first | omega | decide | exact Nat.lt_of_le_of_lt Nat.and_le_right (by decide) | exact ⟨by omega, by omega⟩) (fun c => absurd c (by omega)) (fun c6 => ?_)
  refine wq_go rfl (fun _ => rfl) ?_
  refine wq_getf rfl (by first | rfl | assumption) (by first | decide | omega | assumption) h270 rfl ?_
  refine wq_go rfl (fun _ => rfl) ?_
  refine wq_ushN rfl (by first | decide | omega) (by first | decide | omega) ?_
  refine wq_cN (m := 1) rfl rfl ?_
  refine wq_andN rfl ?_
  refine wq_zne rfl (by first | omega | decide | exact Nat.lt_of_le_of_lt Nat.and_le_right (by decide) | exact ⟨by omega, by omega⟩) (fun c13 => ?_) (fun c => absurd (show _ from fun e => by rw [tb0 e] at hb; cases hb) c)
  refine wq_go rfl (fun _ => rfl) ?_
  refine wq_go rfl (fun _ => rfl) ?_
  refine wq_getf rfl (by first | rfl | assumption) (by first | decide | omega | assumption) h270 rfl ?_
  refine wq_go rfl (fun _ => rfl) ?_
  refine wq_aald rfl (by first | rfl | assumption) (by first | decide | omega | assumption) h271 rfl (by exact hs) (by first | decide | omega) (slR_get hs hks) ?_
  refine wq_callV rfl rfl (by first | rfl | assumption) (by first | decide | omega | assumption) (Nat.le_of_ble_eq_true rfl) (Nat.le_of_ble_eq_true rfl) rfl rfl ?_
  refine c_State_copyFrom kk35 hS hks7 hZ (by omega) (fun σ2 F2 S2 => ?_)
  refine wq_cN (m := 1) rfl rfl ?_
  refine wq_nret rfl (by decide) ?_
  exact K _ F2 S2
theorem c_Slots_fetch0 {xs : List Int32} {d : Nat} {σ : Nat → List Value} {Q : Option Value → (Nat → List Value) → Prop} {hl : Nat} (h270 : σ 270 = [.ref 271, .int (nI hl)]) (h271 : σ 271 = slR) (hl8 : hl < 8) {s : Nat} (hs : s < 3) (hb : hl.testBit s = false) (K : Q (some (.int (nI 0))) σ) : Wq xs (d + 0) ax_cd205 0 [(0, .ref 270), (1, .int (nI s)), (2, .ref 35)] [] σ Q := by
  refine wq_go rfl (fun _ => rfl) ?_
  refine wq_zlt rfl (by first | omega | decide | exact Nat.lt_of_le_of_lt Nat.and_le_right (by decide) | exact ⟨by omega, by omega⟩) (fun c => absurd c (by omega)) (fun c1 => ?_)
  refine wq_go rfl (fun _ => rfl) ?_
  refine wq_go rfl (fun _ => rfl) ?_
  refine wq_getf rfl (by first | rfl | assumption) (by first | decide | omega | assumption) h270 rfl ?_
  refine wq_alen rfl (by first | rfl | assumption) (by first | decide | omega | assumption) rfl h271 (show slR.length = 3 from rfl) ?_
  refine wq_cge rfl (by first | omega | decide | exact Nat.lt_of_le_of_lt Nat.and_le_right (by decide) | exact ⟨by omega, by omega⟩) (by first | omega | decide | exact Nat.lt_of_le_of_lt Nat.and_le_right (by decide) | exact ⟨by omega, by omega⟩) (fun c => absurd c (by omega)) (fun c6 => ?_)
  refine wq_go rfl (fun _ => rfl) ?_
  refine wq_getf rfl (by first | rfl | assumption) (by first | decide | omega | assumption) h270 rfl ?_
  refine wq_go rfl (fun _ => rfl) ?_
  refine wq_ushN rfl (by first | decide | omega) (by first | decide | omega) ?_
  refine wq_cN (m := 1) rfl rfl ?_
  refine wq_andN rfl ?_
  refine wq_zne rfl (by first | omega | decide | exact Nat.lt_of_le_of_lt Nat.and_le_right (by decide) | exact ⟨by omega, by omega⟩) (fun c => absurd c (fun c => by have := tb1 c; rw [hb] at this; cases this)) (fun c13 => ?_)
  refine wq_cN (m := 0) rfl rfl ?_
  refine wq_nret rfl (by decide) ?_
  exact K
theorem c_Slots_filled {xs : List Int32} {d : Nat} {σ : Nat → List Value} {Q : Option Value → (Nat → List Value) → Prop} {hl : Nat} (h270 : σ 270 = [.ref 271, .int (nI hl)]) (h271 : σ 271 = slR) (hl8 : hl < 8) (K : Q (some (.int (nI (pc hl)))) σ) : Wq xs (d + 1) ax_cd208 0 [(0, .ref 270)] [] σ Q := by
  refine wq_go rfl (fun _ => rfl) ?_
  refine wq_getf rfl (by first | rfl | assumption) (by first | decide | omega | assumption) h270 rfl ?_
  refine wq_callS rfl (Nat.le_of_ble_eq_true rfl) rfl (Nat.le_of_ble_eq_true rfl) (Nat.le_of_ble_eq_true rfl) rfl rfl ?_
  refine c_Integer_bitCount (by omega) ?_
  refine wq_iret rfl ?_
  exact K
def x270 : Nat → Bool := fun j => j == 270
theorem c_Slots_clear {xs : List Int32} {d : Nat} {σ : Nat → List Value} {Q : Option Value → (Nat → List Value) → Prop} {hl : Nat} (h270 : σ 270 = [.ref 271, .int (nI hl)]) (h271 : σ 271 = slR)  (K : ∀ σ', Fr x270 σ σ' → σ' 270 = [.ref 271, .int (nI 0)] → Q none σ') : Wq xs (d + 0) ax_cd82 0 [(0, .ref 270)] [] σ Q := by
  refine wq_go rfl (fun _ => rfl) ?_
  refine wq_cN (m := 0) rfl rfl ?_
  refine wq_putf rfl (by first | rfl | assumption) (by first | decide | omega | assumption) h270 rfl rfl rfl (by simp) ?_
  refine wq_end rfl (fun _ => rfl) ?_
  exact K _ (fr_up (fr_refl _ _) rfl) (up_same _ _ _)
