/-! WHAT HAPPENS TO A STATE -/
def mvS (S : St) (h c : Nat) (g : Nat → Int) (u : Nat) : St := (fun i => if c * 4 ≤ i ∧ i < c * 4 + u then (((Ssq S i : Nat) : Int) - g (i - c * 4)).toNat else Ssq S i, fun i => if h * 4 ≤ i ∧ i < h * 4 + u then (((Sow S i : Nat) : Int) + g (i - h * 4)).toNat else Sow S i, Ssi S, Ssb S, Shr S, Ssd S, Ssc S, Skp S)
def seatS (P : Pl) (S : St) (h c : Nat) : St := satS (mvS S h c (gainZ P S h c) 4) h c
def waS (S : St) (c : Nat) (a : Nat → Nat) (u : Nat) : St := (fun i => if c * 4 ≤ i ∧ i < c * 4 + u then Ssq S i - a (i - c * 4) else Ssq S i, Sow S, Ssi S, Ssb S, Shr S, Ssd S + sumF a u, Ssc S, Skp S)
def faS (S : St) (h : Nat) (a : Nat → Nat) (u : Nat) : St := (Ssq S, fun i => if h * 4 ≤ i ∧ i < h * 4 + u then Sow S i - a (i - h * 4) else Sow S i, Ssi S, Ssb S, Shr S, Ssd S + sumF a u, Ssc S, Skp S)
def washS (P : Pl) (S : St) (c : Nat) : St := setSc (waS S c (washN P S c) 4) (clr (Ssc S) c)
def fadeS (P : Pl) (S : St) (h : Nat) : St := faS S h (fadeN P S h) 4
def mothS (S : St) (c : Nat) : St := waS S c (fun t => Ssq S (c * 4 + t)) 4
theorem mvS_0 (S : St) (h c : Nat) (g : Nat → Int) : mvS S h c g 0 = S := by
  have e1 : (fun i => if c * 4 ≤ i ∧ i < c * 4 + 0 then (((Ssq S i : Nat) : Int) - g (i - c * 4)).toNat else Ssq S i) = Ssq S := by
    funext i
    rw [if_neg (by omega)]
  have e2 : (fun i => if h * 4 ≤ i ∧ i < h * 4 + 0 then (((Sow S i : Nat) : Int) + g (i - h * 4)).toNat else Sow S i) = Sow S := by
    funext i
    rw [if_neg (by omega)]
  unfold mvS
  rw [e1, e2]
  rfl
theorem waS_0 (S : St) (c : Nat) (a : Nat → Nat) : waS S c a 0 = S := by
  have e1 : (fun i => if c * 4 ≤ i ∧ i < c * 4 + 0 then Ssq S i - a (i - c * 4) else Ssq S i) = Ssq S := by
    funext i
    rw [if_neg (by omega)]
  unfold waS
  rw [e1]
  rfl
theorem faS_0 (S : St) (c : Nat) (a : Nat → Nat) : faS S c a 0 = S := by
  have e1 : (fun i => if c * 4 ≤ i ∧ i < c * 4 + 0 then Sow S i - a (i - c * 4) else Sow S i) = Sow S := by
    funext i
    rw [if_neg (by omega)]
  unfold faS
  rw [e1]
  rfl
theorem mv_sq (S : St) (h c : Nat) (g : Nat → Int) (u : Nat) : Ssq (mvS S h c g u) (c * 4 + u) = Ssq S (c * 4 + u) := if_neg (by omega)
theorem mv_ow (S : St) (h c : Nat) (g : Nat → Int) (u : Nat) : Sow (mvS S h c g u) (h * 4 + u) = Sow S (h * 4 + u) := if_neg (by omega)
theorem ws_sq (S : St) (c : Nat) (a : Nat → Nat) (u : Nat) : Ssq (waS S c a u) (c * 4 + u) = Ssq S (c * 4 + u) := if_neg (by omega)
theorem fa_ow (S : St) (h : Nat) (a : Nat → Nat) (u : Nat) : Sow (faS S h a u) (h * 4 + u) = Sow S (h * 4 + u) := if_neg (by omega)
theorem mvS_s (S : St) (h c : Nat) (g : Nat → Int) (u : Nat) {x y : Nat} (hx : (Sow S (h * 4 + u) : Int) + g u = x) (hy : (Ssq S (c * 4 + u) : Int) - g u = y) : setSO (mvS S h c g u) (c * 4 + u) y (h * 4 + u) x = mvS S h c g (u + 1) := by
  have e1 : updN (Ssq (mvS S h c g u)) (c * 4 + u) y = Ssq (mvS S h c g (u + 1)) := by
    funext i
    by_cases e : i = c * 4 + u
    · subst e
      rw [updN_same]
      show y = if _ then _ else _
      rw [if_pos (by omega), show c * 4 + u - c * 4 = u by omega]
      omega
    · rw [updN_ne _ _ e]
      show (if _ then _ else _) = if _ then _ else _
      by_cases h1 : c * 4 ≤ i ∧ i < c * 4 + u
      · rw [if_pos h1, if_pos (by omega)]
      · rw [if_neg h1, if_neg (by omega)]
  have e2 : updN (Sow (mvS S h c g u)) (h * 4 + u) x = Sow (mvS S h c g (u + 1)) := by
    funext i
    by_cases e : i = h * 4 + u
    · subst e
      rw [updN_same]
      show x = if _ then _ else _
      rw [if_pos (by omega), show h * 4 + u - h * 4 = u by omega]
      omega
    · rw [updN_ne _ _ e]
      show (if _ then _ else _) = if _ then _ else _
      by_cases h1 : h * 4 ≤ i ∧ i < h * 4 + u
      · rw [if_pos h1, if_pos (by omega)]
      · rw [if_neg h1, if_neg (by omega)]
  unfold setSO
  rw [e1, e2]
  rfl
theorem waS_s (S : St) (c : Nat) (a : Nat → Nat) (u : Nat) : setSD (waS S c a u) (c * 4 + u) (Ssq (waS S c a u) (c * 4 + u) - a u) (Ssd (waS S c a u) + a u) = waS S c a (u + 1) := by
  rw [ws_sq]
  have e1 : updN (Ssq (waS S c a u)) (c * 4 + u) (Ssq S (c * 4 + u) - a u) = Ssq (waS S c a (u + 1)) := by
    funext i
    by_cases e : i = c * 4 + u
    · subst e
      rw [updN_same]
      show _ = if _ then _ else _
      rw [if_pos (by omega), show c * 4 + u - c * 4 = u by omega]
    · rw [updN_ne _ _ e]
      show (if _ then _ else _) = if _ then _ else _
      by_cases h1 : c * 4 ≤ i ∧ i < c * 4 + u
      · rw [if_pos h1, if_pos (by omega)]
      · rw [if_neg h1, if_neg (by omega)]
  have e2 : Ssd (waS S c a u) + a u = Ssd (waS S c a (u + 1)) := Nat.add_assoc _ _ _
  unfold setSD
  rw [e1, e2]
  rfl
theorem faS_s (S : St) (h : Nat) (a : Nat → Nat) (u : Nat) : setOD (faS S h a u) (h * 4 + u) (Sow (faS S h a u) (h * 4 + u) - a u) (Ssd (faS S h a u) + a u) = faS S h a (u + 1) := by
  rw [fa_ow]
  have e1 : updN (Sow (faS S h a u)) (h * 4 + u) (Sow S (h * 4 + u) - a u) = Sow (faS S h a (u + 1)) := by
    funext i
    by_cases e : i = h * 4 + u
    · subst e
      rw [updN_same]
      show _ = if _ then _ else _
      rw [if_pos (by omega), show h * 4 + u - h * 4 = u by omega]
    · rw [updN_ne _ _ e]
      show (if _ then _ else _) = if _ then _ else _
      by_cases h1 : h * 4 ≤ i ∧ i < h * 4 + u
      · rw [if_pos h1, if_pos (by omega)]
      · rw [if_neg h1, if_neg (by omega)]
  have e2 : Ssd (faS S h a u) + a u = Ssd (faS S h a (u + 1)) := Nat.add_assoc _ _ _
  unfold setOD
  rw [e1, e2]
  rfl
theorem tot_SO {S : St} {i x j y : Nat} (hi : i < 16) (hj : j < 20) : tot (setSO S i x j y) + Ssq S i + Sow S j = tot S + x + y := by
  have h1 := sumF_upd (Ssq S) i x 16 hi
  have h2 := sumF_upd (Sow S) j y 20 hj
  have e : tot (setSO S i x j y) = sumF (updN (Ssq S) i x) 16 + sumF (updN (Sow S) j y) 20 + Ssd S := rfl
  rw [e]
  unfold tot
  omega
theorem tot_SD {S : St} {i x y : Nat} (hi : i < 16) : tot (setSD S i x y) + Ssq S i + Ssd S = tot S + x + y := by
  have h1 := sumF_upd (Ssq S) i x 16 hi
  have e : tot (setSD S i x y) = sumF (updN (Ssq S) i x) 16 + sumF (Sow S) 20 + y := rfl
  rw [e]
  unfold tot
  omega
theorem tot_OD {S : St} {i x y : Nat} (hi : i < 20) : tot (setOD S i x y) + Sow S i + Ssd S = tot S + x + y := by
  have h1 := sumF_upd (Sow S) i x 20 hi
  have e : tot (setOD S i x y) = sumF (Ssq S) 16 + sumF (updN (Sow S) i x) 20 + y := rfl
  rw [e]
  unfold tot
  omega
theorem kept_le (P : Pl) {S : St} (hok : Sok S) {h c t : Nat} (hh : h < 5) (ht : t < 4) : keptN P S h c t ≤ Sow S (h * 4 + t) := tv_le (by have := ow_le hok (i := h * 4 + t) (by omega); omega)
theorem pass_le (P : Pl) {S : St} (hok : Sok S) {h c t : Nat} (hc : c < 4) (ht : t < 4) : passN P S h c t ≤ Ssq S (c * 4 + t) := tv_le (by have := sq_le hok (i := c * 4 + t) (by omega); omega)
theorem wash_le (P : Pl) {S : St} (hok : Sok S) {c t : Nat} (hc : c < 4) (ht : t < 4) : washN P S c t ≤ Ssq S (c * 4 + t) := tv_le (by have := sq_le hok (i := c * 4 + t) (by omega); omega)
theorem fade_le (P : Pl) {S : St} (hok : Sok S) {h t : Nat} (hh : h < 5) (ht : t < 4) : fadeN P S h t ≤ Sow S (h * 4 + t) := tv_le (by have := ow_le hok (i := h * 4 + t) (by omega); omega)
theorem gain_bd (P : Pl) {S : St} (hok : Sok S) {h c t : Nat} (hh : h < 5) (hc : c < 4) (ht : t < 4) : -(Sow S (h * 4 + t) : Int) ≤ gainZ P S h c t ∧ gainZ P S h c t ≤ (Ssq S (c * 4 + t) : Int) := by
  have h1 := kept_le P hok (c := c) hh ht
  have h2 := pass_le P hok (h := h) hc ht
  unfold gainZ
  split <;> omega
theorem mv_tot {S : St} {h c : Nat} {g : Nat → Int} (hh : h < 5) (hc : c < 4) (hg : ∀ t, t < 4 → -(Sow S (h * 4 + t) : Int) ≤ g t ∧ g t ≤ (Ssq S (c * 4 + t) : Int)) : ∀ u, u ≤ 4 → tot (mvS S h c g u) = tot S
  | 0, _ => by rw [mvS_0]
  | u + 1, hu => by
    have ih := mv_tot hh hc hg u (by omega)
    have hb := hg u (by omega)
    rw [← mvS_s S h c g u (x := ((Sow S (h * 4 + u) : Int) + g u).toNat) (y := ((Ssq S (c * 4 + u) : Int) - g u).toNat) (by omega) (by omega)]
    have := tot_SO (S := mvS S h c g u) (i := c * 4 + u) (x := ((Ssq S (c * 4 + u) : Int) - g u).toNat) (j := h * 4 + u) (y := ((Sow S (h * 4 + u) : Int) + g u).toNat) (by omega) (by omega)
    rw [mv_sq, mv_ow] at this
    omega
theorem ws_tot {S : St} {c : Nat} {a : Nat → Nat} (hc : c < 4) (ha : ∀ t, t < 4 → a t ≤ Ssq S (c * 4 + t)) : ∀ u, u ≤ 4 → tot (waS S c a u) = tot S
  | 0, _ => by rw [waS_0]
  | u + 1, hu => by
    have ih := ws_tot hc ha u (by omega)
    have hb := ha u (by omega)
    rw [← waS_s S c a u]
    have := tot_SD (S := waS S c a u) (i := c * 4 + u) (x := Ssq (waS S c a u) (c * 4 + u) - a u) (y := Ssd (waS S c a u) + a u) (by omega)
    rw [ws_sq] at this ⊢
    omega
theorem fa_tot {S : St} {h : Nat} {a : Nat → Nat} (hh : h < 5) (ha : ∀ t, t < 4 → a t ≤ Sow S (h * 4 + t)) : ∀ u, u ≤ 4 → tot (faS S h a u) = tot S
  | 0, _ => by rw [faS_0]
  | u + 1, hu => by
    have ih := fa_tot hh ha u (by omega)
    have hb := ha u (by omega)
    rw [← faS_s S h a u]
    have := tot_OD (S := faS S h a u) (i := h * 4 + u) (x := Sow (faS S h a u) (h * 4 + u) - a u) (y := Ssd (faS S h a u) + a u) (by omega)
    rw [fa_ow] at this ⊢
    omega
theorem clr_le (x k : Nat) : clr x k ≤ x := by
  unfold clr
  split
  · exact Nat.sub_le _ _
  · exact Nat.le_refl _
theorem seat_ok (P : Pl) {S : St} (hok : Sok S) {h c : Nat} (hh : h < 5) (hc : c < 4) : Sok (seatS P S h c) := by
  have e : tot (seatS P S h c) = tot S := mv_tot hh hc (fun t ht => gain_bd P hok hh hc ht) 4 (by decide)
  exact ⟨e ▸ hok.1, hok.2.1, hok.2.2.1, hok.2.2.2⟩
theorem wash_ok (P : Pl) {S : St} (hok : Sok S) {c : Nat} (hc : c < 4) : Sok (washS P S c) := by
  have e : tot (washS P S c) = tot S := ws_tot hc (fun t ht => wash_le P hok hc ht) 4 (by decide)
  exact ⟨e ▸ hok.1, hok.2.1, Nat.lt_of_le_of_lt (clr_le _ _) hok.2.2.1, hok.2.2.2⟩
theorem moth_ok {S : St} (hok : Sok S) {c : Nat} (hc : c < 4) : Sok (mothS S c) := by
  have e : tot (mothS S c) = tot S := ws_tot hc (fun t ht => Nat.le_refl _) 4 (by decide)
  exact ⟨e ▸ hok.1, hok.2.1, hok.2.2.1, hok.2.2.2⟩
theorem fade_ok (P : Pl) {S : St} (hok : Sok S) {h : Nat} (hh : h < 5) : Sok (fadeS P S h) := by
  have e : tot (fadeS P S h) = tot S := fa_tot hh (fun t ht => fade_le P hok hh ht) 4 (by decide)
  exact ⟨e ▸ hok.1, hok.2.1, hok.2.2.1, hok.2.2.2⟩
def xA : Nat → Bool := fun j => j == 31 || j == 33 || j == 34
theorem xA_S {k : Nat} : ∀ j, xA j = true → xS k j = true := by
  intro j h
  simp only [xS, Bool.or_eq_true]
  simp only [xA, Bool.or_eq_true] at h
  exact Or.inl h
theorem xsc_A : ∀ j, xsc j = true → xA j = true := by
  intro j h
  simp only [xsc, Bool.or_eq_true] at h
  simp only [xA, Bool.or_eq_true]
  rcases h with h | h
  · exact Or.inl (Or.inr h)
  · exact Or.inr h
theorem st_A {k : Nat} {S : St} {σ σ' : Nat → List Value} (hk : kd k = .inr 7) (hF : Fr xA σ σ') (hS : StIs σ k S) : StIs σ' k S := by
  refine st_fr hS hF (fun j h1 h2 => ?_)
  have := St_rng hk
  have a1 : (j == 31) = false := by simp; omega
  have a2 : (j == 33) = false := by simp; omega
  have a3 : (j == 34) = false := by simp; omega
  simp [xA, a1, a2, a3]

theorem c_seat2 {xs : List Int32} {d : Nat} {σ : Nat → List Value} {Q : Option Value → (Nat → List Value) → Prop} {k : Nat} {S : St} (hk : kd k = .inr 7) {P : Pl} (hP : Pok P) (hok : Sok S) {h c : Nat} (hh : h < Phd P) (hc : c < Pch P) (K : ∀ σ', Fr (xS k) σ σ' → CW P σ' → StIs σ' k (seatS P S h c) → Q (none) σ') : ∀ (m u : Nat), m + u = 4 → ∀ σ1 fA, Fr (xS k) σ σ1 → CW P σ1 → StIs σ1 k (mvS S h c (gainZ P S h c) u) → σ1 31 = arr 4 fA → (∀ j, j < 4 → fA j = zI (gainZ P S h c j)) → Wq xs (d + 1) ax_cd120 21 [(4, .int (nI u)), (0, .ref 30), (1, .ref k), (2, .int (nI h)), (3, .int (nI c))] [] σ1 Q := by
  obtain ⟨hk1, hk2, hk3, hk4, hk5⟩ := St_k hk
  have hkr := St_rng hk
  obtain ⟨hP1, hP2, hP3, hP4, hP5, hP6, hP7, hP8, hPv, hPm, hPo, hPw, hPl⟩ := hP
  intro m
  induction m with
  | zero =>
    intro u hm σ1 fA hF1 hC1 hS1 hA1 hfA
    refine wq_go rfl (fun _ => rfl) ?_
    refine wq_go rfl (fun _ => rfl) ?_
    refine wq_getf rfl (by first | rfl | assumption) (by first | decide | omega | assumption) (cw_c30 hC1) rfl ?_
    refine wq_alen rfl (by first | rfl | assumption) (by first | decide | omega | assumption) rfl hA1 (arr_len _ _) ?_
    refine wq_cge rfl (by first | omega | decide | exact Nat.lt_of_le_of_lt Nat.and_le_right (by decide) | exact ⟨by omega, by omega⟩) (by first | omega | decide | exact Nat.lt_of_le_of_lt Nat.and_le_right (by decide) | exact ⟨by omega, by omega⟩) (fun c25 => ?_) (fun c => absurd (show _ from by omega) c)
    rw [show u = 4 by omega] at hS1
    refine wq_go rfl (fun _ => rfl) ?_
    refine wq_go rfl (fun _ => rfl) ?_
    refine wq_go rfl (fun _ => rfl) ?_
    refine wq_callV rfl rfl (by first | rfl | assumption) (by first | decide | omega | assumption) (Nat.le_of_ble_eq_true rfl) (Nat.le_of_ble_eq_true rfl) rfl rfl ?_
    refine c_State_countSitting hk hS1 (by omega) (by omega) (fun σ2 F2 S2 => ?_)
    have C2 := cw_k hk hC1 F2
    have A2 := (F2 31 (St_off hk (by decide))).trans hA1
    refine wq_end rfl (fun _ => rfl) ?_
    exact K _ (fr_trans hF1 (fr_mono F2 xk_S)) C2 S2
  | succ m ih =>
    intro u hm σ1 fA hF1 hC1 hS1 hA1 hfA
    refine wq_go rfl (fun _ => rfl) ?_
    refine wq_go rfl (fun _ => rfl) ?_
    refine wq_getf rfl (by first | rfl | assumption) (by first | decide | omega | assumption) (cw_c30 hC1) rfl ?_
    refine wq_alen rfl (by first | rfl | assumption) (by first | decide | omega | assumption) rfl hA1 (arr_len _ _) ?_
    refine wq_cge rfl (by first | omega | decide | exact Nat.lt_of_le_of_lt Nat.and_le_right (by decide) | exact ⟨by omega, by omega⟩) (by first | omega | decide | exact Nat.lt_of_le_of_lt Nat.and_le_right (by decide) | exact ⟨by omega, by omega⟩) (fun c => absurd c (by omega)) (fun c25 => ?_)
    have hg := gain_bd P hok (h := h) (c := c) (t := u) (by omega) (by omega) (by omega)
    have e1 := mv_sq S h c (gainZ P S h c) u
    have e2 := mv_ow S h c (gainZ P S h c) u
    refine wq_go rfl (fun _ => rfl) ?_
    refine wq_go rfl (fun _ => rfl) ?_
    refine wq_go rfl (fun _ => rfl) ?_
    refine wq_go rfl (fun _ => rfl) ?_
    refine wq_go rfl (fun _ => rfl) ?_
    refine wq_getf rfl (by first | rfl | assumption) (by first | decide | omega | assumption) (cw_c30 hC1) rfl ?_
    refine wq_go rfl (fun _ => rfl) ?_
    refine wq_iald rfl (by first | rfl | assumption) (by first | decide | omega | assumption) hA1 rfl (by omega) (by first | decide | omega) ?_
    refine wq_top (hfA u (by omega)) ?_
    refine wq_negZ rfl rfl ?_
    refine wq_callV rfl rfl (by first | rfl | assumption) (by first | decide | omega | assumption) (Nat.le_of_ble_eq_true rfl) (Nat.le_of_ble_eq_true rfl) rfl rfl ?_
    refine c_State_moveIntoSquare hk hS1 (x := ((Sow S (h * 4 + u) : Int) + gainZ P S h c u).toNat) (y := ((Ssq S (c * 4 + u) : Int) - gainZ P S h c u).toNat) (by omega) (by omega) (by omega) (by rw [e2]; omega) (by rw [e1]; omega) (fun σ2 F2 S2 => ?_)
    have C2 := cw_k hk hC1 F2
    have A2 := (F2 31 (St_off hk (by decide))).trans hA1
    refine wq_incN rfl rfl rfl ?_
    refine wq_go rfl (fun _ => rfl) ?_
    exact ih (u + 1) (by omega) _ fA (fr_trans hF1 (fr_mono F2 xk_S)) C2 (by rw [← mvS_s S h c (gainZ P S h c) u (x := ((Sow S (h * 4 + u) : Int) + gainZ P S h c u).toNat) (y := ((Ssq S (c * 4 + u) : Int) - gainZ P S h c u).toNat) (by omega) (by omega)]; exact S2) A2 hfA
theorem c_seat1 {xs : List Int32} {d : Nat} {σ : Nat → List Value} {Q : Option Value → (Nat → List Value) → Prop} {k : Nat} {S : St} (hk : kd k = .inr 7) {P : Pl} (hP : Pok P) (hok : Sok S) {h c : Nat} (hh : h < Phd P) (hc : c < Pch P) (K : ∀ σ', Fr (xS k) σ σ' → CW P σ' → StIs σ' k (seatS P S h c) → Q (none) σ') : ∀ (m u : Nat), m + u = 4 → ∀ σ1 fA, Fr xA σ σ1 → CW P σ1 → StIs σ1 k S → σ1 31 = arr 4 fA → (∀ j, j < u → fA j = zI (gainZ P S h c j)) → Wq xs (d + 3) ax_cd120 2 [(4, .int (nI u)), (0, .ref 30), (1, .ref k), (2, .int (nI h)), (3, .int (nI c))] [] σ1 Q := by
  obtain ⟨hk1, hk2, hk3, hk4, hk5⟩ := St_k hk
  have hkr := St_rng hk
  obtain ⟨hP1, hP2, hP3, hP4, hP5, hP6, hP7, hP8, hPv, hPm, hPo, hPw, hPl⟩ := hP
  intro m
  induction m with
  | zero =>
    intro u hm σ1 fA hF1 hC1 hS1 hA1 hfA
    refine wq_go rfl (fun _ => rfl) ?_
    refine wq_go rfl (fun _ => rfl) ?_
    refine wq_getf rfl (by first | rfl | assumption) (by first | decide | omega | assumption) (cw_c30 hC1) rfl ?_
    refine wq_alen rfl (by first | rfl | assumption) (by first | decide | omega | assumption) rfl hA1 (arr_len _ _) ?_
    refine wq_cge rfl (by first | omega | decide | exact Nat.lt_of_le_of_lt Nat.and_le_right (by decide) | exact ⟨by omega, by omega⟩) (by first | omega | decide | exact Nat.lt_of_le_of_lt Nat.and_le_right (by decide) | exact ⟨by omega, by omega⟩) (fun c6 => ?_) (fun c => absurd (show _ from by omega) c)
    refine wq_cN (m := 0) rfl rfl ?_
    refine wq_go rfl (fun _ => rfl) ?_
    exact c_seat2 (d := d + 2) hk ⟨hP1, hP2, hP3, hP4, hP5, hP6, hP7, hP8, hPv, hPm, hPo, hPw, hPl⟩ hok hh hc K 4 0 rfl σ1 fA (fr_mono hF1 xA_S) hC1 (by rw [mvS_0]; exact hS1) hA1 (fun j hj => hfA j (by omega))
  | succ m ih =>
    intro u hm σ1 fA hF1 hC1 hS1 hA1 hfA
    refine wq_go rfl (fun _ => rfl) ?_
    refine wq_go rfl (fun _ => rfl) ?_
    refine wq_getf rfl (by first | rfl | assumption) (by first | decide | omega | assumption) (cw_c30 hC1) rfl ?_
    refine wq_alen rfl (by first | rfl | assumption) (by first | decide | omega | assumption) rfl hA1 (arr_len _ _) ?_
    refine wq_cge rfl (by first | omega | decide | exact Nat.lt_of_le_of_lt Nat.and_le_right (by decide) | exact ⟨by omega, by omega⟩) (by first | omega | decide | exact Nat.lt_of_le_of_lt Nat.and_le_right (by decide) | exact ⟨by omega, by omega⟩) (fun c => absurd c (by omega)) (fun c6 => ?_)
    refine wq_go rfl (fun _ => rfl) ?_
    refine wq_getf rfl (by first | rfl | assumption) (by first | decide | omega | assumption) (cw_c30 hC1) rfl ?_
    refine wq_go rfl (fun _ => rfl) ?_
    refine wq_go rfl (fun _ => rfl) ?_
    refine wq_go rfl (fun _ => rfl) ?_
    refine wq_go rfl (fun _ => rfl) ?_
    refine wq_go rfl (fun _ => rfl) ?_
    refine wq_go rfl (fun _ => rfl) ?_
    refine wq_callV rfl rfl (by first | rfl | assumption) (by first | decide | omega | assumption) (Nat.le_of_ble_eq_true rfl) (Nat.le_of_ble_eq_true rfl) rfl rfl ?_
    refine c_House_gainOf hk hS1 hC1 hok hh hc (by omega) (fun σ2 F2 C2 => ?_)
    have S2 := st_sc hk F2 hS1
    have A2 := (F2 31 (by decide)).trans hA1
    refine wq_iast rfl (by first | rfl | assumption) (by first | decide | omega | assumption) A2 rfl (by omega) (by first | decide | omega) ?_
    refine wq_incN rfl rfl rfl ?_
    refine wq_go rfl (fun _ => rfl) ?_
    exact ih (u + 1) (by omega) _ _ (fr_up (fr_trans hF1 (fr_mono F2 xsc_A)) rfl) (cw_u31 C2) (st_u31 hk S2) (up_same _ _ _) (fun j hj => by
      by_cases e : j = u
      · subst e; exact pk_us
      · exact (pk_un e).trans (hfA j (by omega)))
theorem c_House_seat {xs : List Int32} {d : Nat} {σ : Nat → List Value} {Q : Option Value → (Nat → List Value) → Prop} {k : Nat} {S : St} (hk : kd k = .inr 7) (hS : StIs σ k S) {P : Pl} (hC : CW P σ) (hok : Sok S) {h c : Nat} (hh : h < Phd P) (hc : c < Pch P) (K : ∀ σ', Fr (xS k) σ σ' → CW P σ' → StIs σ' k (seatS P S h c) → Q (none) σ') : Wq xs (d + 3) ax_cd120 0 [(0, .ref 30), (1, .ref k), (2, .int (nI h)), (3, .int (nI c))] [] σ Q := by
  refine wq_cN (m := 0) rfl rfl ?_
  refine wq_go rfl (fun _ => rfl) ?_
  exact c_seat1 hk (cw_pok hC) hok hh hc K 4 0 rfl σ _ (fr_refl _ _) hC hS (cw_c31 hC) (fun j hj => absurd hj (by omega))
theorem c_laun2 {xs : List Int32} {d : Nat} {σ : Nat → List Value} {Q : Option Value → (Nat → List Value) → Prop} {k : Nat} {S : St} (hk : kd k = .inr 7) {P : Pl} (hP : Pok P) (hok : Sok S) {c : Nat} (hc : c < Pch P) (K : ∀ σ', Fr (xS k) σ σ' → CW P σ' → StIs σ' k (washS P S c) → Q (some (.int (nI (sumF (washN P S c) 4)))) σ') : ∀ (m u : Nat), m + u = 4 → ∀ σ1 fA, Fr (xS k) σ σ1 → CW P σ1 → StIs σ1 k (waS S c (washN P S c) u) → σ1 31 = arr 4 fA → (∀ j, j < 4 → fA j = nI (washN P S c j)) → Wq xs (d + 1) ax_cd125 22 [(4, .int (nI u)), (3, .int (nI (sumF (washN P S c) u))), (0, .ref 30), (1, .ref k), (2, .int (nI c))] [] σ1 Q := by
  obtain ⟨hk1, hk2, hk3, hk4, hk5⟩ := St_k hk
  have hkr := St_rng hk
  obtain ⟨hP1, hP2, hP3, hP4, hP5, hP6, hP7, hP8, hPv, hPm, hPo, hPw, hPl⟩ := hP
  intro m
  induction m with
  | zero =>
    intro u hm σ1 fA hF1 hC1 hS1 hA1 hfA
    refine wq_go rfl (fun _ => rfl) ?_
    refine wq_go rfl (fun _ => rfl) ?_
    refine wq_getf rfl (by first | rfl | assumption) (by first | decide | omega | assumption) (cw_c30 hC1) rfl ?_
    refine wq_alen rfl (by first | rfl | assumption) (by first | decide | omega | assumption) rfl hA1 (arr_len _ _) ?_
    refine wq_cge rfl (by first | omega | decide | exact Nat.lt_of_le_of_lt Nat.and_le_right (by decide) | exact ⟨by omega, by omega⟩) (by first | omega | decide | exact Nat.lt_of_le_of_lt Nat.and_le_right (by decide) | exact ⟨by omega, by omega⟩) (fun c26 => ?_) (fun c => absurd (show _ from by omega) c)
    have hu4 : u = 4 := by omega
    subst hu4
    refine wq_go rfl (fun _ => rfl) ?_
    refine wq_go rfl (fun _ => rfl) ?_
    refine wq_cN (m := 0) rfl rfl ?_
    refine wq_callV rfl rfl (by first | rfl | assumption) (by first | decide | omega | assumption) (Nat.le_of_ble_eq_true rfl) (Nat.le_of_ble_eq_true rfl) rfl rfl ?_
    refine c_State_setStarched0 hk hS1 (by omega) hok.2.2.1 (fun σ2 F2 S2 => ?_)
    have C2 := cw_k hk hC1 F2
    refine wq_go rfl (fun _ => rfl) ?_
    refine wq_iret rfl ?_
    exact K _ (fr_trans hF1 (fr_mono F2 xk_S)) C2 S2
  | succ m ih =>
    intro u hm σ1 fA hF1 hC1 hS1 hA1 hfA
    refine wq_go rfl (fun _ => rfl) ?_
    refine wq_go rfl (fun _ => rfl) ?_
    refine wq_getf rfl (by first | rfl | assumption) (by first | decide | omega | assumption) (cw_c30 hC1) rfl ?_
    refine wq_alen rfl (by first | rfl | assumption) (by first | decide | omega | assumption) rfl hA1 (arr_len _ _) ?_
    refine wq_cge rfl (by first | omega | decide | exact Nat.lt_of_le_of_lt Nat.and_le_right (by decide) | exact ⟨by omega, by omega⟩) (by first | omega | decide | exact Nat.lt_of_le_of_lt Nat.and_le_right (by decide) | exact ⟨by omega, by omega⟩) (fun c => absurd c (by omega)) (fun c26 => ?_)
    have hw := wash_le P hok (c := c) (t := u) (by omega) (by omega)
    have e1 := ws_sq S c (washN P S c) u
    refine wq_go rfl (fun _ => rfl) ?_
    refine wq_go rfl (fun _ => rfl) ?_
    refine wq_go rfl (fun _ => rfl) ?_
    refine wq_go rfl (fun _ => rfl) ?_
    refine wq_getf rfl (by first | rfl | assumption) (by first | decide | omega | assumption) (cw_c30 hC1) rfl ?_
    refine wq_go rfl (fun _ => rfl) ?_
    refine wq_iald rfl (by first | rfl | assumption) (by first | decide | omega | assumption) hA1 rfl (by omega) (by first | decide | omega) ?_
    refine wq_top (hfA u (by omega)) ?_
    refine wq_callV rfl rfl (by first | rfl | assumption) (by first | decide | omega | assumption) (Nat.le_of_ble_eq_true rfl) (Nat.le_of_ble_eq_true rfl) rfl rfl ?_
    refine c_State_moveSquareToSuds hk hS1 (by omega) (by omega) (by rw [e1]; exact hw) (fun σ2 F2 S2 => ?_)
    have C2 := cw_k hk hC1 F2
    have A2 := (F2 31 (St_off hk (by decide))).trans hA1
    refine wq_go rfl (fun _ => rfl) ?_
    refine wq_go rfl (fun _ => rfl) ?_
    refine wq_getf rfl (by first | rfl | assumption) (by first | decide | omega | assumption) (cw_c30 C2) rfl ?_
    refine wq_go rfl (fun _ => rfl) ?_
    refine wq_iald rfl (by first | rfl | assumption) (by first | decide | omega | assumption) A2 rfl (by omega) (by first | decide | omega) ?_
    refine wq_top (hfA u (by omega)) ?_
    refine wq_addN rfl ?_
    refine wq_go rfl (fun _ => rfl) ?_
    refine wq_incN rfl rfl rfl ?_
    refine wq_go rfl (fun _ => rfl) ?_
    exact ih (u + 1) (by omega) _ fA (fr_trans hF1 (fr_mono F2 xk_S)) C2 (by rw [← waS_s S c (washN P S c) u]; exact S2) A2 hfA
theorem c_laun1 {xs : List Int32} {d : Nat} {σ : Nat → List Value} {Q : Option Value → (Nat → List Value) → Prop} {k : Nat} {S : St} (hk : kd k = .inr 7) {P : Pl} (hP : Pok P) (hok : Sok S) {c : Nat} (hc : c < Pch P) (K : ∀ σ', Fr (xS k) σ σ' → CW P σ' → StIs σ' k (washS P S c) → Q (some (.int (nI (sumF (washN P S c) 4)))) σ') : ∀ (m u : Nat), m + u = 4 → ∀ σ1 fA, Fr xA σ σ1 → CW P σ1 → StIs σ1 k S → σ1 31 = arr 4 fA → (∀ j, j < u → fA j = nI (washN P S c j)) → Wq xs (d + 3) ax_cd125 4 [(4, .int (nI u)), (3, .int (nI (0))), (0, .ref 30), (1, .ref k), (2, .int (nI c))] [] σ1 Q := by
  obtain ⟨hk1, hk2, hk3, hk4, hk5⟩ := St_k hk
  have hkr := St_rng hk
  obtain ⟨hP1, hP2, hP3, hP4, hP5, hP6, hP7, hP8, hPv, hPm, hPo, hPw, hPl⟩ := hP
  intro m
  induction m with
  | zero =>
    intro u hm σ1 fA hF1 hC1 hS1 hA1 hfA
    refine wq_go rfl (fun _ => rfl) ?_
    refine wq_go rfl (fun _ => rfl) ?_
    refine wq_getf rfl (by first | rfl | assumption) (by first | decide | omega | assumption) (cw_c30 hC1) rfl ?_
    refine wq_alen rfl (by first | rfl | assumption) (by first | decide | omega | assumption) rfl hA1 (arr_len _ _) ?_
    refine wq_cge rfl (by first | omega | decide | exact Nat.lt_of_le_of_lt Nat.and_le_right (by decide) | exact ⟨by omega, by omega⟩) (by first | omega | decide | exact Nat.lt_of_le_of_lt Nat.and_le_right (by decide) | exact ⟨by omega, by omega⟩) (fun c8 => ?_) (fun c => absurd (show _ from by omega) c)
    refine wq_cN (m := 0) rfl rfl ?_
    refine wq_go rfl (fun _ => rfl) ?_
    exact c_laun2 (d := d + 2) hk ⟨hP1, hP2, hP3, hP4, hP5, hP6, hP7, hP8, hPv, hPm, hPo, hPw, hPl⟩ hok hc K 4 0 rfl σ1 fA (fr_mono hF1 xA_S) hC1 (by rw [waS_0]; exact hS1) hA1 (fun j hj => hfA j (by omega))
  | succ m ih =>
    intro u hm σ1 fA hF1 hC1 hS1 hA1 hfA
    refine wq_go rfl (fun _ => rfl) ?_
    refine wq_go rfl (fun _ => rfl) ?_
    refine wq_getf rfl (by first | rfl | assumption) (by first | decide | omega | assumption) (cw_c30 hC1) rfl ?_
    refine wq_alen rfl (by first | rfl | assumption) (by first | decide | omega | assumption) rfl hA1 (arr_len _ _) ?_
    refine wq_cge rfl (by first | omega | decide | exact Nat.lt_of_le_of_lt Nat.and_le_right (by decide) | exact ⟨by omega, by omega⟩) (by first | omega | decide | exact Nat.lt_of_le_of_lt Nat.and_le_right (by decide) | exact ⟨by omega, by omega⟩) (fun c => absurd c (by omega)) (fun c8 => ?_)
    refine wq_go rfl (fun _ => rfl) ?_
    refine wq_getf rfl (by first | rfl | assumption) (by first | decide | omega | assumption) (cw_c30 hC1) rfl ?_
    refine wq_go rfl (fun _ => rfl) ?_
    refine wq_go rfl (fun _ => rfl) ?_
    refine wq_go rfl (fun _ => rfl) ?_
    refine wq_go rfl (fun _ => rfl) ?_
    refine wq_go rfl (fun _ => rfl) ?_
    refine wq_callV rfl rfl (by first | rfl | assumption) (by first | decide | omega | assumption) (Nat.le_of_ble_eq_true rfl) (Nat.le_of_ble_eq_true rfl) rfl rfl ?_
    refine c_House_washedOf hk hS1 hC1 hok hc (by omega) (fun σ2 F2 C2 => ?_)
    have S2 := st_sc hk F2 hS1
    have A2 := (F2 31 (by decide)).trans hA1
    refine wq_iast rfl (by first | rfl | assumption) (by first | decide | omega | assumption) A2 rfl (by omega) (by first | decide | omega) ?_
    refine wq_incN rfl rfl rfl ?_
    refine wq_go rfl (fun _ => rfl) ?_
    exact ih (u + 1) (by omega) _ _ (fr_up (fr_trans hF1 (fr_mono F2 xsc_A)) rfl) (cw_u31 C2) (st_u31 hk S2) (up_same _ _ _) (fun j hj => by
      by_cases e : j = u
      · subst e; exact pk_us
      · exact (pk_un e).trans (hfA j (by omega)))
theorem c_House_launder {xs : List Int32} {d : Nat} {σ : Nat → List Value} {Q : Option Value → (Nat → List Value) → Prop} {k : Nat} {S : St} (hk : kd k = .inr 7) (hS : StIs σ k S) {P : Pl} (hC : CW P σ) (hok : Sok S) {c : Nat} (hc : c < Pch P) (K : ∀ σ', Fr (xS k) σ σ' → CW P σ' → StIs σ' k (washS P S c) → Q (some (.int (nI (sumF (washN P S c) 4)))) σ') : Wq xs (d + 3) ax_cd125 0 [(0, .ref 30), (1, .ref k), (2, .int (nI c))] [] σ Q := by
  refine wq_cN (m := 0) rfl rfl ?_
  refine wq_go rfl (fun _ => rfl) ?_
  refine wq_cN (m := 0) rfl rfl ?_
  refine wq_go rfl (fun _ => rfl) ?_
  exact c_laun1 hk (cw_pok hC) hok hc K 4 0 rfl σ _ (fr_refl _ _) hC hS (cw_c31 hC) (fun j hj => absurd hj (by omega))
theorem c_fade2 {xs : List Int32} {d : Nat} {σ : Nat → List Value} {Q : Option Value → (Nat → List Value) → Prop} {k : Nat} {S : St} (hk : kd k = .inr 7) {P : Pl} (hP : Pok P) (hok : Sok S) {h : Nat} (hh : h < Phd P) (K : ∀ σ', Fr (xS k) σ σ' → CW P σ' → StIs σ' k (fadeS P S h) → Q (none) σ') : ∀ (m u : Nat), m + u = 4 → ∀ σ1 fA, Fr (xS k) σ σ1 → CW P σ1 → StIs σ1 k (faS S h (fadeN P S h) u) → σ1 31 = arr 4 fA → (∀ j, j < 4 → fA j = nI (fadeN P S h j)) → Wq xs (d + 1) ax_cd140 20 [(3, .int (nI u)), (0, .ref 30), (1, .ref k), (2, .int (nI h))] [] σ1 Q := by
  obtain ⟨hk1, hk2, hk3, hk4, hk5⟩ := St_k hk
  have hkr := St_rng hk
  obtain ⟨hP1, hP2, hP3, hP4, hP5, hP6, hP7, hP8, hPv, hPm, hPo, hPw, hPl⟩ := hP
  intro m
  induction m with
  | zero =>
    intro u hm σ1 fA hF1 hC1 hS1 hA1 hfA
    refine wq_go rfl (fun _ => rfl) ?_
    refine wq_go rfl (fun _ => rfl) ?_
    refine wq_getf rfl (by first | rfl | assumption) (by first | decide | omega | assumption) (cw_c30 hC1) rfl ?_
    refine wq_alen rfl (by first | rfl | assumption) (by first | decide | omega | assumption) rfl hA1 (arr_len _ _) ?_
    refine wq_cge rfl (by first | omega | decide | exact Nat.lt_of_le_of_lt Nat.and_le_right (by decide) | exact ⟨by omega, by omega⟩) (by first | omega | decide | exact Nat.lt_of_le_of_lt Nat.and_le_right (by decide) | exact ⟨by omega, by omega⟩) (fun c24 => ?_) (fun c => absurd (show _ from by omega) c)
    have hu4 : u = 4 := by omega
    subst hu4
    refine wq_end rfl (fun _ => rfl) ?_
    exact K _ hF1 hC1 hS1
  | succ m ih =>
    intro u hm σ1 fA hF1 hC1 hS1 hA1 hfA
    refine wq_go rfl (fun _ => rfl) ?_
    refine wq_go rfl (fun _ => rfl) ?_
    refine wq_getf rfl (by first | rfl | assumption) (by first | decide | omega | assumption) (cw_c30 hC1) rfl ?_
    refine wq_alen rfl (by first | rfl | assumption) (by first | decide | omega | assumption) rfl hA1 (arr_len _ _) ?_
    refine wq_cge rfl (by first | omega | decide | exact Nat.lt_of_le_of_lt Nat.and_le_right (by decide) | exact ⟨by omega, by omega⟩) (by first | omega | decide | exact Nat.lt_of_le_of_lt Nat.and_le_right (by decide) | exact ⟨by omega, by omega⟩) (fun c => absurd c (by omega)) (fun c24 => ?_)
    have hw := fade_le P hok (h := h) (t := u) (by omega) (by omega)
    have e1 := fa_ow S h (fadeN P S h) u
    refine wq_go rfl (fun _ => rfl) ?_
    refine wq_go rfl (fun _ => rfl) ?_
    refine wq_go rfl (fun _ => rfl) ?_
    refine wq_go rfl (fun _ => rfl) ?_
    refine wq_getf rfl (by first | rfl | assumption) (by first | decide | omega | assumption) (cw_c30 hC1) rfl ?_
    refine wq_go rfl (fun _ => rfl) ?_
    refine wq_iald rfl (by first | rfl | assumption) (by first | decide | omega | assumption) hA1 rfl (by omega) (by first | decide | omega) ?_
    refine wq_top (hfA u (by omega)) ?_
    refine wq_callV rfl rfl (by first | rfl | assumption) (by first | decide | omega | assumption) (Nat.le_of_ble_eq_true rfl) (Nat.le_of_ble_eq_true rfl) rfl rfl ?_
    refine c_State_moveOwnToSuds hk hS1 (by omega) (by omega) (by rw [e1]; exact hw) (fun σ2 F2 S2 => ?_)
    have C2 := cw_k hk hC1 F2
    have A2 := (F2 31 (St_off hk (by decide))).trans hA1
    refine wq_incN rfl rfl rfl ?_
    refine wq_go rfl (fun _ => rfl) ?_
    exact ih (u + 1) (by omega) _ fA (fr_trans hF1 (fr_mono F2 xk_S)) C2 (by rw [← faS_s S h (fadeN P S h) u]; exact S2) A2 hfA
theorem c_fade1 {xs : List Int32} {d : Nat} {σ : Nat → List Value} {Q : Option Value → (Nat → List Value) → Prop} {k : Nat} {S : St} (hk : kd k = .inr 7) {P : Pl} (hP : Pok P) (hok : Sok S) {h : Nat} (hh : h < Phd P) (K : ∀ σ', Fr (xS k) σ σ' → CW P σ' → StIs σ' k (fadeS P S h) → Q (none) σ') : ∀ (m u : Nat), m + u = 4 → ∀ σ1 fA, Fr xA σ σ1 → CW P σ1 → StIs σ1 k S → σ1 31 = arr 4 fA → (∀ j, j < u → fA j = nI (fadeN P S h j)) → Wq xs (d + 3) ax_cd140 2 [(3, .int (nI u)), (0, .ref 30), (1, .ref k), (2, .int (nI h))] [] σ1 Q := by
  obtain ⟨hk1, hk2, hk3, hk4, hk5⟩ := St_k hk
  have hkr := St_rng hk
  obtain ⟨hP1, hP2, hP3, hP4, hP5, hP6, hP7, hP8, hPv, hPm, hPo, hPw, hPl⟩ := hP
  intro m
  induction m with
  | zero =>
    intro u hm σ1 fA hF1 hC1 hS1 hA1 hfA
    refine wq_go rfl (fun _ => rfl) ?_
    refine wq_go rfl (fun _ => rfl) ?_
    refine wq_getf rfl (by first | rfl | assumption) (by first | decide | omega | assumption) (cw_c30 hC1) rfl ?_
    refine wq_alen rfl (by first | rfl | assumption) (by first | decide | omega | assumption) rfl hA1 (arr_len _ _) ?_
    refine wq_cge rfl (by first | omega | decide | exact Nat.lt_of_le_of_lt Nat.and_le_right (by decide) | exact ⟨by omega, by omega⟩) (by first | omega | decide | exact Nat.lt_of_le_of_lt Nat.and_le_right (by decide) | exact ⟨by omega, by omega⟩) (fun c6 => ?_) (fun c => absurd (show _ from by omega) c)
    refine wq_cN (m := 0) rfl rfl ?_
    refine wq_go rfl (fun _ => rfl) ?_
    exact c_fade2 (d := d + 2) hk ⟨hP1, hP2, hP3, hP4, hP5, hP6, hP7, hP8, hPv, hPm, hPo, hPw, hPl⟩ hok hh K 4 0 rfl σ1 fA (fr_mono hF1 xA_S) hC1 (by rw [faS_0]; exact hS1) hA1 (fun j hj => hfA j (by omega))
  | succ m ih =>
    intro u hm σ1 fA hF1 hC1 hS1 hA1 hfA
    refine wq_go rfl (fun _ => rfl) ?_
    refine wq_go rfl (fun _ => rfl) ?_
    refine wq_getf rfl (by first | rfl | assumption) (by first | decide | omega | assumption) (cw_c30 hC1) rfl ?_
    refine wq_alen rfl (by first | rfl | assumption) (by first | decide | omega | assumption) rfl hA1 (arr_len _ _) ?_
    refine wq_cge rfl (by first | omega | decide | exact Nat.lt_of_le_of_lt Nat.and_le_right (by decide) | exact ⟨by omega, by omega⟩) (by first | omega | decide | exact Nat.lt_of_le_of_lt Nat.and_le_right (by decide) | exact ⟨by omega, by omega⟩) (fun c => absurd c (by omega)) (fun c6 => ?_)
    refine wq_go rfl (fun _ => rfl) ?_
    refine wq_getf rfl (by first | rfl | assumption) (by first | decide | omega | assumption) (cw_c30 hC1) rfl ?_
    refine wq_go rfl (fun _ => rfl) ?_
    refine wq_go rfl (fun _ => rfl) ?_
    refine wq_go rfl (fun _ => rfl) ?_
    refine wq_go rfl (fun _ => rfl) ?_
    refine wq_go rfl (fun _ => rfl) ?_
    refine wq_callV rfl rfl (by first | rfl | assumption) (by first | decide | omega | assumption) (Nat.le_of_ble_eq_true rfl) (Nat.le_of_ble_eq_true rfl) rfl rfl ?_
    refine c_House_fadedOf hk hS1 hC1 hok hh (by omega) (fun σ2 F2 C2 => ?_)
    have S2 := st_sc hk F2 hS1
    have A2 := (F2 31 (by decide)).trans hA1
    refine wq_iast rfl (by first | rfl | assumption) (by first | decide | omega | assumption) A2 rfl (by omega) (by first | decide | omega) ?_
    refine wq_incN rfl rfl rfl ?_
    refine wq_go rfl (fun _ => rfl) ?_
    exact ih (u + 1) (by omega) _ _ (fr_up (fr_trans hF1 (fr_mono F2 xsc_A)) rfl) (cw_u31 C2) (st_u31 hk S2) (up_same _ _ _) (fun j hj => by
      by_cases e : j = u
      · subst e; exact pk_us
      · exact (pk_un e).trans (hfA j (by omega)))
theorem c_House_fade {xs : List Int32} {d : Nat} {σ : Nat → List Value} {Q : Option Value → (Nat → List Value) → Prop} {k : Nat} {S : St} (hk : kd k = .inr 7) (hS : StIs σ k S) {P : Pl} (hC : CW P σ) (hok : Sok S) {h : Nat} (hh : h < Phd P) (K : ∀ σ', Fr (xS k) σ σ' → CW P σ' → StIs σ' k (fadeS P S h) → Q (none) σ') : Wq xs (d + 3) ax_cd140 0 [(0, .ref 30), (1, .ref k), (2, .int (nI h))] [] σ Q := by
  refine wq_cN (m := 0) rfl rfl ?_
  refine wq_go rfl (fun _ => rfl) ?_
  exact c_fade1 hk (cw_pok hC) hok hh K 4 0 rfl σ _ (fr_refl _ _) hC hS (cw_c31 hC) (fun j hj => absurd hj (by omega))
theorem c_wall {xs : List Int32} {d : Nat} {σ : Nat → List Value} {Q : Option Value → (Nat → List Value) → Prop} {k : Nat} {S : St} (hk : kd k = .inr 7) {P : Pl} (hP : Pok P) (hok : Sok S) {c : Nat} (hc : c < Pch P) (K : ∀ σ', Fr xsc σ σ' → CW P σ' → Q (some (.int (nI (sumF (washN P S c) 4)))) σ') : ∀ (m u : Nat), m + u = 4 → ∀ σ1, Fr xsc σ σ1 → CW P σ1 → StIs σ1 k S → Wq xs (d + 3) ax_cd185 4 [(4, .int (nI u)), (3, .int (nI (sumF (washN P S c) u))), (0, .ref 30), (1, .ref k), (2, .int (nI c))] [] σ1 Q := by
  obtain ⟨hk1, hk2, hk3, hk4, hk5⟩ := St_k hk
  have hkr := St_rng hk
  obtain ⟨hP1, hP2, hP3, hP4, hP5, hP6, hP7, hP8, hPv, hPm, hPo, hPw, hPl⟩ := hP
  intro m
  induction m with
  | zero =>
    intro u hm σ1 hF1 hC1 hS1
    refine wq_go rfl (fun _ => rfl) ?_
    refine wq_cN (m := 4) rfl rfl ?_
    refine wq_cge rfl (by first | omega | decide | exact Nat.lt_of_le_of_lt Nat.and_le_right (by decide) | exact ⟨by omega, by omega⟩) (by first | omega | decide | exact Nat.lt_of_le_of_lt Nat.and_le_right (by decide) | exact ⟨by omega, by omega⟩) (fun c6 => ?_) (fun c => absurd (show _ from by omega) c)
    refine wq_go rfl (fun _ => rfl) ?_
    refine wq_iret rfl ?_
    have hu4 : u = 4 := by omega
    subst hu4
    exact K _ hF1 hC1
  | succ m ih =>
    intro u hm σ1 hF1 hC1 hS1
    refine wq_go rfl (fun _ => rfl) ?_
    refine wq_cN (m := 4) rfl rfl ?_
    refine wq_cge rfl (by first | omega | decide | exact Nat.lt_of_le_of_lt Nat.and_le_right (by decide) | exact ⟨by omega, by omega⟩) (by first | omega | decide | exact Nat.lt_of_le_of_lt Nat.and_le_right (by decide) | exact ⟨by omega, by omega⟩) (fun c => absurd c (by omega)) (fun c6 => ?_)
    refine wq_go rfl (fun _ => rfl) ?_
    refine wq_go rfl (fun _ => rfl) ?_
    refine wq_go rfl (fun _ => rfl) ?_
    refine wq_go rfl (fun _ => rfl) ?_
    refine wq_go rfl (fun _ => rfl) ?_
    refine wq_callV rfl rfl (by first | rfl | assumption) (by first | decide | omega | assumption) (Nat.le_of_ble_eq_true rfl) (Nat.le_of_ble_eq_true rfl) rfl rfl ?_
    refine c_House_washedOf hk hS1 hC1 hok hc (by omega) (fun σ2 F2 C2 => ?_)
    have S2 := st_sc hk F2 hS1
    refine wq_addN rfl ?_
    refine wq_go rfl (fun _ => rfl) ?_
    refine wq_incN rfl rfl rfl ?_
    refine wq_go rfl (fun _ => rfl) ?_
    exact ih (u + 1) (by omega) _ (fr_trans hF1 F2) C2 S2
theorem c_House_washedOfAll {xs : List Int32} {d : Nat} {σ : Nat → List Value} {Q : Option Value → (Nat → List Value) → Prop} {k : Nat} {S : St} (hk : kd k = .inr 7) (hS : StIs σ k S) {P : Pl} (hC : CW P σ) (hok : Sok S) {c : Nat} (hc : c < Pch P) (K : ∀ σ', Fr xsc σ σ' → CW P σ' → Q (some (.int (nI (sumF (washN P S c) 4)))) σ') : Wq xs (d + 3) ax_cd185 0 [(0, .ref 30), (1, .ref k), (2, .int (nI c))] [] σ Q := by
  refine wq_cN (m := 0) rfl rfl ?_
  refine wq_go rfl (fun _ => rfl) ?_
  refine wq_cN (m := 0) rfl rfl ?_
  refine wq_go rfl (fun _ => rfl) ?_
  exact c_wall hk (cw_pok hC) hok hc K 4 0 rfl σ (fr_refl _ _) hC hS
