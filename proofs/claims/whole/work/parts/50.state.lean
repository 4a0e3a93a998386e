/-! STATE -/
def tot (S : St) : Nat := sumF (Ssq S) 16 + sumF (Sow S) 20 + Ssd S
def Sok (S : St) : Prop := tot S ≤ 1980 ∧ Shr S ≤ 1000000 ∧ Ssc S < 16 ∧ Skp S < 1024
theorem sq_le {S : St} (h : Sok S) {i : Nat} (hi : i < 16) : Ssq S i ≤ 1980 := by
  have := sumF_le (Ssq S) 16 i hi
  have := h.1
  unfold tot at this
  omega
theorem ow_le {S : St} (h : Sok S) {i : Nat} (hi : i < 20) : Sow S i ≤ 1980 := by
  have := sumF_le (Sow S) 20 i hi
  have := h.1
  unfold tot at this
  omega
theorem sd_le {S : St} (h : Sok S) : Ssd S ≤ 1980 := by
  have := h.1
  unfold tot at this
  omega
def s4 (f : Nat → Nat) (i : Nat) : Nat := sumF (fun j => f (i + j)) 4
theorem tb1 {x k : Nat} (h : ¬ (x / 2 ^ k &&& 1 = 0)) : x.testBit k = true := by
  rw [bit1, tb_div] at h
  cases e : x.testBit k with
  | true => rfl
  | false => rw [e] at h; simp at h
theorem tb0 {x k : Nat} (h : x / 2 ^ k &&& 1 = 0) : x.testBit k = false := by
  rw [bit1, tb_div] at h
  cases e : x.testBit k with
  | false => rfl
  | true => rw [e] at h; simp at h
def clr (x k : Nat) : Nat := if x.testBit k then x - 2 ^ k else x
theorem clr_n : ∀ k, k < 10 → ∀ x, x < 1024 → nI x &&& (nI (2 ^ k) ^^^ (-1)) = nI (clr x k) := by
  have h : (List.range 10).all (fun k => (List.range 1024).all (fun x => decide (nI x &&& (nI (2 ^ k) ^^^ (-1)) = nI (clr x k)))) = true := by decide +kernel
  intro k hk x hx
  exact of_decide_eq_true (List.all_eq_true.mp (List.all_eq_true.mp h k (List.mem_range.mpr hk)) x (List.mem_range.mpr hx))
theorem xk_in {k j : Nat} (h : k ≤ j) (h' : j ≤ k + 4) : xk k j = true := by
  simp [xk, inS, Nat.ble_eq, h, h']
def setSc (S : St) (x : Nat) : St := (Ssq S, Sow S, Ssi S, Ssb S, Shr S, Ssd S, x, Skp S)
def setKp (S : St) (x : Nat) : St := (Ssq S, Sow S, Ssi S, Ssb S, Shr S, Ssd S, Ssc S, x)
def setHr (S : St) (x : Nat) : St := (Ssq S, Sow S, Ssi S, Ssb S, x, Ssd S, Ssc S, Skp S)
def setSO (S : St) (i x j y : Nat) : St := (updN (Ssq S) i x, updN (Sow S) j y, Ssi S, Ssb S, Shr S, Ssd S, Ssc S, Skp S)
def setSD (S : St) (i x y : Nat) : St := (updN (Ssq S) i x, Sow S, Ssi S, Ssb S, Shr S, y, Ssc S, Skp S)
def setOD (S : St) (i x y : Nat) : St := (Ssq S, updN (Sow S) i x, Ssi S, Ssb S, Shr S, y, Ssc S, Skp S)
def satS (S : St) (h c : Nat) : St := (Ssq S, Sow S, updN (Ssi S) c (Ssi S c + 1), updN (Ssb S) h (Ssb S h + 1), Shr S, Ssd S, Ssc S, Skp S)

theorem c_State_isStarched {xs : List Int32} {d : Nat} {σ : Nat → List Value} {Q : Option Value → (Nat → List Value) → Prop} {k : Nat} {S : St} (hk : kd k = .inr 7) (hS : StIs σ k S) {c : Nat} (hc : c < 10) (hb : Ssc S < 16) (K1 : (Ssc S).testBit c = true → Q (some (.int (nI 1))) σ) (K0 : (Ssc S).testBit c = false → Q (some (.int (nI 0))) σ) : Wq xs (d + 0) ax_cd89 0 [(0, .ref k), (1, .int (nI c))] [] σ Q := by
  obtain ⟨hk1, hk2, hk3, hk4, hk5⟩ := St_k hk
  have hkr := St_rng hk
  refine wq_go rfl (fun _ => rfl) ?_
  refine wq_getf rfl (by first | rfl | assumption) (by first | decide | omega | assumption) hS.1 rfl ?_
  refine wq_go rfl (fun _ => rfl) ?_
  refine wq_ushN rfl (by first | decide | omega) (by first | decide | omega) ?_
  refine wq_cN (m := 1) rfl rfl ?_
  refine wq_andN rfl ?_
  refine wq_zeq rfl (by first | omega | decide | exact Nat.lt_of_le_of_lt Nat.and_le_right (by decide) | exact ⟨by omega, by omega⟩) (fun c6 => ?_) (fun c6 => ?_)
  · skip
    refine wq_cN (m := 0) rfl rfl ?_
    refine wq_nret rfl (by decide) ?_
    first | exact K1 (tb1 (by assumption)) | exact K0 (tb0 (by assumption))
  · skip
    refine wq_cN (m := 1) rfl rfl ?_
    refine wq_go rfl (fun _ => rfl) ?_
    refine wq_nret rfl (by decide) ?_
    first | exact K1 (tb1 (by assumption)) | exact K0 (tb0 (by assumption))
theorem c_State_isKept {xs : List Int32} {d : Nat} {σ : Nat → List Value} {Q : Option Value → (Nat → List Value) → Prop} {k : Nat} {S : St} (hk : kd k = .inr 7) (hS : StIs σ k S) {c : Nat} (hc : c < 10) (hb : Skp S < 1024) (K1 : (Skp S).testBit c = true → Q (some (.int (nI 1))) σ) (K0 : (Skp S).testBit c = false → Q (some (.int (nI 0))) σ) : Wq xs (d + 0) ax_cd101 0 [(0, .ref k), (1, .int (nI c))] [] σ Q := by
  obtain ⟨hk1, hk2, hk3, hk4, hk5⟩ := St_k hk
  have hkr := St_rng hk
  refine wq_go rfl (fun _ => rfl) ?_
  refine wq_getf rfl (by first | rfl | assumption) (by first | decide | omega | assumption) hS.1 rfl ?_
  refine wq_go rfl (fun _ => rfl) ?_
  refine wq_ushN rfl (by first | decide | omega) (by first | decide | omega) ?_
  refine wq_cN (m := 1) rfl rfl ?_
  refine wq_andN rfl ?_
  refine wq_zeq rfl (by first | omega | decide | exact Nat.lt_of_le_of_lt Nat.and_le_right (by decide) | exact ⟨by omega, by omega⟩) (fun c6 => ?_) (fun c6 => ?_)
  · skip
    refine wq_cN (m := 0) rfl rfl ?_
    refine wq_nret rfl (by decide) ?_
    first | exact K1 (tb1 (by assumption)) | exact K0 (tb0 (by assumption))
  · skip
    refine wq_cN (m := 1) rfl rfl ?_
    refine wq_go rfl (fun _ => rfl) ?_
    refine wq_nret rfl (by decide) ?_
    first | exact K1 (tb1 (by assumption)) | exact K0 (tb0 (by assumption))
theorem c_State_setStarched1 {xs : List Int32} {d : Nat} {σ : Nat → List Value} {Q : Option Value → (Nat → List Value) → Prop} {k : Nat} {S : St} (hk : kd k = .inr 7) (hS : StIs σ k S) {c : Nat} (hc : c < 10) (hb : Ssc S < 16) (K : ∀ σ', Fr (xk k) σ σ' → StIs σ' k (setSc S (Ssc S ||| 2 ^ c)) → Q none σ') : Wq xs (d + 0) ax_cd127 0 [(0, .ref k), (1, .int (nI c)), (2, .int (nI 1))] [] σ Q := by
  obtain ⟨hk1, hk2, hk3, hk4, hk5⟩ := St_k hk
  have hkr := St_rng hk
  refine wq_go rfl (fun _ => rfl) ?_
  refine wq_go rfl (fun _ => rfl) ?_
  refine wq_zeq rfl (by first | omega | decide | exact Nat.lt_of_le_of_lt Nat.and_le_right (by decide) | exact ⟨by omega, by omega⟩) (fun c => absurd c (by omega)) (fun c2 => ?_)
  refine wq_go rfl (fun _ => rfl) ?_
  refine wq_getf rfl (by first | rfl | assumption) (by first | decide | omega | assumption) hS.1 rfl ?_
  refine wq_cN (m := 1) rfl rfl ?_
  refine wq_go rfl (fun _ => rfl) ?_
  refine wq_shl1 rfl (by first | decide | omega) ?_
  refine wq_orN rfl ?_
  refine wq_go rfl (fun _ => rfl) ?_
  refine wq_putf rfl (by first | rfl | assumption) (by first | decide | omega | assumption) hS.1 rfl rfl rfl (by simp) ?_
  refine wq_end rfl (fun _ => rfl) ?_
  exact K _ (fr_up (fr_refl (xk k) _) (xk_in (by omega) (by omega))) ⟨(up_same _ _ _), ((up_ne _ _ (by omega)).trans hS.2.1), ((up_ne _ _ (by omega)).trans hS.2.2.1), ((up_ne _ _ (by omega)).trans hS.2.2.2.1), ((up_ne _ _ (by omega)).trans hS.2.2.2.2)⟩
theorem c_State_setStarched0 {xs : List Int32} {d : Nat} {σ : Nat → List Value} {Q : Option Value → (Nat → List Value) → Prop} {k : Nat} {S : St} (hk : kd k = .inr 7) (hS : StIs σ k S) {c : Nat} (hc : c < 10) (hb : Ssc S < 16) (K : ∀ σ', Fr (xk k) σ σ' → StIs σ' k (setSc S (clr (Ssc S) c)) → Q none σ') : Wq xs (d + 0) ax_cd127 0 [(0, .ref k), (1, .int (nI c)), (2, .int (nI 0))] [] σ Q := by
  obtain ⟨hk1, hk2, hk3, hk4, hk5⟩ := St_k hk
  have hkr := St_rng hk
  refine wq_go rfl (fun _ => rfl) ?_
  refine wq_go rfl (fun _ => rfl) ?_
  refine wq_zeq rfl (by first | omega | decide | exact Nat.lt_of_le_of_lt Nat.and_le_right (by decide) | exact ⟨by omega, by omega⟩) (fun c2 => ?_) (fun c => absurd (show _ from by omega) c)
  refine wq_go rfl (fun _ => rfl) ?_
  refine wq_getf rfl (by first | rfl | assumption) (by first | decide | omega | assumption) hS.1 rfl ?_
  refine wq_cN (m := 1) rfl rfl ?_
  refine wq_go rfl (fun _ => rfl) ?_
  refine wq_shl1 rfl (by first | decide | omega) ?_
  refine wq_go rfl (fun _ => rfl) ?_
  refine wq_go rfl (fun _ => rfl) ?_
  refine wq_go rfl (fun _ => rfl) ?_
  refine wq_top (clr_n c (by omega) _ (by omega)) ?_
  refine wq_putf rfl (by first | rfl | assumption) (by first | decide | omega | assumption) hS.1 rfl rfl rfl (by simp) ?_
  refine wq_end rfl (fun _ => rfl) ?_
  exact K _ (fr_up (fr_refl (xk k) _) (xk_in (by omega) (by omega))) ⟨(up_same _ _ _), ((up_ne _ _ (by omega)).trans hS.2.1), ((up_ne _ _ (by omega)).trans hS.2.2.1), ((up_ne _ _ (by omega)).trans hS.2.2.2.1), ((up_ne _ _ (by omega)).trans hS.2.2.2.2)⟩
theorem c_State_setKept1 {xs : List Int32} {d : Nat} {σ : Nat → List Value} {Q : Option Value → (Nat → List Value) → Prop} {k : Nat} {S : St} (hk : kd k = .inr 7) (hS : StIs σ k S) {c : Nat} (hc : c < 10) (hb : Skp S < 1024) (K : ∀ σ', Fr (xk k) σ σ' → StIs σ' k (setKp S (Skp S ||| 2 ^ c)) → Q none σ') : Wq xs (d + 0) ax_cd132 0 [(0, .ref k), (1, .int (nI c)), (2, .int (nI 1))] [] σ Q := by
  obtain ⟨hk1, hk2, hk3, hk4, hk5⟩ := St_k hk
  have hkr := St_rng hk
  refine wq_go rfl (fun _ => rfl) ?_
  refine wq_go rfl (fun _ => rfl) ?_
  refine wq_zeq rfl (by first | omega | decide | exact Nat.lt_of_le_of_lt Nat.and_le_right (by decide) | exact ⟨by omega, by omega⟩) (fun c => absurd c (by omega)) (fun c2 => ?_)
  refine wq_go rfl (fun _ => rfl) ?_
  refine wq_getf rfl (by first | rfl | assumption) (by first | decide | omega | assumption) hS.1 rfl ?_
  refine wq_cN (m := 1) rfl rfl ?_
  refine wq_go rfl (fun _ => rfl) ?_
  refine wq_shl1 rfl (by first | decide | omega) ?_
  refine wq_orN rfl ?_
  refine wq_go rfl (fun _ => rfl) ?_
  refine wq_putf rfl (by first | rfl | assumption) (by first | decide | omega | assumption) hS.1 rfl rfl rfl (by simp) ?_
  refine wq_end rfl (fun _ => rfl) ?_
  exact K _ (fr_up (fr_refl (xk k) _) (xk_in (by omega) (by omega))) ⟨(up_same _ _ _), ((up_ne _ _ (by omega)).trans hS.2.1), ((up_ne _ _ (by omega)).trans hS.2.2.1), ((up_ne _ _ (by omega)).trans hS.2.2.2.1), ((up_ne _ _ (by omega)).trans hS.2.2.2.2)⟩
theorem c_State_setKept0 {xs : List Int32} {d : Nat} {σ : Nat → List Value} {Q : Option Value → (Nat → List Value) → Prop} {k : Nat} {S : St} (hk : kd k = .inr 7) (hS : StIs σ k S) {c : Nat} (hc : c < 10) (hb : Skp S < 1024) (K : ∀ σ', Fr (xk k) σ σ' → StIs σ' k (setKp S (clr (Skp S) c)) → Q none σ') : Wq xs (d + 0) ax_cd132 0 [(0, .ref k), (1, .int (nI c)), (2, .int (nI 0))] [] σ Q := by
  obtain ⟨hk1, hk2, hk3, hk4, hk5⟩ := St_k hk
  have hkr := St_rng hk
  refine wq_go rfl (fun _ => rfl) ?_
  refine wq_go rfl (fun _ => rfl) ?_
  refine wq_zeq rfl (by first | omega | decide | exact Nat.lt_of_le_of_lt Nat.and_le_right (by decide) | exact ⟨by omega, by omega⟩) (fun c2 => ?_) (fun c => absurd (show _ from by omega) c)
  refine wq_go rfl (fun _ => rfl) ?_
  refine wq_getf rfl (by first | rfl | assumption) (by first | decide | omega | assumption) hS.1 rfl ?_
  refine wq_cN (m := 1) rfl rfl ?_
  refine wq_go rfl (fun _ => rfl) ?_
  refine wq_shl1 rfl (by first | decide | omega) ?_
  refine wq_go rfl (fun _ => rfl) ?_
  refine wq_go rfl (fun _ => rfl) ?_
  refine wq_go rfl (fun _ => rfl) ?_
  refine wq_top (clr_n c (by omega) _ (by omega)) ?_
  refine wq_putf rfl (by first | rfl | assumption) (by first | decide | omega | assumption) hS.1 rfl rfl rfl (by simp) ?_
  refine wq_end rfl (fun _ => rfl) ?_
  exact K _ (fr_up (fr_refl (xk k) _) (xk_in (by omega) (by omega))) ⟨(up_same _ _ _), ((up_ne _ _ (by omega)).trans hS.2.1), ((up_ne _ _ (by omega)).trans hS.2.2.1), ((up_ne _ _ (by omega)).trans hS.2.2.2.1), ((up_ne _ _ (by omega)).trans hS.2.2.2.2)⟩
theorem c_State_countSitting {xs : List Int32} {d : Nat} {σ : Nat → List Value} {Q : Option Value → (Nat → List Value) → Prop} {k : Nat} {S : St} (hk : kd k = .inr 7) (hS : StIs σ k S) {h c : Nat} (hh : h < 5) (hc : c < 4) (K : ∀ σ', Fr (xk k) σ σ' → StIs σ' k (satS S h c) → Q none σ') : Wq xs (d + 0) ax_cd123 0 [(0, .ref k), (1, .int (nI h)), (2, .int (nI c))] [] σ Q := by
  obtain ⟨hk1, hk2, hk3, hk4, hk5⟩ := St_k hk
  have hkr := St_rng hk
  refine wq_go rfl (fun _ => rfl) ?_
  refine wq_zlt rfl (by first | omega | decide | exact Nat.lt_of_le_of_lt Nat.and_le_right (by decide) | exact ⟨by omega, by omega⟩) (fun c => absurd c (by omega)) (fun c1 => ?_)
  refine wq_go rfl (fun _ => rfl) ?_
  refine wq_go rfl (fun _ => rfl) ?_
  refine wq_getf rfl (by first | rfl | assumption) (by first | decide | omega | assumption) hS.1 rfl ?_
  refine wq_alen rfl (by first | rfl | assumption) (by first | decide | omega | assumption) rfl hS.2.2.2.2 (arrN_len _ _) ?_
  refine wq_cge rfl (by first | omega | decide | exact Nat.lt_of_le_of_lt Nat.and_le_right (by decide) | exact ⟨by omega, by omega⟩) (by first | omega | decide | exact Nat.lt_of_le_of_lt Nat.and_le_right (by decide) | exact ⟨by omega, by omega⟩) (fun c => absurd c (by omega)) (fun c6 => ?_)
  refine wq_go rfl (fun _ => rfl) ?_
  refine wq_zlt rfl (by first | omega | decide | exact Nat.lt_of_le_of_lt Nat.and_le_right (by decide) | exact ⟨by omega, by omega⟩) (fun c => absurd c (by omega)) (fun c8 => ?_)
  refine wq_go rfl (fun _ => rfl) ?_
  refine wq_go rfl (fun _ => rfl) ?_
  refine wq_getf rfl (by first | rfl | assumption) (by first | decide | omega | assumption) hS.1 rfl ?_
  refine wq_alen rfl (by first | rfl | assumption) (by first | decide | omega | assumption) rfl hS.2.2.2.1 (arrN_len _ _) ?_
  refine wq_cge rfl (by first | omega | decide | exact Nat.lt_of_le_of_lt Nat.and_le_right (by decide) | exact ⟨by omega, by omega⟩) (by first | omega | decide | exact Nat.lt_of_le_of_lt Nat.and_le_right (by decide) | exact ⟨by omega, by omega⟩) (fun c => absurd c (by omega)) (fun c13 => ?_)
  refine wq_go rfl (fun _ => rfl) ?_
  refine wq_getf rfl (by first | rfl | assumption) (by first | decide | omega | assumption) hS.1 rfl ?_
  refine wq_go rfl (fun _ => rfl) ?_
  refine wq_go rfl (fun _ => rfl) ?_
  refine wq_ialdN rfl (by first | rfl | assumption) (by first | decide | omega | assumption) hS.2.2.2.2 rfl (by omega) (by first | decide | omega) ?_
  refine wq_cN (m := 1) rfl rfl ?_
  refine wq_addN rfl ?_
  refine wq_iastN rfl (by first | rfl | assumption) (by first | decide | omega | assumption) hS.2.2.2.2 rfl (by omega) (by first | decide | omega) ?_
  refine wq_go rfl (fun _ => rfl) ?_
  refine wq_getf rfl (by first | rfl | assumption) (by first | decide | omega | assumption) ((up_ne _ _ (by omega)).trans hS.1) rfl ?_
  refine wq_go rfl (fun _ => rfl) ?_
  refine wq_go rfl (fun _ => rfl) ?_
  refine wq_ialdN rfl (by first | rfl | assumption) (by first | decide | omega | assumption) ((up_ne _ _ (by omega)).trans hS.2.2.2.1) rfl (by omega) (by first | decide | omega) ?_
  refine wq_cN (m := 1) rfl rfl ?_
  refine wq_addN rfl ?_
  refine wq_iastN rfl (by first | rfl | assumption) (by first | decide | omega | assumption) ((up_ne _ _ (by omega)).trans hS.2.2.2.1) rfl (by omega) (by first | decide | omega) ?_
  refine wq_end rfl (fun _ => rfl) ?_
  exact K _ (fr_up (fr_up (fr_refl (xk k) _) (xk_in (by omega) (by omega))) (xk_in (by omega) (by omega))) ⟨((up_ne _ _ (by omega)).trans ((up_ne _ _ (by omega)).trans hS.1)), ((up_ne _ _ (by omega)).trans ((up_ne _ _ (by omega)).trans hS.2.1)), ((up_ne _ _ (by omega)).trans ((up_ne _ _ (by omega)).trans hS.2.2.1)), (up_same _ _ _), ((up_ne _ _ (by omega)).trans (up_same _ _ _))⟩
theorem c_State_moveIntoSquare {xs : List Int32} {d : Nat} {σ : Nat → List Value} {Q : Option Value → (Nat → List Value) → Prop} {k : Nat} {S : St} (hk : kd k = .inr 7) (hS : StIs σ k S) {h c t x y : Nat} {p : Int} (hh : h < 5) (hc : c < 4) (ht : t < 4) (hx : (Sow S (h * 4 + t) : Int) - p = x) (hy : (Ssq S (c * 4 + t) : Int) + p = y) (K : ∀ σ', Fr (xk k) σ σ' → StIs σ' k (setSO S (c * 4 + t) y (h * 4 + t) x) → Q none σ') : Wq xs (d + 0) ax_cd122 0 [(0, .ref k), (1, .int (nI h)), (2, .int (nI c)), (3, .int (nI t)), (4, .int (zI p))] [] σ Q := by
  obtain ⟨hk1, hk2, hk3, hk4, hk5⟩ := St_k hk
  have hkr := St_rng hk
  refine wq_go rfl (fun _ => rfl) ?_
  refine wq_cN (m := 4) rfl rfl ?_
  refine wq_mulN rfl ?_
  refine wq_go rfl (fun _ => rfl) ?_
  refine wq_addN rfl ?_
  refine wq_go rfl (fun _ => rfl) ?_
  refine wq_go rfl (fun _ => rfl) ?_
  refine wq_cN (m := 4) rfl rfl ?_
  refine wq_mulN rfl ?_
  refine wq_go rfl (fun _ => rfl) ?_
  refine wq_addN rfl ?_
  refine wq_go rfl (fun _ => rfl) ?_
  refine wq_go rfl (fun _ => rfl) ?_
  refine wq_zlt rfl (by first | omega | decide | exact Nat.lt_of_le_of_lt Nat.and_le_right (by decide) | exact ⟨by omega, by omega⟩) (fun c => absurd c (by omega)) (fun c13 => ?_)
  refine wq_go rfl (fun _ => rfl) ?_
  refine wq_go rfl (fun _ => rfl) ?_
  refine wq_getf rfl (by first | rfl | assumption) (by first | decide | omega | assumption) hS.1 rfl ?_
  refine wq_alen rfl (by first | rfl | assumption) (by first | decide | omega | assumption) rfl hS.2.2.1 (arrN_len _ _) ?_
  refine wq_cge rfl (by first | omega | decide | exact Nat.lt_of_le_of_lt Nat.and_le_right (by decide) | exact ⟨by omega, by omega⟩) (by first | omega | decide | exact Nat.lt_of_le_of_lt Nat.and_le_right (by decide) | exact ⟨by omega, by omega⟩) (fun c => absurd c (by omega)) (fun c18 => ?_)
  refine wq_go rfl (fun _ => rfl) ?_
  refine wq_zlt rfl (by first | omega | decide | exact Nat.lt_of_le_of_lt Nat.and_le_right (by decide) | exact ⟨by omega, by omega⟩) (fun c => absurd c (by omega)) (fun c20 => ?_)
  refine wq_go rfl (fun _ => rfl) ?_
  refine wq_go rfl (fun _ => rfl) ?_
  refine wq_getf rfl (by first | rfl | assumption) (by first | decide | omega | assumption) hS.1 rfl ?_
  refine wq_alen rfl (by first | rfl | assumption) (by first | decide | omega | assumption) rfl hS.2.1 (arrN_len _ _) ?_
  refine wq_cge rfl (by first | omega | decide | exact Nat.lt_of_le_of_lt Nat.and_le_right (by decide) | exact ⟨by omega, by omega⟩) (by first | omega | decide | exact Nat.lt_of_le_of_lt Nat.and_le_right (by decide) | exact ⟨by omega, by omega⟩) (fun c => absurd c (by omega)) (fun c25 => ?_)
  refine wq_go rfl (fun _ => rfl) ?_
  refine wq_getf rfl (by first | rfl | assumption) (by first | decide | omega | assumption) hS.1 rfl ?_
  refine wq_go rfl (fun _ => rfl) ?_
  refine wq_go rfl (fun _ => rfl) ?_
  refine wq_ialdN rfl (by first | rfl | assumption) (by first | decide | omega | assumption) hS.2.2.1 rfl (by omega) (by first | decide | omega) ?_
  refine wq_go rfl (fun _ => rfl) ?_
  refine wq_subZ rfl (nI_z _) rfl ?_
  refine wq_iastZ (c := x) rfl (by first | rfl | assumption) (by first | decide | omega | assumption) hS.2.2.1 rfl (by omega) rfl (by omega) (by first | decide | omega) ?_
  refine wq_go rfl (fun _ => rfl) ?_
  refine wq_getf rfl (by first | rfl | assumption) (by first | decide | omega | assumption) ((up_ne _ _ (by omega)).trans hS.1) rfl ?_
  refine wq_go rfl (fun _ => rfl) ?_
  refine wq_go rfl (fun _ => rfl) ?_
  refine wq_ialdN rfl (by first | rfl | assumption) (by first | decide | omega | assumption) ((up_ne _ _ (by omega)).trans hS.2.1) rfl (by omega) (by first | decide | omega) ?_
  refine wq_go rfl (fun _ => rfl) ?_
  refine wq_addZ rfl (nI_z _) rfl ?_
  refine wq_iastZ (c := y) rfl (by first | rfl | assumption) (by first | decide | omega | assumption) ((up_ne _ _ (by omega)).trans hS.2.1) rfl (by omega) rfl (by omega) (by first | decide | omega) ?_
  refine wq_end rfl (fun _ => rfl) ?_
  exact K _ (fr_up (fr_up (fr_refl (xk k) _) (xk_in (by omega) (by omega))) (xk_in (by omega) (by omega))) ⟨((up_ne _ _ (by omega)).trans ((up_ne _ _ (by omega)).trans hS.1)), (up_same _ _ _), ((up_ne _ _ (by omega)).trans (up_same _ _ _)), ((up_ne _ _ (by omega)).trans ((up_ne _ _ (by omega)).trans hS.2.2.2.1)), ((up_ne _ _ (by omega)).trans ((up_ne _ _ (by omega)).trans hS.2.2.2.2))⟩
theorem c_State_moveSquareToSuds {xs : List Int32} {d : Nat} {σ : Nat → List Value} {Q : Option Value → (Nat → List Value) → Prop} {k : Nat} {S : St} (hk : kd k = .inr 7) (hS : StIs σ k S) {c t a : Nat} (hc : c < 4) (ht : t < 4) (ha : a ≤ Ssq S (c * 4 + t)) (K : ∀ σ', Fr (xk k) σ σ' → StIs σ' k (setSD S (c * 4 + t) (Ssq S (c * 4 + t) - a) (Ssd S + a)) → Q none σ') : Wq xs (d + 0) ax_cd126 0 [(0, .ref k), (1, .int (nI c)), (2, .int (nI t)), (3, .int (nI a))] [] σ Q := by
  obtain ⟨hk1, hk2, hk3, hk4, hk5⟩ := St_k hk
  have hkr := St_rng hk
  refine wq_go rfl (fun _ => rfl) ?_
  refine wq_cN (m := 4) rfl rfl ?_
  refine wq_mulN rfl ?_
  refine wq_go rfl (fun _ => rfl) ?_
  refine wq_addN rfl ?_
  refine wq_go rfl (fun _ => rfl) ?_
  refine wq_go rfl (fun _ => rfl) ?_
  refine wq_zlt rfl (by first | omega | decide | exact Nat.lt_of_le_of_lt Nat.and_le_right (by decide) | exact ⟨by omega, by omega⟩) (fun c => absurd c (by omega)) (fun c7 => ?_)
  refine wq_go rfl (fun _ => rfl) ?_
  refine wq_go rfl (fun _ => rfl) ?_
  refine wq_getf rfl (by first | rfl | assumption) (by first | decide | omega | assumption) hS.1 rfl ?_
  refine wq_alen rfl (by first | rfl | assumption) (by first | decide | omega | assumption) rfl hS.2.1 (arrN_len _ _) ?_
  refine wq_cge rfl (by first | omega | decide | exact Nat.lt_of_le_of_lt Nat.and_le_right (by decide) | exact ⟨by omega, by omega⟩) (by first | omega | decide | exact Nat.lt_of_le_of_lt Nat.and_le_right (by decide) | exact ⟨by omega, by omega⟩) (fun c => absurd c (by omega)) (fun c12 => ?_)
  refine wq_go rfl (fun _ => rfl) ?_
  refine wq_getf rfl (by first | rfl | assumption) (by first | decide | omega | assumption) hS.1 rfl ?_
  refine wq_go rfl (fun _ => rfl) ?_
  refine wq_go rfl (fun _ => rfl) ?_
  refine wq_ialdN rfl (by first | rfl | assumption) (by first | decide | omega | assumption) hS.2.1 rfl (by omega) (by first | decide | omega) ?_
  refine wq_go rfl (fun _ => rfl) ?_
  refine wq_subN rfl (by omega) ?_
  refine wq_iastN rfl (by first | rfl | assumption) (by first | decide | omega | assumption) hS.2.1 rfl (by omega) (by first | decide | omega) ?_
  refine wq_go rfl (fun _ => rfl) ?_
  refine wq_go rfl (fun _ => rfl) ?_
  refine wq_getf rfl (by first | rfl | assumption) (by first | decide | omega | assumption) ((up_ne _ _ (by omega)).trans hS.1) rfl ?_
  refine wq_go rfl (fun _ => rfl) ?_
  refine wq_addN rfl ?_
  refine wq_putf rfl (by first | rfl | assumption) (by first | decide | omega | assumption) ((up_ne _ _ (by omega)).trans hS.1) rfl rfl rfl (by simp) ?_
  refine wq_end rfl (fun _ => rfl) ?_
  exact K _ (fr_up (fr_up (fr_refl (xk k) _) (xk_in (by omega) (by omega))) (xk_in (by omega) (by omega))) ⟨(up_same _ _ _), ((up_ne _ _ (by omega)).trans (up_same _ _ _)), ((up_ne _ _ (by omega)).trans ((up_ne _ _ (by omega)).trans hS.2.2.1)), ((up_ne _ _ (by omega)).trans ((up_ne _ _ (by omega)).trans hS.2.2.2.1)), ((up_ne _ _ (by omega)).trans ((up_ne _ _ (by omega)).trans hS.2.2.2.2))⟩
theorem c_State_moveOwnToSuds {xs : List Int32} {d : Nat} {σ : Nat → List Value} {Q : Option Value → (Nat → List Value) → Prop} {k : Nat} {S : St} (hk : kd k = .inr 7) (hS : StIs σ k S) {h t a : Nat} (hh : h < 5) (ht : t < 4) (ha : a ≤ Sow S (h * 4 + t)) (K : ∀ σ', Fr (xk k) σ σ' → StIs σ' k (setOD S (h * 4 + t) (Sow S (h * 4 + t) - a) (Ssd S + a)) → Q none σ') : Wq xs (d + 0) ax_cd141 0 [(0, .ref k), (1, .int (nI h)), (2, .int (nI t)), (3, .int (nI a))] [] σ Q := by
  obtain ⟨hk1, hk2, hk3, hk4, hk5⟩ := St_k hk
  have hkr := St_rng hk
  refine wq_go rfl (fun _ => rfl) ?_
  refine wq_cN (m := 4) rfl rfl ?_
  refine wq_mulN rfl ?_
  refine wq_go rfl (fun _ => rfl) ?_
  refine wq_addN rfl ?_
  refine wq_go rfl (fun _ => rfl) ?_
  refine wq_go rfl (fun _ => rfl) ?_
  refine wq_zlt rfl (by first | omega | decide | exact Nat.lt_of_le_of_lt Nat.and_le_right (by decide) | exact ⟨by omega, by omega⟩) (fun c => absurd c (by omega)) (fun c7 => ?_)
  refine wq_go rfl (fun _ => rfl) ?_
  refine wq_go rfl (fun _ => rfl) ?_
  refine wq_getf rfl (by first | rfl | assumption) (by first | decide | omega | assumption) hS.1 rfl ?_
  refine wq_alen rfl (by first | rfl | assumption) (by first | decide | omega | assumption) rfl hS.2.2.1 (arrN_len _ _) ?_
  refine wq_cge rfl (by first | omega | decide | exact Nat.lt_of_le_of_lt Nat.and_le_right (by decide) | exact ⟨by omega, by omega⟩) (by first | omega | decide | exact Nat.lt_of_le_of_lt Nat.and_le_right (by decide) | exact ⟨by omega, by omega⟩) (fun c => absurd c (by omega)) (fun c12 => ?_)
  refine wq_go rfl (fun _ => rfl) ?_
  refine wq_getf rfl (by first | rfl | assumption) (by first | decide | omega | assumption) hS.1 rfl ?_
  refine wq_go rfl (fun _ => rfl) ?_
  refine wq_go rfl (fun _ => rfl) ?_
  refine wq_ialdN rfl (by first | rfl | assumption) (by first | decide | omega | assumption) hS.2.2.1 rfl (by omega) (by first | decide | omega) ?_
  refine wq_go rfl (fun _ => rfl) ?_
  refine wq_subN rfl (by omega) ?_
  refine wq_iastN rfl (by first | rfl | assumption) (by first | decide | omega | assumption) hS.2.2.1 rfl (by omega) (by first | decide | omega) ?_
  refine wq_go rfl (fun _ => rfl) ?_
  refine wq_go rfl (fun _ => rfl) ?_
  refine wq_getf rfl (by first | rfl | assumption) (by first | decide | omega | assumption) ((up_ne _ _ (by omega)).trans hS.1) rfl ?_
  refine wq_go rfl (fun _ => rfl) ?_
  refine wq_addN rfl ?_
  refine wq_putf rfl (by first | rfl | assumption) (by first | decide | omega | assumption) ((up_ne _ _ (by omega)).trans hS.1) rfl rfl rfl (by simp) ?_
  refine wq_end rfl (fun _ => rfl) ?_
  exact K _ (fr_up (fr_up (fr_refl (xk k) _) (xk_in (by omega) (by omega))) (xk_in (by omega) (by omega))) ⟨(up_same _ _ _), ((up_ne _ _ (by omega)).trans ((up_ne _ _ (by omega)).trans hS.2.1)), ((up_ne _ _ (by omega)).trans (up_same _ _ _)), ((up_ne _ _ (by omega)).trans ((up_ne _ _ (by omega)).trans hS.2.2.2.1)), ((up_ne _ _ (by omega)).trans ((up_ne _ _ (by omega)).trans hS.2.2.2.2))⟩
theorem c_State_copyFrom {xs : List Int32} {d : Nat} {σ : Nat → List Value} {Q : Option Value → (Nat → List Value) → Prop} {k : Nat} {S : St} (hk : kd k = .inr 7) (hS : StIs σ k S) {k' : Nat} {S' : St} (hk' : kd k' = .inr 7) (hS' : StIs σ k' S') (hn : k ≠ k') (K : ∀ σ', Fr (xk k) σ σ' → StIs σ' k (S') → Q none σ') : Wq xs (d + 0) ax_cd119 0 [(0, .ref k), (1, .ref k')] [] σ Q := by
  obtain ⟨hk1, hk2, hk3, hk4, hk5⟩ := St_k hk
  have hkr := St_rng hk
  obtain ⟨hk1', hk2', hk3', hk4', hk5'⟩ := St_k hk'
  have h2 := St_two hk hk' hn
  refine wq_go rfl (fun _ => rfl) ?_
  refine wq_go rfl (fun _ => rfl) ?_
  refine wq_go rfl (fun _ => rfl) ?_
  refine wq_getf rfl (by first | rfl | assumption) (by first | decide | omega | assumption) hS'.1 rfl ?_
  refine wq_cN (m := 0) rfl rfl ?_
  refine wq_go rfl (fun _ => rfl) ?_
  refine wq_getf rfl (by first | rfl | assumption) (by first | decide | omega | assumption) hS.1 rfl ?_
  refine wq_cN (m := 0) rfl rfl ?_
  refine wq_cN (m := 16) rfl rfl ?_
  refine wq_copy rfl (by first | rfl | assumption) (by first | decide | omega | assumption) hS'.2.1 (by first | rfl | assumption) (by first | decide | omega | assumption) hS.2.1 (by rw [arrN_len]) (by rw [arrN_len, arrN_len]) (by rw [arrN_len]; decide) (by decide) ?_
  refine wq_go rfl (fun _ => rfl) ?_
  refine wq_getf rfl (by first | rfl | assumption) (by first | decide | omega | assumption) ((up_ne _ _ (by omega)).trans hS'.1) rfl ?_
  refine wq_cN (m := 0) rfl rfl ?_
  refine wq_go rfl (fun _ => rfl) ?_
  refine wq_getf rfl (by first | rfl | assumption) (by first | decide | omega | assumption) ((up_ne _ _ (by omega)).trans hS.1) rfl ?_
  refine wq_cN (m := 0) rfl rfl ?_
  refine wq_cN (m := 20) rfl rfl ?_
  refine wq_copy rfl (by first | rfl | assumption) (by first | decide | omega | assumption) ((up_ne _ _ (by omega)).trans hS'.2.2.1) (by first | rfl | assumption) (by first | decide | omega | assumption) ((up_ne _ _ (by omega)).trans hS.2.2.1) (by rw [arrN_len]) (by rw [arrN_len, arrN_len]) (by rw [arrN_len]; decide) (by decide) ?_
  refine wq_go rfl (fun _ => rfl) ?_
  refine wq_getf rfl (by first | rfl | assumption) (by first | decide | omega | assumption) ((up_ne _ _ (by omega)).trans ((up_ne _ _ (by omega)).trans hS'.1)) rfl ?_
  refine wq_cN (m := 0) rfl rfl ?_
  refine wq_go rfl (fun _ => rfl) ?_
  refine wq_getf rfl (by first | rfl | assumption) (by first | decide | omega | assumption) ((up_ne _ _ (by omega)).trans ((up_ne _ _ (by omega)).trans hS.1)) rfl ?_
  refine wq_cN (m := 0) rfl rfl ?_
  refine wq_cN (m := 4) rfl rfl ?_
  refine wq_copy rfl (by first | rfl | assumption) (by first | decide | omega | assumption) ((up_ne _ _ (by omega)).trans ((up_ne _ _ (by omega)).trans hS'.2.2.2.1)) (by first | rfl | assumption) (by first | decide | omega | assumption) ((up_ne _ _ (by omega)).trans ((up_ne _ _ (by omega)).trans hS.2.2.2.1)) (by rw [arrN_len]) (by rw [arrN_len, arrN_len]) (by rw [arrN_len]; decide) (by decide) ?_
  refine wq_go rfl (fun _ => rfl) ?_
  refine wq_getf rfl (by first | rfl | assumption) (by first | decide | omega | assumption) ((up_ne _ _ (by omega)).trans ((up_ne _ _ (by omega)).trans ((up_ne _ _ (by omega)).trans hS'.1))) rfl ?_
  refine wq_cN (m := 0) rfl rfl ?_
  refine wq_go rfl (fun _ => rfl) ?_
  refine wq_getf rfl (by first | rfl | assumption) (by first | decide | omega | assumption) ((up_ne _ _ (by omega)).trans ((up_ne _ _ (by omega)).trans ((up_ne _ _ (by omega)).trans hS.1))) rfl ?_
  refine wq_cN (m := 0) rfl rfl ?_
  refine wq_cN (m := 5) rfl rfl ?_
  refine wq_copy rfl (by first | rfl | assumption) (by first | decide | omega | assumption) ((up_ne _ _ (by omega)).trans ((up_ne _ _ (by omega)).trans ((up_ne _ _ (by omega)).trans hS'.2.2.2.2))) (by first | rfl | assumption) (by first | decide | omega | assumption) ((up_ne _ _ (by omega)).trans ((up_ne _ _ (by omega)).trans ((up_ne _ _ (by omega)).trans hS.2.2.2.2))) (by rw [arrN_len]) (by rw [arrN_len, arrN_len]) (by rw [arrN_len]; decide) (by decide) ?_
  refine wq_go rfl (fun _ => rfl) ?_
  refine wq_go rfl (fun _ => rfl) ?_
  refine wq_getf rfl (by first | rfl | assumption) (by first | decide | omega | assumption) ((up_ne _ _ (by omega)).trans ((up_ne _ _ (by omega)).trans ((up_ne _ _ (by omega)).trans ((up_ne _ _ (by omega)).trans hS'.1)))) rfl ?_
  refine wq_putf rfl (by first | rfl | assumption) (by first | decide | omega | assumption) ((up_ne _ _ (by omega)).trans ((up_ne _ _ (by omega)).trans ((up_ne _ _ (by omega)).trans ((up_ne _ _ (by omega)).trans hS.1)))) rfl rfl rfl (by simp) ?_
  refine wq_go rfl (fun _ => rfl) ?_
  refine wq_go rfl (fun _ => rfl) ?_
  refine wq_getf rfl (by first | rfl | assumption) (by first | decide | omega | assumption) ((up_ne _ _ (by omega)).trans ((up_ne _ _ (by omega)).trans ((up_ne _ _ (by omega)).trans ((up_ne _ _ (by omega)).trans ((up_ne _ _ (by omega)).trans hS'.1))))) rfl ?_
  refine wq_putf rfl (by first | rfl | assumption) (by first | decide | omega | assumption) (up_same _ _ _) rfl rfl rfl (by simp) ?_
  rw [up_up]
  refine wq_go rfl (fun _ => rfl) ?_
  refine wq_go rfl (fun _ => rfl) ?_
  refine wq_getf rfl (by first | rfl | assumption) (by first | decide | omega | assumption) ((up_ne _ _ (by omega)).trans ((up_ne _ _ (by omega)).trans ((up_ne _ _ (by omega)).trans ((up_ne _ _ (by omega)).trans ((up_ne _ _ (by omega)).trans hS'.1))))) rfl ?_
  refine wq_putf rfl (by first | rfl | assumption) (by first | decide | omega | assumption) (up_same _ _ _) rfl rfl rfl (by simp) ?_
  rw [up_up]
  refine wq_go rfl (fun _ => rfl) ?_
  refine wq_go rfl (fun _ => rfl) ?_
  refine wq_getf rfl (by first | rfl | assumption) (by first | decide | omega | assumption) ((up_ne _ _ (by omega)).trans ((up_ne _ _ (by omega)).trans ((up_ne _ _ (by omega)).trans ((up_ne _ _ (by omega)).trans ((up_ne _ _ (by omega)).trans hS'.1))))) rfl ?_
  refine wq_putf rfl (by first | rfl | assumption) (by first | decide | omega | assumption) (up_same _ _ _) rfl rfl rfl (by simp) ?_
  rw [up_up]
  refine wq_end rfl (fun _ => rfl) ?_
  exact K _ (fr_up (fr_up (fr_up (fr_up (fr_up (fr_refl (xk k) _) (xk_in (by omega) (by omega))) (xk_in (by omega) (by omega))) (xk_in (by omega) (by omega))) (xk_in (by omega) (by omega))) (xk_in (by omega) (by omega))) ⟨(up_same _ _ _), ((up_ne _ _ (by omega)).trans ((up_ne _ _ (by omega)).trans ((up_ne _ _ (by omega)).trans ((up_ne _ _ (by omega)).trans (up_same _ _ _))))), ((up_ne _ _ (by omega)).trans ((up_ne _ _ (by omega)).trans ((up_ne _ _ (by omega)).trans (up_same _ _ _)))), ((up_ne _ _ (by omega)).trans ((up_ne _ _ (by omega)).trans (up_same _ _ _))), ((up_ne _ _ (by omega)).trans (up_same _ _ _))⟩
theorem c_clothAll_l {xs : List Int32} {d : Nat} {σ : Nat → List Value} {Q : Option Value → (Nat → List Value) → Prop} {k : Nat} {S : St} (hk : kd k = .inr 7) (hS : StIs σ k S) {c : Nat} (hc : c < 4) (K : Q (some (.int (nI (s4 (Ssq S) (c * 4))))) σ) : ∀ (m u : Nat), m + u = 4 → Wq xs (d + 0) ax_cd107 6 [(3, .int (nI (c * 4 + u))), (2, .int (nI (sumF (fun j => Ssq S (c * 4 + j)) u))), (0, .ref k), (1, .int (nI c))] [] σ Q := by
  obtain ⟨hk1, hk2, hk3, hk4, hk5⟩ := St_k hk
  have hkr := St_rng hk
  intro m
  induction m with
  | zero =>
    intro u hm
    refine wq_go rfl (fun _ => rfl) ?_
    refine wq_go rfl (fun _ => rfl) ?_
    refine wq_cN (m := 4) rfl rfl ?_
    refine wq_mulN rfl ?_
    refine wq_cN (m := 4) rfl rfl ?_
    refine wq_addN rfl ?_
    refine wq_cge rfl (by first | omega | decide | exact Nat.lt_of_le_of_lt Nat.and_le_right (by decide) | exact ⟨by omega, by omega⟩) (by first | omega | decide | exact Nat.lt_of_le_of_lt Nat.and_le_right (by decide) | exact ⟨by omega, by omega⟩) (fun c12 => ?_) (fun c => absurd (show _ from by omega) c)
    refine wq_go rfl (fun _ => rfl) ?_
    refine wq_iret rfl ?_
    rw [show u = 4 by omega]
    exact K
  | succ m ih =>
    intro u hm
    refine wq_go rfl (fun _ => rfl) ?_
    refine wq_go rfl (fun _ => rfl) ?_
    refine wq_cN (m := 4) rfl rfl ?_
    refine wq_mulN rfl ?_
    refine wq_cN (m := 4) rfl rfl ?_
    refine wq_addN rfl ?_
    refine wq_cge rfl (by first | omega | decide | exact Nat.lt_of_le_of_lt Nat.and_le_right (by decide) | exact ⟨by omega, by omega⟩) (by first | omega | decide | exact Nat.lt_of_le_of_lt Nat.and_le_right (by decide) | exact ⟨by omega, by omega⟩) (fun c => absurd c (by omega)) (fun c12 => ?_)
    refine wq_go rfl (fun _ => rfl) ?_
    refine wq_go rfl (fun _ => rfl) ?_
    refine wq_zlt rfl (by first | omega | decide | exact Nat.lt_of_le_of_lt Nat.and_le_right (by decide) | exact ⟨by omega, by omega⟩) (fun c => absurd c (by omega)) (fun c15 => ?_)
    refine wq_go rfl (fun _ => rfl) ?_
    refine wq_go rfl (fun _ => rfl) ?_
    refine wq_getf rfl (by first | rfl | assumption) (by first | decide | omega | assumption) hS.1 rfl ?_
    refine wq_alen rfl (by first | rfl | assumption) (by first | decide | omega | assumption) rfl hS.2.1 (arrN_len _ _) ?_
    refine wq_cge rfl (by first | omega | decide | exact Nat.lt_of_le_of_lt Nat.and_le_right (by decide) | exact ⟨by omega, by omega⟩) (by first | omega | decide | exact Nat.lt_of_le_of_lt Nat.and_le_right (by decide) | exact ⟨by omega, by omega⟩) (fun c => absurd c (by omega)) (fun c20 => ?_)
    refine wq_go rfl (fun _ => rfl) ?_
    refine wq_getf rfl (by first | rfl | assumption) (by first | decide | omega | assumption) hS.1 rfl ?_
    refine wq_go rfl (fun _ => rfl) ?_
    refine wq_ialdN rfl (by first | rfl | assumption) (by first | decide | omega | assumption) hS.2.1 rfl (by omega) (by first | decide | omega) ?_
    refine wq_go rfl (fun _ => rfl) ?_
    refine wq_addN rfl ?_
    refine wq_go rfl (fun _ => rfl) ?_
    refine wq_incN rfl rfl rfl ?_
    refine wq_go rfl (fun _ => rfl) ?_
    exact ih (u + 1) (by omega)
theorem c_State_clothAll {xs : List Int32} {d : Nat} {σ : Nat → List Value} {Q : Option Value → (Nat → List Value) → Prop} {k : Nat} {S : St} (hk : kd k = .inr 7) (hS : StIs σ k S) {c : Nat} (hc : c < 4) (K : Q (some (.int (nI (s4 (Ssq S) (c * 4))))) σ) : Wq xs (d + 0) ax_cd107 0 [(0, .ref k), (1, .int (nI c))] [] σ Q := by
  obtain ⟨hk1, hk2, hk3, hk4, hk5⟩ := St_k hk
  have hkr := St_rng hk
  refine wq_cN (m := 0) rfl rfl ?_
  refine wq_go rfl (fun _ => rfl) ?_
  refine wq_go rfl (fun _ => rfl) ?_
  refine wq_cN (m := 4) rfl rfl ?_
  refine wq_mulN rfl ?_
  refine wq_go rfl (fun _ => rfl) ?_
  exact c_clothAll_l hk hS hc K 4 0 rfl
theorem c_ownAll_l {xs : List Int32} {d : Nat} {σ : Nat → List Value} {Q : Option Value → (Nat → List Value) → Prop} {k : Nat} {S : St} (hk : kd k = .inr 7) (hS : StIs σ k S) {h : Nat} (hc : h < 5) (K : Q (some (.int (nI (s4 (Sow S) (h * 4))))) σ) : ∀ (m u : Nat), m + u = 4 → Wq xs (d + 0) ax_cd116 6 [(3, .int (nI (h * 4 + u))), (2, .int (nI (sumF (fun j => Sow S (h * 4 + j)) u))), (0, .ref k), (1, .int (nI h))] [] σ Q := by
  obtain ⟨hk1, hk2, hk3, hk4, hk5⟩ := St_k hk
  have hkr := St_rng hk
  intro m
  induction m with
  | zero =>
    intro u hm
    refine wq_go rfl (fun _ => rfl) ?_
    refine wq_go rfl (fun _ => rfl) ?_
    refine wq_cN (m := 4) rfl rfl ?_
    refine wq_mulN rfl ?_
    refine wq_cN (m := 4) rfl rfl ?_
    refine wq_addN rfl ?_
    refine wq_cge rfl (by first | omega | decide | exact Nat.lt_of_le_of_lt Nat.and_le_right (by decide) | exact ⟨by omega, by omega⟩) (by first | omega | decide | exact Nat.lt_of_le_of_lt Nat.and_le_right (by decide) | exact ⟨by omega, by omega⟩) (fun c12 => ?_) (fun c => absurd (show _ from by omega) c)
    refine wq_go rfl (fun _ => rfl) ?_
    refine wq_iret rfl ?_
    rw [show u = 4 by omega]
    exact K
  | succ m ih =>
    intro u hm
    refine wq_go rfl (fun _ => rfl) ?_
    refine wq_go rfl (fun _ => rfl) ?_
    refine wq_cN (m := 4) rfl rfl ?_
    refine wq_mulN rfl ?_
    refine wq_cN (m := 4) rfl rfl ?_
    refine wq_addN rfl ?_
    refine wq_cge rfl (by first | omega | decide | exact Nat.lt_of_le_of_lt Nat.and_le_right (by decide) | exact ⟨by omega, by omega⟩) (by first | omega | decide | exact Nat.lt_of_le_of_lt Nat.and_le_right (by decide) | exact ⟨by omega, by omega⟩) (fun c => absurd c (by omega)) (fun c12 => ?_)
    refine wq_go rfl (fun _ => rfl) ?_
    refine wq_go rfl (fun _ => rfl) ?_
    refine wq_zlt rfl (by first | omega | decide | exact Nat.lt_of_le_of_lt Nat.and_le_right (by decide) | exact ⟨by omega, by omega⟩) (fun c => absurd c (by omega)) (fun c15 => ?_)
    refine wq_go rfl (fun _ => rfl) ?_
    refine wq_go rfl (fun _ => rfl) ?_
    refine wq_getf rfl (by first | rfl | assumption) (by first | decide | omega | assumption) hS.1 rfl ?_
    refine wq_alen rfl (by first | rfl | assumption) (by first | decide | omega | assumption) rfl hS.2.2.1 (arrN_len _ _) ?_
    refine wq_cge rfl (by first | omega | decide | exact Nat.lt_of_le_of_lt Nat.and_le_right (by decide) | exact ⟨by omega, by omega⟩) (by first | omega | decide | exact Nat.lt_of_le_of_lt Nat.and_le_right (by decide) | exact ⟨by omega, by omega⟩) (fun c => absurd c (by omega)) (fun c20 => ?_)
    refine wq_go rfl (fun _ => rfl) ?_
    refine wq_getf rfl (by first | rfl | assumption) (by first | decide | omega | assumption) hS.1 rfl ?_
    refine wq_go rfl (fun _ => rfl) ?_
    refine wq_ialdN rfl (by first | rfl | assumption) (by first | decide | omega | assumption) hS.2.2.1 rfl (by omega) (by first | decide | omega) ?_
    refine wq_go rfl (fun _ => rfl) ?_
    refine wq_addN rfl ?_
    refine wq_go rfl (fun _ => rfl) ?_
    refine wq_incN rfl rfl rfl ?_
    refine wq_go rfl (fun _ => rfl) ?_
    exact ih (u + 1) (by omega)
theorem c_State_ownAll {xs : List Int32} {d : Nat} {σ : Nat → List Value} {Q : Option Value → (Nat → List Value) → Prop} {k : Nat} {S : St} (hk : kd k = .inr 7) (hS : StIs σ k S) {h : Nat} (hc : h < 5) (K : Q (some (.int (nI (s4 (Sow S) (h * 4))))) σ) : Wq xs (d + 0) ax_cd116 0 [(0, .ref k), (1, .int (nI h))] [] σ Q := by
  obtain ⟨hk1, hk2, hk3, hk4, hk5⟩ := St_k hk
  have hkr := St_rng hk
  refine wq_cN (m := 0) rfl rfl ?_
  refine wq_go rfl (fun _ => rfl) ?_
  refine wq_go rfl (fun _ => rfl) ?_
  refine wq_cN (m := 4) rfl rfl ?_
  refine wq_mulN rfl ?_
  refine wq_go rfl (fun _ => rfl) ?_
  exact c_ownAll_l hk hS hc K 4 0 rfl
