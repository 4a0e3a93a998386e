/-! THE REFERENCE READS EXPRESSIONS: all of it -/
def yP : Nat → Bool := fun b => b == 12 || b == 44 || b == 48
theorem yO_P : ∀ j, yO j = true → yP j = true := by
  intro j h
  simp only [yO, Bool.or_eq_true] at h
  simp only [yP, Bool.or_eq_true]
  rcases h with h | h
  · exact Or.inl (Or.inr h)
  · exact Or.inr h
theorem mrw_g {B : Bs} {X : Tx} {s t o bn cn nn : Nat} {w : Option (Nat × Nat)} {g : Nat → Int32} {σ σ' : Nat → List Value} {g' : Nat → Int32} {o' cn' : Nat} (h : MrW B X s t o bn cn nn w g σ) (hB : MrB B X s g' σ') (hG : FrG yP g g') (h12 : g' 12 = nI o') (h44 : g' 44 = nI (420 * s + cn')) : MrW B X s t o' bn cn' nn w g' σ' := ⟨hB, (hG 11 rfl).trans (mw_11 h), h12, (hG 13 rfl).trans (mw_13 h), (hG 15 rfl).trans (mw_15 h), fun q e => (hG 16 rfl).trans (mw_16 h q e), (hG 20 rfl).trans (mw_20 h), (hG 38 rfl).trans (mw_38 h), h44, mw_t h, mw_r h, mw_v h⟩
theorem mrf_g {B : Bs} {X : Tx} {s f p bn : Nat} {g : Nat → Int32} {σ σ' : Nat → List Value} {g' : Nat → Int32} (h : MrF B X s f p bn g σ) (hB : MrB B X s g' σ') (h13 : g' 13 = g 13) (h14 : g' 14 = g 14) (h38 : g' 38 = g 38) : MrF B X s f p bn g' σ' := ⟨hB, h13.trans (mf_13 h), mf_0 h, mf_9 h, h14.trans (mf_14 h), h38.trans (mf_38 h)⟩
theorem exc_t {B : Bs} {X : Tx} {s c0 : Nat} {σ0 σ σ' : Nat → List Value} {c : KCode} {W : List Nat} {g g' : Nat → Int32} (h : ExC B X s σ0 c0 c W g σ) (hB : MrB B X s g' σ') (hF : Fr x287 σ σ') (h44 : g' 44 = g 44) (h48 : g' 48 = g 48) : ExC B X s σ0 c0 c W g' σ' := by
  obtain ⟨a1, a2, a3, a4, a5, a6, a7⟩ := h
  refine ⟨hB, fr_trans a2 (fr_mono hF x287_X), h44.trans a3, h48.trans a4, ?_, ?_, fun i hi => ?_⟩
  · rw [ag_fun (hF 319 rfl)]; exact a5
  · rw [brG_eq (hF 312 rfl) (hF 313 rfl) (hF 314 rfl) (hF 315 rfl) (hF 316 rfl) (hF 317 rfl) (hF 318 rfl)]; exact a6
  · rw [ag_eq (hF 317 rfl), ag_eq (hF 318 rfl)]; exact a7 i hi
theorem mkK_v : ∀ k, k ≤ 35 → ((14 ≤ k ∧ k ≤ 22) ↔ (34 ≤ mkK k ∧ mkK k ≤ 42)) := by decide +kernel
theorem mkK_m : ∀ k, k ≤ 35 → 14 ≤ k → k ≤ 22 → mkK k - 34 = k - 14 := by decide +kernel
theorem mkK_o : ∀ k, 27 ≤ k → k ≤ 30 → mkK k = wmk (k - 25) := by
  intro k h1 h2
  rcases (by omega : k = 27 ∨ k = 28 ∨ k = 29 ∨ k = 30) with e | e | e | e <;> subst e <;> rfl
/-! steps of the machine -/
theorem pop_all {W : List Nat} {c : KCode} (hO : okW W) (hc : wfc c 0 (ops W + 1) = true) : ∃ W1 c1, popG false W c = (W1, c1) ∧ popS (popP W c).1 (popP W c).2 = (W1, c1) ∧ okW W1 ∧ noO W1 ∧ opens W1 = opens W ∧ wfc c1 0 (ops W1 + 1) = true ∧ c1.length + ops W1 = c.length + ops W := by
  obtain ⟨p1, p2, p3, p4, p5⟩ := popP_inv hO hc
  obtain ⟨s1, s2, s3, s4, s5⟩ := popS_inv p1 p2 p4
  exact ⟨(popS (popP W c).1 (popP W c).2).1, (popS (popP W c).1 (popP W c).2).2, popG_S hO, rfl, s1, s2, s3.trans p3, s4, s5.trans p5⟩
theorem pop_str {W : List Nat} {c : KCode} (hO : okW W) (hc : wfc c 0 (ops W + 1) = true) : ∃ W1 c1, popG true W c = (W1, c1) ∧ popP W c = (W1, c1) ∧ okW W1 ∧ noP W1 ∧ opens W1 = opens W ∧ wfc c1 0 (ops W1 + 1) = true ∧ c1.length + ops W1 = c.length + ops W := by
  obtain ⟨p1, p2, p3, p4, p5⟩ := popP_inv hO hc
  exact ⟨(popP W c).1, (popP W c).2, popG_P hO, rfl, p1, p2, p3, p4, p5⟩
theorem x_mul {X : Tx} {W W1 : List Nat} {t : Nat} {c c1 : KCode} (h : t < 400) (k : Xk X t = 29 ∨ Xk X t = 30) (e : popP W c = (W1, c1)) : eX X true W t c = eX X false ((Xk X t - 25) :: W1) (t + 1) c1 := by
  rw [e_lt (by omega), mX, if_pos k, adv_y h, bnd_o, e, e_nx h]
theorem x_add {X : Tx} {W W1 : List Nat} {t : Nat} {c c1 : KCode} (h : t < 400) (k : Xk X t = 27 ∨ Xk X t = 28) (e : popS (popP W c).1 (popP W c).2 = (W1, c1)) : eX X true W t c = eX X false ((Xk X t - 25) :: W1) (t + 1) c1 := by
  rw [e_lt (by omega), mX, if_neg (by omega), if_pos k, adv_y h, bnd_o, e, e_nx h]
theorem x_end {X : Tx} {W : List Nat} {t : Nat} {c c1 : KCode} (h : t ≤ 400) (k1 : ¬ (Xk X t = 29 ∨ Xk X t = 30)) (k2 : ¬ (Xk X t = 27 ∨ Xk X t = 28)) (e : popS (popP W c).1 (popP W c).2 = ([], c1)) : eX X true W t c = .inr (t, c1) := by
  rw [e_lt h, mX, if_neg k1, if_neg k2, e]
theorem x_cls {X : Tx} {W W3 : List Nat} {w t : Nat} {c c1 : KCode} (h : t < 400) (k : Xk X t = 33) (e : popS (popP W c).1 (popP W c).2 = (w :: W3, c1)) : eX X true W t c = eX X true W3 (t + 1) c1 := by
  rw [e_lt (by omega), mX, if_neg (by omega), if_neg (by omega), e]
  show bnd (must X 33 t) _ = _
  rw [must_y k h, bnd_o, e_nx h]
theorem x_cls_r {X : Tx} {W W3 : List Nat} {w : Nat} {c c1 : KCode} (k : Xk X 400 = 33) (e : popS (popP W c).1 (popP W c).2 = (w :: W3, c1)) : eX X true W 400 c = er 2 400 := by
  rw [e_lt (by omega), mX, if_neg (by omega), if_neg (by omega), e]
  show bnd (must X 33 400) _ = _
  rw [must_r k, bnd_e]
theorem x_bad {X : Tx} {W W3 : List Nat} {w t : Nat} {c c1 : KCode} (h : t ≤ 400) (k1 : ¬ (Xk X t = 29 ∨ Xk X t = 30)) (k2 : ¬ (Xk X t = 27 ∨ Xk X t = 28)) (k3 : ¬ Xk X t = 33) (e : popS (popP W c).1 (popP W c).2 = (w :: W3, c1)) : eX X true W t c = er 1 t := by
  rw [e_lt h, mX, if_neg k1, if_neg k2, e]
  show bnd (must X 33 t) _ = _
  rw [must_b k3, bnd_e]
/-- what the machine keeps -/
def EI (t0 : Nat) (b : Bool) (W : List Nat) (t : Nat) (c : KCode) : Prop := okW W ∧ opens W ≤ 6 ∧ t0 ≤ t ∧ c.length + ops W ≤ t - t0 ∧ wfc c 0 (ops W + (if b = true then 1 else 0)) = true
theorem ln_eq : ∀ W, W.length = ops W + opens W
  | [] => rfl
  | w :: W => by
    have := ln_eq W
    by_cases h : w = 6
    · subst h; rw [ops_6, opens_6, List.length_cons]; omega
    · rw [ops_n h, opens_n h, List.length_cons]; omega
theorem ei_ln {t0 t : Nat} {b : Bool} {W : List Nat} {c : KCode} (h : EI t0 b W t c) : W.length < 25 ∧ ops W ≤ 14 := by
  have a := (ops_le W h.1).1
  have b := ln_eq W
  have := h.2.1
  omega
theorem m_unit {xs : List Int32} {d : Nat} {σ : Nat → List Value} {Q : Option Value → (Nat → List Value) → Prop} {B : Bs} {X : Tx} {s t o bn nn c0 : Nat} {w : Option (Nat × Nat)} {σ0 : Nat → List Value} {c : KCode} {W : List Nat} {g : Nat → Int32} (hW : MrW B X s t o bn (c0 + c.length) nn w g σ) (hE : ExC B X s σ0 c0 c W g σ) (hb : c0 + c.length < 415) (h32 : ¬ Xk X t = 32)  (K1 : ∀ q g' σ', t < 400 → eX X false W t c = eX X true W (t + 1) (c ++ [q]) → (∀ d, wfc c 0 d = true → d < 16 → wfc (c ++ [q]) 0 (d + 1) = true) → MrW B X s (t + 1) o bn (c0 + (c ++ [q]).length) nn w g' σ' → ExC B X s σ0 c0 (c ++ [q]) W g' σ' → Q none σ') (K0 : ∀ f' g' σ', eX X false W t c = er f' t → Fr xX σ0 σ' → MrF B X s f' (Xp X t) bn g' σ' → Q none σ') : Wq xs (d + 2) ax_cd247 0 [(0, .ref 287)] [] σ Q := by
  have hX := mb_X (mw_b hW)
  have ht := mw_t hW
  have hr := mw_r hW
  have hs2 := mb_2 (mw_b hW)
  have hkt := mkK_le _ (hX.1 t)
  have hpt := hX.2.2.1 t
  by_cases hk : Xk X t = 24
  · skip
    refine wq_go rfl (fun _ => rfl) ?_
    refine wq_cN (m := 2) rfl rfl ?_
    refine wq_callV rfl rfl (by first | rfl | assumption) (by first | decide | omega | assumption) (Nat.le_of_ble_eq_true rfl) (Nat.le_of_ble_eq_true rfl) rfl rfl ?_
    refine m_is hW (k := 24) (by decide)  (fun b1 => ?_) (fun b => absurd b (fun q => q hk))
    refine wq_zeq rfl (by first | omega | decide | exact Nat.lt_of_le_of_lt Nat.and_le_right (by decide) | exact ⟨by omega, by omega⟩) (fun c => absurd c (by omega)) (fun c3 => ?_)
    refine wq_go rfl (fun _ => rfl) ?_
    refine wq_cN (m := 0) rfl rfl ?_
    refine wq_go rfl (fun _ => rfl) ?_
    refine wq_getf rfl (by first | rfl | assumption) (by first | decide | omega | assumption) (mb_o (mw_b hW)) rfl ?_
    refine wq_go rfl (fun _ => rfl) ?_
    refine wq_getf rfl (by first | rfl | assumption) (by first | decide | omega | assumption) (mb_o (mw_b hW)) rfl ?_
    refine wq_top (mw_11 hW :) ?_
    refine wq_iald rfl (by first | rfl | assumption) (by first | decide | omega | assumption) (mb_292 (mw_b hW)) rfl (by omega) (by first | decide | omega) ?_
    refine wq_top (mb_tv (mw_b hW) ht hr hk) ?_
    refine wq_callV rfl rfl (by first | rfl | assumption) (by first | decide | omega | assumption) (Nat.le_of_ble_eq_true rfl) (Nat.le_of_ble_eq_true rfl) rfl rfl ?_
    refine m_emit (k := 0) (v := Xv X t) hE (by omega) (fun g1 σ1 G1 E1 => ?_)
    have W1 : MrW B X s t o bn (c0 + (c ++ [(0, Xv X t)]).length) nn w g1 σ1 := mrw_g hW E1.1 (fg_mono (fg_mono G1 y44_O) yO_P) ((G1 12 rfl).trans (mw_12 hW :)) E1.2.2.1
    refine wq_go rfl (fun _ => rfl) ?_
    refine wq_callV rfl rfl (by first | rfl | assumption) (by first | decide | omega | assumption) (Nat.le_of_ble_eq_true rfl) (Nat.le_of_ble_eq_true rfl) rfl rfl ?_
    refine m_go W1 ⟨by omega, by omega⟩ (fun g2 σ2 h2 F2 G2 W2 => ?_) (fun g2 σ2 h2 F2 G2 W2 => ?_)
    · skip
      refine wq_go rfl (fun _ => rfl) ?_
      refine wq_end rfl (fun _ => rfl) ?_
      exact K1 _ _ _ h2 (u_int h2 hk) (fun d a b => wfc_num a (hX.2.1 t) b) W2 (exc_t E1 (mw_b W2) F2 (G2 44 rfl) (G2 48 rfl))
    · skip
      refine wq_go rfl (fun _ => rfl) ?_
      refine wq_end rfl (fun _ => rfl) ?_
      exact K0 2 _ _ (by subst h2; exact u_room (Or.inl hk)) (fr_trans E1.2.1 (fr_mono F2 x287_X)) W2
  have hk1 := hk
  clear hk
  have hmv := mkK_v _ (hX.1 t)
  by_cases hk : 14 ≤ Xk X t ∧ Xk X t ≤ 22
  · have hmm := mkK_m _ (hX.1 t) hk.1 hk.2
    refine wq_go rfl (fun _ => rfl) ?_
    refine wq_cN (m := 2) rfl rfl ?_
    refine wq_callV rfl rfl (by first | rfl | assumption) (by first | decide | omega | assumption) (Nat.le_of_ble_eq_true rfl) (Nat.le_of_ble_eq_true rfl) rfl rfl ?_
    refine m_is hW (k := 24) (by decide)  (fun b => absurd b (by omega)) (fun b4 => ?_)
    refine wq_zeq rfl (by first | omega | decide | exact Nat.lt_of_le_of_lt Nat.and_le_right (by decide) | exact ⟨by omega, by omega⟩) (fun c3 => ?_) (fun c => absurd (show _ from by omega) c)
    refine wq_go rfl (fun _ => rfl) ?_
    refine wq_getf rfl (by first | rfl | assumption) (by first | decide | omega | assumption) (mb_o (mw_b hW)) rfl ?_
    refine wq_top (mw_13 hW :) ?_
    refine wq_zne rfl (by first | omega | decide | exact Nat.lt_of_le_of_lt Nat.and_le_right (by decide) | exact ⟨by omega, by omega⟩) (fun c => absurd c (by omega)) (fun c17 => ?_)
    refine wq_go rfl (fun _ => rfl) ?_
    refine wq_getf rfl (by first | rfl | assumption) (by first | decide | omega | assumption) (mb_o (mw_b hW)) rfl ?_
    refine wq_go rfl (fun _ => rfl) ?_
    refine wq_getf rfl (by first | rfl | assumption) (by first | decide | omega | assumption) (mb_o (mw_b hW)) rfl ?_
    refine wq_top (mw_11 hW :) ?_
    refine wq_iald rfl (by first | rfl | assumption) (by first | decide | omega | assumption) (mb_290 (mw_b hW)) rfl (by omega) (by first | decide | omega) ?_
    refine wq_top (mw_k hW) ?_
    refine wq_cN (m := 34) rfl rfl ?_
    refine wq_clt rfl (by first | omega | decide | exact Nat.lt_of_le_of_lt Nat.and_le_right (by decide) | exact ⟨by omega, by omega⟩) (by first | omega | decide | exact Nat.lt_of_le_of_lt Nat.and_le_right (by decide) | exact ⟨by omega, by omega⟩) (fun c => absurd c (by omega)) (fun c24 => ?_)
    refine wq_go rfl (fun _ => rfl) ?_
    refine wq_getf rfl (by first | rfl | assumption) (by first | decide | omega | assumption) (mb_o (mw_b hW)) rfl ?_
    refine wq_go rfl (fun _ => rfl) ?_
    refine wq_getf rfl (by first | rfl | assumption) (by first | decide | omega | assumption) (mb_o (mw_b hW)) rfl ?_
    refine wq_top (mw_11 hW :) ?_
    refine wq_iald rfl (by first | rfl | assumption) (by first | decide | omega | assumption) (mb_290 (mw_b hW)) rfl (by omega) (by first | decide | omega) ?_
    refine wq_top (mw_k hW) ?_
    refine wq_cN (m := 42) rfl rfl ?_
    refine wq_cgt rfl (by first | omega | decide | exact Nat.lt_of_le_of_lt Nat.and_le_right (by decide) | exact ⟨by omega, by omega⟩) (by first | omega | decide | exact Nat.lt_of_le_of_lt Nat.and_le_right (by decide) | exact ⟨by omega, by omega⟩) (fun c => absurd c (by omega)) (fun c31 => ?_)
    refine wq_go rfl (fun _ => rfl) ?_
    refine wq_cN (m := 1) rfl rfl ?_
    refine wq_go rfl (fun _ => rfl) ?_
    refine wq_getf rfl (by first | rfl | assumption) (by first | decide | omega | assumption) (mb_o (mw_b hW)) rfl ?_
    refine wq_go rfl (fun _ => rfl) ?_
    refine wq_getf rfl (by first | rfl | assumption) (by first | decide | omega | assumption) (mb_o (mw_b hW)) rfl ?_
    refine wq_top (mw_11 hW :) ?_
    refine wq_iald rfl (by first | rfl | assumption) (by first | decide | omega | assumption) (mb_290 (mw_b hW)) rfl (by omega) (by first | decide | omega) ?_
    refine wq_top (mw_k hW) ?_
    refine wq_cN (m := 34) rfl rfl ?_
    refine wq_subN rfl (by omega) ?_
    rw [hmm]
    refine wq_callV rfl rfl (by first | rfl | assumption) (by first | decide | omega | assumption) (Nat.le_of_ble_eq_true rfl) (Nat.le_of_ble_eq_true rfl) rfl rfl ?_
    refine m_emit (k := 1) (v := Xk X t - 14) hE (by omega) (fun g1 σ1 G1 E1 => ?_)
    have W1 : MrW B X s t o bn (c0 + (c ++ [(1, Xk X t - 14)]).length) nn w g1 σ1 := mrw_g hW E1.1 (fg_mono (fg_mono G1 y44_O) yO_P) ((G1 12 rfl).trans (mw_12 hW :)) E1.2.2.1
    refine wq_go rfl (fun _ => rfl) ?_
    refine wq_callV rfl rfl (by first | rfl | assumption) (by first | decide | omega | assumption) (Nat.le_of_ble_eq_true rfl) (Nat.le_of_ble_eq_true rfl) rfl rfl ?_
    refine m_go W1 ⟨by omega, by omega⟩ (fun g2 σ2 h2 F2 G2 W2 => ?_) (fun g2 σ2 h2 F2 G2 W2 => ?_)
    · skip
      refine wq_go rfl (fun _ => rfl) ?_
      refine wq_end rfl (fun _ => rfl) ?_
      exact K1 _ _ _ h2 (u_var h2 hk) (fun d a b => wfc_var a (by omega) b) W2 (exc_t E1 (mw_b W2) F2 (G2 44 rfl) (G2 48 rfl))
    · skip
      refine wq_go rfl (fun _ => rfl) ?_
      refine wq_end rfl (fun _ => rfl) ?_
      exact K0 2 _ _ (by subst h2; exact u_room (Or.inr (Or.inl hk))) (fr_trans E1.2.1 (fr_mono F2 x287_X)) W2
  have hk2 := hk
  clear hk
  refine wq_go rfl (fun _ => rfl) ?_
  refine wq_cN (m := 2) rfl rfl ?_
  refine wq_callV rfl rfl (by first | rfl | assumption) (by first | decide | omega | assumption) (Nat.le_of_ble_eq_true rfl) (Nat.le_of_ble_eq_true rfl) rfl rfl ?_
  refine m_is hW (k := 24) (by decide)  (fun b => absurd b (by omega)) (fun b7 => ?_)
  refine wq_zeq rfl (by first | omega | decide | exact Nat.lt_of_le_of_lt Nat.and_le_right (by decide) | exact ⟨by omega, by omega⟩) (fun c3 => ?_) (fun c => absurd (show _ from by omega) c)
  refine wq_go rfl (fun _ => rfl) ?_
  refine wq_getf rfl (by first | rfl | assumption) (by first | decide | omega | assumption) (mb_o (mw_b hW)) rfl ?_
  refine wq_top (mw_13 hW :) ?_
  refine wq_zne rfl (by first | omega | decide | exact Nat.lt_of_le_of_lt Nat.and_le_right (by decide) | exact ⟨by omega, by omega⟩) (fun c => absurd c (by omega)) (fun c17 => ?_)
  refine wq_go rfl (fun _ => rfl) ?_
  refine wq_getf rfl (by first | rfl | assumption) (by first | decide | omega | assumption) (mb_o (mw_b hW)) rfl ?_
  refine wq_go rfl (fun _ => rfl) ?_
  refine wq_getf rfl (by first | rfl | assumption) (by first | decide | omega | assumption) (mb_o (mw_b hW)) rfl ?_
  refine wq_top (mw_11 hW :) ?_
  refine wq_iald rfl (by first | rfl | assumption) (by first | decide | omega | assumption) (mb_290 (mw_b hW)) rfl (by omega) (by first | decide | omega) ?_
  refine wq_top (mw_k hW) ?_
  refine wq_cN (m := 34) rfl rfl ?_
  refine wq_clt rfl (by first | omega | decide | exact Nat.lt_of_le_of_lt Nat.and_le_right (by decide) | exact ⟨by omega, by omega⟩) (by first | omega | decide | exact Nat.lt_of_le_of_lt Nat.and_le_right (by decide) | exact ⟨by omega, by omega⟩) (fun c24 => ?_) (fun c24 => ?_)
  · skip
    refine wq_go rfl (fun _ => rfl) ?_
    refine wq_cN (m := 1) rfl rfl ?_
    refine wq_callV rfl rfl (by first | rfl | assumption) (by first | decide | omega | assumption) (Nat.le_of_ble_eq_true rfl) (Nat.le_of_ble_eq_true rfl) rfl rfl ?_
    refine m_fail hW (k := 1) (by decide) (fun g2 σ2 F2 G2 W2 => ?_)
    refine wq_end rfl (fun _ => rfl) ?_
    exact K0 1 _ _ (u_bad ht hk1 hk2 h32) (fr_trans hE.2.1 (fr_mono F2 x287_X)) W2
  · skip
    refine wq_go rfl (fun _ => rfl) ?_
    refine wq_getf rfl (by first | rfl | assumption) (by first | decide | omega | assumption) (mb_o (mw_b hW)) rfl ?_
    refine wq_go rfl (fun _ => rfl) ?_
    refine wq_getf rfl (by first | rfl | assumption) (by first | decide | omega | assumption) (mb_o (mw_b hW)) rfl ?_
    refine wq_top (mw_11 hW :) ?_
    refine wq_iald rfl (by first | rfl | assumption) (by first | decide | omega | assumption) (mb_290 (mw_b hW)) rfl (by omega) (by first | decide | omega) ?_
    refine wq_top (mw_k hW) ?_
    refine wq_cN (m := 42) rfl rfl ?_
    refine wq_cgt rfl (by first | omega | decide | exact Nat.lt_of_le_of_lt Nat.and_le_right (by decide) | exact ⟨by omega, by omega⟩) (by first | omega | decide | exact Nat.lt_of_le_of_lt Nat.and_le_right (by decide) | exact ⟨by omega, by omega⟩) (fun c31 => ?_) (fun c => absurd (show _ from by omega) c)
    refine wq_go rfl (fun _ => rfl) ?_
    refine wq_cN (m := 1) rfl rfl ?_
    refine wq_callV rfl rfl (by first | rfl | assumption) (by first | decide | omega | assumption) (Nat.le_of_ble_eq_true rfl) (Nat.le_of_ble_eq_true rfl) rfl rfl ?_
    refine m_fail hW (k := 1) (by decide) (fun g2 σ2 F2 G2 W2 => ?_)
    refine wq_end rfl (fun _ => rfl) ?_
    exact K0 1 _ _ (u_bad ht hk1 hk2 h32) (fr_trans hE.2.1 (fr_mono F2 x287_X)) W2
theorem m_unit_e {xs : List Int32} {d : Nat} {σ : Nat → List Value} {Q : Option Value → (Nat → List Value) → Prop} {B : Bs} {X : Tx} {s f p bn : Nat} {g : Nat → Int32} (hF : MrF B X s f p bn g σ)  (K : Q none σ) : Wq xs (d + 2) ax_cd247 0 [(0, .ref 287)] [] σ Q := by
  have hs2 := mb_2 (mf_b hF)
  have hf0 := mf_0 hF
  have hf9 := mf_9 hF
  refine wq_go rfl (fun _ => rfl) ?_
  refine wq_cN (m := 2) rfl rfl ?_
  refine wq_callV rfl rfl (by first | rfl | assumption) (by first | decide | omega | assumption) (Nat.le_of_ble_eq_true rfl) (Nat.le_of_ble_eq_true rfl) rfl rfl ?_
  refine m_is_e hF ?_
  refine wq_zeq rfl (by first | omega | decide | exact Nat.lt_of_le_of_lt Nat.and_le_right (by decide) | exact ⟨by omega, by omega⟩) (fun c3 => ?_) (fun c => absurd (show _ from by omega) c)
  refine wq_go rfl (fun _ => rfl) ?_
  refine wq_getf rfl (by first | rfl | assumption) (by first | decide | omega | assumption) (mb_o (mf_b hF)) rfl ?_
  refine wq_top (mf_13 hF :) ?_
  refine wq_zne rfl (by first | omega | decide | exact Nat.lt_of_le_of_lt Nat.and_le_right (by decide) | exact ⟨by omega, by omega⟩) (fun c17 => ?_) (fun c => absurd (show _ from by omega) c)
  refine wq_go rfl (fun _ => rfl) ?_
  refine wq_cN (m := 1) rfl rfl ?_
  refine wq_callV rfl rfl (by first | rfl | assumption) (by first | decide | omega | assumption) (Nat.le_of_ble_eq_true rfl) (Nat.le_of_ble_eq_true rfl) rfl rfl ?_
  refine m_fail_e hF ?_
  refine wq_end rfl (fun _ => rfl) ?_
  exact K
theorem m_go_e {xs : List Int32} {d : Nat} {σ : Nat → List Value} {Q : Option Value → (Nat → List Value) → Prop} {B : Bs} {X : Tx} {s f p bn : Nat} {g : Nat → Int32} (hF : MrF B X s f p bn g σ) {t : Nat} (h11 : g 11 = nI t) (ht : t ≤ 400)  (K : ∀ g' σ', Fr x287 σ σ' → FrG y11 g g' → MrF B X s f p bn g' σ' → Q none σ') : Wq xs (d + 1) ax_cd236 0 [(0, .ref 287)] [] σ Q := by
  have hs2 := mb_2 (mf_b hF)
  have hf0 := mf_0 hF
  have hf9 := mf_9 hF
  refine wq_go rfl (fun _ => rfl) ?_
  refine wq_getf rfl (by first | rfl | assumption) (by first | decide | omega | assumption) (mb_o (mf_b hF)) rfl ?_
  refine wq_top h11 ?_
  refine wq_cN (m := 400) rfl rfl ?_
  refine wq_cne rfl (by first | omega | decide | exact Nat.lt_of_le_of_lt Nat.and_le_right (by decide) | exact ⟨by omega, by omega⟩) (by first | omega | decide | exact Nat.lt_of_le_of_lt Nat.and_le_right (by decide) | exact ⟨by omega, by omega⟩) (fun c3 => ?_) (fun c3 => ?_)
  · skip
    refine wq_go rfl (fun _ => rfl) ?_
    refine wq_go rfl (fun _ => rfl) ?_
    refine wq_getf rfl (by first | rfl | assumption) (by first | decide | omega | assumption) (mb_o (mf_b hF)) rfl ?_
    refine wq_top h11 ?_
    refine wq_cN (m := 1) rfl rfl ?_
    refine wq_addN rfl ?_
    refine wq_mput rfl (mb_o (mf_b hF)) rfl rfl rfl rfl ?_
    refine wq_end rfl (fun _ => rfl) ?_
    first | exact K _ _ (fr_refl _ _) (fg_refl _ _) hF | exact K _ _ (fr_up (fr_refl _ _) rfl) (fg_up (fg_refl _ _) rfl) (mrf_g hF (mrb_o (mf_b hF) (fg_up (fg_refl _ _) rfl)) rfl rfl rfl)
  · skip
    refine wq_go rfl (fun _ => rfl) ?_
    refine wq_cN (m := 2) rfl rfl ?_
    refine wq_callV rfl rfl (by first | rfl | assumption) (by first | decide | omega | assumption) (Nat.le_of_ble_eq_true rfl) (Nat.le_of_ble_eq_true rfl) rfl rfl ?_
    refine m_fail_e hF ?_
    refine wq_go rfl (fun _ => rfl) ?_
    refine wq_end rfl (fun _ => rfl) ?_
    first | exact K _ _ (fr_refl _ _) (fg_refl _ _) hF | exact K _ _ (fr_up (fr_refl _ _) rfl) (fg_up (fg_refl _ _) rfl) (mrf_g hF (mrb_o (mf_b hF) (fg_up (fg_refl _ _) rfl)) rfl rfl rfl)
theorem m_ex_e {xs : List Int32} {d : Nat} {σ : Nat → List Value} {Q : Option Value → (Nat → List Value) → Prop} {B : Bs} {X : Tx} {s f p bn : Nat} {g : Nat → Int32} (hF : MrF B X s f p bn g σ) {x12 : Int32} (h12 : g 12 = x12)  (K : ∀ g' σ', Fr xX σ σ' → MrF B X s f p bn g' σ' → Q none σ') : Wq xs (d + 3) ax_cd246 0 [(0, .ref 287)] [] σ Q := by
  have hs2 := mb_2 (mf_b hF)
  have hf0 := mf_0 hF
  have hf9 := mf_9 hF
  refine wq_go rfl (fun _ => rfl) ?_
  refine wq_cN (m := 0) rfl rfl ?_
  refine wq_mput rfl (mb_o (mf_b hF)) rfl rfl rfl rfl ?_
  refine wq_go rfl (fun _ => rfl) ?_
  refine wq_getf rfl (by first | rfl | assumption) (by first | decide | omega | assumption) (up_same _ _ _) rfl ?_
  refine wq_go rfl (fun _ => rfl) ?_
  refine wq_cN (m := 1) rfl rfl ?_
  refine wq_go rfl (fun _ => rfl) ?_
  refine wq_go rfl (fun _ => rfl) ?_
  refine wq_zeq rfl (by first | omega | decide | exact Nat.lt_of_le_of_lt Nat.and_le_right (by decide) | exact ⟨by omega, by omega⟩) (fun c => absurd c (by omega)) (fun c9 => ?_)
  refine wq_go rfl (fun _ => rfl) ?_
  refine wq_getf rfl (by first | rfl | assumption) (by first | decide | omega | assumption) (up_same _ _ _) rfl ?_
  refine wq_top (mf_13 hF :) ?_
  refine wq_zne rfl (by first | omega | decide | exact Nat.lt_of_le_of_lt Nat.and_le_right (by decide) | exact ⟨by omega, by omega⟩) (fun c12 => ?_) (fun c => absurd (show _ from by omega) c)
  refine wq_end rfl (fun _ => rfl) ?_
  exact K _ _ (fr_up (fr_refl _ _) rfl) (mrf_g hF (mrb_o (mf_b hF) (fg_up (fg_refl _ _) rfl)) rfl rfl rfl)
theorem m_ex13_e {xs : List Int32} {d : Nat} {σ : Nat → List Value} {Q : Option Value → (Nat → List Value) → Prop} {B : Bs} {X : Tx} {s f p bn : Nat} {g : Nat → Int32} (hF : MrF B X s f p bn g σ) (K : Q none σ) : Wq xs (d + 3) ax_cd246 13 [(2, .int (nI 1)), (1, .int (nI 0)), (0, .ref 287)] [] σ Q := by
  have hs2 := mb_2 (mf_b hF)
  have hf0 := mf_0 hF
  have hf9 := mf_9 hF
  refine wq_go rfl (fun _ => rfl) ?_
  refine wq_cN (m := 6) rfl rfl ?_
  refine wq_callV rfl rfl (by first | rfl | assumption) (by first | decide | omega | assumption) (Nat.le_of_ble_eq_true rfl) (Nat.le_of_ble_eq_true rfl) rfl rfl ?_
  refine m_is_e hF ?_
  refine wq_zeq rfl (by first | omega | decide | exact Nat.lt_of_le_of_lt Nat.and_le_right (by decide) | exact ⟨by omega, by omega⟩) (fun c16 => ?_) (fun c => absurd (show _ from by omega) c)
  refine wq_go rfl (fun _ => rfl) ?_
  refine wq_callV rfl rfl (by first | rfl | assumption) (by first | decide | omega | assumption) (Nat.le_of_ble_eq_true rfl) (Nat.le_of_ble_eq_true rfl) rfl rfl ?_
  refine m_unit_e hF ?_
  refine wq_go rfl (fun _ => rfl) ?_
  refine wq_getf rfl (by first | rfl | assumption) (by first | decide | omega | assumption) (mb_o (mf_b hF)) rfl ?_
  refine wq_top (mf_13 hF :) ?_
  refine wq_zle rfl (by first | omega | decide | exact Nat.lt_of_le_of_lt Nat.and_le_right (by decide) | exact ⟨by omega, by omega⟩) (fun c => absurd c (by omega)) (fun c49 => ?_)
  refine wq_end rfl (fun _ => rfl) ?_
  exact K
theorem m_ex51_e {xs : List Int32} {d : Nat} {σ : Nat → List Value} {Q : Option Value → (Nat → List Value) → Prop} {B : Bs} {X : Tx} {s f p bn c0 o : Nat} {σ0 : Nat → List Value} {c : KCode} {W : List Nat} {g : Nat → Int32} (hF : MrF B X s f p bn g σ) (hE : ExC B X s σ0 c0 c W g σ) (hO : okW W) (hl : W.length < 60) (hb : c0 + c.length + ops W < 415) (h12 : g 12 = nI o) (ho : o < 10) (K : ∀ g' σ', Fr xX σ0 σ' → MrF B X s f p bn g' σ' → Q none σ') : Wq xs (d + 3) ax_cd246 51 [(2, .int (nI 1)), (1, .int (nI 0)), (0, .ref 287)] [] σ Q := by
  have hs2 := mb_2 (mf_b hF)
  have hf0 := mf_0 hF
  have hf9 := mf_9 hF
  refine wq_go rfl (fun _ => rfl) ?_
  refine wq_cN (m := 7) rfl rfl ?_
  refine wq_callV rfl rfl (by first | rfl | assumption) (by first | decide | omega | assumption) (Nat.le_of_ble_eq_true rfl) (Nat.le_of_ble_eq_true rfl) rfl rfl ?_
  refine m_is_e hF ?_
  refine wq_zeq rfl (by first | omega | decide | exact Nat.lt_of_le_of_lt Nat.and_le_right (by decide) | exact ⟨by omega, by omega⟩) (fun c54 => ?_) (fun c => absurd (show _ from by omega) c)
  refine wq_go rfl (fun _ => rfl) ?_
  refine wq_cN (m := 8) rfl rfl ?_
  refine wq_callV rfl rfl (by first | rfl | assumption) (by first | decide | omega | assumption) (Nat.le_of_ble_eq_true rfl) (Nat.le_of_ble_eq_true rfl) rfl rfl ?_
  refine m_is_e hF ?_
  refine wq_zne rfl (by first | omega | decide | exact Nat.lt_of_le_of_lt Nat.and_le_right (by decide) | exact ⟨by omega, by omega⟩) (fun c => absurd c (by omega)) (fun c80 => ?_)
  refine wq_go rfl (fun _ => rfl) ?_
  refine wq_cN (m := 9) rfl rfl ?_
  refine wq_callV rfl rfl (by first | rfl | assumption) (by first | decide | omega | assumption) (Nat.le_of_ble_eq_true rfl) (Nat.le_of_ble_eq_true rfl) rfl rfl ?_
  refine m_is_e hF ?_
  refine wq_zne rfl (by first | omega | decide | exact Nat.lt_of_le_of_lt Nat.and_le_right (by decide) | exact ⟨by omega, by omega⟩) (fun c => absurd c (by omega)) (fun c84 => ?_)
  refine wq_go rfl (fun _ => rfl) ?_
  refine wq_cN (m := 10) rfl rfl ?_
  refine wq_callV rfl rfl (by first | rfl | assumption) (by first | decide | omega | assumption) (Nat.le_of_ble_eq_true rfl) (Nat.le_of_ble_eq_true rfl) rfl rfl ?_
  refine m_is_e hF ?_
  refine wq_zne rfl (by first | omega | decide | exact Nat.lt_of_le_of_lt Nat.and_le_right (by decide) | exact ⟨by omega, by omega⟩) (fun c => absurd c (by omega)) (fun c88 => ?_)
  refine wq_go rfl (fun _ => rfl) ?_
  refine wq_cN (m := 15) rfl rfl ?_
  refine wq_callV rfl rfl (by first | rfl | assumption) (by first | decide | omega | assumption) (Nat.le_of_ble_eq_true rfl) (Nat.le_of_ble_eq_true rfl) rfl rfl ?_
  refine m_is_e hF ?_
  refine wq_zeq rfl (by first | omega | decide | exact Nat.lt_of_le_of_lt Nat.and_le_right (by decide) | exact ⟨by omega, by omega⟩) (fun c92 => ?_) (fun c => absurd (show _ from by omega) c)
  refine wq_cN (m := 0) rfl rfl ?_
  refine wq_go rfl (fun _ => rfl) ?_
  refine wq_go rfl (fun _ => rfl) ?_
  refine wq_zne rfl (by first | omega | decide | exact Nat.lt_of_le_of_lt Nat.and_le_right (by decide) | exact ⟨by omega, by omega⟩) (fun c => absurd c (by omega)) (fun c98 => ?_)
  refine wq_go rfl (fun _ => rfl) ?_
  refine wq_getf rfl (by first | rfl | assumption) (by first | decide | omega | assumption) (mb_o (mf_b hF)) rfl ?_
  refine wq_top h12 ?_
  refine wq_go rfl (fun _ => rfl) ?_
  refine wq_cle rfl (by first | omega | decide | exact Nat.lt_of_le_of_lt Nat.and_le_right (by decide) | exact ⟨by omega, by omega⟩) (by first | omega | decide | exact Nat.lt_of_le_of_lt Nat.and_le_right (by decide) | exact ⟨by omega, by omega⟩) (fun c102 => ?_) (fun c102 => ?_)
  · skip
    refine wq_go rfl (fun _ => rfl) ?_
    refine wq_cN (m := 0) rfl rfl ?_
    refine wq_callV rfl rfl (by first | rfl | assumption) (by first | decide | omega | assumption) (Nat.le_of_ble_eq_true rfl) (Nat.le_of_ble_eq_true rfl) rfl rfl ?_
    refine m_out0 W c g σ hO hl hb hE (fun g2 σ2 G2 E2 => ?_)
    refine wq_end rfl (fun _ => rfl) ?_
    exact K g2 σ2 E2.2.1 (mrf_g hF E2.1 (G2 13 rfl) (G2 14 rfl) (G2 38 rfl))
  · skip
    refine wq_go rfl (fun _ => rfl) ?_
    refine wq_cN (m := 1) rfl rfl ?_
    refine wq_callV rfl rfl (by first | rfl | assumption) (by first | decide | omega | assumption) (Nat.le_of_ble_eq_true rfl) (Nat.le_of_ble_eq_true rfl) rfl rfl ?_
    refine m_fail_e hF ?_
    refine wq_go rfl (fun _ => rfl) ?_
    refine wq_cN (m := 0) rfl rfl ?_
    refine wq_callV rfl rfl (by first | rfl | assumption) (by first | decide | omega | assumption) (Nat.le_of_ble_eq_true rfl) (Nat.le_of_ble_eq_true rfl) rfl rfl ?_
    refine m_out0 W c g σ hO hl hb hE (fun g2 σ2 G2 E2 => ?_)
    refine wq_end rfl (fun _ => rfl) ?_
    exact K g2 σ2 E2.2.1 (mrf_g hF E2.1 (G2 13 rfl) (G2 14 rfl) (G2 38 rfl))
theorem m_ex_l {xs : List Int32} {d : Nat} {Q : Option Value → (Nat → List Value) → Prop} {B : Bs} {X : Tx} {s t0 bn nn c0 : Nat} {w : Option (Nat × Nat)} {σ0 : Nat → List Value} (hc0 : c0 ≤ t0) (K1 : ∀ t' c' g' σ', exX X t0 = .inr (t', c') → Fr xX σ0 σ' → MrW B X s t' 0 bn (c0 + c'.length) nn w g' σ' → mcode (brG σ') (420 * s + c0) c' → (∀ i, i < 420 * s + c0 → ag σ' 317 i = ag σ0 317 i ∧ ag σ' 318 i = ag σ0 318 i) → Q none σ') (K0 : ∀ f' p' g' σ', exX X t0 = er f' p' → Fr xX σ0 σ' → MrF B X s f' (Xp X p') bn g' σ' → Q none σ') : ∀ n, (∀ (W : List Nat) (t : Nat) (c : KCode) (g : Nat → Int32) (σ : Nat → List Value), 401 ≤ n + t → EI t0 false W t c → MrW B X s t (opens W) bn (c0 + c.length) nn w g σ → ExC B X s σ0 c0 c W g σ → exX X t0 = eX X false W t c → Wq xs (d + 3) ax_cd246 13 [(2, .int (nI 1)), (1, .int (nI 0)), (0, .ref 287)] [] σ Q) ∧ (∀ (W : List Nat) (t : Nat) (c : KCode) (g : Nat → Int32) (σ : Nat → List Value), 401 ≤ n + t → EI t0 true W t c → MrW B X s t (opens W) bn (c0 + c.length) nn w g σ → ExC B X s σ0 c0 c W g σ → exX X t0 = eX X true W t c → Wq xs (d + 3) ax_cd246 51 [(2, .int (nI 1)), (1, .int (nI 0)), (0, .ref 287)] [] σ Q) := by
  intro n
  induction n with
  | zero =>
    refine ⟨fun W t c g σ h hI hW => ?_, fun W t c g σ h hI hW => ?_⟩
    · have := mw_t hW; omega
    · have := mw_t hW; omega
  | succ n ih =>
    refine ⟨fun W t c g σ hn hI hW hE hR => ?_, fun W t c g σ hn hI hW hE hR => ?_⟩
    · skip
      have hX := mb_X (mw_b hW)
      have ht := mw_t hW
      have hr := mw_r hW
      have hs2 := mb_2 (mw_b hW)
      have hkt := mkK_le _ (hX.1 t)
      have hpt := hX.2.2.1 t
      have hln := ei_ln hI
      have hI3 := hI.2.2.1
      have hI4 := hI.2.2.2.1
      have hI2 := hI.2.1
      refine wq_go rfl (fun _ => rfl) ?_
      refine wq_cN (m := 6) rfl rfl ?_
      refine wq_callV rfl rfl (by first | rfl | assumption) (by first | decide | omega | assumption) (Nat.le_of_ble_eq_true rfl) (Nat.le_of_ble_eq_true rfl) rfl rfl ?_
      refine m_is hW (k := 32) (by decide)  (fun ei => ?_) (fun ei => ?_)
      · skip
        refine wq_zeq rfl (by first | omega | decide | exact Nat.lt_of_le_of_lt Nat.and_le_right (by decide) | exact ⟨by omega, by omega⟩) (fun c => absurd c (by omega)) (fun c16 => ?_)
        refine wq_go rfl (fun _ => rfl) ?_
        refine wq_getf rfl (by first | rfl | assumption) (by first | decide | omega | assumption) (mb_o (mw_b hW)) rfl ?_
        refine wq_top (mw_12 hW :) ?_
        refine wq_cN (m := 6) rfl rfl ?_
        by_cases ho : opens W = 6
        · skip
          refine wq_cne rfl (by first | omega | decide | exact Nat.lt_of_le_of_lt Nat.and_le_right (by decide) | exact ⟨by omega, by omega⟩) (by first | omega | decide | exact Nat.lt_of_le_of_lt Nat.and_le_right (by decide) | exact ⟨by omega, by omega⟩) (fun c => absurd c (by omega)) (fun c20 => ?_)
          refine wq_go rfl (fun _ => rfl) ?_
          refine wq_cN (m := 2) rfl rfl ?_
          refine wq_callV rfl rfl (by first | rfl | assumption) (by first | decide | omega | assumption) (Nat.le_of_ble_eq_true rfl) (Nat.le_of_ble_eq_true rfl) rfl rfl ?_
          refine m_fail hW (k := 2) (by decide) (fun g2 σ2 F2 G2 W2 => ?_)
          refine wq_go rfl (fun _ => rfl) ?_
          refine wq_go rfl (fun _ => rfl) ?_
          refine wq_getf rfl (by first | rfl | assumption) (by first | decide | omega | assumption) (mb_o (mf_b W2)) rfl ?_
          refine wq_top ((G2 12 rfl).trans (mw_12 hW :)) ?_
          refine wq_cN (m := 1) rfl rfl ?_
          refine wq_addN rfl ?_
          refine wq_mput rfl (mb_o (mf_b W2)) rfl rfl rfl rfl ?_
          refine wq_go rfl (fun _ => rfl) ?_
          refine wq_callV rfl rfl (by first | rfl | assumption) (by first | decide | omega | assumption) (Nat.le_of_ble_eq_true rfl) (Nat.le_of_ble_eq_true rfl) rfl rfl ?_
          have W3 := mrf_g W2 (mrb_o (mf_b W2) (fg_up (b := 12) (x := nI (opens W + 1)) (fg_refl _ _) rfl)) rfl rfl rfl
          refine m_go_e (t := t) W3 ((G2 11 rfl).trans (mw_11 hW :)) ht (fun g4 σ4 F4 G4 W4 => ?_)
          refine wq_go rfl (fun _ => rfl) ?_
          refine wq_getf rfl (by first | rfl | assumption) (by first | decide | omega | assumption) (mb_o (mf_b W4)) rfl ?_
          refine wq_go rfl (fun _ => rfl) ?_
          refine wq_getf rfl (by first | rfl | assumption) (by first | decide | omega | assumption) (mb_o (mf_b W4)) rfl ?_
          refine wq_top ((G4 48 rfl).trans ((G2 48 rfl).trans hE.2.2.2.1)) ?_
          refine wq_cN (m := 6) rfl rfl ?_
          refine wq_iast rfl (by first | rfl | assumption) (by first | decide | omega | assumption) (mb_a (mf_b W4) (by decide) : IsA σ4 319 64) rfl (by omega) (by first | decide | omega) ?_
          refine wq_go rfl (fun _ => rfl) ?_
          refine wq_go rfl (fun _ => rfl) ?_
          refine wq_getf rfl (by first | rfl | assumption) (by first | decide | omega | assumption) ((up_ne _ _ (by decide)).trans (mb_o (mf_b W4))) rfl ?_
          refine wq_top ((G4 48 rfl).trans ((G2 48 rfl).trans hE.2.2.2.1)) ?_
          refine wq_cN (m := 1) rfl rfl ?_
          refine wq_addN rfl ?_
          refine wq_mput rfl ((up_ne _ _ (by decide)).trans (mb_o (mf_b W4))) rfl rfl rfl rfl ?_
          refine wq_go rfl (fun _ => rfl) ?_
          exact wq_lv ⟨(by decide : ([2, 1, 0] : List Nat).Nodup), (lvm (List.mem_of_getElem? (i := 0) rfl) (lvm (List.mem_of_getElem? (i := 1) rfl) (lvm (List.mem_of_getElem? (i := 2) rfl) lvn)))⟩ (m_ex13_e (mrf_g W4 (mrb_o (mrb_n (mf_b W4) (by decide) (Or.inr rfl)) (fg_up (fg_refl _ _) rfl)) rfl rfl rfl) (K0 _ _ _ _ (hR.trans (u_deep ht ei (by omega))) (fr_up (fr_up (fr_trans (fr_up (fr_trans hE.2.1 (fr_mono F2 x287_X)) rfl) (fr_mono F4 x287_X)) rfl) rfl) (mrf_g W4 (mrb_o (mrb_n (mf_b W4) (by decide) (Or.inr rfl)) (fg_up (fg_refl _ _) rfl)) rfl rfl rfl)))
        refine wq_cne rfl (by first | omega | decide | exact Nat.lt_of_le_of_lt Nat.and_le_right (by decide) | exact ⟨by omega, by omega⟩) (by first | omega | decide | exact Nat.lt_of_le_of_lt Nat.and_le_right (by decide) | exact ⟨by omega, by omega⟩) (fun c20 => ?_) (fun c => absurd (show _ from by omega) c)
        refine wq_go rfl (fun _ => rfl) ?_
        refine wq_go rfl (fun _ => rfl) ?_
        refine wq_getf rfl (by first | rfl | assumption) (by first | decide | omega | assumption) (mb_o (mw_b hW)) rfl ?_
        refine wq_top (mw_12 hW :) ?_
        refine wq_cN (m := 1) rfl rfl ?_
        refine wq_addN rfl ?_
        refine wq_mput rfl (mb_o (mw_b hW)) rfl rfl rfl rfl ?_
        refine wq_go rfl (fun _ => rfl) ?_
        refine wq_callV rfl rfl (by first | rfl | assumption) (by first | decide | omega | assumption) (Nat.le_of_ble_eq_true rfl) (Nat.le_of_ble_eq_true rfl) rfl rfl ?_
        have hopn : opens W < 6 := by omega
        have W3 : MrW B X s t (opens W + 1) bn (c0 + c.length) nn w (upd g 12 (nI (opens W + 1))) (up σ 287 (mo (upd g 12 (nI (opens W + 1))))) := mrw_g hW (mrb_o (mw_b hW) (fg_up (fg_refl _ _) rfl)) (fg_up (fg_refl _ _) rfl) rfl (mw_44 hW :)
        refine m_go W3 ⟨by omega, by omega⟩ (fun g4 σ4 h4 F4 G4 W4 => ?_) (fun g4 σ4 h4 F4 G4 W4 => ?_)
        · skip
          refine wq_go rfl (fun _ => rfl) ?_
          refine wq_getf rfl (by first | rfl | assumption) (by first | decide | omega | assumption) (mb_o (mw_b W4)) rfl ?_
          refine wq_go rfl (fun _ => rfl) ?_
          refine wq_getf rfl (by first | rfl | assumption) (by first | decide | omega | assumption) (mb_o (mw_b W4)) rfl ?_
          refine wq_top ((G4 48 rfl).trans hE.2.2.2.1) ?_
          refine wq_cN (m := 6) rfl rfl ?_
          refine wq_iast rfl (by first | rfl | assumption) (by first | decide | omega | assumption) (mb_a (mw_b W4) (by decide) : IsA σ4 319 64) rfl (by omega) (by first | decide | omega) ?_
          refine wq_go rfl (fun _ => rfl) ?_
          refine wq_go rfl (fun _ => rfl) ?_
          refine wq_getf rfl (by first | rfl | assumption) (by first | decide | omega | assumption) ((up_ne _ _ (by decide)).trans (mb_o (mw_b W4))) rfl ?_
          refine wq_top ((G4 48 rfl).trans hE.2.2.2.1) ?_
          refine wq_cN (m := 1) rfl rfl ?_
          refine wq_addN rfl ?_
          refine wq_mput rfl ((up_ne _ _ (by decide)).trans (mb_o (mw_b W4))) rfl rfl rfl rfl ?_
          refine wq_go rfl (fun _ => rfl) ?_
          have E4 := exc_t (exc_o (W' := W) hE (fg_up (b := 12) (x := nI (opens W + 1)) (fg_refl _ _) rfl) rfl hE.2.2.2.1 hE.2.2.2.2.1) (mw_b W4) F4 (G4 44 rfl) (G4 48 rfl)
          have E5 := exc_w (w := 6) (g' := upd g4 48 (nI (W.length + 1))) E4 (by omega) (show nI 6 = nI (wmk 6) from rfl) (fg_up (fg_refl _ _) rfl) rfl rfl
          exact wq_lv ⟨(by decide : ([2, 1, 0] : List Nat).Nodup), (lvm (List.mem_of_getElem? (i := 0) rfl) (lvm (List.mem_of_getElem? (i := 1) rfl) (lvm (List.mem_of_getElem? (i := 2) rfl) lvn)))⟩ (ih.1 (6 :: W) (t + 1) c _ _ (by omega) ⟨⟨hI.1, Or.inl rfl⟩, by rw [opens_6]; omega, by omega, by rw [ops_6]; omega, by rw [ops_6]; exact hI.2.2.2.2⟩ (by rw [opens_6]; exact mrw_g W4 E5.1 (fg_up (fg_refl _ _) rfl) (mw_12 W4 :) (mw_44 W4 :)) E5 (hR.trans (u_opn h4 ei hopn)))
        · skip
          refine wq_go rfl (fun _ => rfl) ?_
          refine wq_getf rfl (by first | rfl | assumption) (by first | decide | omega | assumption) (mb_o (mf_b W4)) rfl ?_
          refine wq_go rfl (fun _ => rfl) ?_
          refine wq_getf rfl (by first | rfl | assumption) (by first | decide | omega | assumption) (mb_o (mf_b W4)) rfl ?_
          refine wq_top ((G4 48 rfl).trans hE.2.2.2.1) ?_
          refine wq_cN (m := 6) rfl rfl ?_
          refine wq_iast rfl (by first | rfl | assumption) (by first | decide | omega | assumption) (mb_a (mf_b W4) (by decide) : IsA σ4 319 64) rfl (by omega) (by first | decide | omega) ?_
          refine wq_go rfl (fun _ => rfl) ?_
          refine wq_go rfl (fun _ => rfl) ?_
          refine wq_getf rfl (by first | rfl | assumption) (by first | decide | omega | assumption) ((up_ne _ _ (by decide)).trans (mb_o (mf_b W4))) rfl ?_
          refine wq_top ((G4 48 rfl).trans hE.2.2.2.1) ?_
          refine wq_cN (m := 1) rfl rfl ?_
          refine wq_addN rfl ?_
          refine wq_mput rfl ((up_ne _ _ (by decide)).trans (mb_o (mf_b W4))) rfl rfl rfl rfl ?_
          refine wq_go rfl (fun _ => rfl) ?_
          exact wq_lv ⟨(by decide : ([2, 1, 0] : List Nat).Nodup), (lvm (List.mem_of_getElem? (i := 0) rfl) (lvm (List.mem_of_getElem? (i := 1) rfl) (lvm (List.mem_of_getElem? (i := 2) rfl) lvn)))⟩ (m_ex13_e (mrf_g W4 (mrb_o (mrb_n (mf_b W4) (by decide) (Or.inr rfl)) (fg_up (fg_refl _ _) rfl)) rfl rfl rfl) (K0 _ _ _ _ (hR.trans (by subst h4; exact u_room (Or.inr (Or.inr ei)))) (fr_up (fr_up (fr_trans (fr_up hE.2.1 rfl) (fr_mono F4 x287_X)) rfl) rfl) (mrf_g W4 (mrb_o (mrb_n (mf_b W4) (by decide) (Or.inr rfl)) (fg_up (fg_refl _ _) rfl)) rfl rfl rfl)))
      · skip
        refine wq_zeq rfl (by first | omega | decide | exact Nat.lt_of_le_of_lt Nat.and_le_right (by decide) | exact ⟨by omega, by omega⟩) (fun c16 => ?_) (fun c => absurd (show _ from by omega) c)
        refine wq_go rfl (fun _ => rfl) ?_
        refine wq_callV rfl rfl (by first | rfl | assumption) (by first | decide | omega | assumption) (Nat.le_of_ble_eq_true rfl) (Nat.le_of_ble_eq_true rfl) rfl rfl ?_
        refine m_unit hW hE (by omega) ei (fun q g2 σ2 h2 e2 f2 W2 E2 => ?_) (fun f' g2 σ2 e2 F2 W2 => ?_)
        · skip
          refine wq_go rfl (fun _ => rfl) ?_
          refine wq_getf rfl (by first | rfl | assumption) (by first | decide | omega | assumption) (mb_o (mw_b W2)) rfl ?_
          refine wq_top (mw_13 W2 :) ?_
          refine wq_zle rfl (by first | omega | decide | exact Nat.lt_of_le_of_lt Nat.and_le_right (by decide) | exact ⟨by omega, by omega⟩) (fun c49 => ?_) (fun c => absurd (show _ from by omega) c)
          exact wq_lv ⟨(by decide : ([2, 1, 0] : List Nat).Nodup), (lvm (List.mem_of_getElem? (i := 0) rfl) (lvm (List.mem_of_getElem? (i := 1) rfl) (lvm (List.mem_of_getElem? (i := 2) rfl) lvn)))⟩ (ih.2 W (t + 1) (c ++ [q]) g2 σ2 (by omega) ⟨hI.1, hI2, by omega, by simp only [List.length_append, List.length_cons, List.length_nil]; omega, f2 _ hI.2.2.2.2 (by omega)⟩ W2 E2 (hR.trans e2))
        · skip
          have hf0 := mf_0 W2
          have hf9 := mf_9 W2
          refine wq_go rfl (fun _ => rfl) ?_
          refine wq_getf rfl (by first | rfl | assumption) (by first | decide | omega | assumption) (mb_o (mf_b W2)) rfl ?_
          refine wq_top (mf_13 W2 :) ?_
          refine wq_zle rfl (by first | omega | decide | exact Nat.lt_of_le_of_lt Nat.and_le_right (by decide) | exact ⟨by omega, by omega⟩) (fun c => absurd c (by omega)) (fun c49 => ?_)
          refine wq_end rfl (fun _ => rfl) ?_
          exact K0 f' _ _ _ (hR.trans e2) F2 W2
    · skip
      have hX := mb_X (mw_b hW)
      have ht := mw_t hW
      have hr := mw_r hW
      have hs2 := mb_2 (mw_b hW)
      have hkt := mkK_le _ (hX.1 t)
      have hpt := hX.2.2.1 t
      have hln := ei_ln hI
      have hI3 := hI.2.2.1
      have hI4 := hI.2.2.2.1
      have hI2 := hI.2.1
      refine wq_go rfl (fun _ => rfl) ?_
      refine wq_cN (m := 7) rfl rfl ?_
      refine wq_callV rfl rfl (by first | rfl | assumption) (by first | decide | omega | assumption) (Nat.le_of_ble_eq_true rfl) (Nat.le_of_ble_eq_true rfl) rfl rfl ?_
      refine m_is hW (k := 33) (by decide)  (fun ec => ?_) (fun ec => ?_)
      · skip
        refine wq_zeq rfl (by first | omega | decide | exact Nat.lt_of_le_of_lt Nat.and_le_right (by decide) | exact ⟨by omega, by omega⟩) (fun c => absurd c (by omega)) (fun c54 => ?_)
        refine wq_go rfl (fun _ => rfl) ?_
        refine wq_getf rfl (by first | rfl | assumption) (by first | decide | omega | assumption) (mb_o (mw_b hW)) rfl ?_
        refine wq_top (mw_12 hW :) ?_
        refine wq_go rfl (fun _ => rfl) ?_
        by_cases ho : opens W = 0
        · skip
          refine wq_cle rfl (by first | omega | decide | exact Nat.lt_of_le_of_lt Nat.and_le_right (by decide) | exact ⟨by omega, by omega⟩) (by first | omega | decide | exact Nat.lt_of_le_of_lt Nat.and_le_right (by decide) | exact ⟨by omega, by omega⟩) (fun c58 => ?_) (fun c => absurd (show _ from by omega) c)
          have hn1 : ¬ (Xk X t = 29 ∨ Xk X t = 30) := by omega
          have hn2 : ¬ (Xk X t = 27 ∨ Xk X t = 28) := by omega
          obtain ⟨W1, c1, q1, q2, q3, q4, q5, q6, q7⟩ := pop_all hI.1 hI.2.2.2.2
          refine wq_go rfl (fun _ => rfl) ?_
          refine wq_cN (m := 8) rfl rfl ?_
          refine wq_callV rfl rfl (by first | rfl | assumption) (by first | decide | omega | assumption) (Nat.le_of_ble_eq_true rfl) (Nat.le_of_ble_eq_true rfl) rfl rfl ?_
          refine m_is hW (k := 27) (by decide)  (fun b => absurd b (by omega)) (fun b2 => ?_)
          refine wq_zne rfl (by first | omega | decide | exact Nat.lt_of_le_of_lt Nat.and_le_right (by decide) | exact ⟨by omega, by omega⟩) (fun c => absurd c (by omega)) (fun c80 => ?_)
          refine wq_go rfl (fun _ => rfl) ?_
          refine wq_cN (m := 9) rfl rfl ?_
          refine wq_callV rfl rfl (by first | rfl | assumption) (by first | decide | omega | assumption) (Nat.le_of_ble_eq_true rfl) (Nat.le_of_ble_eq_true rfl) rfl rfl ?_
          refine m_is hW (k := 28) (by decide)  (fun b => absurd b (by omega)) (fun b3 => ?_)
          refine wq_zne rfl (by first | omega | decide | exact Nat.lt_of_le_of_lt Nat.and_le_right (by decide) | exact ⟨by omega, by omega⟩) (fun c => absurd c (by omega)) (fun c84 => ?_)
          refine wq_go rfl (fun _ => rfl) ?_
          refine wq_cN (m := 10) rfl rfl ?_
          refine wq_callV rfl rfl (by first | rfl | assumption) (by first | decide | omega | assumption) (Nat.le_of_ble_eq_true rfl) (Nat.le_of_ble_eq_true rfl) rfl rfl ?_
          refine m_is hW (k := 29) (by decide)  (fun b => absurd b (by omega)) (fun b4 => ?_)
          refine wq_zne rfl (by first | omega | decide | exact Nat.lt_of_le_of_lt Nat.and_le_right (by decide) | exact ⟨by omega, by omega⟩) (fun c => absurd c (by omega)) (fun c88 => ?_)
          refine wq_go rfl (fun _ => rfl) ?_
          refine wq_cN (m := 15) rfl rfl ?_
          refine wq_callV rfl rfl (by first | rfl | assumption) (by first | decide | omega | assumption) (Nat.le_of_ble_eq_true rfl) (Nat.le_of_ble_eq_true rfl) rfl rfl ?_
          refine m_is hW (k := 30) (by decide)  (fun b => absurd b (by omega)) (fun b5 => ?_)
          refine wq_zeq rfl (by first | omega | decide | exact Nat.lt_of_le_of_lt Nat.and_le_right (by decide) | exact ⟨by omega, by omega⟩) (fun c92 => ?_) (fun c => absurd (show _ from by omega) c)
          refine wq_cN (m := 0) rfl rfl ?_
          refine wq_go rfl (fun _ => rfl) ?_
          refine wq_go rfl (fun _ => rfl) ?_
          refine wq_zne rfl (by first | omega | decide | exact Nat.lt_of_le_of_lt Nat.and_le_right (by decide) | exact ⟨by omega, by omega⟩) (fun c => absurd c (by omega)) (fun c98 => ?_)
          refine wq_go rfl (fun _ => rfl) ?_
          refine wq_getf rfl (by first | rfl | assumption) (by first | decide | omega | assumption) (mb_o (mw_b hW)) rfl ?_
          refine wq_top (mw_12 hW :) ?_
          refine wq_go rfl (fun _ => rfl) ?_
          refine wq_cle rfl (by first | omega | decide | exact Nat.lt_of_le_of_lt Nat.and_le_right (by decide) | exact ⟨by omega, by omega⟩) (by first | omega | decide | exact Nat.lt_of_le_of_lt Nat.and_le_right (by decide) | exact ⟨by omega, by omega⟩) (fun c102 => ?_) (fun c => absurd (show _ from by omega) c)
          refine wq_go rfl (fun _ => rfl) ?_
          refine wq_cN (m := 0) rfl rfl ?_
          refine wq_callV rfl rfl (by first | rfl | assumption) (by first | decide | omega | assumption) (Nat.le_of_ble_eq_true rfl) (Nat.le_of_ble_eq_true rfl) rfl rfl ?_
          refine m_out0 W c g σ hI.1 (by omega) (by omega) hE (fun g4 σ4 G4 E4 => ?_)
          rw [q1] at E4
          have E4 : ExC B X s σ0 c0 c1 W1 g4 σ4 := E4
          have hlw := ln_eq W1
          have hlo := (ops_le W1 q3).1
          refine wq_end rfl (fun _ => rfl) ?_
          cases W1 with
          | cons w1 W3 =>
            have := q4 w1 W3 rfl
            subst this
            rw [opens_6] at q5
            omega
          | nil => exact K1 t c1 g4 σ4 (hR.trans (x_end ht hn1 hn2 q2)) E4.2.1 (mrw_g hW E4.1 (fg_mono G4 yO_P) ((G4 12 rfl).trans ((mw_12 hW :).trans (by rw [ho]))) E4.2.2.1) E4.2.2.2.2.2.1 E4.2.2.2.2.2.2
        obtain ⟨W1, c1, q1, q2, q3, q4, q5, q6, q7⟩ := pop_all hI.1 hI.2.2.2.2
        have hW1 : ∃ W3, W1 = 6 :: W3 := by
          cases W1 with
          | nil => exact absurd q5 (fun e => ho e.symm)
          | cons w1 W3 => exact ⟨W3, by rw [q4 w1 W3 rfl]⟩
        obtain ⟨W3, e3⟩ := hW1
        subst e3
        rw [opens_6] at q5
        rw [ops_6] at q6 q7
        refine wq_cle rfl (by first | omega | decide | exact Nat.lt_of_le_of_lt Nat.and_le_right (by decide) | exact ⟨by omega, by omega⟩) (by first | omega | decide | exact Nat.lt_of_le_of_lt Nat.and_le_right (by decide) | exact ⟨by omega, by omega⟩) (fun c => absurd c (by omega)) (fun c58 => ?_)
        refine wq_go rfl (fun _ => rfl) ?_
        refine wq_cN (m := 0) rfl rfl ?_
        refine wq_callV rfl rfl (by first | rfl | assumption) (by first | decide | omega | assumption) (Nat.le_of_ble_eq_true rfl) (Nat.le_of_ble_eq_true rfl) rfl rfl ?_
        refine m_out0 W c g σ hI.1 (by omega) (by omega) hE (fun g4 σ4 G4 E4 => ?_)
        rw [q1] at E4
        have E4 : ExC B X s σ0 c0 c1 (6 :: W3) g4 σ4 := E4
        refine wq_go rfl (fun _ => rfl) ?_
        refine wq_go rfl (fun _ => rfl) ?_
        refine wq_getf rfl (by first | rfl | assumption) (by first | decide | omega | assumption) (mb_o E4.1) rfl ?_
        refine wq_top (show g4 48 = nI (W3.length + 1) from E4.2.2.2.1) ?_
        refine wq_cN (m := 1) rfl rfl ?_
        refine wq_subN rfl (by omega) ?_
        refine wq_mput rfl (mb_o E4.1) rfl rfl rfl rfl ?_
        refine wq_go rfl (fun _ => rfl) ?_
        refine wq_go rfl (fun _ => rfl) ?_
        refine wq_getf rfl (by first | rfl | assumption) (by first | decide | omega | assumption) (up_same _ _ _) rfl ?_
        refine wq_top ((G4 12 rfl).trans (mw_12 hW :)) ?_
        refine wq_cN (m := 1) rfl rfl ?_
        refine wq_subN rfl (by omega) ?_
        refine wq_mput rfl (up_same _ _ _) rfl rfl rfl rfl ?_
        rw [up_up]
        refine wq_go rfl (fun _ => rfl) ?_
        refine wq_callV rfl rfl (by first | rfl | assumption) (by first | decide | omega | assumption) (Nat.le_of_ble_eq_true rfl) (Nat.le_of_ble_eq_true rfl) rfl rfl ?_
        have E5 := exc_o (W' := W3) (g' := upd (upd g4 48 (nI W3.length)) 12 (nI (opens W - 1))) E4 (fg_up (fg_up (fg_refl _ _) rfl) rfl) rfl rfl E4.2.2.2.2.1.2
        have W5 : MrW B X s t (opens W3) bn (c0 + c1.length) nn w (upd (upd g4 48 (nI W3.length)) 12 (nI (opens W - 1))) (up σ4 287 (mo (upd (upd g4 48 (nI W3.length)) 12 (nI (opens W - 1))))) := mrw_g hW E5.1 (fg_up (fg_up (fg_mono G4 yO_P) rfl) rfl) (by show nI (opens W - 1) = nI (opens W3); congr 1; omega) E5.2.2.1
        refine m_go W5 ⟨by omega, by omega⟩ (fun g6 σ6 h6 F6 G6 W6 => ?_) (fun g6 σ6 h6 F6 G6 W6 => ?_)
        · skip
          refine wq_go rfl (fun _ => rfl) ?_
          exact wq_lv ⟨(by decide : ([2, 1, 0] : List Nat).Nodup), (lvm (List.mem_of_getElem? (i := 0) rfl) (lvm (List.mem_of_getElem? (i := 1) rfl) (lvm (List.mem_of_getElem? (i := 2) rfl) lvn)))⟩ (ih.2 W3 (t + 1) c1 g6 σ6 (by omega) ⟨q3.1, by omega, by omega, by omega, q6⟩ W6 (exc_t E5 (mw_b W6) F6 (G6 44 rfl) (G6 48 rfl)) (hR.trans (x_cls h6 ec q2)))
        · skip
          refine wq_go rfl (fun _ => rfl) ?_
          have hl3 := ln_eq W3
          have hl4 := (ops_le W3 q3.1).1
          exact wq_lv ⟨(by decide : ([2, 1, 0] : List Nat).Nodup), (lvm (List.mem_of_getElem? (i := 0) rfl) (lvm (List.mem_of_getElem? (i := 1) rfl) (lvm (List.mem_of_getElem? (i := 2) rfl) lvn)))⟩ (m_ex51_e (o := opens W3) W6 (exc_t E5 (mf_b W6) F6 (G6 44 rfl) (G6 48 rfl)) q3.1 (by omega) (by omega) ((G6 12 rfl).trans (mw_12 W5 :)) (by omega) (fun g' σ' F W => K0 2 t g' σ' (hR.trans (by subst h6; exact x_cls_r ec q2)) F W))
      · skip
        refine wq_zeq rfl (by first | omega | decide | exact Nat.lt_of_le_of_lt Nat.and_le_right (by decide) | exact ⟨by omega, by omega⟩) (fun c54 => ?_) (fun c => absurd (show _ from by omega) c)
        by_cases hk : Xk X t = 29
        · obtain ⟨W1, c1, q1, q2, q3, q4, q5, q6, q7⟩ := pop_str hI.1 hI.2.2.2.2
          refine wq_go rfl (fun _ => rfl) ?_
          refine wq_cN (m := 8) rfl rfl ?_
          refine wq_callV rfl rfl (by first | rfl | assumption) (by first | decide | omega | assumption) (Nat.le_of_ble_eq_true rfl) (Nat.le_of_ble_eq_true rfl) rfl rfl ?_
          refine m_is hW (k := 27) (by decide)  (fun b => absurd b (by omega)) (fun b9 => ?_)
          refine wq_zne rfl (by first | omega | decide | exact Nat.lt_of_le_of_lt Nat.and_le_right (by decide) | exact ⟨by omega, by omega⟩) (fun c => absurd c (by omega)) (fun c80 => ?_)
          refine wq_go rfl (fun _ => rfl) ?_
          refine wq_cN (m := 9) rfl rfl ?_
          refine wq_callV rfl rfl (by first | rfl | assumption) (by first | decide | omega | assumption) (Nat.le_of_ble_eq_true rfl) (Nat.le_of_ble_eq_true rfl) rfl rfl ?_
          refine m_is hW (k := 28) (by decide)  (fun b => absurd b (by omega)) (fun b10 => ?_)
          refine wq_zne rfl (by first | omega | decide | exact Nat.lt_of_le_of_lt Nat.and_le_right (by decide) | exact ⟨by omega, by omega⟩) (fun c => absurd c (by omega)) (fun c84 => ?_)
          refine wq_go rfl (fun _ => rfl) ?_
          refine wq_cN (m := 10) rfl rfl ?_
          refine wq_callV rfl rfl (by first | rfl | assumption) (by first | decide | omega | assumption) (Nat.le_of_ble_eq_true rfl) (Nat.le_of_ble_eq_true rfl) rfl rfl ?_
          refine m_is hW (k := 29) (by decide)  (fun b11 => ?_) (fun b => absurd b (fun q => q hk))
          refine wq_zne rfl (by first | omega | decide | exact Nat.lt_of_le_of_lt Nat.and_le_right (by decide) | exact ⟨by omega, by omega⟩) (fun c88 => ?_) (fun c => absurd (show _ from by omega) c)
          refine wq_cN (m := 1) rfl rfl ?_
          refine wq_go rfl (fun _ => rfl) ?_
          refine wq_go rfl (fun _ => rfl) ?_
          refine wq_go rfl (fun _ => rfl) ?_
          refine wq_zne rfl (by first | omega | decide | exact Nat.lt_of_le_of_lt Nat.and_le_right (by decide) | exact ⟨by omega, by omega⟩) (fun c98 => ?_) (fun c => absurd (show _ from by omega) c)
          refine wq_go rfl (fun _ => rfl) ?_
          refine wq_go rfl (fun _ => rfl) ?_
          refine wq_cN (m := 10) rfl rfl ?_
          refine wq_callV rfl rfl (by first | rfl | assumption) (by first | decide | omega | assumption) (Nat.le_of_ble_eq_true rfl) (Nat.le_of_ble_eq_true rfl) rfl rfl ?_
          refine m_is hW (k := 29) (by decide)  (fun b12 => ?_) (fun b => absurd b (fun q => q hk))
          refine wq_zne rfl (by first | omega | decide | exact Nat.lt_of_le_of_lt Nat.and_le_right (by decide) | exact ⟨by omega, by omega⟩) (fun c114 => ?_) (fun c => absurd (show _ from by omega) c)
          refine wq_cN (m := 1) rfl rfl ?_
          refine wq_go rfl (fun _ => rfl) ?_
          refine wq_callV rfl rfl (by first | rfl | assumption) (by first | decide | omega | assumption) (Nat.le_of_ble_eq_true rfl) (Nat.le_of_ble_eq_true rfl) rfl rfl ?_
          refine m_out1 W c g σ hI.1 (by omega) (by omega) hE (fun g4 σ4 G4 E4 => ?_)
          rw [q1] at E4
          have E4 : ExC B X s σ0 c0 c1 W1 g4 σ4 := E4
          have hlw := ln_eq W1
          have hlo := (ops_le W1 q3).1
          refine wq_go rfl (fun _ => rfl) ?_
          refine wq_getf rfl (by first | rfl | assumption) (by first | decide | omega | assumption) (mb_o E4.1) rfl ?_
          refine wq_go rfl (fun _ => rfl) ?_
          refine wq_getf rfl (by first | rfl | assumption) (by first | decide | omega | assumption) (mb_o E4.1) rfl ?_
          refine wq_top E4.2.2.2.1 ?_
          refine wq_go rfl (fun _ => rfl) ?_
          refine wq_getf rfl (by first | rfl | assumption) (by first | decide | omega | assumption) (mb_o E4.1) rfl ?_
          refine wq_go rfl (fun _ => rfl) ?_
          refine wq_getf rfl (by first | rfl | assumption) (by first | decide | omega | assumption) (mb_o E4.1) rfl ?_
          refine wq_top ((G4 11 rfl).trans (mw_11 hW :)) ?_
          refine wq_iald rfl (by first | rfl | assumption) (by first | decide | omega | assumption) (mb_290 E4.1) rfl (by omega) (by first | decide | omega) ?_
          refine wq_top ((ag_eq (E4.2.1 290 rfl) t).trans ((ag_eq (hE.2.1 290 rfl) t).symm.trans (mw_k hW))) ?_
          refine wq_iast rfl (by first | rfl | assumption) (by first | decide | omega | assumption) (mb_a E4.1 (by decide) : IsA σ4 319 64) rfl (by omega) (by first | decide | omega) ?_
          refine wq_go rfl (fun _ => rfl) ?_
          refine wq_go rfl (fun _ => rfl) ?_
          refine wq_getf rfl (by first | rfl | assumption) (by first | decide | omega | assumption) ((up_ne _ _ (by decide)).trans (mb_o E4.1)) rfl ?_
          refine wq_top E4.2.2.2.1 ?_
          refine wq_cN (m := 1) rfl rfl ?_
          refine wq_addN rfl ?_
          refine wq_mput rfl ((up_ne _ _ (by decide)).trans (mb_o E4.1)) rfl rfl rfl rfl ?_
          refine wq_go rfl (fun _ => rfl) ?_
          refine wq_callV rfl rfl (by first | rfl | assumption) (by first | decide | omega | assumption) (Nat.le_of_ble_eq_true rfl) (Nat.le_of_ble_eq_true rfl) rfl rfl ?_
          have hk6 : ¬ Xk X t - 25 = 6 := by omega
          have E5 := exc_w (w := Xk X t - 25) (g' := upd g4 48 (nI (W1.length + 1))) E4 (by omega) (show nI (mkK (Xk X t)) = nI (wmk (Xk X t - 25)) by rw [mkK_o _ (by omega) (by omega)]) (fg_up (fg_refl _ _) rfl) rfl rfl
          have W5 := mrw_g hW E5.1 (fg_up (b := 48) (x := nI (W1.length + 1)) (fg_mono G4 yO_P) rfl) ((G4 12 rfl).trans (mw_12 hW :)) E5.2.2.1
          refine m_go W5 ⟨by omega, by omega⟩ (fun g6 σ6 h6 F6 G6 W6 => ?_) (fun g6 σ6 h6 F6 G6 W6 => ?_)
          · skip
            refine wq_go rfl (fun _ => rfl) ?_
            refine wq_go rfl (fun _ => rfl) ?_
            refine wq_zeq rfl (by first | omega | decide | exact Nat.lt_of_le_of_lt Nat.and_le_right (by decide) | exact ⟨by omega, by omega⟩) (fun c => absurd c (by omega)) (fun c9 => ?_)
            refine wq_go rfl (fun _ => rfl) ?_
            refine wq_getf rfl (by first | rfl | assumption) (by first | decide | omega | assumption) (mb_o (mw_b W6)) rfl ?_
            refine wq_top (mw_13 W6 :) ?_
            refine wq_zne rfl (by first | omega | decide | exact Nat.lt_of_le_of_lt Nat.and_le_right (by decide) | exact ⟨by omega, by omega⟩) (fun c => absurd c (by omega)) (fun c12 => ?_)
            exact wq_lv ⟨(by decide : ([2, 1, 0] : List Nat).Nodup), (lvm (List.mem_of_getElem? (i := 0) rfl) (lvm (List.mem_of_getElem? (i := 1) rfl) (lvm (List.mem_of_getElem? (i := 2) rfl) lvn)))⟩ (ih.1 ((Xk X t - 25) :: W1) (t + 1) c1 g6 σ6 (by omega) ⟨⟨q3, Or.inr (Or.inr ⟨by unfold opP; omega, q4⟩)⟩, by rw [opens_n hk6]; omega, by omega, by rw [ops_n hk6]; omega, by rw [ops_n hk6]; exact q6⟩ (by rw [opens_n hk6, q5]; exact W6) (exc_t E5 (mw_b W6) F6 (G6 44 rfl) (G6 48 rfl)) (hR.trans (x_mul h6 (Or.inl hk) q2)))
          · skip
            have hf0 := mf_0 W6
            have hf9 := mf_9 W6
            refine wq_go rfl (fun _ => rfl) ?_
            refine wq_go rfl (fun _ => rfl) ?_
            refine wq_zeq rfl (by first | omega | decide | exact Nat.lt_of_le_of_lt Nat.and_le_right (by decide) | exact ⟨by omega, by omega⟩) (fun c => absurd c (by omega)) (fun c9 => ?_)
            refine wq_go rfl (fun _ => rfl) ?_
            refine wq_getf rfl (by first | rfl | assumption) (by first | decide | omega | assumption) (mb_o (mf_b W6)) rfl ?_
            refine wq_top (mf_13 W6 :) ?_
            refine wq_zne rfl (by first | omega | decide | exact Nat.lt_of_le_of_lt Nat.and_le_right (by decide) | exact ⟨by omega, by omega⟩) (fun c12 => ?_) (fun c => absurd (show _ from by omega) c)
            refine wq_end rfl (fun _ => rfl) ?_
            exact K0 2 t _ _ (hR.trans (by subst h6; exact d_mul_r (Or.inl hk))) (fr_trans E5.2.1 (fr_mono F6 x287_X)) W6
        have hn29 := hk
        clear hk
        by_cases hk : Xk X t = 30
        · obtain ⟨W1, c1, q1, q2, q3, q4, q5, q6, q7⟩ := pop_str hI.1 hI.2.2.2.2
          refine wq_go rfl (fun _ => rfl) ?_
          refine wq_cN (m := 8) rfl rfl ?_
          refine wq_callV rfl rfl (by first | rfl | assumption) (by first | decide | omega | assumption) (Nat.le_of_ble_eq_true rfl) (Nat.le_of_ble_eq_true rfl) rfl rfl ?_
          refine m_is hW (k := 27) (by decide)  (fun b => absurd b (by omega)) (fun b15 => ?_)
          refine wq_zne rfl (by first | omega | decide | exact Nat.lt_of_le_of_lt Nat.and_le_right (by decide) | exact ⟨by omega, by omega⟩) (fun c => absurd c (by omega)) (fun c80 => ?_)
          refine wq_go rfl (fun _ => rfl) ?_
          refine wq_cN (m := 9) rfl rfl ?_
          refine wq_callV rfl rfl (by first | rfl | assumption) (by first | decide | omega | assumption) (Nat.le_of_ble_eq_true rfl) (Nat.le_of_ble_eq_true rfl) rfl rfl ?_
          refine m_is hW (k := 28) (by decide)  (fun b => absurd b (by omega)) (fun b16 => ?_)
          refine wq_zne rfl (by first | omega | decide | exact Nat.lt_of_le_of_lt Nat.and_le_right (by decide) | exact ⟨by omega, by omega⟩) (fun c => absurd c (by omega)) (fun c84 => ?_)
          refine wq_go rfl (fun _ => rfl) ?_
          refine wq_cN (m := 10) rfl rfl ?_
          refine wq_callV rfl rfl (by first | rfl | assumption) (by first | decide | omega | assumption) (Nat.le_of_ble_eq_true rfl) (Nat.le_of_ble_eq_true rfl) rfl rfl ?_
          refine m_is hW (k := 29) (by decide)  (fun b => absurd b (by omega)) (fun b17 => ?_)
          refine wq_zne rfl (by first | omega | decide | exact Nat.lt_of_le_of_lt Nat.and_le_right (by decide) | exact ⟨by omega, by omega⟩) (fun c => absurd c (by omega)) (fun c88 => ?_)
          refine wq_go rfl (fun _ => rfl) ?_
          refine wq_cN (m := 15) rfl rfl ?_
          refine wq_callV rfl rfl (by first | rfl | assumption) (by first | decide | omega | assumption) (Nat.le_of_ble_eq_true rfl) (Nat.le_of_ble_eq_true rfl) rfl rfl ?_
          refine m_is hW (k := 30) (by decide)  (fun b18 => ?_) (fun b => absurd b (fun q => q hk))
          refine wq_zeq rfl (by first | omega | decide | exact Nat.lt_of_le_of_lt Nat.and_le_right (by decide) | exact ⟨by omega, by omega⟩) (fun c => absurd c (by omega)) (fun c92 => ?_)
          refine wq_cN (m := 1) rfl rfl ?_
          refine wq_go rfl (fun _ => rfl) ?_
          refine wq_go rfl (fun _ => rfl) ?_
          refine wq_go rfl (fun _ => rfl) ?_
          refine wq_zne rfl (by first | omega | decide | exact Nat.lt_of_le_of_lt Nat.and_le_right (by decide) | exact ⟨by omega, by omega⟩) (fun c98 => ?_) (fun c => absurd (show _ from by omega) c)
          refine wq_go rfl (fun _ => rfl) ?_
          refine wq_go rfl (fun _ => rfl) ?_
          refine wq_cN (m := 10) rfl rfl ?_
          refine wq_callV rfl rfl (by first | rfl | assumption) (by first | decide | omega | assumption) (Nat.le_of_ble_eq_true rfl) (Nat.le_of_ble_eq_true rfl) rfl rfl ?_
          refine m_is hW (k := 29) (by decide)  (fun b => absurd b (by omega)) (fun b19 => ?_)
          refine wq_zne rfl (by first | omega | decide | exact Nat.lt_of_le_of_lt Nat.and_le_right (by decide) | exact ⟨by omega, by omega⟩) (fun c => absurd c (by omega)) (fun c114 => ?_)
          refine wq_go rfl (fun _ => rfl) ?_
          refine wq_cN (m := 15) rfl rfl ?_
          refine wq_callV rfl rfl (by first | rfl | assumption) (by first | decide | omega | assumption) (Nat.le_of_ble_eq_true rfl) (Nat.le_of_ble_eq_true rfl) rfl rfl ?_
          refine m_is hW (k := 30) (by decide)  (fun b20 => ?_) (fun b => absurd b (fun q => q hk))
          refine wq_zeq rfl (by first | omega | decide | exact Nat.lt_of_le_of_lt Nat.and_le_right (by decide) | exact ⟨by omega, by omega⟩) (fun c => absurd c (by omega)) (fun c118 => ?_)
          refine wq_cN (m := 1) rfl rfl ?_
          refine wq_go rfl (fun _ => rfl) ?_
          refine wq_callV rfl rfl (by first | rfl | assumption) (by first | decide | omega | assumption) (Nat.le_of_ble_eq_true rfl) (Nat.le_of_ble_eq_true rfl) rfl rfl ?_
          refine m_out1 W c g σ hI.1 (by omega) (by omega) hE (fun g4 σ4 G4 E4 => ?_)
          rw [q1] at E4
          have E4 : ExC B X s σ0 c0 c1 W1 g4 σ4 := E4
          have hlw := ln_eq W1
          have hlo := (ops_le W1 q3).1
          refine wq_go rfl (fun _ => rfl) ?_
          refine wq_getf rfl (by first | rfl | assumption) (by first | decide | omega | assumption) (mb_o E4.1) rfl ?_
          refine wq_go rfl (fun _ => rfl) ?_
          refine wq_getf rfl (by first | rfl | assumption) (by first | decide | omega | assumption) (mb_o E4.1) rfl ?_
          refine wq_top E4.2.2.2.1 ?_
          refine wq_go rfl (fun _ => rfl) ?_
          refine wq_getf rfl (by first | rfl | assumption) (by first | decide | omega | assumption) (mb_o E4.1) rfl ?_
          refine wq_go rfl (fun _ => rfl) ?_
          refine wq_getf rfl (by first | rfl | assumption) (by first | decide | omega | assumption) (mb_o E4.1) rfl ?_
          refine wq_top ((G4 11 rfl).trans (mw_11 hW :)) ?_
          refine wq_iald rfl (by first | rfl | assumption) (by first | decide | omega | assumption) (mb_290 E4.1) rfl (by omega) (by first | decide | omega) ?_
          refine wq_top ((ag_eq (E4.2.1 290 rfl) t).trans ((ag_eq (hE.2.1 290 rfl) t).symm.trans (mw_k hW))) ?_
          refine wq_iast rfl (by first | rfl | assumption) (by first | decide | omega | assumption) (mb_a E4.1 (by decide) : IsA σ4 319 64) rfl (by omega) (by first | decide | omega) ?_
          refine wq_go rfl (fun _ => rfl) ?_
          refine wq_go rfl (fun _ => rfl) ?_
          refine wq_getf rfl (by first | rfl | assumption) (by first | decide | omega | assumption) ((up_ne _ _ (by decide)).trans (mb_o E4.1)) rfl ?_
          refine wq_top E4.2.2.2.1 ?_
          refine wq_cN (m := 1) rfl rfl ?_
          refine wq_addN rfl ?_
          refine wq_mput rfl ((up_ne _ _ (by decide)).trans (mb_o E4.1)) rfl rfl rfl rfl ?_
          refine wq_go rfl (fun _ => rfl) ?_
          refine wq_callV rfl rfl (by first | rfl | assumption) (by first | decide | omega | assumption) (Nat.le_of_ble_eq_true rfl) (Nat.le_of_ble_eq_true rfl) rfl rfl ?_
          have hk6 : ¬ Xk X t - 25 = 6 := by omega
          have E5 := exc_w (w := Xk X t - 25) (g' := upd g4 48 (nI (W1.length + 1))) E4 (by omega) (show nI (mkK (Xk X t)) = nI (wmk (Xk X t - 25)) by rw [mkK_o _ (by omega) (by omega)]) (fg_up (fg_refl _ _) rfl) rfl rfl
          have W5 := mrw_g hW E5.1 (fg_up (b := 48) (x := nI (W1.length + 1)) (fg_mono G4 yO_P) rfl) ((G4 12 rfl).trans (mw_12 hW :)) E5.2.2.1
          refine m_go W5 ⟨by omega, by omega⟩ (fun g6 σ6 h6 F6 G6 W6 => ?_) (fun g6 σ6 h6 F6 G6 W6 => ?_)
          · skip
            refine wq_go rfl (fun _ => rfl) ?_
            refine wq_go rfl (fun _ => rfl) ?_
            refine wq_zeq rfl (by first | omega | decide | exact Nat.lt_of_le_of_lt Nat.and_le_right (by decide) | exact ⟨by omega, by omega⟩) (fun c => absurd c (by omega)) (fun c9 => ?_)
            refine wq_go rfl (fun _ => rfl) ?_
            refine wq_getf rfl (by first | rfl | assumption) (by first | decide | omega | assumption) (mb_o (mw_b W6)) rfl ?_
            refine wq_top (mw_13 W6 :) ?_
            refine wq_zne rfl (by first | omega | decide | exact Nat.lt_of_le_of_lt Nat.and_le_right (by decide) | exact ⟨by omega, by omega⟩) (fun c => absurd c (by omega)) (fun c12 => ?_)
            exact wq_lv ⟨(by decide : ([2, 1, 0] : List Nat).Nodup), (lvm (List.mem_of_getElem? (i := 0) rfl) (lvm (List.mem_of_getElem? (i := 1) rfl) (lvm (List.mem_of_getElem? (i := 2) rfl) lvn)))⟩ (ih.1 ((Xk X t - 25) :: W1) (t + 1) c1 g6 σ6 (by omega) ⟨⟨q3, Or.inr (Or.inr ⟨by unfold opP; omega, q4⟩)⟩, by rw [opens_n hk6]; omega, by omega, by rw [ops_n hk6]; omega, by rw [ops_n hk6]; exact q6⟩ (by rw [opens_n hk6, q5]; exact W6) (exc_t E5 (mw_b W6) F6 (G6 44 rfl) (G6 48 rfl)) (hR.trans (x_mul h6 (Or.inr hk) q2)))
          · skip
            have hf0 := mf_0 W6
            have hf9 := mf_9 W6
            refine wq_go rfl (fun _ => rfl) ?_
            refine wq_go rfl (fun _ => rfl) ?_
            refine wq_zeq rfl (by first | omega | decide | exact Nat.lt_of_le_of_lt Nat.and_le_right (by decide) | exact ⟨by omega, by omega⟩) (fun c => absurd c (by omega)) (fun c9 => ?_)
            refine wq_go rfl (fun _ => rfl) ?_
            refine wq_getf rfl (by first | rfl | assumption) (by first | decide | omega | assumption) (mb_o (mf_b W6)) rfl ?_
            refine wq_top (mf_13 W6 :) ?_
            refine wq_zne rfl (by first | omega | decide | exact Nat.lt_of_le_of_lt Nat.and_le_right (by decide) | exact ⟨by omega, by omega⟩) (fun c12 => ?_) (fun c => absurd (show _ from by omega) c)
            refine wq_end rfl (fun _ => rfl) ?_
            exact K0 2 t _ _ (hR.trans (by subst h6; exact d_mul_r (Or.inr hk))) (fr_trans E5.2.1 (fr_mono F6 x287_X)) W6
        have hn30 := hk
        clear hk
        obtain ⟨W1, c1, q1, q2, q3, q4, q5, q6, q7⟩ := pop_all hI.1 hI.2.2.2.2
        by_cases hk : Xk X t = 27
        · skip
          refine wq_go rfl (fun _ => rfl) ?_
          refine wq_cN (m := 8) rfl rfl ?_
          refine wq_callV rfl rfl (by first | rfl | assumption) (by first | decide | omega | assumption) (Nat.le_of_ble_eq_true rfl) (Nat.le_of_ble_eq_true rfl) rfl rfl ?_
          refine m_is hW (k := 27) (by decide)  (fun b23 => ?_) (fun b => absurd b (fun q => q hk))
          refine wq_zne rfl (by first | omega | decide | exact Nat.lt_of_le_of_lt Nat.and_le_right (by decide) | exact ⟨by omega, by omega⟩) (fun c80 => ?_) (fun c => absurd (show _ from by omega) c)
          refine wq_cN (m := 1) rfl rfl ?_
          refine wq_go rfl (fun _ => rfl) ?_
          refine wq_go rfl (fun _ => rfl) ?_
          refine wq_go rfl (fun _ => rfl) ?_
          refine wq_zne rfl (by first | omega | decide | exact Nat.lt_of_le_of_lt Nat.and_le_right (by decide) | exact ⟨by omega, by omega⟩) (fun c98 => ?_) (fun c => absurd (show _ from by omega) c)
          refine wq_go rfl (fun _ => rfl) ?_
          refine wq_go rfl (fun _ => rfl) ?_
          refine wq_cN (m := 10) rfl rfl ?_
          refine wq_callV rfl rfl (by first | rfl | assumption) (by first | decide | omega | assumption) (Nat.le_of_ble_eq_true rfl) (Nat.le_of_ble_eq_true rfl) rfl rfl ?_
          refine m_is hW (k := 29) (by decide)  (fun b => absurd b (by omega)) (fun b24 => ?_)
          refine wq_zne rfl (by first | omega | decide | exact Nat.lt_of_le_of_lt Nat.and_le_right (by decide) | exact ⟨by omega, by omega⟩) (fun c => absurd c (by omega)) (fun c114 => ?_)
          refine wq_go rfl (fun _ => rfl) ?_
          refine wq_cN (m := 15) rfl rfl ?_
          refine wq_callV rfl rfl (by first | rfl | assumption) (by first | decide | omega | assumption) (Nat.le_of_ble_eq_true rfl) (Nat.le_of_ble_eq_true rfl) rfl rfl ?_
          refine m_is hW (k := 30) (by decide)  (fun b => absurd b (by omega)) (fun b25 => ?_)
          refine wq_zeq rfl (by first | omega | decide | exact Nat.lt_of_le_of_lt Nat.and_le_right (by decide) | exact ⟨by omega, by omega⟩) (fun c118 => ?_) (fun c => absurd (show _ from by omega) c)
          refine wq_cN (m := 0) rfl rfl ?_
          refine wq_callV rfl rfl (by first | rfl | assumption) (by first | decide | omega | assumption) (Nat.le_of_ble_eq_true rfl) (Nat.le_of_ble_eq_true rfl) rfl rfl ?_
          refine m_out0 W c g σ hI.1 (by omega) (by omega) hE (fun g4 σ4 G4 E4 => ?_)
          rw [q1] at E4
          have E4 : ExC B X s σ0 c0 c1 W1 g4 σ4 := E4
          have hlw := ln_eq W1
          have hlo := (ops_le W1 q3).1
          refine wq_go rfl (fun _ => rfl) ?_
          refine wq_getf rfl (by first | rfl | assumption) (by first | decide | omega | assumption) (mb_o E4.1) rfl ?_
          refine wq_go rfl (fun _ => rfl) ?_
          refine wq_getf rfl (by first | rfl | assumption) (by first | decide | omega | assumption) (mb_o E4.1) rfl ?_
          refine wq_top E4.2.2.2.1 ?_
          refine wq_go rfl (fun _ => rfl) ?_
          refine wq_getf rfl (by first | rfl | assumption) (by first | decide | omega | assumption) (mb_o E4.1) rfl ?_
          refine wq_go rfl (fun _ => rfl) ?_
          refine wq_getf rfl (by first | rfl | assumption) (by first | decide | omega | assumption) (mb_o E4.1) rfl ?_
          refine wq_top ((G4 11 rfl).trans (mw_11 hW :)) ?_
          refine wq_iald rfl (by first | rfl | assumption) (by first | decide | omega | assumption) (mb_290 E4.1) rfl (by omega) (by first | decide | omega) ?_
          refine wq_top ((ag_eq (E4.2.1 290 rfl) t).trans ((ag_eq (hE.2.1 290 rfl) t).symm.trans (mw_k hW))) ?_
          refine wq_iast rfl (by first | rfl | assumption) (by first | decide | omega | assumption) (mb_a E4.1 (by decide) : IsA σ4 319 64) rfl (by omega) (by first | decide | omega) ?_
          refine wq_go rfl (fun _ => rfl) ?_
          refine wq_go rfl (fun _ => rfl) ?_
          refine wq_getf rfl (by first | rfl | assumption) (by first | decide | omega | assumption) ((up_ne _ _ (by decide)).trans (mb_o E4.1)) rfl ?_
          refine wq_top E4.2.2.2.1 ?_
          refine wq_cN (m := 1) rfl rfl ?_
          refine wq_addN rfl ?_
          refine wq_mput rfl ((up_ne _ _ (by decide)).trans (mb_o E4.1)) rfl rfl rfl rfl ?_
          refine wq_go rfl (fun _ => rfl) ?_
          refine wq_callV rfl rfl (by first | rfl | assumption) (by first | decide | omega | assumption) (Nat.le_of_ble_eq_true rfl) (Nat.le_of_ble_eq_true rfl) rfl rfl ?_
          have hk6 : ¬ Xk X t - 25 = 6 := by omega
          have E5 := exc_w (w := Xk X t - 25) (g' := upd g4 48 (nI (W1.length + 1))) E4 (by omega) (show nI (mkK (Xk X t)) = nI (wmk (Xk X t - 25)) by rw [mkK_o _ (by omega) (by omega)]) (fg_up (fg_refl _ _) rfl) rfl rfl
          have W5 := mrw_g hW E5.1 (fg_up (b := 48) (x := nI (W1.length + 1)) (fg_mono G4 yO_P) rfl) ((G4 12 rfl).trans (mw_12 hW :)) E5.2.2.1
          refine m_go W5 ⟨by omega, by omega⟩ (fun g6 σ6 h6 F6 G6 W6 => ?_) (fun g6 σ6 h6 F6 G6 W6 => ?_)
          · skip
            refine wq_go rfl (fun _ => rfl) ?_
            refine wq_go rfl (fun _ => rfl) ?_
            refine wq_zeq rfl (by first | omega | decide | exact Nat.lt_of_le_of_lt Nat.and_le_right (by decide) | exact ⟨by omega, by omega⟩) (fun c => absurd c (by omega)) (fun c9 => ?_)
            refine wq_go rfl (fun _ => rfl) ?_
            refine wq_getf rfl (by first | rfl | assumption) (by first | decide | omega | assumption) (mb_o (mw_b W6)) rfl ?_
            refine wq_top (mw_13 W6 :) ?_
            refine wq_zne rfl (by first | omega | decide | exact Nat.lt_of_le_of_lt Nat.and_le_right (by decide) | exact ⟨by omega, by omega⟩) (fun c => absurd c (by omega)) (fun c12 => ?_)
            exact wq_lv ⟨(by decide : ([2, 1, 0] : List Nat).Nodup), (lvm (List.mem_of_getElem? (i := 0) rfl) (lvm (List.mem_of_getElem? (i := 1) rfl) (lvm (List.mem_of_getElem? (i := 2) rfl) lvn)))⟩ (ih.1 ((Xk X t - 25) :: W1) (t + 1) c1 g6 σ6 (by omega) ⟨⟨q3, Or.inr (Or.inl ⟨by unfold opS; omega, q4⟩)⟩, by rw [opens_n hk6]; omega, by omega, by rw [ops_n hk6]; omega, by rw [ops_n hk6]; exact q6⟩ (by rw [opens_n hk6, q5]; exact W6) (exc_t E5 (mw_b W6) F6 (G6 44 rfl) (G6 48 rfl)) (hR.trans (x_add h6 (Or.inl hk) q2)))
          · skip
            have hf0 := mf_0 W6
            have hf9 := mf_9 W6
            refine wq_go rfl (fun _ => rfl) ?_
            refine wq_go rfl (fun _ => rfl) ?_
            refine wq_zeq rfl (by first | omega | decide | exact Nat.lt_of_le_of_lt Nat.and_le_right (by decide) | exact ⟨by omega, by omega⟩) (fun c => absurd c (by omega)) (fun c9 => ?_)
            refine wq_go rfl (fun _ => rfl) ?_
            refine wq_getf rfl (by first | rfl | assumption) (by first | decide | omega | assumption) (mb_o (mf_b W6)) rfl ?_
            refine wq_top (mf_13 W6 :) ?_
            refine wq_zne rfl (by first | omega | decide | exact Nat.lt_of_le_of_lt Nat.and_le_right (by decide) | exact ⟨by omega, by omega⟩) (fun c12 => ?_) (fun c => absurd (show _ from by omega) c)
            refine wq_end rfl (fun _ => rfl) ?_
            exact K0 2 t _ _ (hR.trans (by subst h6; exact d_add_r (Or.inl hk))) (fr_trans E5.2.1 (fr_mono F6 x287_X)) W6
        have hn27 := hk
        clear hk
        by_cases hk : Xk X t = 28
        · skip
          refine wq_go rfl (fun _ => rfl) ?_
          refine wq_cN (m := 8) rfl rfl ?_
          refine wq_callV rfl rfl (by first | rfl | assumption) (by first | decide | omega | assumption) (Nat.le_of_ble_eq_true rfl) (Nat.le_of_ble_eq_true rfl) rfl rfl ?_
          refine m_is hW (k := 27) (by decide)  (fun b => absurd b (by omega)) (fun b28 => ?_)
          refine wq_zne rfl (by first | omega | decide | exact Nat.lt_of_le_of_lt Nat.and_le_right (by decide) | exact ⟨by omega, by omega⟩) (fun c => absurd c (by omega)) (fun c80 => ?_)
          refine wq_go rfl (fun _ => rfl) ?_
          refine wq_cN (m := 9) rfl rfl ?_
          refine wq_callV rfl rfl (by first | rfl | assumption) (by first | decide | omega | assumption) (Nat.le_of_ble_eq_true rfl) (Nat.le_of_ble_eq_true rfl) rfl rfl ?_
          refine m_is hW (k := 28) (by decide)  (fun b29 => ?_) (fun b => absurd b (fun q => q hk))
          refine wq_zne rfl (by first | omega | decide | exact Nat.lt_of_le_of_lt Nat.and_le_right (by decide) | exact ⟨by omega, by omega⟩) (fun c84 => ?_) (fun c => absurd (show _ from by omega) c)
          refine wq_cN (m := 1) rfl rfl ?_
          refine wq_go rfl (fun _ => rfl) ?_
          refine wq_go rfl (fun _ => rfl) ?_
          refine wq_go rfl (fun _ => rfl) ?_
          refine wq_zne rfl (by first | omega | decide | exact Nat.lt_of_le_of_lt Nat.and_le_right (by decide) | exact ⟨by omega, by omega⟩) (fun c98 => ?_) (fun c => absurd (show _ from by omega) c)
          refine wq_go rfl (fun _ => rfl) ?_
          refine wq_go rfl (fun _ => rfl) ?_
          refine wq_cN (m := 10) rfl rfl ?_
          refine wq_callV rfl rfl (by first | rfl | assumption) (by first | decide | omega | assumption) (Nat.le_of_ble_eq_true rfl) (Nat.le_of_ble_eq_true rfl) rfl rfl ?_
          refine m_is hW (k := 29) (by decide)  (fun b => absurd b (by omega)) (fun b30 => ?_)
          refine wq_zne rfl (by first | omega | decide | exact Nat.lt_of_le_of_lt Nat.and_le_right (by decide) | exact ⟨by omega, by omega⟩) (fun c => absurd c (by omega)) (fun c114 => ?_)
          refine wq_go rfl (fun _ => rfl) ?_
          refine wq_cN (m := 15) rfl rfl ?_
          refine wq_callV rfl rfl (by first | rfl | assumption) (by first | decide | omega | assumption) (Nat.le_of_ble_eq_true rfl) (Nat.le_of_ble_eq_true rfl) rfl rfl ?_
          refine m_is hW (k := 30) (by decide)  (fun b => absurd b (by omega)) (fun b31 => ?_)
          refine wq_zeq rfl (by first | omega | decide | exact Nat.lt_of_le_of_lt Nat.and_le_right (by decide) | exact ⟨by omega, by omega⟩) (fun c118 => ?_) (fun c => absurd (show _ from by omega) c)
          refine wq_cN (m := 0) rfl rfl ?_
          refine wq_callV rfl rfl (by first | rfl | assumption) (by first | decide | omega | assumption) (Nat.le_of_ble_eq_true rfl) (Nat.le_of_ble_eq_true rfl) rfl rfl ?_
          refine m_out0 W c g σ hI.1 (by omega) (by omega) hE (fun g4 σ4 G4 E4 => ?_)
          rw [q1] at E4
          have E4 : ExC B X s σ0 c0 c1 W1 g4 σ4 := E4
          have hlw := ln_eq W1
          have hlo := (ops_le W1 q3).1
          refine wq_go rfl (fun _ => rfl) ?_
          refine wq_getf rfl (by first | rfl | assumption) (by first | decide | omega | assumption) (mb_o E4.1) rfl ?_
          refine wq_go rfl (fun _ => rfl) ?_
          refine wq_getf rfl (by first | rfl | assumption) (by first | decide | omega | assumption) (mb_o E4.1) rfl ?_
          refine wq_top E4.2.2.2.1 ?_
          refine wq_go rfl (fun _ => rfl) ?_
          refine wq_getf rfl (by first | rfl | assumption) (by first | decide | omega | assumption) (mb_o E4.1) rfl ?_
          refine wq_go rfl (fun _ => rfl) ?_
          refine wq_getf rfl (by first | rfl | assumption) (by first | decide | omega | assumption) (mb_o E4.1) rfl ?_
          refine wq_top ((G4 11 rfl).trans (mw_11 hW :)) ?_
          refine wq_iald rfl (by first | rfl | assumption) (by first | decide | omega | assumption) (mb_290 E4.1) rfl (by omega) (by first | decide | omega) ?_
          refine wq_top ((ag_eq (E4.2.1 290 rfl) t).trans ((ag_eq (hE.2.1 290 rfl) t).symm.trans (mw_k hW))) ?_
          refine wq_iast rfl (by first | rfl | assumption) (by first | decide | omega | assumption) (mb_a E4.1 (by decide) : IsA σ4 319 64) rfl (by omega) (by first | decide | omega) ?_
          refine wq_go rfl (fun _ => rfl) ?_
          refine wq_go rfl (fun _ => rfl) ?_
          refine wq_getf rfl (by first | rfl | assumption) (by first | decide | omega | assumption) ((up_ne _ _ (by decide)).trans (mb_o E4.1)) rfl ?_
          refine wq_top E4.2.2.2.1 ?_
          refine wq_cN (m := 1) rfl rfl ?_
          refine wq_addN rfl ?_
          refine wq_mput rfl ((up_ne _ _ (by decide)).trans (mb_o E4.1)) rfl rfl rfl rfl ?_
          refine wq_go rfl (fun _ => rfl) ?_
          refine wq_callV rfl rfl (by first | rfl | assumption) (by first | decide | omega | assumption) (Nat.le_of_ble_eq_true rfl) (Nat.le_of_ble_eq_true rfl) rfl rfl ?_
          have hk6 : ¬ Xk X t - 25 = 6 := by omega
          have E5 := exc_w (w := Xk X t - 25) (g' := upd g4 48 (nI (W1.length + 1))) E4 (by omega) (show nI (mkK (Xk X t)) = nI (wmk (Xk X t - 25)) by rw [mkK_o _ (by omega) (by omega)]) (fg_up (fg_refl _ _) rfl) rfl rfl
          have W5 := mrw_g hW E5.1 (fg_up (b := 48) (x := nI (W1.length + 1)) (fg_mono G4 yO_P) rfl) ((G4 12 rfl).trans (mw_12 hW :)) E5.2.2.1
          refine m_go W5 ⟨by omega, by omega⟩ (fun g6 σ6 h6 F6 G6 W6 => ?_) (fun g6 σ6 h6 F6 G6 W6 => ?_)
          · skip
            refine wq_go rfl (fun _ => rfl) ?_
            refine wq_go rfl (fun _ => rfl) ?_
            refine wq_zeq rfl (by first | omega | decide | exact Nat.lt_of_le_of_lt Nat.and_le_right (by decide) | exact ⟨by omega, by omega⟩) (fun c => absurd c (by omega)) (fun c9 => ?_)
            refine wq_go rfl (fun _ => rfl) ?_
            refine wq_getf rfl (by first | rfl | assumption) (by first | decide | omega | assumption) (mb_o (mw_b W6)) rfl ?_
            refine wq_top (mw_13 W6 :) ?_
            refine wq_zne rfl (by first | omega | decide | exact Nat.lt_of_le_of_lt Nat.and_le_right (by decide) | exact ⟨by omega, by omega⟩) (fun c => absurd c (by omega)) (fun c12 => ?_)
            exact wq_lv ⟨(by decide : ([2, 1, 0] : List Nat).Nodup), (lvm (List.mem_of_getElem? (i := 0) rfl) (lvm (List.mem_of_getElem? (i := 1) rfl) (lvm (List.mem_of_getElem? (i := 2) rfl) lvn)))⟩ (ih.1 ((Xk X t - 25) :: W1) (t + 1) c1 g6 σ6 (by omega) ⟨⟨q3, Or.inr (Or.inl ⟨by unfold opS; omega, q4⟩)⟩, by rw [opens_n hk6]; omega, by omega, by rw [ops_n hk6]; omega, by rw [ops_n hk6]; exact q6⟩ (by rw [opens_n hk6, q5]; exact W6) (exc_t E5 (mw_b W6) F6 (G6 44 rfl) (G6 48 rfl)) (hR.trans (x_add h6 (Or.inr hk) q2)))
          · skip
            have hf0 := mf_0 W6
            have hf9 := mf_9 W6
            refine wq_go rfl (fun _ => rfl) ?_
            refine wq_go rfl (fun _ => rfl) ?_
            refine wq_zeq rfl (by first | omega | decide | exact Nat.lt_of_le_of_lt Nat.and_le_right (by decide) | exact ⟨by omega, by omega⟩) (fun c => absurd c (by omega)) (fun c9 => ?_)
            refine wq_go rfl (fun _ => rfl) ?_
            refine wq_getf rfl (by first | rfl | assumption) (by first | decide | omega | assumption) (mb_o (mf_b W6)) rfl ?_
            refine wq_top (mf_13 W6 :) ?_
            refine wq_zne rfl (by first | omega | decide | exact Nat.lt_of_le_of_lt Nat.and_le_right (by decide) | exact ⟨by omega, by omega⟩) (fun c12 => ?_) (fun c => absurd (show _ from by omega) c)
            refine wq_end rfl (fun _ => rfl) ?_
            exact K0 2 t _ _ (hR.trans (by subst h6; exact d_add_r (Or.inr hk))) (fr_trans E5.2.1 (fr_mono F6 x287_X)) W6
        have hn28 := hk
        clear hk
        have hn1 : ¬ (Xk X t = 29 ∨ Xk X t = 30) := by omega
        have hn2 : ¬ (Xk X t = 27 ∨ Xk X t = 28) := by omega
        refine wq_go rfl (fun _ => rfl) ?_
        refine wq_cN (m := 8) rfl rfl ?_
        refine wq_callV rfl rfl (by first | rfl | assumption) (by first | decide | omega | assumption) (Nat.le_of_ble_eq_true rfl) (Nat.le_of_ble_eq_true rfl) rfl rfl ?_
        refine m_is hW (k := 27) (by decide)  (fun b => absurd b (by omega)) (fun b34 => ?_)
        refine wq_zne rfl (by first | omega | decide | exact Nat.lt_of_le_of_lt Nat.and_le_right (by decide) | exact ⟨by omega, by omega⟩) (fun c => absurd c (by omega)) (fun c80 => ?_)
        refine wq_go rfl (fun _ => rfl) ?_
        refine wq_cN (m := 9) rfl rfl ?_
        refine wq_callV rfl rfl (by first | rfl | assumption) (by first | decide | omega | assumption) (Nat.le_of_ble_eq_true rfl) (Nat.le_of_ble_eq_true rfl) rfl rfl ?_
        refine m_is hW (k := 28) (by decide)  (fun b => absurd b (by omega)) (fun b35 => ?_)
        refine wq_zne rfl (by first | omega | decide | exact Nat.lt_of_le_of_lt Nat.and_le_right (by decide) | exact ⟨by omega, by omega⟩) (fun c => absurd c (by omega)) (fun c84 => ?_)
        refine wq_go rfl (fun _ => rfl) ?_
        refine wq_cN (m := 10) rfl rfl ?_
        refine wq_callV rfl rfl (by first | rfl | assumption) (by first | decide | omega | assumption) (Nat.le_of_ble_eq_true rfl) (Nat.le_of_ble_eq_true rfl) rfl rfl ?_
        refine m_is hW (k := 29) (by decide)  (fun b => absurd b (by omega)) (fun b36 => ?_)
        refine wq_zne rfl (by first | omega | decide | exact Nat.lt_of_le_of_lt Nat.and_le_right (by decide) | exact ⟨by omega, by omega⟩) (fun c => absurd c (by omega)) (fun c88 => ?_)
        refine wq_go rfl (fun _ => rfl) ?_
        refine wq_cN (m := 15) rfl rfl ?_
        refine wq_callV rfl rfl (by first | rfl | assumption) (by first | decide | omega | assumption) (Nat.le_of_ble_eq_true rfl) (Nat.le_of_ble_eq_true rfl) rfl rfl ?_
        refine m_is hW (k := 30) (by decide)  (fun b => absurd b (by omega)) (fun b37 => ?_)
        refine wq_zeq rfl (by first | omega | decide | exact Nat.lt_of_le_of_lt Nat.and_le_right (by decide) | exact ⟨by omega, by omega⟩) (fun c92 => ?_) (fun c => absurd (show _ from by omega) c)
        refine wq_cN (m := 0) rfl rfl ?_
        refine wq_go rfl (fun _ => rfl) ?_
        refine wq_go rfl (fun _ => rfl) ?_
        refine wq_zne rfl (by first | omega | decide | exact Nat.lt_of_le_of_lt Nat.and_le_right (by decide) | exact ⟨by omega, by omega⟩) (fun c => absurd c (by omega)) (fun c98 => ?_)
        refine wq_go rfl (fun _ => rfl) ?_
        refine wq_getf rfl (by first | rfl | assumption) (by first | decide | omega | assumption) (mb_o (mw_b hW)) rfl ?_
        refine wq_top (mw_12 hW :) ?_
        refine wq_go rfl (fun _ => rfl) ?_
        by_cases ho : opens W = 0
        · skip
          refine wq_cle rfl (by first | omega | decide | exact Nat.lt_of_le_of_lt Nat.and_le_right (by decide) | exact ⟨by omega, by omega⟩) (by first | omega | decide | exact Nat.lt_of_le_of_lt Nat.and_le_right (by decide) | exact ⟨by omega, by omega⟩) (fun c102 => ?_) (fun c => absurd (show _ from by omega) c)
          refine wq_go rfl (fun _ => rfl) ?_
          refine wq_cN (m := 0) rfl rfl ?_
          refine wq_callV rfl rfl (by first | rfl | assumption) (by first | decide | omega | assumption) (Nat.le_of_ble_eq_true rfl) (Nat.le_of_ble_eq_true rfl) rfl rfl ?_
          refine m_out0 W c g σ hI.1 (by omega) (by omega) hE (fun g4 σ4 G4 E4 => ?_)
          rw [q1] at E4
          have E4 : ExC B X s σ0 c0 c1 W1 g4 σ4 := E4
          have hlw := ln_eq W1
          have hlo := (ops_le W1 q3).1
          refine wq_end rfl (fun _ => rfl) ?_
          cases W1 with
          | cons w1 W3 =>
            have := q4 w1 W3 rfl
            subst this
            rw [opens_6] at q5
            omega
          | nil => exact K1 t c1 g4 σ4 (hR.trans (x_end ht hn1 hn2 q2)) E4.2.1 (mrw_g hW E4.1 (fg_mono G4 yO_P) ((G4 12 rfl).trans ((mw_12 hW :).trans (by rw [ho]))) E4.2.2.1) E4.2.2.2.2.2.1 E4.2.2.2.2.2.2
        refine wq_cle rfl (by first | omega | decide | exact Nat.lt_of_le_of_lt Nat.and_le_right (by decide) | exact ⟨by omega, by omega⟩) (by first | omega | decide | exact Nat.lt_of_le_of_lt Nat.and_le_right (by decide) | exact ⟨by omega, by omega⟩) (fun c => absurd c (by omega)) (fun c102 => ?_)
        refine wq_go rfl (fun _ => rfl) ?_
        refine wq_cN (m := 1) rfl rfl ?_
        refine wq_callV rfl rfl (by first | rfl | assumption) (by first | decide | omega | assumption) (Nat.le_of_ble_eq_true rfl) (Nat.le_of_ble_eq_true rfl) rfl rfl ?_
        refine m_fail hW (k := 1) (by decide) (fun g2 σ2 F2 G2 W2 => ?_)
        refine wq_go rfl (fun _ => rfl) ?_
        refine wq_cN (m := 0) rfl rfl ?_
        refine wq_callV rfl rfl (by first | rfl | assumption) (by first | decide | omega | assumption) (Nat.le_of_ble_eq_true rfl) (Nat.le_of_ble_eq_true rfl) rfl rfl ?_
        have E2 := exc_t hE (mf_b W2) F2 (G2 44 rfl) (G2 48 rfl)
        refine m_out0 W c g2 σ2 hI.1 (by omega) (by omega) E2 (fun g4 σ4 G4 E4 => ?_)
        refine wq_end rfl (fun _ => rfl) ?_
        exact K0 1 t _ _ (hR.trans (by
          cases W1 with
          | nil => exact absurd q5 (fun e => ho e.symm)
          | cons w1 W3 => exact x_bad ht hn1 hn2 (by omega) q2)) E4.2.1 (mrf_g W2 E4.1 (G4 13 rfl) (G4 14 rfl) (G4 38 rfl))
theorem m_ex {xs : List Int32} {d : Nat} {σ : Nat → List Value} {Q : Option Value → (Nat → List Value) → Prop} {B : Bs} {X : Tx} {s t bn cn nn : Nat} {w : Option (Nat × Nat)} {g : Nat → Int32} (hW : MrW B X s t 0 bn cn nn w g σ) (hcn : cn ≤ t)  (K1 : ∀ t' c' g' σ', exX X t = .inr (t', c') → t < t' → c'.length ≤ t' - t → Fr xX σ σ' → MrW B X s t' 0 bn (cn + c'.length) nn w g' σ' → mcode (brG σ') (420 * s + cn) c' → (∀ i, i < 420 * s + cn → ag σ' 317 i = ag σ 317 i ∧ ag σ' 318 i = ag σ 318 i) → Q none σ') (K0 : ∀ f' p' g' σ', exX X t = er f' p' → Fr xX σ σ' → MrF B X s f' (Xp X p') bn g' σ' → Q none σ') : Wq xs (d + 3) ax_cd246 0 [(0, .ref 287)] [] σ Q := by
  have hX := mb_X (mw_b hW)
  have ht := mw_t hW
  have hr := mw_r hW
  have hs2 := mb_2 (mw_b hW)
  have hkt := mkK_le _ (hX.1 t)
  have hpt := hX.2.2.1 t
  refine wq_go rfl (fun _ => rfl) ?_
  refine wq_cN (m := 0) rfl rfl ?_
  refine wq_mput rfl (mb_o (mw_b hW)) rfl rfl rfl rfl ?_
  refine wq_go rfl (fun _ => rfl) ?_
  refine wq_getf rfl (by first | rfl | assumption) (by first | decide | omega | assumption) (up_same _ _ _) rfl ?_
  refine wq_top (mw_12 hW :) ?_
  refine wq_go rfl (fun _ => rfl) ?_
  refine wq_cN (m := 1) rfl rfl ?_
  refine wq_go rfl (fun _ => rfl) ?_
  refine wq_go rfl (fun _ => rfl) ?_
  refine wq_zeq rfl (by first | omega | decide | exact Nat.lt_of_le_of_lt Nat.and_le_right (by decide) | exact ⟨by omega, by omega⟩) (fun c => absurd c (by omega)) (fun c9 => ?_)
  refine wq_go rfl (fun _ => rfl) ?_
  refine wq_getf rfl (by first | rfl | assumption) (by first | decide | omega | assumption) (up_same _ _ _) rfl ?_
  refine wq_top (mw_13 hW :) ?_
  refine wq_zne rfl (by first | omega | decide | exact Nat.lt_of_le_of_lt Nat.and_le_right (by decide) | exact ⟨by omega, by omega⟩) (fun c => absurd c (by omega)) (fun c12 => ?_)
  have W1 : MrW B X s t 0 bn cn nn w (upd g 48 (nI 0)) (up σ 287 (mo (upd g 48 (nI 0)))) := mrw_g hW (mrb_o (mw_b hW) (fg_up (fg_refl _ _) rfl)) (fg_up (fg_refl _ _) rfl) (mw_12 hW :) (mw_44 hW :)
  have E1 : ExC B X s (up σ 287 (mo (upd g 48 (nI 0)))) cn [] [] (upd g 48 (nI 0)) (up σ 287 (mo (upd g 48 (nI 0)))) := ⟨mw_b W1, fr_refl _ _, (mw_44 W1 :), rfl, trivial, trivial, fun i _ => ⟨rfl, rfl⟩⟩
  refine wq_lv ⟨(by decide : ([2, 1, 0] : List Nat).Nodup), (lvm (List.mem_of_getElem? (i := 0) rfl) (lvm (List.mem_of_getElem? (i := 1) rfl) (lvm (List.mem_of_getElem? (i := 2) rfl) lvn)))⟩ ((m_ex_l (t0 := t) hcn (fun t' c' g' σ' e F W c l => ?_) (fun f' p' g' σ' e F W => ?_) 401).1 [] t [] _ _ (by omega) ⟨trivial, by decide, Nat.le_refl _, by show 0 + 0 ≤ _; omega, rfl⟩ W1 E1 rfl)
  · have iv := exX_inv hX.2.1 ht e
    exact K1 t' c' g' σ' e iv.1 iv.2.2.2 (fr_trans (fr_up (fr_refl _ _) rfl) F) W c (fun i hi => (by rw [(l i hi).1, (l i hi).2, ag_eq (up_ne _ _ (by decide)), ag_eq (up_ne _ _ (by decide))]; exact ⟨rfl, rfl⟩))
  · exact K0 f' p' g' σ' e (fr_trans (fr_up (fr_refl _ _) rfl) F) W
