/-! WHAT A LAW TELLS -/
theorem codeAt_app (g : Nat → Int32) : ∀ (a b : KCode) (p : Nat), codeAt g p (a ++ b) → codeAt g p a ∧ codeAt g (p + a.length) b
  | [], b, p, h => ⟨trivial, h⟩
  | (k, v) :: a, b, p, h => by
    obtain ⟨h1, h2⟩ := h
    obtain ⟨h3, h4⟩ := codeAt_app g a b (p + 1) h2
    refine ⟨⟨h1, h3⟩, ?_⟩
    rw [List.length_cons, show p + (a.length + 1) = p + 1 + a.length by omega]
    exact h4
theorem lawAt_lt (g : Nat → Int32) : ∀ (r : List (KCode × KCode × KCode)) (z : KCode) (p : Nat), lawAt g p r z → p < 408
  | [], z, p, h => by have := h.2; omega
  | (a, b, t) :: r, z, p, h => by have := lawAt_lt g r z _ h.2; omega
theorem cpN_0 {m : Nat} (hm : m < 2 ^ 31) : cpN 0 m = 0 := by
  unfold cpN
  rw [if_neg (Int32.lt_irrefl), if_neg (nI_pos hm)]
  rfl
theorem evt_of {vs : Nat → Int32} {c : KCode} {x : Int32} (h : evc vs c [] = some [x]) : evt vs c = some x := by
  unfold evt
  rw [h]
theorem evt_none {vs : Nat → Int32} {c : KCode} (h : evc vs c [] = none) : evt vs c = none := by
  unfold evt
  rw [h]
theorem told_law {xs : List Int32} {d : Nat} {Q : Option Value → (Nat → List Value) → Prop} {P : Pl} {l M : Nat} {V : Nat → Nat} {g : Nat → Int32} (hM : 0 < M) (hM2 : M < 2 ^ 31) (z : KCode) : ∀ (r : List (KCode × KCode × KCode)) (p : Nat) (f : Nat → Int32) (σ : Nat → List Value), lawAt g p r z → wfl r z = true → CW P σ → ag σ 28 = g → σ 33 = arr 32 f → σ 34 = arrN 9 V → (∀ σ', Fr x33 σ σ' → CW P σ' → Q (some (.int (nI (cpN (evl (fun j => nI (V j)) r z) M)))) σ') → Wq xs (d + 1) ax_cd108 11 [(5, .int (nI (p))), (4, .int (nI (0))), (3, .ref 28), (0, .ref 32), (1, .int (nI l)), (2, .int (nI M))] [] σ Q := by
  have term : ∀ (t : KCode) (p : Nat) (f : Nat → Int32) (σ : Nat → List Value), wfc t 0 1 = true → codeAt g p (t ++ [(7, 0)]) → p + t.length < 408 → CW P σ → ag σ 28 = g → σ 33 = arr 32 f → σ 34 = arrN 9 V → (∀ σ', Fr x33 σ σ' → CW P σ' → Q (some (.int (nI (cpN ((evt (fun j => nI (V j)) t).getD 0) M)))) σ') → Wq xs (d + 1) ax_cd108 11 [(5, .int (nI (p))), (4, .int (nI (0))), (3, .ref 28), (0, .ref 32), (1, .int (nI l)), (2, .int (nI M))] [] σ Q := by
    intro t p f σ hw hc hp hC hg h33 h34 K
    obtain ⟨hc1, hc2⟩ := codeAt_app g t _ p hc
    refine told_code hM hM2 0 (by decide) t 0 1 p f σ hw (by decide) hp hC hg h33 h34 hc1 ?_ ?_
    · intro σ' hF hC' hn
      have := K σ' hF hC'
      rw [evt_none hn] at this
      rw [show (none : Option Int32).getD 0 = 0 from rfl, cpN_0 hM2] at this
      exact this
    · intro σ' f' hF hC' h33' hs
      have hg' : ag σ' 28 (p + t.length) = nI (8 * 0 + 7) := by
        rw [ag_eq (hF 28 (by decide)), hg]
        exact hc2.1
      refine told_ans hC' h33' (v9 := 0) (D := 0) hM hM2 hp hg' ?_
      have := K σ' hF hC'
      rw [evt_of hs] at this
      exact this
  intro r
  induction r with
  | nil =>
    intro p f σ hl hw hC hg h33 h34 K
    exact term z p f σ hw hl.1 (by have := hl.2; omega) hC hg h33 h34 K
  | cons q r ih =>
    obtain ⟨a, b, t⟩ := q
    intro p f σ hl hw hC hg h33 h34 K
    obtain ⟨hl1, hl2⟩ := hl
    have hlt := lawAt_lt g r z _ hl2
    simp only [wfl, Bool.and_eq_true] at hw
    obtain ⟨⟨⟨wa, wb⟩, wt⟩, wr⟩ := hw
    obtain ⟨ca, hl3⟩ := codeAt_app g a _ p hl1
    obtain ⟨cb, hl4⟩ := codeAt_app g b _ _ hl3
    obtain ⟨cl, ct⟩ := hl4
    have zero : ∀ σ', Fr x33 σ σ' → CW P σ' → evl (fun j => nI (V j)) ((a, b, t) :: r) z = 0 → Q (some (.int (nI 0))) σ' := by
      intro σ' hF hC' e
      have := K σ' hF hC'
      rw [e, cpN_0 hM2] at this
      exact this
    refine told_code hM hM2 0 (by decide) a 0 1 p f σ wa (by decide) (by omega) hC hg h33 h34 ca ?_ ?_
    · intro σ' hF hC' hn
      refine zero σ' hF hC' ?_
      rw [evl, evt_none hn]
    · intro σ1 f1 hF1 hC1 h331 hs1
      have e1 := evt_of hs1
      have hg1 : ag σ1 28 = g := (ag_fun (hF1 28 (by decide))).trans hg
      have h341 : σ1 34 = arrN 9 V := (hF1 34 (by decide)).trans h34
      refine told_code hM hM2 1 (by decide) b 0 1 (p + a.length) f1 σ1 wb (by decide) (by omega) hC1 hg1 h331 h341 cb ?_ ?_
      · intro σ' hF hC' hn
        refine zero σ' (fr_trans hF1 hF) hC' ?_
        rw [evt_some _ wb] at hn
        have e2 : evt (fun j => nI (V j)) b = none := by
          cases hb : evt (fun j => nI (V j)) b with
          | none => rfl
          | some x => rw [hb] at hn; cases hn
        rw [evl, e1, e2]
      · intro σ2 f2 hF2 hC2 h332 hs2
        have hg2 : ag σ2 28 = g := (ag_fun (hF2 28 (by decide))).trans hg1
        have h342 : σ2 34 = arrN 9 V := (hF2 34 (by decide)).trans h341
        rw [evt_some _ wb] at hs2
        obtain ⟨v, e2, e3⟩ : ∃ v, evt (fun j => nI (V j)) b = some v ∧ v :: stl f1 1 = stl f2 2 := by
          cases hb : evt (fun j => nI (V j)) b with
          | none => rw [hb] at hs2; cases hs2
          | some x =>
            rw [hb] at hs2
            simp only [Option.map_some, Option.some.injEq] at hs2
            exact ⟨x, rfl, hs2⟩
        simp only [stl, List.cons.injEq, and_true] at e3
        obtain ⟨e4, e5⟩ := e3
        have hF12 := fr_trans hF1 hF2
        refine told_less hC2 h332 (D := 0) (v := p + a.length + b.length + t.length + 2) hM hM2 (by omega) ?_ (by decide) (by omega) (by omega) ?_ ?_
        · rw [hg2]
          exact cl
        · intro hlt2
          refine term t (p + a.length + b.length + 1) f2 σ2 wt ct (by omega) hC2 hg2 h332 h342 ?_
          intro σ' hF hC'
          have := K σ' (fr_trans hF12 hF) hC'
          rw [evl, e1, e2] at this
          simp only at this
          rw [if_pos (by rw [e4, e5]; exact hlt2)] at this
          exact this
        · intro hnl
          refine ih (p + a.length + b.length + t.length + 2) f2 σ2 hl2 wr hC2 hg2 h332 h342 ?_
          intro σ' hF hC'
          have := K σ' (fr_trans hF12 hF) hC'
          rw [evl, e1, e2] at this
          simp only at this
          rw [if_neg (by rw [e4, e5]; exact hnl)] at this
          exact this
theorem tv_0 (L : KLaw) (V : Nat → Nat) : tv L V 0 = 0 := by
  have := cpN_le (x := evl (fun j => nI (V j)) L.1 L.2) (m := 0) (by decide)
  unfold tv
  omega
theorem c_told {xs : List Int32} {d : Nat} {σ : Nat → List Value} {Q : Option Value → (Nat → List Value) → Prop} {P : Pl} (hC : CW P σ) {l M : Nat} {V : Nat → Nat} (hl : l < 4) (hM2 : M < 2 ^ 31) (h34 : σ 34 = arrN 9 V) (K : ∀ σ', Fr x33 σ σ' → CW P σ' → Q (some (.int (nI (tv (Plw P l) V M)))) σ') : Wq xs (d + 1) ax_cd108 0 [(0, .ref 32), (1, .int (nI l)), (2, .int (nI M))] [] σ Q := by
  obtain ⟨s, hs, hlaw⟩ := cw_m29 hC l hl
  have hw := (cw_pok hC).2.2.2.2.2.2.2.2.2.2.2.2 l hl
  have hsl := lawAt_lt _ _ _ _ hlaw
  rcases Nat.eq_zero_or_pos M with h0 | hpos
  · subst h0
    refine wq_go rfl (fun _ => rfl) ?_
    refine wq_getf rfl (by first | rfl | assumption) (by first | decide | omega | assumption) (cw_c32 hC) rfl ?_
    refine wq_getfN rfl (by first | rfl | assumption) (by first | decide | omega | assumption) (cw_c21 hC) rfl ?_
    refine wq_go rfl (fun _ => rfl) ?_
    refine wq_cN (m := 0) rfl rfl ?_
    refine wq_go rfl (fun _ => rfl) ?_
    refine wq_go rfl (fun _ => rfl) ?_
    refine wq_getf rfl (by first | rfl | assumption) (by first | decide | omega | assumption) (cw_c32 hC) rfl ?_
    refine wq_go rfl (fun _ => rfl) ?_
    refine wq_callV rfl rfl (by first | rfl | assumption) (by first | decide | omega | assumption) (Nat.le_of_ble_eq_true rfl) (Nat.le_of_ble_eq_true rfl) rfl rfl ?_
    refine c_Plan_startOf hC hl hs ?_
    refine wq_go rfl (fun _ => rfl) ?_
    refine wq_go rfl (fun _ => rfl) ?_
    refine wq_zlt rfl (by first | omega | decide | exact Nat.lt_of_le_of_lt Nat.and_le_right (by decide) | exact ⟨by omega, by omega⟩) (fun c => absurd c (by omega)) (fun c12 => ?_)
    refine wq_go rfl (fun _ => rfl) ?_
    refine wq_go rfl (fun _ => rfl) ?_
    refine wq_alen rfl (by first | rfl | assumption) (by first | decide | omega | assumption) rfl (cw_c28 hC) (arr_len _ _) ?_
    refine wq_cge rfl (by first | omega | decide | exact Nat.lt_of_le_of_lt Nat.and_le_right (by decide) | exact ⟨by omega, by omega⟩) (by first | omega | decide | exact Nat.lt_of_le_of_lt Nat.and_le_right (by decide) | exact ⟨by omega, by omega⟩) (fun c => absurd c (by omega)) (fun c16 => ?_)
    refine wq_go rfl (fun _ => rfl) ?_
    refine wq_zle rfl (by first | omega | decide | exact Nat.lt_of_le_of_lt Nat.and_le_right (by decide) | exact ⟨by omega, by omega⟩) (fun c18 => ?_) (fun c => absurd (show _ from by omega) c)
    refine wq_cN (m := 0) rfl rfl ?_
    refine wq_iret rfl ?_
    rw [tv_0] at K
    exact K σ (fr_refl _ _) hC
  · skip
    refine wq_go rfl (fun _ => rfl) ?_
    refine wq_getf rfl (by first | rfl | assumption) (by first | decide | omega | assumption) (cw_c32 hC) rfl ?_
    refine wq_getfN rfl (by first | rfl | assumption) (by first | decide | omega | assumption) (cw_c21 hC) rfl ?_
    refine wq_go rfl (fun _ => rfl) ?_
    refine wq_cN (m := 0) rfl rfl ?_
    refine wq_go rfl (fun _ => rfl) ?_
    refine wq_go rfl (fun _ => rfl) ?_
    refine wq_getf rfl (by first | rfl | assumption) (by first | decide | omega | assumption) (cw_c32 hC) rfl ?_
    refine wq_go rfl (fun _ => rfl) ?_
    refine wq_callV rfl rfl (by first | rfl | assumption) (by first | decide | omega | assumption) (Nat.le_of_ble_eq_true rfl) (Nat.le_of_ble_eq_true rfl) rfl rfl ?_
    refine c_Plan_startOf hC hl hs ?_
    refine wq_go rfl (fun _ => rfl) ?_
    exact told_law hpos hM2 _ _ s _ σ hlaw hw hC rfl (cw_c33 hC) h34 K
def keptN (P : Pl) (S : St) (h c t : Nat) : Nat := tv (Plw P 0) (Vsit P S h c t) (Sow S (h * 4 + t))
def passN (P : Pl) (S : St) (h c t : Nat) : Nat := tv (Plw P 1) (Vsit P S h c t) (Ssq S (c * 4 + t))
def washN (P : Pl) (S : St) (c t : Nat) : Nat := tv (Plw P 2) (Vwash P S c t) (Ssq S (c * 4 + t))
def fadeN (P : Pl) (S : St) (h t : Nat) : Nat := tv (Plw P 3) (Vfade P S h t) (Sow S (h * 4 + t))
theorem tv_le {L : KLaw} {V : Nat → Nat} {m : Nat} (hm : m < 2 ^ 31) : tv L V m ≤ m := cpN_le hm
def gainZ (P : Pl) (S : St) (h c t : Nat) : Int := if (Ssc S).testBit c = true then 0 else (passN P S h c t : Int) - (keptN P S h c t : Int)
theorem x33_sc : ∀ j, x33 j = true → xsc j = true := by
  intro j h
  simp only [xsc, Bool.or_eq_true]
  exact Or.inl h
theorem x34_sc : ∀ j, x34 j = true → xsc j = true := by
  intro j h
  simp only [xsc, Bool.or_eq_true]
  exact Or.inr h
theorem cw_x34 {P : Pl} {σ σ' : Nat → List Value} {f : Nat → Nat} (h : CW P σ) (hF : Fr x34 σ σ') (h34 : σ' 34 = arrN 9 f) : CW P σ' :=
  cw_fr h hF (by decide) (isA_eq (hF 31 (by decide)) (cw_c31 h)) (isA_eq (hF 33 (by decide)) (cw_c33 h)) (isA_ofN h34) (isA_eq (hF 47 (by decide)) (cw_c47 h))

theorem c_House_keptOf {xs : List Int32} {d : Nat} {σ : Nat → List Value} {Q : Option Value → (Nat → List Value) → Prop} {k : Nat} {S : St} (hk : kd k = .inr 7) (hS : StIs σ k S) {P : Pl} (hC : CW P σ) (hok : Sok S) {h c t : Nat} (hh : h < Phd P) (hc : c < Pch P) (ht : t < 4) (K : ∀ σ', Fr xsc σ σ' → CW P σ' → Q (some (.int (nI (keptN P S h c t)))) σ') : Wq xs (d + 2) ax_cd104 0 [(0, .ref 30), (1, .ref k), (2, .int (nI h)), (3, .int (nI c)), (4, .int (nI t))] [] σ Q := by
  obtain ⟨hk1, hk2, hk3, hk4, hk5⟩ := St_k hk
  have hkr := St_rng hk
  have hPk := cw_pok hC
  obtain ⟨hP1, hP2, hP3, hP4, hP5, hP6, hP7, hP8, hPv, hPm, hPo, hPw, hPl⟩ := hPk
  have hhr := hok.2.1
  have hbo := ow_le hok (i := h * 4 + t) (by omega)
  have hbs := sq_le hok (i := c * 4 + t) (by omega)
  refine wq_go rfl (fun _ => rfl) ?_
  refine wq_getf rfl (by first | rfl | assumption) (by first | decide | omega | assumption) (cw_c30 hC) rfl ?_
  refine wq_go rfl (fun _ => rfl) ?_
  refine wq_go rfl (fun _ => rfl) ?_
  refine wq_go rfl (fun _ => rfl) ?_
  refine wq_go rfl (fun _ => rfl) ?_
  refine wq_callV rfl rfl (by first | rfl | assumption) (by first | decide | omega | assumption) (Nat.le_of_ble_eq_true rfl) (Nat.le_of_ble_eq_true rfl) rfl rfl ?_
  refine c_Laws_setSitting hk hS hC hok (by omega) (by omega) (by omega) (fun σ1 F1 V1 => ?_)
  have C1 := cw_x34 hC F1 V1
  have S1 := st_fr hS F1 (fun j h1 h2 => by have := St_rng hk; simp [x34]; omega)
  refine wq_go rfl (fun _ => rfl) ?_
  refine wq_getf rfl (by first | rfl | assumption) (by first | decide | omega | assumption) (cw_c30 C1) rfl ?_
  refine wq_cN (m := 0) rfl rfl ?_
  refine wq_go rfl (fun _ => rfl) ?_
  refine wq_go rfl (fun _ => rfl) ?_
  refine wq_go rfl (fun _ => rfl) ?_
  refine wq_callV rfl rfl (by first | rfl | assumption) (by first | decide | omega | assumption) (Nat.le_of_ble_eq_true rfl) (Nat.le_of_ble_eq_true rfl) rfl rfl ?_
  refine c_State_own hk S1 (by first | assumption | omega | decide) (by first | assumption | omega | decide) ?_
  refine wq_callV rfl rfl (by first | rfl | assumption) (by first | decide | omega | assumption) (Nat.le_of_ble_eq_true rfl) (Nat.le_of_ble_eq_true rfl) rfl rfl ?_
  refine c_told C1 (by decide) (by omega) V1 (fun σ3 F3 C3 => ?_)
  have S3 := st_sc hk (fr_mono F3 x33_sc) S1
  have V3 := (F3 34 (by decide)).trans V1
  refine wq_iret rfl ?_
  exact K _ (fr_trans (fr_mono F1 x34_sc) (fr_mono F3 x33_sc)) C3
theorem c_House_passedOf {xs : List Int32} {d : Nat} {σ : Nat → List Value} {Q : Option Value → (Nat → List Value) → Prop} {k : Nat} {S : St} (hk : kd k = .inr 7) (hS : StIs σ k S) {P : Pl} (hC : CW P σ) (hok : Sok S) {h c t : Nat} (hh : h < Phd P) (hc : c < Pch P) (ht : t < 4) (K : ∀ σ', Fr xsc σ σ' → CW P σ' → Q (some (.int (nI (passN P S h c t)))) σ') : Wq xs (d + 2) ax_cd111 0 [(0, .ref 30), (1, .ref k), (2, .int (nI h)), (3, .int (nI c)), (4, .int (nI t))] [] σ Q := by
  obtain ⟨hk1, hk2, hk3, hk4, hk5⟩ := St_k hk
  have hkr := St_rng hk
  have hPk := cw_pok hC
  obtain ⟨hP1, hP2, hP3, hP4, hP5, hP6, hP7, hP8, hPv, hPm, hPo, hPw, hPl⟩ := hPk
  have hhr := hok.2.1
  have hbo := ow_le hok (i := h * 4 + t) (by omega)
  have hbs := sq_le hok (i := c * 4 + t) (by omega)
  refine wq_go rfl (fun _ => rfl) ?_
  refine wq_getf rfl (by first | rfl | assumption) (by first | decide | omega | assumption) (cw_c30 hC) rfl ?_
  refine wq_go rfl (fun _ => rfl) ?_
  refine wq_go rfl (fun _ => rfl) ?_
  refine wq_go rfl (fun _ => rfl) ?_
  refine wq_go rfl (fun _ => rfl) ?_
  refine wq_callV rfl rfl (by first | rfl | assumption) (by first | decide | omega | assumption) (Nat.le_of_ble_eq_true rfl) (Nat.le_of_ble_eq_true rfl) rfl rfl ?_
  refine c_Laws_setSitting hk hS hC hok (by omega) (by omega) (by omega) (fun σ1 F1 V1 => ?_)
  have C1 := cw_x34 hC F1 V1
  have S1 := st_fr hS F1 (fun j h1 h2 => by have := St_rng hk; simp [x34]; omega)
  refine wq_go rfl (fun _ => rfl) ?_
  refine wq_getf rfl (by first | rfl | assumption) (by first | decide | omega | assumption) (cw_c30 C1) rfl ?_
  refine wq_cN (m := 1) rfl rfl ?_
  refine wq_go rfl (fun _ => rfl) ?_
  refine wq_go rfl (fun _ => rfl) ?_
  refine wq_go rfl (fun _ => rfl) ?_
  refine wq_callV rfl rfl (by first | rfl | assumption) (by first | decide | omega | assumption) (Nat.le_of_ble_eq_true rfl) (Nat.le_of_ble_eq_true rfl) rfl rfl ?_
  refine c_State_cloth hk S1 (by first | assumption | omega | decide) (by first | assumption | omega | decide) ?_
  refine wq_callV rfl rfl (by first | rfl | assumption) (by first | decide | omega | assumption) (Nat.le_of_ble_eq_true rfl) (Nat.le_of_ble_eq_true rfl) rfl rfl ?_
  refine c_told C1 (by decide) (by omega) V1 (fun σ3 F3 C3 => ?_)
  have S3 := st_sc hk (fr_mono F3 x33_sc) S1
  have V3 := (F3 34 (by decide)).trans V1
  refine wq_iret rfl ?_
  exact K _ (fr_trans (fr_mono F1 x34_sc) (fr_mono F3 x33_sc)) C3
theorem c_House_washedOf {xs : List Int32} {d : Nat} {σ : Nat → List Value} {Q : Option Value → (Nat → List Value) → Prop} {k : Nat} {S : St} (hk : kd k = .inr 7) (hS : StIs σ k S) {P : Pl} (hC : CW P σ) (hok : Sok S) {c t : Nat} (hc : c < Pch P) (ht : t < 4) (K : ∀ σ', Fr xsc σ σ' → CW P σ' → Q (some (.int (nI (washN P S c t)))) σ') : Wq xs (d + 2) ax_cd112 0 [(0, .ref 30), (1, .ref k), (2, .int (nI c)), (3, .int (nI t))] [] σ Q := by
  obtain ⟨hk1, hk2, hk3, hk4, hk5⟩ := St_k hk
  have hkr := St_rng hk
  have hPk := cw_pok hC
  obtain ⟨hP1, hP2, hP3, hP4, hP5, hP6, hP7, hP8, hPv, hPm, hPo, hPw, hPl⟩ := hPk
  have hhr := hok.2.1
  have hbs := sq_le hok (i := c * 4 + t) (by omega)
  refine wq_go rfl (fun _ => rfl) ?_
  refine wq_go rfl (fun _ => rfl) ?_
  refine wq_go rfl (fun _ => rfl) ?_
  refine wq_callV rfl rfl (by first | rfl | assumption) (by first | decide | omega | assumption) (Nat.le_of_ble_eq_true rfl) (Nat.le_of_ble_eq_true rfl) rfl rfl ?_
  refine c_State_cloth hk hS (by first | assumption | omega | decide) (by first | assumption | omega | decide) ?_
  refine wq_go rfl (fun _ => rfl) ?_
  refine wq_go rfl (fun _ => rfl) ?_
  refine wq_zgt rfl (by first | omega | decide | exact Nat.lt_of_le_of_lt Nat.and_le_right (by decide) | exact ⟨by omega, by omega⟩) (fun c6 => ?_) (fun c6 => ?_)
  · skip
    refine wq_go rfl (fun _ => rfl) ?_
    refine wq_getf rfl (by first | rfl | assumption) (by first | decide | omega | assumption) (cw_c30 hC) rfl ?_
    refine wq_go rfl (fun _ => rfl) ?_
    refine wq_go rfl (fun _ => rfl) ?_
    refine wq_go rfl (fun _ => rfl) ?_
    refine wq_callV rfl rfl (by first | rfl | assumption) (by first | decide | omega | assumption) (Nat.le_of_ble_eq_true rfl) (Nat.le_of_ble_eq_true rfl) rfl rfl ?_
    refine c_Laws_setWashing hk hS hC hok (by omega) (by omega) (fun σ2 F2 V2 => ?_)
    have C2 := cw_x34 hC F2 V2
    have S2 := st_fr hS F2 (fun j h1 h2 => by have := St_rng hk; simp [x34]; omega)
    refine wq_go rfl (fun _ => rfl) ?_
    refine wq_getf rfl (by first | rfl | assumption) (by first | decide | omega | assumption) (cw_c30 C2) rfl ?_
    refine wq_cN (m := 2) rfl rfl ?_
    refine wq_go rfl (fun _ => rfl) ?_
    refine wq_callV rfl rfl (by first | rfl | assumption) (by first | decide | omega | assumption) (Nat.le_of_ble_eq_true rfl) (Nat.le_of_ble_eq_true rfl) rfl rfl ?_
    refine c_told C2 (by decide) (by omega) V2 (fun σ3 F3 C3 => ?_)
    have S3 := st_sc hk (fr_mono F3 x33_sc) S2
    have V3 := (F3 34 (by decide)).trans V2
    refine wq_iret rfl ?_
    exact K _ (fr_trans (fr_mono F2 x34_sc) (fr_mono F3 x33_sc)) C3
  · skip
    refine wq_cN (m := 0) rfl rfl ?_
    refine wq_iret rfl ?_
    rw [show washN P S c t = 0 from by unfold washN; rw [show Ssq S (c * 4 + t) = 0 by omega]; exact tv_0 _ _] at K
    exact K _ (fr_refl xsc _) hC
theorem c_House_fadedOf {xs : List Int32} {d : Nat} {σ : Nat → List Value} {Q : Option Value → (Nat → List Value) → Prop} {k : Nat} {S : St} (hk : kd k = .inr 7) (hS : StIs σ k S) {P : Pl} (hC : CW P σ) (hok : Sok S) {h t : Nat} (hh : h < Phd P) (ht : t < 4) (K : ∀ σ', Fr xsc σ σ' → CW P σ' → Q (some (.int (nI (fadeN P S h t)))) σ') : Wq xs (d + 2) ax_cd114 0 [(0, .ref 30), (1, .ref k), (2, .int (nI h)), (3, .int (nI t))] [] σ Q := by
  obtain ⟨hk1, hk2, hk3, hk4, hk5⟩ := St_k hk
  have hkr := St_rng hk
  have hPk := cw_pok hC
  obtain ⟨hP1, hP2, hP3, hP4, hP5, hP6, hP7, hP8, hPv, hPm, hPo, hPw, hPl⟩ := hPk
  have hhr := hok.2.1
  have hbo := ow_le hok (i := h * 4 + t) (by omega)
  refine wq_go rfl (fun _ => rfl) ?_
  refine wq_go rfl (fun _ => rfl) ?_
  refine wq_go rfl (fun _ => rfl) ?_
  refine wq_callV rfl rfl (by first | rfl | assumption) (by first | decide | omega | assumption) (Nat.le_of_ble_eq_true rfl) (Nat.le_of_ble_eq_true rfl) rfl rfl ?_
  refine c_State_own hk hS (by first | assumption | omega | decide) (by first | assumption | omega | decide) ?_
  refine wq_go rfl (fun _ => rfl) ?_
  refine wq_go rfl (fun _ => rfl) ?_
  refine wq_zgt rfl (by first | omega | decide | exact Nat.lt_of_le_of_lt Nat.and_le_right (by decide) | exact ⟨by omega, by omega⟩) (fun c6 => ?_) (fun c6 => ?_)
  · skip
    refine wq_go rfl (fun _ => rfl) ?_
    refine wq_getf rfl (by first | rfl | assumption) (by first | decide | omega | assumption) (cw_c30 hC) rfl ?_
    refine wq_go rfl (fun _ => rfl) ?_
    refine wq_go rfl (fun _ => rfl) ?_
    refine wq_go rfl (fun _ => rfl) ?_
    refine wq_callV rfl rfl (by first | rfl | assumption) (by first | decide | omega | assumption) (Nat.le_of_ble_eq_true rfl) (Nat.le_of_ble_eq_true rfl) rfl rfl ?_
    refine c_Laws_setFading hk hS hC hok (by omega) (by omega) (fun σ2 F2 V2 => ?_)
    have C2 := cw_x34 hC F2 V2
    have S2 := st_fr hS F2 (fun j h1 h2 => by have := St_rng hk; simp [x34]; omega)
    refine wq_go rfl (fun _ => rfl) ?_
    refine wq_getf rfl (by first | rfl | assumption) (by first | decide | omega | assumption) (cw_c30 C2) rfl ?_
    refine wq_cN (m := 3) rfl rfl ?_
    refine wq_go rfl (fun _ => rfl) ?_
    refine wq_callV rfl rfl (by first | rfl | assumption) (by first | decide | omega | assumption) (Nat.le_of_ble_eq_true rfl) (Nat.le_of_ble_eq_true rfl) rfl rfl ?_
    refine c_told C2 (by decide) (by omega) V2 (fun σ3 F3 C3 => ?_)
    have S3 := st_sc hk (fr_mono F3 x33_sc) S2
    have V3 := (F3 34 (by decide)).trans V2
    refine wq_iret rfl ?_
    exact K _ (fr_trans (fr_mono F2 x34_sc) (fr_mono F3 x33_sc)) C3
  · skip
    refine wq_cN (m := 0) rfl rfl ?_
    refine wq_iret rfl ?_
    rw [show fadeN P S h t = 0 from by unfold fadeN; rw [show Sow S (h * 4 + t) = 0 by omega]; exact tv_0 _ _] at K
    exact K _ (fr_refl xsc _) hC
theorem gainZ_st {P : Pl} {S : St} {h c t : Nat} (e : (Ssc S).testBit c = true) : gainZ P S h c t = 0 := by
  unfold gainZ
  rw [if_pos e]
theorem gainZ_ns {P : Pl} {S : St} {h c t : Nat} (e : (Ssc S).testBit c = false) : gainZ P S h c t = (passN P S h c t : Int) - (keptN P S h c t : Int) := by
  unfold gainZ
  rw [if_neg (by rw [e]; decide)]
theorem gainZ_00 {P : Pl} {S : St} {h c t : Nat} (h1 : Ssq S (c * 4 + t) = 0) (h2 : Sow S (h * 4 + t) = 0) : gainZ P S h c t = 0 := by
  unfold gainZ passN keptN
  rw [h1, h2, tv_0, tv_0]
  simp
theorem c_House_gainOf {xs : List Int32} {d : Nat} {σ : Nat → List Value} {Q : Option Value → (Nat → List Value) → Prop} {k : Nat} {S : St} (hk : kd k = .inr 7) (hS : StIs σ k S) {P : Pl} (hC : CW P σ) (hok : Sok S) {h c t : Nat} (hh : h < Phd P) (hc : c < Pch P) (ht : t < 4) (K : ∀ σ', Fr xsc σ σ' → CW P σ' → Q (some (.int (zI (gainZ P S h c t)))) σ') : Wq xs (d + 2) ax_cd121 0 [(0, .ref 30), (1, .ref k), (2, .int (nI h)), (3, .int (nI c)), (4, .int (nI t))] [] σ Q := by
  obtain ⟨hk1, hk2, hk3, hk4, hk5⟩ := St_k hk
  have hkr := St_rng hk
  have hPk := cw_pok hC
  obtain ⟨hP1, hP2, hP3, hP4, hP5, hP6, hP7, hP8, hPv, hPm, hPo, hPw, hPl⟩ := hPk
  have hhr := hok.2.1
  have hbo := ow_le hok (i := h * 4 + t) (by omega)
  have hbs := sq_le hok (i := c * 4 + t) (by omega)
  have hsc := hok.2.2.1
  refine wq_go rfl (fun _ => rfl) ?_
  refine wq_go rfl (fun _ => rfl) ?_
  refine wq_go rfl (fun _ => rfl) ?_
  refine wq_callV rfl rfl (by first | rfl | assumption) (by first | decide | omega | assumption) (Nat.le_of_ble_eq_true rfl) (Nat.le_of_ble_eq_true rfl) rfl rfl ?_
  refine c_State_cloth hk hS (by first | assumption | omega | decide) (by first | assumption | omega | decide) ?_
  refine wq_go rfl (fun _ => rfl) ?_
  refine wq_go rfl (fun _ => rfl) ?_
  refine wq_go rfl (fun _ => rfl) ?_
  refine wq_go rfl (fun _ => rfl) ?_
  refine wq_callV rfl rfl (by first | rfl | assumption) (by first | decide | omega | assumption) (Nat.le_of_ble_eq_true rfl) (Nat.le_of_ble_eq_true rfl) rfl rfl ?_
  refine c_State_own hk hS (by first | assumption | omega | decide) (by first | assumption | omega | decide) ?_
  refine wq_go rfl (fun _ => rfl) ?_
  refine wq_go rfl (fun _ => rfl) ?_
  refine wq_go rfl (fun _ => rfl) ?_
  refine wq_callV rfl rfl (by first | rfl | assumption) (by first | decide | omega | assumption) (Nat.le_of_ble_eq_true rfl) (Nat.le_of_ble_eq_true rfl) rfl rfl ?_
  refine c_State_isStarched hk hS (by first | assumption | omega | decide) (by first | assumption | omega | decide) (fun b3 => ?_) (fun b3 => ?_)
  · skip
    refine wq_zne rfl (by first | omega | decide | exact Nat.lt_of_le_of_lt Nat.and_le_right (by decide) | exact ⟨by omega, by omega⟩) (fun c13 => ?_) (fun c => absurd (show _ from by omega) c)
    refine wq_cN (m := 0) rfl rfl ?_
    refine wq_iret rfl ?_
    first | rw [gainZ_st (by assumption)] at K | rw [gainZ_00 (by omega) (by omega)] at K
    exact K _ (fr_refl xsc _) hC
  · skip
    refine wq_zne rfl (by first | omega | decide | exact Nat.lt_of_le_of_lt Nat.and_le_right (by decide) | exact ⟨by omega, by omega⟩) (fun c => absurd c (by omega)) (fun c13 => ?_)
    refine wq_go rfl (fun _ => rfl) ?_
    refine wq_zgt rfl (by first | omega | decide | exact Nat.lt_of_le_of_lt Nat.and_le_right (by decide) | exact ⟨by omega, by omega⟩) (fun c15 => ?_) (fun c15 => ?_)
    · skip
      refine wq_go rfl (fun _ => rfl) ?_
      refine wq_getf rfl (by first | rfl | assumption) (by first | decide | omega | assumption) (cw_c30 hC) rfl ?_
      refine wq_go rfl (fun _ => rfl) ?_
      refine wq_go rfl (fun _ => rfl) ?_
      refine wq_go rfl (fun _ => rfl) ?_
      refine wq_go rfl (fun _ => rfl) ?_
      refine wq_callV rfl rfl (by first | rfl | assumption) (by first | decide | omega | assumption) (Nat.le_of_ble_eq_true rfl) (Nat.le_of_ble_eq_true rfl) rfl rfl ?_
      refine c_Laws_setSitting hk hS hC hok (by omega) (by omega) (by omega) (fun σ4 F4 V4 => ?_)
      have C4 := cw_x34 hC F4 V4
      have S4 := st_fr hS F4 (fun j h1 h2 => by have := St_rng hk; simp [x34]; omega)
      refine wq_go rfl (fun _ => rfl) ?_
      refine wq_getf rfl (by first | rfl | assumption) (by first | decide | omega | assumption) (cw_c30 C4) rfl ?_
      refine wq_cN (m := 1) rfl rfl ?_
      refine wq_go rfl (fun _ => rfl) ?_
      refine wq_callV rfl rfl (by first | rfl | assumption) (by first | decide | omega | assumption) (Nat.le_of_ble_eq_true rfl) (Nat.le_of_ble_eq_true rfl) rfl rfl ?_
      refine c_told C4 (by decide) (by omega) V4 (fun σ5 F5 C5 => ?_)
      have S5 := st_sc hk (fr_mono F5 x33_sc) S4
      have V5 := (F5 34 (by decide)).trans V4
      refine wq_go rfl (fun _ => rfl) ?_
      refine wq_getf rfl (by first | rfl | assumption) (by first | decide | omega | assumption) (cw_c30 C5) rfl ?_
      refine wq_cN (m := 0) rfl rfl ?_
      refine wq_go rfl (fun _ => rfl) ?_
      refine wq_callV rfl rfl (by first | rfl | assumption) (by first | decide | omega | assumption) (Nat.le_of_ble_eq_true rfl) (Nat.le_of_ble_eq_true rfl) rfl rfl ?_
      refine c_told C5 (by decide) (by omega) V5 (fun σ6 F6 C6 => ?_)
      have S6 := st_sc hk (fr_mono F6 x33_sc) S5
      have V6 := (F6 34 (by decide)).trans V5
      refine wq_subZ rfl (nI_z _) (nI_z _) ?_
      refine wq_iret rfl ?_
      rw [gainZ_ns (by assumption)] at K
      exact K _ (fr_trans (fr_trans (fr_mono F4 x34_sc) (fr_mono F5 x33_sc)) (fr_mono F6 x33_sc)) C6
    · skip
      refine wq_go rfl (fun _ => rfl) ?_
      refine wq_zgt rfl (by first | omega | decide | exact Nat.lt_of_le_of_lt Nat.and_le_right (by decide) | exact ⟨by omega, by omega⟩) (fun c17 => ?_) (fun c17 => ?_)
      · skip
        refine wq_go rfl (fun _ => rfl) ?_
        refine wq_getf rfl (by first | rfl | assumption) (by first | decide | omega | assumption) (cw_c30 hC) rfl ?_
        refine wq_go rfl (fun _ => rfl) ?_
        refine wq_go rfl (fun _ => rfl) ?_
        refine wq_go rfl (fun _ => rfl) ?_
        refine wq_go rfl (fun _ => rfl) ?_
        refine wq_callV rfl rfl (by first | rfl | assumption) (by first | decide | omega | assumption) (Nat.le_of_ble_eq_true rfl) (Nat.le_of_ble_eq_true rfl) rfl rfl ?_
        refine c_Laws_setSitting hk hS hC hok (by omega) (by omega) (by omega) (fun σ7 F7 V7 => ?_)
        have C7 := cw_x34 hC F7 V7
        have S7 := st_fr hS F7 (fun j h1 h2 => by have := St_rng hk; simp [x34]; omega)
        refine wq_go rfl (fun _ => rfl) ?_
        refine wq_getf rfl (by first | rfl | assumption) (by first | decide | omega | assumption) (cw_c30 C7) rfl ?_
        refine wq_cN (m := 1) rfl rfl ?_
        refine wq_go rfl (fun _ => rfl) ?_
        refine wq_callV rfl rfl (by first | rfl | assumption) (by first | decide | omega | assumption) (Nat.le_of_ble_eq_true rfl) (Nat.le_of_ble_eq_true rfl) rfl rfl ?_
        refine c_told C7 (by decide) (by omega) V7 (fun σ8 F8 C8 => ?_)
        have S8 := st_sc hk (fr_mono F8 x33_sc) S7
        have V8 := (F8 34 (by decide)).trans V7
        refine wq_go rfl (fun _ => rfl) ?_
        refine wq_getf rfl (by first | rfl | assumption) (by first | decide | omega | assumption) (cw_c30 C8) rfl ?_
        refine wq_cN (m := 0) rfl rfl ?_
        refine wq_go rfl (fun _ => rfl) ?_
        refine wq_callV rfl rfl (by first | rfl | assumption) (by first | decide | omega | assumption) (Nat.le_of_ble_eq_true rfl) (Nat.le_of_ble_eq_true rfl) rfl rfl ?_
        refine c_told C8 (by decide) (by omega) V8 (fun σ9 F9 C9 => ?_)
        have S9 := st_sc hk (fr_mono F9 x33_sc) S8
        have V9 := (F9 34 (by decide)).trans V8
        refine wq_subZ rfl (nI_z _) (nI_z _) ?_
        refine wq_iret rfl ?_
        rw [gainZ_ns (by assumption)] at K
        exact K _ (fr_trans (fr_trans (fr_mono F7 x34_sc) (fr_mono F8 x33_sc)) (fr_mono F9 x33_sc)) C9
      · skip
        refine wq_cN (m := 0) rfl rfl ?_
        refine wq_iret rfl ?_
        first | rw [gainZ_st (by assumption)] at K | rw [gainZ_00 (by omega) (by omega)] at K
        exact K _ (fr_refl xsc _) hC
