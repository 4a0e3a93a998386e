/-! THE SYSTEM: what both sides stand for -/
abbrev Sy : Type := Pl × St × (Nat → St) × Nat × (Nat → St) × Nat × Tl × (Nat → Int32) × Nat × Int32
def AP (A : Sy) : Pl := A.1
def AS (A : Sy) : St := A.2.1
def AH (A : Sy) : Nat → St := A.2.2.1
def An (A : Sy) : Nat := A.2.2.2.1
def AZ (A : Sy) : Nat → St := A.2.2.2.2.1
def Ah (A : Sy) : Nat := A.2.2.2.2.2.1
def AT (A : Sy) : Tl := A.2.2.2.2.2.2.1
def Ab (A : Sy) : Nat → Int32 := A.2.2.2.2.2.2.2.1
def Al (A : Sy) : Nat := A.2.2.2.2.2.2.2.2.1
def Ap (A : Sy) : Int32 := A.2.2.2.2.2.2.2.2.2
/-- a state that n calls can have made -/
def Sfu (n : Nat) (P : Pl) (S : St) : Prop := Sok S ∧ Shr S ≤ 72 * n ∧ Zq P S ∧ sumF (Ssi S) 4 = sumF (Ssb S) 5
def Aok (n : Nat) (A : Sy) : Prop := Pok (AP A) ∧ Sfu n (AP A) (AS A) ∧ (∀ j, j < An A → Sfu n (AP A) (AH A j)) ∧ (∀ s, s < 3 → (Ah A).testBit s = true → Sfu n (AP A) (AZ A s)) ∧ An A ≤ 40 ∧ Ah A < 8 ∧ Tok (AP A) (AT A) ∧ Al A ≤ 2000
theorem sfu_s {n : Nat} {P : Pl} {S : St} (h : Sfu n P S) : Sfu (n + 1) P S := ⟨h.1, by have := h.2.1; omega, h.2.2.1, h.2.2.2⟩
theorem aok_s {n : Nat} {A : Sy} (h : Aok n A) : Aok (n + 1) A := ⟨h.1, sfu_s h.2.1, fun j hj => sfu_s (h.2.2.1 j hj), fun s hs hb => sfu_s (h.2.2.2.1 s hs hb), h.2.2.2.2⟩
/-! the class's side -/
def HyIs (σ : Nat → List Value) (nx n : Nat) (H : Nat → St) : Prop := nx < 40 ∧ σ 68 = [.ref 69, .int (nI nx), .int (nI n)] ∧ σ 69 = hyR ∧ (∀ i, i < 40 → ∃ S', StIs σ (70 + 5 * i) S') ∧ ∀ j, j < n → StIs σ (70 + 5 * ((nx + 40 - n + j) % 40)) (H j)
def SlIs (σ : Nat → List Value) (Z : Nat → St) (hl : Nat) : Prop := σ 270 = [.ref 271, .int (nI hl)] ∧ σ 271 = slR ∧ (∀ s, s < 3 → ∃ S', StIs σ (272 + 5 * s) S') ∧ ∀ s, s < 3 → hl.testBit s = true → StIs σ (272 + 5 * s) (Z s)
def TpIs (σ : Nat → List Value) (b : Nat → Int32) (l : Nat) : Prop := ∃ f, σ 1 = [.ref 2, .int (nI l)] ∧ σ 2 = arr 2000 f ∧ ∀ j, j < l → f j = b j
def kwL (j : Nat) : Int64 := ([1752777, 161140, 11882963, 5948362, 230501935, 330936265, 3211399, 194785936, 375400, 267362, 377761, 249, 399641, 107681, 260045, 11190, 7871591333, 1842002, 11570, 168984, 13898, 12387257, 1065] : List Int64).getD j 0
def DrIs (σ : Nat → List Value) : Prop := (∃ y : Nat → Int32, σ 4 = [.ref 5, .ref 6, .ref 7, .ref 8, .ref 9, .ref 10, .ref 11, .ref 12, .int (y 0), .int (y 1), .int (y 2), .int (y 3), .int (y 4), .int (y 5), .int (y 6), .int (y 7)]) ∧ IsA σ 5 4 ∧ IsA σ 6 5 ∧ IsA σ 7 20 ∧ IsA σ 8 10 ∧ IsA σ 9 10 ∧ IsA σ 10 10 ∧ IsA σ 11 408 ∧ IsA σ 12 4
def IsL (σ : Nat → List Value) (p n : Nat) : Prop := ∃ f, σ p = arrL n f
theorem isL_eq {σ σ' : Nat → List Value} {p n : Nat} (e : σ' p = σ p) (h : IsL σ p n) : IsL σ' p n := by
  obtain ⟨f, h⟩ := h
  exact ⟨f, e.trans h⟩
def TkIs (σ : Nat → List Value) : Prop := IsL σ 13 4 ∧ IsL σ 14 5 ∧ (∃ s n : Int32, σ 15 = [.ref 1, .ref 16, .ref 17, .ref 18, .ref 19, .ref 20, .int s, .int n]) ∧ σ 16 = arrL 23 kwL ∧ IsA σ 17 401 ∧ IsA σ 18 401 ∧ IsA σ 19 401 ∧ IsL σ 20 401
def RdIs (σ : Nat → List Value) (pl : Int32) : Prop := (∃ x0 x1 x2 x3 x4 : Int32, σ 3 = [.ref 15, .ref 4, .ref 13, .ref 14, .int x0, .int x1, .int x2, .int x3, .int x4, .int pl]) ∧ DrIs σ ∧ TkIs σ
def CR (A : Sy) (σ : Nat → List Value) : Prop := HsIs σ (AT A) ∧ (∃ nx, HyIs σ nx (An A) (AH A)) ∧ SlIs σ (AZ A) (Ah A) ∧ TpIs σ (Ab A) (Al A) ∧ RdIs σ (Ap A)
def CI (A : Sy) (σ : Nat → List Value) : Prop := CW (AP A) σ ∧ StIs σ 35 (AS A) ∧ (∃ S', StIs σ 41 S') ∧ Sts σ 0 ∧ CR A σ
theorem st_eq {σ σ' : Nat → List Value} {k : Nat} {S : St} (h : StIs σ k S) (e : ∀ j, k ≤ j → j ≤ k + 4 → σ' j = σ j) : StIs σ' k S := by
  obtain ⟨h0, h1, h2, h3, h4⟩ := h
  exact ⟨(e k (by omega) (by omega)).trans h0, (e _ (by omega) (by omega)).trans h1, (e _ (by omega) (by omega)).trans h2, (e _ (by omega) (by omega)).trans h3, (e _ (by omega) (by omega)).trans h4⟩
theorem hs_eq {σ σ' : Nat → List Value} {T : Tl} (h : HsIs σ T) (e : ∀ j, 63 ≤ j → j ≤ 67 → σ' j = σ j) : HsIs σ' T := by
  obtain ⟨h0, h1, h2, h3, h4⟩ := h
  exact ⟨(e 63 (by omega) (by omega)).trans h0, (e 64 (by omega) (by omega)).trans h1, (e 65 (by omega) (by omega)).trans h2, (e 66 (by omega) (by omega)).trans h3, (e 67 (by omega) (by omega)).trans h4⟩
theorem hy_eq {σ σ' : Nat → List Value} {nx n : Nat} {H : Nat → St} (h : HyIs σ nx n H) (e : ∀ j, 68 ≤ j → j ≤ 269 → σ' j = σ j) : HyIs σ' nx n H := by
  obtain ⟨h0, h1, h2, h3, h4⟩ := h
  refine ⟨h0, (e 68 (by omega) (by omega)).trans h1, (e 69 (by omega) (by omega)).trans h2, fun i hi => ?_, fun j hj => ?_⟩
  · obtain ⟨S', hS⟩ := h3 i hi
    exact ⟨S', st_eq hS (fun j h1 h2 => e j (by omega) (by omega))⟩
  · have hm : (nx + 40 - n + j) % 40 < 40 := Nat.mod_lt _ (by decide)
    exact st_eq (h4 j hj) (fun q h1 h2 => e q (by omega) (by omega))
theorem sl_eq {σ σ' : Nat → List Value} {Z : Nat → St} {hl : Nat} (h : SlIs σ Z hl) (e : ∀ j, 270 ≤ j → j ≤ 286 → σ' j = σ j) : SlIs σ' Z hl := by
  obtain ⟨h1, h2, h3, h4⟩ := h
  refine ⟨(e 270 (by omega) (by omega)).trans h1, (e 271 (by omega) (by omega)).trans h2, fun i hi => ?_, fun j hj hb => ?_⟩
  · obtain ⟨S', hS⟩ := h3 i hi
    exact ⟨S', st_eq hS (fun j h1 h2 => e j (by omega) (by omega))⟩
  · exact st_eq (h4 j hj hb) (fun q h1 h2 => e q (by omega) (by omega))
theorem tp_eq {σ σ' : Nat → List Value} {b : Nat → Int32} {l : Nat} (h : TpIs σ b l) (e : ∀ j, 1 ≤ j → j ≤ 2 → σ' j = σ j) : TpIs σ' b l := by
  obtain ⟨f, h1, h2, h3⟩ := h
  exact ⟨f, (e 1 (by omega) (by omega)).trans h1, (e 2 (by omega) (by omega)).trans h2, h3⟩
theorem rd_eq {σ σ' : Nat → List Value} {pl : Int32} (h : RdIs σ pl) (e : ∀ j, 3 ≤ j → j ≤ 20 → σ' j = σ j) : RdIs σ' pl := by
  obtain ⟨⟨x0, x1, x2, x3, x4, h1⟩, ⟨⟨y, d0⟩, d1, d2, d3, d4, d5, d6, d7, d8⟩, t1, t2, ⟨s, n, t3⟩, t4, t5, t6, t7, t8⟩ := h
  exact ⟨⟨x0, x1, x2, x3, x4, (e 3 (by omega) (by omega)).trans h1⟩, ⟨⟨y, (e 4 (by omega) (by omega)).trans d0⟩, isA_eq (e 5 (by omega) (by omega)) d1, isA_eq (e 6 (by omega) (by omega)) d2, isA_eq (e 7 (by omega) (by omega)) d3, isA_eq (e 8 (by omega) (by omega)) d4, isA_eq (e 9 (by omega) (by omega)) d5, isA_eq (e 10 (by omega) (by omega)) d6, isA_eq (e 11 (by omega) (by omega)) d7, isA_eq (e 12 (by omega) (by omega)) d8⟩, isL_eq (e 13 (by omega) (by omega)) t1, isL_eq (e 14 (by omega) (by omega)) t2, ⟨s, n, (e 15 (by omega) (by omega)).trans t3⟩, (e 16 (by omega) (by omega)).trans t4, isA_eq (e 17 (by omega) (by omega)) t5, isA_eq (e 18 (by omega) (by omega)) t6, isA_eq (e 19 (by omega) (by omega)) t7, isL_eq (e 20 (by omega) (by omega)) t8⟩
theorem cr_eq {A : Sy} {σ σ' : Nat → List Value} (h : CR A σ) (e : ∀ j, (1 ≤ j ∧ j ≤ 20) ∨ (63 ≤ j ∧ j ≤ 286) → σ' j = σ j) : CR A σ' := by
  obtain ⟨h1, ⟨nx, h2⟩, h3, h4, h5⟩ := h
  exact ⟨hs_eq h1 (fun j a b => e j (by omega)), ⟨nx, hy_eq h2 (fun j a b => e j (by omega))⟩, sl_eq h3 (fun j a b => e j (by omega)), tp_eq h4 (fun j a b => e j (by omega)), rd_eq h5 (fun j a b => e j (by omega))⟩
def Hi (σ σ' : Nat → List Value) : Prop := ∀ j, 287 ≤ j → σ' j = σ j
theorem hi_refl (σ : Nat → List Value) : Hi σ σ := fun _ _ => rfl
theorem hi_trans {σ σ' σ'' : Nat → List Value} (h : Hi σ σ') (h' : Hi σ' σ'') : Hi σ σ'' := fun j hj => (h' j hj).trans (h j hj)
/-- frames that keep all but the scratch -/
def scr (X : Nat → Bool) : Prop := ∀ j, (j ≤ 20 ∨ 63 ≤ j ∨ (35 ≤ j ∧ j ≤ 39)) → X j = false
theorem scr_sc : scr xsc := by
  intro j h
  have a2 : (j == 33) = false := by simp; omega
  have a3 : (j == 34) = false := by simp; omega
  simp only [xsc, a2, a3, Bool.or_false]
theorem scr_41 : scr (xS 41) := by
  intro j h
  have a1 : (j == 31) = false := by simp; omega
  have a2 : (j == 33) = false := by simp; omega
  have a3 : (j == 34) = false := by simp; omega
  have a4 : inS 41 j = false := by
    unfold inS
    rcases Nat.lt_or_ge j 41 with h | h
    · rw [show Nat.ble 41 j = false from ble_f h]; rfl
    · rw [show Nat.ble j (41 + 4) = false from ble_f (by omega)]; simp
  simp only [xS, a1, a2, a3, a4, Bool.or_false]
theorem scr_F : scr (xF 0) := by
  intro j h
  have a1 : (j == 31) = false := by simp; omega
  have a2 : (j == 33) = false := by simp; omega
  have a3 : (j == 34) = false := by simp; omega
  have a4 : (j == 47) = false := by simp; omega
  have a5 : (Nat.ble (48 + 5 * 0) j && Nat.ble j 62) = false := by
    rcases Nat.lt_or_ge j 48 with h | h
    · rw [show Nat.ble (48 + 5 * 0) j = false from ble_f (by omega)]; rfl
    · rw [show Nat.ble j 62 = false from ble_f (by omega)]; simp
  simp only [xF, a1, a2, a3, a4, a5, Bool.or_false]
theorem hi_scr {σ σ' : Nat → List Value} {X : Nat → Bool} (hX : scr X) (h : Fr X σ σ') : Hi σ σ' := fun j hj => h j (hX j (by omega))
theorem ci_sc {A : Sy} {σ σ' : Nat → List Value} (h : CI A σ) (hF : Fr xsc σ σ') (hC : CW (AP A) σ') : CI A σ' := by
  obtain ⟨_, h2, ⟨S', h3⟩, h4, h5⟩ := h
  refine ⟨hC, st_sc rfl hF h2, ⟨S', st_sc rfl hF h3⟩, sts_fr h4 (fr_mono hF xsc_P), cr_eq h5 (fun j hj => hF j (scr_sc j (by omega)))⟩
theorem ci_41 {A : Sy} {σ σ' : Nat → List Value} {S' : St} (h : CI A σ) (hF : Fr (xS 41) σ σ') (hC : CW (AP A) σ') (hT : StIs σ' 41 S') : CI A σ' := by
  obtain ⟨_, h2, _, h4, h5⟩ := h
  refine ⟨hC, st_S rfl rfl (by decide) hF h2, ⟨S', hT⟩, fun e h1 h2 => ?_, cr_eq h5 (fun j hj => hF j (scr_41 j (by omega)))⟩
  obtain ⟨S2, hS⟩ := h4 e h1 h2
  exact ⟨S2, st_S (kn_7 h2 rfl) rfl (by omega) hF hS⟩
theorem ci_F {A : Sy} {σ σ' : Nat → List Value} (h : CI A σ) (hF : Fr (xF 0) σ σ') (hC : CW (AP A) σ') (hT : Sts σ' 0) : CI A σ' := by
  obtain ⟨_, h2, ⟨S', h3⟩, _, h5⟩ := h
  exact ⟨hC, st_F rfl (by decide) hF h2, ⟨S', st_F rfl (by decide) hF h3⟩, hT, cr_eq h5 (fun j hj => hF j (scr_F j (by omega)))⟩
theorem ci_lo {A : Sy} {σ σ' : Nat → List Value} (h : CI A σ) (e : ∀ j, j < 287 → σ' j = σ j) : CI A σ' := by
  obtain ⟨h1, h2, ⟨S', h3⟩, h4, h5⟩ := h
  have hF : Fr (fun j => Nat.ble 287 j) σ σ' := fun j hj => e j (by
    rcases Nat.lt_or_ge j 287 with q | q
    · exact q
    · have hj : Nat.ble 287 j = false := hj
      rw [Nat.ble_eq_true_of_le q] at hj; cases hj)
  refine ⟨cw_fr h1 hF (by decide) (isA_eq (e 31 (by decide)) (cw_c31 h1)) (isA_eq (e 33 (by decide)) (cw_c33 h1)) (isA_eq (e 34 (by decide)) (cw_c34 h1)) (isA_eq (e 47 (by decide)) (cw_c47 h1)), st_eq h2 (fun j _ _ => e j (by omega)), ⟨S', st_eq h3 (fun j _ _ => e j (by omega))⟩, fun q q1 q2 => ?_, cr_eq h5 (fun j hj => e j (by omega))⟩
  obtain ⟨S2, hS⟩ := h4 q q1 q2
  exact ⟨S2, st_eq hS (fun j _ _ => e j (by omega))⟩
/-! the reference's side -/
def MR (A : Sy) (g : Nat → Int32) (σ : Nat → List Value) : Prop := NwIs σ (AS A) ∧ g 57 = nI (An A) ∧ (∃ f, σ 325 = arr 2440 f ∧ ∀ j, j < An A → ∀ k, k < 61 → f (61 * j + k) = nI (rowF (AH A j) k)) ∧ g 59 = nI (Tn (AT A)) ∧ (∃ f, σ 326 = arr 20 f ∧ ∀ j, j < Tn (AT A) → f j = nI (4 * Tc (AT A) j + Tt (AT A) j)) ∧ (∃ f, σ 327 = arr 20 f ∧ ∀ j, j < Tn (AT A) → f j = nI (Ta (AT A) j)) ∧ (∃ f, σ 328 = arr 20 f ∧ ∀ j, j < Tn (AT A) → f j = nI (Ts (AT A) j)) ∧ σ 329 = arrN 3 (bitN (Ah A)) ∧ (∃ f, σ 330 = arr 183 f ∧ ∀ s, s < 3 → (Ah A).testBit s = true → ∀ k, k < 61 → f (61 * s + k) = nI (rowF (AZ A s) k)) ∧ g 17 = Ap A ∧ g 2 = nI (Al A) ∧ (∃ f, σ 288 = arr 2000 f ∧ ∀ j, j < Al A → f j = Ab A j)
/-- two tables of branches and codes that agree where the plan of side L lies -/
def agL (L : Nat) (G G' : Nat → Nat → Int32) : Prop := (∀ j i, j < 5 → 130 * L ≤ i → i < 130 * L + 130 → G' j i = G j i) ∧ (∀ j i, 5 ≤ j → 420 * L ≤ i → i < 420 * L + 420 → G' j i = G j i)
/-- the laws of the plan at hand lie on its side -/
def lwR (P : Pl) (L : Nat) (σ : Nat → List Value) : Prop := ∀ l, l < 4 → ∃ f e, ag σ 310 (4 * L + l) = nI f ∧ ag σ 311 (4 * L + l) = nI e ∧ f ≤ 260 ∧ e ≤ 260 ∧ ∀ G', agL L (brG σ) G' → ((f = e ∧ Plw P l = dfl l) ∨ brAt G' f e (Plw P l).1 (Plw P l).2)
theorem lwR_eq {P : Pl} {L : Nat} {σ σ' : Nat → List Value} (h : lwR P L σ) (e : ∀ j, 310 ≤ j → j ≤ 318 → σ' j = σ j) : lwR P L σ' := by
  have eb := brG_eq (e 312 (by omega) (by omega)) (e 313 (by omega) (by omega)) (e 314 (by omega) (by omega)) (e 315 (by omega) (by omega)) (e 316 (by omega) (by omega)) (e 317 (by omega) (by omega)) (e 318 (by omega) (by omega))
  intro l hl
  obtain ⟨f, e', h1, h2, h3, h4, h5⟩ := h l hl
  refine ⟨f, e', (ag_eq (e 310 (by omega) (by omega)) _).trans h1, (ag_eq (e 311 (by omega) (by omega)) _).trans h2, h3, h4, ?_⟩
  rw [eb]
  exact h5
def MT (P : Pl) (L : Nat) (σ : Nat → List Value) : Prop := IsA σ 289 2000 ∧ IsA σ 290 403 ∧ IsA σ 291 403 ∧ IsA σ 292 403 ∧ IsL σ 293 403 ∧ σ 294 = arrL 23 kwL ∧ IsL σ 295 9 ∧ IsA σ 296 9 ∧ IsA σ 319 64 ∧ lwR P L σ
def MI (A : Sy) (σ : Nat → List Value) : Prop := ∃ L g, MD (AP A) L g σ ∧ MR A g σ ∧ MT (AP A) L σ
def yM : Nat → Bool := fun b => b == 51 || b == 54 || b == 55
theorem mr_eq {A : Sy} {g g' : Nat → Int32} {σ σ' : Nat → List Value} (h : MR A g σ) (hG : FrG yC g g') (e : ∀ j, j = 322 ∨ j = 288 ∨ (325 ≤ j ∧ j ≤ 330) → σ' j = σ j) : MR A g' σ' := by
  obtain ⟨h1, h2, ⟨f3, h3, h3'⟩, h4, ⟨f5, h5, h5'⟩, ⟨f6, h6, h6'⟩, ⟨f7, h7, h7'⟩, h8, ⟨f9, h9, h9'⟩, h10, h11, ⟨f12, h12, h12'⟩⟩ := h
  exact ⟨(e 322 (by omega)).trans h1, (hG 57 rfl).trans h2, ⟨f3, (e 325 (by omega)).trans h3, h3'⟩, (hG 59 rfl).trans h4, ⟨f5, (e 326 (by omega)).trans h5, h5'⟩, ⟨f6, (e 327 (by omega)).trans h6, h6'⟩, ⟨f7, (e 328 (by omega)).trans h7, h7'⟩, (e 329 (by omega)).trans h8, ⟨f9, (e 330 (by omega)).trans h9, h9'⟩, (hG 17 rfl).trans h10, (hG 2 rfl).trans h11, ⟨f12, (e 288 (by omega)).trans h12, h12'⟩⟩
theorem mt_eq {P : Pl} {L : Nat} {σ σ' : Nat → List Value} (h : MT P L σ) (e : ∀ j, (289 ≤ j ∧ j ≤ 296) ∨ j = 319 ∨ (310 ≤ j ∧ j ≤ 318) → σ' j = σ j) : MT P L σ' := by
  obtain ⟨h1, h2, h3, h4, h5, h6, h7, h8, h9, h10⟩ := h
  exact ⟨isA_eq (e 289 (by omega)) h1, isA_eq (e 290 (by omega)) h2, isA_eq (e 291 (by omega)) h3, isA_eq (e 292 (by omega)) h4, isL_eq (e 293 (by omega)) h5, (e 294 (by omega)).trans h6, isL_eq (e 295 (by omega)) h7, isA_eq (e 296 (by omega)) h8, isA_eq (e 319 (by omega)) h9, lwR_eq h10 (fun j a b => e j (by omega))⟩
theorem mi_hi {A : Sy} {σ σ' : Nat → List Value} (h : MI A σ) (e : Hi σ σ') : MI A σ' := by
  obtain ⟨L, g, h1, h2, h3⟩ := h
  have hF : Fr (fun j => !(Nat.ble 287 j)) σ σ' := fun j hj => e j (by
    rcases Nat.lt_or_ge j 287 with q | q
    · have hj : (!Nat.ble 287 j) = false := hj
      rw [ble_f q] at hj; cases hj
    · exact q)
  exact ⟨L, g, md_fr h1 hF (by decide) ((e 287 (by omega)).trans (md_o h1)) rfl (isA_eq (e 320 (by omega)) (md_c320 h1)) (isA_eq (e 321 (by omega)) (md_c321 h1)) (isA_eq (e 324 (by omega)) (md_c324 h1)) (isA_eq (e 322 (by omega)) (md_c322 h1)) (isA_eq (e 323 (by omega)) (md_c323 h1)), mr_eq h2 (fg_refl _ _) (fun j hj => e j (by omega)), mt_eq h3 (fun j hj => e j (by omega))⟩
/-- all that the calls keep -/
def Inv (n : Nat) (σ : Nat → List Value) : Prop := ∃ A, Aok n A ∧ CI A σ ∧ MI A σ
def Lo (σ σ' : Nat → List Value) : Prop := ∀ j, j < 287 → σ' j = σ j
theorem lo_fr {σ σ' : Nat → List Value} {X : Nat → Bool} (h : Fr X σ σ') (hX : ∀ j, j < 287 → X j = false) : Lo σ σ' := fun j hj => h j (hX j hj)
/-- what a call of the class owes, what one of the reference -/
def COk (cd : List ax_I) (as : List Value) (A A' : Sy) (v : Int32) : Prop := ∀ (xs : List Int32) (d : Nat) (σ : Nat → List Value) (Q : Option Value → (Nat → List Value) → Prop), CI A σ → (∀ σ', Hi σ σ' → CI A' σ' → Q (some (.int v)) σ') → Wq xs (d + 12) cd 0 (lv_args 0 (.ref 0 :: as)) [] σ Q
def MOk (cd : List ax_I) (as : List Value) (A A' : Sy) (v : Int32) : Prop := ∀ (xs : List Int32) (d : Nat) (σ : Nat → List Value) (Q : Option Value → (Nat → List Value) → Prop), MI A σ → (∀ σ', Lo σ σ' → MI A' σ' → Q (some (.int v)) σ') → Wq xs (d + 12) cd 0 (lv_args 0 (.ref 287 :: as)) [] σ Q
theorem pair_AB {c1 c2 : List ax_I} {as : List Value} (h : ∀ n A, n < 512 → Aok n A → ∃ A' v, Aok (n + 1) A' ∧ COk c1 as A A' v ∧ MOk c2 as A A' v) : PairOK Inv c1 c2 as := by
  apply pair_of
  intro xs n σ hn ⟨A, hA, hC, hM⟩
  obtain ⟨A', v, hA', h1, h2⟩ := h n A hn hA
  refine h1 xs 47 σ _ hC (fun σ' hH hC' => ⟨v, rfl, ?_⟩)
  exact h2 xs 47 σ' _ (mi_hi hM hH) (fun σ'' hL hM' => ⟨rfl, A', hA', ci_lo hC' hL, hM'⟩)
theorem pair_q {c1 c2 : List ax_I} {as : List Value} {f : Sy → Int32} (h1 : ∀ n A, n < 512 → Aok n A → COk c1 as A A (f A)) (h2 : ∀ n A, n < 512 → Aok n A → MOk c2 as A A (f A)) : PairOK Inv c1 c2 as := pair_AB (fun n A hn hA => ⟨A, f A, aok_s hA, h1 n A hn hA, h2 n A hn hA⟩)
theorem ansQ {Q : Option Value → (Nat → List Value) → Prop} {σ : Nat → List Value} {a b : Int32} (h : Q (some (.int a)) σ) (e : b = a) : Q (some (.int b)) σ := by
  rw [e]
  exact h
theorem dec_cases {n : Nat} (hn : n < 2 ^ 31) (x : Int32) : (dec n x = none ∧ ∀ h, h < n → x ≠ nI h) ∨ ∃ h, h < n ∧ x = nI h ∧ dec n x = some h := by
  cases e : dec n x with
  | none => exact Or.inl ⟨rfl, fun h hh q => by subst q; rw [dec_some hh hn] at e; cases e⟩
  | some h => exact Or.inr ⟨h, (dec_lt e).1, (dec_lt e).2, rfl⟩
theorem wq_swD {xs : List Int32} {d : Nat} {cd : List ax_I} {i a b : Nat} {lv : ax_L} {r : List Value} {σ : Nat → List Value} {Q : Option Value → (Nat → List Value) → Prop} {v : Value} {t : List (Int × Nat)} {x : Int32} (n : Nat) (h : cd[i]? = some (48, a, b, v, t)) (hn : n < 2 ^ 31) (ht : t.all (fun q => decide (0 ≤ q.1 ∧ q.1 < n) || q.2 == a) = true) (hx : ∀ h, h < n → x ≠ nI h) (K : Wq xs d cd a lv r σ Q) : Wq xs d cd i lv (.int x :: r) σ Q := by
  refine wp_go h (i' := a) ?_ K
  rw [ax_e48]
  unfold ax_s48
  have e : (t.lookup x.toInt).getD a = a := by
    clear h K
    induction t with
    | nil => rfl
    | cons q t ih =>
      simp only [List.all_cons, Bool.and_eq_true] at ht
      obtain ⟨k, w⟩ := q
      rw [List.lookup_cons]
      cases hk : (x.toInt == k) with
      | false => exact ih ht.2
      | true =>
        have hk := eq_of_beq hk
        rcases (Bool.or_eq_true _ _).mp ht.1 with h1 | h1
        · have h1 := of_decide_eq_true h1
          exfalso
          refine hx x.toInt.toNat (by have : x.toInt = k := hk; have := h1; simp only at this; omega) ?_
          rw [nI_z, show ((x.toInt.toNat : Nat) : Int) = x.toInt by have := h1; simp only at this; omega]
          exact (Int32.ofInt_toInt x).symm
        · exact eq_of_beq h1
  show some (Sum.inl ((List.lookup x.toInt t).getD a, lv, r, mkW σ)) = _
  rw [e]
