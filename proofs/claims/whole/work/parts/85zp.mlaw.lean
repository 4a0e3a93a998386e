/-! THE REFERENCE READS A LAW -/
def xTm : Nat → Bool := fun j => j == 287 || j == 315 || j == 316 || j == 317 || j == 318 || j == 319
theorem xX_Tm : ∀ j, xX j = true → xTm j = true := by
  intro j h
  simp only [xX, Bool.or_eq_true] at h
  simp only [xTm, Bool.or_eq_true]
  rcases h with ((h | h) | h) | h
  · exact Or.inl (Or.inl (Or.inl (Or.inl (Or.inl h))))
  · exact Or.inl (Or.inl (Or.inr h))
  · exact Or.inl (Or.inr h)
  · exact Or.inr h
def xLw : Nat → Bool := fun j => j == 287 || (Nat.ble 310 j && Nat.ble j 319)
theorem xLw_i {j : Nat} (h : j = 287 ∨ (310 ≤ j ∧ j ≤ 319)) : xLw j = true := by
  unfold xLw
  rcases h with h | h
  · subst h; rfl
  · rw [Nat.ble_eq_true_of_le h.1, Nat.ble_eq_true_of_le h.2]; simp
theorem xTm_Lw : ∀ j, xTm j = true → xLw j = true := by
  intro j h
  simp only [xTm, Bool.or_eq_true, beq_iff_eq] at h
  exact xLw_i (by omega)
theorem xX_Lw : ∀ j, xX j = true → xLw j = true := fun j h => xTm_Lw j (xX_Tm j h)
theorem x287_Lw : ∀ j, x287 j = true → xLw j = true := fun j h => xX_Lw j (x287_X j h)
theorem mrw_a2 {B : Bs} {X : Tx} {s t o bn cn nn : Nat} {w : Option (Nat × Nat)} {g : Nat → Int32} {σ : Nat → List Value} {p n m : Nat} {x : Int32} {f : Nat → Int32} (h : MrW B X s t o bn cn nn w g σ) (hf : ag σ p = f) (hm : (p, n) ∈ shpm) (h1 : 297 ≤ p) (h2 : p ≤ 318) (h3 : sd p * s ≤ m) (h4 : m < sd p * s + sd p) : MrW B X s t o bn cn nn w g (up σ p (arr n (upd f m x))) := ⟨mrb_a2 (mw_b h) hf hm h1 h2 h3 h4, h.2⟩
theorem mrf_a2 {B : Bs} {X : Tx} {s f p bn : Nat} {g : Nat → Int32} {σ : Nat → List Value} {q n m : Nat} {x : Int32} {f' : Nat → Int32} (h : MrF B X s f p bn g σ) (hf : ag σ q = f') (hm : (q, n) ∈ shpm) (h1 : 297 ≤ q) (h2 : q ≤ 318) (h3 : sd q * s ≤ m) (h4 : m < sd q * s + sd q) : MrF B X s f p bn g (up σ q (arr n (upd f' m x))) := ⟨mrb_a2 (mf_b h) hf hm h1 h2 h3 h4, h.2⟩
/-- codes, branches below stay -/
def LowC (s cn : Nat) (σ σ' : Nat → List Value) : Prop := ∀ i, i < 420 * s + cn → ag σ' 317 i = ag σ 317 i ∧ ag σ' 318 i = ag σ 318 i
def LowB (s bn : Nat) (σ σ' : Nat → List Value) : Prop := ∀ j i, j < 5 → i < 130 * s + bn → ag σ' (312 + j) i = ag σ (312 + j) i
theorem lowc_t {s cn cn' : Nat} {σ σ' σ'' : Nat → List Value} (h : LowC s cn σ σ') (h' : LowC s cn' σ' σ'') (hc : cn ≤ cn') : LowC s cn σ σ'' := fun i hi => ⟨(h' i (by omega)).1.trans (h i hi).1, (h' i (by omega)).2.trans (h i hi).2⟩
theorem lowb_t {s bn bn' : Nat} {σ σ' σ'' : Nat → List Value} (h : LowB s bn σ σ') (h' : LowB s bn' σ' σ'') (hc : bn ≤ bn') : LowB s bn σ σ'' := fun j i hj hi => (h' j i hj (by omega)).trans (h j i hj hi)
theorem lowc_e {s cn : Nat} {σ σ' : Nat → List Value} (h1 : σ' 317 = σ 317) (h2 : σ' 318 = σ 318) : LowC s cn σ σ' := fun i _ => ⟨ag_eq h1 i, ag_eq h2 i⟩
theorem lowb_e {s bn : Nat} {σ σ' : Nat → List Value} (h : ∀ j, 312 ≤ j → j ≤ 316 → σ' j = σ j) : LowB s bn σ σ' := fun j i hj _ => ag_eq (h _ (by omega) (by omega)) i
theorem lowb_u {s bn p m : Nat} {σ : Nat → List Value} {f : Nat → Int32} {x : Int32} (hs : s < 2) (hb : bn < 130) (hf : ag σ p = f) (hm : 130 * s + bn ≤ m) : LowB s bn σ (up σ p (arr 260 (upd f m x))) := by
  intro j i hj hi
  by_cases e : 312 + j = p
  · subst e
    rw [ag_arr (up_same _ _ _) (by omega), ← hf]
    unfold upd
    rw [if_neg (by omega)]
  · rw [ag_eq (up_ne _ _ e)]
theorem mcode_low {s cn p : Nat} {σ σ' : Nat → List Value} {c : KCode} (h : mcode (brG σ) p c) (hL : LowC s cn σ σ') (hp : p + c.length ≤ 420 * s + cn) : mcode (brG σ') p c := mcode_ext c p h (fun i _ h2 => hL i (by omega))
def agr (s b0 b1 c0 c1 : Nat) (G G' : Nat → Nat → Int32) : Prop := (∀ j i, j < 5 → 130 * s + b0 ≤ i → i < 130 * s + b1 → G' j i = G j i) ∧ (∀ j i, 5 ≤ j → 420 * s + c0 ≤ i → i < 420 * s + c1 → G' j i = G j i)
theorem brg_j (σ : Nat → List Value) {j : Nat} (i : Nat) (h : j < 5) : brG σ j i = ag σ (312 + j) i := if_pos (by omega)
theorem br_end {s bn cn : Nat} {z : KCode} {σ : Nat → List Value} (hs : s < 2) (h0 : ag σ 312 (130 * s + bn) = nI 0) (h3 : ag σ 315 (130 * s + bn) = nI (420 * s + cn)) (h4 : ag σ 316 (130 * s + bn) = nI (420 * s + (cn + z.length))) (m : mcode (brG σ) (420 * s + cn) z) (hb : cn + z.length ≤ 420) : ∀ G', agr s bn (bn + 1) cn (cn + z.length) (brG σ) G' → brAt G' (130 * s + bn) (130 * s + (bn + 1)) [] z := by
  intro G' hG
  have g0 : ∀ j, j < 5 → G' j (130 * s + bn) = ag σ (312 + j) (130 * s + bn) := fun j hj => (hG.1 j _ hj (by omega) (by omega)).trans (brg_j σ _ hj)
  refine ⟨by omega, (g0 0 (by decide)).trans h0, 420 * s + cn, (g0 3 (by decide)).trans h3, ((g0 4 (by decide)).trans h4).trans (by rw [Nat.add_assoc]), by omega, mcode_ext z _ m (fun i a b => ⟨hG.2 5 i (by decide) a (by omega), hG.2 6 i (by decide) a (by omega)⟩)⟩
theorem br_cons {s bn cn b1 c1 e : Nat} {a c t : KCode} {r : List (KCode × KCode × KCode)} {z : KCode} {σ σ' : Nat → List Value} (hs : s < 2) (h0 : ag σ 312 (130 * s + bn) = nI 1) (h1 : ag σ 313 (130 * s + bn) = nI (420 * s + cn)) (h2 : ag σ 314 (130 * s + bn) = nI (420 * s + (cn + a.length))) (h3 : ag σ 315 (130 * s + bn) = nI (420 * s + (cn + a.length + c.length))) (h4 : ag σ 316 (130 * s + bn) = nI (420 * s + (cn + a.length + c.length + t.length))) (m1 : mcode (brG σ) (420 * s + cn) a) (m2 : mcode (brG σ) (420 * s + (cn + a.length)) c) (m3 : mcode (brG σ) (420 * s + (cn + a.length + c.length)) t) (hb : cn + a.length + c.length + t.length ≤ 420) (hB : LowB s (bn + 1) σ σ') (hC : LowC s (cn + a.length + c.length + t.length) σ σ') (hb1 : bn + 1 ≤ b1) (hc1 : cn + a.length + c.length + t.length ≤ c1) (hR : ∀ G', agr s (bn + 1) b1 (cn + a.length + c.length + t.length) c1 (brG σ') G' → brAt G' (130 * s + (bn + 1)) e r z) : ∀ G', agr s bn b1 cn c1 (brG σ') G' → brAt G' (130 * s + bn) e ((a, c, t) :: r) z := by
  intro G' hG
  have hR := hR G' ⟨fun j i p q r => hG.1 j i p (by omega) r, fun j i p q r => hG.2 j i p (by omega) r⟩
  have lt := brAt_lt _ _ _ _ hR
  have g0 : ∀ j, j < 5 → G' j (130 * s + bn) = ag σ (312 + j) (130 * s + bn) := fun j hj => (hG.1 j _ hj (by omega) (by omega)).trans ((brg_j σ' _ hj).trans (hB j _ hj (by omega)))
  have gc : ∀ i, 420 * s + cn ≤ i → i < 420 * s + (cn + a.length + c.length + t.length) → G' 5 i = brG σ 5 i ∧ G' 6 i = brG σ 6 i := fun i p q => ⟨(hG.2 5 i (by decide) p (by omega)).trans (hC i q).1, (hG.2 6 i (by decide) p (by omega)).trans (hC i q).2⟩
  refine ⟨by omega, (g0 0 (by decide)).trans h0, ⟨420 * s + cn, (g0 1 (by decide)).trans h1, ?_, ?_, ?_, by omega, mcode_ext a _ m1 (fun i p q => gc i (by omega) (by omega)), ?_, ?_⟩, hR⟩
  · exact ((g0 2 (by decide)).trans h2).trans (by rw [Nat.add_assoc])
  · exact ((g0 3 (by decide)).trans h3).trans (by congr 1; omega)
  · exact ((g0 4 (by decide)).trans h4).trans (by congr 1; omega)
  · rw [Nat.add_assoc]; exact mcode_ext c _ m2 (fun i p q => gc i (by omega) (by omega))
  · rw [show 420 * s + cn + a.length + c.length = 420 * s + (cn + a.length + c.length) by omega]; exact mcode_ext t _ m3 (fun i p q => gc i (by omega) (by omega))
theorem m_term {xs : List Int32} {d : Nat} {σ : Nat → List Value} {Q : Option Value → (Nat → List Value) → Prop} {B : Bs} {X : Tx} {s t bn cn nn : Nat} {w : Option (Nat × Nat)} {g : Nat → Int32} (hW : MrW B X s t 0 bn cn nn w g σ) (hcn : cn ≤ t) (hbn : bn < 125)  (K1 : ∀ t' c' g' σ', exX X t = .inr (t', c') → t < t' → c'.length ≤ t' - t → Fr xTm σ σ' → MrW B X s t' 0 (bn + 1) (cn + c'.length) nn w g' σ' → mcode (brG σ') (420 * s + cn) c' → LowC s cn σ σ' → LowB s bn σ σ' → ag σ' 315 (130 * s + bn) = nI (420 * s + cn) → ag σ' 316 (130 * s + bn) = nI (420 * s + (cn + c'.length)) → Q none σ') (K0 : ∀ f' p' g' σ', exX X t = er f' p' → Fr xTm σ σ' → MrF B X s f' (Xp X p') (bn + 1) g' σ' → Q none σ') : Wq xs (d + 4) ax_cd250 0 [(0, .ref 287)] [] σ Q := by
  have hX := mb_X (mw_b hW)
  have ht := mw_t hW
  have hr := mw_r hW
  have hs2 := mb_2 (mw_b hW)
  have hkt := mkK_le _ (hX.1 t)
  have hpt := hX.2.2.1 t
  refine wq_go rfl (fun _ => rfl) ?_
  refine wq_getf rfl (by first | rfl | assumption) (by first | decide | omega | assumption) (mb_o (mw_b hW)) rfl ?_
  refine wq_go rfl (fun _ => rfl) ?_
  refine wq_getf rfl (by first | rfl | assumption) (by first | decide | omega | assumption) (mb_o (mw_b hW)) rfl ?_
  refine wq_top (mw_38 hW :) ?_
  refine wq_go rfl (fun _ => rfl) ?_
  refine wq_getf rfl (by first | rfl | assumption) (by first | decide | omega | assumption) (mb_o (mw_b hW)) rfl ?_
  refine wq_top (mw_44 hW :) ?_
  refine wq_iast rfl (by first | rfl | assumption) (by first | decide | omega | assumption) (mb_a (mw_b hW) (by decide) : IsA σ 315 260) rfl (by omega) (by first | decide | omega) ?_
  refine wq_go rfl (fun _ => rfl) ?_
  refine wq_getf rfl (by first | rfl | assumption) (by first | decide | omega | assumption) ((up_ne _ _ (by decide)).trans (mb_o (mw_b hW))) rfl ?_
  refine wq_top (mw_13 hW :) ?_
  refine wq_zne rfl (by first | omega | decide | exact Nat.lt_of_le_of_lt Nat.and_le_right (by decide) | exact ⟨by omega, by omega⟩) (fun c => absurd c (by omega)) (fun c9 => ?_)
  refine wq_go rfl (fun _ => rfl) ?_
  refine wq_callV rfl rfl (by first | rfl | assumption) (by first | decide | omega | assumption) (Nat.le_of_ble_eq_true rfl) (Nat.le_of_ble_eq_true rfl) rfl rfl ?_
  refine m_ex (mrw_a2 hW rfl (by decide) (by decide) (by decide) (show 130 * s ≤ _ from by omega) (show _ < 130 * s + 130 from by omega)) hcn (fun t11 c11 g11 σ11 e11 l11 n11 F11 W11 C11 L11 => ?_) (fun f11 p11 g11 σ11 e11 F11 W11 => ?_)
  · skip
    skip
    refine wq_go rfl (fun _ => rfl) ?_
    refine wq_getf rfl (by first | rfl | assumption) (by first | decide | omega | assumption) (mb_o (mw_b W11)) rfl ?_
    refine wq_go rfl (fun _ => rfl) ?_
    refine wq_getf rfl (by first | rfl | assumption) (by first | decide | omega | assumption) (mb_o (mw_b W11)) rfl ?_
    refine wq_top (mw_38 W11 :) ?_
    refine wq_go rfl (fun _ => rfl) ?_
    refine wq_getf rfl (by first | rfl | assumption) (by first | decide | omega | assumption) (mb_o (mw_b W11)) rfl ?_
    refine wq_top (mw_44 W11 :) ?_
    refine wq_iast rfl (by first | rfl | assumption) (by first | decide | omega | assumption) (mb_a (mw_b W11) (by decide) : IsA σ11 316 260) rfl (by omega) (by first | decide | omega) ?_
    refine wq_go rfl (fun _ => rfl) ?_
    refine wq_go rfl (fun _ => rfl) ?_
    refine wq_getf rfl (by first | rfl | assumption) (by first | decide | omega | assumption) ((up_ne _ _ (by decide)).trans (mb_o (mw_b W11))) rfl ?_
    refine wq_top (mw_38 W11 :) ?_
    refine wq_cN (m := 1) rfl rfl ?_
    refine wq_addN rfl ?_
    refine wq_mput rfl ((up_ne _ _ (by decide)).trans (mb_o (mw_b W11))) rfl rfl rfl rfl ?_
    refine wq_end rfl (fun _ => rfl) ?_
    refine K1 t11 c11 _ _ e11 l11 n11 (fr_up (fr_up (fr_trans (fr_up (fr_refl _ _) rfl) (fr_mono F11 xX_Tm)) rfl) rfl) ⟨mrb_o (mrb_a (mw_b W11) (by decide) (by decide) (by decide) (show 130 * s ≤ _ from by omega) (show _ < 130 * s + 130 from by omega)) (fg_up (fg_refl _ _) rfl), (mw_11 W11 :), (mw_12 W11 :), (mw_13 W11 :), (mw_15 W11 :), (mw_16 W11 :), (mw_20 W11 :), rfl, (mw_44 W11 :), (mw_t W11 :), (mw_r W11 :), (mw_v W11 :)⟩ ?_ ?_ ?_ ?_ ?_
    · exact mcode_low (s := s) (cn := cn + c11.length) C11 (lowc_e ((up_ne _ _ (by decide)).trans (up_ne _ _ (by decide))) ((up_ne _ _ (by decide)).trans (up_ne _ _ (by decide)))) (by omega)
    · exact lowc_t (lowc_e (up_ne _ _ (by decide)) (up_ne _ _ (by decide))) (lowc_t (fun i hi => L11 i hi) (lowc_e ((up_ne _ _ (by decide)).trans (up_ne _ _ (by decide))) ((up_ne _ _ (by decide)).trans (up_ne _ _ (by decide)))) (Nat.le_refl _)) (Nat.le_refl _)
    · refine lowb_t (lowb_u hs2 (by omega) rfl (Nat.le_refl _)) (lowb_t (lowb_e (fun j a b => F11 j ?_)) (lowb_t (lowb_u hs2 (by omega) rfl (Nat.le_refl _)) (lowb_e (fun j a b => up_ne _ _ (by omega))) (Nat.le_refl _)) (Nat.le_refl _)) (Nat.le_refl _)
      have a1 : (j == 287) = false := by simp; omega
      have a2 : (j == 317) = false := by simp; omega
      have a3 : (j == 318) = false := by simp; omega
      have a4 : (j == 319) = false := by simp; omega
      simp only [xX, a1, a2, a3, a4, Bool.or_false]
    · rw [ag_eq ((up_ne _ _ (by decide)).trans ((up_ne _ _ (by decide)).trans (F11 315 rfl))), ag_arr (up_same _ _ _) (by omega)]
      simp only [upd, if_true]
    · rw [ag_eq (up_ne _ _ (by decide)), ag_arr (up_same _ _ _) (by omega)]
      simp only [upd, if_true]
  · skip
    skip
    refine wq_go rfl (fun _ => rfl) ?_
    refine wq_getf rfl (by first | rfl | assumption) (by first | decide | omega | assumption) (mb_o (mf_b W11)) rfl ?_
    refine wq_go rfl (fun _ => rfl) ?_
    refine wq_getf rfl (by first | rfl | assumption) (by first | decide | omega | assumption) (mb_o (mf_b W11)) rfl ?_
    refine wq_top (mf_38 W11 :) ?_
    refine wq_go rfl (fun _ => rfl) ?_
    refine wq_getf rfl (by first | rfl | assumption) (by first | decide | omega | assumption) (mb_o (mf_b W11)) rfl ?_
    refine wq_iast rfl (by first | rfl | assumption) (by first | decide | omega | assumption) (mb_a (mf_b W11) (by decide) : IsA σ11 316 260) rfl (by omega) (by first | decide | omega) ?_
    refine wq_go rfl (fun _ => rfl) ?_
    refine wq_go rfl (fun _ => rfl) ?_
    refine wq_getf rfl (by first | rfl | assumption) (by first | decide | omega | assumption) ((up_ne _ _ (by decide)).trans (mb_o (mf_b W11))) rfl ?_
    refine wq_top (mf_38 W11 :) ?_
    refine wq_cN (m := 1) rfl rfl ?_
    refine wq_addN rfl ?_
    refine wq_mput rfl ((up_ne _ _ (by decide)).trans (mb_o (mf_b W11))) rfl rfl rfl rfl ?_
    refine wq_end rfl (fun _ => rfl) ?_
    exact K0 f11 p11 _ _ e11 (fr_up (fr_up (fr_trans (fr_up (fr_refl _ _) rfl) (fr_mono F11 xX_Tm)) rfl) rfl) ⟨mrb_o (mrb_a (mf_b W11) (by decide) (by decide) (by decide) (show 130 * s ≤ _ from by omega) (show _ < 130 * s + 130 from by omega)) (fg_up (fg_refl _ _) rfl), (mf_13 W11 :), (mf_0 W11 :), (mf_9 W11 :), (mf_14 W11 :), rfl⟩
theorem m_term_e {xs : List Int32} {d : Nat} {σ : Nat → List Value} {Q : Option Value → (Nat → List Value) → Prop} {B : Bs} {X : Tx} {s f p bn : Nat} {g : Nat → Int32} (hF : MrF B X s f p bn g σ) (hbn : bn < 129)  (K : ∀ g' σ', Fr xTm σ σ' → MrF B X s f p (bn + 1) g' σ' → Q none σ') : Wq xs (d + 4) ax_cd250 0 [(0, .ref 287)] [] σ Q := by
  have hs2 := mb_2 (mf_b hF)
  have hf0 := mf_0 hF
  have hf9 := mf_9 hF
  refine wq_go rfl (fun _ => rfl) ?_
  refine wq_getf rfl (by first | rfl | assumption) (by first | decide | omega | assumption) (mb_o (mf_b hF)) rfl ?_
  refine wq_go rfl (fun _ => rfl) ?_
  refine wq_getf rfl (by first | rfl | assumption) (by first | decide | omega | assumption) (mb_o (mf_b hF)) rfl ?_
  refine wq_top (mf_38 hF :) ?_
  refine wq_go rfl (fun _ => rfl) ?_
  refine wq_getf rfl (by first | rfl | assumption) (by first | decide | omega | assumption) (mb_o (mf_b hF)) rfl ?_
  refine wq_iast rfl (by first | rfl | assumption) (by first | decide | omega | assumption) (mb_a (mf_b hF) (by decide) : IsA σ 315 260) rfl (by omega) (by first | decide | omega) ?_
  refine wq_go rfl (fun _ => rfl) ?_
  refine wq_getf rfl (by first | rfl | assumption) (by first | decide | omega | assumption) ((up_ne _ _ (by decide)).trans (mb_o (mf_b hF))) rfl ?_
  refine wq_top (mf_13 hF :) ?_
  refine wq_zne rfl (by first | omega | decide | exact Nat.lt_of_le_of_lt Nat.and_le_right (by decide) | exact ⟨by omega, by omega⟩) (fun c9 => ?_) (fun c => absurd (show _ from by omega) c)
  refine wq_go rfl (fun _ => rfl) ?_
  refine wq_getf rfl (by first | rfl | assumption) (by first | decide | omega | assumption) ((up_ne _ _ (by decide)).trans (mb_o (mf_b hF))) rfl ?_
  refine wq_go rfl (fun _ => rfl) ?_
  refine wq_getf rfl (by first | rfl | assumption) (by first | decide | omega | assumption) ((up_ne _ _ (by decide)).trans (mb_o (mf_b hF))) rfl ?_
  refine wq_top (mf_38 hF :) ?_
  refine wq_go rfl (fun _ => rfl) ?_
  refine wq_getf rfl (by first | rfl | assumption) (by first | decide | omega | assumption) ((up_ne _ _ (by decide)).trans (mb_o (mf_b hF))) rfl ?_
  refine wq_iast rfl (by first | rfl | assumption) (by first | decide | omega | assumption) ((up_ne _ _ (by decide)).trans (mb_a (mf_b hF) (by decide) : IsA σ 316 260)) rfl (by omega) (by first | decide | omega) ?_
  refine wq_go rfl (fun _ => rfl) ?_
  refine wq_go rfl (fun _ => rfl) ?_
  refine wq_getf rfl (by first | rfl | assumption) (by first | decide | omega | assumption) ((up_ne _ _ (by decide)).trans ((up_ne _ _ (by decide)).trans (mb_o (mf_b hF)))) rfl ?_
  refine wq_top (mf_38 hF :) ?_
  refine wq_cN (m := 1) rfl rfl ?_
  refine wq_addN rfl ?_
  refine wq_mput rfl ((up_ne _ _ (by decide)).trans ((up_ne _ _ (by decide)).trans (mb_o (mf_b hF)))) rfl rfl rfl rfl ?_
  refine wq_end rfl (fun _ => rfl) ?_
  exact K _ _ (fr_up (fr_up (fr_up (fr_refl _ _) rfl) rfl) rfl) ⟨mrb_o (mrb_a2 (mrb_a (mf_b hF) (by decide) (by decide) (by decide) (show 130 * s ≤ _ from by omega) (show _ < 130 * s + 130 from by omega)) (ag_fun (up_ne _ _ (by decide))) (by decide) (by decide) (by decide) (show 130 * s ≤ _ from by omega) (show _ < 130 * s + 130 from by omega)) (fg_up (fg_refl _ _) rfl), (mf_13 hF :), (mf_0 hF :), (mf_9 hF :), (mf_14 hF :), rfl⟩
theorem m_law8_e {xs : List Int32} {d : Nat} {σ : Nat → List Value} {Q : Option Value → (Nat → List Value) → Prop} {B : Bs} {X : Tx} {s f p bn : Nat} {g : Nat → Int32} {i fst l : Nat} (hF : MrF B X s f p bn g σ) (hbn : bn < 128) (K : ∀ bn' g' σ', MrF B X s f p bn' g' σ' → Q none σ') : Wq xs (d + 5) ax_cd245 8 [(3, .int (nI i)), (2, .int (nI fst)), (0, .ref 287), (1, .int (nI l))] [] σ Q := by
  have hs2 := mb_2 (mf_b hF)
  have hf0 := mf_0 hF
  have hf9 := mf_9 hF
  refine wq_go rfl (fun _ => rfl) ?_
  refine wq_getf rfl (by first | rfl | assumption) (by first | decide | omega | assumption) (mb_o (mf_b hF)) rfl ?_
  refine wq_top (mf_13 hF :) ?_
  refine wq_zne rfl (by first | omega | decide | exact Nat.lt_of_le_of_lt Nat.and_le_right (by decide) | exact ⟨by omega, by omega⟩) (fun c10 => ?_) (fun c => absurd (show _ from by omega) c)
  refine wq_go rfl (fun _ => rfl) ?_
  refine wq_getf rfl (by first | rfl | assumption) (by first | decide | omega | assumption) (mb_o (mf_b hF)) rfl ?_
  refine wq_go rfl (fun _ => rfl) ?_
  refine wq_getf rfl (by first | rfl | assumption) (by first | decide | omega | assumption) (mb_o (mf_b hF)) rfl ?_
  refine wq_top (mf_38 hF :) ?_
  refine wq_cN (m := 0) rfl rfl ?_
  refine wq_bast rfl (by first | rfl | assumption) (Or.inr rfl) (by first | decide | omega | assumption) (mb_a (mf_b hF) (by decide) : IsA σ 312 260) rfl (by omega) (by first | decide | omega) ?_
  refine wq_go rfl (fun _ => rfl) ?_
  refine wq_callV rfl rfl (by first | rfl | assumption) (by first | decide | omega | assumption) (Nat.le_of_ble_eq_true rfl) (Nat.le_of_ble_eq_true rfl) rfl rfl ?_
  refine m_term_e (mrf_a2 hF rfl (by decide) (by decide) (by decide) (show 130 * s ≤ _ from by omega) (show _ < 130 * s + 130 from by omega)) (by omega) (fun g74 σ74 F74 W74 => ?_)
  refine wq_go rfl (fun _ => rfl) ?_
  refine wq_cN (m := 4) rfl rfl ?_
  refine wq_callV rfl rfl (by first | rfl | assumption) (by first | decide | omega | assumption) (Nat.le_of_ble_eq_true rfl) (Nat.le_of_ble_eq_true rfl) rfl rfl ?_
  refine m_must_e W74 ?_
  have hf9' := mf_9 W74
  refine wq_go rfl (fun _ => rfl) ?_
  refine wq_getf rfl (by first | rfl | assumption) (by first | decide | omega | assumption) (mb_o (mf_b W74)) rfl ?_
  refine wq_top (mf_13 W74 :) ?_
  refine wq_zle rfl (by first | omega | decide | exact Nat.lt_of_le_of_lt Nat.and_le_right (by decide) | exact ⟨by omega, by omega⟩) (fun c => absurd c (by have := mf_0 W74; omega)) (fun c80 => ?_)
  refine wq_end rfl (fun _ => rfl) ?_
  exact K _ _ _ W74
theorem m_law_l {xs : List Int32} {d : Nat} {Q : Option Value → (Nat → List Value) → Prop} {B : Bs} {X : Tx} {s nn fst l : Nat} {w : Option (Nat × Nat)} (hl : l < 4) : ∀ (n : Nat), n ≤ 4 → ∀ (t bn cn : Nat) (g : Nat → Int32) (σ : Nat → List Value), MrW B X s t 0 bn cn nn w g σ → cn ≤ t → 4 * bn + 2 ≤ t → (∀ t5 r z bn' cn' g' σ', ((bnd (ifsX X n t) fun q => bnd (exX X q.1) fun r => bnd (must X 25 r.1) fun t5 => .inr (t5, q.2, r.2)) : Rs (Nat × KLaw)) = .inr (t5, r, z) → Fr xLw σ σ' → MrW B X s t5 0 bn' cn' nn w g' σ' → 4 * bn' ≤ t5 → cn' ≤ t5 → bn ≤ bn' → cn ≤ cn' → (∀ G', agr s bn bn' cn cn' (brG σ') G' → brAt G' (130 * s + bn) (130 * s + bn') r z) → LowC s cn σ σ' → LowB s bn σ σ' → σ' 310 = arr 8 (upd (ag σ 310) (4 * s + l) (nI fst)) → σ' 311 = arr 8 (upd (ag σ 311) (4 * s + l) (nI (130 * s + bn'))) → Q none σ') → (∀ f' p' bn' g' σ', ((bnd (ifsX X n t) fun q => bnd (exX X q.1) fun r => bnd (must X 25 r.1) fun t5 => .inr (t5, q.2, r.2)) : Rs (Nat × KLaw)) = er f' p' → MrF B X s f' (Xp X p') bn' g' σ' → Q none σ') → Wq xs (d + 5) ax_cd245 8 [(3, .int (nI (4 - n))), (2, .int (nI fst)), (0, .ref 287), (1, .int (nI l))] [] σ Q
  | 0, _, t, bn, cn, g, σ, hW, hcn, h4, K1, K0 => by
    have hX := mb_X (mw_b hW)
    have ht := mw_t hW
    have hr := mw_r hW
    have hs2 := mb_2 (mw_b hW)
    have hkt := mkK_le _ (hX.1 t)
    have hpt := hX.2.2.1 t
    refine wq_go rfl (fun _ => rfl) ?_
    refine wq_getf rfl (by first | rfl | assumption) (by first | decide | omega | assumption) (mb_o (mw_b hW)) rfl ?_
    refine wq_top (mw_13 hW :) ?_
    refine wq_zne rfl (by first | omega | decide | exact Nat.lt_of_le_of_lt Nat.and_le_right (by decide) | exact ⟨by omega, by omega⟩) (fun c => absurd c (by omega)) (fun c10 => ?_)
    refine wq_go rfl (fun _ => rfl) ?_
    refine wq_cN (m := 31) rfl rfl ?_
    refine wq_callV rfl rfl (by first | rfl | assumption) (by first | decide | omega | assumption) (Nat.le_of_ble_eq_true rfl) (Nat.le_of_ble_eq_true rfl) rfl rfl ?_
    refine m_is hW (k := 11) (by decide)  (fun ei => ?_) (fun ei => ?_)
    · skip
      refine wq_zeq rfl (by first | omega | decide | exact Nat.lt_of_le_of_lt Nat.and_le_right (by decide) | exact ⟨by omega, by omega⟩) (fun c => absurd c (by omega)) (fun c14 => ?_)
      refine wq_go rfl (fun _ => rfl) ?_
      refine wq_cN (m := 4) rfl rfl ?_
      refine wq_cne rfl (by first | omega | decide | exact Nat.lt_of_le_of_lt Nat.and_le_right (by decide) | exact ⟨by omega, by omega⟩) (by first | omega | decide | exact Nat.lt_of_le_of_lt Nat.and_le_right (by decide) | exact ⟨by omega, by omega⟩) (fun c => absurd c (by omega)) (fun c17 => ?_)
      refine wq_go rfl (fun _ => rfl) ?_
      refine wq_cN (m := 2) rfl rfl ?_
      refine wq_callV rfl rfl (by first | rfl | assumption) (by first | decide | omega | assumption) (Nat.le_of_ble_eq_true rfl) (Nat.le_of_ble_eq_true rfl) rfl rfl ?_
      refine m_fail hW (k := 2) (by decide) (fun g2 σ2 F2 G2 W2 => ?_)
      have hf9 := mf_9 W2
      have hf0 := mf_0 W2
      refine wq_go rfl (fun _ => rfl) ?_
      refine wq_getf rfl (by first | rfl | assumption) (by first | decide | omega | assumption) (mb_o (mf_b W2)) rfl ?_
      refine wq_top (mf_13 W2 :) ?_
      refine wq_zle rfl (by first | omega | decide | exact Nat.lt_of_le_of_lt Nat.and_le_right (by decide) | exact ⟨by omega, by omega⟩) (fun c => absurd c (by omega)) (fun c23 => ?_)
      refine wq_end rfl (fun _ => rfl) ?_
      refine K0 2 t _ _ _ ?_ W2
      show bnd (ifsX X 0 t) _ = _
      rw [show ifsX X 0 t = er 2 t from if_pos ei, bnd_e]
    · skip
      refine wq_zeq rfl (by first | omega | decide | exact Nat.lt_of_le_of_lt Nat.and_le_right (by decide) | exact ⟨by omega, by omega⟩) (fun c14 => ?_) (fun c => absurd (show _ from by omega) c)
      refine wq_go rfl (fun _ => rfl) ?_
      refine wq_getf rfl (by first | rfl | assumption) (by first | decide | omega | assumption) (mb_o (mw_b hW)) rfl ?_
      refine wq_go rfl (fun _ => rfl) ?_
      refine wq_getf rfl (by first | rfl | assumption) (by first | decide | omega | assumption) (mb_o (mw_b hW)) rfl ?_
      refine wq_top (mw_38 hW :) ?_
      refine wq_cN (m := 0) rfl rfl ?_
      refine wq_bast rfl (by first | rfl | assumption) (Or.inr rfl) (by first | decide | omega | assumption) (mb_a (mw_b hW) (by decide) : IsA σ 312 260) rfl (by omega) (by first | decide | omega) ?_
      refine wq_go rfl (fun _ => rfl) ?_
      refine wq_callV rfl rfl (by first | rfl | assumption) (by first | decide | omega | assumption) (Nat.le_of_ble_eq_true rfl) (Nat.le_of_ble_eq_true rfl) rfl rfl ?_
      refine m_term (mrw_a2 hW rfl (by decide) (by decide) (by decide) (show 130 * s ≤ _ from by omega) (show _ < 130 * s + 130 from by omega)) hcn (by omega) (fun t74 c74 g74 σ74 e74 l74 n74 F74 W74 C74 D74 B74 x74 y74 => ?_) (fun f74 p74 g74 σ74 e74 F74 W74 => ?_)
      · skip
        refine wq_go rfl (fun _ => rfl) ?_
        refine wq_cN (m := 4) rfl rfl ?_
        refine wq_callV rfl rfl (by first | rfl | assumption) (by first | decide | omega | assumption) (Nat.le_of_ble_eq_true rfl) (Nat.le_of_ble_eq_true rfl) rfl rfl ?_
        refine m_must W74 (k := 25) (by decide) (fun t77 g77 σ77 m77 e77 k77 F77 G77 W77 => ?_) (fun f77 g77 σ77 m77 F77 G77 W77 => ?_)
        · skip
          skip
          refine wq_go rfl (fun _ => rfl) ?_
          refine wq_getf rfl (by first | rfl | assumption) (by first | decide | omega | assumption) (mb_o (mw_b W77)) rfl ?_
          refine wq_top (mw_13 W77 :) ?_
          refine wq_zle rfl (by first | omega | decide | exact Nat.lt_of_le_of_lt Nat.and_le_right (by decide) | exact ⟨by omega, by omega⟩) (fun c80 => ?_) (fun c => absurd (show _ from by omega) c)
          refine wq_go rfl (fun _ => rfl) ?_
          refine wq_getf rfl (by first | rfl | assumption) (by first | decide | omega | assumption) (mb_o (mw_b W77)) rfl ?_
          refine wq_cN (m := 4) rfl rfl ?_
          refine wq_go rfl (fun _ => rfl) ?_
          refine wq_getf rfl (by first | rfl | assumption) (by first | decide | omega | assumption) (mb_o (mw_b W77)) rfl ?_
          refine wq_top (mb_19 (mw_b W77) :) ?_
          refine wq_mulN rfl ?_
          refine wq_go rfl (fun _ => rfl) ?_
          refine wq_addN rfl ?_
          refine wq_go rfl (fun _ => rfl) ?_
          refine wq_iast rfl (by first | rfl | assumption) (by first | decide | omega | assumption) (mb_a (mw_b W77) (by decide) : IsA σ77 310 8) rfl (by omega) (by first | decide | omega) ?_
          refine wq_go rfl (fun _ => rfl) ?_
          refine wq_getf rfl (by first | rfl | assumption) (by first | decide | omega | assumption) ((up_ne _ _ (by decide)).trans (mb_o (mw_b W77))) rfl ?_
          refine wq_cN (m := 4) rfl rfl ?_
          refine wq_go rfl (fun _ => rfl) ?_
          refine wq_getf rfl (by first | rfl | assumption) (by first | decide | omega | assumption) ((up_ne _ _ (by decide)).trans (mb_o (mw_b W77))) rfl ?_
          refine wq_top (mb_19 (mw_b W77) :) ?_
          refine wq_mulN rfl ?_
          refine wq_go rfl (fun _ => rfl) ?_
          refine wq_addN rfl ?_
          refine wq_go rfl (fun _ => rfl) ?_
          refine wq_getf rfl (by first | rfl | assumption) (by first | decide | omega | assumption) ((up_ne _ _ (by decide)).trans (mb_o (mw_b W77))) rfl ?_
          refine wq_top (mw_38 W77 :) ?_
          refine wq_iast rfl (by first | rfl | assumption) (by first | decide | omega | assumption) ((up_ne _ _ (by decide)).trans (mb_a (mw_b W77) (by decide) : IsA σ77 311 8)) rfl (by omega) (by first | decide | omega) ?_
          refine wq_end rfl (fun _ => rfl) ?_
          have hT77 := mw_t W77
          refine K1 t77 [] c74 (bn + 1) (cn + c74.length) _ _ ?_ ?_ (mrw_a2 (mrw_a2 W77 rfl (by decide) (by decide) (by decide) (show 4 * s ≤ _ from by omega) (show _ < 4 * s + 4 from by omega)) (ag_fun (up_ne _ _ (by decide))) (by decide) (by decide) (by decide) (show 4 * s ≤ _ from by omega) (show _ < 4 * s + 4 from by omega)) (by omega) (by omega) (by omega) (by omega) ?_ ?_ ?_ ?_ ?_
          · show bnd (ifsX X 0 t) _ = _
            rw [show ifsX X 0 t = .inr (t, []) by unfold ifsX; rw [if_neg ei], bnd_o]
            show bnd (exX X t) _ = _
            rw [e74, bnd_o]
            show bnd (must X 25 t74) _ = _
            rw [m77, bnd_o]
          · exact fr_up (fr_up (fr_trans (fr_trans (fr_up (fr_refl _ _) rfl) (fr_mono F74 xTm_Lw)) (fr_mono F77 x287_Lw)) rfl) rfl
          · refine br_end hs2 ?_ ?_ ?_ ?_ (by omega)
            · rw [ag_eq ((up_ne _ _ (by decide)).trans ((up_ne _ _ (by decide)).trans ((F77 312 rfl).trans (F74 312 rfl)))), ag_arr (up_same _ _ _) (by omega)]
              simp only [upd, if_true]
              rfl
            · exact (ag_eq ((up_ne _ _ (by decide)).trans ((up_ne _ _ (by decide)).trans (F77 315 rfl))) _).trans x74
            · exact (ag_eq ((up_ne _ _ (by decide)).trans ((up_ne _ _ (by decide)).trans (F77 316 rfl))) _).trans y74
            · exact mcode_low (s := s) (cn := cn + c74.length) C74 (lowc_e ((up_ne _ _ (by decide)).trans ((up_ne _ _ (by decide)).trans (F77 317 rfl))) ((up_ne _ _ (by decide)).trans ((up_ne _ _ (by decide)).trans (F77 318 rfl)))) (by omega)
          · exact lowc_t (lowc_e (up_ne _ _ (by decide)) (up_ne _ _ (by decide))) (lowc_t D74 (lowc_e ((up_ne _ _ (by decide)).trans ((up_ne _ _ (by decide)).trans (F77 317 rfl))) ((up_ne _ _ (by decide)).trans ((up_ne _ _ (by decide)).trans (F77 318 rfl)))) (Nat.le_refl _)) (Nat.le_refl _)
          · exact lowb_t (lowb_u hs2 (by omega) rfl (Nat.le_refl _)) (lowb_t B74 (lowb_e (fun j a b => (up_ne _ _ (by omega)).trans ((up_ne _ _ (by omega)).trans (F77 j (by simp only [x287, beq_eq_false_iff_ne]; omega))))) (Nat.le_refl _)) (Nat.le_refl _)
          · rw [up_ne _ _ (by decide), up_same, ag_fun ((F77 310 rfl).trans ((F74 310 rfl).trans (up_ne _ _ (by decide))))]
          · rw [up_same, ag_fun ((F77 311 rfl).trans ((F74 311 rfl).trans (up_ne _ _ (by decide))))]
        · skip
          have hf9 := mf_9 W77
          refine wq_go rfl (fun _ => rfl) ?_
          refine wq_getf rfl (by first | rfl | assumption) (by first | decide | omega | assumption) (mb_o (mf_b W77)) rfl ?_
          refine wq_top (mf_13 W77 :) ?_
          refine wq_zle rfl (by first | omega | decide | exact Nat.lt_of_le_of_lt Nat.and_le_right (by decide) | exact ⟨by omega, by omega⟩) (fun c => absurd c (by have := mf_0 W77; omega)) (fun c80 => ?_)
          refine wq_end rfl (fun _ => rfl) ?_
          refine K0 f77 t74 _ _ _ ?_ W77
          show bnd (ifsX X 0 t) _ = _
          rw [show ifsX X 0 t = .inr (t, []) by unfold ifsX; rw [if_neg ei], bnd_o]
          show bnd (exX X t) _ = _
          rw [e74, bnd_o]
          show bnd (must X 25 t74) _ = _
          rw [m77, bnd_e]
      · skip
        refine wq_go rfl (fun _ => rfl) ?_
        refine wq_cN (m := 4) rfl rfl ?_
        refine wq_callV rfl rfl (by first | rfl | assumption) (by first | decide | omega | assumption) (Nat.le_of_ble_eq_true rfl) (Nat.le_of_ble_eq_true rfl) rfl rfl ?_
        refine m_must_e W74 ?_
        have hf9 := mf_9 W74
        refine wq_go rfl (fun _ => rfl) ?_
        refine wq_getf rfl (by first | rfl | assumption) (by first | decide | omega | assumption) (mb_o (mf_b W74)) rfl ?_
        refine wq_top (mf_13 W74 :) ?_
        refine wq_zle rfl (by first | omega | decide | exact Nat.lt_of_le_of_lt Nat.and_le_right (by decide) | exact ⟨by omega, by omega⟩) (fun c => absurd c (by have := mf_0 W74; omega)) (fun c80 => ?_)
        refine wq_end rfl (fun _ => rfl) ?_
        refine K0 f74 p74 _ _ _ ?_ W74
        show bnd (ifsX X 0 t) _ = _
        rw [show ifsX X 0 t = .inr (t, []) by unfold ifsX; rw [if_neg ei], bnd_o]
        show bnd (exX X t) _ = _
        rw [e74, bnd_e]
  | n + 1, hn, t, bn, cn, g, σ, hW, hcn, h4, K1, K0 => by
    have hX := mb_X (mw_b hW)
    have ht := mw_t hW
    have hr := mw_r hW
    have hs2 := mb_2 (mw_b hW)
    have hkt := mkK_le _ (hX.1 t)
    have hpt := hX.2.2.1 t
    refine wq_go rfl (fun _ => rfl) ?_
    refine wq_getf rfl (by first | rfl | assumption) (by first | decide | omega | assumption) (mb_o (mw_b hW)) rfl ?_
    refine wq_top (mw_13 hW :) ?_
    refine wq_zne rfl (by first | omega | decide | exact Nat.lt_of_le_of_lt Nat.and_le_right (by decide) | exact ⟨by omega, by omega⟩) (fun c => absurd c (by omega)) (fun c10 => ?_)
    refine wq_go rfl (fun _ => rfl) ?_
    refine wq_cN (m := 31) rfl rfl ?_
    refine wq_callV rfl rfl (by first | rfl | assumption) (by first | decide | omega | assumption) (Nat.le_of_ble_eq_true rfl) (Nat.le_of_ble_eq_true rfl) rfl rfl ?_
    refine m_is hW (k := 11) (by decide)  (fun ei => ?_) (fun ei => ?_)
    · skip
      refine wq_zeq rfl (by first | omega | decide | exact Nat.lt_of_le_of_lt Nat.and_le_right (by decide) | exact ⟨by omega, by omega⟩) (fun c => absurd c (by omega)) (fun c14 => ?_)
      refine wq_go rfl (fun _ => rfl) ?_
      refine wq_cN (m := 4) rfl rfl ?_
      refine wq_cne rfl (by first | omega | decide | exact Nat.lt_of_le_of_lt Nat.and_le_right (by decide) | exact ⟨by omega, by omega⟩) (by first | omega | decide | exact Nat.lt_of_le_of_lt Nat.and_le_right (by decide) | exact ⟨by omega, by omega⟩) (fun c17 => ?_) (fun c => absurd (show _ from by omega) c)
      refine wq_go rfl (fun _ => rfl) ?_
      refine wq_getf rfl (by first | rfl | assumption) (by first | decide | omega | assumption) (mb_o (mw_b hW)) rfl ?_
      refine wq_top (mw_13 hW :) ?_
      refine wq_zle rfl (by first | omega | decide | exact Nat.lt_of_le_of_lt Nat.and_le_right (by decide) | exact ⟨by omega, by omega⟩) (fun c23 => ?_) (fun c => absurd (show _ from by omega) c)
      refine wq_incN rfl rfl rfl ?_
      refine wq_go rfl (fun _ => rfl) ?_
      refine wq_callV rfl rfl (by first | rfl | assumption) (by first | decide | omega | assumption) (Nat.le_of_ble_eq_true rfl) (Nat.le_of_ble_eq_true rfl) rfl rfl ?_
      refine m_go hW ⟨by omega, by omega⟩ (fun g27 σ27 h27 F27 G27 W27 => ?_) (fun g27 σ27 h27 F27 G27 W27 => ?_)
      · skip
        skip
        refine wq_go rfl (fun _ => rfl) ?_
        refine wq_getf rfl (by first | rfl | assumption) (by first | decide | omega | assumption) (mb_o (mw_b W27)) rfl ?_
        refine wq_go rfl (fun _ => rfl) ?_
        refine wq_getf rfl (by first | rfl | assumption) (by first | decide | omega | assumption) (mb_o (mw_b W27)) rfl ?_
        refine wq_top (mw_38 W27 :) ?_
        refine wq_cN (m := 1) rfl rfl ?_
        refine wq_bast rfl (by first | rfl | assumption) (Or.inr rfl) (by first | decide | omega | assumption) (mb_a (mw_b W27) (by decide) : IsA σ27 312 260) rfl (by omega) (by first | decide | omega) ?_
        refine wq_go rfl (fun _ => rfl) ?_
        refine wq_getf rfl (by first | rfl | assumption) (by first | decide | omega | assumption) ((up_ne _ _ (by decide)).trans (mb_o (mw_b W27))) rfl ?_
        refine wq_go rfl (fun _ => rfl) ?_
        refine wq_getf rfl (by first | rfl | assumption) (by first | decide | omega | assumption) ((up_ne _ _ (by decide)).trans (mb_o (mw_b W27))) rfl ?_
        refine wq_top (mw_38 W27 :) ?_
        refine wq_go rfl (fun _ => rfl) ?_
        refine wq_getf rfl (by first | rfl | assumption) (by first | decide | omega | assumption) ((up_ne _ _ (by decide)).trans (mb_o (mw_b W27))) rfl ?_
        refine wq_top (mw_44 W27 :) ?_
        refine wq_iast rfl (by first | rfl | assumption) (by first | decide | omega | assumption) ((up_ne _ _ (by decide)).trans (mb_a (mw_b W27) (by decide) : IsA σ27 313 260)) rfl (by omega) (by first | decide | omega) ?_
        refine wq_go rfl (fun _ => rfl) ?_
        refine wq_callV rfl rfl (by first | rfl | assumption) (by first | decide | omega | assumption) (Nat.le_of_ble_eq_true rfl) (Nat.le_of_ble_eq_true rfl) rfl rfl ?_
        refine m_ex (mrw_a2 (mrw_a2 W27 rfl (by decide) (by decide) (by decide) (show 130 * s ≤ _ from by omega) (show _ < 130 * s + 130 from by omega)) (ag_fun (up_ne _ _ (by decide))) (by decide) (by decide) (by decide) (show 130 * s ≤ _ from by omega) (show _ < 130 * s + 130 from by omega)) (by omega) (fun t42 c42 g42 σ42 e42 l42 n42 F42 W42 C42 L42 => ?_) (fun f42 p42 g42 σ42 e42 F42 W42 => ?_)
        · skip
          refine wq_go rfl (fun _ => rfl) ?_
          refine wq_cN (m := 13) rfl rfl ?_
          refine wq_callV rfl rfl (by first | rfl | assumption) (by first | decide | omega | assumption) (Nat.le_of_ble_eq_true rfl) (Nat.le_of_ble_eq_true rfl) rfl rfl ?_
          refine m_must W42 (k := 31) (by decide) (fun t45 g45 σ45 m45 e45 k45 F45 G45 W45 => ?_) (fun f45 g45 σ45 m45 F45 G45 W45 => ?_)
          · skip
            skip
            refine wq_go rfl (fun _ => rfl) ?_
            refine wq_getf rfl (by first | rfl | assumption) (by first | decide | omega | assumption) (mb_o (mw_b W45)) rfl ?_
            refine wq_go rfl (fun _ => rfl) ?_
            refine wq_getf rfl (by first | rfl | assumption) (by first | decide | omega | assumption) (mb_o (mw_b W45)) rfl ?_
            refine wq_top (mw_38 W45 :) ?_
            refine wq_go rfl (fun _ => rfl) ?_
            refine wq_getf rfl (by first | rfl | assumption) (by first | decide | omega | assumption) (mb_o (mw_b W45)) rfl ?_
            refine wq_top (mw_44 W45 :) ?_
            refine wq_iast rfl (by first | rfl | assumption) (by first | decide | omega | assumption) (mb_a (mw_b W45) (by decide) : IsA σ45 314 260) rfl (by omega) (by first | decide | omega) ?_
            skip
            refine wq_go rfl (fun _ => rfl) ?_
            refine wq_getf rfl (by first | rfl | assumption) (by first | decide | omega | assumption) ((up_ne _ _ (by decide)).trans (mb_o (mw_b W45))) rfl ?_
            refine wq_top (mw_13 W45 :) ?_
            refine wq_zne rfl (by first | omega | decide | exact Nat.lt_of_le_of_lt Nat.and_le_right (by decide) | exact ⟨by omega, by omega⟩) (fun c => absurd c (by omega)) (fun c55 => ?_)
            refine wq_go rfl (fun _ => rfl) ?_
            refine wq_callV rfl rfl (by first | rfl | assumption) (by first | decide | omega | assumption) (Nat.le_of_ble_eq_true rfl) (Nat.le_of_ble_eq_true rfl) rfl rfl ?_
            refine m_ex (mrw_a2 W45 rfl (by decide) (by decide) (by decide) (show 130 * s ≤ _ from by omega) (show _ < 130 * s + 130 from by omega)) (by omega) (fun t57 c57 g57 σ57 e57 l57 n57 F57 W57 C57 L57 => ?_) (fun f57 p57 g57 σ57 e57 F57 W57 => ?_)
            · skip
              refine wq_go rfl (fun _ => rfl) ?_
              refine wq_cN (m := 32) rfl rfl ?_
              refine wq_callV rfl rfl (by first | rfl | assumption) (by first | decide | omega | assumption) (Nat.le_of_ble_eq_true rfl) (Nat.le_of_ble_eq_true rfl) rfl rfl ?_
              refine m_must W57 (k := 12) (by decide) (fun t60 g60 σ60 m60 e60 k60 F60 G60 W60 => ?_) (fun f60 g60 σ60 m60 F60 G60 W60 => ?_)
              · skip
                refine wq_go rfl (fun _ => rfl) ?_
                refine wq_callV rfl rfl (by first | rfl | assumption) (by first | decide | omega | assumption) (Nat.le_of_ble_eq_true rfl) (Nat.le_of_ble_eq_true rfl) rfl rfl ?_
                refine m_term W60 (by omega) (by omega) (fun t62 c62 g62 σ62 e62 l62 n62 F62 W62 C62 D62 B62 x62 y62 => ?_) (fun f62 p62 g62 σ62 e62 F62 W62 => ?_)
                · skip
                  refine wq_go rfl (fun _ => rfl) ?_
                  refine wq_cN (m := 33) rfl rfl ?_
                  refine wq_callV rfl rfl (by first | rfl | assumption) (by first | decide | omega | assumption) (Nat.le_of_ble_eq_true rfl) (Nat.le_of_ble_eq_true rfl) rfl rfl ?_
                  refine m_must W62 (k := 13) (by decide) (fun t65 g65 σ65 m65 e65 k65 F65 G65 W65 => ?_) (fun f65 g65 σ65 m65 F65 G65 W65 => ?_)
                  · skip
                    refine wq_go rfl (fun _ => rfl) ?_
                    have ev : 4 - (n + 1) + 1 = 4 - n := by omega
                    rw [ev]
                    have e12 : σ65 312 = arr 260 (upd (ag σ27 312) (130 * s + bn) (vp_nar .boolean (nI 1))) := (F65 312 rfl).trans ((F62 312 rfl).trans ((F60 312 rfl).trans ((F57 312 rfl).trans ((up_ne _ _ (by decide)).trans ((F45 312 rfl).trans ((F42 312 rfl).trans ((up_ne _ _ (by decide)).trans (up_same _ _ _))))))))
                    have e13 : σ65 313 = arr 260 (upd (ag σ27 313) (130 * s + bn) (nI (420 * s + cn))) := (F65 313 rfl).trans ((F62 313 rfl).trans ((F60 313 rfl).trans ((F57 313 rfl).trans ((up_ne _ _ (by decide)).trans ((F45 313 rfl).trans ((F42 313 rfl).trans (up_same _ _ _)))))))
                    have e14 : σ65 314 = arr 260 (upd (ag σ45 314) (130 * s + bn) (nI (420 * s + (cn + c42.length)))) := (F65 314 rfl).trans ((F62 314 rfl).trans ((F60 314 rfl).trans ((F57 314 rfl).trans (up_same _ _ _))))
                    have q0 : ag σ65 312 (130 * s + bn) = nI 1 := by rw [ag_arr e12 (by omega)]; simp only [upd, if_true]; rfl
                    have q1 : ag σ65 313 (130 * s + bn) = nI (420 * s + cn) := by rw [ag_arr e13 (by omega)]; simp only [upd, if_true]
                    have q2 : ag σ65 314 (130 * s + bn) = nI (420 * s + (cn + c42.length)) := by rw [ag_arr e14 (by omega)]; simp only [upd, if_true]
                    have q3 := (ag_eq (F65 315 rfl) (130 * s + bn)).trans x62
                    have q4 := (ag_eq (F65 316 rfl) (130 * s + bn)).trans y62
                    have lA : LowC s cn σ σ42 := lowc_t (lowc_e ((up_ne _ _ (by decide)).trans ((up_ne _ _ (by decide)).trans (F27 317 rfl))) ((up_ne _ _ (by decide)).trans ((up_ne _ _ (by decide)).trans (F27 318 rfl)))) (fun i hi => L42 i hi) (Nat.le_refl _)
                    have lB : LowC s (cn + c42.length) σ42 σ57 := lowc_t (lowc_e ((up_ne _ _ (by decide)).trans (F45 317 rfl)) ((up_ne _ _ (by decide)).trans (F45 318 rfl))) (fun i hi => L57 i hi) (Nat.le_refl _)
                    have lC : LowC s (cn + c42.length + c57.length) σ57 σ65 := lowc_t (lowc_e (F60 317 rfl) (F60 318 rfl)) (lowc_t D62 (lowc_e (F65 317 rfl) (F65 318 rfl)) (Nat.le_refl _)) (Nat.le_refl _)
                    have k1 : mcode (brG σ65) (420 * s + cn) c42 := mcode_low C42 (lowc_t lB lC (by omega)) (by omega)
                    have k2 : mcode (brG σ65) (420 * s + (cn + c42.length)) c57 := mcode_low C57 lC (by omega)
                    have k3 : mcode (brG σ65) (420 * s + (cn + c42.length + c57.length)) c62 := mcode_low (s := s) (cn := cn + c42.length + c57.length + c62.length) C62 (lowc_e (F65 317 rfl) (F65 318 rfl)) (by omega)
                    have x312 : ∀ {Y : Nat → Bool} {a b : Nat → List Value}, Fr Y a b → (∀ j, 312 ≤ j → j ≤ 316 → Y j = false) → LowB s bn a b := fun F h => lowb_e (fun j p q => F j (h j p q))
                    have hT65 := mw_t W65
                    have hx2 : ∀ j, 312 ≤ j → j ≤ 316 → x287 j = false := fun j a b => by simp only [x287, beq_eq_false_iff_ne]; omega
                    have hxX : ∀ j, 312 ≤ j → j ≤ 316 → xX j = false := fun j a b => by
                      have a1 : (j == 287) = false := by simp; omega
                      have a2 : (j == 317) = false := by simp; omega
                      have a3 : (j == 318) = false := by simp; omega
                      have a4 : (j == 319) = false := by simp; omega
                      simp only [xX, a1, a2, a3, a4, Bool.or_false]
                    have lD : LowB s bn σ σ65 := lowb_t (x312 F27 hx2) (lowb_t (lowb_u hs2 (by omega) rfl (Nat.le_refl _)) (lowb_t (lowb_u hs2 (by omega) (ag_fun (up_ne _ _ (by decide))) (Nat.le_refl _)) (lowb_t (x312 F42 hxX) (lowb_t (x312 F45 hx2) (lowb_t (lowb_u hs2 (by omega) rfl (Nat.le_refl _)) (lowb_t (x312 F57 hxX) (lowb_t (x312 F60 hx2) (lowb_t B62 (x312 F65 hx2) (Nat.le_refl _)) (Nat.le_refl _)) (Nat.le_refl _)) (Nat.le_refl _)) (Nat.le_refl _)) (Nat.le_refl _)) (Nat.le_refl _)) (Nat.le_refl _)) (Nat.le_refl _)
                    have hif : ifX X t = .inr (t65, c42, c57, c62) := by
                      unfold ifX
                      rw [must_y ei h27, bnd_o, e42, bnd_o]
                      show bnd (must X 31 t42) _ = _
                      rw [m45, bnd_o, e57, bnd_o]
                      show bnd (must X 12 t57) _ = _
                      rw [m60, bnd_o, e62, bnd_o]
                      show bnd (must X 13 t62) _ = _
                      rw [m65, bnd_o]
                    have o3 : ∀ j, 310 ≤ j → j ≤ 311 → σ65 j = σ j := fun j a b => by
                      have hj : j = 310 ∨ j = 311 := by omega
                      rcases hj with e | e <;> subst e <;> exact (F65 _ rfl).trans ((F62 _ rfl).trans ((F60 _ rfl).trans ((F57 _ rfl).trans ((up_ne _ _ (by decide)).trans ((F45 _ rfl).trans ((F42 _ rfl).trans ((up_ne _ _ (by decide)).trans ((up_ne _ _ (by decide)).trans (F27 _ rfl)))))))))
                    refine wq_lv ⟨(by decide : ([3, 2, 0, 1] : List Nat).Nodup), (lvm (List.mem_of_getElem? (i := 0) rfl) (lvm (List.mem_of_getElem? (i := 1) rfl) (lvm (List.mem_of_getElem? (i := 2) rfl) (lvm (List.mem_of_getElem? (i := 3) rfl) lvn))))⟩ (m_law_l hl n (by omega) t65 (bn + 1) _ g65 σ65 W65 (by omega) (by omega) (fun t5 r z bn' cn' g' σ' e F W h4 hc hb hcc hR lc lb e0 e1 => ?_) (fun f' p' bn' g' σ' e W => ?_))
                    · refine K1 t5 ((c42, c57, c62) :: r) z bn' cn' g' σ' ?_ (fr_trans (fr_trans (fr_trans (fr_trans (fr_trans (fr_up (fr_trans (fr_trans (fr_up (fr_up (fr_mono F27 x287_Lw) rfl) rfl) (fr_mono F42 xX_Lw)) (fr_mono F45 x287_Lw)) rfl) (fr_mono F57 xX_Lw)) (fr_mono F60 x287_Lw)) (fr_mono F62 xTm_Lw)) (fr_mono F65 x287_Lw)) F) W h4 hc (by omega) (by omega) (br_cons hs2 q0 q1 q2 q3 q4 k1 k2 k3 (by omega) lb lc hb hcc hR) (lowc_t lA (lowc_t lB (lowc_t lC lc (by omega)) (by omega)) (by omega)) (lowb_t lD lb (by omega)) ?_ ?_
                      · show bnd (ifsX X (n + 1) t) _ = _
                        rw [show ifsX X (n + 1) t = bnd (ifX X t) fun p => bnd (ifsX X n p.1) fun q => .inr (q.1, p.2 :: q.2) from if_pos ei, hif, bnd_o]
                        revert e
                        show bnd (ifsX X n t65) _ = _ → bnd (bnd (ifsX X n t65) _) _ = _
                        cases ifsX X n t65 with
                        | inl v => exact fun e => by cases e
                        | inr q =>
                          rw [bnd_o, bnd_o]
                          show _ → bnd (exX X q.1) _ = _
                          cases exX X q.1 with
                          | inl v => exact fun e => by cases e
                          | inr rr =>
                            rw [bnd_o, bnd_o]
                            cases must X 25 rr.1 with
                            | inl v => exact fun e => by cases e
                            | inr t5' =>
                              rw [bnd_o, bnd_o]
                              exact fun e => by cases e; rfl
                      · rw [e0, ag_fun (o3 310 (by omega) (by omega))]
                      · rw [e1, ag_fun (o3 311 (by omega) (by omega))]
                    · refine K0 f' p' bn' g' σ' ?_ W
                      show bnd (ifsX X (n + 1) t) _ = _
                      rw [show ifsX X (n + 1) t = bnd (ifX X t) fun p => bnd (ifsX X n p.1) fun q => .inr (q.1, p.2 :: q.2) from if_pos ei, hif, bnd_o]
                      revert e
                      show bnd (ifsX X n t65) _ = _ → bnd (bnd (ifsX X n t65) _) _ = _
                      cases ifsX X n t65 with
                      | inl v => exact fun e => er_c e
                      | inr q =>
                        rw [bnd_o, bnd_o]
                        show _ → bnd (exX X q.1) _ = _
                        cases exX X q.1 with
                        | inl v => exact fun e => er_c e
                        | inr rr =>
                          rw [bnd_o, bnd_o]
                          cases must X 25 rr.1 with
                          | inl v => exact fun e => er_c e
                          | inr t5' => exact fun e => by cases e
                  · skip
                    refine wq_go rfl (fun _ => rfl) ?_
                    refine wq_lv ⟨(by decide : ([3, 2, 0, 1] : List Nat).Nodup), (lvm (List.mem_of_getElem? (i := 0) rfl) (lvm (List.mem_of_getElem? (i := 1) rfl) (lvm (List.mem_of_getElem? (i := 2) rfl) (lvm (List.mem_of_getElem? (i := 3) rfl) lvn))))⟩ (m_law8_e W65 (by omega) (fun bn' g' σ' W => K0 f65 t62 bn' g' σ' ?_ W))
                    show bnd (ifsX X (n + 1) t) _ = _
                    rw [show ifsX X (n + 1) t = bnd (ifX X t) fun p => bnd (ifsX X n p.1) fun q => .inr (q.1, p.2 :: q.2) from if_pos ei]
                    unfold ifX
                    rw [must_y ei h27, bnd_o]
                    show bnd (bnd (bnd (exX X (t + 1)) _) _) _ = _
                    rw [e42, bnd_o]
                    show bnd (bnd (bnd (must X 31 t42) _) _) _ = _
                    rw [m45, bnd_o]
                    show bnd (bnd (bnd (exX X t45) _) _) _ = _
                    rw [e57, bnd_o]
                    show bnd (bnd (bnd (must X 12 t57) _) _) _ = _
                    rw [m60, bnd_o]
                    show bnd (bnd (bnd (exX X t60) _) _) _ = _
                    rw [e62, bnd_o]
                    show bnd (bnd (bnd (must X 13 t62) _) _) _ = _
                    rw [m65]
                    rfl
                · skip
                  refine wq_go rfl (fun _ => rfl) ?_
                  refine wq_cN (m := 33) rfl rfl ?_
                  refine wq_callV rfl rfl (by first | rfl | assumption) (by first | decide | omega | assumption) (Nat.le_of_ble_eq_true rfl) (Nat.le_of_ble_eq_true rfl) rfl rfl ?_
                  refine m_must_e W62 ?_
                  refine wq_go rfl (fun _ => rfl) ?_
                  refine wq_lv ⟨(by decide : ([3, 2, 0, 1] : List Nat).Nodup), (lvm (List.mem_of_getElem? (i := 0) rfl) (lvm (List.mem_of_getElem? (i := 1) rfl) (lvm (List.mem_of_getElem? (i := 2) rfl) (lvm (List.mem_of_getElem? (i := 3) rfl) lvn))))⟩ (m_law8_e W62 (by omega) (fun bn' g' σ' W => K0 f62 p62 bn' g' σ' ?_ W))
                  show bnd (ifsX X (n + 1) t) _ = _
                  rw [show ifsX X (n + 1) t = bnd (ifX X t) fun p => bnd (ifsX X n p.1) fun q => .inr (q.1, p.2 :: q.2) from if_pos ei]
                  unfold ifX
                  rw [must_y ei h27, bnd_o]
                  show bnd (bnd (bnd (exX X (t + 1)) _) _) _ = _
                  rw [e42, bnd_o]
                  show bnd (bnd (bnd (must X 31 t42) _) _) _ = _
                  rw [m45, bnd_o]
                  show bnd (bnd (bnd (exX X t45) _) _) _ = _
                  rw [e57, bnd_o]
                  show bnd (bnd (bnd (must X 12 t57) _) _) _ = _
                  rw [m60, bnd_o]
                  show bnd (bnd (bnd (exX X t60) _) _) _ = _
                  rw [e62]
                  rfl
              · skip
                refine wq_go rfl (fun _ => rfl) ?_
                refine wq_callV rfl rfl (by first | rfl | assumption) (by first | decide | omega | assumption) (Nat.le_of_ble_eq_true rfl) (Nat.le_of_ble_eq_true rfl) rfl rfl ?_
                refine m_term_e W60 (by omega) (fun g62 σ62 F62 W62 => ?_)
                refine wq_go rfl (fun _ => rfl) ?_
                refine wq_cN (m := 33) rfl rfl ?_
                refine wq_callV rfl rfl (by first | rfl | assumption) (by first | decide | omega | assumption) (Nat.le_of_ble_eq_true rfl) (Nat.le_of_ble_eq_true rfl) rfl rfl ?_
                refine m_must_e W62 ?_
                refine wq_go rfl (fun _ => rfl) ?_
                refine wq_lv ⟨(by decide : ([3, 2, 0, 1] : List Nat).Nodup), (lvm (List.mem_of_getElem? (i := 0) rfl) (lvm (List.mem_of_getElem? (i := 1) rfl) (lvm (List.mem_of_getElem? (i := 2) rfl) (lvm (List.mem_of_getElem? (i := 3) rfl) lvn))))⟩ (m_law8_e W62 (by omega) (fun bn' g' σ' W => K0 f60 t57 bn' g' σ' ?_ W))
                show bnd (ifsX X (n + 1) t) _ = _
                rw [show ifsX X (n + 1) t = bnd (ifX X t) fun p => bnd (ifsX X n p.1) fun q => .inr (q.1, p.2 :: q.2) from if_pos ei]
                unfold ifX
                rw [must_y ei h27, bnd_o]
                show bnd (bnd (bnd (exX X (t + 1)) _) _) _ = _
                rw [e42, bnd_o]
                show bnd (bnd (bnd (must X 31 t42) _) _) _ = _
                rw [m45, bnd_o]
                show bnd (bnd (bnd (exX X t45) _) _) _ = _
                rw [e57, bnd_o]
                show bnd (bnd (bnd (must X 12 t57) _) _) _ = _
                rw [m60]
                rfl
            · skip
              refine wq_go rfl (fun _ => rfl) ?_
              refine wq_cN (m := 32) rfl rfl ?_
              refine wq_callV rfl rfl (by first | rfl | assumption) (by first | decide | omega | assumption) (Nat.le_of_ble_eq_true rfl) (Nat.le_of_ble_eq_true rfl) rfl rfl ?_
              refine m_must_e W57 ?_
              refine wq_go rfl (fun _ => rfl) ?_
              refine wq_callV rfl rfl (by first | rfl | assumption) (by first | decide | omega | assumption) (Nat.le_of_ble_eq_true rfl) (Nat.le_of_ble_eq_true rfl) rfl rfl ?_
              refine m_term_e W57 (by omega) (fun g62 σ62 F62 W62 => ?_)
              refine wq_go rfl (fun _ => rfl) ?_
              refine wq_cN (m := 33) rfl rfl ?_
              refine wq_callV rfl rfl (by first | rfl | assumption) (by first | decide | omega | assumption) (Nat.le_of_ble_eq_true rfl) (Nat.le_of_ble_eq_true rfl) rfl rfl ?_
              refine m_must_e W62 ?_
              refine wq_go rfl (fun _ => rfl) ?_
              refine wq_lv ⟨(by decide : ([3, 2, 0, 1] : List Nat).Nodup), (lvm (List.mem_of_getElem? (i := 0) rfl) (lvm (List.mem_of_getElem? (i := 1) rfl) (lvm (List.mem_of_getElem? (i := 2) rfl) (lvm (List.mem_of_getElem? (i := 3) rfl) lvn))))⟩ (m_law8_e W62 (by omega) (fun bn' g' σ' W => K0 f57 p57 bn' g' σ' ?_ W))
              show bnd (ifsX X (n + 1) t) _ = _
              rw [show ifsX X (n + 1) t = bnd (ifX X t) fun p => bnd (ifsX X n p.1) fun q => .inr (q.1, p.2 :: q.2) from if_pos ei]
              unfold ifX
              rw [must_y ei h27, bnd_o]
              show bnd (bnd (bnd (exX X (t + 1)) _) _) _ = _
              rw [e42, bnd_o]
              show bnd (bnd (bnd (must X 31 t42) _) _) _ = _
              rw [m45, bnd_o]
              show bnd (bnd (bnd (exX X t45) _) _) _ = _
              rw [e57]
              rfl
          · skip
            skip
            refine wq_go rfl (fun _ => rfl) ?_
            refine wq_getf rfl (by first | rfl | assumption) (by first | decide | omega | assumption) (mb_o (mf_b W45)) rfl ?_
            refine wq_go rfl (fun _ => rfl) ?_
            refine wq_getf rfl (by first | rfl | assumption) (by first | decide | omega | assumption) (mb_o (mf_b W45)) rfl ?_
            refine wq_top (mf_38 W45 :) ?_
            refine wq_go rfl (fun _ => rfl) ?_
            refine wq_getf rfl (by first | rfl | assumption) (by first | decide | omega | assumption) (mb_o (mf_b W45)) rfl ?_
            refine wq_iast rfl (by first | rfl | assumption) (by first | decide | omega | assumption) (mb_a (mf_b W45) (by decide) : IsA σ45 314 260) rfl (by omega) (by first | decide | omega) ?_
            have hf9 := mf_9 W45
            refine wq_go rfl (fun _ => rfl) ?_
            refine wq_getf rfl (by first | rfl | assumption) (by first | decide | omega | assumption) ((up_ne _ _ (by decide)).trans (mb_o (mf_b W45))) rfl ?_
            refine wq_top (mf_13 W45 :) ?_
            refine wq_zne rfl (by first | omega | decide | exact Nat.lt_of_le_of_lt Nat.and_le_right (by decide) | exact ⟨by omega, by omega⟩) (fun c55 => ?_) (fun c => absurd (show _ from by have := mf_0 W45; omega) c)
            refine wq_go rfl (fun _ => rfl) ?_
            refine wq_cN (m := 32) rfl rfl ?_
            refine wq_callV rfl rfl (by first | rfl | assumption) (by first | decide | omega | assumption) (Nat.le_of_ble_eq_true rfl) (Nat.le_of_ble_eq_true rfl) rfl rfl ?_
            refine m_must_e (mrf_a2 W45 rfl (by decide) (by decide) (by decide) (show 130 * s ≤ _ from by omega) (show _ < 130 * s + 130 from by omega)) ?_
            refine wq_go rfl (fun _ => rfl) ?_
            refine wq_callV rfl rfl (by first | rfl | assumption) (by first | decide | omega | assumption) (Nat.le_of_ble_eq_true rfl) (Nat.le_of_ble_eq_true rfl) rfl rfl ?_
            refine m_term_e (mrf_a2 W45 rfl (by decide) (by decide) (by decide) (show 130 * s ≤ _ from by omega) (show _ < 130 * s + 130 from by omega)) (by omega) (fun g62 σ62 F62 W62 => ?_)
            refine wq_go rfl (fun _ => rfl) ?_
            refine wq_cN (m := 33) rfl rfl ?_
            refine wq_callV rfl rfl (by first | rfl | assumption) (by first | decide | omega | assumption) (Nat.le_of_ble_eq_true rfl) (Nat.le_of_ble_eq_true rfl) rfl rfl ?_
            refine m_must_e W62 ?_
            refine wq_go rfl (fun _ => rfl) ?_
            refine wq_lv ⟨(by decide : ([3, 2, 0, 1] : List Nat).Nodup), (lvm (List.mem_of_getElem? (i := 0) rfl) (lvm (List.mem_of_getElem? (i := 1) rfl) (lvm (List.mem_of_getElem? (i := 2) rfl) (lvm (List.mem_of_getElem? (i := 3) rfl) lvn))))⟩ (m_law8_e W62 (by omega) (fun bn' g' σ' W => K0 f45 t42 bn' g' σ' ?_ W))
            show bnd (ifsX X (n + 1) t) _ = _
            rw [show ifsX X (n + 1) t = bnd (ifX X t) fun p => bnd (ifsX X n p.1) fun q => .inr (q.1, p.2 :: q.2) from if_pos ei]
            unfold ifX
            rw [must_y ei h27, bnd_o]
            show bnd (bnd (bnd (exX X (t + 1)) _) _) _ = _
            rw [e42, bnd_o]
            show bnd (bnd (bnd (must X 31 t42) _) _) _ = _
            rw [m45]
            rfl
        · skip
          refine wq_go rfl (fun _ => rfl) ?_
          refine wq_cN (m := 13) rfl rfl ?_
          refine wq_callV rfl rfl (by first | rfl | assumption) (by first | decide | omega | assumption) (Nat.le_of_ble_eq_true rfl) (Nat.le_of_ble_eq_true rfl) rfl rfl ?_
          refine m_must_e W42 ?_
          skip
          refine wq_go rfl (fun _ => rfl) ?_
          refine wq_getf rfl (by first | rfl | assumption) (by first | decide | omega | assumption) (mb_o (mf_b W42)) rfl ?_
          refine wq_go rfl (fun _ => rfl) ?_
          refine wq_getf rfl (by first | rfl | assumption) (by first | decide | omega | assumption) (mb_o (mf_b W42)) rfl ?_
          refine wq_top (mf_38 W42 :) ?_
          refine wq_go rfl (fun _ => rfl) ?_
          refine wq_getf rfl (by first | rfl | assumption) (by first | decide | omega | assumption) (mb_o (mf_b W42)) rfl ?_
          refine wq_iast rfl (by first | rfl | assumption) (by first | decide | omega | assumption) (mb_a (mf_b W42) (by decide) : IsA σ42 314 260) rfl (by omega) (by first | decide | omega) ?_
          have hf9 := mf_9 W42
          refine wq_go rfl (fun _ => rfl) ?_
          refine wq_getf rfl (by first | rfl | assumption) (by first | decide | omega | assumption) ((up_ne _ _ (by decide)).trans (mb_o (mf_b W42))) rfl ?_
          refine wq_top (mf_13 W42 :) ?_
          refine wq_zne rfl (by first | omega | decide | exact Nat.lt_of_le_of_lt Nat.and_le_right (by decide) | exact ⟨by omega, by omega⟩) (fun c55 => ?_) (fun c => absurd (show _ from by have := mf_0 W42; omega) c)
          refine wq_go rfl (fun _ => rfl) ?_
          refine wq_cN (m := 32) rfl rfl ?_
          refine wq_callV rfl rfl (by first | rfl | assumption) (by first | decide | omega | assumption) (Nat.le_of_ble_eq_true rfl) (Nat.le_of_ble_eq_true rfl) rfl rfl ?_
          refine m_must_e (mrf_a2 W42 rfl (by decide) (by decide) (by decide) (show 130 * s ≤ _ from by omega) (show _ < 130 * s + 130 from by omega)) ?_
          refine wq_go rfl (fun _ => rfl) ?_
          refine wq_callV rfl rfl (by first | rfl | assumption) (by first | decide | omega | assumption) (Nat.le_of_ble_eq_true rfl) (Nat.le_of_ble_eq_true rfl) rfl rfl ?_
          refine m_term_e (mrf_a2 W42 rfl (by decide) (by decide) (by decide) (show 130 * s ≤ _ from by omega) (show _ < 130 * s + 130 from by omega)) (by omega) (fun g62 σ62 F62 W62 => ?_)
          refine wq_go rfl (fun _ => rfl) ?_
          refine wq_cN (m := 33) rfl rfl ?_
          refine wq_callV rfl rfl (by first | rfl | assumption) (by first | decide | omega | assumption) (Nat.le_of_ble_eq_true rfl) (Nat.le_of_ble_eq_true rfl) rfl rfl ?_
          refine m_must_e W62 ?_
          refine wq_go rfl (fun _ => rfl) ?_
          refine wq_lv ⟨(by decide : ([3, 2, 0, 1] : List Nat).Nodup), (lvm (List.mem_of_getElem? (i := 0) rfl) (lvm (List.mem_of_getElem? (i := 1) rfl) (lvm (List.mem_of_getElem? (i := 2) rfl) (lvm (List.mem_of_getElem? (i := 3) rfl) lvn))))⟩ (m_law8_e W62 (by omega) (fun bn' g' σ' W => K0 f42 p42 bn' g' σ' ?_ W))
          show bnd (ifsX X (n + 1) t) _ = _
          rw [show ifsX X (n + 1) t = bnd (ifX X t) fun p => bnd (ifsX X n p.1) fun q => .inr (q.1, p.2 :: q.2) from if_pos ei]
          unfold ifX
          rw [must_y ei h27, bnd_o]
          show bnd (bnd (bnd (exX X (t + 1)) _) _) _ = _
          rw [e42]
          rfl
      · skip
        skip
        refine wq_go rfl (fun _ => rfl) ?_
        refine wq_getf rfl (by first | rfl | assumption) (by first | decide | omega | assumption) (mb_o (mf_b W27)) rfl ?_
        refine wq_go rfl (fun _ => rfl) ?_
        refine wq_getf rfl (by first | rfl | assumption) (by first | decide | omega | assumption) (mb_o (mf_b W27)) rfl ?_
        refine wq_top (mf_38 W27 :) ?_
        refine wq_cN (m := 1) rfl rfl ?_
        refine wq_bast rfl (by first | rfl | assumption) (Or.inr rfl) (by first | decide | omega | assumption) (mb_a (mf_b W27) (by decide) : IsA σ27 312 260) rfl (by omega) (by first | decide | omega) ?_
        refine wq_go rfl (fun _ => rfl) ?_
        refine wq_getf rfl (by first | rfl | assumption) (by first | decide | omega | assumption) ((up_ne _ _ (by decide)).trans (mb_o (mf_b W27))) rfl ?_
        refine wq_go rfl (fun _ => rfl) ?_
        refine wq_getf rfl (by first | rfl | assumption) (by first | decide | omega | assumption) ((up_ne _ _ (by decide)).trans (mb_o (mf_b W27))) rfl ?_
        refine wq_top (mf_38 W27 :) ?_
        refine wq_go rfl (fun _ => rfl) ?_
        refine wq_getf rfl (by first | rfl | assumption) (by first | decide | omega | assumption) ((up_ne _ _ (by decide)).trans (mb_o (mf_b W27))) rfl ?_
        refine wq_iast rfl (by first | rfl | assumption) (by first | decide | omega | assumption) ((up_ne _ _ (by decide)).trans (mb_a (mf_b W27) (by decide) : IsA σ27 313 260)) rfl (by omega) (by first | decide | omega) ?_
        refine wq_go rfl (fun _ => rfl) ?_
        refine wq_callV rfl rfl (by first | rfl | assumption) (by first | decide | omega | assumption) (Nat.le_of_ble_eq_true rfl) (Nat.le_of_ble_eq_true rfl) rfl rfl ?_
        refine m_ex_e (mrf_a2 (mrf_a2 W27 rfl (by decide) (by decide) (by decide) (show 130 * s ≤ _ from by omega) (show _ < 130 * s + 130 from by omega)) (ag_fun (up_ne _ _ (by decide))) (by decide) (by decide) (by decide) (show 130 * s ≤ _ from by omega) (show _ < 130 * s + 130 from by omega)) rfl (fun g42 σ42 F42 W42 => ?_)
        refine wq_go rfl (fun _ => rfl) ?_
        refine wq_cN (m := 13) rfl rfl ?_
        refine wq_callV rfl rfl (by first | rfl | assumption) (by first | decide | omega | assumption) (Nat.le_of_ble_eq_true rfl) (Nat.le_of_ble_eq_true rfl) rfl rfl ?_
        refine m_must_e W42 ?_
        skip
        refine wq_go rfl (fun _ => rfl) ?_
        refine wq_getf rfl (by first | rfl | assumption) (by first | decide | omega | assumption) (mb_o (mf_b W42)) rfl ?_
        refine wq_go rfl (fun _ => rfl) ?_
        refine wq_getf rfl (by first | rfl | assumption) (by first | decide | omega | assumption) (mb_o (mf_b W42)) rfl ?_
        refine wq_top (mf_38 W42 :) ?_
        refine wq_go rfl (fun _ => rfl) ?_
        refine wq_getf rfl (by first | rfl | assumption) (by first | decide | omega | assumption) (mb_o (mf_b W42)) rfl ?_
        refine wq_iast rfl (by first | rfl | assumption) (by first | decide | omega | assumption) (mb_a (mf_b W42) (by decide) : IsA σ42 314 260) rfl (by omega) (by first | decide | omega) ?_
        have hf9 := mf_9 W42
        refine wq_go rfl (fun _ => rfl) ?_
        refine wq_getf rfl (by first | rfl | assumption) (by first | decide | omega | assumption) ((up_ne _ _ (by decide)).trans (mb_o (mf_b W42))) rfl ?_
        refine wq_top (mf_13 W42 :) ?_
        refine wq_zne rfl (by first | omega | decide | exact Nat.lt_of_le_of_lt Nat.and_le_right (by decide) | exact ⟨by omega, by omega⟩) (fun c55 => ?_) (fun c => absurd (show _ from by have := mf_0 W42; omega) c)
        refine wq_go rfl (fun _ => rfl) ?_
        refine wq_cN (m := 32) rfl rfl ?_
        refine wq_callV rfl rfl (by first | rfl | assumption) (by first | decide | omega | assumption) (Nat.le_of_ble_eq_true rfl) (Nat.le_of_ble_eq_true rfl) rfl rfl ?_
        refine m_must_e (mrf_a2 W42 rfl (by decide) (by decide) (by decide) (show 130 * s ≤ _ from by omega) (show _ < 130 * s + 130 from by omega)) ?_
        refine wq_go rfl (fun _ => rfl) ?_
        refine wq_callV rfl rfl (by first | rfl | assumption) (by first | decide | omega | assumption) (Nat.le_of_ble_eq_true rfl) (Nat.le_of_ble_eq_true rfl) rfl rfl ?_
        refine m_term_e (mrf_a2 W42 rfl (by decide) (by decide) (by decide) (show 130 * s ≤ _ from by omega) (show _ < 130 * s + 130 from by omega)) (by omega) (fun g62 σ62 F62 W62 => ?_)
        refine wq_go rfl (fun _ => rfl) ?_
        refine wq_cN (m := 33) rfl rfl ?_
        refine wq_callV rfl rfl (by first | rfl | assumption) (by first | decide | omega | assumption) (Nat.le_of_ble_eq_true rfl) (Nat.le_of_ble_eq_true rfl) rfl rfl ?_
        refine m_must_e W62 ?_
        refine wq_go rfl (fun _ => rfl) ?_
        refine wq_lv ⟨(by decide : ([3, 2, 0, 1] : List Nat).Nodup), (lvm (List.mem_of_getElem? (i := 0) rfl) (lvm (List.mem_of_getElem? (i := 1) rfl) (lvm (List.mem_of_getElem? (i := 2) rfl) (lvm (List.mem_of_getElem? (i := 3) rfl) lvn))))⟩ (m_law8_e W62 (by omega) (fun bn' g' σ' W => K0 2 t bn' g' σ' ?_ W))
        show bnd (ifsX X (n + 1) t) _ = _
        rw [show ifsX X (n + 1) t = bnd (ifX X t) fun p => bnd (ifsX X n p.1) fun q => .inr (q.1, p.2 :: q.2) from if_pos ei]
        unfold ifX
        subst h27
        rw [must_r ei]
        rfl
    · skip
      refine wq_zeq rfl (by first | omega | decide | exact Nat.lt_of_le_of_lt Nat.and_le_right (by decide) | exact ⟨by omega, by omega⟩) (fun c14 => ?_) (fun c => absurd (show _ from by omega) c)
      refine wq_go rfl (fun _ => rfl) ?_
      refine wq_getf rfl (by first | rfl | assumption) (by first | decide | omega | assumption) (mb_o (mw_b hW)) rfl ?_
      refine wq_go rfl (fun _ => rfl) ?_
      refine wq_getf rfl (by first | rfl | assumption) (by first | decide | omega | assumption) (mb_o (mw_b hW)) rfl ?_
      refine wq_top (mw_38 hW :) ?_
      refine wq_cN (m := 0) rfl rfl ?_
      refine wq_bast rfl (by first | rfl | assumption) (Or.inr rfl) (by first | decide | omega | assumption) (mb_a (mw_b hW) (by decide) : IsA σ 312 260) rfl (by omega) (by first | decide | omega) ?_
      refine wq_go rfl (fun _ => rfl) ?_
      refine wq_callV rfl rfl (by first | rfl | assumption) (by first | decide | omega | assumption) (Nat.le_of_ble_eq_true rfl) (Nat.le_of_ble_eq_true rfl) rfl rfl ?_
      refine m_term (mrw_a2 hW rfl (by decide) (by decide) (by decide) (show 130 * s ≤ _ from by omega) (show _ < 130 * s + 130 from by omega)) hcn (by omega) (fun t74 c74 g74 σ74 e74 l74 n74 F74 W74 C74 D74 B74 x74 y74 => ?_) (fun f74 p74 g74 σ74 e74 F74 W74 => ?_)
      · skip
        refine wq_go rfl (fun _ => rfl) ?_
        refine wq_cN (m := 4) rfl rfl ?_
        refine wq_callV rfl rfl (by first | rfl | assumption) (by first | decide | omega | assumption) (Nat.le_of_ble_eq_true rfl) (Nat.le_of_ble_eq_true rfl) rfl rfl ?_
        refine m_must W74 (k := 25) (by decide) (fun t77 g77 σ77 m77 e77 k77 F77 G77 W77 => ?_) (fun f77 g77 σ77 m77 F77 G77 W77 => ?_)
        · skip
          skip
          refine wq_go rfl (fun _ => rfl) ?_
          refine wq_getf rfl (by first | rfl | assumption) (by first | decide | omega | assumption) (mb_o (mw_b W77)) rfl ?_
          refine wq_top (mw_13 W77 :) ?_
          refine wq_zle rfl (by first | omega | decide | exact Nat.lt_of_le_of_lt Nat.and_le_right (by decide) | exact ⟨by omega, by omega⟩) (fun c80 => ?_) (fun c => absurd (show _ from by omega) c)
          refine wq_go rfl (fun _ => rfl) ?_
          refine wq_getf rfl (by first | rfl | assumption) (by first | decide | omega | assumption) (mb_o (mw_b W77)) rfl ?_
          refine wq_cN (m := 4) rfl rfl ?_
          refine wq_go rfl (fun _ => rfl) ?_
          refine wq_getf rfl (by first | rfl | assumption) (by first | decide | omega | assumption) (mb_o (mw_b W77)) rfl ?_
          refine wq_top (mb_19 (mw_b W77) :) ?_
          refine wq_mulN rfl ?_
          refine wq_go rfl (fun _ => rfl) ?_
          refine wq_addN rfl ?_
          refine wq_go rfl (fun _ => rfl) ?_
          refine wq_iast rfl (by first | rfl | assumption) (by first | decide | omega | assumption) (mb_a (mw_b W77) (by decide) : IsA σ77 310 8) rfl (by omega) (by first | decide | omega) ?_
          refine wq_go rfl (fun _ => rfl) ?_
          refine wq_getf rfl (by first | rfl | assumption) (by first | decide | omega | assumption) ((up_ne _ _ (by decide)).trans (mb_o (mw_b W77))) rfl ?_
          refine wq_cN (m := 4) rfl rfl ?_
          refine wq_go rfl (fun _ => rfl) ?_
          refine wq_getf rfl (by first | rfl | assumption) (by first | decide | omega | assumption) ((up_ne _ _ (by decide)).trans (mb_o (mw_b W77))) rfl ?_
          refine wq_top (mb_19 (mw_b W77) :) ?_
          refine wq_mulN rfl ?_
          refine wq_go rfl (fun _ => rfl) ?_
          refine wq_addN rfl ?_
          refine wq_go rfl (fun _ => rfl) ?_
          refine wq_getf rfl (by first | rfl | assumption) (by first | decide | omega | assumption) ((up_ne _ _ (by decide)).trans (mb_o (mw_b W77))) rfl ?_
          refine wq_top (mw_38 W77 :) ?_
          refine wq_iast rfl (by first | rfl | assumption) (by first | decide | omega | assumption) ((up_ne _ _ (by decide)).trans (mb_a (mw_b W77) (by decide) : IsA σ77 311 8)) rfl (by omega) (by first | decide | omega) ?_
          refine wq_end rfl (fun _ => rfl) ?_
          have hT77 := mw_t W77
          refine K1 t77 [] c74 (bn + 1) (cn + c74.length) _ _ ?_ ?_ (mrw_a2 (mrw_a2 W77 rfl (by decide) (by decide) (by decide) (show 4 * s ≤ _ from by omega) (show _ < 4 * s + 4 from by omega)) (ag_fun (up_ne _ _ (by decide))) (by decide) (by decide) (by decide) (show 4 * s ≤ _ from by omega) (show _ < 4 * s + 4 from by omega)) (by omega) (by omega) (by omega) (by omega) ?_ ?_ ?_ ?_ ?_
          · show bnd (ifsX X (n + 1) t) _ = _
            rw [show ifsX X (n + 1) t = .inr (t, []) by unfold ifsX; rw [if_neg ei], bnd_o]
            show bnd (exX X t) _ = _
            rw [e74, bnd_o]
            show bnd (must X 25 t74) _ = _
            rw [m77, bnd_o]
          · exact fr_up (fr_up (fr_trans (fr_trans (fr_up (fr_refl _ _) rfl) (fr_mono F74 xTm_Lw)) (fr_mono F77 x287_Lw)) rfl) rfl
          · refine br_end hs2 ?_ ?_ ?_ ?_ (by omega)
            · rw [ag_eq ((up_ne _ _ (by decide)).trans ((up_ne _ _ (by decide)).trans ((F77 312 rfl).trans (F74 312 rfl)))), ag_arr (up_same _ _ _) (by omega)]
              simp only [upd, if_true]
              rfl
            · exact (ag_eq ((up_ne _ _ (by decide)).trans ((up_ne _ _ (by decide)).trans (F77 315 rfl))) _).trans x74
            · exact (ag_eq ((up_ne _ _ (by decide)).trans ((up_ne _ _ (by decide)).trans (F77 316 rfl))) _).trans y74
            · exact mcode_low (s := s) (cn := cn + c74.length) C74 (lowc_e ((up_ne _ _ (by decide)).trans ((up_ne _ _ (by decide)).trans (F77 317 rfl))) ((up_ne _ _ (by decide)).trans ((up_ne _ _ (by decide)).trans (F77 318 rfl)))) (by omega)
          · exact lowc_t (lowc_e (up_ne _ _ (by decide)) (up_ne _ _ (by decide))) (lowc_t D74 (lowc_e ((up_ne _ _ (by decide)).trans ((up_ne _ _ (by decide)).trans (F77 317 rfl))) ((up_ne _ _ (by decide)).trans ((up_ne _ _ (by decide)).trans (F77 318 rfl)))) (Nat.le_refl _)) (Nat.le_refl _)
          · exact lowb_t (lowb_u hs2 (by omega) rfl (Nat.le_refl _)) (lowb_t B74 (lowb_e (fun j a b => (up_ne _ _ (by omega)).trans ((up_ne _ _ (by omega)).trans (F77 j (by simp only [x287, beq_eq_false_iff_ne]; omega))))) (Nat.le_refl _)) (Nat.le_refl _)
          · rw [up_ne _ _ (by decide), up_same, ag_fun ((F77 310 rfl).trans ((F74 310 rfl).trans (up_ne _ _ (by decide))))]
          · rw [up_same, ag_fun ((F77 311 rfl).trans ((F74 311 rfl).trans (up_ne _ _ (by decide))))]
        · skip
          have hf9 := mf_9 W77
          refine wq_go rfl (fun _ => rfl) ?_
          refine wq_getf rfl (by first | rfl | assumption) (by first | decide | omega | assumption) (mb_o (mf_b W77)) rfl ?_
          refine wq_top (mf_13 W77 :) ?_
          refine wq_zle rfl (by first | omega | decide | exact Nat.lt_of_le_of_lt Nat.and_le_right (by decide) | exact ⟨by omega, by omega⟩) (fun c => absurd c (by have := mf_0 W77; omega)) (fun c80 => ?_)
          refine wq_end rfl (fun _ => rfl) ?_
          refine K0 f77 t74 _ _ _ ?_ W77
          show bnd (ifsX X (n + 1) t) _ = _
          rw [show ifsX X (n + 1) t = .inr (t, []) by unfold ifsX; rw [if_neg ei], bnd_o]
          show bnd (exX X t) _ = _
          rw [e74, bnd_o]
          show bnd (must X 25 t74) _ = _
          rw [m77, bnd_e]
      · skip
        refine wq_go rfl (fun _ => rfl) ?_
        refine wq_cN (m := 4) rfl rfl ?_
        refine wq_callV rfl rfl (by first | rfl | assumption) (by first | decide | omega | assumption) (Nat.le_of_ble_eq_true rfl) (Nat.le_of_ble_eq_true rfl) rfl rfl ?_
        refine m_must_e W74 ?_
        have hf9 := mf_9 W74
        refine wq_go rfl (fun _ => rfl) ?_
        refine wq_getf rfl (by first | rfl | assumption) (by first | decide | omega | assumption) (mb_o (mf_b W74)) rfl ?_
        refine wq_top (mf_13 W74 :) ?_
        refine wq_zle rfl (by first | omega | decide | exact Nat.lt_of_le_of_lt Nat.and_le_right (by decide) | exact ⟨by omega, by omega⟩) (fun c => absurd c (by have := mf_0 W74; omega)) (fun c80 => ?_)
        refine wq_end rfl (fun _ => rfl) ?_
        refine K0 f74 p74 _ _ _ ?_ W74
        show bnd (ifsX X (n + 1) t) _ = _
        rw [show ifsX X (n + 1) t = .inr (t, []) by unfold ifsX; rw [if_neg ei], bnd_o]
        show bnd (exX X t) _ = _
        rw [e74, bnd_e]
theorem m_law {xs : List Int32} {d : Nat} {σ : Nat → List Value} {Q : Option Value → (Nat → List Value) → Prop} {B : Bs} {X : Tx} {s t bn cn nn : Nat} {w : Option (Nat × Nat)} {g : Nat → Int32} {l : Nat} (hW : MrW B X s t 0 bn cn nn w g σ) (hcn : cn ≤ t) (hbn : 4 * bn + 1 ≤ t) (hl : l < 4)  (K1 : ∀ t5 r z bn' cn' g' σ', ((bnd (must X 26 t) fun t2 => bnd (ifsX X 4 t2) fun q => bnd (exX X q.1) fun r => bnd (must X 25 r.1) fun t5 => .inr (t5, q.2, r.2)) : Rs (Nat × KLaw)) = .inr (t5, r, z) → Fr xLw σ σ' → MrW B X s t5 0 bn' cn' nn w g' σ' → 4 * bn' ≤ t5 → cn' ≤ t5 → bn ≤ bn' → cn ≤ cn' → (∀ G', agr s bn bn' cn cn' (brG σ') G' → brAt G' (130 * s + bn) (130 * s + bn') r z) → LowC s cn σ σ' → LowB s bn σ σ' → σ' 310 = arr 8 (upd (ag σ 310) (4 * s + l) (nI (130 * s + bn))) → σ' 311 = arr 8 (upd (ag σ 311) (4 * s + l) (nI (130 * s + bn'))) → Q none σ') (K0 : ∀ f' p' bn' g' σ', ((bnd (must X 26 t) fun t2 => bnd (ifsX X 4 t2) fun q => bnd (exX X q.1) fun r => bnd (must X 25 r.1) fun t5 => .inr (t5, q.2, r.2)) : Rs (Nat × KLaw)) = er f' p' → MrF B X s f' (Xp X p') bn' g' σ' → Q none σ') : Wq xs (d + 5) ax_cd245 0 [(0, .ref 287), (1, .int (nI l))] [] σ Q := by
  have hX := mb_X (mw_b hW)
  have ht := mw_t hW
  have hr := mw_r hW
  have hs2 := mb_2 (mw_b hW)
  have hkt := mkK_le _ (hX.1 t)
  have hpt := hX.2.2.1 t
  refine wq_go rfl (fun _ => rfl) ?_
  refine wq_cN (m := 5) rfl rfl ?_
  refine wq_callV rfl rfl (by first | rfl | assumption) (by first | decide | omega | assumption) (Nat.le_of_ble_eq_true rfl) (Nat.le_of_ble_eq_true rfl) rfl rfl ?_
  refine m_must hW (k := 26) (by decide) (fun t2 g2 σ2 m2 e2 k2 F2 G2 W2 => ?_) (fun f2 g2 σ2 m2 F2 G2 W2 => ?_)
  · skip
    refine wq_go rfl (fun _ => rfl) ?_
    refine wq_getf rfl (by first | rfl | assumption) (by first | decide | omega | assumption) (mb_o (mw_b W2)) rfl ?_
    refine wq_top (mw_38 W2 :) ?_
    refine wq_go rfl (fun _ => rfl) ?_
    refine wq_cN (m := 0) rfl rfl ?_
    refine wq_go rfl (fun _ => rfl) ?_
    refine wq_lv ⟨(by decide : ([3, 2, 0, 1] : List Nat).Nodup), (lvm (List.mem_of_getElem? (i := 0) rfl) (lvm (List.mem_of_getElem? (i := 1) rfl) (lvm (List.mem_of_getElem? (i := 2) rfl) (lvm (List.mem_of_getElem? (i := 3) rfl) lvn))))⟩ (m_law_l hl 4 (by decide) t2 bn cn g2 σ2 W2 (by omega) (by omega) (fun t5 r z bn' cn' g' σ' e F W h4 hc hb hcc hR lc lb e0 e1 => ?_) (fun f' p' bn' g' σ' e W => ?_))
    · refine K1 t5 r z bn' cn' g' σ' ?_ (fr_trans (fr_mono F2 x287_Lw) F) W h4 hc hb hcc hR (lowc_t (lowc_e (F2 317 rfl) (F2 318 rfl)) lc (Nat.le_refl _)) (lowb_t (lowb_e (fun j a b => F2 j (by simp only [x287, beq_eq_false_iff_ne]; omega))) lb (Nat.le_refl _)) ?_ ?_
      · rw [m2, bnd_o]; exact e
      · rw [e0, ag_fun (F2 310 rfl)]
      · rw [e1, ag_fun (F2 311 rfl)]
    · refine K0 f' p' bn' g' σ' ?_ W
      rw [m2, bnd_o]; exact e
  · skip
    refine wq_go rfl (fun _ => rfl) ?_
    refine wq_getf rfl (by first | rfl | assumption) (by first | decide | omega | assumption) (mb_o (mf_b W2)) rfl ?_
    refine wq_top (mf_38 W2 :) ?_
    refine wq_go rfl (fun _ => rfl) ?_
    refine wq_cN (m := 0) rfl rfl ?_
    refine wq_go rfl (fun _ => rfl) ?_
    refine wq_lv ⟨(by decide : ([3, 2, 0, 1] : List Nat).Nodup), (lvm (List.mem_of_getElem? (i := 0) rfl) (lvm (List.mem_of_getElem? (i := 1) rfl) (lvm (List.mem_of_getElem? (i := 2) rfl) (lvm (List.mem_of_getElem? (i := 3) rfl) lvn))))⟩ (m_law8_e (i := 0) W2 (by omega) (fun bn' g' σ' W => K0 f2 t bn' g' σ' ?_ W))
    rw [m2]
    rfl
theorem m_law_e {xs : List Int32} {d : Nat} {σ : Nat → List Value} {Q : Option Value → (Nat → List Value) → Prop} {B : Bs} {X : Tx} {s f p bn : Nat} {g : Nat → Int32} (hF : MrF B X s f p bn g σ) {l : Nat} (hbn : bn < 128)  (K : ∀ bn' g' σ', MrF B X s f p bn' g' σ' → Q none σ') : Wq xs (d + 5) ax_cd245 0 [(0, .ref 287), (1, .int (nI l))] [] σ Q := by
  have hs2 := mb_2 (mf_b hF)
  have hf0 := mf_0 hF
  have hf9 := mf_9 hF
  refine wq_go rfl (fun _ => rfl) ?_
  refine wq_cN (m := 5) rfl rfl ?_
  refine wq_callV rfl rfl (by first | rfl | assumption) (by first | decide | omega | assumption) (Nat.le_of_ble_eq_true rfl) (Nat.le_of_ble_eq_true rfl) rfl rfl ?_
  refine m_must_e hF ?_
  refine wq_go rfl (fun _ => rfl) ?_
  refine wq_getf rfl (by first | rfl | assumption) (by first | decide | omega | assumption) (mb_o (mf_b hF)) rfl ?_
  refine wq_top (mf_38 hF :) ?_
  refine wq_go rfl (fun _ => rfl) ?_
  refine wq_cN (m := 0) rfl rfl ?_
  refine wq_go rfl (fun _ => rfl) ?_
  exact wq_lv ⟨(by decide : ([3, 2, 0, 1] : List Nat).Nodup), (lvm (List.mem_of_getElem? (i := 0) rfl) (lvm (List.mem_of_getElem? (i := 1) rfl) (lvm (List.mem_of_getElem? (i := 2) rfl) (lvm (List.mem_of_getElem? (i := 3) rfl) lvn))))⟩ (m_law8_e (i := 0) hF hbn K)
