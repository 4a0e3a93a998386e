/-! THE REFERENCE READS EXPRESSIONS -/
def wmk (w : Nat) : Nat := if w = 2 then 8 else if w = 3 then 9 else if w = 4 then 10 else if w = 5 then 15 else 6
def wtA (f : Nat → Int32) : List Nat → Prop
  | [] => True
  | w :: W => f W.length = nI (wmk w) ∧ wtA f W
theorem wtA_ext {f f' : Nat → Int32} : ∀ W, wtA f W → (∀ i, i < W.length → f' i = f i) → wtA f' W
  | [], _, _ => trivial
  | w :: W, h, e => ⟨(e W.length (by simp only [List.length_cons]; omega)).trans h.1, wtA_ext W h.2 (fun i hi => e i (by simp only [List.length_cons]; omega))⟩
theorem mcode_ext {G G' : Nat → Nat → Int32} : ∀ (c : KCode) (p : Nat), mcode G p c → (∀ i, p ≤ i → i < p + c.length → G' 5 i = G 5 i ∧ G' 6 i = G 6 i) → mcode G' p c
  | [], _, _, _ => trivial
  | (k, v) :: c, p, h, e => ⟨h.1, (e p (Nat.le_refl _) (by simp only [List.length_cons]; omega)).1.trans h.2.1, (e p (Nat.le_refl _) (by simp only [List.length_cons]; omega)).2.trans h.2.2.1, mcode_ext c (p + 1) h.2.2.2 (fun i h1 h2 => e i (by omega) (by simp only [List.length_cons]; omega))⟩
theorem mcode_snoc {G : Nat → Nat → Int32} {k v : Nat} : ∀ (c : KCode) (p : Nat), mcode G p c → p + c.length < 840 → G 5 (p + c.length) = nI k → G 6 (p + c.length) = nI v → mcode G p (c ++ [(k, v)])
  | [], p, _, h, e1, e2 => ⟨h, e1, e2, trivial⟩
  | (k', v') :: c, p, h, hl, e1, e2 => by
    have a : p + ((k', v') :: c).length = p + 1 + c.length := by simp only [List.length_cons]; omega
    rw [a] at hl e1 e2
    exact ⟨h.1, h.2.1, h.2.2.1, mcode_snoc c (p + 1) h.2.2.2 hl e1 e2⟩
theorem brg5 (σ : Nat → List Value) (i : Nat) : brG σ 5 i = ag σ 317 i := rfl
theorem brg6 (σ : Nat → List Value) (i : Nat) : brG σ 6 i = ag σ 318 i := rfl
def xX : Nat → Bool := fun j => j == 287 || j == 317 || j == 318 || j == 319
theorem x287_X : ∀ j, x287 j = true → xX j = true := by
  intro j h
  simp only [x287] at h
  simp only [xX, h, Bool.true_or]
def y44 : Nat → Bool := fun b => b == 44
def yO : Nat → Bool := fun b => b == 44 || b == 48
theorem y44_O : ∀ j, y44 j = true → yO j = true := by
  intro j h
  simp only [y44] at h
  simp only [yO, h, Bool.true_or]
theorem mrb_a2 {B : Bs} {X : Tx} {s : Nat} {g : Nat → Int32} {σ : Nat → List Value} {p n m : Nat} {x : Int32} {f : Nat → Int32} (h : MrB B X s g σ) (hf : ag σ p = f) (hm : (p, n) ∈ shpm) (h1 : 297 ≤ p) (h2 : p ≤ 318) (h3 : sd p * s ≤ m) (h4 : m < sd p * s + sd p) : MrB B X s g (up σ p (arr n (upd f m x))) := by
  subst hf
  exact mrb_a h hm h1 h2 h3 h4
/-- the signs that wait, the code so far, from c0 on -/
def ExC (B : Bs) (X : Tx) (s : Nat) (σ0 : Nat → List Value) (c0 : Nat) (c : KCode) (W : List Nat) (g : Nat → Int32) (σ : Nat → List Value) : Prop := MrB B X s g σ ∧ Fr xX σ0 σ ∧ g 44 = nI (420 * s + (c0 + c.length)) ∧ g 48 = nI W.length ∧ wtA (ag σ 319) W ∧ mcode (brG σ) (420 * s + c0) c ∧ ∀ i, i < 420 * s + c0 → ag σ 317 i = ag σ0 317 i ∧ ag σ 318 i = ag σ0 318 i
theorem exc_o {B : Bs} {X : Tx} {s c0 : Nat} {σ0 σ : Nat → List Value} {c : KCode} {W W' : List Nat} {g g' : Nat → Int32} (h : ExC B X s σ0 c0 c W g σ) (hG : FrG yR g g') (h44 : g' 44 = g 44) (h48 : g' 48 = nI W'.length) (hW : wtA (ag σ 319) W') : ExC B X s σ0 c0 c W' g' (up σ 287 (mo g')) := by
  obtain ⟨a1, a2, a3, a4, a5, a6, a7⟩ := h
  refine ⟨mrb_o a1 hG, fr_up a2 rfl, h44.trans a3, h48, ?_, ?_, fun i hi => ?_⟩
  · rw [ag_fun (up_ne _ _ (by decide))]; exact hW
  · rw [brG_eq (up_ne _ _ (by decide)) (up_ne _ _ (by decide)) (up_ne _ _ (by decide)) (up_ne _ _ (by decide)) (up_ne _ _ (by decide)) (up_ne _ _ (by decide)) (up_ne _ _ (by decide))]; exact a6
  · rw [ag_eq (up_ne _ _ (by decide)), ag_eq (up_ne _ _ (by decide))]; exact a7 i hi
theorem exc_w {B : Bs} {X : Tx} {s c0 : Nat} {σ0 σ : Nat → List Value} {c : KCode} {W : List Nat} {w : Nat} {g g' : Nat → Int32} {y : Int32} (h : ExC B X s σ0 c0 c W g σ) (hl : W.length < 60) (hy : y = nI (wmk w)) (hG : FrG yR g g') (h44 : g' 44 = g 44) (h48 : g' 48 = nI (W.length + 1)) : ExC B X s σ0 c0 c (w :: W) g' (up (up σ 319 (arr 64 (upd (ag σ 319) W.length y))) 287 (mo g')) := by
  obtain ⟨a1, a2, a3, a4, a5, a6, a7⟩ := h
  refine ⟨mrb_o (mrb_n a1 (by decide) (Or.inr rfl)) hG, fr_up (fr_up a2 rfl) rfl, h44.trans a3, h48, ?_, ?_, fun i hi => ?_⟩
  · rw [ag_fun (up_ne _ _ (by decide))]
    refine ⟨?_, wtA_ext W a5 (fun i hi => ?_)⟩
    · rw [ag_arr (up_same _ _ _) (by omega), hy]
      simp only [upd, if_true]
    · rw [ag_arr (up_same _ _ _) (by omega)]
      unfold upd
      rw [if_neg (by omega)]
  · rw [brG_eq ((up_ne _ _ (by decide)).trans (up_ne _ _ (by decide))) ((up_ne _ _ (by decide)).trans (up_ne _ _ (by decide))) ((up_ne _ _ (by decide)).trans (up_ne _ _ (by decide))) ((up_ne _ _ (by decide)).trans (up_ne _ _ (by decide))) ((up_ne _ _ (by decide)).trans (up_ne _ _ (by decide))) ((up_ne _ _ (by decide)).trans (up_ne _ _ (by decide))) ((up_ne _ _ (by decide)).trans (up_ne _ _ (by decide)))]
    exact a6
  · rw [ag_eq ((up_ne _ _ (by decide)).trans (up_ne _ _ (by decide))), ag_eq ((up_ne _ _ (by decide)).trans (up_ne _ _ (by decide)))]
    exact a7 i hi
/-- signs that come out: all up to a bracket, or the strong ones alone -/
def popG (b : Bool) : List Nat → KCode → List Nat × KCode
  | [], c => ([], c)
  | w :: W, c => if w = 6 ∨ (b = true ∧ (w = 2 ∨ w = 3)) then (w :: W, c) else popG b W (c ++ [(w, 0)])
theorem okW_c {w : Nat} {W : List Nat} (h : okW (w :: W)) : w = 6 ∨ w = 2 ∨ w = 3 ∨ w = 4 ∨ w = 5 := by
  rcases h.2 with h | ⟨h | h, _⟩ | ⟨h | h, _⟩ <;> omega
theorem popG_st {b : Bool} {w : Nat} {W : List Nat} {c : KCode} (h : w = 6 ∨ (b = true ∧ (w = 2 ∨ w = 3))) : popG b (w :: W) c = (w :: W, c) := if_pos h
theorem popG_go {b : Bool} {w : Nat} {W : List Nat} {c : KCode} (h : ¬ (w = 6 ∨ (b = true ∧ (w = 2 ∨ w = 3)))) : popG b (w :: W) c = popG b W (c ++ [(w, 0)]) := if_neg h
theorem popG_P {W : List Nat} {c : KCode} (h : okW W) : popG true W c = popP W c := by
  cases W with
  | nil => rfl
  | cons w W =>
    rcases h.2 with q | ⟨q, _⟩ | ⟨q, q2⟩
    · subst q; rfl
    · rw [popP_no (opS_noP q), popG_st (Or.inr ⟨rfl, q⟩)]
    · rw [popP_y q, popG_go (by unfold opP at q; omega)]
      cases W with
      | nil => rfl
      | cons w' W' =>
        rw [popG_st]
        rcases okW_c h.1 with e | e | e | e | e
        · exact Or.inl e
        · exact Or.inr ⟨rfl, Or.inl e⟩
        · exact Or.inr ⟨rfl, Or.inr e⟩
        · exact absurd (Or.inl e) (q2 w' W' rfl)
        · exact absurd (Or.inr e) (q2 w' W' rfl)
theorem popG_O {W : List Nat} {c : KCode} (h : noO W) : popG false W c = (W, c) := by
  cases W with
  | nil => rfl
  | cons w W => rw [popG_st (Or.inl (h w W rfl))]
theorem popG_S {W : List Nat} {c : KCode} (h : okW W) : popG false W c = popS (popP W c).1 (popP W c).2 := by
  cases W with
  | nil => rfl
  | cons w W =>
    rcases h.2 with q | ⟨q, q2⟩ | ⟨q, q2⟩
    · subst q; rfl
    · rw [popP_no (opS_noP q), popS_y q, popG_go (by unfold opS at q; rintro (h | ⟨h, _⟩); omega; cases h), popG_O q2]
    · rw [popP_y q, popG_go (by unfold opP at q; rintro (h | ⟨h, _⟩); omega; cases h)]
      cases W with
      | nil => rfl
      | cons w' W' =>
        rcases h.1.2 with r | ⟨r, r2⟩ | ⟨r, _⟩
        · subst r; rfl
        · rw [popG_go (by unfold opS at r; rintro (h | ⟨h, _⟩); omega; cases h), popG_O r2, popS_y r]
        · exact absurd r (q2 w' W' rfl)
theorem m_emit {xs : List Int32} {d : Nat} {σ : Nat → List Value} {Q : Option Value → (Nat → List Value) → Prop} {B : Bs} {X : Tx} {s c0 : Nat} {σ0 : Nat → List Value} {c : KCode} {W : List Nat} {g : Nat → Int32} (hE : ExC B X s σ0 c0 c W g σ) {k v : Nat} (hb : c0 + c.length < 415)  (K : ∀ g' σ', FrG y44 g g' → ExC B X s σ0 c0 (c ++ [(k, v)]) W g' σ' → Q none σ') : Wq xs (d + 0) ax_cd248 0 [(0, .ref 287), (1, .int (nI k)), (2, .int (nI v))] [] σ Q := by
  have hs2 := mb_2 hE.1
  refine wq_go rfl (fun _ => rfl) ?_
  refine wq_getf rfl (by first | rfl | assumption) (by first | decide | omega | assumption) (mb_o hE.1) rfl ?_
  refine wq_go rfl (fun _ => rfl) ?_
  refine wq_getf rfl (by first | rfl | assumption) (by first | decide | omega | assumption) (mb_o hE.1) rfl ?_
  refine wq_top hE.2.2.1 ?_
  refine wq_go rfl (fun _ => rfl) ?_
  refine wq_iast rfl (by first | rfl | assumption) (by first | decide | omega | assumption) (mb_a hE.1 (by decide) : IsA σ 317 840) rfl (by omega) (by first | decide | omega) ?_
  refine wq_go rfl (fun _ => rfl) ?_
  refine wq_getf rfl (by first | rfl | assumption) (by first | decide | omega | assumption) ((up_ne _ _ (by decide)).trans (mb_o hE.1)) rfl ?_
  refine wq_go rfl (fun _ => rfl) ?_
  refine wq_getf rfl (by first | rfl | assumption) (by first | decide | omega | assumption) ((up_ne _ _ (by decide)).trans (mb_o hE.1)) rfl ?_
  refine wq_top hE.2.2.1 ?_
  refine wq_go rfl (fun _ => rfl) ?_
  refine wq_iast rfl (by first | rfl | assumption) (by first | decide | omega | assumption) ((up_ne _ _ (by decide)).trans (mb_a hE.1 (by decide) : IsA σ 318 840)) rfl (by omega) (by first | decide | omega) ?_
  refine wq_go rfl (fun _ => rfl) ?_
  refine wq_go rfl (fun _ => rfl) ?_
  refine wq_getf rfl (by first | rfl | assumption) (by first | decide | omega | assumption) ((up_ne _ _ (by decide)).trans ((up_ne _ _ (by decide)).trans (mb_o hE.1))) rfl ?_
  refine wq_top hE.2.2.1 ?_
  refine wq_cN (m := 1) rfl rfl ?_
  refine wq_addN rfl ?_
  refine wq_mput rfl ((up_ne _ _ (by decide)).trans ((up_ne _ _ (by decide)).trans (mb_o hE.1))) rfl rfl rfl rfl ?_
  refine wq_end rfl (fun _ => rfl) ?_
  refine K _ _ (fg_up (fg_refl _ _) rfl) ⟨mrb_o (mrb_a2 (mrb_a hE.1 (by decide) (by decide) (by decide) (show 420 * s ≤ _ from by omega) (show _ < 420 * s + 420 from by omega)) (ag_fun (up_ne _ _ (by decide))) (by decide) (by decide) (by decide) (show 420 * s ≤ _ from by omega) (show _ < 420 * s + 420 from by omega)) (fg_up (fg_refl _ _) rfl), fr_up (fr_up (fr_up hE.2.1 rfl) rfl) rfl, ?_, hE.2.2.2.1, ?_, ?_, fun i hi => ?_⟩
  · rw [List.length_append]; rfl
  · rw [ag_fun ((up_ne _ _ (by decide)).trans ((up_ne _ _ (by decide)).trans (up_ne _ _ (by decide))))]; exact hE.2.2.2.2.1
  · have e5 : ∀ i, i < 840 → brG (up (up (up σ 317 (arr 840 (upd (ag σ 317) (420 * s + (c0 + c.length)) (nI k)))) 318 (arr 840 (upd (ag σ 318) (420 * s + (c0 + c.length)) (nI v)))) 287 (mo (upd g 44 (nI (420 * s + (c0 + c.length) + 1))))) 5 i = upd (ag σ 317) (420 * s + (c0 + c.length)) (nI k) i := fun i hi => by rw [brg5]; exact (ag_eq ((up_ne _ _ (by decide)).trans (up_ne _ _ (by decide))) i).trans (ag_arr (up_same _ _ _) hi)
    have e6 : ∀ i, i < 840 → brG (up (up (up σ 317 (arr 840 (upd (ag σ 317) (420 * s + (c0 + c.length)) (nI k)))) 318 (arr 840 (upd (ag σ 318) (420 * s + (c0 + c.length)) (nI v)))) 287 (mo (upd g 44 (nI (420 * s + (c0 + c.length) + 1))))) 6 i = upd (ag σ 318) (420 * s + (c0 + c.length)) (nI v) i := fun i hi => by rw [brg6]; exact (ag_eq (up_ne _ _ (by decide)) i).trans (ag_arr (up_same _ _ _) hi)
    refine mcode_snoc c _ (mcode_ext c _ hE.2.2.2.2.2.1 (fun i h1 h2 => ⟨?_, ?_⟩)) (by omega) ?_ ?_
    · rw [e5 i (by omega)]; unfold upd; rw [if_neg (by omega)]; rfl
    · rw [e6 i (by omega)]; unfold upd; rw [if_neg (by omega)]; rfl
    · rw [e5 _ (by omega)]; unfold upd; rw [if_pos (by omega)]
    · rw [e6 _ (by omega)]; unfold upd; rw [if_pos (by omega)]
  · have a := hE.2.2.2.2.2.2 i hi
    rw [← a.1, ← a.2]
    refine ⟨(ag_eq ((up_ne _ _ (by decide)).trans (up_ne _ _ (by decide))) i).trans ((ag_arr (up_same _ _ _) (by omega)).trans ?_), (ag_eq (up_ne _ _ (by decide)) i).trans ((ag_arr (up_same _ _ _) (by omega)).trans ?_)⟩
    · unfold upd; rw [if_neg (by omega)]
    · unfold upd; rw [if_neg (by omega)]
theorem m_out0 {xs : List Int32} {d : Nat} {Q : Option Value → (Nat → List Value) → Prop} {B : Bs} {X : Tx} {s c0 : Nat} {σ0 : Nat → List Value} : ∀ (W : List Nat) (c : KCode) (g : Nat → Int32) (σ : Nat → List Value), okW W → W.length < 60 → c0 + c.length + ops W < 415 → ExC B X s σ0 c0 c W g σ → (∀ g' σ', FrG yO g g' → ExC B X s σ0 c0 (popG false W c).2 (popG false W c).1 g' σ' → Q none σ') → Wq xs (d + 1) ax_cd249 0 [(0, .ref 287), (1, .int (nI 0))] [] σ Q
  | [], c, g, σ, hO, hl, hb, hE, K => by
    refine wq_go rfl (fun _ => rfl) ?_
    refine wq_getf rfl (by first | rfl | assumption) (by first | decide | omega | assumption) (mb_o hE.1) rfl ?_
    refine wq_top (show g 48 = nI 0 from hE.2.2.2.1) ?_
    refine wq_zle rfl (by first | omega | decide | exact Nat.lt_of_le_of_lt Nat.and_le_right (by decide) | exact ⟨by omega, by omega⟩) (fun c2 => ?_) (fun c => absurd (show _ from by omega) c)
    refine wq_end rfl (fun _ => rfl) ?_
    exact K g σ (fg_refl _ _) hE
  | w :: W, c, g, σ, hO, hl, hb, hE, K => by
    have hl : W.length + 1 < 60 := hl
    rcases okW_c hO with e | e | e | e | e <;> subst e
    · rw [popG_st (b := false) (w := 6) (by decide)] at K
      refine wq_go rfl (fun _ => rfl) ?_
      refine wq_getf rfl (by first | rfl | assumption) (by first | decide | omega | assumption) (mb_o hE.1) rfl ?_
      refine wq_top (show g 48 = nI (W.length + 1) from hE.2.2.2.1) ?_
      refine wq_zle rfl (by first | omega | decide | exact Nat.lt_of_le_of_lt Nat.and_le_right (by decide) | exact ⟨by omega, by omega⟩) (fun c => absurd c (by omega)) (fun c2 => ?_)
      refine wq_go rfl (fun _ => rfl) ?_
      refine wq_getf rfl (by first | rfl | assumption) (by first | decide | omega | assumption) (mb_o hE.1) rfl ?_
      refine wq_go rfl (fun _ => rfl) ?_
      refine wq_getf rfl (by first | rfl | assumption) (by first | decide | omega | assumption) (mb_o hE.1) rfl ?_
      refine wq_top (show g 48 = nI (W.length + 1) from hE.2.2.2.1) ?_
      refine wq_cN (m := 1) rfl rfl ?_
      refine wq_subN rfl (by omega) ?_
      refine wq_iald rfl (by first | rfl | assumption) (by first | decide | omega | assumption) (mb_a hE.1 (by decide) : IsA σ 319 64) rfl (by omega) (by first | decide | omega) ?_
      refine wq_top (show _ = nI 6 from hE.2.2.2.2.1.1) ?_
      refine wq_go rfl (fun _ => rfl) ?_
      refine wq_go rfl (fun _ => rfl) ?_
      refine wq_cN (m := 6) rfl rfl ?_
      refine wq_ceq rfl (by first | omega | decide | exact Nat.lt_of_le_of_lt Nat.and_le_right (by decide) | exact ⟨by omega, by omega⟩) (by first | omega | decide | exact Nat.lt_of_le_of_lt Nat.and_le_right (by decide) | exact ⟨by omega, by omega⟩) (fun c13 => ?_) (fun c => absurd (show _ from by omega) c)
      refine wq_end rfl (fun _ => rfl) ?_
      exact K g σ (fg_refl _ _) hE
    · have hop := ops_n (w := 2) (W := W) (by decide)
      rw [popG_go (b := false) (w := 2) (by decide)] at K
      refine wq_go rfl (fun _ => rfl) ?_
      refine wq_getf rfl (by first | rfl | assumption) (by first | decide | omega | assumption) (mb_o hE.1) rfl ?_
      refine wq_top (show g 48 = nI (W.length + 1) from hE.2.2.2.1) ?_
      refine wq_zle rfl (by first | omega | decide | exact Nat.lt_of_le_of_lt Nat.and_le_right (by decide) | exact ⟨by omega, by omega⟩) (fun c => absurd c (by omega)) (fun c2 => ?_)
      refine wq_go rfl (fun _ => rfl) ?_
      refine wq_getf rfl (by first | rfl | assumption) (by first | decide | omega | assumption) (mb_o hE.1) rfl ?_
      refine wq_go rfl (fun _ => rfl) ?_
      refine wq_getf rfl (by first | rfl | assumption) (by first | decide | omega | assumption) (mb_o hE.1) rfl ?_
      refine wq_top (show g 48 = nI (W.length + 1) from hE.2.2.2.1) ?_
      refine wq_cN (m := 1) rfl rfl ?_
      refine wq_subN rfl (by omega) ?_
      refine wq_iald rfl (by first | rfl | assumption) (by first | decide | omega | assumption) (mb_a hE.1 (by decide) : IsA σ 319 64) rfl (by omega) (by first | decide | omega) ?_
      refine wq_top (show _ = nI 8 from hE.2.2.2.2.1.1) ?_
      refine wq_go rfl (fun _ => rfl) ?_
      refine wq_go rfl (fun _ => rfl) ?_
      refine wq_cN (m := 6) rfl rfl ?_
      refine wq_ceq rfl (by first | omega | decide | exact Nat.lt_of_le_of_lt Nat.and_le_right (by decide) | exact ⟨by omega, by omega⟩) (by first | omega | decide | exact Nat.lt_of_le_of_lt Nat.and_le_right (by decide) | exact ⟨by omega, by omega⟩) (fun c => absurd c (by omega)) (fun c13 => ?_)
      refine wq_go rfl (fun _ => rfl) ?_
      refine wq_zeq rfl (by first | omega | decide | exact Nat.lt_of_le_of_lt Nat.and_le_right (by decide) | exact ⟨by omega, by omega⟩) (fun c15 => ?_) (fun c => absurd (show _ from by omega) c)
      refine wq_go rfl (fun _ => rfl) ?_
      refine wq_go rfl (fun _ => rfl) ?_
      refine wq_getf rfl (by first | rfl | assumption) (by first | decide | omega | assumption) (mb_o hE.1) rfl ?_
      refine wq_top (show g 48 = nI (W.length + 1) from hE.2.2.2.1) ?_
      refine wq_cN (m := 1) rfl rfl ?_
      refine wq_subN rfl (by omega) ?_
      refine wq_mput rfl (mb_o hE.1) rfl rfl rfl rfl ?_
      refine wq_go rfl (fun _ => rfl) ?_
      refine wq_go rfl (fun _ => rfl) ?_
      refine wq_cN (m := 8) rfl rfl ?_
      refine wq_cne rfl (by first | omega | decide | exact Nat.lt_of_le_of_lt Nat.and_le_right (by decide) | exact ⟨by omega, by omega⟩) (by first | omega | decide | exact Nat.lt_of_le_of_lt Nat.and_le_right (by decide) | exact ⟨by omega, by omega⟩) (fun c => absurd c (by omega)) (fun c32 => ?_)
      refine wq_cN (m := 2) rfl rfl ?_
      refine wq_go rfl (fun _ => rfl) ?_
      refine wq_cN (m := 0) rfl rfl ?_
      refine wq_callV rfl rfl (by first | rfl | assumption) (by first | decide | omega | assumption) (Nat.le_of_ble_eq_true rfl) (Nat.le_of_ble_eq_true rfl) rfl rfl ?_
      refine m_emit (k := 2) (v := 0) (exc_o (W' := W) hE (fg_up (fg_refl _ _) rfl) rfl rfl hE.2.2.2.2.1.2) (by omega) (fun g2 σ2 G2 E2 => ?_)
      refine wq_go rfl (fun _ => rfl) ?_
      exact wq_lv ⟨(by decide : ([2, 0, 1] : List Nat).Nodup), (lvm (List.mem_of_getElem? (i := 1) rfl) (lvm (List.mem_of_getElem? (i := 2) rfl) lvn))⟩ (m_out0 W _ g2 σ2 hO.1 (by omega) (by simp only [List.length_append, List.length_cons, List.length_nil]; omega) E2 (fun g' σ' G' E' => K g' σ' (fg_trans (fg_trans (fg_up (fg_refl _ _) rfl) (fg_mono G2 y44_O)) G') E'))
    · have hop := ops_n (w := 3) (W := W) (by decide)
      rw [popG_go (b := false) (w := 3) (by decide)] at K
      refine wq_go rfl (fun _ => rfl) ?_
      refine wq_getf rfl (by first | rfl | assumption) (by first | decide | omega | assumption) (mb_o hE.1) rfl ?_
      refine wq_top (show g 48 = nI (W.length + 1) from hE.2.2.2.1) ?_
      refine wq_zle rfl (by first | omega | decide | exact Nat.lt_of_le_of_lt Nat.and_le_right (by decide) | exact ⟨by omega, by omega⟩) (fun c => absurd c (by omega)) (fun c2 => ?_)
      refine wq_go rfl (fun _ => rfl) ?_
      refine wq_getf rfl (by first | rfl | assumption) (by first | decide | omega | assumption) (mb_o hE.1) rfl ?_
      refine wq_go rfl (fun _ => rfl) ?_
      refine wq_getf rfl (by first | rfl | assumption) (by first | decide | omega | assumption) (mb_o hE.1) rfl ?_
      refine wq_top (show g 48 = nI (W.length + 1) from hE.2.2.2.1) ?_
      refine wq_cN (m := 1) rfl rfl ?_
      refine wq_subN rfl (by omega) ?_
      refine wq_iald rfl (by first | rfl | assumption) (by first | decide | omega | assumption) (mb_a hE.1 (by decide) : IsA σ 319 64) rfl (by omega) (by first | decide | omega) ?_
      refine wq_top (show _ = nI 9 from hE.2.2.2.2.1.1) ?_
      refine wq_go rfl (fun _ => rfl) ?_
      refine wq_go rfl (fun _ => rfl) ?_
      refine wq_cN (m := 6) rfl rfl ?_
      refine wq_ceq rfl (by first | omega | decide | exact Nat.lt_of_le_of_lt Nat.and_le_right (by decide) | exact ⟨by omega, by omega⟩) (by first | omega | decide | exact Nat.lt_of_le_of_lt Nat.and_le_right (by decide) | exact ⟨by omega, by omega⟩) (fun c => absurd c (by omega)) (fun c13 => ?_)
      refine wq_go rfl (fun _ => rfl) ?_
      refine wq_zeq rfl (by first | omega | decide | exact Nat.lt_of_le_of_lt Nat.and_le_right (by decide) | exact ⟨by omega, by omega⟩) (fun c15 => ?_) (fun c => absurd (show _ from by omega) c)
      refine wq_go rfl (fun _ => rfl) ?_
      refine wq_go rfl (fun _ => rfl) ?_
      refine wq_getf rfl (by first | rfl | assumption) (by first | decide | omega | assumption) (mb_o hE.1) rfl ?_
      refine wq_top (show g 48 = nI (W.length + 1) from hE.2.2.2.1) ?_
      refine wq_cN (m := 1) rfl rfl ?_
      refine wq_subN rfl (by omega) ?_
      refine wq_mput rfl (mb_o hE.1) rfl rfl rfl rfl ?_
      refine wq_go rfl (fun _ => rfl) ?_
      refine wq_go rfl (fun _ => rfl) ?_
      refine wq_cN (m := 8) rfl rfl ?_
      refine wq_cne rfl (by first | omega | decide | exact Nat.lt_of_le_of_lt Nat.and_le_right (by decide) | exact ⟨by omega, by omega⟩) (by first | omega | decide | exact Nat.lt_of_le_of_lt Nat.and_le_right (by decide) | exact ⟨by omega, by omega⟩) (fun c32 => ?_) (fun c => absurd (show _ from by omega) c)
      refine wq_go rfl (fun _ => rfl) ?_
      refine wq_cN (m := 9) rfl rfl ?_
      refine wq_cne rfl (by first | omega | decide | exact Nat.lt_of_le_of_lt Nat.and_le_right (by decide) | exact ⟨by omega, by omega⟩) (by first | omega | decide | exact Nat.lt_of_le_of_lt Nat.and_le_right (by decide) | exact ⟨by omega, by omega⟩) (fun c => absurd c (by omega)) (fun c37 => ?_)
      refine wq_cN (m := 3) rfl rfl ?_
      refine wq_go rfl (fun _ => rfl) ?_
      refine wq_cN (m := 0) rfl rfl ?_
      refine wq_callV rfl rfl (by first | rfl | assumption) (by first | decide | omega | assumption) (Nat.le_of_ble_eq_true rfl) (Nat.le_of_ble_eq_true rfl) rfl rfl ?_
      refine m_emit (k := 3) (v := 0) (exc_o (W' := W) hE (fg_up (fg_refl _ _) rfl) rfl rfl hE.2.2.2.2.1.2) (by omega) (fun g2 σ2 G2 E2 => ?_)
      refine wq_go rfl (fun _ => rfl) ?_
      exact wq_lv ⟨(by decide : ([2, 0, 1] : List Nat).Nodup), (lvm (List.mem_of_getElem? (i := 1) rfl) (lvm (List.mem_of_getElem? (i := 2) rfl) lvn))⟩ (m_out0 W _ g2 σ2 hO.1 (by omega) (by simp only [List.length_append, List.length_cons, List.length_nil]; omega) E2 (fun g' σ' G' E' => K g' σ' (fg_trans (fg_trans (fg_up (fg_refl _ _) rfl) (fg_mono G2 y44_O)) G') E'))
    · have hop := ops_n (w := 4) (W := W) (by decide)
      rw [popG_go (b := false) (w := 4) (by decide)] at K
      refine wq_go rfl (fun _ => rfl) ?_
      refine wq_getf rfl (by first | rfl | assumption) (by first | decide | omega | assumption) (mb_o hE.1) rfl ?_
      refine wq_top (show g 48 = nI (W.length + 1) from hE.2.2.2.1) ?_
      refine wq_zle rfl (by first | omega | decide | exact Nat.lt_of_le_of_lt Nat.and_le_right (by decide) | exact ⟨by omega, by omega⟩) (fun c => absurd c (by omega)) (fun c2 => ?_)
      refine wq_go rfl (fun _ => rfl) ?_
      refine wq_getf rfl (by first | rfl | assumption) (by first | decide | omega | assumption) (mb_o hE.1) rfl ?_
      refine wq_go rfl (fun _ => rfl) ?_
      refine wq_getf rfl (by first | rfl | assumption) (by first | decide | omega | assumption) (mb_o hE.1) rfl ?_
      refine wq_top (show g 48 = nI (W.length + 1) from hE.2.2.2.1) ?_
      refine wq_cN (m := 1) rfl rfl ?_
      refine wq_subN rfl (by omega) ?_
      refine wq_iald rfl (by first | rfl | assumption) (by first | decide | omega | assumption) (mb_a hE.1 (by decide) : IsA σ 319 64) rfl (by omega) (by first | decide | omega) ?_
      refine wq_top (show _ = nI 10 from hE.2.2.2.2.1.1) ?_
      refine wq_go rfl (fun _ => rfl) ?_
      refine wq_go rfl (fun _ => rfl) ?_
      refine wq_cN (m := 6) rfl rfl ?_
      refine wq_ceq rfl (by first | omega | decide | exact Nat.lt_of_le_of_lt Nat.and_le_right (by decide) | exact ⟨by omega, by omega⟩) (by first | omega | decide | exact Nat.lt_of_le_of_lt Nat.and_le_right (by decide) | exact ⟨by omega, by omega⟩) (fun c => absurd c (by omega)) (fun c13 => ?_)
      refine wq_go rfl (fun _ => rfl) ?_
      refine wq_zeq rfl (by first | omega | decide | exact Nat.lt_of_le_of_lt Nat.and_le_right (by decide) | exact ⟨by omega, by omega⟩) (fun c15 => ?_) (fun c => absurd (show _ from by omega) c)
      refine wq_go rfl (fun _ => rfl) ?_
      refine wq_go rfl (fun _ => rfl) ?_
      refine wq_getf rfl (by first | rfl | assumption) (by first | decide | omega | assumption) (mb_o hE.1) rfl ?_
      refine wq_top (show g 48 = nI (W.length + 1) from hE.2.2.2.1) ?_
      refine wq_cN (m := 1) rfl rfl ?_
      refine wq_subN rfl (by omega) ?_
      refine wq_mput rfl (mb_o hE.1) rfl rfl rfl rfl ?_
      refine wq_go rfl (fun _ => rfl) ?_
      refine wq_go rfl (fun _ => rfl) ?_
      refine wq_cN (m := 8) rfl rfl ?_
      refine wq_cne rfl (by first | omega | decide | exact Nat.lt_of_le_of_lt Nat.and_le_right (by decide) | exact ⟨by omega, by omega⟩) (by first | omega | decide | exact Nat.lt_of_le_of_lt Nat.and_le_right (by decide) | exact ⟨by omega, by omega⟩) (fun c32 => ?_) (fun c => absurd (show _ from by omega) c)
      refine wq_go rfl (fun _ => rfl) ?_
      refine wq_cN (m := 9) rfl rfl ?_
      refine wq_cne rfl (by first | omega | decide | exact Nat.lt_of_le_of_lt Nat.and_le_right (by decide) | exact ⟨by omega, by omega⟩) (by first | omega | decide | exact Nat.lt_of_le_of_lt Nat.and_le_right (by decide) | exact ⟨by omega, by omega⟩) (fun c37 => ?_) (fun c => absurd (show _ from by omega) c)
      refine wq_go rfl (fun _ => rfl) ?_
      refine wq_cN (m := 10) rfl rfl ?_
      refine wq_cne rfl (by first | omega | decide | exact Nat.lt_of_le_of_lt Nat.and_le_right (by decide) | exact ⟨by omega, by omega⟩) (by first | omega | decide | exact Nat.lt_of_le_of_lt Nat.and_le_right (by decide) | exact ⟨by omega, by omega⟩) (fun c => absurd c (by omega)) (fun c42 => ?_)
      refine wq_cN (m := 4) rfl rfl ?_
      refine wq_go rfl (fun _ => rfl) ?_
      refine wq_cN (m := 0) rfl rfl ?_
      refine wq_callV rfl rfl (by first | rfl | assumption) (by first | decide | omega | assumption) (Nat.le_of_ble_eq_true rfl) (Nat.le_of_ble_eq_true rfl) rfl rfl ?_
      refine m_emit (k := 4) (v := 0) (exc_o (W' := W) hE (fg_up (fg_refl _ _) rfl) rfl rfl hE.2.2.2.2.1.2) (by omega) (fun g2 σ2 G2 E2 => ?_)
      refine wq_go rfl (fun _ => rfl) ?_
      exact wq_lv ⟨(by decide : ([2, 0, 1] : List Nat).Nodup), (lvm (List.mem_of_getElem? (i := 1) rfl) (lvm (List.mem_of_getElem? (i := 2) rfl) lvn))⟩ (m_out0 W _ g2 σ2 hO.1 (by omega) (by simp only [List.length_append, List.length_cons, List.length_nil]; omega) E2 (fun g' σ' G' E' => K g' σ' (fg_trans (fg_trans (fg_up (fg_refl _ _) rfl) (fg_mono G2 y44_O)) G') E'))
    · have hop := ops_n (w := 5) (W := W) (by decide)
      rw [popG_go (b := false) (w := 5) (by decide)] at K
      refine wq_go rfl (fun _ => rfl) ?_
      refine wq_getf rfl (by first | rfl | assumption) (by first | decide | omega | assumption) (mb_o hE.1) rfl ?_
      refine wq_top (show g 48 = nI (W.length + 1) from hE.2.2.2.1) ?_
      refine wq_zle rfl (by first | omega | decide | exact Nat.lt_of_le_of_lt Nat.and_le_right (by decide) | exact ⟨by omega, by omega⟩) (fun c => absurd c (by omega)) (fun c2 => ?_)
      refine wq_go rfl (fun _ => rfl) ?_
      refine wq_getf rfl (by first | rfl | assumption) (by first | decide | omega | assumption) (mb_o hE.1) rfl ?_
      refine wq_go rfl (fun _ => rfl) ?_
      refine wq_getf rfl (by first | rfl | assumption) (by first | decide | omega | assumption) (mb_o hE.1) rfl ?_
      refine wq_top (show g 48 = nI (W.length + 1) from hE.2.2.2.1) ?_
      refine wq_cN (m := 1) rfl rfl ?_
      refine wq_subN rfl (by omega) ?_
      refine wq_iald rfl (by first | rfl | assumption) (by first | decide | omega | assumption) (mb_a hE.1 (by decide) : IsA σ 319 64) rfl (by omega) (by first | decide | omega) ?_
      refine wq_top (show _ = nI 15 from hE.2.2.2.2.1.1) ?_
      refine wq_go rfl (fun _ => rfl) ?_
      refine wq_go rfl (fun _ => rfl) ?_
      refine wq_cN (m := 6) rfl rfl ?_
      refine wq_ceq rfl (by first | omega | decide | exact Nat.lt_of_le_of_lt Nat.and_le_right (by decide) | exact ⟨by omega, by omega⟩) (by first | omega | decide | exact Nat.lt_of_le_of_lt Nat.and_le_right (by decide) | exact ⟨by omega, by omega⟩) (fun c => absurd c (by omega)) (fun c13 => ?_)
      refine wq_go rfl (fun _ => rfl) ?_
      refine wq_zeq rfl (by first | omega | decide | exact Nat.lt_of_le_of_lt Nat.and_le_right (by decide) | exact ⟨by omega, by omega⟩) (fun c15 => ?_) (fun c => absurd (show _ from by omega) c)
      refine wq_go rfl (fun _ => rfl) ?_
      refine wq_go rfl (fun _ => rfl) ?_
      refine wq_getf rfl (by first | rfl | assumption) (by first | decide | omega | assumption) (mb_o hE.1) rfl ?_
      refine wq_top (show g 48 = nI (W.length + 1) from hE.2.2.2.1) ?_
      refine wq_cN (m := 1) rfl rfl ?_
      refine wq_subN rfl (by omega) ?_
      refine wq_mput rfl (mb_o hE.1) rfl rfl rfl rfl ?_
      refine wq_go rfl (fun _ => rfl) ?_
      refine wq_go rfl (fun _ => rfl) ?_
      refine wq_cN (m := 8) rfl rfl ?_
      refine wq_cne rfl (by first | omega | decide | exact Nat.lt_of_le_of_lt Nat.and_le_right (by decide) | exact ⟨by omega, by omega⟩) (by first | omega | decide | exact Nat.lt_of_le_of_lt Nat.and_le_right (by decide) | exact ⟨by omega, by omega⟩) (fun c32 => ?_) (fun c => absurd (show _ from by omega) c)
      refine wq_go rfl (fun _ => rfl) ?_
      refine wq_cN (m := 9) rfl rfl ?_
      refine wq_cne rfl (by first | omega | decide | exact Nat.lt_of_le_of_lt Nat.and_le_right (by decide) | exact ⟨by omega, by omega⟩) (by first | omega | decide | exact Nat.lt_of_le_of_lt Nat.and_le_right (by decide) | exact ⟨by omega, by omega⟩) (fun c37 => ?_) (fun c => absurd (show _ from by omega) c)
      refine wq_go rfl (fun _ => rfl) ?_
      refine wq_cN (m := 10) rfl rfl ?_
      refine wq_cne rfl (by first | omega | decide | exact Nat.lt_of_le_of_lt Nat.and_le_right (by decide) | exact ⟨by omega, by omega⟩) (by first | omega | decide | exact Nat.lt_of_le_of_lt Nat.and_le_right (by decide) | exact ⟨by omega, by omega⟩) (fun c42 => ?_) (fun c => absurd (show _ from by omega) c)
      refine wq_cN (m := 5) rfl rfl ?_
      refine wq_cN (m := 0) rfl rfl ?_
      refine wq_callV rfl rfl (by first | rfl | assumption) (by first | decide | omega | assumption) (Nat.le_of_ble_eq_true rfl) (Nat.le_of_ble_eq_true rfl) rfl rfl ?_
      refine m_emit (k := 5) (v := 0) (exc_o (W' := W) hE (fg_up (fg_refl _ _) rfl) rfl rfl hE.2.2.2.2.1.2) (by omega) (fun g2 σ2 G2 E2 => ?_)
      refine wq_go rfl (fun _ => rfl) ?_
      exact wq_lv ⟨(by decide : ([2, 0, 1] : List Nat).Nodup), (lvm (List.mem_of_getElem? (i := 1) rfl) (lvm (List.mem_of_getElem? (i := 2) rfl) lvn))⟩ (m_out0 W _ g2 σ2 hO.1 (by omega) (by simp only [List.length_append, List.length_cons, List.length_nil]; omega) E2 (fun g' σ' G' E' => K g' σ' (fg_trans (fg_trans (fg_up (fg_refl _ _) rfl) (fg_mono G2 y44_O)) G') E'))
theorem m_out1 {xs : List Int32} {d : Nat} {Q : Option Value → (Nat → List Value) → Prop} {B : Bs} {X : Tx} {s c0 : Nat} {σ0 : Nat → List Value} : ∀ (W : List Nat) (c : KCode) (g : Nat → Int32) (σ : Nat → List Value), okW W → W.length < 60 → c0 + c.length + ops W < 415 → ExC B X s σ0 c0 c W g σ → (∀ g' σ', FrG yO g g' → ExC B X s σ0 c0 (popG true W c).2 (popG true W c).1 g' σ' → Q none σ') → Wq xs (d + 1) ax_cd249 0 [(0, .ref 287), (1, .int (nI 1))] [] σ Q
  | [], c, g, σ, hO, hl, hb, hE, K => by
    refine wq_go rfl (fun _ => rfl) ?_
    refine wq_getf rfl (by first | rfl | assumption) (by first | decide | omega | assumption) (mb_o hE.1) rfl ?_
    refine wq_top (show g 48 = nI 0 from hE.2.2.2.1) ?_
    refine wq_zle rfl (by first | omega | decide | exact Nat.lt_of_le_of_lt Nat.and_le_right (by decide) | exact ⟨by omega, by omega⟩) (fun c2 => ?_) (fun c => absurd (show _ from by omega) c)
    refine wq_end rfl (fun _ => rfl) ?_
    exact K g σ (fg_refl _ _) hE
  | w :: W, c, g, σ, hO, hl, hb, hE, K => by
    have hl : W.length + 1 < 60 := hl
    rcases okW_c hO with e | e | e | e | e <;> subst e
    · rw [popG_st (b := true) (w := 6) (by decide)] at K
      refine wq_go rfl (fun _ => rfl) ?_
      refine wq_getf rfl (by first | rfl | assumption) (by first | decide | omega | assumption) (mb_o hE.1) rfl ?_
      refine wq_top (show g 48 = nI (W.length + 1) from hE.2.2.2.1) ?_
      refine wq_zle rfl (by first | omega | decide | exact Nat.lt_of_le_of_lt Nat.and_le_right (by decide) | exact ⟨by omega, by omega⟩) (fun c => absurd c (by omega)) (fun c2 => ?_)
      refine wq_go rfl (fun _ => rfl) ?_
      refine wq_getf rfl (by first | rfl | assumption) (by first | decide | omega | assumption) (mb_o hE.1) rfl ?_
      refine wq_go rfl (fun _ => rfl) ?_
      refine wq_getf rfl (by first | rfl | assumption) (by first | decide | omega | assumption) (mb_o hE.1) rfl ?_
      refine wq_top (show g 48 = nI (W.length + 1) from hE.2.2.2.1) ?_
      refine wq_cN (m := 1) rfl rfl ?_
      refine wq_subN rfl (by omega) ?_
      refine wq_iald rfl (by first | rfl | assumption) (by first | decide | omega | assumption) (mb_a hE.1 (by decide) : IsA σ 319 64) rfl (by omega) (by first | decide | omega) ?_
      refine wq_top (show _ = nI 6 from hE.2.2.2.2.1.1) ?_
      refine wq_go rfl (fun _ => rfl) ?_
      refine wq_go rfl (fun _ => rfl) ?_
      refine wq_cN (m := 6) rfl rfl ?_
      refine wq_ceq rfl (by first | omega | decide | exact Nat.lt_of_le_of_lt Nat.and_le_right (by decide) | exact ⟨by omega, by omega⟩) (by first | omega | decide | exact Nat.lt_of_le_of_lt Nat.and_le_right (by decide) | exact ⟨by omega, by omega⟩) (fun c13 => ?_) (fun c => absurd (show _ from by omega) c)
      refine wq_end rfl (fun _ => rfl) ?_
      exact K g σ (fg_refl _ _) hE
    · have hop := ops_n (w := 2) (W := W) (by decide)
      rw [popG_st (b := true) (w := 2) (by decide)] at K
      refine wq_go rfl (fun _ => rfl) ?_
      refine wq_getf rfl (by first | rfl | assumption) (by first | decide | omega | assumption) (mb_o hE.1) rfl ?_
      refine wq_top (show g 48 = nI (W.length + 1) from hE.2.2.2.1) ?_
      refine wq_zle rfl (by first | omega | decide | exact Nat.lt_of_le_of_lt Nat.and_le_right (by decide) | exact ⟨by omega, by omega⟩) (fun c => absurd c (by omega)) (fun c2 => ?_)
      refine wq_go rfl (fun _ => rfl) ?_
      refine wq_getf rfl (by first | rfl | assumption) (by first | decide | omega | assumption) (mb_o hE.1) rfl ?_
      refine wq_go rfl (fun _ => rfl) ?_
      refine wq_getf rfl (by first | rfl | assumption) (by first | decide | omega | assumption) (mb_o hE.1) rfl ?_
      refine wq_top (show g 48 = nI (W.length + 1) from hE.2.2.2.1) ?_
      refine wq_cN (m := 1) rfl rfl ?_
      refine wq_subN rfl (by omega) ?_
      refine wq_iald rfl (by first | rfl | assumption) (by first | decide | omega | assumption) (mb_a hE.1 (by decide) : IsA σ 319 64) rfl (by omega) (by first | decide | omega) ?_
      refine wq_top (show _ = nI 8 from hE.2.2.2.2.1.1) ?_
      refine wq_go rfl (fun _ => rfl) ?_
      refine wq_go rfl (fun _ => rfl) ?_
      refine wq_cN (m := 6) rfl rfl ?_
      refine wq_ceq rfl (by first | omega | decide | exact Nat.lt_of_le_of_lt Nat.and_le_right (by decide) | exact ⟨by omega, by omega⟩) (by first | omega | decide | exact Nat.lt_of_le_of_lt Nat.and_le_right (by decide) | exact ⟨by omega, by omega⟩) (fun c => absurd c (by omega)) (fun c13 => ?_)
      refine wq_go rfl (fun _ => rfl) ?_
      refine wq_zeq rfl (by first | omega | decide | exact Nat.lt_of_le_of_lt Nat.and_le_right (by decide) | exact ⟨by omega, by omega⟩) (fun c => absurd c (by omega)) (fun c15 => ?_)
      refine wq_go rfl (fun _ => rfl) ?_
      refine wq_cN (m := 8) rfl rfl ?_
      refine wq_ceq rfl (by first | omega | decide | exact Nat.lt_of_le_of_lt Nat.and_le_right (by decide) | exact ⟨by omega, by omega⟩) (by first | omega | decide | exact Nat.lt_of_le_of_lt Nat.and_le_right (by decide) | exact ⟨by omega, by omega⟩) (fun c18 => ?_) (fun c => absurd (show _ from by omega) c)
      refine wq_end rfl (fun _ => rfl) ?_
      exact K g σ (fg_refl _ _) hE
    · have hop := ops_n (w := 3) (W := W) (by decide)
      rw [popG_st (b := true) (w := 3) (by decide)] at K
      refine wq_go rfl (fun _ => rfl) ?_
      refine wq_getf rfl (by first | rfl | assumption) (by first | decide | omega | assumption) (mb_o hE.1) rfl ?_
      refine wq_top (show g 48 = nI (W.length + 1) from hE.2.2.2.1) ?_
      refine wq_zle rfl (by first | omega | decide | exact Nat.lt_of_le_of_lt Nat.and_le_right (by decide) | exact ⟨by omega, by omega⟩) (fun c => absurd c (by omega)) (fun c2 => ?_)
      refine wq_go rfl (fun _ => rfl) ?_
      refine wq_getf rfl (by first | rfl | assumption) (by first | decide | omega | assumption) (mb_o hE.1) rfl ?_
      refine wq_go rfl (fun _ => rfl) ?_
      refine wq_getf rfl (by first | rfl | assumption) (by first | decide | omega | assumption) (mb_o hE.1) rfl ?_
      refine wq_top (show g 48 = nI (W.length + 1) from hE.2.2.2.1) ?_
      refine wq_cN (m := 1) rfl rfl ?_
      refine wq_subN rfl (by omega) ?_
      refine wq_iald rfl (by first | rfl | assumption) (by first | decide | omega | assumption) (mb_a hE.1 (by decide) : IsA σ 319 64) rfl (by omega) (by first | decide | omega) ?_
      refine wq_top (show _ = nI 9 from hE.2.2.2.2.1.1) ?_
      refine wq_go rfl (fun _ => rfl) ?_
      refine wq_go rfl (fun _ => rfl) ?_
      refine wq_cN (m := 6) rfl rfl ?_
      refine wq_ceq rfl (by first | omega | decide | exact Nat.lt_of_le_of_lt Nat.and_le_right (by decide) | exact ⟨by omega, by omega⟩) (by first | omega | decide | exact Nat.lt_of_le_of_lt Nat.and_le_right (by decide) | exact ⟨by omega, by omega⟩) (fun c => absurd c (by omega)) (fun c13 => ?_)
      refine wq_go rfl (fun _ => rfl) ?_
      refine wq_zeq rfl (by first | omega | decide | exact Nat.lt_of_le_of_lt Nat.and_le_right (by decide) | exact ⟨by omega, by omega⟩) (fun c => absurd c (by omega)) (fun c15 => ?_)
      refine wq_go rfl (fun _ => rfl) ?_
      refine wq_cN (m := 8) rfl rfl ?_
      refine wq_ceq rfl (by first | omega | decide | exact Nat.lt_of_le_of_lt Nat.and_le_right (by decide) | exact ⟨by omega, by omega⟩) (by first | omega | decide | exact Nat.lt_of_le_of_lt Nat.and_le_right (by decide) | exact ⟨by omega, by omega⟩) (fun c => absurd c (by omega)) (fun c18 => ?_)
      refine wq_go rfl (fun _ => rfl) ?_
      refine wq_cN (m := 9) rfl rfl ?_
      refine wq_cne rfl (by first | omega | decide | exact Nat.lt_of_le_of_lt Nat.and_le_right (by decide) | exact ⟨by omega, by omega⟩) (by first | omega | decide | exact Nat.lt_of_le_of_lt Nat.and_le_right (by decide) | exact ⟨by omega, by omega⟩) (fun c => absurd c (by omega)) (fun c21 => ?_)
      refine wq_end rfl (fun _ => rfl) ?_
      exact K g σ (fg_refl _ _) hE
    · have hop := ops_n (w := 4) (W := W) (by decide)
      rw [popG_go (b := true) (w := 4) (by decide)] at K
      refine wq_go rfl (fun _ => rfl) ?_
      refine wq_getf rfl (by first | rfl | assumption) (by first | decide | omega | assumption) (mb_o hE.1) rfl ?_
      refine wq_top (show g 48 = nI (W.length + 1) from hE.2.2.2.1) ?_
      refine wq_zle rfl (by first | omega | decide | exact Nat.lt_of_le_of_lt Nat.and_le_right (by decide) | exact ⟨by omega, by omega⟩) (fun c => absurd c (by omega)) (fun c2 => ?_)
      refine wq_go rfl (fun _ => rfl) ?_
      refine wq_getf rfl (by first | rfl | assumption) (by first | decide | omega | assumption) (mb_o hE.1) rfl ?_
      refine wq_go rfl (fun _ => rfl) ?_
      refine wq_getf rfl (by first | rfl | assumption) (by first | decide | omega | assumption) (mb_o hE.1) rfl ?_
      refine wq_top (show g 48 = nI (W.length + 1) from hE.2.2.2.1) ?_
      refine wq_cN (m := 1) rfl rfl ?_
      refine wq_subN rfl (by omega) ?_
      refine wq_iald rfl (by first | rfl | assumption) (by first | decide | omega | assumption) (mb_a hE.1 (by decide) : IsA σ 319 64) rfl (by omega) (by first | decide | omega) ?_
      refine wq_top (show _ = nI 10 from hE.2.2.2.2.1.1) ?_
      refine wq_go rfl (fun _ => rfl) ?_
      refine wq_go rfl (fun _ => rfl) ?_
      refine wq_cN (m := 6) rfl rfl ?_
      refine wq_ceq rfl (by first | omega | decide | exact Nat.lt_of_le_of_lt Nat.and_le_right (by decide) | exact ⟨by omega, by omega⟩) (by first | omega | decide | exact Nat.lt_of_le_of_lt Nat.and_le_right (by decide) | exact ⟨by omega, by omega⟩) (fun c => absurd c (by omega)) (fun c13 => ?_)
      refine wq_go rfl (fun _ => rfl) ?_
      refine wq_zeq rfl (by first | omega | decide | exact Nat.lt_of_le_of_lt Nat.and_le_right (by decide) | exact ⟨by omega, by omega⟩) (fun c => absurd c (by omega)) (fun c15 => ?_)
      refine wq_go rfl (fun _ => rfl) ?_
      refine wq_cN (m := 8) rfl rfl ?_
      refine wq_ceq rfl (by first | omega | decide | exact Nat.lt_of_le_of_lt Nat.and_le_right (by decide) | exact ⟨by omega, by omega⟩) (by first | omega | decide | exact Nat.lt_of_le_of_lt Nat.and_le_right (by decide) | exact ⟨by omega, by omega⟩) (fun c => absurd c (by omega)) (fun c18 => ?_)
      refine wq_go rfl (fun _ => rfl) ?_
      refine wq_cN (m := 9) rfl rfl ?_
      refine wq_cne rfl (by first | omega | decide | exact Nat.lt_of_le_of_lt Nat.and_le_right (by decide) | exact ⟨by omega, by omega⟩) (by first | omega | decide | exact Nat.lt_of_le_of_lt Nat.and_le_right (by decide) | exact ⟨by omega, by omega⟩) (fun c21 => ?_) (fun c => absurd (show _ from by omega) c)
      refine wq_go rfl (fun _ => rfl) ?_
      refine wq_go rfl (fun _ => rfl) ?_
      refine wq_getf rfl (by first | rfl | assumption) (by first | decide | omega | assumption) (mb_o hE.1) rfl ?_
      refine wq_top (show g 48 = nI (W.length + 1) from hE.2.2.2.1) ?_
      refine wq_cN (m := 1) rfl rfl ?_
      refine wq_subN rfl (by omega) ?_
      refine wq_mput rfl (mb_o hE.1) rfl rfl rfl rfl ?_
      refine wq_go rfl (fun _ => rfl) ?_
      refine wq_go rfl (fun _ => rfl) ?_
      refine wq_cN (m := 8) rfl rfl ?_
      refine wq_cne rfl (by first | omega | decide | exact Nat.lt_of_le_of_lt Nat.and_le_right (by decide) | exact ⟨by omega, by omega⟩) (by first | omega | decide | exact Nat.lt_of_le_of_lt Nat.and_le_right (by decide) | exact ⟨by omega, by omega⟩) (fun c32 => ?_) (fun c => absurd (show _ from by omega) c)
      refine wq_go rfl (fun _ => rfl) ?_
      refine wq_cN (m := 9) rfl rfl ?_
      refine wq_cne rfl (by first | omega | decide | exact Nat.lt_of_le_of_lt Nat.and_le_right (by decide) | exact ⟨by omega, by omega⟩) (by first | omega | decide | exact Nat.lt_of_le_of_lt Nat.and_le_right (by decide) | exact ⟨by omega, by omega⟩) (fun c37 => ?_) (fun c => absurd (show _ from by omega) c)
      refine wq_go rfl (fun _ => rfl) ?_
      refine wq_cN (m := 10) rfl rfl ?_
      refine wq_cne rfl (by first | omega | decide | exact Nat.lt_of_le_of_lt Nat.and_le_right (by decide) | exact ⟨by omega, by omega⟩) (by first | omega | decide | exact Nat.lt_of_le_of_lt Nat.and_le_right (by decide) | exact ⟨by omega, by omega⟩) (fun c => absurd c (by omega)) (fun c42 => ?_)
      refine wq_cN (m := 4) rfl rfl ?_
      refine wq_go rfl (fun _ => rfl) ?_
      refine wq_cN (m := 0) rfl rfl ?_
      refine wq_callV rfl rfl (by first | rfl | assumption) (by first | decide | omega | assumption) (Nat.le_of_ble_eq_true rfl) (Nat.le_of_ble_eq_true rfl) rfl rfl ?_
      refine m_emit (k := 4) (v := 0) (exc_o (W' := W) hE (fg_up (fg_refl _ _) rfl) rfl rfl hE.2.2.2.2.1.2) (by omega) (fun g2 σ2 G2 E2 => ?_)
      refine wq_go rfl (fun _ => rfl) ?_
      exact wq_lv ⟨(by decide : ([2, 0, 1] : List Nat).Nodup), (lvm (List.mem_of_getElem? (i := 1) rfl) (lvm (List.mem_of_getElem? (i := 2) rfl) lvn))⟩ (m_out1 W _ g2 σ2 hO.1 (by omega) (by simp only [List.length_append, List.length_cons, List.length_nil]; omega) E2 (fun g' σ' G' E' => K g' σ' (fg_trans (fg_trans (fg_up (fg_refl _ _) rfl) (fg_mono G2 y44_O)) G') E'))
    · have hop := ops_n (w := 5) (W := W) (by decide)
      rw [popG_go (b := true) (w := 5) (by decide)] at K
      refine wq_go rfl (fun _ => rfl) ?_
      refine wq_getf rfl (by first | rfl | assumption) (by first | decide | omega | assumption) (mb_o hE.1) rfl ?_
      refine wq_top (show g 48 = nI (W.length + 1) from hE.2.2.2.1) ?_
      refine wq_zle rfl (by first | omega | decide | exact Nat.lt_of_le_of_lt Nat.and_le_right (by decide) | exact ⟨by omega, by omega⟩) (fun c => absurd c (by omega)) (fun c2 => ?_)
      refine wq_go rfl (fun _ => rfl) ?_
      refine wq_getf rfl (by first | rfl | assumption) (by first | decide | omega | assumption) (mb_o hE.1) rfl ?_
      refine wq_go rfl (fun _ => rfl) ?_
      refine wq_getf rfl (by first | rfl | assumption) (by first | decide | omega | assumption) (mb_o hE.1) rfl ?_
      refine wq_top (show g 48 = nI (W.length + 1) from hE.2.2.2.1) ?_
      refine wq_cN (m := 1) rfl rfl ?_
      refine wq_subN rfl (by omega) ?_
      refine wq_iald rfl (by first | rfl | assumption) (by first | decide | omega | assumption) (mb_a hE.1 (by decide) : IsA σ 319 64) rfl (by omega) (by first | decide | omega) ?_
      refine wq_top (show _ = nI 15 from hE.2.2.2.2.1.1) ?_
      refine wq_go rfl (fun _ => rfl) ?_
      refine wq_go rfl (fun _ => rfl) ?_
      refine wq_cN (m := 6) rfl rfl ?_
      refine wq_ceq rfl (by first | omega | decide | exact Nat.lt_of_le_of_lt Nat.and_le_right (by decide) | exact ⟨by omega, by omega⟩) (by first | omega | decide | exact Nat.lt_of_le_of_lt Nat.and_le_right (by decide) | exact ⟨by omega, by omega⟩) (fun c => absurd c (by omega)) (fun c13 => ?_)
      refine wq_go rfl (fun _ => rfl) ?_
      refine wq_zeq rfl (by first | omega | decide | exact Nat.lt_of_le_of_lt Nat.and_le_right (by decide) | exact ⟨by omega, by omega⟩) (fun c => absurd c (by omega)) (fun c15 => ?_)
      refine wq_go rfl (fun _ => rfl) ?_
      refine wq_cN (m := 8) rfl rfl ?_
      refine wq_ceq rfl (by first | omega | decide | exact Nat.lt_of_le_of_lt Nat.and_le_right (by decide) | exact ⟨by omega, by omega⟩) (by first | omega | decide | exact Nat.lt_of_le_of_lt Nat.and_le_right (by decide) | exact ⟨by omega, by omega⟩) (fun c => absurd c (by omega)) (fun c18 => ?_)
      refine wq_go rfl (fun _ => rfl) ?_
      refine wq_cN (m := 9) rfl rfl ?_
      refine wq_cne rfl (by first | omega | decide | exact Nat.lt_of_le_of_lt Nat.and_le_right (by decide) | exact ⟨by omega, by omega⟩) (by first | omega | decide | exact Nat.lt_of_le_of_lt Nat.and_le_right (by decide) | exact ⟨by omega, by omega⟩) (fun c21 => ?_) (fun c => absurd (show _ from by omega) c)
      refine wq_go rfl (fun _ => rfl) ?_
      refine wq_go rfl (fun _ => rfl) ?_
      refine wq_getf rfl (by first | rfl | assumption) (by first | decide | omega | assumption) (mb_o hE.1) rfl ?_
      refine wq_top (show g 48 = nI (W.length + 1) from hE.2.2.2.1) ?_
      refine wq_cN (m := 1) rfl rfl ?_
      refine wq_subN rfl (by omega) ?_
      refine wq_mput rfl (mb_o hE.1) rfl rfl rfl rfl ?_
      refine wq_go rfl (fun _ => rfl) ?_
      refine wq_go rfl (fun _ => rfl) ?_
      refine wq_cN (m := 8) rfl rfl ?_
      refine wq_cne rfl (by first | omega | decide | exact Nat.lt_of_le_of_lt Nat.and_le_right (by decide) | exact ⟨by omega, by omega⟩) (by first | omega | decide | exact Nat.lt_of_le_of_lt Nat.and_le_right (by decide) | exact ⟨by omega, by omega⟩) (fun c32 => ?_) (fun c => absurd (show _ from by omega) c)
      refine wq_go rfl (fun _ => rfl) ?_
      refine wq_cN (m := 9) rfl rfl ?_
      refine wq_cne rfl (by first | omega | decide | exact Nat.lt_of_le_of_lt Nat.and_le_right (by decide) | exact ⟨by omega, by omega⟩) (by first | omega | decide | exact Nat.lt_of_le_of_lt Nat.and_le_right (by decide) | exact ⟨by omega, by omega⟩) (fun c37 => ?_) (fun c => absurd (show _ from by omega) c)
      refine wq_go rfl (fun _ => rfl) ?_
      refine wq_cN (m := 10) rfl rfl ?_
      refine wq_cne rfl (by first | omega | decide | exact Nat.lt_of_le_of_lt Nat.and_le_right (by decide) | exact ⟨by omega, by omega⟩) (by first | omega | decide | exact Nat.lt_of_le_of_lt Nat.and_le_right (by decide) | exact ⟨by omega, by omega⟩) (fun c42 => ?_) (fun c => absurd (show _ from by omega) c)
      refine wq_cN (m := 5) rfl rfl ?_
      refine wq_cN (m := 0) rfl rfl ?_
      refine wq_callV rfl rfl (by first | rfl | assumption) (by first | decide | omega | assumption) (Nat.le_of_ble_eq_true rfl) (Nat.le_of_ble_eq_true rfl) rfl rfl ?_
      refine m_emit (k := 5) (v := 0) (exc_o (W' := W) hE (fg_up (fg_refl _ _) rfl) rfl rfl hE.2.2.2.2.1.2) (by omega) (fun g2 σ2 G2 E2 => ?_)
      refine wq_go rfl (fun _ => rfl) ?_
      exact wq_lv ⟨(by decide : ([2, 0, 1] : List Nat).Nodup), (lvm (List.mem_of_getElem? (i := 1) rfl) (lvm (List.mem_of_getElem? (i := 2) rfl) lvn))⟩ (m_out1 W _ g2 σ2 hO.1 (by omega) (by simp only [List.length_append, List.length_cons, List.length_nil]; omega) E2 (fun g' σ' G' E' => K g' σ' (fg_trans (fg_trans (fg_up (fg_refl _ _) rfl) (fg_mono G2 y44_O)) G') E'))
