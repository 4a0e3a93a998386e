/-! READ, BY THE REFERENCE: its parts -/
def xBg : Nat → Bool := fun j => j == 287 || j == 323
theorem x323_Bg : ∀ j, x323 j = true → xBg j = true := by
  intro j h
  simp only [x323] at h
  simp only [xBg, h, Bool.or_true]
theorem byN_nar (x : Int32) : byN (vp_nar .byte x) = byN x := by
  show (x.toInt8.toInt32).toBitVec.toNat % 256 = x.toBitVec.toNat % 256
  rw [Int8.toBitVec_toInt32, Int32.toBitVec_toInt8]
  have h : ∀ v : BitVec 32, ((v.signExtend 8).signExtend 32).toNat % 256 = v.toNat % 256 := by
    intro v
    have : ((v.signExtend 8).signExtend 32).setWidth 8 = v.setWidth 8 := by
      ext i hi
      simp only [BitVec.getElem_setWidth, BitVec.getLsbD_signExtend, hi, if_true, show i < 32 from Nat.lt_trans hi (by decide), decide_true, Bool.true_and]
    have := congrArg BitVec.toNat this
    simpa using this
  exact h x.toBitVec
theorem m_bg1 {xs : List Int32} {d : Nat} {σ : Nat → List Value} {Q : Option Value → (Nat → List Value) → Prop} {P : Pl} {L : Nat} {g : Nat → Int32} (hL2 : L < 2) (hP : Pok P)  (K : ∀ σ' f', Fr x323 σ σ' → MD P L g σ' → σ' 323 = arr 61 f' → (∀ j, j < 61 → (j < 61 → f' j = nI 0)) → Wq xs (d + 0) ax_cd220 12 [(0, .ref 287)] [] σ' Q) : ∀ (m u : Nat), m + u = 61 → ∀ σ1 f1, Fr x323 σ σ1 → MD P L g σ1 → σ1 323 = arr 61 f1 → (∀ j, j < 61 → (j < u → f1 j = nI 0)) → Wq xs (d + 0) ax_cd220 2 [(1, .int (nI u)), (0, .ref 287)] [] σ1 Q := by
  obtain ⟨hP1, hP2, hP3, hP4, hP5, hP6, hP7, hP8, hPv, hPm, hPo, hPw, hPl⟩ := id hP
  intro m
  induction m with
  | zero =>
    intro u hm σ1 f1 hF1 hM1 h1 hA
    refine wq_go rfl (fun _ => rfl) ?_
    refine wq_cN (m := 61) rfl rfl ?_
    refine wq_cge rfl (by first | omega | decide | exact Nat.lt_of_le_of_lt Nat.and_le_right (by decide) | exact ⟨by omega, by omega⟩) (by first | omega | decide | exact Nat.lt_of_le_of_lt Nat.and_le_right (by decide) | exact ⟨by omega, by omega⟩) (fun c4 => ?_) (fun c => absurd (show _ from by omega) c)
    exact wq_lv ⟨(by decide : ([1, 0] : List Nat).Nodup), (lvm (List.mem_of_getElem? (i := 1) rfl) lvn)⟩ (K σ1 f1 hF1 hM1 h1 (fun j hj hj2 => hA j hj (by omega)))
  | succ m ih =>
    intro u hm σ1 f1 hF1 hM1 h1 hA
    refine wq_go rfl (fun _ => rfl) ?_
    refine wq_cN (m := 61) rfl rfl ?_
    refine wq_cge rfl (by first | omega | decide | exact Nat.lt_of_le_of_lt Nat.and_le_right (by decide) | exact ⟨by omega, by omega⟩) (by first | omega | decide | exact Nat.lt_of_le_of_lt Nat.and_le_right (by decide) | exact ⟨by omega, by omega⟩) (fun c => absurd c (by omega)) (fun c4 => ?_)
    refine wq_go rfl (fun _ => rfl) ?_
    refine wq_getf rfl (by first | rfl | assumption) (by first | decide | omega | assumption) (md_o hM1) rfl ?_
    refine wq_go rfl (fun _ => rfl) ?_
    refine wq_cN (m := 0) rfl rfl ?_
    refine wq_iast rfl (by first | rfl | assumption) (by first | decide | omega | assumption) h1 rfl (by omega) (by first | decide | omega) ?_
    refine wq_incN rfl rfl rfl ?_
    refine wq_go rfl (fun _ => rfl) ?_
    exact ih (u + 1) (by omega) _ _ (fr_up hF1 rfl) (md_u323 hM1) (up_same _ _ _) (fun j hj hj2 => by
      unfold upd
      split
      · rfl
      · exact hA j hj (by omega))
theorem m_bg2 {xs : List Int32} {d : Nat} {σ : Nat → List Value} {Q : Option Value → (Nat → List Value) → Prop} {P : Pl} {L : Nat} {g : Nat → Int32} (hL2 : L < 2) (hP : Pok P)  (K : ∀ σ' f', Fr x323 σ σ' → MD P L g σ' → σ' 323 = arr 61 f' → (∀ j, j < 61 → f' j = if 24 ≤ j ∧ j < 24 + 4 * Phd P then nI (Pow P (j - 24)) else nI 0) → Wq xs (d + 0) ax_cd220 40 [(0, .ref 287)] [] σ' Q) : ∀ (m u : Nat), m + u = 4 * Phd P → ∀ σ1 f1, Fr x323 σ σ1 → MD P L g σ1 → σ1 323 = arr 61 f1 → (∀ j, j < 61 → f1 j = if 24 ≤ j ∧ j < 24 + u then nI (Pow P (j - 24)) else nI 0) → Wq xs (d + 0) ax_cd220 14 [(1, .int (nI u)), (0, .ref 287)] [] σ1 Q := by
  obtain ⟨hP1, hP2, hP3, hP4, hP5, hP6, hP7, hP8, hPv, hPm, hPo, hPw, hPl⟩ := id hP
  intro m
  induction m with
  | zero =>
    intro u hm σ1 f1 hF1 hM1 h1 hA
    refine wq_go rfl (fun _ => rfl) ?_
    refine wq_cN (m := 4) rfl rfl ?_
    refine wq_go rfl (fun _ => rfl) ?_
    refine wq_getf rfl (by first | rfl | assumption) (by first | decide | omega | assumption) (md_o hM1) rfl ?_
    refine wq_go rfl (fun _ => rfl) ?_
    refine wq_getf rfl (by first | rfl | assumption) (by first | decide | omega | assumption) (md_o hM1) rfl ?_
    refine wq_top (md_l hM1) ?_
    refine wq_iald rfl (by first | rfl | assumption) (by first | decide | omega | assumption) (md_c299 hM1) rfl (by omega) (by first | decide | omega) ?_
    refine wq_top (md_m299 hM1) ?_
    refine wq_mulN rfl ?_
    refine wq_cge rfl (by first | omega | decide | exact Nat.lt_of_le_of_lt Nat.and_le_right (by decide) | exact ⟨by omega, by omega⟩) (by first | omega | decide | exact Nat.lt_of_le_of_lt Nat.and_le_right (by decide) | exact ⟨by omega, by omega⟩) (fun c22 => ?_) (fun c => absurd (show _ from by omega) c)
    have hu : u = 4 * Phd P := by omega
    subst hu
    exact wq_lv ⟨(by decide : ([1, 0] : List Nat).Nodup), (lvm (List.mem_of_getElem? (i := 1) rfl) lvn)⟩ (K σ1 f1 hF1 hM1 h1 hA)
  | succ m ih =>
    intro u hm σ1 f1 hF1 hM1 h1 hA
    refine wq_go rfl (fun _ => rfl) ?_
    refine wq_cN (m := 4) rfl rfl ?_
    refine wq_go rfl (fun _ => rfl) ?_
    refine wq_getf rfl (by first | rfl | assumption) (by first | decide | omega | assumption) (md_o hM1) rfl ?_
    refine wq_go rfl (fun _ => rfl) ?_
    refine wq_getf rfl (by first | rfl | assumption) (by first | decide | omega | assumption) (md_o hM1) rfl ?_
    refine wq_top (md_l hM1) ?_
    refine wq_iald rfl (by first | rfl | assumption) (by first | decide | omega | assumption) (md_c299 hM1) rfl (by omega) (by first | decide | omega) ?_
    refine wq_top (md_m299 hM1) ?_
    refine wq_mulN rfl ?_
    refine wq_cge rfl (by first | omega | decide | exact Nat.lt_of_le_of_lt Nat.and_le_right (by decide) | exact ⟨by omega, by omega⟩) (by first | omega | decide | exact Nat.lt_of_le_of_lt Nat.and_le_right (by decide) | exact ⟨by omega, by omega⟩) (fun c => absurd c (by omega)) (fun c22 => ?_)
    refine wq_go rfl (fun _ => rfl) ?_
    refine wq_getf rfl (by first | rfl | assumption) (by first | decide | omega | assumption) (md_o hM1) rfl ?_
    refine wq_cN (m := 24) rfl rfl ?_
    refine wq_go rfl (fun _ => rfl) ?_
    refine wq_addN rfl ?_
    refine wq_go rfl (fun _ => rfl) ?_
    refine wq_getf rfl (by first | rfl | assumption) (by first | decide | omega | assumption) (md_o hM1) rfl ?_
    refine wq_cN (m := 20) rfl rfl ?_
    refine wq_go rfl (fun _ => rfl) ?_
    refine wq_getf rfl (by first | rfl | assumption) (by first | decide | omega | assumption) (md_o hM1) rfl ?_
    refine wq_top (md_l hM1) ?_
    refine wq_mulN rfl ?_
    refine wq_go rfl (fun _ => rfl) ?_
    refine wq_addN rfl ?_
    refine wq_iald rfl (by first | rfl | assumption) (by first | decide | omega | assumption) (md_c301 hM1) rfl (by omega) (by first | decide | omega) ?_
    refine wq_top (md_m301 hM1 u (by omega)) ?_
    refine wq_iast rfl (by first | rfl | assumption) (by first | decide | omega | assumption) h1 rfl (by omega) (by first | decide | omega) ?_
    refine wq_incN rfl rfl rfl ?_
    refine wq_go rfl (fun _ => rfl) ?_
    exact ih (u + 1) (by omega) _ _ (fr_up hF1 rfl) (md_u323 hM1) (up_same _ _ _) (fun j hj => by
      unfold upd
      by_cases q : j = 24 + u
      · rw [if_pos q, if_pos (by omega), show j - 24 = u by omega]
      · rw [if_neg q, hA j hj]
        by_cases q2 : 24 ≤ j ∧ j < 24 + u
        · rw [if_pos q2, if_pos (by omega)]
        · rw [if_neg q2, if_neg (by omega)])
theorem m_bg3 {xs : List Int32} {d : Nat} {σ : Nat → List Value} {Q : Option Value → (Nat → List Value) → Prop} {P : Pl} {L : Nat} {g : Nat → Int32} (hL2 : L < 2) (hP : Pok P)  (K : ∀ σ' f', Fr x323 σ σ' → MD P L g σ' → σ' 323 = arr 61 f' → (∀ j, j < 61 → f' j = if 24 ≤ j ∧ j < 24 + 4 * Phd P then nI (Pow P (j - 24)) else if 49 ≤ j ∧ j < 49 + Pvs P then nI 1 else nI 0) → Wq xs (d + 0) ax_cd220 58 [(0, .ref 287)] [] σ' Q) : ∀ (m u : Nat), m + u = Pvs P → ∀ σ1 f1, Fr x323 σ σ1 → MD P L g σ1 → σ1 323 = arr 61 f1 → (∀ j, j < 61 → f1 j = if 24 ≤ j ∧ j < 24 + 4 * Phd P then nI (Pow P (j - 24)) else if 49 ≤ j ∧ j < 49 + u then nI 1 else nI 0) → Wq xs (d + 0) ax_cd220 42 [(1, .int (nI u)), (0, .ref 287)] [] σ1 Q := by
  obtain ⟨hP1, hP2, hP3, hP4, hP5, hP6, hP7, hP8, hPv, hPm, hPo, hPw, hPl⟩ := id hP
  intro m
  induction m with
  | zero =>
    intro u hm σ1 f1 hF1 hM1 h1 hA
    refine wq_go rfl (fun _ => rfl) ?_
    refine wq_go rfl (fun _ => rfl) ?_
    refine wq_getf rfl (by first | rfl | assumption) (by first | decide | omega | assumption) (md_o hM1) rfl ?_
    refine wq_go rfl (fun _ => rfl) ?_
    refine wq_getf rfl (by first | rfl | assumption) (by first | decide | omega | assumption) (md_o hM1) rfl ?_
    refine wq_top (md_l hM1) ?_
    refine wq_iald rfl (by first | rfl | assumption) (by first | decide | omega | assumption) (md_c302 hM1) rfl (by omega) (by first | decide | omega) ?_
    refine wq_top (md_m302 hM1) ?_
    refine wq_cge rfl (by first | omega | decide | exact Nat.lt_of_le_of_lt Nat.and_le_right (by decide) | exact ⟨by omega, by omega⟩) (by first | omega | decide | exact Nat.lt_of_le_of_lt Nat.and_le_right (by decide) | exact ⟨by omega, by omega⟩) (fun c48 => ?_) (fun c => absurd (show _ from by omega) c)
    have hu : u = Pvs P := by omega
    subst hu
    exact wq_lv ⟨(by decide : ([1, 0] : List Nat).Nodup), (lvm (List.mem_of_getElem? (i := 1) rfl) lvn)⟩ (K σ1 f1 hF1 hM1 h1 hA)
  | succ m ih =>
    intro u hm σ1 f1 hF1 hM1 h1 hA
    refine wq_go rfl (fun _ => rfl) ?_
    refine wq_go rfl (fun _ => rfl) ?_
    refine wq_getf rfl (by first | rfl | assumption) (by first | decide | omega | assumption) (md_o hM1) rfl ?_
    refine wq_go rfl (fun _ => rfl) ?_
    refine wq_getf rfl (by first | rfl | assumption) (by first | decide | omega | assumption) (md_o hM1) rfl ?_
    refine wq_top (md_l hM1) ?_
    refine wq_iald rfl (by first | rfl | assumption) (by first | decide | omega | assumption) (md_c302 hM1) rfl (by omega) (by first | decide | omega) ?_
    refine wq_top (md_m302 hM1) ?_
    refine wq_cge rfl (by first | omega | decide | exact Nat.lt_of_le_of_lt Nat.and_le_right (by decide) | exact ⟨by omega, by omega⟩) (by first | omega | decide | exact Nat.lt_of_le_of_lt Nat.and_le_right (by decide) | exact ⟨by omega, by omega⟩) (fun c => absurd c (by omega)) (fun c48 => ?_)
    refine wq_go rfl (fun _ => rfl) ?_
    refine wq_getf rfl (by first | rfl | assumption) (by first | decide | omega | assumption) (md_o hM1) rfl ?_
    refine wq_cN (m := 49) rfl rfl ?_
    refine wq_go rfl (fun _ => rfl) ?_
    refine wq_addN rfl ?_
    refine wq_cN (m := 1) rfl rfl ?_
    refine wq_iast rfl (by first | rfl | assumption) (by first | decide | omega | assumption) h1 rfl (by omega) (by first | decide | omega) ?_
    refine wq_incN rfl rfl rfl ?_
    refine wq_go rfl (fun _ => rfl) ?_
    exact ih (u + 1) (by omega) _ _ (fr_up hF1 rfl) (md_u323 hM1) (up_same _ _ _) (fun j hj => by
      unfold upd
      by_cases q : j = 49 + u
      · rw [if_pos q, if_neg (by omega), if_pos (by omega)]
      · rw [if_neg q, hA j hj]
        by_cases q1 : 24 ≤ j ∧ j < 24 + 4 * Phd P
        · rw [if_pos q1, if_pos q1]
        · rw [if_neg q1, if_neg q1]
          by_cases q2 : 49 ≤ j ∧ j < 49 + u
          · rw [if_pos q2, if_pos (by omega)]
          · rw [if_neg q2, if_neg (by omega)])
theorem rf_beg {P : Pl} (hP : Pok P) {j : Nat} (hj : j < 61) : rowF (begS P) j = if 24 ≤ j ∧ j < 24 + 4 * Phd P then Pow P (j - 24) else if 49 ≤ j ∧ j < 49 + Pvs P then 1 else 0 := by
  obtain ⟨hP1, hP2, hP3, _⟩ := id hP
  rcases (show j < 16 ∨ (16 ≤ j ∧ j < 20) ∨ (20 ≤ j ∧ j < 24) ∨ (24 ≤ j ∧ j < 44) ∨ (44 ≤ j ∧ j < 49) ∨ (49 ≤ j ∧ j < 59) ∨ j = 59 ∨ j = 60 by omega) with h | h | h | h | h | h | h | h
  · rw [rf_a _ h, if_neg (by omega), if_neg (by omega)]; rfl
  · rw [rf_b _ h.1 h.2, if_neg (by omega), if_neg (by omega)]
    show bitN 0 _ = 0
    unfold bitN
    rw [Nat.zero_testBit]
    rfl
  · rw [rf_c _ h.1 h.2, if_neg (by omega), if_neg (by omega)]; rfl
  · rw [rf_d _ h.1 h.2]
    show (if (j - 24) / 4 < Phd P then Pow P (j - 24) else 0) = _
    by_cases q : (j - 24) / 4 < Phd P
    · rw [if_pos q, if_pos (by omega)]
    · rw [if_neg q, if_neg (by omega), if_neg (by omega)]
  · rw [rf_e _ h.1 h.2, if_neg (by omega), if_neg (by omega)]; rfl
  · rw [rf_f _ h.1 h.2, if_neg (by omega)]
    show bitN (2 ^ Pvs P - 1) (j - 49) = _
    unfold bitN
    rw [Nat.testBit_two_pow_sub_one]
    by_cases q : j - 49 < Pvs P
    · rw [decide_eq_true q, if_pos rfl, if_pos (by omega)]
    · rw [decide_eq_false q, if_neg Bool.false_ne_true, if_neg (by omega)]
  · subst h; rw [rf_hr, if_neg (by omega), if_neg (by omega)]; rfl
  · subst h; rw [rf_sd, if_neg (by omega), if_neg (by omega)]; rfl
theorem m_begins {xs : List Int32} {d : Nat} {σ : Nat → List Value} {Q : Option Value → (Nat → List Value) → Prop} {P : Pl} {L : Nat} {g : Nat → Int32} (hM : MD P L g σ) (K : ∀ g' σ', Fr xBg σ σ' → FrG yC g g' → MD P L g' σ' → RwIs σ' (begS P) → Q none σ') : Wq xs (d + 0) ax_cd220 0 [(0, .ref 287)] [] σ Q := by
  have hP := md_pok hM
  have hL2 := md_l2 hM
  obtain ⟨hP1, hP2, hP3, hP4, hP5, hP6, hP7, hP8, hPv, hPm, hPo, hPw, hPl⟩ := id hP
  refine wq_cN (m := 0) rfl rfl ?_
  refine wq_go rfl (fun _ => rfl) ?_
  refine wq_lv ⟨(by decide : ([1, 0] : List Nat).Nodup), (lvm (List.mem_of_getElem? (i := 0) rfl) (lvm (List.mem_of_getElem? (i := 1) rfl) lvn))⟩ (m_bg1 (P := P) (L := L) (g := g) (md_l2 hM) hP (fun σ2 f2 F2 M2 e2 a2 => ?_) 61 0 rfl σ _ (fr_refl _ _) hM (md_c323 hM) (fun j hj hj2 => absurd hj2 (Nat.not_lt_zero j)))
  refine wq_cN (m := 0) rfl rfl ?_
  refine wq_go rfl (fun _ => rfl) ?_
  refine wq_lv ⟨(by decide : ([1, 0] : List Nat).Nodup), (lvm (List.mem_of_getElem? (i := 0) rfl) (lvm (List.mem_of_getElem? (i := 1) rfl) lvn))⟩ (m_bg2 (P := P) (L := L) (g := g) (σ := σ2) (md_l2 hM) hP (fun σ3 f3 F3 M3 e3 a3 => ?_) (4 * Phd P) 0 rfl σ2 f2 (fr_refl _ _) M2 e2 (fun j hj => by rw [if_neg (by omega)]; exact a2 j hj hj))
  refine wq_cN (m := 0) rfl rfl ?_
  refine wq_go rfl (fun _ => rfl) ?_
  refine wq_lv ⟨(by decide : ([1, 0] : List Nat).Nodup), (lvm (List.mem_of_getElem? (i := 0) rfl) (lvm (List.mem_of_getElem? (i := 1) rfl) lvn))⟩ (m_bg3 (P := P) (L := L) (g := g) (σ := σ3) (md_l2 hM) hP (fun σ4 f4 F4 M4 e4 a4 => ?_) (Pvs P) 0 rfl σ3 f3 (fr_refl _ _) M3 e3 (fun j hj => by rw [a3 j hj, if_neg (show ¬ (49 ≤ j ∧ j < 49 + 0) by omega)]))
  refine wq_go rfl (fun _ => rfl) ?_
  refine wq_go rfl (fun _ => rfl) ?_
  refine wq_getf rfl (by first | rfl | assumption) (by first | decide | omega | assumption) (md_o M4) rfl ?_
  refine wq_go rfl (fun _ => rfl) ?_
  refine wq_getf rfl (by first | rfl | assumption) (by first | decide | omega | assumption) (md_o M4) rfl ?_
  refine wq_top (md_l M4) ?_
  refine wq_iald rfl (by first | rfl | assumption) (by first | decide | omega | assumption) (md_c309 M4) rfl (by omega) (by first | decide | omega) ?_
  refine wq_top (md_m309 M4) ?_
  refine wq_mput rfl (md_o M4) rfl rfl rfl rfl ?_
  refine wq_go rfl (fun _ => rfl) ?_
  refine wq_cN (m := 0) rfl rfl ?_
  refine wq_mput rfl (up_same _ _ _) rfl rfl rfl rfl ?_
  rw [up_up]
  refine wq_end rfl (fun _ => rfl) ?_
  refine K _ _ (fr_up (fr_mono (fr_trans F2 (fr_trans F3 F4)) x323_Bg) rfl) (fg_up (fg_up (fg_refl _ _) rfl) rfl) (md_u287 M4 rfl) ?_
  show up _ _ _ 323 = _
  rw [up_ne _ _ (by decide), e4]
  apply arr_congr
  intro j hj
  rw [a4 j hj, rf_beg hP hj]
  split
  · rfl
  · split <;> rfl
def xPl : Nat → Bool := fun j => j == 297 || j == 299 || j == 302 || j == 306 || j == 307 || j == 308 || j == 309 || j == 310 || j == 311
theorem m_pl_l {xs : List Int32} {d : Nat} {σ : Nat → List Value} {Q : Option Value → (Nat → List Value) → Prop} {B : Bs} {X : Tx} {s : Nat} {g : Nat → Int32} (hs2 : s < 2)  (K : ∀ σ', Fr xPl σ σ' → MrB B X s g σ' → (∀ p, p = 297 ∨ p = 299 ∨ p = 302 ∨ p = 306 ∨ p = 307 ∨ p = 308 ∨ p = 309 → σ' p = σ p) → (∀ l, l < 4 → ag σ' 310 (4 * s + l) = nI 0 ∧ ag σ' 311 (4 * s + l) = nI 0) → Q none σ') : ∀ (m u : Nat), m + u = 4 → ∀ σ1, Fr xPl σ σ1 → MrB B X s g σ1 → (∀ p, p = 297 ∨ p = 299 ∨ p = 302 ∨ p = 306 ∨ p = 307 ∨ p = 308 ∨ p = 309 → σ1 p = σ p) → (∀ l, l < u → ag σ1 310 (4 * s + l) = nI 0 ∧ ag σ1 311 (4 * s + l) = nI 0) → Wq xs (d + 0) ax_cd217 37 [(2, .int (nI u)), (0, .ref 287), (1, .int (nI s))] [] σ1 Q := by
  intro m
  induction m with
  | zero =>
    intro u hm σ1 hF1 hB1 hO hA
    refine wq_go rfl (fun _ => rfl) ?_
    refine wq_cN (m := 4) rfl rfl ?_
    refine wq_cge rfl (by first | omega | decide | exact Nat.lt_of_le_of_lt Nat.and_le_right (by decide) | exact ⟨by omega, by omega⟩) (by first | omega | decide | exact Nat.lt_of_le_of_lt Nat.and_le_right (by decide) | exact ⟨by omega, by omega⟩) (fun c39 => ?_) (fun c => absurd (show _ from by omega) c)
    refine wq_end rfl (fun _ => rfl) ?_
    exact K σ1 hF1 hB1 hO (fun l hl => hA l (by omega))
  | succ m ih =>
    intro u hm σ1 hF1 hB1 hO hA
    refine wq_go rfl (fun _ => rfl) ?_
    refine wq_cN (m := 4) rfl rfl ?_
    refine wq_cge rfl (by first | omega | decide | exact Nat.lt_of_le_of_lt Nat.and_le_right (by decide) | exact ⟨by omega, by omega⟩) (by first | omega | decide | exact Nat.lt_of_le_of_lt Nat.and_le_right (by decide) | exact ⟨by omega, by omega⟩) (fun c => absurd c (by omega)) (fun c39 => ?_)
    refine wq_go rfl (fun _ => rfl) ?_
    refine wq_getf rfl (by first | rfl | assumption) (by first | decide | omega | assumption) (mb_o hB1) rfl ?_
    refine wq_cN (m := 4) rfl rfl ?_
    refine wq_go rfl (fun _ => rfl) ?_
    refine wq_mulN rfl ?_
    refine wq_go rfl (fun _ => rfl) ?_
    refine wq_addN rfl ?_
    refine wq_cN (m := 0) rfl rfl ?_
    refine wq_iast rfl (by first | rfl | assumption) (by first | decide | omega | assumption) (mb_a hB1 (by decide) : IsA σ1 310 8) rfl (by omega) (by first | decide | omega) ?_
    refine wq_go rfl (fun _ => rfl) ?_
    refine wq_getf rfl (by first | rfl | assumption) (by first | decide | omega | assumption) ((up_ne _ _ (by decide)).trans (mb_o hB1)) rfl ?_
    refine wq_cN (m := 4) rfl rfl ?_
    refine wq_go rfl (fun _ => rfl) ?_
    refine wq_mulN rfl ?_
    refine wq_go rfl (fun _ => rfl) ?_
    refine wq_addN rfl ?_
    refine wq_cN (m := 0) rfl rfl ?_
    refine wq_iast rfl (by first | rfl | assumption) (by first | decide | omega | assumption) ((up_ne _ _ (by decide)).trans (mb_a hB1 (by decide) : IsA σ1 311 8)) rfl (by omega) (by first | decide | omega) ?_
    refine wq_incN rfl rfl rfl ?_
    refine wq_go rfl (fun _ => rfl) ?_
    exact ih (u + 1) (by omega) _ (fr_up (fr_up hF1 rfl) rfl) (mrb_a2 (mrb_a2 hB1 rfl (by decide) (by decide) (by decide) (show 4 * s ≤ _ from by omega) (show _ < 4 * s + 4 from by omega)) (ag_fun (up_ne _ _ (by decide))) (by decide) (by decide) (by decide) (show 4 * s ≤ _ from by omega) (show _ < 4 * s + 4 from by omega)) (fun p hp => (up_ne _ _ (by omega)).trans ((up_ne _ _ (by omega)).trans (hO p hp))) (fun l hl => by
      rw [ag_eq (up_ne _ _ (by decide)), ag_arr (up_same _ _ _) (by omega), ag_arr (up_same _ _ _) (by omega)]
      unfold upd
      by_cases q : l = u
      · rw [if_pos (by omega), if_pos (by omega)]; exact ⟨rfl, rfl⟩
      · rw [if_neg (by omega), if_neg (by omega)]; exact hA l (by omega))
theorem m_plain {xs : List Int32} {d : Nat} {σ : Nat → List Value} {Q : Option Value → (Nat → List Value) → Prop} {B : Bs} {X : Tx} {s : Nat} {g : Nat → Int32} (hB : MrB B X s g σ)  (K : ∀ σ', Fr xPl σ σ' → MrB B X s g σ' → ag σ' 297 s = nI 0 → ag σ' 299 s = nI 0 → ag σ' 302 s = nI 0 → ag σ' 306 s = nI 0 → ag σ' 307 s = nI 50 → ag σ' 308 s = nI 0 → ag σ' 309 s = nI 0 → (∀ l, l < 4 → ag σ' 310 (4 * s + l) = nI 0 ∧ ag σ' 311 (4 * s + l) = nI 0) → Q none σ') : Wq xs (d + 0) ax_cd217 0 [(0, .ref 287), (1, .int (nI s))] [] σ Q := by
  have hs2 := mb_2 hB
  refine wq_go rfl (fun _ => rfl) ?_
  refine wq_getf rfl (by first | rfl | assumption) (by first | decide | omega | assumption) (mb_o hB) rfl ?_
  refine wq_go rfl (fun _ => rfl) ?_
  refine wq_cN (m := 0) rfl rfl ?_
  refine wq_iast rfl (by first | rfl | assumption) (by first | decide | omega | assumption) (mb_a hB (by decide) : IsA σ 297 2) rfl (by omega) (by first | decide | omega) ?_
  refine wq_go rfl (fun _ => rfl) ?_
  refine wq_getf rfl (by first | rfl | assumption) (by first | decide | omega | assumption) ((up_ne _ _ (by decide)).trans (mb_o hB)) rfl ?_
  refine wq_go rfl (fun _ => rfl) ?_
  refine wq_cN (m := 0) rfl rfl ?_
  refine wq_iast rfl (by first | rfl | assumption) (by first | decide | omega | assumption) ((up_ne _ _ (by decide)).trans (mb_a hB (by decide) : IsA σ 299 2)) rfl (by omega) (by first | decide | omega) ?_
  refine wq_go rfl (fun _ => rfl) ?_
  refine wq_getf rfl (by first | rfl | assumption) (by first | decide | omega | assumption) ((up_ne _ _ (by decide)).trans ((up_ne _ _ (by decide)).trans (mb_o hB))) rfl ?_
  refine wq_go rfl (fun _ => rfl) ?_
  refine wq_cN (m := 0) rfl rfl ?_
  refine wq_iast rfl (by first | rfl | assumption) (by first | decide | omega | assumption) ((up_ne _ _ (by decide)).trans ((up_ne _ _ (by decide)).trans (mb_a hB (by decide) : IsA σ 302 2))) rfl (by omega) (by first | decide | omega) ?_
  refine wq_go rfl (fun _ => rfl) ?_
  refine wq_getf rfl (by first | rfl | assumption) (by first | decide | omega | assumption) ((up_ne _ _ (by decide)).trans ((up_ne _ _ (by decide)).trans ((up_ne _ _ (by decide)).trans (mb_o hB)))) rfl ?_
  refine wq_go rfl (fun _ => rfl) ?_
  refine wq_cN (m := 0) rfl rfl ?_
  refine wq_iast rfl (by first | rfl | assumption) (by first | decide | omega | assumption) ((up_ne _ _ (by decide)).trans ((up_ne _ _ (by decide)).trans ((up_ne _ _ (by decide)).trans (mb_a hB (by decide) : IsA σ 306 2)))) rfl (by omega) (by first | decide | omega) ?_
  refine wq_go rfl (fun _ => rfl) ?_
  refine wq_getf rfl (by first | rfl | assumption) (by first | decide | omega | assumption) ((up_ne _ _ (by decide)).trans ((up_ne _ _ (by decide)).trans ((up_ne _ _ (by decide)).trans ((up_ne _ _ (by decide)).trans (mb_o hB))))) rfl ?_
  refine wq_go rfl (fun _ => rfl) ?_
  refine wq_cN (m := 50) rfl rfl ?_
  refine wq_iast rfl (by first | rfl | assumption) (by first | decide | omega | assumption) ((up_ne _ _ (by decide)).trans ((up_ne _ _ (by decide)).trans ((up_ne _ _ (by decide)).trans ((up_ne _ _ (by decide)).trans (mb_a hB (by decide) : IsA σ 307 2))))) rfl (by omega) (by first | decide | omega) ?_
  refine wq_go rfl (fun _ => rfl) ?_
  refine wq_getf rfl (by first | rfl | assumption) (by first | decide | omega | assumption) ((up_ne _ _ (by decide)).trans ((up_ne _ _ (by decide)).trans ((up_ne _ _ (by decide)).trans ((up_ne _ _ (by decide)).trans ((up_ne _ _ (by decide)).trans (mb_o hB)))))) rfl ?_
  refine wq_go rfl (fun _ => rfl) ?_
  refine wq_cN (m := 0) rfl rfl ?_
  refine wq_iast rfl (by first | rfl | assumption) (by first | decide | omega | assumption) ((up_ne _ _ (by decide)).trans ((up_ne _ _ (by decide)).trans ((up_ne _ _ (by decide)).trans ((up_ne _ _ (by decide)).trans ((up_ne _ _ (by decide)).trans (mb_a hB (by decide) : IsA σ 308 2)))))) rfl (by omega) (by first | decide | omega) ?_
  refine wq_go rfl (fun _ => rfl) ?_
  refine wq_getf rfl (by first | rfl | assumption) (by first | decide | omega | assumption) ((up_ne _ _ (by decide)).trans ((up_ne _ _ (by decide)).trans ((up_ne _ _ (by decide)).trans ((up_ne _ _ (by decide)).trans ((up_ne _ _ (by decide)).trans ((up_ne _ _ (by decide)).trans (mb_o hB))))))) rfl ?_
  refine wq_go rfl (fun _ => rfl) ?_
  refine wq_cN (m := 0) rfl rfl ?_
  refine wq_iast rfl (by first | rfl | assumption) (by first | decide | omega | assumption) ((up_ne _ _ (by decide)).trans ((up_ne _ _ (by decide)).trans ((up_ne _ _ (by decide)).trans ((up_ne _ _ (by decide)).trans ((up_ne _ _ (by decide)).trans ((up_ne _ _ (by decide)).trans (mb_a hB (by decide) : IsA σ 309 2))))))) rfl (by omega) (by first | decide | omega) ?_
  refine wq_cN (m := 0) rfl rfl ?_
  refine wq_go rfl (fun _ => rfl) ?_
  refine wq_lv ⟨(by decide : ([2, 0, 1] : List Nat).Nodup), (lvm (List.mem_of_getElem? (i := 0) rfl) (lvm (List.mem_of_getElem? (i := 1) rfl) (lvm (List.mem_of_getElem? (i := 2) rfl) lvn)))⟩ (m_pl_l (σ := _) hs2 (fun σ' F2 B2 O2 a2 => ?_) 4 0 rfl _ (fr_refl _ _) (mrb_a2 (mrb_a2 (mrb_a2 (mrb_a2 (mrb_a2 (mrb_a2 (mrb_a2 hB rfl (by decide) (by decide) (by decide) (show 1 * s ≤ _ from by omega) (show _ < 1 * s + 1 from by omega)) (ag_fun (up_ne _ _ (by decide))) (by decide) (by decide) (by decide) (show 1 * s ≤ _ from by omega) (show _ < 1 * s + 1 from by omega)) (ag_fun ((up_ne _ _ (by decide)).trans (up_ne _ _ (by decide)))) (by decide) (by decide) (by decide) (show 1 * s ≤ _ from by omega) (show _ < 1 * s + 1 from by omega)) (ag_fun ((up_ne _ _ (by decide)).trans ((up_ne _ _ (by decide)).trans (up_ne _ _ (by decide))))) (by decide) (by decide) (by decide) (show 1 * s ≤ _ from by omega) (show _ < 1 * s + 1 from by omega)) (ag_fun ((up_ne _ _ (by decide)).trans ((up_ne _ _ (by decide)).trans ((up_ne _ _ (by decide)).trans (up_ne _ _ (by decide)))))) (by decide) (by decide) (by decide) (show 1 * s ≤ _ from by omega) (show _ < 1 * s + 1 from by omega)) (ag_fun ((up_ne _ _ (by decide)).trans ((up_ne _ _ (by decide)).trans ((up_ne _ _ (by decide)).trans ((up_ne _ _ (by decide)).trans (up_ne _ _ (by decide))))))) (by decide) (by decide) (by decide) (show 1 * s ≤ _ from by omega) (show _ < 1 * s + 1 from by omega)) (ag_fun ((up_ne _ _ (by decide)).trans ((up_ne _ _ (by decide)).trans ((up_ne _ _ (by decide)).trans ((up_ne _ _ (by decide)).trans ((up_ne _ _ (by decide)).trans (up_ne _ _ (by decide)))))))) (by decide) (by decide) (by decide) (show 1 * s ≤ _ from by omega) (show _ < 1 * s + 1 from by omega)) (fun p hp => rfl) (fun l hl => absurd hl (Nat.not_lt_zero l)))
  refine K σ' (fr_trans (fr_up (fr_up (fr_up (fr_up (fr_up (fr_up (fr_up (fr_refl _ _) rfl) rfl) rfl) rfl) rfl) rfl) rfl) F2) B2 ?_ ?_ ?_ ?_ ?_ ?_ ?_ a2
  · rw [ag_eq (O2 297 (by omega)), ag_eq (up_ne _ _ (by decide)), ag_eq (up_ne _ _ (by decide)), ag_eq (up_ne _ _ (by decide)), ag_eq (up_ne _ _ (by decide)), ag_eq (up_ne _ _ (by decide)), ag_eq (up_ne _ _ (by decide)), ag_arr (up_same _ _ _) (by omega)]
    simp only [upd, if_true]
  · rw [ag_eq (O2 299 (by omega)), ag_eq (up_ne _ _ (by decide)), ag_eq (up_ne _ _ (by decide)), ag_eq (up_ne _ _ (by decide)), ag_eq (up_ne _ _ (by decide)), ag_eq (up_ne _ _ (by decide)), ag_arr (up_same _ _ _) (by omega)]
    simp only [upd, if_true]
  · rw [ag_eq (O2 302 (by omega)), ag_eq (up_ne _ _ (by decide)), ag_eq (up_ne _ _ (by decide)), ag_eq (up_ne _ _ (by decide)), ag_eq (up_ne _ _ (by decide)), ag_arr (up_same _ _ _) (by omega)]
    simp only [upd, if_true]
  · rw [ag_eq (O2 306 (by omega)), ag_eq (up_ne _ _ (by decide)), ag_eq (up_ne _ _ (by decide)), ag_eq (up_ne _ _ (by decide)), ag_arr (up_same _ _ _) (by omega)]
    simp only [upd, if_true]
  · rw [ag_eq (O2 307 (by omega)), ag_eq (up_ne _ _ (by decide)), ag_eq (up_ne _ _ (by decide)), ag_arr (up_same _ _ _) (by omega)]
    simp only [upd, if_true]
  · rw [ag_eq (O2 308 (by omega)), ag_eq (up_ne _ _ (by decide)), ag_arr (up_same _ _ _) (by omega)]
    simp only [upd, if_true]
  · rw [ag_eq (O2 309 (by omega)), ag_arr (up_same _ _ _) (by omega)]
    simp only [upd, if_true]
def x289 : Nat → Bool := fun j => j == 289
theorem m_txt {xs : List Int32} {d : Nat} {σ : Nat → List Value} {Q : Option Value → (Nat → List Value) → Prop} {g b f : Nat → Int32} {l : Nat} (h287 : σ 287 = mo g) (h4 : g 4 = nI l) (h288 : σ 288 = arr 2000 f) (hb : ∀ j, j < l → f j = b j) (hl : l ≤ 2000)  (K : ∀ σ' f', Fr x289 σ σ' → σ' 289 = arr 2000 f' → (∀ j, j < l → f' j = vp_nar .byte (b j)) → Wq xs (d + 8) ax_cd225 20 [(0, .ref 287)] [] σ' Q) : ∀ (m u : Nat), m + u = l → ∀ σ1 f1, Fr x289 σ σ1 → σ1 289 = arr 2000 f1 → (∀ j, j < u → f1 j = vp_nar .byte (b j)) → Wq xs (d + 8) ax_cd225 6 [(1, .int (nI u)), (0, .ref 287)] [] σ1 Q := by
  intro m
  induction m with
  | zero =>
    intro u hm σ1 f1 hF1 h1 hA
    refine wq_go rfl (fun _ => rfl) ?_
    refine wq_go rfl (fun _ => rfl) ?_
    refine wq_getf rfl (by first | rfl | assumption) (by first | decide | omega | assumption) ((hF1 287 rfl).trans h287) rfl ?_
    refine wq_top h4 ?_
    refine wq_cge rfl (by first | omega | decide | exact Nat.lt_of_le_of_lt Nat.and_le_right (by decide) | exact ⟨by omega, by omega⟩) (by first | omega | decide | exact Nat.lt_of_le_of_lt Nat.and_le_right (by decide) | exact ⟨by omega, by omega⟩) (fun c9 => ?_) (fun c => absurd (show _ from by omega) c)
    exact wq_lv ⟨(by decide : ([1, 0] : List Nat).Nodup), (lvm (List.mem_of_getElem? (i := 1) rfl) lvn)⟩ (K σ1 f1 hF1 h1 (fun j hj => hA j (by omega)))
  | succ m ih =>
    intro u hm σ1 f1 hF1 h1 hA
    refine wq_go rfl (fun _ => rfl) ?_
    refine wq_go rfl (fun _ => rfl) ?_
    refine wq_getf rfl (by first | rfl | assumption) (by first | decide | omega | assumption) ((hF1 287 rfl).trans h287) rfl ?_
    refine wq_top h4 ?_
    refine wq_cge rfl (by first | omega | decide | exact Nat.lt_of_le_of_lt Nat.and_le_right (by decide) | exact ⟨by omega, by omega⟩) (by first | omega | decide | exact Nat.lt_of_le_of_lt Nat.and_le_right (by decide) | exact ⟨by omega, by omega⟩) (fun c => absurd c (by omega)) (fun c9 => ?_)
    refine wq_go rfl (fun _ => rfl) ?_
    refine wq_getf rfl (by first | rfl | assumption) (by first | decide | omega | assumption) ((hF1 287 rfl).trans h287) rfl ?_
    refine wq_go rfl (fun _ => rfl) ?_
    refine wq_go rfl (fun _ => rfl) ?_
    refine wq_getf rfl (by first | rfl | assumption) (by first | decide | omega | assumption) ((hF1 287 rfl).trans h287) rfl ?_
    refine wq_go rfl (fun _ => rfl) ?_
    refine wq_bald rfl (by first | rfl | assumption) (Or.inl rfl) (by first | decide | omega | assumption) ((hF1 288 rfl).trans h288) rfl (by omega) (by first | decide | omega) ?_
    refine wq_bast rfl (by first | rfl | assumption) (Or.inl rfl) (by first | decide | omega | assumption) h1 rfl (by omega) (by first | decide | omega) ?_
    refine wq_incN rfl rfl rfl ?_
    refine wq_go rfl (fun _ => rfl) ?_
    exact ih (u + 1) (by omega) _ _ (fr_up hF1 rfl) (up_same _ _ _) (ga_s (F := fun j => vp_nar .byte (b j)) hA (by rw [hb u (by omega)]))
theorem kp_at {s p c i : Nat} {σ0 σ : Nat → List Value} (h : Kp s σ0 σ) (hc : sd p = c) (h1 : 297 ≤ p) (h2 : p ≤ 318) (h3 : i < c * s ∨ c * s + c ≤ i) (h4 : i < 2 * c) : ag σ p i = ag σ0 p i := by
  subst hc
  exact h.2 p i h1 h2 h3 h4
theorem md_kp {P : Pl} {L : Nat} {g g' : Nat → Int32} {σ σ' : Nat → List Value} (h : MD P L g σ) (hK : Kp (1 - L) σ σ') (hm : Msh σ') (ho : σ' 287 = mo g') (hg : g' 18 = g 18) (hT : lwR P L σ') : MD P L g' σ' := by
  have hL2 := md_l2 h
  obtain ⟨hP1, hP2, hP3, hP4, hP5, hP6, hP7, hP8, hPv, hPm, hPo, hPw, hPl⟩ := md_pok h
  refine ⟨ho, hg.trans (md_l h), hL2, md_pok h, msh_g hm (by decide), (kp_at (c := 1) hK rfl (by decide) (by decide) (by omega) (by omega)).trans (md_m297 h), msh_g hm (by decide), (kp_at (c := 1) hK rfl (by decide) (by decide) (by omega) (by omega)).trans (md_m299 h), msh_g hm (by decide), (kp_at (c := 1) hK rfl (by decide) (by decide) (by omega) (by omega)).trans (md_m302 h), msh_g hm (by decide), (kp_at (c := 1) hK rfl (by decide) (by decide) (by omega) (by omega)).trans (md_m306 h), msh_g hm (by decide), (kp_at (c := 1) hK rfl (by decide) (by decide) (by omega) (by omega)).trans (md_m307 h), msh_g hm (by decide), (kp_at (c := 1) hK rfl (by decide) (by decide) (by omega) (by omega)).trans (md_m308 h), msh_g hm (by decide), (kp_at (c := 1) hK rfl (by decide) (by decide) (by omega) (by omega)).trans (md_m309 h), msh_g hm (by decide), fun i hi => (kp_at (c := 4) hK rfl (by decide) (by decide) (by omega) (by omega)).trans (md_m298 h i hi), msh_g hm (by decide), fun i hi => (kp_at (c := 5) hK rfl (by decide) (by decide) (by omega) (by omega)).trans (md_m300 h i hi), msh_g hm (by decide), fun i hi => (kp_at (c := 20) hK rfl (by decide) (by decide) (by omega) (by omega)).trans (md_m301 h i hi), msh_g hm (by decide), fun i hi => (kp_at (c := 10) hK rfl (by decide) (by decide) (by omega) (by omega)).trans (md_m303 h i hi), msh_g hm (by decide), fun i hi => (kp_at (c := 10) hK rfl (by decide) (by decide) (by omega) (by omega)).trans (md_m304 h i hi), msh_g hm (by decide), fun i hi => (kp_at (c := 10) hK rfl (by decide) (by decide) (by omega) (by omega)).trans (md_m305 h i hi), msh_g hm (by decide), msh_g hm (by decide), msh_g hm (by decide), msh_g hm (by decide), msh_g hm (by decide), msh_g hm (by decide), msh_g hm (by decide), msh_g hm (by decide), msh_g hm (by decide), fun l hl => ?_, isA_eq (hK.1 320 rfl) (md_c320 h), isA_eq (hK.1 321 rfl) (md_c321 h), isA_eq (hK.1 324 rfl) (md_c324 h), isA_eq (hK.1 322 rfl) (md_c322 h), isA_eq (hK.1 323 rfl) (md_c323 h)⟩
  obtain ⟨f, e, h1, h2, h3, h4, h5⟩ := hT l hl
  exact ⟨f, e, h1, h2, h3, h4, h5 _ ⟨fun _ _ _ _ _ => rfl, fun _ _ _ _ _ => rfl⟩⟩
theorem lwr_kp {P : Pl} {L : Nat} {σ σ' : Nat → List Value} (h : lwR P L σ) (hL : L < 2) (hK : Kp (1 - L) σ σ') : lwR P L σ' := by
  intro l hl
  obtain ⟨f, e, h1, h2, h3, h4, h5⟩ := h l hl
  refine ⟨f, e, (kp_at (c := 4) hK rfl (by decide) (by decide) (by omega) (by omega)).trans h1, (kp_at (c := 4) hK rfl (by decide) (by decide) (by omega) (by omega)).trans h2, h3, h4, fun G' hG => h5 G' ⟨fun j i p q r => ?_, fun j i p q r => ?_⟩⟩
  · rw [hG.1 j i p q r, brg_j _ _ p, brg_j _ _ p]
    rcases (show j = 0 ∨ j = 1 ∨ j = 2 ∨ j = 3 ∨ j = 4 by omega) with e | e | e | e | e <;> subst e <;> exact kp_at (c := 130) hK rfl (by decide) (by decide) (by omega) (by omega)
  · rw [hG.2 j i p q r]
    rcases (show j = 5 ∨ j = 6 ∨ 7 ≤ j by omega) with e | e | e
    · subst e
      exact kp_at (p := 317) (c := 420) hK rfl (by decide) (by decide) (by omega) (by omega)
    · subst e
      exact kp_at (p := 318) (c := 420) hK rfl (by decide) (by decide) (by omega) (by omega)
    · unfold brG
      rw [if_neg (by omega), if_neg (by omega)]
theorem lwr_new {P : Pl} {s bn cn : Nat} {σ : Nat → List Value} (h : LwC P s bn cn σ) (hb : bn ≤ 130) (hc : cn ≤ 420) : lwR P s σ := by
  intro l hl
  obtain ⟨f, e, h1, h2, h3, h4, h5⟩ := h l hl
  exact ⟨f, e, h1, h2, h3, h4, fun G' hG => h5 G' ⟨fun j i p q r => hG.1 j i p (by omega) (by omega), fun j i p q r => hG.2 j i p (by omega) (by omega)⟩⟩
theorem md_new {B : Bs} {X : Tx} {s bn cn nn : Nat} {G : Gs} {g g' : Nat → Int32} {σ : Nat → List Value} (h : RmG B X s G bn cn nn g σ) (hw : Gw G = none) (hP : Pok (GP G)) (hg : g' 18 = nI s) (h320 : IsA σ 320 9) (h321 : IsA σ 321 400) (h324 : IsA σ 324 4) (h322 : IsA σ 322 61) (h323 : IsA σ 323 61) : MD (GP G) s g' (up σ 287 (mo g')) ∧ lwR (GP G) s (up σ 287 (mo g')) := by
  obtain ⟨hW, hM, hnn, b4, b5, b10, n7, n9, n2, hbn, hcn, a, ha, hC⟩ := h
  obtain ⟨c1, c2, c3, c4, c5, c6, c7, c8, c9, c10, c11, c12⟩ := hC hw
  have ht := mw_t hW
  have hm : Msh (up σ 287 (mo g')) := msh_eq (mb_m (mw_b hW)) (fun j _ _ => up_ne _ _ (by omega))
  have o : ∀ p, 295 ≤ p → (up σ 287 (mo g')) p = σ p := fun p hp => up_ne _ _ (by omega)
  have lw : lwR (GP G) s (up σ 287 (mo g')) := lwR_eq (lwr_new c11 (by omega) (by omega)) (fun j p q => o j (by omega))
  refine ⟨⟨up_same _ _ _, hg, mb_2 (mw_b hW), hP, msh_g hm (by decide), (ag_eq (o 297 (by omega)) s).trans n7, msh_g hm (by decide), (ag_eq (o 299 (by omega)) s).trans n9, msh_g hm (by decide), (ag_eq (o 302 (by omega)) s).trans n2, msh_g hm (by decide), (ag_eq (o 306 (by omega)) s).trans c7, msh_g hm (by decide), (ag_eq (o 307 (by omega)) s).trans c8, msh_g hm (by decide), (ag_eq (o 308 (by omega)) s).trans c9, msh_g hm (by decide), (ag_eq (o 309 (by omega)) s).trans c10, msh_g hm (by decide), fun i hi => (ag_eq (o 298 (by omega)) _).trans (c1 i hi), msh_g hm (by decide), fun i hi => (ag_eq (o 300 (by omega)) _).trans (c2 i hi), msh_g hm (by decide), fun i hi => (ag_eq (o 301 (by omega)) _).trans (c3 i hi), msh_g hm (by decide), fun i hi => (ag_eq (o 303 (by omega)) _).trans (c4 i hi), msh_g hm (by decide), fun i hi => (ag_eq (o 304 (by omega)) _).trans (c5 i hi), msh_g hm (by decide), fun i hi => (ag_eq (o 305 (by omega)) _).trans (c6 i hi), msh_g hm (by decide), msh_g hm (by decide), msh_g hm (by decide), msh_g hm (by decide), msh_g hm (by decide), msh_g hm (by decide), msh_g hm (by decide), msh_g hm (by decide), msh_g hm (by decide), fun l hl => ?_, isA_eq (o 320 (by omega)) h320, isA_eq (o 321 (by omega)) h321, isA_eq (o 324 (by omega)) h324, isA_eq (o 322 (by omega)) h322, isA_eq (o 323 (by omega)) h323⟩, lw⟩
  obtain ⟨f, e, h1, h2, h3, h4, h5⟩ := lw l hl
  exact ⟨f, e, h1, h2, h3, h4, h5 _ ⟨fun _ _ _ _ _ => rfl, fun _ _ _ _ _ => rfl⟩⟩
