/-! READ, BY THE REFERENCE -/
theorem msh_0 {P : Pl} {L : Nat} {g : Nat → Int32} {σ σ' : Nat → List Value} (hD : MD P L g σ) (hT : MT P L σ) (o : ∀ j, 294 ≤ j → σ' j = σ j) : Msh σ' := by
  obtain ⟨t1, t2, t3, t4, t5, t6, ⟨f7, t7⟩, t8, t9, t10⟩ := hT
  refine ⟨fun q hq => ?_, isQ_of ((o 295 (by omega)).trans t7)⟩
  simp only [shpm, List.mem_cons, List.not_mem_nil, or_false] at hq
  rcases hq with e | e | e | e | e | e | e | e | e | e | e | e | e | e | e | e | e | e | e | e | e | e | e | e <;> subst e
  · exact isA_eq (o 296 (by omega)) t8
  · exact isA_eq (o 297 (by omega)) (md_c297 hD)
  · exact isA_eq (o 298 (by omega)) (md_c298 hD)
  · exact isA_eq (o 299 (by omega)) (md_c299 hD)
  · exact isA_eq (o 300 (by omega)) (md_c300 hD)
  · exact isA_eq (o 301 (by omega)) (md_c301 hD)
  · exact isA_eq (o 302 (by omega)) (md_c302 hD)
  · exact isA_eq (o 303 (by omega)) (md_c303 hD)
  · exact isA_eq (o 304 (by omega)) (md_c304 hD)
  · exact isA_eq (o 305 (by omega)) (md_c305 hD)
  · exact isA_eq (o 306 (by omega)) (md_c306 hD)
  · exact isA_eq (o 307 (by omega)) (md_c307 hD)
  · exact isA_eq (o 308 (by omega)) (md_c308 hD)
  · exact isA_eq (o 309 (by omega)) (md_c309 hD)
  · exact isA_eq (o 310 (by omega)) (md_c310 hD)
  · exact isA_eq (o 311 (by omega)) (md_c311 hD)
  · exact isA_eq (o 312 (by omega)) (md_c312 hD)
  · exact isA_eq (o 313 (by omega)) (md_c313 hD)
  · exact isA_eq (o 314 (by omega)) (md_c314 hD)
  · exact isA_eq (o 315 (by omega)) (md_c315 hD)
  · exact isA_eq (o 316 (by omega)) (md_c316 hD)
  · exact isA_eq (o 317 (by omega)) (md_c317 hD)
  · exact isA_eq (o 318 (by omega)) (md_c318 hD)
  · exact isA_eq (o 319 (by omega)) t9
theorem xok_b (b : Nat → Int32) {l : Nat} (hl : l ≤ 2000) : XOk (XB b l) := ⟨xb_35 b l, xb_v b l, fun j => Nat.le_trans (TPl_le _ _ _) hl, fun j hj => TPl_lt _ _ j hj⟩
theorem mkx_b {b : Nat → Int32} {l n : Nat} {fk fp fn : Nat → Int32} {fm : Nat → Int64} {σ : Nat → List Value} (e0 : σ 290 = arr 403 fk) (e1 : σ 291 = arr 403 fp) (e2 : σ 292 = arr 403 fn) (e3 : σ 293 = arrL 403 fm) (hS : Scm (fun j => byN (b j)) l n fk fp fn fm) (hn : n ≤ 401) (h6 : n = 401 ∨ TK (fun j => byN (b j)) l (n - 1) = 34) (h1 : 1 ≤ n) : MkX (XB b l) σ := by
  have hj : ∀ j, j ≤ 400 → rch (XB b l) j → j < n := fun j h4 hr => by
    rcases Nat.lt_or_ge j n with q | q
    · exact q
    · rcases h6 with e | e
      · omega
      · exact absurd e (hr (n - 1) (by omega)).1
  exact ⟨isA_of e0, isA_of e1, isA_of e2, isQ_of e3, fun j a r => (ag_arr e0 (by omega)).trans (hS.1 j (hj j a r)), fun j a r => (ag_arr e1 (by omega)).trans (hS.2.1 j (hj j a r)), fun j a r k => (ag_arr e2 (by omega)).trans (hS.2.2.1 j (hj j a r) k), fun j a r k => (aq_arr e3 (by omega)).trans (hS.2.2.2 j (hj j a r) k)⟩
def x7r : Nat → Bool := fun j => j == 287 || (Nat.ble 289 j && Nat.ble j 293)
theorem x7r_f {j : Nat} (h : x7r j = false) : ¬ j = 287 ∧ (j < 289 ∨ 293 < j) := by
  unfold x7r at h
  simp only [Bool.or_eq_false_iff, beq_eq_false_iff_ne] at h
  refine ⟨h.1, ?_⟩
  rcases Nat.lt_or_ge j 289 with q | q
  · exact Or.inl q
  · rcases Nat.lt_or_ge 293 j with r | r
    · exact Or.inr r
    · have h2 := h.2
      rw [Nat.ble_eq_true_of_le q, Nat.ble_eq_true_of_le r] at h2
      cases h2
/-- what a reading that fails leaves -/
theorem mi_bad {A : Sy} {L : Nat} {g g7 g' : Nat → Int32} {σ σ7 σ' : Nat → List Value} {X : Tx} {p : Int32} (hD : MD (AP A) L g σ) (hR : MR A g σ) (hT : MT (AP A) L σ) (o : ∀ j, ¬ j = 287 → j < 289 ∨ 293 < j → σ7 j = σ j) (i289 : IsA σ7 289 2000) (hG : ∀ b, 16 < b → ¬ b = 19 → ¬ b = 20 → g7 b = g b) (h2 : g7 2 = nI 0) (hB : MrB (g7, σ7) X (1 - L) g' σ') : MI (AP A, AS A, AH A, An A, AZ A, Ah A, AT A, Ab A, 0, p) (up σ' 287 (mo (upd g' 17 p))) := by
  obtain ⟨b1, b2, b3, b4, b5, b6, b7, b8⟩ := hB
  have hL2 := md_l2 hD
  have hF7 : Fr x7r σ σ7 := fun j hj => o j (x7r_f hj).1 (x7r_f hj).2
  have u : ∀ j, ¬ j = 287 → (up σ' 287 (mo (upd g' 17 p))) j = σ' j := fun j hj => up_ne _ _ hj
  have k : ∀ j, ¬ j = 287 → j < 295 ∨ 319 < j → σ' j = σ7 j := fun j h1 h3 => b3.1 j (xRd_o ⟨by omega, h1⟩)
  have o7 : ∀ j, 320 ≤ j → (up σ' 287 (mo (upd g' 17 p))) j = σ j := fun j h => (u j (by omega)).trans ((k j (by omega) (by omega)).trans (o j (by omega) (by omega)))
  have D7 : MD (AP A) L (fun b => if b = 18 then g 18 else g7 b) (up σ7 287 (mo (fun b => if b = 18 then g 18 else g7 b))) := md_fr (X := x7r) hD (fr_up hF7 rfl) (by decide) (up_same _ _ _) rfl (isA_eq ((up_ne _ _ (by decide)).trans (o 320 (by omega) (by omega))) (md_c320 hD)) (isA_eq ((up_ne _ _ (by decide)).trans (o 321 (by omega) (by omega))) (md_c321 hD)) (isA_eq ((up_ne _ _ (by decide)).trans (o 324 (by omega) (by omega))) (md_c324 hD)) (isA_eq ((up_ne _ _ (by decide)).trans (o 322 (by omega) (by omega))) (md_c322 hD)) (isA_eq ((up_ne _ _ (by decide)).trans (o 323 (by omega) (by omega))) (md_c323 hD))
  obtain ⟨t1, t2, t3, t4, t5, t6, t7, t8, t9, t10⟩ := hT
  have K7 : Kp (1 - L) (up σ7 287 (mo (fun b => if b = 18 then g 18 else g7 b))) (up σ' 287 (mo (upd g' 17 p))) := by
    refine ⟨fun j hj => ?_, fun q i h1 h3 h4 h5 => ?_⟩
    · have : ¬ j = 287 := fun e => by subst e; cases hj
      rw [up_ne _ _ this, up_ne _ _ this]
      exact b3.1 j hj
    · rw [ag_eq (up_ne _ _ (by omega)), ag_eq (up_ne _ _ (by omega))]
      exact b3.2 q i h1 h3 h4 h5
  have hm : Msh (up σ' 287 (mo (upd g' 17 p))) := msh_eq b6 (fun j _ _ => u j (by omega))
  have lw : lwR (AP A) L (up σ' 287 (mo (upd g' 17 p))) := lwr_kp (lwR_eq t10 (fun j h1 h3 => (up_ne _ _ (by omega)).trans (o j (by omega) (by omega)))) hL2 K7
  have hg : ∀ b, 16 < b → ¬ b = 17 → ¬ b = 19 → ¬ b = 20 → ¬ b = 38 → ¬ b = 44 → ¬ b = 48 → (upd g' 17 p) b = g b := fun b h1 h3 h4 h5 h6 h7 h8 => by
    have e : yR b = false := by
      have a1 : (b == 11) = false := by simp; omega
      have a2 : (b == 12) = false := by simp; omega
      have a3 : (b == 13) = false := by simp; omega
      have a4 : (b == 14) = false := by simp; omega
      have a5 : (b == 15) = false := by simp; omega
      have a6 : (b == 16) = false := by simp; omega
      have a7 : (b == 20) = false := by simp; omega
      have a8 : (b == 38) = false := by simp; omega
      have a9 : (b == 44) = false := by simp; omega
      have a10 : (b == 48) = false := by simp; omega
      simp only [yR, a1, a2, a3, a4, a5, a6, a7, a8, a9, a10, Bool.or_false]
    unfold upd
    rw [if_neg h3]
    exact (b2 b e).trans (hG b h1 h4 h5)
  obtain ⟨r1, r2, ⟨f3, r3, r3'⟩, r4, ⟨f5, r5, r5'⟩, ⟨f6, r6, r6'⟩, ⟨f7, r7, r7'⟩, r8, ⟨f9, r9, r9'⟩, r10, r11, ⟨f12, r12, r12'⟩⟩ := hR
  refine ⟨L, upd g' 17 p, md_kp D7 K7 hm (up_same _ _ _) (hg 18 (by decide) (by decide) (by decide) (by decide) (by decide) (by decide) (by decide)) lw, ⟨(o7 322 (by omega)).trans r1, (hg 57 (by decide) (by decide) (by decide) (by decide) (by decide) (by decide) (by decide)).trans r2, ⟨f3, (o7 325 (by omega)).trans r3, r3'⟩, (hg 59 (by decide) (by decide) (by decide) (by decide) (by decide) (by decide) (by decide)).trans r4, ⟨f5, (o7 326 (by omega)).trans r5, r5'⟩, ⟨f6, (o7 327 (by omega)).trans r6, r6'⟩, ⟨f7, (o7 328 (by omega)).trans r7, r7'⟩, (o7 329 (by omega)).trans r8, ⟨f9, (o7 330 (by omega)).trans r9, r9'⟩, rfl, ?_, ⟨f12, ?_, fun j hj => absurd hj (Nat.not_lt_zero j)⟩⟩, ?_⟩
  · exact (b2 2 rfl).trans h2
  · exact (u 288 (by decide)).trans ((k 288 (by decide) (by decide)).trans ((o 288 (by decide) (by decide)).trans r12))
  · exact ⟨isA_eq ((u 289 (by decide)).trans (k 289 (by decide) (by decide))) i289, isA_eq (u 290 (by decide)) b7.1, isA_eq (u 291 (by decide)) b7.2.1, isA_eq (u 292 (by decide)) b7.2.2.1, ⟨_, (u 293 (by decide)).trans b7.2.2.2.1⟩, (u 294 (by decide)).trans ((k 294 (by decide) (by decide)).trans ((o 294 (by decide) (by decide)).trans t6)), ⟨_, (u 295 (by decide)).trans b6.2⟩, msh_g hm (by decide), msh_g hm (by decide), lw⟩
theorem m_rd62_e {xs : List Int32} {d : Nat} {σ : Nat → List Value} {Q : Option Value → (Nat → List Value) → Prop} {B : Bs} {X : Tx} {s f p bn : Nat} {g : Nat → Int32} (hF : MrF B X s f p bn g σ) (K : Wq xs (d + 8) ax_cd225 72 [(0, .ref 287)] [] σ Q) : Wq xs (d + 8) ax_cd225 62 [(0, .ref 287)] [] σ Q := by
  have hs2 := mb_2 (mf_b hF)
  have hf0 := mf_0 hF
  have hf9 := mf_9 hF
  refine wq_go rfl (fun _ => rfl) ?_
  refine wq_getf rfl (by first | rfl | assumption) (by first | decide | omega | assumption) (mb_o (mf_b hF)) rfl ?_
  refine wq_top (mf_13 hF :) ?_
  refine wq_zne rfl (by first | omega | decide | exact Nat.lt_of_le_of_lt Nat.and_le_right (by decide) | exact ⟨by omega, by omega⟩) (fun c64 => ?_) (fun c => absurd (show _ from by omega) c)
  exact K
theorem m_rd_l {xs : List Int32} {d : Nat} {Q : Option Value → (Nat → List Value) → Prop} {B : Bs} {X : Tx} {s : Nat} (K1 : ∀ G bn cn nn g' σ', allX X 401 G0 = .inr G → RmG B X s G bn cn nn g' σ' → Wq xs (d + 8) ax_cd225 72 [(0, .ref 287)] [] σ' Q) (K0 : ∀ f p bn g' σ', allX X 401 G0 = er f p → MrF B X s f (Xp X p) bn g' σ' → Wq xs (d + 8) ax_cd225 72 [(0, .ref 287)] [] σ' Q) : ∀ (n : Nat) (G : Gs) (bn cn nn : Nat) (g : Nat → Int32) (σ : Nat → List Value), 401 ≤ n + Gt G → RmG B X s G bn cn nn g σ → allX X 401 G0 = allX X n G → Wq xs (d + 8) ax_cd225 62 [(0, .ref 287)] [] σ Q := by
  intro n
  induction n with
  | zero =>
    intro G bn cn nn g σ hn h
    have := mw_t h.1
    omega
  | succ n ih =>
    intro G bn cn nn g σ hn h hE
    have ht := mw_t h.1
    refine wq_go rfl (fun _ => rfl) ?_
    refine wq_getf rfl (by first | rfl | assumption) (by first | decide | omega | assumption) (mb_o (mw_b h.1)) rfl ?_
    refine wq_top (mw_13 h.1 :) ?_
    refine wq_zne rfl (by first | omega | decide | exact Nat.lt_of_le_of_lt Nat.and_le_right (by decide) | exact ⟨by omega, by omega⟩) (fun c => absurd c (by omega)) (fun c64 => ?_)
    refine wq_go rfl (fun _ => rfl) ?_
    refine wq_cN (m := 0) rfl rfl ?_
    refine wq_callV rfl rfl (by first | rfl | assumption) (by first | decide | omega | assumption) (Nat.le_of_ble_eq_true rfl) (Nat.le_of_ble_eq_true rfl) rfl rfl ?_
    refine m_is h.1 (k := 34) (by decide)  (fun ei => ?_) (fun ei => ?_)
    · skip
      refine wq_zne rfl (by first | omega | decide | exact Nat.lt_of_le_of_lt Nat.and_le_right (by decide) | exact ⟨by omega, by omega⟩) (fun c68 => ?_) (fun c => absurd (show _ from by omega) c)
      exact K1 G bn cn nn g σ (hE.trans (if_pos ei)) h
    · skip
      refine wq_zne rfl (by first | omega | decide | exact Nat.lt_of_le_of_lt Nat.and_le_right (by decide) | exact ⟨by omega, by omega⟩) (fun c => absurd c (by omega)) (fun c68 => ?_)
      refine wq_go rfl (fun _ => rfl) ?_
      refine wq_callV rfl rfl (by first | rfl | assumption) (by first | decide | omega | assumption) (Nat.le_of_ble_eq_true rfl) (Nat.le_of_ble_eq_true rfl) rfl rfl ?_
      refine m_one h (fun G' bn' cn' nn' g2 σ2 e2 l2 R2 => ?_) (fun f2 p2 bn2 g2 σ2 e2 W2 => ?_)
      · skip
        refine wq_go rfl (fun _ => rfl) ?_
        exact ih G' bn' cn' nn' g2 σ2 (by omega) R2 (hE.trans ((if_neg ei).trans (by rw [e2, bnd_o])))
      · skip
        have hf0 := mf_0 W2
        have hf9 := mf_9 W2
        refine wq_go rfl (fun _ => rfl) ?_
        exact m_rd62_e W2 (K0 f2 p2 bn2 g2 σ2 (hE.trans ((if_neg ei).trans (by rw [e2, bnd_e]))) W2)
theorem m_rd72_e {xs : List Int32} {d : Nat} {σ : Nat → List Value} {Q : Option Value → (Nat → List Value) → Prop} {A : Sy} {L : Nat} {g g7 : Nat → Int32} {σ0 σ7 : Nat → List Value} {X : Tx} (hD : MD (AP A) L g σ0) (hR : MR A g σ0) (hT : MT (AP A) L σ0) (o : ∀ j, ¬ j = 287 → j < 289 ∨ 293 < j → σ7 j = σ0 j) (i289 : IsA σ7 289 2000) (hG : ∀ b, 16 < b → ¬ b = 19 → ¬ b = 20 → g7 b = g b) (h2 : g7 2 = nI 0) {f p bn : Nat} {g1 : Nat → Int32} (hF : MrF (g7, σ7) X (1 - L) f p bn g1 σ) (K : ∀ σ', Lo σ σ' → MI (AP A, AS A, AH A, An A, AZ A, Ah A, AT A, Ab A, 0, (nI p)) σ' → Q (some (.int (nI f))) σ') : Wq xs (d + 8) ax_cd225 72 [(0, .ref 287)] [] σ Q := by
  have hs2 := mb_2 (mf_b hF)
  have hf0 := mf_0 hF
  have hf9 := mf_9 hF
  refine wq_go rfl (fun _ => rfl) ?_
  refine wq_go rfl (fun _ => rfl) ?_
  refine wq_getf rfl (by first | rfl | assumption) (by first | decide | omega | assumption) (mb_o (mf_b hF)) rfl ?_
  refine wq_top (mf_13 hF :) ?_
  refine wq_zle rfl (by first | omega | decide | exact Nat.lt_of_le_of_lt Nat.and_le_right (by decide) | exact ⟨by omega, by omega⟩) (fun c => absurd c (by omega)) (fun c75 => ?_)
  refine wq_go rfl (fun _ => rfl) ?_
  refine wq_getf rfl (by first | rfl | assumption) (by first | decide | omega | assumption) (mb_o (mf_b hF)) rfl ?_
  refine wq_top (mf_14 hF :) ?_
  refine wq_go rfl (fun _ => rfl) ?_
  refine wq_mput rfl (mb_o (mf_b hF)) rfl rfl rfl rfl ?_
  refine wq_go rfl (fun _ => rfl) ?_
  refine wq_getf rfl (by first | rfl | assumption) (by first | decide | omega | assumption) (up_same _ _ _) rfl ?_
  refine wq_top (mf_13 hF :) ?_
  refine wq_zle rfl (by first | omega | decide | exact Nat.lt_of_le_of_lt Nat.and_le_right (by decide) | exact ⟨by omega, by omega⟩) (fun c => absurd c (by omega)) (fun c89 => ?_)
  refine wq_go rfl (fun _ => rfl) ?_
  refine wq_getf rfl (by first | rfl | assumption) (by first | decide | omega | assumption) (up_same _ _ _) rfl ?_
  refine wq_top (mf_13 hF :) ?_
  refine wq_iret rfl ?_
  exact K _ (lo_fr (X := fun j => j == 287) (fr_up (fr_refl _ _) (by rfl)) (fun j hj => by simp only [beq_eq_false_iff_ne]; omega)) (mi_bad hD hR hT o i289 hG h2 (mf_b hF))
theorem m_rd72_w {xs : List Int32} {d : Nat} {σ : Nat → List Value} {Q : Option Value → (Nat → List Value) → Prop} {A : Sy} {L : Nat} {g g7 : Nat → Int32} {σ0 σ7 : Nat → List Value} {X : Tx} (hD : MD (AP A) L g σ0) (hR : MR A g σ0) (hT : MT (AP A) L σ0) (o : ∀ j, ¬ j = 287 → j < 289 ∨ 293 < j → σ7 j = σ0 j) (i289 : IsA σ7 289 2000) (hG : ∀ b, 16 < b → ¬ b = 19 → ¬ b = 20 → g7 b = g b) (h2 : g7 2 = nI 0) {t bn cn nn : Nat} {q : Nat × Nat} {g1 : Nat → Int32} (hW : MrW (g7, σ7) X (1 - L) t 0 bn cn nn (some q) g1 σ) (K : ∀ σ', Lo σ σ' → MI (AP A, AS A, AH A, An A, AZ A, Ah A, AT A, Ab A, 0, (nI q.2)) σ' → Q (some (.int (nI q.1))) σ') : Wq xs (d + 8) ax_cd225 72 [(0, .ref 287)] [] σ Q := by
  have hv1 := mw_v hW q rfl
  refine wq_go rfl (fun _ => rfl) ?_
  refine wq_go rfl (fun _ => rfl) ?_
  refine wq_getf rfl (by first | rfl | assumption) (by first | decide | omega | assumption) (mb_o (mw_b hW)) rfl ?_
  refine wq_top (mw_13 hW :) ?_
  refine wq_zle rfl (by first | omega | decide | exact Nat.lt_of_le_of_lt Nat.and_le_right (by decide) | exact ⟨by omega, by omega⟩) (fun c75 => ?_) (fun c => absurd (show _ from by omega) c)
  refine wq_go rfl (fun _ => rfl) ?_
  refine wq_getf rfl (by first | rfl | assumption) (by first | decide | omega | assumption) (mb_o (mw_b hW)) rfl ?_
  refine wq_top (show g1 15 = nI q.1 from mw_15 hW) ?_
  refine wq_zle rfl (by first | omega | decide | exact Nat.lt_of_le_of_lt Nat.and_le_right (by decide) | exact ⟨by omega, by omega⟩) (fun c => absurd c (by omega)) (fun c81 => ?_)
  refine wq_go rfl (fun _ => rfl) ?_
  refine wq_getf rfl (by first | rfl | assumption) (by first | decide | omega | assumption) (mb_o (mw_b hW)) rfl ?_
  refine wq_top (mw_16 hW q rfl) ?_
  refine wq_go rfl (fun _ => rfl) ?_
  refine wq_mput rfl (mb_o (mw_b hW)) rfl rfl rfl rfl ?_
  refine wq_go rfl (fun _ => rfl) ?_
  refine wq_getf rfl (by first | rfl | assumption) (by first | decide | omega | assumption) (up_same _ _ _) rfl ?_
  refine wq_top (mw_13 hW :) ?_
  refine wq_zle rfl (by first | omega | decide | exact Nat.lt_of_le_of_lt Nat.and_le_right (by decide) | exact ⟨by omega, by omega⟩) (fun c89 => ?_) (fun c => absurd (show _ from by omega) c)
  refine wq_go rfl (fun _ => rfl) ?_
  refine wq_getf rfl (by first | rfl | assumption) (by first | decide | omega | assumption) (up_same _ _ _) rfl ?_
  refine wq_top (show g1 15 = nI q.1 from mw_15 hW) ?_
  refine wq_zle rfl (by first | omega | decide | exact Nat.lt_of_le_of_lt Nat.and_le_right (by decide) | exact ⟨by omega, by omega⟩) (fun c => absurd c (by omega)) (fun c95 => ?_)
  refine wq_go rfl (fun _ => rfl) ?_
  refine wq_getf rfl (by first | rfl | assumption) (by first | decide | omega | assumption) (up_same _ _ _) rfl ?_
  refine wq_top (show g1 15 = nI q.1 from mw_15 hW) ?_
  refine wq_iret rfl ?_
  exact K _ (lo_fr (X := fun j => j == 287) (fr_up (fr_refl _ _) (by rfl)) (fun j hj => by simp only [beq_eq_false_iff_ne]; omega)) (mi_bad hD hR hT o i289 hG h2 (mw_b hW))
theorem m_rd72_o {xs : List Int32} {d : Nat} {σ : Nat → List Value} {Q : Option Value → (Nat → List Value) → Prop} {A : Sy} {L : Nat} {g g7 : Nat → Int32} {σ0 σ7 : Nat → List Value} {X : Tx} (hD : MD (AP A) L g σ0) (hR : MR A g σ0) (hT : MT (AP A) L σ0) (o : ∀ j, ¬ j = 287 → j < 289 ∨ 293 < j → σ7 j = σ0 j) (i289 : IsA σ7 289 2000) (hG : ∀ b, 16 < b → ¬ b = 19 → ¬ b = 20 → g7 b = g b) (h2 : g7 2 = nI 0) {G : Gs} {bn cn nn : Nat} {g1 : Nat → Int32} (h : RmG (g7, σ7) X (1 - L) G bn cn nn g1 σ) (hw : Gw G = none) (hP : Pok (GP G)) (K : ∀ σ', Lo σ σ' → MI (GP G, begS (GP G), AH A, 0, AZ A, 0, (0, Tc (AT A), Tt (AT A), Ta (AT A), Ts (AT A)), Ab A, 0, -1) σ' → Q (some (.int (nI 0))) σ') : Wq xs (d + 8) ax_cd225 72 [(0, .ref 287)] [] σ Q := by
  have hW := h.1
  have hL2 := md_l2 hD
  refine wq_go rfl (fun _ => rfl) ?_
  refine wq_go rfl (fun _ => rfl) ?_
  refine wq_getf rfl (by first | rfl | assumption) (by first | decide | omega | assumption) (mb_o (mw_b hW)) rfl ?_
  refine wq_top (mw_13 hW :) ?_
  refine wq_zle rfl (by first | omega | decide | exact Nat.lt_of_le_of_lt Nat.and_le_right (by decide) | exact ⟨by omega, by omega⟩) (fun c75 => ?_) (fun c => absurd (show _ from by omega) c)
  refine wq_go rfl (fun _ => rfl) ?_
  refine wq_getf rfl (by first | rfl | assumption) (by first | decide | omega | assumption) (mb_o (mw_b hW)) rfl ?_
  refine wq_top (show g1 15 = nI 0 from (mw_15 hW :).trans (by rw [hw]; rfl)) ?_
  refine wq_zle rfl (by first | omega | decide | exact Nat.lt_of_le_of_lt Nat.and_le_right (by decide) | exact ⟨by omega, by omega⟩) (fun c81 => ?_) (fun c => absurd (show _ from by omega) c)
  refine wq_go rfl (fun _ => rfl) ?_
  refine wq_mput rfl (mb_o (mw_b hW)) rfl rfl rfl rfl ?_
  refine wq_go rfl (fun _ => rfl) ?_
  refine wq_getf rfl (by first | rfl | assumption) (by first | decide | omega | assumption) (up_same _ _ _) rfl ?_
  refine wq_top (mw_13 hW :) ?_
  refine wq_zle rfl (by first | omega | decide | exact Nat.lt_of_le_of_lt Nat.and_le_right (by decide) | exact ⟨by omega, by omega⟩) (fun c89 => ?_) (fun c => absurd (show _ from by omega) c)
  refine wq_go rfl (fun _ => rfl) ?_
  refine wq_getf rfl (by first | rfl | assumption) (by first | decide | omega | assumption) (up_same _ _ _) rfl ?_
  refine wq_top (show g1 15 = nI 0 from (mw_15 hW :).trans (by rw [hw]; rfl)) ?_
  refine wq_zle rfl (by first | omega | decide | exact Nat.lt_of_le_of_lt Nat.and_le_right (by decide) | exact ⟨by omega, by omega⟩) (fun c95 => ?_) (fun c => absurd (show _ from by omega) c)
  refine wq_go rfl (fun _ => rfl) ?_
  refine wq_go rfl (fun _ => rfl) ?_
  refine wq_getf rfl (by first | rfl | assumption) (by first | decide | omega | assumption) (up_same _ _ _) rfl ?_
  refine wq_top (mb_19 (mw_b hW) :) ?_
  refine wq_mput rfl (up_same _ _ _) rfl rfl rfl rfl ?_
  rw [up_up]
  refine wq_go rfl (fun _ => rfl) ?_
  refine wq_callV rfl rfl (by first | rfl | assumption) (by first | decide | omega | assumption) (Nat.le_of_ble_eq_true rfl) (Nat.le_of_ble_eq_true rfl) rfl rfl ?_
  have hB := mw_b hW
  have k : ∀ j, ¬ j = 287 → j < 295 ∨ 319 < j → σ j = σ7 j := fun j h1 h3 => (mb_k hB).1 j (xRd_o ⟨by omega, h1⟩)
  have ok : ∀ j, 320 ≤ j → σ j = σ0 j := fun j h => (k j (by omega) (by omega)).trans (o j (by omega) (by omega))
  obtain ⟨D1, lw1⟩ := md_new (g' := upd (upd g1 17 (-1)) 18 (nI (1 - L))) h hw hP rfl (isA_eq (ok 320 (by omega)) (md_c320 hD)) (isA_eq (ok 321 (by omega)) (md_c321 hD)) (isA_eq (ok 324 (by omega)) (md_c324 hD)) (isA_eq (ok 322 (by omega)) (md_c322 hD)) (isA_eq (ok 323 (by omega)) (md_c323 hD))
  refine m_begins D1 (fun g2 σ2 F2 G2 M2 R2 => ?_)
  refine wq_go rfl (fun _ => rfl) ?_
  refine wq_callV rfl rfl (by first | rfl | assumption) (by first | decide | omega | assumption) (Nat.le_of_ble_eq_true rfl) (Nat.le_of_ble_eq_true rfl) rfl rfl ?_
  refine m_keepsRow M2 R2 (fun σ3 F3 M3 N3 => ?_)
  have c0 : ∀ j, 324 < j → σ3 j = σ0 j := fun j hj => (F3 j (by simp only [x322, beq_eq_false_iff_ne]; omega)).trans ((F2 j (by
    have a1 : (j == 287) = false := by simp; omega
    have a2 : (j == 323) = false := by simp; omega
    simp only [xBg, a1, a2, Bool.or_false])).trans ((up_ne _ _ (by omega)).trans (ok j (by omega))))
  have c1 : ∀ j, ¬ j = 287 → ¬ j = 322 → ¬ j = 323 → σ3 j = σ j := fun j h1 h3 h4 => (F3 j (by simp only [x322, beq_eq_false_iff_ne]; omega)).trans ((F2 j (by
    have a1 : (j == 287) = false := by simp; omega
    have a2 : (j == 323) = false := by simp; omega
    simp only [xBg, a1, a2, Bool.or_false])).trans (up_ne _ _ h1))
  obtain ⟨r1, r2, ⟨f3, r3, r3'⟩, r4, ⟨f5, r5, r5'⟩, ⟨f6, r6, r6'⟩, ⟨f7, r7, r7'⟩, r8, ⟨f9, r9, r9'⟩, r10, r11, ⟨f12, r12, r12'⟩⟩ := id hR
  refine wq_go rfl (fun _ => rfl) ?_
  refine wq_cN (m := 0) rfl rfl ?_
  refine wq_mput rfl (md_o M3) rfl rfl rfl rfl ?_
  refine wq_go rfl (fun _ => rfl) ?_
  refine wq_cN (m := 0) rfl rfl ?_
  refine wq_mput rfl (up_same _ _ _) rfl rfl rfl rfl ?_
  rw [up_up]
  refine wq_cN (m := 0) rfl rfl ?_
  refine wq_go rfl (fun _ => rfl) ?_
  refine wq_go rfl (fun _ => rfl) ?_
  refine wq_cN (m := 3) rfl rfl ?_
  refine wq_cge rfl (by first | omega | decide | exact Nat.lt_of_le_of_lt Nat.and_le_right (by decide) | exact ⟨by omega, by omega⟩) (by first | omega | decide | exact Nat.lt_of_le_of_lt Nat.and_le_right (by decide) | exact ⟨by omega, by omega⟩) (fun c => absurd c (by omega)) (fun c117 => ?_)
  refine wq_go rfl (fun _ => rfl) ?_
  refine wq_getf rfl (by first | rfl | assumption) (by first | decide | omega | assumption) (up_same _ _ _) rfl ?_
  refine wq_go rfl (fun _ => rfl) ?_
  refine wq_cN (m := 0) rfl rfl ?_
  refine wq_bast rfl (by first | rfl | assumption) (Or.inr rfl) (by first | decide | omega | assumption) ((up_ne _ _ (by decide)).trans ((c0 329 (by omega)).trans r8)) rfl (by omega) (by first | decide | omega) ?_
  refine wq_incN rfl rfl rfl ?_
  refine wq_go rfl (fun _ => rfl) ?_
  refine wq_go rfl (fun _ => rfl) ?_
  refine wq_cN (m := 3) rfl rfl ?_
  refine wq_cge rfl (by first | omega | decide | exact Nat.lt_of_le_of_lt Nat.and_le_right (by decide) | exact ⟨by omega, by omega⟩) (by first | omega | decide | exact Nat.lt_of_le_of_lt Nat.and_le_right (by decide) | exact ⟨by omega, by omega⟩) (fun c => absurd c (by omega)) (fun c117 => ?_)
  refine wq_go rfl (fun _ => rfl) ?_
  refine wq_getf rfl (by first | rfl | assumption) (by first | decide | omega | assumption) ((up_ne _ _ (by decide)).trans (up_same _ _ _)) rfl ?_
  refine wq_go rfl (fun _ => rfl) ?_
  refine wq_cN (m := 0) rfl rfl ?_
  refine wq_bast rfl (by first | rfl | assumption) (Or.inr rfl) (by first | decide | omega | assumption) (up_same _ _ _) rfl (by omega) (by first | decide | omega) ?_
  rw [up_up]
  refine wq_incN rfl rfl rfl ?_
  refine wq_go rfl (fun _ => rfl) ?_
  refine wq_go rfl (fun _ => rfl) ?_
  refine wq_cN (m := 3) rfl rfl ?_
  refine wq_cge rfl (by first | omega | decide | exact Nat.lt_of_le_of_lt Nat.and_le_right (by decide) | exact ⟨by omega, by omega⟩) (by first | omega | decide | exact Nat.lt_of_le_of_lt Nat.and_le_right (by decide) | exact ⟨by omega, by omega⟩) (fun c => absurd c (by omega)) (fun c117 => ?_)
  refine wq_go rfl (fun _ => rfl) ?_
  refine wq_getf rfl (by first | rfl | assumption) (by first | decide | omega | assumption) ((up_ne _ _ (by decide)).trans (up_same _ _ _)) rfl ?_
  refine wq_go rfl (fun _ => rfl) ?_
  refine wq_cN (m := 0) rfl rfl ?_
  refine wq_bast rfl (by first | rfl | assumption) (Or.inr rfl) (by first | decide | omega | assumption) (up_same _ _ _) rfl (by omega) (by first | decide | omega) ?_
  rw [up_up]
  refine wq_incN rfl rfl rfl ?_
  refine wq_go rfl (fun _ => rfl) ?_
  refine wq_go rfl (fun _ => rfl) ?_
  refine wq_cN (m := 3) rfl rfl ?_
  refine wq_cge rfl (by first | omega | decide | exact Nat.lt_of_le_of_lt Nat.and_le_right (by decide) | exact ⟨by omega, by omega⟩) (by first | omega | decide | exact Nat.lt_of_le_of_lt Nat.and_le_right (by decide) | exact ⟨by omega, by omega⟩) (fun c117 => ?_) (fun c => absurd (show _ from by omega) c)
  refine wq_cN (m := 0) rfl rfl ?_
  refine wq_iret rfl ?_
  have cu : ∀ j, ¬ j = 287 → ¬ j = 329 → ∀ v w, (up (up σ3 287 v) 329 w) j = σ3 j := fun j h1 h3 v w => (up_ne _ _ h3).trans (up_ne _ _ h1)
  refine K _ (fun j hj => ?_) ⟨1 - L, _, md_o5 (md_u287 M3 rfl) (by decide), ⟨?_, rfl, ⟨f3, ?_, fun j hj => absurd hj (Nat.not_lt_zero j)⟩, rfl, ⟨f5, ?_, fun j hj => absurd hj (Nat.not_lt_zero j)⟩, ⟨f6, ?_, fun j hj => absurd hj (Nat.not_lt_zero j)⟩, ⟨f7, ?_, fun j hj => absurd hj (Nat.not_lt_zero j)⟩, ?_, ⟨f9, ?_, fun s hs hb => ?_⟩, ?_, ?_, ⟨f12, ?_, fun j hj => absurd hj (Nat.not_lt_zero j)⟩⟩, ?_⟩
  · exact (cu j (by omega) (by omega) _ _).trans (c1 j (by omega) (by omega) (by omega))
  · exact (cu 322 (by omega) (by omega) _ _).trans N3
  · exact (cu 325 (by omega) (by omega) _ _).trans ((c0 325 (by omega)).trans r3)
  · exact (cu 326 (by omega) (by omega) _ _).trans ((c0 326 (by omega)).trans r5)
  · exact (cu 327 (by omega) (by omega) _ _).trans ((c0 327 (by omega)).trans r6)
  · exact (cu 328 (by omega) (by omega) _ _).trans ((c0 328 (by omega)).trans r7)
  · rw [up_same]
    apply arr_congr
    intro j hj
    have hb : ∀ x, bitN 0 x = 0 := fun x => by unfold bitN; rw [Nat.zero_testBit]; rfl
    show _ = nI (bitN 0 j)
    rw [hb]
    unfold upd
    rcases (show j = 0 ∨ j = 1 ∨ j = 2 by omega) with e | e | e <;> subst e <;> rfl
  · exact (cu 330 (by omega) (by omega) _ _).trans ((c0 330 (by omega)).trans r9)
  · rw [show (Ah (GP G, begS (GP G), AH A, 0, AZ A, 0, (0, Tc (AT A), Tt (AT A), Ta (AT A), Ts (AT A)), Ab A, 0, (-1 : Int32))) = 0 from rfl, Nat.zero_testBit] at hb; cases hb
  · exact G2 17 rfl
  · exact (G2 2 rfl).trans (((mb_g hB) 2 rfl).trans h2)
  · exact (cu 288 (by omega) (by omega) _ _).trans ((c1 288 (by omega) (by omega) (by omega)).trans ((k 288 (by decide) (by decide)).trans ((o 288 (by decide) (by decide)).trans r12)))
  · obtain ⟨t1, t2, t3, t4, t5, t6, t7, t8, t9, t10⟩ := hT
    have b7 := mb_x hB
    have b6 := mb_m hB
    have cc : ∀ j, ¬ j = 287 → ¬ j = 322 → ¬ j = 323 → ¬ j = 329 → ∀ v w, (up (up σ3 287 v) 329 w) j = σ j := fun j h1 h3 h4 h5 v w => (cu j h1 h5 v w).trans (c1 j h1 h3 h4)
    refine ⟨isA_eq ((cc 289 (by decide) (by decide) (by decide) (by decide) _ _).trans (k 289 (by decide) (by decide))) i289, isA_eq (cc 290 (by decide) (by decide) (by decide) (by decide) _ _) b7.1, isA_eq (cc 291 (by decide) (by decide) (by decide) (by decide) _ _) b7.2.1, isA_eq (cc 292 (by decide) (by decide) (by decide) (by decide) _ _) b7.2.2.1, ⟨_, (cc 293 (by decide) (by decide) (by decide) (by decide) _ _).trans b7.2.2.2.1⟩, (cc 294 (by decide) (by decide) (by decide) (by decide) _ _).trans ((k 294 (by decide) (by decide)).trans ((o 294 (by decide) (by decide)).trans t6)), ⟨_, (cc 295 (by decide) (by decide) (by decide) (by decide) _ _).trans b6.2⟩, isA_eq (cc 296 (by decide) (by decide) (by decide) (by decide) _ _) (msh_g b6 (by decide)), isA_eq (cc 319 (by decide) (by decide) (by decide) (by decide) _ _) (msh_g b6 (by decide)), lwR_eq lw1 (fun j h1 h3 => (cc j (by omega) (by omega) (by omega) (by omega) _ _).trans (up_ne _ _ (by omega)).symm)⟩
theorem m_read {xs : List Int32} {d : Nat} {σ : Nat → List Value} {Q : Option Value → (Nat → List Value) → Prop} {A : Sy} (hM : MI A σ) (hAl : Al A ≤ 2000) (hPok : (readX (XB (Ab A) (Al A))).1 = 0 → Pok (readX (XB (Ab A) (Al A))).2.2) (K : ∀ σ', Lo σ σ' → MI (readA A) σ' → Q (some (.int (nI (readX (XB (Ab A) (Al A))).1))) σ') : Wq xs (d + 8) ax_cd225 0 [(0, .ref 287)] [] σ Q := by
  obtain ⟨L, g, hD, hR, hT⟩ := hM
  have hL2 := md_l2 hD
  obtain ⟨r1, r2, r3, r4, r5, r6, r7, r8, r9, r10, r11, ⟨f12, r12, r12'⟩⟩ := id hR
  obtain ⟨t1, t2, t3, t4, t5, t6, t7, t8, t9, t10⟩ := id hT
  refine wq_go rfl (fun _ => rfl) ?_
  refine wq_go rfl (fun _ => rfl) ?_
  refine wq_getf rfl (by first | rfl | assumption) (by first | decide | omega | assumption) (md_o hD) rfl ?_
  refine wq_top r11 ?_
  refine wq_mput rfl (md_o hD) rfl rfl rfl rfl ?_
  refine wq_cN (m := 0) rfl rfl ?_
  refine wq_go rfl (fun _ => rfl) ?_
  refine wq_lv ⟨(by decide : ([1, 0] : List Nat).Nodup), (lvm (List.mem_of_getElem? (i := 0) rfl) (lvm (List.mem_of_getElem? (i := 1) rfl) lvn))⟩ (m_txt (d := d) (σ := up σ 287 (mo (upd g 4 (nI (Al A))))) (g := upd g 4 (nI (Al A))) (b := Ab A) (l := Al A) (up_same _ _ _) rfl ((up_ne _ _ (by decide)).trans r12) r12' hAl (fun σb fb Fb eb ab => ?_) (Al A) 0 rfl _ _ (fr_refl _ _) (isA_eq (up_ne _ _ (by decide)) t1) (fun j hj => absurd hj (Nat.not_lt_zero j)))
  obtain ⟨fm0, t5'⟩ := t5
  have ob : ∀ j, ¬ j = 287 → ¬ j = 289 → σb j = σ j := fun j h1 h3 => (Fb j (by simp only [x289, beq_eq_false_iff_ne]; omega)).trans (up_ne _ _ h1)
  have e287 : σb 287 = mo (upd g 4 (nI (Al A))) := (Fb 287 rfl).trans (up_same _ _ _)
  refine wq_go rfl (fun _ => rfl) ?_
  refine wq_cN (m := 0) rfl rfl ?_
  refine wq_mput rfl e287 rfl rfl rfl rfl ?_
  refine wq_go rfl (fun _ => rfl) ?_
  refine wq_callV rfl rfl (by first | rfl | assumption) (by first | decide | omega | assumption) (Nat.le_of_ble_eq_true rfl) (Nat.le_of_ble_eq_true rfl) rfl rfl ?_
  refine m_cut (b := fun j => vp_nar .byte (Ab A j)) (l := Al A) ((up_ne _ _ (by decide)).trans eb) ab hAl (up_same _ _ _) rfl ((up_ne _ _ (by decide)).trans ((ob 294 (by decide) (by decide)).trans t6)) (isA_eq ((up_ne _ _ (by decide)).trans (ob 290 (by decide) (by decide))) t2) (isA_eq ((up_ne _ _ (by decide)).trans (ob 291 (by decide) (by decide))) t3) (isA_eq ((up_ne _ _ (by decide)).trans (ob 292 (by decide) (by decide))) t4) ((up_ne _ _ (by decide)).trans ((ob 293 (by decide) (by decide)).trans t5')) (fun σc gc n fk fp fn fm Fc Gc ec e290 e291 e292 e293 hS hn1 hn4 hn5 hn6 => ?_)
  simp only [byN_nar] at hS hn6
  refine wq_go rfl (fun _ => rfl) ?_
  refine wq_cN (m := 0) rfl rfl ?_
  refine wq_mput rfl ec rfl rfl rfl rfl ?_
  refine wq_go rfl (fun _ => rfl) ?_
  refine wq_cN (m := 0) rfl rfl ?_
  refine wq_mput rfl (up_same _ _ _) rfl rfl rfl rfl ?_
  rw [up_up]
  refine wq_go rfl (fun _ => rfl) ?_
  refine wq_cN (m := 0) rfl rfl ?_
  refine wq_mput rfl (up_same _ _ _) rfl rfl rfl rfl ?_
  rw [up_up]
  refine wq_go rfl (fun _ => rfl) ?_
  refine wq_cN (m := 0) rfl rfl ?_
  refine wq_mput rfl (up_same _ _ _) rfl rfl rfl rfl ?_
  rw [up_up]
  refine wq_go rfl (fun _ => rfl) ?_
  refine wq_cN (m := 1) rfl rfl ?_
  refine wq_go rfl (fun _ => rfl) ?_
  refine wq_getf rfl (by first | rfl | assumption) (by first | decide | omega | assumption) (up_same _ _ _) rfl ?_
  refine wq_top ((Gc 18 rfl).trans (md_l hD :)) ?_
  refine wq_subN rfl (by omega) ?_
  refine wq_mput rfl (up_same _ _ _) rfl rfl rfl rfl ?_
  rw [up_up]
  refine wq_go rfl (fun _ => rfl) ?_
  refine wq_cN (m := 0) rfl rfl ?_
  refine wq_mput rfl (up_same _ _ _) rfl rfl rfl rfl ?_
  rw [up_up]
  refine wq_go rfl (fun _ => rfl) ?_
  refine wq_go rfl (fun _ => rfl) ?_
  refine wq_getf rfl (by first | rfl | assumption) (by first | decide | omega | assumption) (up_same _ _ _) rfl ?_
  refine wq_callV rfl rfl (by first | rfl | assumption) (by first | decide | omega | assumption) (Nat.le_of_ble_eq_true rfl) (Nat.le_of_ble_eq_true rfl) rfl rfl ?_
  obtain ⟨g7, hg7⟩ : ∃ q, q = (upd (upd (upd (upd (upd (upd gc 11 (nI 0)) 12 (nI 0)) 13 (nI 0)) 15 (nI 0)) 19 (nI (1 - L))) 20 (nI 0)) := ⟨_, rfl⟩
  obtain ⟨σ7, hσ7⟩ : ∃ q, q = up σc 287 (mo g7) := ⟨_, rfl⟩
  rw [← hg7, ← hσ7]
  have x7' : ∀ j, ¬ j = 287 → σ7 j = σc j := fun j hj => by rw [hσ7]; exact up_ne _ _ hj
  have oc : ∀ j, ¬ j = 287 → j < 290 ∨ 293 < j → σ7 j = σb j := fun j h1 h3 => (x7' j h1).trans ((Fc j (by
    have a1 : (j == 287) = false := by simp; omega
    have a2 : (j == 290) = false := by simp; omega
    have a3 : (j == 291) = false := by simp; omega
    have a4 : (j == 292) = false := by simp; omega
    have a5 : (j == 293) = false := by simp; omega
    simp only [xMt, a1, a2, a3, a4, a5, Bool.or_false])).trans (up_ne _ _ h1))
  have o : ∀ j, ¬ j = 287 → j < 289 ∨ 293 < j → σ7 j = σ j := fun j h1 h3 => (oc j h1 (by omega)).trans (ob j h1 (by omega))
  have i289 : IsA σ7 289 2000 := isA_of ((oc 289 (by decide) (by decide)).trans eb)
  have hGc : ∀ b, ¬ b = 2 → ¬ b = 4 → ¬ b = 10 → gc b = g b := fun b h1 h3 h4 => by
    rw [Gc b (by simp only [y10, beq_eq_false_iff_ne]; exact h4)]
    unfold upd
    rw [if_neg h1, if_neg h3]
  have hG : ∀ b, 16 < b → ¬ b = 19 → ¬ b = 20 → g7 b = g b := fun b h1 h3 h4 => by
    rw [hg7]
    unfold upd
    rw [if_neg h4, if_neg h3, if_neg (by omega), if_neg (by omega), if_neg (by omega), if_neg (by omega)]
    exact hGc b (by omega) (by omega) (by omega)
  have h2 : g7 2 = nI 0 := by
    rw [hg7]
    exact (Gc 2 rfl)
  have hX := xok_b (Ab A) hAl
  have hK : MkX (XB (Ab A) (Al A)) σ7 := mkx_b ((x7' 290 (by decide)).trans e290) ((x7' 291 (by decide)).trans e291) ((x7' 292 (by decide)).trans e292) ((x7' 293 (by decide)).trans e293) hS hn4 hn6 hn1
  have hB : MrB (g7, σ7) (XB (Ab A) (Al A)) (1 - L) g7 σ7 := ⟨by rw [hσ7]; exact up_same _ _ _, fg_refl _ _, kp_refl _ _, by rw [hg7]; rfl, by omega, msh_0 hD hT (fun j hj => o j (by omega) (by omega)), hK, hX⟩
  have h19 : g7 19 = nI (1 - L) := by rw [hg7]; rfl
  rw [h19]
  refine m_plain hB (fun σd Fd Bd p297 p299 p302 p306 p307 p308 p309 pl => ?_)
  refine wq_go rfl (fun _ => rfl) ?_
  refine wq_cN (m := 130) rfl rfl ?_
  refine wq_go rfl (fun _ => rfl) ?_
  refine wq_getf rfl (by first | rfl | assumption) (by first | decide | omega | assumption) (mb_o Bd) rfl ?_
  refine wq_top (mb_19 Bd :) ?_
  refine wq_mulN rfl ?_
  refine wq_mput rfl (mb_o Bd) rfl rfl rfl rfl ?_
  refine wq_go rfl (fun _ => rfl) ?_
  refine wq_cN (m := 420) rfl rfl ?_
  refine wq_go rfl (fun _ => rfl) ?_
  refine wq_getf rfl (by first | rfl | assumption) (by first | decide | omega | assumption) (up_same _ _ _) rfl ?_
  refine wq_top (mb_19 Bd :) ?_
  refine wq_mulN rfl ?_
  refine wq_mput rfl (up_same _ _ _) rfl rfl rfl rfl ?_
  rw [up_up]
  have u9 : ∀ j, ¬ j = 287 → (up σd 287 (mo (upd (upd g7 38 (nI (130 * (1 - L)))) 44 (nI (420 * (1 - L)))))) j = σd j := fun j hj => up_ne _ _ hj
  have B9 : MrB (g7, σ7) (XB (Ab A) (Al A)) (1 - L) (upd (upd g7 38 (nI (130 * (1 - L)))) 44 (nI (420 * (1 - L)))) (up σd 287 (mo (upd (upd g7 38 (nI (130 * (1 - L)))) 44 (nI (420 * (1 - L)))))) := mrb_o Bd (fg_up (fg_up (fg_refl _ _) rfl) rfl)
  have R9 : RmG (g7, σ7) (XB (Ab A) (Al A)) (1 - L) G0 0 0 0 (upd (upd g7 38 (nI (130 * (1 - L)))) 44 (nI (420 * (1 - L)))) (up σd 287 (mo (upd (upd g7 38 (nI (130 * (1 - L)))) 44 (nI (420 * (1 - L)))))) := by
    refine ⟨⟨B9, ?_, ?_, ?_, ?_, (fun q e => by cases e), ?_, rfl, rfl, by decide, (fun i hi => absurd hi (Nat.not_lt_zero i)), (fun q e => by cases e)⟩, (fun q e => by cases e), rfl, by decide, by decide, by decide, (ag_eq (u9 297 (by decide)) _).trans p297, (ag_eq (u9 299 (by decide)) _).trans p299, (ag_eq (u9 302 (by decide)) _).trans p302, by decide, by decide, fun _ => 0, (fun k hk => absurd hk (Nat.not_lt_zero k)), fun _ => ⟨(fun i hi => absurd hi (Nat.not_lt_zero i)), (fun i hi => absurd hi (Nat.not_lt_zero i)), (fun i hi => absurd hi (show ¬ i < 0 * 4 by omega)), (fun i hi => absurd hi (Nat.not_lt_zero i)), (fun i hi => absurd hi (Nat.not_lt_zero i)), (fun i hi => absurd hi (Nat.not_lt_zero i)), (ag_eq (u9 306 (by decide)) _).trans p306, (ag_eq (u9 307 (by decide)) _).trans p307, (ag_eq (u9 308 (by decide)) _).trans p308, (ag_eq (u9 309 (by decide)) _).trans p309, (fun l hl => ⟨0, 0, (ag_eq (u9 310 (by decide)) _).trans (pl l hl).1, (ag_eq (u9 311 (by decide)) _).trans (pl l hl).2, by decide, by decide, fun _ _ => Or.inl ⟨rfl, rfl⟩⟩), (fun i hi => absurd hi (Nat.not_lt_zero i)), (fun i hi => absurd hi (Nat.not_lt_zero i)), (fun i hi => absurd hi (Nat.not_lt_zero i)), (fun i j hi _ _ => absurd hi (Nat.not_lt_zero i)), (fun i j hi _ _ => absurd hi (Nat.not_lt_zero i))⟩⟩ <;> (subst hg7; rfl)
  have loK : ∀ (B' : Bs) (g' : Nat → Int32) (σ' : Nat → List Value), MrB (g7, σ7) (XB (Ab A) (Al A)) (1 - L) g' σ' → Lo σ σ' := fun _ g' σ' b j hj => ((mb_k b).1 j (xRd_o ⟨by omega, by omega⟩)).trans (o j (by omega) (by omega))
  refine m_rd_l (B := (g7, σ7)) (X := XB (Ab A) (Al A)) (s := 1 - L) (fun G bn cn nn g' σ' e R => ?_) (fun f p bn g' σ' e W => ?_) 401 G0 0 0 0 _ _ (by decide) R9 rfl
  · have hl' := loK (g7, σ7) g' σ' (mw_b R.1)
    cases hw : Gw G with
    | none =>
      have hx : readX (XB (Ab A) (Al A)) = (0, -1, GP G) := by
        unfold readX
        rw [e]
        simp only [hw]
      have hA : readA A = (GP G, begS (GP G), AH A, 0, AZ A, 0, (0, Tc (AT A), Tt (AT A), Ta (AT A), Ts (AT A)), Ab A, 0, -1) := by
        unfold readA
        rw [hx]
        rfl
      have hPk : Pok (GP G) := by
        have := hPok (by rw [hx])
        rw [hx] at this
        exact this
      rw [hx, hA] at K
      exact m_rd72_o hD hR hT o i289 hG h2 R hw hPk (fun σ'' hl'' hM => K σ'' (fun j hj => (hl'' j hj).trans (hl' j hj)) hM)
    | some q =>
      have hx : readX (XB (Ab A) (Al A)) = (q.1, nI q.2, P0) := by
        unfold readX
        rw [e]
        simp only [hw]
      have hW := R.1
      rw [hw] at hW
      have hq := (mw_v hW q rfl).1
      have hA : readA A = (AP A, AS A, AH A, An A, AZ A, Ah A, AT A, Ab A, 0, nI q.2) := by
        unfold readA
        rw [hx, if_neg hq]
      rw [hx, hA] at K
      exact m_rd72_w hD hR hT o i289 hG h2 hW (fun σ'' hl'' hM => K σ'' (fun j hj => (hl'' j hj).trans (hl' j hj)) hM)
  · have hl' := loK (g7, σ7) g' σ' (mf_b W)
    have hx : readX (XB (Ab A) (Al A)) = (f, nI (Xp (XB (Ab A) (Al A)) p), P0) := by
      unfold readX
      rw [e]
      rfl
    have hA : readA A = (AP A, AS A, AH A, An A, AZ A, Ah A, AT A, Ab A, 0, nI (Xp (XB (Ab A) (Al A)) p)) := by
      unfold readA
      rw [hx, if_neg (mf_0 W)]
    rw [hx, hA] at K
    exact m_rd72_e hD hR hT o i289 hG h2 W (fun σ'' hl'' hM => K σ'' (fun j hj => (hl'' j hj).trans (hl' j hj)) hM)
theorem sm_le {f : Nat → Nat} {k : Nat} : ∀ n, (∀ i, i < n → f i ≤ k) → sumF f n ≤ n * k
  | 0, _ => Nat.zero_le _
  | n + 1, h => by
    have h1 := sm_le n (fun i hi => h i (by omega))
    have h2 := h n (by omega)
    rw [sumF, Nat.succ_mul]
    omega
theorem sfu_beg {n : Nat} {P : Pl} (h : Pok P) : Sfu n P (begS P) := by
  obtain ⟨h1, h2, h3, h4, h5, h6, h7, h8, h9, h10, h11, h12, h13⟩ := h
  refine ⟨⟨?_, show 0 ≤ 1000000 by decide, show 0 < 16 by decide, ?_⟩, Nat.zero_le _, fun _ i _ => rfl, rfl⟩
  · have a : ∀ i, i < 20 → Sow (begS P) i ≤ 99 := fun i hi => by
      show (if i / 4 < Phd P then Pow P i else 0) ≤ 99
      split
      · exact h12 i (by omega)
      · omega
    have b := sm_le 20 a
    have c : sumF (Ssq (begS P)) 16 = 0 := rfl
    have e : Ssd (begS P) = 0 := rfl
    unfold tot
    omega
  · show 2 ^ Pvs P - 1 < 1024
    have : 2 ^ Pvs P ≤ 2 ^ 10 := Nat.pow_le_pow_right (by decide) h3
    have e : 2 ^ 10 = 1024 := rfl
    omega
theorem pr_read : PairOK Inv ax_cd30 ax_cd225 [] := by
  apply pair_of
  intro xs n σ hn ⟨A, hA, hC, hM⟩
  have hAl := hA.2.2.2.2.2.2.2
  refine c_read (d := 34) hC hAl (fun σ' hH hC' => ⟨_, rfl, ?_⟩)
  have hPok : (readX (XB (Ab A) (Al A))).1 = 0 → Pok (readX (XB (Ab A) (Al A))).2.2 := fun e => by
    have h := cw_pok hC'.1
    unfold readA at h
    rw [if_pos e] at h
    exact h
  refine m_read (d := 51) (mi_hi hM hH) hAl hPok (fun σ'' hL hM' => ⟨rfl, readA A, ?_, ci_lo hC' hL, hM'⟩)
  have hA1 := aok_s hA
  unfold readA
  by_cases e : (readX (XB (Ab A) (Al A))).1 = 0
  · rw [if_pos e]
    exact ⟨hPok e, sfu_beg (hPok e), fun j hj => absurd hj (Nat.not_lt_zero j), (fun s hs hb => absurd ((show (0 : Nat).testBit s = true from hb).symm.trans (Nat.zero_testBit s)) (by decide)), Nat.zero_le _, (show 0 < 8 by decide), ⟨Nat.zero_le _, fun i hi => absurd hi (Nat.not_lt_zero i)⟩, Nat.zero_le _⟩
  · rw [if_neg e]
    exact ⟨hA1.1, hA1.2.1, hA1.2.2.1, hA1.2.2.2.1, hA1.2.2.2.2.1, hA1.2.2.2.2.2.1, hA1.2.2.2.2.2.2.1, Nat.zero_le _⟩
theorem ax_pure : ax_Pure := ax_pure_of pr_read
