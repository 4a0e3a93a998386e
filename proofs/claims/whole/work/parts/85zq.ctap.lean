/-! THE BEGINNING OF READING -/
def xSD : Nat → Bool := fun j => j == 4 || j == 11 || j == 12
def xRT : Nat → Bool := fun j => Nat.ble 3 j && Nat.ble j 20
theorem xRT_o {j : Nat} (h : xRT j = false) : j < 3 ∨ 20 < j := by
  rcases Nat.lt_or_ge j 3 with q | q
  · exact Or.inl q
  · rcases Nat.lt_or_ge 20 j with r | r
    · exact Or.inr r
    · exfalso
      unfold xRT at h
      rw [Nat.ble_eq_true_of_le q, Nat.ble_eq_true_of_le r] at h
      cases h
theorem xRT_f {j : Nat} (h : j < 3 ∨ 20 < j) : xRT j = false := by
  unfold xRT
  rcases Nat.lt_or_ge j 3 with q | q
  · rw [ble_f q]; rfl
  · rw [show Nat.ble j 20 = false from ble_f (by omega)]; simp
theorem xRT_i {j : Nat} (h : 3 ≤ j ∧ j ≤ 20) : xRT j = true := by
  unfold xRT
  rw [Nat.ble_eq_true_of_le h.1, Nat.ble_eq_true_of_le h.2]
  rfl
/-- the text's tokens -/
def XB (b : Nat → Int32) (l : Nat) : Tx := (TK (fun j => byN (b j)) l, TNu (fun j => byN (b j)) l, TNa (fun j => byN (b j)) l, TPl (fun j => byN (b j)) l)
theorem xb_35 (b : Nat → Int32) (l j : Nat) : Xk (XB b l) j ≤ 35 := TK_le _ _ _
theorem xb_v (b : Nat → Int32) (l j : Nat) : Xv (XB b l) j < 10000 := TNu_lt _ _ _
def y00 : Nat → Int32 := fun j => if j = 5 then nI 50 else nI 0
theorem c_add0 {xs : List Int32} {d : Nat} {σ : Nat → List Value} {Q : Option Value → (Nat → List Value) → Prop} {sc nc nh nv : Nat} {y f11 f12 : Nat → Int32} (h4 : σ 4 = drO sc nc nh nv y) (h11 : σ 11 = arr 408 f11) (h12 : σ 12 = arr 4 f12) {k v : Nat} (hk : k < 8) (hv : v < 10000) (hs : sc < 408)  (K : ∀ σ', Fr xSD σ σ' → σ' 4 = drO (sc + 1) nc nh nv y → σ' 11 = arr 408 (upd f11 sc (nI (8 * v + k))) → σ' 12 = arr 4 f12 → Q none σ') : Wq xs (d + 0) ax_cd7 0 [(0, .ref 4), (1, .int (nI k)), (2, .int (nI v))] [] σ Q := by
  refine wq_go rfl (fun _ => rfl) ?_
  refine wq_getf rfl (by first | rfl | assumption) (by first | decide | omega | assumption) h4 rfl ?_
  refine wq_zlt rfl (by first | omega | decide | exact Nat.lt_of_le_of_lt Nat.and_le_right (by decide) | exact ⟨by omega, by omega⟩) (fun c => absurd c (by omega)) (fun c2 => ?_)
  refine wq_go rfl (fun _ => rfl) ?_
  refine wq_getf rfl (by first | rfl | assumption) (by first | decide | omega | assumption) h4 rfl ?_
  refine wq_go rfl (fun _ => rfl) ?_
  refine wq_getf rfl (by first | rfl | assumption) (by first | decide | omega | assumption) h4 rfl ?_
  refine wq_alen rfl (by first | rfl | assumption) (by first | decide | omega | assumption) rfl h11 (arr_len _ _) ?_
  refine wq_cge rfl (by first | omega | decide | exact Nat.lt_of_le_of_lt Nat.and_le_right (by decide) | exact ⟨by omega, by omega⟩) (by first | omega | decide | exact Nat.lt_of_le_of_lt Nat.and_le_right (by decide) | exact ⟨by omega, by omega⟩) (fun c => absurd c (by omega)) (fun c8 => ?_)
  refine wq_go rfl (fun _ => rfl) ?_
  refine wq_getf rfl (by first | rfl | assumption) (by first | decide | omega | assumption) h4 rfl ?_
  refine wq_go rfl (fun _ => rfl) ?_
  refine wq_getf rfl (by first | rfl | assumption) (by first | decide | omega | assumption) h4 rfl ?_
  refine wq_go rfl (fun _ => rfl) ?_
  refine wq_cN (m := 3) rfl rfl ?_
  refine wq_shlN rfl (by first | decide | omega) (by omega) ?_
  refine wq_go rfl (fun _ => rfl) ?_
  refine wq_orN rfl ?_
  refine wq_iast rfl (by first | rfl | assumption) (by first | decide | omega | assumption) h11 rfl (by omega) (by first | decide | omega) ?_
  refine wq_go rfl (fun _ => rfl) ?_
  refine wq_go rfl (fun _ => rfl) ?_
  refine wq_getf rfl (by first | rfl | assumption) (by first | decide | omega | assumption) ((up_ne _ _ (by decide)).trans h4) rfl ?_
  refine wq_cN (m := 1) rfl rfl ?_
  refine wq_addN rfl ?_
  refine wq_putf rfl (by first | rfl | assumption) (by first | decide | omega | assumption) ((up_ne _ _ (by decide)).trans h4) rfl rfl rfl (by first | exact Nat.le_of_ble_eq_true rfl | (simp; done)) ?_
  refine wq_end rfl (fun _ => rfl) ?_
  refine K _ (fr_up (fr_up (fr_refl _ _) rfl) rfl) (up_same _ _ _) ?_ ((up_ne _ _ (by decide)).trans ((up_ne _ _ (by decide)).trans h12))
  rw [up_ne _ _ (by decide), up_same, or8 hk]
theorem c_sst0 {xs : List Int32} {d : Nat} {σ : Nat → List Value} {Q : Option Value → (Nat → List Value) → Prop} {sc nc nh nv : Nat} {y f11 f12 : Nat → Int32} (h4 : σ 4 = drO sc nc nh nv y) (h11 : σ 11 = arr 408 f11) (h12 : σ 12 = arr 4 f12) {l s : Nat} (hl : l < 4)  (K : ∀ σ', Fr xSD σ σ' → σ' 4 = drO sc nc nh nv y → σ' 11 = arr 408 f11 → σ' 12 = arr 4 (upd f12 l (nI s)) → Q none σ') : Wq xs (d + 0) ax_cd6 0 [(0, .ref 4), (1, .int (nI l)), (2, .int (nI s))] [] σ Q := by
  refine wq_go rfl (fun _ => rfl) ?_
  refine wq_zlt rfl (by first | omega | decide | exact Nat.lt_of_le_of_lt Nat.and_le_right (by decide) | exact ⟨by omega, by omega⟩) (fun c => absurd c (by omega)) (fun c1 => ?_)
  refine wq_go rfl (fun _ => rfl) ?_
  refine wq_go rfl (fun _ => rfl) ?_
  refine wq_getf rfl (by first | rfl | assumption) (by first | decide | omega | assumption) h4 rfl ?_
  refine wq_alen rfl (by first | rfl | assumption) (by first | decide | omega | assumption) rfl h12 (arr_len _ _) ?_
  refine wq_cge rfl (by first | omega | decide | exact Nat.lt_of_le_of_lt Nat.and_le_right (by decide) | exact ⟨by omega, by omega⟩) (by first | omega | decide | exact Nat.lt_of_le_of_lt Nat.and_le_right (by decide) | exact ⟨by omega, by omega⟩) (fun c => absurd c (by omega)) (fun c6 => ?_)
  refine wq_go rfl (fun _ => rfl) ?_
  refine wq_getf rfl (by first | rfl | assumption) (by first | decide | omega | assumption) h4 rfl ?_
  refine wq_go rfl (fun _ => rfl) ?_
  refine wq_go rfl (fun _ => rfl) ?_
  refine wq_iast rfl (by first | rfl | assumption) (by first | decide | omega | assumption) h12 rfl (by omega) (by first | decide | omega) ?_
  refine wq_end rfl (fun _ => rfl) ?_
  exact K _ (fr_up (fr_refl _ _) rfl) ((up_ne _ _ (by decide)).trans h4) ((up_ne _ _ (by decide)).trans h11) (up_same _ _ _)
theorem c_sdf0 {xs : List Int32} {d : Nat} {σ : Nat → List Value} {Q : Option Value → (Nat → List Value) → Prop} {sc nc nh nv : Nat} {y f11 f12 : Nat → Int32} (h4 : σ 4 = drO sc nc nh nv y) (h11 : σ 11 = arr 408 f11) (h12 : σ 12 = arr 4 f12) {l k v : Nat} (hl : l < 4) (hk : k < 8) (hv : v < 10000) (hs : sc + 1 < 408)  (K : ∀ σ', Fr xSD σ σ' → σ' 4 = drO (sc + 1 + 1) nc nh nv y → σ' 11 = arr 408 (upd (upd f11 sc (nI (8 * v + k))) (sc + 1) (nI 7)) → σ' 12 = arr 4 (upd f12 l (nI sc)) → Q none σ') : Wq xs (d + 1) ax_cd5 0 [(0, .ref 4), (1, .int (nI l)), (2, .int (nI k)), (3, .int (nI v))] [] σ Q := by
  refine wq_go rfl (fun _ => rfl) ?_
  refine wq_go rfl (fun _ => rfl) ?_
  refine wq_go rfl (fun _ => rfl) ?_
  refine wq_getf rfl (by first | rfl | assumption) (by first | decide | omega | assumption) h4 rfl ?_
  refine wq_callV rfl rfl (by first | rfl | assumption) (by first | decide | omega | assumption) (Nat.le_of_ble_eq_true rfl) (Nat.le_of_ble_eq_true rfl) rfl rfl ?_
  refine c_sst0 h4 h11 h12 hl (fun σ4 F4 a4 b4 c4 => ?_)
  refine wq_go rfl (fun _ => rfl) ?_
  refine wq_go rfl (fun _ => rfl) ?_
  refine wq_go rfl (fun _ => rfl) ?_
  refine wq_callV rfl rfl (by first | rfl | assumption) (by first | decide | omega | assumption) (Nat.le_of_ble_eq_true rfl) (Nat.le_of_ble_eq_true rfl) rfl rfl ?_
  refine c_add0 a4 b4 c4 hk hv (by omega) (fun σ8 F8 a8 b8 c8 => ?_)
  refine wq_go rfl (fun _ => rfl) ?_
  refine wq_cN (m := 7) rfl rfl ?_
  refine wq_cN (m := 0) rfl rfl ?_
  refine wq_callV rfl rfl (by first | rfl | assumption) (by first | decide | omega | assumption) (Nat.le_of_ble_eq_true rfl) (Nat.le_of_ble_eq_true rfl) rfl rfl ?_
  refine c_add0 a8 b8 c8 (by decide) (by decide) hs (fun σ12 F12 a12 b12 c12 => ?_)
  refine wq_end rfl (fun _ => rfl) ?_
  exact K _ (fr_trans (fr_trans (fr_trans (fr_refl _ _) F4) F8) F12) a12 b12 c12
theorem c_clear0 {xs : List Int32} {d : Nat} {σ : Nat → List Value} {Q : Option Value → (Nat → List Value) → Prop} {y f11 f12 : Nat → Int32} (h4 : σ 4 = [.ref 5, .ref 6, .ref 7, .ref 8, .ref 9, .ref 10, .ref 11, .ref 12, .int (y 0), .int (y 1), .int (y 2), .int (y 3), .int (y 4), .int (y 5), .int (y 6), .int (y 7)]) (h11 : σ 11 = arr 408 f11) (h12 : σ 12 = arr 4 f12)  (K : ∀ σ', Fr xSD σ σ' → σ' 4 = drO 8 0 0 0 y00 → σ' 11 = arr 408 (upd (upd (upd (upd (upd (upd (upd (upd f11 0 (nI 8)) 1 (nI 7)) 2 (nI 8)) 3 (nI 7)) 4 (nI 25)) 5 (nI 7)) 6 (nI 0)) 7 (nI 7)) → σ' 12 = arr 4 (upd (upd (upd (upd f12 0 (nI 0)) 1 (nI 2)) 2 (nI 4)) 3 (nI 6)) → Q none σ') : Wq xs (d + 2) ax_cd4 0 [(0, .ref 4)] [] σ Q := by
  refine wq_go rfl (fun _ => rfl) ?_
  refine wq_cN (m := 0) rfl rfl ?_
  refine wq_putf rfl (by first | rfl | assumption) (by first | decide | omega | assumption) h4 rfl rfl rfl (by first | exact Nat.le_of_ble_eq_true rfl | (simp; done)) ?_
  refine wq_go rfl (fun _ => rfl) ?_
  refine wq_cN (m := 0) rfl rfl ?_
  refine wq_putf rfl (by first | rfl | assumption) (by first | decide | omega | assumption) (up_same _ _ _) rfl rfl rfl (by first | exact Nat.le_of_ble_eq_true rfl | (simp; done)) ?_
  rw [up_up]
  refine wq_go rfl (fun _ => rfl) ?_
  refine wq_cN (m := 0) rfl rfl ?_
  refine wq_putf rfl (by first | rfl | assumption) (by first | decide | omega | assumption) (up_same _ _ _) rfl rfl rfl (by first | exact Nat.le_of_ble_eq_true rfl | (simp; done)) ?_
  rw [up_up]
  refine wq_go rfl (fun _ => rfl) ?_
  refine wq_cN (m := 0) rfl rfl ?_
  refine wq_putf rfl (by first | rfl | assumption) (by first | decide | omega | assumption) (up_same _ _ _) rfl rfl rfl (by first | exact Nat.le_of_ble_eq_true rfl | (simp; done)) ?_
  rw [up_up]
  refine wq_go rfl (fun _ => rfl) ?_
  refine wq_cN (m := 50) rfl rfl ?_
  refine wq_putf rfl (by first | rfl | assumption) (by first | decide | omega | assumption) (up_same _ _ _) rfl rfl rfl (by first | exact Nat.le_of_ble_eq_true rfl | (simp; done)) ?_
  rw [up_up]
  refine wq_go rfl (fun _ => rfl) ?_
  refine wq_cN (m := 0) rfl rfl ?_
  refine wq_putf rfl (by first | rfl | assumption) (by first | decide | omega | assumption) (up_same _ _ _) rfl rfl rfl (by first | exact Nat.le_of_ble_eq_true rfl | (simp; done)) ?_
  rw [up_up]
  refine wq_go rfl (fun _ => rfl) ?_
  refine wq_cN (m := 0) rfl rfl ?_
  refine wq_putf rfl (by first | rfl | assumption) (by first | decide | omega | assumption) (up_same _ _ _) rfl rfl rfl (by first | exact Nat.le_of_ble_eq_true rfl | (simp; done)) ?_
  rw [up_up]
  refine wq_go rfl (fun _ => rfl) ?_
  refine wq_cN (m := 0) rfl rfl ?_
  refine wq_putf rfl (by first | rfl | assumption) (by first | decide | omega | assumption) (up_same _ _ _) rfl rfl rfl (by first | exact Nat.le_of_ble_eq_true rfl | (simp; done)) ?_
  rw [up_up]
  refine wq_go rfl (fun _ => rfl) ?_
  refine wq_cN (m := 0) rfl rfl ?_
  refine wq_cN (m := 0) rfl rfl ?_
  refine wq_cN (m := 1) rfl rfl ?_
  refine wq_callV rfl rfl (by first | rfl | assumption) (by first | decide | omega | assumption) (Nat.le_of_ble_eq_true rfl) (Nat.le_of_ble_eq_true rfl) rfl rfl ?_
  refine c_sdf0 (show _ = drO 0 0 0 0 y00 from up_same _ _ _) ((up_ne _ _ (by decide)).trans h11) ((up_ne _ _ (by decide)).trans h12) (by decide) (by decide) (by decide) (by decide) (fun σ28 F28 a28 b28 c28 => ?_)
  refine wq_go rfl (fun _ => rfl) ?_
  refine wq_cN (m := 1) rfl rfl ?_
  refine wq_cN (m := 0) rfl rfl ?_
  refine wq_cN (m := 1) rfl rfl ?_
  refine wq_callV rfl rfl (by first | rfl | assumption) (by first | decide | omega | assumption) (Nat.le_of_ble_eq_true rfl) (Nat.le_of_ble_eq_true rfl) rfl rfl ?_
  refine c_sdf0 a28 b28 c28 (by decide) (by decide) (by decide) (by decide) (fun σ33 F33 a33 b33 c33 => ?_)
  refine wq_go rfl (fun _ => rfl) ?_
  refine wq_cN (m := 2) rfl rfl ?_
  refine wq_cN (m := 1) rfl rfl ?_
  refine wq_cN (m := 3) rfl rfl ?_
  refine wq_callV rfl rfl (by first | rfl | assumption) (by first | decide | omega | assumption) (Nat.le_of_ble_eq_true rfl) (Nat.le_of_ble_eq_true rfl) rfl rfl ?_
  refine c_sdf0 a33 b33 c33 (by decide) (by decide) (by decide) (by decide) (fun σ38 F38 a38 b38 c38 => ?_)
  refine wq_go rfl (fun _ => rfl) ?_
  refine wq_cN (m := 3) rfl rfl ?_
  refine wq_cN (m := 0) rfl rfl ?_
  refine wq_cN (m := 0) rfl rfl ?_
  refine wq_callV rfl rfl (by first | rfl | assumption) (by first | decide | omega | assumption) (Nat.le_of_ble_eq_true rfl) (Nat.le_of_ble_eq_true rfl) rfl rfl ?_
  refine c_sdf0 a38 b38 c38 (by decide) (by decide) (by decide) (by decide) (fun σ43 F43 a43 b43 c43 => ?_)
  refine wq_end rfl (fun _ => rfl) ?_
  exact K _ (fr_trans (fr_trans (fr_trans (fr_trans (fr_up (fr_refl _ _) rfl) F28) F33) F38) F43) a43 b43 c43
theorem c_kind0 {xs : List Int32} {d : Nat} {σ : Nat → List Value} {Q : Option Value → (Nat → List Value) → Prop} {X : Tx} {s : Nat} {n : Int32} {fk : Nat → Int32} (h15 : σ 15 = tkO (nI s) n) (h17 : σ 17 = arr 401 fk) (hs1 : 1 ≤ s) (hs : s ≤ 401) (ek : fk 0 = nI (Xk X 0))  (K : Q (some (.int (nI (Xk X 0)))) σ) : Wq xs (d + 0) ax_cd47 0 [(0, .ref 15), (1, .int (nI 0))] [] σ Q := by
  refine wq_go rfl (fun _ => rfl) ?_
  refine wq_zlt rfl (by first | omega | decide | exact Nat.lt_of_le_of_lt Nat.and_le_right (by decide) | exact ⟨by omega, by omega⟩) (fun c => absurd c (by omega)) (fun c1 => ?_)
  refine wq_go rfl (fun _ => rfl) ?_
  refine wq_go rfl (fun _ => rfl) ?_
  refine wq_getf rfl (by first | rfl | assumption) (by first | decide | omega | assumption) h15 rfl ?_
  refine wq_cge rfl (by first | omega | decide | exact Nat.lt_of_le_of_lt Nat.and_le_right (by decide) | exact ⟨by omega, by omega⟩) (by first | omega | decide | exact Nat.lt_of_le_of_lt Nat.and_le_right (by decide) | exact ⟨by omega, by omega⟩) (fun c => absurd c (by omega)) (fun c5 => ?_)
  refine wq_go rfl (fun _ => rfl) ?_
  refine wq_go rfl (fun _ => rfl) ?_
  refine wq_getf rfl (by first | rfl | assumption) (by first | decide | omega | assumption) h15 rfl ?_
  refine wq_alen rfl (by first | rfl | assumption) (by first | decide | omega | assumption) rfl h17 (arr_len _ _) ?_
  refine wq_cge rfl (by first | omega | decide | exact Nat.lt_of_le_of_lt Nat.and_le_right (by decide) | exact ⟨by omega, by omega⟩) (by first | omega | decide | exact Nat.lt_of_le_of_lt Nat.and_le_right (by decide) | exact ⟨by omega, by omega⟩) (fun c => absurd c (by omega)) (fun c10 => ?_)
  refine wq_go rfl (fun _ => rfl) ?_
  refine wq_getf rfl (by first | rfl | assumption) (by first | decide | omega | assumption) h15 rfl ?_
  refine wq_go rfl (fun _ => rfl) ?_
  refine wq_iald rfl (by first | rfl | assumption) (by first | decide | omega | assumption) h17 rfl (by omega) (by first | decide | omega) ?_
  refine wq_top ek ?_
  refine wq_go rfl (fun _ => rfl) ?_
  refine wq_iret rfl ?_
  exact K
theorem dr0 {σ : Nat → List Value} {f11 f12 : Nat → Int32} (h11 : σ 11 = arr 408 (upd (upd (upd (upd (upd (upd (upd (upd f11 0 (nI 8)) 1 (nI 7)) 2 (nI 8)) 3 (nI 7)) 4 (nI 25)) 5 (nI 7)) 6 (nI 0)) 7 (nI 7))) (h12 : σ 12 = arr 4 (upd (upd (upd (upd f12 0 (nI 0)) 1 (nI 2)) 2 (nI 4)) 3 (nI 6))) : DrC P0 8 σ := by
  refine ⟨fun i hi => absurd hi (Nat.not_lt_zero i), fun i hi => absurd hi (Nat.not_lt_zero i), fun i hi => absurd hi (show ¬ i < 0 * 4 by omega), fun i hi => absurd hi (Nat.not_lt_zero i), fun i hi => absurd hi (Nat.not_lt_zero i), fun i hi => absurd hi (Nat.not_lt_zero i), fun l hl => ?_, pok0⟩
  have e : ∀ i, i < 8 → ag σ 11 i = (upd (upd (upd (upd (upd (upd (upd (upd f11 0 (nI 8)) 1 (nI 7)) 2 (nI 8)) 3 (nI 7)) 4 (nI 25)) 5 (nI 7)) 6 (nI 0)) 7 (nI 7)) i := fun i hi => ag_in h11 (by omega)
  have e12 : ∀ i, i < 4 → ag σ 12 i = (upd (upd (upd (upd f12 0 (nI 0)) 1 (nI 2)) 2 (nI 4)) 3 (nI 6)) i := fun i hi => ag_in h12 hi
  have h4 : l = 0 ∨ l = 1 ∨ l = 2 ∨ l = 3 := by omega
  rcases h4 with q | q | q | q <;> subst q
  · exact ⟨0, e12 0 (by decide), fun g' hg => ⟨⟨(hg 0 (by decide)).trans (e 0 (by decide)), (hg 1 (by decide)).trans (e 1 (by decide)), trivial⟩, by decide⟩⟩
  · exact ⟨2, e12 1 (by decide), fun g' hg => ⟨⟨(hg 2 (by decide)).trans (e 2 (by decide)), (hg 3 (by decide)).trans (e 3 (by decide)), trivial⟩, by decide⟩⟩
  · exact ⟨4, e12 2 (by decide), fun g' hg => ⟨⟨(hg 4 (by decide)).trans (e 4 (by decide)), (hg 5 (by decide)).trans (e 5 (by decide)), trivial⟩, by decide⟩⟩
  · exact ⟨6, e12 3 (by decide), fun g' hg => ⟨⟨(hg 6 (by decide)).trans (e 6 (by decide)), (hg 7 (by decide)).trans (e 7 (by decide)), trivial⟩, by decide⟩⟩
theorem rd_is {X : Tx} {f t sc nc nh nv : Nat} {y : Nat → Int32} {w : Option (Nat × Nat)} {σ : Nat → List Value} {pl : Int32} (hW : RdW X f t sc nc nh nv y w σ) (h3 : σ 3 = rdO t (Xk X t) f w pl) (h16 : σ 16 = arrL 23 kwL) : RdIs σ pl := by
  obtain ⟨_, h4, _, _, _, _, hsh, ⟨s, n, fk, fp, fn, fm, a1, a2, a3, a4, a5, _⟩, _⟩ := hW
  exact ⟨⟨_, _, _, _, _, h3⟩, ⟨⟨fun j => if j = 0 then nI sc else if j = 1 then nI nc else if j = 2 then nI nh else if j = 3 then nI nv else y j, h4⟩, shp_g hsh (by decide), shp_g hsh (by decide), shp_g hsh (by decide), shp_g hsh (by decide), shp_g hsh (by decide), shp_g hsh (by decide), shp_g hsh (by decide), shp_g hsh (by decide)⟩, hsh.2.1, hsh.2.2, ⟨_, _, a1⟩, h16, isA_of a2, isA_of a3, isA_of a4, ⟨_, a5⟩⟩
theorem c_readTape {xs : List Int32} {d : Nat} {σ : Nat → List Value} {Q : Option Value → (Nat → List Value) → Prop} {b ft : Nat → Int32} {l : Nat} (h1 : σ 1 = [.ref 2, .int (nI l)]) (h2 : σ 2 = arr 2000 ft) (hb : ∀ j, j < l → ft j = b j) (hl : l ≤ 2000) {pl : Int32} (hR : RdIs σ pl)  (K0 : ∀ G sc σ', readX (XB b l) = (0, -1, GP G) → Gw G = none → Fr xRT σ σ' → RdIs σ' (-1) → RdG (XB b l) G sc σ' → Q (some (.int (nI 0))) σ') (K1 : ∀ σ' f p, readX (XB b l) = (f, p, P0) → ¬ f = 0 → f < 10 → Fr xRT σ σ' → RdIs σ' p → Q (some (.int (nI f))) σ') : Wq xs (d + 24) ax_cd31 0 [(0, .ref 3)] [] σ Q := by
  obtain ⟨⟨x0, x1, x2, x3', x4, h3⟩, ⟨⟨y, h4⟩, i5, i6, i7, i8, i9, i10, i11, i12⟩, h13, h14, ⟨s0, n0, h15⟩, h16, h17, h18, h19, ⟨fm0, h20⟩⟩ := hR
  have h11 : σ 11 = arr 408 (ag σ 11) := i11
  have h12 : σ 12 = arr 4 (ag σ 12) := i12
  have hShp : ∀ q ∈ shpl, IsA σ q.1 q.2 := by
    intro q hq
    simp only [shpl, List.mem_cons, List.not_mem_nil, or_false] at hq
    rcases hq with e | e | e | e | e | e | e | e <;> subst e <;> assumption
  refine wq_go rfl (fun _ => rfl) ?_
  refine wq_getf rfl (by first | rfl | assumption) (by first | decide | omega | assumption) h3 rfl ?_
  refine wq_callV rfl rfl (by first | rfl | assumption) (by first | decide | omega | assumption) (Nat.le_of_ble_eq_true rfl) (Nat.le_of_ble_eq_true rfl) rfl rfl ?_
  refine c_scan h1 h2 hb hl h16 h15 h17 h18 h19 h20 (fun σ2 s n fk fp fn fm F2 a15 a17 a18 a19 a20 hS hs1 hs4 hs5 hs6 => ?_)
  refine wq_go rfl (fun _ => rfl) ?_
  refine wq_getf rfl (by first | rfl | assumption) (by first | decide | omega | assumption) ((F2 3 rfl).trans h3) rfl ?_
  refine wq_callV rfl rfl (by first | rfl | assumption) (by first | decide | omega | assumption) (Nat.le_of_ble_eq_true rfl) (Nat.le_of_ble_eq_true rfl) rfl rfl ?_
  refine c_clear0 ((F2 4 rfl).trans h4) ((F2 11 rfl).trans h11) ((F2 12 rfl).trans h12) (fun σ5 F5 b4 b11 b12 => ?_)
  refine wq_go rfl (fun _ => rfl) ?_
  refine wq_cN (m := 0) rfl rfl ?_
  refine wq_putf rfl (by first | rfl | assumption) (by first | decide | omega | assumption) ((F5 3 rfl).trans ((F2 3 rfl).trans h3)) rfl rfl rfl (by first | exact Nat.le_of_ble_eq_true rfl | (simp; done)) ?_
  refine wq_go rfl (fun _ => rfl) ?_
  refine wq_go rfl (fun _ => rfl) ?_
  refine wq_getf rfl (by first | rfl | assumption) (by first | decide | omega | assumption) (up_same _ _ _) rfl ?_
  refine wq_cN (m := 0) rfl rfl ?_
  refine wq_callV rfl rfl (by first | rfl | assumption) (by first | decide | omega | assumption) (Nat.le_of_ble_eq_true rfl) (Nat.le_of_ble_eq_true rfl) rfl rfl ?_
  refine c_kind0 (X := XB b l) ((up_ne _ _ (by decide)).trans ((F5 15 rfl).trans a15)) ((up_ne _ _ (by decide)).trans ((F5 17 rfl).trans a17)) hs1 hs4 (hS.1 0 (by omega)) ?_
  refine wq_putf rfl (by first | rfl | assumption) (by first | decide | omega | assumption) (up_same _ _ _) rfl rfl rfl (by first | exact Nat.le_of_ble_eq_true rfl | (simp; done)) ?_
  rw [up_up]
  refine wq_go rfl (fun _ => rfl) ?_
  refine wq_cN (m := 0) rfl rfl ?_
  refine wq_putf rfl (by first | rfl | assumption) (by first | decide | omega | assumption) (up_same _ _ _) rfl rfl rfl (by first | exact Nat.le_of_ble_eq_true rfl | (simp; done)) ?_
  rw [up_up]
  refine wq_go rfl (fun _ => rfl) ?_
  refine wq_cN (m := 0) rfl rfl ?_
  refine wq_putf rfl (by first | rfl | assumption) (by first | decide | omega | assumption) (up_same _ _ _) rfl rfl rfl (by first | exact Nat.le_of_ble_eq_true rfl | (simp; done)) ?_
  rw [up_up]
  refine wq_go rfl (fun _ => rfl) ?_
  refine wq_go rfl (fun _ => rfl) ?_
  refine wq_putf rfl (by first | rfl | assumption) (by first | decide | omega | assumption) (up_same _ _ _) rfl rfl rfl (by first | exact Nat.le_of_ble_eq_true rfl | (simp; done)) ?_
  rw [up_up]
  refine wq_cN (m := 0) rfl rfl ?_
  refine wq_go rfl (fun _ => rfl) ?_
  have T5 : TkX (XB b l) σ5 := by
    refine ⟨s, n, fk, fp, fn, fm, (F5 15 rfl).trans a15, (F5 17 rfl).trans a17, (F5 18 rfl).trans a18, (F5 19 rfl).trans a19, (F5 20 rfl).trans a20, hs4, hS.1, hS.2.1, hS.2.2.1, hS.2.2.2, fun j hj hr => ?_, xb_35 b l⟩
    rcases Nat.lt_or_ge j s with q | q
    · exact q
    · have := hr (s - 1) (by omega)
      rcases hs6 with e | e | e
      · omega
      · exact absurd e this.1
      · exact absurd e this.2
  have S5 : Shp σ5 := by
    refine ⟨fun q hq => ?_, ?_, ?_⟩
    · by_cases e1 : q.1 = 11
      · have e2 : q.2 = 408 := (by decide : ∀ x ∈ shpl, x.1 = 11 → x.2 = 408) q hq e1
        rw [e1, e2]; exact isA_of b11
      · by_cases e3 : q.1 = 12
        · have e2 : q.2 = 4 := (by decide : ∀ x ∈ shpl, x.1 = 12 → x.2 = 4) q hq e3
          rw [e3, e2]; exact isA_of b12
        · have e4 := (by decide : ∀ x ∈ shpl, 5 ≤ x.1 ∧ x.1 ≤ 12) q hq
          have x1 : xSD q.1 = false := by
            have a1 : (q.1 == 4) = false := by simp; omega
            have a2 : (q.1 == 11) = false := by simp; omega
            have a3 : (q.1 == 12) = false := by simp; omega
            simp only [xSD, a1, a2, a3, Bool.or_false]
          have x2 : xTk q.1 = false := by
            have a1 : (q.1 == 15) = false := by simp; omega
            have a2 : (q.1 == 17) = false := by simp; omega
            have a3 : (q.1 == 18) = false := by simp; omega
            have a4 : (q.1 == 19) = false := by simp; omega
            have a5 : (q.1 == 20) = false := by simp; omega
            simp only [xTk, a1, a2, a3, a4, a5, Bool.or_false]
          exact isA_eq ((F5 _ x1).trans (F2 _ x2)) (hShp q hq)
    · exact isL_eq ((F5 13 rfl).trans (F2 13 rfl)) h13
    · exact isL_eq ((F5 14 rfl).trans (F2 14 rfl)) h14
  have FR : Fr xRT σ (up σ5 3 (rdO 0 (Xk (XB b l) 0) 0 none pl)) := fun j hj => by
    have hj := xRT_o hj
    have x1 : xSD j = false := by
      have a1 : (j == 4) = false := by simp; omega
      have a2 : (j == 11) = false := by simp; omega
      have a3 : (j == 12) = false := by simp; omega
      simp only [xSD, a1, a2, a3, Bool.or_false]
    have x2 : xTk j = false := by
      have a1 : (j == 15) = false := by simp; omega
      have a2 : (j == 17) = false := by simp; omega
      have a3 : (j == 18) = false := by simp; omega
      have a4 : (j == 19) = false := by simp; omega
      have a5 : (j == 20) = false := by simp; omega
      simp only [xTk, a1, a2, a3, a4, a5, Bool.or_false]
    exact (up_ne _ _ (by omega)).trans ((F5 j x1).trans (F2 j x2))
  have W5 : RdW (XB b l) 0 0 8 0 0 0 y00 none (up σ5 3 (rdO 0 (Xk (XB b l) 0) 0 none pl)) := ⟨⟨pl, up_same _ _ _⟩, (up_ne _ _ (by decide)).trans b4, by decide, by decide, by decide, by decide, shp_eq S5 (fun j _ _ => up_ne _ _ (by omega)), tkx_eq T5 (fun j _ _ => up_ne _ _ (by omega)), by decide, fun i hi => absurd hi (Nat.not_lt_zero i), by decide⟩
  obtain ⟨gc, hgc⟩ := S5.2.1
  obtain ⟨gh, hgh⟩ := S5.2.2
  have R5 : RdG (XB b l) G0 8 (up σ5 3 (rdO 0 (Xk (XB b l) 0) 0 none pl)) := ⟨(fun q e => by cases e), by decide, gc, gh, y00, W5, (up_ne _ _ (by decide)).trans hgc, (up_ne _ _ (by decide)).trans hgh, fun _ => ⟨dr0 ((up_ne _ _ (by decide)).trans b11) ((up_ne _ _ (by decide)).trans b12), fun i hi => absurd hi (Nat.not_lt_zero i), fun i hi => absurd hi (Nat.not_lt_zero i), rfl, rfl, rfl, rfl⟩⟩
  have e16 : (up σ5 3 (rdO 0 (Xk (XB b l) 0) 0 none pl)) 16 = arrL 23 kwL := (up_ne _ _ (by decide)).trans ((F5 16 rfl).trans ((F2 16 rfl).trans h16))
  have xDR : ∀ j, xD j = true → xRT j = true := fun j hj => by
    unfold xD at hj
    simp only [Bool.and_eq_true, Nat.ble_eq] at hj
    exact xRT_i (by omega)
  have x3R : ∀ j, x3 j = true → xRT j = true := fun j hj => by
    simp only [x3, beq_iff_eq] at hj
    exact xRT_i (by omega)
  refine wq_lv ⟨(by decide : ([1, 0] : List Nat).Nodup), (lvm (List.mem_of_getElem? (i := 0) rfl) (lvm (List.mem_of_getElem? (i := 1) rfl) lvn))⟩ (c_tape_l (d := d) (xb_v b l) (fun G' sc' σ' e F R => ?_) (fun f' t' σ' e F R => ?_) 401 0 G0 8 _ (by decide) (by decide) (fr_refl _ _) R5 rfl)
  · obtain ⟨hL, hop, gc', gh', y', W, g1, g2, hC⟩ := R
    refine c_tp_ok W (fun σ'' F' e3 W' => ?_)
    cases hw : Gw G' with
    | none =>
      rw [hw] at e3 W'
      have hx : readX (XB b l) = (0, -1, GP G') := by
        unfold readX
        rw [e]
        simp only [hw]
      refine K0 G' sc' σ'' hx hw (fr_trans FR (fr_trans (fr_mono F xDR) (fr_mono F' x3R))) (rd_is W' e3 ((F' 16 rfl).trans ((F 16 rfl).trans e16))) ⟨(by rw [hw]; exact fun q e => (by cases e)), hop, gc', gh', y', (by rw [hw]; exact W'), (F' 13 rfl).trans g1, (F' 14 rfl).trans g2, fun h => ?_⟩
      obtain ⟨⟨c1, c2, c3, c4, c5, c6, c7, c8⟩, n1⟩ := hC hw
      refine ⟨⟨fun i hi => (ag_eq (F' 5 rfl) i).trans (c1 i hi), fun i hi => (ag_eq (F' 6 rfl) i).trans (c2 i hi), fun i hi => (ag_eq (F' 7 rfl) i).trans (c3 i hi), fun i hi => (ag_eq (F' 8 rfl) i).trans (c4 i hi), fun i hi => (ag_eq (F' 9 rfl) i).trans (c5 i hi), fun i hi => (ag_eq (F' 10 rfl) i).trans (c6 i hi), fun l hl => ?_, c8⟩, n1⟩
      obtain ⟨s', s1, s2⟩ := c7 l hl
      exact ⟨s', (ag_eq (F' 12 rfl) l).trans s1, fun g' hg => s2 g' (fun i hi => (hg i hi).trans (ag_eq (F' 11 rfl) i))⟩
    | some q =>
      rw [hw] at e3 W'
      have hx : readX (XB b l) = (q.1, nI q.2, P0) := by
        unfold readX
        rw [e]
        simp only [hw]
      have hq := hL q hw
      exact K1 σ'' q.1 (nI q.2) hx hq.1 (by omega) (fr_trans FR (fr_trans (fr_mono F xDR) (fr_mono F' x3R))) (rd_is W' e3 ((F' 16 rfl).trans ((F 16 rfl).trans e16)))
  · obtain ⟨hf0, sc2, nc2, nh2, nv2, y2, w2, W⟩ := R
    refine c_tp_bad W hf0 (fun σ'' F' e3 W' => ?_)
    have hx : readX (XB b l) = (f', nI (Xp (XB b l) t'), P0) := by
      unfold readX
      rw [e]
      rfl
    exact K1 σ'' f' _ hx hf0 W'.2.2.2.2.2.2.2.2.2.2 (fr_trans FR (fr_trans (fr_mono F xDR) (fr_mono F' x3R))) (rd_is W' e3 ((F' 16 rfl).trans ((F 16 rfl).trans e16)))
