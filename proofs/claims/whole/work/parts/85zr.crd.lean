/-! READ, BY THE CLASS -/
def x1 : Nat → Bool := fun j => j == 1
def xCP : Nat → Bool := fun j => Nat.ble 21 j && Nat.ble j 29
theorem xCP_f {j : Nat} (h : j < 21 ∨ 29 < j) : xCP j = false := by
  unfold xCP
  rcases Nat.lt_or_ge j 21 with q | q
  · rw [ble_f q]; rfl
  · rw [show Nat.ble j 29 = false from ble_f (by omega)]; simp
/-- what reading makes of the system -/
def readA (A : Sy) : Sy := if (readX (XB (Ab A) (Al A))).1 = 0 then ((readX (XB (Ab A) (Al A))).2.2, begS (readX (XB (Ab A) (Al A))).2.2, AH A, 0, AZ A, 0, (0, Tc (AT A), Tt (AT A), Ta (AT A), Ts (AT A)), Ab A, 0, (readX (XB (Ab A) (Al A))).2.1) else (AP A, AS A, AH A, An A, AZ A, Ah A, AT A, Ab A, 0, (readX (XB (Ab A) (Al A))).2.1)
theorem ag_to {σ σ' : Nat → List Value} {p q : Nat} (e : σ' q = σ p) : ag σ' q = ag σ p := by
  funext i
  unfold ag
  rw [e]
theorem isA_to {σ σ' : Nat → List Value} {p q n : Nat} (e : σ' q = σ p) (h : IsA σ p n) : IsA σ' q n := by
  unfold IsA at h
  exact isA_of (e.trans h)
theorem c_tpClear {xs : List Int32} {d : Nat} {σ : Nat → List Value} {Q : Option Value → (Nat → List Value) → Prop} {l : Nat} (h1 : σ 1 = [.ref 2, .int (nI l)])  (K : ∀ σ', Fr x1 σ σ' → σ' 1 = [.ref 2, .int (nI 0)] → Q none σ') : Wq xs (d + 0) ax_cd74 0 [(0, .ref 1)] [] σ Q := by
  refine wq_go rfl (fun _ => rfl) ?_
  refine wq_cN (m := 0) rfl rfl ?_
  refine wq_putf rfl (by first | rfl | assumption) (by first | decide | omega | assumption) h1 rfl rfl rfl (by first | exact Nat.le_of_ble_eq_true rfl | (simp; done)) ?_
  refine wq_end rfl (fun _ => rfl) ?_
  exact K _ (fr_up (fr_refl _ _) rfl) (up_same _ _ _)
theorem c_draft {xs : List Int32} {d : Nat} {σ : Nat → List Value} {Q : Option Value → (Nat → List Value) → Prop} {pl : Int32} {x0 x1 x2 x3 x4 : Int32} (h3 : σ 3 = [.ref 15, .ref 4, .ref 13, .ref 14, .int x0, .int x1, .int x2, .int x3, .int x4, .int pl])  (K : Q (some (.ref 4)) σ) : Wq xs (d + 0) ax_cd75 0 [(0, .ref 3)] [] σ Q := by
  refine wq_go rfl (fun _ => rfl) ?_
  refine wq_getf rfl (by first | rfl | assumption) (by first | decide | omega | assumption) h3 rfl ?_
  refine wq_end rfl (fun _ => rfl) ?_
  exact K
theorem c_copyPl {xs : List Int32} {d : Nat} {σ : Nat → List Value} {Q : Option Value → (Nat → List Value) → Prop} {sc nc nh nv : Nat} {y : Nat → Int32} {z : Value} {m0 m1 m2 m3 m4 m5 m6 : Int32} (h4 : σ 4 = drO sc nc nh nv y) (hsh : Shp σ) (h21 : σ 21 = [.ref 22, .ref 23, .ref 24, .ref 25, .ref 26, .ref 27, .ref 28, .ref 29, z, .int m0, .int m1, .int m2, .int m3, .int m4, .int m5, .int m6]) (i22 : IsA σ 22 4) (i23 : IsA σ 23 5) (i24 : IsA σ 24 20) (i25 : IsA σ 25 10) (i26 : IsA σ 26 10) (i27 : IsA σ 27 10) (i28 : IsA σ 28 408) (i29 : IsA σ 29 4)  (K : ∀ σ', Fr xCP σ σ' → σ' 21 = [.ref 22, .ref 23, .ref 24, .ref 25, .ref 26, .ref 27, .ref 28, .ref 29, .int (nI sc), .int (nI nc), .int (nI nh), .int (nI nv), .int (y 4), .int (y 5), .int (y 6), .int (y 7)] → σ' 22 = σ 5 → σ' 23 = σ 6 → σ' 24 = σ 7 → σ' 25 = σ 8 → σ' 26 = σ 9 → σ' 27 = σ 10 → σ' 28 = σ 11 → σ' 29 = σ 12 → Q none σ') : Wq xs (d + 0) ax_cd76 0 [(0, .ref 21), (1, .ref 4)] [] σ Q := by
  refine wq_go rfl (fun _ => rfl) ?_
  refine wq_getf rfl (by first | rfl | assumption) (by first | decide | omega | assumption) h4 rfl ?_
  refine wq_cN (m := 0) rfl rfl ?_
  refine wq_go rfl (fun _ => rfl) ?_
  refine wq_getf rfl (by first | rfl | assumption) (by first | decide | omega | assumption) h21 rfl ?_
  refine wq_cN (m := 0) rfl rfl ?_
  refine wq_cN (m := 4) rfl rfl ?_
  refine wq_copy rfl (by first | rfl | assumption) (by first | decide | omega | assumption) (shp_g hsh (by decide) : IsA σ 5 4) (by first | rfl | assumption) (by first | decide | omega | assumption) (i22 : IsA σ 22 4) (by rw [arr_len]) (by rw [arr_len, arr_len]) (by rw [arr_len]; decide) (by decide) ?_
  refine wq_go rfl (fun _ => rfl) ?_
  refine wq_getf rfl (by first | rfl | assumption) (by first | decide | omega | assumption) ((up_ne _ _ (by decide)).trans h4) rfl ?_
  refine wq_cN (m := 0) rfl rfl ?_
  refine wq_go rfl (fun _ => rfl) ?_
  refine wq_getf rfl (by first | rfl | assumption) (by first | decide | omega | assumption) ((up_ne _ _ (by decide)).trans h21) rfl ?_
  refine wq_cN (m := 0) rfl rfl ?_
  refine wq_cN (m := 5) rfl rfl ?_
  refine wq_copy rfl (by first | rfl | assumption) (by first | decide | omega | assumption) ((up_ne _ _ (by decide)).trans (shp_g hsh (by decide) : IsA σ 6 5)) (by first | rfl | assumption) (by first | decide | omega | assumption) ((up_ne _ _ (by decide)).trans (i23 : IsA σ 23 5)) (by rw [arr_len]) (by rw [arr_len, arr_len]) (by rw [arr_len]; decide) (by decide) ?_
  refine wq_go rfl (fun _ => rfl) ?_
  refine wq_getf rfl (by first | rfl | assumption) (by first | decide | omega | assumption) ((up_ne _ _ (by decide)).trans ((up_ne _ _ (by decide)).trans h4)) rfl ?_
  refine wq_cN (m := 0) rfl rfl ?_
  refine wq_go rfl (fun _ => rfl) ?_
  refine wq_getf rfl (by first | rfl | assumption) (by first | decide | omega | assumption) ((up_ne _ _ (by decide)).trans ((up_ne _ _ (by decide)).trans h21)) rfl ?_
  refine wq_cN (m := 0) rfl rfl ?_
  refine wq_cN (m := 20) rfl rfl ?_
  refine wq_copy rfl (by first | rfl | assumption) (by first | decide | omega | assumption) ((up_ne _ _ (by decide)).trans ((up_ne _ _ (by decide)).trans (shp_g hsh (by decide) : IsA σ 7 20))) (by first | rfl | assumption) (by first | decide | omega | assumption) ((up_ne _ _ (by decide)).trans ((up_ne _ _ (by decide)).trans (i24 : IsA σ 24 20))) (by rw [arr_len]) (by rw [arr_len, arr_len]) (by rw [arr_len]; decide) (by decide) ?_
  refine wq_go rfl (fun _ => rfl) ?_
  refine wq_getf rfl (by first | rfl | assumption) (by first | decide | omega | assumption) ((up_ne _ _ (by decide)).trans ((up_ne _ _ (by decide)).trans ((up_ne _ _ (by decide)).trans h4))) rfl ?_
  refine wq_cN (m := 0) rfl rfl ?_
  refine wq_go rfl (fun _ => rfl) ?_
  refine wq_getf rfl (by first | rfl | assumption) (by first | decide | omega | assumption) ((up_ne _ _ (by decide)).trans ((up_ne _ _ (by decide)).trans ((up_ne _ _ (by decide)).trans h21))) rfl ?_
  refine wq_cN (m := 0) rfl rfl ?_
  refine wq_cN (m := 10) rfl rfl ?_
  refine wq_copy rfl (by first | rfl | assumption) (by first | decide | omega | assumption) ((up_ne _ _ (by decide)).trans ((up_ne _ _ (by decide)).trans ((up_ne _ _ (by decide)).trans (shp_g hsh (by decide) : IsA σ 8 10)))) (by first | rfl | assumption) (by first | decide | omega | assumption) ((up_ne _ _ (by decide)).trans ((up_ne _ _ (by decide)).trans ((up_ne _ _ (by decide)).trans (i25 : IsA σ 25 10)))) (by rw [arr_len]) (by rw [arr_len, arr_len]) (by rw [arr_len]; decide) (by decide) ?_
  refine wq_go rfl (fun _ => rfl) ?_
  refine wq_getf rfl (by first | rfl | assumption) (by first | decide | omega | assumption) ((up_ne _ _ (by decide)).trans ((up_ne _ _ (by decide)).trans ((up_ne _ _ (by decide)).trans ((up_ne _ _ (by decide)).trans h4)))) rfl ?_
  refine wq_cN (m := 0) rfl rfl ?_
  refine wq_go rfl (fun _ => rfl) ?_
  refine wq_getf rfl (by first | rfl | assumption) (by first | decide | omega | assumption) ((up_ne _ _ (by decide)).trans ((up_ne _ _ (by decide)).trans ((up_ne _ _ (by decide)).trans ((up_ne _ _ (by decide)).trans h21)))) rfl ?_
  refine wq_cN (m := 0) rfl rfl ?_
  refine wq_cN (m := 10) rfl rfl ?_
  refine wq_copy rfl (by first | rfl | assumption) (by first | decide | omega | assumption) ((up_ne _ _ (by decide)).trans ((up_ne _ _ (by decide)).trans ((up_ne _ _ (by decide)).trans ((up_ne _ _ (by decide)).trans (shp_g hsh (by decide) : IsA σ 9 10))))) (by first | rfl | assumption) (by first | decide | omega | assumption) ((up_ne _ _ (by decide)).trans ((up_ne _ _ (by decide)).trans ((up_ne _ _ (by decide)).trans ((up_ne _ _ (by decide)).trans (i26 : IsA σ 26 10))))) (by rw [arr_len]) (by rw [arr_len, arr_len]) (by rw [arr_len]; decide) (by decide) ?_
  refine wq_go rfl (fun _ => rfl) ?_
  refine wq_getf rfl (by first | rfl | assumption) (by first | decide | omega | assumption) ((up_ne _ _ (by decide)).trans ((up_ne _ _ (by decide)).trans ((up_ne _ _ (by decide)).trans ((up_ne _ _ (by decide)).trans ((up_ne _ _ (by decide)).trans h4))))) rfl ?_
  refine wq_cN (m := 0) rfl rfl ?_
  refine wq_go rfl (fun _ => rfl) ?_
  refine wq_getf rfl (by first | rfl | assumption) (by first | decide | omega | assumption) ((up_ne _ _ (by decide)).trans ((up_ne _ _ (by decide)).trans ((up_ne _ _ (by decide)).trans ((up_ne _ _ (by decide)).trans ((up_ne _ _ (by decide)).trans h21))))) rfl ?_
  refine wq_cN (m := 0) rfl rfl ?_
  refine wq_cN (m := 10) rfl rfl ?_
  refine wq_copy rfl (by first | rfl | assumption) (by first | decide | omega | assumption) ((up_ne _ _ (by decide)).trans ((up_ne _ _ (by decide)).trans ((up_ne _ _ (by decide)).trans ((up_ne _ _ (by decide)).trans ((up_ne _ _ (by decide)).trans (shp_g hsh (by decide) : IsA σ 10 10)))))) (by first | rfl | assumption) (by first | decide | omega | assumption) ((up_ne _ _ (by decide)).trans ((up_ne _ _ (by decide)).trans ((up_ne _ _ (by decide)).trans ((up_ne _ _ (by decide)).trans ((up_ne _ _ (by decide)).trans (i27 : IsA σ 27 10)))))) (by rw [arr_len]) (by rw [arr_len, arr_len]) (by rw [arr_len]; decide) (by decide) ?_
  refine wq_go rfl (fun _ => rfl) ?_
  refine wq_getf rfl (by first | rfl | assumption) (by first | decide | omega | assumption) ((up_ne _ _ (by decide)).trans ((up_ne _ _ (by decide)).trans ((up_ne _ _ (by decide)).trans ((up_ne _ _ (by decide)).trans ((up_ne _ _ (by decide)).trans ((up_ne _ _ (by decide)).trans h4)))))) rfl ?_
  refine wq_cN (m := 0) rfl rfl ?_
  refine wq_go rfl (fun _ => rfl) ?_
  refine wq_getf rfl (by first | rfl | assumption) (by first | decide | omega | assumption) ((up_ne _ _ (by decide)).trans ((up_ne _ _ (by decide)).trans ((up_ne _ _ (by decide)).trans ((up_ne _ _ (by decide)).trans ((up_ne _ _ (by decide)).trans ((up_ne _ _ (by decide)).trans h21)))))) rfl ?_
  refine wq_cN (m := 0) rfl rfl ?_
  refine wq_cN (m := 408) rfl rfl ?_
  refine wq_copy rfl (by first | rfl | assumption) (by first | decide | omega | assumption) ((up_ne _ _ (by decide)).trans ((up_ne _ _ (by decide)).trans ((up_ne _ _ (by decide)).trans ((up_ne _ _ (by decide)).trans ((up_ne _ _ (by decide)).trans ((up_ne _ _ (by decide)).trans (shp_g hsh (by decide) : IsA σ 11 408))))))) (by first | rfl | assumption) (by first | decide | omega | assumption) ((up_ne _ _ (by decide)).trans ((up_ne _ _ (by decide)).trans ((up_ne _ _ (by decide)).trans ((up_ne _ _ (by decide)).trans ((up_ne _ _ (by decide)).trans ((up_ne _ _ (by decide)).trans (i28 : IsA σ 28 408))))))) (by rw [arr_len]) (by rw [arr_len, arr_len]) (by rw [arr_len]; decide) (by decide) ?_
  refine wq_go rfl (fun _ => rfl) ?_
  refine wq_getf rfl (by first | rfl | assumption) (by first | decide | omega | assumption) ((up_ne _ _ (by decide)).trans ((up_ne _ _ (by decide)).trans ((up_ne _ _ (by decide)).trans ((up_ne _ _ (by decide)).trans ((up_ne _ _ (by decide)).trans ((up_ne _ _ (by decide)).trans ((up_ne _ _ (by decide)).trans h4))))))) rfl ?_
  refine wq_cN (m := 0) rfl rfl ?_
  refine wq_go rfl (fun _ => rfl) ?_
  refine wq_getf rfl (by first | rfl | assumption) (by first | decide | omega | assumption) ((up_ne _ _ (by decide)).trans ((up_ne _ _ (by decide)).trans ((up_ne _ _ (by decide)).trans ((up_ne _ _ (by decide)).trans ((up_ne _ _ (by decide)).trans ((up_ne _ _ (by decide)).trans ((up_ne _ _ (by decide)).trans h21))))))) rfl ?_
  refine wq_cN (m := 0) rfl rfl ?_
  refine wq_cN (m := 4) rfl rfl ?_
  refine wq_copy rfl (by first | rfl | assumption) (by first | decide | omega | assumption) ((up_ne _ _ (by decide)).trans ((up_ne _ _ (by decide)).trans ((up_ne _ _ (by decide)).trans ((up_ne _ _ (by decide)).trans ((up_ne _ _ (by decide)).trans ((up_ne _ _ (by decide)).trans ((up_ne _ _ (by decide)).trans (shp_g hsh (by decide) : IsA σ 12 4)))))))) (by first | rfl | assumption) (by first | decide | omega | assumption) ((up_ne _ _ (by decide)).trans ((up_ne _ _ (by decide)).trans ((up_ne _ _ (by decide)).trans ((up_ne _ _ (by decide)).trans ((up_ne _ _ (by decide)).trans ((up_ne _ _ (by decide)).trans ((up_ne _ _ (by decide)).trans (i29 : IsA σ 29 4)))))))) (by rw [arr_len]) (by rw [arr_len, arr_len]) (by rw [arr_len]; decide) (by decide) ?_
  refine wq_go rfl (fun _ => rfl) ?_
  refine wq_go rfl (fun _ => rfl) ?_
  refine wq_getf rfl (by first | rfl | assumption) (by first | decide | omega | assumption) ((up_ne _ _ (by decide)).trans ((up_ne _ _ (by decide)).trans ((up_ne _ _ (by decide)).trans ((up_ne _ _ (by decide)).trans ((up_ne _ _ (by decide)).trans ((up_ne _ _ (by decide)).trans ((up_ne _ _ (by decide)).trans ((up_ne _ _ (by decide)).trans h4)))))))) rfl ?_
  refine wq_putf rfl (by first | rfl | assumption) (by first | decide | omega | assumption) ((up_ne _ _ (by decide)).trans ((up_ne _ _ (by decide)).trans ((up_ne _ _ (by decide)).trans ((up_ne _ _ (by decide)).trans ((up_ne _ _ (by decide)).trans ((up_ne _ _ (by decide)).trans ((up_ne _ _ (by decide)).trans ((up_ne _ _ (by decide)).trans h21)))))))) rfl rfl rfl (by first | exact Nat.le_of_ble_eq_true rfl | (simp; done)) ?_
  refine wq_go rfl (fun _ => rfl) ?_
  refine wq_go rfl (fun _ => rfl) ?_
  refine wq_getf rfl (by first | rfl | assumption) (by first | decide | omega | assumption) ((up_ne _ _ (by decide)).trans ((up_ne _ _ (by decide)).trans ((up_ne _ _ (by decide)).trans ((up_ne _ _ (by decide)).trans ((up_ne _ _ (by decide)).trans ((up_ne _ _ (by decide)).trans ((up_ne _ _ (by decide)).trans ((up_ne _ _ (by decide)).trans ((up_ne _ _ (by decide)).trans h4))))))))) rfl ?_
  refine wq_putf rfl (by first | rfl | assumption) (by first | decide | omega | assumption) (up_same _ _ _) rfl rfl rfl (by first | exact Nat.le_of_ble_eq_true rfl | (simp; done)) ?_
  rw [up_up]
  refine wq_go rfl (fun _ => rfl) ?_
  refine wq_go rfl (fun _ => rfl) ?_
  refine wq_getf rfl (by first | rfl | assumption) (by first | decide | omega | assumption) ((up_ne _ _ (by decide)).trans ((up_ne _ _ (by decide)).trans ((up_ne _ _ (by decide)).trans ((up_ne _ _ (by decide)).trans ((up_ne _ _ (by decide)).trans ((up_ne _ _ (by decide)).trans ((up_ne _ _ (by decide)).trans ((up_ne _ _ (by decide)).trans ((up_ne _ _ (by decide)).trans h4))))))))) rfl ?_
  refine wq_putf rfl (by first | rfl | assumption) (by first | decide | omega | assumption) (up_same _ _ _) rfl rfl rfl (by first | exact Nat.le_of_ble_eq_true rfl | (simp; done)) ?_
  rw [up_up]
  refine wq_go rfl (fun _ => rfl) ?_
  refine wq_go rfl (fun _ => rfl) ?_
  refine wq_getf rfl (by first | rfl | assumption) (by first | decide | omega | assumption) ((up_ne _ _ (by decide)).trans ((up_ne _ _ (by decide)).trans ((up_ne _ _ (by decide)).trans ((up_ne _ _ (by decide)).trans ((up_ne _ _ (by decide)).trans ((up_ne _ _ (by decide)).trans ((up_ne _ _ (by decide)).trans ((up_ne _ _ (by decide)).trans ((up_ne _ _ (by decide)).trans h4))))))))) rfl ?_
  refine wq_putf rfl (by first | rfl | assumption) (by first | decide | omega | assumption) (up_same _ _ _) rfl rfl rfl (by first | exact Nat.le_of_ble_eq_true rfl | (simp; done)) ?_
  rw [up_up]
  refine wq_go rfl (fun _ => rfl) ?_
  refine wq_go rfl (fun _ => rfl) ?_
  refine wq_getf rfl (by first | rfl | assumption) (by first | decide | omega | assumption) ((up_ne _ _ (by decide)).trans ((up_ne _ _ (by decide)).trans ((up_ne _ _ (by decide)).trans ((up_ne _ _ (by decide)).trans ((up_ne _ _ (by decide)).trans ((up_ne _ _ (by decide)).trans ((up_ne _ _ (by decide)).trans ((up_ne _ _ (by decide)).trans ((up_ne _ _ (by decide)).trans h4))))))))) rfl ?_
  refine wq_putf rfl (by first | rfl | assumption) (by first | decide | omega | assumption) (up_same _ _ _) rfl rfl rfl (by first | exact Nat.le_of_ble_eq_true rfl | (simp; done)) ?_
  rw [up_up]
  refine wq_go rfl (fun _ => rfl) ?_
  refine wq_go rfl (fun _ => rfl) ?_
  refine wq_getf rfl (by first | rfl | assumption) (by first | decide | omega | assumption) ((up_ne _ _ (by decide)).trans ((up_ne _ _ (by decide)).trans ((up_ne _ _ (by decide)).trans ((up_ne _ _ (by decide)).trans ((up_ne _ _ (by decide)).trans ((up_ne _ _ (by decide)).trans ((up_ne _ _ (by decide)).trans ((up_ne _ _ (by decide)).trans ((up_ne _ _ (by decide)).trans h4))))))))) rfl ?_
  refine wq_putf rfl (by first | rfl | assumption) (by first | decide | omega | assumption) (up_same _ _ _) rfl rfl rfl (by first | exact Nat.le_of_ble_eq_true rfl | (simp; done)) ?_
  rw [up_up]
  refine wq_go rfl (fun _ => rfl) ?_
  refine wq_go rfl (fun _ => rfl) ?_
  refine wq_getf rfl (by first | rfl | assumption) (by first | decide | omega | assumption) ((up_ne _ _ (by decide)).trans ((up_ne _ _ (by decide)).trans ((up_ne _ _ (by decide)).trans ((up_ne _ _ (by decide)).trans ((up_ne _ _ (by decide)).trans ((up_ne _ _ (by decide)).trans ((up_ne _ _ (by decide)).trans ((up_ne _ _ (by decide)).trans ((up_ne _ _ (by decide)).trans h4))))))))) rfl ?_
  refine wq_putf rfl (by first | rfl | assumption) (by first | decide | omega | assumption) (up_same _ _ _) rfl rfl rfl (by first | exact Nat.le_of_ble_eq_true rfl | (simp; done)) ?_
  rw [up_up]
  refine wq_go rfl (fun _ => rfl) ?_
  refine wq_go rfl (fun _ => rfl) ?_
  refine wq_getf rfl (by first | rfl | assumption) (by first | decide | omega | assumption) ((up_ne _ _ (by decide)).trans ((up_ne _ _ (by decide)).trans ((up_ne _ _ (by decide)).trans ((up_ne _ _ (by decide)).trans ((up_ne _ _ (by decide)).trans ((up_ne _ _ (by decide)).trans ((up_ne _ _ (by decide)).trans ((up_ne _ _ (by decide)).trans ((up_ne _ _ (by decide)).trans h4))))))))) rfl ?_
  refine wq_putf rfl (by first | rfl | assumption) (by first | decide | omega | assumption) (up_same _ _ _) rfl rfl rfl (by first | exact Nat.le_of_ble_eq_true rfl | (simp; done)) ?_
  rw [up_up]
  refine wq_end rfl (fun _ => rfl) ?_
  exact K _ (fr_up (fr_up (fr_up (fr_up (fr_up (fr_up (fr_up (fr_up (fr_up (fr_refl _ _) rfl) rfl) rfl) rfl) rfl) rfl) rfl) rfl) rfl) (up_same _ _ _) (((up_ne _ _ (by decide)).trans ((up_ne _ _ (by decide)).trans ((up_ne _ _ (by decide)).trans ((up_ne _ _ (by decide)).trans ((up_ne _ _ (by decide)).trans ((up_ne _ _ (by decide)).trans ((up_ne _ _ (by decide)).trans ((up_ne _ _ (by decide)).trans (up_same _ _ _))))))))).trans (shp_g hsh (by decide) : IsA σ 5 4).symm) (((up_ne _ _ (by decide)).trans ((up_ne _ _ (by decide)).trans ((up_ne _ _ (by decide)).trans ((up_ne _ _ (by decide)).trans ((up_ne _ _ (by decide)).trans ((up_ne _ _ (by decide)).trans ((up_ne _ _ (by decide)).trans (up_same _ _ _)))))))).trans (shp_g hsh (by decide) : IsA σ 6 5).symm) (((up_ne _ _ (by decide)).trans ((up_ne _ _ (by decide)).trans ((up_ne _ _ (by decide)).trans ((up_ne _ _ (by decide)).trans ((up_ne _ _ (by decide)).trans ((up_ne _ _ (by decide)).trans (up_same _ _ _))))))).trans (shp_g hsh (by decide) : IsA σ 7 20).symm) (((up_ne _ _ (by decide)).trans ((up_ne _ _ (by decide)).trans ((up_ne _ _ (by decide)).trans ((up_ne _ _ (by decide)).trans ((up_ne _ _ (by decide)).trans (up_same _ _ _)))))).trans (shp_g hsh (by decide) : IsA σ 8 10).symm) (((up_ne _ _ (by decide)).trans ((up_ne _ _ (by decide)).trans ((up_ne _ _ (by decide)).trans ((up_ne _ _ (by decide)).trans (up_same _ _ _))))).trans (shp_g hsh (by decide) : IsA σ 9 10).symm) (((up_ne _ _ (by decide)).trans ((up_ne _ _ (by decide)).trans ((up_ne _ _ (by decide)).trans (up_same _ _ _)))).trans (shp_g hsh (by decide) : IsA σ 10 10).symm) (((up_ne _ _ (by decide)).trans ((up_ne _ _ (by decide)).trans (up_same _ _ _))).trans (shp_g hsh (by decide) : IsA σ 11 408).symm) (((up_ne _ _ (by decide)).trans (up_same _ _ _)).trans (shp_g hsh (by decide) : IsA σ 12 4).symm)
theorem cw_new {P : Pl} {X : Tx} {G : Gs} {sc : Nat} {y : Nat → Int32} {gc gh : Nat → Int64} {σ0 σ σ' : Nat → List Value} (h : CW P σ) (hC : RdC G sc gc gh y σ0) (hF0 : ∀ j, 5 ≤ j → j ≤ 12 → σ j = σ0 j) (hsh : Shp σ) (hF : Fr xCP σ σ') (h21 : σ' 21 = [.ref 22, .ref 23, .ref 24, .ref 25, .ref 26, .ref 27, .ref 28, .ref 29, .int (nI sc), .int (nI (Pch (GP G))), .int (nI (Phd (GP G))), .int (nI (Pvs (GP G))), .int (y 4), .int (y 5), .int (y 6), .int (y 7)]) (e5 : σ' 22 = σ 5) (e6 : σ' 23 = σ 6) (e7 : σ' 24 = σ 7) (e8 : σ' 25 = σ 8) (e9 : σ' 26 = σ 9) (e10 : σ' 27 = σ 10) (e11 : σ' 28 = σ 11) (e12 : σ' 29 = σ 12) : CW (GP G) σ' := by
  obtain ⟨⟨c1, c2, c3, c4, c5, c6, c7, c8⟩, _, _, y4, y5, y6, y7⟩ := hC
  have o : ∀ j, j < 21 ∨ 29 < j → σ' j = σ j := fun j hj => hF j (xCP_f hj)
  refine ⟨(o 0 (by omega)).trans (cw_c0 h), ?_, isA_to e5 (shp_g hsh (by decide)), ?_, isA_to e6 (shp_g hsh (by decide)), ?_, isA_to e7 (shp_g hsh (by decide)), ?_, isA_to e8 (shp_g hsh (by decide)), ?_, isA_to e9 (shp_g hsh (by decide)), ?_, isA_to e10 (shp_g hsh (by decide)), ?_, isA_to e11 (shp_g hsh (by decide)), isA_to e12 (shp_g hsh (by decide)), ?_, (o 30 (by omega)).trans (cw_c30 h), (o 32 (by omega)).trans (cw_c32 h), (o 40 (by omega)).trans (cw_c40 h), (o 46 (by omega)).trans (cw_c46 h), c8, isA_eq (o 31 (by omega)) (cw_c31 h), isA_eq (o 33 (by omega)) (cw_c33 h), isA_eq (o 34 (by omega)) (cw_c34 h), isA_eq (o 47 (by omega)) (cw_c47 h)⟩
  · rw [h21, y4, y5, y6, y7]
    rfl
  · rw [ag_to e5, ag_fun (hF0 5 (by omega) (by omega))]; exact c1
  · rw [ag_to e6, ag_fun (hF0 6 (by omega) (by omega))]; exact c2
  · rw [ag_to e7, ag_fun (hF0 7 (by omega) (by omega))]; exact c3
  · rw [ag_to e8, ag_fun (hF0 8 (by omega) (by omega))]; exact c4
  · rw [ag_to e9, ag_fun (hF0 9 (by omega) (by omega))]; exact c5
  · rw [ag_to e10, ag_fun (hF0 10 (by omega) (by omega))]; exact c6
  · intro l hl
    obtain ⟨s, s1, s2⟩ := c7 l hl
    rw [ag_to e11, ag_to e12, ag_fun (hF0 11 (by omega) (by omega)), ag_fun (hF0 12 (by omega) (by omega))]
    exact ⟨s, s1, s2 _ (fun _ _ => rfl)⟩
theorem c_read {xs : List Int32} {d : Nat} {σ : Nat → List Value} {Q : Option Value → (Nat → List Value) → Prop} {A : Sy} (hI : CI A σ) (hAl : Al A ≤ 2000)  (K : ∀ σ', Hi σ σ' → CI (readA A) σ' → Q (some (.int (nI (readX (XB (Ab A) (Al A))).1))) σ') : Wq xs (d + 25) ax_cd30 0 [(0, .ref 0)] [] σ Q := by
  have hI0 := hI
  obtain ⟨hC, hS, ⟨S41, h41⟩, hSts, hHs, ⟨nx, hyI⟩, hSl, ⟨ft, t1, t2, t3⟩, hRd⟩ := hI0
  obtain ⟨hy1, hy2, hy3, hy4, hy5⟩ := id hyI
  obtain ⟨sl1, sl2, sl3, sl4⟩ := id hSl
  refine wq_go rfl (fun _ => rfl) ?_
  refine wq_getf rfl (by first | rfl | assumption) (by first | decide | omega | assumption) (cw_c0 hC) rfl ?_
  refine wq_callV rfl rfl (by first | rfl | assumption) (by first | decide | omega | assumption) (Nat.le_of_ble_eq_true rfl) (Nat.le_of_ble_eq_true rfl) rfl rfl ?_
  refine c_readTape t1 t2 t3 hAl hRd (fun G sc σ2 hx hw F2 R2 D2 => ?_) (fun σ2 f p hx hf0 hf9 F2 R2 => ?_)
  · skip
    obtain ⟨⟨z0, z1, z2, z3, z4, r3⟩, _⟩ := id R2
    refine wq_go rfl (fun _ => rfl) ?_
    refine wq_go rfl (fun _ => rfl) ?_
    refine wq_getf rfl (by first | rfl | assumption) (by first | decide | omega | assumption) ((F2 0 rfl).trans (cw_c0 hC)) rfl ?_
    refine wq_callV rfl rfl (by first | rfl | assumption) (by first | decide | omega | assumption) (Nat.le_of_ble_eq_true rfl) (Nat.le_of_ble_eq_true rfl) rfl rfl ?_
    refine c_tpClear ((F2 1 rfl).trans t1) (fun σ3 F3 e1 => ?_)
    refine wq_go rfl (fun _ => rfl) ?_
    refine wq_zne rfl (by first | omega | decide | exact Nat.lt_of_le_of_lt Nat.and_le_right (by decide) | exact ⟨by omega, by omega⟩) (fun c => absurd c (by omega)) (fun c8 => ?_)
    refine wq_go rfl (fun _ => rfl) ?_
    refine wq_getf rfl (by first | rfl | assumption) (by first | decide | omega | assumption) ((F3 0 rfl).trans ((F2 0 rfl).trans (cw_c0 hC))) rfl ?_
    refine wq_go rfl (fun _ => rfl) ?_
    refine wq_getf rfl (by first | rfl | assumption) (by first | decide | omega | assumption) ((F3 0 rfl).trans ((F2 0 rfl).trans (cw_c0 hC))) rfl ?_
    refine wq_callV rfl rfl (by first | rfl | assumption) (by first | decide | omega | assumption) (Nat.le_of_ble_eq_true rfl) (Nat.le_of_ble_eq_true rfl) rfl rfl ?_
    refine c_draft ((F3 3 rfl).trans r3) ?_
    refine wq_callV rfl rfl (by first | rfl | assumption) (by first | decide | omega | assumption) (Nat.le_of_ble_eq_true rfl) (Nat.le_of_ble_eq_true rfl) rfl rfl ?_
    obtain ⟨_, _, gc, gh, y, W2, _, _, C2⟩ := D2
    have C2 := C2 hw
    have hC3 : CW (AP A) σ3 := cw_fr (X := fun j => Nat.ble 1 j && Nat.ble j 20) hC (fun j hj => by
      have hj2 : j < 1 ∨ 20 < j := by
        rcases Nat.lt_or_ge j 1 with q | q
        · exact Or.inl q
        · rcases Nat.lt_or_ge 20 j with r | r
          · exact Or.inr r
          · have hj : (Nat.ble 1 j && Nat.ble j 20) = false := hj
            rw [Nat.ble_eq_true_of_le q, Nat.ble_eq_true_of_le r] at hj
            cases hj
      have a1 : x1 j = false := by simp only [x1, beq_eq_false_iff_ne]; omega
      exact (F3 j a1).trans (F2 j (xRT_f (by omega)))) (by decide) (isA_eq ((F3 31 rfl).trans (F2 31 rfl)) (cw_c31 hC)) (isA_eq ((F3 33 rfl).trans (F2 33 rfl)) (cw_c33 hC)) (isA_eq ((F3 34 rfl).trans (F2 34 rfl)) (cw_c34 hC)) (isA_eq ((F3 47 rfl).trans (F2 47 rfl)) (cw_c47 hC))
    have o3 : ∀ j, 2 ≤ j → σ3 j = σ2 j := fun j hj => F3 j (by simp only [x1, beq_eq_false_iff_ne]; omega)
    have S3 : Shp σ3 := shp_eq W2.2.2.2.2.2.2.1 (fun j a b => o3 j (by omega))
    refine c_copyPl ((o3 4 (by omega)).trans W2.2.1) S3 (cw_c21 hC3) (cw_c22 hC3) (cw_c23 hC3) (cw_c24 hC3) (cw_c25 hC3) (cw_c26 hC3) (cw_c27 hC3) (cw_c28 hC3) (cw_c29 hC3) (fun σ4 F4 d21 d22 d23 d24 d25 d26 d27 d28 d29 => ?_)
    have hC4 : CW (GP G) σ4 := cw_new (X := XB (Ab A) (Al A)) hC3 C2 (fun j a b => o3 j (by omega)) S3 F4 d21 d22 d23 d24 d25 d26 d27 d28 d29
    have o4 : ∀ j, j < 21 ∨ 29 < j → σ4 j = σ3 j := fun j hj => F4 j (xCP_f hj)
    refine wq_go rfl (fun _ => rfl) ?_
    refine wq_getf rfl (by first | rfl | assumption) (by first | decide | omega | assumption) ((o4 0 (by omega)).trans ((F3 0 rfl).trans ((F2 0 rfl).trans (cw_c0 hC)))) rfl ?_
    refine wq_go rfl (fun _ => rfl) ?_
    refine wq_getf rfl (by first | rfl | assumption) (by first | decide | omega | assumption) ((o4 0 (by omega)).trans ((F3 0 rfl).trans ((F2 0 rfl).trans (cw_c0 hC)))) rfl ?_
    refine wq_callV rfl rfl (by first | rfl | assumption) (by first | decide | omega | assumption) (Nat.le_of_ble_eq_true rfl) (Nat.le_of_ble_eq_true rfl) rfl rfl ?_
    have S35 : StIs σ4 35 (AS A) := st_eq hS (fun j a b => (o4 j (by omega)).trans ((o3 j (by omega)).trans (F2 j (xRT_f (by omega)))))
    refine c_State_begin rfl S35 hC4 (fun σ5 F5 B5 => ?_)
    have o5 : ∀ j, j < 35 ∨ 39 < j → σ5 j = σ4 j := fun j hj => F5 j (by
      unfold xk inS
      rcases Nat.lt_or_ge j 35 with h | h
      · rw [show Nat.ble 35 j = false from ble_f h]; rfl
      · rw [show Nat.ble j (35 + 4) = false from ble_f (by omega)]; simp)
    refine wq_go rfl (fun _ => rfl) ?_
    refine wq_getf rfl (by first | rfl | assumption) (by first | decide | omega | assumption) ((o5 0 (by omega)).trans ((o4 0 (by omega)).trans ((F3 0 rfl).trans ((F2 0 rfl).trans (cw_c0 hC))))) rfl ?_
    refine wq_callV rfl rfl (by first | rfl | assumption) (by first | decide | omega | assumption) (Nat.le_of_ble_eq_true rfl) (Nat.le_of_ble_eq_true rfl) rfl rfl ?_
    refine c_History_clear ((o5 68 (by omega)).trans ((o4 68 (by omega)).trans ((F3 68 rfl).trans ((F2 68 rfl).trans hy2)))) (fun σ6 F6 e68 => ?_)
    refine wq_go rfl (fun _ => rfl) ?_
    refine wq_getf rfl (by first | rfl | assumption) (by first | decide | omega | assumption) ((F6 0 rfl).trans ((o5 0 (by omega)).trans ((o4 0 (by omega)).trans ((F3 0 rfl).trans ((F2 0 rfl).trans (cw_c0 hC)))))) rfl ?_
    refine wq_callV rfl rfl (by first | rfl | assumption) (by first | decide | omega | assumption) (Nat.le_of_ble_eq_true rfl) (Nat.le_of_ble_eq_true rfl) rfl rfl ?_
    have o6 : ∀ j, ¬ j = 68 → σ6 j = σ5 j := fun j hj => F6 j (by simp only [x68, beq_eq_false_iff_ne]; omega)
    have H6 : HsIs σ6 (AT A) := hs_eq hHs (fun j a b => (o6 j (by omega)).trans ((o5 j (by omega)).trans ((o4 j (by omega)).trans ((o3 j (by omega)).trans (F2 j (xRT_f (by omega)))))))
    refine c_Hearsay_clear H6 (fun σ7 F7 H7 => ?_)
    have o7 : ∀ j, j < 63 ∨ 67 < j → σ7 j = σ6 j := fun j hj => F7 j (by
      unfold xHs
      rcases Nat.lt_or_ge j 63 with h | h
      · rw [ble_f h]; rfl
      · rw [show Nat.ble j 67 = false from ble_f (by omega)]; simp)
    refine wq_go rfl (fun _ => rfl) ?_
    refine wq_getf rfl (by first | rfl | assumption) (by first | decide | omega | assumption) ((o7 0 (by omega)).trans ((F6 0 rfl).trans ((o5 0 (by omega)).trans ((o4 0 (by omega)).trans ((F3 0 rfl).trans ((F2 0 rfl).trans (cw_c0 hC))))))) rfl ?_
    refine wq_callV rfl rfl (by first | rfl | assumption) (by first | decide | omega | assumption) (Nat.le_of_ble_eq_true rfl) (Nat.le_of_ble_eq_true rfl) rfl rfl ?_
    refine c_Slots_clear ((o7 270 (by omega)).trans ((F6 270 rfl).trans ((o5 270 (by omega)).trans ((o4 270 (by omega)).trans ((F3 270 rfl).trans ((F2 270 rfl).trans sl1)))))) ((o7 271 (by omega)).trans ((F6 271 rfl).trans ((o5 271 (by omega)).trans ((o4 271 (by omega)).trans ((F3 271 rfl).trans ((F2 271 rfl).trans sl2)))))) (fun σ8 F8 e270 => ?_)
    refine wq_go rfl (fun _ => rfl) ?_
    refine wq_iret rfl ?_
    have o8 : ∀ j, ¬ j = 270 → σ8 j = σ7 j := fun j hj => F8 j (by simp only [x270, beq_eq_false_iff_ne]; omega)
    have oo : ∀ j, 40 ≤ j → ¬ (63 ≤ j ∧ j ≤ 68) → ¬ j = 270 → σ8 j = σ j := fun j a b c => (o8 j c).trans ((o7 j (by omega)).trans ((o6 j (by omega)).trans ((o5 j (by omega)).trans ((o4 j (by omega)).trans ((o3 j (by omega)).trans (F2 j (xRT_f (by omega))))))))
    have ol : ∀ j, j < 35 ∨ 39 < j ∧ j < 63 → σ8 j = σ4 j := fun j h => (o8 j (by omega)).trans ((o7 j (by omega)).trans ((o6 j (by omega)).trans (o5 j (by omega))))
    have hA : readA A = (GP G, begS (GP G), AH A, 0, AZ A, 0, (0, Tc (AT A), Tt (AT A), Ta (AT A), Ts (AT A)), Ab A, 0, -1) := by
      unfold readA
      rw [hx]
      rfl
    have hv : nI (readX (XB (Ab A) (Al A))).1 = nI 0 := by rw [hx]
    rw [hv] at K
    refine K σ8 (fun j hj => oo j (by omega) (by omega) (by omega)) ?_
    rw [hA]
    refine ⟨cw_fr (X := fun j => !(Nat.ble j 34) && (Nat.ble j 39 || Nat.ble 63 j)) hC4 (fun j hj => ol j ?_) (by decide) (isA_eq (ol 31 (by omega)) (cw_c31 hC4)) (isA_eq (ol 33 (by omega)) (cw_c33 hC4)) (isA_eq (ol 34 (by omega)) (cw_c34 hC4)) (isA_eq (ol 47 (by omega)) (cw_c47 hC4)), ?_, ⟨S41, st_eq h41 (fun j a b => oo j (by omega) (by omega) (by omega))⟩, fun e a b => ?_, hs_eq H7 (fun j a b => o8 j (by omega)), ⟨nx, hy1, (o8 68 (by omega)).trans ((o7 68 (by omega)).trans e68), (oo 69 (by omega) (by omega) (by omega)).trans hy3, fun i hi => ?_, fun j hj => absurd hj (Nat.not_lt_zero j)⟩, ⟨e270, (oo 271 (by omega) (by omega) (by omega)).trans sl2, fun s hs => ?_, fun s hs hb => by rw [show (Ah (GP G, begS (GP G), AH A, 0, AZ A, 0, (0, Tc (AT A), Tt (AT A), Ta (AT A), Ts (AT A)), Ab A, 0, (-1 : Int32))) = 0 from rfl, Nat.zero_testBit] at hb; cases hb⟩, ⟨ft, (ol 1 (by omega)).trans ((o4 1 (by omega)).trans e1), (ol 2 (by omega)).trans ((o4 2 (by omega)).trans ((o3 2 (by omega)).trans ((F2 2 rfl).trans t2))), fun j hj => absurd hj (Nat.not_lt_zero j)⟩, rd_eq R2 (fun j a b => (ol j (by omega)).trans ((o4 j (by omega)).trans (o3 j (by omega))))⟩
    · rcases Nat.lt_or_ge j 35 with q | q
      · exact Or.inl q
      · have hj : (!(Nat.ble j 34) && (Nat.ble j 39 || Nat.ble 63 j)) = false := hj
        rw [show Nat.ble j 34 = false from ble_f (by omega)] at hj
        rcases Nat.lt_or_ge 39 j with r | r
        · rcases Nat.lt_or_ge j 63 with r2 | r2
          · exact Or.inr ⟨r, r2⟩
          · rw [Nat.ble_eq_true_of_le r2] at hj; simp at hj
        · rw [Nat.ble_eq_true_of_le r] at hj; simp at hj
    · exact st_eq B5 (fun j a b => (o8 j (by omega)).trans ((o7 j (by omega)).trans (o6 j (by omega))))
    · obtain ⟨S', hS'⟩ := hSts e a b
      exact ⟨S', st_eq hS' (fun j a b => oo j (by omega) (by omega) (by omega))⟩
    · obtain ⟨S', hS'⟩ := hy4 i hi
      exact ⟨S', st_eq hS' (fun j a b => oo j (by omega) (by omega) (by omega))⟩
    · obtain ⟨S', hS'⟩ := sl3 s hs
      exact ⟨S', st_eq hS' (fun j a b => oo j (by omega) (by omega) (by omega))⟩
  · skip
    obtain ⟨⟨z0, z1, z2, z3, z4, r3⟩, _⟩ := id R2
    refine wq_go rfl (fun _ => rfl) ?_
    refine wq_go rfl (fun _ => rfl) ?_
    refine wq_getf rfl (by first | rfl | assumption) (by first | decide | omega | assumption) ((F2 0 rfl).trans (cw_c0 hC)) rfl ?_
    refine wq_callV rfl rfl (by first | rfl | assumption) (by first | decide | omega | assumption) (Nat.le_of_ble_eq_true rfl) (Nat.le_of_ble_eq_true rfl) rfl rfl ?_
    refine c_tpClear ((F2 1 rfl).trans t1) (fun σ3 F3 e1 => ?_)
    refine wq_go rfl (fun _ => rfl) ?_
    refine wq_zne rfl (by first | omega | decide | exact Nat.lt_of_le_of_lt Nat.and_le_right (by decide) | exact ⟨by omega, by omega⟩) (fun c8 => ?_) (fun c => absurd (show _ from by omega) c)
    refine wq_go rfl (fun _ => rfl) ?_
    refine wq_iret rfl ?_
    have hA : readA A = (AP A, AS A, AH A, An A, AZ A, Ah A, AT A, Ab A, 0, p) := by
      unfold readA
      rw [hx, if_neg hf0]
    have hv : nI (readX (XB (Ab A) (Al A))).1 = nI f := by rw [hx]
    rw [hv] at K
    have oo : ∀ j, j < 1 ∨ 20 < j → σ3 j = σ j := fun j hj => (F3 j (by simp only [x1, beq_eq_false_iff_ne]; omega)).trans (F2 j (xRT_f (by omega)))
    refine K σ3 (fun j hj => oo j (by omega)) ?_
    rw [hA]
    refine ci_fr (A' := (AP A, AS A, AH A, An A, AZ A, Ah A, AT A, Ab A, 0, p)) (X := fun j => Nat.ble 1 j && Nat.ble j 20) hI (fun j hj => oo j ?_) rfl rfl (fun j hj => ?_) ⟨hs_eq hHs (fun j a b => oo j (by omega)), ⟨nx, hy_eq hyI (fun j a b => oo j (by omega))⟩, sl_eq hSl (fun j a b => oo j (by omega)), ⟨ft, e1, (F3 2 rfl).trans ((F2 2 rfl).trans t2), fun j hj => absurd hj (Nat.not_lt_zero j)⟩, rd_eq R2 (fun j a b => F3 j (by simp only [x1, beq_eq_false_iff_ne]; omega))⟩
    · have hj : (Nat.ble 1 j && Nat.ble j 20) = false := hj
      rcases Nat.lt_or_ge j 1 with q | q
      · exact Or.inl q
      · rcases Nat.lt_or_ge 20 j with r | r
        · exact Or.inr r
        · rw [Nat.ble_eq_true_of_le q, Nat.ble_eq_true_of_le r] at hj
          cases hj
    · show (Nat.ble 1 j && Nat.ble j 20) = false
      rcases hj with q | q
      · rw [show Nat.ble 1 j = false from ble_f (by omega)]; rfl
      · rw [show Nat.ble j 20 = false from ble_f (by omega)]; simp
