/-! THE TAPE: feed and back -/
def byC (x : Int32) (s : Nat) : Int32 := vp_nar .byte ((x.toUInt32 >>> ((nI s).toUInt32 &&& Int32.toUInt32 31)).toInt32).toInt8.toInt32
def byM (x : Int32) (s : Nat) : Int32 := vp_nar .byte (x >>> (nI s &&& 31)).toInt8.toInt32
theorem sx_eq (v : BitVec 32) (s : Nat) (h : s ≤ 24) : (v.sshiftRight s).signExtend 8 = (v >>> s).signExtend 8 := by
  apply BitVec.eq_of_getLsbD_eq
  intro i hi
  rw [BitVec.getLsbD_signExtend, BitVec.getLsbD_signExtend, BitVec.getLsbD_sshiftRight, BitVec.getLsbD_ushiftRight]
  simp only [hi, show i < 32 by omega, show s + i < 32 by omega, show ¬ 32 ≤ i by omega, decide_true, decide_false, if_true, Bool.not_false, Bool.true_and]
theorem by_eq1 (x y z : Int32) (s : Nat) (h : s ≤ 24) (e1 : y.toBitVec = x.toBitVec.sshiftRight s) (e2 : z.toBitVec = x.toBitVec >>> s) : y.toInt8 = z.toInt8 := by
  apply Int8.toBitVec_inj.mp
  show y.toBitVec.signExtend 8 = z.toBitVec.signExtend 8
  rw [e1, e2, sx_eq _ _ h]
theorem by_eq (x : Int32) {s : Nat} (h : s = 24 ∨ s = 16 ∨ s = 8 ∨ s = 0) : byM x s = byC x s := by
  unfold byM byC
  congr 2
  rcases h with rfl | rfl | rfl | rfl
  · exact by_eq1 x _ _ 24 (by decide) rfl rfl
  · exact by_eq1 x _ _ 16 (by decide) rfl rfl
  · exact by_eq1 x _ _ 8 (by decide) rfl rfl
  · exact by_eq1 x _ _ 0 (by decide) rfl rfl
def pt4 (f : Nat → Int32) (l : Nat) (x : Int32) : Nat → Int32 := upd (upd (upd (upd f l (byC x 24)) (l + 1) (byC x 16)) (l + 2) (byC x 8)) (l + 3) (byC x 0)
theorem upd_ag {f b : Nat → Int32} {l : Nat} {v : Int32} (h : ∀ j, j < l → f j = b j) : ∀ j, j < l + 1 → upd f l v j = upd b l v j := by
  intro j hj
  unfold upd
  split
  · rfl
  · exact h j (by omega)
theorem pt4_ag {f b : Nat → Int32} {l : Nat} {x : Int32} (h : ∀ j, j < l → f j = b j) : ∀ j, j < l + 4 → pt4 f l x j = pt4 b l x j := upd_ag (upd_ag (upd_ag (upd_ag h)))
def ap4 (A : Sy) (x : Int32) : Sy := setTp A (pt4 (Ab A) (Al A) x) (Al A + 4)
def G_feed (A : Sy) (a b c d e : Int32) : Sy × Int32 := if Al A + 20 ≤ 2000 then (ap4 (ap4 (ap4 (ap4 (ap4 A a) b) c) d) e, nI (Al (ap4 (ap4 (ap4 (ap4 (ap4 A a) b) c) d) e))) else (A, -1)
def tpO (l : Nat) : List Value := [.ref 2, .int (nI l)]
def x12 : Nat → Bool := fun j => j == 1 || j == 2
theorem x12_lo {j : Nat} (h : j = 0 ∨ 3 ≤ j) : x12 j = false := by
  have a1 : (j == 1) = false := by simp; omega
  have a2 : (j == 2) = false := by simp; omega
  simp only [x12, a1, a2, Bool.or_false]
theorem ci_tp {A : Sy} {σ σ' : Nat → List Value} {b : Nat → Int32} {l : Nat} (hI : CI A σ) (hF : Fr x12 σ σ') (hT : TpIs σ' b l) : CI (setTp A b l) σ' := by
  have o : ∀ j, j = 0 ∨ 3 ≤ j → σ' j = σ j := fun j hj => hF j (x12_lo hj)
  obtain ⟨r1, ⟨nx, r2⟩, r3, r4, r5⟩ := hI.2.2.2.2
  exact ci_fr hI hF rfl rfl (fun j hj => x12_lo (by omega)) ⟨hs_eq r1 (fun j a b => o j (by omega)), ⟨nx, hy_eq r2 (fun j a b => o j (by omega))⟩, sl_eq r3 (fun j a b => o j (by omega)), hT, rd_eq r5 (fun j a b => o j (by omega))⟩
theorem c_tlen {xs : List Int32} {d : Nat} {σ : Nat → List Value} {Q : Option Value → (Nat → List Value) → Prop} {l : Nat} (h1 : σ 1 = tpO l)  (K : Q (some (.int (nI l))) σ) : Wq xs (d + 0) ax_cd27 0 [(0, .ref 1)] [] σ Q := by
  refine wq_go rfl (fun _ => rfl) ?_
  refine wq_getf rfl (by first | rfl | assumption) (by first | decide | omega | assumption) h1 rfl ?_
  refine wq_iret rfl ?_
  exact K
theorem c_room1 {xs : List Int32} {d : Nat} {σ : Nat → List Value} {Q : Option Value → (Nat → List Value) → Prop} {l : Nat} (h1 : σ 1 = tpO l) (hl : l + 20 ≤ 2000)  (K : Q (some (.int (nI 1))) σ) : Wq xs (d + 0) ax_cd25 0 [(0, .ref 1)] [] σ Q := by
  refine wq_go rfl (fun _ => rfl) ?_
  refine wq_getf rfl (by first | rfl | assumption) (by first | decide | omega | assumption) h1 rfl ?_
  refine wq_cN (m := 20) rfl rfl ?_
  refine wq_addN rfl ?_
  refine wq_cN (m := 2000) rfl rfl ?_
  refine wq_cgt rfl (by first | omega | decide | exact Nat.lt_of_le_of_lt Nat.and_le_right (by decide) | exact ⟨by omega, by omega⟩) (by first | omega | decide | exact Nat.lt_of_le_of_lt Nat.and_le_right (by decide) | exact ⟨by omega, by omega⟩) (fun c => absurd c (by omega)) (fun c5 => ?_)
  refine wq_cN (m := 1) rfl rfl ?_
  refine wq_go rfl (fun _ => rfl) ?_
  refine wq_nret rfl (by decide) ?_
  exact K
theorem c_room0 {xs : List Int32} {d : Nat} {σ : Nat → List Value} {Q : Option Value → (Nat → List Value) → Prop} {l : Nat} (h1 : σ 1 = tpO l) (hl : ¬ l + 20 ≤ 2000) (hl2 : l ≤ 2000)  (K : Q (some (.int (nI 0))) σ) : Wq xs (d + 0) ax_cd25 0 [(0, .ref 1)] [] σ Q := by
  refine wq_go rfl (fun _ => rfl) ?_
  refine wq_getf rfl (by first | rfl | assumption) (by first | decide | omega | assumption) h1 rfl ?_
  refine wq_cN (m := 20) rfl rfl ?_
  refine wq_addN rfl ?_
  refine wq_cN (m := 2000) rfl rfl ?_
  refine wq_cgt rfl (by first | omega | decide | exact Nat.lt_of_le_of_lt Nat.and_le_right (by decide) | exact ⟨by omega, by omega⟩) (by first | omega | decide | exact Nat.lt_of_le_of_lt Nat.and_le_right (by decide) | exact ⟨by omega, by omega⟩) (fun c5 => ?_) (fun c => absurd (show _ from by omega) c)
  refine wq_cN (m := 0) rfl rfl ?_
  refine wq_nret rfl (by decide) ?_
  exact K
theorem c_app_s {xs : List Int32} {d : Nat} {σ : Nat → List Value} {Q : Option Value → (Nat → List Value) → Prop} {l : Nat} (h1 : σ 1 = tpO l) {f : Nat → Int32} (h2 : σ 2 = arr 2000 f) {x : Int32} {s : Nat} {s' : Int32} (hs' : nI s + (-8) = s') (hs : s ≤ 24) (hl : l < 2000) (K : Wq xs (d + 0) ax_cd26 2 [(2, .int s'), (1, .int x), (0, .ref 1)] [] (up (up σ 2 (arr 2000 (upd f l (byC x s)))) 1 (tpO (l + 1))) Q) : Wq xs (d + 0) ax_cd26 2 [(2, .int (nI s)), (1, .int x), (0, .ref 1)] [] σ Q := by
  refine wq_go rfl (fun _ => rfl) ?_
  refine wq_zlt rfl (by first | omega | decide | exact Nat.lt_of_le_of_lt Nat.and_le_right (by decide) | exact ⟨by omega, by omega⟩) (fun c => absurd c (by omega)) (fun c3 => ?_)
  refine wq_go rfl (fun _ => rfl) ?_
  refine wq_getf rfl (by first | rfl | assumption) (by first | decide | omega | assumption) h1 rfl ?_
  refine wq_zlt rfl (by first | omega | decide | exact Nat.lt_of_le_of_lt Nat.and_le_right (by decide) | exact ⟨by omega, by omega⟩) (fun c => absurd c (by omega)) (fun c6 => ?_)
  refine wq_go rfl (fun _ => rfl) ?_
  refine wq_getf rfl (by first | rfl | assumption) (by first | decide | omega | assumption) h1 rfl ?_
  refine wq_go rfl (fun _ => rfl) ?_
  refine wq_getf rfl (by first | rfl | assumption) (by first | decide | omega | assumption) h1 rfl ?_
  refine wq_alen rfl (by first | rfl | assumption) (by first | decide | omega | assumption) rfl h2 (arr_len _ _) ?_
  refine wq_cge rfl (by first | omega | decide | exact Nat.lt_of_le_of_lt Nat.and_le_right (by decide) | exact ⟨by omega, by omega⟩) (by first | omega | decide | exact Nat.lt_of_le_of_lt Nat.and_le_right (by decide) | exact ⟨by omega, by omega⟩) (fun c => absurd c (by omega)) (fun c12 => ?_)
  refine wq_go rfl (fun _ => rfl) ?_
  refine wq_getf rfl (by first | rfl | assumption) (by first | decide | omega | assumption) h1 rfl ?_
  refine wq_go rfl (fun _ => rfl) ?_
  refine wq_getf rfl (by first | rfl | assumption) (by first | decide | omega | assumption) h1 rfl ?_
  refine wq_go rfl (fun _ => rfl) ?_
  refine wq_go rfl (fun _ => rfl) ?_
  refine wq_go rfl (fun _ => rfl) ?_
  refine wq_go rfl (fun _ => rfl) ?_
  refine wq_bast rfl (by first | rfl | assumption) (Or.inl rfl) (by first | decide | omega | assumption) h2 rfl (by omega) (by first | decide | omega) ?_
  refine wq_go rfl (fun _ => rfl) ?_
  refine wq_go rfl (fun _ => rfl) ?_
  refine wq_getf rfl (by first | rfl | assumption) (by first | decide | omega | assumption) ((up_ne _ _ (by decide)).trans h1) rfl ?_
  refine wq_cN (m := 1) rfl rfl ?_
  refine wq_addN rfl ?_
  refine wq_putf rfl (by first | rfl | assumption) (by first | decide | omega | assumption) ((up_ne _ _ (by decide)).trans h1) rfl rfl rfl (by first | exact Nat.le_of_ble_eq_true rfl | (simp; done)) ?_
  refine wq_go rfl (fun _ => rfl) ?_
  refine wq_go rfl (fun _ => rfl) ?_
  subst hs'
  exact K
theorem c_app_e {xs : List Int32} {d : Nat} {σ : Nat → List Value} {Q : Option Value → (Nat → List Value) → Prop} {x : Int32} (K : Q none σ) : Wq xs (d + 0) ax_cd26 2 [(2, .int (-8)), (1, .int x), (0, .ref 1)] [] σ Q := by
  refine wq_go rfl (fun _ => rfl) ?_
  refine wq_if rfl (fun c3 => ?_) (fun c => absurd (c.symm.trans ((show ax_cmp 2 (-8) 0 = true from by decide))) (by decide))
  refine wq_end rfl (fun _ => rfl) ?_
  exact K
theorem c_append {xs : List Int32} {d : Nat} {σ : Nat → List Value} {Q : Option Value → (Nat → List Value) → Prop} {l : Nat} (h1 : σ 1 = tpO l) {f : Nat → Int32} (h2 : σ 2 = arr 2000 f) {x : Int32} (hl : l + 4 ≤ 2000)  (K : ∀ σ', Fr x12 σ σ' → σ' 1 = tpO (l + 4) → σ' 2 = arr 2000 (pt4 f l x) → Q none σ') : Wq xs (d + 0) ax_cd26 0 [(0, .ref 1), (1, .int x)] [] σ Q := by
  refine wq_cN (m := 24) rfl rfl ?_
  refine wq_go rfl (fun _ => rfl) ?_
  exact wq_lv ⟨(by decide : ([2, 0, 1] : List Nat).Nodup), (lvm (List.mem_of_getElem? (i := 0) rfl) (lvm (List.mem_of_getElem? (i := 2) rfl) (lvm (List.mem_of_getElem? (i := 1) rfl) lvn)))⟩ (c_app_s (s := 24) (s' := nI 16) h1 h2 (by decide) (by decide) (by omega) (c_app_s (s := 16) (s' := nI 8) (up_same _ _ _) ((up_ne _ _ (by decide)).trans (up_same _ _ _)) (by decide) (by decide) (by omega) (c_app_s (s := 8) (s' := nI 0) (up_same _ _ _) ((up_ne _ _ (by decide)).trans (up_same _ _ _)) (by decide) (by decide) (by omega) (c_app_s (s := 0) (s' := -8) (up_same _ _ _) ((up_ne _ _ (by decide)).trans (up_same _ _ _)) (by decide) (by decide) (by omega) (c_app_e (K _ (fr_up (fr_up (fr_up (fr_up (fr_up (fr_up (fr_up (fr_up (fr_refl x12 σ) rfl) rfl) rfl) rfl) rfl) rfl) rfl) rfl) (up_same _ _ _) ((up_ne _ _ (by decide)).trans (up_same _ _ _))))))))
theorem c_appT {xs : List Int32} {d : Nat} {σ : Nat → List Value} {Q : Option Value → (Nat → List Value) → Prop} {A : Sy} {x : Int32} (hI : CI A σ) (hl : Al A + 4 ≤ 2000) (K : ∀ σ', Hi σ σ' → CI (ap4 A x) σ' → Q none σ') : Wq xs (d + 0) ax_cd26 0 [(0, .ref 1), (1, .int x)] [] σ Q := by
  obtain ⟨f, h1, h2, h3⟩ := hI.2.2.2.2.2.2.2.1
  exact c_append h1 h2 hl (fun σ' F e1 e2 => K σ' (fun j hj => F j (x12_lo (by omega))) (ci_tp hI F ⟨_, e1, e2, pt4_ag h3⟩))
theorem cg_feed {n : Nat} {A : Sy} (hn : n < 512) (hA : Aok n A) (a0 a1 a2 a3 a4 : Int32) : COk ax_cd24 [.int a0, .int a1, .int a2, .int a3, .int a4] A (G_feed A a0 a1 a2 a3 a4).1 (G_feed A a0 a1 a2 a3 a4).2 := by
  intro xs d σ Q hI K
  obtain ⟨hPok, ⟨hok, hhr72, hzq, hsum⟩, hAH, hAZ, hAn, hAh, hTok, hAl⟩ := hA
  have hP' := hPok
  obtain ⟨hP1, hP2, hP3, hP4, hP5, hP6, hP7, hP8, hPv, hPm, hPo, hPw, hPl⟩ := hP'
  have hok' := hok
  obtain ⟨hot, hoh, hosc, hokp⟩ := hok'
  have hI0 := hI
  obtain ⟨hC, hS, ⟨ST, hT⟩, hD, hR⟩ := hI0
  have hR0 := hR
  obtain ⟨hH, ⟨nx, hy⟩, hZ, ⟨ft, hf1, hf2, hf3⟩, ⟨⟨r0, r1, r2, r3, r4, hrd1⟩, hrd2, hrd3⟩⟩ := hR0
  show Wq xs (d + 12) ax_cd24 0 [(0, .ref 0), (1, .int a0), (2, .int a1), (3, .int a2), (4, .int a3), (5, .int a4)] [] σ Q
  refine wq_go rfl (fun _ => rfl) ?_
  refine wq_getf rfl (by first | rfl | assumption) (by first | decide | omega | assumption) (cw_c0 hC) rfl ?_
  refine wq_callV rfl rfl (by first | rfl | assumption) (by first | decide | omega | assumption) (Nat.le_of_ble_eq_true rfl) (Nat.le_of_ble_eq_true rfl) rfl rfl ?_
  by_cases hz : Al A + 20 ≤ 2000
  · refine c_room1 hf1 hz ?_
    refine wq_zne rfl (by first | omega | decide | exact Nat.lt_of_le_of_lt Nat.and_le_right (by decide) | exact ⟨by omega, by omega⟩) (fun c3 => ?_) (fun c => absurd (show _ from by omega) c)
    refine wq_go rfl (fun _ => rfl) ?_
    refine wq_getf rfl (by first | rfl | assumption) (by first | decide | omega | assumption) (cw_c0 hC) rfl ?_
    refine wq_go rfl (fun _ => rfl) ?_
    refine wq_callV rfl rfl (by first | rfl | assumption) (by first | decide | omega | assumption) (Nat.le_of_ble_eq_true rfl) (Nat.le_of_ble_eq_true rfl) rfl rfl ?_
    refine c_appT (A := A) hI (by omega) (fun σ1 H1' I1 => ?_)
    have H1 := H1'
    refine wq_go rfl (fun _ => rfl) ?_
    refine wq_getf rfl (by first | rfl | assumption) (by first | decide | omega | assumption) (cw_c0 (show CW (AP A) σ1 from I1.1)) rfl ?_
    refine wq_go rfl (fun _ => rfl) ?_
    refine wq_callV rfl rfl (by first | rfl | assumption) (by first | decide | omega | assumption) (Nat.le_of_ble_eq_true rfl) (Nat.le_of_ble_eq_true rfl) rfl rfl ?_
    refine c_appT (A := (ap4 A a0)) I1 (show Al A + 4 + 4 ≤ 2000 by omega) (fun σ2 H2' I2 => ?_)
    have H2 := hi_trans H1 H2'
    refine wq_go rfl (fun _ => rfl) ?_
    refine wq_getf rfl (by first | rfl | assumption) (by first | decide | omega | assumption) (cw_c0 (show CW (AP A) σ2 from I2.1)) rfl ?_
    refine wq_go rfl (fun _ => rfl) ?_
    refine wq_callV rfl rfl (by first | rfl | assumption) (by first | decide | omega | assumption) (Nat.le_of_ble_eq_true rfl) (Nat.le_of_ble_eq_true rfl) rfl rfl ?_
    refine c_appT (A := (ap4 (ap4 A a0) a1)) I2 (show Al A + 4 + 4 + 4 ≤ 2000 by omega) (fun σ3 H3' I3 => ?_)
    have H3 := hi_trans H2 H3'
    refine wq_go rfl (fun _ => rfl) ?_
    refine wq_getf rfl (by first | rfl | assumption) (by first | decide | omega | assumption) (cw_c0 (show CW (AP A) σ3 from I3.1)) rfl ?_
    refine wq_go rfl (fun _ => rfl) ?_
    refine wq_callV rfl rfl (by first | rfl | assumption) (by first | decide | omega | assumption) (Nat.le_of_ble_eq_true rfl) (Nat.le_of_ble_eq_true rfl) rfl rfl ?_
    refine c_appT (A := (ap4 (ap4 (ap4 A a0) a1) a2)) I3 (show Al A + 4 + 4 + 4 + 4 ≤ 2000 by omega) (fun σ4 H4' I4 => ?_)
    have H4 := hi_trans H3 H4'
    refine wq_go rfl (fun _ => rfl) ?_
    refine wq_getf rfl (by first | rfl | assumption) (by first | decide | omega | assumption) (cw_c0 (show CW (AP A) σ4 from I4.1)) rfl ?_
    refine wq_go rfl (fun _ => rfl) ?_
    refine wq_callV rfl rfl (by first | rfl | assumption) (by first | decide | omega | assumption) (Nat.le_of_ble_eq_true rfl) (Nat.le_of_ble_eq_true rfl) rfl rfl ?_
    refine c_appT (A := (ap4 (ap4 (ap4 (ap4 A a0) a1) a2) a3)) I4 (show Al A + 4 + 4 + 4 + 4 + 4 ≤ 2000 by omega) (fun σ5 H5' I5 => ?_)
    have H5 := hi_trans H4 H5'
    refine wq_go rfl (fun _ => rfl) ?_
    refine wq_getf rfl (by first | rfl | assumption) (by first | decide | omega | assumption) (cw_c0 (show CW (AP A) σ5 from I5.1)) rfl ?_
    refine wq_callV rfl rfl (by first | rfl | assumption) (by first | decide | omega | assumption) (Nat.le_of_ble_eq_true rfl) (Nat.le_of_ble_eq_true rfl) rfl rfl ?_
    obtain ⟨fe, e1, _, _⟩ := I5.2.2.2.2.2.2.2.1
    refine c_tlen e1 ?_
    refine wq_iret rfl ?_
    have K' := K
    simp only [G_feed, if_pos hz, oq_s, oq_n, oq_c] at K'
    exact K' _ H5 I5
  · refine c_room0 hf1 hz hAl ?_
    refine wq_zne rfl (by first | omega | decide | exact Nat.lt_of_le_of_lt Nat.and_le_right (by decide) | exact ⟨by omega, by omega⟩) (fun c => absurd c (by omega)) (fun c3 => ?_)
    refine wq_go rfl (fun _ => rfl) ?_
    refine wq_iret rfl ?_
    have K' := K
    simp only [G_feed, if_neg hz, oq_s, oq_n, oq_c] at K'
    exact K' _ (hi_refl _) hI
theorem c_cut {xs : List Int32} {d : Nat} {σ : Nat → List Value} {Q : Option Value → (Nat → List Value) → Prop} {l : Nat} (h1 : σ 1 = tpO l) {k : Nat} (hk : k ≤ l) (hl : l ≤ 2000)  (K : Q (some (.int (nI 1))) (up σ 1 (tpO (l - k)))) : Wq xs (d + 0) ax_cd29 0 [(0, .ref 1), (1, .int (nI k))] [] σ Q := by
  refine wq_go rfl (fun _ => rfl) ?_
  refine wq_zlt rfl (by first | omega | decide | exact Nat.lt_of_le_of_lt Nat.and_le_right (by decide) | exact ⟨by omega, by omega⟩) (fun c => absurd c (by omega)) (fun c1 => ?_)
  refine wq_go rfl (fun _ => rfl) ?_
  refine wq_go rfl (fun _ => rfl) ?_
  refine wq_getf rfl (by first | rfl | assumption) (by first | decide | omega | assumption) h1 rfl ?_
  refine wq_cle rfl (by first | omega | decide | exact Nat.lt_of_le_of_lt Nat.and_le_right (by decide) | exact ⟨by omega, by omega⟩) (by first | omega | decide | exact Nat.lt_of_le_of_lt Nat.and_le_right (by decide) | exact ⟨by omega, by omega⟩) (fun c5 => ?_) (fun c => absurd (show _ from by omega) c)
  refine wq_go rfl (fun _ => rfl) ?_
  refine wq_go rfl (fun _ => rfl) ?_
  refine wq_getf rfl (by first | rfl | assumption) (by first | decide | omega | assumption) h1 rfl ?_
  refine wq_go rfl (fun _ => rfl) ?_
  refine wq_subN rfl (by omega) ?_
  refine wq_putf rfl (by first | rfl | assumption) (by first | decide | omega | assumption) h1 rfl rfl rfl (by first | exact Nat.le_of_ble_eq_true rfl | (simp; done)) ?_
  refine wq_cN (m := 1) rfl rfl ?_
  refine wq_nret rfl (by decide) ?_
  exact K
theorem c_cut_bad {xs : List Int32} {d : Nat} {σ : Nat → List Value} {Q : Option Value → (Nat → List Value) → Prop} {l : Nat} (h1 : σ 1 = tpO l) {x : Int32} (hl : l ≤ 2000) (hx0 : ∀ h, h < l + 1 → x ≠ nI h) (K : Q (some (.int (nI 0))) σ) : Wq xs (d + 0) ax_cd29 0 [(0, .ref 1), (1, .int x)] [] σ Q := by
  rcases pk_ix x (n := l + 1) (by omega) with hx | hx | ⟨j, hj, e⟩
  · skip
    refine wq_go rfl (fun _ => rfl) ?_
    refine wq_if rfl (fun c1 => ?_) (fun c => absurd (c.symm.trans (decide_eq_true hx)) (by decide))
    refine wq_cN (m := 0) rfl rfl ?_
    refine wq_nret rfl (by decide) ?_
    exact K
  · skip
    refine wq_go rfl (fun _ => rfl) ?_
    refine wq_if rfl (fun c => absurd (c.symm.trans (decide_eq_false (fun e => by have h1 := Int32.lt_of_le_of_lt hx e; exact nI_pos (by omega) h1))) (by decide)) (fun c1 => ?_)
    refine wq_go rfl (fun _ => rfl) ?_
    refine wq_go rfl (fun _ => rfl) ?_
    refine wq_getf rfl (by first | rfl | assumption) (by first | decide | omega | assumption) h1 rfl ?_
    refine wq_cmp rfl (fun c => absurd (c.symm.trans (decide_eq_false (fun e => by have h1 := Int32.le_trans hx e; rw [nI_leI (by omega) (by omega)] at h1; omega))) (by decide)) (fun c5 => ?_)
    refine wq_cN (m := 0) rfl rfl ?_
    refine wq_nret rfl (by decide) ?_
    exact K
  · exact absurd e (hx0 j hj)
theorem cg_back {n : Nat} {A : Sy} (hn : n < 512) (hA : Aok n A) (a0 : Int32) : COk ax_cd28 [.int a0] A (G_back A a0).1 (G_back A a0).2 := by
  intro xs d σ Q hI K
  obtain ⟨hPok, ⟨hok, hhr72, hzq, hsum⟩, hAH, hAZ, hAn, hAh, hTok, hAl⟩ := hA
  have hP' := hPok
  obtain ⟨hP1, hP2, hP3, hP4, hP5, hP6, hP7, hP8, hPv, hPm, hPo, hPw, hPl⟩ := hP'
  have hok' := hok
  obtain ⟨hot, hoh, hosc, hokp⟩ := hok'
  have hI0 := hI
  obtain ⟨hC, hS, ⟨ST, hT⟩, hD, hR⟩ := hI0
  have hR0 := hR
  obtain ⟨hH, ⟨nx, hy⟩, hZ, ⟨ft, hf1, hf2, hf3⟩, ⟨⟨r0, r1, r2, r3, r4, hrd1⟩, hrd2, hrd3⟩⟩ := hR0
  show Wq xs (d + 12) ax_cd28 0 [(0, .ref 0), (1, .int a0)] [] σ Q
  refine wq_go rfl (fun _ => rfl) ?_
  refine wq_getf rfl (by first | rfl | assumption) (by first | decide | omega | assumption) (cw_c0 hC) rfl ?_
  refine wq_go rfl (fun _ => rfl) ?_
  refine wq_callV rfl rfl (by first | rfl | assumption) (by first | decide | omega | assumption) (Nat.le_of_ble_eq_true rfl) (Nat.le_of_ble_eq_true rfl) rfl rfl ?_
  rcases dec_cases (n := Al A + 1) (by omega) a0 with ⟨es, hx⟩ | ⟨k, lk, q, es⟩
  · refine c_cut_bad hf1 hAl hx ?_
    refine wq_zeq rfl (by first | omega | decide | exact Nat.lt_of_le_of_lt Nat.and_le_right (by decide) | exact ⟨by omega, by omega⟩) (fun c4 => ?_) (fun c => absurd (show _ from by omega) c)
    refine wq_go rfl (fun _ => rfl) ?_
    refine wq_iret rfl ?_
    have K' := K
    simp only [G_back, es, oq_s, oq_n, oq_c] at K'
    exact K' _ (hi_refl _) hI
  · subst q
    refine c_cut hf1 (by omega) hAl ?_
    have F1 : Fr x12 σ (up σ 1 (tpO (Al A - k))) := fr_up (fr_refl _ _) rfl
    have I1 : CI (setTp A (Ab A) (Al A - k)) (up σ 1 (tpO (Al A - k))) := ci_tp hI F1 ⟨ft, up_same _ _ _, (up_ne _ _ (by decide)).trans hf2, fun j hj => hf3 j (by omega)⟩
    refine wq_zeq rfl (by first | omega | decide | exact Nat.lt_of_le_of_lt Nat.and_le_right (by decide) | exact ⟨by omega, by omega⟩) (fun c => absurd c (by omega)) (fun c4 => ?_)
    refine wq_go rfl (fun _ => rfl) ?_
    refine wq_getf rfl (by first | rfl | assumption) (by first | decide | omega | assumption) (cw_c0 (show CW (AP A) _ from I1.1)) rfl ?_
    refine wq_callV rfl rfl (by first | rfl | assumption) (by first | decide | omega | assumption) (Nat.le_of_ble_eq_true rfl) (Nat.le_of_ble_eq_true rfl) rfl rfl ?_
    refine c_tlen (up_same _ _ _) ?_
    refine wq_go rfl (fun _ => rfl) ?_
    refine wq_iret rfl ?_
    have K' := K
    simp only [G_back, es, oq_s, oq_n, oq_c] at K'
    exact K' _ (fun j hj => F1 j (x12_lo (by omega))) I1
def xT8 : Nat → Bool := fun j => j == 287 || j == 288
def y2 : Nat → Bool := fun b => b == 2
theorem xT8_lo {j : Nat} (h : j < 287 ∨ 289 ≤ j) : xT8 j = false := by
  have a1 : (j == 287) = false := by simp; omega
  have a2 : (j == 288) = false := by simp; omega
  simp only [xT8, a1, a2, Bool.or_false]
theorem md_t8 {P : Pl} {L : Nat} {g g' : Nat → Int32} {σ σ' : Nat → List Value} (h : MD P L g σ) (hF : Fr xT8 σ σ') (ho : σ' 287 = mo g') (hG : FrG y2 g g') : MD P L g' σ' := md_fr h hF (by decide) ho (hG 18 rfl) (isA_eq (hF 320 rfl) (md_c320 h)) (isA_eq (hF 321 rfl) (md_c321 h)) (isA_eq (hF 324 rfl) (md_c324 h)) (isA_eq (hF 322 rfl) (md_c322 h)) (isA_eq (hF 323 rfl) (md_c323 h))
theorem mi_tp {A : Sy} {g g' : Nat → Int32} {L : Nat} {σ σ' : Nat → List Value} {b f : Nat → Int32} {l : Nat} (hM : MD (AP A) L g σ) (hR : MR A g σ) (hT : MT (AP A) L σ) (hF : Fr xT8 σ σ') (ho : σ' 287 = mo g') (hG : FrG y2 g g') (h2 : g' 2 = nI l) (h8 : σ' 288 = arr 2000 f) (hb : ∀ j, j < l → f j = b j) : MI (setTp A b l) σ' := by
  obtain ⟨h1, h2', ⟨f3, h3, h3'⟩, h4, ⟨f5, h5, h5'⟩, ⟨f6, h6, h6'⟩, ⟨f7, h7, h7'⟩, h8', ⟨f9, h9, h9'⟩, h10, _, _⟩ := hR
  have o : ∀ j, j < 287 ∨ 289 ≤ j → σ' j = σ j := fun j hj => hF j (xT8_lo hj)
  exact ⟨L, g', md_t8 hM hF ho hG, ⟨(o 322 (by omega)).trans h1, (hG 57 rfl).trans h2', ⟨f3, (o 325 (by omega)).trans h3, h3'⟩, (hG 59 rfl).trans h4, ⟨f5, (o 326 (by omega)).trans h5, h5'⟩, ⟨f6, (o 327 (by omega)).trans h6, h6'⟩, ⟨f7, (o 328 (by omega)).trans h7, h7'⟩, (o 329 (by omega)).trans h8', ⟨f9, (o 330 (by omega)).trans h9, h9'⟩, (hG 17 rfl).trans h10, h2, ⟨f, h8, hb⟩⟩, mt_eq hT (fun j hj => o j (by omega))⟩
theorem m_put_s {xs : List Int32} {d : Nat} {σ : Nat → List Value} {Q : Option Value → (Nat → List Value) → Prop} {l : Nat} {g f : Nat → Int32} (h287 : σ 287 = mo g) (h4 : g 2 = nI l) (h2 : σ 288 = arr 2000 f) {x : Int32} {s : Nat} {s' : Int32} (hs' : nI s + (-8) = s') (hs : s ≤ 24) (hl : l < 2000) (K : Wq xs (d + 0) ax_cd223 2 [(2, .int s'), (1, .int x), (0, .ref 287)] [] (up (up σ 288 (arr 2000 (upd f l (byM x s)))) 287 (mo (upd g 2 (nI (l + 1))))) Q) : Wq xs (d + 0) ax_cd223 2 [(2, .int (nI s)), (1, .int x), (0, .ref 287)] [] σ Q := by
  refine wq_go rfl (fun _ => rfl) ?_
  refine wq_zlt rfl (by first | omega | decide | exact Nat.lt_of_le_of_lt Nat.and_le_right (by decide) | exact ⟨by omega, by omega⟩) (fun c => absurd c (by omega)) (fun c3 => ?_)
  refine wq_go rfl (fun _ => rfl) ?_
  refine wq_getf rfl (by first | rfl | assumption) (by first | decide | omega | assumption) h287 rfl ?_
  refine wq_go rfl (fun _ => rfl) ?_
  refine wq_getf rfl (by first | rfl | assumption) (by first | decide | omega | assumption) h287 rfl ?_
  refine wq_top h4 ?_
  refine wq_go rfl (fun _ => rfl) ?_
  refine wq_go rfl (fun _ => rfl) ?_
  refine wq_go rfl (fun _ => rfl) ?_
  refine wq_go rfl (fun _ => rfl) ?_
  refine wq_bast rfl (by first | rfl | assumption) (Or.inl rfl) (by first | decide | omega | assumption) h2 rfl (by omega) (by first | decide | omega) ?_
  refine wq_go rfl (fun _ => rfl) ?_
  refine wq_go rfl (fun _ => rfl) ?_
  refine wq_getf rfl (by first | rfl | assumption) (by first | decide | omega | assumption) ((up_ne _ _ (by decide)).trans h287) rfl ?_
  refine wq_top h4 ?_
  refine wq_cN (m := 1) rfl rfl ?_
  refine wq_addN rfl ?_
  refine wq_mput rfl ((up_ne _ _ (by decide)).trans h287) rfl rfl rfl rfl ?_
  refine wq_go rfl (fun _ => rfl) ?_
  refine wq_go rfl (fun _ => rfl) ?_
  subst hs'
  exact K
theorem m_put_e {xs : List Int32} {d : Nat} {σ : Nat → List Value} {Q : Option Value → (Nat → List Value) → Prop} {x : Int32} (K : Q none σ) : Wq xs (d + 0) ax_cd223 2 [(2, .int (-8)), (1, .int x), (0, .ref 287)] [] σ Q := by
  refine wq_go rfl (fun _ => rfl) ?_
  refine wq_if rfl (fun c3 => ?_) (fun c => absurd (c.symm.trans ((show ax_cmp 2 (-8) 0 = true from by decide))) (by decide))
  refine wq_end rfl (fun _ => rfl) ?_
  exact K
theorem ptM_eq (f : Nat → Int32) (l : Nat) (x : Int32) : upd (upd (upd (upd f l (byM x 24)) (l + 1) (byM x 16)) (l + 1 + 1) (byM x 8)) (l + 1 + 1 + 1) (byM x 0) = pt4 f l x := by
  rw [by_eq x (s := 24) (by omega), by_eq x (s := 16) (by omega), by_eq x (s := 8) (by omega), by_eq x (s := 0) (by omega)]
  rfl
theorem m_put {xs : List Int32} {d : Nat} {σ : Nat → List Value} {Q : Option Value → (Nat → List Value) → Prop} {l : Nat} {g f : Nat → Int32} (h287 : σ 287 = mo g) (h4 : g 2 = nI l) (h2 : σ 288 = arr 2000 f) {x : Int32} (hl : l + 4 ≤ 2000)  (K : ∀ σ' g', Fr xT8 σ σ' → σ' 287 = mo g' → FrG y2 g g' → g' 2 = nI (l + 4) → σ' 288 = arr 2000 (pt4 f l x) → Q none σ') : Wq xs (d + 0) ax_cd223 0 [(0, .ref 287), (1, .int x)] [] σ Q := by
  refine wq_cN (m := 24) rfl rfl ?_
  refine wq_go rfl (fun _ => rfl) ?_
  exact wq_lv ⟨(by decide : ([2, 0, 1] : List Nat).Nodup), (lvm (List.mem_of_getElem? (i := 0) rfl) (lvm (List.mem_of_getElem? (i := 2) rfl) (lvm (List.mem_of_getElem? (i := 1) rfl) lvn)))⟩ (m_put_s (s := 24) (s' := nI 16) h287 h4 h2 (by decide) (by decide) (by omega) (m_put_s (s := 16) (s' := nI 8) (up_same _ _ _) (show upd _ 2 _ 2 = _ from if_pos rfl) ((up_ne _ _ (by decide)).trans (up_same _ _ _)) (by decide) (by decide) (by omega) (m_put_s (s := 8) (s' := nI 0) (up_same _ _ _) (show upd _ 2 _ 2 = _ from if_pos rfl) ((up_ne _ _ (by decide)).trans (up_same _ _ _)) (by decide) (by decide) (by omega) (m_put_s (s := 0) (s' := -8) (up_same _ _ _) (show upd _ 2 _ 2 = _ from if_pos rfl) ((up_ne _ _ (by decide)).trans (up_same _ _ _)) (by decide) (by decide) (by omega) (m_put_e (K _ _ (fr_up (fr_up (fr_up (fr_up (fr_up (fr_up (fr_up (fr_up (fr_refl xT8 σ) rfl) rfl) rfl) rfl) rfl) rfl) rfl) rfl) (up_same _ _ _) (fg_up (fg_up (fg_up (fg_up (fg_refl y2 g) rfl) rfl) rfl) rfl) (show upd _ 2 _ 2 = _ from if_pos rfl) (by rw [← ptM_eq]; exact ((up_ne _ _ (by decide)).trans (up_same _ _ _)))))))))
theorem m_putT {xs : List Int32} {d : Nat} {σ : Nat → List Value} {Q : Option Value → (Nat → List Value) → Prop} {A : Sy} {x : Int32} (hI : MI A σ) (hl : Al A + 4 ≤ 2000) (K : ∀ σ', Lo σ σ' → MI (ap4 A x) σ' → Q none σ') : Wq xs (d + 0) ax_cd223 0 [(0, .ref 287), (1, .int x)] [] σ Q := by
  obtain ⟨L, g, hM, hR, hT⟩ := hI
  obtain ⟨f, h8, hb⟩ := hR.2.2.2.2.2.2.2.2.2.2.2
  exact m_put (md_o hM) hR.2.2.2.2.2.2.2.2.2.2.1 h8 hl (fun σ' g' F e0 G e1 e2 => K σ' (lo_fr F (fun j hj => xT8_lo (by omega))) (mi_tp hM hR hT F e0 G e1 e2 (pt4_ag hb)))
theorem lo_tr {σ σ' σ'' : Nat → List Value} (h : Lo σ σ') (h' : Lo σ' σ'') : Lo σ σ'' := fun j hj => (h' j hj).trans (h j hj)
theorem mg_feed {n : Nat} {A : Sy} (hn : n < 512) (hA : Aok n A) (a0 a1 a2 a3 a4 : Int32) : MOk ax_cd222 [.int a0, .int a1, .int a2, .int a3, .int a4] A (G_feed A a0 a1 a2 a3 a4).1 (G_feed A a0 a1 a2 a3 a4).2 := by
  intro xs d σ Q hI K
  obtain ⟨hPok, ⟨hok, hhr72, hzq, hsum⟩, hAH, hAZ, hAn, hAh, hTok, hAl⟩ := hA
  have hP' := hPok
  obtain ⟨hP1, hP2, hP3, hP4, hP5, hP6, hP7, hP8, hPv, hPm, hPo, hPw, hPl⟩ := hP'
  have hok' := hok
  obtain ⟨hot, hoh, hosc, hokp⟩ := hok'
  have hI0 := hI
  obtain ⟨L, g, hM, hMR, hMT⟩ := hI0
  have hN : NwIs σ (AS A) := hMR.1
  have hL2 := md_l2 hM
  obtain ⟨f3, h3, h3'⟩ := hMR.2.2.1
  show Wq xs (d + 12) ax_cd222 0 [(0, .ref 287), (1, .int a0), (2, .int a1), (3, .int a2), (4, .int a3), (5, .int a4)] [] σ Q
  by_cases hz : Al A + 20 ≤ 2000
  · skip
    refine wq_go rfl (fun _ => rfl) ?_
    refine wq_getf rfl (by first | rfl | assumption) (by first | decide | omega | assumption) (md_o hM) rfl ?_
    refine wq_top hMR.2.2.2.2.2.2.2.2.2.2.1 ?_
    refine wq_cN (m := 20) rfl rfl ?_
    refine wq_addN rfl ?_
    refine wq_cN (m := 2000) rfl rfl ?_
    refine wq_cle rfl (by first | omega | decide | exact Nat.lt_of_le_of_lt Nat.and_le_right (by decide) | exact ⟨by omega, by omega⟩) (by first | omega | decide | exact Nat.lt_of_le_of_lt Nat.and_le_right (by decide) | exact ⟨by omega, by omega⟩) (fun c5 => ?_) (fun c => absurd (show _ from by omega) c)
    refine wq_go rfl (fun _ => rfl) ?_
    refine wq_go rfl (fun _ => rfl) ?_
    refine wq_callV rfl rfl (by first | rfl | assumption) (by first | decide | omega | assumption) (Nat.le_of_ble_eq_true rfl) (Nat.le_of_ble_eq_true rfl) rfl rfl ?_
    refine m_putT (A := A) hI (by omega) (fun σ1 H1' I1 => ?_)
    have H1 := H1'
    refine wq_go rfl (fun _ => rfl) ?_
    refine wq_go rfl (fun _ => rfl) ?_
    refine wq_callV rfl rfl (by first | rfl | assumption) (by first | decide | omega | assumption) (Nat.le_of_ble_eq_true rfl) (Nat.le_of_ble_eq_true rfl) rfl rfl ?_
    refine m_putT (A := (ap4 A a0)) I1 (show Al A + 4 + 4 ≤ 2000 by omega) (fun σ2 H2' I2 => ?_)
    have H2 := lo_tr H1 H2'
    refine wq_go rfl (fun _ => rfl) ?_
    refine wq_go rfl (fun _ => rfl) ?_
    refine wq_callV rfl rfl (by first | rfl | assumption) (by first | decide | omega | assumption) (Nat.le_of_ble_eq_true rfl) (Nat.le_of_ble_eq_true rfl) rfl rfl ?_
    refine m_putT (A := (ap4 (ap4 A a0) a1)) I2 (show Al A + 4 + 4 + 4 ≤ 2000 by omega) (fun σ3 H3' I3 => ?_)
    have H3 := lo_tr H2 H3'
    refine wq_go rfl (fun _ => rfl) ?_
    refine wq_go rfl (fun _ => rfl) ?_
    refine wq_callV rfl rfl (by first | rfl | assumption) (by first | decide | omega | assumption) (Nat.le_of_ble_eq_true rfl) (Nat.le_of_ble_eq_true rfl) rfl rfl ?_
    refine m_putT (A := (ap4 (ap4 (ap4 A a0) a1) a2)) I3 (show Al A + 4 + 4 + 4 + 4 ≤ 2000 by omega) (fun σ4 H4' I4 => ?_)
    have H4 := lo_tr H3 H4'
    refine wq_go rfl (fun _ => rfl) ?_
    refine wq_go rfl (fun _ => rfl) ?_
    refine wq_callV rfl rfl (by first | rfl | assumption) (by first | decide | omega | assumption) (Nat.le_of_ble_eq_true rfl) (Nat.le_of_ble_eq_true rfl) rfl rfl ?_
    refine m_putT (A := (ap4 (ap4 (ap4 (ap4 A a0) a1) a2) a3)) I4 (show Al A + 4 + 4 + 4 + 4 + 4 ≤ 2000 by omega) (fun σ5 H5' I5 => ?_)
    have H5 := lo_tr H4 H5'
    have I5' := I5
    obtain ⟨L5, g5, M5, R5, T5⟩ := I5'
    refine wq_go rfl (fun _ => rfl) ?_
    refine wq_getf rfl (by first | rfl | assumption) (by first | decide | omega | assumption) (md_o M5) rfl ?_
    refine wq_top R5.2.2.2.2.2.2.2.2.2.2.1 ?_
    refine wq_iret rfl ?_
    have K' := K
    simp only [G_feed, if_pos hz, oq_s, oq_n, oq_c] at K'
    exact K' _ H5 I5
  · skip
    refine wq_go rfl (fun _ => rfl) ?_
    refine wq_getf rfl (by first | rfl | assumption) (by first | decide | omega | assumption) (md_o hM) rfl ?_
    refine wq_top hMR.2.2.2.2.2.2.2.2.2.2.1 ?_
    refine wq_cN (m := 20) rfl rfl ?_
    refine wq_addN rfl ?_
    refine wq_cN (m := 2000) rfl rfl ?_
    refine wq_cle rfl (by first | omega | decide | exact Nat.lt_of_le_of_lt Nat.and_le_right (by decide) | exact ⟨by omega, by omega⟩) (by first | omega | decide | exact Nat.lt_of_le_of_lt Nat.and_le_right (by decide) | exact ⟨by omega, by omega⟩) (fun c => absurd c (by omega)) (fun c5 => ?_)
    refine wq_go rfl (fun _ => rfl) ?_
    refine wq_iret rfl ?_
    have K' := K
    simp only [G_feed, if_neg hz, oq_s, oq_n, oq_c] at K'
    exact K' _ (lo_R (fr_refl xR σ)) (mi_k hMR hMT (fr_refl xR σ) (fg_refl yC g) hM)
theorem mg_back {n : Nat} {A : Sy} (hn : n < 512) (hA : Aok n A) (a0 : Int32) : MOk ax_cd224 [.int a0] A (G_back A a0).1 (G_back A a0).2 := by
  intro xs d σ Q hI K
  obtain ⟨hPok, ⟨hok, hhr72, hzq, hsum⟩, hAH, hAZ, hAn, hAh, hTok, hAl⟩ := hA
  have hP' := hPok
  obtain ⟨hP1, hP2, hP3, hP4, hP5, hP6, hP7, hP8, hPv, hPm, hPo, hPw, hPl⟩ := hP'
  have hok' := hok
  obtain ⟨hot, hoh, hosc, hokp⟩ := hok'
  have hI0 := hI
  obtain ⟨L, g, hM, hMR, hMT⟩ := hI0
  have hN : NwIs σ (AS A) := hMR.1
  have hL2 := md_l2 hM
  obtain ⟨f3, h3, h3'⟩ := hMR.2.2.1
  show Wq xs (d + 12) ax_cd224 0 [(0, .ref 287), (1, .int a0)] [] σ Q
  rcases dec_cases (n := Al A + 1) (by omega) a0 with ⟨es, hx0⟩ | ⟨k, lk, q, es⟩
  · rcases pk_ix a0 (n := Al A + 1) (by omega) with hx | hx | ⟨j, hj, e⟩
    · skip
      refine wq_go rfl (fun _ => rfl) ?_
      refine wq_if rfl (fun c1 => ?_) (fun c => absurd (c.symm.trans (decide_eq_true hx)) (by decide))
      refine wq_go rfl (fun _ => rfl) ?_
      refine wq_iret rfl ?_
      have K' := K
      simp only [G_back, es, oq_s, oq_n, oq_c] at K'
      exact K' _ (lo_R (fr_refl xR σ)) (mi_k hMR hMT (fr_refl xR σ) (fg_refl yC g) hM)
    · skip
      refine wq_go rfl (fun _ => rfl) ?_
      refine wq_if rfl (fun c => absurd (c.symm.trans (decide_eq_false (fun e => by have h1 := Int32.lt_of_le_of_lt hx e; exact nI_pos (by omega) h1))) (by decide)) (fun c1 => ?_)
      refine wq_go rfl (fun _ => rfl) ?_
      refine wq_go rfl (fun _ => rfl) ?_
      refine wq_getf rfl (by first | rfl | assumption) (by first | decide | omega | assumption) (md_o hM) rfl ?_
      refine wq_top hMR.2.2.2.2.2.2.2.2.2.2.1 ?_
      refine wq_cmp rfl (fun c => absurd (c.symm.trans (decide_eq_false (fun e => by have h1 := Int32.le_trans hx e; rw [nI_leI (by omega) (by omega)] at h1; omega))) (by decide)) (fun c5 => ?_)
      refine wq_go rfl (fun _ => rfl) ?_
      refine wq_iret rfl ?_
      have K' := K
      simp only [G_back, es, oq_s, oq_n, oq_c] at K'
      exact K' _ (lo_R (fr_refl xR σ)) (mi_k hMR hMT (fr_refl xR σ) (fg_refl yC g) hM)
    · exact absurd e (hx0 j hj)
  · subst q
    refine wq_go rfl (fun _ => rfl) ?_
    refine wq_zlt rfl (by first | omega | decide | exact Nat.lt_of_le_of_lt Nat.and_le_right (by decide) | exact ⟨by omega, by omega⟩) (fun c => absurd c (by omega)) (fun c1 => ?_)
    refine wq_go rfl (fun _ => rfl) ?_
    refine wq_go rfl (fun _ => rfl) ?_
    refine wq_getf rfl (by first | rfl | assumption) (by first | decide | omega | assumption) (md_o hM) rfl ?_
    refine wq_top hMR.2.2.2.2.2.2.2.2.2.2.1 ?_
    refine wq_cle rfl (by first | omega | decide | exact Nat.lt_of_le_of_lt Nat.and_le_right (by decide) | exact ⟨by omega, by omega⟩) (by first | omega | decide | exact Nat.lt_of_le_of_lt Nat.and_le_right (by decide) | exact ⟨by omega, by omega⟩) (fun c5 => ?_) (fun c => absurd (show _ from by omega) c)
    refine wq_go rfl (fun _ => rfl) ?_
    refine wq_go rfl (fun _ => rfl) ?_
    refine wq_getf rfl (by first | rfl | assumption) (by first | decide | omega | assumption) (md_o hM) rfl ?_
    refine wq_top hMR.2.2.2.2.2.2.2.2.2.2.1 ?_
    refine wq_go rfl (fun _ => rfl) ?_
    refine wq_subN rfl (by omega) ?_
    refine wq_mput rfl (md_o hM) rfl rfl rfl rfl ?_
    refine wq_go rfl (fun _ => rfl) ?_
    refine wq_getf rfl (by first | rfl | assumption) (by first | decide | omega | assumption) (up_same _ _ _) rfl ?_
    refine wq_iret rfl ?_
    have K' := K
    simp only [G_back, es, oq_s] at K'
    have F1 : Fr xT8 σ (up σ 287 (mo (upd g 2 (nI (Al A - k))))) := fr_up (fr_refl _ _) rfl
    obtain ⟨f12, h12, h12'⟩ := hMR.2.2.2.2.2.2.2.2.2.2.2
    exact K' _ (lo_fr F1 (fun j hj => xT8_lo (by omega))) (mi_tp hM hMR hMT F1 (up_same _ _ _) (fg_up (fg_refl y2 g) rfl) rfl ((up_ne _ _ (by decide)).trans h12) (fun j hj => h12' j (by omega)))
theorem aok_tp {n : Nat} {A : Sy} (h : Aok n A) {b : Nat → Int32} {l : Nat} (hl : l ≤ 2000) : Aok (n + 1) (setTp A b l) := ⟨h.1, (aok_s h).2.1, (aok_s h).2.2.1, (aok_s h).2.2.2.1, h.2.2.2.2.1, h.2.2.2.2.2.1, h.2.2.2.2.2.2.1, hl⟩
theorem go_back {n : Nat} {A : Sy} (hA : Aok n A) (a0 : Int32) : Aok (n + 1) (G_back A a0).1 := oq_ok hA (fun k hk => aok_tp hA (by have := hA.2.2.2.2.2.2.2; omega))
theorem go_feed {n : Nat} {A : Sy} (hA : Aok n A) (a0 a1 a2 a3 a4 : Int32) : Aok (n + 1) (G_feed A a0 a1 a2 a3 a4).1 := by
  unfold G_feed
  split
  · next h => exact aok_tp (A := A) hA (show Al A + 4 + 4 + 4 + 4 + 4 ≤ 2000 by omega)
  · exact aok_s hA
theorem pr0 : ∀ (a0 a1 a2 a3 a4 : Int32), PairOK Inv ax_cd24 ax_cd222 [.int a0, .int a1, .int a2, .int a3, .int a4] := fun a0 a1 a2 a3 a4 => pair_AB (fun n A hn hA => ⟨(G_feed A a0 a1 a2 a3 a4).1, (G_feed A a0 a1 a2 a3 a4).2, go_feed hA a0 a1 a2 a3 a4, cg_feed hn hA a0 a1 a2 a3 a4, mg_feed hn hA a0 a1 a2 a3 a4⟩)
theorem pr1 : ∀ (a0 : Int32), PairOK Inv ax_cd28 ax_cd224 [.int a0] := fun a0 => pair_AB (fun n A hn hA => ⟨(G_back A a0).1, (G_back A a0).2, go_back hA a0, cg_back hn hA a0, mg_back hn hA a0⟩)
