/-! IFS AND LAWS -/
/-- one if, up to behind its else -/
def ifX (X : Tx) (t : Nat) : Rs (Nat × KCode × KCode × KCode) := bnd (must X 11 t) fun t1 => bnd (exX X t1) fun a => bnd (must X 31 a.1) fun t3 => bnd (exX X t3) fun b => bnd (must X 12 b.1) fun t5 => bnd (exX X t5) fun c => bnd (must X 13 c.1) fun t7 => .inr (t7, a.2, b.2, c.2)
/-- at most n more ifs -/
def ifsX (X : Tx) : Nat → Nat → Rs (Nat × List (KCode × KCode × KCode))
  | 0, t => if Xk X t = 11 then er 2 t else .inr (t, [])
  | n + 1, t => if Xk X t = 11 then bnd (ifX X t) fun p => bnd (ifsX X n p.1) fun q => .inr (q.1, p.2 :: q.2) else .inr (t, [])
/-- a law, from its name on to behind its semicolon -/
def lawX (X : Tx) (t : Nat) : Rs (Nat × KLaw) := bnd (adv t) fun t1 => bnd (must X 26 t1) fun t2 => bnd (ifsX X 4 t2) fun q => bnd (exX X q.1) fun r => bnd (must X 25 r.1) fun t5 => .inr (t5, q.2, r.2)
theorem cd_app {g : Nat → Int32} : ∀ (a r : KCode) (p : Nat), codeAt g p a → codeAt g (p + a.length) r → codeAt g p (a ++ r)
  | [], r, p, _, h => h
  | (k, v) :: a, r, p, h, h' => ⟨h.1, cd_app a r (p + 1) h.2 (by rw [show p + 1 + a.length = p + (a.length + 1) by omega]; exact h')⟩
theorem rdw_11 {X : Tx} {f t sc nc nh nv : Nat} {y : Nat → Int32} {w : Option (Nat × Nat)} {σ : Nat → List Value} {g : Nat → Int32} (h : RdW X f t sc nc nh nv y w σ) : RdW X f t sc nc nh nv y w (up σ 11 (arr 408 g)) := by
  obtain ⟨⟨fp, h3⟩, h4, h5, h6, h7, h8, h9, h10, h11, h12, h13⟩ := h
  exact ⟨⟨fp, (up_ne _ _ (by decide)).trans h3⟩, (up_ne _ _ (by decide)).trans h4, h5, h6, h7, h8, shp_a (f := g) h9 (by decide : (11, 408) ∈ shpl), tkx_eq h10 (fun j a b => up_ne _ _ (by omega)), h11, h12, h13⟩
theorem c_ex {xs : List Int32} {d : Nat} {σ : Nat → List Value} {Q : Option Value → (Nat → List Value) → Prop} {X : Tx} {t sc nc nh nv : Nat} {y : Nat → Int32} {w : Option (Nat × Nat)} (hW : RdW X 0 t sc nc nh nv y w σ) (hv : ∀ i, Xv X i < 10000) (hop : sc ≤ 8 + t) (K1 : ∀ t' c' σ', exX X t = .inr (t', c') → t < t' → c'.length ≤ t' - t → Fr xE σ σ' → RdW X 0 t' (sc + c'.length) nc nh nv y w σ' → codeAt (ag σ' 11) sc c' → (∀ i, i < sc → ag σ' 11 i = ag σ 11 i) → Q none σ') (K0 : ∀ f' t' sc' σ', exX X t = er f' t' → ¬ f' = 0 → Fr xE σ σ' → RdW X f' t' sc' nc nh nv y w σ' → Q none σ') : Wq xs (d + 21) ax_cd70 0 [(0, .ref 3), (1, .int (nI 0))] [] σ Q := by
  refine c_expr hv 6 0 (d + 18) rfl (by omega) σ Q t sc nc nh nv y w [] [] sc hW rfl trivial rfl noO_nil (show sc + 0 ≤ 8 + t from hop) (fun t' c' sc' σ' e l k F b W d o p => ?_) K0
  subst b
  have e' : exX X t = .inr (t', c') := e.trans (d_end W.2.2.2.2.2.2.2.2.1 k.1 k.2)
  exact K1 t' c' σ' e' l (exX_inv hv hW.2.2.2.2.2.2.2.2.1 e').2.2.2 F W d p
theorem c_stc {xs : List Int32} {d : Nat} {σ : Nat → List Value} {Q : Option Value → (Nat → List Value) → Prop} {X : Tx} {f t sc nc nh nv : Nat} {y : Nat → Int32} {w : Option (Nat × Nat)} (hW : RdW X f t sc nc nh nv y w σ)  (K : Q (some (.int (nI sc))) σ) : Wq xs (d + 0) ax_cd68 0 [(0, .ref 4)] [] σ Q := by
  have hW0 := hW
  obtain ⟨⟨fpl, h3⟩, h4, hsc, hnc, hnh, hnv, hsh, ⟨s, n15, fk, fp, fn, fm, h15, h17, h18, h19, h20, hs, ek, ep, en, em, el, e35⟩, ht, hr, hf⟩ := hW0
  have hk35 := e35 t
  have hts := el t ht hr
  refine wq_go rfl (fun _ => rfl) ?_
  refine wq_getf rfl (by first | rfl | assumption) (by first | decide | omega | assumption) h4 rfl ?_
  refine wq_iret rfl ?_
  exact K
theorem c_aimAny {xs : List Int32} {d : Nat} {σ : Nat → List Value} {Q : Option Value → (Nat → List Value) → Prop} {x : Int32} {X : Tx} {f t sc nc nh nv : Nat} {y : Nat → Int32} {w : Option (Nat × Nat)} (hW : RdW X f t sc nc nh nv y w σ) {j v : Nat} (hj : j < 10000)  (K : ∀ σ', Fr xE σ σ' → RdW X f t sc nc nh nv y w σ' → Q none σ') : Wq xs (d + 0) ax_cd73 0 [(0, .ref 4), (1, .int (nI j)), (2, .int x)] [] σ Q := by
  have hW0 := hW
  obtain ⟨⟨fpl, h3⟩, h4, hsc, hnc, hnh, hnv, hsh, ⟨s, n15, fk, fp, fn, fm, h15, h17, h18, h19, h20, hs, ek, ep, en, em, el, e35⟩, ht, hr, hf⟩ := hW0
  have hk35 := e35 t
  have hts := el t ht hr
  refine wq_go rfl (fun _ => rfl) ?_
  refine wq_zlt rfl (by first | omega | decide | exact Nat.lt_of_le_of_lt Nat.and_le_right (by decide) | exact ⟨by omega, by omega⟩) (fun c => absurd c (by omega)) (fun c1 => ?_)
  refine wq_go rfl (fun _ => rfl) ?_
  refine wq_go rfl (fun _ => rfl) ?_
  refine wq_getf rfl (by first | rfl | assumption) (by first | decide | omega | assumption) h4 rfl ?_
  refine wq_alen rfl (by first | rfl | assumption) (by first | decide | omega | assumption) rfl (shp_g hsh (by decide) : IsA σ 11 408) (arr_len _ _) ?_
  refine wq_cge rfl (by first | omega | decide | exact Nat.lt_of_le_of_lt Nat.and_le_right (by decide) | exact ⟨by omega, by omega⟩) (by first | omega | decide | exact Nat.lt_of_le_of_lt Nat.and_le_right (by decide) | exact ⟨by omega, by omega⟩) (fun c6 => ?_) (fun c6 => ?_)
  · skip
    refine wq_end rfl (fun _ => rfl) ?_
    first | exact K _ (fr_refl _ _) hW | exact K _ (fr_up (fr_refl xE _) rfl) (rdw_11 hW)
  · skip
    refine wq_go rfl (fun _ => rfl) ?_
    refine wq_getf rfl (by first | rfl | assumption) (by first | decide | omega | assumption) h4 rfl ?_
    refine wq_go rfl (fun _ => rfl) ?_
    refine wq_go rfl (fun _ => rfl) ?_
    refine wq_cN (m := 3) rfl rfl ?_
    refine wq_go rfl (fun _ => rfl) ?_
    refine wq_cN (m := 6) rfl rfl ?_
    refine wq_go rfl (fun _ => rfl) ?_
    refine wq_iast rfl (by first | rfl | assumption) (by first | decide | omega | assumption) (shp_g hsh (by decide) : IsA σ 11 408) rfl (by omega) (by first | decide | omega) ?_
    refine wq_end rfl (fun _ => rfl) ?_
    first | exact K _ (fr_refl _ _) hW | exact K _ (fr_up (fr_refl xE _) rfl) (rdw_11 hW)
theorem c_aim {xs : List Int32} {d : Nat} {σ : Nat → List Value} {Q : Option Value → (Nat → List Value) → Prop} {X : Tx} {f t sc nc nh nv : Nat} {y : Nat → Int32} {w : Option (Nat × Nat)} (hW : RdW X f t sc nc nh nv y w σ) {j v : Nat} (hj : j < 408) (hv : v < 10000)  (K : ∀ σ', Fr xE σ σ' → RdW X f t sc nc nh nv y w σ' → ag σ' 11 j = nI (8 * v + 6) → (∀ i, i < 408 → ¬ i = j → ag σ' 11 i = ag σ 11 i) → Q none σ') : Wq xs (d + 0) ax_cd73 0 [(0, .ref 4), (1, .int (nI j)), (2, .int (nI v))] [] σ Q := by
  have hW0 := hW
  obtain ⟨⟨fpl, h3⟩, h4, hsc, hnc, hnh, hnv, hsh, ⟨s, n15, fk, fp, fn, fm, h15, h17, h18, h19, h20, hs, ek, ep, en, em, el, e35⟩, ht, hr, hf⟩ := hW0
  have hk35 := e35 t
  have hts := el t ht hr
  refine wq_go rfl (fun _ => rfl) ?_
  refine wq_zlt rfl (by first | omega | decide | exact Nat.lt_of_le_of_lt Nat.and_le_right (by decide) | exact ⟨by omega, by omega⟩) (fun c => absurd c (by omega)) (fun c1 => ?_)
  refine wq_go rfl (fun _ => rfl) ?_
  refine wq_go rfl (fun _ => rfl) ?_
  refine wq_getf rfl (by first | rfl | assumption) (by first | decide | omega | assumption) h4 rfl ?_
  refine wq_alen rfl (by first | rfl | assumption) (by first | decide | omega | assumption) rfl (shp_g hsh (by decide) : IsA σ 11 408) (arr_len _ _) ?_
  refine wq_cge rfl (by first | omega | decide | exact Nat.lt_of_le_of_lt Nat.and_le_right (by decide) | exact ⟨by omega, by omega⟩) (by first | omega | decide | exact Nat.lt_of_le_of_lt Nat.and_le_right (by decide) | exact ⟨by omega, by omega⟩) (fun c => absurd c (by omega)) (fun c6 => ?_)
  refine wq_go rfl (fun _ => rfl) ?_
  refine wq_getf rfl (by first | rfl | assumption) (by first | decide | omega | assumption) h4 rfl ?_
  refine wq_go rfl (fun _ => rfl) ?_
  refine wq_go rfl (fun _ => rfl) ?_
  refine wq_cN (m := 3) rfl rfl ?_
  refine wq_shlN rfl (by first | decide | omega) (by omega) ?_
  refine wq_cN (m := 6) rfl rfl ?_
  refine wq_orN rfl ?_
  refine wq_iast rfl (by first | rfl | assumption) (by first | decide | omega | assumption) (shp_g hsh (by decide) : IsA σ 11 408) rfl (by omega) (by first | decide | omega) ?_
  refine wq_end rfl (fun _ => rfl) ?_
  refine K _ (fr_up (fr_refl xE _) rfl) (rdw_11 hW) ?_ (fun i hi hne => ?_)
  · rw [ag_in (up_same _ _ _) hj]
    simp only [upd, if_true]
    rw [or8 (by decide)]
  · rw [ag_in (up_same _ _ _) hi]
    simp only [upd]
    rw [if_neg hne]
theorem c_if {xs : List Int32} {d : Nat} {σ : Nat → List Value} {Q : Option Value → (Nat → List Value) → Prop} {X : Tx} {t sc nc nh nv : Nat} {y : Nat → Int32} {w : Option (Nat × Nat)} (hW : RdW X 0 t sc nc nh nv y w σ) (hv : ∀ i, Xv X i < 10000) (hop : sc ≤ 8 + t)  (K1 : ∀ t' a b c σ', ifX X t = .inr (t', a, b, c) → t < t' → a.length + b.length + c.length + 2 ≤ t' - t → Fr xE σ σ' → RdW X 0 t' (sc + a.length + b.length + c.length + 2) nc nh nv y w σ' → codeAt (ag σ' 11) sc (a ++ (b ++ ((6, sc + a.length + b.length + c.length + 2) :: (c ++ [(7, 0)])))) → (∀ i, i < sc → ag σ' 11 i = ag σ 11 i) → Q none σ') (K0 : ∀ f' t' sc' σ', ifX X t = er f' t' → ¬ f' = 0 → Fr xE σ σ' → RdW X f' t' sc' nc nh nv y w σ' → Q none σ') : Wq xs (d + 22) ax_cd69 0 [(0, .ref 3)] [] σ Q := by
  have hW0 := hW
  obtain ⟨⟨fpl, h3⟩, h4, hsc, hnc, hnh, hnv, hsh, ⟨s, n15, fk, fp, fn, fm, h15, h17, h18, h19, h20, hs, ek, ep, en, em, el, e35⟩, ht, hr, hf⟩ := hW0
  have hk35 := e35 t
  have hts := el t ht hr
  refine wq_go rfl (fun _ => rfl) ?_
  refine wq_cN (m := 11) rfl rfl ?_
  refine wq_callV rfl rfl (by first | rfl | assumption) (by first | decide | omega | assumption) (Nat.le_of_ble_eq_true rfl) (Nat.le_of_ble_eq_true rfl) rfl rfl ?_
  refine c_acc hW (by decide) (fun t1 σ1 m1 q1 k1 F1 W1 => ?_) (fun f1 σ1 m1 n1 u1 F1 W1 => ?_)
  · have y1 : t1 ≤ 400 := W1.2.2.2.2.2.2.2.2.1
    refine wq_go rfl (fun _ => rfl) ?_
    refine wq_go rfl (fun _ => rfl) ?_
    refine wq_cN (m := 0) rfl rfl ?_
    refine wq_callV rfl rfl (by first | rfl | assumption) (by first | decide | omega | assumption) (Nat.le_of_ble_eq_true rfl) (Nat.le_of_ble_eq_true rfl) rfl rfl ?_
    refine c_ex W1 hv (by omega) (fun t2 c2 σ2 e2 l2 b2 F2 W2 d2 p2 => ?_) (fun f2 t2 s2 σ2 e2 n2 F2 W2 => ?_)
    · have y2 : t2 ≤ 400 := W2.2.2.2.2.2.2.2.2.1
      refine wq_go rfl (fun _ => rfl) ?_
      refine wq_cN (m := 31) rfl rfl ?_
      refine wq_callV rfl rfl (by first | rfl | assumption) (by first | decide | omega | assumption) (Nat.le_of_ble_eq_true rfl) (Nat.le_of_ble_eq_true rfl) rfl rfl ?_
      refine c_acc W2 (by decide) (fun t3 σ3 m3 q3 k3 F3 W3 => ?_) (fun f3 σ3 m3 n3 u3 F3 W3 => ?_)
      · have y3 : t3 ≤ 400 := W3.2.2.2.2.2.2.2.2.1
        refine wq_go rfl (fun _ => rfl) ?_
        refine wq_go rfl (fun _ => rfl) ?_
        refine wq_cN (m := 0) rfl rfl ?_
        refine wq_callV rfl rfl (by first | rfl | assumption) (by first | decide | omega | assumption) (Nat.le_of_ble_eq_true rfl) (Nat.le_of_ble_eq_true rfl) rfl rfl ?_
        refine c_ex W3 hv (by omega) (fun t4 c4 σ4 e4 l4 b4 F4 W4 d4 p4 => ?_) (fun f4 t4 s4 σ4 e4 n4 F4 W4 => ?_)
        · have y4 : t4 ≤ 400 := W4.2.2.2.2.2.2.2.2.1
          refine wq_go rfl (fun _ => rfl) ?_
          refine wq_cN (m := 12) rfl rfl ?_
          refine wq_callV rfl rfl (by first | rfl | assumption) (by first | decide | omega | assumption) (Nat.le_of_ble_eq_true rfl) (Nat.le_of_ble_eq_true rfl) rfl rfl ?_
          refine c_acc W4 (by decide) (fun t5 σ5 m5 q5 k5 F5 W5 => ?_) (fun f5 σ5 m5 n5 u5 F5 W5 => ?_)
          · have y5 : t5 ≤ 400 := W5.2.2.2.2.2.2.2.2.1
            refine wq_go rfl (fun _ => rfl) ?_
            refine wq_go rfl (fun _ => rfl) ?_
            refine wq_getf rfl (by first | rfl | assumption) (by first | decide | omega | assumption) (Classical.choose_spec W5.1) rfl ?_
            refine wq_callV rfl rfl (by first | rfl | assumption) (by first | decide | omega | assumption) (Nat.le_of_ble_eq_true rfl) (Nat.le_of_ble_eq_true rfl) rfl rfl ?_
            have hs20 := W5.2.2.1
            refine c_stc W5 ?_
            refine wq_go rfl (fun _ => rfl) ?_
            refine wq_go rfl (fun _ => rfl) ?_
            refine wq_getf rfl (by first | rfl | assumption) (by first | decide | omega | assumption) (Classical.choose_spec W5.1) rfl ?_
            refine wq_cN (m := 6) rfl rfl ?_
            refine wq_cN (m := 0) rfl rfl ?_
            refine wq_callV rfl rfl (by first | rfl | assumption) (by first | decide | omega | assumption) (Nat.le_of_ble_eq_true rfl) (Nat.le_of_ble_eq_true rfl) rfl rfl ?_
            refine c_add W5 (by decide) (by decide) (by omega) (fun σ6 F6 W6 a6 p6 => ?_)
            refine wq_go rfl (fun _ => rfl) ?_
            refine wq_cN (m := 0) rfl rfl ?_
            refine wq_callV rfl rfl (by first | rfl | assumption) (by first | decide | omega | assumption) (Nat.le_of_ble_eq_true rfl) (Nat.le_of_ble_eq_true rfl) rfl rfl ?_
            refine c_ex W6 hv (by omega) (fun t7 c7 σ7 e7 l7 b7 F7 W7 d7 p7 => ?_) (fun f7 t7 s7 σ7 e7 n7 F7 W7 => ?_)
            · have y7 : t7 ≤ 400 := W7.2.2.2.2.2.2.2.2.1
              refine wq_go rfl (fun _ => rfl) ?_
              refine wq_getf rfl (by first | rfl | assumption) (by first | decide | omega | assumption) (Classical.choose_spec W7.1) rfl ?_
              refine wq_cN (m := 7) rfl rfl ?_
              refine wq_cN (m := 0) rfl rfl ?_
              refine wq_callV rfl rfl (by first | rfl | assumption) (by first | decide | omega | assumption) (Nat.le_of_ble_eq_true rfl) (Nat.le_of_ble_eq_true rfl) rfl rfl ?_
              refine c_add W7 (by decide) (by decide) (by omega) (fun σ8 F8 W8 a8 p8 => ?_)
              refine wq_go rfl (fun _ => rfl) ?_
              refine wq_cN (m := 13) rfl rfl ?_
              refine wq_callV rfl rfl (by first | rfl | assumption) (by first | decide | omega | assumption) (Nat.le_of_ble_eq_true rfl) (Nat.le_of_ble_eq_true rfl) rfl rfl ?_
              refine c_acc W8 (by decide) (fun t9 σ9 m9 q9 k9 F9 W9 => ?_) (fun f9 σ9 m9 n9 u9 F9 W9 => ?_)
              · have y9 : t9 ≤ 400 := W9.2.2.2.2.2.2.2.2.1
                refine wq_go rfl (fun _ => rfl) ?_
                refine wq_go rfl (fun _ => rfl) ?_
                refine wq_getf rfl (by first | rfl | assumption) (by first | decide | omega | assumption) (Classical.choose_spec W9.1) rfl ?_
                refine wq_go rfl (fun _ => rfl) ?_
                refine wq_go rfl (fun _ => rfl) ?_
                refine wq_getf rfl (by first | rfl | assumption) (by first | decide | omega | assumption) (Classical.choose_spec W9.1) rfl ?_
                refine wq_callV rfl rfl (by first | rfl | assumption) (by first | decide | omega | assumption) (Nat.le_of_ble_eq_true rfl) (Nat.le_of_ble_eq_true rfl) rfl rfl ?_
                have hs44 := W9.2.2.1
                refine c_stc W9 ?_
                refine wq_callV rfl rfl (by first | rfl | assumption) (by first | decide | omega | assumption) (Nat.le_of_ble_eq_true rfl) (Nat.le_of_ble_eq_true rfl) rfl rfl ?_
                refine c_aim W9 (by omega) (by omega) (fun σ10 F10 W10 a10 p10 => ?_)
                refine wq_end rfl (fun _ => rfl) ?_
                have z : ∀ i, i < sc + c2.length + c4.length + 1 + c7.length + 1 → ¬ i = sc + c2.length + c4.length → ag σ10 11 i = ag σ8 11 i := fun i h1 h2 => (p10 i (by omega) h2).trans (ag_eq (F9 11 rfl) i)
                have zc : ∀ i, i < sc + c2.length + c4.length + 1 + c7.length → ¬ i = sc + c2.length + c4.length → ag σ10 11 i = ag σ7 11 i := fun i h1 h2 => (z i (by omega) h2).trans (p8 i h1)
                have zb : ∀ i, i < sc + c2.length + c4.length → ag σ10 11 i = ag σ4 11 i := fun i h1 => (zc i (by omega) (by omega)).trans ((p7 i (by omega)).trans ((p6 i h1).trans (ag_eq (F5 11 rfl) i)))
                have za : ∀ i, i < sc + c2.length → ag σ10 11 i = ag σ2 11 i := fun i h1 => (zb i (by omega)).trans ((p4 i h1).trans (ag_eq (F3 11 rfl) i))
                have W10' : RdW X 0 t9 (sc + c2.length + c4.length + c7.length + 2) nc nh nv y w σ10 := by
                  rw [show sc + c2.length + c4.length + c7.length + 2 = sc + c2.length + c4.length + 1 + c7.length + 1 by omega]
                  exact W10
                refine K1 t9 c2 c4 c7 σ10 (by simp only [ifX, m1, e2, m3, e4, m5, e7, m9, bnd_o, bnd_e]) (by omega) (by omega) (fr_trans (fr_trans (fr_trans (fr_trans (fr_trans (fr_trans (fr_trans (fr_trans (fr_trans (f3E F1) F2) (f3E F3)) F4) (f3E F5)) F6) F7) F8) (f3E F9)) F10) W10' ?_ (fun i hi => (za i (by omega)).trans ((p2 i hi).trans (ag_eq (F1 11 rfl) i)))
                refine cd_app c2 _ sc (codeAt_ext c2 sc d2 (fun i h1 h2 => za i h2)) (cd_app c4 _ _ (codeAt_ext c4 _ d4 (fun i h1 h2 => zb i h2)) ⟨?_, cd_app c7 _ _ (codeAt_ext c7 _ d7 (fun i h1 h2 => zc i h2 (by omega))) ⟨?_, trivial⟩⟩)
                · rw [a10]
                  congr 1
                  omega
                · exact (z _ (by omega) (by omega)).trans a8
              · have f9 : f9 < 10 := W9.2.2.2.2.2.2.2.2.2.2
                refine wq_go rfl (fun _ => rfl) ?_
                refine wq_go rfl (fun _ => rfl) ?_
                refine wq_getf rfl (by first | rfl | assumption) (by first | decide | omega | assumption) (Classical.choose_spec W9.1) rfl ?_
                refine wq_go rfl (fun _ => rfl) ?_
                refine wq_go rfl (fun _ => rfl) ?_
                refine wq_getf rfl (by first | rfl | assumption) (by first | decide | omega | assumption) (Classical.choose_spec W9.1) rfl ?_
                refine wq_callV rfl rfl (by first | rfl | assumption) (by first | decide | omega | assumption) (Nat.le_of_ble_eq_true rfl) (Nat.le_of_ble_eq_true rfl) rfl rfl ?_
                have hs44 := W9.2.2.1
                refine c_stc W9 ?_
                refine wq_callV rfl rfl (by first | rfl | assumption) (by first | decide | omega | assumption) (Nat.le_of_ble_eq_true rfl) (Nat.le_of_ble_eq_true rfl) rfl rfl ?_
                refine c_aimAny (v := 0) W9 (by omega) (fun σ10 F10 W10 => ?_)
                refine wq_end rfl (fun _ => rfl) ?_
                exact K0 _ _ _ _ (by simp only [ifX, m1, e2, m3, e4, m5, e7, m9, bnd_o, bnd_e]) n9 (fr_trans (fr_trans (fr_trans (fr_trans (fr_trans (fr_trans (fr_trans (fr_trans (fr_trans (f3E F1) F2) (f3E F3)) F4) (f3E F5)) F6) F7) F8) (f3E F9)) F10) W10
            · have f9 : f7 < 10 := W7.2.2.2.2.2.2.2.2.2.2
              refine wq_go rfl (fun _ => rfl) ?_
              refine wq_getf rfl (by first | rfl | assumption) (by first | decide | omega | assumption) (Classical.choose_spec W7.1) rfl ?_
              refine wq_cN (m := 7) rfl rfl ?_
              refine wq_cN (m := 0) rfl rfl ?_
              refine wq_callV rfl rfl (by first | rfl | assumption) (by first | decide | omega | assumption) (Nat.le_of_ble_eq_true rfl) (Nat.le_of_ble_eq_true rfl) rfl rfl ?_
              refine c_addAny W7 (fun s8 σ8 F8 W8 => ?_)
              refine wq_go rfl (fun _ => rfl) ?_
              refine wq_cN (m := 13) rfl rfl ?_
              refine wq_callV rfl rfl (by first | rfl | assumption) (by first | decide | omega | assumption) (Nat.le_of_ble_eq_true rfl) (Nat.le_of_ble_eq_true rfl) rfl rfl ?_
              refine c_acc_e W8 n7 ?_
              refine wq_go rfl (fun _ => rfl) ?_
              refine wq_go rfl (fun _ => rfl) ?_
              refine wq_getf rfl (by first | rfl | assumption) (by first | decide | omega | assumption) (Classical.choose_spec W8.1) rfl ?_
              refine wq_go rfl (fun _ => rfl) ?_
              refine wq_go rfl (fun _ => rfl) ?_
              refine wq_getf rfl (by first | rfl | assumption) (by first | decide | omega | assumption) (Classical.choose_spec W8.1) rfl ?_
              refine wq_callV rfl rfl (by first | rfl | assumption) (by first | decide | omega | assumption) (Nat.le_of_ble_eq_true rfl) (Nat.le_of_ble_eq_true rfl) rfl rfl ?_
              have hs44 := W8.2.2.1
              refine c_stc W8 ?_
              refine wq_callV rfl rfl (by first | rfl | assumption) (by first | decide | omega | assumption) (Nat.le_of_ble_eq_true rfl) (Nat.le_of_ble_eq_true rfl) rfl rfl ?_
              refine c_aimAny (v := 0) W8 (by omega) (fun σ10 F10 W10 => ?_)
              refine wq_end rfl (fun _ => rfl) ?_
              exact K0 _ _ _ _ (by simp only [ifX, m1, e2, m3, e4, m5, e7, bnd_o, bnd_e]) n7 (fr_trans (fr_trans (fr_trans (fr_trans (fr_trans (fr_trans (fr_trans (fr_trans (f3E F1) F2) (f3E F3)) F4) (f3E F5)) F6) F7) F8) F10) W10
          · have f9 : f5 < 10 := W5.2.2.2.2.2.2.2.2.2.2
            refine wq_go rfl (fun _ => rfl) ?_
            refine wq_go rfl (fun _ => rfl) ?_
            refine wq_getf rfl (by first | rfl | assumption) (by first | decide | omega | assumption) (Classical.choose_spec W5.1) rfl ?_
            refine wq_callV rfl rfl (by first | rfl | assumption) (by first | decide | omega | assumption) (Nat.le_of_ble_eq_true rfl) (Nat.le_of_ble_eq_true rfl) rfl rfl ?_
            have hs20 := W5.2.2.1
            refine c_stc W5 ?_
            refine wq_go rfl (fun _ => rfl) ?_
            refine wq_go rfl (fun _ => rfl) ?_
            refine wq_getf rfl (by first | rfl | assumption) (by first | decide | omega | assumption) (Classical.choose_spec W5.1) rfl ?_
            refine wq_cN (m := 6) rfl rfl ?_
            refine wq_cN (m := 0) rfl rfl ?_
            refine wq_callV rfl rfl (by first | rfl | assumption) (by first | decide | omega | assumption) (Nat.le_of_ble_eq_true rfl) (Nat.le_of_ble_eq_true rfl) rfl rfl ?_
            refine c_addAny W5 (fun s6 σ6 F6 W6 => ?_)
            refine wq_go rfl (fun _ => rfl) ?_
            refine wq_cN (m := 0) rfl rfl ?_
            refine wq_callV rfl rfl (by first | rfl | assumption) (by first | decide | omega | assumption) (Nat.le_of_ble_eq_true rfl) (Nat.le_of_ble_eq_true rfl) rfl rfl ?_
            refine c_sum_e (dd := 0) W6 n5 (by decide) (fun s7 σ7 F7 W7 => ?_)
            refine wq_go rfl (fun _ => rfl) ?_
            refine wq_getf rfl (by first | rfl | assumption) (by first | decide | omega | assumption) (Classical.choose_spec W7.1) rfl ?_
            refine wq_cN (m := 7) rfl rfl ?_
            refine wq_cN (m := 0) rfl rfl ?_
            refine wq_callV rfl rfl (by first | rfl | assumption) (by first | decide | omega | assumption) (Nat.le_of_ble_eq_true rfl) (Nat.le_of_ble_eq_true rfl) rfl rfl ?_
            refine c_addAny W7 (fun s8 σ8 F8 W8 => ?_)
            refine wq_go rfl (fun _ => rfl) ?_
            refine wq_cN (m := 13) rfl rfl ?_
            refine wq_callV rfl rfl (by first | rfl | assumption) (by first | decide | omega | assumption) (Nat.le_of_ble_eq_true rfl) (Nat.le_of_ble_eq_true rfl) rfl rfl ?_
            refine c_acc_e W8 n5 ?_
            refine wq_go rfl (fun _ => rfl) ?_
            refine wq_go rfl (fun _ => rfl) ?_
            refine wq_getf rfl (by first | rfl | assumption) (by first | decide | omega | assumption) (Classical.choose_spec W8.1) rfl ?_
            refine wq_go rfl (fun _ => rfl) ?_
            refine wq_go rfl (fun _ => rfl) ?_
            refine wq_getf rfl (by first | rfl | assumption) (by first | decide | omega | assumption) (Classical.choose_spec W8.1) rfl ?_
            refine wq_callV rfl rfl (by first | rfl | assumption) (by first | decide | omega | assumption) (Nat.le_of_ble_eq_true rfl) (Nat.le_of_ble_eq_true rfl) rfl rfl ?_
            have hs44 := W8.2.2.1
            refine c_stc W8 ?_
            refine wq_callV rfl rfl (by first | rfl | assumption) (by first | decide | omega | assumption) (Nat.le_of_ble_eq_true rfl) (Nat.le_of_ble_eq_true rfl) rfl rfl ?_
            refine c_aimAny (v := 0) W8 (by omega) (fun σ10 F10 W10 => ?_)
            refine wq_end rfl (fun _ => rfl) ?_
            exact K0 _ _ _ _ (by simp only [ifX, m1, e2, m3, e4, m5, bnd_o, bnd_e]) n5 (fr_trans (fr_trans (fr_trans (fr_trans (fr_trans (fr_trans (fr_trans (fr_trans (f3E F1) F2) (f3E F3)) F4) (f3E F5)) F6) F7) F8) F10) W10
        · have f9 : f4 < 10 := W4.2.2.2.2.2.2.2.2.2.2
          refine wq_go rfl (fun _ => rfl) ?_
          refine wq_cN (m := 12) rfl rfl ?_
          refine wq_callV rfl rfl (by first | rfl | assumption) (by first | decide | omega | assumption) (Nat.le_of_ble_eq_true rfl) (Nat.le_of_ble_eq_true rfl) rfl rfl ?_
          refine c_acc_e W4 n4 ?_
          refine wq_go rfl (fun _ => rfl) ?_
          refine wq_go rfl (fun _ => rfl) ?_
          refine wq_getf rfl (by first | rfl | assumption) (by first | decide | omega | assumption) (Classical.choose_spec W4.1) rfl ?_
          refine wq_callV rfl rfl (by first | rfl | assumption) (by first | decide | omega | assumption) (Nat.le_of_ble_eq_true rfl) (Nat.le_of_ble_eq_true rfl) rfl rfl ?_
          have hs20 := W4.2.2.1
          refine c_stc W4 ?_
          refine wq_go rfl (fun _ => rfl) ?_
          refine wq_go rfl (fun _ => rfl) ?_
          refine wq_getf rfl (by first | rfl | assumption) (by first | decide | omega | assumption) (Classical.choose_spec W4.1) rfl ?_
          refine wq_cN (m := 6) rfl rfl ?_
          refine wq_cN (m := 0) rfl rfl ?_
          refine wq_callV rfl rfl (by first | rfl | assumption) (by first | decide | omega | assumption) (Nat.le_of_ble_eq_true rfl) (Nat.le_of_ble_eq_true rfl) rfl rfl ?_
          refine c_addAny W4 (fun s6 σ6 F6 W6 => ?_)
          refine wq_go rfl (fun _ => rfl) ?_
          refine wq_cN (m := 0) rfl rfl ?_
          refine wq_callV rfl rfl (by first | rfl | assumption) (by first | decide | omega | assumption) (Nat.le_of_ble_eq_true rfl) (Nat.le_of_ble_eq_true rfl) rfl rfl ?_
          refine c_sum_e (dd := 0) W6 n4 (by decide) (fun s7 σ7 F7 W7 => ?_)
          refine wq_go rfl (fun _ => rfl) ?_
          refine wq_getf rfl (by first | rfl | assumption) (by first | decide | omega | assumption) (Classical.choose_spec W7.1) rfl ?_
          refine wq_cN (m := 7) rfl rfl ?_
          refine wq_cN (m := 0) rfl rfl ?_
          refine wq_callV rfl rfl (by first | rfl | assumption) (by first | decide | omega | assumption) (Nat.le_of_ble_eq_true rfl) (Nat.le_of_ble_eq_true rfl) rfl rfl ?_
          refine c_addAny W7 (fun s8 σ8 F8 W8 => ?_)
          refine wq_go rfl (fun _ => rfl) ?_
          refine wq_cN (m := 13) rfl rfl ?_
          refine wq_callV rfl rfl (by first | rfl | assumption) (by first | decide | omega | assumption) (Nat.le_of_ble_eq_true rfl) (Nat.le_of_ble_eq_true rfl) rfl rfl ?_
          refine c_acc_e W8 n4 ?_
          refine wq_go rfl (fun _ => rfl) ?_
          refine wq_go rfl (fun _ => rfl) ?_
          refine wq_getf rfl (by first | rfl | assumption) (by first | decide | omega | assumption) (Classical.choose_spec W8.1) rfl ?_
          refine wq_go rfl (fun _ => rfl) ?_
          refine wq_go rfl (fun _ => rfl) ?_
          refine wq_getf rfl (by first | rfl | assumption) (by first | decide | omega | assumption) (Classical.choose_spec W8.1) rfl ?_
          refine wq_callV rfl rfl (by first | rfl | assumption) (by first | decide | omega | assumption) (Nat.le_of_ble_eq_true rfl) (Nat.le_of_ble_eq_true rfl) rfl rfl ?_
          have hs44 := W8.2.2.1
          refine c_stc W8 ?_
          refine wq_callV rfl rfl (by first | rfl | assumption) (by first | decide | omega | assumption) (Nat.le_of_ble_eq_true rfl) (Nat.le_of_ble_eq_true rfl) rfl rfl ?_
          refine c_aimAny (v := 0) W8 (by omega) (fun σ10 F10 W10 => ?_)
          refine wq_end rfl (fun _ => rfl) ?_
          exact K0 _ _ _ _ (by simp only [ifX, m1, e2, m3, e4, bnd_o, bnd_e]) n4 (fr_trans (fr_trans (fr_trans (fr_trans (fr_trans (fr_trans (fr_trans (f3E F1) F2) (f3E F3)) F4) F6) F7) F8) F10) W10
      · have f9 : f3 < 10 := W3.2.2.2.2.2.2.2.2.2.2
        refine wq_go rfl (fun _ => rfl) ?_
        refine wq_go rfl (fun _ => rfl) ?_
        refine wq_cN (m := 0) rfl rfl ?_
        refine wq_callV rfl rfl (by first | rfl | assumption) (by first | decide | omega | assumption) (Nat.le_of_ble_eq_true rfl) (Nat.le_of_ble_eq_true rfl) rfl rfl ?_
        refine c_sum_e (dd := 0) W3 n3 (by decide) (fun s4 σ4 F4 W4 => ?_)
        refine wq_go rfl (fun _ => rfl) ?_
        refine wq_cN (m := 12) rfl rfl ?_
        refine wq_callV rfl rfl (by first | rfl | assumption) (by first | decide | omega | assumption) (Nat.le_of_ble_eq_true rfl) (Nat.le_of_ble_eq_true rfl) rfl rfl ?_
        refine c_acc_e W4 n3 ?_
        refine wq_go rfl (fun _ => rfl) ?_
        refine wq_go rfl (fun _ => rfl) ?_
        refine wq_getf rfl (by first | rfl | assumption) (by first | decide | omega | assumption) (Classical.choose_spec W4.1) rfl ?_
        refine wq_callV rfl rfl (by first | rfl | assumption) (by first | decide | omega | assumption) (Nat.le_of_ble_eq_true rfl) (Nat.le_of_ble_eq_true rfl) rfl rfl ?_
        have hs20 := W4.2.2.1
        refine c_stc W4 ?_
        refine wq_go rfl (fun _ => rfl) ?_
        refine wq_go rfl (fun _ => rfl) ?_
        refine wq_getf rfl (by first | rfl | assumption) (by first | decide | omega | assumption) (Classical.choose_spec W4.1) rfl ?_
        refine wq_cN (m := 6) rfl rfl ?_
        refine wq_cN (m := 0) rfl rfl ?_
        refine wq_callV rfl rfl (by first | rfl | assumption) (by first | decide | omega | assumption) (Nat.le_of_ble_eq_true rfl) (Nat.le_of_ble_eq_true rfl) rfl rfl ?_
        refine c_addAny W4 (fun s6 σ6 F6 W6 => ?_)
        refine wq_go rfl (fun _ => rfl) ?_
        refine wq_cN (m := 0) rfl rfl ?_
        refine wq_callV rfl rfl (by first | rfl | assumption) (by first | decide | omega | assumption) (Nat.le_of_ble_eq_true rfl) (Nat.le_of_ble_eq_true rfl) rfl rfl ?_
        refine c_sum_e (dd := 0) W6 n3 (by decide) (fun s7 σ7 F7 W7 => ?_)
        refine wq_go rfl (fun _ => rfl) ?_
        refine wq_getf rfl (by first | rfl | assumption) (by first | decide | omega | assumption) (Classical.choose_spec W7.1) rfl ?_
        refine wq_cN (m := 7) rfl rfl ?_
        refine wq_cN (m := 0) rfl rfl ?_
        refine wq_callV rfl rfl (by first | rfl | assumption) (by first | decide | omega | assumption) (Nat.le_of_ble_eq_true rfl) (Nat.le_of_ble_eq_true rfl) rfl rfl ?_
        refine c_addAny W7 (fun s8 σ8 F8 W8 => ?_)
        refine wq_go rfl (fun _ => rfl) ?_
        refine wq_cN (m := 13) rfl rfl ?_
        refine wq_callV rfl rfl (by first | rfl | assumption) (by first | decide | omega | assumption) (Nat.le_of_ble_eq_true rfl) (Nat.le_of_ble_eq_true rfl) rfl rfl ?_
        refine c_acc_e W8 n3 ?_
        refine wq_go rfl (fun _ => rfl) ?_
        refine wq_go rfl (fun _ => rfl) ?_
        refine wq_getf rfl (by first | rfl | assumption) (by first | decide | omega | assumption) (Classical.choose_spec W8.1) rfl ?_
        refine wq_go rfl (fun _ => rfl) ?_
        refine wq_go rfl (fun _ => rfl) ?_
        refine wq_getf rfl (by first | rfl | assumption) (by first | decide | omega | assumption) (Classical.choose_spec W8.1) rfl ?_
        refine wq_callV rfl rfl (by first | rfl | assumption) (by first | decide | omega | assumption) (Nat.le_of_ble_eq_true rfl) (Nat.le_of_ble_eq_true rfl) rfl rfl ?_
        have hs44 := W8.2.2.1
        refine c_stc W8 ?_
        refine wq_callV rfl rfl (by first | rfl | assumption) (by first | decide | omega | assumption) (Nat.le_of_ble_eq_true rfl) (Nat.le_of_ble_eq_true rfl) rfl rfl ?_
        refine c_aimAny (v := 0) W8 (by omega) (fun σ10 F10 W10 => ?_)
        refine wq_end rfl (fun _ => rfl) ?_
        exact K0 _ _ _ _ (by simp only [ifX, m1, e2, m3, bnd_o, bnd_e]) n3 (fr_trans (fr_trans (fr_trans (fr_trans (fr_trans (fr_trans (fr_trans (f3E F1) F2) (f3E F3)) F4) F6) F7) F8) F10) W10
    · have f9 : f2 < 10 := W2.2.2.2.2.2.2.2.2.2.2
      refine wq_go rfl (fun _ => rfl) ?_
      refine wq_cN (m := 31) rfl rfl ?_
      refine wq_callV rfl rfl (by first | rfl | assumption) (by first | decide | omega | assumption) (Nat.le_of_ble_eq_true rfl) (Nat.le_of_ble_eq_true rfl) rfl rfl ?_
      refine c_acc_e W2 n2 ?_
      refine wq_go rfl (fun _ => rfl) ?_
      refine wq_go rfl (fun _ => rfl) ?_
      refine wq_cN (m := 0) rfl rfl ?_
      refine wq_callV rfl rfl (by first | rfl | assumption) (by first | decide | omega | assumption) (Nat.le_of_ble_eq_true rfl) (Nat.le_of_ble_eq_true rfl) rfl rfl ?_
      refine c_sum_e (dd := 0) W2 n2 (by decide) (fun s4 σ4 F4 W4 => ?_)
      refine wq_go rfl (fun _ => rfl) ?_
      refine wq_cN (m := 12) rfl rfl ?_
      refine wq_callV rfl rfl (by first | rfl | assumption) (by first | decide | omega | assumption) (Nat.le_of_ble_eq_true rfl) (Nat.le_of_ble_eq_true rfl) rfl rfl ?_
      refine c_acc_e W4 n2 ?_
      refine wq_go rfl (fun _ => rfl) ?_
      refine wq_go rfl (fun _ => rfl) ?_
      refine wq_getf rfl (by first | rfl | assumption) (by first | decide | omega | assumption) (Classical.choose_spec W4.1) rfl ?_
      refine wq_callV rfl rfl (by first | rfl | assumption) (by first | decide | omega | assumption) (Nat.le_of_ble_eq_true rfl) (Nat.le_of_ble_eq_true rfl) rfl rfl ?_
      have hs20 := W4.2.2.1
      refine c_stc W4 ?_
      refine wq_go rfl (fun _ => rfl) ?_
      refine wq_go rfl (fun _ => rfl) ?_
      refine wq_getf rfl (by first | rfl | assumption) (by first | decide | omega | assumption) (Classical.choose_spec W4.1) rfl ?_
      refine wq_cN (m := 6) rfl rfl ?_
      refine wq_cN (m := 0) rfl rfl ?_
      refine wq_callV rfl rfl (by first | rfl | assumption) (by first | decide | omega | assumption) (Nat.le_of_ble_eq_true rfl) (Nat.le_of_ble_eq_true rfl) rfl rfl ?_
      refine c_addAny W4 (fun s6 σ6 F6 W6 => ?_)
      refine wq_go rfl (fun _ => rfl) ?_
      refine wq_cN (m := 0) rfl rfl ?_
      refine wq_callV rfl rfl (by first | rfl | assumption) (by first | decide | omega | assumption) (Nat.le_of_ble_eq_true rfl) (Nat.le_of_ble_eq_true rfl) rfl rfl ?_
      refine c_sum_e (dd := 0) W6 n2 (by decide) (fun s7 σ7 F7 W7 => ?_)
      refine wq_go rfl (fun _ => rfl) ?_
      refine wq_getf rfl (by first | rfl | assumption) (by first | decide | omega | assumption) (Classical.choose_spec W7.1) rfl ?_
      refine wq_cN (m := 7) rfl rfl ?_
      refine wq_cN (m := 0) rfl rfl ?_
      refine wq_callV rfl rfl (by first | rfl | assumption) (by first | decide | omega | assumption) (Nat.le_of_ble_eq_true rfl) (Nat.le_of_ble_eq_true rfl) rfl rfl ?_
      refine c_addAny W7 (fun s8 σ8 F8 W8 => ?_)
      refine wq_go rfl (fun _ => rfl) ?_
      refine wq_cN (m := 13) rfl rfl ?_
      refine wq_callV rfl rfl (by first | rfl | assumption) (by first | decide | omega | assumption) (Nat.le_of_ble_eq_true rfl) (Nat.le_of_ble_eq_true rfl) rfl rfl ?_
      refine c_acc_e W8 n2 ?_
      refine wq_go rfl (fun _ => rfl) ?_
      refine wq_go rfl (fun _ => rfl) ?_
      refine wq_getf rfl (by first | rfl | assumption) (by first | decide | omega | assumption) (Classical.choose_spec W8.1) rfl ?_
      refine wq_go rfl (fun _ => rfl) ?_
      refine wq_go rfl (fun _ => rfl) ?_
      refine wq_getf rfl (by first | rfl | assumption) (by first | decide | omega | assumption) (Classical.choose_spec W8.1) rfl ?_
      refine wq_callV rfl rfl (by first | rfl | assumption) (by first | decide | omega | assumption) (Nat.le_of_ble_eq_true rfl) (Nat.le_of_ble_eq_true rfl) rfl rfl ?_
      have hs44 := W8.2.2.1
      refine c_stc W8 ?_
      refine wq_callV rfl rfl (by first | rfl | assumption) (by first | decide | omega | assumption) (Nat.le_of_ble_eq_true rfl) (Nat.le_of_ble_eq_true rfl) rfl rfl ?_
      refine c_aimAny (v := 0) W8 (by omega) (fun σ10 F10 W10 => ?_)
      refine wq_end rfl (fun _ => rfl) ?_
      exact K0 _ _ _ _ (by simp only [ifX, m1, e2, bnd_o, bnd_e]) n2 (fr_trans (fr_trans (fr_trans (fr_trans (fr_trans (fr_trans (f3E F1) F2) F4) F6) F7) F8) F10) W10
  · have f9 : f1 < 10 := W1.2.2.2.2.2.2.2.2.2.2
    refine wq_go rfl (fun _ => rfl) ?_
    refine wq_go rfl (fun _ => rfl) ?_
    refine wq_cN (m := 0) rfl rfl ?_
    refine wq_callV rfl rfl (by first | rfl | assumption) (by first | decide | omega | assumption) (Nat.le_of_ble_eq_true rfl) (Nat.le_of_ble_eq_true rfl) rfl rfl ?_
    refine c_sum_e (dd := 0) W1 n1 (by decide) (fun s2 σ2 F2 W2 => ?_)
    refine wq_go rfl (fun _ => rfl) ?_
    refine wq_cN (m := 31) rfl rfl ?_
    refine wq_callV rfl rfl (by first | rfl | assumption) (by first | decide | omega | assumption) (Nat.le_of_ble_eq_true rfl) (Nat.le_of_ble_eq_true rfl) rfl rfl ?_
    refine c_acc_e W2 n1 ?_
    refine wq_go rfl (fun _ => rfl) ?_
    refine wq_go rfl (fun _ => rfl) ?_
    refine wq_cN (m := 0) rfl rfl ?_
    refine wq_callV rfl rfl (by first | rfl | assumption) (by first | decide | omega | assumption) (Nat.le_of_ble_eq_true rfl) (Nat.le_of_ble_eq_true rfl) rfl rfl ?_
    refine c_sum_e (dd := 0) W2 n1 (by decide) (fun s4 σ4 F4 W4 => ?_)
    refine wq_go rfl (fun _ => rfl) ?_
    refine wq_cN (m := 12) rfl rfl ?_
    refine wq_callV rfl rfl (by first | rfl | assumption) (by first | decide | omega | assumption) (Nat.le_of_ble_eq_true rfl) (Nat.le_of_ble_eq_true rfl) rfl rfl ?_
    refine c_acc_e W4 n1 ?_
    refine wq_go rfl (fun _ => rfl) ?_
    refine wq_go rfl (fun _ => rfl) ?_
    refine wq_getf rfl (by first | rfl | assumption) (by first | decide | omega | assumption) (Classical.choose_spec W4.1) rfl ?_
    refine wq_callV rfl rfl (by first | rfl | assumption) (by first | decide | omega | assumption) (Nat.le_of_ble_eq_true rfl) (Nat.le_of_ble_eq_true rfl) rfl rfl ?_
    have hs20 := W4.2.2.1
    refine c_stc W4 ?_
    refine wq_go rfl (fun _ => rfl) ?_
    refine wq_go rfl (fun _ => rfl) ?_
    refine wq_getf rfl (by first | rfl | assumption) (by first | decide | omega | assumption) (Classical.choose_spec W4.1) rfl ?_
    refine wq_cN (m := 6) rfl rfl ?_
    refine wq_cN (m := 0) rfl rfl ?_
    refine wq_callV rfl rfl (by first | rfl | assumption) (by first | decide | omega | assumption) (Nat.le_of_ble_eq_true rfl) (Nat.le_of_ble_eq_true rfl) rfl rfl ?_
    refine c_addAny W4 (fun s6 σ6 F6 W6 => ?_)
    refine wq_go rfl (fun _ => rfl) ?_
    refine wq_cN (m := 0) rfl rfl ?_
    refine wq_callV rfl rfl (by first | rfl | assumption) (by first | decide | omega | assumption) (Nat.le_of_ble_eq_true rfl) (Nat.le_of_ble_eq_true rfl) rfl rfl ?_
    refine c_sum_e (dd := 0) W6 n1 (by decide) (fun s7 σ7 F7 W7 => ?_)
    refine wq_go rfl (fun _ => rfl) ?_
    refine wq_getf rfl (by first | rfl | assumption) (by first | decide | omega | assumption) (Classical.choose_spec W7.1) rfl ?_
    refine wq_cN (m := 7) rfl rfl ?_
    refine wq_cN (m := 0) rfl rfl ?_
    refine wq_callV rfl rfl (by first | rfl | assumption) (by first | decide | omega | assumption) (Nat.le_of_ble_eq_true rfl) (Nat.le_of_ble_eq_true rfl) rfl rfl ?_
    refine c_addAny W7 (fun s8 σ8 F8 W8 => ?_)
    refine wq_go rfl (fun _ => rfl) ?_
    refine wq_cN (m := 13) rfl rfl ?_
    refine wq_callV rfl rfl (by first | rfl | assumption) (by first | decide | omega | assumption) (Nat.le_of_ble_eq_true rfl) (Nat.le_of_ble_eq_true rfl) rfl rfl ?_
    refine c_acc_e W8 n1 ?_
    refine wq_go rfl (fun _ => rfl) ?_
    refine wq_go rfl (fun _ => rfl) ?_
    refine wq_getf rfl (by first | rfl | assumption) (by first | decide | omega | assumption) (Classical.choose_spec W8.1) rfl ?_
    refine wq_go rfl (fun _ => rfl) ?_
    refine wq_go rfl (fun _ => rfl) ?_
    refine wq_getf rfl (by first | rfl | assumption) (by first | decide | omega | assumption) (Classical.choose_spec W8.1) rfl ?_
    refine wq_callV rfl rfl (by first | rfl | assumption) (by first | decide | omega | assumption) (Nat.le_of_ble_eq_true rfl) (Nat.le_of_ble_eq_true rfl) rfl rfl ?_
    have hs44 := W8.2.2.1
    refine c_stc W8 ?_
    refine wq_callV rfl rfl (by first | rfl | assumption) (by first | decide | omega | assumption) (Nat.le_of_ble_eq_true rfl) (Nat.le_of_ble_eq_true rfl) rfl rfl ?_
    refine c_aimAny (v := 0) W8 (by omega) (fun σ10 F10 W10 => ?_)
    refine wq_end rfl (fun _ => rfl) ?_
    exact K0 _ _ _ _ (by simp only [ifX, m1, bnd_o, bnd_e]) n1 (fr_trans (fr_trans (fr_trans (fr_trans (fr_trans (fr_trans (f3E F1) F2) F4) F6) F7) F8) F10) W10
theorem c_if_e {xs : List Int32} {d : Nat} {σ : Nat → List Value} {Q : Option Value → (Nat → List Value) → Prop} {X : Tx} {f t sc nc nh nv : Nat} {y : Nat → Int32} {w : Option (Nat × Nat)} (hW : RdW X f t sc nc nh nv y w σ) (hf0 : ¬ f = 0)  (K : ∀ sc' σ', Fr xE σ σ' → RdW X f t sc' nc nh nv y w σ' → Q none σ') : Wq xs (d + 4) ax_cd69 0 [(0, .ref 3)] [] σ Q := by
  have hW0 := hW
  obtain ⟨⟨fpl, h3⟩, h4, hsc, hnc, hnh, hnv, hsh, ⟨s, n15, fk, fp, fn, fm, h15, h17, h18, h19, h20, hs, ek, ep, en, em, el, e35⟩, ht, hr, hf⟩ := hW0
  have hk35 := e35 t
  have hts := el t ht hr
  refine wq_go rfl (fun _ => rfl) ?_
  refine wq_cN (m := 11) rfl rfl ?_
  refine wq_callV rfl rfl (by first | rfl | assumption) (by first | decide | omega | assumption) (Nat.le_of_ble_eq_true rfl) (Nat.le_of_ble_eq_true rfl) rfl rfl ?_
  refine c_acc_e hW hf0 ?_
  refine wq_go rfl (fun _ => rfl) ?_
  refine wq_go rfl (fun _ => rfl) ?_
  refine wq_cN (m := 0) rfl rfl ?_
  refine wq_callV rfl rfl (by first | rfl | assumption) (by first | decide | omega | assumption) (Nat.le_of_ble_eq_true rfl) (Nat.le_of_ble_eq_true rfl) rfl rfl ?_
  refine c_sum_e (dd := 0) hW hf0 (by decide) (fun s2 σ2 F2 W2 => ?_)
  refine wq_go rfl (fun _ => rfl) ?_
  refine wq_cN (m := 31) rfl rfl ?_
  refine wq_callV rfl rfl (by first | rfl | assumption) (by first | decide | omega | assumption) (Nat.le_of_ble_eq_true rfl) (Nat.le_of_ble_eq_true rfl) rfl rfl ?_
  refine c_acc_e W2 hf0 ?_
  refine wq_go rfl (fun _ => rfl) ?_
  refine wq_go rfl (fun _ => rfl) ?_
  refine wq_cN (m := 0) rfl rfl ?_
  refine wq_callV rfl rfl (by first | rfl | assumption) (by first | decide | omega | assumption) (Nat.le_of_ble_eq_true rfl) (Nat.le_of_ble_eq_true rfl) rfl rfl ?_
  refine c_sum_e (dd := 0) W2 hf0 (by decide) (fun s4 σ4 F4 W4 => ?_)
  refine wq_go rfl (fun _ => rfl) ?_
  refine wq_cN (m := 12) rfl rfl ?_
  refine wq_callV rfl rfl (by first | rfl | assumption) (by first | decide | omega | assumption) (Nat.le_of_ble_eq_true rfl) (Nat.le_of_ble_eq_true rfl) rfl rfl ?_
  refine c_acc_e W4 hf0 ?_
  refine wq_go rfl (fun _ => rfl) ?_
  refine wq_go rfl (fun _ => rfl) ?_
  refine wq_getf rfl (by first | rfl | assumption) (by first | decide | omega | assumption) (Classical.choose_spec W4.1) rfl ?_
  refine wq_callV rfl rfl (by first | rfl | assumption) (by first | decide | omega | assumption) (Nat.le_of_ble_eq_true rfl) (Nat.le_of_ble_eq_true rfl) rfl rfl ?_
  have hs20 := W4.2.2.1
  refine c_stc W4 ?_
  refine wq_go rfl (fun _ => rfl) ?_
  refine wq_go rfl (fun _ => rfl) ?_
  refine wq_getf rfl (by first | rfl | assumption) (by first | decide | omega | assumption) (Classical.choose_spec W4.1) rfl ?_
  refine wq_cN (m := 6) rfl rfl ?_
  refine wq_cN (m := 0) rfl rfl ?_
  refine wq_callV rfl rfl (by first | rfl | assumption) (by first | decide | omega | assumption) (Nat.le_of_ble_eq_true rfl) (Nat.le_of_ble_eq_true rfl) rfl rfl ?_
  refine c_addAny W4 (fun s6 σ6 F6 W6 => ?_)
  refine wq_go rfl (fun _ => rfl) ?_
  refine wq_cN (m := 0) rfl rfl ?_
  refine wq_callV rfl rfl (by first | rfl | assumption) (by first | decide | omega | assumption) (Nat.le_of_ble_eq_true rfl) (Nat.le_of_ble_eq_true rfl) rfl rfl ?_
  refine c_sum_e (dd := 0) W6 hf0 (by decide) (fun s7 σ7 F7 W7 => ?_)
  refine wq_go rfl (fun _ => rfl) ?_
  refine wq_getf rfl (by first | rfl | assumption) (by first | decide | omega | assumption) (Classical.choose_spec W7.1) rfl ?_
  refine wq_cN (m := 7) rfl rfl ?_
  refine wq_cN (m := 0) rfl rfl ?_
  refine wq_callV rfl rfl (by first | rfl | assumption) (by first | decide | omega | assumption) (Nat.le_of_ble_eq_true rfl) (Nat.le_of_ble_eq_true rfl) rfl rfl ?_
  refine c_addAny W7 (fun s8 σ8 F8 W8 => ?_)
  refine wq_go rfl (fun _ => rfl) ?_
  refine wq_cN (m := 13) rfl rfl ?_
  refine wq_callV rfl rfl (by first | rfl | assumption) (by first | decide | omega | assumption) (Nat.le_of_ble_eq_true rfl) (Nat.le_of_ble_eq_true rfl) rfl rfl ?_
  refine c_acc_e W8 hf0 ?_
  refine wq_go rfl (fun _ => rfl) ?_
  refine wq_go rfl (fun _ => rfl) ?_
  refine wq_getf rfl (by first | rfl | assumption) (by first | decide | omega | assumption) (Classical.choose_spec W8.1) rfl ?_
  refine wq_go rfl (fun _ => rfl) ?_
  refine wq_go rfl (fun _ => rfl) ?_
  refine wq_getf rfl (by first | rfl | assumption) (by first | decide | omega | assumption) (Classical.choose_spec W8.1) rfl ?_
  refine wq_callV rfl rfl (by first | rfl | assumption) (by first | decide | omega | assumption) (Nat.le_of_ble_eq_true rfl) (Nat.le_of_ble_eq_true rfl) rfl rfl ?_
  have hs44 := W8.2.2.1
  refine c_stc W8 ?_
  refine wq_callV rfl rfl (by first | rfl | assumption) (by first | decide | omega | assumption) (Nat.le_of_ble_eq_true rfl) (Nat.le_of_ble_eq_true rfl) rfl rfl ?_
  refine c_aimAny (v := 0) W8 (by omega) (fun σ10 F10 W10 => ?_)
  refine wq_end rfl (fun _ => rfl) ?_
  exact K _ _ (fr_trans (fr_trans (fr_trans (fr_trans (fr_trans F2 F4) F6) F7) F8) F10) W10
