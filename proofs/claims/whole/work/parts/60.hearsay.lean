/-! HEARSAY -/
/-- how many, of which chair, thought, how much, whether so -/
abbrev Tl : Type := Nat × (Nat → Nat) × (Nat → Nat) × (Nat → Nat) × (Nat → Nat)
def Tn (T : Tl) : Nat := T.1
def Tc (T : Tl) : Nat → Nat := T.2.1
def Tt (T : Tl) : Nat → Nat := T.2.2.1
def Ta (T : Tl) : Nat → Nat := T.2.2.2.1
def Ts (T : Tl) : Nat → Nat := T.2.2.2.2
def Tok (P : Pl) (T : Tl) : Prop := Tn T ≤ 20 ∧ ∀ i, i < Tn T → Tc T i < Pch P ∧ Tt T i < 4 ∧ Ta T i ≤ 999 ∧ Ts T i < 2
def HsIs (σ : Nat → List Value) (T : Tl) : Prop := σ 63 = [.ref 21, .ref 30, .ref 35, .ref 64, .ref 65, .ref 66, .ref 67, .int (nI (Tn T))] ∧ σ 64 = arrN 20 (Tc T) ∧ σ 65 = arrN 20 (Tt T) ∧ σ 66 = arrN 20 (Ta T) ∧ σ 67 = arrN 20 (Ts T)
theorem hs_fr {σ σ' : Nat → List Value} {T : Tl} {X : Nat → Bool} (h : HsIs σ T) (hF : Fr X σ σ') (hX : ∀ p, 63 ≤ p → p ≤ 67 → X p = false) : HsIs σ' T := by
  obtain ⟨h0, h1, h2, h3, h4⟩ := h
  exact ⟨(hF 63 (hX 63 (by omega) (by omega))).trans h0, (hF 64 (hX 64 (by omega) (by omega))).trans h1, (hF 65 (hX 65 (by omega) (by omega))).trans h2, (hF 66 (hX 66 (by omega) (by omega))).trans h3, (hF 67 (hX 67 (by omega) (by omega))).trans h4⟩
theorem xsc_hi {p : Nat} (h : 35 ≤ p) : xsc p = false := by
  have a2 : (p == 33) = false := by simp; omega
  have a3 : (p == 34) = false := by simp; omega
  simp [xsc, a2, a3]
theorem hs_sc {σ σ' : Nat → List Value} {T : Tl} (h : HsIs σ T) (hF : Fr xsc σ σ') : HsIs σ' T := hs_fr h hF (fun p h1 _ => xsc_hi (by omega))
def tlAdd (T : Tl) (c t a s : Nat) : Tl := (Tn T + 1, updN (Tc T) (Tn T) c, updN (Tt T) (Tn T) t, updN (Ta T) (Tn T) a, updN (Ts T) (Tn T) s)
def lvB (P : Pl) (S : St) (c t a h : Nat) : Bool := decide ((a : Int) ≤ (Ssq S (c * 4 + t) : Int) - gainZ P S h c t)
def lfB (P : Pl) (S : St) (T : Tl) : Nat → Nat → Bool
  | 0, _ => true
  | u + 1, h => lfB P S T u h && (lvB P S (Tc T u) (Tt T u) (Ta T u) h == decide (Ts T u ≠ 0))
def leftN (P : Pl) (S : St) (T : Tl) (k : Nat) : Nat := bset (lfB P S T k) (Phd P)
theorem nat_ext {x y : Nat} (h : ∀ j, x.testBit j = y.testBit j) : x = y := Nat.eq_of_testBit_eq h
theorem bset_and (f g : Nat → Bool) (n : Nat) : bset f n &&& bset g n = bset (fun h => f h && g h) n := by
  apply nat_ext
  intro j
  rw [Nat.testBit_and, bset_bit, bset_bit, bset_bit]
  cases decide (j < n) <;> cases f j <;> cases g j <;> rfl
theorem bset_andn (f g : Nat → Bool) (n : Nat) : bset f n &&& (bset f n ^^^ bset g n) = bset (fun h => f h && !g h) n := by
  apply nat_ext
  intro j
  rw [Nat.testBit_and, Nat.testBit_xor, bset_bit, bset_bit, bset_bit]
  cases decide (j < n) <;> cases f j <;> cases g j <;> rfl
theorem bset_all : ∀ n, n ≤ 5 → bset (fun _ => true) n = 2 ^ n - 1 := by decide
theorem andn32 : ∀ x, x < 32 → ∀ y, y < 32 → nI x &&& (nI y ^^^ (-1)) = nI (x &&& (x ^^^ y)) := by decide +kernel
theorem bset_32 (f : Nat → Bool) {n : Nat} (h : n ≤ 5) : bset f n < 32 := Nat.lt_of_lt_of_le (bset_lt f n) (Nat.pow_le_pow_right (by decide) h)
def uu (x : Int32) (k : Nat) : Int32 := (x.toUInt32 >>> ((nI k).toUInt32 &&& Int32.toUInt32 31)).toInt32
def bc1 (x : Int32) : Int32 := x - (uu x 1 &&& nI 1431655765)
def bc2 (x : Int32) : Int32 := (x &&& nI 858993459) + (uu x 2 &&& nI 858993459)
def bc3 (x : Int32) : Int32 := (x + uu x 4) &&& nI 252645135
def bc4 (x : Int32) : Int32 := x + uu x 8
def bc5 (x : Int32) : Int32 := x + uu x 16
def bcI (x : Int32) : Int32 := bc5 (bc4 (bc3 (bc2 (bc1 x)))) &&& nI 63
def pc (x : Nat) : Nat := x % 2 + x / 2 % 2 + x / 4 % 2 + x / 8 % 2 + x / 16 % 2
theorem bc_all : ∀ x, x < 32 → bcI (nI x) = nI (pc x) := by decide +kernel
theorem pc_le (x : Nat) : pc x ≤ 5 := by
  unfold pc
  omega

theorem wq_baldN {xs : List Int32} {d : Nat} {cd : List ax_I} {i a b k m n : Nat} {lv : ax_L} {r : List Value} {σ : Nat → List Value} {Q : Option Value → (Nat → List Value) → Prop} {v : Value} {t : List (Int × Nat)} {f : Nat → Nat} {j : Int32} {ty : FieldType} (h : cd[i]? = some (27, a, b, v, t)) (hk : kd k = .inl ty) (hty : ty = .byte ∨ ty = .boolean) (hl : k < 331) (hs : σ k = arrN n f) (hj : j = nI m) (hm : m < n) (hn : n < 2 ^ 31) (K : Wq xs d cd (i + 1) lv (.int (nI (f m)) :: r) σ Q) : Wq xs d cd i lv (.int j :: .ref k :: r) σ Q := wq_bald h hk hty hl hs hj hm hn K
theorem wq_bastN {xs : List Int32} {d : Nat} {cd : List ax_I} {i a b k m n x : Nat} {lv : ax_L} {r : List Value} {σ : Nat → List Value} {Q : Option Value → (Nat → List Value) → Prop} {v : Value} {t : List (Int × Nat)} {f : Nat → Nat} {j : Int32} {ty : FieldType} (h : cd[i]? = some (31, a, b, v, t)) (hk : kd k = .inl ty) (hty : ty = .byte ∨ ty = .boolean) (hl : k < 331) (hs : σ k = arrN n f) (hx : vp_nar ty (nI x) = nI x) (hj : j = nI m) (hm : m < n) (hn : n < 2 ^ 31) (K : Wq xs d cd (i + 1) lv r (up σ k (arrN n (updN f m x))) Q) : Wq xs d cd i lv (.int (nI x) :: .int j :: .ref k :: r) σ Q := by
  rw [← arrN_upd, ← hx] at K
  exact wq_bast h hk hty hl hs hj hm hn K
theorem nar_b {x : Nat} (h : x < 2) : vp_nar .boolean (nI x) = nI x := by
  match x, h with
  | 0, _ => rfl
  | 1, _ => rfl
def xHs : Nat → Bool := fun j => Nat.ble 63 j && Nat.ble j 67
theorem max_nI {p q : Nat} (hp : p < 2 ^ 31) (hq : q < 2 ^ 31) : (if nI p < nI q then nI q else nI p) = nI (max p q) := by
  by_cases h : p < q
  · rw [if_pos ((nI_ltI hp hq).mpr h), Nat.max_eq_right (by omega)]
  · rw [if_neg (fun e => h ((nI_ltI hp hq).mp e)), Nat.max_eq_left (by omega)]
theorem min_nI {p q : Nat} (hp : p < 2 ^ 31) (hq : q < 2 ^ 31) : (if nI q < nI p then nI q else nI p) = nI (min p q) := by
  by_cases h : q < p
  · rw [if_pos ((nI_ltI hq hp).mpr h), Nat.min_eq_right (by omega)]
  · rw [if_neg (fun e => h ((nI_ltI hq hp).mp e)), Nat.min_eq_left (by omega)]

theorem c_Integer_bitCount {xs : List Int32} {d : Nat} {σ : Nat → List Value} {Q : Option Value → (Nat → List Value) → Prop} {x : Nat} (hx : x < 32) (K : Q (some (.int (nI (pc x)))) σ) : Wq xs (d + 0) ax_cd199 0 [(0, .int (nI x))] [] σ Q := by
  refine wq_go rfl (fun _ => rfl) ?_
  refine wq_go rfl (fun _ => rfl) ?_
  refine wq_cN (m := 1) rfl rfl ?_
  refine wq_go rfl (fun _ => rfl) ?_
  refine wq_cN (m := 1431655765) rfl rfl ?_
  refine wq_go rfl (fun _ => rfl) ?_
  refine wq_go rfl (fun _ => rfl) ?_
  refine wq_go rfl (fun _ => rfl) ?_
  refine wq_go rfl (fun _ => rfl) ?_
  refine wq_cN (m := 858993459) rfl rfl ?_
  refine wq_go rfl (fun _ => rfl) ?_
  refine wq_go rfl (fun _ => rfl) ?_
  refine wq_cN (m := 2) rfl rfl ?_
  refine wq_go rfl (fun _ => rfl) ?_
  refine wq_cN (m := 858993459) rfl rfl ?_
  refine wq_go rfl (fun _ => rfl) ?_
  refine wq_go rfl (fun _ => rfl) ?_
  refine wq_go rfl (fun _ => rfl) ?_
  refine wq_go rfl (fun _ => rfl) ?_
  refine wq_go rfl (fun _ => rfl) ?_
  refine wq_cN (m := 4) rfl rfl ?_
  refine wq_go rfl (fun _ => rfl) ?_
  refine wq_go rfl (fun _ => rfl) ?_
  refine wq_cN (m := 252645135) rfl rfl ?_
  refine wq_go rfl (fun _ => rfl) ?_
  refine wq_go rfl (fun _ => rfl) ?_
  refine wq_go rfl (fun _ => rfl) ?_
  refine wq_go rfl (fun _ => rfl) ?_
  refine wq_cN (m := 8) rfl rfl ?_
  refine wq_go rfl (fun _ => rfl) ?_
  refine wq_go rfl (fun _ => rfl) ?_
  refine wq_go rfl (fun _ => rfl) ?_
  refine wq_go rfl (fun _ => rfl) ?_
  refine wq_go rfl (fun _ => rfl) ?_
  refine wq_cN (m := 16) rfl rfl ?_
  refine wq_go rfl (fun _ => rfl) ?_
  refine wq_go rfl (fun _ => rfl) ?_
  refine wq_go rfl (fun _ => rfl) ?_
  refine wq_go rfl (fun _ => rfl) ?_
  refine wq_cN (m := 63) rfl rfl ?_
  refine wq_go rfl (fun _ => rfl) ?_
  refine wq_iret rfl ?_
  show Q (some (.int (bcI (nI x)))) σ
  rw [bc_all x hx]
  exact K
theorem kk35 : kd 35 = .inr 7 := rfl
theorem c_leave_l {xs : List Int32} {d : Nat} {σ : Nat → List Value} {Q : Option Value → (Nat → List Value) → Prop} {S : St} {P : Pl} (hP : Pok P) (hok : Sok S) {T : Tl} {c t a : Nat} (hc : c < Pch P) (ht : t < 4) (ha : a ≤ 999) (K : ∀ σ', Fr xsc σ σ' → CW P σ' → Q (some (.int (nI (bset (lvB P S c t a) (Phd P))))) σ') : ∀ (m u : Nat), m + u = Phd P → ∀ σ1, Fr xsc σ σ1 → CW P σ1 → StIs σ1 35 S → HsIs σ1 T → Wq xs (d + 3) ax_cd198 4 [(5, .int (nI u)), (4, .int (nI (bset (lvB P S c t a) u))), (0, .ref 63), (1, .int (nI c)), (2, .int (nI t)), (3, .int (nI a))] [] σ1 Q := by
  have hP' := hP
  obtain ⟨hP1, hP2, hP3, hP4, hP5, hP6, hP7, hP8, hPv, hPm, hPo, hPw, hPl⟩ := hP'
  intro m
  induction m with
  | zero =>
    intro u hm σ1 hF1 hC1 hS1 hH1
    refine wq_go rfl (fun _ => rfl) ?_
    refine wq_go rfl (fun _ => rfl) ?_
    refine wq_getf rfl (by first | rfl | assumption) (by first | decide | omega | assumption) hH1.1 rfl ?_
    refine wq_getf rfl (by first | rfl | assumption) (by first | decide | omega | assumption) (cw_c21 hC1) rfl ?_
    refine wq_cge rfl (by first | omega | decide | exact Nat.lt_of_le_of_lt Nat.and_le_right (by decide) | exact ⟨by omega, by omega⟩) (by first | omega | decide | exact Nat.lt_of_le_of_lt Nat.and_le_right (by decide) | exact ⟨by omega, by omega⟩) (fun c8 => ?_) (fun c => absurd (show _ from by omega) c)
    refine wq_go rfl (fun _ => rfl) ?_
    refine wq_iret rfl ?_
    rw [show u = Phd P by omega]
    exact K _ hF1 hC1
  | succ m ih =>
    intro u hm σ1 hF1 hC1 hS1 hH1
    have hgb := gain_bd P hok (h := u) (c := c) (t := t) (by omega) (by omega) ht
    have hbs := sq_le hok (i := c * 4 + t) (by omega)
    have hbo := ow_le hok (i := u * 4 + t) (by omega)
    refine wq_go rfl (fun _ => rfl) ?_
    refine wq_go rfl (fun _ => rfl) ?_
    refine wq_getf rfl (by first | rfl | assumption) (by first | decide | omega | assumption) hH1.1 rfl ?_
    refine wq_getf rfl (by first | rfl | assumption) (by first | decide | omega | assumption) (cw_c21 hC1) rfl ?_
    refine wq_cge rfl (by first | omega | decide | exact Nat.lt_of_le_of_lt Nat.and_le_right (by decide) | exact ⟨by omega, by omega⟩) (by first | omega | decide | exact Nat.lt_of_le_of_lt Nat.and_le_right (by decide) | exact ⟨by omega, by omega⟩) (fun c => absurd c (by omega)) (fun c8 => ?_)
    refine wq_go rfl (fun _ => rfl) ?_
    refine wq_getf rfl (by first | rfl | assumption) (by first | decide | omega | assumption) hH1.1 rfl ?_
    refine wq_go rfl (fun _ => rfl) ?_
    refine wq_go rfl (fun _ => rfl) ?_
    refine wq_callV rfl rfl (by first | rfl | assumption) (by first | decide | omega | assumption) (Nat.le_of_ble_eq_true rfl) (Nat.le_of_ble_eq_true rfl) rfl rfl ?_
    refine c_State_cloth kk35 hS1 (by omega) (by omega) ?_
    refine wq_go rfl (fun _ => rfl) ?_
    refine wq_getf rfl (by first | rfl | assumption) (by first | decide | omega | assumption) hH1.1 rfl ?_
    refine wq_go rfl (fun _ => rfl) ?_
    refine wq_getf rfl (by first | rfl | assumption) (by first | decide | omega | assumption) hH1.1 rfl ?_
    refine wq_go rfl (fun _ => rfl) ?_
    refine wq_go rfl (fun _ => rfl) ?_
    refine wq_go rfl (fun _ => rfl) ?_
    refine wq_callV rfl rfl (by first | rfl | assumption) (by first | decide | omega | assumption) (Nat.le_of_ble_eq_true rfl) (Nat.le_of_ble_eq_true rfl) rfl rfl ?_
    refine c_House_gainOf kk35 hS1 hC1 hok (by omega) hc ht (fun σ7 F7 C7 => ?_)
    have S7 := st_sc kk35 F7 hS1
    have H7 := hs_sc hH1 F7
    refine wq_subZ rfl (nI_z _) rfl ?_
    refine wq_go rfl (fun _ => rfl) ?_
    refine wq_go rfl (fun _ => rfl) ?_
    refine wq_go rfl (fun _ => rfl) ?_
    refine wq_go rfl (fun _ => rfl) ?_
    refine wq_dlt rfl rfl (nI_z _) (by first | omega | decide | exact Nat.lt_of_le_of_lt Nat.and_le_right (by decide) | exact ⟨by omega, by omega⟩) (by first | omega | decide | exact Nat.lt_of_le_of_lt Nat.and_le_right (by decide) | exact ⟨by omega, by omega⟩) (fun c27 => ?_) (fun c27 => ?_)
    · skip
      refine wq_cN (m := 0) rfl rfl ?_
      refine wq_orN rfl ?_
      refine wq_go rfl (fun _ => rfl) ?_
      refine wq_incN rfl rfl rfl ?_
      refine wq_go rfl (fun _ => rfl) ?_
      first | rw [← bset_t (f := lvB P S c t a) (decide_eq_true (by omega))] | rw [← bset_f (f := lvB P S c t a) (fun e => absurd (of_decide_eq_true e) (by omega))]
      exact wq_lv ⟨(by decide : ([5, 4, 6, 0, 1, 2, 3] : List Nat).Nodup), (lvm (List.mem_of_getElem? (i := 0) rfl) (lvm (List.mem_of_getElem? (i := 1) rfl) (lvm (List.mem_of_getElem? (i := 3) rfl) (lvm (List.mem_of_getElem? (i := 4) rfl) (lvm (List.mem_of_getElem? (i := 5) rfl) (lvm (List.mem_of_getElem? (i := 6) rfl) lvn))))))⟩ (ih (u + 1) (by omega) _ (fr_trans hF1 F7) C7 S7 H7)
    · skip
      refine wq_cN (m := 1) rfl rfl ?_
      refine wq_go rfl (fun _ => rfl) ?_
      refine wq_shl1 rfl (by first | decide | omega) ?_
      refine wq_go rfl (fun _ => rfl) ?_
      refine wq_orN rfl ?_
      refine wq_go rfl (fun _ => rfl) ?_
      refine wq_incN rfl rfl rfl ?_
      refine wq_go rfl (fun _ => rfl) ?_
      first | rw [← bset_t (f := lvB P S c t a) (decide_eq_true (by omega))] | rw [← bset_f (f := lvB P S c t a) (fun e => absurd (of_decide_eq_true e) (by omega))]
      exact wq_lv ⟨(by decide : ([5, 4, 6, 0, 1, 2, 3] : List Nat).Nodup), (lvm (List.mem_of_getElem? (i := 0) rfl) (lvm (List.mem_of_getElem? (i := 1) rfl) (lvm (List.mem_of_getElem? (i := 3) rfl) (lvm (List.mem_of_getElem? (i := 4) rfl) (lvm (List.mem_of_getElem? (i := 5) rfl) (lvm (List.mem_of_getElem? (i := 6) rfl) lvn))))))⟩ (ih (u + 1) (by omega) _ (fr_trans hF1 F7) C7 S7 H7)
theorem c_Hearsay_headsThatLeave {xs : List Int32} {d : Nat} {σ : Nat → List Value} {Q : Option Value → (Nat → List Value) → Prop} {S : St} (hS : StIs σ 35 S) {P : Pl} (hC : CW P σ) (hok : Sok S) {T : Tl} (hH : HsIs σ T) {c t a : Nat} (hc : c < Pch P) (ht : t < 4) (ha : a ≤ 999) (K : ∀ σ', Fr xsc σ σ' → CW P σ' → Q (some (.int (nI (bset (lvB P S c t a) (Phd P))))) σ') : Wq xs (d + 3) ax_cd198 0 [(0, .ref 63), (1, .int (nI c)), (2, .int (nI t)), (3, .int (nI a))] [] σ Q := by
  refine wq_cN (m := 0) rfl rfl ?_
  refine wq_go rfl (fun _ => rfl) ?_
  refine wq_cN (m := 0) rfl rfl ?_
  refine wq_go rfl (fun _ => rfl) ?_
  exact c_leave_l (cw_pok hC) hok hc ht ha K (Phd P) 0 rfl σ (fr_refl _ _) hC hS hH
theorem lf_t {P : Pl} {S : St} {T : Tl} {u n : Nat} (h : Ts T u ≠ 0) : bset (lfB P S T u) n &&& bset (lvB P S (Tc T u) (Tt T u) (Ta T u)) n = bset (lfB P S T (u + 1)) n := by
  rw [bset_and]
  apply bset_congr
  intro j _
  show _ = (lfB P S T u j && (lvB P S (Tc T u) (Tt T u) (Ta T u) j == decide (Ts T u ≠ 0)))
  rw [decide_eq_true h]
  cases lvB P S (Tc T u) (Tt T u) (Ta T u) j <;> rfl
theorem lf_f {P : Pl} {S : St} {T : Tl} {u n : Nat} (h : Ts T u = 0) (hn : n ≤ 5) : nI (bset (lfB P S T u) n) &&& (nI (bset (lvB P S (Tc T u) (Tt T u) (Ta T u)) n) ^^^ (-1)) = nI (bset (lfB P S T (u + 1)) n) := by
  rw [andn32 _ (bset_32 _ hn) _ (bset_32 _ hn), bset_andn]
  congr 1
  apply bset_congr
  intro j _
  show _ = (lfB P S T u j && (lvB P S (Tc T u) (Tt T u) (Ta T u) j == decide (Ts T u ≠ 0)))
  rw [decide_eq_false (fun e => e h)]
  cases lvB P S (Tc T u) (Tt T u) (Ta T u) j <;> rfl
theorem c_left_l {xs : List Int32} {d : Nat} {σ : Nat → List Value} {Q : Option Value → (Nat → List Value) → Prop} {S : St} {P : Pl} (hP : Pok P) (hok : Sok S) {T : Tl} (hT : Tok P T) {k : Nat} (hk : k ≤ Tn T) (K : ∀ σ', Fr xsc σ σ' → CW P σ' → Q (some (.int (nI (leftN P S T k)))) σ') : ∀ (m u : Nat), m + u = k → ∀ σ1, Fr xsc σ σ1 → CW P σ1 → StIs σ1 35 S → HsIs σ1 T → Wq xs (d + 4) ax_cd197 10 [(3, .int (nI u)), (2, .int (nI (bset (lfB P S T u) (Phd P)))), (0, .ref 63), (1, .int (nI k))] [] σ1 Q := by
  have hP' := hP
  obtain ⟨hP1, hP2, hP3, hP4, hP5, hP6, hP7, hP8, hPv, hPm, hPo, hPw, hPl⟩ := hP'
  have hT0 := hT.1
  intro m
  induction m with
  | zero =>
    intro u hm σ1 hF1 hC1 hS1 hH1
    refine wq_go rfl (fun _ => rfl) ?_
    refine wq_go rfl (fun _ => rfl) ?_
    refine wq_cge rfl (by first | omega | decide | exact Nat.lt_of_le_of_lt Nat.and_le_right (by decide) | exact ⟨by omega, by omega⟩) (by first | omega | decide | exact Nat.lt_of_le_of_lt Nat.and_le_right (by decide) | exact ⟨by omega, by omega⟩) (fun c12 => ?_) (fun c => absurd (show _ from by omega) c)
    refine wq_go rfl (fun _ => rfl) ?_
    refine wq_iret rfl ?_
    have hu : u = k := by omega
    subst hu
    exact K _ hF1 hC1
  | succ m ih =>
    intro u hm σ1 hF1 hC1 hS1 hH1
    obtain ⟨hT1, hT2, hT3, hT4⟩ := hT.2 u (by omega)
    refine wq_go rfl (fun _ => rfl) ?_
    refine wq_go rfl (fun _ => rfl) ?_
    refine wq_cge rfl (by first | omega | decide | exact Nat.lt_of_le_of_lt Nat.and_le_right (by decide) | exact ⟨by omega, by omega⟩) (by first | omega | decide | exact Nat.lt_of_le_of_lt Nat.and_le_right (by decide) | exact ⟨by omega, by omega⟩) (fun c => absurd c (by omega)) (fun c12 => ?_)
    refine wq_go rfl (fun _ => rfl) ?_
    refine wq_go rfl (fun _ => rfl) ?_
    refine wq_getf rfl (by first | rfl | assumption) (by first | decide | omega | assumption) hH1.1 rfl ?_
    refine wq_cge rfl (by first | omega | decide | exact Nat.lt_of_le_of_lt Nat.and_le_right (by decide) | exact ⟨by omega, by omega⟩) (by first | omega | decide | exact Nat.lt_of_le_of_lt Nat.and_le_right (by decide) | exact ⟨by omega, by omega⟩) (fun c => absurd c (by omega)) (fun c16 => ?_)
    refine wq_go rfl (fun _ => rfl) ?_
    refine wq_cN (m := 20) rfl rfl ?_
    refine wq_cge rfl (by first | omega | decide | exact Nat.lt_of_le_of_lt Nat.and_le_right (by decide) | exact ⟨by omega, by omega⟩) (by first | omega | decide | exact Nat.lt_of_le_of_lt Nat.and_le_right (by decide) | exact ⟨by omega, by omega⟩) (fun c => absurd c (by omega)) (fun c19 => ?_)
    refine wq_go rfl (fun _ => rfl) ?_
    refine wq_go rfl (fun _ => rfl) ?_
    refine wq_getf rfl (by first | rfl | assumption) (by first | decide | omega | assumption) hH1.1 rfl ?_
    refine wq_go rfl (fun _ => rfl) ?_
    refine wq_ialdN rfl (by first | rfl | assumption) (by first | decide | omega | assumption) hH1.2.1 rfl (by omega) (by first | decide | omega) ?_
    refine wq_go rfl (fun _ => rfl) ?_
    refine wq_getf rfl (by first | rfl | assumption) (by first | decide | omega | assumption) hH1.1 rfl ?_
    refine wq_go rfl (fun _ => rfl) ?_
    refine wq_ialdN rfl (by first | rfl | assumption) (by first | decide | omega | assumption) hH1.2.2.1 rfl (by omega) (by first | decide | omega) ?_
    refine wq_go rfl (fun _ => rfl) ?_
    refine wq_getf rfl (by first | rfl | assumption) (by first | decide | omega | assumption) hH1.1 rfl ?_
    refine wq_go rfl (fun _ => rfl) ?_
    refine wq_ialdN rfl (by first | rfl | assumption) (by first | decide | omega | assumption) hH1.2.2.2.1 rfl (by omega) (by first | decide | omega) ?_
    refine wq_callV rfl rfl (by first | rfl | assumption) (by first | decide | omega | assumption) (Nat.le_of_ble_eq_true rfl) (Nat.le_of_ble_eq_true rfl) rfl rfl ?_
    refine c_Hearsay_headsThatLeave hS1 hC1 hok hH1 hT1 hT2 hT3 (fun σ6 F6 C6 => ?_)
    have S6 := st_sc kk35 F6 hS1
    have H6 := hs_sc hH1 F6
    refine wq_go rfl (fun _ => rfl) ?_
    refine wq_go rfl (fun _ => rfl) ?_
    refine wq_go rfl (fun _ => rfl) ?_
    refine wq_getf rfl (by first | rfl | assumption) (by first | decide | omega | assumption) H6.1 rfl ?_
    refine wq_go rfl (fun _ => rfl) ?_
    refine wq_baldN rfl (by first | rfl | assumption) (Or.inr rfl) (by first | decide | omega | assumption) H6.2.2.2.2 rfl (by omega) (by first | decide | omega) ?_
    refine wq_zeq rfl (by first | omega | decide | exact Nat.lt_of_le_of_lt Nat.and_le_right (by decide) | exact ⟨by omega, by omega⟩) (fun c40 => ?_) (fun c40 => ?_)
    · skip
      refine wq_go rfl (fun _ => rfl) ?_
      refine wq_go rfl (fun _ => rfl) ?_
      refine wq_go rfl (fun _ => rfl) ?_
      refine wq_go rfl (fun _ => rfl) ?_
      refine wq_go rfl (fun _ => rfl) ?_
      refine wq_incN rfl rfl rfl ?_
      refine wq_go rfl (fun _ => rfl) ?_
      first | rw [lf_t (by omega)] | rw [lf_f (by omega) hP2]
      exact wq_lv ⟨(by decide : ([3, 2, 4, 0, 1] : List Nat).Nodup), (lvm (List.mem_of_getElem? (i := 0) rfl) (lvm (List.mem_of_getElem? (i := 1) rfl) (lvm (List.mem_of_getElem? (i := 3) rfl) (lvm (List.mem_of_getElem? (i := 4) rfl) lvn))))⟩ (ih (u + 1) (by omega) _ (fr_trans hF1 F6) C6 S6 H6)
    · skip
      refine wq_go rfl (fun _ => rfl) ?_
      refine wq_go rfl (fun _ => rfl) ?_
      refine wq_andN rfl ?_
      refine wq_go rfl (fun _ => rfl) ?_
      refine wq_incN rfl rfl rfl ?_
      refine wq_go rfl (fun _ => rfl) ?_
      first | rw [lf_t (by omega)] | rw [lf_f (by omega) hP2]
      exact wq_lv ⟨(by decide : ([3, 2, 4, 0, 1] : List Nat).Nodup), (lvm (List.mem_of_getElem? (i := 0) rfl) (lvm (List.mem_of_getElem? (i := 1) rfl) (lvm (List.mem_of_getElem? (i := 3) rfl) (lvm (List.mem_of_getElem? (i := 4) rfl) lvn))))⟩ (ih (u + 1) (by omega) _ (fr_trans hF1 F6) C6 S6 H6)
theorem c_Hearsay_headsLeft {xs : List Int32} {d : Nat} {σ : Nat → List Value} {Q : Option Value → (Nat → List Value) → Prop} {S : St} (hS : StIs σ 35 S) {P : Pl} (hC : CW P σ) (hok : Sok S) {T : Tl} (hH : HsIs σ T) (hT : Tok P T) {k : Nat} (hk : k ≤ Tn T) (K : ∀ σ', Fr xsc σ σ' → CW P σ' → Q (some (.int (nI (leftN P S T k)))) σ') : Wq xs (d + 4) ax_cd197 0 [(0, .ref 63), (1, .int (nI k))] [] σ Q := by
  have hPk := cw_pok hC
  obtain ⟨hP1, hP2, hP3, hP4, hP5, hP6, hP7, hP8, hPv, hPm, hPo, hPw, hPl⟩ := hPk
  refine wq_cN (m := 1) rfl rfl ?_
  refine wq_go rfl (fun _ => rfl) ?_
  refine wq_getf rfl (by first | rfl | assumption) (by first | decide | omega | assumption) hH.1 rfl ?_
  refine wq_getf rfl (by first | rfl | assumption) (by first | decide | omega | assumption) (cw_c21 hC) rfl ?_
  refine wq_shl1 rfl (by first | decide | omega) ?_
  refine wq_cN (m := 1) rfl rfl ?_
  refine wq_subN rfl Nat.one_le_two_pow ?_
  refine wq_go rfl (fun _ => rfl) ?_
  refine wq_cN (m := 0) rfl rfl ?_
  refine wq_go rfl (fun _ => rfl) ?_
  rw [← bset_all _ hP2]
  exact c_left_l (cw_pok hC) hok hT hk K k 0 (by omega) σ (fr_refl _ _) hC hS hH
theorem c_Hearsay_note {xs : List Int32} {d : Nat} {σ : Nat → List Value} {Q : Option Value → (Nat → List Value) → Prop} {T : Tl} (hH : HsIs σ T) {c t a s : Nat} (hs : s < 2) (hn : Tn T < 20) (K : ∀ σ', Fr xHs σ σ' → HsIs σ' (tlAdd T c t a s) → Q (some (.int (nI (Tn T)))) σ') : Wq xs (d + 0) ax_cd193 0 [(0, .ref 63), (1, .int (nI c)), (2, .int (nI t)), (3, .int (nI a)), (4, .int (nI s))] [] σ Q := by
  refine wq_go rfl (fun _ => rfl) ?_
  refine wq_getf rfl (by first | rfl | assumption) (by first | decide | omega | assumption) hH.1 rfl ?_
  refine wq_zlt rfl (by first | omega | decide | exact Nat.lt_of_le_of_lt Nat.and_le_right (by decide) | exact ⟨by omega, by omega⟩) (fun c => absurd c (by omega)) (fun c2 => ?_)
  refine wq_go rfl (fun _ => rfl) ?_
  refine wq_getf rfl (by first | rfl | assumption) (by first | decide | omega | assumption) hH.1 rfl ?_
  refine wq_cN (m := 20) rfl rfl ?_
  refine wq_clt rfl (by first | omega | decide | exact Nat.lt_of_le_of_lt Nat.and_le_right (by decide) | exact ⟨by omega, by omega⟩) (by first | omega | decide | exact Nat.lt_of_le_of_lt Nat.and_le_right (by decide) | exact ⟨by omega, by omega⟩) (fun c6 => ?_) (fun c => absurd (show _ from by omega) c)
  refine wq_go rfl (fun _ => rfl) ?_
  refine wq_getf rfl (by first | rfl | assumption) (by first | decide | omega | assumption) hH.1 rfl ?_
  refine wq_go rfl (fun _ => rfl) ?_
  refine wq_getf rfl (by first | rfl | assumption) (by first | decide | omega | assumption) hH.1 rfl ?_
  refine wq_go rfl (fun _ => rfl) ?_
  refine wq_iastN rfl (by first | rfl | assumption) (by first | decide | omega | assumption) hH.2.1 rfl (by omega) (by first | decide | omega) ?_
  refine wq_go rfl (fun _ => rfl) ?_
  refine wq_getf rfl (by first | rfl | assumption) (by first | decide | omega | assumption) ((up_ne _ _ (by decide)).trans hH.1) rfl ?_
  refine wq_go rfl (fun _ => rfl) ?_
  refine wq_getf rfl (by first | rfl | assumption) (by first | decide | omega | assumption) ((up_ne _ _ (by decide)).trans hH.1) rfl ?_
  refine wq_go rfl (fun _ => rfl) ?_
  refine wq_iastN rfl (by first | rfl | assumption) (by first | decide | omega | assumption) ((up_ne _ _ (by decide)).trans hH.2.2.1) rfl (by omega) (by first | decide | omega) ?_
  refine wq_go rfl (fun _ => rfl) ?_
  refine wq_getf rfl (by first | rfl | assumption) (by first | decide | omega | assumption) ((up_ne _ _ (by decide)).trans ((up_ne _ _ (by decide)).trans hH.1)) rfl ?_
  refine wq_go rfl (fun _ => rfl) ?_
  refine wq_getf rfl (by first | rfl | assumption) (by first | decide | omega | assumption) ((up_ne _ _ (by decide)).trans ((up_ne _ _ (by decide)).trans hH.1)) rfl ?_
  refine wq_go rfl (fun _ => rfl) ?_
  refine wq_iastN rfl (by first | rfl | assumption) (by first | decide | omega | assumption) ((up_ne _ _ (by decide)).trans ((up_ne _ _ (by decide)).trans hH.2.2.2.1)) rfl (by omega) (by first | decide | omega) ?_
  refine wq_go rfl (fun _ => rfl) ?_
  refine wq_getf rfl (by first | rfl | assumption) (by first | decide | omega | assumption) ((up_ne _ _ (by decide)).trans ((up_ne _ _ (by decide)).trans ((up_ne _ _ (by decide)).trans hH.1))) rfl ?_
  refine wq_go rfl (fun _ => rfl) ?_
  refine wq_getf rfl (by first | rfl | assumption) (by first | decide | omega | assumption) ((up_ne _ _ (by decide)).trans ((up_ne _ _ (by decide)).trans ((up_ne _ _ (by decide)).trans hH.1))) rfl ?_
  refine wq_go rfl (fun _ => rfl) ?_
  refine wq_bastN rfl (by first | rfl | assumption) (Or.inr rfl) (by first | decide | omega | assumption) ((up_ne _ _ (by decide)).trans ((up_ne _ _ (by decide)).trans ((up_ne _ _ (by decide)).trans hH.2.2.2.2))) (nar_b hs) rfl (by omega) (by first | decide | omega) ?_
  refine wq_go rfl (fun _ => rfl) ?_
  refine wq_go rfl (fun _ => rfl) ?_
  refine wq_getf rfl (by first | rfl | assumption) (by first | decide | omega | assumption) ((up_ne _ _ (by decide)).trans ((up_ne _ _ (by decide)).trans ((up_ne _ _ (by decide)).trans ((up_ne _ _ (by decide)).trans hH.1)))) rfl ?_
  refine wq_cN (m := 1) rfl rfl ?_
  refine wq_addN rfl ?_
  refine wq_putf rfl (by first | rfl | assumption) (by first | decide | omega | assumption) ((up_ne _ _ (by decide)).trans ((up_ne _ _ (by decide)).trans ((up_ne _ _ (by decide)).trans ((up_ne _ _ (by decide)).trans hH.1)))) rfl rfl rfl (by simp) ?_
  refine wq_go rfl (fun _ => rfl) ?_
  refine wq_getf rfl (by first | rfl | assumption) (by first | decide | omega | assumption) (up_same _ _ _) rfl ?_
  refine wq_cN (m := 1) rfl rfl ?_
  refine wq_subN rfl (by omega) ?_
  refine wq_top (show nI (Tn T + 1 - 1) = nI (Tn T) by rw [Nat.add_sub_cancel]) ?_
  refine wq_iret rfl ?_
  exact K _ (fr_up (fr_up (fr_up (fr_up (fr_up (fr_refl xHs _) rfl) rfl) rfl) rfl) rfl) ⟨(up_same _ _ _), ((up_ne _ _ (by decide)).trans ((up_ne _ _ (by decide)).trans ((up_ne _ _ (by decide)).trans ((up_ne _ _ (by decide)).trans (up_same _ _ _))))), ((up_ne _ _ (by decide)).trans ((up_ne _ _ (by decide)).trans ((up_ne _ _ (by decide)).trans (up_same _ _ _)))), ((up_ne _ _ (by decide)).trans ((up_ne _ _ (by decide)).trans (up_same _ _ _))), ((up_ne _ _ (by decide)).trans (up_same _ _ _))⟩
theorem c_note_full {xs : List Int32} {d : Nat} {σ : Nat → List Value} {Q : Option Value → (Nat → List Value) → Prop} {T : Tl} (hH : HsIs σ T) {c t a s : Nat} (hs : s < 2) (hn : Tn T = 20) (K : Q (some (.int (-1))) σ) : Wq xs (d + 0) ax_cd193 0 [(0, .ref 63), (1, .int (nI c)), (2, .int (nI t)), (3, .int (nI a)), (4, .int (nI s))] [] σ Q := by
  refine wq_go rfl (fun _ => rfl) ?_
  refine wq_getf rfl (by first | rfl | assumption) (by first | decide | omega | assumption) hH.1 rfl ?_
  refine wq_zlt rfl (by first | omega | decide | exact Nat.lt_of_le_of_lt Nat.and_le_right (by decide) | exact ⟨by omega, by omega⟩) (fun c => absurd c (by omega)) (fun c2 => ?_)
  refine wq_go rfl (fun _ => rfl) ?_
  refine wq_getf rfl (by first | rfl | assumption) (by first | decide | omega | assumption) hH.1 rfl ?_
  refine wq_cN (m := 20) rfl rfl ?_
  refine wq_clt rfl (by first | omega | decide | exact Nat.lt_of_le_of_lt Nat.and_le_right (by decide) | exact ⟨by omega, by omega⟩) (by first | omega | decide | exact Nat.lt_of_le_of_lt Nat.and_le_right (by decide) | exact ⟨by omega, by omega⟩) (fun c => absurd c (by omega)) (fun c6 => ?_)
  refine wq_go rfl (fun _ => rfl) ?_
  refine wq_iret rfl ?_
  exact K
theorem c_Hearsay_size {xs : List Int32} {d : Nat} {σ : Nat → List Value} {Q : Option Value → (Nat → List Value) → Prop} {T : Tl} (hH : HsIs σ T) (K : Q (some (.int (nI (Tn T)))) σ) : Wq xs (d + 0) ax_cd195 0 [(0, .ref 63)] [] σ Q := by
  refine wq_go rfl (fun _ => rfl) ?_
  refine wq_getf rfl (by first | rfl | assumption) (by first | decide | omega | assumption) hH.1 rfl ?_
  refine wq_iret rfl ?_
  exact K
theorem c_Hearsay_clear {xs : List Int32} {d : Nat} {σ : Nat → List Value} {Q : Option Value → (Nat → List Value) → Prop} {T : Tl} (hH : HsIs σ T) (K : ∀ σ', Fr xHs σ σ' → HsIs σ' (0, Tc T, Tt T, Ta T, Ts T) → Q none σ') : Wq xs (d + 0) ax_cd81 0 [(0, .ref 63)] [] σ Q := by
  refine wq_go rfl (fun _ => rfl) ?_
  refine wq_cN (m := 0) rfl rfl ?_
  refine wq_putf rfl (by first | rfl | assumption) (by first | decide | omega | assumption) hH.1 rfl rfl rfl (by simp) ?_
  refine wq_end rfl (fun _ => rfl) ?_
  exact K _ (fr_up (fr_refl xHs _) rfl) ⟨(up_same _ _ _), ((up_ne _ _ (by decide)).trans hH.2.1), ((up_ne _ _ (by decide)).trans hH.2.2.1), ((up_ne _ _ (by decide)).trans hH.2.2.2.1), ((up_ne _ _ (by decide)).trans hH.2.2.2.2)⟩
def bqI (o : Option Nat) : Int32 := match o with
  | none => -2
  | some i => nI (10 * (i / 4) + i % 4)
def wstN (P : Pl) (S : St) (l a i : Nat) : Nat := max (pc (l &&& bset (lvB P S (i / 4) (i % 4) a) (Phd P))) (pc (l &&& (l ^^^ bset (lvB P S (i / 4) (i % 4) a) (Phd P))))
def wstZ (P : Pl) (S : St) (l a i : Nat) : Int := -((wstN P S l a i : Nat) : Int)
def lookI (P : Pl) (S : St) (l a : Nat) : Int32 := if l = 0 then -2 else bqI (am (wstZ P S l a) (List.range (Pch P * 4)))
theorem wst_le (P : Pl) (S : St) (l a i : Nat) : wstN P S l a i ≤ 5 := Nat.max_le.mpr ⟨pc_le _, pc_le _⟩
theorem and_32 {x y : Nat} (h : x < 32) : x &&& y < 32 := Nat.lt_of_le_of_lt Nat.and_le_left h
theorem c_best_l {xs : List Int32} {d : Nat} {σ : Nat → List Value} {Q : Option Value → (Nat → List Value) → Prop} {S : St} {P : Pl} (hP : Pok P) (hok : Sok S) {T : Tl} {k l a : Nat} (hl : l < 32) (hl0 : ¬ l = 0) (ha : a ≤ 999) (K : ∀ σ', Fr xsc σ σ' → CW P σ' → Q (some (.int (bqI (am (wstZ P S l a) (List.range (Pch P * 4)))))) σ') : ∀ (m u : Nat), m + u = Pch P * 4 → ∀ σ1, Fr xsc σ σ1 → CW P σ1 → StIs σ1 35 S → HsIs σ1 T → Wq xs (d + 4) ax_cd201 10 [(6, .int (nI u)), (5, .int (nI (oV (wstN P S l a) (am (wstZ P S l a) (List.range u))))), (4, .int (bqI (am (wstZ P S l a) (List.range u)))), (3, .int (nI l)), (0, .ref 63), (1, .int (nI k)), (2, .int (nI a))] [] σ1 Q := by
  have hP' := hP
  obtain ⟨hP1, hP2, hP3, hP4, hP5, hP6, hP7, hP8, hPv, hPm, hPo, hPw, hPl⟩ := hP'
  intro m
  induction m with
  | zero =>
    intro u hm σ1 hF1 hC1 hS1 hH1
    refine wq_go rfl (fun _ => rfl) ?_
    refine wq_go rfl (fun _ => rfl) ?_
    refine wq_getf rfl (by first | rfl | assumption) (by first | decide | omega | assumption) hH1.1 rfl ?_
    refine wq_getf rfl (by first | rfl | assumption) (by first | decide | omega | assumption) (cw_c21 hC1) rfl ?_
    refine wq_cN (m := 4) rfl rfl ?_
    refine wq_mulN rfl ?_
    refine wq_cge rfl (by first | omega | decide | exact Nat.lt_of_le_of_lt Nat.and_le_right (by decide) | exact ⟨by omega, by omega⟩) (by first | omega | decide | exact Nat.lt_of_le_of_lt Nat.and_le_right (by decide) | exact ⟨by omega, by omega⟩) (fun c16 => ?_) (fun c => absurd (show _ from by omega) c)
    refine wq_go rfl (fun _ => rfl) ?_
    refine wq_iret rfl ?_
    have hu : u = Pch P * 4 := by omega
    subst hu
    exact K _ hF1 hC1
  | succ m ih =>
    intro u hm σ1 hF1 hC1 hS1 hH1
    cases hb0 : am (wstZ P S l a) (List.range u) with
    | none =>
      refine wq_go rfl (fun _ => rfl) ?_
      refine wq_go rfl (fun _ => rfl) ?_
      refine wq_getf rfl (by first | rfl | assumption) (by first | decide | omega | assumption) hH1.1 rfl ?_
      refine wq_getf rfl (by first | rfl | assumption) (by first | decide | omega | assumption) (cw_c21 hC1) rfl ?_
      refine wq_cN (m := 4) rfl rfl ?_
      refine wq_mulN rfl ?_
      refine wq_cge rfl (by first | omega | decide | exact Nat.lt_of_le_of_lt Nat.and_le_right (by decide) | exact ⟨by omega, by omega⟩) (by first | omega | decide | exact Nat.lt_of_le_of_lt Nat.and_le_right (by decide) | exact ⟨by omega, by omega⟩) (fun c => absurd c (by omega)) (fun c16 => ?_)
      refine wq_go rfl (fun _ => rfl) ?_
      refine wq_zeq rfl (by first | omega | decide | exact Nat.lt_of_le_of_lt Nat.and_le_right (by decide) | exact ⟨by omega, by omega⟩) (fun c => absurd c (by omega)) (fun c18 => ?_)
      refine wq_go rfl (fun _ => rfl) ?_
      refine wq_go rfl (fun _ => rfl) ?_
      refine wq_cN (m := 4) rfl rfl ?_
      refine wq_divN rfl (by first | decide | omega) (by first | decide | omega) (by first | decide | omega) ?_
      refine wq_go rfl (fun _ => rfl) ?_
      refine wq_cN (m := 4) rfl rfl ?_
      refine wq_remN rfl (by first | decide | omega) (by first | decide | omega) (by first | decide | omega) ?_
      refine wq_go rfl (fun _ => rfl) ?_
      refine wq_callV rfl rfl (by first | rfl | assumption) (by first | decide | omega | assumption) (Nat.le_of_ble_eq_true rfl) (Nat.le_of_ble_eq_true rfl) rfl rfl ?_
      refine c_Hearsay_headsThatLeave hS1 hC1 hok hH1 (by omega) (by omega) ha (fun σ6 F6 C6 => ?_)
      have S6 := st_sc kk35 F6 hS1
      have H6 := hs_sc hH1 F6
      refine wq_go rfl (fun _ => rfl) ?_
      refine wq_go rfl (fun _ => rfl) ?_
      refine wq_go rfl (fun _ => rfl) ?_
      refine wq_andN rfl ?_
      refine wq_callS rfl (Nat.le_of_ble_eq_true rfl) rfl (Nat.le_of_ble_eq_true rfl) (Nat.le_of_ble_eq_true rfl) rfl rfl ?_
      refine c_Integer_bitCount (and_32 hl) ?_
      refine wq_go rfl (fun _ => rfl) ?_
      refine wq_go rfl (fun _ => rfl) ?_
      refine wq_go rfl (fun _ => rfl) ?_
      refine wq_go rfl (fun _ => rfl) ?_
      refine wq_go rfl (fun _ => rfl) ?_
      refine wq_top (andn32 l hl _ (bset_32 _ hP2)) ?_
      refine wq_callS rfl (Nat.le_of_ble_eq_true rfl) rfl (Nat.le_of_ble_eq_true rfl) (Nat.le_of_ble_eq_true rfl) rfl rfl ?_
      refine c_Integer_bitCount (and_32 hl) ?_
      refine wq_go rfl (fun _ => rfl) ?_
      refine wq_top (max_nI (by have := pc_le (l &&& bset (lvB P S (u / 4) (u % 4) a) (Phd P)); omega) (by have := pc_le (l &&& (l ^^^ bset (lvB P S (u / 4) (u % 4) a) (Phd P))); omega)) ?_
      have hwl := wst_le P S l a u
      rw [show max (pc (l &&& bset (lvB P S (u / 4) (u % 4) a) (Phd P))) (pc (l &&& (l ^^^ bset (lvB P S (u / 4) (u % 4) a) (Phd P)))) = wstN P S l a u from rfl]
      refine wq_go rfl (fun _ => rfl) ?_
      refine wq_go rfl (fun _ => rfl) ?_
      refine wq_go rfl (fun _ => rfl) ?_
      refine wq_deq rfl (show (_ : Int32) = zI (-2) from by decide) (show (_ : Int32) = zI (-2) from by decide) (by first | omega | decide | exact Nat.lt_of_le_of_lt Nat.and_le_right (by decide) | exact ⟨by omega, by omega⟩) (by first | omega | decide | exact Nat.lt_of_le_of_lt Nat.and_le_right (by decide) | exact ⟨by omega, by omega⟩) (fun c43 => ?_) (fun c => absurd (show _ from by omega) c)
      refine wq_cN (m := 10) rfl rfl ?_
      refine wq_go rfl (fun _ => rfl) ?_
      refine wq_cN (m := 4) rfl rfl ?_
      refine wq_divN rfl (by first | decide | omega) (by first | decide | omega) (by first | decide | omega) ?_
      refine wq_mulN rfl ?_
      refine wq_go rfl (fun _ => rfl) ?_
      refine wq_cN (m := 4) rfl rfl ?_
      refine wq_remN rfl (by first | decide | omega) (by first | decide | omega) (by first | decide | omega) ?_
      refine wq_addN rfl ?_
      refine wq_go rfl (fun _ => rfl) ?_
      refine wq_go rfl (fun _ => rfl) ?_
      refine wq_go rfl (fun _ => rfl) ?_
      refine wq_incN rfl rfl rfl ?_
      refine wq_go rfl (fun _ => rfl) ?_
      have hi := ih (u + 1) (by omega) _ (fr_trans hF1 F6) C6 S6 H6
      rw [List.range_succ] at hi
      first | rw [am_n (f := (wstZ P S l a)) u hb0] at hi | rw [am_g (f := (wstZ P S l a)) u hb0 (by show -_ < -_; omega)] at hi | rw [am_l (f := (wstZ P S l a)) u hb0 (by show ¬ (-_ < -_); omega)] at hi
      exact wq_lv ⟨(by decide : ([6, 5, 4, 8, 7, 3, 0, 1, 2] : List Nat).Nodup), (lvm (List.mem_of_getElem? (i := 0) rfl) (lvm (List.mem_of_getElem? (i := 1) rfl) (lvm (List.mem_of_getElem? (i := 2) rfl) (lvm (List.mem_of_getElem? (i := 5) rfl) (lvm (List.mem_of_getElem? (i := 6) rfl) (lvm (List.mem_of_getElem? (i := 7) rfl) (lvm (List.mem_of_getElem? (i := 8) rfl) lvn)))))))⟩ hi
    | some b =>
      have hbn := am_rlt hb0
      have hg2 := wst_le P S l a b
      simp only [oV]
      refine wq_go rfl (fun _ => rfl) ?_
      refine wq_go rfl (fun _ => rfl) ?_
      refine wq_getf rfl (by first | rfl | assumption) (by first | decide | omega | assumption) hH1.1 rfl ?_
      refine wq_getf rfl (by first | rfl | assumption) (by first | decide | omega | assumption) (cw_c21 hC1) rfl ?_
      refine wq_cN (m := 4) rfl rfl ?_
      refine wq_mulN rfl ?_
      refine wq_cge rfl (by first | omega | decide | exact Nat.lt_of_le_of_lt Nat.and_le_right (by decide) | exact ⟨by omega, by omega⟩) (by first | omega | decide | exact Nat.lt_of_le_of_lt Nat.and_le_right (by decide) | exact ⟨by omega, by omega⟩) (fun c => absurd c (by omega)) (fun c16 => ?_)
      refine wq_go rfl (fun _ => rfl) ?_
      refine wq_zeq rfl (by first | omega | decide | exact Nat.lt_of_le_of_lt Nat.and_le_right (by decide) | exact ⟨by omega, by omega⟩) (fun c => absurd c (by omega)) (fun c18 => ?_)
      refine wq_go rfl (fun _ => rfl) ?_
      refine wq_go rfl (fun _ => rfl) ?_
      refine wq_cN (m := 4) rfl rfl ?_
      refine wq_divN rfl (by first | decide | omega) (by first | decide | omega) (by first | decide | omega) ?_
      refine wq_go rfl (fun _ => rfl) ?_
      refine wq_cN (m := 4) rfl rfl ?_
      refine wq_remN rfl (by first | decide | omega) (by first | decide | omega) (by first | decide | omega) ?_
      refine wq_go rfl (fun _ => rfl) ?_
      refine wq_callV rfl rfl (by first | rfl | assumption) (by first | decide | omega | assumption) (Nat.le_of_ble_eq_true rfl) (Nat.le_of_ble_eq_true rfl) rfl rfl ?_
      refine c_Hearsay_headsThatLeave hS1 hC1 hok hH1 (by omega) (by omega) ha (fun σ6 F6 C6 => ?_)
      have S6 := st_sc kk35 F6 hS1
      have H6 := hs_sc hH1 F6
      refine wq_go rfl (fun _ => rfl) ?_
      refine wq_go rfl (fun _ => rfl) ?_
      refine wq_go rfl (fun _ => rfl) ?_
      refine wq_andN rfl ?_
      refine wq_callS rfl (Nat.le_of_ble_eq_true rfl) rfl (Nat.le_of_ble_eq_true rfl) (Nat.le_of_ble_eq_true rfl) rfl rfl ?_
      refine c_Integer_bitCount (and_32 hl) ?_
      refine wq_go rfl (fun _ => rfl) ?_
      refine wq_go rfl (fun _ => rfl) ?_
      refine wq_go rfl (fun _ => rfl) ?_
      refine wq_go rfl (fun _ => rfl) ?_
      refine wq_go rfl (fun _ => rfl) ?_
      refine wq_top (andn32 l hl _ (bset_32 _ hP2)) ?_
      refine wq_callS rfl (Nat.le_of_ble_eq_true rfl) rfl (Nat.le_of_ble_eq_true rfl) (Nat.le_of_ble_eq_true rfl) rfl rfl ?_
      refine c_Integer_bitCount (and_32 hl) ?_
      refine wq_go rfl (fun _ => rfl) ?_
      refine wq_top (max_nI (by have := pc_le (l &&& bset (lvB P S (u / 4) (u % 4) a) (Phd P)); omega) (by have := pc_le (l &&& (l ^^^ bset (lvB P S (u / 4) (u % 4) a) (Phd P))); omega)) ?_
      have hwl := wst_le P S l a u
      rw [show max (pc (l &&& bset (lvB P S (u / 4) (u % 4) a) (Phd P))) (pc (l &&& (l ^^^ bset (lvB P S (u / 4) (u % 4) a) (Phd P)))) = wstN P S l a u from rfl]
      refine wq_go rfl (fun _ => rfl) ?_
      refine wq_go rfl (fun _ => rfl) ?_
      refine wq_go rfl (fun _ => rfl) ?_
      refine wq_deq rfl (nI_z _) (show (_ : Int32) = zI (-2) from by decide) (by first | omega | decide | exact Nat.lt_of_le_of_lt Nat.and_le_right (by decide) | exact ⟨by omega, by omega⟩) (by first | omega | decide | exact Nat.lt_of_le_of_lt Nat.and_le_right (by decide) | exact ⟨by omega, by omega⟩) (fun c => absurd c (by omega)) (fun c43 => ?_)
      refine wq_go rfl (fun _ => rfl) ?_
      refine wq_go rfl (fun _ => rfl) ?_
      refine wq_cge rfl (by first | omega | decide | exact Nat.lt_of_le_of_lt Nat.and_le_right (by decide) | exact ⟨by omega, by omega⟩) (by first | omega | decide | exact Nat.lt_of_le_of_lt Nat.and_le_right (by decide) | exact ⟨by omega, by omega⟩) (fun c46 => ?_) (fun c46 => ?_)
      · skip
        refine wq_incN rfl rfl rfl ?_
        refine wq_go rfl (fun _ => rfl) ?_
        have hi := ih (u + 1) (by omega) _ (fr_trans hF1 F6) C6 S6 H6
        rw [List.range_succ] at hi
        first | rw [am_n (f := (wstZ P S l a)) u hb0] at hi | rw [am_g (f := (wstZ P S l a)) u hb0 (by show -_ < -_; omega)] at hi | rw [am_l (f := (wstZ P S l a)) u hb0 (by show ¬ (-_ < -_); omega)] at hi
        exact wq_lv ⟨(by decide : ([6, 8, 7, 5, 4, 3, 0, 1, 2] : List Nat).Nodup), (lvm (List.mem_of_getElem? (i := 0) rfl) (lvm (List.mem_of_getElem? (i := 3) rfl) (lvm (List.mem_of_getElem? (i := 4) rfl) (lvm (List.mem_of_getElem? (i := 5) rfl) (lvm (List.mem_of_getElem? (i := 6) rfl) (lvm (List.mem_of_getElem? (i := 7) rfl) (lvm (List.mem_of_getElem? (i := 8) rfl) lvn)))))))⟩ hi
      · skip
        refine wq_cN (m := 10) rfl rfl ?_
        refine wq_go rfl (fun _ => rfl) ?_
        refine wq_cN (m := 4) rfl rfl ?_
        refine wq_divN rfl (by first | decide | omega) (by first | decide | omega) (by first | decide | omega) ?_
        refine wq_mulN rfl ?_
        refine wq_go rfl (fun _ => rfl) ?_
        refine wq_cN (m := 4) rfl rfl ?_
        refine wq_remN rfl (by first | decide | omega) (by first | decide | omega) (by first | decide | omega) ?_
        refine wq_addN rfl ?_
        refine wq_go rfl (fun _ => rfl) ?_
        refine wq_go rfl (fun _ => rfl) ?_
        refine wq_go rfl (fun _ => rfl) ?_
        refine wq_incN rfl rfl rfl ?_
        refine wq_go rfl (fun _ => rfl) ?_
        have hi := ih (u + 1) (by omega) _ (fr_trans hF1 F6) C6 S6 H6
        rw [List.range_succ] at hi
        first | rw [am_n (f := (wstZ P S l a)) u hb0] at hi | rw [am_g (f := (wstZ P S l a)) u hb0 (by show -_ < -_; omega)] at hi | rw [am_l (f := (wstZ P S l a)) u hb0 (by show ¬ (-_ < -_); omega)] at hi
        exact wq_lv ⟨(by decide : ([6, 5, 4, 8, 7, 3, 0, 1, 2] : List Nat).Nodup), (lvm (List.mem_of_getElem? (i := 0) rfl) (lvm (List.mem_of_getElem? (i := 1) rfl) (lvm (List.mem_of_getElem? (i := 2) rfl) (lvm (List.mem_of_getElem? (i := 5) rfl) (lvm (List.mem_of_getElem? (i := 6) rfl) (lvm (List.mem_of_getElem? (i := 7) rfl) (lvm (List.mem_of_getElem? (i := 8) rfl) lvn)))))))⟩ hi
theorem c_Hearsay_bestQuestion {xs : List Int32} {d : Nat} {σ : Nat → List Value} {Q : Option Value → (Nat → List Value) → Prop} {S : St} (hS : StIs σ 35 S) {P : Pl} (hC : CW P σ) (hok : Sok S) {T : Tl} (hH : HsIs σ T) (hT : Tok P T) {k : Nat} (hk : k ≤ Tn T) {a : Nat} (ha : a ≤ 999) (K : ∀ σ', Fr xsc σ σ' → CW P σ' → Q (some (.int (lookI P S (leftN P S T k) a))) σ') : Wq xs (d + 5) ax_cd201 0 [(0, .ref 63), (1, .int (nI k)), (2, .int (nI a))] [] σ Q := by
  have hPk := cw_pok hC
  obtain ⟨hP1, hP2, hP3, hP4, hP5, hP6, hP7, hP8, hPv, hPm, hPo, hPw, hPl⟩ := hPk
  refine wq_go rfl (fun _ => rfl) ?_
  refine wq_go rfl (fun _ => rfl) ?_
  refine wq_callV rfl rfl (by first | rfl | assumption) (by first | decide | omega | assumption) (Nat.le_of_ble_eq_true rfl) (Nat.le_of_ble_eq_true rfl) rfl rfl ?_
  refine c_Hearsay_headsLeft hS hC hok hH hT hk (fun σ2 F2 C2 => ?_)
  have S2 := st_sc kk35 F2 hS
  have H2 := hs_sc hH F2
  have hl : leftN P S T k < 32 := bset_32 _ hP2
  refine wq_go rfl (fun _ => rfl) ?_
  refine wq_go rfl (fun _ => rfl) ?_
  refine wq_go rfl (fun _ => rfl) ?_
  refine wq_cN (m := 0) rfl rfl ?_
  refine wq_go rfl (fun _ => rfl) ?_
  refine wq_cN (m := 0) rfl rfl ?_
  refine wq_go rfl (fun _ => rfl) ?_
  by_cases hl0 : leftN P S T k = 0
  · have K' := fun σ' F C => K σ' F C
    rw [show lookI P S (leftN P S T k) a = -2 from if_pos hl0] at K'
    refine wq_go rfl (fun _ => rfl) ?_
    refine wq_go rfl (fun _ => rfl) ?_
    refine wq_getf rfl (by first | rfl | assumption) (by first | decide | omega | assumption) H2.1 rfl ?_
    refine wq_getf rfl (by first | rfl | assumption) (by first | decide | omega | assumption) (cw_c21 C2) rfl ?_
    refine wq_cN (m := 4) rfl rfl ?_
    refine wq_mulN rfl ?_
    refine wq_cge rfl (by first | omega | decide | exact Nat.lt_of_le_of_lt Nat.and_le_right (by decide) | exact ⟨by omega, by omega⟩) (by first | omega | decide | exact Nat.lt_of_le_of_lt Nat.and_le_right (by decide) | exact ⟨by omega, by omega⟩) (fun c16 => ?_) (fun c16 => ?_)
    · skip
      refine wq_go rfl (fun _ => rfl) ?_
      refine wq_iret rfl ?_
      exact K' _ F2 C2
    · skip
      refine wq_go rfl (fun _ => rfl) ?_
      refine wq_zeq rfl (by first | omega | decide | exact Nat.lt_of_le_of_lt Nat.and_le_right (by decide) | exact ⟨by omega, by omega⟩) (fun c18 => ?_) (fun c => absurd (show _ from by omega) c)
      refine wq_go rfl (fun _ => rfl) ?_
      refine wq_iret rfl ?_
      exact K' _ F2 C2
  · have K' := fun σ' F C => K σ' (fr_trans F2 F) C
    rw [show lookI P S (leftN P S T k) a = bqI (am (wstZ P S (leftN P S T k) a) (List.range (Pch P * 4))) from if_neg hl0] at K'
    exact c_best_l (d := d + 1) (cw_pok hC) hok hl hl0 ha K' (Pch P * 4) 0 rfl σ2 (fr_refl _ _) C2 S2 H2
