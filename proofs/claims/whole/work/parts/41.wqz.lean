/-! RULES FOR WHOLE NUMBERS, AND JOINS -/
def zI (z : Int) : Int32 := Int32.ofInt z
theorem nI_z (n : Nat) : nI n = zI n := Int32.ofInt_eq_ofNat.symm
theorem zI_add (p q : Int) : zI p + zI q = zI (p + q) := (Int32.ofInt_add p q).symm
theorem zI_sub (p q : Int) : zI p - zI q = zI (p - q) := (Int32.ofInt_sub p q).symm
theorem zI_mul (p q : Int) : zI p * zI q = zI (p * q) := (Int32.ofInt_mul p q).symm
theorem zI_neg (p : Int) : -zI p = zI (-p) := (Int32.ofInt_neg p).symm
def zok (p : Int) : Prop := -2147483648 ≤ p ∧ p < 2147483648
theorem zI_toInt {p : Int} (h : zok p) : (zI p).toInt = p := Int32.toInt_ofInt_of_le h.1 h.2
theorem zI_lt {p q : Int} (hp : zok p) (hq : zok q) : zI p < zI q ↔ p < q := by
  rw [Int32.lt_iff_toInt_lt, zI_toInt hp, zI_toInt hq]
theorem zI_le {p q : Int} (hp : zok p) (hq : zok q) : zI p ≤ zI q ↔ p ≤ q := by
  rw [Int32.le_iff_toInt_le, zI_toInt hp, zI_toInt hq]
theorem zI_eq {p q : Int} (hp : zok p) (hq : zok q) : zI p = zI q ↔ p = q := by
  constructor
  · intro h
    have := congrArg Int32.toInt h
    rw [zI_toInt hp, zI_toInt hq] at this
    exact this
  · intro h
    rw [h]
theorem zI_of (x : Int32) : ∃ p : Int, zok p ∧ x = zI p := ⟨x.toInt, ⟨Int32.le_toInt x, Int32.toInt_lt x⟩, (Int32.ofInt_toInt x).symm⟩
section WQZ
variable {xs : List Int32} {d : Nat} {cd : List ax_I} {i j a b k m n : Nat} {lv : ax_L} {st r : List Value} {σ : Nat → List Value} {Q : Option Value → (Nat → List Value) → Prop} {v : Value} {t : List (Int × Nat)} {x y : Int32} {p q : Int}
theorem wq_addZ (h : cd[i]? = some (9, a, 0, v, t)) (hx : x = zI p) (hy : y = zI q) (K : Wq xs d cd (i + 1) lv (.int (zI (p + q)) :: r) σ Q) : Wq xs d cd i lv (.int y :: .int x :: r) σ Q := by
  subst hx
  subst hy
  rw [← zI_add] at K
  exact wq_go h (fun _ => rfl) K
theorem wq_subZ (h : cd[i]? = some (9, a, 1, v, t)) (hx : x = zI p) (hy : y = zI q) (K : Wq xs d cd (i + 1) lv (.int (zI (p - q)) :: r) σ Q) : Wq xs d cd i lv (.int y :: .int x :: r) σ Q := by
  subst hx
  subst hy
  rw [← zI_sub] at K
  exact wq_go h (fun _ => rfl) K
theorem wq_mulZ (h : cd[i]? = some (9, a, 2, v, t)) (hx : x = zI p) (hy : y = zI q) (K : Wq xs d cd (i + 1) lv (.int (zI (p * q)) :: r) σ Q) : Wq xs d cd i lv (.int y :: .int x :: r) σ Q := by
  subst hx
  subst hy
  rw [← zI_mul] at K
  exact wq_go h (fun _ => rfl) K
theorem wq_negZ (h : cd[i]? = some (10, a, 0, v, t)) (hx : x = zI p) (K : Wq xs d cd (i + 1) lv (.int (zI (-p)) :: r) σ Q) : Wq xs d cd i lv (.int x :: r) σ Q := by
  subst hx
  rw [← zI_neg] at K
  exact wq_go h (fun _ => rfl) K
theorem wq_iastZ {f : Nat → Nat} {c : Nat} {jj : Int32} (h : cd[i]? = some (29, a, b, v, t)) (hk : kd k = .inl .int) (hl : k < 331) (hs : σ k = arrN n f) (hx : x = zI p) (hp : p = (c : Int)) (hj : jj = nI m) (hm : m < n) (hn : n < 2 ^ 31) (K : Wq xs d cd (i + 1) lv r (up σ k (arrN n (updN f m c))) Q) : Wq xs d cd i lv (.int x :: .int jj :: .ref k :: r) σ Q := by
  subst hx
  subst hp
  rw [← nI_z]
  exact wq_iastN h hk hl hs hj hm hn K
theorem wq_deq (h : cd[i]? = some (18, a, 0, v, t)) (hx : x = zI p) (hy : y = zI q) (hp : zok p) (hq : zok q) (kt : p = q → Wq xs d cd a lv r σ Q) (kf : ¬ (p = q) → Wq xs d cd (i + 1) lv r σ Q) : Wq xs d cd i lv (.int y :: .int x :: r) σ Q := by
  subst hx
  subst hy
  exact wq_cmp h (fun e => kt ((zI_eq hp hq).mp (of_decide_eq_true e))) (fun e => kf (fun z => of_decide_eq_false e ((zI_eq hp hq).mpr z)))
theorem wq_yeq (h : cd[i]? = some (19, a, 0, v, t)) (hx : x = zI p) (hp : zok p) (kt : p = 0 → Wq xs d cd a lv r σ Q) (kf : ¬ (p = 0) → Wq xs d cd (i + 1) lv r σ Q) : Wq xs d cd i lv (.int x :: r) σ Q := by
  subst hx
  have hq : zok 0 := ⟨by decide, by decide⟩
  exact wq_if h (fun e => kt ((zI_eq hp hq (q := 0)).mp (of_decide_eq_true e))) (fun e => kf (fun z => of_decide_eq_false e ((zI_eq hp hq (q := 0)).mpr z)))
theorem wq_dne (h : cd[i]? = some (18, a, 1, v, t)) (hx : x = zI p) (hy : y = zI q) (hp : zok p) (hq : zok q) (kt : ¬ p = q → Wq xs d cd a lv r σ Q) (kf : ¬ (¬ p = q) → Wq xs d cd (i + 1) lv r σ Q) : Wq xs d cd i lv (.int y :: .int x :: r) σ Q := by
  subst hx
  subst hy
  exact wq_cmp h (fun e => kt ((not_congr (zI_eq hp hq)).mp (of_decide_eq_true e))) (fun e => kf (fun z => of_decide_eq_false e ((not_congr (zI_eq hp hq)).mpr z)))
theorem wq_yne (h : cd[i]? = some (19, a, 1, v, t)) (hx : x = zI p) (hp : zok p) (kt : ¬ p = 0 → Wq xs d cd a lv r σ Q) (kf : ¬ (¬ p = 0) → Wq xs d cd (i + 1) lv r σ Q) : Wq xs d cd i lv (.int x :: r) σ Q := by
  subst hx
  have hq : zok 0 := ⟨by decide, by decide⟩
  exact wq_if h (fun e => kt ((not_congr (zI_eq hp hq (q := 0))).mp (of_decide_eq_true e))) (fun e => kf (fun z => of_decide_eq_false e ((not_congr (zI_eq hp hq (q := 0))).mpr z)))
theorem wq_dlt (h : cd[i]? = some (18, a, 2, v, t)) (hx : x = zI p) (hy : y = zI q) (hp : zok p) (hq : zok q) (kt : p < q → Wq xs d cd a lv r σ Q) (kf : ¬ (p < q) → Wq xs d cd (i + 1) lv r σ Q) : Wq xs d cd i lv (.int y :: .int x :: r) σ Q := by
  subst hx
  subst hy
  exact wq_cmp h (fun e => kt ((zI_lt hp hq).mp (of_decide_eq_true e))) (fun e => kf (fun z => of_decide_eq_false e ((zI_lt hp hq).mpr z)))
theorem wq_ylt (h : cd[i]? = some (19, a, 2, v, t)) (hx : x = zI p) (hp : zok p) (kt : p < 0 → Wq xs d cd a lv r σ Q) (kf : ¬ (p < 0) → Wq xs d cd (i + 1) lv r σ Q) : Wq xs d cd i lv (.int x :: r) σ Q := by
  subst hx
  have hq : zok 0 := ⟨by decide, by decide⟩
  exact wq_if h (fun e => kt ((zI_lt hp hq (q := 0)).mp (of_decide_eq_true e))) (fun e => kf (fun z => of_decide_eq_false e ((zI_lt hp hq (q := 0)).mpr z)))
theorem wq_dge (h : cd[i]? = some (18, a, 3, v, t)) (hx : x = zI p) (hy : y = zI q) (hp : zok p) (hq : zok q) (kt : q ≤ p → Wq xs d cd a lv r σ Q) (kf : ¬ (q ≤ p) → Wq xs d cd (i + 1) lv r σ Q) : Wq xs d cd i lv (.int y :: .int x :: r) σ Q := by
  subst hx
  subst hy
  exact wq_cmp h (fun e => kt ((zI_le hq hp).mp (of_decide_eq_true e))) (fun e => kf (fun z => of_decide_eq_false e ((zI_le hq hp).mpr z)))
theorem wq_yge (h : cd[i]? = some (19, a, 3, v, t)) (hx : x = zI p) (hp : zok p) (kt : 0 ≤ p → Wq xs d cd a lv r σ Q) (kf : ¬ (0 ≤ p) → Wq xs d cd (i + 1) lv r σ Q) : Wq xs d cd i lv (.int x :: r) σ Q := by
  subst hx
  have hq : zok 0 := ⟨by decide, by decide⟩
  exact wq_if h (fun e => kt ((zI_le hq hp (p := 0)).mp (of_decide_eq_true e))) (fun e => kf (fun z => of_decide_eq_false e ((zI_le hq hp (p := 0)).mpr z)))
theorem wq_dgt (h : cd[i]? = some (18, a, 4, v, t)) (hx : x = zI p) (hy : y = zI q) (hp : zok p) (hq : zok q) (kt : q < p → Wq xs d cd a lv r σ Q) (kf : ¬ (q < p) → Wq xs d cd (i + 1) lv r σ Q) : Wq xs d cd i lv (.int y :: .int x :: r) σ Q := by
  subst hx
  subst hy
  exact wq_cmp h (fun e => kt ((zI_lt hq hp).mp (of_decide_eq_true e))) (fun e => kf (fun z => of_decide_eq_false e ((zI_lt hq hp).mpr z)))
theorem wq_ygt (h : cd[i]? = some (19, a, 4, v, t)) (hx : x = zI p) (hp : zok p) (kt : 0 < p → Wq xs d cd a lv r σ Q) (kf : ¬ (0 < p) → Wq xs d cd (i + 1) lv r σ Q) : Wq xs d cd i lv (.int x :: r) σ Q := by
  subst hx
  have hq : zok 0 := ⟨by decide, by decide⟩
  exact wq_if h (fun e => kt ((zI_lt hq hp (p := 0)).mp (of_decide_eq_true e))) (fun e => kf (fun z => of_decide_eq_false e ((zI_lt hq hp (p := 0)).mpr z)))
theorem wq_dle (h : cd[i]? = some (18, a, 5, v, t)) (hx : x = zI p) (hy : y = zI q) (hp : zok p) (hq : zok q) (kt : p ≤ q → Wq xs d cd a lv r σ Q) (kf : ¬ (p ≤ q) → Wq xs d cd (i + 1) lv r σ Q) : Wq xs d cd i lv (.int y :: .int x :: r) σ Q := by
  subst hx
  subst hy
  exact wq_cmp h (fun e => kt ((zI_le hp hq).mp (of_decide_eq_true e))) (fun e => kf (fun z => of_decide_eq_false e ((zI_le hp hq).mpr z)))
theorem wq_yle (h : cd[i]? = some (19, a, 5, v, t)) (hx : x = zI p) (hp : zok p) (kt : p ≤ 0 → Wq xs d cd a lv r σ Q) (kf : ¬ (p ≤ 0) → Wq xs d cd (i + 1) lv r σ Q) : Wq xs d cd i lv (.int x :: r) σ Q := by
  subst hx
  have hq : zok 0 := ⟨by decide, by decide⟩
  exact wq_if h (fun e => kt ((zI_le hp hq (q := 0)).mp (of_decide_eq_true e))) (fun e => kf (fun z => of_decide_eq_false e ((zI_le hp hq (q := 0)).mpr z)))
/-- two ways that come together with a number each -/
theorem wq_join {c : Prop} {x y : Int32} (hc : Decidable c) (hsplit : (c → Wq xs d cd j lv (.int x :: r) σ Q) → (¬ c → Wq xs d cd j lv (.int y :: r) σ Q) → Wq xs d cd i lv st σ Q) (K : Wq xs d cd j lv (.int (@ite _ c hc x y) :: r) σ Q) : Wq xs d cd i lv st σ Q := by
  refine hsplit (fun h => ?_) (fun h => ?_)
  · rw [if_pos h] at K
    exact K
  · rw [if_neg h] at K
    exact K
theorem wq_lv {lv0 : ax_L} (hR : ax_Lr lv0 lv) (h : Wq xs d cd i lv0 st σ Q) : Wq xs d cd i lv st σ Q := wp_lv hR h
end WQZ
