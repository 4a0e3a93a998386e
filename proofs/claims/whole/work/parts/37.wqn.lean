/-! RULES FOR NUMBERS THAT ARE NATURALS -/
def updN (f : Nat → Nat) (k x : Nat) : Nat → Nat := fun j => if j = k then x else f j
def arrN (n : Nat) (f : Nat → Nat) : List Value := arr n (fun j => nI (f j))
theorem arrN_len (n : Nat) (f : Nat → Nat) : (arrN n f).length = n := arr_len _ _
theorem arrN_upd (n : Nat) (f : Nat → Nat) (k x : Nat) : arr n (upd (fun j => nI (f j)) k (nI x)) = arrN n (updN f k x) := by
  apply arr_congr
  intro j _
  by_cases h : j = k <;> simp [upd, updN, h]
theorem arrN_congr {n : Nat} {f g : Nat → Nat} (h : ∀ j, j < n → f j = g j) : arrN n f = arrN n g := arr_congr (fun j hj => by rw [h j hj])
theorem updN_same (f : Nat → Nat) (k x : Nat) : updN f k x k = x := by simp [updN]
theorem updN_ne (f : Nat → Nat) {k j : Nat} (x : Nat) (h : j ≠ k) : updN f k x j = f j := by simp [updN, h]
section WQN
variable {xs : List Int32} {d : Nat} {cd cd' : List ax_I} {i i' a b k m n x y : Nat} {lv lv' : ax_L} {st st' r : List Value} {σ : Nat → List Value} {Q : Option Value → (Nat → List Value) → Prop} {ai : ax_I} {v u : Value} {t : List (Int × Nat)} {fs : List Value} {f : Nat → Nat}
theorem wq_cN {c : Int32} (h : cd[i]? = some (0, a, b, .int c, t)) (hc : c = nI m) (K : Wq xs d cd (i + 1) lv (.int (nI m) :: st) σ Q) : Wq xs d cd i lv st σ Q := by
  subst hc
  exact wq_go h (fun _ => rfl) K
theorem wq_top {p q : Int32} (e : p = q) (K : Wq xs d cd i lv (.int q :: r) σ Q) : Wq xs d cd i lv (.int p :: r) σ Q := by
  subst e
  exact K
theorem wq_addN (h : cd[i]? = some (9, a, 0, v, t)) (K : Wq xs d cd (i + 1) lv (.int (nI (x + y)) :: r) σ Q) : Wq xs d cd i lv (.int (nI y) :: .int (nI x) :: r) σ Q := by
  rw [← nI_add] at K
  exact wq_go h (fun _ => rfl) K
theorem wq_subN (h : cd[i]? = some (9, a, 1, v, t)) (hy : y ≤ x) (K : Wq xs d cd (i + 1) lv (.int (nI (x - y)) :: r) σ Q) : Wq xs d cd i lv (.int (nI y) :: .int (nI x) :: r) σ Q := by
  rw [← pk_sub hy] at K
  exact wq_go h (fun _ => rfl) K
theorem wq_mulN (h : cd[i]? = some (9, a, 2, v, t)) (K : Wq xs d cd (i + 1) lv (.int (nI (x * y)) :: r) σ Q) : Wq xs d cd i lv (.int (nI y) :: .int (nI x) :: r) σ Q := by
  rw [← pk_mul] at K
  exact wq_go h (fun _ => rfl) K
theorem wq_divN (h : cd[i]? = some (9, a, 3, v, t)) (h0 : 0 < y) (hx : x < 2 ^ 31) (hy : y < 2 ^ 31) (K : Wq xs d cd (i + 1) lv (.int (nI (x / y)) :: r) σ Q) : Wq xs d cd i lv (.int (nI y) :: .int (nI x) :: r) σ Q := by
  rw [← pk_div hx h0 hy] at K
  refine wp_go h ?_ K
  rw [ax_e9]
  unfold ax_s9
  simp only [ax_bin, nI_ne0 h0 hy, if_false]
theorem wq_remN (h : cd[i]? = some (9, a, 4, v, t)) (h0 : 0 < y) (hx : x < 2 ^ 31) (hy : y < 2 ^ 31) (K : Wq xs d cd (i + 1) lv (.int (nI (x % y)) :: r) σ Q) : Wq xs d cd i lv (.int (nI y) :: .int (nI x) :: r) σ Q := by
  rw [← pk_rem hx h0 hy] at K
  refine wp_go h ?_ K
  rw [ax_e9]
  unfold ax_s9
  simp only [ax_bin, nI_ne0 h0 hy, if_false]
theorem wq_incN (h : cd[i]? = some (8, a, b, .int 1, t)) (hl : lv.lookup a = some (.int (nI x))) (hlv : ax_st1 lv a (.int (nI (x + 1))) = lv') (K : Wq xs d cd (i + 1) lv' st σ Q) : Wq xs d cd i lv st σ Q := by
  subst hlv
  rw [← nI_1] at K
  refine wp_go h ?_ K
  rw [ax_e8]
  unfold ax_s8
  simp only [hl]
theorem wq_ialdN {j : Int32} (h : cd[i]? = some (25, a, b, v, t)) (hk : kd k = .inl .int) (hl : k < 331) (hs : σ k = arrN n f) (hj : j = nI m) (hm : m < n) (hn : n < 2 ^ 31) (K : Wq xs d cd (i + 1) lv (.int (nI (f m)) :: r) σ Q) : Wq xs d cd i lv (.int j :: .ref k :: r) σ Q := wq_iald h hk hl hs hj hm hn K
theorem wq_iastN {j : Int32} (h : cd[i]? = some (29, a, b, v, t)) (hk : kd k = .inl .int) (hl : k < 331) (hs : σ k = arrN n f) (hj : j = nI m) (hm : m < n) (hn : n < 2 ^ 31) (K : Wq xs d cd (i + 1) lv r (up σ k (arrN n (updN f m x))) Q) : Wq xs d cd i lv (.int (nI x) :: .int j :: .ref k :: r) σ Q := by
  rw [← arrN_upd] at K
  exact wq_iast h hk hl hs hj hm hn K
theorem wq_nret {c : Int32} (h : cd[i]? = some (45, a, b, v, t)) (hn : narrow (ax_rty b) (.int c) = .int c) (K : Q (some (.int c)) σ) : Wq xs d cd i lv [.int c] σ Q := by
  refine wp_end h ?_ ⟨σ, rfl, K⟩
  rw [ax_e45]
  unfold ax_s45
  simp only [hn, if_true]
theorem wq_iret {c : Int32} (h : cd[i]? = some (45, a, 0, v, t)) (K : Q (some (.int c)) σ) : Wq xs d cd i lv [.int c] σ Q := wq_nret h rfl K
theorem wq_ceq (h : cd[i]? = some (18, a, 0, v, t)) (hm : m < 2 ^ 31) (hn : n < 2 ^ 31) (kt : m = n → Wq xs d cd a lv r σ Q) (kf : ¬ (m = n) → Wq xs d cd (i + 1) lv r σ Q) : Wq xs d cd i lv (.int (nI n) :: .int (nI m) :: r) σ Q :=
  wq_cmp h (fun e => kt ((nI_eq hm hn).mp (of_decide_eq_true e))) (fun e => kf (fun z => of_decide_eq_false e ((nI_eq hm hn).mpr z)))
theorem wq_cne (h : cd[i]? = some (18, a, 1, v, t)) (hm : m < 2 ^ 31) (hn : n < 2 ^ 31) (kt : ¬ m = n → Wq xs d cd a lv r σ Q) (kf : ¬ (¬ m = n) → Wq xs d cd (i + 1) lv r σ Q) : Wq xs d cd i lv (.int (nI n) :: .int (nI m) :: r) σ Q :=
  wq_cmp h (fun e => kt ((not_congr (nI_eq hm hn)).mp (of_decide_eq_true e))) (fun e => kf (fun z => of_decide_eq_false e ((not_congr (nI_eq hm hn)).mpr z)))
theorem wq_clt (h : cd[i]? = some (18, a, 2, v, t)) (hm : m < 2 ^ 31) (hn : n < 2 ^ 31) (kt : m < n → Wq xs d cd a lv r σ Q) (kf : ¬ (m < n) → Wq xs d cd (i + 1) lv r σ Q) : Wq xs d cd i lv (.int (nI n) :: .int (nI m) :: r) σ Q :=
  wq_cmp h (fun e => kt ((nI_ltI hm hn).mp (of_decide_eq_true e))) (fun e => kf (fun z => of_decide_eq_false e ((nI_ltI hm hn).mpr z)))
theorem wq_cge (h : cd[i]? = some (18, a, 3, v, t)) (hm : m < 2 ^ 31) (hn : n < 2 ^ 31) (kt : n ≤ m → Wq xs d cd a lv r σ Q) (kf : ¬ (n ≤ m) → Wq xs d cd (i + 1) lv r σ Q) : Wq xs d cd i lv (.int (nI n) :: .int (nI m) :: r) σ Q :=
  wq_cmp h (fun e => kt ((nI_leI hn hm).mp (of_decide_eq_true e))) (fun e => kf (fun z => of_decide_eq_false e ((nI_leI hn hm).mpr z)))
theorem wq_cgt (h : cd[i]? = some (18, a, 4, v, t)) (hm : m < 2 ^ 31) (hn : n < 2 ^ 31) (kt : n < m → Wq xs d cd a lv r σ Q) (kf : ¬ (n < m) → Wq xs d cd (i + 1) lv r σ Q) : Wq xs d cd i lv (.int (nI n) :: .int (nI m) :: r) σ Q :=
  wq_cmp h (fun e => kt ((nI_ltI hn hm).mp (of_decide_eq_true e))) (fun e => kf (fun z => of_decide_eq_false e ((nI_ltI hn hm).mpr z)))
theorem wq_cle (h : cd[i]? = some (18, a, 5, v, t)) (hm : m < 2 ^ 31) (hn : n < 2 ^ 31) (kt : m ≤ n → Wq xs d cd a lv r σ Q) (kf : ¬ (m ≤ n) → Wq xs d cd (i + 1) lv r σ Q) : Wq xs d cd i lv (.int (nI n) :: .int (nI m) :: r) σ Q :=
  wq_cmp h (fun e => kt ((nI_leI hm hn).mp (of_decide_eq_true e))) (fun e => kf (fun z => of_decide_eq_false e ((nI_leI hm hn).mpr z)))
theorem wq_zeq (h : cd[i]? = some (19, a, 0, v, t)) (hm : m < 2 ^ 31) (kt : m = 0 → Wq xs d cd a lv r σ Q) (kf : ¬ (m = 0) → Wq xs d cd (i + 1) lv r σ Q) : Wq xs d cd i lv (.int (nI m) :: r) σ Q :=
  wq_if h (fun e => kt ((nI_eq hm (by decide) (b := 0)).mp (of_decide_eq_true e))) (fun e => kf (fun z => of_decide_eq_false e ((nI_eq hm (by decide) (b := 0)).mpr z)))
theorem wq_zne (h : cd[i]? = some (19, a, 1, v, t)) (hm : m < 2 ^ 31) (kt : ¬ m = 0 → Wq xs d cd a lv r σ Q) (kf : ¬ (¬ m = 0) → Wq xs d cd (i + 1) lv r σ Q) : Wq xs d cd i lv (.int (nI m) :: r) σ Q :=
  wq_if h (fun e => kt ((not_congr (nI_eq hm (by decide) (b := 0))).mp (of_decide_eq_true e))) (fun e => kf (fun z => of_decide_eq_false e ((not_congr (nI_eq hm (by decide) (b := 0))).mpr z)))
theorem wq_zlt (h : cd[i]? = some (19, a, 2, v, t)) (hm : m < 2 ^ 31) (kt : m < 0 → Wq xs d cd a lv r σ Q) (kf : ¬ (m < 0) → Wq xs d cd (i + 1) lv r σ Q) : Wq xs d cd i lv (.int (nI m) :: r) σ Q :=
  wq_if h (fun e => kt ((nI_ltI hm (by decide) (b := 0)).mp (of_decide_eq_true e))) (fun e => kf (fun z => of_decide_eq_false e ((nI_ltI hm (by decide) (b := 0)).mpr z)))
theorem wq_zge (h : cd[i]? = some (19, a, 3, v, t)) (hm : m < 2 ^ 31) (kt : 0 ≤ m → Wq xs d cd a lv r σ Q) (kf : ¬ (0 ≤ m) → Wq xs d cd (i + 1) lv r σ Q) : Wq xs d cd i lv (.int (nI m) :: r) σ Q :=
  wq_if h (fun e => kt ((nI_leI (by decide) hm (a := 0)).mp (of_decide_eq_true e))) (fun e => kf (fun z => of_decide_eq_false e ((nI_leI (by decide) hm (a := 0)).mpr z)))
theorem wq_zgt (h : cd[i]? = some (19, a, 4, v, t)) (hm : m < 2 ^ 31) (kt : 0 < m → Wq xs d cd a lv r σ Q) (kf : ¬ (0 < m) → Wq xs d cd (i + 1) lv r σ Q) : Wq xs d cd i lv (.int (nI m) :: r) σ Q :=
  wq_if h (fun e => kt ((nI_ltI (by decide) hm (a := 0)).mp (of_decide_eq_true e))) (fun e => kf (fun z => of_decide_eq_false e ((nI_ltI (by decide) hm (a := 0)).mpr z)))
theorem wq_zle (h : cd[i]? = some (19, a, 5, v, t)) (hm : m < 2 ^ 31) (kt : m ≤ 0 → Wq xs d cd a lv r σ Q) (kf : ¬ (m ≤ 0) → Wq xs d cd (i + 1) lv r σ Q) : Wq xs d cd i lv (.int (nI m) :: r) σ Q :=
  wq_if h (fun e => kt ((nI_leI hm (by decide) (b := 0)).mp (of_decide_eq_true e))) (fun e => kf (fun z => of_decide_eq_false e ((nI_leI hm (by decide) (b := 0)).mpr z)))
end WQN
