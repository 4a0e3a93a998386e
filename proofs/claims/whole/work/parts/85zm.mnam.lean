/-! THE REFERENCE READS: names -/
def anyN (f : Nat → Int64) (x : Int64) : Nat → Bool
  | 0 => false
  | u + 1 => anyN f x u || decide (f u = x)
theorem wn_or (w : Option (Nat × Nat)) (b c : Bool) (k p : Nat) : wn (wn w b k p) c k p = wn w (b || c) k p := by
  cases w <;> cases b <;> cases c <;> rfl
theorem wn_le {X : Tx} {w : Option (Nat × Nat)} {b : Bool} {u k : Nat} (h : okM X w u) : ∀ q, wn w b k (Xp X u) = some q → q.2 < Xp X u ∨ (q.2 = Xp X u ∧ q.1 ≤ k) := by
  intro q e
  cases w with
  | some r => exact Or.inl (h q e)
  | none =>
    cases b with
    | true =>
      have e : some (k, Xp X u) = some q := e
      cases e; exact Or.inr ⟨rfl, Nat.le_refl _⟩
    | false =>
      have e : none = some q := e
      cases e
/-- the number of a name of a sort -/
def knF (f : Nat → Int64) (a : Nat → Nat) (lo : Nat) (x : Int64) : Nat → Nat → Option Nat
  | 0, _ => none
  | m + 1, i => if f i = x ∧ lo ≤ a i ∧ a i < lo + 10 then some (a i - lo) else knF f a lo x m (i + 1)
theorem mrw_a {B : Bs} {X : Tx} {s t o bn cn nn : Nat} {w : Option (Nat × Nat)} {g : Nat → Int32} {σ : Nat → List Value} {p n m : Nat} {x : Int32} (h : MrW B X s t o bn cn nn w g σ) (hm : (p, n) ∈ shpm) (h1 : 297 ≤ p) (h2 : p ≤ 318) (h3 : sd p * s ≤ m) (h4 : m < sd p * s + sd p) : MrW B X s t o bn cn nn w g (up σ p (arr n (upd (ag σ p) m x))) := ⟨mrb_a (mw_b h) hm h1 h2 h3 h4, h.2⟩
theorem mrf_a {B : Bs} {X : Tx} {s f p bn : Nat} {g : Nat → Int32} {σ : Nat → List Value} {q n m : Nat} {x : Int32} (h : MrF B X s f p bn g σ) (hm : (q, n) ∈ shpm) (h1 : 297 ≤ q) (h2 : q ≤ 318) (h3 : sd q * s ≤ m) (h4 : m < sd q * s + sd q) : MrF B X s f p bn g (up σ q (arr n (upd (ag σ q) m x))) := ⟨mrb_a (mf_b h) hm h1 h2 h3 h4, h.2⟩
theorem m_nm_l {xs : List Int32} {d : Nat} {σ : Nat → List Value} {Q : Option Value → (Nat → List Value) → Prop} {B : Bs} {X : Tx} {s t o bn cn nn tk : Nat} {w : Option (Nat × Nat)} (htk : tk ≤ 400) (hrk : rch X tk) (hk23 : Xk X tk = 23) (hM : okM X w tk) (hnn : nn ≤ 9)  (K : ∀ g' σ', Fr x287 σ σ' → MrW B X s t o bn cn nn (wn w (anyN (aq σ 295) (Xn X tk) nn) 3 (Xp X tk)) g' σ' → Q (some (.int (nI tk))) σ') : ∀ (m u : Nat), m + u = nn → ∀ g1 σ1, Fr x287 σ σ1 → MrW B X s t o bn cn nn (wn w (anyN (aq σ 295) (Xn X tk) u) 3 (Xp X tk)) g1 σ1 → Wq xs (d + 3) ax_cd237 8 [(2, .int (nI u)), (1, .int (nI tk)), (0, .ref 287)] [] σ1 Q := by
  intro m
  induction m with
  | zero =>
    intro u hm g1 σ1 hF1 hW1
    refine wq_go rfl (fun _ => rfl) ?_
    refine wq_go rfl (fun _ => rfl) ?_
    refine wq_getf rfl (by first | rfl | assumption) (by first | decide | omega | assumption) (mb_o (mw_b hW1)) rfl ?_
    refine wq_top (mw_20 hW1 :) ?_
    refine wq_cge rfl (by first | omega | decide | exact Nat.lt_of_le_of_lt Nat.and_le_right (by decide) | exact ⟨by omega, by omega⟩) (by first | omega | decide | exact Nat.lt_of_le_of_lt Nat.and_le_right (by decide) | exact ⟨by omega, by omega⟩) (fun c11 => ?_) (fun c => absurd (show _ from by omega) c)
    refine wq_go rfl (fun _ => rfl) ?_
    refine wq_iret rfl ?_
    have hu : u = nn := by omega
    subst hu
    exact K g1 σ1 hF1 hW1
  | succ m ih =>
    intro u hm g1 σ1 hF1 hW1
    refine wq_go rfl (fun _ => rfl) ?_
    refine wq_go rfl (fun _ => rfl) ?_
    refine wq_getf rfl (by first | rfl | assumption) (by first | decide | omega | assumption) (mb_o (mw_b hW1)) rfl ?_
    refine wq_top (mw_20 hW1 :) ?_
    refine wq_cge rfl (by first | omega | decide | exact Nat.lt_of_le_of_lt Nat.and_le_right (by decide) | exact ⟨by omega, by omega⟩) (by first | omega | decide | exact Nat.lt_of_le_of_lt Nat.and_le_right (by decide) | exact ⟨by omega, by omega⟩) (fun c => absurd c (by omega)) (fun c11 => ?_)
    refine wq_go rfl (fun _ => rfl) ?_
    refine wq_getf rfl (by first | rfl | assumption) (by first | decide | omega | assumption) (mb_o (mw_b hW1)) rfl ?_
    refine wq_top (mw_13 hW1 :) ?_
    refine wq_zne rfl (by first | omega | decide | exact Nat.lt_of_le_of_lt Nat.and_le_right (by decide) | exact ⟨by omega, by omega⟩) (fun c => absurd c (by omega)) (fun c14 => ?_)
    refine wq_go rfl (fun _ => rfl) ?_
    refine wq_getf rfl (by first | rfl | assumption) (by first | decide | omega | assumption) (mb_o (mw_b hW1)) rfl ?_
    refine wq_go rfl (fun _ => rfl) ?_
    refine wq_lald rfl (by first | rfl | assumption) (by first | decide | omega | assumption) (mb_q (mw_b hW1)) rfl (by omega) (by first | decide | omega) ?_
    refine wq_go rfl (fun _ => rfl) ?_
    refine wq_getf rfl (by first | rfl | assumption) (by first | decide | omega | assumption) (mb_o (mw_b hW1)) rfl ?_
    refine wq_go rfl (fun _ => rfl) ?_
    refine wq_lald rfl (by first | rfl | assumption) (by first | decide | omega | assumption) (mb_293 (mw_b hW1)) rfl (by omega) (by first | decide | omega) ?_
    refine wq_go rfl (fun _ => rfl) ?_
    refine wq_if rfl  (fun c24 => ?_) (fun c24 => ?_)
    · skip
      have hne : ¬ aq σ 295 u = Xn X tk := fun e => (of_decide_eq_true c24) ((lg_cmp_eq _ _).mpr ((aq_eq (hF1 295 rfl) u).trans (e.trans (mb_tn (mw_b hW1) htk hrk hk23).symm)))
      refine wq_incN rfl rfl rfl ?_
      refine wq_go rfl (fun _ => rfl) ?_
      exact ih (u + 1) (by omega) g1 σ1 hF1 (by rw [show anyN (aq σ 295) (Xn X tk) (u + 1) = anyN (aq σ 295) (Xn X tk) u by rw [anyN, decide_eq_false hne, Bool.or_false]]; exact hW1)
    · skip
      have hee : aq σ 295 u = Xn X tk := (aq_eq (hF1 295 rfl) u).symm.trans (((lg_cmp_eq _ _).mp (Classical.not_not.mp (of_decide_eq_false c24))).trans (mb_tn (mw_b hW1) htk hrk hk23))
      refine wq_go rfl (fun _ => rfl) ?_
      refine wq_cN (m := 3) rfl rfl ?_
      refine wq_go rfl (fun _ => rfl) ?_
      refine wq_callV rfl rfl (by first | rfl | assumption) (by first | decide | omega | assumption) (Nat.le_of_ble_eq_true rfl) (Nat.le_of_ble_eq_true rfl) rfl rfl ?_
      refine m_wrong hW1 htk hrk (by decide) (wn_le hM) (fun g2 σ2 F2 G2 W2 => ?_)
      refine wq_incN rfl rfl rfl ?_
      refine wq_go rfl (fun _ => rfl) ?_
      exact ih (u + 1) (by omega) g2 σ2 (fr_trans hF1 F2) (by rw [show anyN (aq σ 295) (Xn X tk) (u + 1) = (anyN (aq σ 295) (Xn X tk) u || true) by rw [anyN, decide_eq_true hee], ← wn_or]; exact W2)
theorem m_named {xs : List Int32} {d : Nat} {σ : Nat → List Value} {Q : Option Value → (Nat → List Value) → Prop} {B : Bs} {X : Tx} {s t o bn cn nn : Nat} {w : Option (Nat × Nat)} {g : Nat → Int32} (hW : MrW B X s t o bn cn nn w g σ) (hM : okM X w t) (hnn : nn ≤ 9)  (K1 : ∀ t1 g' σ', must X 23 t = .inr t1 → t1 = t + 1 → Xk X t = 23 → Fr x287 σ σ' → MrW B X s t1 o bn cn nn (wn w (anyN (aq σ 295) (Xn X t) nn) 3 (Xp X t)) g' σ' → Q (some (.int (nI t))) σ') (K0 : ∀ f' g' σ', must X 23 t = er f' t → Fr x287 σ σ' → MrF B X s f' (Xp X t) bn g' σ' → Q (some (.int (nI t))) σ') : Wq xs (d + 3) ax_cd237 0 [(0, .ref 287)] [] σ Q := by
  have hX := mb_X (mw_b hW)
  have ht := mw_t hW
  have hr := mw_r hW
  have hs2 := mb_2 (mw_b hW)
  have hkt := mkK_le _ (hX.1 t)
  have hpt := hX.2.2.1 t
  refine wq_go rfl (fun _ => rfl) ?_
  refine wq_getf rfl (by first | rfl | assumption) (by first | decide | omega | assumption) (mb_o (mw_b hW)) rfl ?_
  refine wq_top (mw_11 hW :) ?_
  refine wq_go rfl (fun _ => rfl) ?_
  refine wq_go rfl (fun _ => rfl) ?_
  refine wq_cN (m := 1) rfl rfl ?_
  refine wq_callV rfl rfl (by first | rfl | assumption) (by first | decide | omega | assumption) (Nat.le_of_ble_eq_true rfl) (Nat.le_of_ble_eq_true rfl) rfl rfl ?_
  refine m_must hW (k := 23) (by decide) (fun t5 g5 σ5 m5 e5 k5 F5 G5 W5 => ?_) (fun f5 g5 σ5 m5 F5 G5 W5 => ?_)
  · skip
    refine wq_cN (m := 0) rfl rfl ?_
    refine wq_go rfl (fun _ => rfl) ?_
    refine wq_lv ⟨(by decide : ([2, 1, 0] : List Nat).Nodup), (lvm (List.mem_of_getElem? (i := 0) rfl) (lvm (List.mem_of_getElem? (i := 1) rfl) (lvm (List.mem_of_getElem? (i := 2) rfl) lvn)))⟩ (m_nm_l (σ := σ5) (w := w) ht hr k5 hM hnn (fun g' σ' F W => ?_) nn 0 rfl g5 σ5 (fr_refl _ _) (by rw [show anyN (aq σ5 295) (Xn X t) 0 = false from rfl, wn_f]; exact W5))
    rw [aq_fun (F5 295 rfl)] at W
    exact K1 t5 g' σ' m5 e5 k5 (fr_trans F5 F) W
  · skip
    refine wq_cN (m := 0) rfl rfl ?_
    refine wq_go rfl (fun _ => rfl) ?_
    have hf0 := mf_0 W5
    have hf9 := mf_9 W5
    refine wq_go rfl (fun _ => rfl) ?_
    refine wq_go rfl (fun _ => rfl) ?_
    refine wq_getf rfl (by first | rfl | assumption) (by first | decide | omega | assumption) (mb_o (mf_b W5)) rfl ?_
    refine wq_top ((G5 20 rfl).trans (mw_20 hW :)) ?_
    refine wq_cge rfl (by first | omega | decide | exact Nat.lt_of_le_of_lt Nat.and_le_right (by decide) | exact ⟨by omega, by omega⟩) (by first | omega | decide | exact Nat.lt_of_le_of_lt Nat.and_le_right (by decide) | exact ⟨by omega, by omega⟩) (fun c11 => ?_) (fun c11 => ?_)
    · skip
      refine wq_go rfl (fun _ => rfl) ?_
      refine wq_iret rfl ?_
      exact K0 f5 g5 σ5 m5 F5 W5
    · skip
      refine wq_go rfl (fun _ => rfl) ?_
      refine wq_getf rfl (by first | rfl | assumption) (by first | decide | omega | assumption) (mb_o (mf_b W5)) rfl ?_
      refine wq_top (mf_13 W5 :) ?_
      refine wq_zne rfl (by first | omega | decide | exact Nat.lt_of_le_of_lt Nat.and_le_right (by decide) | exact ⟨by omega, by omega⟩) (fun c14 => ?_) (fun c => absurd (show _ from by omega) c)
      refine wq_go rfl (fun _ => rfl) ?_
      refine wq_iret rfl ?_
      exact K0 f5 g5 σ5 m5 F5 W5
def xN : Nat → Bool := fun j => j == 287 || j == 295 || j == 296
theorem x287_N : ∀ j, x287 j = true → xN j = true := by
  intro j h
  simp only [x287] at h
  simp only [xN, h, Bool.true_or]
theorem m_ends {xs : List Int32} {d : Nat} {σ : Nat → List Value} {Q : Option Value → (Nat → List Value) → Prop} {B : Bs} {X : Tx} {s t o bn cn nn : Nat} {w : Option (Nat × Nat)} {g : Nat → Int32} (hW : MrW B X s t o bn cn nn w g σ) {tk : Nat} (htk : tk ≤ 400) (hrk : rch X tk) (hk23 : Xk X tk = 23) (hnn : nn < 9) {a : Int32}  (K1 : ∀ t1 g' σ', must X 25 t = .inr t1 → t1 = t + 1 → Xk X t = 25 → Fr xN σ σ' → MrW B X s t1 o bn cn (nn + 1) w g' σ' → σ' 295 = arrL 9 (vp_updL (aq σ 295) nn (Xn X tk)) → σ' 296 = arr 9 (upd (ag σ 296) nn a) → Q none σ') (K0 : ∀ f' g' σ', must X 25 t = er f' t → Fr x287 σ σ' → MrF B X s f' (Xp X t) bn g' σ' → Q none σ') : Wq xs (d + 3) ax_cd241 0 [(0, .ref 287), (1, .int (nI tk)), (2, .int a)] [] σ Q := by
  have hX := mb_X (mw_b hW)
  have ht := mw_t hW
  have hr := mw_r hW
  have hs2 := mb_2 (mw_b hW)
  have hkt := mkK_le _ (hX.1 t)
  have hpt := hX.2.2.1 t
  refine wq_go rfl (fun _ => rfl) ?_
  refine wq_cN (m := 4) rfl rfl ?_
  refine wq_callV rfl rfl (by first | rfl | assumption) (by first | decide | omega | assumption) (Nat.le_of_ble_eq_true rfl) (Nat.le_of_ble_eq_true rfl) rfl rfl ?_
  refine m_must hW (k := 25) (by decide) (fun t2 g2 σ2 m2 e2 k2 F2 G2 W2 => ?_) (fun f2 g2 σ2 m2 F2 G2 W2 => ?_)
  · skip
    skip
    refine wq_go rfl (fun _ => rfl) ?_
    refine wq_getf rfl (by first | rfl | assumption) (by first | decide | omega | assumption) (mb_o (mw_b W2)) rfl ?_
    refine wq_top (mw_13 W2 :) ?_
    refine wq_zle rfl (by first | omega | decide | exact Nat.lt_of_le_of_lt Nat.and_le_right (by decide) | exact ⟨by omega, by omega⟩) (fun c5 => ?_) (fun c => absurd (show _ from by omega) c)
    refine wq_go rfl (fun _ => rfl) ?_
    refine wq_getf rfl (by first | rfl | assumption) (by first | decide | omega | assumption) (mb_o (mw_b W2)) rfl ?_
    refine wq_go rfl (fun _ => rfl) ?_
    refine wq_getf rfl (by first | rfl | assumption) (by first | decide | omega | assumption) (mb_o (mw_b W2)) rfl ?_
    refine wq_top (mw_20 W2 :) ?_
    refine wq_go rfl (fun _ => rfl) ?_
    refine wq_getf rfl (by first | rfl | assumption) (by first | decide | omega | assumption) (mb_o (mw_b W2)) rfl ?_
    refine wq_go rfl (fun _ => rfl) ?_
    refine wq_lald rfl (by first | rfl | assumption) (by first | decide | omega | assumption) (mb_293 (mw_b W2)) rfl (by omega) (by first | decide | omega) ?_
    refine wq_last rfl (by first | rfl | assumption) (by first | decide | omega | assumption) (mb_q (mw_b W2)) rfl (by omega) (by first | decide | omega) ?_
    refine wq_go rfl (fun _ => rfl) ?_
    refine wq_getf rfl (by first | rfl | assumption) (by first | decide | omega | assumption) ((up_ne _ _ (by decide)).trans (mb_o (mw_b W2))) rfl ?_
    refine wq_go rfl (fun _ => rfl) ?_
    refine wq_getf rfl (by first | rfl | assumption) (by first | decide | omega | assumption) ((up_ne _ _ (by decide)).trans (mb_o (mw_b W2))) rfl ?_
    refine wq_top (mw_20 W2 :) ?_
    refine wq_go rfl (fun _ => rfl) ?_
    refine wq_iast rfl (by first | rfl | assumption) (by first | decide | omega | assumption) ((up_ne _ _ (by decide)).trans (mb_a (mw_b W2) (by decide) : IsA σ2 296 9)) rfl (by omega) (by first | decide | omega) ?_
    refine wq_go rfl (fun _ => rfl) ?_
    refine wq_go rfl (fun _ => rfl) ?_
    refine wq_getf rfl (by first | rfl | assumption) (by first | decide | omega | assumption) ((up_ne _ _ (by decide)).trans ((up_ne _ _ (by decide)).trans (mb_o (mw_b W2)))) rfl ?_
    refine wq_top (mw_20 W2 :) ?_
    refine wq_cN (m := 1) rfl rfl ?_
    refine wq_addN rfl ?_
    refine wq_mput rfl ((up_ne _ _ (by decide)).trans ((up_ne _ _ (by decide)).trans (mb_o (mw_b W2)))) rfl rfl rfl rfl ?_
    refine wq_end rfl (fun _ => rfl) ?_
    refine K1 t2 _ _ m2 e2 k2 (fr_up (fr_up (fr_up (fr_mono F2 x287_N) rfl) rfl) rfl) ⟨mrb_o (mrb_n (mrb_q (mw_b W2)) (by decide) (Or.inl rfl)) (fg_up (fg_refl _ _) rfl), (mw_11 W2 :), (mw_12 W2 :), (mw_13 W2 :), (mw_15 W2 :), (mw_16 W2 :), rfl, (mw_38 W2 :), (mw_44 W2 :), (mw_t W2 :), (mw_r W2 :), (mw_v W2 :)⟩ ?_ ?_
    · rw [up_ne _ _ (by decide), up_ne _ _ (by decide), up_same, mb_tn (mw_b W2) htk hrk hk23, aq_fun (F2 295 rfl)]
    · rw [up_ne _ _ (by decide), up_same, ag_fun (F2 296 rfl)]
  · skip
    have hf9 := mf_9 W2
    refine wq_go rfl (fun _ => rfl) ?_
    refine wq_getf rfl (by first | rfl | assumption) (by first | decide | omega | assumption) (mb_o (mf_b W2)) rfl ?_
    refine wq_top (mf_13 W2 :) ?_
    refine wq_zle rfl (by first | omega | decide | exact Nat.lt_of_le_of_lt Nat.and_le_right (by decide) | exact ⟨by omega, by omega⟩) (fun c => absurd c (by have := mf_0 W2; omega)) (fun c5 => ?_)
    refine wq_end rfl (fun _ => rfl) ?_
    exact K0 f2 g2 σ2 m2 F2 W2
theorem m_kn_l {xs : List Int32} {d : Nat} {σ : Nat → List Value} {Q : Option Value → (Nat → List Value) → Prop} {B : Bs} {X : Tx} {s t o bn cn nn tk lo : Nat} {w : Option (Nat × Nat)} {g : Nat → Int32} (hW : MrW B X s t o bn cn nn w g σ) (htk : tk ≤ 400) (hrk : rch X tk) (hk23 : Xk X tk = 23) (hM : okM X w tk) (hnn : nn ≤ 9) (hlo : lo ≤ 10) {a : Nat → Nat} (ha : ∀ i, i < nn → ag σ 296 i = nI (a i) ∧ a i < 100) {o' : Option Nat}  (K : ∀ g' σ', Fr x287 σ σ' → MrW B X s t o bn cn nn (wn w o'.isNone 4 (Xp X tk)) g' σ' → Q (some (.int (nmI o'))) σ') : ∀ (m u : Nat), m + u = nn → knF (aq σ 295) a lo (Xn X tk) m u = o' → Wq xs (d + 3) ax_cd243 13 [(3, .int (nI u)), (2, .int (nI tk)), (0, .ref 287), (1, .int (nI lo))] [] σ Q := by
  have hX := mb_X (mw_b hW)
  have ht := mw_t hW
  have hr := mw_r hW
  have hs2 := mb_2 (mw_b hW)
  have hkt := mkK_le _ (hX.1 t)
  have hpt := hX.2.2.1 t
  intro m
  induction m with
  | zero =>
    intro u hm hE
    refine wq_go rfl (fun _ => rfl) ?_
    refine wq_go rfl (fun _ => rfl) ?_
    refine wq_getf rfl (by first | rfl | assumption) (by first | decide | omega | assumption) (mb_o (mw_b hW)) rfl ?_
    refine wq_top (mw_20 hW :) ?_
    refine wq_cge rfl (by first | omega | decide | exact Nat.lt_of_le_of_lt Nat.and_le_right (by decide) | exact ⟨by omega, by omega⟩) (by first | omega | decide | exact Nat.lt_of_le_of_lt Nat.and_le_right (by decide) | exact ⟨by omega, by omega⟩) (fun c16 => ?_) (fun c => absurd (show _ from by omega) c)
    refine wq_go rfl (fun _ => rfl) ?_
    refine wq_cN (m := 4) rfl rfl ?_
    refine wq_go rfl (fun _ => rfl) ?_
    refine wq_callV rfl rfl (by first | rfl | assumption) (by first | decide | omega | assumption) (Nat.le_of_ble_eq_true rfl) (Nat.le_of_ble_eq_true rfl) rfl rfl ?_
    have hE : none = o' := hE
    subst hE
    refine m_wrong hW htk hrk (by decide) (fun q e => Or.inl (hM q e)) (fun g2 σ2 F2 G2 W2 => ?_)
    refine wq_go rfl (fun _ => rfl) ?_
    refine wq_iret rfl ?_
    exact K g2 σ2 F2 W2
  | succ m ih =>
    intro u hm hE
    refine wq_go rfl (fun _ => rfl) ?_
    refine wq_go rfl (fun _ => rfl) ?_
    refine wq_getf rfl (by first | rfl | assumption) (by first | decide | omega | assumption) (mb_o (mw_b hW)) rfl ?_
    refine wq_top (mw_20 hW :) ?_
    refine wq_cge rfl (by first | omega | decide | exact Nat.lt_of_le_of_lt Nat.and_le_right (by decide) | exact ⟨by omega, by omega⟩) (by first | omega | decide | exact Nat.lt_of_le_of_lt Nat.and_le_right (by decide) | exact ⟨by omega, by omega⟩) (fun c => absurd c (by omega)) (fun c16 => ?_)
    refine wq_go rfl (fun _ => rfl) ?_
    refine wq_getf rfl (by first | rfl | assumption) (by first | decide | omega | assumption) (mb_o (mw_b hW)) rfl ?_
    refine wq_go rfl (fun _ => rfl) ?_
    refine wq_lald rfl (by first | rfl | assumption) (by first | decide | omega | assumption) (mb_q (mw_b hW)) rfl (by omega) (by first | decide | omega) ?_
    refine wq_go rfl (fun _ => rfl) ?_
    refine wq_getf rfl (by first | rfl | assumption) (by first | decide | omega | assumption) (mb_o (mw_b hW)) rfl ?_
    refine wq_go rfl (fun _ => rfl) ?_
    refine wq_lald rfl (by first | rfl | assumption) (by first | decide | omega | assumption) (mb_293 (mw_b hW)) rfl (by omega) (by first | decide | omega) ?_
    refine wq_go rfl (fun _ => rfl) ?_
    refine wq_if rfl  (fun c26 => ?_) (fun c26 => ?_)
    · skip
      have hne : ¬ aq σ 295 u = Xn X tk := fun e => (of_decide_eq_true c26) ((lg_cmp_eq _ _).mpr (e.trans (mb_tn (mw_b hW) htk hrk hk23).symm))
      refine wq_incN rfl rfl rfl ?_
      refine wq_go rfl (fun _ => rfl) ?_
      exact ih (u + 1) (by omega) (by rw [knF, if_neg (by first | exact fun q => hne q.1 | (intro q; omega))] at hE; exact hE)
    · skip
      have hee : aq σ 295 u = Xn X tk := ((lg_cmp_eq _ _).mp (Classical.not_not.mp (of_decide_eq_false c26))).trans (mb_tn (mw_b hW) htk hrk hk23)
      have hau := (ha u (by omega)).2
      refine wq_go rfl (fun _ => rfl) ?_
      refine wq_getf rfl (by first | rfl | assumption) (by first | decide | omega | assumption) (mb_o (mw_b hW)) rfl ?_
      refine wq_go rfl (fun _ => rfl) ?_
      refine wq_iald rfl (by first | rfl | assumption) (by first | decide | omega | assumption) (mb_a (mw_b hW) (by decide) : IsA σ 296 9) rfl (by omega) (by first | decide | omega) ?_
      refine wq_top (ha u (by omega)).1 ?_
      refine wq_go rfl (fun _ => rfl) ?_
      refine wq_clt rfl (by first | omega | decide | exact Nat.lt_of_le_of_lt Nat.and_le_right (by decide) | exact ⟨by omega, by omega⟩) (by first | omega | decide | exact Nat.lt_of_le_of_lt Nat.and_le_right (by decide) | exact ⟨by omega, by omega⟩) (fun c32 => ?_) (fun c32 => ?_)
      · skip
        refine wq_incN rfl rfl rfl ?_
        refine wq_go rfl (fun _ => rfl) ?_
        exact ih (u + 1) (by omega) (by rw [knF, if_neg (by first | exact fun q => hne q.1 | (intro q; omega))] at hE; exact hE)
      · skip
        refine wq_go rfl (fun _ => rfl) ?_
        refine wq_getf rfl (by first | rfl | assumption) (by first | decide | omega | assumption) (mb_o (mw_b hW)) rfl ?_
        refine wq_go rfl (fun _ => rfl) ?_
        refine wq_iald rfl (by first | rfl | assumption) (by first | decide | omega | assumption) (mb_a (mw_b hW) (by decide) : IsA σ 296 9) rfl (by omega) (by first | decide | omega) ?_
        refine wq_top (ha u (by omega)).1 ?_
        refine wq_go rfl (fun _ => rfl) ?_
        refine wq_cN (m := 10) rfl rfl ?_
        refine wq_addN rfl ?_
        refine wq_cge rfl (by first | omega | decide | exact Nat.lt_of_le_of_lt Nat.and_le_right (by decide) | exact ⟨by omega, by omega⟩) (by first | omega | decide | exact Nat.lt_of_le_of_lt Nat.and_le_right (by decide) | exact ⟨by omega, by omega⟩) (fun c40 => ?_) (fun c40 => ?_)
        · skip
          refine wq_incN rfl rfl rfl ?_
          refine wq_go rfl (fun _ => rfl) ?_
          exact ih (u + 1) (by omega) (by rw [knF, if_neg (by first | exact fun q => hne q.1 | (intro q; omega))] at hE; exact hE)
        · skip
          refine wq_go rfl (fun _ => rfl) ?_
          refine wq_getf rfl (by first | rfl | assumption) (by first | decide | omega | assumption) (mb_o (mw_b hW)) rfl ?_
          refine wq_go rfl (fun _ => rfl) ?_
          refine wq_iald rfl (by first | rfl | assumption) (by first | decide | omega | assumption) (mb_a (mw_b hW) (by decide) : IsA σ 296 9) rfl (by omega) (by first | decide | omega) ?_
          refine wq_top (ha u (by omega)).1 ?_
          refine wq_go rfl (fun _ => rfl) ?_
          refine wq_subN rfl (by omega) ?_
          refine wq_iret rfl ?_
          rw [knF, if_pos ⟨hee, by omega, by omega⟩] at hE
          subst hE
          exact K g σ (fr_refl _ _) (by rw [show (some (a u - lo)).isNone = false from rfl, wn_f]; exact hW)
theorem m_kn {xs : List Int32} {d : Nat} {σ : Nat → List Value} {Q : Option Value → (Nat → List Value) → Prop} {B : Bs} {X : Tx} {s t o bn cn nn : Nat} {w : Option (Nat × Nat)} {g : Nat → Int32} (hW : MrW B X s t o bn cn nn w g σ) (hM : okM X w t) (hnn : nn ≤ 9) {lo : Nat} (hlo : lo ≤ 10) {a : Nat → Nat} (ha : ∀ i, i < nn → ag σ 296 i = nI (a i) ∧ a i < 100)  (K1 : ∀ t1 g' σ', must X 23 t = .inr t1 → t1 = t + 1 → Xk X t = 23 → Fr x287 σ σ' → MrW B X s t1 o bn cn nn (wn w (knF (aq σ 295) a lo (Xn X t) nn 0).isNone 4 (Xp X t)) g' σ' → Q (some (.int (nmI (knF (aq σ 295) a lo (Xn X t) nn 0)))) σ') (K0 : ∀ f' g' σ', must X 23 t = er f' t → Fr x287 σ σ' → FrG yT g g' → MrF B X s f' (Xp X t) bn g' σ' → Q (some (.int (-1))) σ') : Wq xs (d + 3) ax_cd243 0 [(0, .ref 287), (1, .int (nI lo))] [] σ Q := by
  have hX := mb_X (mw_b hW)
  have ht := mw_t hW
  have hr := mw_r hW
  have hs2 := mb_2 (mw_b hW)
  have hkt := mkK_le _ (hX.1 t)
  have hpt := hX.2.2.1 t
  refine wq_go rfl (fun _ => rfl) ?_
  refine wq_getf rfl (by first | rfl | assumption) (by first | decide | omega | assumption) (mb_o (mw_b hW)) rfl ?_
  refine wq_top (mw_11 hW :) ?_
  refine wq_go rfl (fun _ => rfl) ?_
  refine wq_go rfl (fun _ => rfl) ?_
  refine wq_cN (m := 1) rfl rfl ?_
  refine wq_callV rfl rfl (by first | rfl | assumption) (by first | decide | omega | assumption) (Nat.le_of_ble_eq_true rfl) (Nat.le_of_ble_eq_true rfl) rfl rfl ?_
  refine m_must hW (k := 23) (by decide) (fun t5 g5 σ5 m5 e5 k5 F5 G5 W5 => ?_) (fun f5 g5 σ5 m5 F5 G5 W5 => ?_)
  · skip
    skip
    refine wq_go rfl (fun _ => rfl) ?_
    refine wq_getf rfl (by first | rfl | assumption) (by first | decide | omega | assumption) (mb_o (mw_b W5)) rfl ?_
    refine wq_top (mw_13 W5 :) ?_
    refine wq_zle rfl (by first | omega | decide | exact Nat.lt_of_le_of_lt Nat.and_le_right (by decide) | exact ⟨by omega, by omega⟩) (fun c8 => ?_) (fun c => absurd (show _ from by omega) c)
    refine wq_cN (m := 0) rfl rfl ?_
    refine wq_go rfl (fun _ => rfl) ?_
    refine wq_lv ⟨(by decide : ([3, 2, 0, 1] : List Nat).Nodup), (lvm (List.mem_of_getElem? (i := 0) rfl) (lvm (List.mem_of_getElem? (i := 1) rfl) (lvm (List.mem_of_getElem? (i := 2) rfl) (lvm (List.mem_of_getElem? (i := 3) rfl) lvn))))⟩ (m_kn_l (a := a) (o' := knF (aq σ 295) a lo (Xn X t) nn 0) W5 ht hr k5 hM hnn hlo (fun i hi => ⟨(ag_eq (F5 296 rfl) i).trans (ha i hi).1, (ha i hi).2⟩) (fun g' σ' F W => ?_) nn 0 rfl (by rw [aq_fun (F5 295 rfl)]))
    exact K1 t5 g' σ' m5 e5 k5 (fr_trans F5 F) W
  · skip
    have hf9 := mf_9 W5
    refine wq_go rfl (fun _ => rfl) ?_
    refine wq_getf rfl (by first | rfl | assumption) (by first | decide | omega | assumption) (mb_o (mf_b W5)) rfl ?_
    refine wq_top (mf_13 W5 :) ?_
    refine wq_zle rfl (by first | omega | decide | exact Nat.lt_of_le_of_lt Nat.and_le_right (by decide) | exact ⟨by omega, by omega⟩) (fun c => absurd c (by have := mf_0 W5; omega)) (fun c8 => ?_)
    refine wq_go rfl (fun _ => rfl) ?_
    refine wq_iret rfl ?_
    exact K0 f5 g5 σ5 m5 F5 G5 W5
theorem m_told {xs : List Int32} {d : Nat} {σ : Nat → List Value} {Q : Option Value → (Nat → List Value) → Prop} {B : Bs} {X : Tx} {s t o bn cn nn : Nat} {w : Option (Nat × Nat)} {g : Nat → Int32} (hW : MrW B X s t o bn cn nn w g σ) (hM : okM X w t) (hn : ¬ Xk X t = 34 ∧ ¬ Xk X t = 35) {lo hi : Nat} (hlo : lo < 10000) (hhi : hi < 10000)  (K1 : ∀ t2 t3 g' σ', adv t = .inr (t + 1) → must X 24 (t + 1) = .inr t2 → Xk X (t + 1) = 24 → must X 25 t2 = .inr t3 → Xk X t2 = 25 → t2 = t + 2 → t3 = t + 3 → Fr x287 σ σ' → MrW B X s t3 o bn cn nn (wn w (outB X (t + 1) lo hi) 5 (Xp X (t + 1))) g' σ' → Q (some (.int (nI (Xv X (t + 1))))) σ') (K0 : ∀ f' p' x g' σ', (bnd (adv t) fun t1 => bnd (must X 24 t1) fun t2 => must X 25 t2) = er f' p' → Fr x287 σ σ' → MrF B X s f' (Xp X p') bn g' σ' → Q (some (.int x)) σ') : Wq xs (d + 3) ax_cd244 0 [(0, .ref 287), (1, .int (nI lo)), (2, .int (nI hi))] [] σ Q := by
  have hX := mb_X (mw_b hW)
  have ht := mw_t hW
  have hr := mw_r hW
  have hs2 := mb_2 (mw_b hW)
  have hkt := mkK_le _ (hX.1 t)
  have hpt := hX.2.2.1 t
  refine wq_go rfl (fun _ => rfl) ?_
  refine wq_callV rfl rfl (by first | rfl | assumption) (by first | decide | omega | assumption) (Nat.le_of_ble_eq_true rfl) (Nat.le_of_ble_eq_true rfl) rfl rfl ?_
  refine m_go hW ⟨by omega, by omega⟩ (fun g1 σ1 h1 F1 G1 W1 => ?_) (fun g1 σ1 h1 F1 G1 W1 => ?_)
  · skip
    refine wq_go rfl (fun _ => rfl) ?_
    refine wq_go rfl (fun _ => rfl) ?_
    refine wq_go rfl (fun _ => rfl) ?_
    refine wq_callV rfl rfl (by first | rfl | assumption) (by first | decide | omega | assumption) (Nat.le_of_ble_eq_true rfl) (Nat.le_of_ble_eq_true rfl) rfl rfl ?_
    refine m_bnd W1 (okM_s hM hX hn.1) hlo hhi (fun t5 g5 σ5 m5 e5 k5 F5 W5 => ?_) (fun f5 x5 g5 σ5 m5 F5 W5 => ?_)
    · skip
      refine wq_go rfl (fun _ => rfl) ?_
      refine wq_go rfl (fun _ => rfl) ?_
      refine wq_cN (m := 4) rfl rfl ?_
      refine wq_callV rfl rfl (by first | rfl | assumption) (by first | decide | omega | assumption) (Nat.le_of_ble_eq_true rfl) (Nat.le_of_ble_eq_true rfl) rfl rfl ?_
      refine m_must W5 (k := 25) (by decide) (fun t9 g9 σ9 m9 e9 k9 F9 G9 W9 => ?_) (fun f9 g9 σ9 m9 F9 G9 W9 => ?_)
      · skip
        refine wq_go rfl (fun _ => rfl) ?_
        refine wq_iret rfl ?_
        exact K1 t5 t9 _ _ (adv_y h1) m5 k5 m9 k9 (by omega) (by omega) (fr_trans (fr_trans (fr_trans (fr_refl _ _) F1) F5) F9) W9
      · skip
        refine wq_go rfl (fun _ => rfl) ?_
        refine wq_iret rfl ?_
        exact K0 f9 t5 _ _ _ (by rw [adv_y h1, bnd_o, m5, bnd_o, m9]) (fr_trans (fr_trans (fr_trans (fr_refl _ _) F1) F5) F9) W9
    · skip
      refine wq_go rfl (fun _ => rfl) ?_
      refine wq_go rfl (fun _ => rfl) ?_
      refine wq_cN (m := 4) rfl rfl ?_
      refine wq_callV rfl rfl (by first | rfl | assumption) (by first | decide | omega | assumption) (Nat.le_of_ble_eq_true rfl) (Nat.le_of_ble_eq_true rfl) rfl rfl ?_
      refine m_must_e W5 ?_
      refine wq_go rfl (fun _ => rfl) ?_
      refine wq_iret rfl ?_
      exact K0 f5 (t + 1) _ _ _ (by rw [adv_y h1, bnd_o, m5]; rfl) (fr_trans (fr_trans (fr_refl _ _) F1) F5) W5
  · skip
    refine wq_go rfl (fun _ => rfl) ?_
    refine wq_go rfl (fun _ => rfl) ?_
    refine wq_go rfl (fun _ => rfl) ?_
    refine wq_callV rfl rfl (by first | rfl | assumption) (by first | decide | omega | assumption) (Nat.le_of_ble_eq_true rfl) (Nat.le_of_ble_eq_true rfl) rfl rfl ?_
    refine m_bnd_e W1 ?_
    refine wq_go rfl (fun _ => rfl) ?_
    refine wq_go rfl (fun _ => rfl) ?_
    refine wq_cN (m := 4) rfl rfl ?_
    refine wq_callV rfl rfl (by first | rfl | assumption) (by first | decide | omega | assumption) (Nat.le_of_ble_eq_true rfl) (Nat.le_of_ble_eq_true rfl) rfl rfl ?_
    refine m_must_e W1 ?_
    refine wq_go rfl (fun _ => rfl) ?_
    refine wq_iret rfl ?_
    exact K0 2 t _ _ _ (by subst h1; rfl) (fr_trans (fr_refl _ _) F1) W1
