/-! THE REFERENCE READS: its small methods -/
theorem mw_b {B : Bs} {X : Tx} {s t o bn cn nn : Nat} {w : Option (Nat × Nat)} {g : Nat → Int32} {σ : Nat → List Value} (h : MrW B X s t o bn cn nn w g σ) : MrB B X s g σ := h.1
theorem mw_11 {B : Bs} {X : Tx} {s t o bn cn nn : Nat} {w : Option (Nat × Nat)} {g : Nat → Int32} {σ : Nat → List Value} (h : MrW B X s t o bn cn nn w g σ) : g 11 = nI t := h.2.1
theorem mw_12 {B : Bs} {X : Tx} {s t o bn cn nn : Nat} {w : Option (Nat × Nat)} {g : Nat → Int32} {σ : Nat → List Value} (h : MrW B X s t o bn cn nn w g σ) : g 12 = nI o := h.2.2.1
theorem mw_13 {B : Bs} {X : Tx} {s t o bn cn nn : Nat} {w : Option (Nat × Nat)} {g : Nat → Int32} {σ : Nat → List Value} (h : MrW B X s t o bn cn nn w g σ) : g 13 = nI 0 := h.2.2.2.1
theorem mw_15 {B : Bs} {X : Tx} {s t o bn cn nn : Nat} {w : Option (Nat × Nat)} {g : Nat → Int32} {σ : Nat → List Value} (h : MrW B X s t o bn cn nn w g σ) : g 15 = wF w := h.2.2.2.2.1
theorem mw_16 {B : Bs} {X : Tx} {s t o bn cn nn : Nat} {w : Option (Nat × Nat)} {g : Nat → Int32} {σ : Nat → List Value} (h : MrW B X s t o bn cn nn w g σ) : ∀ q, w = some q → g 16 = nI q.2 := h.2.2.2.2.2.1
theorem mw_20 {B : Bs} {X : Tx} {s t o bn cn nn : Nat} {w : Option (Nat × Nat)} {g : Nat → Int32} {σ : Nat → List Value} (h : MrW B X s t o bn cn nn w g σ) : g 20 = nI nn := h.2.2.2.2.2.2.1
theorem mw_38 {B : Bs} {X : Tx} {s t o bn cn nn : Nat} {w : Option (Nat × Nat)} {g : Nat → Int32} {σ : Nat → List Value} (h : MrW B X s t o bn cn nn w g σ) : g 38 = nI (130 * s + bn) := h.2.2.2.2.2.2.2.1
theorem mw_44 {B : Bs} {X : Tx} {s t o bn cn nn : Nat} {w : Option (Nat × Nat)} {g : Nat → Int32} {σ : Nat → List Value} (h : MrW B X s t o bn cn nn w g σ) : g 44 = nI (420 * s + cn) := h.2.2.2.2.2.2.2.2.1
theorem mw_t {B : Bs} {X : Tx} {s t o bn cn nn : Nat} {w : Option (Nat × Nat)} {g : Nat → Int32} {σ : Nat → List Value} (h : MrW B X s t o bn cn nn w g σ) : t ≤ 400 := h.2.2.2.2.2.2.2.2.2.1
theorem mw_r {B : Bs} {X : Tx} {s t o bn cn nn : Nat} {w : Option (Nat × Nat)} {g : Nat → Int32} {σ : Nat → List Value} (h : MrW B X s t o bn cn nn w g σ) : rch X t := h.2.2.2.2.2.2.2.2.2.2.1
theorem mw_v {B : Bs} {X : Tx} {s t o bn cn nn : Nat} {w : Option (Nat × Nat)} {g : Nat → Int32} {σ : Nat → List Value} (h : MrW B X s t o bn cn nn w g σ) : okV w := h.2.2.2.2.2.2.2.2.2.2.2
theorem mb_o {B : Bs} {X : Tx} {s : Nat} {g : Nat → Int32} {σ : Nat → List Value} (h : MrB B X s g σ) : σ 287 = mo g := h.1
theorem mb_g {B : Bs} {X : Tx} {s : Nat} {g : Nat → Int32} {σ : Nat → List Value} (h : MrB B X s g σ) : FrG yR B.1 g := h.2.1
theorem mb_k {B : Bs} {X : Tx} {s : Nat} {g : Nat → Int32} {σ : Nat → List Value} (h : MrB B X s g σ) : Kp s B.2 σ := h.2.2.1
theorem mb_19 {B : Bs} {X : Tx} {s : Nat} {g : Nat → Int32} {σ : Nat → List Value} (h : MrB B X s g σ) : g 19 = nI s := h.2.2.2.1
theorem mb_2 {B : Bs} {X : Tx} {s : Nat} {g : Nat → Int32} {σ : Nat → List Value} (h : MrB B X s g σ) : s < 2 := h.2.2.2.2.1
theorem mb_m {B : Bs} {X : Tx} {s : Nat} {g : Nat → Int32} {σ : Nat → List Value} (h : MrB B X s g σ) : Msh σ := h.2.2.2.2.2.1
theorem mb_x {B : Bs} {X : Tx} {s : Nat} {g : Nat → Int32} {σ : Nat → List Value} (h : MrB B X s g σ) : MkX X σ := h.2.2.2.2.2.2.1
theorem mb_X {B : Bs} {X : Tx} {s : Nat} {g : Nat → Int32} {σ : Nat → List Value} (h : MrB B X s g σ) : XOk X := h.2.2.2.2.2.2.2
theorem mf_b {B : Bs} {X : Tx} {s f p bn : Nat} {g : Nat → Int32} {σ : Nat → List Value} (h : MrF B X s f p bn g σ) : MrB B X s g σ := h.1
theorem mf_13 {B : Bs} {X : Tx} {s f p bn : Nat} {g : Nat → Int32} {σ : Nat → List Value} (h : MrF B X s f p bn g σ) : g 13 = nI f := h.2.1
theorem mf_0 {B : Bs} {X : Tx} {s f p bn : Nat} {g : Nat → Int32} {σ : Nat → List Value} (h : MrF B X s f p bn g σ) : ¬ f = 0 := h.2.2.1
theorem mf_9 {B : Bs} {X : Tx} {s f p bn : Nat} {g : Nat → Int32} {σ : Nat → List Value} (h : MrF B X s f p bn g σ) : f < 10 := h.2.2.2.1
theorem mf_14 {B : Bs} {X : Tx} {s f p bn : Nat} {g : Nat → Int32} {σ : Nat → List Value} (h : MrF B X s f p bn g σ) : g 14 = nI p := h.2.2.2.2.1
theorem mf_38 {B : Bs} {X : Tx} {s f p bn : Nat} {g : Nat → Int32} {σ : Nat → List Value} (h : MrF B X s f p bn g σ) : g 38 = nI (130 * s + bn) := h.2.2.2.2.2
theorem mb_a {B : Bs} {X : Tx} {s : Nat} {g : Nat → Int32} {σ : Nat → List Value} (h : MrB B X s g σ) {p n : Nat} (hm : (p, n) ∈ shpm) : IsA σ p n := msh_g (mb_m h) hm
theorem mb_q {B : Bs} {X : Tx} {s : Nat} {g : Nat → Int32} {σ : Nat → List Value} (h : MrB B X s g σ) : IsQ σ 295 9 := (mb_m h).2
theorem mb_290 {B : Bs} {X : Tx} {s : Nat} {g : Nat → Int32} {σ : Nat → List Value} (h : MrB B X s g σ) : IsA σ 290 403 := (mb_x h).1
theorem mb_291 {B : Bs} {X : Tx} {s : Nat} {g : Nat → Int32} {σ : Nat → List Value} (h : MrB B X s g σ) : IsA σ 291 403 := (mb_x h).2.1
theorem mb_292 {B : Bs} {X : Tx} {s : Nat} {g : Nat → Int32} {σ : Nat → List Value} (h : MrB B X s g σ) : IsA σ 292 403 := (mb_x h).2.2.1
theorem mb_293 {B : Bs} {X : Tx} {s : Nat} {g : Nat → Int32} {σ : Nat → List Value} (h : MrB B X s g σ) : IsQ σ 293 403 := (mb_x h).2.2.2.1
theorem mb_tk {B : Bs} {X : Tx} {s : Nat} {g : Nat → Int32} {σ : Nat → List Value} (h : MrB B X s g σ) {j : Nat} (hj : j ≤ 400) (hr : rch X j) : ag σ 290 j = nI (mkK (Xk X j)) := (mb_x h).2.2.2.2.1 j hj hr
theorem mb_tp {B : Bs} {X : Tx} {s : Nat} {g : Nat → Int32} {σ : Nat → List Value} (h : MrB B X s g σ) {j : Nat} (hj : j ≤ 400) (hr : rch X j) : ag σ 291 j = nI (Xp X j) := (mb_x h).2.2.2.2.2.1 j hj hr
theorem mb_tv {B : Bs} {X : Tx} {s : Nat} {g : Nat → Int32} {σ : Nat → List Value} (h : MrB B X s g σ) {j : Nat} (hj : j ≤ 400) (hr : rch X j) (hk : Xk X j = 24) : ag σ 292 j = nI (Xv X j) := (mb_x h).2.2.2.2.2.2.1 j hj hr hk
theorem mb_tn {B : Bs} {X : Tx} {s : Nat} {g : Nat → Int32} {σ : Nat → List Value} (h : MrB B X s g σ) {j : Nat} (hj : j ≤ 400) (hr : rch X j) (hk : Xk X j = 23) : aq σ 293 j = Xn X j := (mb_x h).2.2.2.2.2.2.2 j hj hr hk
theorem mw_k {B : Bs} {X : Tx} {s t o bn cn nn : Nat} {w : Option (Nat × Nat)} {g : Nat → Int32} {σ : Nat → List Value} (h : MrW B X s t o bn cn nn w g σ) : ag σ 290 t = nI (mkK (Xk X t)) := mb_tk (mw_b h) (mw_t h) (mw_r h)
theorem mw_p {B : Bs} {X : Tx} {s t o bn cn nn : Nat} {w : Option (Nat × Nat)} {g : Nat → Int32} {σ : Nat → List Value} (h : MrW B X s t o bn cn nn w g σ) : ag σ 291 t = nI (Xp X t) := mb_tp (mw_b h) (mw_t h) (mw_r h)
def yF : Nat → Bool := fun b => b == 13 || b == 14
def yT : Nat → Bool := fun b => b == 11 || b == 13 || b == 14
def y11 : Nat → Bool := fun b => b == 11
def yV : Nat → Bool := fun b => b == 15 || b == 16
theorem yF_T : ∀ j, yF j = true → yT j = true := by
  intro j h
  simp only [yF, Bool.or_eq_true] at h
  simp only [yT, Bool.or_eq_true]
  rcases h with h | h
  · exact Or.inl (Or.inr h)
  · exact Or.inr h
theorem x287_Rd : ∀ j, x287 j = true → xRd j = true := by
  intro j h
  simp only [x287] at h
  simp only [xRd, h, Bool.true_or]
theorem must_y {X : Tx} {k t : Nat} (h : Xk X t = k) (h4 : t < 400) : must X k t = .inr (t + 1) := by
  unfold must
  rw [if_pos h, adv_y h4]
theorem must_r {X : Tx} {k : Nat} (h : Xk X 400 = k) : must X k 400 = er 2 400 := by
  unfold must
  rw [if_pos h, adv_n]
theorem must_b {X : Tx} {k t : Nat} (h : ¬ Xk X t = k) : must X k t = er 1 t := by
  unfold must
  rw [if_neg h]
theorem m_fail_e {xs : List Int32} {d : Nat} {σ : Nat → List Value} {Q : Option Value → (Nat → List Value) → Prop} {B : Bs} {X : Tx} {s f p bn : Nat} {g : Nat → Int32} (hF : MrF B X s f p bn g σ) {k : Int32}  (K : Q none σ) : Wq xs (d + 0) ax_cd235 0 [(0, .ref 287), (1, .int k)] [] σ Q := by
  have hs2 := mb_2 (mf_b hF)
  have hf0 := mf_0 hF
  have hf9 := mf_9 hF
  refine wq_go rfl (fun _ => rfl) ?_
  refine wq_getf rfl (by first | rfl | assumption) (by first | decide | omega | assumption) (mb_o (mf_b hF)) rfl ?_
  refine wq_top (mf_13 hF :) ?_
  refine wq_zle rfl (by first | omega | decide | exact Nat.lt_of_le_of_lt Nat.and_le_right (by decide) | exact ⟨by omega, by omega⟩) (fun c => absurd c (by omega)) (fun c2 => ?_)
  refine wq_end rfl (fun _ => rfl) ?_
  exact K
theorem m_is_e {xs : List Int32} {d : Nat} {σ : Nat → List Value} {Q : Option Value → (Nat → List Value) → Prop} {B : Bs} {X : Tx} {s f p bn : Nat} {g : Nat → Int32} (hF : MrF B X s f p bn g σ) {k : Int32}  (K : Q (some (.int (nI 0))) σ) : Wq xs (d + 0) ax_cd232 0 [(0, .ref 287), (1, .int k)] [] σ Q := by
  have hs2 := mb_2 (mf_b hF)
  have hf0 := mf_0 hF
  have hf9 := mf_9 hF
  refine wq_go rfl (fun _ => rfl) ?_
  refine wq_getf rfl (by first | rfl | assumption) (by first | decide | omega | assumption) (mb_o (mf_b hF)) rfl ?_
  refine wq_top (mf_13 hF :) ?_
  refine wq_zne rfl (by first | omega | decide | exact Nat.lt_of_le_of_lt Nat.and_le_right (by decide) | exact ⟨by omega, by omega⟩) (fun c2 => ?_) (fun c => absurd (show _ from by omega) c)
  refine wq_cN (m := 0) rfl rfl ?_
  refine wq_nret rfl (by decide) ?_
  exact K
theorem m_must_e {xs : List Int32} {d : Nat} {σ : Nat → List Value} {Q : Option Value → (Nat → List Value) → Prop} {B : Bs} {X : Tx} {s f p bn : Nat} {g : Nat → Int32} (hF : MrF B X s f p bn g σ) {k : Int32}  (K : Q none σ) : Wq xs (d + 2) ax_cd238 0 [(0, .ref 287), (1, .int k)] [] σ Q := by
  have hs2 := mb_2 (mf_b hF)
  have hf0 := mf_0 hF
  have hf9 := mf_9 hF
  refine wq_go rfl (fun _ => rfl) ?_
  refine wq_go rfl (fun _ => rfl) ?_
  refine wq_callV rfl rfl (by first | rfl | assumption) (by first | decide | omega | assumption) (Nat.le_of_ble_eq_true rfl) (Nat.le_of_ble_eq_true rfl) rfl rfl ?_
  refine m_is_e hF ?_
  refine wq_zeq rfl (by first | omega | decide | exact Nat.lt_of_le_of_lt Nat.and_le_right (by decide) | exact ⟨by omega, by omega⟩) (fun c3 => ?_) (fun c => absurd (show _ from by omega) c)
  refine wq_go rfl (fun _ => rfl) ?_
  refine wq_cN (m := 1) rfl rfl ?_
  refine wq_callV rfl rfl (by first | rfl | assumption) (by first | decide | omega | assumption) (Nat.le_of_ble_eq_true rfl) (Nat.le_of_ble_eq_true rfl) rfl rfl ?_
  refine m_fail_e hF ?_
  refine wq_end rfl (fun _ => rfl) ?_
  exact K
theorem m_bnd_e {xs : List Int32} {d : Nat} {σ : Nat → List Value} {Q : Option Value → (Nat → List Value) → Prop} {B : Bs} {X : Tx} {s f p bn : Nat} {g : Nat → Int32} (hF : MrF B X s f p bn g σ) {lo hi : Int32}  (K : Q (some (.int lo)) σ) : Wq xs (d + 2) ax_cd240 0 [(0, .ref 287), (1, .int lo), (2, .int hi)] [] σ Q := by
  have hs2 := mb_2 (mf_b hF)
  have hf0 := mf_0 hF
  have hf9 := mf_9 hF
  refine wq_go rfl (fun _ => rfl) ?_
  refine wq_getf rfl (by first | rfl | assumption) (by first | decide | omega | assumption) (mb_o (mf_b hF)) rfl ?_
  refine wq_top (mf_13 hF :) ?_
  refine wq_zgt rfl (by first | omega | decide | exact Nat.lt_of_le_of_lt Nat.and_le_right (by decide) | exact ⟨by omega, by omega⟩) (fun c2 => ?_) (fun c => absurd (show _ from by omega) c)
  refine wq_go rfl (fun _ => rfl) ?_
  refine wq_cN (m := 1) rfl rfl ?_
  refine wq_callV rfl rfl (by first | rfl | assumption) (by first | decide | omega | assumption) (Nat.le_of_ble_eq_true rfl) (Nat.le_of_ble_eq_true rfl) rfl rfl ?_
  refine m_fail_e hF ?_
  refine wq_go rfl (fun _ => rfl) ?_
  refine wq_iret rfl ?_
  exact K
theorem m_ends_e {xs : List Int32} {d : Nat} {σ : Nat → List Value} {Q : Option Value → (Nat → List Value) → Prop} {B : Bs} {X : Tx} {s f p bn : Nat} {g : Nat → Int32} (hF : MrF B X s f p bn g σ) {a b : Int32}  (K : Q none σ) : Wq xs (d + 3) ax_cd241 0 [(0, .ref 287), (1, .int a), (2, .int b)] [] σ Q := by
  have hs2 := mb_2 (mf_b hF)
  have hf0 := mf_0 hF
  have hf9 := mf_9 hF
  refine wq_go rfl (fun _ => rfl) ?_
  refine wq_cN (m := 4) rfl rfl ?_
  refine wq_callV rfl rfl (by first | rfl | assumption) (by first | decide | omega | assumption) (Nat.le_of_ble_eq_true rfl) (Nat.le_of_ble_eq_true rfl) rfl rfl ?_
  refine m_must_e hF ?_
  refine wq_go rfl (fun _ => rfl) ?_
  refine wq_getf rfl (by first | rfl | assumption) (by first | decide | omega | assumption) (mb_o (mf_b hF)) rfl ?_
  refine wq_top (mf_13 hF :) ?_
  refine wq_zle rfl (by first | omega | decide | exact Nat.lt_of_le_of_lt Nat.and_le_right (by decide) | exact ⟨by omega, by omega⟩) (fun c => absurd c (by omega)) (fun c5 => ?_)
  refine wq_end rfl (fun _ => rfl) ?_
  exact K
theorem m_kn_e {xs : List Int32} {d : Nat} {σ : Nat → List Value} {Q : Option Value → (Nat → List Value) → Prop} {B : Bs} {X : Tx} {s f p bn : Nat} {g : Nat → Int32} (hF : MrF B X s f p bn g σ) {a : Int32}  (K : Q (some (.int (-1))) σ) : Wq xs (d + 3) ax_cd243 0 [(0, .ref 287), (1, .int a)] [] σ Q := by
  have hs2 := mb_2 (mf_b hF)
  have hf0 := mf_0 hF
  have hf9 := mf_9 hF
  refine wq_go rfl (fun _ => rfl) ?_
  refine wq_getf rfl (by first | rfl | assumption) (by first | decide | omega | assumption) (mb_o (mf_b hF)) rfl ?_
  refine wq_go rfl (fun _ => rfl) ?_
  refine wq_go rfl (fun _ => rfl) ?_
  refine wq_cN (m := 1) rfl rfl ?_
  refine wq_callV rfl rfl (by first | rfl | assumption) (by first | decide | omega | assumption) (Nat.le_of_ble_eq_true rfl) (Nat.le_of_ble_eq_true rfl) rfl rfl ?_
  refine m_must_e hF ?_
  refine wq_go rfl (fun _ => rfl) ?_
  refine wq_getf rfl (by first | rfl | assumption) (by first | decide | omega | assumption) (mb_o (mf_b hF)) rfl ?_
  refine wq_top (mf_13 hF :) ?_
  refine wq_zle rfl (by first | omega | decide | exact Nat.lt_of_le_of_lt Nat.and_le_right (by decide) | exact ⟨by omega, by omega⟩) (fun c => absurd c (by omega)) (fun c8 => ?_)
  refine wq_go rfl (fun _ => rfl) ?_
  refine wq_iret rfl ?_
  exact K
theorem m_fail {xs : List Int32} {d : Nat} {σ : Nat → List Value} {Q : Option Value → (Nat → List Value) → Prop} {B : Bs} {X : Tx} {s t o bn cn nn : Nat} {w : Option (Nat × Nat)} {g : Nat → Int32} (hW : MrW B X s t o bn cn nn w g σ) {k : Nat} (hk : ¬ k = 0 ∧ k < 10)  (K : ∀ g' σ', Fr x287 σ σ' → FrG yF g g' → MrF B X s k (Xp X t) bn g' σ' → Q none σ') : Wq xs (d + 0) ax_cd235 0 [(0, .ref 287), (1, .int (nI k))] [] σ Q := by
  have hX := mb_X (mw_b hW)
  have ht := mw_t hW
  have hr := mw_r hW
  have hs2 := mb_2 (mw_b hW)
  have hkt := mkK_le _ (hX.1 t)
  have hpt := hX.2.2.1 t
  refine wq_go rfl (fun _ => rfl) ?_
  refine wq_getf rfl (by first | rfl | assumption) (by first | decide | omega | assumption) (mb_o (mw_b hW)) rfl ?_
  refine wq_top (mw_13 hW :) ?_
  refine wq_zle rfl (by first | omega | decide | exact Nat.lt_of_le_of_lt Nat.and_le_right (by decide) | exact ⟨by omega, by omega⟩) (fun c2 => ?_) (fun c => absurd (show _ from by omega) c)
  refine wq_go rfl (fun _ => rfl) ?_
  refine wq_go rfl (fun _ => rfl) ?_
  refine wq_mput rfl (mb_o (mw_b hW)) rfl rfl rfl rfl ?_
  refine wq_go rfl (fun _ => rfl) ?_
  refine wq_go rfl (fun _ => rfl) ?_
  refine wq_getf rfl (by first | rfl | assumption) (by first | decide | omega | assumption) (up_same _ _ _) rfl ?_
  refine wq_go rfl (fun _ => rfl) ?_
  refine wq_getf rfl (by first | rfl | assumption) (by first | decide | omega | assumption) (up_same _ _ _) rfl ?_
  refine wq_top (mw_11 hW :) ?_
  refine wq_iald rfl (by first | rfl | assumption) (by first | decide | omega | assumption) ((up_ne _ _ (by decide)).trans (mb_291 (mw_b hW))) rfl (by omega) (by first | decide | omega) ?_
  refine wq_top (mw_p hW) ?_
  refine wq_mput rfl (up_same _ _ _) rfl rfl rfl rfl ?_
  rw [up_up]
  refine wq_end rfl (fun _ => rfl) ?_
  exact K _ _ (fr_up (fr_refl _ _) rfl) (fg_up (fg_up (fg_refl _ _) rfl) rfl) ⟨mrb_o (mw_b hW) (fg_up (fg_up (fg_refl _ _) rfl) rfl), rfl, hk.1, hk.2, rfl, (mw_38 hW :)⟩
theorem m_is {xs : List Int32} {d : Nat} {σ : Nat → List Value} {Q : Option Value → (Nat → List Value) → Prop} {B : Bs} {X : Tx} {s t o bn cn nn : Nat} {w : Option (Nat × Nat)} {g : Nat → Int32} (hW : MrW B X s t o bn cn nn w g σ) {k : Nat} (hk : k ≤ 35)  (K1 : Xk X t = k → Q (some (.int (nI 1))) σ) (K0 : ¬ Xk X t = k → Q (some (.int (nI 0))) σ) : Wq xs (d + 0) ax_cd232 0 [(0, .ref 287), (1, .int (nI (mkK k)))] [] σ Q := by
  have hX := mb_X (mw_b hW)
  have ht := mw_t hW
  have hr := mw_r hW
  have hs2 := mb_2 (mw_b hW)
  have hkt := mkK_le _ (hX.1 t)
  have hpt := hX.2.2.1 t
  have hkk := mkK_le _ hk
  refine wq_go rfl (fun _ => rfl) ?_
  refine wq_getf rfl (by first | rfl | assumption) (by first | decide | omega | assumption) (mb_o (mw_b hW)) rfl ?_
  refine wq_top (mw_13 hW :) ?_
  refine wq_zne rfl (by first | omega | decide | exact Nat.lt_of_le_of_lt Nat.and_le_right (by decide) | exact ⟨by omega, by omega⟩) (fun c => absurd c (by omega)) (fun c2 => ?_)
  refine wq_go rfl (fun _ => rfl) ?_
  refine wq_getf rfl (by first | rfl | assumption) (by first | decide | omega | assumption) (mb_o (mw_b hW)) rfl ?_
  refine wq_go rfl (fun _ => rfl) ?_
  refine wq_getf rfl (by first | rfl | assumption) (by first | decide | omega | assumption) (mb_o (mw_b hW)) rfl ?_
  refine wq_top (mw_11 hW :) ?_
  refine wq_iald rfl (by first | rfl | assumption) (by first | decide | omega | assumption) (mb_290 (mw_b hW)) rfl (by omega) (by first | decide | omega) ?_
  refine wq_top (mw_k hW) ?_
  refine wq_go rfl (fun _ => rfl) ?_
  refine wq_cne rfl (by first | omega | decide | exact Nat.lt_of_le_of_lt Nat.and_le_right (by decide) | exact ⟨by omega, by omega⟩) (by first | omega | decide | exact Nat.lt_of_le_of_lt Nat.and_le_right (by decide) | exact ⟨by omega, by omega⟩) (fun c9 => ?_) (fun c9 => ?_)
  · skip
    have e9 : ¬ Xk X t = k := fun e => by rw [e] at c9; omega
    refine wq_cN (m := 0) rfl rfl ?_
    refine wq_nret rfl (by decide) ?_
    first | exact K1 e9 | exact K0 e9
  · skip
    have e9 : Xk X t = k := mkK_inj _ (hX.1 t) _ hk (by omega)
    refine wq_cN (m := 1) rfl rfl ?_
    refine wq_go rfl (fun _ => rfl) ?_
    refine wq_nret rfl (by decide) ?_
    first | exact K1 e9 | exact K0 e9
theorem m_go {xs : List Int32} {d : Nat} {σ : Nat → List Value} {Q : Option Value → (Nat → List Value) → Prop} {B : Bs} {X : Tx} {s t o bn cn nn : Nat} {w : Option (Nat × Nat)} {g : Nat → Int32} (hW : MrW B X s t o bn cn nn w g σ) (hn : ¬ Xk X t = 34 ∧ ¬ Xk X t = 35)  (K1 : ∀ g' σ', t < 400 → Fr x287 σ σ' → FrG yT g g' → MrW B X s (t + 1) o bn cn nn w g' σ' → Q none σ') (K0 : ∀ g' σ', t = 400 → Fr x287 σ σ' → FrG yT g g' → MrF B X s 2 (Xp X t) bn g' σ' → Q none σ') : Wq xs (d + 1) ax_cd236 0 [(0, .ref 287)] [] σ Q := by
  have hX := mb_X (mw_b hW)
  have ht := mw_t hW
  have hr := mw_r hW
  have hs2 := mb_2 (mw_b hW)
  have hkt := mkK_le _ (hX.1 t)
  have hpt := hX.2.2.1 t
  by_cases h4 : t = 400
  · skip
    refine wq_go rfl (fun _ => rfl) ?_
    refine wq_getf rfl (by first | rfl | assumption) (by first | decide | omega | assumption) (mb_o (mw_b hW)) rfl ?_
    refine wq_top (mw_11 hW :) ?_
    refine wq_cN (m := 400) rfl rfl ?_
    refine wq_cne rfl (by first | omega | decide | exact Nat.lt_of_le_of_lt Nat.and_le_right (by decide) | exact ⟨by omega, by omega⟩) (by first | omega | decide | exact Nat.lt_of_le_of_lt Nat.and_le_right (by decide) | exact ⟨by omega, by omega⟩) (fun c => absurd c (by omega)) (fun c3 => ?_)
    refine wq_go rfl (fun _ => rfl) ?_
    refine wq_cN (m := 2) rfl rfl ?_
    refine wq_callV rfl rfl (by first | rfl | assumption) (by first | decide | omega | assumption) (Nat.le_of_ble_eq_true rfl) (Nat.le_of_ble_eq_true rfl) rfl rfl ?_
    refine m_fail hW (k := 2) (by decide) (fun g2 σ2 F2 G2 W2 => ?_)
    refine wq_go rfl (fun _ => rfl) ?_
    refine wq_end rfl (fun _ => rfl) ?_
    exact K0 _ _ h4 F2 (fg_mono G2 yF_T) W2
  refine wq_go rfl (fun _ => rfl) ?_
  refine wq_getf rfl (by first | rfl | assumption) (by first | decide | omega | assumption) (mb_o (mw_b hW)) rfl ?_
  refine wq_top (mw_11 hW :) ?_
  refine wq_cN (m := 400) rfl rfl ?_
  refine wq_cne rfl (by first | omega | decide | exact Nat.lt_of_le_of_lt Nat.and_le_right (by decide) | exact ⟨by omega, by omega⟩) (by first | omega | decide | exact Nat.lt_of_le_of_lt Nat.and_le_right (by decide) | exact ⟨by omega, by omega⟩) (fun c3 => ?_) (fun c => absurd (show _ from by omega) c)
  refine wq_go rfl (fun _ => rfl) ?_
  refine wq_go rfl (fun _ => rfl) ?_
  refine wq_getf rfl (by first | rfl | assumption) (by first | decide | omega | assumption) (mb_o (mw_b hW)) rfl ?_
  refine wq_top (mw_11 hW :) ?_
  refine wq_cN (m := 1) rfl rfl ?_
  refine wq_addN rfl ?_
  refine wq_mput rfl (mb_o (mw_b hW)) rfl rfl rfl rfl ?_
  refine wq_end rfl (fun _ => rfl) ?_
  exact K1 _ _ (by omega) (fr_up (fr_refl _ _) rfl) (fg_up (fg_refl _ _) rfl) ⟨mrb_o (mw_b hW) (fg_up (fg_refl _ _) rfl), rfl, (mw_12 hW :), (mw_13 hW :), (mw_15 hW :), (mw_16 hW :), (mw_20 hW :), (mw_38 hW :), (mw_44 hW :), by omega, rch_s hr hn.1 hn.2, (mw_v hW :)⟩
theorem m_must {xs : List Int32} {d : Nat} {σ : Nat → List Value} {Q : Option Value → (Nat → List Value) → Prop} {B : Bs} {X : Tx} {s t o bn cn nn : Nat} {w : Option (Nat × Nat)} {g : Nat → Int32} (hW : MrW B X s t o bn cn nn w g σ) {k : Nat} (hk : k < 34)  (K1 : ∀ t1 g' σ', must X k t = .inr t1 → t1 = t + 1 → Xk X t = k → Fr x287 σ σ' → FrG yT g g' → MrW B X s t1 o bn cn nn w g' σ' → Q none σ') (K0 : ∀ f' g' σ', must X k t = er f' t → Fr x287 σ σ' → FrG yT g g' → MrF B X s f' (Xp X t) bn g' σ' → Q none σ') : Wq xs (d + 2) ax_cd238 0 [(0, .ref 287), (1, .int (nI (mkK k)))] [] σ Q := by
  have hX := mb_X (mw_b hW)
  have ht := mw_t hW
  have hr := mw_r hW
  have hs2 := mb_2 (mw_b hW)
  have hkt := mkK_le _ (hX.1 t)
  have hpt := hX.2.2.1 t
  have hk35 : k ≤ 35 := by omega
  refine wq_go rfl (fun _ => rfl) ?_
  refine wq_go rfl (fun _ => rfl) ?_
  refine wq_callV rfl rfl (by first | rfl | assumption) (by first | decide | omega | assumption) (Nat.le_of_ble_eq_true rfl) (Nat.le_of_ble_eq_true rfl) rfl rfl ?_
  refine m_is hW (k := k) hk35  (fun ei => ?_) (fun ei => ?_)
  · skip
    refine wq_zeq rfl (by first | omega | decide | exact Nat.lt_of_le_of_lt Nat.and_le_right (by decide) | exact ⟨by omega, by omega⟩) (fun c => absurd c (by omega)) (fun c3 => ?_)
    refine wq_go rfl (fun _ => rfl) ?_
    refine wq_callV rfl rfl (by first | rfl | assumption) (by first | decide | omega | assumption) (Nat.le_of_ble_eq_true rfl) (Nat.le_of_ble_eq_true rfl) rfl rfl ?_
    refine m_go hW ⟨by omega, by omega⟩ (fun g2 σ2 h2 F2 G2 W2 => ?_) (fun g2 σ2 h2 F2 G2 W2 => ?_)
    · skip
      refine wq_go rfl (fun _ => rfl) ?_
      refine wq_end rfl (fun _ => rfl) ?_
      exact K1 _ _ _ (must_y ei h2) rfl ei F2 G2 W2
    · skip
      refine wq_go rfl (fun _ => rfl) ?_
      refine wq_end rfl (fun _ => rfl) ?_
      exact K0 2 _ _ (by subst h2; exact must_r ei) F2 G2 W2
  · skip
    refine wq_zeq rfl (by first | omega | decide | exact Nat.lt_of_le_of_lt Nat.and_le_right (by decide) | exact ⟨by omega, by omega⟩) (fun c3 => ?_) (fun c => absurd (show _ from by omega) c)
    refine wq_go rfl (fun _ => rfl) ?_
    refine wq_cN (m := 1) rfl rfl ?_
    refine wq_callV rfl rfl (by first | rfl | assumption) (by first | decide | omega | assumption) (Nat.le_of_ble_eq_true rfl) (Nat.le_of_ble_eq_true rfl) rfl rfl ?_
    refine m_fail hW (k := 1) (by decide) (fun g2 σ2 F2 G2 W2 => ?_)
    refine wq_end rfl (fun _ => rfl) ?_
    exact K0 1 _ _ (must_b ei) F2 (fg_mono G2 yF_T) W2
theorem m_wrong0 {xs : List Int32} {d : Nat} {σ : Nat → List Value} {Q : Option Value → (Nat → List Value) → Prop} {B : Bs} {X : Tx} {s t o bn cn nn : Nat} {g : Nat → Int32} (hW : MrW B X s t o bn cn nn none g σ) {u k : Nat} (hu : u ≤ 400) (hru : rch X u) (hk : ¬ k = 0 ∧ k < 10)  (K : ∀ g' σ', Fr x287 σ σ' → FrG yV g g' → MrW B X s t o bn cn nn (some (k, Xp X u)) g' σ' → Q none σ') : Wq xs (d + 0) ax_cd239 0 [(0, .ref 287), (1, .int (nI k)), (2, .int (nI u))] [] σ Q := by
  have hX := mb_X (mw_b hW)
  have ht := mw_t hW
  have hr := mw_r hW
  have hs2 := mb_2 (mw_b hW)
  have hkt := mkK_le _ (hX.1 t)
  have hpt := hX.2.2.1 t
  refine wq_go rfl (fun _ => rfl) ?_
  refine wq_getf rfl (by first | rfl | assumption) (by first | decide | omega | assumption) (mb_o (mw_b hW)) rfl ?_
  refine wq_go rfl (fun _ => rfl) ?_
  refine wq_iald rfl (by first | rfl | assumption) (by first | decide | omega | assumption) (mb_291 (mw_b hW)) rfl (by omega) (by first | decide | omega) ?_
  refine wq_top (mb_tp (mw_b hW) hu hru) ?_
  refine wq_go rfl (fun _ => rfl) ?_
  refine wq_go rfl (fun _ => rfl) ?_
  refine wq_getf rfl (by first | rfl | assumption) (by first | decide | omega | assumption) (mb_o (mw_b hW)) rfl ?_
  refine wq_top (mw_13 hW :) ?_
  refine wq_zgt rfl (by first | omega | decide | exact Nat.lt_of_le_of_lt Nat.and_le_right (by decide) | exact ⟨by omega, by omega⟩) (fun c => absurd c (by omega)) (fun c7 => ?_)
  refine wq_go rfl (fun _ => rfl) ?_
  refine wq_getf rfl (by first | rfl | assumption) (by first | decide | omega | assumption) (mb_o (mw_b hW)) rfl ?_
  refine wq_top (show g 15 = nI 0 from mw_15 hW) ?_
  refine wq_zeq rfl (by first | omega | decide | exact Nat.lt_of_le_of_lt Nat.and_le_right (by decide) | exact ⟨by omega, by omega⟩) (fun c10 => ?_) (fun c => absurd (show _ from by omega) c)
  refine wq_go rfl (fun _ => rfl) ?_
  refine wq_go rfl (fun _ => rfl) ?_
  refine wq_mput rfl (mb_o (mw_b hW)) rfl rfl rfl rfl ?_
  refine wq_go rfl (fun _ => rfl) ?_
  refine wq_go rfl (fun _ => rfl) ?_
  refine wq_mput rfl (up_same _ _ _) rfl rfl rfl rfl ?_
  rw [up_up]
  refine wq_end rfl (fun _ => rfl) ?_
  exact K _ _ (fr_up (fr_refl _ _) rfl) (fg_up (fg_up (fg_refl _ _) rfl) rfl) ⟨mrb_o (mw_b hW) (fg_up (fg_up (fg_refl _ _) rfl) rfl), (mw_11 hW :), (mw_12 hW :), (mw_13 hW :), rfl, (fun q e => by cases e; rfl), (mw_20 hW :), (mw_38 hW :), (mw_44 hW :), ht, hr, (fun q e => by cases e; exact ⟨hk.1, hk.2, hX.2.2.1 u⟩)⟩
theorem m_wrong1 {xs : List Int32} {d : Nat} {σ : Nat → List Value} {Q : Option Value → (Nat → List Value) → Prop} {B : Bs} {X : Tx} {s t o bn cn nn : Nat} {g : Nat → Int32} {q : Nat × Nat} (hW : MrW B X s t o bn cn nn (some q) g σ) {u k : Nat} (hu : u ≤ 400) (hru : rch X u) (hk : ¬ k = 0 ∧ k < 10) (hq : q.2 < Xp X u ∨ (q.2 = Xp X u ∧ q.1 ≤ k))  (K : Q none σ) : Wq xs (d + 0) ax_cd239 0 [(0, .ref 287), (1, .int (nI k)), (2, .int (nI u))] [] σ Q := by
  have hX := mb_X (mw_b hW)
  have ht := mw_t hW
  have hr := mw_r hW
  have hs2 := mb_2 (mw_b hW)
  have hkt := mkK_le _ (hX.1 t)
  have hpt := hX.2.2.1 t
  have hv1 := mw_v hW q rfl
  have hpu := hX.2.2.1 u
  refine wq_go rfl (fun _ => rfl) ?_
  refine wq_getf rfl (by first | rfl | assumption) (by first | decide | omega | assumption) (mb_o (mw_b hW)) rfl ?_
  refine wq_go rfl (fun _ => rfl) ?_
  refine wq_iald rfl (by first | rfl | assumption) (by first | decide | omega | assumption) (mb_291 (mw_b hW)) rfl (by omega) (by first | decide | omega) ?_
  refine wq_top (mb_tp (mw_b hW) hu hru) ?_
  refine wq_go rfl (fun _ => rfl) ?_
  refine wq_go rfl (fun _ => rfl) ?_
  refine wq_getf rfl (by first | rfl | assumption) (by first | decide | omega | assumption) (mb_o (mw_b hW)) rfl ?_
  refine wq_top (mw_13 hW :) ?_
  refine wq_zgt rfl (by first | omega | decide | exact Nat.lt_of_le_of_lt Nat.and_le_right (by decide) | exact ⟨by omega, by omega⟩) (fun c => absurd c (by omega)) (fun c7 => ?_)
  refine wq_go rfl (fun _ => rfl) ?_
  refine wq_getf rfl (by first | rfl | assumption) (by first | decide | omega | assumption) (mb_o (mw_b hW)) rfl ?_
  refine wq_top (show g 15 = nI q.1 from mw_15 hW) ?_
  refine wq_zeq rfl (by first | omega | decide | exact Nat.lt_of_le_of_lt Nat.and_le_right (by decide) | exact ⟨by omega, by omega⟩) (fun c => absurd c (by omega)) (fun c10 => ?_)
  refine wq_go rfl (fun _ => rfl) ?_
  refine wq_go rfl (fun _ => rfl) ?_
  refine wq_getf rfl (by first | rfl | assumption) (by first | decide | omega | assumption) (mb_o (mw_b hW)) rfl ?_
  refine wq_top (mw_16 hW q rfl) ?_
  refine wq_cgt rfl (by first | omega | decide | exact Nat.lt_of_le_of_lt Nat.and_le_right (by decide) | exact ⟨by omega, by omega⟩) (by first | omega | decide | exact Nat.lt_of_le_of_lt Nat.and_le_right (by decide) | exact ⟨by omega, by omega⟩) (fun c14 => ?_) (fun c14 => ?_)
  · skip
    refine wq_end rfl (fun _ => rfl) ?_
    exact K
  · skip
    refine wq_go rfl (fun _ => rfl) ?_
    refine wq_go rfl (fun _ => rfl) ?_
    refine wq_getf rfl (by first | rfl | assumption) (by first | decide | omega | assumption) (mb_o (mw_b hW)) rfl ?_
    refine wq_top (mw_16 hW q rfl) ?_
    refine wq_cne rfl (by first | omega | decide | exact Nat.lt_of_le_of_lt Nat.and_le_right (by decide) | exact ⟨by omega, by omega⟩) (by first | omega | decide | exact Nat.lt_of_le_of_lt Nat.and_le_right (by decide) | exact ⟨by omega, by omega⟩) (fun c => absurd c (by omega)) (fun c18 => ?_)
    refine wq_go rfl (fun _ => rfl) ?_
    refine wq_go rfl (fun _ => rfl) ?_
    refine wq_getf rfl (by first | rfl | assumption) (by first | decide | omega | assumption) (mb_o (mw_b hW)) rfl ?_
    refine wq_top (show g 15 = nI q.1 from mw_15 hW) ?_
    refine wq_clt rfl (by first | omega | decide | exact Nat.lt_of_le_of_lt Nat.and_le_right (by decide) | exact ⟨by omega, by omega⟩) (by first | omega | decide | exact Nat.lt_of_le_of_lt Nat.and_le_right (by decide) | exact ⟨by omega, by omega⟩) (fun c => absurd c (by omega)) (fun c22 => ?_)
    refine wq_end rfl (fun _ => rfl) ?_
    exact K
theorem m_wrong {xs : List Int32} {d : Nat} {σ : Nat → List Value} {Q : Option Value → (Nat → List Value) → Prop} {B : Bs} {X : Tx} {s t o bn cn nn : Nat} {w : Option (Nat × Nat)} {g : Nat → Int32} (hW : MrW B X s t o bn cn nn w g σ) {u k : Nat} (hu : u ≤ 400) (hru : rch X u) (hk : ¬ k = 0 ∧ k < 10) (hq : ∀ q, w = some q → q.2 < Xp X u ∨ (q.2 = Xp X u ∧ q.1 ≤ k)) (K : ∀ g' σ', Fr x287 σ σ' → FrG yV g g' → MrW B X s t o bn cn nn (wn w true k (Xp X u)) g' σ' → Q none σ') : Wq xs (d + 0) ax_cd239 0 [(0, .ref 287), (1, .int (nI k)), (2, .int (nI u))] [] σ Q := by
  cases w with
  | none => exact m_wrong0 hW hu hru hk K
  | some q => exact m_wrong1 hW hu hru hk (hq q rfl) (K g σ (fr_refl _ _) (fg_refl _ _) hW)
theorem m_bnd {xs : List Int32} {d : Nat} {σ : Nat → List Value} {Q : Option Value → (Nat → List Value) → Prop} {B : Bs} {X : Tx} {s t o bn cn nn : Nat} {w : Option (Nat × Nat)} {g : Nat → Int32} (hW : MrW B X s t o bn cn nn w g σ) (hM : okM X w t) {lo hi : Nat} (hlo : lo < 10000) (hhi : hi < 10000)  (K1 : ∀ t1 g' σ', must X 24 t = .inr t1 → t1 = t + 1 → Xk X t = 24 → Fr x287 σ σ' → MrW B X s t1 o bn cn nn (wn w (outB X t lo hi) 5 (Xp X t)) g' σ' → Q (some (.int (nI (Xv X t)))) σ') (K0 : ∀ f' x g' σ', must X 24 t = er f' t → Fr x287 σ σ' → MrF B X s f' (Xp X t) bn g' σ' → Q (some (.int x)) σ') : Wq xs (d + 2) ax_cd240 0 [(0, .ref 287), (1, .int (nI lo)), (2, .int (nI hi))] [] σ Q := by
  have hX := mb_X (mw_b hW)
  have ht := mw_t hW
  have hr := mw_r hW
  have hs2 := mb_2 (mw_b hW)
  have hkt := mkK_le _ (hX.1 t)
  have hpt := hX.2.2.1 t
  have hvt := hX.2.1 t
  refine wq_go rfl (fun _ => rfl) ?_
  refine wq_getf rfl (by first | rfl | assumption) (by first | decide | omega | assumption) (mb_o (mw_b hW)) rfl ?_
  refine wq_top (mw_13 hW :) ?_
  refine wq_zgt rfl (by first | omega | decide | exact Nat.lt_of_le_of_lt Nat.and_le_right (by decide) | exact ⟨by omega, by omega⟩) (fun c => absurd c (by omega)) (fun c2 => ?_)
  refine wq_go rfl (fun _ => rfl) ?_
  refine wq_cN (m := 2) rfl rfl ?_
  refine wq_callV rfl rfl (by first | rfl | assumption) (by first | decide | omega | assumption) (Nat.le_of_ble_eq_true rfl) (Nat.le_of_ble_eq_true rfl) rfl rfl ?_
  refine m_is hW (k := 24) (by decide)  (fun ei => ?_) (fun ei => ?_)
  · skip
    refine wq_zne rfl (by first | omega | decide | exact Nat.lt_of_le_of_lt Nat.and_le_right (by decide) | exact ⟨by omega, by omega⟩) (fun c6 => ?_) (fun c => absurd (show _ from by omega) c)
    refine wq_go rfl (fun _ => rfl) ?_
    refine wq_getf rfl (by first | rfl | assumption) (by first | decide | omega | assumption) (mb_o (mw_b hW)) rfl ?_
    refine wq_go rfl (fun _ => rfl) ?_
    refine wq_getf rfl (by first | rfl | assumption) (by first | decide | omega | assumption) (mb_o (mw_b hW)) rfl ?_
    refine wq_top (mw_11 hW :) ?_
    refine wq_iald rfl (by first | rfl | assumption) (by first | decide | omega | assumption) (mb_292 (mw_b hW)) rfl (by omega) (by first | decide | omega) ?_
    refine wq_top (mb_tv (mw_b hW) ht hr ei) ?_
    refine wq_go rfl (fun _ => rfl) ?_
    by_cases ho : Xv X t < lo ∨ hi < Xv X t
    · have hb : outB X t lo hi = true := decide_eq_true ho
      refine wq_go rfl (fun _ => rfl) ?_
      refine wq_go rfl (fun _ => rfl) ?_
      refine wq_clt rfl (by first | omega | decide | exact Nat.lt_of_le_of_lt Nat.and_le_right (by decide) | exact ⟨by omega, by omega⟩) (by first | omega | decide | exact Nat.lt_of_le_of_lt Nat.and_le_right (by decide) | exact ⟨by omega, by omega⟩) (fun c20 => ?_) (fun c20 => ?_)
      · skip
        refine wq_go rfl (fun _ => rfl) ?_
        refine wq_cN (m := 5) rfl rfl ?_
        refine wq_go rfl (fun _ => rfl) ?_
        refine wq_getf rfl (by first | rfl | assumption) (by first | decide | omega | assumption) (mb_o (mw_b hW)) rfl ?_
        refine wq_top (mw_11 hW :) ?_
        refine wq_callV rfl rfl (by first | rfl | assumption) (by first | decide | omega | assumption) (Nat.le_of_ble_eq_true rfl) (Nat.le_of_ble_eq_true rfl) rfl rfl ?_
        refine m_wrong hW ht hr (by decide) (fun q e => Or.inl (hM q e)) (fun g1 σ1 F1 G1 W1 => ?_)
        refine wq_go rfl (fun _ => rfl) ?_
        refine wq_callV rfl rfl (by first | rfl | assumption) (by first | decide | omega | assumption) (Nat.le_of_ble_eq_true rfl) (Nat.le_of_ble_eq_true rfl) rfl rfl ?_
        refine m_go W1 ⟨by omega, by omega⟩ (fun g2 σ2 h2 F2 G2 W2 => ?_) (fun g2 σ2 h2 F2 G2 W2 => ?_)
        · skip
          refine wq_go rfl (fun _ => rfl) ?_
          refine wq_iret rfl ?_
          refine K1 _ g2 σ2 (must_y ei h2) rfl ei (fr_trans F1 F2) ?_
          rw [hb]
          exact W2
        · skip
          refine wq_go rfl (fun _ => rfl) ?_
          refine wq_iret rfl ?_
          exact K0 2 _ _ _ (by subst h2; exact must_r ei) (fr_trans F1 F2) W2
      · skip
        refine wq_go rfl (fun _ => rfl) ?_
        refine wq_go rfl (fun _ => rfl) ?_
        refine wq_cle rfl (by first | omega | decide | exact Nat.lt_of_le_of_lt Nat.and_le_right (by decide) | exact ⟨by omega, by omega⟩) (by first | omega | decide | exact Nat.lt_of_le_of_lt Nat.and_le_right (by decide) | exact ⟨by omega, by omega⟩) (fun c => absurd c (by omega)) (fun c23 => ?_)
        refine wq_go rfl (fun _ => rfl) ?_
        refine wq_cN (m := 5) rfl rfl ?_
        refine wq_go rfl (fun _ => rfl) ?_
        refine wq_getf rfl (by first | rfl | assumption) (by first | decide | omega | assumption) (mb_o (mw_b hW)) rfl ?_
        refine wq_top (mw_11 hW :) ?_
        refine wq_callV rfl rfl (by first | rfl | assumption) (by first | decide | omega | assumption) (Nat.le_of_ble_eq_true rfl) (Nat.le_of_ble_eq_true rfl) rfl rfl ?_
        refine m_wrong hW ht hr (by decide) (fun q e => Or.inl (hM q e)) (fun g1 σ1 F1 G1 W1 => ?_)
        refine wq_go rfl (fun _ => rfl) ?_
        refine wq_callV rfl rfl (by first | rfl | assumption) (by first | decide | omega | assumption) (Nat.le_of_ble_eq_true rfl) (Nat.le_of_ble_eq_true rfl) rfl rfl ?_
        refine m_go W1 ⟨by omega, by omega⟩ (fun g2 σ2 h2 F2 G2 W2 => ?_) (fun g2 σ2 h2 F2 G2 W2 => ?_)
        · skip
          refine wq_go rfl (fun _ => rfl) ?_
          refine wq_iret rfl ?_
          refine K1 _ g2 σ2 (must_y ei h2) rfl ei (fr_trans F1 F2) ?_
          rw [hb]
          exact W2
        · skip
          refine wq_go rfl (fun _ => rfl) ?_
          refine wq_iret rfl ?_
          exact K0 2 _ _ _ (by subst h2; exact must_r ei) (fr_trans F1 F2) W2
    have hb : outB X t lo hi = false := decide_eq_false ho
    refine wq_go rfl (fun _ => rfl) ?_
    refine wq_go rfl (fun _ => rfl) ?_
    refine wq_clt rfl (by first | omega | decide | exact Nat.lt_of_le_of_lt Nat.and_le_right (by decide) | exact ⟨by omega, by omega⟩) (by first | omega | decide | exact Nat.lt_of_le_of_lt Nat.and_le_right (by decide) | exact ⟨by omega, by omega⟩) (fun c => absurd c (by omega)) (fun c20 => ?_)
    refine wq_go rfl (fun _ => rfl) ?_
    refine wq_go rfl (fun _ => rfl) ?_
    refine wq_cle rfl (by first | omega | decide | exact Nat.lt_of_le_of_lt Nat.and_le_right (by decide) | exact ⟨by omega, by omega⟩) (by first | omega | decide | exact Nat.lt_of_le_of_lt Nat.and_le_right (by decide) | exact ⟨by omega, by omega⟩) (fun c23 => ?_) (fun c => absurd (show _ from by omega) c)
    refine wq_go rfl (fun _ => rfl) ?_
    refine wq_callV rfl rfl (by first | rfl | assumption) (by first | decide | omega | assumption) (Nat.le_of_ble_eq_true rfl) (Nat.le_of_ble_eq_true rfl) rfl rfl ?_
    refine m_go hW ⟨by omega, by omega⟩ (fun g2 σ2 h2 F2 G2 W2 => ?_) (fun g2 σ2 h2 F2 G2 W2 => ?_)
    · skip
      refine wq_go rfl (fun _ => rfl) ?_
      refine wq_iret rfl ?_
      refine K1 _ g2 σ2 (must_y ei h2) rfl ei F2 ?_
      rw [hb, wn_f]
      exact W2
    · skip
      refine wq_go rfl (fun _ => rfl) ?_
      refine wq_iret rfl ?_
      exact K0 2 _ _ _ (by subst h2; exact must_r ei) F2 W2
  · skip
    refine wq_zne rfl (by first | omega | decide | exact Nat.lt_of_le_of_lt Nat.and_le_right (by decide) | exact ⟨by omega, by omega⟩) (fun c => absurd c (by omega)) (fun c6 => ?_)
    refine wq_go rfl (fun _ => rfl) ?_
    refine wq_cN (m := 1) rfl rfl ?_
    refine wq_callV rfl rfl (by first | rfl | assumption) (by first | decide | omega | assumption) (Nat.le_of_ble_eq_true rfl) (Nat.le_of_ble_eq_true rfl) rfl rfl ?_
    refine m_fail hW (k := 1) (by decide) (fun g2 σ2 F2 G2 W2 => ?_)
    refine wq_go rfl (fun _ => rfl) ?_
    refine wq_iret rfl ?_
    exact K0 1 _ _ _ (must_b ei) F2 W2
theorem m_room {xs : List Int32} {d : Nat} {σ : Nat → List Value} {Q : Option Value → (Nat → List Value) → Prop} {B : Bs} {X : Tx} {s t o bn cn nn : Nat} {w : Option (Nat × Nat)} {g : Nat → Int32} (hW : MrW B X s t o bn cn nn w g σ) (hn : ¬ Xk X t = 34 ∧ ¬ Xk X t = 35) {a m : Nat} (ham0 : a ≤ m) (hm : m < 1000)  (K1 : ∀ g' σ', a < m → t < 400 → Fr x287 σ σ' → MrW B X s (t + 1) o bn cn nn w g' σ' → Q none σ') (K0 : ∀ g' σ', m ≤ a ∨ t = 400 → Fr x287 σ σ' → MrF B X s 2 (Xp X t) bn g' σ' → Q none σ') : Wq xs (d + 2) ax_cd234 0 [(0, .ref 287), (1, .int (nI a)), (2, .int (nI m))] [] σ Q := by
  have hX := mb_X (mw_b hW)
  have ht := mw_t hW
  have hr := mw_r hW
  have hs2 := mb_2 (mw_b hW)
  have hkt := mkK_le _ (hX.1 t)
  have hpt := hX.2.2.1 t
  by_cases ham : a = m
  · skip
    refine wq_go rfl (fun _ => rfl) ?_
    refine wq_go rfl (fun _ => rfl) ?_
    refine wq_cne rfl (by first | omega | decide | exact Nat.lt_of_le_of_lt Nat.and_le_right (by decide) | exact ⟨by omega, by omega⟩) (by first | omega | decide | exact Nat.lt_of_le_of_lt Nat.and_le_right (by decide) | exact ⟨by omega, by omega⟩) (fun c => absurd c (by omega)) (fun c2 => ?_)
    refine wq_go rfl (fun _ => rfl) ?_
    refine wq_cN (m := 2) rfl rfl ?_
    refine wq_callV rfl rfl (by first | rfl | assumption) (by first | decide | omega | assumption) (Nat.le_of_ble_eq_true rfl) (Nat.le_of_ble_eq_true rfl) rfl rfl ?_
    refine m_fail hW (k := 2) (by decide) (fun g2 σ2 F2 G2 W2 => ?_)
    refine wq_go rfl (fun _ => rfl) ?_
    refine wq_getf rfl (by first | rfl | assumption) (by first | decide | omega | assumption) (mb_o (mf_b W2)) rfl ?_
    refine wq_top (mf_13 W2 :) ?_
    refine wq_zne rfl (by first | omega | decide | exact Nat.lt_of_le_of_lt Nat.and_le_right (by decide) | exact ⟨by omega, by omega⟩) (fun c8 => ?_) (fun c => absurd (show _ from by have := mf_0 W2; omega) c)
    refine wq_end rfl (fun _ => rfl) ?_
    exact K0 _ _ (Or.inl (by omega)) F2 W2
  refine wq_go rfl (fun _ => rfl) ?_
  refine wq_go rfl (fun _ => rfl) ?_
  refine wq_cne rfl (by first | omega | decide | exact Nat.lt_of_le_of_lt Nat.and_le_right (by decide) | exact ⟨by omega, by omega⟩) (by first | omega | decide | exact Nat.lt_of_le_of_lt Nat.and_le_right (by decide) | exact ⟨by omega, by omega⟩) (fun c2 => ?_) (fun c => absurd (show _ from by omega) c)
  refine wq_go rfl (fun _ => rfl) ?_
  refine wq_getf rfl (by first | rfl | assumption) (by first | decide | omega | assumption) (mb_o (mw_b hW)) rfl ?_
  refine wq_top (mw_13 hW :) ?_
  refine wq_zne rfl (by first | omega | decide | exact Nat.lt_of_le_of_lt Nat.and_le_right (by decide) | exact ⟨by omega, by omega⟩) (fun c => absurd c (by omega)) (fun c8 => ?_)
  refine wq_go rfl (fun _ => rfl) ?_
  refine wq_callV rfl rfl (by first | rfl | assumption) (by first | decide | omega | assumption) (Nat.le_of_ble_eq_true rfl) (Nat.le_of_ble_eq_true rfl) rfl rfl ?_
  refine m_go hW ⟨by omega, by omega⟩ (fun g2 σ2 h2 F2 G2 W2 => ?_) (fun g2 σ2 h2 F2 G2 W2 => ?_)
  · skip
    refine wq_end rfl (fun _ => rfl) ?_
    exact K1 _ _ (by omega) h2 F2 W2
  · skip
    refine wq_end rfl (fun _ => rfl) ?_
    exact K0 _ _ (Or.inr h2) F2 W2
