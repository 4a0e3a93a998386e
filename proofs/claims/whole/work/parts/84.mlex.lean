/-! TOKENS, BY THE REFERENCE -/
def mkK (k : Nat) : Nat := if k < 23 then 20 + k else if k = 23 then 1 else if k = 24 then 2 else if k = 25 then 4 else if k = 26 then 5 else if k = 27 then 8 else if k = 28 then 9 else if k = 29 then 10 else if k = 30 then 15 else if k = 31 then 13 else if k = 32 then 6 else if k = 33 then 7 else if k = 34 then 0 else 3
theorem mkK_le : ∀ k, k ≤ 35 → mkK k < 43 := by decide
theorem mkK_inj : ∀ i, i ≤ 35 → ∀ j, j ≤ 35 → mkK i = mkK j → i = j := by decide +kernel
def kmF (x : Int64) : Nat → Nat
  | 0 => 1
  | u + 1 => if kwL u = x then 20 + u else kmF x u
theorem kw_dis : ∀ i, i < 23 → ∀ j, j < 23 → kwL i = kwL j → i = j := by decide +kernel
theorem kw_A {x : Int64} : ∀ m i, (∀ j, i ≤ j → j < i + m → ¬ kwL j = x) → kwF x m i = 23
  | 0, i, _ => rfl
  | m + 1, i, h => by
    unfold kwF
    rw [if_neg (h i (by omega) (by omega))]
    exact kw_A m (i + 1) (fun j a b => h j (by omega) (by omega))
theorem kw_B {x : Int64} : ∀ m i j, i + m ≤ 23 → i ≤ j → j < i + m → kwL j = x → kwF x m i = j
  | 0, i, j, _, h1, h2, _ => by omega
  | m + 1, i, j, h0, h1, h2, h3 => by
    unfold kwF
    by_cases e : kwL i = x
    · rw [if_pos e]
      exact kw_dis i (by omega) j (by omega) (e.trans h3.symm)
    · rw [if_neg e]
      have : ¬ i = j := fun q => e (by rw [q]; exact h3)
      exact kw_B m (i + 1) j (by omega) (by omega) (by omega) h3
theorem km_C {x : Int64} : ∀ u, (∀ j, j < u → ¬ kwL j = x) → kmF x u = 1
  | 0, _ => rfl
  | u + 1, h => by
    unfold kmF
    rw [if_neg (h u (by omega))]
    exact km_C u (fun j hj => h j (by omega))
theorem km_D {x : Int64} : ∀ u j, u ≤ 23 → j < u → kwL j = x → kmF x u = 20 + j
  | 0, j, _, h, _ => by omega
  | u + 1, j, hu, h, e => by
    unfold kmF
    by_cases q : kwL u = x
    · rw [if_pos q, kw_dis u (by omega) j (by omega) (q.trans e.symm)]
    · rw [if_neg q]
      have : ¬ u = j := fun r => q (by rw [r]; exact e)
      exact km_D u j (by omega) (by omega) e
theorem km_kw (x : Int64) : kmF x 23 = mkK (kwF x 23 0) := by
  by_cases h : ∃ j, j < 23 ∧ kwL j = x
  · obtain ⟨j, hj, e⟩ := h
    rw [km_D 23 j (by decide) hj e, kw_B 23 0 j (by decide) (by omega) (by omega) e]
    unfold mkK
    rw [if_pos hj]
  · have h' : ∀ j, j < 23 → ¬ kwL j = x := fun j hj e => h ⟨j, hj, e⟩
    rw [km_C 23 h', kw_A 23 0 (fun j _ hj => h' j (by omega))]
    rfl
theorem km_le (x : Int64) : ∀ u, u ≤ 23 → kmF x u < 43
  | 0, _ => show 1 < 43 by decide
  | u + 1, h => by
    unfold kmF
    split
    · omega
    · exact km_le x u (by omega)
theorem sg_mk : ∀ c, c < 256 → mkK (sgK c) = (if c = 60 then 13 else if c = 47 then 15 else if c = 42 then 10 else if c = 45 then 9 else if c = 43 then 8 else if c = 59 then 4 else if c = 61 then 5 else if c = 40 then 6 else if c = 41 then 7 else 3) := by decide +kernel
def xMt : Nat → Bool := fun j => j == 287 || j == 290 || j == 291 || j == 292 || j == 293
def y10 : Nat → Bool := fun b => b == 10
def Scm (B : Nat → Nat) (l s : Nat) (fk fp fn : Nat → Int32) (fm : Nat → Int64) : Prop := (∀ j, j < s → fk j = nI (mkK (TK B l j))) ∧ (∀ j, j < s → fp j = nI (TPl B l j)) ∧ (∀ j, j < s → TK B l j = 24 → fn j = nI (TNu B l j)) ∧ (∀ j, j < s → TK B l j = 23 → fm j = TNa B l j)
theorem scm_s {B : Nat → Nat} {l u : Nat} {fk fp fn : Nat → Int32} {fm : Nat → Int64} {k p v : Int32} {x : Int64} (h : Scm B l u fk fp fn fm) (h1 : k = nI (mkK (TK B l u))) (h2 : p = nI (TPl B l u)) (h3 : TK B l u = 24 → v = nI (TNu B l u)) (h4 : TK B l u = 23 → x = TNa B l u) : Scm B l (u + 1) (upd fk u k) (upd fp u p) (upd fn u v) (vp_updL fm u x) := by
  obtain ⟨a1, a2, a3, a4⟩ := h
  refine ⟨fun j hj => ?_, fun j hj => ?_, fun j hj hk => ?_, fun j hj hk => ?_⟩
  · by_cases e : j = u
    · subst e; simp [upd, h1]
    · simp only [upd]; rw [if_neg e]; exact a1 j (by omega)
  · by_cases e : j = u
    · subst e; simp [upd, h2]
    · simp only [upd]; rw [if_neg e]; exact a2 j (by omega)
  · by_cases e : j = u
    · subst e; simp [upd, h3 hk]
    · simp only [upd]; rw [if_neg e]; exact a3 j (by omega) hk
  · by_cases e : j = u
    · subst e; simp [vp_updL, h4 hk]
    · simp only [vp_updL]; rw [if_neg e]; exact a4 j (by omega) hk

theorem m_byteAt1 {xs : List Int32} {d : Nat} {σ : Nat → List Value} {Q : Option Value → (Nat → List Value) → Prop} {b ft : Nat → Int32} {l : Nat} (h289 : σ 289 = arr 2000 ft) (hb : ∀ j, j < l → ft j = b j) (hl : l ≤ 2000) {g : Nat → Int32} (h287 : σ 287 = mo g) (h4 : g 4 = nI l) {i : Nat} (hi : i < l) (K : Q (some (.int (nI (byN (b i))))) σ) : Wq xs (d + 0) ax_cd227 0 [(0, .ref 287), (1, .int (nI i))] [] σ Q := by
  refine wq_go rfl (fun _ => rfl) ?_
  refine wq_go rfl (fun _ => rfl) ?_
  refine wq_getf rfl (by first | rfl | assumption) (by first | decide | omega | assumption) h287 rfl ?_
  refine wq_top h4 ?_
  refine wq_cge rfl (by first | omega | decide | exact Nat.lt_of_le_of_lt Nat.and_le_right (by decide) | exact ⟨by omega, by omega⟩) (by first | omega | decide | exact Nat.lt_of_le_of_lt Nat.and_le_right (by decide) | exact ⟨by omega, by omega⟩) (fun c => absurd c (by omega)) (fun c3 => ?_)
  refine wq_go rfl (fun _ => rfl) ?_
  refine wq_getf rfl (by first | rfl | assumption) (by first | decide | omega | assumption) h287 rfl ?_
  refine wq_go rfl (fun _ => rfl) ?_
  refine wq_bald rfl (by first | rfl | assumption) (Or.inl rfl) (by first | decide | omega | assumption) h289 rfl (by omega) (by first | decide | omega) ?_
  refine wq_top (hb i hi) ?_
  refine wq_cN (m := 255) rfl rfl ?_
  refine wq_go rfl (fun _ => rfl) ?_
  refine wq_top (and255 _) ?_
  refine wq_go rfl (fun _ => rfl) ?_
  refine wq_iret rfl ?_
  exact K
theorem m_byteAt0 {xs : List Int32} {d : Nat} {σ : Nat → List Value} {Q : Option Value → (Nat → List Value) → Prop} {b ft : Nat → Int32} {l : Nat} (h289 : σ 289 = arr 2000 ft) (hb : ∀ j, j < l → ft j = b j) (hl : l ≤ 2000) {g : Nat → Int32} (h287 : σ 287 = mo g) (h4 : g 4 = nI l) {i : Nat} (hi : l ≤ i) (hi2 : i < 10000) (K : Q (some (.int (nI 0))) σ) : Wq xs (d + 0) ax_cd227 0 [(0, .ref 287), (1, .int (nI i))] [] σ Q := by
  refine wq_go rfl (fun _ => rfl) ?_
  refine wq_go rfl (fun _ => rfl) ?_
  refine wq_getf rfl (by first | rfl | assumption) (by first | decide | omega | assumption) h287 rfl ?_
  refine wq_top h4 ?_
  refine wq_cge rfl (by first | omega | decide | exact Nat.lt_of_le_of_lt Nat.and_le_right (by decide) | exact ⟨by omega, by omega⟩) (by first | omega | decide | exact Nat.lt_of_le_of_lt Nat.and_le_right (by decide) | exact ⟨by omega, by omega⟩) (fun c3 => ?_) (fun c => absurd (show _ from by omega) c)
  refine wq_cN (m := 0) rfl rfl ?_
  refine wq_iret rfl ?_
  exact K
theorem m_isLetter {xs : List Int32} {d : Nat} {σ : Nat → List Value} {Q : Option Value → (Nat → List Value) → Prop} {c : Nat} (hc : c < 256) (K1 : isLt c = true → Q (some (.int (nI 1))) σ) (K0 : isLt c = false → Q (some (.int (nI 0))) σ) : Wq xs (d + 0) ax_cd229 0 [(0, .int (nI c))] [] σ Q := by
  refine wq_go rfl (fun _ => rfl) ?_
  refine wq_cN (m := 97) rfl rfl ?_
  refine wq_clt rfl (by first | omega | decide | exact Nat.lt_of_le_of_lt Nat.and_le_right (by decide) | exact ⟨by omega, by omega⟩) (by first | omega | decide | exact Nat.lt_of_le_of_lt Nat.and_le_right (by decide) | exact ⟨by omega, by omega⟩) (fun c2 => ?_) (fun c2 => ?_)
  · skip
    refine wq_cN (m := 0) rfl rfl ?_
    refine wq_nret rfl (by decide) ?_
    first | exact K1 (decide_eq_true (by omega)) | exact K0 (decide_eq_false (by omega))
  · skip
    refine wq_go rfl (fun _ => rfl) ?_
    refine wq_cN (m := 122) rfl rfl ?_
    refine wq_cgt rfl (by first | omega | decide | exact Nat.lt_of_le_of_lt Nat.and_le_right (by decide) | exact ⟨by omega, by omega⟩) (by first | omega | decide | exact Nat.lt_of_le_of_lt Nat.and_le_right (by decide) | exact ⟨by omega, by omega⟩) (fun c5 => ?_) (fun c5 => ?_)
    · skip
      refine wq_cN (m := 0) rfl rfl ?_
      refine wq_nret rfl (by decide) ?_
      first | exact K1 (decide_eq_true (by omega)) | exact K0 (decide_eq_false (by omega))
    · skip
      refine wq_cN (m := 1) rfl rfl ?_
      refine wq_go rfl (fun _ => rfl) ?_
      refine wq_nret rfl (by decide) ?_
      first | exact K1 (decide_eq_true (by omega)) | exact K0 (decide_eq_false (by omega))
theorem m_isDigit {xs : List Int32} {d : Nat} {σ : Nat → List Value} {Q : Option Value → (Nat → List Value) → Prop} {c : Nat} (hc : c < 256) (K1 : isDg c = true → Q (some (.int (nI 1))) σ) (K0 : isDg c = false → Q (some (.int (nI 0))) σ) : Wq xs (d + 0) ax_cd230 0 [(0, .int (nI c))] [] σ Q := by
  refine wq_go rfl (fun _ => rfl) ?_
  refine wq_cN (m := 48) rfl rfl ?_
  refine wq_clt rfl (by first | omega | decide | exact Nat.lt_of_le_of_lt Nat.and_le_right (by decide) | exact ⟨by omega, by omega⟩) (by first | omega | decide | exact Nat.lt_of_le_of_lt Nat.and_le_right (by decide) | exact ⟨by omega, by omega⟩) (fun c2 => ?_) (fun c2 => ?_)
  · skip
    refine wq_cN (m := 0) rfl rfl ?_
    refine wq_nret rfl (by decide) ?_
    first | exact K1 (decide_eq_true (by omega)) | exact K0 (decide_eq_false (by omega))
  · skip
    refine wq_go rfl (fun _ => rfl) ?_
    refine wq_cN (m := 57) rfl rfl ?_
    refine wq_cgt rfl (by first | omega | decide | exact Nat.lt_of_le_of_lt Nat.and_le_right (by decide) | exact ⟨by omega, by omega⟩) (by first | omega | decide | exact Nat.lt_of_le_of_lt Nat.and_le_right (by decide) | exact ⟨by omega, by omega⟩) (fun c5 => ?_) (fun c5 => ?_)
    · skip
      refine wq_cN (m := 0) rfl rfl ?_
      refine wq_nret rfl (by decide) ?_
      first | exact K1 (decide_eq_true (by omega)) | exact K0 (decide_eq_false (by omega))
    · skip
      refine wq_cN (m := 1) rfl rfl ?_
      refine wq_go rfl (fun _ => rfl) ?_
      refine wq_nret rfl (by decide) ?_
      first | exact K1 (decide_eq_true (by omega)) | exact K0 (decide_eq_false (by omega))
theorem m_appends {xs : List Int32} {d : Nat} {σ : Nat → List Value} {Q : Option Value → (Nat → List Value) → Prop} {x : Int64} {c : Nat} (hc : 97 ≤ c) (hc2 : c < 256) (K : Q (some (.long (lgL x c))) σ) : Wq xs (d + 0) ax_cd219 0 [(0, .long x), (2, .int (nI c))] [] σ Q := by
  refine wq_go rfl (fun _ => rfl) ?_
  refine wq_zne rfl (by first | omega | decide | exact Nat.lt_of_le_of_lt Nat.and_le_right (by decide) | exact ⟨by omega, by omega⟩) (fun c1 => ?_) (fun c => absurd (show _ from by omega) c)
  refine wq_go rfl (fun _ => rfl) ?_
  refine wq_go rfl (fun _ => rfl) ?_
  refine wq_go rfl (fun _ => rfl) ?_
  refine wq_go rfl (fun _ => rfl) ?_
  refine wq_cN (m := 97) rfl rfl ?_
  refine wq_subN rfl (by omega) ?_
  refine wq_cN (m := 1) rfl rfl ?_
  refine wq_addN rfl ?_
  refine wq_go rfl (fun _ => rfl) ?_
  refine wq_go rfl (fun _ => rfl) ?_
  refine wq_end rfl (fun _ => rfl) ?_
  exact K
theorem m_token {xs : List Int32} {d : Nat} {σ : Nat → List Value} {Q : Option Value → (Nat → List Value) → Prop} {g fk fp fn : Nat → Int32} {fm : Nat → Int64} {n : Nat} (h287 : σ 287 = mo g) (h10 : g 10 = nI n) (hn : n < 403) (h290 : σ 290 = arr 403 fk) (h291 : σ 291 = arr 403 fp) (h292 : σ 292 = arr 403 fn) (h293 : σ 293 = arrL 403 fm) {k p v : Int32} {x : Int64}  (K : ∀ σ', Fr xMt σ σ' → σ' 287 = mo (upd g 10 (nI (n + 1))) → σ' 290 = arr 403 (upd fk n k) → σ' 291 = arr 403 (upd fp n p) → σ' 292 = arr 403 (upd fn n v) → σ' 293 = arrL 403 (vp_updL fm n x) → Q none σ') : Wq xs (d + 0) ax_cd228 0 [(0, .ref 287), (1, .int k), (2, .int p), (3, .int v), (4, .long x)] [] σ Q := by
  refine wq_go rfl (fun _ => rfl) ?_
  refine wq_getf rfl (by first | rfl | assumption) (by first | decide | omega | assumption) h287 rfl ?_
  refine wq_go rfl (fun _ => rfl) ?_
  refine wq_getf rfl (by first | rfl | assumption) (by first | decide | omega | assumption) h287 rfl ?_
  refine wq_top h10 ?_
  refine wq_go rfl (fun _ => rfl) ?_
  refine wq_iast rfl (by first | rfl | assumption) (by first | decide | omega | assumption) h290 rfl (by omega) (by first | decide | omega) ?_
  refine wq_go rfl (fun _ => rfl) ?_
  refine wq_getf rfl (by first | rfl | assumption) (by first | decide | omega | assumption) ((up_ne _ _ (by decide)).trans h287) rfl ?_
  refine wq_go rfl (fun _ => rfl) ?_
  refine wq_getf rfl (by first | rfl | assumption) (by first | decide | omega | assumption) ((up_ne _ _ (by decide)).trans h287) rfl ?_
  refine wq_top h10 ?_
  refine wq_go rfl (fun _ => rfl) ?_
  refine wq_iast rfl (by first | rfl | assumption) (by first | decide | omega | assumption) ((up_ne _ _ (by decide)).trans h291) rfl (by omega) (by first | decide | omega) ?_
  refine wq_go rfl (fun _ => rfl) ?_
  refine wq_getf rfl (by first | rfl | assumption) (by first | decide | omega | assumption) ((up_ne _ _ (by decide)).trans ((up_ne _ _ (by decide)).trans h287)) rfl ?_
  refine wq_go rfl (fun _ => rfl) ?_
  refine wq_getf rfl (by first | rfl | assumption) (by first | decide | omega | assumption) ((up_ne _ _ (by decide)).trans ((up_ne _ _ (by decide)).trans h287)) rfl ?_
  refine wq_top h10 ?_
  refine wq_go rfl (fun _ => rfl) ?_
  refine wq_iast rfl (by first | rfl | assumption) (by first | decide | omega | assumption) ((up_ne _ _ (by decide)).trans ((up_ne _ _ (by decide)).trans h292)) rfl (by omega) (by first | decide | omega) ?_
  refine wq_go rfl (fun _ => rfl) ?_
  refine wq_getf rfl (by first | rfl | assumption) (by first | decide | omega | assumption) ((up_ne _ _ (by decide)).trans ((up_ne _ _ (by decide)).trans ((up_ne _ _ (by decide)).trans h287))) rfl ?_
  refine wq_go rfl (fun _ => rfl) ?_
  refine wq_getf rfl (by first | rfl | assumption) (by first | decide | omega | assumption) ((up_ne _ _ (by decide)).trans ((up_ne _ _ (by decide)).trans ((up_ne _ _ (by decide)).trans h287))) rfl ?_
  refine wq_top h10 ?_
  refine wq_go rfl (fun _ => rfl) ?_
  refine wq_last rfl (by first | rfl | assumption) (by first | decide | omega | assumption) ((up_ne _ _ (by decide)).trans ((up_ne _ _ (by decide)).trans ((up_ne _ _ (by decide)).trans h293))) rfl (by omega) (by first | decide | omega) ?_
  refine wq_go rfl (fun _ => rfl) ?_
  refine wq_go rfl (fun _ => rfl) ?_
  refine wq_getf rfl (by first | rfl | assumption) (by first | decide | omega | assumption) ((up_ne _ _ (by decide)).trans ((up_ne _ _ (by decide)).trans ((up_ne _ _ (by decide)).trans ((up_ne _ _ (by decide)).trans h287)))) rfl ?_
  refine wq_top h10 ?_
  refine wq_cN (m := 1) rfl rfl ?_
  refine wq_addN rfl ?_
  refine wq_mput rfl ((up_ne _ _ (by decide)).trans ((up_ne _ _ (by decide)).trans ((up_ne _ _ (by decide)).trans ((up_ne _ _ (by decide)).trans h287)))) rfl rfl rfl rfl ?_
  refine wq_end rfl (fun _ => rfl) ?_
  exact K _ (fr_up (fr_up (fr_up (fr_up (fr_up (fr_refl xMt σ) rfl) rfl) rfl) rfl) rfl) (up_same _ _ _) ((up_ne _ _ (by decide)).trans ((up_ne _ _ (by decide)).trans ((up_ne _ _ (by decide)).trans ((up_ne _ _ (by decide)).trans (up_same _ _ _))))) ((up_ne _ _ (by decide)).trans ((up_ne _ _ (by decide)).trans ((up_ne _ _ (by decide)).trans (up_same _ _ _)))) ((up_ne _ _ (by decide)).trans ((up_ne _ _ (by decide)).trans (up_same _ _ _))) ((up_ne _ _ (by decide)).trans (up_same _ _ _))
theorem m_sg22 {xs : List Int32} {d : Nat} {σ : Nat → List Value} {Q : Option Value → (Nat → List Value) → Prop} {x i c : Nat} {d0 : Int32} (hc : c < 256) (K : Wq xs d ax_cd231 27 [(4, .int (nI (if c = 43 then 8 else x))), (0, .ref 287), (1, .int (nI i)), (2, .int (nI c)), (3, .int d0)] [] σ Q) : Wq xs d ax_cd231 22 [(4, .int (nI x)), (0, .ref 287), (1, .int (nI i)), (2, .int (nI c)), (3, .int d0)] [] σ Q := by
  by_cases h : c = 43
  · rw [if_pos h] at K
    refine wq_go rfl (fun _ => rfl) ?_
    refine wq_cN (m := 43) rfl rfl ?_
    refine wq_cne rfl (by first | omega | decide | exact Nat.lt_of_le_of_lt Nat.and_le_right (by decide) | exact ⟨by omega, by omega⟩) (by first | omega | decide | exact Nat.lt_of_le_of_lt Nat.and_le_right (by decide) | exact ⟨by omega, by omega⟩) (fun c => absurd c (by omega)) (fun c24 => ?_)
    refine wq_cN (m := 8) rfl rfl ?_
    refine wq_go rfl (fun _ => rfl) ?_
    exact wq_lv ⟨(by decide : ([4, 0, 1, 2, 3] : List Nat).Nodup), (lvm (List.mem_of_getElem? (i := 0) rfl) (lvm (List.mem_of_getElem? (i := 1) rfl) (lvm (List.mem_of_getElem? (i := 2) rfl) (lvm (List.mem_of_getElem? (i := 3) rfl) (lvm (List.mem_of_getElem? (i := 4) rfl) lvn)))))⟩ K
  · rw [if_neg h] at K
    refine wq_go rfl (fun _ => rfl) ?_
    refine wq_cN (m := 43) rfl rfl ?_
    refine wq_cne rfl (by first | omega | decide | exact Nat.lt_of_le_of_lt Nat.and_le_right (by decide) | exact ⟨by omega, by omega⟩) (by first | omega | decide | exact Nat.lt_of_le_of_lt Nat.and_le_right (by decide) | exact ⟨by omega, by omega⟩) (fun c24 => ?_) (fun c => absurd (show _ from by omega) c)
    exact K
theorem m_sg27 {xs : List Int32} {d : Nat} {σ : Nat → List Value} {Q : Option Value → (Nat → List Value) → Prop} {x i c : Nat} {d0 : Int32} (hc : c < 256) (K : Wq xs d ax_cd231 32 [(4, .int (nI (if c = 45 then 9 else x))), (0, .ref 287), (1, .int (nI i)), (2, .int (nI c)), (3, .int d0)] [] σ Q) : Wq xs d ax_cd231 27 [(4, .int (nI x)), (0, .ref 287), (1, .int (nI i)), (2, .int (nI c)), (3, .int d0)] [] σ Q := by
  by_cases h : c = 45
  · rw [if_pos h] at K
    refine wq_go rfl (fun _ => rfl) ?_
    refine wq_cN (m := 45) rfl rfl ?_
    refine wq_cne rfl (by first | omega | decide | exact Nat.lt_of_le_of_lt Nat.and_le_right (by decide) | exact ⟨by omega, by omega⟩) (by first | omega | decide | exact Nat.lt_of_le_of_lt Nat.and_le_right (by decide) | exact ⟨by omega, by omega⟩) (fun c => absurd c (by omega)) (fun c29 => ?_)
    refine wq_cN (m := 9) rfl rfl ?_
    refine wq_go rfl (fun _ => rfl) ?_
    exact wq_lv ⟨(by decide : ([4, 0, 1, 2, 3] : List Nat).Nodup), (lvm (List.mem_of_getElem? (i := 0) rfl) (lvm (List.mem_of_getElem? (i := 1) rfl) (lvm (List.mem_of_getElem? (i := 2) rfl) (lvm (List.mem_of_getElem? (i := 3) rfl) (lvm (List.mem_of_getElem? (i := 4) rfl) lvn)))))⟩ K
  · rw [if_neg h] at K
    refine wq_go rfl (fun _ => rfl) ?_
    refine wq_cN (m := 45) rfl rfl ?_
    refine wq_cne rfl (by first | omega | decide | exact Nat.lt_of_le_of_lt Nat.and_le_right (by decide) | exact ⟨by omega, by omega⟩) (by first | omega | decide | exact Nat.lt_of_le_of_lt Nat.and_le_right (by decide) | exact ⟨by omega, by omega⟩) (fun c29 => ?_) (fun c => absurd (show _ from by omega) c)
    exact K
theorem m_sg32 {xs : List Int32} {d : Nat} {σ : Nat → List Value} {Q : Option Value → (Nat → List Value) → Prop} {x i c : Nat} {d0 : Int32} (hc : c < 256) (K : Wq xs d ax_cd231 37 [(4, .int (nI (if c = 42 then 10 else x))), (0, .ref 287), (1, .int (nI i)), (2, .int (nI c)), (3, .int d0)] [] σ Q) : Wq xs d ax_cd231 32 [(4, .int (nI x)), (0, .ref 287), (1, .int (nI i)), (2, .int (nI c)), (3, .int d0)] [] σ Q := by
  by_cases h : c = 42
  · rw [if_pos h] at K
    refine wq_go rfl (fun _ => rfl) ?_
    refine wq_cN (m := 42) rfl rfl ?_
    refine wq_cne rfl (by first | omega | decide | exact Nat.lt_of_le_of_lt Nat.and_le_right (by decide) | exact ⟨by omega, by omega⟩) (by first | omega | decide | exact Nat.lt_of_le_of_lt Nat.and_le_right (by decide) | exact ⟨by omega, by omega⟩) (fun c => absurd c (by omega)) (fun c34 => ?_)
    refine wq_cN (m := 10) rfl rfl ?_
    refine wq_go rfl (fun _ => rfl) ?_
    exact wq_lv ⟨(by decide : ([4, 0, 1, 2, 3] : List Nat).Nodup), (lvm (List.mem_of_getElem? (i := 0) rfl) (lvm (List.mem_of_getElem? (i := 1) rfl) (lvm (List.mem_of_getElem? (i := 2) rfl) (lvm (List.mem_of_getElem? (i := 3) rfl) (lvm (List.mem_of_getElem? (i := 4) rfl) lvn)))))⟩ K
  · rw [if_neg h] at K
    refine wq_go rfl (fun _ => rfl) ?_
    refine wq_cN (m := 42) rfl rfl ?_
    refine wq_cne rfl (by first | omega | decide | exact Nat.lt_of_le_of_lt Nat.and_le_right (by decide) | exact ⟨by omega, by omega⟩) (by first | omega | decide | exact Nat.lt_of_le_of_lt Nat.and_le_right (by decide) | exact ⟨by omega, by omega⟩) (fun c34 => ?_) (fun c => absurd (show _ from by omega) c)
    exact K
theorem m_sg37 {xs : List Int32} {d : Nat} {σ : Nat → List Value} {Q : Option Value → (Nat → List Value) → Prop} {x i c : Nat} {d0 : Int32} (hc : c < 256) (K : Wq xs d ax_cd231 42 [(4, .int (nI (if c = 47 then 15 else x))), (0, .ref 287), (1, .int (nI i)), (2, .int (nI c)), (3, .int d0)] [] σ Q) : Wq xs d ax_cd231 37 [(4, .int (nI x)), (0, .ref 287), (1, .int (nI i)), (2, .int (nI c)), (3, .int d0)] [] σ Q := by
  by_cases h : c = 47
  · rw [if_pos h] at K
    refine wq_go rfl (fun _ => rfl) ?_
    refine wq_cN (m := 47) rfl rfl ?_
    refine wq_cne rfl (by first | omega | decide | exact Nat.lt_of_le_of_lt Nat.and_le_right (by decide) | exact ⟨by omega, by omega⟩) (by first | omega | decide | exact Nat.lt_of_le_of_lt Nat.and_le_right (by decide) | exact ⟨by omega, by omega⟩) (fun c => absurd c (by omega)) (fun c39 => ?_)
    refine wq_cN (m := 15) rfl rfl ?_
    refine wq_go rfl (fun _ => rfl) ?_
    exact wq_lv ⟨(by decide : ([4, 0, 1, 2, 3] : List Nat).Nodup), (lvm (List.mem_of_getElem? (i := 0) rfl) (lvm (List.mem_of_getElem? (i := 1) rfl) (lvm (List.mem_of_getElem? (i := 2) rfl) (lvm (List.mem_of_getElem? (i := 3) rfl) (lvm (List.mem_of_getElem? (i := 4) rfl) lvn)))))⟩ K
  · rw [if_neg h] at K
    refine wq_go rfl (fun _ => rfl) ?_
    refine wq_cN (m := 47) rfl rfl ?_
    refine wq_cne rfl (by first | omega | decide | exact Nat.lt_of_le_of_lt Nat.and_le_right (by decide) | exact ⟨by omega, by omega⟩) (by first | omega | decide | exact Nat.lt_of_le_of_lt Nat.and_le_right (by decide) | exact ⟨by omega, by omega⟩) (fun c39 => ?_) (fun c => absurd (show _ from by omega) c)
    exact K
theorem m_sg42 {xs : List Int32} {d : Nat} {σ : Nat → List Value} {Q : Option Value → (Nat → List Value) → Prop} {x i c : Nat} {d0 : Int32} (hc : c < 256) (K : Wq xs d ax_cd231 47 [(4, .int (nI (if c = 60 then 13 else x))), (0, .ref 287), (1, .int (nI i)), (2, .int (nI c)), (3, .int d0)] [] σ Q) : Wq xs d ax_cd231 42 [(4, .int (nI x)), (0, .ref 287), (1, .int (nI i)), (2, .int (nI c)), (3, .int d0)] [] σ Q := by
  by_cases h : c = 60
  · rw [if_pos h] at K
    refine wq_go rfl (fun _ => rfl) ?_
    refine wq_cN (m := 60) rfl rfl ?_
    refine wq_cne rfl (by first | omega | decide | exact Nat.lt_of_le_of_lt Nat.and_le_right (by decide) | exact ⟨by omega, by omega⟩) (by first | omega | decide | exact Nat.lt_of_le_of_lt Nat.and_le_right (by decide) | exact ⟨by omega, by omega⟩) (fun c => absurd c (by omega)) (fun c44 => ?_)
    refine wq_cN (m := 13) rfl rfl ?_
    refine wq_go rfl (fun _ => rfl) ?_
    exact wq_lv ⟨(by decide : ([4, 0, 1, 2, 3] : List Nat).Nodup), (lvm (List.mem_of_getElem? (i := 0) rfl) (lvm (List.mem_of_getElem? (i := 1) rfl) (lvm (List.mem_of_getElem? (i := 2) rfl) (lvm (List.mem_of_getElem? (i := 3) rfl) (lvm (List.mem_of_getElem? (i := 4) rfl) lvn)))))⟩ K
  · rw [if_neg h] at K
    refine wq_go rfl (fun _ => rfl) ?_
    refine wq_cN (m := 60) rfl rfl ?_
    refine wq_cne rfl (by first | omega | decide | exact Nat.lt_of_le_of_lt Nat.and_le_right (by decide) | exact ⟨by omega, by omega⟩) (by first | omega | decide | exact Nat.lt_of_le_of_lt Nat.and_le_right (by decide) | exact ⟨by omega, by omega⟩) (fun c44 => ?_) (fun c => absurd (show _ from by omega) c)
    exact K
theorem m_sign {xs : List Int32} {d : Nat} {σ : Nat → List Value} {Q : Option Value → (Nat → List Value) → Prop} {g fk fp fn : Nat → Int32} {fm : Nat → Int64} {n : Nat} (h287 : σ 287 = mo g) (h10 : g 10 = nI n) (hn : n < 403) (h290 : σ 290 = arr 403 fk) (h291 : σ 291 = arr 403 fp) (h292 : σ 292 = arr 403 fn) (h293 : σ 293 = arrL 403 fm) {i c : Nat} {d0 : Int32} (hc : c < 256)  (K : ∀ σ', Fr xMt σ σ' → σ' 287 = mo (upd g 10 (nI (n + 1))) → σ' 290 = arr 403 (upd fk n (nI (mkK (sgK c)))) → σ' 291 = arr 403 (upd fp n (nI i)) → σ' 292 = arr 403 (upd fn n (nI 0)) → σ' 293 = arrL 403 (vp_updL fm n 0) → Q (some (.int (nI 1))) σ') : Wq xs (d + 1) ax_cd231 0 [(0, .ref 287), (1, .int (nI i)), (2, .int (nI c)), (3, .int d0)] [] σ Q := by
  refine wq_go rfl (fun _ => rfl) ?_
  refine wq_cN (m := 59) rfl rfl ?_
  refine wq_cne rfl (by first | omega | decide | exact Nat.lt_of_le_of_lt Nat.and_le_right (by decide) | exact ⟨by omega, by omega⟩) (by first | omega | decide | exact Nat.lt_of_le_of_lt Nat.and_le_right (by decide) | exact ⟨by omega, by omega⟩) (fun c2 => ?_) (fun c2 => ?_)
  · skip
    refine wq_go rfl (fun _ => rfl) ?_
    refine wq_cN (m := 61) rfl rfl ?_
    refine wq_cne rfl (by first | omega | decide | exact Nat.lt_of_le_of_lt Nat.and_le_right (by decide) | exact ⟨by omega, by omega⟩) (by first | omega | decide | exact Nat.lt_of_le_of_lt Nat.and_le_right (by decide) | exact ⟨by omega, by omega⟩) (fun c7 => ?_) (fun c7 => ?_)
    · skip
      refine wq_go rfl (fun _ => rfl) ?_
      refine wq_cN (m := 40) rfl rfl ?_
      refine wq_cne rfl (by first | omega | decide | exact Nat.lt_of_le_of_lt Nat.and_le_right (by decide) | exact ⟨by omega, by omega⟩) (by first | omega | decide | exact Nat.lt_of_le_of_lt Nat.and_le_right (by decide) | exact ⟨by omega, by omega⟩) (fun c12 => ?_) (fun c12 => ?_)
      · skip
        refine wq_go rfl (fun _ => rfl) ?_
        refine wq_cN (m := 41) rfl rfl ?_
        refine wq_cne rfl (by first | omega | decide | exact Nat.lt_of_le_of_lt Nat.and_le_right (by decide) | exact ⟨by omega, by omega⟩) (by first | omega | decide | exact Nat.lt_of_le_of_lt Nat.and_le_right (by decide) | exact ⟨by omega, by omega⟩) (fun c17 => ?_) (fun c17 => ?_)
        · skip
          refine wq_cN (m := 3) rfl rfl ?_
          refine wq_go rfl (fun _ => rfl) ?_
          refine wq_lv ⟨(by decide : ([4, 0, 1, 2, 3] : List Nat).Nodup), (lvm (List.mem_of_getElem? (i := 0) rfl) (lvm (List.mem_of_getElem? (i := 1) rfl) (lvm (List.mem_of_getElem? (i := 2) rfl) (lvm (List.mem_of_getElem? (i := 3) rfl) (lvm (List.mem_of_getElem? (i := 4) rfl) lvn)))))⟩ ?_
          refine m_sg22 hc ?_
          refine m_sg27 hc ?_
          refine m_sg32 hc ?_
          refine m_sg37 hc ?_
          refine m_sg42 hc ?_
          refine wq_go rfl (fun _ => rfl) ?_
          refine wq_go rfl (fun _ => rfl) ?_
          refine wq_go rfl (fun _ => rfl) ?_
          refine wq_cN (m := 0) rfl rfl ?_
          refine wq_go rfl (fun _ => rfl) ?_
          refine wq_callV rfl rfl (by first | rfl | assumption) (by first | decide | omega | assumption) (Nat.le_of_ble_eq_true rfl) (Nat.le_of_ble_eq_true rfl) rfl rfl ?_
          refine m_token h287 h10 hn h290 h291 h292 h293 (fun σ2 F2 e0 e1 e2 e3 e4 => ?_)
          refine wq_cN (m := 1) rfl rfl ?_
          refine wq_iret rfl ?_
          refine K σ2 F2 e0 ?_ e2 e3 e4
          rw [e1]
          congr 2
          rw [sg_mk c hc]
          congr 1
          repeat' split
          all_goals omega
        · skip
          refine wq_cN (m := 7) rfl rfl ?_
          refine wq_go rfl (fun _ => rfl) ?_
          refine wq_go rfl (fun _ => rfl) ?_
          refine wq_lv ⟨(by decide : ([4, 0, 1, 2, 3] : List Nat).Nodup), (lvm (List.mem_of_getElem? (i := 0) rfl) (lvm (List.mem_of_getElem? (i := 1) rfl) (lvm (List.mem_of_getElem? (i := 2) rfl) (lvm (List.mem_of_getElem? (i := 3) rfl) (lvm (List.mem_of_getElem? (i := 4) rfl) lvn)))))⟩ ?_
          refine m_sg22 hc ?_
          refine m_sg27 hc ?_
          refine m_sg32 hc ?_
          refine m_sg37 hc ?_
          refine m_sg42 hc ?_
          refine wq_go rfl (fun _ => rfl) ?_
          refine wq_go rfl (fun _ => rfl) ?_
          refine wq_go rfl (fun _ => rfl) ?_
          refine wq_cN (m := 0) rfl rfl ?_
          refine wq_go rfl (fun _ => rfl) ?_
          refine wq_callV rfl rfl (by first | rfl | assumption) (by first | decide | omega | assumption) (Nat.le_of_ble_eq_true rfl) (Nat.le_of_ble_eq_true rfl) rfl rfl ?_
          refine m_token h287 h10 hn h290 h291 h292 h293 (fun σ2 F2 e0 e1 e2 e3 e4 => ?_)
          refine wq_cN (m := 1) rfl rfl ?_
          refine wq_iret rfl ?_
          refine K σ2 F2 e0 ?_ e2 e3 e4
          rw [e1]
          congr 2
          rw [sg_mk c hc]
          congr 1
          repeat' split
          all_goals omega
      · skip
        refine wq_cN (m := 6) rfl rfl ?_
        refine wq_go rfl (fun _ => rfl) ?_
        refine wq_go rfl (fun _ => rfl) ?_
        refine wq_lv ⟨(by decide : ([4, 0, 1, 2, 3] : List Nat).Nodup), (lvm (List.mem_of_getElem? (i := 0) rfl) (lvm (List.mem_of_getElem? (i := 1) rfl) (lvm (List.mem_of_getElem? (i := 2) rfl) (lvm (List.mem_of_getElem? (i := 3) rfl) (lvm (List.mem_of_getElem? (i := 4) rfl) lvn)))))⟩ ?_
        refine m_sg22 hc ?_
        refine m_sg27 hc ?_
        refine m_sg32 hc ?_
        refine m_sg37 hc ?_
        refine m_sg42 hc ?_
        refine wq_go rfl (fun _ => rfl) ?_
        refine wq_go rfl (fun _ => rfl) ?_
        refine wq_go rfl (fun _ => rfl) ?_
        refine wq_cN (m := 0) rfl rfl ?_
        refine wq_go rfl (fun _ => rfl) ?_
        refine wq_callV rfl rfl (by first | rfl | assumption) (by first | decide | omega | assumption) (Nat.le_of_ble_eq_true rfl) (Nat.le_of_ble_eq_true rfl) rfl rfl ?_
        refine m_token h287 h10 hn h290 h291 h292 h293 (fun σ2 F2 e0 e1 e2 e3 e4 => ?_)
        refine wq_cN (m := 1) rfl rfl ?_
        refine wq_iret rfl ?_
        refine K σ2 F2 e0 ?_ e2 e3 e4
        rw [e1]
        congr 2
        rw [sg_mk c hc]
        congr 1
        repeat' split
        all_goals omega
    · skip
      refine wq_cN (m := 5) rfl rfl ?_
      refine wq_go rfl (fun _ => rfl) ?_
      refine wq_go rfl (fun _ => rfl) ?_
      refine wq_lv ⟨(by decide : ([4, 0, 1, 2, 3] : List Nat).Nodup), (lvm (List.mem_of_getElem? (i := 0) rfl) (lvm (List.mem_of_getElem? (i := 1) rfl) (lvm (List.mem_of_getElem? (i := 2) rfl) (lvm (List.mem_of_getElem? (i := 3) rfl) (lvm (List.mem_of_getElem? (i := 4) rfl) lvn)))))⟩ ?_
      refine m_sg22 hc ?_
      refine m_sg27 hc ?_
      refine m_sg32 hc ?_
      refine m_sg37 hc ?_
      refine m_sg42 hc ?_
      refine wq_go rfl (fun _ => rfl) ?_
      refine wq_go rfl (fun _ => rfl) ?_
      refine wq_go rfl (fun _ => rfl) ?_
      refine wq_cN (m := 0) rfl rfl ?_
      refine wq_go rfl (fun _ => rfl) ?_
      refine wq_callV rfl rfl (by first | rfl | assumption) (by first | decide | omega | assumption) (Nat.le_of_ble_eq_true rfl) (Nat.le_of_ble_eq_true rfl) rfl rfl ?_
      refine m_token h287 h10 hn h290 h291 h292 h293 (fun σ2 F2 e0 e1 e2 e3 e4 => ?_)
      refine wq_cN (m := 1) rfl rfl ?_
      refine wq_iret rfl ?_
      refine K σ2 F2 e0 ?_ e2 e3 e4
      rw [e1]
      congr 2
      rw [sg_mk c hc]
      congr 1
      repeat' split
      all_goals omega
  · skip
    refine wq_cN (m := 4) rfl rfl ?_
    refine wq_go rfl (fun _ => rfl) ?_
    refine wq_go rfl (fun _ => rfl) ?_
    refine wq_lv ⟨(by decide : ([4, 0, 1, 2, 3] : List Nat).Nodup), (lvm (List.mem_of_getElem? (i := 0) rfl) (lvm (List.mem_of_getElem? (i := 1) rfl) (lvm (List.mem_of_getElem? (i := 2) rfl) (lvm (List.mem_of_getElem? (i := 3) rfl) (lvm (List.mem_of_getElem? (i := 4) rfl) lvn)))))⟩ ?_
    refine m_sg22 hc ?_
    refine m_sg27 hc ?_
    refine m_sg32 hc ?_
    refine m_sg37 hc ?_
    refine m_sg42 hc ?_
    refine wq_go rfl (fun _ => rfl) ?_
    refine wq_go rfl (fun _ => rfl) ?_
    refine wq_go rfl (fun _ => rfl) ?_
    refine wq_cN (m := 0) rfl rfl ?_
    refine wq_go rfl (fun _ => rfl) ?_
    refine wq_callV rfl rfl (by first | rfl | assumption) (by first | decide | omega | assumption) (Nat.le_of_ble_eq_true rfl) (Nat.le_of_ble_eq_true rfl) rfl rfl ?_
    refine m_token h287 h10 hn h290 h291 h292 h293 (fun σ2 F2 e0 e1 e2 e3 e4 => ?_)
    refine wq_cN (m := 1) rfl rfl ?_
    refine wq_iret rfl ?_
    refine K σ2 F2 e0 ?_ e2 e3 e4
    rw [e1]
    congr 2
    rw [sg_mk c hc]
    congr 1
    repeat' split
    all_goals omega
theorem m_cw_l {xs : List Int32} {d : Nat} {σ : Nat → List Value} {Q : Option Value → (Nat → List Value) → Prop} {b ft : Nat → Int32} {l : Nat} (h289 : σ 289 = arr 2000 ft) (hb : ∀ j, j < l → ft j = b j) (hl : l ≤ 2000) {g : Nat → Int32} (h287 : σ 287 = mo g) (h4 : g 4 = nI l) {i c E : Nat} (hil : i ≤ l) (K : Wq xs (d + 1) ax_cd226 66 [(3, .int (nI (E - i))), (4, .long (nmF (fun j => byN (b j)) i (min 8 (E - i)))), (2, .int (nI c)), (1, .int (nI i)), (0, .ref 287)] [] σ Q) : ∀ (m u : Nat), m + u = l - i → rn isLt (fun j => byN (b j)) m (i + u) = E → Wq xs (d + 1) ax_cd226 46 [(3, .int (nI u)), (4, .long (nmF (fun j => byN (b j)) i (min 8 u))), (2, .int (nI c)), (1, .int (nI i)), (0, .ref 287)] [] σ Q := by
  intro m
  induction m with
  | zero =>
    intro u hm hE
    have hE : i + u = E := hE
    subst hE
    refine wq_go rfl (fun _ => rfl) ?_
    refine wq_go rfl (fun _ => rfl) ?_
    refine wq_go rfl (fun _ => rfl) ?_
    refine wq_addN rfl ?_
    refine wq_callV rfl rfl (by first | rfl | assumption) (by first | decide | omega | assumption) (Nat.le_of_ble_eq_true rfl) (Nat.le_of_ble_eq_true rfl) rfl rfl ?_
    refine m_byteAt0 h289 hb hl h287 h4 (i := i + u) (by omega) (by omega) ?_
    refine wq_callS rfl (Nat.le_of_ble_eq_true rfl) rfl (Nat.le_of_ble_eq_true rfl) (Nat.le_of_ble_eq_true rfl) rfl rfl ?_
    refine m_isLetter (by decide) (fun b => absurd b (by decide)) (fun b2 => ?_)
    refine wq_zeq rfl (by first | omega | decide | exact Nat.lt_of_le_of_lt Nat.and_le_right (by decide) | exact ⟨by omega, by omega⟩) (fun c52 => ?_) (fun c => absurd (show _ from by omega) c)
    rw [show i + u - i = u by omega] at K
    exact wq_lv ⟨(by decide : ([3, 4, 2, 1, 0] : List Nat).Nodup), (lvm (List.mem_of_getElem? (i := 0) rfl) (lvm (List.mem_of_getElem? (i := 1) rfl) (lvm (List.mem_of_getElem? (i := 2) rfl) (lvm (List.mem_of_getElem? (i := 3) rfl) (lvm (List.mem_of_getElem? (i := 4) rfl) lvn)))))⟩ K
  | succ m ih =>
    intro u hm hE
    refine wq_go rfl (fun _ => rfl) ?_
    refine wq_go rfl (fun _ => rfl) ?_
    refine wq_go rfl (fun _ => rfl) ?_
    refine wq_addN rfl ?_
    refine wq_callV rfl rfl (by first | rfl | assumption) (by first | decide | omega | assumption) (Nat.le_of_ble_eq_true rfl) (Nat.le_of_ble_eq_true rfl) rfl rfl ?_
    refine m_byteAt1 h289 hb hl h287 h4 (i := i + u) (by omega) ?_
    refine wq_callS rfl (Nat.le_of_ble_eq_true rfl) rfl (Nat.le_of_ble_eq_true rfl) (Nat.le_of_ble_eq_true rfl) rfl rfl ?_
    refine m_isLetter (byN_lt _) (fun eb => ?_) (fun eb => ?_)
    · skip
      refine wq_zeq rfl (by first | omega | decide | exact Nat.lt_of_le_of_lt Nat.and_le_right (by decide) | exact ⟨by omega, by omega⟩) (fun c => absurd c (by omega)) (fun c52 => ?_)
      refine wq_go rfl (fun _ => rfl) ?_
      refine wq_cN (m := 8) rfl rfl ?_
      refine wq_cge rfl (by first | omega | decide | exact Nat.lt_of_le_of_lt Nat.and_le_right (by decide) | exact ⟨by omega, by omega⟩) (by first | omega | decide | exact Nat.lt_of_le_of_lt Nat.and_le_right (by decide) | exact ⟨by omega, by omega⟩) (fun c55 => ?_) (fun c55 => ?_)
      · skip
        refine wq_incN rfl rfl rfl ?_
        refine wq_go rfl (fun _ => rfl) ?_
        have n1 := nm_s (B := (fun j => byN (b j))) (u := i + u) (st := i) (by omega)
        have n2 := nm_8 (B := (fun j => byN (b j))) (u := i + u) (st := i)
        rw [show i + u + 1 - i = u + 1 by omega, show i + u - i = u by omega] at n1 n2
        first | rw [← n1 (by omega)] | rw [← n2 (by omega)]
        exact wq_lv ⟨(by decide : ([3, 4, 2, 1, 0] : List Nat).Nodup), (lvm (List.mem_of_getElem? (i := 0) rfl) (lvm (List.mem_of_getElem? (i := 1) rfl) (lvm (List.mem_of_getElem? (i := 2) rfl) (lvm (List.mem_of_getElem? (i := 3) rfl) (lvm (List.mem_of_getElem? (i := 4) rfl) lvn)))))⟩ (ih (u + 1) (by omega) (rn_y hE eb))
      · skip
        refine wq_go rfl (fun _ => rfl) ?_
        refine wq_go rfl (fun _ => rfl) ?_
        refine wq_go rfl (fun _ => rfl) ?_
        refine wq_go rfl (fun _ => rfl) ?_
        refine wq_addN rfl ?_
        refine wq_callV rfl rfl (by first | rfl | assumption) (by first | decide | omega | assumption) (Nat.le_of_ble_eq_true rfl) (Nat.le_of_ble_eq_true rfl) rfl rfl ?_
        refine m_byteAt1 h289 hb hl h287 h4 (i := i + u) (by omega) ?_
        refine wq_callS rfl (Nat.le_of_ble_eq_true rfl) rfl (Nat.le_of_ble_eq_true rfl) (Nat.le_of_ble_eq_true rfl) rfl rfl ?_
        refine m_appends (of_decide_eq_true eb).1 (byN_lt _) ?_
        refine wq_go rfl (fun _ => rfl) ?_
        refine wq_incN rfl rfl rfl ?_
        refine wq_go rfl (fun _ => rfl) ?_
        have n1 := nm_s (B := (fun j => byN (b j))) (u := i + u) (st := i) (by omega)
        have n2 := nm_8 (B := (fun j => byN (b j))) (u := i + u) (st := i)
        rw [show i + u + 1 - i = u + 1 by omega, show i + u - i = u by omega] at n1 n2
        first | rw [← n1 (by omega)] | rw [← n2 (by omega)]
        exact wq_lv ⟨(by decide : ([3, 4, 2, 1, 0] : List Nat).Nodup), (lvm (List.mem_of_getElem? (i := 0) rfl) (lvm (List.mem_of_getElem? (i := 1) rfl) (lvm (List.mem_of_getElem? (i := 2) rfl) (lvm (List.mem_of_getElem? (i := 3) rfl) (lvm (List.mem_of_getElem? (i := 4) rfl) lvn)))))⟩ (ih (u + 1) (by omega) (rn_y hE eb))
    · skip
      refine wq_zeq rfl (by first | omega | decide | exact Nat.lt_of_le_of_lt Nat.and_le_right (by decide) | exact ⟨by omega, by omega⟩) (fun c52 => ?_) (fun c => absurd (show _ from by omega) c)
      have hE2 := rn_n hE eb
      subst hE2
      rw [show i + u - i = u by omega] at K
      exact wq_lv ⟨(by decide : ([3, 4, 2, 1, 0] : List Nat).Nodup), (lvm (List.mem_of_getElem? (i := 0) rfl) (lvm (List.mem_of_getElem? (i := 1) rfl) (lvm (List.mem_of_getElem? (i := 2) rfl) (lvm (List.mem_of_getElem? (i := 3) rfl) (lvm (List.mem_of_getElem? (i := 4) rfl) lvn)))))⟩ K
theorem m_cd_l {xs : List Int32} {d : Nat} {σ : Nat → List Value} {Q : Option Value → (Nat → List Value) → Prop} {b ft : Nat → Int32} {l : Nat} (h289 : σ 289 = arr 2000 ft) (hb : ∀ j, j < l → ft j = b j) (hl : l ≤ 2000) {g : Nat → Int32} (h287 : σ 287 = mo g) (h4 : g 4 = nI l) {i c E : Nat} (hil : i ≤ l) (K : Wq xs (d + 1) ax_cd226 136 [(3, .int (nI (E - i))), (4, .int (nI (vlF (fun j => byN (b j)) i (min 4 (E - i))))), (2, .int (nI c)), (1, .int (nI i)), (0, .ref 287)] [] σ Q) : ∀ (m u : Nat), m + u = l - i → rn isDg (fun j => byN (b j)) m (i + u) = E → Wq xs (d + 1) ax_cd226 112 [(3, .int (nI u)), (4, .int (nI (vlF (fun j => byN (b j)) i (min 4 u)))), (2, .int (nI c)), (1, .int (nI i)), (0, .ref 287)] [] σ Q := by
  intro m
  induction m with
  | zero =>
    intro u hm hE
    have hE : i + u = E := hE
    subst hE
    refine wq_go rfl (fun _ => rfl) ?_
    refine wq_go rfl (fun _ => rfl) ?_
    refine wq_go rfl (fun _ => rfl) ?_
    refine wq_addN rfl ?_
    refine wq_callV rfl rfl (by first | rfl | assumption) (by first | decide | omega | assumption) (Nat.le_of_ble_eq_true rfl) (Nat.le_of_ble_eq_true rfl) rfl rfl ?_
    refine m_byteAt0 h289 hb hl h287 h4 (i := i + u) (by omega) (by omega) ?_
    refine wq_callS rfl (Nat.le_of_ble_eq_true rfl) rfl (Nat.le_of_ble_eq_true rfl) (Nat.le_of_ble_eq_true rfl) rfl rfl ?_
    refine m_isDigit (by decide) (fun b => absurd b (by decide)) (fun b2 => ?_)
    refine wq_zeq rfl (by first | omega | decide | exact Nat.lt_of_le_of_lt Nat.and_le_right (by decide) | exact ⟨by omega, by omega⟩) (fun c118 => ?_) (fun c => absurd (show _ from by omega) c)
    rw [show i + u - i = u by omega] at K
    exact wq_lv ⟨(by decide : ([3, 4, 2, 1, 0] : List Nat).Nodup), (lvm (List.mem_of_getElem? (i := 0) rfl) (lvm (List.mem_of_getElem? (i := 1) rfl) (lvm (List.mem_of_getElem? (i := 2) rfl) (lvm (List.mem_of_getElem? (i := 3) rfl) (lvm (List.mem_of_getElem? (i := 4) rfl) lvn)))))⟩ K
  | succ m ih =>
    intro u hm hE
    refine wq_go rfl (fun _ => rfl) ?_
    refine wq_go rfl (fun _ => rfl) ?_
    refine wq_go rfl (fun _ => rfl) ?_
    refine wq_addN rfl ?_
    refine wq_callV rfl rfl (by first | rfl | assumption) (by first | decide | omega | assumption) (Nat.le_of_ble_eq_true rfl) (Nat.le_of_ble_eq_true rfl) rfl rfl ?_
    refine m_byteAt1 h289 hb hl h287 h4 (i := i + u) (by omega) ?_
    refine wq_callS rfl (Nat.le_of_ble_eq_true rfl) rfl (Nat.le_of_ble_eq_true rfl) (Nat.le_of_ble_eq_true rfl) rfl rfl ?_
    refine m_isDigit (byN_lt _) (fun eb => ?_) (fun eb => ?_)
    · skip
      refine wq_zeq rfl (by first | omega | decide | exact Nat.lt_of_le_of_lt Nat.and_le_right (by decide) | exact ⟨by omega, by omega⟩) (fun c => absurd c (by omega)) (fun c118 => ?_)
      refine wq_go rfl (fun _ => rfl) ?_
      refine wq_cN (m := 4) rfl rfl ?_
      refine wq_cge rfl (by first | omega | decide | exact Nat.lt_of_le_of_lt Nat.and_le_right (by decide) | exact ⟨by omega, by omega⟩) (by first | omega | decide | exact Nat.lt_of_le_of_lt Nat.and_le_right (by decide) | exact ⟨by omega, by omega⟩) (fun c121 => ?_) (fun c121 => ?_)
      · skip
        refine wq_incN rfl rfl rfl ?_
        refine wq_go rfl (fun _ => rfl) ?_
        have n1 := vl_s (B := (fun j => byN (b j))) (u := i + u) (st := i) (by omega)
        have n2 := vl_4 (B := (fun j => byN (b j))) (u := i + u) (st := i)
        rw [show i + u + 1 - i = u + 1 by omega, show i + u - i = u by omega] at n1 n2
        first | rw [← n1 (by omega)] | rw [← n2 (by omega)]
        exact wq_lv ⟨(by decide : ([3, 4, 2, 1, 0] : List Nat).Nodup), (lvm (List.mem_of_getElem? (i := 0) rfl) (lvm (List.mem_of_getElem? (i := 1) rfl) (lvm (List.mem_of_getElem? (i := 2) rfl) (lvm (List.mem_of_getElem? (i := 3) rfl) (lvm (List.mem_of_getElem? (i := 4) rfl) lvn)))))⟩ (ih (u + 1) (by omega) (rn_y hE eb))
      · skip
        refine wq_cN (m := 10) rfl rfl ?_
        refine wq_go rfl (fun _ => rfl) ?_
        refine wq_mulN rfl ?_
        refine wq_go rfl (fun _ => rfl) ?_
        refine wq_go rfl (fun _ => rfl) ?_
        refine wq_go rfl (fun _ => rfl) ?_
        refine wq_addN rfl ?_
        refine wq_callV rfl rfl (by first | rfl | assumption) (by first | decide | omega | assumption) (Nat.le_of_ble_eq_true rfl) (Nat.le_of_ble_eq_true rfl) rfl rfl ?_
        refine m_byteAt1 h289 hb hl h287 h4 (i := i + u) (by omega) ?_
        refine wq_addN rfl ?_
        refine wq_cN (m := 48) rfl rfl ?_
        refine wq_subN rfl (by have := (of_decide_eq_true eb).1; omega) ?_
        refine wq_go rfl (fun _ => rfl) ?_
        refine wq_incN rfl rfl rfl ?_
        refine wq_go rfl (fun _ => rfl) ?_
        have n1 := vl_s (B := (fun j => byN (b j))) (u := i + u) (st := i) (by omega)
        have n2 := vl_4 (B := (fun j => byN (b j))) (u := i + u) (st := i)
        rw [show i + u + 1 - i = u + 1 by omega, show i + u - i = u by omega] at n1 n2
        first | rw [← n1 (by omega)] | rw [← n2 (by omega)]
        exact wq_lv ⟨(by decide : ([3, 4, 2, 1, 0] : List Nat).Nodup), (lvm (List.mem_of_getElem? (i := 0) rfl) (lvm (List.mem_of_getElem? (i := 1) rfl) (lvm (List.mem_of_getElem? (i := 2) rfl) (lvm (List.mem_of_getElem? (i := 3) rfl) (lvm (List.mem_of_getElem? (i := 4) rfl) lvn)))))⟩ (ih (u + 1) (by omega) (rn_y hE eb))
    · skip
      refine wq_zeq rfl (by first | omega | decide | exact Nat.lt_of_le_of_lt Nat.and_le_right (by decide) | exact ⟨by omega, by omega⟩) (fun c118 => ?_) (fun c => absurd (show _ from by omega) c)
      have hE2 := rn_n hE eb
      subst hE2
      rw [show i + u - i = u by omega] at K
      exact wq_lv ⟨(by decide : ([3, 4, 2, 1, 0] : List Nat).Nodup), (lvm (List.mem_of_getElem? (i := 0) rfl) (lvm (List.mem_of_getElem? (i := 1) rfl) (lvm (List.mem_of_getElem? (i := 2) rfl) (lvm (List.mem_of_getElem? (i := 3) rfl) (lvm (List.mem_of_getElem? (i := 4) rfl) lvn)))))⟩ K
theorem m_ck_l {xs : List Int32} {d : Nat} {σ : Nat → List Value} {Q : Option Value → (Nat → List Value) → Prop} {g : Nat → Int32} (h287 : σ 287 = mo g) (h294 : σ 294 = arrL 23 kwL) {x : Int64} {k c i : Nat}  (K : Wq xs (d + 1) ax_cd226 94 [(6, .int (nI (mkK (kwF x 23 0)))), (3, .int (nI k)), (4, .long x), (2, .int (nI c)), (1, .int (nI i)), (0, .ref 287)] [] σ Q) : ∀ (m u : Nat), m + u = 23 → Wq xs (d + 1) ax_cd226 78 [(7, .int (nI u)), (6, .int (nI (kmF x u))), (3, .int (nI k)), (4, .long x), (2, .int (nI c)), (1, .int (nI i)), (0, .ref 287)] [] σ Q := by
  intro m
  induction m with
  | zero =>
    intro u hm
    refine wq_go rfl (fun _ => rfl) ?_
    refine wq_cN (m := 23) rfl rfl ?_
    refine wq_cge rfl (by first | omega | decide | exact Nat.lt_of_le_of_lt Nat.and_le_right (by decide) | exact ⟨by omega, by omega⟩) (by first | omega | decide | exact Nat.lt_of_le_of_lt Nat.and_le_right (by decide) | exact ⟨by omega, by omega⟩) (fun c80 => ?_) (fun c => absurd (show _ from by omega) c)
    have hu : u = 23 := by omega
    subst hu
    rw [km_kw]
    exact wq_lv ⟨(by decide : ([7, 6, 3, 4, 2, 1, 0] : List Nat).Nodup), (lvm (List.mem_of_getElem? (i := 1) rfl) (lvm (List.mem_of_getElem? (i := 2) rfl) (lvm (List.mem_of_getElem? (i := 3) rfl) (lvm (List.mem_of_getElem? (i := 4) rfl) (lvm (List.mem_of_getElem? (i := 5) rfl) (lvm (List.mem_of_getElem? (i := 6) rfl) lvn))))))⟩ K
  | succ m ih =>
    intro u hm
    refine wq_go rfl (fun _ => rfl) ?_
    refine wq_cN (m := 23) rfl rfl ?_
    refine wq_cge rfl (by first | omega | decide | exact Nat.lt_of_le_of_lt Nat.and_le_right (by decide) | exact ⟨by omega, by omega⟩) (by first | omega | decide | exact Nat.lt_of_le_of_lt Nat.and_le_right (by decide) | exact ⟨by omega, by omega⟩) (fun c => absurd c (by omega)) (fun c80 => ?_)
    refine wq_go rfl (fun _ => rfl) ?_
    refine wq_getf rfl (by first | rfl | assumption) (by first | decide | omega | assumption) h287 rfl ?_
    refine wq_go rfl (fun _ => rfl) ?_
    refine wq_lald rfl (by first | rfl | assumption) (by first | decide | omega | assumption) h294 rfl (by omega) (by first | decide | omega) ?_
    refine wq_go rfl (fun _ => rfl) ?_
    refine wq_go rfl (fun _ => rfl) ?_
    refine wq_if rfl  (fun c87 => ?_) (fun c87 => ?_)
    · skip
      have hne : ¬ kwL u = x := fun e => (of_decide_eq_true c87) ((lg_cmp_eq _ _).mpr e)
      refine wq_incN rfl rfl rfl ?_
      refine wq_go rfl (fun _ => rfl) ?_
      have hi := ih (u + 1) (by omega)
      first | rw [show kmF x (u + 1) = 20 + u from if_pos hee] at hi | rw [show kmF x (u + 1) = kmF x u from if_neg hne] at hi
      exact wq_lv ⟨(by decide : ([7, 6, 3, 4, 2, 1, 0] : List Nat).Nodup), (lvm (List.mem_of_getElem? (i := 0) rfl) (lvm (List.mem_of_getElem? (i := 1) rfl) (lvm (List.mem_of_getElem? (i := 2) rfl) (lvm (List.mem_of_getElem? (i := 3) rfl) (lvm (List.mem_of_getElem? (i := 4) rfl) (lvm (List.mem_of_getElem? (i := 5) rfl) (lvm (List.mem_of_getElem? (i := 6) rfl) lvn)))))))⟩ hi
    · skip
      have hee : kwL u = x := (lg_cmp_eq _ _).mp (Classical.not_not.mp (of_decide_eq_false c87))
      refine wq_cN (m := 20) rfl rfl ?_
      refine wq_go rfl (fun _ => rfl) ?_
      refine wq_addN rfl ?_
      refine wq_go rfl (fun _ => rfl) ?_
      refine wq_incN rfl rfl rfl ?_
      refine wq_go rfl (fun _ => rfl) ?_
      have hi := ih (u + 1) (by omega)
      first | rw [show kmF x (u + 1) = 20 + u from if_pos hee] at hi | rw [show kmF x (u + 1) = kmF x u from if_neg hne] at hi
      exact wq_lv ⟨(by decide : ([7, 6, 3, 4, 2, 1, 0] : List Nat).Nodup), (lvm (List.mem_of_getElem? (i := 0) rfl) (lvm (List.mem_of_getElem? (i := 1) rfl) (lvm (List.mem_of_getElem? (i := 2) rfl) (lvm (List.mem_of_getElem? (i := 3) rfl) (lvm (List.mem_of_getElem? (i := 4) rfl) (lvm (List.mem_of_getElem? (i := 5) rfl) (lvm (List.mem_of_getElem? (i := 6) rfl) lvn)))))))⟩ hi
theorem m_cut_end {xs : List Int32} {d : Nat} {σ : Nat → List Value} {Q : Option Value → (Nat → List Value) → Prop} {b ft : Nat → Int32} {l : Nat} (h289 : σ 289 = arr 2000 ft) (hb : ∀ j, j < l → ft j = b j) (hl : l ≤ 2000) {g : Nat → Int32} (h294 : σ 294 = arrL 23 kwL) (K : ∀ σ' g' n fk fp fn fm, Fr xMt σ σ' → FrG y10 g g' → σ' 287 = mo g' → σ' 290 = arr 403 fk → σ' 291 = arr 403 fp → σ' 292 = arr 403 fn → σ' 293 = arrL 403 fm → Scm (fun j => byN (b j)) l n fk fp fn fm → 1 ≤ n → n ≤ 401 → (∀ j, j + 1 < n → ¬ TK (fun j => byN (b j)) l j = 34) → (n = 401 ∨ TK (fun j => byN (b j)) l (n - 1) = 34) → Q none σ') {i n : Nat} (hi : i = l) (hn : n ≤ 401) : ∀ σ1 g1 fk fp fn fm, Fr xMt σ σ1 → FrG y10 g g1 → σ1 287 = mo g1 → g1 4 = nI l → g1 10 = nI n → σ1 290 = arr 403 fk → σ1 291 = arr 403 fp → σ1 292 = arr 403 fn → σ1 293 = arrL 403 fm → Scm (fun j => byN (b j)) l n fk fp fn fm → (∀ j, j < n → ¬ TK (fun j => byN (b j)) l j = 34) → rn isBl (fun j => byN (b j)) (l - i) i = TPl (fun j => byN (b j)) l n → Wq xs (d + 2) ax_cd226 5 [(1, .int (nI i)), (0, .ref 287)] [] σ1 Q := by
  intro σ1 g1 fk fp fn fm hF1 hG1 h287 h4 h10 h290 h291 h292 h293 hS hT hR
  refine wq_go rfl (fun _ => rfl) ?_
  refine wq_getf rfl (by first | rfl | assumption) (by first | decide | omega | assumption) h287 rfl ?_
  refine wq_top h10 ?_
  refine wq_cN (m := 400) rfl rfl ?_
  refine wq_cgt rfl (by first | omega | decide | exact Nat.lt_of_le_of_lt Nat.and_le_right (by decide) | exact ⟨by omega, by omega⟩) (by first | omega | decide | exact Nat.lt_of_le_of_lt Nat.and_le_right (by decide) | exact ⟨by omega, by omega⟩) (fun c8 => ?_) (fun c8 => ?_)
  · skip
    refine wq_end rfl (fun _ => rfl) ?_
    exact K σ1 g1 n fk fp fn fm hF1 hG1 h287 h290 h291 h292 h293 hS (by omega) (by omega) (fun j hj => hT j (by omega)) (Or.inl (by omega))
  · skip
    refine wq_go rfl (fun _ => rfl) ?_
    refine wq_go rfl (fun _ => rfl) ?_
    refine wq_callV rfl rfl (by first | rfl | assumption) (by first | decide | omega | assumption) (Nat.le_of_ble_eq_true rfl) (Nat.le_of_ble_eq_true rfl) rfl rfl ?_
    refine m_byteAt0 ((hF1 289 rfl).trans h289) hb hl h287 h4 (i := i) (by omega) (by omega) ?_
    refine wq_go rfl (fun _ => rfl) ?_
    refine wq_go rfl (fun _ => rfl) ?_
    refine wq_go rfl (fun _ => rfl) ?_
    refine wq_getf rfl (by first | rfl | assumption) (by first | decide | omega | assumption) h287 rfl ?_
    refine wq_top h4 ?_
    refine wq_clt rfl (by first | omega | decide | exact Nat.lt_of_le_of_lt Nat.and_le_right (by decide) | exact ⟨by omega, by omega⟩) (by first | omega | decide | exact Nat.lt_of_le_of_lt Nat.and_le_right (by decide) | exact ⟨by omega, by omega⟩) (fun c => absurd c (by omega)) (fun c16 => ?_)
    refine wq_go rfl (fun _ => rfl) ?_
    refine wq_cN (m := 0) rfl rfl ?_
    refine wq_go rfl (fun _ => rfl) ?_
    refine wq_getf rfl (by first | rfl | assumption) (by first | decide | omega | assumption) h287 rfl ?_
    refine wq_top h4 ?_
    refine wq_cN (m := 0) rfl rfl ?_
    refine wq_go rfl (fun _ => rfl) ?_
    refine wq_callV rfl rfl (by first | rfl | assumption) (by first | decide | omega | assumption) (Nat.le_of_ble_eq_true rfl) (Nat.le_of_ble_eq_true rfl) rfl rfl ?_
    refine m_token h287 h10 (by omega) h290 h291 h292 h293 (fun σ2 F2 e0 e1 e2 e3 e4 => ?_)
    refine wq_end rfl (fun _ => rfl) ?_
    have hTP : TPl (fun j => byN (b j)) l n = i := by
      have := rn_bd isBl (fun j => byN (b j)) (l - i) i
      omega
    have hTK : TK (fun j => byN (b j)) l n = 34 := if_pos (by omega)
    exact K σ2 _ (n + 1) _ _ _ _ (fr_trans hF1 F2) (fg_up hG1 rfl) e0 e1 e2 e3 e4 (scm_s hS (by rw [hTK]; rfl) (by rw [hTP]; congr 1; omega) (fun q => by omega) (fun q => by omega)) (by omega) (by omega) (fun j hj => hT j (by omega)) (Or.inr hTK)
theorem m_cut_l {xs : List Int32} {d : Nat} {σ : Nat → List Value} {Q : Option Value → (Nat → List Value) → Prop} {b ft : Nat → Int32} {l : Nat} (h289 : σ 289 = arr 2000 ft) (hb : ∀ j, j < l → ft j = b j) (hl : l ≤ 2000) {g : Nat → Int32} (h294 : σ 294 = arrL 23 kwL) (K : ∀ σ' g' n fk fp fn fm, Fr xMt σ σ' → FrG y10 g g' → σ' 287 = mo g' → σ' 290 = arr 403 fk → σ' 291 = arr 403 fp → σ' 292 = arr 403 fn → σ' 293 = arrL 403 fm → Scm (fun j => byN (b j)) l n fk fp fn fm → 1 ≤ n → n ≤ 401 → (∀ j, j + 1 < n → ¬ TK (fun j => byN (b j)) l j = 34) → (n = 401 ∨ TK (fun j => byN (b j)) l (n - 1) = 34) → Q none σ') : ∀ (m i n : Nat), l - i ≤ m → i ≤ l → n ≤ 401 → ∀ σ1 g1 fk fp fn fm, Fr xMt σ σ1 → FrG y10 g g1 → σ1 287 = mo g1 → g1 4 = nI l → g1 10 = nI n → σ1 290 = arr 403 fk → σ1 291 = arr 403 fp → σ1 292 = arr 403 fn → σ1 293 = arrL 403 fm → Scm (fun j => byN (b j)) l n fk fp fn fm → (∀ j, j < n → ¬ TK (fun j => byN (b j)) l j = 34) → rn isBl (fun j => byN (b j)) (l - i) i = TPl (fun j => byN (b j)) l n → Wq xs (d + 2) ax_cd226 5 [(1, .int (nI i)), (0, .ref 287)] [] σ1 Q := by
  intro m
  induction m with
  | zero =>
    intro i n hm hil hn
    exact m_cut_end h289 hb hl h294 K (by omega) hn
  | succ m ih =>
    intro i n hm hil hn
    by_cases hie : i = l
    · exact m_cut_end h289 hb hl h294 K hie hn
    · intro σ1 g1 fk fp fn fm hF1 hG1 h287 h4 h10 h290 h291 h292 h293 hS hT hR
      refine wq_go rfl (fun _ => rfl) ?_
      refine wq_getf rfl (by first | rfl | assumption) (by first | decide | omega | assumption) h287 rfl ?_
      refine wq_top h10 ?_
      refine wq_cN (m := 400) rfl rfl ?_
      refine wq_cgt rfl (by first | omega | decide | exact Nat.lt_of_le_of_lt Nat.and_le_right (by decide) | exact ⟨by omega, by omega⟩) (by first | omega | decide | exact Nat.lt_of_le_of_lt Nat.and_le_right (by decide) | exact ⟨by omega, by omega⟩) (fun c8 => ?_) (fun c8 => ?_)
      · skip
        refine wq_end rfl (fun _ => rfl) ?_
        exact K σ1 g1 n fk fp fn fm hF1 hG1 h287 h290 h291 h292 h293 hS (by omega) (by omega) (fun j hj => hT j (by omega)) (Or.inl (by omega))
      · skip
        refine wq_go rfl (fun _ => rfl) ?_
        refine wq_go rfl (fun _ => rfl) ?_
        refine wq_callV rfl rfl (by first | rfl | assumption) (by first | decide | omega | assumption) (Nat.le_of_ble_eq_true rfl) (Nat.le_of_ble_eq_true rfl) rfl rfl ?_
        refine m_byteAt1 ((hF1 289 rfl).trans h289) hb hl h287 h4 (i := i) (by omega) ?_
        have hby := byN_lt (b i)
        refine wq_go rfl (fun _ => rfl) ?_
        refine wq_go rfl (fun _ => rfl) ?_
        refine wq_go rfl (fun _ => rfl) ?_
        refine wq_getf rfl (by first | rfl | assumption) (by first | decide | omega | assumption) h287 rfl ?_
        refine wq_top h4 ?_
        refine wq_clt rfl (by first | omega | decide | exact Nat.lt_of_le_of_lt Nat.and_le_right (by decide) | exact ⟨by omega, by omega⟩) (by first | omega | decide | exact Nat.lt_of_le_of_lt Nat.and_le_right (by decide) | exact ⟨by omega, by omega⟩) (fun c16 => ?_) (fun c => absurd (show _ from by omega) c)
        refine wq_go rfl (fun _ => rfl) ?_
        refine wq_cN (m := 9) rfl rfl ?_
        refine wq_ceq rfl (by first | omega | decide | exact Nat.lt_of_le_of_lt Nat.and_le_right (by decide) | exact ⟨by omega, by omega⟩) (by first | omega | decide | exact Nat.lt_of_le_of_lt Nat.and_le_right (by decide) | exact ⟨by omega, by omega⟩) (fun c27 => ?_) (fun c27 => ?_)
        · skip
          have hbl : isBl ((fun j => byN (b j)) i) = true := show isBl (byN (b i)) = true from decide_eq_true (by omega)
          refine wq_incN rfl rfl rfl ?_
          refine wq_go rfl (fun _ => rfl) ?_
          refine wq_go rfl (fun _ => rfl) ?_
          exact wq_lv ⟨(by decide : ([1, 2, 0] : List Nat).Nodup), (lvm (List.mem_of_getElem? (i := 0) rfl) (lvm (List.mem_of_getElem? (i := 2) rfl) lvn))⟩ (ih (i + 1) n (by omega) (by omega) hn σ1 g1 fk fp fn fm hF1 hG1 h287 h4 h10 h290 h291 h292 h293 hS hT (by
            rw [← hR]
            have q : l - i = (l - (i + 1)) + 1 := by omega
            rw [q, rn, if_pos hbl]))
        · skip
          refine wq_go rfl (fun _ => rfl) ?_
          refine wq_cN (m := 10) rfl rfl ?_
          refine wq_ceq rfl (by first | omega | decide | exact Nat.lt_of_le_of_lt Nat.and_le_right (by decide) | exact ⟨by omega, by omega⟩) (by first | omega | decide | exact Nat.lt_of_le_of_lt Nat.and_le_right (by decide) | exact ⟨by omega, by omega⟩) (fun c30 => ?_) (fun c30 => ?_)
          · skip
            have hbl : isBl ((fun j => byN (b j)) i) = true := show isBl (byN (b i)) = true from decide_eq_true (by omega)
            refine wq_incN rfl rfl rfl ?_
            refine wq_go rfl (fun _ => rfl) ?_
            refine wq_go rfl (fun _ => rfl) ?_
            exact wq_lv ⟨(by decide : ([1, 2, 0] : List Nat).Nodup), (lvm (List.mem_of_getElem? (i := 0) rfl) (lvm (List.mem_of_getElem? (i := 2) rfl) lvn))⟩ (ih (i + 1) n (by omega) (by omega) hn σ1 g1 fk fp fn fm hF1 hG1 h287 h4 h10 h290 h291 h292 h293 hS hT (by
              rw [← hR]
              have q : l - i = (l - (i + 1)) + 1 := by omega
              rw [q, rn, if_pos hbl]))
          · skip
            refine wq_go rfl (fun _ => rfl) ?_
            refine wq_cN (m := 13) rfl rfl ?_
            refine wq_ceq rfl (by first | omega | decide | exact Nat.lt_of_le_of_lt Nat.and_le_right (by decide) | exact ⟨by omega, by omega⟩) (by first | omega | decide | exact Nat.lt_of_le_of_lt Nat.and_le_right (by decide) | exact ⟨by omega, by omega⟩) (fun c33 => ?_) (fun c33 => ?_)
            · skip
              have hbl : isBl ((fun j => byN (b j)) i) = true := show isBl (byN (b i)) = true from decide_eq_true (by omega)
              refine wq_incN rfl rfl rfl ?_
              refine wq_go rfl (fun _ => rfl) ?_
              refine wq_go rfl (fun _ => rfl) ?_
              exact wq_lv ⟨(by decide : ([1, 2, 0] : List Nat).Nodup), (lvm (List.mem_of_getElem? (i := 0) rfl) (lvm (List.mem_of_getElem? (i := 2) rfl) lvn))⟩ (ih (i + 1) n (by omega) (by omega) hn σ1 g1 fk fp fn fm hF1 hG1 h287 h4 h10 h290 h291 h292 h293 hS hT (by
                rw [← hR]
                have q : l - i = (l - (i + 1)) + 1 := by omega
                rw [q, rn, if_pos hbl]))
            · skip
              refine wq_go rfl (fun _ => rfl) ?_
              refine wq_cN (m := 32) rfl rfl ?_
              refine wq_cne rfl (by first | omega | decide | exact Nat.lt_of_le_of_lt Nat.and_le_right (by decide) | exact ⟨by omega, by omega⟩) (by first | omega | decide | exact Nat.lt_of_le_of_lt Nat.and_le_right (by decide) | exact ⟨by omega, by omega⟩) (fun c36 => ?_) (fun c36 => ?_)
              · skip
                have hbl : isBl ((fun j => byN (b j)) i) = false := show isBl (byN (b i)) = false from decide_eq_false (by omega)
                have hpl : TPl (fun j => byN (b j)) l n = i := by
                  rw [← hR]
                  have q : l - i = (l - i - 1) + 1 := by omega
                  rw [q, rn, if_neg (by rw [hbl]; decide)]
                refine wq_go rfl (fun _ => rfl) ?_
                refine wq_callS rfl (Nat.le_of_ble_eq_true rfl) rfl (Nat.le_of_ble_eq_true rfl) (Nat.le_of_ble_eq_true rfl) rfl rfl ?_
                refine m_isLetter (byN_lt _) (fun eL => ?_) (fun eL => ?_)
                · skip
                  refine wq_zeq rfl (by first | omega | decide | exact Nat.lt_of_le_of_lt Nat.and_le_right (by decide) | exact ⟨by omega, by omega⟩) (fun c => absurd c (by omega)) (fun c41 => ?_)
                  refine wq_cN (m := 0) rfl rfl ?_
                  refine wq_go rfl (fun _ => rfl) ?_
                  refine wq_go rfl (fun _ => rfl) ?_
                  refine wq_go rfl (fun _ => rfl) ?_
                  have hbd := rn_bd isLt (fun j => byN (b j)) (l - i) i
                  refine wq_lv ⟨(by decide : ([4, 3, 2, 1, 0] : List Nat).Nodup), (lvm (List.mem_of_getElem? (i := 1) rfl) (lvm (List.mem_of_getElem? (i := 0) rfl) (lvm (List.mem_of_getElem? (i := 2) rfl) (lvm (List.mem_of_getElem? (i := 3) rfl) (lvm (List.mem_of_getElem? (i := 4) rfl) lvn)))))⟩ (m_cw_l (i := i) (E := rn isLt (fun j => byN (b j)) (l - i) i) ((hF1 289 rfl).trans h289) hb hl h287 h4 hil ?_ (l - i) 0 (by omega) rfl)
                  refine wq_go rfl (fun _ => rfl) ?_
                  refine wq_cN (m := 8) rfl rfl ?_
                  refine wq_cle rfl (by first | omega | decide | exact Nat.lt_of_le_of_lt Nat.and_le_right (by decide) | exact ⟨by omega, by omega⟩) (by first | omega | decide | exact Nat.lt_of_le_of_lt Nat.and_le_right (by decide) | exact ⟨by omega, by omega⟩) (fun c68 => ?_) (fun c68 => ?_)
                  · skip
                    refine wq_cN (m := 1) rfl rfl ?_
                    refine wq_go rfl (fun _ => rfl) ?_
                    refine wq_go rfl (fun _ => rfl) ?_
                    refine wq_cN (m := 8) rfl rfl ?_
                    refine wq_cgt rfl (by first | omega | decide | exact Nat.lt_of_le_of_lt Nat.and_le_right (by decide) | exact ⟨by omega, by omega⟩) (by first | omega | decide | exact Nat.lt_of_le_of_lt Nat.and_le_right (by decide) | exact ⟨by omega, by omega⟩) (fun c => absurd c (by omega)) (fun c75 => ?_)
                    refine wq_cN (m := 0) rfl rfl ?_
                    refine wq_go rfl (fun _ => rfl) ?_
                    refine wq_lv ⟨(by decide : ([7, 6, 3, 4, 2, 1, 0] : List Nat).Nodup), (lvm (List.mem_of_getElem? (i := 0) rfl) (lvm (List.mem_of_getElem? (i := 1) rfl) (lvm (List.mem_of_getElem? (i := 2) rfl) (lvm (List.mem_of_getElem? (i := 3) rfl) (lvm (List.mem_of_getElem? (i := 4) rfl) (lvm (List.mem_of_getElem? (i := 5) rfl) (lvm (List.mem_of_getElem? (i := 6) rfl) lvn)))))))⟩ (m_ck_l h287 ((hF1 294 rfl).trans h294) ?_ 23 0 rfl)
                    refine wq_go rfl (fun _ => rfl) ?_
                    refine wq_go rfl (fun _ => rfl) ?_
                    refine wq_go rfl (fun _ => rfl) ?_
                    refine wq_cN (m := 0) rfl rfl ?_
                    refine wq_go rfl (fun _ => rfl) ?_
                    refine wq_callV rfl rfl (by first | rfl | assumption) (by first | decide | omega | assumption) (Nat.le_of_ble_eq_true rfl) (Nat.le_of_ble_eq_true rfl) rfl rfl ?_
                    refine m_token h287 h10 (by omega) h290 h291 h292 h293 (fun σ2 F2 e0 e1 e2' e3 e4 => ?_)
                    refine wq_go rfl (fun _ => rfl) ?_
                    refine wq_go rfl (fun _ => rfl) ?_
                    refine wq_addN rfl ?_
                    refine wq_go rfl (fun _ => rfl) ?_
                    refine wq_go rfl (fun _ => rfl) ?_
                    refine wq_go rfl (fun _ => rfl) ?_
                    have eT : tEnd (fun j => byN (b j)) l i = rn isLt (fun j => byN (b j)) (l - i) i := by unfold tEnd; rw [if_neg (by omega), if_pos eL]
                    have eK : TK (fun j => byN (b j)) l n = (if 8 < rn isLt (fun j => byN (b j)) (l - i) i - i then 35 else kwF (nmF (fun j => byN (b j)) i (min 8 (rn isLt (fun j => byN (b j)) (l - i) i - i))) 23 0) := by unfold TK; rw [hpl]; unfold tKd; rw [if_neg (by omega), if_pos eL]
                    have hgt : i < rn isLt (fun j => byN (b j)) (l - i) i := by
                      have q : l - i = (l - i - 1) + 1 := by omega
                      rw [q, rn, if_pos eL]
                      have := rn_bd isLt (fun j => byN (b j)) (l - i - 1) (i + 1)
                      omega
                    have hkl := kw_le (nmF (fun j => byN (b j)) i (min 8 (rn isLt (fun j => byN (b j)) (l - i) i - i))) 23 0 (by decide)
                    have hne : ¬ TK (fun j => byN (b j)) l n = 34 := by rw [eK]; split <;> omega
                    have hTE : tp (fun j => byN (b j)) l (n + 1) = rn isLt (fun j => byN (b j)) (l - i) i := by
                      show tEnd (fun j => byN (b j)) l (TPl (fun j => byN (b j)) l n) = _
                      rw [hpl]
                      exact eT
                    have hT2 : ∀ j, j < n + 1 → ¬ TK (fun j => byN (b j)) l j = 34 := by
                      intro j hj
                      by_cases q : j = n
                      · subst q; omega
                      · exact hT j (by omega)
                    have hR2 : rn isBl (fun j => byN (b j)) (l - (rn isLt (fun j => byN (b j)) (l - i) i)) (rn isLt (fun j => byN (b j)) (l - i) i) = TPl (fun j => byN (b j)) l (n + 1) := by
                      show _ = tPl (fun j => byN (b j)) l (tp (fun j => byN (b j)) l (n + 1))
                      rw [hTE]
                      rfl
                    have htg : (rn isLt (fun j => byN (b j)) (l - i) i) ≤ l := by omega
                    rw [show i + (rn isLt (fun j => byN (b j)) (l - i) i - i) = rn isLt (fun j => byN (b j)) (l - i) i by omega]
                    exact wq_lv ⟨(by decide : ([1, 6, 3, 4, 2, 0] : List Nat).Nodup), (lvm (List.mem_of_getElem? (i := 0) rfl) (lvm (List.mem_of_getElem? (i := 5) rfl) lvn))⟩ (ih (rn isLt (fun j => byN (b j)) (l - i) i) (n + 1) (by omega) (by omega) (by omega) _ _ _ _ _ _ (fr_trans hF1 F2) (fg_up hG1 rfl) e0 h4 (by simp [upd]) e1 e2' e3 e4 (scm_s hS (by rw [eK]; first | (rw [if_pos (by omega)]; rfl) | (rw [if_neg (by omega)]; done) | (rw [if_neg (by omega)]; rfl)) (by rw [hpl]) (fun q => by rw [eK] at q; split at q <;> omega) (fun q => by unfold TNa; rw [hpl]; rfl)) hT2 hR2)
                  · skip
                    refine wq_cN (m := 3) rfl rfl ?_
                    refine wq_go rfl (fun _ => rfl) ?_
                    refine wq_go rfl (fun _ => rfl) ?_
                    refine wq_go rfl (fun _ => rfl) ?_
                    refine wq_cN (m := 8) rfl rfl ?_
                    refine wq_cgt rfl (by first | omega | decide | exact Nat.lt_of_le_of_lt Nat.and_le_right (by decide) | exact ⟨by omega, by omega⟩) (by first | omega | decide | exact Nat.lt_of_le_of_lt Nat.and_le_right (by decide) | exact ⟨by omega, by omega⟩) (fun c75 => ?_) (fun c => absurd (show _ from by omega) c)
                    refine wq_go rfl (fun _ => rfl) ?_
                    refine wq_go rfl (fun _ => rfl) ?_
                    refine wq_go rfl (fun _ => rfl) ?_
                    refine wq_cN (m := 0) rfl rfl ?_
                    refine wq_go rfl (fun _ => rfl) ?_
                    refine wq_callV rfl rfl (by first | rfl | assumption) (by first | decide | omega | assumption) (Nat.le_of_ble_eq_true rfl) (Nat.le_of_ble_eq_true rfl) rfl rfl ?_
                    refine m_token h287 h10 (by omega) h290 h291 h292 h293 (fun σ2 F2 e0 e1 e2' e3 e4 => ?_)
                    refine wq_go rfl (fun _ => rfl) ?_
                    refine wq_go rfl (fun _ => rfl) ?_
                    refine wq_addN rfl ?_
                    refine wq_go rfl (fun _ => rfl) ?_
                    refine wq_go rfl (fun _ => rfl) ?_
                    refine wq_go rfl (fun _ => rfl) ?_
                    have eT : tEnd (fun j => byN (b j)) l i = rn isLt (fun j => byN (b j)) (l - i) i := by unfold tEnd; rw [if_neg (by omega), if_pos eL]
                    have eK : TK (fun j => byN (b j)) l n = (if 8 < rn isLt (fun j => byN (b j)) (l - i) i - i then 35 else kwF (nmF (fun j => byN (b j)) i (min 8 (rn isLt (fun j => byN (b j)) (l - i) i - i))) 23 0) := by unfold TK; rw [hpl]; unfold tKd; rw [if_neg (by omega), if_pos eL]
                    have hgt : i < rn isLt (fun j => byN (b j)) (l - i) i := by
                      have q : l - i = (l - i - 1) + 1 := by omega
                      rw [q, rn, if_pos eL]
                      have := rn_bd isLt (fun j => byN (b j)) (l - i - 1) (i + 1)
                      omega
                    have hkl := kw_le (nmF (fun j => byN (b j)) i (min 8 (rn isLt (fun j => byN (b j)) (l - i) i - i))) 23 0 (by decide)
                    have hne : ¬ TK (fun j => byN (b j)) l n = 34 := by rw [eK]; split <;> omega
                    have hTE : tp (fun j => byN (b j)) l (n + 1) = rn isLt (fun j => byN (b j)) (l - i) i := by
                      show tEnd (fun j => byN (b j)) l (TPl (fun j => byN (b j)) l n) = _
                      rw [hpl]
                      exact eT
                    have hT2 : ∀ j, j < n + 1 → ¬ TK (fun j => byN (b j)) l j = 34 := by
                      intro j hj
                      by_cases q : j = n
                      · subst q; omega
                      · exact hT j (by omega)
                    have hR2 : rn isBl (fun j => byN (b j)) (l - (rn isLt (fun j => byN (b j)) (l - i) i)) (rn isLt (fun j => byN (b j)) (l - i) i) = TPl (fun j => byN (b j)) l (n + 1) := by
                      show _ = tPl (fun j => byN (b j)) l (tp (fun j => byN (b j)) l (n + 1))
                      rw [hTE]
                      rfl
                    have htg : (rn isLt (fun j => byN (b j)) (l - i) i) ≤ l := by omega
                    rw [show i + (rn isLt (fun j => byN (b j)) (l - i) i - i) = rn isLt (fun j => byN (b j)) (l - i) i by omega]
                    exact wq_lv ⟨(by decide : ([1, 6, 3, 4, 2, 0] : List Nat).Nodup), (lvm (List.mem_of_getElem? (i := 0) rfl) (lvm (List.mem_of_getElem? (i := 5) rfl) lvn))⟩ (ih (rn isLt (fun j => byN (b j)) (l - i) i) (n + 1) (by omega) (by omega) (by omega) _ _ _ _ _ _ (fr_trans hF1 F2) (fg_up hG1 rfl) e0 h4 (by simp [upd]) e1 e2' e3 e4 (scm_s hS (by rw [eK]; first | (rw [if_pos (by omega)]; rfl) | (rw [if_neg (by omega)]; done) | (rw [if_neg (by omega)]; rfl)) (by rw [hpl]) (fun q => by rw [eK] at q; split at q <;> omega) (fun q => by unfold TNa; rw [hpl]; rfl)) hT2 hR2)
                · skip
                  refine wq_zeq rfl (by first | omega | decide | exact Nat.lt_of_le_of_lt Nat.and_le_right (by decide) | exact ⟨by omega, by omega⟩) (fun c41 => ?_) (fun c => absurd (show _ from by omega) c)
                  refine wq_go rfl (fun _ => rfl) ?_
                  refine wq_callS rfl (Nat.le_of_ble_eq_true rfl) rfl (Nat.le_of_ble_eq_true rfl) (Nat.le_of_ble_eq_true rfl) rfl rfl ?_
                  refine m_isDigit (byN_lt _) (fun eD => ?_) (fun eD => ?_)
                  · skip
                    refine wq_zeq rfl (by first | omega | decide | exact Nat.lt_of_le_of_lt Nat.and_le_right (by decide) | exact ⟨by omega, by omega⟩) (fun c => absurd c (by omega)) (fun c107 => ?_)
                    refine wq_cN (m := 0) rfl rfl ?_
                    refine wq_go rfl (fun _ => rfl) ?_
                    refine wq_cN (m := 0) rfl rfl ?_
                    refine wq_go rfl (fun _ => rfl) ?_
                    have hbd := rn_bd isDg (fun j => byN (b j)) (l - i) i
                    refine wq_lv ⟨(by decide : ([4, 3, 2, 1, 0] : List Nat).Nodup), (lvm (List.mem_of_getElem? (i := 1) rfl) (lvm (List.mem_of_getElem? (i := 0) rfl) (lvm (List.mem_of_getElem? (i := 2) rfl) (lvm (List.mem_of_getElem? (i := 3) rfl) (lvm (List.mem_of_getElem? (i := 4) rfl) lvn)))))⟩ (m_cd_l (i := i) (E := rn isDg (fun j => byN (b j)) (l - i) i) ((hF1 289 rfl).trans h289) hb hl h287 h4 hil ?_ (l - i) 0 (by omega) rfl)
                    refine wq_go rfl (fun _ => rfl) ?_
                    refine wq_go rfl (fun _ => rfl) ?_
                    refine wq_cN (m := 4) rfl rfl ?_
                    refine wq_cle rfl (by first | omega | decide | exact Nat.lt_of_le_of_lt Nat.and_le_right (by decide) | exact ⟨by omega, by omega⟩) (by first | omega | decide | exact Nat.lt_of_le_of_lt Nat.and_le_right (by decide) | exact ⟨by omega, by omega⟩) (fun c139 => ?_) (fun c139 => ?_)
                    · skip
                      refine wq_cN (m := 2) rfl rfl ?_
                      refine wq_go rfl (fun _ => rfl) ?_
                      refine wq_go rfl (fun _ => rfl) ?_
                      refine wq_go rfl (fun _ => rfl) ?_
                      refine wq_callV rfl rfl (by first | rfl | assumption) (by first | decide | omega | assumption) (Nat.le_of_ble_eq_true rfl) (Nat.le_of_ble_eq_true rfl) rfl rfl ?_
                      refine m_token h287 h10 (by omega) h290 h291 h292 h293 (fun σ2 F2 e0 e1 e2' e3 e4 => ?_)
                      refine wq_go rfl (fun _ => rfl) ?_
                      refine wq_go rfl (fun _ => rfl) ?_
                      refine wq_addN rfl ?_
                      refine wq_go rfl (fun _ => rfl) ?_
                      refine wq_go rfl (fun _ => rfl) ?_
                      refine wq_go rfl (fun _ => rfl) ?_
                      have eT : tEnd (fun j => byN (b j)) l i = rn isDg (fun j => byN (b j)) (l - i) i := by unfold tEnd; rw [if_neg (by omega), if_neg (by rw [eL]; decide), if_pos eD]
                      have eK : TK (fun j => byN (b j)) l n = (if 4 < rn isDg (fun j => byN (b j)) (l - i) i - i then 35 else 24) := by unfold TK; rw [hpl]; unfold tKd; rw [if_neg (by omega), if_neg (by rw [eL]; decide), if_pos eD]
                      have hgt : i < rn isDg (fun j => byN (b j)) (l - i) i := by
                        have q : l - i = (l - i - 1) + 1 := by omega
                        rw [q, rn, if_pos eD]
                        have := rn_bd isDg (fun j => byN (b j)) (l - i - 1) (i + 1)
                        omega
                      have hne : ¬ TK (fun j => byN (b j)) l n = 34 := by rw [eK]; split <;> omega
                      have hTE : tp (fun j => byN (b j)) l (n + 1) = rn isDg (fun j => byN (b j)) (l - i) i := by
                        show tEnd (fun j => byN (b j)) l (TPl (fun j => byN (b j)) l n) = _
                        rw [hpl]
                        exact eT
                      have hT2 : ∀ j, j < n + 1 → ¬ TK (fun j => byN (b j)) l j = 34 := by
                        intro j hj
                        by_cases q : j = n
                        · subst q; omega
                        · exact hT j (by omega)
                      have hR2 : rn isBl (fun j => byN (b j)) (l - (rn isDg (fun j => byN (b j)) (l - i) i)) (rn isDg (fun j => byN (b j)) (l - i) i) = TPl (fun j => byN (b j)) l (n + 1) := by
                        show _ = tPl (fun j => byN (b j)) l (tp (fun j => byN (b j)) l (n + 1))
                        rw [hTE]
                        rfl
                      have htg : (rn isDg (fun j => byN (b j)) (l - i) i) ≤ l := by omega
                      rw [show i + (rn isDg (fun j => byN (b j)) (l - i) i - i) = rn isDg (fun j => byN (b j)) (l - i) i by omega]
                      exact wq_lv ⟨(by decide : ([1, 3, 4, 2, 0] : List Nat).Nodup), (lvm (List.mem_of_getElem? (i := 0) rfl) (lvm (List.mem_of_getElem? (i := 4) rfl) lvn))⟩ (ih (rn isDg (fun j => byN (b j)) (l - i) i) (n + 1) (by omega) (by omega) (by omega) _ _ _ _ _ _ (fr_trans hF1 F2) (fg_up hG1 rfl) e0 h4 (by simp [upd]) e1 e2' e3 e4 (scm_s hS (by rw [eK]; first | (rw [if_pos (by omega)]; rfl) | (rw [if_neg (by omega)]; done) | (rw [if_neg (by omega)]; rfl)) (by rw [hpl]) (fun q => by unfold TNu; rw [hpl]; rfl) (fun q => by rw [eK] at q; split at q <;> omega)) hT2 hR2)
                    · skip
                      refine wq_cN (m := 3) rfl rfl ?_
                      refine wq_go rfl (fun _ => rfl) ?_
                      refine wq_go rfl (fun _ => rfl) ?_
                      refine wq_go rfl (fun _ => rfl) ?_
                      refine wq_go rfl (fun _ => rfl) ?_
                      refine wq_callV rfl rfl (by first | rfl | assumption) (by first | decide | omega | assumption) (Nat.le_of_ble_eq_true rfl) (Nat.le_of_ble_eq_true rfl) rfl rfl ?_
                      refine m_token h287 h10 (by omega) h290 h291 h292 h293 (fun σ2 F2 e0 e1 e2' e3 e4 => ?_)
                      refine wq_go rfl (fun _ => rfl) ?_
                      refine wq_go rfl (fun _ => rfl) ?_
                      refine wq_addN rfl ?_
                      refine wq_go rfl (fun _ => rfl) ?_
                      refine wq_go rfl (fun _ => rfl) ?_
                      refine wq_go rfl (fun _ => rfl) ?_
                      have eT : tEnd (fun j => byN (b j)) l i = rn isDg (fun j => byN (b j)) (l - i) i := by unfold tEnd; rw [if_neg (by omega), if_neg (by rw [eL]; decide), if_pos eD]
                      have eK : TK (fun j => byN (b j)) l n = (if 4 < rn isDg (fun j => byN (b j)) (l - i) i - i then 35 else 24) := by unfold TK; rw [hpl]; unfold tKd; rw [if_neg (by omega), if_neg (by rw [eL]; decide), if_pos eD]
                      have hgt : i < rn isDg (fun j => byN (b j)) (l - i) i := by
                        have q : l - i = (l - i - 1) + 1 := by omega
                        rw [q, rn, if_pos eD]
                        have := rn_bd isDg (fun j => byN (b j)) (l - i - 1) (i + 1)
                        omega
                      have hne : ¬ TK (fun j => byN (b j)) l n = 34 := by rw [eK]; split <;> omega
                      have hTE : tp (fun j => byN (b j)) l (n + 1) = rn isDg (fun j => byN (b j)) (l - i) i := by
                        show tEnd (fun j => byN (b j)) l (TPl (fun j => byN (b j)) l n) = _
                        rw [hpl]
                        exact eT
                      have hT2 : ∀ j, j < n + 1 → ¬ TK (fun j => byN (b j)) l j = 34 := by
                        intro j hj
                        by_cases q : j = n
                        · subst q; omega
                        · exact hT j (by omega)
                      have hR2 : rn isBl (fun j => byN (b j)) (l - (rn isDg (fun j => byN (b j)) (l - i) i)) (rn isDg (fun j => byN (b j)) (l - i) i) = TPl (fun j => byN (b j)) l (n + 1) := by
                        show _ = tPl (fun j => byN (b j)) l (tp (fun j => byN (b j)) l (n + 1))
                        rw [hTE]
                        rfl
                      have htg : (rn isDg (fun j => byN (b j)) (l - i) i) ≤ l := by omega
                      rw [show i + (rn isDg (fun j => byN (b j)) (l - i) i - i) = rn isDg (fun j => byN (b j)) (l - i) i by omega]
                      exact wq_lv ⟨(by decide : ([1, 3, 4, 2, 0] : List Nat).Nodup), (lvm (List.mem_of_getElem? (i := 0) rfl) (lvm (List.mem_of_getElem? (i := 4) rfl) lvn))⟩ (ih (rn isDg (fun j => byN (b j)) (l - i) i) (n + 1) (by omega) (by omega) (by omega) _ _ _ _ _ _ (fr_trans hF1 F2) (fg_up hG1 rfl) e0 h4 (by simp [upd]) e1 e2' e3 e4 (scm_s hS (by rw [eK]; first | (rw [if_pos (by omega)]; rfl) | (rw [if_neg (by omega)]; done) | (rw [if_neg (by omega)]; rfl)) (by rw [hpl]) (fun q => by unfold TNu; rw [hpl]; rfl) (fun q => by rw [eK] at q; split at q <;> omega)) hT2 hR2)
                  · skip
                    refine wq_zeq rfl (by first | omega | decide | exact Nat.lt_of_le_of_lt Nat.and_le_right (by decide) | exact ⟨by omega, by omega⟩) (fun c107 => ?_) (fun c => absurd (show _ from by omega) c)
                    refine wq_go rfl (fun _ => rfl) ?_
                    refine wq_go rfl (fun _ => rfl) ?_
                    refine wq_go rfl (fun _ => rfl) ?_
                    refine wq_go rfl (fun _ => rfl) ?_
                    refine wq_go rfl (fun _ => rfl) ?_
                    refine wq_go rfl (fun _ => rfl) ?_
                    refine wq_cN (m := 1) rfl rfl ?_
                    refine wq_addN rfl ?_
                    refine wq_callV rfl rfl (by first | rfl | assumption) (by first | decide | omega | assumption) (Nat.le_of_ble_eq_true rfl) (Nat.le_of_ble_eq_true rfl) rfl rfl ?_
                    rcases Nat.lt_or_ge (i + 1) l with hq | hq
                    · refine m_byteAt1 ((hF1 289 rfl).trans h289) hb hl h287 h4 (i := i + 1) hq ?_
                      refine wq_callV rfl rfl (by first | rfl | assumption) (by first | decide | omega | assumption) (Nat.le_of_ble_eq_true rfl) (Nat.le_of_ble_eq_true rfl) rfl rfl ?_
                      refine m_sign h287 h10 (by omega) h290 h291 h292 h293 (byN_lt _) (fun σ2 F2 e0 e1 e2' e3 e4 => ?_)
                      refine wq_addN rfl ?_
                      refine wq_go rfl (fun _ => rfl) ?_
                      refine wq_go rfl (fun _ => rfl) ?_
                      have eT : tEnd (fun j => byN (b j)) l i = i + 1 := by unfold tEnd; rw [if_neg (by omega), if_neg (by rw [eL]; decide), if_neg (by rw [eD]; decide)]
                      have eK : TK (fun j => byN (b j)) l n = sgK (byN (b i)) := by unfold TK; rw [hpl]; unfold tKd; rw [if_neg (by omega), if_neg (by rw [eL]; decide), if_neg (by rw [eD]; decide)]
                      have hgt : i < i + 1 := by omega
                      have hsk := sg_ge (byN (b i))
                      have hne : ¬ TK (fun j => byN (b j)) l n = 34 := by
                        rw [eK]
                        unfold sgK
                        repeat' split
                        all_goals omega
                      have hTE : tp (fun j => byN (b j)) l (n + 1) = i + 1 := by
                        show tEnd (fun j => byN (b j)) l (TPl (fun j => byN (b j)) l n) = _
                        rw [hpl]
                        exact eT
                      have hT2 : ∀ j, j < n + 1 → ¬ TK (fun j => byN (b j)) l j = 34 := by
                        intro j hj
                        by_cases q : j = n
                        · subst q; omega
                        · exact hT j (by omega)
                      have hR2 : rn isBl (fun j => byN (b j)) (l - (i + 1)) (i + 1) = TPl (fun j => byN (b j)) l (n + 1) := by
                        show _ = tPl (fun j => byN (b j)) l (tp (fun j => byN (b j)) l (n + 1))
                        rw [hTE]
                        rfl
                      have htg : (i + 1) ≤ l := by omega
                      exact wq_lv ⟨(by decide : ([1, 2, 0] : List Nat).Nodup), (lvm (List.mem_of_getElem? (i := 0) rfl) (lvm (List.mem_of_getElem? (i := 2) rfl) lvn))⟩ (ih (i + 1) (n + 1) (by omega) (by omega) (by omega) _ _ _ _ _ _ (fr_trans hF1 F2) (fg_up hG1 rfl) e0 h4 (by simp [upd]) e1 e2' e3 e4 (scm_s hS (by rw [eK]) (by rw [hpl]) (fun q => by omega) (fun q => by omega)) hT2 hR2)
                    · refine m_byteAt0 ((hF1 289 rfl).trans h289) hb hl h287 h4 (i := i + 1) hq (by omega) ?_
                      refine wq_callV rfl rfl (by first | rfl | assumption) (by first | decide | omega | assumption) (Nat.le_of_ble_eq_true rfl) (Nat.le_of_ble_eq_true rfl) rfl rfl ?_
                      refine m_sign h287 h10 (by omega) h290 h291 h292 h293 (byN_lt _) (fun σ2 F2 e0 e1 e2' e3 e4 => ?_)
                      refine wq_addN rfl ?_
                      refine wq_go rfl (fun _ => rfl) ?_
                      refine wq_go rfl (fun _ => rfl) ?_
                      have eT : tEnd (fun j => byN (b j)) l i = i + 1 := by unfold tEnd; rw [if_neg (by omega), if_neg (by rw [eL]; decide), if_neg (by rw [eD]; decide)]
                      have eK : TK (fun j => byN (b j)) l n = sgK (byN (b i)) := by unfold TK; rw [hpl]; unfold tKd; rw [if_neg (by omega), if_neg (by rw [eL]; decide), if_neg (by rw [eD]; decide)]
                      have hgt : i < i + 1 := by omega
                      have hsk := sg_ge (byN (b i))
                      have hne : ¬ TK (fun j => byN (b j)) l n = 34 := by
                        rw [eK]
                        unfold sgK
                        repeat' split
                        all_goals omega
                      have hTE : tp (fun j => byN (b j)) l (n + 1) = i + 1 := by
                        show tEnd (fun j => byN (b j)) l (TPl (fun j => byN (b j)) l n) = _
                        rw [hpl]
                        exact eT
                      have hT2 : ∀ j, j < n + 1 → ¬ TK (fun j => byN (b j)) l j = 34 := by
                        intro j hj
                        by_cases q : j = n
                        · subst q; omega
                        · exact hT j (by omega)
                      have hR2 : rn isBl (fun j => byN (b j)) (l - (i + 1)) (i + 1) = TPl (fun j => byN (b j)) l (n + 1) := by
                        show _ = tPl (fun j => byN (b j)) l (tp (fun j => byN (b j)) l (n + 1))
                        rw [hTE]
                        rfl
                      have htg : (i + 1) ≤ l := by omega
                      exact wq_lv ⟨(by decide : ([1, 2, 0] : List Nat).Nodup), (lvm (List.mem_of_getElem? (i := 0) rfl) (lvm (List.mem_of_getElem? (i := 2) rfl) lvn))⟩ (ih (i + 1) (n + 1) (by omega) (by omega) (by omega) _ _ _ _ _ _ (fr_trans hF1 F2) (fg_up hG1 rfl) e0 h4 (by simp [upd]) e1 e2' e3 e4 (scm_s hS (by rw [eK]) (by rw [hpl]) (fun q => by omega) (fun q => by omega)) hT2 hR2)
              · skip
                have hbl : isBl ((fun j => byN (b j)) i) = true := show isBl (byN (b i)) = true from decide_eq_true (by omega)
                refine wq_incN rfl rfl rfl ?_
                refine wq_go rfl (fun _ => rfl) ?_
                refine wq_go rfl (fun _ => rfl) ?_
                exact wq_lv ⟨(by decide : ([1, 2, 0] : List Nat).Nodup), (lvm (List.mem_of_getElem? (i := 0) rfl) (lvm (List.mem_of_getElem? (i := 2) rfl) lvn))⟩ (ih (i + 1) n (by omega) (by omega) hn σ1 g1 fk fp fn fm hF1 hG1 h287 h4 h10 h290 h291 h292 h293 hS hT (by
                  rw [← hR]
                  have q : l - i = (l - (i + 1)) + 1 := by omega
                  rw [q, rn, if_pos hbl]))
theorem m_cut {xs : List Int32} {d : Nat} {σ : Nat → List Value} {Q : Option Value → (Nat → List Value) → Prop} {b ft : Nat → Int32} {l : Nat} (h289 : σ 289 = arr 2000 ft) (hb : ∀ j, j < l → ft j = b j) (hl : l ≤ 2000) {g fk fp fn : Nat → Int32} {fm : Nat → Int64} (h287 : σ 287 = mo g) (h4 : g 4 = nI l) (h294 : σ 294 = arrL 23 kwL) (h290 : σ 290 = arr 403 fk) (h291 : σ 291 = arr 403 fp) (h292 : σ 292 = arr 403 fn) (h293 : σ 293 = arrL 403 fm)  (K : ∀ σ' g' n fk fp fn fm, Fr xMt σ σ' → FrG y10 g g' → σ' 287 = mo g' → σ' 290 = arr 403 fk → σ' 291 = arr 403 fp → σ' 292 = arr 403 fn → σ' 293 = arrL 403 fm → Scm (fun j => byN (b j)) l n fk fp fn fm → 1 ≤ n → n ≤ 401 → (∀ j, j + 1 < n → ¬ TK (fun j => byN (b j)) l j = 34) → (n = 401 ∨ TK (fun j => byN (b j)) l (n - 1) = 34) → Q none σ') : Wq xs (d + 2) ax_cd226 0 [(0, .ref 287)] [] σ Q := by
  refine wq_go rfl (fun _ => rfl) ?_
  refine wq_cN (m := 0) rfl rfl ?_
  refine wq_mput rfl h287 rfl rfl rfl rfl ?_
  refine wq_cN (m := 0) rfl rfl ?_
  refine wq_go rfl (fun _ => rfl) ?_
  exact wq_lv ⟨(by decide : ([1, 0] : List Nat).Nodup), (lvm (List.mem_of_getElem? (i := 0) rfl) (lvm (List.mem_of_getElem? (i := 1) rfl) lvn))⟩ (m_cut_l (g := upd g 10 (nI 0)) ((up_ne _ _ (by decide)).trans h289) hb hl ((up_ne _ _ (by decide)).trans h294) (fun σ2 g2 n gk gp gn gm F2 G2 e0 e1 e2 e3 e4 eS i1 i2 i3 i4 => K σ2 g2 n gk gp gn gm (fr_trans (fr_up (fr_refl xMt σ) rfl) F2) (fg_trans (fg_up (fg_refl y10 g) rfl) G2) e0 e1 e2 e3 e4 eS i1 i2 i3 i4) l 0 0 (by omega) (by omega) (by omega) _ _ fk fp fn fm (fr_refl _ _) (fg_refl _ _) (up_same _ _ _) h4 (by simp [upd]) ((up_ne _ _ (by decide)).trans h290) ((up_ne _ _ (by decide)).trans h291) ((up_ne _ _ (by decide)).trans h292) ((up_ne _ _ (by decide)).trans h293) ⟨fun j hj => absurd hj (by omega), fun j hj => absurd hj (by omega), fun j hj => absurd hj (by omega), fun j hj => absurd hj (by omega)⟩ (fun j hj => absurd hj (by omega)) rfl)
