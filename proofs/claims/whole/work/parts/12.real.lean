/-! THE REAL MACHINE'S SIDE: what a world of the abstract machine is in the heap -/
def ax_v (h0 : Nat) (rv : Nat → Value) : Value → Value
  | .ref k => .ref (h0 + k)
  | .retAddr j => rv j
  | v => v
def ax_i (vs : List Value) (j : Nat) : Int32 := match vs[j]? with
  | some (.int x) => x
  | _ => 0
def ax_j (vs : List Value) (j : Nat) : Int64 := match vs[j]? with
  | some (.long x) => x
  | _ => 0
def ax_o (h0 : Nat) (vs : List Value) (j : Nat) : Option Nat := match vs[j]? with
  | some (.ref k) => some (h0 + k)
  | _ => none
def ax_a (h0 : Nat) (ty : FieldType) (vs : List Value) : vp_A := (vs.length, match ty with
  | .long => .inr (.inl (ax_j vs))
  | .object _ => .inr (.inr (.inr (.inr (ax_o h0 vs))))
  | _ => .inl (ax_i vs))
def ax_e (cA : FieldType → ClassId) (h0 : Nat) (rv : Nat → Value) (c : ax_C) : va_E := match c.1 with
  | .inl ty => .inl (cA ty, ax_a h0 ty c.2)
  | .inr ci => .inr (ci, c.2.map (ax_v h0 rv))
def ax_w (cA : FieldType → ClassId) (h0 : Nat) (rv : Nat → Value) (w : ax_W) : va_W := w.mapIdx (fun k c => (h0 + k, ax_e cA h0 rv c))
def ax_lv (h0 : Nat) (rv : Nat → Value) (lv : ax_L) : ax_L := lv.map (fun q => (q.1, ax_v h0 rv q.2))
theorem ax_w_len (cA : FieldType → ClassId) (h0 : Nat) (rv : Nat → Value) (w : ax_W) : (ax_w cA h0 rv w).length = w.length := by
  simp [ax_w]
theorem ax_w_get {cA : FieldType → ClassId} {h0 : Nat} {rv : Nat → Value} {w : ax_W} {k : Nat} {c : ax_C} (h : w[k]? = some c) : (ax_w cA h0 rv w)[k]? = some (h0 + k, ax_e cA h0 rv c) := by
  simp [ax_w, List.getElem?_mapIdx, h]
theorem ax_w_inv {cA : FieldType → ClassId} {h0 : Nat} {rv : Nat → Value} {w : ax_W} {k : Nat} {q : Nat × va_E} (h : (ax_w cA h0 rv w)[k]? = some q) : ∃ c, w[k]? = some c ∧ q = (h0 + k, ax_e cA h0 rv c) := by
  simp only [ax_w, List.getElem?_mapIdx, Option.map_eq_some_iff] at h
  obtain ⟨c, h1, h2⟩ := h
  exact ⟨c, h1, h2.symm⟩
theorem ax_w_set (cA : FieldType → ClassId) (h0 : Nat) (rv : Nat → Value) (w : ax_W) (k : Nat) (c : ax_C) : ax_w cA h0 rv (w.set k c) = (ax_w cA h0 rv w).set k (h0 + k, ax_e cA h0 rv c) := by
  apply List.ext_getElem?
  intro j
  by_cases hj : k = j
  · subst hj
    by_cases hl : k < w.length
    · simp [ax_w, List.getElem?_mapIdx, List.getElem?_set, hl]
    · simp [ax_w, List.getElem?_mapIdx, List.getElem?_set, hl]
  · simp [ax_w, List.getElem?_mapIdx, List.getElem?_set, hj]
theorem ax_w_push (cA : FieldType → ClassId) (h0 : Nat) (rv : Nat → Value) (w : ax_W) (c : ax_C) : ax_w cA h0 rv (w ++ [c]) = ax_w cA h0 rv w ++ [(h0 + w.length, ax_e cA h0 rv c)] := by
  simp [ax_w, List.mapIdx_concat]
theorem ax_v_cat (h0 : Nat) (rv : Nat → Value) (hrv : ∀ j, (rv j).category = 1) (v : Value) : (ax_v h0 rv v).category = v.category := by
  cases v <;> simp [ax_v, Value.category]
  exact hrv _
theorem ax_st1_v (h0 : Nat) (rv : Nat → Value) (hrv : ∀ j, (rv j).category = 1) (lv : ax_L) (i : Nat) (v : Value) : (i, ax_v h0 rv v) :: (ax_lv h0 rv lv).filter (fun q => !(q.1 == i) && !(q.1 + 1 == i && q.2.category == 2)) = ax_lv h0 rv (ax_st1 lv i v) := by
  simp only [ax_lv, ax_st1, List.map_cons, List.filter_map]
  congr 2
  apply List.filter_congr
  intro q _
  simp [ax_v_cat h0 rv hrv]
theorem ax_st2_v (h0 : Nat) (rv : Nat → Value) (hrv : ∀ j, (rv j).category = 1) (lv : ax_L) (i : Nat) (v : Value) : (i, ax_v h0 rv v) :: (ax_lv h0 rv lv).filter (fun q => !(q.1 == i) && (!(q.1 == i + 1) && !(q.1 + 1 == i && q.2.category == 2))) = ax_lv h0 rv (ax_st2 lv i v) := by
  simp only [ax_lv, ax_st2, List.map_cons, List.filter_map]
  congr 2
  apply List.filter_congr
  intro q _
  simp [ax_v_cat h0 rv hrv]
theorem ax_look {lv : ax_L} {i : Nat} {v : Value} (h : lv.lookup i = some v) : ∃ k : Nat, lv[k]? = some (i, v) := by
  induction lv with
  | nil => simp at h
  | cons q t ih =>
    obtain ⟨j, u⟩ := q
    rw [List.lookup_cons] at h
    by_cases hj : i == j
    · rw [hj] at h
      have := eq_of_beq hj
      subst this
      simp at h
      subst h
      exact ⟨0, rfl⟩
    · have hj' : (i == j) = false := by simpa using hj
      rw [hj'] at h
      obtain ⟨k, hk⟩ := ih h
      exact ⟨k + 1, hk⟩
theorem ax_lv_get (h0 : Nat) (rv : Nat → Value) {lv : ax_L} {i : Nat} {v : Value} (h : lv.lookup i = some v) : ∃ k : Nat, (ax_lv h0 rv lv)[k]? = some (i, ax_v h0 rv v) := by
  obtain ⟨k, hk⟩ := ax_look h
  exact ⟨k, by simp [ax_lv, hk]⟩
theorem ax_lv_args (h0 : Nat) (rv : Nat → Value) (hrv : ∀ j, (rv j).category = 1) (vs : List Value) : ∀ i, lv_args i (vs.map (ax_v h0 rv)) = ax_lv h0 rv (lv_args i vs) := by
  induction vs with
  | nil => intro i; rfl
  | cons v t ih =>
    intro i
    simp only [List.map_cons, lv_args, ax_lv, ax_v_cat h0 rv hrv]
    rw [ih]
    rfl
theorem ax_ws_v (h0 : Nat) (rv : Nat → Value) (hrv : ∀ j, (rv j).category = 1) (st : List Value) : ((st.map (ax_v h0 rv)).map fun v => v.category).sum = ax_ws st := by
  simp only [ax_ws, List.map_map]
  congr 1
  apply List.map_congr_left
  intro v _
  exact ax_v_cat h0 rv hrv v
theorem ax_i_set {vs : List Value} {j : Nat} (x : Int32) (hj : j < vs.length) : ax_i (vs.set j (.int x)) = upd (ax_i vs) j x := by
  funext k
  by_cases h : k = j
  · subst h
    simp [ax_i, upd, hj]
  · have h' : ¬ j = k := fun e => h e.symm
    simp [ax_i, upd, List.getElem?_set, h, h']
theorem ax_j_set {vs : List Value} {j : Nat} (x : Int64) (hj : j < vs.length) : ax_j (vs.set j (.long x)) = vp_updL (ax_j vs) j x := by
  funext k
  by_cases h : k = j
  · subst h
    simp [ax_j, vp_updL, hj]
  · have h' : ¬ j = k := fun e => h e.symm
    simp [ax_j, vp_updL, List.getElem?_set, h, h']
theorem ax_o_set (h0 : Nat) {vs : List Value} {j : Nat} (x : Nat) (hj : j < vs.length) : ax_o h0 (vs.set j (.ref x)) = va_up (ax_o h0 vs) j (some (h0 + x)) := by
  funext k
  by_cases h : k = j
  · subst h
    simp [ax_o, va_up, hj]
  · have h' : ¬ j = k := fun e => h e.symm
    simp [ax_o, va_up, List.getElem?_set, h, h']
theorem ax_sl_set {w : ax_W} {k : Nat} {c c' : ax_C} (h : w[k]? = some c) (hl : c'.2.length = c.2.length) : ax_sl (w.set k c') = ax_sl w := by
  simp only [ax_sl]
  congr 1
  apply List.ext_getElem?
  intro j
  by_cases hj : k = j
  · subst hj
    obtain ⟨hk, he⟩ := List.getElem?_eq_some_iff.mp h
    simp [List.getElem?_set, hk, he, hl]
  · simp [List.getElem?_set, hj]
theorem ax_sl_push (w : ax_W) (c : ax_C) : ax_sl (w ++ [c]) = ax_sl w + c.2.length := by
  simp [ax_sl]
