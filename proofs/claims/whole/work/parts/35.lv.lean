/-! MORE LOCALS DO NO HARM -/
def ax_Lr (lv0 lv : ax_L) : Prop := (lv.map (fun q => q.1)).Nodup ∧ ∀ q ∈ lv0, q ∈ lv
def ax_rl (lv : ax_L) : ax_R → ax_R
  | .inl q => .inl (q.1, lv, q.2.2.1, q.2.2.2)
  | .inr y => .inr y
theorem ax_look_mem {lv : ax_L} {i : Nat} {v : Value} (h : lv.lookup i = some v) : (i, v) ∈ lv := by
  obtain ⟨k, hk⟩ := ax_look h
  exact List.mem_of_getElem? hk
theorem ax_mem_look {lv : ax_L} {i : Nat} {v : Value} (hn : (lv.map (fun q => q.1)).Nodup) (h : (i, v) ∈ lv) : lv.lookup i = some v := by
  induction lv with
  | nil => cases h
  | cons q t ih =>
    obtain ⟨j, u⟩ := q
    rw [List.lookup_cons]
    simp only [List.map_cons, List.nodup_cons] at hn
    rcases List.mem_cons.mp h with h9 | h9
    · cases h9
      simp
    · have : (i == j) = false := by
        simp only [beq_eq_false_iff_ne, ne_eq]
        intro e
        subst e
        exact hn.1 (List.mem_map.mpr ⟨(i, v), h9, rfl⟩)
      rw [this]
      exact ih hn.2 h9
theorem ax_Lr_look {lv0 lv : ax_L} (hR : ax_Lr lv0 lv) {i : Nat} {v : Value} (h : lv0.lookup i = some v) : lv.lookup i = some v := ax_mem_look hR.1 (hR.2 _ (ax_look_mem h))
theorem ax_Lr_st {lv0 lv : ax_L} (hR : ax_Lr lv0 lv) (i : Nat) (v : Value) (p : Nat × Value → Bool) (hp : ∀ q, q.1 = i → p q = false) : ax_Lr ((i, v) :: lv0.filter p) ((i, v) :: lv.filter p) := by
  refine ⟨?_, ?_⟩
  · simp only [List.map_cons, List.nodup_cons]
    refine ⟨?_, ?_⟩
    · intro h
      obtain ⟨q, hq, e⟩ := List.mem_map.mp h
      have := (List.mem_filter.mp hq).2
      rw [hp q e] at this
      cases this
    · exact hR.1.sublist ((List.filter_sublist (p := p)).map _)
  · intro q hq
    rcases List.mem_cons.mp hq with h | h
    · rw [h]; exact List.mem_cons_self
    · obtain ⟨h1, h2⟩ := List.mem_filter.mp h
      exact List.mem_cons_of_mem _ (List.mem_filter.mpr ⟨hR.2 _ h1, h2⟩)
theorem ax_Lr_st1 {lv0 lv : ax_L} (hR : ax_Lr lv0 lv) (i : Nat) (v : Value) : ax_Lr (ax_st1 lv0 i v) (ax_st1 lv i v) := ax_Lr_st hR i v _ (fun q h => by simp [h])
theorem ax_Lr_st2 {lv0 lv : ax_L} (hR : ax_Lr lv0 lv) (i : Nat) (v : Value) : ax_Lr (ax_st2 lv0 i v) (ax_st2 lv i v) := ax_Lr_st hR i v _ (fun q h => by simp [h])
theorem ax_fl0' (ro : ax_W) (ct : ax_T) (a b : Nat) (v : Value) (t : List (Int × Nat)) (i : Nat) (lv : ax_L) (st : List Value) (w : ax_W) : ax_s0 ro ct a b v t i lv st w = (ax_s0 ro ct a b v t i [] st w).map (ax_rl lv) := by
  unfold ax_s0
  repeat' (first | rfl | split)
  all_goals simp_all [ax_rl]
theorem ax_fl1' (ro : ax_W) (ct : ax_T) (a b : Nat) (v : Value) (t : List (Int × Nat)) (i : Nat) (lv : ax_L) (st : List Value) (w : ax_W) : ax_s1 ro ct a b v t i lv st w = (ax_s1 ro ct a b v t i [] st w).map (ax_rl lv) := by
  unfold ax_s1
  repeat' (first | rfl | split)
  all_goals simp_all [ax_rl]
theorem ax_fl9' (ro : ax_W) (ct : ax_T) (a b : Nat) (v : Value) (t : List (Int × Nat)) (i : Nat) (lv : ax_L) (st : List Value) (w : ax_W) : ax_s9 ro ct a b v t i lv st w = (ax_s9 ro ct a b v t i [] st w).map (ax_rl lv) := by
  unfold ax_s9
  repeat' (first | rfl | split)
  all_goals simp_all [ax_rl]
theorem ax_fl10' (ro : ax_W) (ct : ax_T) (a b : Nat) (v : Value) (t : List (Int × Nat)) (i : Nat) (lv : ax_L) (st : List Value) (w : ax_W) : ax_s10 ro ct a b v t i lv st w = (ax_s10 ro ct a b v t i [] st w).map (ax_rl lv) := by
  unfold ax_s10
  repeat' (first | rfl | split)
  all_goals simp_all [ax_rl]
theorem ax_fl11' (ro : ax_W) (ct : ax_T) (a b : Nat) (v : Value) (t : List (Int × Nat)) (i : Nat) (lv : ax_L) (st : List Value) (w : ax_W) : ax_s11 ro ct a b v t i lv st w = (ax_s11 ro ct a b v t i [] st w).map (ax_rl lv) := by
  unfold ax_s11
  repeat' (first | rfl | split)
  all_goals simp_all [ax_rl]
theorem ax_fl12' (ro : ax_W) (ct : ax_T) (a b : Nat) (v : Value) (t : List (Int × Nat)) (i : Nat) (lv : ax_L) (st : List Value) (w : ax_W) : ax_s12 ro ct a b v t i lv st w = (ax_s12 ro ct a b v t i [] st w).map (ax_rl lv) := by
  unfold ax_s12
  repeat' (first | rfl | split)
  all_goals simp_all [ax_rl]
theorem ax_fl13' (ro : ax_W) (ct : ax_T) (a b : Nat) (v : Value) (t : List (Int × Nat)) (i : Nat) (lv : ax_L) (st : List Value) (w : ax_W) : ax_s13 ro ct a b v t i lv st w = (ax_s13 ro ct a b v t i [] st w).map (ax_rl lv) := by
  unfold ax_s13
  repeat' (first | rfl | split)
  all_goals simp_all [ax_rl]
theorem ax_fl14' (ro : ax_W) (ct : ax_T) (a b : Nat) (v : Value) (t : List (Int × Nat)) (i : Nat) (lv : ax_L) (st : List Value) (w : ax_W) : ax_s14 ro ct a b v t i lv st w = (ax_s14 ro ct a b v t i [] st w).map (ax_rl lv) := by
  unfold ax_s14
  repeat' (first | rfl | split)
  all_goals simp_all [ax_rl]
theorem ax_fl15' (ro : ax_W) (ct : ax_T) (a b : Nat) (v : Value) (t : List (Int × Nat)) (i : Nat) (lv : ax_L) (st : List Value) (w : ax_W) : ax_s15 ro ct a b v t i lv st w = (ax_s15 ro ct a b v t i [] st w).map (ax_rl lv) := by
  unfold ax_s15
  repeat' (first | rfl | split)
  all_goals simp_all [ax_rl]
theorem ax_fl16' (ro : ax_W) (ct : ax_T) (a b : Nat) (v : Value) (t : List (Int × Nat)) (i : Nat) (lv : ax_L) (st : List Value) (w : ax_W) : ax_s16 ro ct a b v t i lv st w = (ax_s16 ro ct a b v t i [] st w).map (ax_rl lv) := by
  unfold ax_s16
  repeat' (first | rfl | split)
  all_goals simp_all [ax_rl]
theorem ax_fl17' (ro : ax_W) (ct : ax_T) (a b : Nat) (v : Value) (t : List (Int × Nat)) (i : Nat) (lv : ax_L) (st : List Value) (w : ax_W) : ax_s17 ro ct a b v t i lv st w = (ax_s17 ro ct a b v t i [] st w).map (ax_rl lv) := by
  unfold ax_s17
  repeat' (first | rfl | split)
  all_goals simp_all [ax_rl]
theorem ax_fl18' (ro : ax_W) (ct : ax_T) (a b : Nat) (v : Value) (t : List (Int × Nat)) (i : Nat) (lv : ax_L) (st : List Value) (w : ax_W) : ax_s18 ro ct a b v t i lv st w = (ax_s18 ro ct a b v t i [] st w).map (ax_rl lv) := by
  unfold ax_s18
  repeat' (first | rfl | split)
  all_goals simp_all [ax_rl]
theorem ax_fl19' (ro : ax_W) (ct : ax_T) (a b : Nat) (v : Value) (t : List (Int × Nat)) (i : Nat) (lv : ax_L) (st : List Value) (w : ax_W) : ax_s19 ro ct a b v t i lv st w = (ax_s19 ro ct a b v t i [] st w).map (ax_rl lv) := by
  unfold ax_s19
  repeat' (first | rfl | split)
  all_goals simp_all [ax_rl]
theorem ax_fl20' (ro : ax_W) (ct : ax_T) (a b : Nat) (v : Value) (t : List (Int × Nat)) (i : Nat) (lv : ax_L) (st : List Value) (w : ax_W) : ax_s20 ro ct a b v t i lv st w = (ax_s20 ro ct a b v t i [] st w).map (ax_rl lv) := by
  unfold ax_s20
  repeat' (first | rfl | split)
  all_goals simp_all [ax_rl]
theorem ax_fl21' (ro : ax_W) (ct : ax_T) (a b : Nat) (v : Value) (t : List (Int × Nat)) (i : Nat) (lv : ax_L) (st : List Value) (w : ax_W) : ax_s21 ro ct a b v t i lv st w = (ax_s21 ro ct a b v t i [] st w).map (ax_rl lv) := by
  unfold ax_s21
  repeat' (first | rfl | split)
  all_goals simp_all [ax_rl]
theorem ax_fl22' (ro : ax_W) (ct : ax_T) (a b : Nat) (v : Value) (t : List (Int × Nat)) (i : Nat) (lv : ax_L) (st : List Value) (w : ax_W) : ax_s22 ro ct a b v t i lv st w = (ax_s22 ro ct a b v t i [] st w).map (ax_rl lv) := by
  unfold ax_s22
  repeat' (first | rfl | split)
  all_goals simp_all [ax_rl]
theorem ax_fl23' (ro : ax_W) (ct : ax_T) (a b : Nat) (v : Value) (t : List (Int × Nat)) (i : Nat) (lv : ax_L) (st : List Value) (w : ax_W) : ax_s23 ro ct a b v t i lv st w = (ax_s23 ro ct a b v t i [] st w).map (ax_rl lv) := by
  unfold ax_s23
  repeat' (first | rfl | split)
  all_goals simp_all [ax_rl]
theorem ax_fl24' (ro : ax_W) (ct : ax_T) (a b : Nat) (v : Value) (t : List (Int × Nat)) (i : Nat) (lv : ax_L) (st : List Value) (w : ax_W) : ax_s24 ro ct a b v t i lv st w = (ax_s24 ro ct a b v t i [] st w).map (ax_rl lv) := by
  unfold ax_s24
  repeat' (first | rfl | split)
  all_goals simp_all [ax_rl]
theorem ax_fl25' (ro : ax_W) (ct : ax_T) (a b : Nat) (v : Value) (t : List (Int × Nat)) (i : Nat) (lv : ax_L) (st : List Value) (w : ax_W) : ax_s25 ro ct a b v t i lv st w = (ax_s25 ro ct a b v t i [] st w).map (ax_rl lv) := by
  unfold ax_s25
  repeat' (first | rfl | split)
  all_goals simp_all [ax_rl]
theorem ax_fl26' (ro : ax_W) (ct : ax_T) (a b : Nat) (v : Value) (t : List (Int × Nat)) (i : Nat) (lv : ax_L) (st : List Value) (w : ax_W) : ax_s26 ro ct a b v t i lv st w = (ax_s26 ro ct a b v t i [] st w).map (ax_rl lv) := by
  unfold ax_s26
  repeat' (first | rfl | split)
  all_goals simp_all [ax_rl]
theorem ax_fl27' (ro : ax_W) (ct : ax_T) (a b : Nat) (v : Value) (t : List (Int × Nat)) (i : Nat) (lv : ax_L) (st : List Value) (w : ax_W) : ax_s27 ro ct a b v t i lv st w = (ax_s27 ro ct a b v t i [] st w).map (ax_rl lv) := by
  unfold ax_s27
  repeat' (first | rfl | split)
  all_goals simp_all [ax_rl]
theorem ax_fl28' (ro : ax_W) (ct : ax_T) (a b : Nat) (v : Value) (t : List (Int × Nat)) (i : Nat) (lv : ax_L) (st : List Value) (w : ax_W) : ax_s28 ro ct a b v t i lv st w = (ax_s28 ro ct a b v t i [] st w).map (ax_rl lv) := by
  unfold ax_s28
  repeat' (first | rfl | split)
  all_goals simp_all [ax_rl]
theorem ax_fl29' (ro : ax_W) (ct : ax_T) (a b : Nat) (v : Value) (t : List (Int × Nat)) (i : Nat) (lv : ax_L) (st : List Value) (w : ax_W) : ax_s29 ro ct a b v t i lv st w = (ax_s29 ro ct a b v t i [] st w).map (ax_rl lv) := by
  unfold ax_s29
  repeat' (first | rfl | split)
  all_goals simp_all [ax_rl]
theorem ax_fl30' (ro : ax_W) (ct : ax_T) (a b : Nat) (v : Value) (t : List (Int × Nat)) (i : Nat) (lv : ax_L) (st : List Value) (w : ax_W) : ax_s30 ro ct a b v t i lv st w = (ax_s30 ro ct a b v t i [] st w).map (ax_rl lv) := by
  unfold ax_s30
  repeat' (first | rfl | split)
  all_goals simp_all [ax_rl]
theorem ax_fl31' (ro : ax_W) (ct : ax_T) (a b : Nat) (v : Value) (t : List (Int × Nat)) (i : Nat) (lv : ax_L) (st : List Value) (w : ax_W) : ax_s31 ro ct a b v t i lv st w = (ax_s31 ro ct a b v t i [] st w).map (ax_rl lv) := by
  unfold ax_s31
  repeat' (first | rfl | split)
  all_goals simp_all [ax_rl]
theorem ax_fl32' (ro : ax_W) (ct : ax_T) (a b : Nat) (v : Value) (t : List (Int × Nat)) (i : Nat) (lv : ax_L) (st : List Value) (w : ax_W) : ax_s32 ro ct a b v t i lv st w = (ax_s32 ro ct a b v t i [] st w).map (ax_rl lv) := by
  unfold ax_s32
  repeat' (first | rfl | split)
  all_goals simp_all [ax_rl]
theorem ax_fl33' (ro : ax_W) (ct : ax_T) (a b : Nat) (v : Value) (t : List (Int × Nat)) (i : Nat) (lv : ax_L) (st : List Value) (w : ax_W) : ax_s33 ro ct a b v t i lv st w = (ax_s33 ro ct a b v t i [] st w).map (ax_rl lv) := by
  unfold ax_s33
  repeat' (first | rfl | split)
  all_goals simp_all [ax_rl]
theorem ax_fl34' (ro : ax_W) (ct : ax_T) (a b : Nat) (v : Value) (t : List (Int × Nat)) (i : Nat) (lv : ax_L) (st : List Value) (w : ax_W) : ax_s34 ro ct a b v t i lv st w = (ax_s34 ro ct a b v t i [] st w).map (ax_rl lv) := by
  unfold ax_s34
  repeat' (first | rfl | split)
  all_goals simp_all [ax_rl]
theorem ax_fl35' (ro : ax_W) (ct : ax_T) (a b : Nat) (v : Value) (t : List (Int × Nat)) (i : Nat) (lv : ax_L) (st : List Value) (w : ax_W) : ax_s35 ro ct a b v t i lv st w = (ax_s35 ro ct a b v t i [] st w).map (ax_rl lv) := by
  unfold ax_s35
  repeat' (first | rfl | split)
  all_goals simp_all [ax_rl]
theorem ax_fl36' (ro : ax_W) (ct : ax_T) (a b : Nat) (v : Value) (t : List (Int × Nat)) (i : Nat) (lv : ax_L) (st : List Value) (w : ax_W) : ax_s36 ro ct a b v t i lv st w = (ax_s36 ro ct a b v t i [] st w).map (ax_rl lv) := by
  unfold ax_s36
  repeat' (first | rfl | split)
  all_goals simp_all [ax_rl]
theorem ax_fl37' (ro : ax_W) (ct : ax_T) (a b : Nat) (v : Value) (t : List (Int × Nat)) (i : Nat) (lv : ax_L) (st : List Value) (w : ax_W) : ax_s37 ro ct a b v t i lv st w = (ax_s37 ro ct a b v t i [] st w).map (ax_rl lv) := by
  unfold ax_s37
  repeat' (first | rfl | split)
  all_goals simp_all [ax_rl]
theorem ax_fl38' (ro : ax_W) (ct : ax_T) (a b : Nat) (v : Value) (t : List (Int × Nat)) (i : Nat) (lv : ax_L) (st : List Value) (w : ax_W) : ax_s38 ro ct a b v t i lv st w = (ax_s38 ro ct a b v t i [] st w).map (ax_rl lv) := by
  unfold ax_s38
  repeat' (first | rfl | split)
  all_goals simp_all [ax_rl]
theorem ax_fl39' (ro : ax_W) (ct : ax_T) (a b : Nat) (v : Value) (t : List (Int × Nat)) (i : Nat) (lv : ax_L) (st : List Value) (w : ax_W) : ax_s39 ro ct a b v t i lv st w = (ax_s39 ro ct a b v t i [] st w).map (ax_rl lv) := by
  unfold ax_s39
  repeat' (first | rfl | split)
  all_goals simp_all [ax_rl]
theorem ax_fl40' (ro : ax_W) (ct : ax_T) (a b : Nat) (v : Value) (t : List (Int × Nat)) (i : Nat) (lv : ax_L) (st : List Value) (w : ax_W) : ax_s40 ro ct a b v t i lv st w = (ax_s40 ro ct a b v t i [] st w).map (ax_rl lv) := by
  unfold ax_s40
  repeat' (first | rfl | split)
  all_goals simp_all [ax_rl]
theorem ax_fl41' (ro : ax_W) (ct : ax_T) (a b : Nat) (v : Value) (t : List (Int × Nat)) (i : Nat) (lv : ax_L) (st : List Value) (w : ax_W) : ax_s41 ro ct a b v t i lv st w = (ax_s41 ro ct a b v t i [] st w).map (ax_rl lv) := by
  unfold ax_s41
  repeat' (first | rfl | split)
  all_goals simp_all [ax_rl]
theorem ax_fl43' (ro : ax_W) (ct : ax_T) (a b : Nat) (v : Value) (t : List (Int × Nat)) (i : Nat) (lv : ax_L) (st : List Value) (w : ax_W) : ax_s43 ro ct a b v t i lv st w = (ax_s43 ro ct a b v t i [] st w).map (ax_rl lv) := by
  unfold ax_s43
  repeat' (first | rfl | split)
  all_goals simp_all [ax_rl]
theorem ax_fl44' (ro : ax_W) (ct : ax_T) (a b : Nat) (v : Value) (t : List (Int × Nat)) (i : Nat) (lv : ax_L) (st : List Value) (w : ax_W) : ax_s44 ro ct a b v t i lv st w = (ax_s44 ro ct a b v t i [] st w).map (ax_rl lv) := by
  unfold ax_s44
  repeat' (first | rfl | split)
  all_goals simp_all [ax_rl]
theorem ax_fl45' (ro : ax_W) (ct : ax_T) (a b : Nat) (v : Value) (t : List (Int × Nat)) (i : Nat) (lv : ax_L) (st : List Value) (w : ax_W) : ax_s45 ro ct a b v t i lv st w = (ax_s45 ro ct a b v t i [] st w).map (ax_rl lv) := by
  unfold ax_s45
  repeat' (first | rfl | split)
  all_goals simp_all [ax_rl]
theorem ax_fl46' (ro : ax_W) (ct : ax_T) (a b : Nat) (v : Value) (t : List (Int × Nat)) (i : Nat) (lv : ax_L) (st : List Value) (w : ax_W) : ax_s46 ro ct a b v t i lv st w = (ax_s46 ro ct a b v t i [] st w).map (ax_rl lv) := by
  unfold ax_s46
  repeat' (first | rfl | split)
  all_goals simp_all [ax_rl]
theorem ax_fl47' (ro : ax_W) (ct : ax_T) (a b : Nat) (v : Value) (t : List (Int × Nat)) (i : Nat) (lv : ax_L) (st : List Value) (w : ax_W) : ax_s47 ro ct a b v t i lv st w = (ax_s47 ro ct a b v t i [] st w).map (ax_rl lv) := by
  unfold ax_s47
  repeat' (first | rfl | split)
  all_goals simp_all [ax_rl]
theorem ax_fl48' (ro : ax_W) (ct : ax_T) (a b : Nat) (v : Value) (t : List (Int × Nat)) (i : Nat) (lv : ax_L) (st : List Value) (w : ax_W) : ax_s48 ro ct a b v t i lv st w = (ax_s48 ro ct a b v t i [] st w).map (ax_rl lv) := by
  unfold ax_s48
  repeat' (first | rfl | split)
  all_goals simp_all [ax_rl]
theorem ax_fl49' (ro : ax_W) (ct : ax_T) (a b : Nat) (v : Value) (t : List (Int × Nat)) (i : Nat) (lv : ax_L) (st : List Value) (w : ax_W) : ax_s49 ro ct a b v t i lv st w = (ax_s49 ro ct a b v t i [] st w).map (ax_rl lv) := by
  unfold ax_s49
  repeat' (first | rfl | split)
  all_goals simp_all [ax_rl]
theorem ax_fl50' (ro : ax_W) (ct : ax_T) (a b : Nat) (v : Value) (t : List (Int × Nat)) (i : Nat) (lv : ax_L) (st : List Value) (w : ax_W) : ax_s50 ro ct a b v t i lv st w = (ax_s50 ro ct a b v t i [] st w).map (ax_rl lv) := by
  unfold ax_s50
  repeat' (first | rfl | split)
  all_goals simp_all [ax_rl]
theorem ax_fl51' (ro : ax_W) (ct : ax_T) (a b : Nat) (v : Value) (t : List (Int × Nat)) (i : Nat) (lv : ax_L) (st : List Value) (w : ax_W) : ax_s51 ro ct a b v t i lv st w = (ax_s51 ro ct a b v t i [] st w).map (ax_rl lv) := by
  unfold ax_s51
  repeat' (first | rfl | split)
  all_goals simp_all [ax_rl]
theorem ax_fl52' (ro : ax_W) (ct : ax_T) (a b : Nat) (v : Value) (t : List (Int × Nat)) (i : Nat) (lv : ax_L) (st : List Value) (w : ax_W) : ax_s52 ro ct a b v t i lv st w = (ax_s52 ro ct a b v t i [] st w).map (ax_rl lv) := by
  unfold ax_s52
  repeat' (first | rfl | split)
  all_goals simp_all [ax_rl]
theorem ax_fl53' (ro : ax_W) (ct : ax_T) (a b : Nat) (v : Value) (t : List (Int × Nat)) (i : Nat) (lv : ax_L) (st : List Value) (w : ax_W) : ax_s53 ro ct a b v t i lv st w = (ax_s53 ro ct a b v t i [] st w).map (ax_rl lv) := by
  unfold ax_s53
  repeat' (first | rfl | split)
  all_goals simp_all [ax_rl]
theorem ax_fl54' (ro : ax_W) (ct : ax_T) (a b : Nat) (v : Value) (t : List (Int × Nat)) (i : Nat) (lv : ax_L) (st : List Value) (w : ax_W) : ax_s54 ro ct a b v t i lv st w = (ax_s54 ro ct a b v t i [] st w).map (ax_rl lv) := by
  unfold ax_s54
  repeat' (first | rfl | split)
  all_goals simp_all [ax_rl]
theorem ax_fl55' (ro : ax_W) (ct : ax_T) (a b : Nat) (v : Value) (t : List (Int × Nat)) (i : Nat) (lv : ax_L) (st : List Value) (w : ax_W) : ax_s55 ro ct a b v t i lv st w = (ax_s55 ro ct a b v t i [] st w).map (ax_rl lv) := by
  unfold ax_s55
  repeat' (first | rfl | split)
  all_goals simp_all [ax_rl]
theorem ax_fl56' (ro : ax_W) (ct : ax_T) (a b : Nat) (v : Value) (t : List (Int × Nat)) (i : Nat) (lv : ax_L) (st : List Value) (w : ax_W) : ax_s56 ro ct a b v t i lv st w = (ax_s56 ro ct a b v t i [] st w).map (ax_rl lv) := by
  unfold ax_s56
  repeat' (first | rfl | split)
  all_goals simp_all [ax_rl]
/-- two outcomes that differ in their locals alone -/
def ax_Rx (x x' : ax_R) : Prop := match x with
  | .inl q => ∃ lv', ax_Lr q.2.1 lv' ∧ x' = .inl (q.1, lv', q.2.2.1, q.2.2.2)
  | .inr y => x' = .inr y
theorem ax_Rx_fl {f : ax_L → Option ax_R} {lv0 lv : ax_L} {x : ax_R} (hf : ∀ lv, f lv = (f []).map (ax_rl lv)) (hR : ax_Lr lv0 lv) (h : f lv0 = some x) : ∃ x', f lv = some x' ∧ ax_Rx x x' := by
  rw [hf] at h
  rw [hf]
  cases hy : f [] with
  | none => rw [hy] at h; cases h
  | some y =>
    rw [hy] at h
    cases h
    refine ⟨ax_rl lv y, rfl, ?_⟩
    cases y with
    | inl q => exact ⟨lv, hR, rfl⟩
    | inr z => rfl
theorem ax_stp_lv {ro : ax_W} {ct : ax_T} {i : Nat} {lv0 lv : ax_L} {st : List Value} {w : ax_W} {x : ax_R} {ai : ax_I} (hR : ax_Lr lv0 lv) (h : ax_stp ro ct ai i lv0 st w = some x) : ∃ x', ax_stp ro ct ai i lv st w = some x' ∧ ax_Rx x x' := by
  obtain ⟨op, a, b, v, t⟩ := ai
  have hlt := ax_op_lt h
  match op, h, hlt with
  | 0, h, _ => exact ax_Rx_fl (f := fun lv => ax_s0 ro ct a b v t i lv st w) (fun lv => ax_fl0' ro ct a b v t i lv st w) hR h
  | 1, h, _ => exact ax_Rx_fl (f := fun lv => ax_s1 ro ct a b v t i lv st w) (fun lv => ax_fl1' ro ct a b v t i lv st w) hR h
  | 2, h, _ =>
    change ax_s2 ro ct a b v t i lv0 st w = _ at h
    show ∃ x', ax_s2 ro ct a b v t i lv st w = some x' ∧ _
    unfold ax_s2 at h ⊢
    cases hl : lv0.lookup a with
    | none => rw [hl] at h; cases h
    | some u =>
      rw [hl] at h
      rw [ax_Lr_look hR hl]
      cases u <;> first | (cases h; done) | (cases h; exact ⟨_, rfl, lv, hR, rfl⟩) | (dsimp only at h ⊢; split at h <;> first | (cases h; done) | (cases h; rename_i hne; rw [if_neg hne]; exact ⟨_, rfl, lv, hR, rfl⟩))
  | 3, h, _ =>
    change ax_s3 ro ct a b v t i lv0 st w = _ at h
    show ∃ x', ax_s3 ro ct a b v t i lv st w = some x' ∧ _
    unfold ax_s3 at h ⊢
    cases hl : lv0.lookup a with
    | none => rw [hl] at h; cases h
    | some u =>
      rw [hl] at h
      rw [ax_Lr_look hR hl]
      cases u <;> first | (cases h; done) | (cases h; exact ⟨_, rfl, lv, hR, rfl⟩) | (dsimp only at h ⊢; split at h <;> first | (cases h; done) | (cases h; rename_i hne; rw [if_neg hne]; exact ⟨_, rfl, lv, hR, rfl⟩))
  | 4, h, _ =>
    change ax_s4 ro ct a b v t i lv0 st w = _ at h
    show ∃ x', ax_s4 ro ct a b v t i lv st w = some x' ∧ _
    unfold ax_s4 at h ⊢
    cases hl : lv0.lookup a with
    | none => rw [hl] at h; cases h
    | some u =>
      rw [hl] at h
      rw [ax_Lr_look hR hl]
      cases u <;> first | (cases h; done) | (cases h; exact ⟨_, rfl, lv, hR, rfl⟩) | (dsimp only at h ⊢; split at h <;> first | (cases h; done) | (cases h; rename_i hne; rw [if_neg hne]; exact ⟨_, rfl, lv, hR, rfl⟩))
  | 5, h, _ =>
    change ax_s5 ro ct a b v t i lv0 st w = _ at h
    show ∃ x', ax_s5 ro ct a b v t i lv st w = some x' ∧ _
    unfold ax_s5 at h ⊢
    split at h
    · cases h
      exact ⟨_, rfl, _, ax_Lr_st1 hR _ _, rfl⟩
    · cases h
  | 6, h, _ =>
    change ax_s6 ro ct a b v t i lv0 st w = _ at h
    show ∃ x', ax_s6 ro ct a b v t i lv st w = some x' ∧ _
    unfold ax_s6 at h ⊢
    split at h
    · cases h
      exact ⟨_, rfl, _, ax_Lr_st1 hR _ _, rfl⟩
    · cases h
  | 7, h, _ =>
    change ax_s7 ro ct a b v t i lv0 st w = _ at h
    show ∃ x', ax_s7 ro ct a b v t i lv st w = some x' ∧ _
    unfold ax_s7 at h ⊢
    split at h
    · cases h
      exact ⟨_, rfl, _, ax_Lr_st2 hR _ _, rfl⟩
    · cases h
  | 8, h, _ =>
    change ax_s8 ro ct a b v t i lv0 st w = _ at h
    show ∃ x', ax_s8 ro ct a b v t i lv st w = some x' ∧ _
    unfold ax_s8 at h ⊢
    split at h
    · cases hl : lv0.lookup a with
      | none => rw [hl] at h; cases h
      | some u =>
        rw [hl] at h
        rw [ax_Lr_look hR hl]
        cases u <;> first | (cases h; done) | (cases h; exact ⟨_, rfl, _, ax_Lr_st1 hR _ _, rfl⟩)
    · cases h
  | 9, h, _ => exact ax_Rx_fl (f := fun lv => ax_s9 ro ct a b v t i lv st w) (fun lv => ax_fl9' ro ct a b v t i lv st w) hR h
  | 10, h, _ => exact ax_Rx_fl (f := fun lv => ax_s10 ro ct a b v t i lv st w) (fun lv => ax_fl10' ro ct a b v t i lv st w) hR h
  | 11, h, _ => exact ax_Rx_fl (f := fun lv => ax_s11 ro ct a b v t i lv st w) (fun lv => ax_fl11' ro ct a b v t i lv st w) hR h
  | 12, h, _ => exact ax_Rx_fl (f := fun lv => ax_s12 ro ct a b v t i lv st w) (fun lv => ax_fl12' ro ct a b v t i lv st w) hR h
  | 13, h, _ => exact ax_Rx_fl (f := fun lv => ax_s13 ro ct a b v t i lv st w) (fun lv => ax_fl13' ro ct a b v t i lv st w) hR h
  | 14, h, _ => exact ax_Rx_fl (f := fun lv => ax_s14 ro ct a b v t i lv st w) (fun lv => ax_fl14' ro ct a b v t i lv st w) hR h
  | 15, h, _ => exact ax_Rx_fl (f := fun lv => ax_s15 ro ct a b v t i lv st w) (fun lv => ax_fl15' ro ct a b v t i lv st w) hR h
  | 16, h, _ => exact ax_Rx_fl (f := fun lv => ax_s16 ro ct a b v t i lv st w) (fun lv => ax_fl16' ro ct a b v t i lv st w) hR h
  | 17, h, _ => exact ax_Rx_fl (f := fun lv => ax_s17 ro ct a b v t i lv st w) (fun lv => ax_fl17' ro ct a b v t i lv st w) hR h
  | 18, h, _ => exact ax_Rx_fl (f := fun lv => ax_s18 ro ct a b v t i lv st w) (fun lv => ax_fl18' ro ct a b v t i lv st w) hR h
  | 19, h, _ => exact ax_Rx_fl (f := fun lv => ax_s19 ro ct a b v t i lv st w) (fun lv => ax_fl19' ro ct a b v t i lv st w) hR h
  | 20, h, _ => exact ax_Rx_fl (f := fun lv => ax_s20 ro ct a b v t i lv st w) (fun lv => ax_fl20' ro ct a b v t i lv st w) hR h
  | 21, h, _ => exact ax_Rx_fl (f := fun lv => ax_s21 ro ct a b v t i lv st w) (fun lv => ax_fl21' ro ct a b v t i lv st w) hR h
  | 22, h, _ => exact ax_Rx_fl (f := fun lv => ax_s22 ro ct a b v t i lv st w) (fun lv => ax_fl22' ro ct a b v t i lv st w) hR h
  | 23, h, _ => exact ax_Rx_fl (f := fun lv => ax_s23 ro ct a b v t i lv st w) (fun lv => ax_fl23' ro ct a b v t i lv st w) hR h
  | 24, h, _ => exact ax_Rx_fl (f := fun lv => ax_s24 ro ct a b v t i lv st w) (fun lv => ax_fl24' ro ct a b v t i lv st w) hR h
  | 25, h, _ => exact ax_Rx_fl (f := fun lv => ax_s25 ro ct a b v t i lv st w) (fun lv => ax_fl25' ro ct a b v t i lv st w) hR h
  | 26, h, _ => exact ax_Rx_fl (f := fun lv => ax_s26 ro ct a b v t i lv st w) (fun lv => ax_fl26' ro ct a b v t i lv st w) hR h
  | 27, h, _ => exact ax_Rx_fl (f := fun lv => ax_s27 ro ct a b v t i lv st w) (fun lv => ax_fl27' ro ct a b v t i lv st w) hR h
  | 28, h, _ => exact ax_Rx_fl (f := fun lv => ax_s28 ro ct a b v t i lv st w) (fun lv => ax_fl28' ro ct a b v t i lv st w) hR h
  | 29, h, _ => exact ax_Rx_fl (f := fun lv => ax_s29 ro ct a b v t i lv st w) (fun lv => ax_fl29' ro ct a b v t i lv st w) hR h
  | 30, h, _ => exact ax_Rx_fl (f := fun lv => ax_s30 ro ct a b v t i lv st w) (fun lv => ax_fl30' ro ct a b v t i lv st w) hR h
  | 31, h, _ => exact ax_Rx_fl (f := fun lv => ax_s31 ro ct a b v t i lv st w) (fun lv => ax_fl31' ro ct a b v t i lv st w) hR h
  | 32, h, _ => exact ax_Rx_fl (f := fun lv => ax_s32 ro ct a b v t i lv st w) (fun lv => ax_fl32' ro ct a b v t i lv st w) hR h
  | 33, h, _ => exact ax_Rx_fl (f := fun lv => ax_s33 ro ct a b v t i lv st w) (fun lv => ax_fl33' ro ct a b v t i lv st w) hR h
  | 34, h, _ => exact ax_Rx_fl (f := fun lv => ax_s34 ro ct a b v t i lv st w) (fun lv => ax_fl34' ro ct a b v t i lv st w) hR h
  | 35, h, _ => exact ax_Rx_fl (f := fun lv => ax_s35 ro ct a b v t i lv st w) (fun lv => ax_fl35' ro ct a b v t i lv st w) hR h
  | 36, h, _ => exact ax_Rx_fl (f := fun lv => ax_s36 ro ct a b v t i lv st w) (fun lv => ax_fl36' ro ct a b v t i lv st w) hR h
  | 37, h, _ => exact ax_Rx_fl (f := fun lv => ax_s37 ro ct a b v t i lv st w) (fun lv => ax_fl37' ro ct a b v t i lv st w) hR h
  | 38, h, _ => exact ax_Rx_fl (f := fun lv => ax_s38 ro ct a b v t i lv st w) (fun lv => ax_fl38' ro ct a b v t i lv st w) hR h
  | 39, h, _ => exact ax_Rx_fl (f := fun lv => ax_s39 ro ct a b v t i lv st w) (fun lv => ax_fl39' ro ct a b v t i lv st w) hR h
  | 40, h, _ => exact ax_Rx_fl (f := fun lv => ax_s40 ro ct a b v t i lv st w) (fun lv => ax_fl40' ro ct a b v t i lv st w) hR h
  | 41, h, _ => exact ax_Rx_fl (f := fun lv => ax_s41 ro ct a b v t i lv st w) (fun lv => ax_fl41' ro ct a b v t i lv st w) hR h
  | 42, h, _ => cases h
  | 43, h, _ => exact ax_Rx_fl (f := fun lv => ax_s43 ro ct a b v t i lv st w) (fun lv => ax_fl43' ro ct a b v t i lv st w) hR h
  | 44, h, _ => exact ax_Rx_fl (f := fun lv => ax_s44 ro ct a b v t i lv st w) (fun lv => ax_fl44' ro ct a b v t i lv st w) hR h
  | 45, h, _ => exact ax_Rx_fl (f := fun lv => ax_s45 ro ct a b v t i lv st w) (fun lv => ax_fl45' ro ct a b v t i lv st w) hR h
  | 46, h, _ => exact ax_Rx_fl (f := fun lv => ax_s46 ro ct a b v t i lv st w) (fun lv => ax_fl46' ro ct a b v t i lv st w) hR h
  | 47, h, _ => exact ax_Rx_fl (f := fun lv => ax_s47 ro ct a b v t i lv st w) (fun lv => ax_fl47' ro ct a b v t i lv st w) hR h
  | 48, h, _ => exact ax_Rx_fl (f := fun lv => ax_s48 ro ct a b v t i lv st w) (fun lv => ax_fl48' ro ct a b v t i lv st w) hR h
  | 49, h, _ => exact ax_Rx_fl (f := fun lv => ax_s49 ro ct a b v t i lv st w) (fun lv => ax_fl49' ro ct a b v t i lv st w) hR h
  | 50, h, _ => exact ax_Rx_fl (f := fun lv => ax_s50 ro ct a b v t i lv st w) (fun lv => ax_fl50' ro ct a b v t i lv st w) hR h
  | 51, h, _ => exact ax_Rx_fl (f := fun lv => ax_s51 ro ct a b v t i lv st w) (fun lv => ax_fl51' ro ct a b v t i lv st w) hR h
  | 52, h, _ => exact ax_Rx_fl (f := fun lv => ax_s52 ro ct a b v t i lv st w) (fun lv => ax_fl52' ro ct a b v t i lv st w) hR h
  | 53, h, _ => exact ax_Rx_fl (f := fun lv => ax_s53 ro ct a b v t i lv st w) (fun lv => ax_fl53' ro ct a b v t i lv st w) hR h
  | 54, h, _ => exact ax_Rx_fl (f := fun lv => ax_s54 ro ct a b v t i lv st w) (fun lv => ax_fl54' ro ct a b v t i lv st w) hR h
  | 55, h, _ => exact ax_Rx_fl (f := fun lv => ax_s55 ro ct a b v t i lv st w) (fun lv => ax_fl55' ro ct a b v t i lv st w) hR h
  | 56, h, _ => exact ax_Rx_fl (f := fun lv => ax_s56 ro ct a b v t i lv st w) (fun lv => ax_fl56' ro ct a b v t i lv st w) hR h
theorem ax_ex_lv {ro : ax_W} {ct : ax_T} {pg : Nat → List ax_I} : ∀ (n d : Nat) (cd : List ax_I) (i : Nat) (lv0 lv : ax_L) (st : List Value) (w : ax_W) (x : Option Value × ax_W), ax_Lr lv0 lv → ax_ex ro ct pg n d cd i lv0 st w = some x → ax_ex ro ct pg n d cd i lv st w = some x := by
  intro n
  induction n with
  | zero => intro d cd i lv0 lv st w x _ h; cases h
  | succ n ih =>
    intro d cd i lv0 lv st w x hR h
    rw [ax_ex] at h
    rw [ax_ex]
    cases hai : cd[i]? with
    | none => rw [hai] at h; cases h
    | some ai =>
      rw [hai] at h
      dsimp only at h ⊢
      cases hst : ax_stp ro ct ai i lv0 st w with
      | none => rw [hst] at h; cases h
      | some y =>
        obtain ⟨y', hy', hr⟩ := ax_stp_lv hR hst
        rw [hst] at h
        rw [hy']
        cases y with
        | inl q =>
          obtain ⟨lv', hR', rfl⟩ := hr
          exact ih _ _ _ _ _ _ _ _ hR' h
        | inr z =>
          cases hr
          cases z with
          | inl q =>
            dsimp only at h ⊢
            cases d with
            | zero => cases h
            | succ d' =>
              dsimp only at h ⊢
              cases hc : ax_ex ro ct pg n d' (pg q.1) 0 (lv_args 0 q.2.1) [] w with
              | none => rw [hc] at h; cases h
              | some r =>
                rw [hc] at h
                exact ih _ _ _ _ _ _ _ _ hR h
          | inr v => exact h
theorem wp_lv {xs : List Int32} {d : Nat} {cd : List ax_I} {i : Nat} {lv0 lv : ax_L} {st : List Value} {w : ax_W} {Q : Option Value → ax_W → Prop} (hR : ax_Lr lv0 lv) (h : Wp xs d cd i lv0 st w Q) : Wp xs d cd i lv st w Q := by
  obtain ⟨n, r, w', h1, h2⟩ := h
  exact ⟨n, r, w', ax_ex_lv _ _ _ _ _ _ _ _ _ hR h1, h2⟩
