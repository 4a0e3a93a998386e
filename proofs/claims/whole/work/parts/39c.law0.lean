/-! THE LAW UP TO ITS LOOP -/
def sg0 (k : Nat) : List Value := ((ax_W1 ++ ax_W2).getD k (.inr 0, [])).2
theorem ax_start_mk : ax_W1 ++ ax_W2 = mkW sg0 := by decide +kernel
theorem ax_W1_len : List.length ax_W1 = 287 := by decide +kernel
set_option maxRecDepth 100000 in
theorem ax_law0 {xs : List Int32} {Q : Option Value → ax_W → Prop} (K : Wp xs 60 ax_cd336 10 [(3, .int 0), (2, .ref 287), (1, .ref 0), (0, .retAddr 0)] [] (mkW sg0) Q) : Wp xs 60 ax_cd336 0 [(0, .retAddr 0)] [] [] Q := by
  refine wp_go rfl rfl ?_
  refine wp_go rfl rfl ?_
  refine wp_call (Q' := fun r w' => r = none ∧ w' = ax_W1) rfl rfl (ax_init1 xs) ?_
  intro r w' hq
  obtain ⟨rfl, rfl⟩ := hq
  refine wp_go rfl rfl ?_
  refine wp_go (i' := 5) (st' := [.ref 287]) (w' := ax_W1 ++ [(.inr 12, ([.int 0] ++ ([.null] ++ ([.int 0] ++ ([.null] ++ ([.int 0] ++ ([.null, .null, .null, .null, .null] ++ (List.replicate 11 (.int 0) ++ (List.replicate 17 (.null) ++ ([.int 0] ++ ([.null, .null, .null, .null, .null] ++ ([.int 0] ++ ([.null, .null, .null] ++ ([.int 0] ++ ([.null, .null] ++ ([.int 0] ++ ([.null, .null] ++ ([.int 0, .int 0] ++ ([.null] ++ ([.int 0] ++ ([.null] ++ ([.int 0] ++ ([.null, .null, .null, .null, .null])))))))))))))))))))))))]) rfl (by
    show some (Sum.inl (5, _, [Value.ref (List.length ax_W1)], _)) = _
    rw [ax_W1_len]
    rfl) ?_
  refine wp_go rfl rfl ?_
  refine wp_call (Q' := fun r w' => r = none ∧ w' = ax_W1 ++ ax_W2) rfl rfl ⟨4206, none, ax_W1 ++ ax_W2, ax_ex_ro (ax_Ro_ok xs) _ _ _ _ _ _ _ _ ax_init2, rfl, rfl⟩ ?_
  intro r w' hq
  obtain ⟨rfl, rfl⟩ := hq
  rw [ax_start_mk]
  refine wp_go rfl rfl ?_
  refine wp_go rfl rfl ?_
  refine wp_go rfl rfl ?_
  exact K
