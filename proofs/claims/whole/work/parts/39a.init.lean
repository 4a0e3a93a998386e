/-! THE CONSTRUCTORS, run by the kernel -/
theorem ax_init1 : ax_ex ax_ro0 ax_cts ax_pg 14111 59 ax_cd0 0 [(0, .ref 0)] [] [(.inr 0, List.replicate 9 (.null))] = some (none, ax_W1) := by decide +kernel
