theorem op_suggested {σ μ : kS} {nm ns n N S : Nat} (h : Rel σ μ nm ns n N S) (hn : n < 600) : (suF σ nm ns 12).1 = (suM (su μ 23 0 0) nm ns 12).1 ∧ RR σ (su μ 23 0 0) (n + 1) := by
  sorry
