/-! THE TWO SETS OF ROWS SIDE BY SIDE -/
/-- a line: how often counted, by whom, what is agreed -/
def LnR (σ μ : kS) (k : Nat) : Prop := ∃ c mk : Nat, c ≤ 3 ∧ mk < 64 ∧ μ 20 k = nI c ∧ σ 10 k = nI mk ∧ bc (nI mk) = nI c ∧ (∀ p, p < 6 → cbB σ k (nI p) = hcM μ k (nI p) c) ∧ σ 13 k = agM μ k ∧ (1 ≤ c → σ 11 k = μ 22 (3 * k)) ∧ (2 ≤ c → σ 12 k = μ 22 (3 * k + 1))
abbrev Rel (σ μ : kS) (nm ns n N S : Nat) : Prop := (∀ r i, (r < 10 ∨ (13 < r ∧ r < 20)) → σ r i = μ r i) ∧ (μ 18 0 = nI ns) ∧ (ns ≤ 40) ∧ (μ 17 0 = nI nm) ∧ (nm ≤ 200) ∧ (μ 16 0 = nI N) ∧ (N ≤ 1000 * n) ∧ (μ 19 0 = nI S) ∧ (S ≤ 2 * n) ∧ (∀ k, ∃ z, μ 14 k = nI z ∧ z ≤ S) ∧ (∀ k, (μ 9 k = 0 ∨ μ 9 k = 1) ∧ (ns ≤ k → μ 9 k = 0)) ∧ (∀ k, ∃ z, μ 8 k = nI z ∧ z ≤ N) ∧ (∀ i j, i < j → j < ns → μ 7 i = μ 7 j → μ 9 i = 1) ∧ (∀ k, ∃ z, μ 0 k = nI z ∧ z ≤ 1000) ∧ (∀ k, ∃ z, μ 5 k = nI z ∧ z ≤ 1000) ∧ (∀ k, ∃ z, μ 22 k = nI z ∧ z ≤ 100000) ∧ (∀ k, k < 200 → LnR σ μ k)
theorem Rel.eq {σ μ : kS} {nm ns n N S : Nat} (h : Rel σ μ nm ns n N S) : ∀ r i, (r < 10 ∨ (13 < r ∧ r < 20)) → σ r i = μ r i := h.1
theorem Rel.hns {σ μ : kS} {nm ns n N S : Nat} (h : Rel σ μ nm ns n N S) : μ 18 0 = nI ns := h.2.1
theorem Rel.hns4 {σ μ : kS} {nm ns n N S : Nat} (h : Rel σ μ nm ns n N S) : ns ≤ 40 := h.2.2.1
theorem Rel.hnm {σ μ : kS} {nm ns n N S : Nat} (h : Rel σ μ nm ns n N S) : μ 17 0 = nI nm := h.2.2.2.1
theorem Rel.hnm2 {σ μ : kS} {nm ns n N S : Nat} (h : Rel σ μ nm ns n N S) : nm ≤ 200 := h.2.2.2.2.1
theorem Rel.now {σ μ : kS} {nm ns n N S : Nat} (h : Rel σ μ nm ns n N S) : μ 16 0 = nI N := h.2.2.2.2.2.1
theorem Rel.hN {σ μ : kS} {nm ns n N S : Nat} (h : Rel σ μ nm ns n N S) : N ≤ 1000 * n := h.2.2.2.2.2.2.1
theorem Rel.sgs {σ μ : kS} {nm ns n N S : Nat} (h : Rel σ μ nm ns n N S) : μ 19 0 = nI S := h.2.2.2.2.2.2.2.1
theorem Rel.hS {σ μ : kS} {nm ns n N S : Nat} (h : Rel σ μ nm ns n N S) : S ≤ 2 * n := h.2.2.2.2.2.2.2.2.1
theorem Rel.sig {σ μ : kS} {nm ns n N S : Nat} (h : Rel σ μ nm ns n N S) : ∀ k, ∃ z, μ 14 k = nI z ∧ z ≤ S := h.2.2.2.2.2.2.2.2.2.1
theorem Rel.st {σ μ : kS} {nm ns n N S : Nat} (h : Rel σ μ nm ns n N S) : ∀ k, (μ 9 k = 0 ∨ μ 9 k = 1) ∧ (ns ≤ k → μ 9 k = 0) := h.2.2.2.2.2.2.2.2.2.2.1
theorem Rel.cut {σ μ : kS} {nm ns n N S : Nat} (h : Rel σ μ nm ns n N S) : ∀ k, ∃ z, μ 8 k = nI z ∧ z ≤ N := h.2.2.2.2.2.2.2.2.2.2.2.1
theorem Rel.one {σ μ : kS} {nm ns n N S : Nat} (h : Rel σ μ nm ns n N S) : ∀ i j, i < j → j < ns → μ 7 i = μ 7 j → μ 9 i = 1 := h.2.2.2.2.2.2.2.2.2.2.2.2.1
theorem Rel.pr {σ μ : kS} {nm ns n N S : Nat} (h : Rel σ μ nm ns n N S) : ∀ k, ∃ z, μ 0 k = nI z ∧ z ≤ 1000 := h.2.2.2.2.2.2.2.2.2.2.2.2.2.1
theorem Rel.qu {σ μ : kS} {nm ns n N S : Nat} (h : Rel σ μ nm ns n N S) : ∀ k, ∃ z, μ 5 k = nI z ∧ z ≤ 1000 := h.2.2.2.2.2.2.2.2.2.2.2.2.2.2.1
theorem Rel.cq {σ μ : kS} {nm ns n N S : Nat} (h : Rel σ μ nm ns n N S) : ∀ k, ∃ z, μ 22 k = nI z ∧ z ≤ 100000 := h.2.2.2.2.2.2.2.2.2.2.2.2.2.2.2.1
theorem Rel.ln {σ μ : kS} {nm ns n N S : Nat} (h : Rel σ μ nm ns n N S) : ∀ k, k < 200 → LnR σ μ k := h.2.2.2.2.2.2.2.2.2.2.2.2.2.2.2.2
/-- so they stand after n calls -/
def RR (σ μ : kS) (n : Nat) : Prop := ∃ nm ns N S, Rel σ μ nm ns n N S
