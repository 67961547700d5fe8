/-! THE LAW's INVARIANT -/
theorem su_g (ρ : kS) (k i : Nat) (x : Int32) (r j : Nat) : su ρ k i x r j = if r = k then (if j = i then x else ρ r j) else ρ r j := by
  show (bif r.beq k then upd (ρ k) i x else ρ r) j = _
  by_cases c : r = k
  · subst c
    rw [if_pos rfl, Nat.beq_refl]
    rfl
  · have e9 : r.beq k = false := by rw [Bool.eq_false_iff]; intro q; exact c (Nat.eq_of_beq_eq_true q)
    rw [if_neg c, e9]
    rfl
theorem su_ne {ρ : kS} {k i : Nat} {x : Int32} {r j : Nat} (h : r ≠ k) : su ρ k i x r j = ρ r j := by
  rw [su_g, if_neg h]
theorem su_at {ρ : kS} {k i : Nat} {x : Int32} : su ρ k i x k i = x := by
  rw [su_g, if_pos rfl, if_pos rfl]
theorem su_nat {ρ : kS} {k i : Nat} {x : Int32} {r j : Nat} (h : j ≠ i) : su ρ k i x r j = ρ r j := by
  rw [su_g, if_neg h]
  by_cases c : r = k
  · rw [if_pos c]
  · rw [if_neg c]
/-- a line: c counts, by whom (mk), the first two, what they agree on -/
def LnI (σ : kS) (k : Nat) : Prop := ∃ c mk x y : Nat, c ≤ 3 ∧ mk < 64 ∧ σ 10 k = nI mk ∧ bc (nI mk) = nI c ∧ σ 11 k = nI x ∧ x ≤ 100000 ∧ σ 12 k = nI y ∧ y ≤ 100000 ∧ ((σ 13 k = -1 ∧ c ≤ 2) ∨ (2 ≤ c ∧ ∃ a, a ≤ 100000 ∧ σ 13 k = nI a))
/-- the class's rows after n acts -/
abbrev InC (σ : kS) (nm ns n N S : Nat) : Prop := (σ 18 0 = nI ns) ∧ (ns ≤ 12) ∧ (σ 17 0 = nI nm) ∧ (nm ≤ n) ∧ (σ 16 0 = nI N) ∧ (N ≤ 40 * n) ∧ (σ 19 0 = nI S) ∧ (S ≤ 2 * n) ∧ (∀ k, ∃ z, σ 14 k = nI z ∧ z ≤ S) ∧ (∀ k, k < 200 → hsB σ k = true → agB σ k = true) ∧ (∀ k, (σ 9 k = 0 ∨ σ 9 k = 1) ∧ (ns ≤ k → σ 9 k = 0)) ∧ (∀ k, ∃ z, σ 8 k = nI z ∧ z ≤ N) ∧ (∀ k, ∃ z, σ 7 k = nI z ∧ z < 12) ∧ (∀ i j, i < j → j < ns → σ 7 i = σ 7 j → σ 9 i = 1) ∧ (∀ k, ∃ z, σ 0 k = nI z ∧ z ≤ 5) ∧ (∀ k, ∃ z, σ 1 k = nI z ∧ z ≤ 300) ∧ (∀ k, ∃ z, σ 5 k = nI z ∧ z ≤ 1000) ∧ (∀ k, k < 200 → LnI σ k) ∧ (∀ k, ns * 5 ≤ k → k < 200 → σ 10 k = 0 ∧ σ 13 k = -1 ∧ σ 14 k = 0)
theorem InC.hns {σ : kS} {nm ns n N S : Nat} (h : InC σ nm ns n N S) : σ 18 0 = nI ns := h.1
theorem InC.ns12 {σ : kS} {nm ns n N S : Nat} (h : InC σ nm ns n N S) : ns ≤ 12 := h.2.1
theorem InC.hnm {σ : kS} {nm ns n N S : Nat} (h : InC σ nm ns n N S) : σ 17 0 = nI nm := h.2.2.1
theorem InC.nmn {σ : kS} {nm ns n N S : Nat} (h : InC σ nm ns n N S) : nm ≤ n := h.2.2.2.1
theorem InC.now {σ : kS} {nm ns n N S : Nat} (h : InC σ nm ns n N S) : σ 16 0 = nI N := h.2.2.2.2.1
theorem InC.Nn {σ : kS} {nm ns n N S : Nat} (h : InC σ nm ns n N S) : N ≤ 40 * n := h.2.2.2.2.2.1
theorem InC.sgs {σ : kS} {nm ns n N S : Nat} (h : InC σ nm ns n N S) : σ 19 0 = nI S := h.2.2.2.2.2.2.1
theorem InC.Sn {σ : kS} {nm ns n N S : Nat} (h : InC σ nm ns n N S) : S ≤ 2 * n := h.2.2.2.2.2.2.2.1
theorem InC.sig {σ : kS} {nm ns n N S : Nat} (h : InC σ nm ns n N S) : ∀ k, ∃ z, σ 14 k = nI z ∧ z ≤ S := h.2.2.2.2.2.2.2.2.1
theorem InC.sgl {σ : kS} {nm ns n N S : Nat} (h : InC σ nm ns n N S) : ∀ k, k < 200 → hsB σ k = true → agB σ k = true := h.2.2.2.2.2.2.2.2.2.1
theorem InC.st {σ : kS} {nm ns n N S : Nat} (h : InC σ nm ns n N S) : ∀ k, (σ 9 k = 0 ∨ σ 9 k = 1) ∧ (ns ≤ k → σ 9 k = 0) := h.2.2.2.2.2.2.2.2.2.2.1
theorem InC.cut {σ : kS} {nm ns n N S : Nat} (h : InC σ nm ns n N S) : ∀ k, ∃ z, σ 8 k = nI z ∧ z ≤ N := h.2.2.2.2.2.2.2.2.2.2.2.1
theorem InC.pls {σ : kS} {nm ns n N S : Nat} (h : InC σ nm ns n N S) : ∀ k, ∃ z, σ 7 k = nI z ∧ z < 12 := h.2.2.2.2.2.2.2.2.2.2.2.2.1
theorem InC.one {σ : kS} {nm ns n N S : Nat} (h : InC σ nm ns n N S) : ∀ i j, i < j → j < ns → σ 7 i = σ 7 j → σ 9 i = 1 := h.2.2.2.2.2.2.2.2.2.2.2.2.2.1
theorem InC.pr {σ : kS} {nm ns n N S : Nat} (h : InC σ nm ns n N S) : ∀ k, ∃ z, σ 0 k = nI z ∧ z ≤ 5 := h.2.2.2.2.2.2.2.2.2.2.2.2.2.2.1
theorem InC.bo {σ : kS} {nm ns n N S : Nat} (h : InC σ nm ns n N S) : ∀ k, ∃ z, σ 1 k = nI z ∧ z ≤ 300 := h.2.2.2.2.2.2.2.2.2.2.2.2.2.2.2.1
theorem InC.qu {σ : kS} {nm ns n N S : Nat} (h : InC σ nm ns n N S) : ∀ k, ∃ z, σ 5 k = nI z ∧ z ≤ 1000 := h.2.2.2.2.2.2.2.2.2.2.2.2.2.2.2.2.1
theorem InC.ln {σ : kS} {nm ns n N S : Nat} (h : InC σ nm ns n N S) : ∀ k, k < 200 → LnI σ k := h.2.2.2.2.2.2.2.2.2.2.2.2.2.2.2.2.2.1
theorem InC.fr {σ : kS} {nm ns n N S : Nat} (h : InC σ nm ns n N S) : ∀ k, ns * 5 ≤ k → k < 200 → σ 10 k = 0 ∧ σ 13 k = -1 ∧ σ 14 k = 0 := h.2.2.2.2.2.2.2.2.2.2.2.2.2.2.2.2.2.2
/-- the law's arrays beside them -/
abbrev InA (σ α : kS) (nm ns N : Nat) : Prop := (∀ i, i < 5 → α 0 i = σ 0 i) ∧ (∀ i, i < 6 → α 0 (5 + i) = σ 1 i) ∧ (∀ k, k < ns → α 1 k = σ 7 k) ∧ (∀ k, k < ns * 5 → α 2 k = σ 13 k) ∧ (∀ z, z < 3 → α 3 (2 * z) = (exF σ (nI z) ns).1 ∧ α 3 (2 * z + 1) = (exF σ (nI z) ns).2) ∧ (α 4 0 = nI N) ∧ (α 4 1 = nI nm) ∧ (α 4 2 = nI ns)
theorem InA.ae {σ α : kS} {nm ns N : Nat} (h : InA σ α nm ns N) : ∀ i, i < 5 → α 0 i = σ 0 i := h.1
theorem InA.ab {σ α : kS} {nm ns N : Nat} (h : InA σ α nm ns N) : ∀ i, i < 6 → α 0 (5 + i) = σ 1 i := h.2.1
theorem InA.ap {σ α : kS} {nm ns N : Nat} (h : InA σ α nm ns N) : ∀ k, k < ns → α 1 k = σ 7 k := h.2.2.1
theorem InA.ac {σ α : kS} {nm ns N : Nat} (h : InA σ α nm ns N) : ∀ k, k < ns * 5 → α 2 k = σ 13 k := h.2.2.2.1
theorem InA.az {σ α : kS} {nm ns N : Nat} (h : InA σ α nm ns N) : ∀ z, z < 3 → α 3 (2 * z) = (exF σ (nI z) ns).1 ∧ α 3 (2 * z + 1) = (exF σ (nI z) ns).2 := h.2.2.2.2.1
theorem InA.g0 {σ α : kS} {nm ns N : Nat} (h : InA σ α nm ns N) : α 4 0 = nI N := h.2.2.2.2.2.1
theorem InA.g1 {σ α : kS} {nm ns N : Nat} (h : InA σ α nm ns N) : α 4 1 = nI nm := h.2.2.2.2.2.2.1
theorem InA.g2 {σ α : kS} {nm ns N : Nat} (h : InA σ α nm ns N) : α 4 2 = nI ns := h.2.2.2.2.2.2.2
def Inv (σ α : kS) (nm ns n N S : Nat) : Prop := InC σ nm ns n N S ∧ InA σ α nm ns N
def RI (σ α : kS) (n : Nat) : Prop := ∃ nm ns N S, Inv σ α nm ns n N S
theorem hsB_t {σ : kS} {k : Nat} (h : σ 14 k ≠ 0) : hsB σ k = true := if_neg h
theorem hsB_f {σ : kS} {k : Nat} (h : σ 14 k = 0) : hsB σ k = false := if_pos h
theorem agB_t {σ : kS} {k : Nat} (h : σ 13 k ≠ -1) : agB σ k = true := if_neg h
theorem agB_f {σ : kS} {k : Nat} (h : σ 13 k = -1) : agB σ k = false := if_pos h
/-- either nothing is agreed on a line, or a quantity -/
theorem InC.ag2 {σ : kS} {nm ns n N S : Nat} (h : InC σ nm ns n N S) {k : Nat} (hk : k < 200) : (σ 13 k = -1 ∧ agB σ k = false) ∨ (∃ a, a ≤ 100000 ∧ σ 13 k = nI a ∧ agB σ k = true) := by
  obtain ⟨c, mk, x, y, -, -, -, -, -, -, -, -, h9⟩ := h.ln k hk
  rcases h9 with ⟨h1, -⟩ | ⟨-, a, h1, h2⟩
  · exact Or.inl ⟨h1, agB_f h1⟩
  · exact Or.inr ⟨a, h1, h2, agB_t (by rw [h2]; exact nI_m1 (by omega))⟩
theorem InC.hs2 {σ : kS} {nm ns n N S : Nat} (h : InC σ nm ns n N S) {k : Nat} (hk : k < 200) (hg : agB σ k = false) : hsB σ k = false := by
  cases e : hsB σ k
  · rfl
  · rw [h.sgl k hk e] at hg; exact absurd hg (by decide)
theorem InC.agp {σ : kS} {nm ns n N S : Nat} (h : InC σ nm ns n N S) {k : Nat} (hk : k < 200) (hg : σ 13 k ≠ -1) : ¬ σ 13 k < 0 := by
  rcases h.ag2 hk with ⟨g, -⟩ | ⟨a, ha, g, -⟩
  · exact absurd g hg
  · rw [g]; exact nI_pos (by omega)
theorem InC.agn {σ : kS} {nm ns n N S : Nat} (_ : InC σ nm ns n N S) {k : Nat} (_ : k < 200) (hg : σ 13 k = -1) : σ 13 k < 0 := by
  rw [hg]; decide
theorem ne0 {E k : Nat} (h : E = k + 1) : ¬ E = 0 := by omega
theorem nI9 {x y : Nat} (h : nI x = nI y) (hx : x < 2 ^ 31) (hy : y < 2 ^ 31) : x = y := (nI_eq hx hy).mp h
/-- how often a line is counted -/
theorem InC.cn {σ : kS} {nm ns n N S : Nat} (h : InC σ nm ns n N S) {k : Nat} (hk : k < 200) : ∃ c, c ≤ 3 ∧ bc (σ 10 k) = nI c ∧ (σ 13 k = -1 → c ≤ 2) ∧ (σ 13 k ≠ -1 → 2 ≤ c) := by
  obtain ⟨c, mk, x, y, h1, h2, h3, h4, -, -, -, -, h9⟩ := h.ln k hk
  refine ⟨c, h1, by rw [h3]; exact h4, fun g => ?_, fun g => ?_⟩
  · rcases h9 with ⟨-, g2⟩ | ⟨g2, a, h5, h6⟩
    · exact g2
    · rw [h6] at g; exact absurd g (nI_m1 (by omega))
  · rcases h9 with ⟨g2, -⟩ | ⟨g2, -⟩
    · exact absurd g2 g
    · exact g2
