/-! STEPS: what the acts do to the rows -/
section SP
variable {σ σ' α : kS} {nm ns n N S : Nat}
theorem LnI.cg {k : Nat} (h : LnI σ k) (e : ∀ r, 9 < r → r < 14 → σ' r k = σ r k) : LnI σ' k := by
  obtain ⟨c, mk, x, y, h1, h2, h3, h4, h5, h6, h7, h8, h9⟩ := h
  refine ⟨c, mk, x, y, h1, h2, ?_, h4, ?_, h6, ?_, h8, ?_⟩
  · rw [e 10 (by decide) (by decide)]; exact h3
  · rw [e 11 (by decide) (by decide)]; exact h5
  · rw [e 12 (by decide) (by decide)]; exact h7
  · rw [e 13 (by decide) (by decide)]; exact h9
theorem InC.gA (h : InC σ nm ns n N S) (e : ∀ r i, 6 < r → r < 10 → σ' r i = σ r i) : (∀ k, (σ' 9 k = 0 ∨ σ' 9 k = 1) ∧ (ns ≤ k → σ' 9 k = 0)) ∧ (∀ k, ∃ z, σ' 8 k = nI z ∧ z ≤ N) ∧ (∀ k, ∃ z, σ' 7 k = nI z ∧ z < 12) ∧ (∀ i j, i < j → j < ns → σ' 7 i = σ' 7 j → σ' 9 i = 1) := by
  refine ⟨fun k => ?_, fun k => ?_, fun k => ?_, fun i j h1 h2 h3 => ?_⟩
  · rw [e 9 k (by decide) (by decide)]; exact h.st k
  · rw [e 8 k (by decide) (by decide)]; exact h.cut k
  · rw [e 7 k (by decide) (by decide)]; exact h.pls k
  · rw [e 7 i (by decide) (by decide), e 7 j (by decide) (by decide)] at h3
    rw [e 9 i (by decide) (by decide)]; exact h.one i j h1 h2 h3
theorem InC.gB (h : InC σ nm ns n N S) (e : ∀ r i, 9 < r → r < 15 → σ' r i = σ r i) : (∀ k, ∃ z, σ' 14 k = nI z ∧ z ≤ S) ∧ (∀ k, k < 200 → hsB σ' k = true → agB σ' k = true) ∧ (∀ k, k < 200 → LnI σ' k) ∧ (∀ k, ns * 5 ≤ k → k < 200 → σ' 10 k = 0 ∧ σ' 13 k = -1 ∧ σ' 14 k = 0) := by
  refine ⟨fun k => ?_, fun k hk => ?_, fun k hk => (h.ln k hk).cg (fun r h1 h2 => e r k h1 (by omega)), fun k h1 h2 => ?_⟩
  · rw [e 14 k (by decide) (by decide)]; exact h.sig k
  · unfold hsB agB
    rw [e 14 k (by decide) (by decide), e 13 k (by decide) (by decide)]
    exact h.sgl k hk
  · rw [e 10 k (by decide) (by decide), e 13 k (by decide) (by decide), e 14 k (by decide) (by decide)]
    exact h.fr k h1 h2
theorem exI_c {sh : Nat} : ∀ {a : Nat} {z : Int32 × Int32}, (∀ j, j < a → σ' 14 (sh * 5 + j) = σ 14 (sh * 5 + j) ∧ σ' 15 (sh * 5 + j) = σ 15 (sh * 5 + j)) → exI σ' sh a z = exI σ sh a z
  | 0, _, _ => rfl
  | a + 1, z, h => by
    rw [exI, exI, exI_c (fun j hj => h j (by omega))]
    unfold hsB
    rw [(h a (by omega)).1, (h a (by omega)).2]
theorem exF_c {x : Int32} : ∀ {m : Nat}, (∀ k, k < m → σ' 7 k = σ 7 k) → (∀ k, k < m * 5 → σ' 14 k = σ 14 k ∧ σ' 15 k = σ 15 k) → exF σ' x m = exF σ x m
  | 0, _, _ => rfl
  | m + 1, h1, h2 => by
    rw [exF, exF, exF_c (fun k hk => h1 k (by omega)) (fun k hk => h2 k (by omega)), h1 m (by omega), exI_c (fun j hj => h2 (m * 5 + j) (by omega))]
theorem Inv.up (h : Inv σ α nm ns n N S) : Inv σ α nm ns (n + 1) N S := by
  obtain ⟨h, h'⟩ := h
  have := h.nmn
  have := h.Nn
  have := h.Sn
  exact ⟨⟨h.hns, h.ns12, h.hnm, by omega, h.now, by omega, h.sgs, by omega, h.sig, h.sgl, h.st, h.cut, h.pls, h.one, h.pr, h.bo, h.qu, h.ln, h.fr⟩, h'⟩
theorem Inv.ri (h : Inv σ α nm ns n N S) : RI σ α n := ⟨nm, ns, N, S, h⟩
/-- a row of the arrays written with what it held -/
theorem su_same {ρ : kS} {r i : Nat} {x : Int32} (h : x = ρ r i) : su ρ r i x = ρ := by
  funext r' j
  rw [su_g]
  by_cases c : r' = r
  · subst c
    rw [if_pos rfl]
    by_cases c2 : j = i
    · subst c2; rw [if_pos rfl, h]
    · rw [if_neg c2]
  · rw [if_neg c]
-- a move
theorem mv_o {f t a q i : Int32} {r j : Nat} (h : (r < 2 ∨ 6 < r) ∧ r ≠ 17 ∨ (j ≠ nm ∧ r ≠ 17)) : mvS σ nm f t a q i r j = σ r j := by
  have e : ∀ (ρ : kS) (r9 : Nat) (x : Int32), 1 < r9 → r9 < 7 → su ρ r9 nm x r j = ρ r j := fun ρ r9 x h1 h2 => by
    by_cases c : j = nm
    · exact su_ne (by omega)
    · exact su_nat c
  unfold mvS
  rw [su_ne (by omega), e _ 6 _ (by decide) (by decide), e _ 5 _ (by decide) (by decide), e _ 4 _ (by decide) (by decide), e _ 3 _ (by decide) (by decide), e _ 2 _ (by decide) (by decide)]
theorem mv_17 {f t a q i : Int32} (h : σ 17 0 = nI nm) : mvS σ nm f t a q i 17 0 = nI (nm + 1) := by
  unfold mvS
  rw [su_at, h, nI_succ]
theorem mv_at {f t a q i : Int32} : mvS σ nm f t a q i 2 nm = f ∧ mvS σ nm f t a q i 3 nm = t ∧ mvS σ nm f t a q i 4 nm = a ∧ mvS σ nm f t a q i 5 nm = q ∧ mvS σ nm f t a q i 6 nm = i := by
  unfold mvS
  refine ⟨?_, ?_, ?_, ?_, ?_⟩
  · rw [su_ne (by decide), su_ne (by decide), su_ne (by decide), su_ne (by decide), su_ne (by decide), su_at]
  · rw [su_ne (by decide), su_ne (by decide), su_ne (by decide), su_ne (by decide), su_at]
  · rw [su_ne (by decide), su_ne (by decide), su_ne (by decide), su_at]
  · rw [su_ne (by decide), su_ne (by decide), su_at]
  · rw [su_ne (by decide), su_at]
theorem Inv.mv (h : Inv σ α nm ns n N S) (f t a i : Int32) {q : Nat} (hq : q ≤ 1000) : Inv (mvS σ nm f t a (nI q) i) (su α 4 1 (nI (nm + 1))) (nm + 1) ns (n + 1) N S := by
  obtain ⟨h, g⟩ := h
  have e : ∀ r j, (r < 2 ∨ 6 < r) ∧ r ≠ 17 → mvS σ nm f t a (nI q) i r j = σ r j := fun r j hr => mv_o (Or.inl hr)
  obtain ⟨a1, a2, a3, a4⟩ := h.gA (σ' := mvS σ nm f t a (nI q) i) (fun r j h1 h2 => e r j (by omega))
  obtain ⟨b1, b2, b3, b4⟩ := h.gB (σ' := mvS σ nm f t a (nI q) i) (fun r j h1 h2 => e r j (by omega))
  have := h.nmn
  have := h.Nn
  have := h.Sn
  refine ⟨⟨by rw [e 18 0 (by omega)]; exact h.hns, h.ns12, mv_17 h.hnm, by omega, by rw [e 16 0 (by omega)]; exact h.now, by omega, by rw [e 19 0 (by omega)]; exact h.sgs, by omega, b1, b2, a1, a2, a3, a4, fun k => ?_, fun k => ?_, fun k => ?_, b3, b4⟩, fun i9 hi => ?_, fun i9 hi => ?_, fun k hk => ?_, fun k hk => ?_, fun z hz => ?_, ?_, su_at, ?_⟩
  · rw [e 0 k (by omega)]; exact h.pr k
  · rw [e 1 k (by omega)]; exact h.bo k
  · by_cases c : k = nm
    · subst c
      exact ⟨q, mv_at.2.2.2.1, hq⟩
    · rw [mv_o (Or.inr ⟨c, by decide⟩)]; exact h.qu k
  · rw [su_ne (by decide), e 0 i9 (by omega)]; exact g.ae i9 hi
  · rw [su_ne (by decide), e 1 i9 (by omega)]; exact g.ab i9 hi
  · rw [su_ne (by decide), e 7 k (by omega)]; exact g.ap k hk
  · rw [su_ne (by decide), e 13 k (by omega)]; exact g.ac k hk
  · rw [su_ne (by decide), su_ne (by decide), exF_c (fun k hk => e 7 k (by omega)) (fun k hk => ⟨e 14 k (by omega), e 15 k (by omega)⟩)]; exact g.az z hz
  · rw [su_nat (by decide)]; exact g.g0
  · rw [su_nat (by decide)]; exact g.g2
theorem br_mv {f t a q i pl ar af un : Int32} : ∀ {k : Nat}, k ≤ nm → brF (mvS σ nm f t a q i) pl ar af un k = brF σ pl ar af un k
  | 0, _ => rfl
  | k + 1, hk => by
    rw [brF, brF, br_mv (by omega)]
    unfold brT
    rw [mv_o (Or.inr ⟨by omega, by decide⟩), mv_o (Or.inr ⟨by omega, by decide⟩), mv_o (Or.inr ⟨by omega, by decide⟩), mv_o (Or.inr ⟨by omega, by decide⟩), mv_o (Or.inr ⟨by omega, by decide⟩)]
theorem ss_c {pl : Int32} {ar : Nat} {mi : Int32} : ∀ {m : Nat}, (∀ k, k < m → σ' 7 k = σ 7 k ∧ σ' 8 k = σ 8 k) → (∀ k, k < m * 5 → σ' 14 k = σ 14 k) → ar < 5 → ssO σ' pl ar mi m = ssO σ pl ar mi m
  | 0, _, _, _ => rfl
  | m + 1, h1, h2, h3 => by
    rw [ssO, ssO, ss_c (fun k hk => h1 k (by omega)) (fun k hk => h2 k (by omega)) h3]
    cases q : ssO σ pl ar mi m with
    | none =>
      unfold ssT hsB
      rw [(h1 m (by omega)).1, (h1 m (by omega)).2, h2 (m * 5 + ar) (by omega)]
    | some b =>
      have hb := ssO_lt q
      unfold ssT hsB strB
      dsimp only
      rw [(h1 m (by omega)).1, (h1 m (by omega)).2, h2 (m * 5 + ar) (by omega), (h1 b (by omega)).2, h2 (b * 5 + ar) (by omega)]
/-- what the newest move adds to a book that had z -/
def brD (pl ar af un f t a q i z : Int32) : Int32 := if a = ar then if af < i then if i ≤ un then if t = pl then z + q else if f = pl then z - q else z else z else z else z
theorem br_1 {f t a q i pl ar af un : Int32} : brF (mvS σ nm f t a q i) pl ar af un (nm + 1) = brD pl ar af un f t a q i (brF σ pl ar af un nm) := by
  obtain ⟨e1, e2, e3, e4, e5⟩ := mv_at (σ := σ) (nm := nm) (f := f) (t := t) (a := a) (q := q) (i := i)
  rw [brF, br_mv (Nat.le_refl _)]
  unfold brT brD
  rw [e1, e2, e3, e4, e5]
theorem brD_0 {pl ar af un f t a q i z : Int32} (h1 : ¬ f = pl) (h2 : ¬ t = pl) : brD pl ar af un f t a q i z = z := by
  unfold brD
  rw [if_neg h1, if_neg h2]
  repeat' split
  all_goals rfl
theorem brD_f {pl ar af un f t a q i z : Int32} (h1 : f = pl) (h2 : ¬ t = pl) : brD pl ar af un f t a q i z = z ∨ brD pl ar af un f t a q i z = z - q := by
  unfold brD
  rw [if_pos h1, if_neg h2]
  by_cases c1 : a = ar
  · by_cases c2 : af < i
    · by_cases c3 : i ≤ un
      · rw [if_pos c1, if_pos c2, if_pos c3]; exact Or.inr rfl
      · rw [if_pos c1, if_pos c2, if_neg c3]; exact Or.inl rfl
    · rw [if_pos c1, if_neg c2]; exact Or.inl rfl
  · rw [if_neg c1]; exact Or.inl rfl
theorem brD_t {pl ar af un f t a q i z : Int32} (h2 : t = pl) : brD pl ar af un f t a q i z = z ∨ brD pl ar af un f t a q i z = z + q := by
  unfold brD
  rw [if_pos h2]
  by_cases c1 : a = ar
  · by_cases c2 : af < i
    · by_cases c3 : i ≤ un
      · rw [if_pos c1, if_pos c2, if_pos c3]; exact Or.inr rfl
      · rw [if_pos c1, if_pos c2, if_neg c3]; exact Or.inl rfl
    · rw [if_pos c1, if_neg c2]; exact Or.inl rfl
  · rw [if_neg c1]; exact Or.inl rfl
/-- a book behind a move -/
theorem bo_mv {f t a q i pl mi : Int32} {ar : Nat} (har : ar < 5) : ∃ c z af, boV σ nm ns pl ar mi = c + z ∧ boV (mvS σ nm f t a q i) (nm + 1) ns pl ar mi = c + brD pl (nI ar) af mi f t a q i z := by
  have e : ∀ r j, (r < 2 ∨ 6 < r) ∧ r ≠ 17 → mvS σ nm f t a q i r j = σ r j := fun r j hr => mv_o (Or.inl hr)
  unfold boV
  rw [ss_c (σ' := mvS σ nm f t a q i) (σ := σ) (fun k hk => ⟨e 7 k (by omega), e 8 k (by omega)⟩) (fun k hk => e 14 k (by omega)) har]
  cases ssO σ pl ar mi ns with
  | none =>
    refine ⟨0, brF σ pl (nI ar) (-1) mi nm, -1, (Int32.zero_add _).symm, ?_⟩
    show brF (mvS σ nm f t a q i) pl (nI ar) (-1) mi (nm + 1) = _
    rw [br_1, Int32.zero_add]
  | some k =>
    refine ⟨σ 13 (k * 5 + ar), brF σ pl (nI ar) (σ 8 k) mi nm, σ 8 k, rfl, ?_⟩
    show mvS σ nm f t a q i 13 (k * 5 + ar) + brF (mvS σ nm f t a q i) pl (nI ar) (mvS σ nm f t a q i 8 k) mi (nm + 1) = _
    rw [br_1, e 13 _ (by omega), e 8 _ (by omega)]
theorem sub_self2 (x : Int32) : x - x = 0 := by rw [Int32.sub_self]
theorem sub_sub9 (x q : Int32) : x - (x - q) = q := by
  rw [Int32.sub_eq_add_neg, Int32.neg_sub, Int32.add_comm, Int32.sub_add_cancel]
theorem add_sub9 (x q : Int32) : x + q - x = q := by
  rw [Int32.add_comm, Int32.sub_eq_add_neg, Int32.add_assoc, ← Int32.sub_eq_add_neg, Int32.sub_self, Int32.add_zero]
theorem mv_from {f t a q i mi : Int32} {ar : Nat} (har : ar < 5) (hft : ¬ f = t) : boV σ nm ns f ar mi - boV (mvS σ nm f t a q i) (nm + 1) ns f ar mi = 0 ∨ boV σ nm ns f ar mi - boV (mvS σ nm f t a q i) (nm + 1) ns f ar mi = q := by
  obtain ⟨c, z, af, e1, e2⟩ := bo_mv (σ := σ) (nm := nm) (ns := ns) (f := f) (t := t) (a := a) (q := q) (i := i) (pl := f) (mi := mi) har
  rw [e1, e2]
  rcases brD_f (pl := f) (ar := nI ar) (af := af) (un := mi) (f := f) (t := t) (a := a) (q := q) (i := i) (z := z) rfl (fun h => hft h.symm) with h | h
  · left; rw [h, Int32.sub_self]
  · right; rw [h, show c + (z - q) = c + z - q by rw [Int32.sub_eq_add_neg, Int32.sub_eq_add_neg, Int32.add_assoc], sub_sub9]
theorem mv_to {f t a q i mi : Int32} {ar : Nat} (har : ar < 5) : boV (mvS σ nm f t a q i) (nm + 1) ns t ar mi - boV σ nm ns t ar mi = 0 ∨ boV (mvS σ nm f t a q i) (nm + 1) ns t ar mi - boV σ nm ns t ar mi = q := by
  obtain ⟨c, z, af, e1, e2⟩ := bo_mv (σ := σ) (nm := nm) (ns := ns) (f := f) (t := t) (a := a) (q := q) (i := i) (pl := t) (mi := mi) har
  rw [e1, e2]
  rcases brD_t (pl := t) (ar := nI ar) (af := af) (un := mi) (f := f) (t := t) (a := a) (q := q) (i := i) (z := z) rfl with h | h
  · left; rw [h, Int32.sub_self]
  · right; rw [h, ← Int32.add_assoc, add_sub9]
theorem mv_other {f t a q i pl mi : Int32} {ar : Nat} (har : ar < 5) (h1 : ¬ pl = f) (h2 : ¬ pl = t) : boV (mvS σ nm f t a q i) (nm + 1) ns pl ar mi = boV σ nm ns pl ar mi := by
  obtain ⟨c, z, af, e1, e2⟩ := bo_mv (σ := σ) (nm := nm) (ns := ns) (f := f) (t := t) (a := a) (q := q) (i := i) (pl := pl) (mi := mi) har
  rw [e1, e2, brD_0 (fun h => h1 h.symm) (fun h => h2 h.symm)]
end SP
