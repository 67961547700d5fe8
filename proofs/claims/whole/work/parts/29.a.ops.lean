/-! THE FACTS ABOUT THE TWO SETS OF ROWS -/
theorem hcM_23 {μ : kS} {v who : Int32} {k : Nat} : ∀ {c : Nat}, hcM (su μ 23 0 v) k who c = hcM μ k who c
  | 0 => rfl
  | c + 1 => by
    rw [hcM, hcM, hcM_23]
    rfl
theorem Rel.r23 {σ μ : kS} {nm ns n N S : Nat} (h : Rel σ μ nm ns n N S) (v : Int32) : Rel σ (su μ 23 0 v) nm ns n N S := by
  refine ⟨?_, h.hns, h.hns4, h.hnm, h.hnm2, h.now, h.hN, h.sgs, h.hS, h.sig, h.st, h.cut, h.one, h.pr, h.qu, h.cq, ?_⟩
  · intro r i hr
    rw [h.eq r i hr]
    exact (z23 (by omega)).symm
  · intro k hk
    obtain ⟨c, mk, h1, h2, h3, h4, h5, h6, h7, h8, h9⟩ := h.ln k hk
    exact ⟨c, mk, h1, h2, h3, h4, h5, fun p hp => by rw [hcM_23]; exact h6 p hp, h7, h8, h9⟩
theorem RR.mono {σ μ : kS} {n : Nat} (h : RR σ μ n) : RR σ μ (n + 1) := by
  obtain ⟨nm, ns, N, S, h⟩ := h
  exact ⟨nm, ns, N, S, h.eq, h.hns, h.hns4, h.hnm, h.hnm2, h.now, Nat.le_trans h.hN (by omega), h.sgs, Nat.le_trans h.hS (by omega), h.sig, h.st, h.cut, h.one, h.pr, h.qu, h.cq, h.ln⟩
theorem Rel.up {σ μ : kS} {nm ns n N S : Nat} (h : Rel σ μ nm ns n N S) : RR σ μ (n + 1) := RR.mono ⟨nm, ns, N, S, h⟩
theorem Rel.e {σ μ : kS} {nm ns n N S : Nat} (h : Rel σ μ nm ns n N S) (r i : Nat) (hr : (r < 10 ∨ (13 < r ∧ r < 20)) := by decide) : σ r i = μ r i := h.eq r i hr
/-- the shape of every call -/
theorem op_gen {σ σ' μ : kS} {nm ns n N S : Nat} (h : Rel σ μ nm ns n N S) {E : Nat} {P : Bool × Bool × Bool} {pos : Int32} {F : kS → kS} {v : Int64} {V : Int32}
    (h1 : E = 0 → go3 P = true) (h2 : E ≠ 0 → go3 P = false ∧ goV P = pos) (hv : E = 0 → v = V.toInt64) (hF : E = 0 → F (su μ 23 0 0) 23 0 = 0) (hR : E = 0 → Rel σ (su μ 23 0 0) nm ns n N S → RR σ' (F (su μ 23 0 0)) (n + 1)) :
    (E = 0 → (sM P μ F) 23 0 = 0 ∧ v = (vM P V).toInt64 ∧ RR σ' (sM P μ F) (n + 1)) ∧ (E ≠ 0 → (sM P μ F) 23 0 = pos ∧ RR σ (sM P μ F) (n + 1)) := by
  refine ⟨fun hE => ?_, fun hE => ?_⟩
  · rw [sM_t (h1 hE), vM_t (h1 hE)]
    exact ⟨hF hE, hv hE, hR hE (h.r23 0)⟩
  · obtain ⟨g1, g2⟩ := h2 hE
    rw [sM_f g1, g2]
    exact ⟨rfl, (h.r23 pos).up⟩
theorem rd {σ μ : kS} {nm ns n N S : Nat} {E : Nat} (_ : E = 0) (h : Rel σ (su μ 23 0 0) nm ns n N S) : RR σ (su μ 23 0 0) (n + 1) := h.up
theorem ck_eq {x : Int32} {k : Nat} (hk : k ≤ 1000) : ckI x (nI k) = ckR x 0 (nI k - 1) := by
  have e : (nI k ≤ x) ↔ (nI k - 1 < x) := by
    cases k with
    | zero =>
      rw [show nI 0 - 1 = -1 from rfl, show nI 0 = 0 from rfl, Int32.le_iff_toInt_le, Int32.lt_iff_toInt_lt, show (0 : Int32).toInt = 0 from rfl, show (-1 : Int32).toInt = -1 from rfl]
      omega
    | succ k =>
      rw [nI_pred, Int32.le_iff_toInt_le, Int32.lt_iff_toInt_lt, nI_toInt (by omega), nI_toInt (by omega)]
      omega
  unfold ckI ckR
  by_cases h1 : x < 0
  · simp [h1]
  · by_cases h2 : nI k ≤ x
    · simp [h1, h2, e.mp h2]
    · simp [h1, h2, (not_congr e).mp h2]
theorem ck12 {x : Int32} : ckI x 12 = ckR x 0 11 := ck_eq (k := 12) (by decide)
theorem ck5 {x : Int32} : ckI x 5 = ckR x 0 4 := ck_eq (k := 5) (by decide)
theorem ck6 {x : Int32} : ckI x 6 = ckR x 0 5 := ck_eq (k := 6) (by decide)
theorem ck3 {x : Int32} : ckI x 3 = ckR x 0 2 := ck_eq (k := 3) (by decide)
theorem Rel.ckS {σ μ : kS} {nm ns n N S : Nat} (h : Rel σ μ nm ns n N S) (x : Int32) : ckI x (σ 18 0) = ckR x 0 (μ 18 0 - 1) := by
  rw [h.e 18 0, h.hns]
  exact ck_eq (by have := h.hns4; omega)
theorem op_now {σ μ : kS} {nm ns n N S : Nat} (h : Rel σ μ nm ns n N S) (hn : n < 600) : σ 16 0 = μ 16 0 ∧ RR σ (su μ 23 0 0) (n + 1) := by
  exact ⟨h.e 16 0, (h.r23 0).up⟩
theorem op_moves {σ μ : kS} {nm ns n N S : Nat} (h : Rel σ μ nm ns n N S) (hn : n < 600) : σ 17 0 = μ 17 0 ∧ RR σ (su μ 23 0 0) (n + 1) := by
  exact ⟨h.e 17 0, (h.r23 0).up⟩
theorem op_sheets {σ μ : kS} {nm ns n N S : Nat} (h : Rel σ μ nm ns n N S) (hn : n < 600) : σ 18 0 = μ 18 0 ∧ RR σ (su μ 23 0 0) (n + 1) := by
  exact ⟨h.e 18 0, (h.r23 0).up⟩
theorem op_cutOf {σ μ : kS} {nm ns n N S : Nat} (h : Rel σ μ nm ns n N S) (hn : n < 600) (x1 : Int32) : (eX_one x1 (σ 18 0) = 0 → (sM (ckR x1 0 (μ 18 0 - 1), true, true) μ (fun κ => κ)) 23 0 = 0 ∧ ((σ 8 (ixN x1) : Int32).toInt64) = (vM (ckR x1 0 (μ 18 0 - 1), true, true) (μ 8 (ixN x1)) : Int32).toInt64 ∧ RR (σ) (sM (ckR x1 0 (μ 18 0 - 1), true, true) μ (fun κ => κ)) (n + 1)) ∧ (eX_one x1 (σ 18 0) ≠ 0 → (sM (ckR x1 0 (μ 18 0 - 1), true, true) μ (fun κ => κ)) 23 0 = (if eX_one x1 (σ 18 0) = 1 then 1 else 2) ∧ RR σ (sM (ckR x1 0 (μ 18 0 - 1), true, true) μ (fun κ => κ)) (n + 1)) := by
  refine op_gen h (fun hE => ?_) (fun hE => ?_) (fun _ => by rw [h.e 8]) (fun _ => rfl) rd
  · unfold eX_one at hE
    rw [h.ckS] at hE
    cases hc : ckR x1 0 (μ 18 0 - 1)
    · rw [hc] at hE; exact absurd hE (by decide)
    · rfl
  · unfold eX_one at hE ⊢
    rw [h.ckS] at hE ⊢
    cases hc : ckR x1 0 (μ 18 0 - 1)
    · exact ⟨rfl, rfl⟩
    · rw [hc] at hE; exact absurd rfl hE
