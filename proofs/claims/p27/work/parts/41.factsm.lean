/-! FACTS: moves -/
def WI (G : kG) (o t a : Nat → Nat) (n : Nat) (H : Heap) : Prop := ∃ σ α, RI σ α n ∧ WQ G o t a σ σ α H
def plX (x : Int32) : Prop := x = -1 ∨ ∃ z : Nat, z < 12 ∧ x = nI z
theorem pl_of {j : Nat} (h : j < 13) : ∃ x, plX x ∧ nI j - 1 = x := by
  cases j with
  | zero => exact ⟨-1, Or.inl rfl, by decide⟩
  | succ k => exact ⟨nI k, Or.inr ⟨k, by omega, rfl⟩, nI_pred k⟩
theorem plX.nn {x : Int32} (h : plX x) (h0 : 0 ≤ x) : ∃ z : Nat, z < 12 ∧ x = nI z := by
  rcases h with h | h
  · rw [h] at h0; exact absurd h0 (by decide)
  · exact h
theorem plX.ck {x : Int32} (h : plX x) : ckP x = true := by
  unfold ckP
  rcases h with h | ⟨z, hz, h⟩
  · rw [if_pos h]
  · rw [h, ck12 hz]
    split <;> rfl
section FM
variable {σ : kS} {nm ns ar N : Nat} {x1 x2 : Int32}
/-- the book of a place, 0 for outside -/
def hd9 (σ : kS) (nm ns : Nat) (x : Int32) (ar : Nat) : Int32 := if 0 ≤ x then boV σ nm ns x ar (σ 16 0) else 0
theorem tV_bx {x : Int32} {v : Int32} (h : plX x) (h0 : 0 ≤ x) (h2 : ar < 5) : hcV (eX_two x 12 (nI ar) 5) (boV σ nm ns x (ixN (nI ar)) v) = boV σ nm ns x ar v := by
  obtain ⟨z, hz, e⟩ := h.nn h0
  subst e
  exact tV_book hz h2
theorem hd_p {x : Int32} (h0 : 0 ≤ x) : hd9 σ nm ns x ar = boV σ nm ns x ar (σ 16 0) := if_pos h0
theorem hd_n {x : Int32} (h0 : ¬ 0 ≤ x) : hd9 σ nm ns x ar = 0 := if_neg h0
theorem eM_2 {q i : Int32} (h1 : plX x1) (h2 : plX x2) (h3 : ar < 5) (h4 : x1 = x2) : eX_move σ x1 x2 (nI ar) q i = 2 := by
  unfold eX_move
  rw [h1.ck, h2.ck, ck5 h3, if_pos rfl, if_pos rfl, if_pos rfl, if_pos h4]
theorem eM_0 {q mi : Nat} (h1 : plX x1) (h2 : plX x2) (h3 : ar < 5) (h4 : ¬ x1 = x2) (h5 : 1 ≤ q ∧ q ≤ 1000) (h6 : mi ≤ N) (hnow : σ 16 0 = nI N) (hN : N < 2 ^ 31) (hnm : σ 17 0 = nI nm) (h7 : nm < 200) : eX_move σ x1 x2 (nI ar) (nI q) (nI mi) = 0 := by
  unfold eX_move
  rw [h1.ck, h2.ck, ck5 h3, if_pos rfl, if_pos rfl, if_pos rfl, if_neg h4, hnow, hnm, show ckR (nI q) 1 1000 = true from ckR_ok (a := 1) (b := 1000) h5.1 h5.2 (by decide), show ckR (nI mi) 0 (nI N) = true from ckR_ok (a := 0) (Nat.zero_le _) h6 hN, if_pos rfl, if_pos rfl, if_pos (show nI nm < 200 from nI_lt (b := 200) h7 (by decide))]
theorem eM_a (σ : kS) : eX_move σ 12 0 0 0 0 = 1 := by
  unfold eX_move
  rw [show ckP 12 = false from by decide]
  rfl
theorem eM_b (σ : kS) : eX_move σ 0 1 5 1 0 = 1 := by
  unfold eX_move
  rw [show ckP 0 = true from by decide, show ckP 1 = true from by decide, show ckI 5 5 = false from by decide]
  rfl
theorem eM_c (σ : kS) : eX_move σ 0 1 0 1001 0 = 2 := by
  unfold eX_move
  rw [show ckP 0 = true from by decide, show ckP 1 = true from by decide, show ckI 0 5 = true from by decide, show ckR 1001 1 1000 = false from by decide]
  rfl
theorem eM_d (hnow : σ 16 0 = nI N) (hN : N < 5000) : eX_move σ 0 1 0 1 (nI (N + 1)) = 2 := by
  unfold eX_move
  rw [show ckP 0 = true from by decide, show ckP 1 = true from by decide, show ckI 0 5 = true from by decide, show ckR 1 1 1000 = true from by decide, hnow, show ckR (nI (N + 1)) 0 (nI N) = false from ckR_hi (a := 0) (Nat.zero_le _) (by omega) (by omega)]
  rfl
theorem mv_F {σ1 : kS} {q i : Int32} (h : σ1 = mvS σ nm x1 x2 (nI ar) q i) (har : ar < 5) (hft : ¬ x1 = x2) (h0 : 0 ≤ x1) : hd9 σ nm ns x1 ar - boV σ1 (nm + 1) ns x1 ar (σ1 16 0) = 0 ∨ hd9 σ nm ns x1 ar - boV σ1 (nm + 1) ns x1 ar (σ1 16 0) = q := by
  rw [hd_p h0, h, mv_o (Or.inl (by decide))]
  exact mv_from har hft
theorem mv_T {σ1 : kS} {q i : Int32} (h : σ1 = mvS σ nm x1 x2 (nI ar) q i) (har : ar < 5) (h0 : 0 ≤ x2) : boV σ1 (nm + 1) ns x2 ar (σ1 16 0) - hd9 σ nm ns x2 ar = 0 ∨ boV σ1 (nm + 1) ns x2 ar (σ1 16 0) - hd9 σ nm ns x2 ar = q := by
  rw [hd_p h0, h, mv_o (Or.inl (by decide))]
  exact mv_to har
theorem mv_O {σ1 : kS} {q i : Int32} {ot : Nat} (h : σ1 = mvS σ nm x1 x2 (nI ar) q i) (har : ar < 5) (h1 : ¬ nI ot = x1) (h2 : ¬ nI ot = x2) : boV σ1 (nm + 1) ns (nI ot) ar (σ1 16 0) = boV σ nm ns (nI ot) ar (σ 16 0) := by
  rw [h, mv_o (Or.inl (by decide))]
  exact mv_other har h1 h2
end FM
