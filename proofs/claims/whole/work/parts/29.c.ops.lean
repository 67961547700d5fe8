/-! THE READERS -/
theorem op_gen3 {σ σ' μ : kS} {nm ns n N S : Nat} (h : Rel σ μ nm ns n N S) {E : Nat} {P : Bool × Bool × Bool} {pos : Int32} {F : kS → kS} {M9 : Prop}
    (hc : (E = 0 ∧ go3 P = true) ∨ (E ≠ 0 ∧ go3 P = false ∧ goV P = pos)) (hM : go3 P = true → M9) (hF : F (su μ 23 0 0) 23 0 = 0) (hR : go3 P = true → Rel σ (su μ 23 0 0) nm ns n N S → RR σ' (F (su μ 23 0 0)) (n + 1)) :
    (E = 0 → (sM P μ F) 23 0 = 0 ∧ M9 ∧ RR σ' (sM P μ F) (n + 1)) ∧ (E ≠ 0 → (sM P μ F) 23 0 = pos ∧ RR σ (sM P μ F) (n + 1)) := by
  rcases hc with ⟨e, g⟩ | ⟨e, g1, g2⟩
  · refine ⟨fun _ => ?_, fun h9 => absurd e h9⟩
    rw [sM_t g]
    exact ⟨hF, hM g, hR g (h.r23 0)⟩
  · refine ⟨fun h9 => absurd h9 e, fun _ => ?_⟩
    rw [sM_f g1, g2]
    exact ⟨rfl, (h.r23 pos).up⟩
theorem bAnd {a b : Bool} (h : (a && b) = true) : a = true ∧ b = true := by
  cases a
  · exact Bool.noConfusion h
  · exact ⟨rfl, h⟩
theorem Rel.shn {σ μ : kS} {nm ns n N S : Nat} (h : Rel σ μ nm ns n N S) {x : Int32} (hx : ckR x 0 (μ 18 0 - 1) = true) : ∃ j, j < ns ∧ x = nI j := by
  rw [h.hns] at hx
  exact ckR_nI hx (by have := h.hns4; omega)
theorem ar5 {x : Int32} (hx : ckR x 0 4 = true) : ∃ j, j < 5 ∧ x = nI j := ckR_lit (n := 4) hx (by decide)
theorem pe6 {x : Int32} (hx : ckR x 0 5 = true) : ∃ j, j < 6 ∧ x = nI j := ckR_lit (n := 5) hx (by decide)
theorem pl12 {x : Int32} (hx : ckR x 0 11 = true) : ∃ j, j < 12 ∧ x = nI j := ckR_lit (n := 11) hx (by decide)
theorem lnN_nI {a b : Nat} (ha : a < 40) (hb : b < 5) : lnN (nI a) (nI b) = a * 5 + b := by
  unfold lnN
  rw [ixN_nI (by omega), ixN_nI (by omega)]
/-- the sheet and the article of a line -/
theorem Rel.lnx {σ μ : kS} {nm ns n N S : Nat} (h : Rel σ μ nm ns n N S) {x y : Int32} (hx : ckR x 0 (μ 18 0 - 1) = true) (hy : ckR y 0 4 = true) : ixN x < 40 ∧ ixN x < ns ∧ ixN y < 5 ∧ lnN x y < 200 := by
  obtain ⟨i, hi, rfl⟩ := h.shn hx
  obtain ⟨j, hj, rfl⟩ := ar5 hy
  have h4 := h.hns4
  rw [lnN_nI (by omega) hj, ixN_nI (by omega), ixN_nI (by omega)]
  omega
theorem Rel.cnt {σ μ : kS} {nm ns n N S : Nat} (h : Rel σ μ nm ns n N S) {k : Nat} (hk : k < 200) : bc (σ 10 k) = μ 20 k := by
  obtain ⟨c, mk, h1, h2, h3, h4, h5, h6, h7, h8, h9⟩ := h.ln k hk
  rw [h3, h4, h5]
theorem Rel.exi {σ μ : kS} {nm ns n N S : Nat} (h : Rel σ μ nm ns n N S) (hn : n < 600) (z : Int32) (s : Nat) : ∀ a, a ≤ 5 → exM μ z (s * 5 + a) = if σ 7 s / 4 = z then exI σ s a (exM μ z (s * 5)) else exM μ z (s * 5)
  | 0, _ => by
    by_cases c : σ 7 s / 4 = z
    · rw [if_pos c]; rfl
    · rw [if_neg c]; rfl
  | a + 1, ha => by
    have ih := Rel.exi h hn z s a (by omega)
    rw [show s * 5 + (a + 1) = (s * 5 + a) + 1 by omega, exM, ih, show (s * 5 + a) / 5 = s by omega, exI, h.hs hn (s * 5 + a), ← h.e 7 s, h.e 15 (s * 5 + a)]
    by_cases c : σ 7 s / 4 = z
    · by_cases c2 : μ 14 (s * 5 + a) ≤ 0
      · simp [c, c2]
      · simp [c, c2]
    · simp [c]
theorem Rel.ex {σ μ : kS} {nm ns n N S : Nat} (h : Rel σ μ nm ns n N S) (hn : n < 600) (z : Int32) : ∀ s, exM μ z (s * 5) = exF σ z s
  | 0 => rfl
  | s + 1 => by
    have h1 := h.exi hn z s 5 (Nat.le_refl 5)
    rw [show (s + 1) * 5 = s * 5 + 5 by omega, h1, exF, Rel.ex h hn z s]
theorem Rel.xv {σ μ : kS} {nm ns n N S : Nat} (h : Rel σ μ nm ns n N S) (hn : n < 600) (z : Int32) : exV σ ns z = xvM μ ns z := by
  unfold exV xvM
  rw [Nat.mul_comm 5 ns, h.ex hn z ns]
theorem op_book {σ μ : kS} {nm ns n N S : Nat} (h : Rel σ μ nm ns n N S) (hn : n < 600) (x1 x2 : Int32) : (eX_two x1 12 x2 5 = 0 → (sM (ckR x1 0 11 && ckR x2 0 4, true, true) μ (fun κ => κ)) 23 0 = 0 ∧ ((boV σ nm ns x1 (ixN x2) (σ 16 0) : Int32).toInt64) = (vM (ckR x1 0 11 && ckR x2 0 4, true, true) (boM (su μ 23 0 0) nm ns x1 (ixN x2) (μ 16 0)) : Int32).toInt64 ∧ RR (σ) (sM (ckR x1 0 11 && ckR x2 0 4, true, true) μ (fun κ => κ)) (n + 1)) ∧ (eX_two x1 12 x2 5 ≠ 0 → (sM (ckR x1 0 11 && ckR x2 0 4, true, true) μ (fun κ => κ)) 23 0 = (if eX_two x1 12 x2 5 = 1 then 1 else 2) ∧ RR σ (sM (ckR x1 0 11 && ckR x2 0 4, true, true) μ (fun κ => κ)) (n + 1)) := by
  refine op_gen3 h ?_ (fun g => ?_) rfl (fun _ h9 => h9.up)
  · unfold eX_two
    rw [ck12, ck5]
    cases ckR x1 0 11 <;> cases ckR x2 0 4 <;> simp [go3, goV]
  · rw [vM_t g]
    obtain ⟨q1, q2⟩ := bAnd (go3_t g).1
    obtain ⟨j, hj, rfl⟩ := ar5 q2
    rw [ixN_nI (by omega), (h.r23 0).bo hn _ hj, h.e 16 0]
theorem op_bookAt {σ μ : kS} {nm ns n N S : Nat} (h : Rel σ μ nm ns n N S) (hn : n < 600) (x1 x2 x3 : Int32) : (eX_bookAt σ x1 x2 x3 = 0 → (sM (ckR x1 0 11 && ckR x2 0 4, ckR x3 0 (μ 16 0), true) μ (fun κ => κ)) 23 0 = 0 ∧ ((boV σ nm ns x1 (ixN x2) x3 : Int32).toInt64) = (vM (ckR x1 0 11 && ckR x2 0 4, ckR x3 0 (μ 16 0), true) (boM (su μ 23 0 0) nm ns x1 (ixN x2) x3) : Int32).toInt64 ∧ RR (σ) (sM (ckR x1 0 11 && ckR x2 0 4, ckR x3 0 (μ 16 0), true) μ (fun κ => κ)) (n + 1)) ∧ (eX_bookAt σ x1 x2 x3 ≠ 0 → (sM (ckR x1 0 11 && ckR x2 0 4, ckR x3 0 (μ 16 0), true) μ (fun κ => κ)) 23 0 = (if eX_bookAt σ x1 x2 x3 = 1 then 1 else if eX_bookAt σ x1 x2 x3 = 2 then 2 else 3) ∧ RR σ (sM (ckR x1 0 11 && ckR x2 0 4, ckR x3 0 (μ 16 0), true) μ (fun κ => κ)) (n + 1)) := by
  refine op_gen3 h ?_ (fun g => ?_) rfl (fun _ h9 => h9.up)
  · unfold eX_bookAt
    rw [ck12, ck5, h.e 16 0]
    cases ckR x1 0 11 <;> cases ckR x2 0 4 <;> cases ckR x3 0 (μ 16 0) <;> simp [go3, goV]
  · rw [vM_t g]
    obtain ⟨q1, q2⟩ := bAnd (go3_t g).1
    obtain ⟨j, hj, rfl⟩ := ar5 q2
    rw [ixN_nI (by omega), (h.r23 0).bo hn _ hj]
theorem op_worth {σ μ : kS} {nm ns n N S : Nat} (h : Rel σ μ nm ns n N S) (hn : n < 600) (x1 : Int32) : (eX_one x1 12 = 0 → (sM (ckR x1 0 11, true, true) μ (fun κ => κ)) 23 0 = 0 ∧ ((woF σ nm ns x1 5 : Int32).toInt64) = (vM (ckR x1 0 11, true, true) (woM (su μ 23 0 0) nm ns x1 5) : Int32).toInt64 ∧ RR (σ) (sM (ckR x1 0 11, true, true) μ (fun κ => κ)) (n + 1)) ∧ (eX_one x1 12 ≠ 0 → (sM (ckR x1 0 11, true, true) μ (fun κ => κ)) 23 0 = (if eX_one x1 12 = 1 then 1 else 2) ∧ RR σ (sM (ckR x1 0 11, true, true) μ (fun κ => κ)) (n + 1)) := by
  refine op_gen3 h ?_ (fun g => ?_) rfl (fun _ h9 => h9.up)
  · unfold eX_one
    rw [ck12]
    cases ckR x1 0 11 <;> simp [go3, goV]
  · rw [vM_t g, (h.r23 0).wo hn _ 5 (Nat.le_refl 5)]
theorem op_stateOf {σ μ : kS} {nm ns n N S : Nat} (h : Rel σ μ nm ns n N S) (hn : n < 600) (x1 : Int32) : (eX_one x1 (σ 18 0) = 0 → (sM (ckR x1 0 (μ 18 0 - 1), true, true) μ (fun κ => κ)) 23 0 = 0 ∧ (((if σ 9 (ixN x1) = 0 then 0 else 1) : Int32).toInt64) = (vM (ckR x1 0 (μ 18 0 - 1), true, true) (μ 9 (ixN x1)) : Int32).toInt64 ∧ RR (σ) (sM (ckR x1 0 (μ 18 0 - 1), true, true) μ (fun κ => κ)) (n + 1)) ∧ (eX_one x1 (σ 18 0) ≠ 0 → (sM (ckR x1 0 (μ 18 0 - 1), true, true) μ (fun κ => κ)) 23 0 = (if eX_one x1 (σ 18 0) = 1 then 1 else 2) ∧ RR σ (sM (ckR x1 0 (μ 18 0 - 1), true, true) μ (fun κ => κ)) (n + 1)) := by
  refine op_gen3 h ?_ (fun g => ?_) rfl (fun _ h9 => h9.up)
  · unfold eX_one
    rw [h.ckS]
    cases ckR x1 0 (μ 18 0 - 1) <;> simp [go3, goV]
  · rw [vM_t g, h.e 9 (ixN x1)]
    rcases (h.st (ixN x1)).1 with e | e
    · rw [e]; rfl
    · rw [e]; rfl
theorem op_counts {σ μ : kS} {nm ns n N S : Nat} (h : Rel σ μ nm ns n N S) (hn : n < 600) (x1 x2 : Int32) : (eX_two x1 (σ 18 0) x2 5 = 0 → (sM (ckR x1 0 (μ 18 0 - 1) && ckR x2 0 4, true, true) μ (fun κ => κ)) 23 0 = 0 ∧ ((bc (σ 10 (lnN x1 x2)) : Int32).toInt64) = (vM (ckR x1 0 (μ 18 0 - 1) && ckR x2 0 4, true, true) (μ 20 (lnN x1 x2)) : Int32).toInt64 ∧ RR (σ) (sM (ckR x1 0 (μ 18 0 - 1) && ckR x2 0 4, true, true) μ (fun κ => κ)) (n + 1)) ∧ (eX_two x1 (σ 18 0) x2 5 ≠ 0 → (sM (ckR x1 0 (μ 18 0 - 1) && ckR x2 0 4, true, true) μ (fun κ => κ)) 23 0 = (if eX_two x1 (σ 18 0) x2 5 = 1 then 1 else 2) ∧ RR σ (sM (ckR x1 0 (μ 18 0 - 1) && ckR x2 0 4, true, true) μ (fun κ => κ)) (n + 1)) := by
  refine op_gen3 h ?_ (fun g => ?_) rfl (fun _ h9 => h9.up)
  · unfold eX_two
    rw [h.ckS, ck5]
    cases ckR x1 0 (μ 18 0 - 1) <;> cases ckR x2 0 4 <;> simp [go3, goV]
  · obtain ⟨q1, q2⟩ := bAnd (go3_t g).1
    rw [vM_t g, h.cnt (h.lnx q1 q2).2.2.2]
theorem op_agreed {σ μ : kS} {nm ns n N S : Nat} (h : Rel σ μ nm ns n N S) (hn : n < 600) (x1 x2 : Int32) : (eX_two x1 (σ 18 0) x2 5 = 0 → (sM (ckR x1 0 (μ 18 0 - 1) && ckR x2 0 4, true, true) μ (fun κ => κ)) 23 0 = 0 ∧ ((σ 13 (lnN x1 x2) : Int32).toInt64) = (vM (ckR x1 0 (μ 18 0 - 1) && ckR x2 0 4, true, true) (agM (su μ 23 0 0) (lnN x1 x2)) : Int32).toInt64 ∧ RR (σ) (sM (ckR x1 0 (μ 18 0 - 1) && ckR x2 0 4, true, true) μ (fun κ => κ)) (n + 1)) ∧ (eX_two x1 (σ 18 0) x2 5 ≠ 0 → (sM (ckR x1 0 (μ 18 0 - 1) && ckR x2 0 4, true, true) μ (fun κ => κ)) 23 0 = (if eX_two x1 (σ 18 0) x2 5 = 1 then 1 else 2) ∧ RR σ (sM (ckR x1 0 (μ 18 0 - 1) && ckR x2 0 4, true, true) μ (fun κ => κ)) (n + 1)) := by
  refine op_gen3 h ?_ (fun g => ?_) rfl (fun _ h9 => h9.up)
  · unfold eX_two
    rw [h.ckS, ck5]
    cases ckR x1 0 (μ 18 0 - 1) <;> cases ckR x2 0 4 <;> simp [go3, goV]
  · obtain ⟨q1, q2⟩ := bAnd (go3_t g).1
    rw [vM_t g, (h.r23 0).ag (h.lnx q1 q2).2.2.2]
theorem op_gap {σ μ : kS} {nm ns n N S : Nat} (h : Rel σ μ nm ns n N S) (hn : n < 600) (x1 x2 : Int32) : (eX_gap σ x1 x2 = 0 → (sM (ckR x1 0 (μ 18 0 - 1) && ckR x2 0 4, ckR x1 0 (μ 18 0 - 1) && ckR x2 0 4 && grM μ (lnN x1 x2), true) μ (fun κ => κ)) 23 0 = 0 ∧ ((gpV σ nm ns (ixN x1) (ixN x2) : Int32).toInt64) = (vM (ckR x1 0 (μ 18 0 - 1) && ckR x2 0 4, ckR x1 0 (μ 18 0 - 1) && ckR x2 0 4 && grM μ (lnN x1 x2), true) (gpM (su μ 23 0 0) nm ns (ixN x1) (ixN x2)) : Int32).toInt64 ∧ RR (σ) (sM (ckR x1 0 (μ 18 0 - 1) && ckR x2 0 4, ckR x1 0 (μ 18 0 - 1) && ckR x2 0 4 && grM μ (lnN x1 x2), true) μ (fun κ => κ)) (n + 1)) ∧ (eX_gap σ x1 x2 ≠ 0 → (sM (ckR x1 0 (μ 18 0 - 1) && ckR x2 0 4, ckR x1 0 (μ 18 0 - 1) && ckR x2 0 4 && grM μ (lnN x1 x2), true) μ (fun κ => κ)) 23 0 = (if eX_gap σ x1 x2 = 1 then 1 else if eX_gap σ x1 x2 = 4 then 2 else 3) ∧ RR σ (sM (ckR x1 0 (μ 18 0 - 1) && ckR x2 0 4, ckR x1 0 (μ 18 0 - 1) && ckR x2 0 4 && grM μ (lnN x1 x2), true) μ (fun κ => κ)) (n + 1)) := by
  refine op_gen3 h ?_ (fun g => ?_) rfl (fun _ h9 => h9.up)
  · unfold eX_gap
    rw [h.ckS, ck5]
    cases c1 : ckR x1 0 (μ 18 0 - 1)
    · simp [go3, goV]
    · cases c2 : ckR x2 0 4
      · simp [go3, goV]
      · rw [h.ab (h.lnx c1 c2).2.2.2]
        cases grM μ (lnN x1 x2) <;> simp [go3, goV]
  · obtain ⟨q1, q2⟩ := bAnd (go3_t g).1
    rw [vM_t g, (h.r23 0).gp hn (h.lnx q1 q2).1 (h.lnx q1 q2).2.2.1]
theorem op_isSigned {σ μ : kS} {nm ns n N S : Nat} (h : Rel σ μ nm ns n N S) (hn : n < 600) (x1 x2 : Int32) : (eX_two x1 (σ 18 0) x2 5 = 0 → (sM (ckR x1 0 (μ 18 0 - 1) && ckR x2 0 4, true, true) μ (fun κ => κ)) 23 0 = 0 ∧ ((if bI (hsB σ (lnN x1 x2)) = 0 then 0 else 1)) = (if vM (ckR x1 0 (μ 18 0 - 1) && ckR x2 0 4, true, true) (if μ 14 (lnN x1 x2) ≤ 0 then 0 else 1) = 0 then 0 else 1 : Int64) ∧ RR (σ) (sM (ckR x1 0 (μ 18 0 - 1) && ckR x2 0 4, true, true) μ (fun κ => κ)) (n + 1)) ∧ (eX_two x1 (σ 18 0) x2 5 ≠ 0 → (sM (ckR x1 0 (μ 18 0 - 1) && ckR x2 0 4, true, true) μ (fun κ => κ)) 23 0 = (if eX_two x1 (σ 18 0) x2 5 = 1 then 1 else 2) ∧ RR σ (sM (ckR x1 0 (μ 18 0 - 1) && ckR x2 0 4, true, true) μ (fun κ => κ)) (n + 1)) := by
  refine op_gen3 h ?_ (fun g => ?_) rfl (fun _ h9 => h9.up)
  · unfold eX_two
    rw [h.ckS, ck5]
    cases ckR x1 0 (μ 18 0 - 1) <;> cases ckR x2 0 4 <;> simp [go3, goV]
  · rw [vM_t g, h.hs hn]
    by_cases c : μ 14 (lnN x1 x2) ≤ 0
    · rw [if_pos c, decide_eq_true c]; rfl
    · rw [if_neg c, decide_eq_false c]; rfl
theorem op_likely {σ μ : kS} {nm ns n N S : Nat} (h : Rel σ μ nm ns n N S) (hn : n < 600) (x1 x2 : Int32) : (eX_two x1 (σ 18 0) x2 5 = 0 → (sM (ckR x1 0 (μ 18 0 - 1) && ckR x2 0 4, true, true) μ (fun κ => κ)) 23 0 = 0 ∧ ((oI (flO (fun k => csB σ nm ns (ixN x1) k (ixN x2)) ns) : Int32).toInt64) = (vM (ckR x1 0 (μ 18 0 - 1) && ckR x2 0 4, true, true) (oI (fdn (fun k => lkB (su μ 23 0 0) nm ns (ixN x1) (ixN x2) k) 0 ns)) : Int32).toInt64 ∧ RR (σ) (sM (ckR x1 0 (μ 18 0 - 1) && ckR x2 0 4, true, true) μ (fun κ => κ)) (n + 1)) ∧ (eX_two x1 (σ 18 0) x2 5 ≠ 0 → (sM (ckR x1 0 (μ 18 0 - 1) && ckR x2 0 4, true, true) μ (fun κ => κ)) 23 0 = (if eX_two x1 (σ 18 0) x2 5 = 1 then 1 else 2) ∧ RR σ (sM (ckR x1 0 (μ 18 0 - 1) && ckR x2 0 4, true, true) μ (fun κ => κ)) (n + 1)) := by
  refine op_gen3 h ?_ (fun g => ?_) rfl (fun _ h9 => h9.up)
  · unfold eX_two
    rw [h.ckS, ck5]
    cases ckR x1 0 (μ 18 0 - 1) <;> cases ckR x2 0 4 <;> simp [go3, goV]
  · obtain ⟨q1, q2⟩ := bAnd (go3_t g).1
    rw [vM_t g, (h.r23 0).lk hn (h.lnx q1 q2).1 (h.lnx q1 q2).2.2.1]
theorem op_exact {σ μ : kS} {nm ns n N S : Nat} (h : Rel σ μ nm ns n N S) (hn : n < 600) (x1 : Int32) : (eX_one x1 3 = 0 → (sM (ckR x1 0 2, true, true) μ (fun κ => κ)) 23 0 = 0 ∧ ((exV σ ns x1 : Int32).toInt64) = (vM (ckR x1 0 2, true, true) (xvM (su μ 23 0 0) ns x1) : Int32).toInt64 ∧ RR (σ) (sM (ckR x1 0 2, true, true) μ (fun κ => κ)) (n + 1)) ∧ (eX_one x1 3 ≠ 0 → (sM (ckR x1 0 2, true, true) μ (fun κ => κ)) 23 0 = (if eX_one x1 3 = 1 then 1 else 2) ∧ RR σ (sM (ckR x1 0 2, true, true) μ (fun κ => κ)) (n + 1)) := by
  refine op_gen3 h ?_ (fun g => ?_) rfl (fun _ h9 => h9.up)
  · unfold eX_one
    rw [ck3]
    cases ckR x1 0 2 <;> simp [go3, goV]
  · rw [vM_t g, (h.r23 0).xv hn]
