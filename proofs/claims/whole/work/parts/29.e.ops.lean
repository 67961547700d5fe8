/-! CLOSING, SIGNING, SETTLING -/
theorem Rel.cla {σ μ : kS} {nm ns n N S : Nat} (h : Rel σ μ nm ns n N S) {s : Nat} (hs : s < 40) : ∀ k, k ≤ 5 → clA σ s k = clM μ s k
  | 0, _ => rfl
  | k + 1, hk => by
    rw [clA, clM, Rel.cla h hs k (by omega), h.ab (by omega)]
    unfold grM
    by_cases c : agM μ (s * 5 + k) = -1
    · simp [c]
    · simp [c]
theorem Rel.cnt0 {σ μ : kS} {nm ns n N S : Nat} (h : Rel σ μ nm ns n N S) {k : Nat} (hk : k < 200) : (μ 20 k ≤ 0) ↔ μ 20 k = 0 := by
  obtain ⟨c, mk, h1, h2, h3, h4, h5, h6, h7, h8, h9⟩ := h.ln k hk
  rw [h3]
  by_cases q : c = 0
  · subst q; decide
  · exact ⟨fun h9 => absurd h9 (nI_nle (by omega) (by omega)), fun h9 => absurd h9 (nI_ne0 (by omega) (by omega))⟩
theorem Rel.clb {σ μ : kS} {nm ns n N S : Nat} (h : Rel σ μ nm ns n N S) {s : Nat} (hs : s < 40) : ∀ k, k ≤ 5 → clB σ s k = alM μ s k
  | 0, _ => rfl
  | k + 1, hk => by
    rw [clB, alM, Rel.clb h hs k (by omega), h.ab (by omega), h.cnt (by omega)]
    have e := h.cnt0 (k := s * 5 + k) (by omega)
    unfold grM
    cases alM μ s k
    · simp
    · by_cases c : agM μ (s * 5 + k) = -1
      · by_cases c2 : μ 20 (s * 5 + k) = 0
        · simp [c, c2]
        · have c3 : ¬ μ 20 (s * 5 + k) ≤ 0 := fun q => c2 (e.mp q)
          rw [if_pos rfl, if_pos rfl, if_pos c, if_pos c, if_neg (by decide), if_neg c3, if_neg c2]
      · rw [if_pos rfl, if_pos rfl, if_neg c, if_neg c, if_pos rfl]
theorem Rel.wcl {σ μ : kS} {nm ns n N S : Nat} (h : Rel σ μ nm ns n N S) {i : Nat} (hi : i < ns) : Rel (su σ 9 i 1) (su μ 9 i 1) nm ns n N S := by
  refine ⟨eqW h.eq rfl 9 i, h.hns, h.hns4, h.hnm, h.hnm2, h.now, h.hN, h.sgs, h.hS, h.sig, fun k => ?_, h.cut, fun a b hab hb => ?_, h.pr, h.qu, h.cq, h.lns (fun r i h1 h2 => su_ne (by omega)) (fun r i h1 h2 => su_ne (by omega))⟩
  · by_cases c : k = i
    · subst c
      rw [su_at]
      exact ⟨Or.inr rfl, fun h9 => by omega⟩
    · rw [su_nat c]
      exact h.st k
  · show μ 7 a = μ 7 b → su μ 9 i 1 9 a = 1
    intro h7
    by_cases c : a = i
    · subst c
      rw [su_at]
    · rw [su_nat c]
      exact h.one a b hab hb h7
theorem op_close {σ μ : kS} {nm ns n N S : Nat} (h : Rel σ μ nm ns n N S) (hn : n < 600) (x1 : Int32) : (eX_close σ x1 = 0 → (sM (ckR x1 0 (μ 18 0 - 1), ckR x1 0 (μ 18 0 - 1) && decide (μ 9 (ixN x1) = 0) && alM μ (ixN x1) 5, true) μ (fun κ => su κ 9 (ixN x1) 1)) 23 0 = 0 ∧ ((clA σ (ixN x1) 5 : Int32).toInt64) = (vM (ckR x1 0 (μ 18 0 - 1), ckR x1 0 (μ 18 0 - 1) && decide (μ 9 (ixN x1) = 0) && alM μ (ixN x1) 5, true) (clM μ (ixN x1) 5) : Int32).toInt64 ∧ RR ((su σ 9 (ixN x1) 1)) (sM (ckR x1 0 (μ 18 0 - 1), ckR x1 0 (μ 18 0 - 1) && decide (μ 9 (ixN x1) = 0) && alM μ (ixN x1) 5, true) μ (fun κ => su κ 9 (ixN x1) 1)) (n + 1)) ∧ (eX_close σ x1 ≠ 0 → (sM (ckR x1 0 (μ 18 0 - 1), ckR x1 0 (μ 18 0 - 1) && decide (μ 9 (ixN x1) = 0) && alM μ (ixN x1) 5, true) μ (fun κ => su κ 9 (ixN x1) 1)) 23 0 = (if eX_close σ x1 = 1 then 1 else if eX_close σ x1 = 3 then 2 else 3) ∧ RR σ (sM (ckR x1 0 (μ 18 0 - 1), ckR x1 0 (μ 18 0 - 1) && decide (μ 9 (ixN x1) = 0) && alM μ (ixN x1) 5, true) μ (fun κ => su κ 9 (ixN x1) 1)) (n + 1)) := by
  refine op_gen3 h ?_ (fun g => ?_) rfl (fun g h9 => ?_)
  · unfold eX_close
    rw [h.ckS, h.e 9 (ixN x1)]
    cases c1 : ckR x1 0 (μ 18 0 - 1)
    · simp [go3, goV]
    · obtain ⟨i, hi, rfl⟩ := h.shn c1
      have h4 := h.hns4
      rw [ixN_nI (by omega), h.clb (s := i) (by omega) 5 (Nat.le_refl 5)]
      by_cases c2 : μ 9 i = 0
      · cases alM μ i 5
        · simp [go3, goV, c2]
        · simp [go3, goV, c2]
      · simp [go3, goV, c2]
  · rw [vM_t g]
    obtain ⟨i, hi, rfl⟩ := h.shn (go3_t g).1
    have h4 := h.hns4
    rw [ixN_nI (by omega), h.cla (s := i) (by omega) 5 (Nat.le_refl 5)]
  · obtain ⟨i, hi, rfl⟩ := h.shn (go3_t g).1
    have h4 := h.hns4
    rw [ixN_nI (by omega)]
    exact ⟨nm, ns, N, S, (h9.wcl hi).upR⟩
theorem Rel.wsg {σ μ : kS} {nm ns n N S : Nat} (h : Rel σ μ nm ns n N S) (hS : S + 1 ≤ 2 * n) (k : Nat) (g : Int32) : Rel (wrS σ k g) (sgM μ k g) nm ns n N (S + 1) := by
  have e19 : σ 19 0 + 1 = μ 19 0 + 1 := by rw [h.e 19 0]
  have e2 : μ 19 0 + 1 = nI (S + 1) := by rw [h.sgs, nI_succ]
  have es : ∀ r i9, (9 < r ∧ r < 14) → wrS σ k g r i9 = σ r i9 := fun r i9 hr => by
    unfold wrS
    rw [su_ne (by omega), su_ne (by omega), su_ne (by omega)]
  have em : ∀ r i9, (19 < r ∧ r < 23) → sgM μ k g r i9 = μ r i9 := fun r i9 hr => by
    unfold sgM
    rw [su_ne (by omega), su_ne (by omega), su_ne (by omega)]
  refine ⟨eqW (eqW (eqW h.eq e19 19 0) e19 14 k) rfl 15 k, h.hns, h.hns4, h.hnm, h.hnm2, h.now, h.hN, ?_, hS, fun j => ?_, h.st, h.cut, h.one, h.pr, h.qu, h.cq, h.lns (fun r i h1 h2 => es r i ⟨h1, h2⟩) (fun r i h1 h2 => em r i ⟨h1, h2⟩)⟩
  · show su μ 19 0 (μ 19 0 + 1) 19 0 = nI (S + 1)
    rw [su_at, e2]
  · show ∃ z, su μ 14 k (μ 19 0 + 1) 14 j = nI z ∧ z ≤ S + 1
    by_cases c : j = k
    · subst c
      exact ⟨S + 1, by rw [su_at, e2], Nat.le_refl _⟩
    · rw [su_nat c]
      obtain ⟨z, h1, h2⟩ := h.sig j
      exact ⟨z, h1, by omega⟩
theorem abV_M (x : Int32) : abV x = abM x := by
  unfold abV abM
  rw [Int32.zero_sub]
theorem op_sign {σ μ : kS} {nm ns n N S : Nat} (h : Rel σ μ nm ns n N S) (hn : n < 600) (x1 x2 x3 : Int32) : (eX_sign σ nm ns x1 x2 x3 = 0 → (sM (ckR x1 0 (μ 18 0 - 1) && ckR x2 0 4 && ckR x3 0 5, ckR x1 0 (μ 18 0 - 1) && ckR x2 0 4 && ckR x3 0 5 && grM μ (lnN x1 x2), ckR x1 0 (μ 18 0 - 1) && ckR x2 0 4 && ckR x3 0 5 && grM μ (lnN x1 x2) && (decide (μ 9 (ixN x1) = 1) && decide (μ 14 (lnN x1 x2) = 0) && decide (μ 0 (ixN x2) * abM (gpM μ nm ns (ixN x1) (ixN x2)) ≤ μ 1 (ixN x3)))) μ (fun κ => sgM κ (lnN x1 x2) (gpM μ nm ns (ixN x1) (ixN x2)))) 23 0 = 0 ∧ ((gpV σ nm ns (ixN x1) (ixN x2) : Int32).toInt64) = (vM (ckR x1 0 (μ 18 0 - 1) && ckR x2 0 4 && ckR x3 0 5, ckR x1 0 (μ 18 0 - 1) && ckR x2 0 4 && ckR x3 0 5 && grM μ (lnN x1 x2), ckR x1 0 (μ 18 0 - 1) && ckR x2 0 4 && ckR x3 0 5 && grM μ (lnN x1 x2) && (decide (μ 9 (ixN x1) = 1) && decide (μ 14 (lnN x1 x2) = 0) && decide (μ 0 (ixN x2) * abM (gpM μ nm ns (ixN x1) (ixN x2)) ≤ μ 1 (ixN x3)))) (gpM μ nm ns (ixN x1) (ixN x2)) : Int32).toInt64 ∧ RR ((wrS σ (lnN x1 x2) (gpV σ nm ns (ixN x1) (ixN x2)))) (sM (ckR x1 0 (μ 18 0 - 1) && ckR x2 0 4 && ckR x3 0 5, ckR x1 0 (μ 18 0 - 1) && ckR x2 0 4 && ckR x3 0 5 && grM μ (lnN x1 x2), ckR x1 0 (μ 18 0 - 1) && ckR x2 0 4 && ckR x3 0 5 && grM μ (lnN x1 x2) && (decide (μ 9 (ixN x1) = 1) && decide (μ 14 (lnN x1 x2) = 0) && decide (μ 0 (ixN x2) * abM (gpM μ nm ns (ixN x1) (ixN x2)) ≤ μ 1 (ixN x3)))) μ (fun κ => sgM κ (lnN x1 x2) (gpM μ nm ns (ixN x1) (ixN x2)))) (n + 1)) ∧ (eX_sign σ nm ns x1 x2 x3 ≠ 0 → (sM (ckR x1 0 (μ 18 0 - 1) && ckR x2 0 4 && ckR x3 0 5, ckR x1 0 (μ 18 0 - 1) && ckR x2 0 4 && ckR x3 0 5 && grM μ (lnN x1 x2), ckR x1 0 (μ 18 0 - 1) && ckR x2 0 4 && ckR x3 0 5 && grM μ (lnN x1 x2) && (decide (μ 9 (ixN x1) = 1) && decide (μ 14 (lnN x1 x2) = 0) && decide (μ 0 (ixN x2) * abM (gpM μ nm ns (ixN x1) (ixN x2)) ≤ μ 1 (ixN x3)))) μ (fun κ => sgM κ (lnN x1 x2) (gpM μ nm ns (ixN x1) (ixN x2)))) 23 0 = (if eX_sign σ nm ns x1 x2 x3 = 1 then 1 else if eX_sign σ nm ns x1 x2 x3 = 4 then 2 else 3) ∧ RR σ (sM (ckR x1 0 (μ 18 0 - 1) && ckR x2 0 4 && ckR x3 0 5, ckR x1 0 (μ 18 0 - 1) && ckR x2 0 4 && ckR x3 0 5 && grM μ (lnN x1 x2), ckR x1 0 (μ 18 0 - 1) && ckR x2 0 4 && ckR x3 0 5 && grM μ (lnN x1 x2) && (decide (μ 9 (ixN x1) = 1) && decide (μ 14 (lnN x1 x2) = 0) && decide (μ 0 (ixN x2) * abM (gpM μ nm ns (ixN x1) (ixN x2)) ≤ μ 1 (ixN x3)))) μ (fun κ => sgM κ (lnN x1 x2) (gpM μ nm ns (ixN x1) (ixN x2)))) (n + 1)) := by
  refine op_gen3 h ?_ (fun g => ?_) rfl (fun g h9 => ?_)
  · unfold eX_sign
    rw [h.ckS, ck5, ck6]
    cases c1 : ckR x1 0 (μ 18 0 - 1)
    · simp [go3, goV]
    · cases c2 : ckR x2 0 4
      · simp [go3, goV]
      · obtain ⟨q1, q2, q3, q4⟩ := h.lnx c1 c2
        cases c3 : ckR x3 0 5
        · simp [go3, goV]
        · have e9 : lnN x1 x2 = ixN x1 * 5 + ixN x2 := rfl
          rw [h.ab q4, h.sb hn q1 q3, h.gp hn q1 q3, abV_M, h.e 0 (ixN x2), h.e 1 (ixN x3), ← e9]
          cases c4 : grM μ (lnN x1 x2)
          · simp [go3, goV]
          · by_cases c5 : μ 9 (ixN x1) = 1
            · by_cases c6 : μ 14 (lnN x1 x2) = 0
              · by_cases c7 : μ 0 (ixN x2) * abM (gpM μ nm ns (ixN x1) (ixN x2)) ≤ μ 1 (ixN x3)
                · simp [go3, goV, c5, c6, c7]
                · simp [go3, goV, c5, c6, c7]
              · simp [go3, goV, c5, c6]
            · simp [go3, goV, c5]
  · rw [vM_t g]
    obtain ⟨c3, -⟩ := bAnd (go3_t g).1
    obtain ⟨c1, c2⟩ := bAnd c3
    obtain ⟨q1, q2, q3, q4⟩ := h.lnx c1 c2
    rw [h.gp hn q1 q3]
  · obtain ⟨c3, -⟩ := bAnd (go3_t g).1
    obtain ⟨c1, c2⟩ := bAnd c3
    obtain ⟨q1, q2, q3, q4⟩ := h.lnx c1 c2
    rw [h.gp hn q1 q3]
    have hS := h.hS
    exact ⟨nm, ns, N, S + 1, h9.upR.wsg (by omega) _ _⟩
theorem ab_le (x : Int32) : abV x = if x ≤ 0 then -x else x := by
  rw [abV_M]
  unfold abM
  by_cases c : x ≤ 0
  · by_cases c2 : 0 ≤ x
    · have c3 : x = 0 := Int32.le_antisymm c c2
      subst c3
      decide
    · rw [if_pos c, if_neg c2]
  · rw [if_neg c, if_pos (Int32.le_of_lt (nle_lt c))]
theorem op_settle {σ μ : kS} {nm ns n N S : Nat} (h : Rel σ μ nm ns n N S) (hn : n < 600) (x1 x2 x3 : Int32) : (eX_settle σ nm ns x1 x2 x3 = 0 → (sM (ckR x1 0 (μ 18 0 - 1) && ckR x2 0 (μ 18 0 - 1) && ckR x3 0 4, ckR x1 0 (μ 18 0 - 1) && ckR x2 0 (μ 18 0 - 1) && ckR x3 0 4 && (grM μ (lnN x1 x3) && grM μ (lnN x2 x3)), ckR x1 0 (μ 18 0 - 1) && ckR x2 0 (μ 18 0 - 1) && ckR x3 0 4 && (grM μ (lnN x1 x3) && grM μ (lnN x2 x3)) && ctM μ nm ns (ixN x1) (ixN x2) (ixN x3)) μ (fun κ => sgM (sgM κ (lnN x1 x3) (gpM κ nm ns (ixN x1) (ixN x3))) (lnN x2 x3) (-(gpM κ nm ns (ixN x1) (ixN x3))))) 23 0 = 0 ∧ ((abV (gpV σ nm ns (ixN x1) (ixN x3)) : Int32).toInt64) = (vM (ckR x1 0 (μ 18 0 - 1) && ckR x2 0 (μ 18 0 - 1) && ckR x3 0 4, ckR x1 0 (μ 18 0 - 1) && ckR x2 0 (μ 18 0 - 1) && ckR x3 0 4 && (grM μ (lnN x1 x3) && grM μ (lnN x2 x3)), ckR x1 0 (μ 18 0 - 1) && ckR x2 0 (μ 18 0 - 1) && ckR x3 0 4 && (grM μ (lnN x1 x3) && grM μ (lnN x2 x3)) && ctM μ nm ns (ixN x1) (ixN x2) (ixN x3)) (if gpM (su μ 23 0 0) nm ns (ixN x1) (ixN x3) ≤ 0 then -(gpM (su μ 23 0 0) nm ns (ixN x1) (ixN x3)) else gpM (su μ 23 0 0) nm ns (ixN x1) (ixN x3)) : Int32).toInt64 ∧ RR ((wrS (wrS σ (lnN x1 x3) (gpV σ nm ns (ixN x1) (ixN x3))) (lnN x2 x3) (-(gpV σ nm ns (ixN x1) (ixN x3))))) (sM (ckR x1 0 (μ 18 0 - 1) && ckR x2 0 (μ 18 0 - 1) && ckR x3 0 4, ckR x1 0 (μ 18 0 - 1) && ckR x2 0 (μ 18 0 - 1) && ckR x3 0 4 && (grM μ (lnN x1 x3) && grM μ (lnN x2 x3)), ckR x1 0 (μ 18 0 - 1) && ckR x2 0 (μ 18 0 - 1) && ckR x3 0 4 && (grM μ (lnN x1 x3) && grM μ (lnN x2 x3)) && ctM μ nm ns (ixN x1) (ixN x2) (ixN x3)) μ (fun κ => sgM (sgM κ (lnN x1 x3) (gpM κ nm ns (ixN x1) (ixN x3))) (lnN x2 x3) (-(gpM κ nm ns (ixN x1) (ixN x3))))) (n + 1)) ∧ (eX_settle σ nm ns x1 x2 x3 ≠ 0 → (sM (ckR x1 0 (μ 18 0 - 1) && ckR x2 0 (μ 18 0 - 1) && ckR x3 0 4, ckR x1 0 (μ 18 0 - 1) && ckR x2 0 (μ 18 0 - 1) && ckR x3 0 4 && (grM μ (lnN x1 x3) && grM μ (lnN x2 x3)), ckR x1 0 (μ 18 0 - 1) && ckR x2 0 (μ 18 0 - 1) && ckR x3 0 4 && (grM μ (lnN x1 x3) && grM μ (lnN x2 x3)) && ctM μ nm ns (ixN x1) (ixN x2) (ixN x3)) μ (fun κ => sgM (sgM κ (lnN x1 x3) (gpM κ nm ns (ixN x1) (ixN x3))) (lnN x2 x3) (-(gpM κ nm ns (ixN x1) (ixN x3))))) 23 0 = (if eX_settle σ nm ns x1 x2 x3 = 1 then 1 else if eX_settle σ nm ns x1 x2 x3 = 4 then 2 else 3) ∧ RR σ (sM (ckR x1 0 (μ 18 0 - 1) && ckR x2 0 (μ 18 0 - 1) && ckR x3 0 4, ckR x1 0 (μ 18 0 - 1) && ckR x2 0 (μ 18 0 - 1) && ckR x3 0 4 && (grM μ (lnN x1 x3) && grM μ (lnN x2 x3)), ckR x1 0 (μ 18 0 - 1) && ckR x2 0 (μ 18 0 - 1) && ckR x3 0 4 && (grM μ (lnN x1 x3) && grM μ (lnN x2 x3)) && ctM μ nm ns (ixN x1) (ixN x2) (ixN x3)) μ (fun κ => sgM (sgM κ (lnN x1 x3) (gpM κ nm ns (ixN x1) (ixN x3))) (lnN x2 x3) (-(gpM κ nm ns (ixN x1) (ixN x3))))) (n + 1)) := by
  refine op_gen3 h ?_ (fun g => ?_) rfl (fun g h9 => ?_)
  · unfold eX_settle
    rw [h.ckS, h.ckS, ck5]
    cases c1 : ckR x1 0 (μ 18 0 - 1)
    · simp [go3, goV]
    · cases c2 : ckR x2 0 (μ 18 0 - 1)
      · simp [go3, goV]
      · cases c3 : ckR x3 0 4
        · simp [go3, goV]
        · obtain ⟨q1, q2, q3, q4⟩ := h.lnx c1 c3
          obtain ⟨p1, p2, p3, p4⟩ := h.lnx c2 c3
          rw [h.ab q4, h.ab p4]
          cases c4 : grM μ (lnN x1 x3)
          · simp [go3, goV]
          · cases c5 : grM μ (lnN x2 x3)
            · simp [go3, goV]
            · rw [h.cst hn q1 p1 q3 c4 c5]
              cases ctM μ nm ns (ixN x1) (ixN x2) (ixN x3)
              · simp [go3, goV]
              · simp [go3, goV]
  · rw [vM_t g]
    obtain ⟨c3, c2⟩ := bAnd (go3_t g).1
    obtain ⟨c1, -⟩ := bAnd c3
    obtain ⟨q1, q2, q3, q4⟩ := h.lnx c1 c2
    rw [(h.r23 0).gp hn q1 q3, ab_le]
  · obtain ⟨c3, c2⟩ := bAnd (go3_t g).1
    obtain ⟨c1, -⟩ := bAnd c3
    obtain ⟨q1, q2, q3, q4⟩ := h.lnx c1 c2
    rw [(h.r23 0).gp hn q1 q3]
    have hS := h.hS
    exact ⟨nm, ns, N, S + 1 + 1, (h9.upR.wsg (by omega) _ _).wsg (by omega) _ _⟩
