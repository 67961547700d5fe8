/-! FACTS: what helpers tell, sheets -/
theorem bft (b : Bool) : b = false ∨ b = true := by cases b; exact Or.inl rfl; exact Or.inr rfl
theorem lnN_e {k i : Nat} (hk : k < 40) (hi : i < 5) : lnN (nI k) (nI i) = k * 5 + i := by
  unfold lnN
  rw [ixN_nI (by omega), ixN_nI (by omega)]
section FA
variable {σ : kS} {nm ns k i N : Nat}
theorem eT_line (hns : σ 18 0 = nI ns) (h4 : ns ≤ 40) (hk : k < ns) (hi : i < 5) : eX_two (nI k) (σ 18 0) (nI i) 5 = 0 := by
  unfold eX_two
  rw [hns, ckI_ok hk (by omega), ck5 hi]
  rfl
theorem tV_line (hns : σ 18 0 = nI ns) (h4 : ns ≤ 40) (hk : k < ns) (hi : i < 5) (v : Nat → Int32) : hcV (eX_two (nI k) (σ 18 0) (nI i) 5) (v (lnN (nI k) (nI i))) = v (k * 5 + i) := by
  rw [hcV_0 (eT_line hns h4 hk hi), lnN_e (by omega) hi]
theorem tV_lik (hns : σ 18 0 = nI ns) (h4 : ns ≤ 40) (hk : k < ns) (hi : i < 5) : hcV (eX_two (nI k) (σ 18 0) (nI i) 5) (oI (flO (fun j => csB σ nm ns (ixN (nI k)) j (ixN (nI i))) ns)) = oI (flO (fun j => csB σ nm ns k j i) ns) := by
  rw [hcV_0 (eT_line hns h4 hk hi), ixN_nI (by omega), ixN_nI (by omega)]
theorem eT_gap (hns : σ 18 0 = nI ns) (h4 : ns ≤ 40) (hk : k < ns) (hi : i < 5) (hg : agB σ (k * 5 + i) = true) : eX_gap σ (nI k) (nI i) = 0 := by
  unfold eX_gap
  rw [hns, ckI_ok hk (by omega), ck5 hi, lnN_e (by omega) hi, hg]
  rfl
theorem eN_gap (hns : σ 18 0 = nI ns) (h4 : ns ≤ 40) (hk : k < ns) (hi : i < 5) (hg : agB σ (k * 5 + i) = false) : eX_gap σ (nI k) (nI i) = 4 := by
  unfold eX_gap
  rw [hns, ckI_ok hk (by omega), ck5 hi, lnN_e (by omega) hi, hg]
  rfl
theorem tV_gap (hns : σ 18 0 = nI ns) (h4 : ns ≤ 40) (hk : k < ns) (hi : i < 5) (hg : agB σ (k * 5 + i) = true) : hcV (eX_gap σ (nI k) (nI i)) (gpV σ nm ns (ixN (nI k)) (ixN (nI i))) = gpV σ nm ns k i := by
  rw [hcV_0 (eT_gap hns h4 hk hi hg), ixN_nI (by omega), ixN_nI (by omega)]
theorem eT_one (hns : σ 18 0 = nI ns) (h4 : ns ≤ 40) (hk : k < ns) : eX_one (nI k) (σ 18 0) = 0 := by
  unfold eX_one
  rw [hns, ckI_ok hk (by omega)]
  rfl
theorem tV_st0 (hns : σ 18 0 = nI ns) (h4 : ns ≤ 40) (hk : k < ns) (h : σ 9 k = 0) : hcV (eX_one (nI k) (σ 18 0)) (if σ 9 (ixN (nI k)) = 0 then 0 else 1) = 0 := by
  rw [hcV_0 (eT_one hns h4 hk), ixN_nI (by omega), if_pos h]
theorem tV_st1 (hns : σ 18 0 = nI ns) (h4 : ns ≤ 40) (hk : k < ns) (h : ¬ σ 9 k = 0) : hcV (eX_one (nI k) (σ 18 0)) (if σ 9 (ixN (nI k)) = 0 then 0 else 1) = 1 := by
  rw [hcV_0 (eT_one hns h4 hk), ixN_nI (by omega), if_neg h]
theorem tV_cut (hns : σ 18 0 = nI ns) (h4 : ns ≤ 40) (hk : k < ns) : hcV (eX_one (nI k) (σ 18 0)) (σ 8 (ixN (nI k))) = σ 8 k := by
  rw [hcV_0 (eT_one hns h4 hk), ixN_nI (by omega)]
theorem eT_bookAt {pl ar mi : Nat} (h1 : pl < 12) (h2 : ar < 5) (hnow : σ 16 0 = nI N) (h3 : mi ≤ N) (hN : N < 2 ^ 31) : eX_bookAt σ (nI pl) (nI ar) (nI mi) = 0 := by
  unfold eX_bookAt
  rw [ck12 h1, ck5 h2, hnow, show ckR (nI mi) 0 (nI N) = true from ckR_ok (a := 0) (Nat.zero_le _) h3 hN]
  rfl
theorem tV_bookAt {pl ar mi : Nat} (h1 : pl < 12) (h2 : ar < 5) (hnow : σ 16 0 = nI N) (h3 : mi ≤ N) (hN : N < 2 ^ 31) : hcV (eX_bookAt σ (nI pl) (nI ar) (nI mi)) (boV σ nm ns (nI pl) (ixN (nI ar)) (nI mi)) = boV σ nm ns (nI pl) ar (nI mi) := by
  rw [hcV_0 (eT_bookAt h1 h2 hnow h3 hN), ixN_nI (by omega)]
theorem eS_4 {pe : Nat} (hns : σ 18 0 = nI ns) (h4 : ns ≤ 40) (hk : k < ns) (hi : i < 5) (hp : pe < 6) (hg : agB σ (k * 5 + i) = false) : eX_sign σ nm ns (nI k) (nI i) (nI pe) = 4 := by
  unfold eX_sign
  rw [hns, ckI_ok hk (by omega), ck5 hi, ck6 hp, lnN_e (by omega) hi, hg]
  rfl
theorem eS_3 {pe : Nat} (hns : σ 18 0 = nI ns) (h4 : ns ≤ 40) (hk : k < ns) (hi : i < 5) (hp : pe < 6) (hg : agB σ (k * 5 + i) = true) (hs : sgB σ k i = false) : eX_sign σ nm ns (nI k) (nI i) (nI pe) = 3 := by
  unfold eX_sign
  rw [hns, ckI_ok hk (by omega), ck5 hi, ck6 hp, lnN_e (by omega) hi, hg, ixN_nI (by omega), ixN_nI (n := i) (by omega), hs]
  rfl
theorem sg_ag (h : agB σ (k * 5 + i) = false) : sgB σ k i = false := by
  unfold sgB
  by_cases c : σ 9 k = 0
  · rw [if_pos c]
  · rw [if_neg c, h]
    rfl
theorem sg_hs (h : hsB σ (k * 5 + i) = true) : sgB σ k i = false := by
  unfold sgB
  by_cases c : σ 9 k = 0
  · rw [if_pos c]
  · rw [if_neg c, h]
    cases agB σ (k * 5 + i) <;> rfl
theorem sg_st (h : σ 9 k = 0) : sgB σ k i = false := by
  unfold sgB
  rw [if_pos h]
theorem sg_t (h : sgB σ k i = true) : ¬ σ 9 k = 0 ∧ agB σ (k * 5 + i) = true ∧ hsB σ (k * 5 + i) = false := by
  unfold sgB at h
  by_cases c : σ 9 k = 0
  · rw [if_pos c] at h; exact absurd h (by decide)
  · rw [if_neg c] at h
    cases e : agB σ (k * 5 + i)
    · rw [e, if_neg (by decide)] at h; exact absurd h (by decide)
    · rw [e] at h
      cases e2 : hsB σ (k * 5 + i)
      · exact ⟨c, rfl, rfl⟩
      · rw [e2] at h; exact absurd h (by decide)
theorem sg_mk (h1 : ¬ σ 9 k = 0) (h2 : agB σ (k * 5 + i) = true) (h3 : hsB σ (k * 5 + i) = false) : sgB σ k i = true := by
  unfold sgB
  rw [if_neg h1, h2, h3]
  rfl
theorem cs_f {j : Nat} (h : sgB σ k i = false) : csB σ nm ns k j i = false := by
  unfold csB
  rw [h]
  by_cases c : σ 7 k = σ 7 j
  · rw [if_pos c]
  · rw [if_neg c]
    rfl
theorem cs_f2 {j : Nat} (h : sgB σ j i = false) : csB σ nm ns k j i = false := by
  unfold csB
  rw [h]
  by_cases c : σ 7 k = σ 7 j
  · rw [if_pos c]
  · rw [if_neg c]
    cases sgB σ k i <;> rfl
theorem cs_t {j : Nat} (h : csB σ nm ns k j i = true) : ¬ σ 7 k = σ 7 j ∧ sgB σ k i = true ∧ sgB σ j i = true ∧ ¬ gpV σ nm ns k i = 0 ∧ gpV σ nm ns k i + gpV σ nm ns j i = 0 := by
  unfold csB at h
  by_cases c : σ 7 k = σ 7 j
  · rw [if_pos c] at h; exact absurd h (by decide)
  · rw [if_neg c] at h
    cases e : sgB σ k i
    · rw [e, if_neg (by decide)] at h; exact absurd h (by decide)
    · cases e2 : sgB σ j i
      · rw [e, e2, if_pos rfl, if_neg (by decide)] at h; exact absurd h (by decide)
      · rw [e, e2, if_pos rfl, if_pos rfl] at h
        by_cases c2 : gpV σ nm ns k i = 0
        · rw [if_pos c2] at h; exact absurd h (by decide)
        · rw [if_neg c2] at h
          by_cases c3 : gpV σ nm ns k i + gpV σ nm ns j i = 0
          · exact ⟨c, rfl, rfl, c2, c3⟩
          · rw [if_neg c3] at h; exact absurd h (by decide)
theorem cs_mk {j : Nat} (h1 : ¬ σ 7 k = σ 7 j) (h2 : sgB σ k i = true) (h3 : sgB σ j i = true) (h4 : ¬ gpV σ nm ns k i = 0) (h5 : gpV σ nm ns k i + gpV σ nm ns j i = 0) : csB σ nm ns k j i = true := by
  unfold csB
  rw [if_neg h1, h2, h3, if_pos rfl, if_pos rfl, if_neg h4, if_pos h5]
theorem cs_sym {j : Nat} (h : csB σ nm ns k j i = true) : csB σ nm ns j k i = true := by
  obtain ⟨h1, h2, h3, h4, h5⟩ := cs_t h
  refine cs_mk (fun q => h1 q.symm) h3 h2 (fun q => h4 ?_) (by rw [Int32.add_comm]; exact h5)
  rw [q, Int32.add_zero] at h5
  exact h5
theorem flO_s {p9 : Nat → Bool} : ∀ {n9 k9 : Nat}, flO p9 n9 = some k9 → k9 < n9 ∧ p9 k9 = true
  | 0, k9, h => by simp [flO] at h
  | n9 + 1, k9, h => by
    rw [flO] at h
    cases q : flO p9 n9 with
    | none =>
      rw [q] at h
      by_cases c : p9 n9 = true
      · simp [c] at h
        subst h
        exact ⟨by omega, c⟩
      · simp [c] at h
    | some j =>
      rw [q] at h
      simp at h
      subst h
      exact ⟨by have := (flO_s q).1; omega, (flO_s q).2⟩
theorem flO_ne {p9 : Nat → Bool} {j9 : Nat} (hp : p9 j9 = true) : ∀ {n9 : Nat}, j9 < n9 → ∃ k9, flO p9 n9 = some k9
  | 0, h => by omega
  | n9 + 1, h => by
    rw [flO]
    cases q : flO p9 n9 with
    | some j => exact ⟨j, rfl⟩
    | none =>
      by_cases c : j9 = n9
      · subst c
        exact ⟨j9, by simp [hp]⟩
      · obtain ⟨k9, hk⟩ := flO_ne hp (n9 := n9) (by omega)
        rw [q] at hk; cases hk
theorem lik_n (h : sgB σ k i = false) : oI (flO (fun j => csB σ nm ns k j i) ns) = -1 := by
  rw [flO_none (fun j _ => cs_f h)]
  rfl
theorem lik_p {j : Nat} (hj : j < ns) (h4 : ns ≤ 40) (h : csB σ nm ns k j i = true) : 0 ≤ oI (flO (fun j => csB σ nm ns k j i) ns) := by
  obtain ⟨z, hz⟩ := flO_ne (p9 := fun j => csB σ nm ns k j i) h hj
  have h2 := (flO_s hz).1
  rw [hz]
  exact nI_pos' (by omega)
theorem gp_u (h : hsB σ (k * 5 + i) = false) : gpV σ nm ns k i = σ 13 (k * 5 + i) - boV σ nm ns (σ 7 k) i (σ 8 k) := by
  unfold gpV
  rw [h]
  rfl
theorem eB_m1 : eX_bookAt σ 0 0 (-1) = 2 := by
  unfold eX_bookAt ckR
  rfl
end FA
section FB
variable {σ : kS} {nm ns k i N : Nat}
theorem eN_ar (hns : σ 18 0 = nI ns) (h4 : ns ≤ 40) (hk : k < ns) : eX_two (nI k) (σ 18 0) 5 5 = 1 := by
  unfold eX_two
  rw [hns, ckI_ok hk (by omega), show ckI 5 5 = false from by decide]
  rfl
theorem eN_sh {ar : Nat} (hns : σ 18 0 = nI ns) (h4 : ns ≤ 40) : eX_two (nI ns) (σ 18 0) (nI ar) 5 = 1 := by
  unfold eX_two
  rw [hns, ckI_no (Nat.le_refl _) (by omega)]
  rfl
theorem eN_gsh {ar : Nat} (hns : σ 18 0 = nI ns) (h4 : ns ≤ 40) : eX_gap σ (nI ns) (nI ar) = 1 := by
  unfold eX_gap
  rw [hns, ckI_no (Nat.le_refl _) (by omega)]
  rfl
end FB
