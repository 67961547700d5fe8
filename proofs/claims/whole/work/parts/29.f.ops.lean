/-! COUNTING -/
theorem mk_or : ∀ mk, mk < 64 → ∀ p, p < 6 → mk ||| (1 <<< p) < 64 ∧ nI mk ||| ((1 : Int32) <<< (nI p &&& 31)) = nI (mk ||| (1 <<< p)) := by decide +kernel
theorem mk_bc : ∀ mk, mk < 64 → ∀ p, p < 6 → nI mk &&& ((1 : Int32) <<< (nI p &&& 31)) = 0 → bc (nI (mk ||| (1 <<< p))) = bc (nI mk) + 1 := by decide +kernel
theorem mk_has : ∀ mk, mk < 64 → ∀ p, p < 6 → ∀ q, q < 6 → ((nI (mk ||| (1 <<< p)) &&& ((1 : Int32) <<< (nI q &&& 31)) = 0) ↔ (nI mk &&& ((1 : Int32) <<< (nI q &&& 31)) = 0 ∧ p ≠ q)) := by decide +kernel
/-- three counts agree -/
theorem agM_3 {μ : kS} {k : Nat} (hc : μ 20 k = 3) (hq : ∀ j, ∃ z, μ 22 j = nI z ∧ z ≤ 100000) : agM μ k ≠ -1 := by
  obtain ⟨x, hx, hx2⟩ := hq (3 * k)
  obtain ⟨y, hy, hy2⟩ := hq (3 * k + 1)
  obtain ⟨z, hz, hz2⟩ := hq (3 * k + 2)
  have n1 : ¬ nI x = -1 := nI_m1 (by omega)
  have n2 : ¬ nI y = -1 := nI_m1 (by omega)
  have n3 : ¬ nI z = -1 := nI_m1 (by omega)
  unfold agM
  rw [hc, hx, hy, hz, if_neg (by decide), if_neg (by decide)]
  intro h
  by_cases c1 : nI x = nI y
  · rw [if_pos c1] at h; exact n1 h
  · rw [if_neg c1] at h
    by_cases c2 : nI x = nI z
    · rw [if_pos c2] at h; exact n1 h
    · rw [if_neg c2] at h
      by_cases c3 : nI y = nI z
      · rw [if_pos c3] at h; exact n2 h
      · rw [if_neg c3] at h
        by_cases c4 : (decide (nI x < nI y) == decide (nI y < nI z)) = true
        · rw [if_pos c4] at h; exact n2 h
        · rw [if_neg c4] at h
          by_cases c5 : (decide (nI y < nI x) == decide (nI x < nI z)) = true
          · rw [if_pos c5] at h; exact n1 h
          · rw [if_neg c5] at h; exact n3 h
/-- the middle one of three -/
theorem mid_M {a b c : Int32} (hab : a ≠ b) : midV a b c = if a = b then a else if a = c then a else if b = c then b else if (decide (a < b) == decide (b < c)) = true then b else if (decide (b < a) == decide (a < c)) = true then a else c := by
  rw [if_neg hab]
  have ha : a.toInt ≠ b.toInt := fun q => hab (Int32.toInt_inj.mp q)
  unfold midV
  simp only [Int32.lt_iff_toInt_lt]
  by_cases c1 : a = c
  · subst c1
    rw [if_pos rfl]
    by_cases c2 : a.toInt < b.toInt
    · have c3 : ¬ b.toInt < a.toInt := by omega
      simp [c2, c3]
    · have c3 : b.toInt < a.toInt := by omega
      simp [c2, c3]
  · have hac : a.toInt ≠ c.toInt := fun q => c1 (Int32.toInt_inj.mp q)
    rw [if_neg c1]
    by_cases c2 : b = c
    · subst c2
      rw [if_pos rfl]
      by_cases c2 : a.toInt < b.toInt
      · have c3 : ¬ b.toInt < a.toInt := by omega
        simp [c2, c3]
      · have c3 : b.toInt < a.toInt := by omega
        simp [c2, c3]
    · have hbc : b.toInt ≠ c.toInt := fun q => c2 (Int32.toInt_inj.mp q)
      rw [if_neg c2]
      by_cases d1 : a.toInt < b.toInt
      · have d2 : ¬ b.toInt < a.toInt := by omega
        by_cases d3 : b.toInt < c.toInt
        · have d4 : ¬ c.toInt < b.toInt := by omega
          simp [d1, d2, d3, d4]
        · have d4 : c.toInt < b.toInt := by omega
          by_cases d5 : a.toInt < c.toInt
          · simp [d1, d2, d3, d4, d5]
          · simp [d1, d2, d3, d4, d5]
      · have d2 : b.toInt < a.toInt := by omega
        by_cases d3 : b.toInt < c.toInt
        · by_cases d5 : a.toInt < c.toInt
          · have d6 : ¬ c.toInt < a.toInt := by omega
            simp [d1, d2, d3, d5, d6]
          · have d6 : c.toInt < a.toInt := by omega
            simp [d1, d2, d3, d5, d6]
        · have d4 : ¬ a.toInt < c.toInt := by omega
          have d6 : c.toInt < a.toInt := by omega
          simp [d1, d2, d3, d4, d6]
theorem agM_1 {μ : kS} {k : Nat} (hc : μ 20 k = 1) : agM μ k = -1 := by
  unfold agM
  rw [hc, if_pos (by decide)]
theorem agM_2 {μ : kS} {k : Nat} (hc : μ 20 k = 2) : agM μ k = if μ 22 (3 * k) = μ 22 (3 * k + 1) then μ 22 (3 * k) else -1 := by
  unfold agM
  rw [hc, if_neg (by decide), if_pos rfl]
theorem agM_3e {μ : kS} {k : Nat} (hc : μ 20 k = 3) (hab : μ 22 (3 * k) ≠ μ 22 (3 * k + 1)) : agM μ k = midV (μ 22 (3 * k)) (μ 22 (3 * k + 1)) (μ 22 (3 * k + 2)) := by
  rw [mid_M hab]
  unfold agM
  rw [hc, if_neg (by decide), if_neg (by decide)]
theorem adS_0 {σ : kS} {k : Nat} {pe q : Int32} (h : bc (σ 10 k) = 0) : adS σ k pe q = su (su σ 11 k q) 10 k (σ 10 k ||| 1 <<< (pe &&& 31)) := by
  unfold adS
  rw [if_pos h]
theorem adS_1 {σ : kS} {k : Nat} {pe q : Int32} (h : bc (σ 10 k) = 1) : adS σ k pe q = su (su (su σ 12 k q) 13 k (if σ 11 k = q then q else -1)) 10 k (σ 10 k ||| 1 <<< (pe &&& 31)) := by
  unfold adS
  rw [h, if_neg (by decide), if_pos rfl]
  by_cases c : σ 11 k = q
  · rw [if_pos c, if_pos c]
  · rw [if_neg c, if_neg c]
theorem adS_2 {σ : kS} {k : Nat} {pe q : Int32} (h : bc (σ 10 k) = 2) : adS σ k pe q = su (su σ 13 k (midV (σ 11 k) (σ 12 k) q)) 10 k (σ 10 k ||| 1 <<< (pe &&& 31)) := by
  unfold adS
  rw [h, if_neg (by decide), if_neg (by decide)]
theorem adS_10 {σ : kS} {k : Nat} {pe q : Int32} : (adS σ k pe q) 10 k = (σ 10 k ||| 1 <<< (pe &&& 31)) := by
  unfold adS
  split
  · rw [su_at]
  · split
    · split
      · rw [su_at]
      · rw [su_at]
    · rw [su_at]
theorem adS_o {σ : kS} {k : Nat} {pe q : Int32} {r i : Nat} (h : r < 10 ∨ 13 < r ∨ i ≠ k) : (adS σ k pe q) r i = σ r i := by
  have e : ∀ (ρ : kS) (r9 : Nat) (x : Int32), 9 < r9 → r9 < 14 → su ρ r9 k x r i = ρ r i := fun ρ r9 x h1 h2 => by
    by_cases c : i = k
    · exact su_ne (by omega)
    · exact su_nat c
  unfold adS
  split
  · rw [e _ 10 _ (by decide) (by decide), e _ 11 _ (by decide) (by decide)]
  · split
    · split
      · rw [e _ 10 _ (by decide) (by decide), e _ 13 _ (by decide) (by decide), e _ 12 _ (by decide) (by decide)]
      · rw [e _ 10 _ (by decide) (by decide), e _ 13 _ (by decide) (by decide), e _ 12 _ (by decide) (by decide)]
    · rw [e _ 10 _ (by decide) (by decide), e _ 13 _ (by decide) (by decide)]
theorem coM_e {μ : kS} {k c : Nat} {who q : Int32} (h : μ 20 k = nI c) (hc : c ≤ 3) : coM μ k who q = su (su (su μ 21 (3 * k + c) who) 22 (3 * k + c) q) 20 k (nI (c + 1)) := by
  unfold coM
  rw [h, ixN_nI (by omega)]
theorem LnR.co {σ μ : kS} {k p q : Nat} (h : LnR σ μ k) (hp : p < 6) (hq : ∀ j, ∃ z, μ 22 j = nI z ∧ z ≤ 100000) (ha : agM μ k = -1) (hh : hcM μ k (nI p) (ixN (μ 20 k)) = false) : LnR (adS σ k (nI p) (nI q)) (coM μ k (nI p) (nI q)) k := by
  obtain ⟨c, mk, h1, h2, h3, h4, h5, h6, h7, h8, h9⟩ := h
  rw [h3, ixN_nI (by omega)] at hh
  obtain ⟨b1, b2⟩ := mk_or mk h2 p hp
  have b4 : nI mk &&& ((1 : Int32) <<< (nI p &&& 31)) = 0 := by
    have h10 := h6 p hp
    rw [hh] at h10
    unfold cbB at h10
    rw [h4] at h10
    by_cases c9 : nI mk &&& ((1 : Int32) <<< (nI p &&& 31)) = 0
    · exact c9
    · rw [if_neg c9] at h10
      exact absurd h10 (by decide)
  have b3 := mk_bc mk h2 p hp b4
  rw [coM_e h3 h1]
  have hc3 : c ≤ 2 := by
    rcases Nat.lt_or_ge c 3 with q9 | q9
    · omega
    · have q8 : c = 3 := by omega
      subst q8
      exact absurd ha (agM_3 h3 hq)
  have f20 : su (su (su μ 21 (3 * k + c) (nI p)) 22 (3 * k + c) (nI q)) 20 k (nI (c + 1)) 20 k = nI (c + 1) := su_at
  have f22 : ∀ j, su (su (su μ 21 (3 * k + c) (nI p)) 22 (3 * k + c) (nI q)) 20 k (nI (c + 1)) 22 j = if j = 3 * k + c then nI q else μ 22 j := fun j => by
    rw [su_ne (by decide), su_g, if_pos rfl, su_ne (by decide)]
  have f21 : ∀ j, su (su (su μ 21 (3 * k + c) (nI p)) 22 (3 * k + c) (nI q)) 20 k (nI (c + 1)) 21 j = if j = 3 * k + c then nI p else μ 21 j := fun j => by
    rw [su_ne (by decide), su_ne (by decide), su_g, if_pos rfl]
  generalize su (su (su μ 21 (3 * k + c) (nI p)) 22 (3 * k + c) (nI q)) 20 k (nI (c + 1)) = ν at f20 f21 f22
  have s10 : (adS σ k (nI p) (nI q)) 10 k = nI (mk ||| (1 <<< p)) := by
    rw [adS_10, h4, b2]
  have hbc : bc (σ 10 k) = nI c := by rw [h4, h5]
  refine ⟨c + 1, mk ||| (1 <<< p), by omega, b1, f20, s10, ?_, fun y hy => ?_, ?_, fun _ => ?_, fun h10 => ?_⟩
  · rw [b3, h5, nI_succ]
  · rw [hcM, hcM_c (μ := μ) (fun j hj => by rw [f21, if_neg (by omega)]), ← h6 y hy, f21, if_pos rfl]
    unfold cbB
    rw [s10, h4]
    have b5 := mk_has mk h2 p hp y hy
    by_cases c1 : nI mk &&& ((1 : Int32) <<< (nI y &&& 31)) = 0
    · by_cases c2 : p = y
      · subst c2
        have c4 : ¬ nI (mk ||| (1 <<< p)) &&& ((1 : Int32) <<< (nI p &&& 31)) = 0 := fun q9 => (b5.mp q9).2 rfl
        simp [c1, c4]
      · have c3 : ¬ nI p = nI y := fun q9 => c2 ((nI_eq (by omega) (by omega)).mp q9)
        have c4 := b5.mpr ⟨c1, c2⟩
        simp [c1, c3, c4]
    · have c4 : ¬ nI (mk ||| (1 <<< p)) &&& ((1 : Int32) <<< (nI y &&& 31)) = 0 := fun q9 => c1 (b5.mp q9).1
      simp [c1, c4]
  · rcases (by omega : c = 0 ∨ c = 1 ∨ c = 2) with q9 | q9 | q9
    · subst q9
      rw [adS_0 hbc, agM_1 f20, su_ne (by decide), su_ne (by decide), h7, ha]
    · subst q9
      have g0 : ν 22 (3 * k) = μ 22 (3 * k) := by rw [f22, if_neg (show ¬ 3 * k = 3 * k + 1 by omega)]
      have g1 : ν 22 (3 * k + 1) = nI q := by rw [f22, if_pos rfl]
      rw [adS_1 hbc, agM_2 f20, su_ne (by decide), su_at, g0, g1, h8 (Nat.le_refl 1)]
      by_cases c1 : μ 22 (3 * k) = nI q
      · rw [if_pos c1, if_pos c1, c1]
      · rw [if_neg c1, if_neg c1]
    · subst q9
      have n1 : μ 22 (3 * k) ≠ μ 22 (3 * k + 1) := fun q9 => by
        rw [agM_2 h3, if_pos q9] at ha
        obtain ⟨z, hz, hz2⟩ := hq (3 * k)
        rw [hz] at ha
        exact nI_m1 (by omega) ha
      rw [adS_2 hbc, su_ne (by decide), su_at, h8 (by decide), h9 (by decide)]
      rw [agM_3e f20 (by rw [f22, f22, if_neg (by omega), if_neg (by omega)]; exact n1), f22, f22, f22, if_neg (by omega), if_neg (by omega), if_pos rfl]
  · rcases (by omega : c = 0 ∨ c = 1 ∨ c = 2) with q9 | q9 | q9
    · subst q9
      rw [adS_0 hbc, f22, if_pos (by omega), su_ne (by decide), su_at]
    · subst q9
      have g0 : ν 22 (3 * k) = μ 22 (3 * k) := by rw [f22, if_neg (show ¬ 3 * k = 3 * k + 1 by omega)]
      rw [adS_1 hbc, g0, su_ne (by decide), su_ne (by decide), su_ne (by decide), h8 (by decide)]
    · subst q9
      rw [adS_2 hbc, f22, if_neg (by omega), su_ne (by decide), su_ne (by decide), h8 (by decide)]
  · rcases (by omega : c = 1 ∨ c = 2) with q9 | q9
    · subst q9
      rw [adS_1 hbc, f22, if_pos rfl, su_ne (by decide), su_ne (by decide), su_at]
    · subst q9
      rw [adS_2 hbc, f22, if_neg (by omega), su_ne (by decide), su_ne (by decide), h9 (by decide)]
theorem Rel.wco {σ μ : kS} {nm ns n N S : Nat} (h : Rel σ μ nm ns n N S) {k p q : Nat} (hk : k < 200) (hp : p < 6) (hq : q ≤ 100000) (ha : agM μ k = -1) (hh : hcM μ k (nI p) (ixN (μ 20 k)) = false) : Rel (adS σ k (nI p) (nI q)) (coM μ k (nI p) (nI q)) nm ns n N S := by
  have hln := (h.ln k hk).co (q := q) hp h.cq ha hh
  obtain ⟨c, mk, h1, h2, h3, -⟩ := h.ln k hk
  rw [coM_e h3 h1] at hln ⊢
  have f22 : ∀ j, su (su (su μ 21 (3 * k + c) (nI p)) 22 (3 * k + c) (nI q)) 20 k (nI (c + 1)) 22 j = if j = 3 * k + c then nI q else μ 22 j := fun j => by
    rw [su_ne (by decide), su_g, if_pos rfl, su_ne (by decide)]
  have f21 : ∀ j, su (su (su μ 21 (3 * k + c) (nI p)) 22 (3 * k + c) (nI q)) 20 k (nI (c + 1)) 21 j = if j = 3 * k + c then nI p else μ 21 j := fun j => by
    rw [su_ne (by decide), su_ne (by decide), su_g, if_pos rfl]
  refine ⟨fun r i hr => ?_, h.hns, h.hns4, h.hnm, h.hnm2, h.now, h.hN, h.sgs, h.hS, h.sig, h.st, h.cut, h.one, h.pr, h.qu, fun j => ?_, fun j hj => ?_⟩
  · rw [adS_o (by omega), su_ne (by omega), su_ne (by omega), su_ne (by omega), h.eq r i hr]
  · rw [f22]
    by_cases c9 : j = 3 * k + c
    · rw [if_pos c9]
      exact ⟨q, rfl, hq⟩
    · rw [if_neg c9]
      exact h.cq j
  · by_cases c9 : j = k
    · subst c9
      exact hln
    · by_cases c3 : c = 3
      · subst c3
        exact absurd ha (agM_3 h3 h.cq)
      · refine (h.ln j hj).cg (fun r _ _ => adS_o (Or.inr (Or.inr c9))) (su_nat c9) (fun i hi => ?_) (fun i hi => ?_)
        · rw [f21, if_neg (by omega)]
        · rw [f22, if_neg (by omega)]
theorem Rel.cb {σ μ : kS} {nm ns n N S : Nat} (h : Rel σ μ nm ns n N S) {k p : Nat} (hk : k < 200) (hp : p < 6) : cbB σ k (nI p) = hcM μ k (nI p) (ixN (μ 20 k)) := by
  obtain ⟨c, mk, h1, h2, h3, h4, h5, h6, h7, h8, h9⟩ := h.ln k hk
  rw [h3, ixN_nI (by omega), h6 p hp]
theorem op_count {σ μ : kS} {nm ns n N S : Nat} (h : Rel σ μ nm ns n N S) (hn : n < 600) (x1 x2 x3 x4 : Int32) : (eX_count σ x1 x2 x3 x4 = 0 → (sM (ckR x1 0 (μ 18 0 - 1) && ckR x2 0 5 && ckR x3 0 4, ckR x4 0 100000, ckR x1 0 (μ 18 0 - 1) && ckR x2 0 5 && ckR x3 0 4 && (decide (μ 9 (ixN x1) = 0) && !hcM μ (lnN x1 x3) x2 (ixN (μ 20 (lnN x1 x3))) && decide (agM μ (lnN x1 x3) = -1))) μ (fun κ => coM κ (lnN x1 x3) x2 x4)) 23 0 = 0 ∧ ((if bI (agB (adS σ (lnN x1 x3) x2 x4) (lnN x1 x3)) = 0 then 0 else 1)) = (if vM (ckR x1 0 (μ 18 0 - 1) && ckR x2 0 5 && ckR x3 0 4, ckR x4 0 100000, ckR x1 0 (μ 18 0 - 1) && ckR x2 0 5 && ckR x3 0 4 && (decide (μ 9 (ixN x1) = 0) && !hcM μ (lnN x1 x3) x2 (ixN (μ 20 (lnN x1 x3))) && decide (agM μ (lnN x1 x3) = -1))) (bI (grM (sM (ckR x1 0 (μ 18 0 - 1) && ckR x2 0 5 && ckR x3 0 4, ckR x4 0 100000, ckR x1 0 (μ 18 0 - 1) && ckR x2 0 5 && ckR x3 0 4 && (decide (μ 9 (ixN x1) = 0) && !hcM μ (lnN x1 x3) x2 (ixN (μ 20 (lnN x1 x3))) && decide (agM μ (lnN x1 x3) = -1))) μ (fun κ => coM κ (lnN x1 x3) x2 x4)) (lnN x1 x3))) = 0 then 0 else 1 : Int64) ∧ RR ((adS σ (lnN x1 x3) x2 x4)) (sM (ckR x1 0 (μ 18 0 - 1) && ckR x2 0 5 && ckR x3 0 4, ckR x4 0 100000, ckR x1 0 (μ 18 0 - 1) && ckR x2 0 5 && ckR x3 0 4 && (decide (μ 9 (ixN x1) = 0) && !hcM μ (lnN x1 x3) x2 (ixN (μ 20 (lnN x1 x3))) && decide (agM μ (lnN x1 x3) = -1))) μ (fun κ => coM κ (lnN x1 x3) x2 x4)) (n + 1)) ∧ (eX_count σ x1 x2 x3 x4 ≠ 0 → (sM (ckR x1 0 (μ 18 0 - 1) && ckR x2 0 5 && ckR x3 0 4, ckR x4 0 100000, ckR x1 0 (μ 18 0 - 1) && ckR x2 0 5 && ckR x3 0 4 && (decide (μ 9 (ixN x1) = 0) && !hcM μ (lnN x1 x3) x2 (ixN (μ 20 (lnN x1 x3))) && decide (agM μ (lnN x1 x3) = -1))) μ (fun κ => coM κ (lnN x1 x3) x2 x4)) 23 0 = (if eX_count σ x1 x2 x3 x4 = 1 then 1 else if eX_count σ x1 x2 x3 x4 = 2 then 2 else 3) ∧ RR σ (sM (ckR x1 0 (μ 18 0 - 1) && ckR x2 0 5 && ckR x3 0 4, ckR x4 0 100000, ckR x1 0 (μ 18 0 - 1) && ckR x2 0 5 && ckR x3 0 4 && (decide (μ 9 (ixN x1) = 0) && !hcM μ (lnN x1 x3) x2 (ixN (μ 20 (lnN x1 x3))) && decide (agM μ (lnN x1 x3) = -1))) μ (fun κ => coM κ (lnN x1 x3) x2 x4)) (n + 1)) := by
  have hR : go3 (ckR x1 0 (μ 18 0 - 1) && ckR x2 0 5 && ckR x3 0 4, ckR x4 0 100000, ckR x1 0 (μ 18 0 - 1) && ckR x2 0 5 && ckR x3 0 4 && (decide (μ 9 (ixN x1) = 0) && !hcM μ (lnN x1 x3) x2 (ixN (μ 20 (lnN x1 x3))) && decide (agM μ (lnN x1 x3) = -1))) = true → lnN x1 x3 < 200 ∧ Rel (adS σ (lnN x1 x3) x2 x4) (coM (su μ 23 0 0) (lnN x1 x3) x2 x4) nm ns (n + 1) N S := fun g => by
    obtain ⟨g1, g2, g3⟩ := go3_t g
    obtain ⟨g4, g5⟩ := bAnd g3
    obtain ⟨g6, c3⟩ := bAnd g4
    obtain ⟨c1, c2⟩ := bAnd g6
    obtain ⟨g7, g8⟩ := bAnd g5
    obtain ⟨g9, g10⟩ := bAnd g7
    obtain ⟨q1, q2, q3, q4⟩ := h.lnx c1 c3
    obtain ⟨z, hz, rfl⟩ := ckR_z (k := 100000) (by decide) g2
    obtain ⟨p, hp, rfl⟩ := pe6 c2
    refine ⟨q4, ((h.r23 0).wco q4 hp hz (of_decide_eq_true g8) ?_).upR⟩
    rw [hcM_23]
    show hcM μ (lnN x1 x3) (nI p) (ixN (μ 20 (lnN x1 x3))) = false
    cases e : hcM μ (lnN x1 x3) (nI p) (ixN (μ 20 (lnN x1 x3)))
    · rfl
    · rw [e] at g10; exact absurd g10 (by decide)
  refine op_gen3 h ?_ (fun g => ?_) rfl (fun g h9 => ⟨nm, ns, N, S, (hR g).2⟩)
  · unfold eX_count
    rw [h.ckS, ck5, ck6, h.e 9 (ixN x1)]
    cases c1 : ckR x1 0 (μ 18 0 - 1)
    · simp [go3, goV]
    · cases c2 : ckR x2 0 5
      · simp [go3, goV]
      · cases c3 : ckR x3 0 4
        · simp [go3, goV]
        · obtain ⟨q1, q2, q3, q4⟩ := h.lnx c1 c3
          obtain ⟨p, hp, rfl⟩ := pe6 c2
          rw [h.ab q4, h.cb q4 hp]
          unfold grM
          cases c4 : ckR x4 0 100000
          · simp [go3, goV]
          · by_cases c5 : μ 9 (ixN x1) = 0
            · by_cases c6 : agM μ (lnN x1 x3) = -1
              · cases hcM μ (lnN x1 x3) (nI p) (ixN (μ 20 (lnN x1 x3)))
                · simp [go3, goV, c5, c6]
                · simp [go3, goV, c5, c6]
              · simp [go3, goV, c5, c6]
            · simp [go3, goV, c5]
  · obtain ⟨q4, h10⟩ := hR g
    rw [vM_t g, sM_t g, h10.ab q4]
