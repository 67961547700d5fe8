/-! FACTS: settling -/
section FT
variable {σ σ' α : kS} {nm ns n N S k j i : Nat} {g : Int32}
theorem flO_no {p9 : Nat → Bool} : ∀ {n9 : Nat}, flO p9 n9 = none → ∀ j9, j9 < n9 → p9 j9 = false := by
  intro n9 h j9 hj
  rcases bft (p9 j9) with e | e
  · exact e
  · obtain ⟨z, hz⟩ := flO_ne e hj
    rw [hz] at h; cases h
theorem eT_4a (hns : σ 18 0 = nI ns) (h4 : ns ≤ 40) (hk : k < ns) (hj : j < ns) (hi : i < 5) (hg : agB σ (k * 5 + i) = false) : eX_settle σ nm ns (nI k) (nI j) (nI i) = 4 := by
  unfold eX_settle
  rw [hns, ckI_ok hk (by omega), ckI_ok hj (by omega), ck5 hi, lnN_e (by omega) hi, hg]
  rfl
theorem eT_4b (hns : σ 18 0 = nI ns) (h4 : ns ≤ 40) (hk : k < ns) (hj : j < ns) (hi : i < 5) (hg : agB σ (k * 5 + i) = true) (hg2 : agB σ (j * 5 + i) = false) : eX_settle σ nm ns (nI k) (nI j) (nI i) = 4 := by
  unfold eX_settle
  rw [hns, ckI_ok hk (by omega), ckI_ok hj (by omega), ck5 hi, lnN_e (by omega) hi, lnN_e (k := j) (by omega) hi, hg, hg2]
  rfl
theorem eT_3 (hns : σ 18 0 = nI ns) (h4 : ns ≤ 40) (hk : k < ns) (hj : j < ns) (hi : i < 5) (hg : agB σ (k * 5 + i) = true) (hg2 : agB σ (j * 5 + i) = true) (hc : csB σ nm ns k j i = false) : eX_settle σ nm ns (nI k) (nI j) (nI i) = 3 := by
  unfold eX_settle
  rw [hns, ckI_ok hk (by omega), ckI_ok hj (by omega), ck5 hi, lnN_e (by omega) hi, lnN_e (k := j) (by omega) hi, hg, hg2, ixN_nI (by omega), ixN_nI (n := j) (by omega), ixN_nI (n := i) (by omega), hc]
  rfl
theorem eT_0 (hns : σ 18 0 = nI ns) (h4 : ns ≤ 40) (hk : k < ns) (hj : j < ns) (hi : i < 5) (hg : agB σ (k * 5 + i) = true) (hg2 : agB σ (j * 5 + i) = true) (hc : csB σ nm ns k j i = true) : eX_settle σ nm ns (nI k) (nI j) (nI i) = 0 := by
  unfold eX_settle
  rw [hns, ckI_ok hk (by omega), ckI_ok hj (by omega), ck5 hi, lnN_e (by omega) hi, lnN_e (k := j) (by omega) hi, hg, hg2, ixN_nI (by omega), ixN_nI (n := j) (by omega), ixN_nI (n := i) (by omega), hc]
  rfl
theorem eT_1 (hns : σ 18 0 = nI ns) (h4 : ns ≤ 40) (hk : k < ns) : eX_settle σ nm ns (nI k) (nI ns) (nI i) = 1 := by
  unfold eX_settle
  rw [hns, ckI_ok hk (by omega), ckI_no (Nat.le_refl _) (by omega)]
  rfl
theorem ab_sz (x : Int32) : abV x = szV x := by
  unfold abV szV
  rw [Int32.zero_sub]
theorem tV_settle {E : Nat} (hE : E = 0) (hk : k < 40) (hi : i < 5) : hcV E (abV (gpV σ nm ns (ixN (nI k)) (ixN (nI i)))) = szV (gpV σ nm ns k i) := by
  rw [hcV_0 hE, ixN_nI (by omega), ixN_nI (by omega), ab_sz]
theorem st_ix (hk : k < 40) (hj : j < 40) (hi : i < 5) : wrS (wrS σ (lnN (nI k) (nI i)) (gpV σ nm ns (ixN (nI k)) (ixN (nI i)))) (lnN (nI j) (nI i)) (-(gpV σ nm ns (ixN (nI k)) (ixN (nI i)))) = wrS (wrS σ (k * 5 + i) (gpV σ nm ns k i)) (j * 5 + i) (-(gpV σ nm ns k i)) := by
  rw [lnN_e hk hi, lnN_e hj hi, ixN_nI (by omega), ixN_nI (by omega)]
theorem InC.sz_pos (h : InC σ nm ns n N S) (hn : n ≤ 110) (hk : k < ns) (hi : i < 5) (hs : hsB σ (k * 5 + i) = false) (h0 : ¬ gpV σ nm ns k i = 0) : ¬ szV (gpV σ nm ns k i) ≤ 0 := by
  obtain ⟨u1, u2⟩ := h.gp_u2 hn hk hi hs
  obtain ⟨y, hy, e1, e2⟩ := sz_ab u1 u2
  rw [e2]
  refine nI_nle ?_ (by omega)
  rcases Nat.eq_zero_or_pos y with c | c
  · exfalso
    subst c
    refine h0 ?_
    unfold szV at e2
    by_cases c2 : 0 ≤ gpV σ nm ns k i
    · rw [if_pos c2] at e2; exact e2
    · rw [if_neg c2] at e2
      rw [← Int32.neg_neg (a := gpV σ nm ns k i), e2]
      rfl
  · exact c
theorem neg_n0 {x : Int32} (h : ¬ x = 0) : ¬ -x = 0 := fun q => h (by
  rw [← Int32.neg_neg (a := x), q]
  rfl)
/-- behind settling: the rows -/
theorem Inv.stl (h : Inv σ α nm ns n N S) (hn : n ≤ 110) (hk : k < ns) (hj : j < ns) (hi : i < 5) (hkj : ¬ σ 7 k = σ 7 j) (hg : agB σ (k * 5 + i) = true) (hs : hsB σ (k * 5 + i) = false) (hg2 : agB σ (j * 5 + i) = true) (hs2 : hsB σ (j * 5 + i) = false) {pl pj : Nat} (hp : σ 7 k = nI pl) (hp2 : pl < 12) (hq : σ 7 j = nI pj) (hq2 : pj < 12) (g : Int32) (hg0 : ¬ g = 0) :
    Inv (wrS (wrS σ (k * 5 + i) g) (j * 5 + i) (-g)) (su (su α 3 (2 * (pl / 4)) ((exF σ (nI (pl / 4)) ns).1 + 1)) 3 (2 * (pj / 4)) ((su α 3 (2 * (pl / 4)) ((exF σ (nI (pl / 4)) ns).1 + 1)) 3 (2 * (pj / 4)) + 1)) nm ns (n + 1) N (S + 1 + 1) := by
  have hS := h.1.Sn
  have hne : j ≠ k := fun q => hkj (by rw [q])
  have h1 := h.1.sg (n' := n + 1) (L := k * 5 + i) (g := g) (by omega) (by omega) (by omega) hg
  have hg3 : agB (wrS σ (k * 5 + i) g) (j * 5 + i) = true := by
    unfold agB
    rw [wr_o (Or.inl (by decide))]
    exact hg2
  have hs3 : hsB (wrS σ (k * 5 + i) g) (j * 5 + i) = false := by
    unfold hsB
    rw [wr_o (Or.inr ⟨by omega, by decide⟩)]
    exact hs2
  refine ⟨h1.sg (by omega) (by omega) (by omega) hg3, h.2.z (fun r j hr => by rw [wr_o (Or.inl (by omega)), wr_o (Or.inl (by omega))]) (fun r j hr => by rw [su_ne hr, su_ne hr]) (fun z hz => ?_)⟩
  rw [exF_w hi hs3 (h1.s19 (by omega)), exF_w hi hs (h.1.s19 (by omega)), wr_o (Or.inl (by decide)), hp, hq, if_neg hg0, if_neg (neg_n0 hg0), Int32.add_zero]
  have a1 : (k < ns ∧ nI pl / 4 = nI z) ↔ pl / 4 = z := ⟨fun q => (zone_e hp2 hz).mp q.2, fun q => ⟨hk, (zone_e hp2 hz).mpr q⟩⟩
  have a2 : (j < ns ∧ nI pj / 4 = nI z) ↔ pj / 4 = z := ⟨fun q => (zone_e hq2 hz).mp q.2, fun q => ⟨hj, (zone_e hq2 hz).mpr q⟩⟩
  obtain ⟨z1, z2⟩ := h.2.az z hz
  have o1 : su (su α 3 (2 * (pl / 4)) ((exF σ (nI (pl / 4)) ns).1 + 1)) 3 (2 * (pj / 4)) ((su α 3 (2 * (pl / 4)) ((exF σ (nI (pl / 4)) ns).1 + 1)) 3 (2 * (pj / 4)) + 1) 3 (2 * z + 1) = α 3 (2 * z + 1) := by
    rw [su_nat (by omega), su_nat (by omega)]
  by_cases c1 : pl / 4 = z
  · rw [if_pos (a1.mpr c1)]
    by_cases c2 : pj / 4 = z
    · rw [if_pos (a2.mpr c2)]
      refine ⟨?_, ?_⟩
      · rw [c1, c2, su_at, su_at]
      · rw [o1, z2, Int32.add_zero]
    · rw [if_neg (fun q => c2 (a2.mp q))]
      refine ⟨?_, ?_⟩
      · rw [su_nat (by omega), c1, su_at]
      · rw [o1, z2]
  · rw [if_neg (fun q => c1 (a1.mp q))]
    by_cases c2 : pj / 4 = z
    · rw [if_pos (a2.mpr c2)]
      refine ⟨?_, ?_⟩
      · rw [c2, su_at, su_nat (by omega), z1]
      · rw [o1, z2, Int32.add_zero]
    · rw [if_neg (fun q => c2 (a2.mp q))]
      refine ⟨?_, ?_⟩
      · rw [su_nat (by omega), su_nat (by omega), z1]
      · rw [o1, z2]
theorem InC.bo_s1 (h : InC σ nm ns n N S) (hn : n ≤ 110) (hk : k < ns) (hj : j < ns) (hi : i < 5) (hkj : ¬ σ 7 k = σ 7 j) {pl cu : Nat} (hp : σ 7 k = nI pl) (hc : σ 8 k = nI cu) : boV (wrS (wrS σ (k * 5 + i) g) (j * 5 + i) (-g)) nm ns (nI pl) i (nI cu) = σ 13 (k * 5 + i) := by
  have hne : j ≠ k := fun q => hkj (by rw [q])
  have e14 : wrS (wrS σ (k * 5 + i) g) (j * 5 + i) (-g) 14 (k * 5 + i) = σ 19 0 + 1 := by
    rw [wr_o (Or.inr ⟨by omega, by decide⟩), wr_14]
  rw [bo_top (k := k) (by rw [wr_o (Or.inl (by decide)), wr_o (Or.inl (by decide))]; exact hp) (by rw [wr_o (Or.inl (by decide)), wr_o (Or.inl (by decide))]; exact hc) (hsB_t (by rw [e14]; exact h.s19 (by omega))) (fun z hz hzk h7 _ => ?_) hk, wr_o (Or.inl (by decide)), wr_o (Or.inl (by decide))]
  rw [wr_o (Or.inl (by decide)), wr_o (Or.inl (by decide))] at h7
  have hzj : z ≠ j := fun q => hkj (by rw [hp, ← q, h7])
  rw [e14, wr_o (Or.inr ⟨by omega, by decide⟩), wr_o (Or.inr ⟨by omega, by decide⟩)]
  exact h.lt19 (by omega) _
theorem InC.bo_s2 (h : InC σ nm ns n N S) (hn : n ≤ 110) (hk : k < ns) (hj : j < ns) (hi : i < 5) (hg : agB σ (k * 5 + i) = true) {pj cj : Nat} (hp : σ 7 j = nI pj) (hc : σ 8 j = nI cj) : boV (wrS (wrS σ (k * 5 + i) g) (j * 5 + i) (-g)) nm ns (nI pj) i (nI cj) = σ 13 (j * 5 + i) := by
  have hS := h.Sn
  have h1 := h.sg (n' := n + 1) (L := k * 5 + i) (g := g) (by omega) (by omega) (by omega) hg
  rw [h1.bo_sg (by omega) hj hi (by rw [wr_o (Or.inl (by decide))]; exact hp) (by rw [wr_o (Or.inl (by decide))]; exact hc), wr_o (Or.inl (by decide))]
end FT
