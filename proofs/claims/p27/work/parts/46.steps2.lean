/-! STEPS: passing, terms, opening, counting, closing -/
theorem mk_or : ∀ mk, mk < 64 → ∀ p, p < 6 → mk ||| (1 <<< p) < 64 ∧ nI mk ||| ((1 : Int32) <<< (nI p &&& 31)) = nI (mk ||| (1 <<< p)) := by decide +kernel
theorem mk_bc : ∀ mk, mk < 64 → ∀ p, p < 6 → nI mk &&& ((1 : Int32) <<< (nI p &&& 31)) = 0 → bc (nI (mk ||| (1 <<< p))) = bc (nI mk) + 1 := by decide +kernel
theorem mk_in : ∀ mk, mk < 64 → ∀ p, p < 6 → ¬ nI (mk ||| (1 <<< p)) &&& ((1 : Int32) <<< (nI p &&& 31)) = 0 := by decide +kernel
theorem mk_ps : ∀ mk, mk < 64 → ∀ p, p < 6 → ¬ nI mk &&& ((1 : Int32) <<< (nI p &&& 31)) = 0 → ¬ bc (nI mk) = 0 := by decide +kernel
section SQ
variable {σ σ' α : kS} {nm ns n N S k i : Nat}
theorem Inv.ps (h : Inv σ α nm ns n N S) {mm : Nat} (hm : mm ≤ 40) : Inv (su σ 16 0 (nI (N + mm))) (su α 4 0 (nI (N + mm))) nm ns (n + 1) (N + mm) S := by
  obtain ⟨h, g⟩ := h
  have e : ∀ r j, r ≠ 16 → su σ 16 0 (nI (N + mm)) r j = σ r j := fun r j hr => su_ne hr
  obtain ⟨a1, a2, a3, a4⟩ := h.gA (σ' := su σ 16 0 (nI (N + mm))) (fun r j h1 h2 => e r j (by omega))
  obtain ⟨b1, b2, b3, b4⟩ := h.gB (σ' := su σ 16 0 (nI (N + mm))) (fun r j h1 h2 => e r j (by omega))
  have := h.nmn
  have := h.Nn
  have := h.Sn
  refine ⟨⟨by rw [e 18 0 (by decide)]; exact h.hns, h.ns12, by rw [e 17 0 (by decide)]; exact h.hnm, by omega, su_at, by omega, by rw [e 19 0 (by decide)]; exact h.sgs, by omega, b1, b2, a1, fun k => ?_, a3, a4, fun k => ?_, fun k => ?_, fun k => ?_, b3, b4⟩, fun j hj => ?_, fun j hj => ?_, fun j hj => ?_, fun j hj => ?_, fun z hz => ?_, su_at, ?_, ?_⟩
  · obtain ⟨z, h1, h2⟩ := a2 k
    exact ⟨z, h1, by omega⟩
  · rw [e 0 k (by decide)]; exact h.pr k
  · rw [e 1 k (by decide)]; exact h.bo k
  · rw [e 5 k (by decide)]; exact h.qu k
  · rw [su_ne (by decide), e 0 j (by decide)]; exact g.ae j hj
  · rw [su_ne (by decide), e 1 j (by decide)]; exact g.ab j hj
  · rw [su_ne (by decide), e 7 j (by decide)]; exact g.ap j hj
  · rw [su_ne (by decide), e 13 j (by decide)]; exact g.ac j hj
  · rw [su_ne (by decide), su_ne (by decide), exF_c (fun k hk => e 7 k (by decide)) (fun k hk => ⟨e 14 k (by decide), e 15 k (by decide)⟩)]; exact g.az z hz
  · rw [su_nat (by decide)]; exact g.g1
  · rw [su_nat (by decide)]; exact g.g2
theorem Inv.tm (h : Inv σ α nm ns n N S) {i pe p b : Nat} (hi : i < 5) (hpe : pe < 6) (hp : p ≤ 5) (hb : b ≤ 300) : Inv (su (su σ 0 i (nI p)) 1 pe (nI b)) (su (su α 0 i (nI p)) 0 (5 + pe) (nI b)) nm ns (n + 1) N S := by
  obtain ⟨h, g⟩ := h
  have e : ∀ r j, r ≠ 0 → r ≠ 1 → su (su σ 0 i (nI p)) 1 pe (nI b) r j = σ r j := fun r j h1 h2 => by rw [su_ne h2, su_ne h1]
  obtain ⟨a1, a2, a3, a4⟩ := h.gA (σ' := su (su σ 0 i (nI p)) 1 pe (nI b)) (fun r j h1 h2 => e r j (by omega) (by omega))
  obtain ⟨b1, b2, b3, b4⟩ := h.gB (σ' := su (su σ 0 i (nI p)) 1 pe (nI b)) (fun r j h1 h2 => e r j (by omega) (by omega))
  have := h.nmn
  have := h.Nn
  have := h.Sn
  refine ⟨⟨by rw [e 18 0 (by decide) (by decide)]; exact h.hns, h.ns12, by rw [e 17 0 (by decide) (by decide)]; exact h.hnm, by omega, by rw [e 16 0 (by decide) (by decide)]; exact h.now, by omega, by rw [e 19 0 (by decide) (by decide)]; exact h.sgs, by omega, b1, b2, a1, a2, a3, a4, fun k => ?_, fun k => ?_, fun k => ?_, b3, b4⟩, fun j hj => ?_, fun j hj => ?_, fun j hj => ?_, fun j hj => ?_, fun z hz => ?_, ?_, ?_, ?_⟩
  · rw [su_ne (by decide)]
    by_cases c : k = i
    · subst c; exact ⟨p, su_at, hp⟩
    · rw [su_nat c]; exact h.pr k
  · by_cases c : k = pe
    · subst c; exact ⟨b, su_at, hb⟩
    · rw [su_nat c, su_ne (by decide)]; exact h.bo k
  · rw [e 5 k (by decide) (by decide)]; exact h.qu k
  · rw [su_nat (i := 5 + pe) (j := j) (by omega), su_ne (k := 1) (by decide)]
    by_cases c : j = i
    · subst c; rw [su_at, su_at]
    · rw [su_nat c, su_nat c]; exact g.ae j hj
  · by_cases c : j = pe
    · subst c; rw [su_at, su_at]
    · rw [su_nat c, su_nat (show 5 + j ≠ 5 + pe by omega), su_nat (show 5 + j ≠ i by omega), su_ne (by decide)]; exact g.ab j hj
  · rw [su_ne (by decide), su_ne (by decide), e 7 j (by decide) (by decide)]; exact g.ap j hj
  · rw [su_ne (by decide), su_ne (by decide), e 13 j (by decide) (by decide)]; exact g.ac j hj
  · rw [su_ne (by decide), su_ne (by decide), su_ne (by decide), su_ne (by decide), exF_c (fun k hk => e 7 k (by decide) (by decide)) (fun k hk => ⟨e 14 k (by decide) (by decide), e 15 k (by decide) (by decide)⟩)]; exact g.az z hz
  · rw [su_ne (by decide), su_ne (by decide)]; exact g.g0
  · rw [su_ne (by decide), su_ne (by decide)]; exact g.g1
  · rw [su_ne (by decide), su_ne (by decide)]; exact g.g2
/-- a new sheet's places of the row of agreed quantities, cleared up to q -/
def czA (α : kS) (ns : Nat) : Nat → kS
  | 0 => α
  | q + 1 => su (czA α ns q) 2 (5 * ns + q) (-1)
theorem czA_ne {r j : Nat} (h : r ≠ 2) : ∀ q, czA α ns q r j = α r j
  | 0 => rfl
  | q + 1 => by rw [czA, su_ne h, czA_ne h q]
theorem czA_lo {j : Nat} (h : j < 5 * ns) : ∀ q, czA α ns q 2 j = α 2 j
  | 0 => rfl
  | q + 1 => by rw [czA, su_nat (by omega), czA_lo h q]
theorem czA_in {j : Nat} : ∀ q, j < q → czA α ns q 2 (5 * ns + j) = -1
  | 0, h => by omega
  | q + 1, h => by
    rw [czA]
    by_cases c : j = q
    · subst c; exact su_at
    · rw [su_nat (by omega)]; exact czA_in q (by omega)
theorem exI_0 {sh : Nat} {z : Int32 × Int32} : ∀ a, (∀ j, j < a → hsB σ (sh * 5 + j) = false) → exI σ sh a z = z
  | 0, _ => rfl
  | a + 1, h => by
    rw [exI, if_neg (show ¬ hsB σ (sh * 5 + a) = true by rw [h a (by omega)]; decide), exI_0 a (fun j hj => h j (by omega))]
theorem sh_o {pl i9 : Int32} {r j : Nat} (h : r ≠ 18 ∧ ((r ≠ 7 ∧ r ≠ 8) ∨ j ≠ ns)) : shS σ ns pl i9 r j = σ r j := by
  unfold shS
  rw [su_ne h.1]
  rcases h.2 with ⟨h1, h2⟩ | h1
  · rw [su_ne h2, su_ne h1]
  · rw [su_nat h1, su_nat h1]
theorem sh_7 {pl i9 : Int32} : shS σ ns pl i9 7 ns = pl := by
  unfold shS
  rw [su_ne (by decide), su_ne (by decide), su_at]
theorem sh_8 {pl i9 : Int32} : shS σ ns pl i9 8 ns = i9 := by
  unfold shS
  rw [su_ne (by decide), su_at]
theorem sh_18 {pl i9 : Int32} : shS σ ns pl i9 18 0 = σ 18 0 + 1 := by
  unfold shS
  rw [su_at]
theorem Inv.op (h : Inv σ α nm ns n N S) {pl : Nat} (hp : pl < 12) (hns : ns < 12) (ho : hoQ σ (nI pl) ns = false) : Inv (shS σ ns (nI pl) (nI N)) (su (czA (su α 1 ns (nI pl)) ns 5) 4 2 (nI (ns + 1))) nm (ns + 1) (n + 1) N S := by
  obtain ⟨h, g⟩ := h
  have e : ∀ r j, r ≠ 18 ∧ ((r ≠ 7 ∧ r ≠ 8) ∨ j ≠ ns) → shS σ ns (nI pl) (nI N) r j = σ r j := fun r j hr => sh_o hr
  obtain ⟨b1, b2, b3, b4⟩ := h.gB (σ' := shS σ ns (nI pl) (nI N)) (fun r j h1 h2 => e r j (by omega))
  have := h.nmn
  have := h.Nn
  have := h.Sn
  refine ⟨⟨by rw [sh_18, h.hns, nI_succ], by omega, by rw [e 17 0 (by omega)]; exact h.hnm, by omega, by rw [e 16 0 (by omega)]; exact h.now, by omega, by rw [e 19 0 (by omega)]; exact h.sgs, by omega, b1, b2, fun k => ?_, fun k => ?_, fun k => ?_, fun i j h1 h2 h3 => ?_, fun k => ?_, fun k => ?_, fun k => ?_, b3, fun k h1 h2 => b4 k (by omega) h2⟩, fun j hj => ?_, fun j hj => ?_, fun j hj => ?_, fun j hj => ?_, fun z hz => ?_, ?_, ?_, su_at⟩
  · rw [e 9 k (by omega)]
    exact ⟨(h.st k).1, fun h9 => (h.st k).2 (by omega)⟩
  · by_cases c : k = ns
    · subst c; exact ⟨N, sh_8, Nat.le_refl _⟩
    · rw [e 8 k (by omega)]; exact h.cut k
  · by_cases c : k = ns
    · subst c; exact ⟨pl, sh_7, hp⟩
    · rw [e 7 k (by omega)]; exact h.pls k
  · rw [e 7 i (by omega)] at h3
    rw [e 9 i (by omega)]
    by_cases c : j = ns
    · subst c
      rw [sh_7] at h3
      rcases (h.st i).1 with c2 | c2
      · exact absurd c2 (hoQ_no ho h1 h3)
      · exact c2
    · rw [e 7 j (by omega)] at h3
      exact h.one i j h1 (by omega) h3
  · rw [e 0 k (by omega)]; exact h.pr k
  · rw [e 1 k (by omega)]; exact h.bo k
  · rw [e 5 k (by omega)]; exact h.qu k
  · rw [su_ne (by decide), czA_ne (by decide), su_ne (by decide), e 0 j (by omega)]; exact g.ae j hj
  · rw [su_ne (by decide), czA_ne (by decide), su_ne (by decide), e 1 j (by omega)]; exact g.ab j hj
  · rw [su_ne (by decide), czA_ne (by decide)]
    by_cases c : j = ns
    · subst c; rw [su_at, sh_7]
    · rw [su_nat c, e 7 j (by omega)]; exact g.ap j (by omega)
  · rw [su_ne (by decide), e 13 j (by omega)]
    rcases Nat.lt_or_ge j (ns * 5) with c | c
    · rw [czA_lo (by omega), su_ne (by decide)]; exact g.ac j c
    · obtain ⟨d, hd⟩ : ∃ d, j = 5 * ns + d := ⟨j - 5 * ns, by omega⟩
      rw [hd, czA_in 5 (by omega), ← hd]
      exact (h.fr j c (by omega)).2.1.symm
  · rw [su_ne (by decide), czA_ne (by decide), su_ne (by decide), su_ne (by decide), czA_ne (by decide), su_ne (by decide), exF, exI_0 5 (fun j hj => by
      unfold hsB
      rw [e 14 _ (by omega), (h.fr (ns * 5 + j) (by omega) (by omega)).2.2]
      rfl), exF_c (fun k hk => e 7 k (by omega)) (fun k hk => ⟨e 14 k (by omega), e 15 k (by omega)⟩)]
    have g2 := g.az z hz
    split
    · exact g2
    · exact g2
  · rw [su_nat (by decide), czA_ne (by decide), su_ne (by decide)]; exact g.g0
  · rw [su_nat (by decide), czA_ne (by decide), su_ne (by decide)]; exact g.g1
theorem Inv.cl (h : Inv σ α nm ns n N S) (hk : k < ns) : Inv (su σ 9 k 1) α nm ns (n + 1) N S := by
  obtain ⟨h, g⟩ := h
  have e : ∀ r j, r ≠ 9 → su σ 9 k 1 r j = σ r j := fun r j hr => su_ne hr
  obtain ⟨b1, b2, b3, b4⟩ := h.gB (σ' := su σ 9 k 1) (fun r j h1 h2 => e r j (by omega))
  have := h.nmn
  have := h.Nn
  have := h.Sn
  refine ⟨⟨by rw [e 18 0 (by decide)]; exact h.hns, h.ns12, by rw [e 17 0 (by decide)]; exact h.hnm, by omega, by rw [e 16 0 (by decide)]; exact h.now, by omega, by rw [e 19 0 (by decide)]; exact h.sgs, by omega, b1, b2, fun j => ?_, fun j => ?_, fun j => ?_, fun i j h1 h2 h3 => ?_, fun j => ?_, fun j => ?_, fun j => ?_, b3, b4⟩, fun j hj => ?_, fun j hj => ?_, fun j hj => ?_, fun j hj => ?_, fun z hz => ?_, g.g0, g.g1, g.g2⟩
  · by_cases c : j = k
    · subst c; rw [su_at]; exact ⟨Or.inr rfl, fun h9 => by omega⟩
    · rw [su_nat c]; exact h.st j
  · rw [e 8 j (by decide)]; exact h.cut j
  · rw [e 7 j (by decide)]; exact h.pls j
  · rw [e 7 i (by decide), e 7 j (by decide)] at h3
    by_cases c : i = k
    · subst c; exact su_at
    · rw [su_nat c]; exact h.one i j h1 h2 h3
  · rw [e 0 j (by decide)]; exact h.pr j
  · rw [e 1 j (by decide)]; exact h.bo j
  · rw [e 5 j (by decide)]; exact h.qu j
  · rw [e 0 j (by decide)]; exact g.ae j hj
  · rw [e 1 j (by decide)]; exact g.ab j hj
  · rw [e 7 j (by decide)]; exact g.ap j hj
  · rw [e 13 j (by decide)]; exact g.ac j hj
  · rw [exF_c (fun k hk => e 7 k (by decide)) (fun k hk => ⟨e 14 k (by decide), e 15 k (by decide)⟩)]; exact g.az z hz
-- counting
theorem ad_0 {L : Nat} {pe q : Int32} (h : bc (σ 10 L) = 0) : adS σ L pe q = su (su σ 11 L q) 10 L (σ 10 L ||| 1 <<< (pe &&& 31)) := by
  unfold adS
  rw [if_pos h]
theorem ad_1 {L : Nat} {pe q : Int32} (h : bc (σ 10 L) = 1) : adS σ L pe q = su (su (su σ 12 L q) 13 L (if σ 11 L = q then q else -1)) 10 L (σ 10 L ||| 1 <<< (pe &&& 31)) := by
  unfold adS
  rw [h, if_neg (by decide), if_pos rfl]
  by_cases c : σ 11 L = q
  · rw [if_pos c, if_pos c]
  · rw [if_neg c, if_neg c]
theorem ad_2 {L : Nat} {pe q : Int32} (h : bc (σ 10 L) = 2) : adS σ L pe q = su (su σ 13 L (midV (σ 11 L) (σ 12 L) q)) 10 L (σ 10 L ||| 1 <<< (pe &&& 31)) := by
  unfold adS
  rw [h, if_neg (by decide), if_neg (by decide)]
theorem ad_10 {L : Nat} {pe q : Int32} : (adS σ L pe q) 10 L = (σ 10 L ||| 1 <<< (pe &&& 31)) := by
  unfold adS
  split
  · rw [su_at]
  · split
    · split
      · rw [su_at]
      · rw [su_at]
    · rw [su_at]
theorem ad_o {L : Nat} {pe q : Int32} {r j : Nat} (h : r < 10 ∨ 13 < r ∨ j ≠ L) : (adS σ L pe q) r j = σ r j := by
  have e : ∀ (ρ : kS) (r9 : Nat) (x : Int32), 9 < r9 → r9 < 14 → su ρ r9 L x r j = ρ r j := fun ρ r9 x h1 h2 => by
    by_cases c : j = L
    · exact su_ne (by omega)
    · exact su_nat c
  unfold adS
  split
  · rw [e _ 10 _ (by decide) (by decide), e _ 11 _ (by decide) (by decide)]
  · split
    · split
      · rw [e _ 10 _ (by decide) (by decide), e _ 13 _ (by decide) (by decide), e _ 12 _ (by decide) (by decide)]
      · rw [e _ 10 _ (by decide) (by decide), e _ 13 _ (by decide) (by decide), e _ 12 _ (by decide) (by decide)]
    · rw [e _ 10 _ (by decide) (by decide), e _ 13 _ (by decide) (by decide)]
theorem mid_u {x y z : Nat} (hx : x ≤ 100000) (hy : y ≤ 100000) (hz : z ≤ 100000) : ∃ w, w ≤ 100000 ∧ midV (nI x) (nI y) (nI z) = nI w := by
  have one : ∀ v : Int32, (v = nI x ∨ v = nI y ∨ v = nI z) → ∃ w, w ≤ 100000 ∧ v = nI w := fun v h => by
    rcases h with h | h | h
    · exact ⟨x, hx, h⟩
    · exact ⟨y, hy, h⟩
    · exact ⟨z, hz, h⟩
  apply one
  unfold midV
  dsimp only
  repeat' split
  all_goals first | exact Or.inl rfl | exact Or.inr (Or.inl rfl) | exact Or.inr (Or.inr rfl)
theorem ct_ln {L p q : Nat} (h : LnI σ L) (h13 : σ 13 L = -1) (hp : p < 6) (hq : q ≤ 100000) (hc : cbB σ L (nI p) = false) :
    ∃ c, c ≤ 2 ∧ bc (σ 10 L) = nI c ∧ bc (adS σ L (nI p) (nI q) 10 L) = nI (c + 1) ∧ LnI (adS σ L (nI p) (nI q)) L ∧ cbB (adS σ L (nI p) (nI q)) L (nI p) = true ∧
      ((c = 0 ∧ adS σ L (nI p) (nI q) 13 L = -1) ∨ (c = 1 ∧ (adS σ L (nI p) (nI q) 13 L = -1 ∨ adS σ L (nI p) (nI q) 13 L = nI q)) ∨ (c = 2 ∧ ∃ w, w ≤ 100000 ∧ adS σ L (nI p) (nI q) 13 L = nI w)) := by
  obtain ⟨c, mk, x, y, h1, h2, h3, h4, h5, h6, h7, h8, h9⟩ := h
  have hc2 : c ≤ 2 := by
    rcases h9 with ⟨-, g⟩ | ⟨-, a, ha, g⟩
    · exact g
    · rw [h13] at g
      exact absurd g.symm (nI_m1 (by omega))
  obtain ⟨b1, b2⟩ := mk_or mk h2 p hp
  have b4 : nI mk &&& ((1 : Int32) <<< (nI p &&& 31)) = 0 := by
    unfold cbB at hc
    rw [h3] at hc
    by_cases c9 : nI mk &&& ((1 : Int32) <<< (nI p &&& 31)) = 0
    · exact c9
    · rw [if_neg c9] at hc
      exact absurd hc (by decide)
  have b3 := mk_bc mk h2 p hp b4
  have s10 : adS σ L (nI p) (nI q) 10 L = nI (mk ||| (1 <<< p)) := by
    rw [ad_10, h3, b2]
  have sbc : bc (nI (mk ||| (1 <<< p))) = nI (c + 1) := by rw [b3, h4, nI_succ]
  have hbc : bc (σ 10 L) = nI c := by rw [h3, h4]
  have scb : cbB (adS σ L (nI p) (nI q)) L (nI p) = true := by
    unfold cbB
    rw [s10, if_neg (mk_in mk h2 p hp)]
  refine ⟨c, hc2, hbc, by rw [s10, sbc], ?_, scb, ?_⟩
  · rcases (by omega : c = 0 ∨ c = 1 ∨ c = 2) with q9 | q9 | q9
    · subst q9
      refine ⟨1, mk ||| (1 <<< p), q, y, by omega, b1, s10, sbc, ?_, hq, ?_, h8, Or.inl ⟨?_, by omega⟩⟩
      · rw [ad_0 hbc, su_ne (by decide), su_at]
      · rw [ad_0 hbc, su_ne (by decide), su_ne (by decide), h7]
      · rw [ad_0 hbc, su_ne (by decide), su_ne (by decide), h13]
    · subst q9
      refine ⟨2, mk ||| (1 <<< p), x, q, by omega, b1, s10, sbc, ?_, h6, ?_, hq, ?_⟩
      · rw [ad_1 hbc, su_ne (by decide), su_ne (by decide), su_ne (by decide), h5]
      · rw [ad_1 hbc, su_ne (by decide), su_ne (by decide), su_at]
      · rw [ad_1 hbc, su_ne (by decide), su_at]
        by_cases c8 : σ 11 L = nI q
        · rw [if_pos c8]; exact Or.inr ⟨by omega, q, hq, rfl⟩
        · rw [if_neg c8]; exact Or.inl ⟨rfl, by omega⟩
    · subst q9
      obtain ⟨w, hw, ew⟩ := mid_u h6 h8 hq
      refine ⟨3, mk ||| (1 <<< p), x, y, by omega, b1, s10, sbc, ?_, h6, ?_, h8, Or.inr ⟨by omega, w, hw, ?_⟩⟩
      · rw [ad_2 hbc, su_ne (by decide), su_ne (by decide), h5]
      · rw [ad_2 hbc, su_ne (by decide), su_ne (by decide), h7]
      · rw [ad_2 hbc, su_ne (by decide), su_at, h5, h7, ew]
  · rcases (by omega : c = 0 ∨ c = 1 ∨ c = 2) with q9 | q9 | q9
    · subst q9
      exact Or.inl ⟨rfl, by rw [ad_0 hbc, su_ne (by decide), su_ne (by decide), h13]⟩
    · subst q9
      refine Or.inr (Or.inl ⟨rfl, ?_⟩)
      rw [ad_1 hbc, su_ne (by decide), su_at]
      by_cases c8 : σ 11 L = nI q
      · rw [if_pos c8]; exact Or.inr rfl
      · rw [if_neg c8]; exact Or.inl rfl
    · subst q9
      obtain ⟨w, hw, ew⟩ := mid_u h6 h8 hq
      exact Or.inr (Or.inr ⟨rfl, w, hw, by rw [ad_2 hbc, su_ne (by decide), su_at, h5, h7, ew]⟩)
theorem InC.cb0 (h : InC σ nm ns n N S) {L p c : Nat} (hL : L < 200) (hp : p < 6) (hb : cbB σ L (nI p) = true) (hc : bc (σ 10 L) = nI c) : 0 < c := by
  obtain ⟨c', mk, x, y, h1, h2, h3, h4, -⟩ := h.ln L hL
  rcases Nat.eq_zero_or_pos c with q | q
  · exfalso
    subst q
    unfold cbB at hb
    rw [h3] at hb hc
    by_cases c9 : nI mk &&& ((1 : Int32) <<< (nI p &&& 31)) = 0
    · rw [if_pos c9] at hb; exact absurd hb (by decide)
    · exact mk_ps mk h2 p hp c9 hc
  · exact q
theorem Inv.ct (h : Inv σ α nm ns n N S) (hk : k < ns) (hi : i < 5) {p q : Nat} (h13 : σ 13 (k * 5 + i) = -1) (hp : p < 6) (hq : q ≤ 100000) (hc : cbB σ (k * 5 + i) (nI p) = false) : Inv (adS σ (k * 5 + i) (nI p) (nI q)) (su α 2 (5 * k + i) (adS σ (k * 5 + i) (nI p) (nI q) 13 (k * 5 + i))) nm ns (n + 1) N S := by
  obtain ⟨h, g⟩ := h
  have h12 := h.ns12
  have e : ∀ r j, r < 10 ∨ 13 < r ∨ j ≠ k * 5 + i → adS σ (k * 5 + i) (nI p) (nI q) r j = σ r j := fun r j hr => ad_o hr
  obtain ⟨a1, a2, a3, a4⟩ := h.gA (σ' := adS σ (k * 5 + i) (nI p) (nI q)) (fun r j h1 h2 => e r j (by omega))
  obtain ⟨c, -, -, -, l1, -, -⟩ := ct_ln (h.ln (k * 5 + i) (by omega)) h13 hp hq hc
  have := h.nmn
  have := h.Nn
  have := h.Sn
  have hL5 : 5 * k + i = k * 5 + i := by omega
  refine ⟨⟨by rw [e 18 0 (by omega)]; exact h.hns, h.ns12, by rw [e 17 0 (by omega)]; exact h.hnm, by omega, by rw [e 16 0 (by omega)]; exact h.now, by omega, by rw [e 19 0 (by omega)]; exact h.sgs, by omega, fun j => ?_, fun j hj => ?_, a1, a2, a3, a4, fun j => ?_, fun j => ?_, fun j => ?_, fun j hj => ?_, fun j h1 h2 => ?_⟩, fun j hj => ?_, fun j hj => ?_, fun j hj => ?_, fun j hj => ?_, fun z hz => ?_, ?_, ?_, ?_⟩
  · rw [e 14 j (by omega)]; exact h.sig j
  · have eh : hsB (adS σ (k * 5 + i) (nI p) (nI q)) j = hsB σ j := by
      unfold hsB
      rw [e 14 j (by omega)]
    rw [eh]
    intro hs
    have ha := h.sgl j hj hs
    by_cases c : j = k * 5 + i
    · subst c
      rw [agB_f h13] at ha
      exact absurd ha (by decide)
    · unfold agB at ha ⊢
      rw [e 13 j (by omega)]
      exact ha
  · rw [e 0 j (by omega)]; exact h.pr j
  · rw [e 1 j (by omega)]; exact h.bo j
  · rw [e 5 j (by omega)]; exact h.qu j
  · by_cases c : j = k * 5 + i
    · subst c; exact l1
    · exact (h.ln j hj).cg (fun r _ _ => e r j (by omega))
  · rw [e 10 j (by omega), e 13 j (by omega), e 14 j (by omega)]; exact h.fr j h1 h2
  · rw [su_ne (by decide), e 0 j (by omega)]; exact g.ae j hj
  · rw [su_ne (by decide), e 1 j (by omega)]; exact g.ab j hj
  · rw [su_ne (by decide), e 7 j (by omega)]; exact g.ap j hj
  · rw [hL5]
    by_cases c : j = k * 5 + i
    · subst c; exact su_at
    · rw [su_nat c, e 13 j (by omega)]; exact g.ac j hj
  · rw [su_ne (by decide), su_ne (by decide), exF_c (fun k hk => e 7 k (by omega)) (fun k hk => ⟨e 14 k (by omega), e 15 k (by omega)⟩)]; exact g.az z hz
  · rw [su_ne (by decide)]; exact g.g0
  · rw [su_ne (by decide)]; exact g.g1
  · rw [su_ne (by decide)]; exact g.g2
end SQ
