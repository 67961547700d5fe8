/-! THE WRITERS -/
theorem su_g (ρ : kS) (k i : Nat) (x : Int32) (r j : Nat) : su ρ k i x r j = if r = k then (if j = i then x else ρ r j) else ρ r j := by
  show (bif r.beq k then upd (ρ k) i x else ρ r) j = _
  by_cases c : r = k
  · subst c
    rw [if_pos rfl, Nat.beq_refl]
    rfl
  · have e9 : r.beq k = false := by rw [Bool.eq_false_iff]; intro q; exact c (Nat.eq_of_beq_eq_true q)
    rw [if_neg c, e9]
    rfl
theorem su_ne {ρ : kS} {k i : Nat} {x : Int32} {r j : Nat} (h : r ≠ k) : su ρ k i x r j = ρ r j := by
  rw [su_g, if_neg h]
theorem su_at {ρ : kS} {k i : Nat} {x : Int32} : su ρ k i x k i = x := by
  rw [su_g, if_pos rfl, if_pos rfl]
theorem su_nat {ρ : kS} {k i : Nat} {x : Int32} {r j : Nat} (h : j ≠ i) : su ρ k i x r j = ρ r j := by
  rw [su_g, if_neg h]
  by_cases c : r = k
  · rw [if_pos c]
  · rw [if_neg c]
theorem eqW {σ μ : kS} (h : ∀ r i, (r < 10 ∨ (13 < r ∧ r < 20)) → σ r i = μ r i) {x y : Int32} (hxy : x = y) (a j : Nat) : ∀ r i, (r < 10 ∨ (13 < r ∧ r < 20)) → su σ a j x r i = su μ a j y r i := by
  intro r i hr
  subst hxy
  rw [su_g, su_g, h r i hr]
theorem hcM_c {μ μ' : kS} {k : Nat} {who : Int32} : ∀ {c : Nat}, (∀ j, j < c → μ' 21 (3 * k + j) = μ 21 (3 * k + j)) → hcM μ' k who c = hcM μ k who c
  | 0, _ => rfl
  | c + 1, h => by
    rw [hcM, hcM, hcM_c (fun j hj => h j (by omega)), h c (by omega)]
theorem agM_c {μ μ' : kS} {k : Nat} (a20 : μ' 20 k = μ 20 k) (a22 : ∀ j, j < 3 → μ' 22 (3 * k + j) = μ 22 (3 * k + j)) : agM μ' k = agM μ k := by
  unfold agM
  rw [a20, show μ' 22 (3 * k) = μ 22 (3 * k) from a22 0 (by decide), a22 1 (by decide), a22 2 (by decide)]
theorem LnR.cg {σ σ' μ μ' : kS} {k : Nat} (h : LnR σ μ k) (a : ∀ r, 9 < r → r < 14 → σ' r k = σ r k) (a20 : μ' 20 k = μ 20 k) (a21 : ∀ j, j < 3 → μ' 21 (3 * k + j) = μ 21 (3 * k + j)) (a22 : ∀ j, j < 3 → μ' 22 (3 * k + j) = μ 22 (3 * k + j)) : LnR σ' μ' k := by
  obtain ⟨c, mk, h1, h2, h3, h4, h5, h6, h7, h8, h9⟩ := h
  refine ⟨c, mk, h1, h2, ?_, ?_, h5, fun p hp => ?_, ?_, fun hc => ?_, fun hc => ?_⟩
  · rw [a20, h3]
  · rw [a 10 (by decide) (by decide), h4]
  · rw [hcM_c (fun j hj => a21 j (by omega)), ← h6 p hp]
    unfold cbB
    rw [a 10 (by decide) (by decide)]
  · rw [a 13 (by decide) (by decide), agM_c a20 a22, h7]
  · rw [a 11 (by decide) (by decide), show μ' 22 (3 * k) = μ 22 (3 * k) from a22 0 (by decide), h8 hc]
  · rw [a 12 (by decide) (by decide), a22 1 (by decide), h9 hc]
/-- rows that no line reads have changed -/
theorem Rel.lns {σ μ σ' μ' : kS} {nm ns n N S : Nat} (h : Rel σ μ nm ns n N S) (a : ∀ r i, 9 < r → r < 14 → σ' r i = σ r i) (b : ∀ r i, 19 < r → r < 23 → μ' r i = μ r i) : ∀ k, k < 200 → LnR σ' μ' k :=
  fun k hk => (h.ln k hk).cg (fun r h1 h2 => a r k h1 h2) (b 20 k (by decide) (by decide)) (fun j _ => b 21 _ (by decide) (by decide)) (fun j _ => b 22 _ (by decide) (by decide))
theorem Rel.upR {σ μ : kS} {nm ns n N S : Nat} (h : Rel σ μ nm ns n N S) : Rel σ μ nm ns (n + 1) N S :=
  ⟨h.eq, h.hns, h.hns4, h.hnm, h.hnm2, h.now, Nat.le_trans h.hN (by omega), h.sgs, Nat.le_trans h.hS (by omega), h.sig, h.st, h.cut, h.one, h.pr, h.qu, h.cq, h.ln⟩
theorem ckR_b {x a b : Int32} (h : ckR x a b = true) : a ≤ x ∧ x ≤ b := by
  unfold ckR at h
  by_cases c1 : x < a
  · simp [c1] at h
  · by_cases c2 : b < x
    · simp [c1, c2] at h
    · exact ⟨nlt_le c1, nlt_le c2⟩
theorem ckR_z {x b : Int32} {k : Nat} (hb : b.toInt = k) (h : ckR x 0 b = true) : ∃ j, j ≤ k ∧ x = nI j := nI_of2 hb (le_nlt (ckR_b h).1) (ckR_b h).2
theorem ckR_1 {x b : Int32} {k : Nat} (hb : b.toInt = k) (h : ckR x 1 b = true) : ∃ j, j ≤ k ∧ x = nI j := by
  obtain ⟨h1, h2⟩ := ckR_b h
  refine nI_of2 hb (fun h3 => ?_) h2
  rw [Int32.le_iff_toInt_le] at h1
  rw [Int32.lt_iff_toInt_lt] at h3
  have e1 : (1 : Int32).toInt = 1 := by decide
  have e0 : (0 : Int32).toInt = 0 := by decide
  omega
theorem Rel.w0 {σ μ : kS} {nm ns n N S : Nat} (h : Rel σ μ nm ns n N S) (i z : Nat) (hz : z ≤ 1000) : Rel (su σ 0 i (nI z)) (su μ 0 i (nI z)) nm ns n N S := by
  refine ⟨eqW h.eq rfl 0 i, h.hns, h.hns4, h.hnm, h.hnm2, h.now, h.hN, h.sgs, h.hS, h.sig, h.st, h.cut, h.one, fun k => ?_, h.qu, h.cq, h.lns (fun r i h1 h2 => su_ne (by omega)) (fun r i h1 h2 => su_ne (by omega))⟩
  by_cases c : k = i
  · subst c
    exact ⟨z, su_at, hz⟩
  · rw [su_nat c]
    exact h.pr k
theorem Rel.w1 {σ μ : kS} {nm ns n N S : Nat} (h : Rel σ μ nm ns n N S) (i : Nat) (x : Int32) : Rel (su σ 1 i x) (su μ 1 i x) nm ns n N S :=
  ⟨eqW h.eq rfl 1 i, h.hns, h.hns4, h.hnm, h.hnm2, h.now, h.hN, h.sgs, h.hS, h.sig, h.st, h.cut, h.one, h.pr, h.qu, h.cq, h.lns (fun r i h1 h2 => su_ne (by omega)) (fun r i h1 h2 => su_ne (by omega))⟩
theorem op_setPrice {σ μ : kS} {nm ns n N S : Nat} (h : Rel σ μ nm ns n N S) (hn : n < 600) (x1 x2 : Int32) : (eX_setPrice x1 x2 = 0 → (sM (ckR x1 0 4, ckR x2 0 1000, true) μ (fun κ => su κ 0 (ixN x1) x2)) 23 0 = 0 ∧ ((σ 0 (ixN x1) : Int32).toInt64) = (vM (ckR x1 0 4, ckR x2 0 1000, true) (μ 0 (ixN x1)) : Int32).toInt64 ∧ RR ((su σ 0 (ixN x1) x2)) (sM (ckR x1 0 4, ckR x2 0 1000, true) μ (fun κ => su κ 0 (ixN x1) x2)) (n + 1)) ∧ (eX_setPrice x1 x2 ≠ 0 → (sM (ckR x1 0 4, ckR x2 0 1000, true) μ (fun κ => su κ 0 (ixN x1) x2)) 23 0 = (if eX_setPrice x1 x2 = 1 then 1 else if eX_setPrice x1 x2 = 2 then 2 else 3) ∧ RR σ (sM (ckR x1 0 4, ckR x2 0 1000, true) μ (fun κ => su κ 0 (ixN x1) x2)) (n + 1)) := by
  refine op_gen3 h ?_ (fun g => ?_) rfl (fun g h9 => ?_)
  · unfold eX_setPrice
    rw [ck5]
    cases ckR x1 0 4 <;> cases ckR x2 0 1000 <;> simp [go3, goV]
  · rw [vM_t g, h.e 0 (ixN x1)]
  · obtain ⟨z, hz, rfl⟩ := ckR_z (k := 1000) (by decide) (go3_t g).2.1
    exact ⟨nm, ns, N, S, (h9.w0 _ _ hz).upR⟩
theorem op_setBound {σ μ : kS} {nm ns n N S : Nat} (h : Rel σ μ nm ns n N S) (hn : n < 600) (x1 x2 : Int32) : (eX_setBound x1 x2 = 0 → (sM (ckR x1 0 5, ckR x2 0 1000000, true) μ (fun κ => su κ 1 (ixN x1) x2)) 23 0 = 0 ∧ ((σ 1 (ixN x1) : Int32).toInt64) = (vM (ckR x1 0 5, ckR x2 0 1000000, true) (μ 1 (ixN x1)) : Int32).toInt64 ∧ RR ((su σ 1 (ixN x1) x2)) (sM (ckR x1 0 5, ckR x2 0 1000000, true) μ (fun κ => su κ 1 (ixN x1) x2)) (n + 1)) ∧ (eX_setBound x1 x2 ≠ 0 → (sM (ckR x1 0 5, ckR x2 0 1000000, true) μ (fun κ => su κ 1 (ixN x1) x2)) 23 0 = (if eX_setBound x1 x2 = 1 then 1 else if eX_setBound x1 x2 = 2 then 2 else 3) ∧ RR σ (sM (ckR x1 0 5, ckR x2 0 1000000, true) μ (fun κ => su κ 1 (ixN x1) x2)) (n + 1)) := by
  refine op_gen3 h ?_ (fun g => ?_) rfl (fun g h9 => ?_)
  · unfold eX_setBound
    rw [ck6]
    cases ckR x1 0 5 <;> cases ckR x2 0 1000000 <;> simp [go3, goV]
  · rw [vM_t g, h.e 1 (ixN x1)]
  · exact ⟨nm, ns, N, S, (h9.w1 _ _).upR⟩
theorem ckP_eq {x : Int32} : ckP x = ckR x (-1) 11 := by
  unfold ckP ckI ckR
  by_cases c : x = -1
  · subst c; decide
  · rw [if_neg c]
    have e0 : (0 : Int32).toInt = 0 := by decide
    have e1 : (-1 : Int32).toInt = -1 := by decide
    have e2 : (11 : Int32).toInt = 11 := by decide
    have e3 : (12 : Int32).toInt = 12 := by decide
    have c9 : x.toInt ≠ -1 := fun q => c (Int32.toInt_inj.mp (by rw [q, e1]))
    have d1 : (x < 0) ↔ x < -1 := by
      rw [Int32.lt_iff_toInt_lt, Int32.lt_iff_toInt_lt]
      omega
    have d2 : (12 ≤ x) ↔ 11 < x := by
      rw [Int32.le_iff_toInt_le, Int32.lt_iff_toInt_lt]
      omega
    by_cases c1 : x < 0
    · rw [if_pos c1, if_pos (d1.mp c1)]
    · have c3 : ¬ x < -1 := fun q => c1 (d1.mpr q)
      rw [if_neg c1, if_neg c3]
      by_cases c2 : 12 ≤ x
      · rw [if_pos c2, if_pos (d2.mp c2)]
      · have c4 : ¬ 11 < x := fun q => c2 (d2.mpr q)
        rw [if_neg c2, if_neg c4]
theorem Rel.wmv {σ μ : kS} {nm ns n N S : Nat} (h : Rel σ μ nm ns n N S) (f t a : Int32) {q : Nat} (hq : q ≤ 1000) (i : Int32) (hnm : nm < 200) : Rel (mvS σ nm f t a (nI q) i) (mvM μ nm f t a (nI q) i) (nm + 1) ns n N S := by
  have e17 : σ 17 0 + 1 = nI (nm + 1) := by rw [h.e 17 0, h.hnm, nI_succ]
  have es : ∀ r i9, (9 < r ∧ r < 14) → mvS σ nm f t a (nI q) i r i9 = σ r i9 := fun r i9 hr => by
    unfold mvS
    rw [su_ne (by omega), su_ne (by omega), su_ne (by omega), su_ne (by omega), su_ne (by omega), su_ne (by omega)]
  have em : ∀ r i9, (19 < r ∧ r < 23) → mvM μ nm f t a (nI q) i r i9 = μ r i9 := fun r i9 hr => by
    unfold mvM
    rw [su_ne (by omega), su_ne (by omega), su_ne (by omega), su_ne (by omega), su_ne (by omega), su_ne (by omega)]
  refine ⟨eqW (eqW (eqW (eqW (eqW (eqW h.eq rfl 2 nm) rfl 3 nm) rfl 4 nm) rfl 5 nm) rfl 6 nm) e17 17 0, h.hns, h.hns4, su_at, hnm, h.now, h.hN, h.sgs, h.hS, h.sig, h.st, h.cut, h.one, h.pr, fun k => ?_, h.cq, h.lns (fun r i h1 h2 => es r i ⟨h1, h2⟩) (fun r i h1 h2 => em r i ⟨h1, h2⟩)⟩
  show ∃ z, su μ 5 nm (nI q) 5 k = nI z ∧ z ≤ 1000
  by_cases c : k = nm
  · subst c
    exact ⟨q, su_at, hq⟩
  · rw [su_nat c]
    exact h.qu k
theorem Rel.mv2 {σ μ : kS} {nm ns n N S : Nat} (h : Rel σ μ nm ns n N S) : (μ 17 0 < 200) ↔ nm < 200 := by
  have h2 := h.hnm2
  rw [h.hnm, show (200 : Int32) = nI 200 from rfl, nI_ltI (by omega) (by omega)]
theorem op_move {σ μ : kS} {nm ns n N S : Nat} (h : Rel σ μ nm ns n N S) (hn : n < 600) (x1 x2 x3 x4 x5 : Int32) : (eX_move σ x1 x2 x3 x4 x5 = 0 → (sM (ckR x1 (-1) 11 && ckR x2 (-1) 11 && ckR x3 0 4, !decide (x1 = x2) && ckR x4 1 1000 && ckR x5 0 (μ 16 0), decide (μ 17 0 < 200)) μ (fun κ => mvM κ nm x1 x2 x3 x4 x5)) 23 0 = 0 ∧ ((nI nm : Int32).toInt64) = (vM (ckR x1 (-1) 11 && ckR x2 (-1) 11 && ckR x3 0 4, !decide (x1 = x2) && ckR x4 1 1000 && ckR x5 0 (μ 16 0), decide (μ 17 0 < 200)) (nI nm) : Int32).toInt64 ∧ RR ((mvS σ nm x1 x2 x3 x4 x5)) (sM (ckR x1 (-1) 11 && ckR x2 (-1) 11 && ckR x3 0 4, !decide (x1 = x2) && ckR x4 1 1000 && ckR x5 0 (μ 16 0), decide (μ 17 0 < 200)) μ (fun κ => mvM κ nm x1 x2 x3 x4 x5)) (n + 1)) ∧ (eX_move σ x1 x2 x3 x4 x5 ≠ 0 → (sM (ckR x1 (-1) 11 && ckR x2 (-1) 11 && ckR x3 0 4, !decide (x1 = x2) && ckR x4 1 1000 && ckR x5 0 (μ 16 0), decide (μ 17 0 < 200)) μ (fun κ => mvM κ nm x1 x2 x3 x4 x5)) 23 0 = (if eX_move σ x1 x2 x3 x4 x5 = 1 then 1 else if eX_move σ x1 x2 x3 x4 x5 = 2 then 2 else 3) ∧ RR σ (sM (ckR x1 (-1) 11 && ckR x2 (-1) 11 && ckR x3 0 4, !decide (x1 = x2) && ckR x4 1 1000 && ckR x5 0 (μ 16 0), decide (μ 17 0 < 200)) μ (fun κ => mvM κ nm x1 x2 x3 x4 x5)) (n + 1)) := by
  refine op_gen3 h ?_ (fun g => ?_) rfl (fun g h9 => ?_)
  · unfold eX_move
    rw [ckP_eq, ckP_eq, ck5, h.e 16 0, h.e 17 0]
    cases ckR x1 (-1) 11
    · simp [go3, goV]
    · cases ckR x2 (-1) 11
      · simp [go3, goV]
      · cases ckR x3 0 4
        · simp [go3, goV]
        · by_cases c : x1 = x2
          · simp [go3, goV, c]
          · cases ckR x4 1 1000
            · simp [go3, goV, c]
            · cases ckR x5 0 (μ 16 0)
              · simp [go3, goV, c]
              · by_cases c2 : μ 17 0 < 200
                · simp [go3, goV, c, c2]
                · simp [go3, goV, c, c2]
  · rw [vM_t g]
  · obtain ⟨g1, g2, g3⟩ := go3_t g
    obtain ⟨z, hz, rfl⟩ := ckR_1 (k := 1000) (by decide) (bAnd (bAnd g2).1).2
    exact ⟨nm + 1, ns, N, S, (h9.wmv _ _ _ hz _ (h.mv2.mp (of_decide_eq_true g3))).upR⟩
theorem op_pass {σ μ : kS} {nm ns n N S : Nat} (h : Rel σ μ nm ns n N S) (hn : n < 600) (x1 : Int32) : (eX_pass x1 = 0 → (sM (ckR x1 1 1000, true, true) μ (fun κ => su κ 16 0 (κ 16 0 + x1))) 23 0 = 0 ∧ ((σ 16 0 + x1 : Int32).toInt64) = (vM (ckR x1 1 1000, true, true) (μ 16 0 + x1) : Int32).toInt64 ∧ RR ((su σ 16 0 (σ 16 0 + x1))) (sM (ckR x1 1 1000, true, true) μ (fun κ => su κ 16 0 (κ 16 0 + x1))) (n + 1)) ∧ (eX_pass x1 ≠ 0 → (sM (ckR x1 1 1000, true, true) μ (fun κ => su κ 16 0 (κ 16 0 + x1))) 23 0 = (if eX_pass x1 = 2 then 1 else 2) ∧ RR σ (sM (ckR x1 1 1000, true, true) μ (fun κ => su κ 16 0 (κ 16 0 + x1))) (n + 1)) := by
  refine op_gen3 h ?_ (fun g => ?_) rfl (fun g h9 => ?_)
  · unfold eX_pass
    cases ckR x1 1 1000 <;> simp [go3, goV]
  · rw [vM_t g, h.e 16 0]
  · obtain ⟨z, hz, rfl⟩ := ckR_1 (k := 1000) (by decide) (go3_t g).1
    have e16 : σ 16 0 + nI z = (su μ 23 0 0) 16 0 + nI z := by rw [h9.e 16 0]
    have e2 : (su μ 23 0 0) 16 0 + nI z = nI (N + z) := by rw [h9.now, nI_add]
    have hN := h.hN
    refine ⟨nm, ns, N + z, S, eqW h9.eq e16 16 0, h9.hns, h9.hns4, h9.hnm, h9.hnm2, ?_, by omega, h9.sgs, Nat.le_trans h9.hS (by omega), h9.sig, h9.st, fun k => ?_, h9.one, h9.pr, h9.qu, h9.cq, h9.lns (fun r i h1 h2 => su_ne (by omega)) (fun r i h1 h2 => su_ne (by omega))⟩
    · show su (su μ 23 0 0) 16 0 ((su μ 23 0 0) 16 0 + nI z) 16 0 = nI (N + z)
      rw [su_at, e2]
    · obtain ⟨y, h1, h2⟩ := h9.cut k
      exact ⟨y, h1, by omega⟩
theorem latO_no {ρ : kS} {pl : Int32} : ∀ {k : Nat}, latO ρ pl k = none → ∀ i, i < k → ρ 7 i ≠ pl
  | 0, _, i, hi => by omega
  | k + 1, h, i, hi => by
    by_cases q : ρ 7 k = pl
    · simp [latO, q] at h
    · simp [latO, q] at h
      by_cases c : i = k
      · subst c; exact q
      · exact latO_no h i (by omega)
theorem latO_af {ρ : kS} {pl : Int32} : ∀ {k j : Nat}, latO ρ pl k = some j → ∀ i, j < i → i < k → ρ 7 i ≠ pl
  | 0, j, h, i, _, hi => by omega
  | k + 1, j, h, i, hj, hi => by
    by_cases q : ρ 7 k = pl
    · simp [latO, q] at h
      omega
    · simp [latO, q] at h
      by_cases c : i = k
      · subst c; exact q
      · exact latO_af h i hj (by omega)
theorem hoM_f {μ : kS} {pl : Int32} : ∀ {k : Nat}, (∀ i, i < k → μ 7 i = pl → ¬ μ 9 i = 0) → hoM μ pl k = false
  | 0, _ => rfl
  | k + 1, h => by
    rw [hoM, hoM_f (fun i hi => h i (by omega))]
    by_cases c : μ 7 k = pl
    · simp [c, h k (by omega) c]
    · simp [c]
theorem hoM_t {μ : kS} {pl : Int32} {i : Nat} (h1 : μ 7 i = pl) (h2 : μ 9 i = 0) : ∀ {k : Nat}, i < k → hoM μ pl k = true
  | 0, hi => by omega
  | k + 1, hi => by
    rw [hoM]
    by_cases c : i = k
    · subst c
      simp [h1, h2]
    · rw [hoM_t h1 h2 (by omega)]
      rfl
theorem Rel.op {σ μ : kS} {nm ns n N S : Nat} (h : Rel σ μ nm ns n N S) (pl : Int32) : opB σ pl ns = hoM μ pl ns := by
  unfold opB
  cases q : latO σ pl ns with
  | none =>
    refine (hoM_f (fun i hi h7 => ?_)).symm
    exact absurd ((h.e 7 i).trans h7) (latO_no q i hi)
  | some j =>
    obtain ⟨hj, h7⟩ := latO_lt q
    show (if σ 9 j = 0 then true else false) = hoM μ pl ns
    rw [h.e 7 j] at h7
    rw [h.e 9 j]
    by_cases c : μ 9 j = 0
    · rw [if_pos c, hoM_t h7 c hj]
    · rw [if_neg c]
      refine (hoM_f (fun i hi h8 => ?_)).symm
      rcases Nat.lt_trichotomy i j with c2 | c2 | c2
      · rw [h.one i j c2 hj (h8.trans h7.symm)]
        decide
      · subst c2; exact c
      · exact absurd ((h.e 7 i).trans h8) (latO_af q i c2 hi)
theorem Rel.s40 {σ μ : kS} {nm ns n N S : Nat} (h : Rel σ μ nm ns n N S) : (μ 18 0 < 40) ↔ ns < 40 := by
  have h2 := h.hns4
  rw [h.hns, show (40 : Int32) = nI 40 from rfl, nI_ltI (by omega) (by omega)]
theorem hoM_n {μ : kS} {pl : Int32} {i k : Nat} (h : hoM μ pl k = false) (hi : i < k) (h1 : μ 7 i = pl) : ¬ μ 9 i = 0 := fun h2 => by
  rw [hoM_t h1 h2 hi] at h
  exact absurd h (by decide)
theorem Rel.wop {σ μ : kS} {nm ns n N S : Nat} (h : Rel σ μ nm ns n N S) (pl : Int32) (hs : ns < 40) (ho : hoM μ pl ns = false) : Rel (shS σ ns pl (σ 16 0)) (opM μ ns pl) nm (ns + 1) n N S := by
  have e18 : σ 18 0 + 1 = nI (ns + 1) := by rw [h.e 18 0, h.hns, nI_succ]
  have z9 : μ 9 ns = 0 := (h.st ns).2 (Nat.le_refl ns)
  have e1 : ∀ r i, (r < 10 ∨ (13 < r ∧ r < 20)) → su (su σ 7 ns pl) 8 ns (σ 16 0) r i = su (su (su μ 7 ns pl) 8 ns (μ 16 0)) 9 ns 0 r i := fun r i hr => by
    rw [su_g _ 9]
    by_cases c : r = 9
    · by_cases c2 : i = ns
      · subst c; subst c2
        rw [if_pos rfl, if_pos rfl, su_ne (by decide), su_ne (by decide), h.e 9 i, z9]
      · rw [if_pos c, if_neg c2]
        exact eqW (eqW h.eq rfl 7 ns) (h.e 16 0) 8 ns r i hr
    · rw [if_neg c]
      exact eqW (eqW h.eq rfl 7 ns) (h.e 16 0) 8 ns r i hr
  have es : ∀ r i9, (9 < r ∧ r < 14) → shS σ ns pl (σ 16 0) r i9 = σ r i9 := fun r i9 hr => by
    unfold shS
    rw [su_ne (by omega), su_ne (by omega), su_ne (by omega)]
  have em : ∀ r i9, (19 < r ∧ r < 23) → opM μ ns pl r i9 = μ r i9 := fun r i9 hr => by
    unfold opM
    rw [su_ne (by omega), su_ne (by omega), su_ne (by omega), su_ne (by omega)]
  refine ⟨eqW e1 e18 18 0, su_at, hs, h.hnm, h.hnm2, h.now, h.hN, h.sgs, h.hS, h.sig, fun k => ?_, fun k => ?_, fun i j hij hj => ?_, h.pr, h.qu, h.cq, h.lns (fun r i h1 h2 => es r i ⟨h1, h2⟩) (fun r i h1 h2 => em r i ⟨h1, h2⟩)⟩
  · show (su μ 9 ns 0 9 k = 0 ∨ su μ 9 ns 0 9 k = 1) ∧ (ns + 1 ≤ k → su μ 9 ns 0 9 k = 0)
    by_cases c : k = ns
    · subst c
      rw [su_at]
      exact ⟨Or.inl rfl, fun _ => rfl⟩
    · rw [su_nat c]
      exact ⟨(h.st k).1, fun h9 => (h.st k).2 (by omega)⟩
  · show ∃ z, su μ 8 ns (μ 16 0) 8 k = nI z ∧ z ≤ N
    by_cases c : k = ns
    · subst c
      exact ⟨N, by rw [su_at, h.now], Nat.le_refl N⟩
    · rw [su_nat c]
      exact h.cut k
  · show su μ 7 ns pl 7 i = su μ 7 ns pl 7 j → su μ 9 ns 0 9 i = 1
    rw [su_nat (i := ns) (j := i) (r := 7) (by omega), su_nat (i := ns) (j := i) (r := 9) (by omega)]
    by_cases c : j = ns
    · subst c
      rw [su_at]
      intro h7
      rcases (h.st i).1 with c2 | c2
      · exact absurd c2 (hoM_n ho hij h7)
      · exact c2
    · rw [su_nat c]
      exact h.one i j hij (by omega)
theorem hoM_23 {μ : kS} {v pl : Int32} : ∀ {c : Nat}, hoM (su μ 23 0 v) pl c = hoM μ pl c
  | 0 => rfl
  | c + 1 => by
    rw [hoM, hoM, hoM_23]
    rfl
theorem op_open {σ μ : kS} {nm ns n N S : Nat} (h : Rel σ μ nm ns n N S) (hn : n < 600) (x1 : Int32) : (eX_open σ ns x1 = 0 → (sM (ckR x1 0 11, !hoM μ x1 ns && decide (μ 18 0 < 40), true) μ (fun κ => opM κ ns x1)) 23 0 = 0 ∧ ((nI ns : Int32).toInt64) = (vM (ckR x1 0 11, !hoM μ x1 ns && decide (μ 18 0 < 40), true) (nI ns) : Int32).toInt64 ∧ RR ((shS σ ns x1 (σ 16 0))) (sM (ckR x1 0 11, !hoM μ x1 ns && decide (μ 18 0 < 40), true) μ (fun κ => opM κ ns x1)) (n + 1)) ∧ (eX_open σ ns x1 ≠ 0 → (sM (ckR x1 0 11, !hoM μ x1 ns && decide (μ 18 0 < 40), true) μ (fun κ => opM κ ns x1)) 23 0 = (if eX_open σ ns x1 = 1 then 1 else if eX_open σ ns x1 = 3 then 2 else 3) ∧ RR σ (sM (ckR x1 0 11, !hoM μ x1 ns && decide (μ 18 0 < 40), true) μ (fun κ => opM κ ns x1)) (n + 1)) := by
  refine op_gen3 h ?_ (fun g => ?_) rfl (fun g h9 => ?_)
  · unfold eX_open
    rw [ck12, h.op, h.e 18 0]
    cases ckR x1 0 11
    · simp [go3, goV]
    · cases hoM μ x1 ns
      · by_cases c2 : μ 18 0 < 40
        · simp [go3, goV, c2]
        · simp [go3, goV, c2]
      · simp [go3, goV]
  · rw [vM_t g]
  · obtain ⟨g1, g2, g3⟩ := go3_t g
    obtain ⟨g4, g5⟩ := bAnd g2
    have ho : hoM μ x1 ns = false := by
      cases c : hoM μ x1 ns
      · rfl
      · rw [c] at g4; exact absurd g4 (by decide)
    exact ⟨nm, ns + 1, N, S, (h9.wop x1 (h.s40.mp (of_decide_eq_true g5)) (by rw [hoM_23]; exact ho)).upR⟩
