/-! WHICH PLACE IS SUGGESTED -/
theorem bm_in {x : Int} (h1 : -2147483648 ≤ x) (h2 : x < 2147483648) : x.bmod (2 ^ 32) = x := Int.bmod_eq_of_le (by omega) (by omega)
theorem agM_u {μ : kS} (hq : ∀ j, ∃ z, μ 22 j = nI z ∧ z ≤ 100000) (k : Nat) : -1 ≤ (agM μ k).toInt ∧ (agM μ k).toInt ≤ 100000 := by
  have u : ∀ j, -1 ≤ (μ 22 j).toInt ∧ (μ 22 j).toInt ≤ 100000 := fun j => by
    obtain ⟨z, hz, hz2⟩ := hq j
    rw [hz, nI_toInt (by omega)]
    omega
  have e : -1 ≤ (-1 : Int32).toInt ∧ (-1 : Int32).toInt ≤ 100000 := by decide
  unfold agM
  split
  · exact e
  · split
    · split
      · exact u _
      · exact e
    · split
      · exact u _
      · split
        · exact u _
        · split
          · exact u _
          · split
            · exact u _
            · split
              · exact u _
              · exact u _
theorem tmM_u {μ : kS} (hq : ∀ j, ∃ z, μ 5 j = nI z ∧ z ≤ 1000) (pl ar af un : Int32) (k : Nat) : -1000 ≤ (tmM μ pl ar af un k).toInt ∧ (tmM μ pl ar af un k).toInt ≤ 1000 := by
  obtain ⟨z, hz, hz2⟩ := hq k
  have e : -1000 ≤ (0 : Int32).toInt ∧ (0 : Int32).toInt ≤ 1000 := by decide
  unfold tmM
  rw [hz]
  split
  · split
    · rw [nI_toInt (by omega)]
      omega
    · split
      · rw [Int32.toInt_neg, nI_toInt (by omega), bm_in (by omega) (by omega)]
        omega
      · exact e
  · exact e
theorem smM_u {μ : kS} (hq : ∀ j, ∃ z, μ 5 j = nI z ∧ z ≤ 1000) (pl ar af un : Int32) {z : Int32} (h1 : -1 ≤ z.toInt) (h2 : z.toInt ≤ 100000) : ∀ k : Nat, k ≤ 200 → -1 - 1000 * (k : Int) ≤ (smM μ pl ar af un z k).toInt ∧ (smM μ pl ar af un z k).toInt ≤ 100000 + 1000 * (k : Int)
  | 0, _ => by
    rw [smM]
    omega
  | k + 1, hk => by
    obtain ⟨a1, a2⟩ := smM_u hq pl ar af un h1 h2 k (by omega)
    obtain ⟨b1, b2⟩ := tmM_u hq pl ar af un k
    rw [smM, Int32.toInt_add, bm_in (by omega) (by omega)]
    omega
theorem Rel.bou {σ μ : kS} {nm ns n N S : Nat} (h : Rel σ μ nm ns n N S) (pl : Int32) (ar : Nat) (mi : Int32) : (boM μ nm ns pl ar mi).toInt ≤ 300000 := by
  have hm := h.hnm2
  unfold boM
  cases q : fdM μ pl ar mi ns with
  | none =>
    have e := (smM_u h.qu pl (nI ar) (-1) mi (z := 0) (by decide) (by decide) nm hm).2
    show (smM μ pl (nI ar) (-1) mi 0 nm).toInt ≤ 300000
    omega
  | some k =>
    obtain ⟨a1, a2⟩ := agM_u h.cq (k * 5 + ar)
    have e := (smM_u h.qu pl (nI ar) (μ 8 k) mi a1 a2 nm hm).2
    show (smM μ pl (nI ar) (μ 8 k) mi (agM μ (k * 5 + ar)) nm).toInt ≤ 300000
    omega
theorem Rel.wou {σ μ : kS} {nm ns n N S : Nat} (h : Rel σ μ nm ns n N S) (pl : Int32) : ∀ k, ∃ w, woM μ nm ns pl k = nI w ∧ w ≤ k * 300000000
  | 0 => ⟨0, rfl, Nat.le_refl _⟩
  | k + 1 => by
    obtain ⟨w, e, hw⟩ := Rel.wou h pl k
    rw [woM, e]
    by_cases c : boM μ nm ns pl k (μ 16 0) ≤ 0
    · rw [if_pos c]
      exact ⟨w, Int32.add_zero _, Nat.le_trans hw (Nat.mul_le_mul_right _ (Nat.le_succ k))⟩
    · rw [if_neg c]
      obtain ⟨p, hp, hp2⟩ := h.pr k
      have e2 := h.bou pl k (μ 16 0)
      obtain ⟨b, hb2, hb⟩ := nI_of (x := boM μ nm ns pl k (μ 16 0)) (fun h9 => c (Int32.le_of_lt h9))
      rw [hb, nI_toInt hb2] at e2
      have h3 : p * b ≤ 1000 * 300000 := Nat.mul_le_mul hp2 (by omega)
      rw [hb, hp, pk_mul, nI_add]
      refine ⟨w + p * b, rfl, ?_⟩
      rw [Nat.add_one_mul]
      exact Nat.add_le_add hw (Nat.le_trans h3 (by decide))
theorem Rel.ld {σ μ : kS} {nm ns n N S : Nat} (h : Rel σ μ nm ns n N S) (pl : Int32) : ∀ k, ldM μ pl k = (match latO σ pl k with
  | none => -1
  | some j => μ 8 j)
  | 0 => rfl
  | k + 1 => by
    rw [ldM, latO, h.e 7 k]
    by_cases c : μ 7 k = pl
    · rw [if_pos c, if_pos c]
    · rw [if_neg c, if_neg c]
      exact Rel.ld h pl k
theorem Rel.min {σ μ : kS} {nm ns n N S : Nat} (h : Rel σ μ nm ns n N S) (hn : n < 600) (pl : Int32) : (match latO σ pl ns with
  | none => (σ 16 0).toInt64 + 1
  | some k => (σ 16 0 - σ 8 k).toInt64) = (μ 16 0 - ldM μ pl ns).toInt64 ∧ ∃ m, (μ 16 0 - ldM μ pl ns).toInt64 = lN m ∧ m ≤ 600001 := by
  have hN := h.hN
  rw [h.ld pl ns]
  cases latO σ pl ns with
  | none =>
    have e : (μ 16 0 - -1 : Int32) = nI (N + 1) := by
      rw [h.now, Int32.sub_eq_add_neg, show (- -1 : Int32) = 1 from rfl, ← nI_succ]
    show (σ 16 0).toInt64 + 1 = (μ 16 0 - -1).toInt64 ∧ ∃ m, (μ 16 0 - -1).toInt64 = lN m ∧ m ≤ 600001
    rw [e, nI_l (by omega), h.e 16 0, h.now, nI_l (by omega), lN_1]
    exact ⟨rfl, N + 1, rfl, by omega⟩
  | some j =>
    obtain ⟨z, hz, hz2⟩ := h.cut j
    have e : μ 16 0 - μ 8 j = nI (N - z) := by
      rw [h.now, hz]
      exact (Int32.ofNat_sub N z hz2).symm
    show (σ 16 0 - σ 8 j).toInt64 = (μ 16 0 - μ 8 j).toInt64 ∧ ∃ m, (μ 16 0 - μ 8 j).toInt64 = lN m ∧ m ≤ 600001
    rw [h.e 16 0, h.e 8 j, e, nI_l (by omega)]
    exact ⟨rfl, N - z, rfl, by omega⟩
theorem Rel.ur {σ μ : kS} {nm ns n N S : Nat} (h : Rel σ μ nm ns n N S) (hn : n < 600) (pl : Int32) : urV σ nm ns pl = raM μ nm ns pl := by
  unfold urV raM
  rw [h.wo hn pl 5 (Nat.le_refl 5)]
  exact congrArg (fun x => ((woM μ nm ns pl 5).toInt64 + 1) * x) (h.min hn pl).1
theorem Rel.ra0 {σ μ : kS} {nm ns n N S : Nat} (h : Rel σ μ nm ns n N S) (hn : n < 600) (pl : Int32) : ¬ lg_cmp (raM μ nm ns pl) (-1) ≤ 0 := by
  obtain ⟨-, m, e, hm⟩ := h.min hn pl
  obtain ⟨w, ew, hw⟩ := h.wou pl 5
  have h3 : (w + 1) * m ≤ 1500000001 * 600001 := Nat.mul_le_mul (by omega) hm
  unfold raM
  rw [e, ew, nI_l (by omega), lN_1, lN_mul]
  have e2 : (lN ((w + 1) * m)).toInt = ((w + 1) * m : Nat) := lg_ofNat_toInt (by omega)
  have e3 : (-1 : Int64).toInt = -1 := by decide
  have h4 : lN ((w + 1) * m) > -1 := by
    show (-1 : Int64) < lN ((w + 1) * m)
    rw [Int64.lt_iff_toInt_lt, e2, e3]
    omega
  unfold lg_cmp
  rw [if_pos h4]
  decide
theorem Rel.su {σ μ : kS} {nm ns n N S : Nat} (h : Rel σ μ nm ns n N S) (hn : n < 600) : ∀ k, k ≤ 12 → (suF σ nm ns k).1 = (suM μ nm ns k).1 ∧ ((suM μ nm ns k).1 = -1 → (suM μ nm ns k).2 = -1) ∧ ((suM μ nm ns k).1 ≠ -1 → (suF σ nm ns k).2 = (suM μ nm ns k).2)
  | 0, _ => ⟨rfl, fun _ => rfl, fun h9 => absurd rfl h9⟩
  | k + 1, hk => by
    obtain ⟨a1, a2, a3⟩ := Rel.su h hn k (by omega)
    have hk1 : ¬ nI k = -1 := nI_m1 (by omega)
    rw [suF, suM]
    generalize suF σ nm ns k = y at a1 a2 a3
    generalize suM μ nm ns k = z at a1 a2 a3
    unfold suT suB
    rw [h.op (nI k), h.ur hn (nI k), a1]
    cases hoM μ (nI k) ns
    · by_cases c : z.1 = -1
      · have c2 := h.ra0 hn (nI k)
        rw [a2 c]
        simp [c, c2, hk1]
      · have c3 := a3 c
        rw [c3]
        by_cases c2 : lg_cmp (raM μ nm ns (nI k)) z.2 ≤ 0
        · simp [c, c2, a1, c3]
        · simp [c, c2, hk1]
    · simp [a1]
      exact ⟨a2, a3⟩
theorem op_suggested {σ μ : kS} {nm ns n N S : Nat} (h : Rel σ μ nm ns n N S) (hn : n < 600) : (suF σ nm ns 12).1 = (suM (su μ 23 0 0) nm ns 12).1 ∧ RR σ (su μ 23 0 0) (n + 1) := by
  exact ⟨((h.r23 0).su hn 12 (Nat.le_refl 12)).1, (h.r23 0).up⟩
