/-! FACTS: books are bounded; which place is suggested -/
theorem bm_in {x : Int} (h1 : -2147483648 ≤ x) (h2 : x < 2147483648) : x.bmod (2 ^ 32) = x := Int.bmod_eq_of_le (by omega) (by omega)
section FP
variable {σ : kS} {nm ns n N S : Nat}
theorem br_u (hq : ∀ k, ∃ z, σ 5 k = nI z ∧ z ≤ 1000) (pl ar af un : Int32) : ∀ k : Nat, k ≤ 200 → -(1000 * (k : Int)) ≤ (brF σ pl ar af un k).toInt ∧ (brF σ pl ar af un k).toInt ≤ 1000 * (k : Int)
  | 0, _ => by
    rw [brF]
    decide
  | k + 1, hk => by
    obtain ⟨a1, a2⟩ := br_u hq pl ar af un k (by omega)
    obtain ⟨z, hz, hz2⟩ := hq k
    rw [brF]
    generalize brF σ pl ar af un k = y at a1 a2
    have ez : (nI z).toInt = z := nI_toInt (by omega)
    unfold brT
    rw [hz]
    split
    · split
      · split
        · split
          · rw [Int32.toInt_add, ez, bm_in (by omega) (by omega)]
            omega
          · split
            · rw [Int32.toInt_sub, ez, bm_in (by omega) (by omega)]
              omega
            · omega
        · omega
      · omega
    · omega
theorem InC.bo_u (h : InC σ nm ns n N S) (hn : n ≤ 110) {ar : Nat} (har : ar < 5) (pl mi : Int32) : -300000 ≤ (boV σ nm ns pl ar mi).toInt ∧ (boV σ nm ns pl ar mi).toInt ≤ 300000 := by
  have hm := h.nmn
  have h12 := h.ns12
  unfold boV
  cases q : ssO σ pl ar mi ns with
  | none =>
    obtain ⟨e1, e2⟩ := br_u h.qu pl (nI ar) (-1) mi nm (by omega)
    show -300000 ≤ (brF σ pl (nI ar) (-1) mi nm).toInt ∧ (brF σ pl (nI ar) (-1) mi nm).toInt ≤ 300000
    omega
  | some k =>
    have hk := ssO_lt q
    obtain ⟨e1, e2⟩ := br_u h.qu pl (nI ar) (σ 8 k) mi nm (by omega)
    show -300000 ≤ (σ 13 (k * 5 + ar) + brF σ pl (nI ar) (σ 8 k) mi nm).toInt ∧ (σ 13 (k * 5 + ar) + brF σ pl (nI ar) (σ 8 k) mi nm).toInt ≤ 300000
    have ea : -1 ≤ (σ 13 (k * 5 + ar)).toInt ∧ (σ 13 (k * 5 + ar)).toInt ≤ 100000 := by
      rcases h.ag2 (k := k * 5 + ar) (by omega) with ⟨g, -⟩ | ⟨a, ha, g, -⟩
      · rw [g]; decide
      · rw [g, nI_toInt (by omega)]; omega
    rw [Int32.toInt_add, bm_in (by omega) (by omega)]
    omega
theorem InC.wo_u (h : InC σ nm ns n N S) (hn : n ≤ 110) (pl : Int32) : ∀ k, k ≤ 5 → ∃ w, woF σ nm ns pl k = nI w ∧ w ≤ k * 1500000
  | 0, _ => ⟨0, rfl, Nat.le_refl _⟩
  | k + 1, hk => by
    obtain ⟨w, e, hw⟩ := InC.wo_u h hn pl k (by omega)
    rw [woF, e]
    by_cases c : 0 < boV σ nm ns pl k (σ 16 0)
    · rw [if_pos c]
      obtain ⟨p, hp, hp2⟩ := h.pr k
      have e2 := (h.bo_u hn (ar := k) (by omega) pl (σ 16 0)).2
      obtain ⟨b, hb2, hb⟩ := nI_of (x := boV σ nm ns pl k (σ 16 0)) (fun h9 => Int32.lt_irrefl (Int32.lt_trans c h9))
      rw [hb, nI_toInt hb2] at e2
      have h3 : p * b ≤ 5 * 300000 := Nat.mul_le_mul hp2 (by omega)
      rw [hb, hp, pk_mul, nI_add]
      refine ⟨w + p * b, rfl, ?_⟩
      rw [Nat.add_one_mul]
      exact Nat.add_le_add hw (Nat.le_trans h3 (by decide))
    · rw [if_neg c]
      exact ⟨w, by rw [Int32.mul_zero, Int32.add_zero], Nat.le_trans hw (Nat.mul_le_mul_right _ (Nat.le_succ k))⟩
/-- the law's way to the latest cut, and to an open sheet -/
def cuL (σ : kS) (pl : Int32) : Nat → Int32
  | 0 => -1
  | k + 1 => if σ 7 k = pl then σ 8 k else cuL σ pl k
def hoQ (σ : kS) (pl : Int32) : Nat → Bool
  | 0 => false
  | k + 1 => hoQ σ pl k || (decide (σ 7 k = pl) && decide (σ 9 k = 0))
theorem cuL_e {pl : Int32} {k : Nat} (h : σ 7 k = pl) : cuL σ pl (k + 1) = σ 8 k := if_pos h
theorem cuL_n {pl : Int32} {k : Nat} (h : ¬ σ 7 k = pl) : cuL σ pl (k + 1) = cuL σ pl k := if_neg h
theorem hoQ_n {pl : Int32} {k : Nat} (h : ¬ σ 7 k = pl) : hoQ σ pl (k + 1) = hoQ σ pl k := by
  rw [hoQ, decide_eq_false h, Bool.false_and, Bool.or_false]
theorem hoQ_p {pl : Int32} {k : Nat} (h : hoQ σ pl k = true) : hoQ σ pl (k + 1) = true := by
  rw [hoQ, h, Bool.true_or]
theorem hoQ_t {pl : Int32} {k : Nat} (h : σ 7 k = pl) (h2 : σ 9 k = 0) : hoQ σ pl (k + 1) = true := by
  rw [hoQ, decide_eq_true h, decide_eq_true h2, Bool.true_and, Bool.or_true]
theorem hoQ_c {pl : Int32} {k : Nat} (h : hoQ σ pl k = false) (h2 : ¬ σ 9 k = 0) : hoQ σ pl (k + 1) = false := by
  rw [hoQ, h, decide_eq_false h2, Bool.and_false, Bool.false_or]
theorem cuL_m {pl : Int32} : ∀ k, cuL σ pl k = (match latO σ pl k with
  | none => -1
  | some j => σ 8 j)
  | 0 => rfl
  | k + 1 => by
    rw [cuL, latO]
    by_cases c : σ 7 k = pl
    · rw [if_pos c, if_pos c]
    · rw [if_neg c, if_neg c]
      exact cuL_m k
theorem latO_no {ρ : kS} {pl : Int32} : ∀ {k : Nat}, latO ρ pl k = none → ∀ i, i < k → ρ 7 i ≠ pl
  | 0, _, i, hi => by omega
  | k + 1, h, i, hi => by
    by_cases q : ρ 7 k = pl
    · simp [latO, q] at h
    · simp [latO, q] at h
      by_cases c : i = k
      · subst c; exact q
      · exact latO_no h i (by omega)
theorem latO_af {ρ : kS} {pl : Int32} : ∀ {k j : Nat}, latO ρ pl k = some j → ∀ i, j < i → i < k → ρ 7 i ≠ pl
  | 0, j, h, i, _, hi => by omega
  | k + 1, j, h, i, hj, hi => by
    by_cases q : ρ 7 k = pl
    · simp [latO, q] at h
      omega
    · simp [latO, q] at h
      by_cases c : i = k
      · subst c; exact q
      · exact latO_af h i hj (by omega)
theorem hoQ_f {pl : Int32} : ∀ {k : Nat}, (∀ i, i < k → σ 7 i = pl → ¬ σ 9 i = 0) → hoQ σ pl k = false
  | 0, _ => rfl
  | k + 1, h => by
    by_cases c : σ 7 k = pl
    · exact hoQ_c (hoQ_f (fun i hi => h i (by omega))) (h k (by omega) c)
    · rw [hoQ_n c]; exact hoQ_f (fun i hi => h i (by omega))
theorem hoQ_i {pl : Int32} {i : Nat} (h1 : σ 7 i = pl) (h2 : σ 9 i = 0) : ∀ {k : Nat}, i < k → hoQ σ pl k = true
  | 0, hi => by omega
  | k + 1, hi => by
    by_cases c : i = k
    · subst c
      exact hoQ_t h1 h2
    · exact hoQ_p (hoQ_i h1 h2 (by omega))
theorem hoQ_no {pl : Int32} {i k : Nat} (h : hoQ σ pl k = false) (hi : i < k) (h1 : σ 7 i = pl) : ¬ σ 9 i = 0 := fun h2 => by
  rw [hoQ_i h1 h2 hi] at h
  exact absurd h (by decide)
theorem InC.op (h : InC σ nm ns n N S) (pl : Int32) : opB σ pl ns = hoQ σ pl ns := by
  unfold opB
  cases q : latO σ pl ns with
  | none => exact (hoQ_f (fun i hi h7 => absurd h7 (latO_no q i hi))).symm
  | some j =>
    obtain ⟨hj, h7⟩ := latO_lt q
    show (if σ 9 j = 0 then true else false) = hoQ σ pl ns
    by_cases c : σ 9 j = 0
    · rw [if_pos c, hoQ_i h7 c hj]
    · rw [if_neg c]
      refine (hoQ_f (fun i hi h8 => ?_)).symm
      rcases Nat.lt_trichotomy i j with c2 | c2 | c2
      · rw [h.one i j c2 hj (h8.trans h7.symm)]
        decide
      · subst c2; exact c
      · exact absurd h8 (latO_af q i c2 hi)
theorem InC.min (h : InC σ nm ns n N S) (hn : n ≤ 110) (pl : Int32) : (nI N - cuL σ pl ns : Int32).toInt64 = (match latO σ pl ns with
  | none => (σ 16 0 : Int32).toInt64 + 1
  | some k => (σ 16 0 - σ 8 k : Int32).toInt64) ∧ ∃ m, (nI N - cuL σ pl ns : Int32).toInt64 = lN m ∧ m ≤ 5000 := by
  have hN := h.Nn
  rw [cuL_m]
  cases latO σ pl ns with
  | none =>
    have e : (nI N - -1 : Int32) = nI (N + 1) := by
      rw [Int32.sub_eq_add_neg, show (- -1 : Int32) = 1 from rfl, ← nI_succ]
    show (nI N - -1 : Int32).toInt64 = (σ 16 0).toInt64 + 1 ∧ ∃ m, (nI N - -1 : Int32).toInt64 = lN m ∧ m ≤ 5000
    rw [e, nI_l (by omega), h.now, nI_l (by omega), lN_1]
    exact ⟨rfl, N + 1, rfl, by omega⟩
  | some j =>
    obtain ⟨z, hz, hz2⟩ := h.cut j
    show (nI N - σ 8 j : Int32).toInt64 = (σ 16 0 - σ 8 j : Int32).toInt64 ∧ ∃ m, (nI N - σ 8 j : Int32).toInt64 = lN m ∧ m ≤ 5000
    rw [h.now, hz, pk_sub hz2, nI_l (by omega)]
    exact ⟨rfl, N - z, rfl, by omega⟩
theorem InC.ur (h : InC σ nm ns n N S) (hn : n ≤ 110) (pl : Int32) : (1 + (woF σ nm ns pl 5 : Int32).toInt64) * (nI N - cuL σ pl ns : Int32).toInt64 = urV σ nm ns pl := by
  unfold urV
  rw [(h.min hn pl).1, Int64.add_comm]
  cases latO σ pl ns <;> rfl
theorem InC.ur0 (h : InC σ nm ns n N S) (hn : n ≤ 110) (pl : Int32) : ¬ lg_cmp (urV σ nm ns pl) (-1) ≤ 0 := by
  obtain ⟨-, m, e, hm⟩ := h.min hn pl
  obtain ⟨w, ew, hw⟩ := h.wo_u hn pl 5 (Nat.le_refl 5)
  have h3 : (w + 1) * m ≤ 7500001 * 5000 := Nat.mul_le_mul (by omega) hm
  rw [← h.ur hn pl, e, ew, nI_l (by omega), Int64.add_comm, lN_1, lN_mul]
  have e2 : (lN ((w + 1) * m)).toInt = ((w + 1) * m : Nat) := lg_ofNat_toInt (by omega)
  have e3 : (-1 : Int64).toInt = -1 := by decide
  have h4 : lN ((w + 1) * m) > -1 := by
    show (-1 : Int64) < lN ((w + 1) * m)
    rw [Int64.lt_iff_toInt_lt, e2, e3]
    omega
  unfold lg_cmp
  rw [if_pos h4]
  decide
def moV (z : Int32 × Int64) : Int64 := if z.1 = -1 then -1 else z.2
theorem su_1 {i : Nat} (h : opB σ (nI i) ns = true) : suF σ nm ns (i + 1) = suF σ nm ns i := by
  rw [suF]
  unfold suT
  rw [if_pos h]
theorem InC.su_2 (h : InC σ nm ns n N S) (hn : n ≤ 110) {i : Nat} (h1 : opB σ (nI i) ns = false) (h2 : lg_cmp (urV σ nm ns (nI i)) (moV (suF σ nm ns i)) ≤ 0) : suF σ nm ns (i + 1) = suF σ nm ns i := by
  rw [suF]
  generalize suF σ nm ns i = z at h2
  unfold moV at h2
  unfold suT
  rw [if_neg (by rw [h1]; decide)]
  by_cases c : z.1 = -1
  · rw [if_pos c] at h2
    exact absurd h2 (h.ur0 hn _)
  · rw [if_neg c] at h2
    rw [if_neg c, if_pos h2]
theorem su_3 {i : Nat} (hi : i < 12) (h1 : opB σ (nI i) ns = false) (h2 : ¬ lg_cmp (urV σ nm ns (nI i)) (moV (suF σ nm ns i)) ≤ 0) : suF σ nm ns (i + 1) = (nI i, urV σ nm ns (nI i)) := by
  rw [suF]
  generalize suF σ nm ns i = z at h2
  unfold moV at h2
  unfold suT
  rw [if_neg (by rw [h1]; decide)]
  by_cases c : z.1 = -1
  · rw [if_pos c]
  · rw [if_neg c] at h2
    rw [if_neg c, if_neg h2]
theorem su_3a {i : Nat} (hi : i < 12) (h1 : opB σ (nI i) ns = false) (h2 : ¬ lg_cmp (urV σ nm ns (nI i)) (moV (suF σ nm ns i)) ≤ 0) : nI i = (suF σ nm ns (i + 1)).1 := by
  rw [su_3 hi h1 h2]
theorem su_3b {i : Nat} (hi : i < 12) (h1 : opB σ (nI i) ns = false) (h2 : ¬ lg_cmp (urV σ nm ns (nI i)) (moV (suF σ nm ns i)) ≤ 0) : urV σ nm ns (nI i) = moV (suF σ nm ns (i + 1)) := by
  rw [su_3 hi h1 h2]
  unfold moV
  rw [if_neg (nI_m1 (by omega))]
theorem wo_p {pl : Int32} {j : Nat} {x : Int32} (h : ¬ boV σ nm ns pl j (σ 16 0) ≤ 0) (hx : x = σ 0 j) : woF σ nm ns pl j + boV σ nm ns pl j (σ 16 0) * x = woF σ nm ns pl (j + 1) := by
  rw [woF, if_pos (nle_lt h), Int32.mul_comm, hx]
theorem wo_n {pl : Int32} {j : Nat} (h : boV σ nm ns pl j (σ 16 0) ≤ 0) : woF σ nm ns pl j + 0 = woF σ nm ns pl (j + 1) := by
  rw [woF, if_neg (le_nlt h), Int32.mul_zero]
theorem tV_worth {pl : Nat} {v : Int32} (h : pl < 12) : hcV (eX_one (nI pl) 12) v = v := by
  refine hcV_0 ?_
  unfold eX_one
  rw [ck12 h]
  rfl
theorem eB_hi (hnow : σ 16 0 = nI N) (hN : N < 5000) : eX_bookAt σ 0 0 (nI (N + 1)) = 2 := by
  unfold eX_bookAt
  rw [hnow, show ckR (nI (N + 1)) 0 (nI N) = false from ckR_hi (a := 0) (Nat.zero_le _) (by omega) (by omega)]
  rfl
end FP
