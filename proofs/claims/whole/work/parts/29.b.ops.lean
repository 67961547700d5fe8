/-! WHAT THE TWO SETS OF ROWS TELL ALIKE -/
theorem Rel.ag {σ μ : kS} {nm ns n N S : Nat} (h : Rel σ μ nm ns n N S) {k : Nat} (hk : k < 200) : σ 13 k = agM μ k := by
  obtain ⟨c, mk, h1, h2, h3, h4, h5, h6, h7, h8, h9⟩ := h.ln k hk
  exact h7
theorem Rel.ab {σ μ : kS} {nm ns n N S : Nat} (h : Rel σ μ nm ns n N S) {k : Nat} (hk : k < 200) : agB σ k = grM μ k := by
  unfold agB grM
  rw [h.ag hk]
theorem Rel.hs {σ μ : kS} {nm ns n N S : Nat} (h : Rel σ μ nm ns n N S) (hn : n < 600) (k : Nat) : hsB σ k = !decide (μ 14 k ≤ 0) := by
  obtain ⟨z, e, hz⟩ := h.sig k
  have hS := h.hS
  unfold hsB
  rw [h.e 14 k, e]
  by_cases q : z = 0
  · subst q; decide
  · rw [if_neg (nI_ne0 (by omega) (by omega)), decide_eq_false (nI_nle (by omega) (by omega))]
    rfl
theorem Rel.sg0 {σ μ : kS} {nm ns n N S : Nat} (h : Rel σ μ nm ns n N S) (hn : n < 600) (k : Nat) : (μ 14 k ≤ 0) ↔ μ 14 k = 0 := by
  obtain ⟨z, e, hz⟩ := h.sig k
  have hS := h.hS
  rw [e]
  by_cases q : z = 0
  · subst q; decide
  · exact ⟨fun h9 => absurd h9 (nI_nle (by omega) (by omega)), fun h9 => absurd h9 (nI_ne0 (by omega) (by omega))⟩
theorem Rel.str {σ μ : kS} {nm ns n N S : Nat} (h : Rel σ μ nm ns n N S) (a b ar : Nat) : strB σ a b ar = ltM μ ar a b := by
  unfold strB ltM
  rw [h.e 8 a, h.e 8 b, h.e 14 (a * 5 + ar), h.e 14 (b * 5 + ar)]
  by_cases c1 : μ 8 a = μ 8 b
  · by_cases c2 : μ 14 (b * 5 + ar) < μ 14 (a * 5 + ar)
    · simp [c1, c2, lt_nle c2]
    · simp [c1, c2, nlt_le c2]
  · by_cases c2 : μ 8 b < μ 8 a
    · simp [c1, c2, lt_nle c2]
    · simp [c1, c2, nlt_le c2]
theorem Rel.fd {σ μ : kS} {nm ns n N S : Nat} (h : Rel σ μ nm ns n N S) (hn : n < 600) (pl : Int32) (ar : Nat) (mi : Int32) : ∀ k, ssO σ pl ar mi k = fdM μ pl ar mi k
  | 0 => rfl
  | k + 1 => by
    rw [ssO, fdM, Rel.fd h hn pl ar mi k]
    generalize fdM μ pl ar mi k = o
    unfold ssT fdT isM
    rw [h.e 7 k, h.e 8 k, h.hs hn (k * 5 + ar)]
    by_cases c1 : μ 7 k = pl
    · by_cases c2 : μ 14 (k * 5 + ar) ≤ 0
      · simp [c1, c2]
      · by_cases c3 : μ 8 k ≤ mi
        · cases o with
          | none => simp [c1, c2, c3]
          | some b => simp [c1, c2, c3, h.str]
        · simp [c1, c2, c3]
    · simp [c1]
theorem Rel.br {σ μ : kS} {nm ns n N S : Nat} (h : Rel σ μ nm ns n N S) (pl ar af un z : Int32) : ∀ k, smM μ pl ar af un z k = z + brF σ pl ar af un k
  | 0 => by
    rw [smM, brF, Int32.add_zero]
  | k + 1 => by
    rw [smM, brF, Rel.br h pl ar af un z k]
    generalize brF σ pl ar af un k = s9
    unfold brT tmM tmB
    rw [h.e 4 k, h.e 6 k, h.e 3 k, h.e 5 k, h.e 2 k]
    by_cases c1 : μ 4 k = ar
    · by_cases c2 : μ 6 k ≤ af
      · simp [c1, c2, le_nlt c2]
      · by_cases c3 : μ 6 k ≤ un
        · by_cases c4 : μ 3 k = pl
          · simp [c1, c2, c3, c4, nle_lt c2, Int32.add_assoc]
          · by_cases c5 : μ 2 k = pl
            · simp [c1, c2, c3, c4, c5, nle_lt c2, Int32.add_assoc, Int32.sub_eq_add_neg]
            · simp [c1, c2, c3, c4, c5, nle_lt c2]
        · simp [c1, c2, c3, nle_lt c2]
    · simp [c1]
theorem Rel.bo {σ μ : kS} {nm ns n N S : Nat} (h : Rel σ μ nm ns n N S) (hn : n < 600) (pl : Int32) {ar : Nat} (har : ar < 5) (mi : Int32) : boV σ nm ns pl ar mi = boM μ nm ns pl ar mi := by
  have h4 := h.hns4
  unfold boV boM
  rw [h.fd hn]
  cases q : fdM μ pl ar mi ns with
  | none =>
    show brF σ pl (nI ar) (-1) mi nm = smM μ pl (nI ar) (-1) mi 0 nm
    rw [h.br, Int32.zero_add]
  | some k =>
    have hk := fdM_lt q
    show σ 13 (k * 5 + ar) + brF σ pl (nI ar) (σ 8 k) mi nm = smM μ pl (nI ar) (μ 8 k) mi (agM μ (k * 5 + ar)) nm
    rw [h.br, h.ag (by omega), h.e 8 k]
theorem Rel.gp {σ μ : kS} {nm ns n N S : Nat} (h : Rel σ μ nm ns n N S) (hn : n < 600) {sh ar : Nat} (hsh : sh < 40) (har : ar < 5) : gpV σ nm ns sh ar = gpM μ nm ns sh ar := by
  unfold gpV gpM
  rw [h.hs hn, h.e 15 (sh * 5 + ar), h.ag (by omega), h.e 7 sh, h.e 8 sh, h.bo hn _ har]
  by_cases c : μ 14 (sh * 5 + ar) ≤ 0
  · simp [c]
  · simp [c]
theorem Rel.st0 {σ μ : kS} {nm ns n N S : Nat} (h : Rel σ μ nm ns n N S) (k : Nat) : (σ 9 k = 0) ↔ ¬ μ 9 k = 1 := by
  rw [h.e 9 k]
  rcases (h.st k).1 with e | e
  · rw [e]; decide
  · rw [e]; decide
theorem Rel.sb {σ μ : kS} {nm ns n N S : Nat} (h : Rel σ μ nm ns n N S) (hn : n < 600) {sh ar : Nat} (hsh : sh < 40) (har : ar < 5) : sgB σ sh ar = (decide (μ 9 sh = 1) && (grM μ (sh * 5 + ar) && decide (μ 14 (sh * 5 + ar) = 0))) := by
  unfold sgB
  rw [h.hs hn, h.ab (by omega)]
  have e := h.st0 sh
  have e2 := h.sg0 hn (sh * 5 + ar)
  by_cases c : μ 9 sh = 1
  · have c9 : ¬ σ 9 sh = 0 := fun q => (e.mp q) c
    rw [if_neg c9]
    cases grM μ (sh * 5 + ar)
    · simp [c]
    · by_cases c2 : μ 14 (sh * 5 + ar) = 0
      · simp [c, c2]
      · have c3 : ¬ μ 14 (sh * 5 + ar) ≤ 0 := fun q => c2 (e2.mp q)
        simp [c, c2, c3]
  · rw [if_pos (e.mpr c)]
    simp [c]
theorem Rel.cs {σ μ : kS} {nm ns n N S : Nat} (h : Rel σ μ nm ns n N S) (hn : n < 600) {sh ot ar : Nat} (hsh : sh < 40) (hot : ot < 40) (har : ar < 5) : csB σ nm ns sh ot ar = lkB μ nm ns sh ar ot := by
  unfold csB lkB ctM
  rw [h.sb hn hsh har, h.sb hn hot har, h.gp hn hsh har, h.gp hn hot har, h.e 7 sh, h.e 7 ot]
  by_cases c1 : μ 7 sh = μ 7 ot
  · simp [c1]
  · cases g1 : grM μ (sh * 5 + ar)
    · simp [c1]
    · cases g2 : grM μ (ot * 5 + ar)
      · simp [c1]
      · by_cases c2 : μ 9 sh = 1
        · by_cases c3 : μ 9 ot = 1
          · by_cases c4 : μ 14 (sh * 5 + ar) = 0
            · by_cases c5 : μ 14 (ot * 5 + ar) = 0
              · simp [c1, c2, c3, c4, c5]
              · simp [c1, c2, c3, c4, c5]
            · simp [c1, c2, c3, c4]
          · simp [c1, c2, c3]
        · simp [c1, c2]
theorem Rel.cst {σ μ : kS} {nm ns n N S : Nat} (h : Rel σ μ nm ns n N S) (hn : n < 600) {sh ot ar : Nat} (hsh : sh < 40) (hot : ot < 40) (har : ar < 5) (g1 : grM μ (sh * 5 + ar) = true) (g2 : grM μ (ot * 5 + ar) = true) : csB σ nm ns sh ot ar = ctM μ nm ns sh ot ar := by
  rw [h.cs hn hsh hot har]
  unfold lkB
  rw [if_pos g1, if_pos g2]
theorem Rel.wo {σ μ : kS} {nm ns n N S : Nat} (h : Rel σ μ nm ns n N S) (hn : n < 600) (pl : Int32) : ∀ k, k ≤ 5 → woF σ nm ns pl k = woM μ nm ns pl k
  | 0, _ => rfl
  | k + 1, hk => by
    rw [woF, woM, Rel.wo h hn pl k (by omega), h.e 0 k, h.e 16 0, h.bo hn pl (by omega)]
    by_cases c : boM μ nm ns pl k (μ 16 0) ≤ 0
    · rw [if_pos c, if_neg (le_nlt c), Int32.mul_zero]
    · rw [if_neg c, if_pos (nle_lt c)]
theorem flO_ge {p9 : Nat → Bool} : ∀ {n9 k9 : Nat}, flO p9 n9 = some k9 → k9 < n9
  | 0, k9, h => by simp [flO] at h
  | n9 + 1, k9, h => by
    rw [flO] at h
    cases q : flO p9 n9 with
    | none =>
      rw [q] at h
      by_cases c : p9 n9 = true
      · simp [c] at h; omega
      · simp [c] at h
    | some j =>
      rw [q] at h
      have h2 := flO_ge q
      simp at h
      omega
theorem fdn_flO {p9 : Nat → Bool} {a9 : Nat} (ha : ∀ j, j < a9 → p9 j = false) : ∀ (d9 : Nat) {k9 : Nat}, a9 ≤ k9 → (∀ j, j < k9 → p9 j = false) → fdn p9 k9 d9 = flO p9 (k9 + d9)
  | 0, k9, _, h => by
    rw [fdn, Nat.add_zero, flO_none h]
  | d9 + 1, k9, h1, h => by
    rw [fdn]
    by_cases c : p9 k9 = true
    · rw [if_pos c, flO_at c h (by omega)]
    · rw [if_neg c, fdn_flO ha d9 (k9 := k9 + 1) (by omega) (fun j hj => by
        by_cases q : j = k9
        · subst q; exact Bool.eq_false_iff.mpr c
        · exact h j (by omega)), show k9 + 1 + d9 = k9 + (d9 + 1) by omega]
theorem flO_c {p9 q9 : Nat → Bool} : ∀ {n9 : Nat}, (∀ j, j < n9 → p9 j = q9 j) → flO p9 n9 = flO q9 n9
  | 0, _ => rfl
  | n9 + 1, h => by
    rw [flO, flO, flO_c (fun j hj => h j (by omega)), h n9 (by omega)]
theorem Rel.lk {σ μ : kS} {nm ns n N S : Nat} (h : Rel σ μ nm ns n N S) (hn : n < 600) {sh ar : Nat} (hsh : sh < 40) (har : ar < 5) : flO (fun k => csB σ nm ns sh k ar) ns = fdn (fun k => lkB μ nm ns sh ar k) 0 ns := by
  have h4 := h.hns4
  rw [fdn_flO (a9 := 0) (fun j hj => absurd hj (Nat.not_lt_zero j)) ns (Nat.le_refl 0) (fun j hj => absurd hj (Nat.not_lt_zero j)), Nat.zero_add]
  exact flO_c (fun j hj => h.cs hn hsh (by omega) har)
