/-! FACTS: signing, settling -/
theorem ac9 (a b c : Int32) : a + b + c = a + c + b := by rw [Int32.add_assoc, Int32.add_comm b, ← Int32.add_assoc]
section FS
variable {σ σ' α α' : kS} {nm ns n N S k i : Nat} {g x : Int32}
theorem wr_o {L : Nat} {r j : Nat} (h : (r ≠ 14 ∧ r ≠ 15 ∧ r ≠ 19) ∨ (j ≠ L ∧ r ≠ 19)) : wrS σ L g r j = σ r j := by
  unfold wrS
  rcases h with ⟨h1, h2, h3⟩ | ⟨h1, h2⟩
  · rw [su_ne h2, su_ne h1, su_ne h3]
  · rw [su_nat h1, su_nat h1, su_ne h2]
theorem wr_14 {L : Nat} : wrS σ L g 14 L = σ 19 0 + 1 := by
  unfold wrS
  rw [su_ne (by decide), su_at]
theorem wr_15 {L : Nat} : wrS σ L g 15 L = g := by
  unfold wrS
  rw [su_at]
theorem wr_19 {L : Nat} : wrS σ L g 19 0 = σ 19 0 + 1 := by
  unfold wrS
  rw [su_ne (by decide), su_ne (by decide), su_at]
theorem exI_s {sh : Nat} {z : Int32 × Int32} {u v : Int32} : ∀ a : Nat, exI σ sh a (z.1 + u, z.2 + v) = ((exI σ sh a z).1 + u, (exI σ sh a z).2 + v)
  | 0 => rfl
  | a + 1 => by
    rw [exI, exI, exI_s a]
    by_cases c : hsB σ (sh * 5 + a) = true
    · rw [if_pos c, if_pos c]
      dsimp only
      rw [ac9, ac9 (exI σ sh a z).2]
    · rw [if_neg c, if_neg c]
theorem exI_w {z : Int32 × Int32} (hs : hsB σ (k * 5 + i) = false) (h0 : ¬ σ 19 0 + 1 = 0) : ∀ a : Nat, exI (wrS σ (k * 5 + i) g) k a z = if i < a then ((exI σ k a z).1 + 1, (exI σ k a z).2 + (if g = 0 then 1 else 0)) else exI σ k a z
  | 0 => rfl
  | a + 1 => by
    rw [exI, exI, exI_w hs h0 a]
    by_cases c : a = i
    · subst c
      have h1 : hsB (wrS σ (k * 5 + a) g) (k * 5 + a) = true := hsB_t (by rw [wr_14]; exact h0)
      rw [if_pos h1, if_neg (Nat.lt_irrefl a), if_pos (Nat.lt_succ_self a), if_neg (show ¬ hsB σ (k * 5 + a) = true by rw [hs]; decide), wr_15]
    · have h1 : hsB (wrS σ (k * 5 + i) g) (k * 5 + a) = hsB σ (k * 5 + a) := by
        unfold hsB
        rw [wr_o (Or.inr ⟨by omega, by decide⟩)]
      rw [h1, wr_o (Or.inr ⟨by omega, by decide⟩)]
      by_cases c2 : i < a
      · rw [if_pos c2, if_pos (show i < a + 1 by omega)]
        by_cases c3 : hsB σ (k * 5 + a) = true
        · rw [if_pos c3, if_pos c3]
          dsimp only
          rw [ac9 (exI σ k a z).2]
        · rw [if_neg c3, if_neg c3]
      · rw [if_neg c2, if_neg (show ¬ i < a + 1 by omega)]
theorem exF_w (hi : i < 5) (hs : hsB σ (k * 5 + i) = false) (h0 : ¬ σ 19 0 + 1 = 0) : ∀ m : Nat, exF (wrS σ (k * 5 + i) g) x m = if k < m ∧ σ 7 k / 4 = x then ((exF σ x m).1 + 1, (exF σ x m).2 + (if g = 0 then 1 else 0)) else exF σ x m
  | 0 => rfl
  | m + 1 => by
    have e7 : wrS σ (k * 5 + i) g 7 m = σ 7 m := wr_o (Or.inl (by decide))
    rw [exF, exF, exF_w hi hs h0 m, e7]
    by_cases c : m = k
    · subst c
      rw [if_neg (show ¬ (m < m ∧ σ 7 m / 4 = x) from fun h => Nat.lt_irrefl _ h.1)]
      by_cases c2 : σ 7 m / 4 = x
      · rw [if_pos c2, if_pos c2, if_pos ⟨Nat.lt_succ_self m, c2⟩, exI_w hs h0, if_pos hi]
      · rw [if_neg c2, if_neg c2, if_neg (fun h => c2 h.2)]
    · have e8 : ∀ z, exI (wrS σ (k * 5 + i) g) m 5 z = exI σ m 5 z := fun z => exI_c (fun j hj => ⟨wr_o (Or.inr ⟨by omega, by decide⟩), wr_o (Or.inr ⟨by omega, by decide⟩)⟩)
      rw [e8]
      by_cases c2 : k < m ∧ σ 7 k / 4 = x
      · rw [if_pos c2, if_pos (show k < m + 1 ∧ σ 7 k / 4 = x from ⟨by omega, c2.2⟩), exI_s]
        by_cases c3 : σ 7 m / 4 = x
        · rw [if_pos c3, if_pos c3]
        · rw [if_neg c3, if_neg c3]
      · rw [if_neg c2, if_neg (show ¬ (k < m + 1 ∧ σ 7 k / 4 = x) from fun h => c2 ⟨by omega, h.2⟩)]
theorem InC.s19 (h : InC σ nm ns n N S) (hn : n ≤ 200) : ¬ σ 19 0 + 1 = 0 := by
  have := h.Sn
  rw [h.sgs, ← nI_succ]
  exact nI_ne0 (by omega) (by omega)
theorem InC.sg (h : InC σ nm ns n N S) {n' L : Nat} (hn : n ≤ n') (hS : S + 1 ≤ 2 * n') (hL : L < ns * 5) (hg : agB σ L = true) : InC (wrS σ L g) nm ns n' N (S + 1) := by
  have e : ∀ r j, r ≠ 14 ∧ r ≠ 15 ∧ r ≠ 19 → wrS σ L g r j = σ r j := fun r j hr => wr_o (Or.inl hr)
  obtain ⟨a1, a2, a3, a4⟩ := h.gA (σ' := wrS σ L g) (fun r j h1 h2 => e r j (by omega))
  have := h.nmn
  have := h.Nn
  have h12 := h.ns12
  have e19 : σ 19 0 + 1 = nI (S + 1) := by rw [h.sgs, nI_succ]
  refine ⟨by rw [e 18 0 (by decide)]; exact h.hns, h.ns12, by rw [e 17 0 (by decide)]; exact h.hnm, by omega, by rw [e 16 0 (by decide)]; exact h.now, by omega, by rw [wr_19, e19], hS, fun j => ?_, fun j hj => ?_, a1, a2, a3, a4, fun j => ?_, fun j => ?_, fun j => ?_, fun j hj => (h.ln j hj).cg (fun r h1 h2 => e r j (by omega)), fun j h1 h2 => ?_⟩
  · by_cases c : j = L
    · subst c
      exact ⟨S + 1, by rw [wr_14, e19], Nat.le_refl _⟩
    · rw [wr_o (Or.inr ⟨c, by decide⟩)]
      obtain ⟨z, h1, h2⟩ := h.sig j
      exact ⟨z, h1, by omega⟩
  · have ea : agB (wrS σ L g) j = agB σ j := by
      unfold agB
      rw [e 13 j (by decide)]
    rw [ea]
    by_cases c : j = L
    · subst c
      exact fun _ => hg
    · have eh : hsB (wrS σ L g) j = hsB σ j := by
        unfold hsB
        rw [wr_o (Or.inr ⟨c, by decide⟩)]
      rw [eh]
      exact h.sgl j hj
  · rw [e 0 j (by decide)]; exact h.pr j
  · rw [e 1 j (by decide)]; exact h.bo j
  · rw [e 5 j (by decide)]; exact h.qu j
  · rw [e 10 j (by decide), e 13 j (by decide), wr_o (Or.inr ⟨by omega, by decide⟩)]; exact h.fr j h1 h2
theorem InA.z (h : InA σ α nm ns N) (e : ∀ r j, r = 0 ∨ r = 1 ∨ r = 7 ∨ r = 13 → σ' r j = σ r j) (e2 : ∀ r j, r ≠ 3 → α' r j = α r j) (hz : ∀ z, z < 3 → α' 3 (2 * z) = (exF σ' (nI z) ns).1 ∧ α' 3 (2 * z + 1) = (exF σ' (nI z) ns).2) : InA σ' α' nm ns N := by
  refine ⟨fun j hj => ?_, fun j hj => ?_, fun j hj => ?_, fun j hj => ?_, hz, ?_, ?_, ?_⟩
  · rw [e2 0 _ (by decide), e 0 j (by decide)]; exact h.ae j hj
  · rw [e2 0 _ (by decide), e 1 j (by decide)]; exact h.ab j hj
  · rw [e2 1 _ (by decide), e 7 j (by decide)]; exact h.ap j hj
  · rw [e2 2 _ (by decide), e 13 j (by decide)]; exact h.ac j hj
  · rw [e2 4 _ (by decide)]; exact h.g0
  · rw [e2 4 _ (by decide)]; exact h.g1
  · rw [e2 4 _ (by decide)]; exact h.g2
theorem zone_e {pl z : Nat} (hp : pl < 12) (hz : z < 3) : (nI pl / 4 = nI z) ↔ pl / 4 = z := by
  have e : nI pl / 4 = nI (pl / 4) := pk_div (a := pl) (d := 4) (by omega) (by decide) (by decide)
  rw [e, nI_eq (by omega) (by omega)]
theorem Inv.sgn (h : Inv σ α nm ns n N S) (hn : n ≤ 110) (hk : k < ns) (hi : i < 5) (hg : agB σ (k * 5 + i) = true) (hs : hsB σ (k * 5 + i) = false) {pl : Nat} (hp : σ 7 k = nI pl) (hp2 : pl < 12) (g : Int32) :
    Inv (wrS σ (k * 5 + i) g) (su (su α 3 (2 * (pl / 4)) ((exF σ (nI (pl / 4)) ns).1 + 1)) 3 (2 * (pl / 4) + 1) ((exF σ (nI (pl / 4)) ns).2 + (if g = 0 then 1 else 0))) nm ns (n + 1) N (S + 1) := by
  have := h.1.Sn
  refine ⟨h.1.sg (by omega) (by omega) (by omega) hg, h.2.z (fun r j hr => wr_o (Or.inl (by omega))) (fun r j hr => by rw [su_ne hr, su_ne hr]) (fun z hz => ?_)⟩
  rw [exF_w hi hs (h.1.s19 (by omega)), hp]
  by_cases c : pl / 4 = z
  · subst c
    rw [if_pos (show k < ns ∧ nI pl / 4 = nI (pl / 4) from ⟨hk, (zone_e hp2 hz).mpr rfl⟩), su_nat (by omega), su_at, su_at]
    exact ⟨rfl, rfl⟩
  · rw [if_neg (show ¬ (k < ns ∧ nI pl / 4 = nI z) from fun q => c ((zone_e hp2 hz).mp q.2)), su_nat (by omega), su_nat (by omega), su_nat (by omega), su_nat (by omega)]
    exact h.2.az z hz
theorem sz_ab {x : Int32} (h1 : -400001 ≤ x.toInt) (h2 : x.toInt ≤ 400001) : ∃ y : Nat, y ≤ 400001 ∧ abV x = nI y ∧ szV x = nI y := by
  unfold abV szV
  by_cases c : 0 ≤ x
  · obtain ⟨j, hj, e⟩ := nI_of (x := x) (le_nlt c)
    rw [if_pos c, if_pos c, e]
    rw [e, nI_toInt hj] at h2
    exact ⟨j, by omega, rfl, rfl⟩
  · rw [if_neg c, if_neg c, Int32.zero_sub]
    have c2 := nle_lt c
    rw [Int32.lt_iff_toInt_lt, show (0 : Int32).toInt = 0 from rfl] at c2
    have e3 : (-x).toInt = -x.toInt := by rw [Int32.toInt_neg, bm_in (by omega) (by omega)]
    have c3 : ¬ -x < 0 := by
      rw [Int32.lt_iff_toInt_lt, show (0 : Int32).toInt = 0 from rfl, e3]
      omega
    obtain ⟨j, hj, e⟩ := nI_of c3
    rw [e, nI_toInt hj] at e3
    exact ⟨j, by omega, e, e⟩
theorem InC.gp_u2 (h : InC σ nm ns n N S) (hn : n ≤ 110) (hk : k < ns) (hi : i < 5) (hs : hsB σ (k * 5 + i) = false) : -400001 ≤ (gpV σ nm ns k i).toInt ∧ (gpV σ nm ns k i).toInt ≤ 400001 := by
  have h12 := h.ns12
  obtain ⟨b1, b2⟩ := h.bo_u hn hi (σ 7 k) (σ 8 k)
  have ea : -1 ≤ (σ 13 (k * 5 + i)).toInt ∧ (σ 13 (k * 5 + i)).toInt ≤ 100000 := by
    rcases h.ag2 (k := k * 5 + i) (by omega) with ⟨g, -⟩ | ⟨a, ha, g, -⟩
    · rw [g]; decide
    · rw [g, nI_toInt (by omega)]; omega
  rw [gp_u hs, Int32.toInt_sub, bm_in (by omega) (by omega)]
  omega
/-- the law's comparison is the class's -/
theorem InC.le_sg (h : InC σ nm ns n N S) (hn : n ≤ 110) (hk : k < ns) (hi : i < 5) (hs : hsB σ (k * 5 + i) = false) (pe : Nat) : (0 < lg_cmp ((σ 0 i : Int32).toInt64 * (szV (gpV σ nm ns k i) : Int32).toInt64) ((σ 1 pe : Int32).toInt64)) ↔ ¬ σ 0 i * abV (gpV σ nm ns k i) ≤ σ 1 pe := by
  obtain ⟨u1, u2⟩ := h.gp_u2 hn hk hi hs
  obtain ⟨y, hy, e1, e2⟩ := sz_ab u1 u2
  obtain ⟨p, hp, hp2⟩ := h.pr i
  obtain ⟨b, hb, hb2⟩ := h.bo pe
  have h3 : p * y ≤ 5 * 400001 := Nat.mul_le_mul hp2 hy
  rw [e1, e2, hp, hb, nI_l (by omega), nI_l (by omega), nI_l (by omega), lN_mul, pk_mul, lg_cmp_gt, lN_lt (by omega) (by omega), nI_leI (by omega) (by omega), Nat.not_le]
theorem eS_0 {pe : Nat} (hns : σ 18 0 = nI ns) (h4 : ns ≤ 40) (hk : k < ns) (hi : i < 5) (hp : pe < 6) (hs : sgB σ k i = true) (hle : σ 0 i * abV (gpV σ nm ns k i) ≤ σ 1 pe) : eX_sign σ nm ns (nI k) (nI i) (nI pe) = 0 := by
  unfold eX_sign
  rw [hns, ckI_ok hk (by omega), ck5 hi, ck6 hp, lnN_e (by omega) hi, (sg_t hs).2.1, ixN_nI (by omega), ixN_nI (n := i) (by omega), ixN_nI (n := pe) (by omega), hs, if_pos rfl, if_pos rfl, if_pos rfl, if_pos rfl, if_pos rfl, if_pos hle]
theorem eS_3b {pe : Nat} (hns : σ 18 0 = nI ns) (h4 : ns ≤ 40) (hk : k < ns) (hi : i < 5) (hp : pe < 6) (hs : sgB σ k i = true) (hle : ¬ σ 0 i * abV (gpV σ nm ns k i) ≤ σ 1 pe) : eX_sign σ nm ns (nI k) (nI i) (nI pe) = 3 := by
  unfold eX_sign
  rw [hns, ckI_ok hk (by omega), ck5 hi, ck6 hp, lnN_e (by omega) hi, (sg_t hs).2.1, ixN_nI (by omega), ixN_nI (n := i) (by omega), ixN_nI (n := pe) (by omega), hs, if_pos rfl, if_pos rfl, if_pos rfl, if_pos rfl, if_pos rfl, if_neg hle]
theorem eS_6 (hns : σ 18 0 = nI ns) (h4 : ns ≤ 40) (hk : k < ns) (hi : i < 5) : eX_sign σ nm ns (nI k) (nI i) 6 = 1 := by
  unfold eX_sign
  rw [hns, ckI_ok hk (by omega), ck5 hi, show ckI 6 6 = false from by decide]
  rfl
theorem tV_sign {E : Nat} (hE : E = 0) (hk : k < 40) (hi : i < 5) : hcV E (gpV σ nm ns (ixN (nI k)) (ixN (nI i))) = gpV σ nm ns k i := by
  rw [hcV_0 hE, ixN_nI (by omega), ixN_nI (by omega)]
theorem wr_ix (hk : k < 40) (hi : i < 5) : wrS σ (lnN (nI k) (nI i)) (gpV σ nm ns (ixN (nI k)) (ixN (nI i))) = wrS σ (k * 5 + i) (gpV σ nm ns k i) := by
  rw [lnN_e hk hi, ixN_nI (by omega), ixN_nI (by omega)]
theorem ssO_sp {pl : Int32} {ar : Nat} {mi : Int32} : ∀ {m b : Nat}, ssO σ pl ar mi m = some b → b < m ∧ σ 7 b = pl ∧ σ 8 b ≤ mi ∧ hsB σ (b * 5 + ar) = true
  | 0, b, h => by simp [ssO] at h
  | m + 1, b, h => by
    have ih := fun {b : Nat} => @ssO_sp pl ar mi m b
    rw [ssO] at h
    generalize ho : ssO σ pl ar mi m = o at h ih
    have keep : o = some b → b < m + 1 ∧ σ 7 b = pl ∧ σ 8 b ≤ mi ∧ hsB σ (b * 5 + ar) = true := fun q => by
      obtain ⟨h1, h2⟩ := ih q
      exact ⟨by omega, h2⟩
    unfold ssT at h
    by_cases c1 : σ 7 m = pl
    · rw [if_pos c1] at h
      by_cases c2 : σ 8 m ≤ mi
      · rw [if_pos c2] at h
        by_cases c3 : hsB σ (m * 5 + ar) = true
        · rw [if_pos c3] at h
          cases o with
          | none =>
            dsimp only at h
            cases h
            exact ⟨by omega, c1, c2, c3⟩
          | some d =>
            dsimp only at h
            by_cases c4 : strB σ m d ar = true
            · rw [if_pos c4] at h
              cases h
              exact ⟨by omega, c1, c2, c3⟩
            · rw [if_neg c4] at h
              exact keep h
        · rw [if_neg c3] at h; exact keep h
      · rw [if_neg c2] at h; exact keep h
    · rw [if_neg c1] at h; exact keep h
/-- the sheet with the cut asked for, signed last -/
theorem ss_top {pl : Int32} {ar : Nat} {mi : Int32} (h7 : σ 7 k = pl) (h8 : σ 8 k = mi) (hs : hsB σ (k * 5 + ar) = true) : ∀ {m : Nat}, (∀ j, j < m → j ≠ k → σ 7 j = pl → hsB σ (j * 5 + ar) = true → σ 14 (j * 5 + ar) < σ 14 (k * 5 + ar)) → k < m → ssO σ pl ar mi m = some k
  | 0, _, h => by omega
  | m + 1, ht, hm => by
    rw [ssO]
    by_cases c : m = k
    · subst c
      unfold ssT
      rw [if_pos h7, if_pos (by rw [h8]; exact Int32.le_refl _), if_pos hs]
      cases q : ssO σ pl ar mi m with
      | none => rfl
      | some b =>
        obtain ⟨b1, b2, b3, b4⟩ := ssO_sp q
        dsimp only
        have e : strB σ m b ar = true := by
          unfold strB
          by_cases c2 : σ 8 m = σ 8 b
          · rw [if_pos c2, if_pos (ht b (by omega) (by omega) b2 b4)]
          · rw [if_neg c2, if_pos]
            rw [← h8] at b3
            rcases Int32.lt_or_eq_of_le b3 with c3 | c3
            · exact c3
            · exact absurd c3.symm c2
        rw [if_pos e]
    · rw [ss_top h7 h8 hs (m := m) (fun j hj => ht j (by omega)) (by omega)]
      unfold ssT
      by_cases c1 : σ 7 m = pl
      · by_cases c2 : σ 8 m ≤ mi
        · by_cases c3 : hsB σ (m * 5 + ar) = true
          · rw [if_pos c1, if_pos c2, if_pos c3]
            dsimp only
            rw [if_neg]
            unfold strB
            by_cases c4 : σ 8 m = σ 8 k
            · rw [if_pos c4, if_neg]
              · decide
              · exact fun q => Int32.lt_irrefl (Int32.lt_trans q (ht m (by omega) c c1 c3))
            · rw [if_neg c4, if_neg]
              · decide
              · rw [h8]
                exact le_nlt c2
          · rw [if_pos c1, if_pos c2, if_neg c3]
        · rw [if_pos c1, if_neg c2]
      · rw [if_neg c1]
theorem br_z {pl ar mi : Int32} : ∀ m : Nat, brF σ pl ar mi mi m = 0
  | 0 => rfl
  | m + 1 => by
    rw [brF, br_z m]
    unfold brT
    by_cases c : mi < σ 6 m
    · rw [if_pos c, if_neg (lt_nle c)]
      split <;> rfl
    · rw [if_neg c]
      split <;> rfl
theorem bo_top {pl : Int32} {ar : Nat} {mi : Int32} (h7 : σ 7 k = pl) (h8 : σ 8 k = mi) (hs : hsB σ (k * 5 + ar) = true) (ht : ∀ j, j < ns → j ≠ k → σ 7 j = pl → hsB σ (j * 5 + ar) = true → σ 14 (j * 5 + ar) < σ 14 (k * 5 + ar)) (hk : k < ns) : boV σ nm ns pl ar mi = σ 13 (k * 5 + ar) := by
  unfold boV
  rw [ss_top h7 h8 hs ht hk]
  show σ 13 (k * 5 + ar) + brF σ pl (nI ar) (σ 8 k) mi nm = σ 13 (k * 5 + ar)
  rw [h8, br_z, Int32.add_zero]
theorem InC.lt19 (h : InC σ nm ns n N S) (hn : n ≤ 200) (j : Nat) : σ 14 j < σ 19 0 + 1 := by
  have := h.Sn
  obtain ⟨z, h1, h2⟩ := h.sig j
  rw [h1, h.sgs, ← nI_succ]
  exact nI_lt (by omega) (by omega)
/-- the book at the cut, behind the signing -/
theorem InC.bo_sg (h : InC σ nm ns n N S) (hn : n ≤ 200) (hk : k < ns) (hi : i < 5) {pl cu : Nat} (hp : σ 7 k = nI pl) (hc : σ 8 k = nI cu) : boV (wrS σ (k * 5 + i) g) nm ns (nI pl) i (nI cu) = σ 13 (k * 5 + i) := by
  rw [bo_top (k := k) (by rw [wr_o (Or.inl (by decide))]; exact hp) (by rw [wr_o (Or.inl (by decide))]; exact hc) (hsB_t (by rw [wr_14]; exact h.s19 hn)) (fun j hj hjk _ _ => by
    rw [wr_14, wr_o (Or.inr ⟨by omega, by decide⟩)]
    exact h.lt19 hn _) hk, wr_o (Or.inl (by decide))]
end FS
