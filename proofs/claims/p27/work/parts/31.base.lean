/-! WHAT A HELPER TELLS WHERE ALL IS IN ORDER -/
theorem ckI_ok {k n : Nat} (h : k < n) (hn : n < 2 ^ 31) : ckI (nI k) (nI n) = true := by
  unfold ckI
  rw [if_neg (nI_pos (by omega)), if_neg (nI_ge h hn)]
theorem ckI_no {k n : Nat} (h : n ≤ k) (hk : k < 2 ^ 31) : ckI (nI k) (nI n) = false := by
  unfold ckI
  rw [if_neg (nI_pos hk), if_pos (nI_le h hk)]
theorem ckR_ok {k a b : Nat} (h1 : a ≤ k) (h2 : k ≤ b) (hb : b < 2 ^ 31) : ckR (nI k) (nI a) (nI b) = true := by
  unfold ckR
  rw [if_neg (nI_nlt h1 (by omega)), if_neg (nI_nlt h2 hb)]
theorem ckR_hi {k a b : Nat} (h1 : a ≤ k) (h2 : b < k) (hk : k < 2 ^ 31) : ckR (nI k) (nI a) (nI b) = false := by
  unfold ckR
  rw [if_neg (nI_nlt h1 hk), if_pos (nI_lt h2 hk)]
theorem ck5 {k : Nat} (h : k < 5) : ckI (nI k) 5 = true := ckI_ok (n := 5) h (by decide)
theorem ck6 {k : Nat} (h : k < 6) : ckI (nI k) 6 = true := ckI_ok (n := 6) h (by decide)
theorem ck12 {k : Nat} (h : k < 12) : ckI (nI k) 12 = true := ckI_ok (n := 12) h (by decide)
theorem eT_book {pl ar : Nat} (h1 : pl < 12) (h2 : ar < 5) : eX_two (nI pl) 12 (nI ar) 5 = 0 := by
  unfold eX_two
  rw [ck12 h1, ck5 h2]
  rfl
theorem tV_book {σ : kS} {nm ns pl ar : Nat} {v : Int32} (h1 : pl < 12) (h2 : ar < 5) : hcV (eX_two (nI pl) 12 (nI ar) 5) (boV σ nm ns (nI pl) (ixN (nI ar)) v) = boV σ nm ns (nI pl) ar v := by
  rw [hcV_0 (eT_book h1 h2), ixN_nI (by omega)]
/-- the print of an object: books of all places and articles, mixed -/
def prV (σ : kS) (nm ns : Nat) : Nat → Int64
  | 0 => (σ 16 0 : Int32).toInt64
  | k + 1 => 1000003 * prV σ nm ns k + (boV σ nm ns (nI (k / 5)) (k % 5) (σ 16 0) : Int32).toInt64
def szV (x : Int32) : Int32 := if 0 ≤ x then x else -x
theorem low_V (v : Int32) {k : Nat} (h0 : 0 < k) (hk : k < 2 ^ 31) : ∃ j : Nat, j < k ∧ (v &&& 2147483647) - (v &&& 2147483647) / nI k * nI k = nI j := by
  have e := pk_and v (m := 2147483647) 31 (by decide)
  rw [e, pk_rem (Nat.mod_lt _ (by decide)) h0 hk]
  exact ⟨_, Nat.mod_lt _ h0, rfl⟩
theorem nI_nz {k : Nat} (h0 : 0 < k) (hk : k < 2 ^ 31) : ¬ nI k = 0 := nI_ne0 h0 hk
theorem bl_at {b L : Nat} {xs : Nat → Int32} : kBl (fun U => va_X b L xs U U.heap ∧ b < U.heap.size ∧ GL U) := fun U U' h1 h2 h => by
  show va_X b L xs U' U'.heap ∧ b < U'.heap.size ∧ GL U'
  rw [h1]; exact ⟨va_X.moved (warm_vm h2).alike h.1, h.2.1, h.2.2.warm (warm_vm h2)⟩
