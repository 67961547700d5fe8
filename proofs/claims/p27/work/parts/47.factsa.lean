/-! FACTS: acts -/
section FX
variable {σ σ' α : kS} {nm ns n N S k i : Nat}
theorem eP_0 {mm : Nat} (h1 : 1 ≤ mm) (h2 : mm ≤ 1000) : eX_pass (nI mm) = 0 := by
  unfold eX_pass
  rw [show ckR (nI mm) 1 1000 = true from ckR_ok (a := 1) (b := 1000) h1 h2 (by decide)]
  rfl
theorem eR_0 {p : Nat} (h1 : i < 5) (h2 : p ≤ 1000) : eX_setPrice (nI i) (nI p) = 0 := by
  unfold eX_setPrice
  rw [ck5 h1, show ckR (nI p) 0 1000 = true from ckR_ok (a := 0) (b := 1000) (Nat.zero_le _) h2 (by decide)]
  rfl
theorem eU_0 {p b : Nat} (h1 : p < 6) (h2 : b ≤ 1000000) : eX_setBound (nI p) (nI b) = 0 := by
  unfold eX_setBound
  rw [ck6 h1, show ckR (nI b) 0 1000000 = true from ckR_ok (a := 0) (b := 1000000) (Nat.zero_le _) h2 (by decide)]
  rfl
theorem tV_two {E k : Nat} {v : Nat → Int32} (h : E = 0) (hk : k < 2 ^ 31) : hcV E (v (ixN (nI k))) = v k := by
  rw [hcV_0 h, ixN_nI hk]
theorem eO_3 {pl : Nat} (hp : pl < 12) (h : opB σ (nI pl) ns = true) : eX_open σ ns (nI pl) = 3 := by
  unfold eX_open
  rw [ck12 hp, if_pos rfl, if_pos h]
theorem eO_0 {pl : Nat} (hp : pl < 12) (h : opB σ (nI pl) ns = false) (hns : σ 18 0 = nI ns) (h40 : ns < 40) : eX_open σ ns (nI pl) = 0 := by
  unfold eX_open
  rw [ck12 hp, if_pos rfl, if_neg (by rw [h]; decide), hns, if_pos (show nI ns < 40 from nI_lt (b := 40) h40 (by decide))]
theorem eO_1 : eX_open σ ns 12 = 1 := by
  unfold eX_open
  rw [show ckI 12 12 = false from by decide]
  rfl
theorem eC_1 (hns : σ 18 0 = 0) : eX_count σ 0 0 0 0 = 1 := by
  unfold eX_count
  rw [hns, show ckI 0 0 = false from by decide]
  rfl
theorem eL_1 (hns : σ 18 0 = 0) : eX_close σ 0 = 1 := by
  unfold eX_close
  rw [hns, show ckI 0 0 = false from by decide]
  rfl
theorem eS_1 (hns : σ 18 0 = 0) : eX_sign σ nm ns 0 0 0 = 1 := by
  unfold eX_sign
  rw [hns, show ckI 0 0 = false from by decide]
  rfl
theorem eC_s {pe q : Nat} (hns : σ 18 0 = nI ns) (h4 : ns ≤ 40) (hk : k < ns) (hi : i < 5) (hp : pe < 6) (hq : q ≤ 100000) (h9 : ¬ σ 9 k = 0) : eX_count σ (nI k) (nI pe) (nI i) (nI q) = 3 := by
  unfold eX_count
  rw [hns, ckI_ok hk (by omega), ck6 hp, ck5 hi, show ckR (nI q) 0 100000 = true from ckR_ok (a := 0) (b := 100000) (Nat.zero_le _) hq (by decide), ixN_nI (by omega), if_pos rfl, if_pos rfl, if_pos rfl, if_pos rfl, if_neg h9]
theorem eC_o {pe q : Nat} (hns : σ 18 0 = nI ns) (h4 : ns ≤ 40) (hk : k < ns) (hi : i < 5) (hp : pe < 6) (hq : q ≤ 100000) (h9 : σ 9 k = 0) : eX_count σ (nI k) (nI pe) (nI i) (nI q) = if agB σ (k * 5 + i) = true then 3 else if cbB σ (k * 5 + i) (nI pe) = true then 3 else 0 := by
  unfold eX_count
  rw [hns, ckI_ok hk (by omega), ck6 hp, ck5 hi, show ckR (nI q) 0 100000 = true from ckR_ok (a := 0) (b := 100000) (Nat.zero_le _) hq (by decide), ixN_nI (by omega), lnN_e (by omega) hi, if_pos rfl, if_pos rfl, if_pos rfl, if_pos rfl, if_pos h9]
theorem eC_a {pe q : Nat} (hns : σ 18 0 = nI ns) (h4 : ns ≤ 40) (hk : k < ns) (hi : i < 5) (hp : pe < 6) (hq : q ≤ 100000) (h9 : σ 9 k = 0) (hg : agB σ (k * 5 + i) = true) : eX_count σ (nI k) (nI pe) (nI i) (nI q) = 3 := by
  rw [eC_o hns h4 hk hi hp hq h9, if_pos hg]
theorem eC_c {pe q : Nat} (hns : σ 18 0 = nI ns) (h4 : ns ≤ 40) (hk : k < ns) (hi : i < 5) (hp : pe < 6) (hq : q ≤ 100000) (h9 : σ 9 k = 0) (hc : cbB σ (k * 5 + i) (nI pe) = true) : eX_count σ (nI k) (nI pe) (nI i) (nI q) = 3 := by
  rw [eC_o hns h4 hk hi hp hq h9, if_pos hc]
  split <;> rfl
theorem eC_0 {pe q : Nat} (hns : σ 18 0 = nI ns) (h4 : ns ≤ 40) (hk : k < ns) (hi : i < 5) (hp : pe < 6) (hq : q ≤ 100000) (h9 : σ 9 k = 0) (hg : agB σ (k * 5 + i) = false) (hc : cbB σ (k * 5 + i) (nI pe) = false) : eX_count σ (nI k) (nI pe) (nI i) (nI q) = 0 := by
  rw [eC_o hns h4 hk hi hp hq h9, if_neg (by rw [hg]; decide), if_neg (by rw [hc]; decide)]
theorem eC_2 {pe : Nat} (hns : σ 18 0 = nI ns) (h4 : ns ≤ 40) (hk : k < ns) (hi : i < 5) (hp : pe < 6) : eX_count σ (nI k) (nI pe) (nI i) 100001 = 2 := by
  unfold eX_count
  rw [hns, ckI_ok hk (by omega), ck6 hp, ck5 hi, show ckR 100001 0 100000 = false from by decide]
  rfl
theorem eC_6 {q : Int32} (hns : σ 18 0 = nI ns) (h4 : ns ≤ 40) (hk : k < ns) : eX_count σ (nI k) 6 (nI i) q = 1 := by
  unfold eX_count
  rw [hns, ckI_ok hk (by omega), show ckI 6 6 = false from by decide]
  rfl
theorem ct_ix {pe q : Int32} (hk : k < 40) (hi : i < 5) : adS σ (lnN (nI k) (nI i)) pe q = adS σ (k * 5 + i) pe q := by rw [lnN_e hk hi]
theorem tV_cnt {E : Nat} {pe q : Int32} {b : Int32} (hE : E = 0) (hk : k < 40) (hi : i < 5) (hb : bI (agB (adS σ (k * 5 + i) pe q) (k * 5 + i)) = b) : hcV E (bI (agB (adS σ (lnN (nI k) (nI i)) pe q) (lnN (nI k) (nI i)))) = b := by
  rw [hcV_0 hE, lnN_e hk hi, hb]
theorem bI_ag0 {L : Nat} (h : σ 13 L = -1) : bI (agB σ L) = 0 := by rw [agB_f h]; rfl
theorem bI_ag1 {L w : Nat} (h : σ 13 L = nI w) (hw : w ≤ 100000) : bI (agB σ L) = 1 := by rw [agB_t (by rw [h]; exact nI_m1 (by omega))]; rfl
theorem eL_0 (hns : σ 18 0 = nI ns) (h4 : ns ≤ 40) (hk : k < ns) (h9 : σ 9 k = 0) (hb : clB σ k 5 = true) : eX_close σ (nI k) = 0 := by
  unfold eX_close
  rw [hns, ckI_ok hk (by omega), ixN_nI (by omega), if_pos rfl, if_pos h9, if_pos hb]
theorem eL_3 (hns : σ 18 0 = nI ns) (h4 : ns ≤ 40) (hk : k < ns) (h : (decide (σ 9 k = 0) && clB σ k 5) = false) : eX_close σ (nI k) = 3 := by
  unfold eX_close
  rw [hns, ckI_ok hk (by omega), ixN_nI (by omega), if_pos rfl]
  by_cases c : σ 9 k = 0
  · rw [decide_eq_true c, Bool.true_and] at h
    rw [if_pos c, if_neg (by rw [h]; decide)]
  · rw [if_neg c]
theorem eL_n (hns : σ 18 0 = nI ns) (h4 : ns ≤ 40) : eX_close σ (nI ns) = 1 := by
  unfold eX_close
  rw [hns, ckI_no (Nat.le_refl _) (by omega)]
  rfl
theorem clA_u : ∀ q, q ≤ 5 → ∃ z, z ≤ q ∧ clA σ k q = nI z
  | 0, _ => ⟨0, Nat.le_refl _, rfl⟩
  | q + 1, h => by
    obtain ⟨z, h1, h2⟩ := clA_u q (by omega)
    rw [clA, h2]
    split
    · exact ⟨z + 1, by omega, nI_1 z⟩
    · exact ⟨z, by omega, rfl⟩
theorem clA_p {q : Nat} (h : agB σ (k * 5 + q) = true) : clA σ k q + 1 = clA σ k (q + 1) := by
  rw [clA, if_pos h]
theorem clA_n {q : Nat} (h : agB σ (k * 5 + q) = false) : clA σ k q + 0 = clA σ k (q + 1) := by
  rw [clA, if_neg (by rw [h]; decide), Int32.add_zero]
theorem clB_f {q : Nat} (h : clB σ k q = false) : clB σ k (q + 1) = false := by
  rw [clB, if_neg (by rw [h]; decide)]
theorem clB_a {q : Nat} (h : clB σ k q = true) (h2 : agB σ (k * 5 + q) = true) : clB σ k (q + 1) = true := by
  rw [clB, if_pos h, if_pos h2]
theorem clB_z {q : Nat} (h : clB σ k q = true) (h2 : bc (σ 10 (k * 5 + q)) = 0) : clB σ k (q + 1) = true := by
  rw [clB, if_pos h]
  split
  · rfl
  · rw [h2]; rfl
theorem clB_x {q c : Nat} (h2 : agB σ (k * 5 + q) = false) (h3 : bc (σ 10 (k * 5 + q)) = nI c) (h4 : 0 < c) (h5 : c ≤ 3) : clB σ k (q + 1) = false := by
  rw [clB, if_neg (show ¬ agB σ (k * 5 + q) = true by rw [h2]; decide), h3, if_neg (nI_nle h4 (by omega))]
  split <;> rfl
end FX
