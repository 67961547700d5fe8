/-! WHAT THE MODEL's METHODS ANSWER, over its rows: 0 to 8 and 14 to 19 as the class's; 9 state, 15 gaps; 20 counted, 21 person, 22 quantity, 23 thrown -/
def go3 (p : Bool × Bool × Bool) : Bool := p.1 && p.2.1 && p.2.2
def goV (p : Bool × Bool × Bool) : Int32 := if p.1 = true then if p.2.1 = true then if p.2.2 = true then 0 else 3 else 2 else 1
theorem go3_t {p : Bool × Bool × Bool} (h : go3 p = true) : p.1 = true ∧ p.2.1 = true ∧ p.2.2 = true := by
  simp only [go3, Bool.and_eq_true] at h
  exact ⟨h.1.1, h.1.2, h.2⟩
theorem goV_0 {p : Bool × Bool × Bool} (h : go3 p = true) : goV p = 0 := by
  obtain ⟨h1, h2, h3⟩ := go3_t h
  simp [goV, h1, h2, h3]
/-- the answer where the three conditions hold, else 0 -/
def vM (p : Bool × Bool × Bool) (v : Int32) : Int32 := if go3 p = true then v else 0
/-- the rows behind: what is thrown is noted; where nothing is, f's -/
def sM (p : Bool × Bool × Bool) (μ : kS) (f : kS → kS) : kS := if go3 p = true then f (su μ 23 0 0) else su μ 23 0 (goV p)
theorem vM_t {p : Bool × Bool × Bool} {v : Int32} (h : go3 p = true) : vM p v = v := if_pos h
theorem vM_f {p : Bool × Bool × Bool} {v : Int32} (h : go3 p = false) : vM p v = 0 := if_neg (by rw [h]; decide)
theorem sM_t {p : Bool × Bool × Bool} {μ : kS} {f : kS → kS} (h : go3 p = true) : sM p μ f = f (su μ 23 0 0) := if_pos h
theorem sM_f {p : Bool × Bool × Bool} {μ : kS} {f : kS → kS} (h : go3 p = false) : sM p μ f = su μ 23 0 (goV p) := if_neg (by rw [h]; decide)
def agM (μ : kS) (k : Nat) : Int32 :=
  if μ 20 k < 2 then -1 else if μ 20 k = 2 then (if μ 22 (3 * k) = μ 22 (3 * k + 1) then μ 22 (3 * k) else -1)
  else if μ 22 (3 * k) = μ 22 (3 * k + 1) then μ 22 (3 * k) else if μ 22 (3 * k) = μ 22 (3 * k + 2) then μ 22 (3 * k)
  else if μ 22 (3 * k + 1) = μ 22 (3 * k + 2) then μ 22 (3 * k + 1)
  else if (decide (μ 22 (3 * k) < μ 22 (3 * k + 1)) == decide (μ 22 (3 * k + 1) < μ 22 (3 * k + 2))) = true then μ 22 (3 * k + 1)
  else if (decide (μ 22 (3 * k + 1) < μ 22 (3 * k)) == decide (μ 22 (3 * k) < μ 22 (3 * k + 2))) = true then μ 22 (3 * k) else μ 22 (3 * k + 2)
def isM (μ : kS) (pl : Int32) (ar : Nat) (mi : Int32) (k : Nat) : Bool := if μ 7 k = pl then if μ 14 (k * 5 + ar) ≤ 0 then false else if μ 8 k ≤ mi then true else false else false
def ltM (μ : kS) (ar k b : Nat) : Bool := if μ 8 k ≤ μ 8 b then if μ 8 k = μ 8 b then if μ 14 (k * 5 + ar) ≤ μ 14 (b * 5 + ar) then false else true else false else true
def fdT (μ : kS) (pl : Int32) (ar : Nat) (mi : Int32) (k : Nat) (o : Option Nat) : Option Nat := if isM μ pl ar mi k = true then match o with
  | none => some k
  | some b => if ltM μ ar k b = true then some k else some b
  else o
def fdM (μ : kS) (pl : Int32) (ar : Nat) (mi : Int32) : Nat → Option Nat
  | 0 => none
  | n + 1 => fdT μ pl ar mi n (fdM μ pl ar mi n)
theorem fdM_lt {μ : kS} {pl : Int32} {ar : Nat} {mi : Int32} : ∀ {n k : Nat}, fdM μ pl ar mi n = some k → k < n
  | 0, k, h => by simp [fdM] at h
  | n + 1, k, h => by
    have ih := fun {k : Nat} => @fdM_lt μ pl ar mi n k
    rw [fdM] at h
    generalize ho : fdM μ pl ar mi n = o at h ih
    unfold fdT at h
    cases o with
    | none =>
      simp only at h
      split at h
      · cases h; omega
      · cases h
    | some b =>
      have hb := ih rfl
      simp only at h
      split at h
      · split at h
        · cases h; omega
        · cases h; omega
      · cases h; omega
def tmB (μ : kS) (ar af un : Int32) (k : Nat) : Bool := if μ 4 k = ar then if μ 6 k ≤ af then false else if μ 6 k ≤ un then true else false else false
def tmM (μ : kS) (pl ar af un : Int32) (k : Nat) : Int32 := if tmB μ ar af un k = true then if μ 3 k = pl then μ 5 k else if μ 2 k = pl then -(μ 5 k) else 0 else 0
def smM (μ : kS) (pl ar af un z : Int32) : Nat → Int32
  | 0 => z
  | n + 1 => smM μ pl ar af un z n + tmM μ pl ar af un n
def boM (μ : kS) (nm ns : Nat) (pl : Int32) (ar : Nat) (mi : Int32) : Int32 := match fdM μ pl ar mi ns with
  | none => smM μ pl (nI ar) (-1) mi 0 nm
  | some k => smM μ pl (nI ar) (μ 8 k) mi (agM μ (k * 5 + ar)) nm
def hoM (μ : kS) (pl : Int32) : Nat → Bool
  | 0 => false
  | n + 1 => if hoM μ pl n = true then true else if μ 7 n = pl then if μ 9 n = 0 then true else false else false
def hcM (μ : kS) (k : Nat) (who : Int32) : Nat → Bool
  | 0 => false
  | n + 1 => if hcM μ k who n = true then true else if μ 21 (3 * k + n) = who then true else false
def grM (μ : kS) (k : Nat) : Bool := if agM μ k = -1 then false else true
def gpM (μ : kS) (nm ns sh ar : Nat) : Int32 := if μ 14 (sh * 5 + ar) ≤ 0 then agM μ (sh * 5 + ar) - boM μ nm ns (μ 7 sh) ar (μ 8 sh) else μ 15 (sh * 5 + ar)
def sgM (μ : kS) (k : Nat) (g : Int32) : kS := su (su (su μ 19 0 (μ 19 0 + 1)) 14 k (μ 19 0 + 1)) 15 k g
def ctM (μ : kS) (nm ns sh ot ar : Nat) : Bool := if μ 9 sh = 1 then if μ 9 ot = 1 then if μ 7 sh = μ 7 ot then false else if μ 14 (sh * 5 + ar) = 0 then if μ 14 (ot * 5 + ar) = 0 then if gpM μ nm ns sh ar = 0 then false else if gpM μ nm ns sh ar + gpM μ nm ns ot ar = 0 then true else false else false else false else false else false
def woM (μ : kS) (nm ns : Nat) (pl : Int32) : Nat → Int32
  | 0 => 0
  | n + 1 => woM μ nm ns pl n + (if boM μ nm ns pl n (μ 16 0) ≤ 0 then 0 else μ 0 n * boM μ nm ns pl n (μ 16 0))
def ldM (μ : kS) (pl : Int32) : Nat → Int32
  | 0 => -1
  | n + 1 => if μ 7 n = pl then μ 8 n else ldM μ pl n
def raM (μ : kS) (nm ns : Nat) (pl : Int32) : Int64 := ((woM μ nm ns pl 5).toInt64 + 1) * (μ 16 0 - ldM μ pl ns).toInt64
def suB (μ : kS) (nm ns k : Nat) (z : Int64) : Bool := if hoM μ (nI k) ns = true then false else if lg_cmp (raM μ nm ns (nI k)) z ≤ 0 then false else true
def suM (μ : kS) (nm ns : Nat) : Nat → Int32 × Int64
  | 0 => (-1, -1)
  | n + 1 => if suB μ nm ns n (suM μ nm ns n).2 = true then (nI n, raM μ nm ns (nI n)) else suM μ nm ns n
def clM (μ : kS) (sh : Nat) : Nat → Int32
  | 0 => 0
  | n + 1 => clM μ sh n + (if agM μ (sh * 5 + n) = -1 then 0 else 1)
def alM (μ : kS) (sh : Nat) : Nat → Bool
  | 0 => true
  | n + 1 => if alM μ sh n = true then if agM μ (sh * 5 + n) = -1 then if μ 20 (sh * 5 + n) = 0 then true else false else true else false
def abM (g : Int32) : Int32 := if 0 ≤ g then g else -g
def lkB (μ : kS) (nm ns sh ar k : Nat) : Bool := if grM μ (sh * 5 + ar) = true then if grM μ (k * 5 + ar) = true then ctM μ nm ns sh k ar else false else false
/-- the first place from k on, d places looked at -/
def fdn (p : Nat → Bool) (k : Nat) : Nat → Option Nat
  | 0 => none
  | d + 1 => if p k = true then some k else fdn p (k + 1) d
def exM (μ : kS) (z : Int32) : Nat → Int32 × Int32
  | 0 => (0, 0)
  | n + 1 => if μ 14 n ≤ 0 then exM μ z n else if μ 7 (n / 5) / 4 = z then ((exM μ z n).1 + 1, (exM μ z n).2 + (if μ 15 n = 0 then 1 else 0)) else exM μ z n
def xvM (μ : kS) (ns : Nat) (z : Int32) : Int32 := if (exM μ z (5 * ns)).1 = 0 then -1 else 1000 * (exM μ z (5 * ns)).2 / (exM μ z (5 * ns)).1
theorem at_eq (sh ar : Nat) : 5 * nI sh + nI ar = nI (sh * 5 + ar) := by rw [show (5 : Int32) = nI 5 from rfl, pk_mul, nI_add, Nat.mul_comm]
theorem ckR_nI {x : Int32} {n : Nat} (h : ckR x 0 (nI n - 1) = true) (hn : n < 2 ^ 30) : ∃ j, j < n ∧ x = nI j := by
  unfold ckR at h
  by_cases h1 : x < 0
  · simp [h1] at h
  · by_cases h2 : nI n - 1 < x
    · simp [h1, h2] at h
    · obtain ⟨j, hj, rfl⟩ := nI_of h1
      cases n with
      | zero => exact absurd h2 (Classical.not_not.mpr (by
          rw [show nI 0 - 1 = -1 from rfl]
          exact Int32.lt_of_lt_of_le (by decide : (-1 : Int32) < 0) (nI_pos' hj)))
      | succ n =>
        rw [nI_pred, nI_ltI (by omega) hj] at h2
        exact ⟨j, by omega, rfl⟩
theorem ckR_lit {x : Int32} {n : Nat} (h : ckR x 0 (nI n) = true) (hn : n < 1000) : ∃ j, j < n + 1 ∧ x = nI j := ckR_nI (n := n + 1) (by rw [nI_pred]; exact h) (by omega)
