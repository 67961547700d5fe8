/-! WHAT THE CLASS's METHODS ANSWER, over its rows: a row's number and a place give an int. 0 prices, 1 bounds, 2 from, 3 to, 4 article, 5 quantity, 6 minute, 7 place, 8 cut, 9 closed, 10 persons, 11 first, 12 second, 13 agreement, 14 signature, 15 signedGap; 16 to 19, each at 0: now, moves, sheets, signatures -/
abbrev kS : Type := Nat → Nat → Int32
def oI (o : Option Nat) : Int32 := match o with
  | none => -1
  | some k => nI k
def ckI (i n : Int32) : Bool := if i < 0 then false else if n ≤ i then false else true
def ckP (i : Int32) : Bool := if i = -1 then true else ckI i 12
def ckR (v a b : Int32) : Bool := if v < a then false else if b < v then false else true
def agB (σ : kS) (k : Nat) : Bool := if σ 13 k = -1 then false else true
def hsB (σ : kS) (k : Nat) : Bool := if σ 14 k = 0 then false else true
/-- Integer.bitCount, its own steps -/
def bc (x : Int32) : Int32 :=
  let sh (a n : Int32) : Int32 := (a.toUInt32 >>> (n.toUInt32 &&& Int32.toUInt32 31)).toInt32
  let a := x - (sh x 1 &&& 1431655765)
  let b := (a &&& 858993459) + (sh a 2 &&& 858993459)
  let d := (b + sh b 4) &&& 252645135
  let f := d + sh d 8
  (f + sh f 16) &&& 63
def cbB (σ : kS) (k : Nat) (pe : Int32) : Bool := if σ 10 k &&& ((1 : Int32) <<< (pe &&& 31)) = 0 then false else true
def latO (σ : kS) (pl : Int32) : Nat → Option Nat
  | 0 => none
  | n + 1 => if σ 7 n = pl then some n else latO σ pl n
def opB (σ : kS) (pl : Int32) (ns : Nat) : Bool := match latO σ pl ns with
  | none => false
  | some k => if σ 9 k = 0 then true else false
def brT (σ : kS) (pl ar af un : Int32) (i : Nat) (z : Int32) : Int32 := if σ 4 i = ar then if af < σ 6 i then if σ 6 i ≤ un then if σ 3 i = pl then z + σ 5 i else if σ 2 i = pl then z - σ 5 i else z else z else z else z
def brF (σ : kS) (pl ar af un : Int32) : Nat → Int32
  | 0 => 0
  | n + 1 => brT σ pl ar af un n (brF σ pl ar af un n)
def strB (σ : kS) (a b ar : Nat) : Bool := if σ 8 a = σ 8 b then if σ 14 (b * 5 + ar) < σ 14 (a * 5 + ar) then true else false else if σ 8 b < σ 8 a then true else false
def ssT (σ : kS) (pl : Int32) (ar : Nat) (mi : Int32) (k : Nat) (o : Option Nat) : Option Nat :=
  if σ 7 k = pl then if σ 8 k ≤ mi then if hsB σ (k * 5 + ar) = true then match o with
    | none => some k
    | some b => if strB σ k b ar = true then some k else some b
  else o else o else o
def ssO (σ : kS) (pl : Int32) (ar : Nat) (mi : Int32) : Nat → Option Nat
  | 0 => none
  | n + 1 => ssT σ pl ar mi n (ssO σ pl ar mi n)
def boV (σ : kS) (nm ns : Nat) (pl : Int32) (ar : Nat) (mi : Int32) : Int32 := match ssO σ pl ar mi ns with
  | none => brF σ pl (nI ar) (-1) mi nm
  | some k => σ 13 (k * 5 + ar) + brF σ pl (nI ar) (σ 8 k) mi nm
def gpV (σ : kS) (nm ns sh ar : Nat) : Int32 := if hsB σ (sh * 5 + ar) = true then σ 15 (sh * 5 + ar) else σ 13 (sh * 5 + ar) - boV σ nm ns (σ 7 sh) ar (σ 8 sh)
def sgB (σ : kS) (sh ar : Nat) : Bool := if σ 9 sh = 0 then false else if agB σ (sh * 5 + ar) = true then if hsB σ (sh * 5 + ar) = true then false else true else false
def csB (σ : kS) (nm ns sh ot ar : Nat) : Bool := if σ 7 sh = σ 7 ot then false else if sgB σ sh ar = true then if sgB σ ot ar = true then if gpV σ nm ns sh ar = 0 then false else if gpV σ nm ns sh ar + gpV σ nm ns ot ar = 0 then true else false else false else false
def woF (σ : kS) (nm ns : Nat) (pl : Int32) : Nat → Int32
  | 0 => 0
  | n + 1 => woF σ nm ns pl n + σ 0 n * (if 0 < boV σ nm ns pl n (σ 16 0) then boV σ nm ns pl n (σ 16 0) else 0)
def urV (σ : kS) (nm ns : Nat) (pl : Int32) : Int64 := ((woF σ nm ns pl 5).toInt64 + 1) * (match latO σ pl ns with
  | none => (σ 16 0).toInt64 + 1
  | some k => (σ 16 0 - σ 8 k).toInt64)
def suT (σ : kS) (nm ns : Nat) (k : Nat) (z : Int32 × Int64) : Int32 × Int64 := if opB σ (nI k) ns = true then z else if z.1 = -1 then (nI k, urV σ nm ns (nI k)) else if lg_cmp (urV σ nm ns (nI k)) z.2 ≤ 0 then z else (nI k, urV σ nm ns (nI k))
def suF (σ : kS) (nm ns : Nat) : Nat → Int32 × Int64
  | 0 => (-1, 0)
  | n + 1 => suT σ nm ns n (suF σ nm ns n)
/-- the first below n for which it holds -/
def flO (p : Nat → Bool) : Nat → Option Nat
  | 0 => none
  | n + 1 => match flO p n with
    | some k => some k
    | none => if p n = true then some n else none
def exI (σ : kS) (sh : Nat) : Nat → Int32 × Int32 → Int32 × Int32
  | 0, z => z
  | n + 1, z => if hsB σ (sh * 5 + n) = true then ((exI σ sh n z).1 + 1, (exI σ sh n z).2 + (if σ 15 (sh * 5 + n) = 0 then 1 else 0)) else exI σ sh n z
def exF (σ : kS) (z : Int32) : Nat → Int32 × Int32
  | 0 => (0, 0)
  | n + 1 => if σ 7 n / 4 = z then exI σ n 5 (exF σ z n) else exF σ z n
def exV (σ : kS) (ns : Nat) (z : Int32) : Int32 := if (exF σ z ns).1 = 0 then -1 else 1000 * (exF σ z ns).2 / (exF σ z ns).1
def clA (σ : kS) (sh : Nat) : Nat → Int32
  | 0 => 0
  | n + 1 => if agB σ (sh * 5 + n) = true then clA σ sh n + 1 else clA σ sh n
def clB (σ : kS) (sh : Nat) : Nat → Bool
  | 0 => true
  | n + 1 => if clB σ sh n = true then if agB σ (sh * 5 + n) = true then true else if bc (σ 10 (sh * 5 + n)) ≤ 0 then true else false else false
def abV (x : Int32) : Int32 := if 0 ≤ x then x else 0 - x
def midV (a b c : Int32) : Int32 :=
  let x := if b < a then b else a
  let y := if a < b then b else a
  let z := if c < y then c else y
  if x < z then z else x
theorem ln_eq (sh ar : Nat) : nI sh * 5 + nI ar = nI (sh * 5 + ar) := by rw [show (5 : Int32) = nI 5 from rfl, pk_mul, nI_add]
-- which exception: 0 none, 1 IndexOutOfBounds, 2 IllegalArgument, 3 IllegalState, 4 NoSuchElement
def eX_setPrice (ar pr : Int32) : Nat := if ckI ar 5 = true then if ckR pr 0 1000 = true then 0 else 2 else 1
def eX_setBound (pe bo : Int32) : Nat := if ckI pe 6 = true then if ckR bo 0 1000000 = true then 0 else 2 else 1
def eX_move (σ : kS) (f t a q mi : Int32) : Nat := if ckP f = true then if ckP t = true then if ckI a 5 = true then if f = t then 2 else if ckR q 1 1000 = true then if ckR mi 0 (σ 16 0) = true then if σ 17 0 < 200 then 0 else 3 else 2 else 2 else 1 else 1 else 1
def eX_pass (mi : Int32) : Nat := if ckR mi 1 1000 = true then 0 else 2
def eX_open (σ : kS) (ns : Nat) (pl : Int32) : Nat := if ckI pl 12 = true then if opB σ pl ns = true then 3 else if σ 18 0 < 40 then 0 else 3 else 1
def ixN (x : Int32) : Nat := x.toNatClampNeg
def lnN (sh ar : Int32) : Nat := ixN sh * 5 + ixN ar
def eX_count (σ : kS) (sh pe ar q : Int32) : Nat := if ckI sh (σ 18 0) = true then if ckI pe 6 = true then if ckI ar 5 = true then if ckR q 0 100000 = true then if σ 9 (ixN sh) = 0 then if agB σ (lnN sh ar) = true then 3 else if cbB σ (lnN sh ar) pe = true then 3 else 0 else 3 else 2 else 1 else 1 else 1
def eX_close (σ : kS) (sh : Int32) : Nat := if ckI sh (σ 18 0) = true then if σ 9 (ixN sh) = 0 then if clB σ (ixN sh) 5 = true then 0 else 3 else 3 else 1
def eX_sign (σ : kS) (nm ns : Nat) (sh ar pe : Int32) : Nat := if ckI sh (σ 18 0) = true then if ckI ar 5 = true then if ckI pe 6 = true then if agB σ (lnN sh ar) = true then if sgB σ (ixN sh) (ixN ar) = true then if σ 0 (ixN ar) * abV (gpV σ nm ns (ixN sh) (ixN ar)) ≤ σ 1 (ixN pe) then 0 else 3 else 3 else 4 else 1 else 1 else 1
def eX_settle (σ : kS) (nm ns : Nat) (sh ot ar : Int32) : Nat := if ckI sh (σ 18 0) = true then if ckI ot (σ 18 0) = true then if ckI ar 5 = true then if agB σ (lnN sh ar) = true then if agB σ (lnN ot ar) = true then if csB σ nm ns (ixN sh) (ixN ot) (ixN ar) = true then 0 else 3 else 4 else 4 else 1 else 1 else 1
def eX_two (a n b k : Int32) : Nat := if (ckI a n && ckI b k) = true then 0 else 1
def eX_bookAt (σ : kS) (pl ar mi : Int32) : Nat := if ckI pl 12 = true then if ckI ar 5 = true then if ckR mi 0 (σ 16 0) = true then 0 else 2 else 1 else 1
def eX_one (a n : Int32) : Nat := if ckI a n = true then 0 else 1
def eX_gap (σ : kS) (sh ar : Int32) : Nat := if (ckI sh (σ 18 0) && ckI ar 5) = true then if agB σ (lnN sh ar) = true then 0 else 4 else 1
theorem ckI_nI {x : Int32} {n : Nat} (h : ckI x (nI n) = true) (hn : n < 2 ^ 31) : ∃ j, j < n ∧ x = nI j := by
  unfold ckI at h
  by_cases h1 : x < 0
  · simp [h1] at h
  · by_cases h2 : nI n ≤ x
    · simp [h1, h2] at h
    · obtain ⟨j, hj, rfl⟩ := nI_of h1
      refine ⟨j, ?_, rfl⟩
      rw [nI_leI hn hj] at h2
      omega
theorem ixN_nI {n : Nat} (h : n < 2 ^ 31) : ixN (nI n) = n := nI_clamp h
theorem flO_none {p : Nat → Bool} : ∀ {n : Nat}, (∀ j, j < n → p j = false) → flO p n = none
  | 0, _ => rfl
  | n + 1, h => by
    rw [flO, flO_none (fun j hj => h j (by omega))]
    simp [h n (by omega)]
theorem flO_at {p : Nat → Bool} {k : Nat} (hk : p k = true) (h : ∀ j, j < k → p j = false) : ∀ {n : Nat}, k < n → flO p n = some k
  | 0, hn => by omega
  | n + 1, hn => by
    rw [flO]
    by_cases q : k = n
    · subst q
      rw [flO_none h]
      simp [hk]
    · rw [flO_at hk h (by omega)]
theorem clB_no {σ : kS} {sh : Nat} : ∀ {n k : Nat}, n ≤ k → clB σ sh n = false → clB σ sh k = false := by
  intro n k h hn
  induction k with
  | zero => have : n = 0 := by omega
            subst this; exact hn
  | succ k ih =>
    by_cases q : n = k + 1
    · subst q; exact hn
    · have := ih (by omega)
      simp [clB, this]
theorem le_nlt {x y : Int32} (h : x ≤ y) : ¬ y < x := Int32.not_lt.mpr h
theorem nle_lt {x y : Int32} (h : ¬ x ≤ y) : y < x := Int32.not_le.mp h
theorem lt_nle {x y : Int32} (h : x < y) : ¬ y ≤ x := Int32.not_le.mpr h
theorem nlt_le {x y : Int32} (h : ¬ x < y) : y ≤ x := Int32.not_lt.mp h
theorem m1_eq (x : Int32) : x + Int32.ofInt (-1) = x - 1 := by rw [show Int32.ofInt (-1) = -1 from rfl, ← Int32.sub_eq_add_neg]
theorem latO_lt {σ : kS} {pl : Int32} : ∀ {n k : Nat}, latO σ pl n = some k → k < n ∧ σ 7 k = pl
  | 0, k, h => by simp [latO] at h
  | n + 1, k, h => by
    by_cases q : σ 7 n = pl
    · simp [latO, q] at h; subst h; exact ⟨by omega, q⟩
    · simp [latO, q] at h
      have := latO_lt h
      exact ⟨by omega, this.2⟩
theorem ssO_lt {σ : kS} {pl : Int32} {ar : Nat} {mi : Int32} : ∀ {n k : Nat}, ssO σ pl ar mi n = some k → k < n
  | 0, k, h => by simp [ssO] at h
  | n + 1, k, h => by
    have ih := fun {k : Nat} => @ssO_lt σ pl ar mi n k
    rw [ssO] at h
    generalize ho : ssO σ pl ar mi n = o at h ih
    unfold ssT at h
    cases o with
    | none =>
      simp only at h
      split at h
      · split at h
        · split at h
          · cases h; omega
          · cases h
        · cases h
      · cases h
    | some b =>
      have hb := ih rfl
      simp only at h
      split at h
      · split at h
        · split at h
          · split at h
            · cases h; omega
            · cases h; omega
          · cases h; omega
        · cases h; omega
      · cases h; omega
theorem nI_m1 {k : Nat} (h : k < 2 ^ 31) : ¬ nI k = -1 := fun q => nI_pos h (by rw [q]; decide)
