/-! THE LAW'S WORLD: two objects of the class and five rows of ints -/
def wQa (G : kG) (a : Nat → Nat) (α : kS) : va_W := [(a 0, .inl (G.2.1, 11, .inl (α 0))), (a 1, .inl (G.2.1, 12, .inl (α 1))), (a 2, .inl (G.2.1, 60, .inl (α 2))), (a 3, .inl (G.2.1, 6, .inl (α 3))), (a 4, .inl (G.2.1, 3, .inl (α 4)))]
def lenQ (r : Nat) : Nat := match r with
  | 0 => 11
  | 1 => 12
  | 2 => 60
  | 3 => 6
  | _ => 3
theorem wQa_at {G : kG} {a : Nat → Nat} {α : kS} {r : Nat} (hr : r < 5) : (wQa G a α)[r]? = some (a r, .inl (G.2.1, lenQ r, .inl (α r))) := by
  match r, hr with
  | 0, _ => rfl
  | 1, _ => rfl
  | 2, _ => rfl
  | 3, _ => rfl
  | 4, _ => rfl
  | k + 5, h => omega
theorem wQa_set {G : kG} {a : Nat → Nat} {α : kS} {r i : Nat} {x : Int32} (hr : r < 5) : (wQa G a α).set r (a r, .inl (G.2.1, lenQ r, .inl (upd (α r) i x))) = wQa G a (su α r i x) := by
  match r, hr with
  | 0, _ => rfl
  | 1, _ => rfl
  | 2, _ => rfl
  | 3, _ => rfl
  | 4, _ => rfl
  | k + 5, h => omega
theorem wQa_fst (G : kG) (a : Nat → Nat) (α : kS) : (wQa G a α).map (fun q => q.1) = (List.range 5).map a := rfl
def adQ (o t a : Nat → Nat) : Nat → Nat := fun i => if i < 20 then o i else if i < 40 then t (i - 20) else a (i - 40)
def AQ (o t a : Nat → Nat) : Nat → Prop := fun q => ∃ i, i < 45 ∧ q = adQ o t a i
def AO (o : Nat → Nat) : Nat → Prop := fun q => ∃ i, i < 20 ∧ q = o i
def A5 (a : Nat → Nat) : Nat → Prop := fun q => ∃ i, i < 5 ∧ q = a i
def JQ (o t a : Nat → Nat) : Prop := ∀ i j, i < 45 → j < 45 → adQ o t a i = adQ o t a j → i = j
theorem adQ_o {o t a : Nat → Nat} {i : Nat} (h : i < 20) : adQ o t a i = o i := if_pos h
theorem adQ_t {o t a : Nat → Nat} {i : Nat} (h : i < 20) : adQ o t a (i + 20) = t i := by
  unfold adQ
  rw [if_neg (by omega), if_pos (by omega), Nat.add_sub_cancel]
theorem adQ_a {o t a : Nat → Nat} {i : Nat} : adQ o t a (i + 40) = a i := by
  unfold adQ
  rw [if_neg (by omega), if_neg (by omega), Nat.add_sub_cancel]
theorem AO.inO {o t a : Nat → Nat} {q : Nat} (h : AO o q) : AQ o t a q := by
  obtain ⟨i, h1, h2⟩ := h
  exact ⟨i, by omega, by rw [adQ_o h1]; exact h2⟩
theorem AO.inT {o t a : Nat → Nat} {q : Nat} (h : AO t q) : AQ o t a q := by
  obtain ⟨i, h1, h2⟩ := h
  exact ⟨i + 20, by omega, by rw [adQ_t h1]; exact h2⟩
theorem A5.inA {o t a : Nat → Nat} {q : Nat} (h : A5 a q) : AQ o t a q := by
  obtain ⟨i, h1, h2⟩ := h
  exact ⟨i + 40, by omega, by rw [adQ_a]; exact h2⟩
theorem JQ.dO {o t a : Nat → Nat} (h : JQ o t a) : DD 20 (AO o) o := ⟨fun i j hi hj e => h i j (by omega) (by omega) (by rw [adQ_o hi, adQ_o hj]; exact e), fun i hi => ⟨i, hi, rfl⟩⟩
theorem JQ.dT {o t a : Nat → Nat} (h : JQ o t a) : DD 20 (AO t) t := ⟨fun i j hi hj e => by
  have := h (i + 20) (j + 20) (by omega) (by omega) (by rw [adQ_t hi, adQ_t hj]; exact e)
  omega, fun i hi => ⟨i, hi, rfl⟩⟩
theorem JQ.dA {o t a : Nat → Nat} (h : JQ o t a) : DD 5 (A5 a) a := ⟨fun i j hi hj e => by
  have := h (i + 40) (j + 40) (by omega) (by omega) (by rw [adQ_a, adQ_a]; exact e)
  omega, fun i hi => ⟨i, hi, rfl⟩⟩
theorem JQ.ot {o t a : Nat → Nat} (h : JQ o t a) : ∀ q, AO o q → ¬ AO t q := by
  rintro q ⟨i, hi, e⟩ ⟨j, hj, e2⟩
  have := h i (j + 20) (by omega) (by omega) (by rw [adQ_o hi, adQ_t hj, ← e, ← e2])
  omega
theorem JQ.oa {o t a : Nat → Nat} (h : JQ o t a) : ∀ q, AO o q → ¬ A5 a q := by
  rintro q ⟨i, hi, e⟩ ⟨j, hj, e2⟩
  have := h i (j + 40) (by omega) (by omega) (by rw [adQ_o hi, adQ_a, ← e, ← e2])
  omega
theorem JQ.ta {o t a : Nat → Nat} (h : JQ o t a) : ∀ q, AO t q → ¬ A5 a q := by
  rintro q ⟨i, hi, e⟩ ⟨j, hj, e2⟩
  have := h (i + 20) (j + 40) (by omega) (by omega) (by rw [adQ_t hi, adQ_a, ← e, ← e2])
  omega
/-- an entry of a picture whose addresses are those of a -/
theorem fst_at {ws : va_W} {n : Nat} {a : Nat → Nat} (hw : ws.map (fun q => q.1) = (List.range n).map a) {k : Nat} {q : Nat × va_E} (h : ws[k]? = some q) : k < n ∧ q.1 = a k := by
  have h1 : (ws.map (fun q => q.1))[k]? = some q.1 := by rw [List.getElem?_map, h]; rfl
  rw [hw, List.getElem?_map] at h1
  by_cases hn : k < n
  · rw [List.getElem?_range hn] at h1
    exact ⟨hn, (Option.some.inj h1).symm⟩
  · rw [List.getElem?_eq_none (by simp; omega)] at h1
    cases h1
theorem wXin {G : kG} {o : Nat → Nat} {σ : kS} {k : Nat} {q : Nat × va_E} (h : (wX G o σ)[k]? = some q) : AO o q.1 := ⟨k, (fst_at (wX_fst G o σ) h).1, (fst_at (wX_fst G o σ) h).2⟩
theorem wAin {G : kG} {a : Nat → Nat} {α : kS} {k : Nat} {q : Nat × va_E} (h : (wQa G a α)[k]? = some q) : A5 a q.1 := ⟨k, (fst_at (wQa_fst G a α) h).1, (fst_at (wQa_fst G a α) h).2⟩
def WQ (G : kG) (o t a : Nat → Nat) (σ τ α : kS) (H : Heap) : Prop := va_P G.1 vwCl (wX G o σ) H ∧ va_P G.1 vwCl (wX G t τ) H ∧ va_P G.1 vwCl (wQa G a α) H
def ZQ (A : Nat → Prop) (U : State) (H : Heap) : Prop := vx_Zq Bundle.tN "UNASSIGNED_STACK" Bundle.steD A U H ∧ vx_Zq Bundle.tN "SUPPRESSED_SENTINEL" Bundle.listD A U H
def PQ (G : kG) (o t a : Nat → Nat) (σ τ α : kS) : State → Prop := fun U => WQ G o t a σ τ α U.heap ∧ KK G U ∧ ZQ (AQ o t a) U U.heap
theorem bl_PQ {G : kG} {o t a : Nat → Nat} {σ τ α : kS} : kBl (PQ G o t a σ τ α) := fun U U' h1 h2 h => by
  unfold PQ
  rw [h1]; exact ⟨h.1, h.2.1.warm (warm_vm h2), vx_Zq.moved (warm_vm h2).alike h.2.2.1, vx_Zq.moved (warm_vm h2).alike h.2.2.2⟩
section KQ
variable {p : Program} {l : Launch} {e : Env} {R : Room} {s : State} {m : MethodId} {args : Array Value} {below : List Frame} {meth : Method} {c : Code} {H H0 H1 : Heap} {locs : List Loc} {cells slots mc ms : Nat} {Q : State → Prop}
variable {cc : ByteArray} {pc nL : Nat} {ls : Array Slot} {rest : List Value} {G : kG} {A B : Nat → Prop} {o t a : Nat → Nat} {σ τ α σ' : kS} {own : String}
theorem ZQ.at (h : ZQ B s s.heap) (hS : va_S A s.heap H locs) (hA : ∀ q, A q → B q) : ZQ B s H := ⟨h.1.kept (fun q h1 h2 => hS.2.1 q h1 (fun z => h2 (hA q z))), h.2.kept (fun q h1 h2 => hS.2.1 q h1 (fun z => h2 (hA q z)))⟩
theorem ZQ.zs (h : ZQ B s H) : ZS s H := ⟨h.1.narrow (fun _ z => z.elim), h.2.narrow (fun _ z => z.elim)⟩
theorem ZQ.nar (h : ZQ B s H) (hA : ∀ q, A q → B q) : ZQ A s H := ⟨h.1.narrow hA, h.2.narrow hA⟩
theorem WQ.xo (h : WQ G o t a σ τ α H) (hK : KK G s) : PX G o σ s H := ⟨h.1, hK⟩
theorem WQ.xt (h : WQ G o t a σ τ α H) (hK : KK G s) : PX G t τ s H := ⟨h.2.1, hK⟩
theorem WQ.rd (h : WQ G o t a σ τ α H) (hk : ∀ q : Nat, q < H.size → ¬ NF q → H1[q]? = H[q]?) : WQ G o t a σ τ α H1 := ⟨kp h.1 (fun q z => hk q z (fun y => y)), kp h.2.1 (fun q z => hk q z (fun y => y)), kp h.2.2 (fun q z => hk q z (fun y => y))⟩
theorem WQ.wo (h : WQ G o t a σ τ α H) (hJ : JQ o t a) (h1 : va_P G.1 vwCl (wX G o σ') H1) (hk : ∀ q : Nat, q < H.size → ¬ AO o q → H1[q]? = H[q]?) : WQ G o t a σ' τ α H1 :=
  ⟨h1, h.2.1.kept (fun k q z => hk q.1 (h.2.1 k q z).lt (fun y => hJ.ot _ y (wXin z))), h.2.2.kept (fun k q z => hk q.1 (h.2.2 k q z).lt (fun y => hJ.oa _ y (wAin z)))⟩
theorem WQ.wt (h : WQ G o t a σ τ α H) (hJ : JQ o t a) (h1 : va_P G.1 vwCl (wX G t σ') H1) (hk : ∀ q : Nat, q < H.size → ¬ AO t q → H1[q]? = H[q]?) : WQ G o t a σ σ' α H1 :=
  ⟨h.1.kept (fun k q z => hk q.1 (h.1 k q z).lt (fun y => hJ.ot _ (wXin z) y)), h1, h.2.2.kept (fun k q z => hk q.1 (h.2.2 k q z).lt (fun y => hJ.ta _ y (wAin z)))⟩
theorem WQ.bq (h : WQ G o t a σ τ α H) (hK : KK G s) (hZ : ZQ (AQ o t a) s H) : ∀ U : State, U.heap = H → s.WarmedH U.vm → PQ G o t a σ τ α U := fun U hU hW => by
  unfold PQ
  rw [hU]; exact ⟨h, hK.warm hW, vx_Zq.moved hW.alike hZ.1, vx_Zq.moved hW.alike hZ.2⟩
theorem vP_ap {w1 w2 : va_W} (h1 : va_P G.1 vwCl w1 H) (h2 : va_P G.1 vwCl w2 H) : va_P G.1 vwCl (w1 ++ w2) H := fun k q h => by
  by_cases c9 : k < w1.length
  · rw [List.getElem?_append_left c9] at h
    exact h1 k q h
  · rw [List.getElem?_append_right (by omega)] at h
    exact h2 _ q h
theorem vP_le {w1 w2 : va_W} (h : va_P G.1 vwCl (w1 ++ w2) H) : va_P G.1 vwCl w1 H := fun k q z => h k q (by
  rw [List.getElem?_append_left (List.getElem?_eq_some_iff.mp z).1]; exact z)
theorem vP_ri {w1 w2 : va_W} (h : va_P G.1 vwCl (w1 ++ w2) H) : va_P G.1 vwCl w2 H := fun k q z => h (w1.length + k) q (by
  rw [List.getElem?_append_right (by omega), Nat.add_sub_cancel_left]; exact z)
theorem k_ldQ (S : CallFix p m c cc nL s args big own) (hK : KK G s) (h : WQ G o t a σ τ α H) (r : Nat) (hr : r < 5) {i : Nat} (hi : i < lenQ r) (hdg : decode cc pc = .ok (.iaload, 1))
    (kk : W p l e R s m args below meth c H locs cells slots Q (F0 m (pc + 1) ls (.int (α r i) :: rest))) : W p l e R s m args below meth c H locs cells slots Q (F0 m pc ls (.int (nI i) :: .ref (a r) :: rest)) :=
  k_ild S hK h.2.2 r (wQa_at hr) hi (by match r, hr with | 0, _ => decide | 1, _ => decide | 2, _ => decide | 3, _ => decide | 4, _ => decide | k + 5, h => omega) hdg kk
theorem k_stQ (S : CallFix p m c cc nL s args big own) (hK : KK G s) (hJ : JQ o t a) (h : WQ G o t a σ τ α H) (hS : va_S A H0 H locs) (hA : ∀ q, AQ o t a q → A q) (r : Nat) (hr : r < 5) {i : Nat} {x : Int32} (hi : i < lenQ r) (hdg : decode cc pc = .ok (.iastore, 1))
    (kk : ∀ (H1 : Heap) (locs1 : List Loc), WQ G o t a σ τ (su α r i x) H1 → va_S A H0 H1 locs1 → W p l e R s m args below meth c H1 locs1 cells slots Q (F0 m (pc + 1) ls rest)) : W p l e R s m args below meth c H locs cells slots Q (F0 m pc ls (.int x :: .int (nI i) :: .ref (a r) :: rest)) := by
  have hP : va_P G.1 vwCl ((wX G o σ ++ wX G t τ) ++ wQa G a α) H := vP_ap (vP_ap h.1 h.2.1) h.2.2
  have hlen : (wX G o σ ++ wX G t τ).length = 40 := rfl
  have hfst : ((wX G o σ ++ wX G t τ) ++ wQa G a α).map (fun q => q.1) = (List.range 45).map (adQ o t a) := rfl
  have hd : va_D A ((wX G o σ ++ wX G t τ) ++ wQa G a α) := DD.w (n := 45) (a := adQ o t a) ⟨hJ, fun i hi => hA _ ⟨i, hi, rfl⟩⟩ hfst
  have hq : ((wX G o σ ++ wX G t τ) ++ wQa G a α)[40 + r]? = some (a r, .inl (G.2.1, lenQ r, .inl (α r))) := by
    rw [List.getElem?_append_right (by rw [hlen]; omega), hlen, Nat.add_sub_cancel_left]
    exact wQa_at hr
  refine k_ist S hK hP hd hS (40 + r) hq hi (by match r, hr with | 0, _ => decide | 1, _ => decide | 2, _ => decide | 3, _ => decide | 4, _ => decide | k + 5, h => omega) hdg (fun H1 L1 h1 hS1 => kk H1 L1 ?_ hS1)
  rw [List.set_append_right _ _ (by rw [hlen]; omega), hlen, Nat.add_sub_cancel_left, wQa_set hr] at h1
  exact ⟨vP_le (vP_le h1), vP_ri (vP_le h1), vP_ri h1⟩
theorem k_eql {x y : Int64} (h : x = y) (kk : W p l e R s m args below meth c H locs cells slots Q (F0 m pc ls (.long y :: rest))) : W p l e R s m args below meth c H locs cells slots Q (F0 m pc ls (.long x :: rest)) := by rw [h]; exact kk
/-- returns a long, old cells kept but for A's -/
def oWl (A : Nat → Prop) (P : Int64 → Prop) : Array Value → State → Outcome → State → Prop := fun _ st o t => (∃ r : Int64, o = .returned (some (.long r)) ∧ P r) ∧ va_F A st t
theorem q_wl {P : Int64 → Prop} {A1 : Nat → Prop} {st0 : List Value} {v9 : Array Value} (hr : va_Run p l e R s m args below meth c H locs cells slots mc ms (F0 m pc ls st0) rest (oWl A1 P v9) A1) (hS : va_S A H0 H locs) (hA : ∀ q, A1 q → A q)
    (kk : ∀ (r : Int64) (H1 : Heap) (locs1 : List Loc), P r → (∀ q : Nat, q < H.size → ¬ A1 q → H1[q]? = H[q]?) → va_S A H0 H1 locs1 → W p l e R s m args below meth c H1 locs1 (cells + mc) (slots + ms) Q (F0 m (pc + 3) ls (.long r :: rest))) : W p l e R s m args below meth c H locs cells slots Q (F0 m pc ls st0) := by
  intro T hT X
  obtain ⟨v, st₀, t, T', L, h0, X', hL, e1, -, ⟨⟨r, hv, hp⟩, hF⟩, st⟩ := hr T hT X
  cases hv
  obtain ⟨k1, k2, k3⟩ := s_call h0 e1 hS hA hL hF
  obtain ⟨t2, a1, b1⟩ := kk r T'.heap (locs ++ L) hp k2 k3 T' rfl X'
  exact ⟨t2, st t2 a1, b1⟩
end KQ
