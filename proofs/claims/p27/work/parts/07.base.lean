/-! THE GROUND: the good words of the tables, what holds of a state's tables, pictures of the class and of the model, rows -/
def big : List Cond := lw_tbl.filter goodWord
theorem big_i {w : Cond} (i : Nat) (h : lw_tbl[i]? = some w) (hg : goodWord w = true) : w ∈ big := List.mem_filter.mpr ⟨List.mem_of_getElem? h, hg⟩
theorem big_good {w : Cond} (h : w ∈ big) : w ∈ big ∧ ((w.onTables && w.keeps) = true ∨ ∃ ty, w = .arrayClass ty) := ⟨h, good_of_word (List.mem_filter.mp h).2⟩
/-- the tables are the law's start's, but for what has been resolved since -/
def GL (U : State) : Prop := ∃ (s0 : State) (a0 : Array Value), (∀ w ∈ lw_tbl, w.before a0 s0 = true) ∧ (Jvm.Cond.and given_1 narrow_1).before a0 s0 = true ∧ s0.WarmedH U.vm
theorem GL.warm {s U : State} (h : GL s) (hW : s.WarmedH U.vm) : GL U := by
  obtain ⟨s0, a0, h1, h2, h3⟩ := h
  exact ⟨s0, a0, h1, h2, State.WarmedH.trans h3 hW⟩
theorem GL.words {U : State} {a : Array Value} (h : GL U) : ∀ w ∈ big, w.before a U = true := by
  obtain ⟨s0, a0, h1, h2, h3⟩ := h
  intro w hw
  obtain ⟨hm, hg⟩ := List.mem_filter.mp hw
  exact word_at h3 (good_of_word hg) (h1 w hm)
theorem GL.face {U : State} {a : Array Value} {w : Cond} (h : GL U) (hm : w ∈ lw_tbl) (hk : (w.onTables && w.keepsFace) = true) : w.before a U = true := by
  obtain ⟨s0, a0, h1, h2, h3⟩ := h
  simp only [Bool.and_eq_true] at hk
  have h4 := Cond.before_shiftedFace (State.Shifted.of_warmed h3) w hk.2 (h1 w hm)
  exact va_tabs hk.1 (u := s0.setVm U.vm) rfl h4
theorem GL.nestM {U : State} {a : String} {i : Nat} {x : MethodName} {h : String} (hG : GL U) (hm : Cond.methodLinkNest a i x h ∈ lw_tbl) : va_Nw (.methodLinkNest a i x h) U := by
  obtain ⟨s0, a0, h1, h2, h3⟩ := hG
  exact va_Nw.warmM h3 (va_Nw.of rfl (h1 _ hm))
theorem GL.nestF {U : State} {a : String} {i : Nat} {b n d h : String} (hG : GL U) (hm : Cond.fieldLinkNest a i b n d h ∈ lw_tbl) : va_Nw (.fieldLinkNest a i b n d h) U := by
  obtain ⟨s0, a0, h1, h2, h3⟩ := hG
  exact va_Nw.warmF h3 (va_Nw.of rfl (h1 _ hm))
theorem GL.str {U : State} {own tx : String} {k : Nat} {c : ClassId} (hG : GL U) (hown : U.vm.findClass own = some c) (hm : Cond.stringRef own k tx ∈ lw_tbl) : ∃ sa, vk_R own k tx sa U := by
  obtain ⟨s0, a0, h1, h2, h3⟩ := hG
  have hs := h1 _ hm
  have hown0 : s0.vm.findClass own = some c := by rw [← h3.alike.findClass]; exact hown
  obtain ⟨k', cf, i, sa, -, -, -, -, -, hev⟩ := Cond.stringRef_spec hown0 hs
  exact ⟨sa, (vk_R.of (A := a0) hs hev).warm h3⟩
theorem GL.nc {U : State} {C T : String} (hG : GL U) (hm : Cond.not (.castable C T) ∈ flatC (Jvm.Cond.and given_1 narrow_1)) : va_Nc C T U := by
  obtain ⟨s0, a0, h1, h2, h3⟩ := hG
  exact (va_Nc.of (flat_of_before _ h2 _ hm)).moved h3.alike
abbrev vwCl : List vw_C := [(RX0, TX0, 7), (RX1, TX1, 6), (RX2, TX2, 4), (RX3, TX3, 6)]
abbrev kG : Type := va_G × ClassId × ClassId × ClassId
def kTys (G : kG) : List (ClassId × FieldType) := [(G.2.1, .int), (G.2.2.1, .boolean)]
def KK (G : kG) (U : State) : Prop := va_K G.1 vwCl (kTys G) U ∧ GL U
theorem KK.warm {G : kG} {s U : State} (h : KK G s) (hW : s.WarmedH U.vm) : KK G U := ⟨h.1.moved hW.alike, h.2.warm hW⟩
/-- the class's cells: at a 0 the object, at a 1, a 2 prices and bounds, at a 3, a 4, a 5 the three row objects, then their arrays -/
def wX (G : kG) (a : Nat → Nat) (S : Nat → Nat → Int32) : va_W :=
  [(a 0, .inr (3, [.ref (a 1), .ref (a 2), .ref (a 3), .ref (a 4), .ref (a 5), .int (S 16 0)])),
   (a 1, .inl (G.2.1, 5, .inl (S 0))), (a 2, .inl (G.2.1, 6, .inl (S 1))),
   (a 3, .inr (1, [.ref (a 6), .ref (a 7), .ref (a 8), .ref (a 9), .ref (a 10), .int (S 17 0)])),
   (a 4, .inr (2, [.ref (a 11), .ref (a 12), .ref (a 13), .int (S 18 0)])),
   (a 5, .inr (0, [.ref (a 14), .ref (a 15), .ref (a 16), .ref (a 17), .ref (a 18), .ref (a 19), .int (S 19 0)])),
   (a 6, .inl (G.2.1, 200, .inl (S 2))), (a 7, .inl (G.2.1, 200, .inl (S 3))), (a 8, .inl (G.2.1, 200, .inl (S 4))), (a 9, .inl (G.2.1, 200, .inl (S 5))), (a 10, .inl (G.2.1, 200, .inl (S 6))),
   (a 11, .inl (G.2.1, 40, .inl (S 7))), (a 12, .inl (G.2.1, 40, .inl (S 8))), (a 13, .inl (G.2.2.1, 40, .inl (S 9))),
   (a 14, .inl (G.2.1, 200, .inl (S 10))), (a 15, .inl (G.2.1, 200, .inl (S 11))), (a 16, .inl (G.2.1, 200, .inl (S 12))), (a 17, .inl (G.2.1, 200, .inl (S 13))), (a 18, .inl (G.2.1, 200, .inl (S 14))), (a 19, .inl (G.2.1, 200, .inl (S 15)))]
/-- place i of row k holds x now -/
def su (S : Nat → Nat → Int32) (k i : Nat) (x : Int32) : Nat → Nat → Int32 := fun k' => bif k'.beq k then upd (S k) i x else S k'
def PX (G : kG) (a : Nat → Nat) (S : Nat → Nat → Int32) (U : State) (H : Heap) : Prop := va_P G.1 vwCl (wX G a S) H ∧ KK G U
/-- n addresses, apart, all of a kind -/
def DD (n : Nat) (A : Nat → Prop) (a : Nat → Nat) : Prop := (∀ i j, i < n → j < n → a i = a j → i = j) ∧ ∀ i, i < n → A (a i)
theorem DD.w {n : Nat} {A : Nat → Prop} {a : Nat → Nat} {ws : va_W} (h : DD n A a) (hw : ws.map (fun q => q.1) = (List.range n).map a) : va_D A ws := by
  have key : ∀ (k : Nat) (q : Nat × va_E), ws[k]? = some q → k < n ∧ q.1 = a k := by
    intro k q hk
    have h1 : (ws.map (fun q => q.1))[k]? = some q.1 := by rw [List.getElem?_map, hk]; rfl
    rw [hw, List.getElem?_map] at h1
    by_cases hn : k < n
    · rw [List.getElem?_range hn] at h1
      exact ⟨hn, (Option.some.inj h1).symm⟩
    · rw [List.getElem?_eq_none (by simp; omega)] at h1
      cases h1
  refine ⟨fun i j x y hi hj hxy => ?_, fun k q hk => ?_⟩
  · obtain ⟨h1, h2⟩ := key i x hi
    obtain ⟨h3, h4⟩ := key j y hj
    exact h.1 i j h1 h3 (by rw [← h2, ← h4]; exact hxy)
  · obtain ⟨h1, h2⟩ := key k q hk
    rw [h2]; exact h.2 k h1
theorem wX_fst (G : kG) (a : Nat → Nat) (S : Nat → Nat → Int32) : (wX G a S).map (fun q => q.1) = (List.range 20).map a := rfl
theorem PX.warm {G : kG} {a : Nat → Nat} {S : Nat → Nat → Int32} {s U : State} {H : Heap} (h : PX G a S s H) (hW : s.WarmedH U.vm) : PX G a S U H := ⟨h.1, h.2.warm hW⟩
/-- what a throw reads of the class Throwable -/
def ZS (U : State) (H : Heap) : Prop := vx_Zq Bundle.tN "UNASSIGNED_STACK" Bundle.steD (fun _ => False) U H ∧ vx_Zq Bundle.tN "SUPPRESSED_SENTINEL" Bundle.listD (fun _ => False) U H
theorem ZS.warm {s U : State} {H : Heap} (h : ZS s H) (hW : s.WarmedH U.vm) : ZS U H := ⟨vx_Zq.moved hW.alike h.1, vx_Zq.moved hW.alike h.2⟩
/-- a start's words that only the heap and the tables decide -/
def kBl (B : State → Prop) : Prop := ∀ U U' : State, U'.heap = U.heap → U'.vm = U.vm → B U → B U'
theorem kBl.blind {av : List Value} {B : State → Prop} (h : kBl B) : FrameBlind (va_Pc av B) := fun _ U _ _ q => ⟨q.1, h U _ rfl rfl q.2⟩
theorem warm_vm {U U' : State} (h : U'.vm = U.vm) : U.WarmedH U'.vm := by rw [h]; exact State.WarmedH.refl U
theorem bl_PX {G : kG} {a : Nat → Nat} {S : Nat → Nat → Int32} : kBl (fun U => PX G a S U U.heap) := fun U U' h1 h2 h => by
  show PX G a S U' U'.heap
  rw [h1]; exact PX.warm h (warm_vm h2)
theorem bl_PXZ {G : kG} {a : Nat → Nat} {S : Nat → Nat → Int32} : kBl (fun U => PX G a S U U.heap ∧ ZS U U.heap) := fun U U' h1 h2 h => by
  show PX G a S U' U'.heap ∧ ZS U' U'.heap
  rw [h1]; exact ⟨PX.warm h.1 (warm_vm h2), ZS.warm h.2 (warm_vm h2)⟩
theorem bl_GL : kBl GL := fun U U' _ h2 h => h.warm (warm_vm h2)
theorem bl_GZ : kBl (fun U => GL U ∧ ZS U U.heap) := fun U U' h1 h2 h => by
  show GL U' ∧ ZS U' U'.heap
  rw [h1]; exact ⟨GL.warm h.1 (warm_vm h2), ZS.warm h.2 (warm_vm h2)⟩
theorem inb {C : String} {T : u_T} {N : Nat} (h1 : ∀ w ∈ u_ws C T N, w ∈ lw_tbl) (h2 : ∀ w ∈ u_ws C T N, goodWord w = true) : ∀ w ∈ u_ws C T N, w ∈ big := fun w h => List.mem_filter.mpr ⟨h1 w h, h2 w h⟩
theorem inX0 : ∀ w ∈ u_ws RX0 TX0 7, w ∈ big := inb (by decide +kernel) (by decide +kernel)
theorem inX1 : ∀ w ∈ u_ws RX1 TX1 6, w ∈ big := inb (by decide +kernel) (by decide +kernel)
theorem inX2 : ∀ w ∈ u_ws RX2 TX2 4, w ∈ big := inb (by decide +kernel) (by decide +kernel)
theorem inX3 : ∀ w ∈ u_ws RX3 TX3 6, w ∈ big := inb (by decide +kernel) (by decide +kernel)
/-- a truth as Java's int -/
def bI (b : Bool) : Int32 := if b then 1 else 0
theorem bI_t : bI true = 1 := rfl
theorem bI_f : bI false = 0 := rfl
theorem bI_0 {b : Bool} (h : bI b = 0) : b = false := by cases b; rfl; exact absurd h (by decide)
theorem bI_n {b : Bool} (h : ¬ bI b = 0) : b = true := by cases b; exact absurd rfl h; rfl
theorem bI_nar (b : Bool) : narrow .boolean (.int (bI b)) = .int (bI b) := by cases b <;> rfl
theorem dt {c : Prop} [Decidable c] (h : c) : decide c = true := decide_eq_true h
theorem df {c : Prop} [Decidable c] (h : ¬ c) : decide c = false := decide_eq_false h
section KR
variable {p : Program} {l : Launch} {e : Env} {R : Room} {s : State} {m : MethodId} {args : Array Value} {below : List Frame} {meth : Method} {c : Code} {H H0 : Heap} {locs : List Loc} {cells slots : Nat} {Q : State → Prop}
variable {cc : ByteArray} {pc nL : Nat} {ls : Array Slot} {rest : List Value} {G : kG} {A : Nat → Prop} {ad : Nat} {ws : va_W} {own : String}
theorem k_get (S : CallFix p m c cc nL s args big own) (hK : KK G s) (hP : va_P G.1 vwCl ws H) (q0 : Nat) {ci : Nat} {fs : List Value} (he : ws[q0]? = some (ad, .inr (ci, fs))) {C : String} {T : u_T} {N index : Nat} (hc : vwCl[ci]? = some (C, T, N)) (k : Nat) (hk : k < N) (hin : ∀ w ∈ u_ws C T N, w ∈ big)
    (hl : Cond.fieldLink own index (T k).1 (T k).2.1 (T k).2.2.1 ∈ big) {v : Value} (hv : fs[k]? = some v) (hdg : decode cc pc = .ok (.getfield index, 3))
    (kk : W p l e R s m args below meth c H locs cells slots Q (F0 m (pc + 3) ls (v :: rest))) : W p l e R s m args below meth c H locs cells slots Q (F0 m pc ls (.ref ad :: rest)) :=
  va_get (D := G.1) (ci := ci) (C := C) (T := T) (N := N) S.1 S.2.1 S.2.2.2.2 hin S.2.2.2.1 hK.1 hP q0 he hc k hk (S.2.2.2.2 _ hl) (fun _ h => h) hv hdg kk
theorem k_getN (S : CallFix p m c cc nL s args big own) (hK : KK G s) (hP : va_P G.1 vwCl ws H) (q0 : Nat) {ci : Nat} {fs : List Value} (he : ws[q0]? = some (ad, .inr (ci, fs))) {C host : String} {T : u_T} {N index : Nat} (hc : vwCl[ci]? = some (C, T, N)) (k : Nat) (hk : k < N) (hin : ∀ w ∈ u_ws C T N, w ∈ big)
    (hl : Cond.fieldLinkNest own index (T k).1 (T k).2.1 (T k).2.2.1 host ∈ lw_tbl) {v : Value} (hv : fs[k]? = some v) (hdg : decode cc pc = .ok (.getfield index, 3))
    (kk : W p l e R s m args below meth c H locs cells slots Q (F0 m (pc + 3) ls (v :: rest))) : W p l e R s m args below meth c H locs cells slots Q (F0 m pc ls (.ref ad :: rest)) :=
  va_getN (D := G.1) (ci := ci) (C := C) (T := T) (N := N) S.1 S.2.1 S.2.2.2.2 hin S.2.2.2.1 hK.1 hP q0 he hc k hk (va_Nw.use rfl (hK.2.nestF hl)) (fun _ h => h) hv hdg kk
theorem k_put (S : CallFix p m c cc nL s args big own) (hK : KK G s) (hP : va_P G.1 vwCl ws H) (hD : va_D A ws) (hS : va_S A H0 H locs) (q0 : Nat) {ci : Nat} {fs : List Value} (he : ws[q0]? = some (ad, .inr (ci, fs))) {C : String} {T : u_T} {N index : Nat} (hc : vwCl[ci]? = some (C, T, N)) (k : Nat) (hk : k < N) (hin : ∀ w ∈ u_ws C T N, w ∈ big)
    (ty0 : Nat → FieldType) (hty : ∀ k, k < N → parseFieldDescriptor (T k).2.2.1 = some (ty0 k)) (hnm : ∀ a, a < N → ∀ b, b < N → a ≠ b → (T a).2.1 ≠ (T b).2.1) (hfin : (T k).2.2.2 = false) (hit : ty0 k = .int)
    (hl : Cond.fieldLink own index (T k).1 (T k).2.1 (T k).2.2.1 ∈ big) {v : Int32} (hlen : k < fs.length) (hdg : decode cc pc = .ok (.putfield index, 3))
    (kk : ∀ (H1 : Heap) (locs1 : List Loc), va_P G.1 vwCl (ws.set q0 (ad, .inr (ci, fs.set k (.int v)))) H1 → va_S A H0 H1 locs1 → W p l e R s m args below meth c H1 locs1 cells slots Q (F0 m (pc + 3) ls rest)) : W p l e R s m args below meth c H locs cells slots Q (F0 m pc ls (.int v :: .ref ad :: rest)) :=
  va_put (D := G.1) (ci := ci) (C := C) (T := T) (N := N) (ty := .int) S.1 S.2.1 S.2.2.2.2 hin ty0 hty hnm S.2.2.2.1 hK.1 hP hD hS q0 he hc k hk (S.2.2.2.2 _ hl) (fun _ h => h) hfin (by rw [hty k hk, hit]) rfl rfl hlen hdg (fun H1 locs1 h1 _ h3 => kk H1 locs1 h1 h3)
theorem k_ild (S : CallFix p m c cc nL s args big own) (hK : KK G s) (hP : va_P G.1 vwCl ws H) (q0 : Nat) {n : Nat} {f : Nat → Int32} (he : ws[q0]? = some (ad, .inl (G.2.1, n, .inl f))) {i : Nat} (hi : i < n) (hn : n < 2 ^ 31) (hdg : decode cc pc = .ok (.iaload, 1))
    (kk : W p l e R s m args below meth c H locs cells slots Q (F0 m (pc + 1) ls (.int (f i) :: rest))) : W p l e R s m args below meth c H locs cells slots Q (F0 m pc ls (.int (nI i) :: .ref ad :: rest)) := by
  refine va_iald (D := G.1) S.1 S.2.1 hK.1 hP q0 0 he rfl (vp_in_nI hi hn) hdg ?_
  rw [nI_clamp (Nat.lt_trans hi hn)]
  exact kk
theorem k_zld (S : CallFix p m c cc nL s args big own) (hK : KK G s) (hP : va_P G.1 vwCl ws H) (q0 : Nat) {n : Nat} {f : Nat → Int32} (he : ws[q0]? = some (ad, .inl (G.2.2.1, n, .inl f))) {i : Nat} (hi : i < n) (hn : n < 2 ^ 31) (hdg : decode cc pc = .ok (.baload, 1))
    (kk : W p l e R s m args below meth c H locs cells slots Q (F0 m (pc + 1) ls (.int (f i) :: rest))) : W p l e R s m args below meth c H locs cells slots Q (F0 m pc ls (.int (nI i) :: .ref ad :: rest)) := by
  refine va_zald (D := G.1) S.1 S.2.1 hK.1 hP q0 1 he rfl (vp_in_nI hi hn) hdg ?_
  rw [nI_clamp (Nat.lt_trans hi hn)]
  exact kk
theorem k_ist (S : CallFix p m c cc nL s args big own) (hK : KK G s) (hP : va_P G.1 vwCl ws H) (hD : va_D A ws) (hS : va_S A H0 H locs) (q0 : Nat) {n : Nat} {f : Nat → Int32} (he : ws[q0]? = some (ad, .inl (G.2.1, n, .inl f))) {i : Nat} {x : Int32} (hi : i < n) (hn : n < 2 ^ 31) (hdg : decode cc pc = .ok (.iastore, 1))
    (kk : ∀ (H1 : Heap) (locs1 : List Loc), va_P G.1 vwCl (ws.set q0 (ad, .inl (G.2.1, n, .inl (upd f i x)))) H1 → va_S A H0 H1 locs1 → W p l e R s m args below meth c H1 locs1 cells slots Q (F0 m (pc + 1) ls rest)) : W p l e R s m args below meth c H locs cells slots Q (F0 m pc ls (.int x :: .int (nI i) :: .ref ad :: rest)) := by
  refine va_iast (D := G.1) S.1 S.2.1 hK.1 hP hD hS q0 0 he rfl (vp_in_nI hi hn) hdg (fun H1 locs1 h1 _ h3 => ?_)
  rw [nI_clamp (Nat.lt_trans hi hn)] at h1
  exact kk H1 locs1 h1 h3
theorem k_zst (S : CallFix p m c cc nL s args big own) (hK : KK G s) (hP : va_P G.1 vwCl ws H) (hD : va_D A ws) (hS : va_S A H0 H locs) (q0 : Nat) {n : Nat} {f : Nat → Int32} (he : ws[q0]? = some (ad, .inl (G.2.2.1, n, .inl f))) {i : Nat} {x : Int32} (hi : i < n) (hn : n < 2 ^ 31) (hx : vp_nar .boolean x = x) (hdg : decode cc pc = .ok (.bastore, 1))
    (kk : ∀ (H1 : Heap) (locs1 : List Loc), va_P G.1 vwCl (ws.set q0 (ad, .inl (G.2.2.1, n, .inl (upd f i x)))) H1 → va_S A H0 H1 locs1 → W p l e R s m args below meth c H1 locs1 cells slots Q (F0 m (pc + 1) ls rest)) : W p l e R s m args below meth c H locs cells slots Q (F0 m pc ls (.int x :: .int (nI i) :: .ref ad :: rest)) := by
  refine va_zast (D := G.1) S.1 S.2.1 hK.1 hP hD hS q0 1 he rfl (vp_in_nI hi hn) hdg (fun H1 locs1 h1 _ h3 => ?_)
  rw [nI_clamp (Nat.lt_trans hi hn), hx] at h1
  exact kk H1 locs1 h1 h3
theorem k_alen (S : CallFix p m c cc nL s args big own) (hK : KK G s) (hP : va_P G.1 vwCl ws H) (q0 : Nat) {n : Nat} {f : Nat → Int32} (he : ws[q0]? = some (ad, .inl (G.2.1, n, .inl f))) (hdg : decode cc pc = .ok (.arraylength, 1))
    (kk : W p l e R s m args below meth c H locs cells slots Q (F0 m (pc + 1) ls (.int (nI n) :: rest))) : W p l e R s m args below meth c H locs cells slots Q (F0 m pc ls (.ref ad :: rest)) :=
  va_alen (D := G.1) S.1 S.2.1 hK.1 hP q0 0 he rfl (v := nI n) rfl hdg kk
/-- the value on top under another name -/
theorem k_eq {x y : Int32} (h : x = y) (kk : W p l e R s m args below meth c H locs cells slots Q (F0 m pc ls (.int y :: rest))) : W p l e R s m args below meth c H locs cells slots Q (F0 m pc ls (.int x :: rest)) := by rw [h]; exact kk
theorem k_eq2 {x y : Int32} {v : Value} (h : x = y) (kk : W p l e R s m args below meth c H locs cells slots Q (F0 m pc ls (v :: .int y :: rest))) : W p l e R s m args below meth c H locs cells slots Q (F0 m pc ls (v :: .int x :: rest)) := by rw [h]; exact kk
theorem k_cat {st : List Value} (h : (st.map fun v => v.category).sum ≤ 8) : 2 * (F0 m pc ls rest).monitorRoom + (st.map fun v => v.category).sum ≤ 8 := lv_room h
end KR
