/-! CONTRACTS' FORMS AND RULES FOR CALLS -/
abbrev NF : Addr → Prop := fun _ => False
/-- returns nothing, the heap as it was -/
def rV (P : Prop) : Array Value → State → Outcome → State → Prop := fun _ st o t => o = .returned none ∧ P ∧ t.heap = st.heap
/-- throws: the heap has grown, no more -/
def tX (E : String → Prop) : String → State → State → Prop := fun x st t => E x ∧ st.heap.size ≤ t.heap.size ∧ ∀ q : Nat, q < st.heap.size → t.heap[q]? = st.heap[q]?
/-- returns an int, with another world -/
def oW (A : Nat → Prop) (P : Int32 → Prop) (B : Heap → Prop) : Array Value → State → Outcome → State → Prop := fun _ st o t => (∃ r : Int32, o = .returned (some (.int r)) ∧ P r) ∧ B t.heap ∧ va_F A st t
def oV (A : Nat → Prop) (P : Prop) (B : Heap → Prop) : Array Value → State → Outcome → State → Prop := fun _ st o t => o = .returned none ∧ P ∧ B t.heap ∧ va_F A st t
abbrev names2 : List String := ["java/lang/RuntimeException", "java/lang/Exception"]
def exN (k : Nat) : String := match k with
  | 1 => "java/lang/IndexOutOfBoundsException"
  | 2 => "java/lang/IllegalArgumentException"
  | 3 => "java/lang/IllegalStateException"
  | _ => "java/util/NoSuchElementException"
section KC
variable {p : Program} {l : Launch} {e : Env} {R : Room} {s : State} {m : MethodId} {args : Array Value} {below : List Frame} {meth : Method} {c : Code} {H : Heap} {locs : List Loc} {cells slots : Nat} {Q : State → Prop}
variable {y : MethodName} {bytes cc : ByteArray} {maxL nL mc ms n index pc : Nat} {ret : Option FieldType} {rm : Room} {Pc : Array Value → State → Prop} {Qc : Array Value → State → Outcome → State → Prop} {XC : String → State → State → Prop} {free : Addr → Prop} {own C host : String} {b : Addr} {As rest st0 : List Value} {ls : Array Slot} {a : Array Value} {A A1 : Nat → Prop}
/-- the words of a call, by kind -/
abbrev wdV (own : String) (index : Nat) (C : String) (y : MethodName) (cw : Cond) : Prop := Cond.methodLink own index y ∈ big ∧ Cond.instanceMethod y ∈ big ∧ Cond.selects C y y ∈ big ∧ Cond.initialized C ∈ big ∧ cw ∈ big
abbrev wdS (own : String) (index : Nat) (y : MethodName) (cw : Cond) : Prop := Cond.methodLink own index y ∈ big ∧ Cond.static y ∈ big ∧ Cond.initialized y.cls ∈ big ∧ cw ∈ big
abbrev wdVN (own : String) (index : Nat) (C : String) (y : MethodName) (host : String) (cw : Cond) : Prop := Cond.methodLinkNest own index y host ∈ lw_tbl ∧ Cond.instanceMethod y ∈ big ∧ Cond.selects C y y ∈ big ∧ Cond.initialized C ∈ big ∧ cw ∈ big
abbrev ydV (C : String) (y : MethodName) (n : Nat) : Prop := y.cls = C ∧ y.cls ≠ "java/lang/invoke/MethodHandle" ∧ y.cls ≠ "java/lang/invoke/VarHandle" ∧ (parseMethodDescriptor y.desc).map (fun d => d.parameters.length) = some n
abbrev rmD (rm R : Room) (maxL mc ms : Nat) : Prop := rm.cells = mc ∧ rm.slots = ms ∧ rm.frames + 1 ≤ R.frames ∧ 8 + (maxL + 11) + rm.locals ≤ R.locals
theorem gd_V {cw : Cond} (h : wdV own index C y cw) : GoodIn big (wsV own index C y [cw]) := by
  intro w hw
  simp only [wsV, List.cons_append, List.nil_append, List.mem_cons, List.not_mem_nil, or_false] at hw
  rcases hw with rfl | rfl | rfl | rfl | rfl
  · exact big_good h.1
  · exact big_good h.2.1
  · exact big_good h.2.2.1
  · exact big_good h.2.2.2.1
  · exact big_good h.2.2.2.2
theorem gd_1 {cw : Cond} (h : cw ∈ big) : GoodIn big [cw] := by
  intro w hw
  rw [List.mem_singleton.mp hw]
  exact big_good h
theorem gd_S {cw : Cond} (h : wdS own index y cw) : GoodIn big (va_wsS own index y [cw]) := by
  intro w hw
  simp only [va_wsS, List.cons_append, List.nil_append, List.mem_cons, List.not_mem_nil, or_false] at hw
  rcases hw with rfl | rfl | rfl | rfl
  · exact big_good h.1
  · exact big_good h.2.1
  · exact big_good h.2.2.1
  · exact big_good h.2.2.2
theorem cb_S (S : CallFix p m c cc nL s args big own) (hw : wdS own index y (.code y bytes maxL ret)) (hd : ydV y.cls y n) (hR : rmD rm R maxL mc ms) : CallB R s args own index y bytes maxL ret [.code y bytes maxL ret] rm mc ms n ∧ (Cond.static y).before args s = true :=
  ⟨callB_of n S.2.2.2.2 (gd_1 hw.2.2.2) rfl hR.1 hR.2.1 (S.2.2.2.2 _ hw.2.2.1) (S.2.2.2.2 _ hw.1) hd.2 hR.2.2, S.2.2.2.2 _ hw.2.1⟩
theorem r_V (S : CallFix p m c cc nL s args big own) (hw : wdV own index C y (.code y bytes maxL ret)) (hd : ydV C y n) (hM : Met l y [.code y bytes maxL ret] rm Pc Qc mc ms free) (hR : rmD rm R maxL mc ms) (hp : PreV s H C b Pc As)
    (hn : As.length = n) (hsize : ls.size = nL) (hstack : st0 = As.reverse ++ .ref b :: rest) (hW : (rest.map fun v => v.category).sum ≤ 8) (hf : cells + mc ≤ R.cells ∧ slots + ms ≤ R.slots) (hdg : decode cc pc = .ok (.invokevirtual index, 3)) :
    va_Run p l e R s m args below meth c H locs cells slots mc ms (F0 m pc ls st0) rest (Qc (Value.ref b :: As).toArray) free :=
  va_runV S hM (cwV n S.2.2.2.2 (gd_V hw) rfl hR.1 hR.2.1 hd hR.2.2) hp rfl hn hsize hstack (lv_room hW) hdg hf
theorem r_VN (S : CallFix p m c cc nL s args big own) (hG : GL s) (hw : wdVN own index C y host (.code y bytes maxL ret)) (hd : ydV C y n) (hM : Met l y [.code y bytes maxL ret] rm Pc Qc mc ms free) (hR : rmD rm R maxL mc ms) (hp : PreV s H C b Pc As)
    (hn : As.length = n) (hsize : ls.size = nL) (hstack : st0 = As.reverse ++ .ref b :: rest) (hW : (rest.map fun v => v.category).sum ≤ 8) (hf : cells + mc ≤ R.cells ∧ slots + ms ≤ R.slots) (hdg : decode cc pc = .ok (.invokevirtual index, 3)) :
    va_Run p l e R s m args below meth c H locs cells slots mc ms (F0 m pc ls st0) rest (Qc (Value.ref b :: As).toArray) free :=
  va_runVN S hM ⟨va_cnB n S.2.2.2.2 (gd_1 hw.2.2.2.2) rfl hR.1 hR.2.1 (hG.nestM hw.1) (by rw [hd.1]; exact S.2.2.2.2 _ hw.2.2.2.1) hd.2 hR.2.2, S.2.2.2.2 _ hw.2.1, S.2.2.2.2 _ hw.2.2.1⟩ hp rfl hn hsize hstack (lv_room hW) hdg hf
theorem r_S (S : CallFix p m c cc nL s args big own) (hw : wdS own index y (.code y bytes maxL ret)) (hd : ydV y.cls y n) (hM : Met l y [.code y bytes maxL ret] rm Pc Qc mc ms free) (hR : rmD rm R maxL mc ms) (hp : PreS s H Pc As)
    (hn : As.length = n) (hsize : ls.size = nL) (hstack : st0 = As.reverse ++ rest) (hW : (rest.map fun v => v.category).sum ≤ 8) (hf : cells + mc ≤ R.cells ∧ slots + ms ≤ R.slots) (hdg : decode cc pc = .ok (.invokestatic index, 3)) :
    va_Run p l e R s m args below meth c H locs cells slots mc ms (F0 m pc ls st0) rest (Qc As.toArray) free :=
  va_runS S hM (cb_S S hw hd hR) hp rfl hn hsize hstack (lv_room hW) hdg hf
theorem rx_V (S : CallFix p m c cc nL s args big own) (hw : wdV own index C y (.code y bytes maxL ret)) (hd : ydV C y n) (hM : vx_Met l y [.code y bytes maxL ret] rm Pc Qc XC mc ms free) (hR : rmD rm R maxL mc ms) (hp : PreV s H C b Pc As)
    (hn : As.length = n) (hsize : ls.size = nL) (hstack : st0 = As.reverse ++ .ref b :: rest) (hW : (rest.map fun v => v.category).sum ≤ 8) (hf : cells + mc ≤ R.cells ∧ slots + ms ≤ R.slots) (hdg : decode cc pc = .ok (.invokevirtual index, 3)) :
    vx_Run p l e R s m args below meth c H locs cells slots mc ms (F0 m pc ls st0) rest (Qc (Value.ref b :: As).toArray) XC free :=
  vx_runV S hM (cwV n S.2.2.2.2 (gd_V hw) rfl hR.1 hR.2.1 hd hR.2.2) hp rfl hn hsize hstack (lv_room hW) hdg hf
theorem rx_S (S : CallFix p m c cc nL s args big own) (hw : wdS own index y (.code y bytes maxL ret)) (hd : ydV y.cls y n) (hM : vx_Met l y [.code y bytes maxL ret] rm Pc Qc XC mc ms free) (hR : rmD rm R maxL mc ms) (hp : PreS s H Pc As)
    (hn : As.length = n) (hsize : ls.size = nL) (hstack : st0 = As.reverse ++ rest) (hW : (rest.map fun v => v.category).sum ≤ 8) (hf : cells + mc ≤ R.cells ∧ slots + ms ≤ R.slots) (hdg : decode cc pc = .ok (.invokestatic index, 3)) :
    vx_Run p l e R s m args below meth c H locs cells slots mc ms (F0 m pc ls st0) rest (Qc As.toArray) XC free :=
  vx_runS S hM (cb_S S hw hd hR) hp rfl hn hsize hstack (lv_room hW) hdg hf
theorem rx_SX {hh : List (Nat × Nat × Nat × Nat)} (S : CallFix p m c cc nL s args big own) (hw : wdS own index y (.codeWith y bytes maxL ret hh)) (hd : ydV y.cls y n) (hM : vx_Met l y [.codeWith y bytes maxL ret hh] rm Pc Qc XC mc ms free) (hR : rmD rm R maxL mc ms) (hp : PreS s H Pc As)
    (hn : As.length = n) (hsize : ls.size = nL) (hstack : st0 = As.reverse ++ rest) (hW : (rest.map fun v => v.category).sum ≤ 8) (hf : cells + mc ≤ R.cells ∧ slots + ms ≤ R.slots) (hdg : decode cc pc = .ok (.invokestatic index, 3)) :
    vx_Run p l e R s m args below meth c H locs cells slots mc ms (F0 m pc ls st0) rest (Qc As.toArray) XC free :=
  vx_runSX S hM (vx_cwSW n S.2.2.2.2 (gd_S hw) rfl hR.1 hR.2.1 hd.2 hR.2.2) hp rfl hn hsize hstack (lv_room hW) hdg hf
-- what comes behind a call
theorem q_i {P : Int32 → Prop} (hr : va_Run p l e R s m args below meth c H locs cells slots 0 0 (F0 m pc ls st0) rest (vp_Si P a) NF)
    (kk : ∀ r : Int32, P r → W p l e R s m args below meth c H locs cells slots Q (F0 m (pc + 3) ls (.int r :: rest))) : W p l e R s m args below meth c H locs cells slots Q (F0 m pc ls st0) := by
  intro T hT X
  obtain ⟨v, st₀, t, T', L, h0, X', hL, e1, -, ⟨r, hv, hp, hh⟩, st⟩ := hr T hT X
  cases hv
  obtain ⟨t2, a1, b1⟩ := kk r hp T' (by rw [e1, hh, h0]) (Stand.forget X' (fun q h => (hL q h).elim))
  exact ⟨t2, st t2 a1, b1⟩
theorem q_l {P : Int64 → Prop} (hr : va_Run p l e R s m args below meth c H locs cells slots 0 0 (F0 m pc ls st0) rest (vp_Sl P a) NF)
    (kk : ∀ r : Int64, P r → W p l e R s m args below meth c H locs cells slots Q (F0 m (pc + 3) ls (.long r :: rest))) : W p l e R s m args below meth c H locs cells slots Q (F0 m pc ls st0) := by
  intro T hT X
  obtain ⟨v, st₀, t, T', L, h0, X', hL, e1, -, ⟨r, hv, hp, hh⟩, st⟩ := hr T hT X
  cases hv
  obtain ⟨t2, a1, b1⟩ := kk r hp T' (by rw [e1, hh, h0]) (Stand.forget X' (fun q h => (hL q h).elim))
  exact ⟨t2, st t2 a1, b1⟩
theorem s_call {st₀ t T' : State} {L : List Loc} {H0 : Heap} (h0 : st₀.heap = H) (e1 : T'.heap = t.heap) (hS : va_S A H0 H locs) (hA : ∀ q, A1 q → A q) (hL : ∀ q ∈ L, A1 q.base) (hF : va_F A1 st₀ t) :
    H.size ≤ T'.heap.size ∧ (∀ q : Nat, q < H.size → ¬ A1 q → T'.heap[q]? = H[q]?) ∧ va_S A H0 T'.heap (locs ++ L) := by
  obtain ⟨hz, hk⟩ := hF
  rw [h0] at hz hk
  exact ⟨by rw [e1]; exact hz, fun q h1 h2 => by rw [e1]; exact hk q h1 h2,
    ⟨Nat.le_trans hS.1 (by rw [e1]; exact hz), fun q h1 h2 => by rw [e1, hk q (Nat.lt_of_lt_of_le h1 hS.1) (fun z => h2 (hA q z))]; exact hS.2.1 q h1 h2, fun q hq => by
      rcases List.mem_append.mp hq with h | h
      · exact hS.2.2 q h
      · exact hA _ (hL q h)⟩⟩
theorem q_w {P : Int32 → Prop} {B : Heap → Prop} {H0 : Heap} (hr : va_Run p l e R s m args below meth c H locs cells slots mc ms (F0 m pc ls st0) rest (oW A1 P B a) A1) (hS : va_S A H0 H locs) (hA : ∀ q, A1 q → A q)
    (kk : ∀ (r : Int32) (H1 : Heap) (locs1 : List Loc), P r → B H1 → H.size ≤ H1.size → (∀ q : Nat, q < H.size → ¬ A1 q → H1[q]? = H[q]?) → va_S A H0 H1 locs1 → W p l e R s m args below meth c H1 locs1 (cells + mc) (slots + ms) Q (F0 m (pc + 3) ls (.int r :: rest))) : W p l e R s m args below meth c H locs cells slots Q (F0 m pc ls st0) := by
  intro T hT X
  obtain ⟨v, st₀, t, T', L, h0, X', hL, e1, -, ⟨⟨r, hv, hp⟩, hb, hF⟩, st⟩ := hr T hT X
  cases hv
  obtain ⟨k1, k2, k3⟩ := s_call h0 e1 hS hA hL hF
  obtain ⟨t2, a1, b1⟩ := kk r T'.heap (locs ++ L) hp (by rw [e1]; exact hb) k1 k2 k3 T' rfl X'
  exact ⟨t2, st t2 a1, b1⟩
theorem q_wv {P : Prop} {B : Heap → Prop} {H0 : Heap} (hr : va_Run p l e R s m args below meth c H locs cells slots mc ms (F0 m pc ls st0) rest (oV A1 P B a) A1) (hS : va_S A H0 H locs) (hA : ∀ q, A1 q → A q)
    (kk : ∀ (H1 : Heap) (locs1 : List Loc), P → B H1 → H.size ≤ H1.size → (∀ q : Nat, q < H.size → ¬ A1 q → H1[q]? = H[q]?) → va_S A H0 H1 locs1 → W p l e R s m args below meth c H1 locs1 (cells + mc) (slots + ms) Q (F0 m (pc + 3) ls rest)) : W p l e R s m args below meth c H locs cells slots Q (F0 m pc ls st0) := by
  intro T hT X
  obtain ⟨v, st₀, t, T', L, h0, X', hL, e1, -, ⟨hv, hp, hb, hF⟩, st⟩ := hr T hT X
  cases hv
  obtain ⟨k1, k2, k3⟩ := s_call h0 e1 hS hA hL hF
  obtain ⟨t2, a1, b1⟩ := kk T'.heap (locs ++ L) hp (by rw [e1]; exact hb) k1 k2 k3 T' rfl X'
  exact ⟨t2, st t2 a1, b1⟩
/-- a callee that may throw, read only: its exception goes through this method, which has written nothing -/
theorem q_xv {P : Prop} {E1 E2 : String → Prop} {mc2 ms2 : Nat} {free : Addr → Prop} (hr : vx_Run p l e R s m args below meth c s.heap [] cells slots mc ms (F0 m pc ls st0) rest (rV P a) (tX E1) NF)
    (ht : ∀ x ∈ c.exceptionTable.toList, False) (hlocks : meth.locks = false) (hE : ∀ x, E1 x → E2 x) (hc : cells + mc ≤ mc2) (hs : slots + ms ≤ ms2)
    (kk : P → W p l e R s m args below meth c s.heap [] (cells + mc) (slots + ms) (vx_MQ below Qc (tX E2) args s mc2 ms2 free) (F0 m (pc + 3) ls rest)) : W p l e R s m args below meth c s.heap [] cells slots (vx_MQ below Qc (tX E2) args s mc2 ms2 free) (F0 m pc ls st0) := by
  intro T hT X
  rcases hr T hT X with ⟨v, st₀, t, T', L, h0, X', hL, e1, -, ⟨hv, hp, hh⟩, st⟩ | ⟨q, st₀, t, T', L, E, ce, h0, X', hL, e1, e2, ⟨h1, h2, h3⟩, hce, hcv, hcl, st⟩
  · cases hv
    obtain ⟨t2, a1, b1⟩ := kk hp T' (by rw [e1, hh, h0]) (Stand.forget X' (fun q h => (hL q h).elim))
    exact ⟨t2, st t2 a1, b1⟩
  · rw [h0] at h2 h3
    obtain ⟨t2, a1, b1⟩ := vx_out (Qc := Qc) (XC := tX E2) (free := free) (pc := pc) (ls := ls) (rest := rest) (E := E) (ce := ce) (q := q) (H := T'.heap) (locs := []) (fun x hx => (ht x hx).elim) hlocks (by rw [e1]; exact hce) hcv hcl
      (fun t9 ht9 _ => ⟨hE _ h1, by rw [ht9, e1]; exact h2, fun q hq => by rw [ht9, e1]; exact h3 q hq⟩) (fun z h => by cases h) hc hs T' rfl (Stand.forget X' (fun q h => (hL q h).elim))
    exact ⟨t2, st.trans a1, b1⟩
theorem q_xi {P : Int32 → Prop} {E1 E2 : String → Prop} {mc2 ms2 : Nat} {free : Addr → Prop} (hr : vx_Run p l e R s m args below meth c s.heap [] cells slots mc ms (F0 m pc ls st0) rest (vp_Si P a) (tX E1) NF)
    (ht : ∀ x ∈ c.exceptionTable.toList, False) (hlocks : meth.locks = false) (hE : ∀ x, E1 x → E2 x) (hc : cells + mc ≤ mc2) (hs : slots + ms ≤ ms2)
    (kk : ∀ r : Int32, P r → W p l e R s m args below meth c s.heap [] (cells + mc) (slots + ms) (vx_MQ below Qc (tX E2) args s mc2 ms2 free) (F0 m (pc + 3) ls (.int r :: rest))) : W p l e R s m args below meth c s.heap [] cells slots (vx_MQ below Qc (tX E2) args s mc2 ms2 free) (F0 m pc ls st0) := by
  intro T hT X
  rcases hr T hT X with ⟨v, st₀, t, T', L, h0, X', hL, e1, -, ⟨r, hv, hp, hh⟩, st⟩ | ⟨q, st₀, t, T', L, E, ce, h0, X', hL, e1, e2, ⟨h1, h2, h3⟩, hce, hcv, hcl, st⟩
  · cases hv
    obtain ⟨t2, a1, b1⟩ := kk r hp T' (by rw [e1, hh, h0]) (Stand.forget X' (fun q h => (hL q h).elim))
    exact ⟨t2, st t2 a1, b1⟩
  · rw [h0] at h2 h3
    obtain ⟨t2, a1, b1⟩ := vx_out (Qc := Qc) (XC := tX E2) (free := free) (pc := pc) (ls := ls) (rest := rest) (E := E) (ce := ce) (q := q) (H := T'.heap) (locs := []) (fun x hx => (ht x hx).elim) hlocks (by rw [e1]; exact hce) hcv hcl
      (fun t9 ht9 _ => ⟨hE _ h1, by rw [ht9, e1]; exact h2, fun q hq => by rw [ht9, e1]; exact h3 q hq⟩) (fun z h => by cases h) hc hs T' rfl (Stand.forget X' (fun q h => (hL q h).elim))
    exact ⟨t2, st.trans a1, b1⟩
/-- throw new E("text") in the class, which has written nothing -/
theorem k_thr {E2 : String → Prop} {mc2 ms2 ik is ic : Nat} {cls text : String} {free : Addr → Prop} (S : CallFix p m c cc nL s args big RX3) (hG : GL s) (hZ : ZS s s.heap) (hl : l.stackTraces = false)
    (hat : ∀ w ∈ vx_atS RX3 ic cls names2, w ∈ lw_tbl ∧ (w.onTables && w.keepsFace) = true) (hk : Cond.classLink RX3 ik cls ∈ big) (hini : Cond.initialized cls ∈ big) (hfit : Bundle.fit cls = true)
    (hstr : Cond.stringRef RX3 is text ∈ lw_tbl) (hsize : ls.size = nL) (ht : ∀ x ∈ c.exceptionTable.toList, False) (hlocks : meth.locks = false)
    (hR : 6 ≤ R.frames ∧ 90 ≤ R.locals) (hRc : cells + 1 ≤ R.cells ∧ slots + 6 ≤ R.slots) (hc : cells + 1 ≤ mc2 ∧ slots + 6 ≤ ms2) (hW : (rest.map fun v => v.category).sum ≤ 8) (hE : E2 cls)
    (d0 : decode cc pc = .ok (.new ik, 3)) (d3 : decode cc (pc + 3) = .ok (.dup, 1)) (d4 : decode cc (pc + 4) = .ok (.ldc is, 2)) (d6 : decode cc (pc + 6) = .ok (.invokespecial ic, 3)) (d9 : decode cc (pc + 9) = .ok (.athrow, 1)) :
    W p l e R s m args below meth c s.heap [] cells slots (vx_MQ below Qc (tX E2) args s mc2 ms2 free) (F0 m pc ls rest) := by
  obtain ⟨sa, hsa⟩ := hG.str S.2.2.2.1 hstr
  have hlen : names2.length = 2 := rfl
  refine vx_throwS (cls := cls) (names := names2) (A := fun _ => False) S.1 S.2.1 hl S.2.2.2.1 hfit (by decide +kernel) (S.2.2.2.2 _ hk) (S.2.2.2.2 _ hini) hsa (fun w hw => hG.face (hat w hw).1 (hat w hw).2) ?_ hZ.1 hZ.2 va_S.rf (by rw [hsize]; exact S.2.2.1.symm) d0 d3 d4 d6 d9 (fun x hx => (ht x hx).elim) (by rw [hlen]; omega) (by rw [hlen]; omega) hRc.1 hRc.2 hlocks (fun t _ h2 h3 => ⟨hE, h2, h3⟩) (fun z h => by cases h) hc.1 hc.2
  intro w hw
  rcases List.mem_cons.mp hw with rfl | hw
  · rfl
  · rcases List.mem_cons.mp hw with rfl | hw
    · rfl
    · have h1 := (hat w hw).2
      simp only [Bool.and_eq_true] at h1
      unfold vx_ot
      rw [h1.1]; rfl
-- a body's beginning
theorem k_of {av : List Value} {B : State → Prop} (hy : plainName y.cls = true) (hlen : (lg_sl av).length ≤ maxL) (hB : ∀ U, B U → GL U)
    (body : ∀ (p : Program) (e : Env) (s : State) (m : MethodId) (below : List Frame) (meth : Method) (c : Code) (ls : Array Slot), CallFix p m c cc maxL s av.toArray big y.cls → meth.sig.returnType = ret → meth.locks = false → meth.name = y.name → B s → lv_has ls maxL (lv_args 0 av) →
      W p l e rm s m av.toArray below meth c s.heap [] 0 0 (MQ below Qc av.toArray s mc ms free) (F0 m 0 ls [])) : Met l y [.code y cc maxL ret] rm (va_Pc av B) Qc mc ms free := by
  refine Met.ofW (cc := cc) (maxL := maxL) (ret := ret) hy rfl ?_
  intro p e s m args below meth c s₁ BB hml hv
  obtain ⟨rfl, hb⟩ := hv
  rw [lg_entry_eq]
  exact body p e s m below meth c _ ⟨BB.exec, BB.bytes, hml, findClass_of_methodNamed BB.named, (hB s hb).words⟩ BB.returns BB.notSynchronized (name_of_methodNamed BB.named BB.method).1 hb (lv_entry av hlen)
theorem kx_of {av : List Value} {B : State → Prop} (hy : plainName y.cls = true) (hlen : (lg_sl av).length ≤ maxL) (hB : ∀ U, B U → GL U)
    (body : ∀ (p : Program) (e : Env) (s : State) (m : MethodId) (below : List Frame) (meth : Method) (c : Code) (ls : Array Slot), CallFix p m c cc maxL s av.toArray big y.cls → meth.sig.returnType = ret → meth.locks = false → (∀ x ∈ c.exceptionTable.toList, False) → B s → lv_has ls maxL (lv_args 0 av) →
      W p l e rm s m av.toArray below meth c s.heap [] 0 0 (vx_MQ below Qc XC av.toArray s mc ms free) (F0 m 0 ls [])) : vx_Met l y [.code y cc maxL ret] rm (va_Pc av B) Qc XC mc ms free := by
  refine vx_ofW (cc := cc) (maxL := maxL) (ret := ret) hy rfl ?_
  intro p e s m args below meth c s₁ BB hml ht hv
  obtain ⟨rfl, hb⟩ := hv
  rw [lg_entry_eq]
  exact body p e s m below meth c _ ⟨BB.exec, BB.bytes, hml, findClass_of_methodNamed BB.named, (hB s hb).words⟩ BB.returns BB.notSynchronized ht hb (lv_entry av hlen)
theorem kh_of {av : List Value} {B : State → Prop} {hh : List (Nat × Nat × Nat × Nat)} (hy : plainName y.cls = true) (hlen : (lg_sl av).length ≤ maxL) (hB : ∀ U, B U → GL U)
    (body : ∀ (p : Program) (e : Env) (s : State) (m : MethodId) (below : List Frame) (meth : Method) (c : Code) (ls : Array Slot), CallFix p m c cc maxL s av.toArray big y.cls → meth.sig.returnType = ret → meth.locks = false → c.exceptionTable.toList = tableOf hh → B s → lv_has ls maxL (lv_args 0 av) →
      W p l e rm s m av.toArray below meth c s.heap [] 0 0 (vx_MQ below Qc XC av.toArray s mc ms free) (F0 m 0 ls [])) : vx_Met l y [.codeWith y cc maxL ret hh] rm (va_Pc av B) Qc XC mc ms free := by
  refine vx_ofWH (cc := cc) (maxL := maxL) (ret := ret) (hh := hh) hy rfl ?_
  intro p e s m args below meth c s₁ BB hml hv
  obtain ⟨rfl, hb⟩ := hv
  rw [lg_entry_eq]
  exact body p e s m below meth c _ ⟨BB.exec, BB.bytes, hml, findClass_of_methodNamed BB.named, (hB s hb).words⟩ BB.returns BB.notSynchronized (vx_table (x := y) BB (atoms_spec (ws := [.codeWith y cc maxL ret hh]) BB.pre _ List.mem_cons_self)) hb (lv_entry av hlen)
-- receivers
theorem pv_X {G : kG} {ad : Nat → Nat} {σ : Nat → Nat → Int32} {B : State → Prop} (hX : PX G ad σ s H) (i : Nat) {ci : Nat} {q : vw_C} {fs : List Value} (hc : vwCl[ci]? = some q) (he : (wX G ad σ)[i]? = some (b, .inr (ci, fs))) (hbl : kBl B) (hB : ∀ U : State, U.heap = H → s.WarmedH U.vm → B U) : PreV s H q.1 b (va_Pc (.ref b :: As) B) As :=
  ⟨hbl.blind, va_recv hX.2.1 hX.1 hc he, fun U hU hW => ⟨rfl, hB U hU hW⟩⟩
theorem ps {B : State → Prop} (hbl : kBl B) (hB : ∀ U : State, U.heap = H → s.WarmedH U.vm → B U) : PreS s H (va_Pc As B) As := ⟨hbl.blind, fun U hU hW => ⟨rfl, hB U hU hW⟩⟩
theorem bX {G : kG} {ad : Nat → Nat} {σ : Nat → Nat → Int32} (hX : PX G ad σ s H) : ∀ U : State, U.heap = H → s.WarmedH U.vm → PX G ad σ U U.heap := fun U hU hW => by rw [hU]; exact hX.warm hW
theorem bXZ {G : kG} {ad : Nat → Nat} {σ : Nat → Nat → Int32} (hX : PX G ad σ s H) (hZ : ZS s H) : ∀ U : State, U.heap = H → s.WarmedH U.vm → PX G ad σ U U.heap ∧ ZS U U.heap := fun U hU hW => by rw [hU]; exact ⟨hX.warm hW, hZ.warm hW⟩
theorem bG (hG : GL s) : ∀ U : State, U.heap = H → s.WarmedH U.vm → GL U := fun U _ hW => hG.warm hW
theorem bGZ (hG : GL s) (hZ : ZS s H) : ∀ U : State, U.heap = H → s.WarmedH U.vm → GL U ∧ ZS U U.heap := fun U hU hW => by rw [hU]; exact ⟨hG.warm hW, hZ.warm hW⟩
end KC
