section
-- ===== PART A: goes FIRST, ahead of the names: the tables' words, and 'selects' of the private methods out of them =====
/-- a private method of a class that the tables say can be made, by its rows of tables_1 -/
def lw_okq (q : MethodName × Nat) : Prop := (q.1.cls ≠ "java/lang/invoke/MethodHandle" ∧ q.1.cls ≠ "java/lang/invoke/VarHandle") ∧ Cond.instantiable q.1.cls q.2 ∈ tables_1 ∧ Cond.privateMethod q.1 ∈ tables_1 ∧ Cond.instanceMethod q.1 ∈ tables_1
theorem lw_p0 : lw_okq (⟨"CountSheets$SheetRows", "isOpenFor", "(I)Z"⟩, 4) := ⟨⟨by decide +kernel, by decide +kernel⟩, List.mem_of_getElem? (i := 51) (by decide +kernel), List.mem_of_getElem? (i := 137) (by decide +kernel), List.mem_of_getElem? (i := 138) (by decide +kernel)⟩
theorem lw_p1 : lw_okq (⟨"CountSheets$SheetRows", "latestFor", "(I)I"⟩, 4) := ⟨⟨by decide +kernel, by decide +kernel⟩, List.mem_of_getElem? (i := 51) (by decide +kernel), List.mem_of_getElem? (i := 141) (by decide +kernel), List.mem_of_getElem? (i := 142) (by decide +kernel)⟩
theorem lw_p2 : lw_okq (⟨"CountSheets", "urgencyOf", "(I)J"⟩, 6) := ⟨⟨by decide +kernel, by decide +kernel⟩, List.mem_of_getElem? (i := 16) (by decide +kernel), List.mem_of_getElem? (i := 145) (by decide +kernel), List.mem_of_getElem? (i := 146) (by decide +kernel)⟩
theorem lw_p3 : lw_okq (⟨"CountSheets", "worthOf", "(I)I"⟩, 6) := ⟨⟨by decide +kernel, by decide +kernel⟩, List.mem_of_getElem? (i := 16) (by decide +kernel), List.mem_of_getElem? (i := 150) (by decide +kernel), List.mem_of_getElem? (i := 151) (by decide +kernel)⟩
theorem lw_p4 : lw_okq (⟨"CountSheets", "bookOf", "(III)I"⟩, 6) := ⟨⟨by decide +kernel, by decide +kernel⟩, List.mem_of_getElem? (i := 16) (by decide +kernel), List.mem_of_getElem? (i := 154) (by decide +kernel), List.mem_of_getElem? (i := 155) (by decide +kernel)⟩
theorem lw_p5 : lw_okq (⟨"CountSheets", "signedSheetFor", "(III)I"⟩, 6) := ⟨⟨by decide +kernel, by decide +kernel⟩, List.mem_of_getElem? (i := 16) (by decide +kernel), List.mem_of_getElem? (i := 158) (by decide +kernel), List.mem_of_getElem? (i := 159) (by decide +kernel)⟩
theorem lw_p6 : lw_okq (⟨"CountSheets$LineRows", "hasSign", "(I)Z"⟩, 7) := ⟨⟨by decide +kernel, by decide +kernel⟩, List.mem_of_getElem? (i := 75) (by decide +kernel), List.mem_of_getElem? (i := 165) (by decide +kernel), List.mem_of_getElem? (i := 166) (by decide +kernel)⟩
theorem lw_p7 : lw_okq (⟨"CountSheets", "isStronger", "(III)Z"⟩, 6) := ⟨⟨by decide +kernel, by decide +kernel⟩, List.mem_of_getElem? (i := 16) (by decide +kernel), List.mem_of_getElem? (i := 169) (by decide +kernel), List.mem_of_getElem? (i := 170) (by decide +kernel)⟩
theorem lw_p8 : lw_okq (⟨"CountSheets$MoveRows", "brought", "(IIII)I"⟩, 6) := ⟨⟨by decide +kernel, by decide +kernel⟩, List.mem_of_getElem? (i := 24) (by decide +kernel), List.mem_of_getElem? (i := 173) (by decide +kernel), List.mem_of_getElem? (i := 174) (by decide +kernel)⟩
theorem lw_p9 : lw_okq (⟨"CountSheets", "checkLine", "(II)V"⟩, 6) := ⟨⟨by decide +kernel, by decide +kernel⟩, List.mem_of_getElem? (i := 16) (by decide +kernel), List.mem_of_getElem? (i := 197) (by decide +kernel), List.mem_of_getElem? (i := 198) (by decide +kernel)⟩
theorem lw_p10 : lw_okq (⟨"java/lang/Throwable", "fillInStackTrace", "(I)Ljava/lang/Throwable;"⟩, 6) := ⟨⟨by decide +kernel, by decide +kernel⟩, List.mem_of_getElem? (i := 243) (by decide +kernel), List.mem_of_getElem? (i := 241) (by decide +kernel), List.mem_of_getElem? (i := 242) (by decide +kernel)⟩
theorem lw_p11 : lw_okq (⟨"CountSheets$LineRows", "countsOn", "(I)I"⟩, 7) := ⟨⟨by decide +kernel, by decide +kernel⟩, List.mem_of_getElem? (i := 75) (by decide +kernel), List.mem_of_getElem? (i := 305) (by decide +kernel), List.mem_of_getElem? (i := 306) (by decide +kernel)⟩
theorem lw_p12 : lw_okq (⟨"CountSheets", "canBeSettled", "(III)Z"⟩, 6) := ⟨⟨by decide +kernel, by decide +kernel⟩, List.mem_of_getElem? (i := 16) (by decide +kernel), List.mem_of_getElem? (i := 329) (by decide +kernel), List.mem_of_getElem? (i := 330) (by decide +kernel)⟩
theorem lw_p13 : lw_okq (⟨"CountSheets", "isSignable", "(II)Z"⟩, 6) := ⟨⟨by decide +kernel, by decide +kernel⟩, List.mem_of_getElem? (i := 16) (by decide +kernel), List.mem_of_getElem? (i := 333) (by decide +kernel), List.mem_of_getElem? (i := 334) (by decide +kernel)⟩
theorem lw_p14 : lw_okq (⟨"CountSheets$LineRows", "agrees", "(I)Z"⟩, 7) := ⟨⟨by decide +kernel, by decide +kernel⟩, List.mem_of_getElem? (i := 75) (by decide +kernel), List.mem_of_getElem? (i := 337) (by decide +kernel), List.mem_of_getElem? (i := 338) (by decide +kernel)⟩
theorem lw_p15 : lw_okq (⟨"CountSheets", "gapOf", "(II)I"⟩, 6) := ⟨⟨by decide +kernel, by decide +kernel⟩, List.mem_of_getElem? (i := 16) (by decide +kernel), List.mem_of_getElem? (i := 341) (by decide +kernel), List.mem_of_getElem? (i := 342) (by decide +kernel)⟩
def lw_privs_1 : List (MethodName × Nat) := [(⟨"CountSheets$SheetRows", "isOpenFor", "(I)Z"⟩, 4), (⟨"CountSheets$SheetRows", "latestFor", "(I)I"⟩, 4), (⟨"CountSheets", "urgencyOf", "(I)J"⟩, 6), (⟨"CountSheets", "worthOf", "(I)I"⟩, 6), (⟨"CountSheets", "bookOf", "(III)I"⟩, 6), (⟨"CountSheets", "signedSheetFor", "(III)I"⟩, 6), (⟨"CountSheets$LineRows", "hasSign", "(I)Z"⟩, 7), (⟨"CountSheets", "isStronger", "(III)Z"⟩, 6), (⟨"CountSheets$MoveRows", "brought", "(IIII)I"⟩, 6), (⟨"CountSheets", "checkLine", "(II)V"⟩, 6), (⟨"java/lang/Throwable", "fillInStackTrace", "(I)Ljava/lang/Throwable;"⟩, 6), (⟨"CountSheets$LineRows", "countsOn", "(I)I"⟩, 7), (⟨"CountSheets", "canBeSettled", "(III)Z"⟩, 6), (⟨"CountSheets", "isSignable", "(II)Z"⟩, 6), (⟨"CountSheets$LineRows", "agrees", "(I)Z"⟩, 7), (⟨"CountSheets", "gapOf", "(II)I"⟩, 6)]
theorem lw_r1 : ∀ q ∈ lw_privs_1, lw_okq q := List.forall_mem_cons.mpr ⟨lw_p0, List.forall_mem_cons.mpr ⟨lw_p1, List.forall_mem_cons.mpr ⟨lw_p2, List.forall_mem_cons.mpr ⟨lw_p3, List.forall_mem_cons.mpr ⟨lw_p4, List.forall_mem_cons.mpr ⟨lw_p5, List.forall_mem_cons.mpr ⟨lw_p6, List.forall_mem_cons.mpr ⟨lw_p7, List.forall_mem_cons.mpr ⟨lw_p8, List.forall_mem_cons.mpr ⟨lw_p9, List.forall_mem_cons.mpr ⟨lw_p10, List.forall_mem_cons.mpr ⟨lw_p11, List.forall_mem_cons.mpr ⟨lw_p12, List.forall_mem_cons.mpr ⟨lw_p13, List.forall_mem_cons.mpr ⟨lw_p14, List.forall_mem_cons.mpr ⟨lw_p15, fun _ h => absurd h List.not_mem_nil⟩⟩⟩⟩⟩⟩⟩⟩⟩⟩⟩⟩⟩⟩⟩⟩
theorem lw_p16 : lw_okq (⟨"CountSheets", "checkAgrees", "(II)V"⟩, 6) := ⟨⟨by decide +kernel, by decide +kernel⟩, List.mem_of_getElem? (i := 16) (by decide +kernel), List.mem_of_getElem? (i := 353) (by decide +kernel), List.mem_of_getElem? (i := 354) (by decide +kernel)⟩
theorem lw_p17 : lw_okq (⟨"CountSheets$LineRows", "write", "(II)V"⟩, 7) := ⟨⟨by decide +kernel, by decide +kernel⟩, List.mem_of_getElem? (i := 75) (by decide +kernel), List.mem_of_getElem? (i := 402) (by decide +kernel), List.mem_of_getElem? (i := 403) (by decide +kernel)⟩
theorem lw_p18 : lw_okq (⟨"CountSheets$MoveRows", "add", "(IIIII)I"⟩, 6) := ⟨⟨by decide +kernel, by decide +kernel⟩, List.mem_of_getElem? (i := 24) (by decide +kernel), List.mem_of_getElem? (i := 485) (by decide +kernel), List.mem_of_getElem? (i := 486) (by decide +kernel)⟩
theorem lw_p19 : lw_okq (⟨"CountSheets$SheetRows", "add", "(II)I"⟩, 4) := ⟨⟨by decide +kernel, by decide +kernel⟩, List.mem_of_getElem? (i := 51) (by decide +kernel), List.mem_of_getElem? (i := 521) (by decide +kernel), List.mem_of_getElem? (i := 522) (by decide +kernel)⟩
theorem lw_p20 : lw_okq (⟨"CountSheets$LineRows", "isCountedBy", "(II)Z"⟩, 7) := ⟨⟨by decide +kernel, by decide +kernel⟩, List.mem_of_getElem? (i := 75) (by decide +kernel), List.mem_of_getElem? (i := 535) (by decide +kernel), List.mem_of_getElem? (i := 536) (by decide +kernel)⟩
theorem lw_p21 : lw_okq (⟨"CountSheets$LineRows", "add", "(III)V"⟩, 7) := ⟨⟨by decide +kernel, by decide +kernel⟩, List.mem_of_getElem? (i := 75) (by decide +kernel), List.mem_of_getElem? (i := 540) (by decide +kernel), List.mem_of_getElem? (i := 541) (by decide +kernel)⟩
def lw_privs_2 : List (MethodName × Nat) := [(⟨"CountSheets", "checkAgrees", "(II)V"⟩, 6), (⟨"CountSheets$LineRows", "write", "(II)V"⟩, 7), (⟨"CountSheets$MoveRows", "add", "(IIIII)I"⟩, 6), (⟨"CountSheets$SheetRows", "add", "(II)I"⟩, 4), (⟨"CountSheets$LineRows", "isCountedBy", "(II)Z"⟩, 7), (⟨"CountSheets$LineRows", "add", "(III)V"⟩, 7)]
theorem lw_r2 : ∀ q ∈ lw_privs_2, lw_okq q := List.forall_mem_cons.mpr ⟨lw_p16, List.forall_mem_cons.mpr ⟨lw_p17, List.forall_mem_cons.mpr ⟨lw_p18, List.forall_mem_cons.mpr ⟨lw_p19, List.forall_mem_cons.mpr ⟨lw_p20, List.forall_mem_cons.mpr ⟨lw_p21, fun _ h => absurd h List.not_mem_nil⟩⟩⟩⟩⟩⟩
def lw_privs : List (MethodName × Nat) := lw_privs_1 ++ (lw_privs_2)
def lw_tbl : List Cond := k2_sels lw_privs ++ tables_1
theorem lw_privs_ok : ∀ q ∈ lw_privs, lw_okq q := by
  show ∀ q ∈ lw_privs_1 ++ (lw_privs_2), lw_okq q
  exact List.forall_mem_append.mpr ⟨lw_r1, lw_r2⟩
end
section
/-! ===== BEGIN words of one list among another's, by their places ===== -/
theorem goodIn_r {big : List Cond} (ws : List Cond) (ps : List Nat) (hp : ws = ps.filterMap (fun i => big[i]?)) (h : ws.all goodWord = true) : GoodIn big ws := by
  intro w hw
  have h1 := List.all_eq_true.mp h w hw
  rw [hp] at hw
  obtain ⟨i, -, hi⟩ := List.mem_filterMap.mp hw
  have hm : w ∈ big := by first | exact List.mem_of_getElem? hi | exact List.getElem?_mem hi
  exact ⟨hm, good_of_word h1⟩
theorem goodIn_app {big a b : List Cond} (ha : GoodIn big a) (hb : GoodIn big b) : GoodIn big (a ++ b) := fun w h => (List.mem_append.mp h).elim (ha w) (hb w)
theorem goodIn_ca {big a b : List Cond} {c : Cond} (ha : GoodIn big (c :: a)) (hb : GoodIn big b) : GoodIn big (c :: (a ++ b)) := fun w h => (List.mem_cons.mp h).elim (fun e => ha w (List.mem_cons.mpr (Or.inl e))) (fun h => (List.mem_append.mp h).elim (fun h => ha w (List.mem_cons.mpr (Or.inr h))) (hb w))
theorem goodIn_sub {big ws : List Cond} (hm : ∀ w ∈ ws, w ∈ big) (h : ws.all goodWord = true) : GoodIn big ws := fun w hw => ⟨hm w hw, good_of_word (List.all_eq_true.mp h w hw)⟩
/-! ===== END ===== -/

/-! ===== BEGIN exceptions that leave a method, and their catching by the caller (launches without stack traces) ===== -/
section VXA
/-! The laws vx_back, vx_callV, vx_callS, vx_callSW, vx_throw0, vx_throwS follow proofs of the library, with one case more: JvmDerived/Free/Laws.lean (Back.of_free), Shelf42/LK1.lean (callV, callS), Shelf/KitTraced.lean (throwNew0V, throwNewS). -/
/-- where a method has thrown q: the class by its name, the cell, what was written, the world -/
def vx_T (XC : String → State → State → Prop) (st : State) (q : Addr) (t : State) (mc ms : Nat) (free : Addr → Prop) : Prop :=
  ∃ (E : String) (ce : Cell) (L : List Loc), XC E st t ∧ t.heap[q]? = some ce ∧ ce.vm = .none ∧ st.vm.findClass E = some ce.cls ∧ st.WarmedH t.vm ∧ st.sameButNew ({ t with vm := st.vm } : State) L mc ms ∧ ∀ z ∈ L, free z.base
def vx_Q (Qc : Array Value → State → Outcome → State → Prop) (XC : String → State → State → Prop) (mc ms : Nat) (free : Addr → Prop) : Array Value → State → Outcome → State → Prop := fun a st o t =>
  (Qc a st o t ∧ ∃ L, FrameEnd st o t L mc ms ∧ ∀ q ∈ L, free q.base) ∨ ∃ q, o = .threw q ∧ vx_T XC st q t mc ms free
/-- a callee that returns or throws -/
def vx_Met (l : Launch) (y : MethodName) (ws : List Cond) (rm : Room) (Pc : Array Value → State → Prop) (Qc : Array Value → State → Outcome → State → Prop) (XC : String → State → State → Prop) (mc ms : Nat) (free : Addr → Prop) : Prop :=
  MetFree l y (headSpec ws rm) Pc (fun _ _ _ _ _ => True) (vx_Q Qc XC mc ms free)
def vx_Post (XC : String → State → State → Prop) (mc ms : Nat) (free : Addr → Prop) : Pt → Array Value → Addr → Pt → Prop := fun A a q B =>
  ∃ (g : JFrame) (mk : MethodId) (t : State) (L : List Loc) (E : String) (ce : Cell), B.U.heap = t.heap ∧ B.U.vm = t.vm ∧ XC E (A.U.calling g mk a) t ∧ t.heap[q]? = some ce ∧ ce.vm = .none ∧ A.U.vm.findClass E = some ce.cls ∧ B.locs = A.locs ++ L ∧ (∀ z ∈ L, free z.base) ∧ B.cells = A.cells + mc ∧ B.slots = A.slots + ms
def vx_Back (l : Launch) (R : Room) (p : Program) (e : Env) (below : List Frame) (s : State) (sargs : Array Value) (y : MethodName) (len W9 : Nat)
    (Pre : Pt → Array Value → Prop) (Post : Pt → Array Value → Option Value → Pt → Prop) (PostX : Pt → Array Value → Addr → Pt → Prop) : Prop :=
  ∀ (m : MethodId) (meth : Method) (c : Code) (A : Pt) (g : JFrame) (ig : Instr) (mk : MethodId) (a : Array Value),
    Stand p l e R s m sargs below meth c A.U A.locs A.cells A.slots → g.method = m → g.locals.size = c.maxLocals → decode c.code g.pc = .ok (ig, len) →
    2 * g.monitorRoom + (g.stack.map fun v => v.category).sum ≤ W9 → A.U.methodNamed? y = some mk → Pre A a →
    (∃ (v : Option Value) (B : Pt), Stand p l e R s m sargs below meth c B.U B.locs B.cells B.slots ∧ Post A a v B ∧
      Steps p.tables e below (doInvoke e (A.U.setTop g) [] mk a).1 (B.U.setTop { g with pc := g.pc + len, stack := v.toList ++ g.stack })) ∨
    (∃ (q : Addr) (B : Pt), Stand p l e R s m sargs below meth c B.U B.locs B.cells B.slots ∧ PostX A a q B ∧
      Steps p.tables e below (doInvoke e (A.U.setTop g) [] mk a).1 ((B.U.setTop g).pushFrame (.throwing q)))
section Payer
variable {l : Launch} {R : Room} {p : Program} {e : Env} {below : List Frame} {s : State} {sargs : Array Value} {y : MethodName} {len W9 : Nat}
theorem vx_back {ws : List Cond} {rm : Room} {Pc : Array Value → State → Prop} {Qc : Array Value → State → Outcome → State → Prop} {XC : String → State → State → Prop} {mc ms : Nat} {free : Addr → Prop} {bytes : ByteArray} {maxL : Nat} {ret : Option FieldType}
    (hM : vx_Met l y ws rm Pc Qc XC mc ms free) (hblind : FrameBlind Pc) (hrc : rm.cells = mc) (hrs : rm.slots = ms)
    (hframes : rm.frames + 1 ≤ R.frames) (hlocals : W9 + (maxL + 11) + rm.locals ≤ R.locals)
    (hws : ∀ w ∈ ws, ∀ a' U, s.WarmedH U.vm → w.before a' U = true) (hcode : Cond.code y bytes maxL ret ∈ ws) (hinit : ∀ a' U, s.WarmedH U.vm → (Cond.initialized y.cls).before a' U = true) :
    vx_Back l R p e below s sargs y len W9 (PreOf R mc ms Pc) (PostOf Qc mc ms free) (vx_Post XC mc ms free) := by
  intro m meth c A g ig mk a X hg hsize hdg hW hn hp
  have h1 : (headSpec ws rm).pre.before a A.U = true := atoms_intro fun w hw => hws w hw _ _ X.warmed
  have h2 : (Cond.code y bytes maxL ret).before a A.U = true := hws _ hcode _ _ X.warmed
  have h3 : (Cond.initialized y.cls).before a A.U = true := hinit _ _ X.warmed
  have h4 : A.cells + (headSpec ws rm).room.cells ≤ R.cells := by rw [show (headSpec ws rm).room.cells = mc from hrc]; exact hp.1
  have h5 : A.slots + (headSpec ws rm).room.slots ≤ R.slots := by rw [show (headSpec ws rm).room.slots = ms from hrs]; exact hp.2.1
  have hPc : Pc a (A.U.calling g mk a) := hblind _ _ _ _ hp.2.2
  obtain ⟨U, Ls, c0, s0⟩ := A
  dsimp only [Pt.U, Pt.locs, Pt.cells, Pt.slots] at h1 h2 h3 h4 h5 X hn hPc ⊢
  obtain ⟨methY, cY, hmY, hcY, -, hlY, -, -, -, -⟩ := Cond.code_spec hn h2
  obtain ⟨kY, hkY, -⟩ := className_of_methodNamed hn
  have hinitY : kY.init = .initialized := Cond.initialized_spec (findClass_of_methodNamed hn) hkY h3
  have h : At U g.method c below := by rw [hg]; exact X.here
  have hlocals9 : W9 + (maxL + 11) + (headSpec ws rm).room.locals ≤ R.locals := hlocals
  have happ : (headSpec ws rm).appliesLoose y e.platform (U.calling g mk a) = true :=
    Spec.appliesLoose_calling (g := g) h hdg hn hkY hinitY
      (X.room_calling (g := g) (R' := (headSpec ws rm).room) hsize hmY hcY hframes (by rw [hlY]; omega) h4 h5) h1
  obtain ⟨mid, hmid⟩ := h.above
  have hfr : (U.setTop g).frames = (.java g :: mid) ++ below := by rw [State.frames_setTop' g h.top, hmid]; rfl
  obtain ⟨o, s₂, hsteps, -, hend, hq⟩ := Steps.callFree hM p X.admits X.cas X.clock (acts := []) hfr happ hPc trivial
  have hq' : vx_Q Qc XC mc ms free a (U.calling g mk a) o s₂ := hq
  rw [State.frames_setTop' g h.top] at hend
  obtain ⟨g₀, hg0⟩ := Option.isSome_iff_exists.mp h.top
  obtain ⟨r, hr⟩ := State.topJava?_eq_some.mp hg0
  have hr' : (({ U with heap := s₂.heap, slotsUsed := s₂.slotsUsed } : State).setVm s₂.vm).frames = .java g₀ :: r := hr
  rcases hq' with ⟨hqc, L, hfe, hL⟩ | ⟨q, rfl, E, ce, L, hx, hce, hcv, hcl, hW₂, hsm, hL⟩
  · obtain ⟨⟨v, rfl⟩, hW₂, e2, q2, q3, q4, q5, q6⟩ := id hfe
    have e3 : s₂ = ({ (U.calling g mk a).setFrames s₂.frames with heap := s₂.heap, slotsUsed := s₂.slotsUsed } : State).setVm s₂.vm := by
      have : s₂ = ({ s₂ with vm := (U.calling g mk a).vm } : State).setVm s₂.vm := rfl
      rw [e2] at this
      exact this
    obtain ⟨c₂, i₂, len₂, hc₂, hd₂, hf₂⟩ := hend
    have hW' : U.WarmedH s₂.vm := hW₂
    have hcc : c₂ = c := by
      have h1 : s₂.code? g.method = U.code? g.method := by
        rw [State.code?_eq, State.code?_eq, hW'.alike.method?]
      exact Option.some.inj (hc₂.symm.trans (h1.trans h.code))
    subst hcc
    have hlen : len₂ = len := by rw [hdg] at hd₂; cases hd₂; rfl
    subst hlen
    have hs₂ : s₂ = (({ U with heap := s₂.heap, slotsUsed := s₂.slotsUsed } : State).setVm s₂.vm).setTop { g with pc := g.pc + len₂, stack := v.toList ++ g.stack } := by
      refine e3.trans ?_
      rw [hf₂, State.calling_eq h.top, State.setFrames_setFrames, State.setTop_of_frames _ hr', hr]
      rfl
    have hsame : U.sameButNew ({ U with heap := s₂.heap, slotsUsed := s₂.slotsUsed } : State) L mc ms := by
      refine ⟨?_, q2, q3, q4, q5, q6⟩
      obtain ⟨t, ht, -⟩ := State.frames_cons hr
      show ({ U with heap := s₂.heap, slotsUsed := s₂.slotsUsed } : State) = { U.setFrames U.frames with heap := s₂.heap, slotsUsed := s₂.slotsUsed }
      rw [State.setFrames_self ht]
    subst hg
    refine Or.inl ⟨v, ⟨(({ U with heap := s₂.heap, slotsUsed := s₂.slotsUsed } : State).setVm s₂.vm), Ls ++ L, c0 + mc, s0 + ms⟩,
      ⟨X.admits, X.cas, X.clock, X.frames, X.room, X.hears, X.method, X.code, (X.here.setHeapUsed s₂.heap s₂.slotsUsed).setVm hW'.alike, X.tail, State.WarmedH.trans X.warmed hW', X.limits, X.bytes, X.same.trans (hsame.setVm s.vm)⟩,
      ⟨g, mk, s₂, L, rfl, rfl, hqc, rfl, hL, rfl, rfl⟩, ?_⟩
    show Steps p.tables e below _ ((({ U with heap := s₂.heap, slotsUsed := s₂.slotsUsed } : State).setVm s₂.vm).setTop { g with pc := g.pc + len₂, stack := v.toList ++ g.stack })
    rw [← hs₂]
    exact hsteps
  · obtain ⟨e2, q2, q3, q4, q5, q6⟩ := id hsm
    have e3 : s₂ = ({ (U.calling g mk a).setFrames s₂.frames with heap := s₂.heap, slotsUsed := s₂.slotsUsed } : State).setVm s₂.vm := by
      have : s₂ = ({ s₂ with vm := (U.calling g mk a).vm } : State).setVm s₂.vm := rfl
      rw [e2] at this
      exact this
    have hf₂ : s₂.frames = .throwing q :: .java g :: U.frames.tail := hend
    have hW' : U.WarmedH s₂.vm := hW₂
    have hs₂ : s₂ = ((({ U with heap := s₂.heap, slotsUsed := s₂.slotsUsed } : State).setVm s₂.vm).setTop g).pushFrame (.throwing q) := by
      refine e3.trans ?_
      rw [hf₂, State.calling_eq h.top, State.setFrames_setFrames, State.pushFrame, State.frames_setTop _ hr', State.setTop_of_frames _ hr', State.setFrames_setFrames, hr]
      rfl
    have hsame : U.sameButNew ({ U with heap := s₂.heap, slotsUsed := s₂.slotsUsed } : State) L mc ms := by
      refine ⟨?_, q2, q3, q4, q5, q6⟩
      obtain ⟨t, ht, -⟩ := State.frames_cons hr
      show ({ U with heap := s₂.heap, slotsUsed := s₂.slotsUsed } : State) = { U.setFrames U.frames with heap := s₂.heap, slotsUsed := s₂.slotsUsed }
      rw [State.setFrames_self ht]
    subst hg
    refine Or.inr ⟨q, ⟨(({ U with heap := s₂.heap, slotsUsed := s₂.slotsUsed } : State).setVm s₂.vm), Ls ++ L, c0 + mc, s0 + ms⟩,
      ⟨X.admits, X.cas, X.clock, X.frames, X.room, X.hears, X.method, X.code, (X.here.setHeapUsed s₂.heap s₂.slotsUsed).setVm hW'.alike, X.tail, State.WarmedH.trans X.warmed hW', X.limits, X.bytes, X.same.trans (hsame.setVm s.vm)⟩,
      ⟨g, mk, s₂, L, E, ce, rfl, rfl, hx, hce, hcv, hcl, rfl, hL, rfl, rfl⟩, ?_⟩
    show Steps p.tables e below _ (((({ U with heap := s₂.heap, slotsUsed := s₂.slotsUsed } : State).setVm s₂.vm).setTop g).pushFrame (.throwing q))
    rw [← hs₂]
    exact hsteps
end Payer
section Calls
variable {p : Program} {l : Launch} {e : Env} {R : Room} {s : State} {m : MethodId} {args : Array Value} {below : List Frame} {meth : Method} {c : Code} {T : State} {locs : List Loc} {cells slots : Nat}
theorem vx_callV (X : Stand p l e R s m args below meth c T locs cells slots) (hexec : p.tables.exec = Jvm.exec) {own C : String} {index : Nat} {y : MethodName} {bytes : ByteArray} {maxL : Nat} {ret : Option FieldType}
    (hown : s.vm.findClass own = some m.cls) (hlink : (Cond.methodLink own index y).before args s = true) (hinst : (Cond.instanceMethod y).before args s = true) (hsel : (Cond.selects C y y).before args s = true)
    (hcode : (Cond.code y bytes maxL ret).before args s = true) (hy : y.cls ≠ "java/lang/invoke/MethodHandle" ∧ y.cls ≠ "java/lang/invoke/VarHandle")
    {W9 : Nat} {Pre : Pt → Array Value → Prop} {Post : Pt → Array Value → Option Value → Pt → Prop} {PostX : Pt → Array Value → Addr → Pt → Prop} (hK : vx_Back l R p e below s args y 3 W9 Pre Post PostX)
    {b : Addr} {cellB : Cell} (hcell : T.heap[b]? = some cellB) (hobj : cellB.vm.isStatics = false) (hcls : s.vm.findClass C = some cellB.cls)
    {g : JFrame} (hg : g.method = m) (hsize : g.locals.size = c.maxLocals) {argsL rest : List Value} (hlen : ∀ sig, parseMethodDescriptor y.desc = some sig → argsL.length = sig.parameters.length)
    (hstack : g.stack = argsL.reverse ++ .ref b :: rest) (hW : 2 * g.monitorRoom + (rest.map fun v => v.category).sum ≤ W9) (hdg : decode c.code g.pc = .ok (.invokevirtual index, 3))
    (hpre : ∀ vm₁, s.WarmedH vm₁ → Pre ⟨T.setVm vm₁, locs, cells, slots⟩ (Value.ref b :: argsL).toArray) :
    (∃ (v : Option Value) (vm₁ : Vm) (B : Pt), s.WarmedH vm₁ ∧ Stand p l e R s m args below meth c B.U B.locs B.cells B.slots ∧ Post ⟨T.setVm vm₁, locs, cells, slots⟩ (Value.ref b :: argsL).toArray v B ∧
      ∀ target, Steps p.tables e below (B.U.setTop { g with pc := g.pc + 3, stack := v.toList ++ rest }) target → Steps p.tables e below (T.setTop g) target) ∨
    (∃ (q : Addr) (vm₁ : Vm) (B : Pt), s.WarmedH vm₁ ∧ Stand p l e R s m args below meth c B.U B.locs B.cells B.slots ∧ PostX ⟨T.setVm vm₁, locs, cells, slots⟩ (Value.ref b :: argsL).toArray q B ∧
      Steps p.tables e below (T.setTop g) ((B.U.setTop { g with stack := rest }).pushFrame (.throwing q))) := by
  obtain ⟨mk, methM, hnamed, hmethM, hstM, habM⟩ := Cond.instanceMethod_spec hinst
  obtain ⟨methM', cM, hmethM', -, -, -, -, -, -, hsigM⟩ := Cond.code_spec hnamed hcode
  cases hmethM.symm.trans hmethM'
  obtain ⟨c2, r2, m2, q1, q2, q3, q4, kP, hkP, hkPi⟩ := Cond.selects_spec hsel
  cases hcls.symm.trans q1
  cases (State.methodFound?_of_named hnamed hy).symm.trans q2
  cases hnamed.symm.trans q3
  have hselP : selectMethod e.platform s.vm cellB.cls mk = .method mk := by rw [Launch.admits_selectMethod X.admits]; exact q4
  obtain ⟨vm₁, X₁, hstep₁⟩ := X.invokevirtual hexec hown hlink hnamed hmethM hstM hkP hkPi hy (a := b) (cell := cellB) hcell
    (fun z h => by rw [h] at hobj; cases hobj) hselP hmethM habM hkP hkPi (g := g) hg (argsL := argsL) (rest := rest) (hlen _ hsigM) hstack hdg
  rcases hK m meth c ⟨T.setVm vm₁, locs, cells, slots⟩ { g with stack := rest } (.invokevirtual index) mk (Value.ref b :: argsL).toArray X₁ hg hsize hdg hW (X₁.named hnamed) (hpre vm₁ X₁.warmed) with ⟨v, B, X', hpost, hsteps⟩ | ⟨q, B, X', hpost, hsteps⟩
  · exact Or.inl ⟨v, vm₁, B, X₁.warmed, X', hpost, fun target h => hstep₁ _ fun acts => by rw [doInvoke_state]; exact hsteps.trans h⟩
  · exact Or.inr ⟨q, vm₁, B, X₁.warmed, X', hpost, hstep₁ _ fun acts => by rw [doInvoke_state]; exact hsteps⟩
theorem vx_callS (X : Stand p l e R s m args below meth c T locs cells slots) (hexec : p.tables.exec = Jvm.exec) {own : String} {index : Nat} {y : MethodName} {bytes : ByteArray} {maxL : Nat} {ret : Option FieldType}
    (hown : s.vm.findClass own = some m.cls) (hlink : (Cond.methodLink own index y).before args s = true) (hstat : (Cond.static y).before args s = true) (hinit : (Cond.initialized y.cls).before args s = true)
    (hcode : (Cond.code y bytes maxL ret).before args s = true) (hy : y.cls ≠ "java/lang/invoke/MethodHandle" ∧ y.cls ≠ "java/lang/invoke/VarHandle")
    {W9 : Nat} {Pre : Pt → Array Value → Prop} {Post : Pt → Array Value → Option Value → Pt → Prop} {PostX : Pt → Array Value → Addr → Pt → Prop} (hK : vx_Back l R p e below s args y 3 W9 Pre Post PostX)
    {g : JFrame} (hg : g.method = m) (hsize : g.locals.size = c.maxLocals) {argsL rest : List Value} (hlen : ∀ sig, parseMethodDescriptor y.desc = some sig → argsL.length = sig.parameters.length)
    (hstack : g.stack = argsL.reverse ++ rest) (hW : 2 * g.monitorRoom + (rest.map fun v => v.category).sum ≤ W9) (hdg : decode c.code g.pc = .ok (.invokestatic index, 3))
    (hpre : ∀ vm₁, s.WarmedH vm₁ → Pre ⟨T.setVm vm₁, locs, cells, slots⟩ argsL.toArray) :
    (∃ (v : Option Value) (vm₁ : Vm) (B : Pt), s.WarmedH vm₁ ∧ Stand p l e R s m args below meth c B.U B.locs B.cells B.slots ∧ Post ⟨T.setVm vm₁, locs, cells, slots⟩ argsL.toArray v B ∧
      ∀ target, Steps p.tables e below (B.U.setTop { g with pc := g.pc + 3, stack := v.toList ++ rest }) target → Steps p.tables e below (T.setTop g) target) ∨
    (∃ (q : Addr) (vm₁ : Vm) (B : Pt), s.WarmedH vm₁ ∧ Stand p l e R s m args below meth c B.U B.locs B.cells B.slots ∧ PostX ⟨T.setVm vm₁, locs, cells, slots⟩ argsL.toArray q B ∧
      Steps p.tables e below (T.setTop g) ((B.U.setTop { g with stack := rest }).pushFrame (.throwing q))) := by
  obtain ⟨mk, hnamed⟩ := Cond.code_named hcode
  obtain ⟨methM, cM, hmethM, -, -, -, -, -, -, hsigM⟩ := Cond.code_spec hnamed hcode
  have hstatic : methM.isStatic = true := Cond.static_spec hnamed hmethM hstat
  obtain ⟨kP, hkP, -⟩ := className_of_methodNamed hnamed
  have hinitP : kP.init = .initialized := Cond.initialized_spec (findClass_of_methodNamed hnamed) hkP hinit
  obtain ⟨vm₁, X₁, hstep₁⟩ := X.invokestatic hexec hown hlink hnamed hmethM hstatic hkP hinitP hy (g := g) hg (argsL := argsL) (rest := rest) (hlen _ hsigM) hstack hdg
  rcases hK m meth c ⟨T.setVm vm₁, locs, cells, slots⟩ { g with stack := rest } (.invokestatic index) mk argsL.toArray X₁ hg hsize hdg hW (X₁.named hnamed) (hpre vm₁ X₁.warmed) with ⟨v, B, X', hpost, hsteps⟩ | ⟨q, B, X', hpost, hsteps⟩
  · exact Or.inl ⟨v, vm₁, B, X₁.warmed, X', hpost, fun target h => hstep₁ _ fun acts => by rw [doInvoke_state]; exact hsteps.trans h⟩
  · exact Or.inr ⟨q, vm₁, B, X₁.warmed, X', hpost, hstep₁ _ fun acts => by rw [doInvoke_state]; exact hsteps⟩
end Calls
theorem vx_cls {s : State} {T : State} {vm₁ : Vm} {E : String} {k : ClassId} (hW : s.WarmedH vm₁) (h : (T.setVm vm₁).vm.findClass E = some k) : s.vm.findClass E = some k := by
  have h1 : vm₁.findClass E = some k := h
  rw [hW.alike.findClass] at h1
  exact h1
/-- the method's frame g, with q thrown over it -/
def vx_W (p : Program) (l : Launch) (e : Env) (R : Room) (s : State) (m : MethodId) (args : Array Value) (below : List Frame) (meth : Method) (c : Code) (H : Heap) (locs : List Loc) (cells slots : Nat) (Q : State → Prop) (g : JFrame) (q : Addr) : Prop :=
  ∀ T : State, T.heap = H → Stand p l e R s m args below meth c T locs cells slots → ∃ t, Steps p.tables e below ((T.setTop g).pushFrame (.throwing q)) t ∧ Q t
def vx_Run (p : Program) (l : Launch) (e : Env) (R : Room) (s : State) (m : MethodId) (args : Array Value) (below : List Frame) (meth : Method) (c : Code) (H : Heap) (locs : List Loc) (cells slots mc ms : Nat) (g : JFrame) (rest : List Value) (Qa : State → Outcome → State → Prop) (XC : String → State → State → Prop) (free : Addr → Prop) : Prop :=
  ∀ T : State, T.heap = H → Stand p l e R s m args below meth c T locs cells slots →
    (∃ (v : Option Value) (st₀ t T' : State) (L : List Loc), st₀.heap = H ∧ Stand p l e R s m args below meth c T' (locs ++ L) (cells + mc) (slots + ms) ∧ (∀ q ∈ L, free q.base) ∧ T'.heap = t.heap ∧ T'.vm = t.vm ∧ Qa st₀ (.returned v) t ∧
      Goes p e below T g T' { g with pc := g.pc + 3, stack := v.toList ++ rest }) ∨
    (∃ (q : Addr) (st₀ t T' : State) (L : List Loc) (E : String) (ce : Cell), st₀.heap = H ∧ Stand p l e R s m args below meth c T' (locs ++ L) (cells + mc) (slots + ms) ∧ (∀ z ∈ L, free z.base) ∧ T'.heap = t.heap ∧ T'.vm = t.vm ∧ XC E st₀ t ∧ t.heap[q]? = some ce ∧ ce.vm = .none ∧ s.vm.findClass E = some ce.cls ∧
      Steps p.tables e below (T.setTop g) ((T'.setTop { g with stack := rest }).pushFrame (.throwing q)))
def vx_X {S : Type} (px : S → Prop) (B : String → S → State → Prop) (A : Nat → Prop) : String → State → State → Prop := fun E st t => ∃ u : S, px u ∧ B E u t ∧ va_F A st t
section Runs
variable {p : Program} {l : Launch} {e : Env} {R : Room} {s : State} {m : MethodId} {args : Array Value} {below : List Frame} {meth : Method} {c : Code} {H : Heap} {locs : List Loc} {cells slots : Nat}
variable {y : MethodName} {bytes cc : ByteArray} {maxL nL mc ms n index : Nat} {ret : Option FieldType} {ws : List Cond} {rm : Room} {Pc : Array Value → State → Prop} {Qc : Array Value → State → Outcome → State → Prop} {XC : String → State → State → Prop} {free : Addr → Prop} {Ts : List Cond} {own C : String} {b : Addr} {As rest : List Value} {g : JFrame}
theorem vx_callBack (cb : CallB R s args own index y bytes maxL ret ws rm mc ms n) (hM : vx_Met l y ws rm Pc Qc XC mc ms free) (hbl : FrameBlind Pc) : vx_Back l R p e below s args y 3 8 (PreOf R mc ms Pc) (PostOf Qc mc ms free) (vx_Post XC mc ms free) := by
  obtain ⟨hrc, hrs, hfr, hlo, hws, hcw, -, hini, -⟩ := cb
  exact vx_back (bytes := bytes) (maxL := maxL) (ret := ret) hM hbl hrc hrs hfr hlo hws hcw (fun a' U hW => word_at hW (Or.inl (by first | rfl | simp [Cond.onTables, Cond.keeps, Cond.steady])) hini)
theorem vx_runV (S : CallFix p m c cc nL s args Ts own) (hM : vx_Met l y ws rm Pc Qc XC mc ms free) (cw : CallW R s args own C index y bytes maxL ret ws rm mc ms n) (hp : PreV s H C b Pc As)
    (hg : g.method = m) (hn : As.length = n) (hsize : g.locals.size = nL) (hstack : g.stack = As.reverse ++ .ref b :: rest) (hW : 2 * g.monitorRoom + (rest.map fun v => v.category).sum ≤ 8) (hdg : decode cc g.pc = .ok (.invokevirtual index, 3)) (hf : cells + mc ≤ R.cells ∧ slots + ms ≤ R.slots) :
    vx_Run p l e R s m args below meth c H locs cells slots mc ms g rest (Qc (Value.ref b :: As).toArray) XC free := by
  have hK : vx_Back l R p e below s args y 3 8 (PreOf R mc ms Pc) (PostOf Qc mc ms free) (vx_Post XC mc ms free) := vx_callBack cw.1 hM hp.1
  obtain ⟨⟨-, -, -, -, -, -, hcode, -, hy, hlen, hl⟩, hin, hse⟩ := cw
  obtain ⟨hx, hb, hml, ho, -⟩ := S
  obtain ⟨-, ⟨cellB, hcB, hoB, hclB⟩, hPc⟩ := hp
  intro T hT X
  rcases vx_callV X hx (C := C) (bytes := bytes) (maxL := maxL) (ret := ret) ho hl hin hse hcode hy hK (by rw [hT]; exact hcB) hoB hclB hg (hsize.trans hml.symm) (argsL := As) (rest := rest) (fun sig h => hn.trans (hlen sig h)) hstack hW (by rw [hb]; exact hdg)
    (fun vm₁ hW₁ => ⟨hf.1, hf.2, hPc (T.setVm vm₁) hT hW₁⟩) with ⟨v, vm₁, ⟨U', l2, c2, s2⟩, hW₁, X', ⟨g', mk, t, L, e1, e2, hq, h1, hL, h2, h3⟩, st⟩ | ⟨q, vm₁, ⟨U', l2, c2, s2⟩, hW₁, X', ⟨g', mk, t, L, E, ce, e1, e2, hq, hce, hcv, hcl, h1, hL, h2, h3⟩, st⟩
  · dsimp only [Pt.U, Pt.locs, Pt.cells, Pt.slots] at X' e1 e2 h1 h2 h3 st
    subst h1; subst h2; subst h3
    exact Or.inl ⟨v, (T.setVm vm₁).calling g' mk (Value.ref b :: As).toArray, t, U', L, hT, X', hL, e1, e2, hq, st⟩
  · dsimp only [Pt.U, Pt.locs, Pt.cells, Pt.slots] at X' e1 e2 h1 h2 h3 st hcl
    subst h1; subst h2; subst h3
    exact Or.inr ⟨q, (T.setVm vm₁).calling g' mk (Value.ref b :: As).toArray, t, U', L, E, ce, hT, X', hL, e1, e2, hq, hce, hcv, vx_cls hW₁ hcl, st⟩
theorem vx_runS (S : CallFix p m c cc nL s args Ts own) (hM : vx_Met l y ws rm Pc Qc XC mc ms free) (cw : CallB R s args own index y bytes maxL ret ws rm mc ms n ∧ (Cond.static y).before args s = true) (hp : PreS s H Pc As)
    (hg : g.method = m) (hn : As.length = n) (hsize : g.locals.size = nL) (hstack : g.stack = As.reverse ++ rest) (hW : 2 * g.monitorRoom + (rest.map fun v => v.category).sum ≤ 8) (hdg : decode cc g.pc = .ok (.invokestatic index, 3)) (hf : cells + mc ≤ R.cells ∧ slots + ms ≤ R.slots) :
    vx_Run p l e R s m args below meth c H locs cells slots mc ms g rest (Qc As.toArray) XC free := by
  have hK : vx_Back l R p e below s args y 3 8 (PreOf R mc ms Pc) (PostOf Qc mc ms free) (vx_Post XC mc ms free) := vx_callBack cw.1 hM hp.1
  obtain ⟨⟨-, -, -, -, -, -, hcode, hini, hy, hlen, hl⟩, hstt⟩ := cw
  obtain ⟨hx, hb, hml, ho, -⟩ := S
  intro T hT X
  rcases vx_callS X hx (bytes := bytes) (maxL := maxL) (ret := ret) ho hl hstt hini hcode hy hK hg (hsize.trans hml.symm) (argsL := As) (rest := rest) (fun sig h => hn.trans (hlen sig h)) hstack hW (by rw [hb]; exact hdg)
    (fun vm₁ hW₁ => ⟨hf.1, hf.2, hp.2 (T.setVm vm₁) hT hW₁⟩) with ⟨v, vm₁, ⟨U', l2, c2, s2⟩, hW₁, X', ⟨g', mk, t, L, e1, e2, hq, h1, hL, h2, h3⟩, st⟩ | ⟨q, vm₁, ⟨U', l2, c2, s2⟩, hW₁, X', ⟨g', mk, t, L, E, ce, e1, e2, hq, hce, hcv, hcl, h1, hL, h2, h3⟩, st⟩
  · dsimp only [Pt.U, Pt.locs, Pt.cells, Pt.slots] at X' e1 e2 h1 h2 h3 st
    subst h1; subst h2; subst h3
    exact Or.inl ⟨v, (T.setVm vm₁).calling g' mk As.toArray, t, U', L, hT, X', hL, e1, e2, hq, st⟩
  · dsimp only [Pt.U, Pt.locs, Pt.cells, Pt.slots] at X' e1 e2 h1 h2 h3 st hcl
    subst h1; subst h2; subst h3
    exact Or.inr ⟨q, (T.setVm vm₁).calling g' mk As.toArray, t, U', L, E, ce, hT, X', hL, e1, e2, hq, hce, hcv, vx_cls hW₁ hcl, st⟩
end Runs
section Rows
variable {p : Program} {l : Launch} {e : Env} {R : Room} {s : State} {m : MethodId} {args : Array Value} {below : List Frame} {meth : Method} {c : Code} {H : Heap} {locs : List Loc} {cells slots : Nat} {Q : State → Prop}
variable {mc ms : Nat} {free : Addr → Prop} {A0 A1 : Nat → Prop} {H0 : Heap} {a : Array Value} {pc : Nat} {ls : Array Slot} {st0 rest : List Value}
theorem vx_keep {st₀ t T' : State} {L : List Loc} (h0 : st₀.heap = H) (e1 : T'.heap = t.heap) (hS : va_S A0 H0 H locs) (hA : ∀ q, q < H.size → A1 q → A0 q) (hf : ∀ q, free q → A0 q) (hL : ∀ q ∈ L, free q.base) (hF : va_F A1 st₀ t) :
    H.size ≤ T'.heap.size ∧ (∀ q : Nat, q < H.size → ¬ A1 q → T'.heap[q]? = H[q]?) ∧ va_S A0 H0 T'.heap (locs ++ L) := by
  obtain ⟨hz, hk⟩ := hF
  rw [h0] at hz hk
  exact ⟨by rw [e1]; exact hz, fun q h1 h2 => by rw [e1]; exact hk q h1 h2,
    ⟨Nat.le_trans hS.1 (by rw [e1]; exact hz), fun q h1 h2 => by rw [e1, hk q (Nat.lt_of_lt_of_le h1 hS.1) (fun z => h2 (hA q (Nat.lt_of_lt_of_le h1 hS.1) z))]; exact hS.2.1 q h1 h2, fun q hq => by
      rcases List.mem_append.mp hq with h | h
      · exact hS.2.2 q h
      · exact hf _ (hL q h)⟩⟩
theorem vx_calli {S SX : Type} {post : Int32 → S → Prop} {px : SX → Prop} {B : S → State → Prop} {BX : String → SX → State → Prop} {AX : Nat → Prop} (hr : vx_Run p l e R s m args below meth c H locs cells slots mc ms (F0 m pc ls st0) rest (va_Qi post B A1 a) (vx_X px BX AX) free) (hS : va_S A0 H0 H locs) (hA : ∀ q, q < H.size → A1 q → A0 q) (hf : ∀ q, free q → A0 q) (hAX : ∀ q, q < H.size → AX q → A0 q)
    (kx : ∀ (E : String) (ce : Cell) (q9 : Addr) (u : SX) (t : State) (H1 : Heap) (locs1 : List Loc), t.heap = H1 → s.vm.Alike t.vm → px u → BX E u t → H.size ≤ H1.size → (∀ q : Nat, q < H.size → ¬ AX q → H1[q]? = H[q]?) → va_S A0 H0 H1 locs1 → H1[q9]? = some ce → ce.vm = .none → s.vm.findClass E = some ce.cls → vx_W p l e R s m args below meth c H1 locs1 (cells + mc) (slots + ms) Q (F0 m pc ls rest) q9)
    (kk : ∀ (r : Int32) (u : S) (t : State) (H1 : Heap) (locs1 : List Loc), t.heap = H1 → s.vm.Alike t.vm → post r u → B u t → H.size ≤ H1.size → (∀ q : Nat, q < H.size → ¬ A1 q → H1[q]? = H[q]?) → va_S A0 H0 H1 locs1 → W p l e R s m args below meth c H1 locs1 (cells + mc) (slots + ms) Q (F0 m (pc + 3) ls (.int r :: rest))) : W p l e R s m args below meth c H locs cells slots Q (F0 m pc ls st0) := by
  intro T hT X
  rcases hr T hT X with ⟨v, st₀, t, T', L, h0, X', hL, e1, e2, ⟨⟨r, u, hv, hp, hb⟩, hF⟩, st⟩ | ⟨q, st₀, t, T', L, E, ce, h0, X', hL, e1, e2, ⟨u, hp, hb, hF⟩, hce, hcv, hcl, st⟩
  · cases hv
    obtain ⟨k1, k2, k3⟩ := vx_keep h0 e1 hS hA hf hL hF
    obtain ⟨t2, a1, b1⟩ := kk r u t T'.heap (locs ++ L) e1.symm (by rw [← e2]; exact X'.warmed.alike) hp hb k1 k2 k3 T' rfl X'
    exact ⟨t2, st t2 a1, b1⟩
  · obtain ⟨k1, k2, k3⟩ := vx_keep h0 e1 hS hAX hf hL hF
    obtain ⟨t2, a1, b1⟩ := kx E ce q u t T'.heap (locs ++ L) e1.symm (by rw [← e2]; exact X'.warmed.alike) hp hb k1 k2 k3 (by rw [e1]; exact hce) hcv hcl T' rfl X'
    exact ⟨t2, st.trans a1, b1⟩
theorem vx_calll {S SX : Type} {post : Int64 → S → Prop} {px : SX → Prop} {B : S → State → Prop} {BX : String → SX → State → Prop} {AX : Nat → Prop} (hr : vx_Run p l e R s m args below meth c H locs cells slots mc ms (F0 m pc ls st0) rest (va_Ql post B A1 a) (vx_X px BX AX) free) (hS : va_S A0 H0 H locs) (hA : ∀ q, q < H.size → A1 q → A0 q) (hf : ∀ q, free q → A0 q) (hAX : ∀ q, q < H.size → AX q → A0 q)
    (kx : ∀ (E : String) (ce : Cell) (q9 : Addr) (u : SX) (t : State) (H1 : Heap) (locs1 : List Loc), t.heap = H1 → s.vm.Alike t.vm → px u → BX E u t → H.size ≤ H1.size → (∀ q : Nat, q < H.size → ¬ AX q → H1[q]? = H[q]?) → va_S A0 H0 H1 locs1 → H1[q9]? = some ce → ce.vm = .none → s.vm.findClass E = some ce.cls → vx_W p l e R s m args below meth c H1 locs1 (cells + mc) (slots + ms) Q (F0 m pc ls rest) q9)
    (kk : ∀ (r : Int64) (u : S) (t : State) (H1 : Heap) (locs1 : List Loc), t.heap = H1 → s.vm.Alike t.vm → post r u → B u t → H.size ≤ H1.size → (∀ q : Nat, q < H.size → ¬ A1 q → H1[q]? = H[q]?) → va_S A0 H0 H1 locs1 → W p l e R s m args below meth c H1 locs1 (cells + mc) (slots + ms) Q (F0 m (pc + 3) ls (.long r :: rest))) : W p l e R s m args below meth c H locs cells slots Q (F0 m pc ls st0) := by
  intro T hT X
  rcases hr T hT X with ⟨v, st₀, t, T', L, h0, X', hL, e1, e2, ⟨⟨r, u, hv, hp, hb⟩, hF⟩, st⟩ | ⟨q, st₀, t, T', L, E, ce, h0, X', hL, e1, e2, ⟨u, hp, hb, hF⟩, hce, hcv, hcl, st⟩
  · cases hv
    obtain ⟨k1, k2, k3⟩ := vx_keep h0 e1 hS hA hf hL hF
    obtain ⟨t2, a1, b1⟩ := kk r u t T'.heap (locs ++ L) e1.symm (by rw [← e2]; exact X'.warmed.alike) hp hb k1 k2 k3 T' rfl X'
    exact ⟨t2, st t2 a1, b1⟩
  · obtain ⟨k1, k2, k3⟩ := vx_keep h0 e1 hS hAX hf hL hF
    obtain ⟨t2, a1, b1⟩ := kx E ce q u t T'.heap (locs ++ L) e1.symm (by rw [← e2]; exact X'.warmed.alike) hp hb k1 k2 k3 (by rw [e1]; exact hce) hcv hcl T' rfl X'
    exact ⟨t2, st.trans a1, b1⟩
theorem vx_callf {S SX : Type} {post : UInt32 → S → Prop} {px : SX → Prop} {B : S → State → Prop} {BX : String → SX → State → Prop} {AX : Nat → Prop} (hr : vx_Run p l e R s m args below meth c H locs cells slots mc ms (F0 m pc ls st0) rest (va_Qf post B A1 a) (vx_X px BX AX) free) (hS : va_S A0 H0 H locs) (hA : ∀ q, q < H.size → A1 q → A0 q) (hf : ∀ q, free q → A0 q) (hAX : ∀ q, q < H.size → AX q → A0 q)
    (kx : ∀ (E : String) (ce : Cell) (q9 : Addr) (u : SX) (t : State) (H1 : Heap) (locs1 : List Loc), t.heap = H1 → s.vm.Alike t.vm → px u → BX E u t → H.size ≤ H1.size → (∀ q : Nat, q < H.size → ¬ AX q → H1[q]? = H[q]?) → va_S A0 H0 H1 locs1 → H1[q9]? = some ce → ce.vm = .none → s.vm.findClass E = some ce.cls → vx_W p l e R s m args below meth c H1 locs1 (cells + mc) (slots + ms) Q (F0 m pc ls rest) q9)
    (kk : ∀ (r : UInt32) (u : S) (t : State) (H1 : Heap) (locs1 : List Loc), t.heap = H1 → s.vm.Alike t.vm → post r u → B u t → H.size ≤ H1.size → (∀ q : Nat, q < H.size → ¬ A1 q → H1[q]? = H[q]?) → va_S A0 H0 H1 locs1 → W p l e R s m args below meth c H1 locs1 (cells + mc) (slots + ms) Q (F0 m (pc + 3) ls (.float r :: rest))) : W p l e R s m args below meth c H locs cells slots Q (F0 m pc ls st0) := by
  intro T hT X
  rcases hr T hT X with ⟨v, st₀, t, T', L, h0, X', hL, e1, e2, ⟨⟨r, u, hv, hp, hb⟩, hF⟩, st⟩ | ⟨q, st₀, t, T', L, E, ce, h0, X', hL, e1, e2, ⟨u, hp, hb, hF⟩, hce, hcv, hcl, st⟩
  · cases hv
    obtain ⟨k1, k2, k3⟩ := vx_keep h0 e1 hS hA hf hL hF
    obtain ⟨t2, a1, b1⟩ := kk r u t T'.heap (locs ++ L) e1.symm (by rw [← e2]; exact X'.warmed.alike) hp hb k1 k2 k3 T' rfl X'
    exact ⟨t2, st t2 a1, b1⟩
  · obtain ⟨k1, k2, k3⟩ := vx_keep h0 e1 hS hAX hf hL hF
    obtain ⟨t2, a1, b1⟩ := kx E ce q u t T'.heap (locs ++ L) e1.symm (by rw [← e2]; exact X'.warmed.alike) hp hb k1 k2 k3 (by rw [e1]; exact hce) hcv hcl T' rfl X'
    exact ⟨t2, st.trans a1, b1⟩
theorem vx_calld {S SX : Type} {post : UInt64 → S → Prop} {px : SX → Prop} {B : S → State → Prop} {BX : String → SX → State → Prop} {AX : Nat → Prop} (hr : vx_Run p l e R s m args below meth c H locs cells slots mc ms (F0 m pc ls st0) rest (va_Qd post B A1 a) (vx_X px BX AX) free) (hS : va_S A0 H0 H locs) (hA : ∀ q, q < H.size → A1 q → A0 q) (hf : ∀ q, free q → A0 q) (hAX : ∀ q, q < H.size → AX q → A0 q)
    (kx : ∀ (E : String) (ce : Cell) (q9 : Addr) (u : SX) (t : State) (H1 : Heap) (locs1 : List Loc), t.heap = H1 → s.vm.Alike t.vm → px u → BX E u t → H.size ≤ H1.size → (∀ q : Nat, q < H.size → ¬ AX q → H1[q]? = H[q]?) → va_S A0 H0 H1 locs1 → H1[q9]? = some ce → ce.vm = .none → s.vm.findClass E = some ce.cls → vx_W p l e R s m args below meth c H1 locs1 (cells + mc) (slots + ms) Q (F0 m pc ls rest) q9)
    (kk : ∀ (r : UInt64) (u : S) (t : State) (H1 : Heap) (locs1 : List Loc), t.heap = H1 → s.vm.Alike t.vm → post r u → B u t → H.size ≤ H1.size → (∀ q : Nat, q < H.size → ¬ A1 q → H1[q]? = H[q]?) → va_S A0 H0 H1 locs1 → W p l e R s m args below meth c H1 locs1 (cells + mc) (slots + ms) Q (F0 m (pc + 3) ls (.double r :: rest))) : W p l e R s m args below meth c H locs cells slots Q (F0 m pc ls st0) := by
  intro T hT X
  rcases hr T hT X with ⟨v, st₀, t, T', L, h0, X', hL, e1, e2, ⟨⟨r, u, hv, hp, hb⟩, hF⟩, st⟩ | ⟨q, st₀, t, T', L, E, ce, h0, X', hL, e1, e2, ⟨u, hp, hb, hF⟩, hce, hcv, hcl, st⟩
  · cases hv
    obtain ⟨k1, k2, k3⟩ := vx_keep h0 e1 hS hA hf hL hF
    obtain ⟨t2, a1, b1⟩ := kk r u t T'.heap (locs ++ L) e1.symm (by rw [← e2]; exact X'.warmed.alike) hp hb k1 k2 k3 T' rfl X'
    exact ⟨t2, st t2 a1, b1⟩
  · obtain ⟨k1, k2, k3⟩ := vx_keep h0 e1 hS hAX hf hL hF
    obtain ⟨t2, a1, b1⟩ := kx E ce q u t T'.heap (locs ++ L) e1.symm (by rw [← e2]; exact X'.warmed.alike) hp hb k1 k2 k3 (by rw [e1]; exact hce) hcv hcl T' rfl X'
    exact ⟨t2, st.trans a1, b1⟩
theorem vx_callv {S SX : Type} {post : S → Prop} {px : SX → Prop} {B : S → State → Prop} {BX : String → SX → State → Prop} {AX : Nat → Prop} (hr : vx_Run p l e R s m args below meth c H locs cells slots mc ms (F0 m pc ls st0) rest (va_Qv post B A1 a) (vx_X px BX AX) free) (hS : va_S A0 H0 H locs) (hA : ∀ q, q < H.size → A1 q → A0 q) (hf : ∀ q, free q → A0 q) (hAX : ∀ q, q < H.size → AX q → A0 q)
    (kx : ∀ (E : String) (ce : Cell) (q9 : Addr) (u : SX) (t : State) (H1 : Heap) (locs1 : List Loc), t.heap = H1 → s.vm.Alike t.vm → px u → BX E u t → H.size ≤ H1.size → (∀ q : Nat, q < H.size → ¬ AX q → H1[q]? = H[q]?) → va_S A0 H0 H1 locs1 → H1[q9]? = some ce → ce.vm = .none → s.vm.findClass E = some ce.cls → vx_W p l e R s m args below meth c H1 locs1 (cells + mc) (slots + ms) Q (F0 m pc ls rest) q9)
    (kk : ∀ (u : S) (t : State) (H1 : Heap) (locs1 : List Loc), t.heap = H1 → s.vm.Alike t.vm → post u → B u t → H.size ≤ H1.size → (∀ q : Nat, q < H.size → ¬ A1 q → H1[q]? = H[q]?) → va_S A0 H0 H1 locs1 → W p l e R s m args below meth c H1 locs1 (cells + mc) (slots + ms) Q (F0 m (pc + 3) ls (rest))) : W p l e R s m args below meth c H locs cells slots Q (F0 m pc ls st0) := by
  intro T hT X
  rcases hr T hT X with ⟨v, st₀, t, T', L, h0, X', hL, e1, e2, ⟨⟨u, hv, hp, hb⟩, hF⟩, st⟩ | ⟨q, st₀, t, T', L, E, ce, h0, X', hL, e1, e2, ⟨u, hp, hb, hF⟩, hce, hcv, hcl, st⟩
  · cases hv
    obtain ⟨k1, k2, k3⟩ := vx_keep h0 e1 hS hA hf hL hF
    obtain ⟨t2, a1, b1⟩ := kk u t T'.heap (locs ++ L) e1.symm (by rw [← e2]; exact X'.warmed.alike) hp hb k1 k2 k3 T' rfl X'
    exact ⟨t2, st t2 a1, b1⟩
  · obtain ⟨k1, k2, k3⟩ := vx_keep h0 e1 hS hAX hf hL hF
    obtain ⟨t2, a1, b1⟩ := kx E ce q u t T'.heap (locs ++ L) e1.symm (by rw [← e2]; exact X'.warmed.alike) hp hb k1 k2 k3 (by rw [e1]; exact hce) hcv hcl T' rfl X'
    exact ⟨t2, st.trans a1, b1⟩
/-- caught by the row x of this method's table; the rows ahead don't take it -/
theorem vx_catch {own name : String} {E : String} {ce : Cell} {q : Addr} (hown : s.vm.findClass own = some m.cls) (pre : List ExceptionTableEntry) (x : ExceptionTableEntry) (suf : List ExceptionTableEntry) (hsplit : c.exceptionTable.toList = pre ++ x :: suf)
    (hpass : ∀ z ∈ pre, covers z pc = false ∨ (z.catchType ≠ 0 ∧ ∃ nm : String, (Cond.classLink own z.catchType nm).before args s = true ∧ va_Nc E nm s)) (hx : covers x pc = true) (h0 : x.catchType ≠ 0)
    (hlink : (Cond.classLink own x.catchType name).before args s = true) (hcast : (Cond.castable E name).before args s = true) (hcell : H[q]? = some ce) (hv : ce.vm = .none) (hcl : s.vm.findClass E = some ce.cls)
    (kk : W p l e R s m args below meth c H locs cells slots Q (F0 m x.handlerPc ls [.ref q])) : vx_W p l e R s m args below meth c H locs cells slots Q (F0 m pc ls rest) q := by
  intro T hT X
  have hpl : e.platform.magicAccessors = ({} : Platform).magicAccessors := by rw [X.admits.platform]
  obtain ⟨c3, c4, hc3, hc4, hasg⟩ := Cond.castable_spec hcast
  cases Option.some.inj (hc3.symm.trans hcl)
  obtain ⟨c5, hc5, hcl5⟩ := Cond.classLink_spec hown hlink e.platform hpl
  cases Option.some.inj (hc4.symm.trans hc5)
  obtain ⟨vm', X', st⟩ := X.thenCaughtThrough q (g := F0 m pc ls rest) rfl (Steps.refl _) (by rw [hT]; exact hcell) (by rw [hv]; rfl) (by obtain ⟨k9, h9, -⟩ := Vm.findClass_spec hcl; exact ⟨k9, h9⟩) pre x suf hsplit
    (fun z hz => by
      rcases hpass z hz with h | ⟨hz0, nm, hl1, hn1⟩
      · exact Or.inl h
      · obtain ⟨c6, hc6, hcl6⟩ := Cond.classLink_spec hown hl1 e.platform hpl
        obtain ⟨a8, b8, h1, h2, h3⟩ := hn1
        cases Option.some.inj (h1.symm.trans hcl)
        cases Option.some.inj (h2.symm.trans hc6)
        exact Or.inr ⟨hz0, _, hcl6, h3⟩) hx (Or.inr ⟨h0, c4, hcl5, hasg⟩)
  obtain ⟨t, a1, b1⟩ := kk (T.setVm vm') hT X'
  exact ⟨t, st.trans a1, b1⟩
end Rows
section Ends
variable {p : Program} {l : Launch} {e : Env} {R : Room} {s : State} {m : MethodId} {args : Array Value} {below : List Frame} {meth : Method} {c : Code} {H : Heap} {locs : List Loc} {cells slots : Nat} {Q : State → Prop}
variable {mc ms : Nat} {free : Addr → Prop} {A0 A1 : Nat → Prop} {H0 : Heap} {a : Array Value} {ls : Array Slot} {st0 rest : List Value}
variable {Qc : Array Value → State → Outcome → State → Prop} {XC : String → State → State → Prop}
/-- what a body that may throw owes at its end -/
def vx_MQ (below : List Frame) (Qc : Array Value → State → Outcome → State → Prop) (XC : String → State → State → Prop) (a : Array Value) (s : State) (mc ms : Nat) (free : Addr → Prop) : State → Prop := fun t =>
  ∃ o, t.status = .running ∧ Ended t below o ∧ vx_Q Qc XC mc ms free a s o t
theorem vx_ret {g : JFrame} {mc ms : Nat} (k : W p l e R s m args below meth c H locs cells slots (MQ below Qc args s mc ms free) g) : W p l e R s m args below meth c H locs cells slots (vx_MQ below Qc XC args s mc ms free) g := by
  intro T hT X
  obtain ⟨t, a1, o, b1, b2, b3, b4⟩ := k T hT X
  exact ⟨t, a1, o, b1, b2, Or.inl ⟨b3, b4⟩⟩
/-- not caught here: it goes on to the caller -/
theorem vx_widen {g : JFrame} {q : Addr} {k n : Nat} (h1 : cells ≤ k) (h2 : slots ≤ n) (kk : vx_W p l e R s m args below meth c H locs k n Q g q) : vx_W p l e R s m args below meth c H locs cells slots Q g q := fun T hT X => kk T hT (stand_widen X h1 h2)
theorem vx_out {pc : Nat} {E : String} {ce : Cell} {q : Addr} {mc ms : Nat} (hout : ∀ x ∈ c.exceptionTable.toList, covers x pc = false) (hlocks : meth.locks = false) (hcell : H[q]? = some ce) (hv : ce.vm = .none) (hcl : s.vm.findClass E = some ce.cls)
    (hx : ∀ t : State, t.heap = H → s.vm.Alike t.vm → XC E s t) (hf : ∀ z ∈ locs, free z.base) (hc : cells ≤ mc) (hs : slots ≤ ms) :
    vx_W p l e R s m args below meth c H locs cells slots (vx_MQ below Qc XC args s mc ms free) (F0 m pc ls rest) q := by
  intro T hT X
  obtain ⟨st1, hrun, hend, hW, hsm⟩ := X.leaveThrown q (g := F0 m pc ls rest) rfl rfl rfl hout hlocks
  have hcell9 : (T.setFrames (.throwing q :: below)).heap[q]? = some ce := by
    show T.heap[q]? = some ce
    rw [hT]; exact hcell
  exact ⟨_, st1, .threw q, hrun, hend, Or.inr ⟨q, rfl, E, ce, locs, hx _ hT hW.alike, hcell9, hv, hcl, hW, hsm.mono hc hs, hf⟩⟩
theorem vx_frame {U : State} {k n : Nat} (h : s.sameButNew ({ U with vm := s.vm } : State) locs k n) : s.heap.size ≤ U.heap.size ∧ ∀ q : Nat, q < s.heap.size → (∀ z ∈ locs, z.base ≠ q) → U.heap[q]? = s.heap[q]? := by
  obtain ⟨-, h2, -, -, -, h6⟩ := h
  refine ⟨h2, fun q hq hz => ?_⟩
  obtain ⟨c9, e1, e2, e3, e4⟩ := h6 q _ (Array.getElem?_eq_getElem hq)
  have hs : c9.slots = (s.heap[q]).slots := Array.ext_getElem? fun i => e4 i fun hm => hz _ hm rfl
  have h9 : c9 = s.heap[q] := by
    rw [hs] at e2
    exact e2
  have e5 : U.heap[q]? = some c9 := e1
  rw [e5, h9, Array.getElem?_eq_getElem hq]
/-- the words of a throw but the four that speak of the heap -/
def vx_no (w : Cond) : Bool := decide (w ≠ .isRef (.static Bundle.tN "UNASSIGNED_STACK" Bundle.steD)) && decide (w ≠ .isRef (.static Bundle.tN "SUPPRESSED_SENTINEL" Bundle.listD)) && decide (w ≠ .laysStatic Bundle.tN "UNASSIGNED_STACK" Bundle.steD) && decide (w ≠ .laysStatic Bundle.tN "SUPPRESSED_SENTINEL" Bundle.listD)
def vx_at0 (own : String) (ic : Nat) (X : String) (names : List String) : List Cond := (Bundle.ownAtoms0 own ic X names).filter vx_no
def vx_atS (own : String) (ic : Nat) (X : String) (names : List String) : List Cond := (Bundle.ownAtoms own ic X names).filter vx_no
/-- a word that the tables alone decide, or a good one -/
def vx_ot (w : Cond) : Bool := w.onTables || goodWord w
theorem vx_ot_at {args a' : Array Value} {s U : State} {w : Cond} (hW : s.WarmedH U.vm) (hvm : s.vm = U.vm) (hg : vx_ot w = true) (h : w.before args s = true) : w.before a' U = true := by
  simp only [vx_ot, Bool.or_eq_true] at hg
  rcases hg with hg | hg
  · exact va_tabs hg hvm h
  · exact word_at hW (good_of_word hg) h
/-- a list's words: the good ones out of the method's own list, the others by premises of their own -/
theorem vx_hat {args : Array Value} {s : State} {L B : List Cond} (h1 : ∀ w ∈ L.filter goodWord, w.before args s = true) (h2 : ∀ w ∈ L.filter (fun w => !goodWord w), w ∈ B) (h3 : ∀ w ∈ B, w.before args s = true) : ∀ w ∈ L, w.before args s = true := by
  intro w hw
  by_cases g : goodWord w = true
  · exact h1 w (List.mem_filter.mpr ⟨hw, g⟩)
  · refine h3 w (h2 w (List.mem_filter.mpr ⟨hw, ?_⟩))
    show (!goodWord w) = true
    cases hgw : goodWord w
    · rfl
    · exact absurd hgw g
theorem vx_c {args : Array Value} {s : State} {w : Cond} {B : List Cond} (h : w.before args s = true) (t : ∀ w ∈ B, w.before args s = true) : ∀ w' ∈ w :: B, w'.before args s = true := fun w' h' => (List.mem_cons.mp h').elim (fun e => by rw [e]; exact h) (t w')
theorem vx_n {args : Array Value} {s : State} : ∀ w ∈ ([] : List Cond), w.before args s = true := fun _ h => nomatch h
theorem vx_own {args : Array Value} {s : State} {L : List Cond} (h1 : ∀ w ∈ L.filter vx_no, w.before args s = true)
    (hU : (Cond.isRef (.static Bundle.tN "UNASSIGNED_STACK" Bundle.steD)).before args s = true) (hN : (Cond.isRef (.static Bundle.tN "SUPPRESSED_SENTINEL" Bundle.listD)).before args s = true)
    (lU : (Cond.laysStatic Bundle.tN "UNASSIGNED_STACK" Bundle.steD).before args s = true) (lN : (Cond.laysStatic Bundle.tN "SUPPRESSED_SENTINEL" Bundle.listD).before args s = true) : ∀ w ∈ L, w.before args s = true := by
  intro w hw
  by_cases e1 : w = .isRef (.static Bundle.tN "UNASSIGNED_STACK" Bundle.steD)
  · rw [e1]; exact hU
  · by_cases e2 : w = .isRef (.static Bundle.tN "SUPPRESSED_SENTINEL" Bundle.listD)
    · rw [e2]; exact hN
    · by_cases e3 : w = .laysStatic Bundle.tN "UNASSIGNED_STACK" Bundle.steD
      · rw [e3]; exact lU
      · by_cases e4 : w = .laysStatic Bundle.tN "SUPPRESSED_SENTINEL" Bundle.listD
        · rw [e4]; exact lN
        · exact h1 w (List.mem_filter.mpr ⟨hw, by unfold vx_no; rw [decide_eq_true e1, decide_eq_true e2, decide_eq_true e3, decide_eq_true e4]; rfl⟩)
/-- where a static field lies, its class's statics cell in H -/
def vx_L (C n d : String) (A : Nat → Prop) (U : State) (H : Heap) : Prop := ∃ (c : ClassId) (k : Class) (i : Nat) (f : Field) (a : Nat) (cell : Cell), U.vm.findClass C = some c ∧ U.fieldFound? C n d = some (c, k, i, f) ∧ f.isStatic = true ∧ k.statics = some a ∧ H[a]? = some cell ∧ cell.vm.isStatics = true ∧ cell.cls = c ∧ f.slot < cell.slots.size ∧ k.staticTypes[f.slot]? = some f.type ∧ ¬ A a
theorem vx_L.moved {C n d : String} {A : Nat → Prop} {u U : State} {H : Heap} (hvm : u.vm.Alike U.vm) (h : vx_L C n d A u H) : vx_L C n d A U H := by
  obtain ⟨c, k, i, f, a, cell, h1, h2, h3, h4, h5, h6, h7, h8, h9, h10⟩ := h
  obtain ⟨k', hi', he⟩ := State.fieldFound?_setVm hvm h2
  exact ⟨c, k', i, f, a, cell, by rw [hvm.findClass]; exact h1, hi', h3, by rw [he]; exact h4, h5, h6, h7, h8, by rw [he]; exact h9, h10⟩
theorem vx_L.kept {C n d : String} {A : Nat → Prop} {U : State} {H H1 : Heap} (h : vx_L C n d A U H) (hq : ∀ a : Nat, a < H.size → ¬ A a → H1[a]? = H[a]?) : vx_L C n d A U H1 := by
  obtain ⟨c, k, i, f, a, cell, h1, h2, h3, h4, h5, h6, h7, h8, h9, h10⟩ := h
  exact ⟨c, k, i, f, a, cell, h1, h2, h3, h4, by rw [hq a (Array.getElem?_eq_some_iff.mp h5).1 h10]; exact h5, h6, h7, h8, h9, h10⟩
theorem vx_L.narrow {C n d : String} {A B : Nat → Prop} {U : State} {H : Heap} (h : vx_L C n d A U H) (hAB : ∀ q, B q → A q) : vx_L C n d B U H := by
  obtain ⟨c, k, i, f, a, cell, h1, h2, h3, h4, h5, h6, h7, h8, h9, h10⟩ := h
  exact ⟨c, k, i, f, a, cell, h1, h2, h3, h4, h5, h6, h7, h8, h9, fun z => h10 (hAB _ z)⟩
theorem vx_L.word {C n d : String} {A : Nat → Prop} {s : State} {args : Array Value} (h : vx_L C n d A s s.heap) : (Cond.laysStatic C n d).before args s = true := by
  obtain ⟨c, k, i, f, a, cell, h1, h2, h3, h4, h5, h6, h7, h8, h9, -⟩ := h
  show (Cond.laysStatic C n d).holds args s none s [] = true
  exact Cond.laysStatic_of h1 h2 h3 h4 h5 h6 h7 h8 h9
/-- .. and what it holds: null or some reference -/
def vx_Zq (C n d : String) (A : Nat → Prop) (U : State) (H : Heap) : Prop := va_Zq C n d A U H ∧ vx_L C n d A U H
theorem vx_Zq.moved {C n d : String} {A : Nat → Prop} {u U : State} {H : Heap} (hvm : u.vm.Alike U.vm) (h : vx_Zq C n d A u H) : vx_Zq C n d A U H := ⟨va_Zq.moved hvm h.1, vx_L.moved hvm h.2⟩
theorem vx_Zq.kept {C n d : String} {A : Nat → Prop} {U : State} {H H1 : Heap} (h : vx_Zq C n d A U H) (hq : ∀ a : Nat, a < H.size → ¬ A a → H1[a]? = H[a]?) : vx_Zq C n d A U H1 := ⟨va_Zq.kept h.1 hq, vx_L.kept h.2 hq⟩
theorem vx_Zq.narrow {C n d : String} {A B : Nat → Prop} {U : State} {H : Heap} (h : vx_Zq C n d A U H) (hAB : ∀ q, B q → A q) : vx_Zq C n d B U H := ⟨va_Zq.narrow h.1 hAB, vx_L.narrow h.2 hAB⟩
theorem vx_Zqof {args : Array Value} {s : State} {C n d : String} {A : Nat → Prop} (hl : (Cond.laysStatic C n d).before args s = true) (hini : (Cond.initialized C).before args s = true) (h : (Cond.isRef (.static C n d)).before args s = true) (hA : ∀ a : Nat, a < s.heap.size → ¬ A a) : vx_Zq C n d A s s.heap := by
  refine ⟨va_Zqof hl hini h hA, ?_⟩
  obtain ⟨c, k, i, f, a, cell, h1, h2, h3, h4, h5, h6, h7, h8, h9⟩ := Cond.laysStatic_spec hl
  exact ⟨c, k, i, f, a, cell, h1, h2, h3, h4, h5, h6, h7, h8, h9, hA a (Array.getElem?_eq_some_iff.mp h5).1⟩
theorem vx_isRef {C n d : String} {v : Value} {A : Nat → Prop} {s : State} {args : Array Value} (h : va_Z C n d v A s s.heap) (hv : v.isRef = true) : (Cond.isRef (.static C n d)).before args s = true := by
  obtain ⟨cf, kf, fi, f, a, cell, h1, h2, h3, h4, h5, h6, h7, -⟩ := h
  have he : (Term.static C n d).eval args s none [] s = some v := by
    simp [Term.eval, State.fieldNamed?, h1, h2, h4, h5, h6, h7]
  simp only [Cond.before, Cond.holds, Cond.value, he]
  cases v <;> simp_all [Value.isRef]
theorem vx_isRefq {C n d : String} {A : Nat → Prop} {s : State} {args : Array Value} (h : va_Zq C n d A s s.heap) : (Cond.isRef (.static C n d)).before args s = true := by
  rcases h with h | ⟨t, h⟩
  · exact vx_isRef h rfl
  · exact vx_isRef h rfl
/-- the same frame, seen from here: as if the method were called anew in this heap -/
theorem vx_rebase {T : State} (X : Stand p l e R s m args below meth c T locs cells slots) {R' : Room} (hf : R'.frames ≤ R.frames) (hl : R'.locals ≤ R.locals) (hc : cells + R'.cells ≤ R.cells) (hs : slots + R'.slots ≤ R.slots) :
    Stand p l e R' ((T.setVm s.vm).setFrames (.invoking m args :: below)) m args below meth c T [] 0 0 := by
  have htop : (T.setVm s.vm).topJava?.isSome := X.here.top
  have hF : ((T.setVm s.vm).setFrames (.invoking m args :: below)).frames = .invoking m args :: below := State.frames_setFrames _ (State.cur_lt_of_top htop)
  obtain ⟨g₀, hg0⟩ := Option.isSome_iff_exists.mp htop
  obtain ⟨r, hr⟩ := State.topJava?_eq_some.mp hg0
  have hl9 : e.platform.stackLimits (T.setVm s.vm).me = e.platform.stackLimits s.me := X.limits
  have hb9 : (T.setVm s.vm).me.stackBytes = s.me.stackBytes := X.bytes
  refine ⟨X.admits, X.cas, X.clock, hF, ?_, X.hears, X.method, X.code, X.here, X.tail, X.warmed, ?_, ?_, ?_⟩
  · have h := X.room
    have hU : ((T.setVm s.vm).setFrames (.invoking m args :: below)).localsInUse = s.localsInUse := by
      rw [State.localsInUse_invoking hF (meth := meth) (c := c) X.method X.code, State.localsInUse_invoking X.frames X.method X.code]
    simp only [State.hasRoom, Bool.and_eq_true, decide_eq_true_eq] at h ⊢
    obtain ⟨⟨⟨⟨h1, h2, h3, h4, h5, h6⟩, h7⟩, h8⟩, h9⟩ := h
    rw [X.frames, List.length_cons] at h2 h3
    have q1 := X.heapSize
    have q2 := X.used
    simp only [hF, hU, List.length_cons, State.stackLimits_setFrames, State.stackBytes_setFrames, hl9, hb9]
    refine ⟨⟨⟨⟨by omega, by omega, by omega, by omega, by omega, h6⟩, ?_⟩, ?_⟩, X.book⟩
    · show T.heap.size + R'.cells ≤ e.platform.maxCells
      omega
    · show T.slotsUsed + R'.slots ≤ e.platform.maxSlots
      omega
  · rw [State.stackLimits_setFrames]; rfl
  · rw [State.stackBytes_setFrames]; rfl
  · refine ⟨?_, Nat.le_refl _, Nat.le_refl _, ?_, ?_, fun a c9 h9 => ⟨c9, h9, rfl, rfl, fun _ _ => rfl⟩⟩
    · obtain ⟨t, ht, -⟩ := State.frames_cons hr
      show T.setVm s.vm = { ((T.setVm s.vm).setFrames (.invoking m args :: below)).setFrames (T.setVm s.vm).frames with heap := T.heap, slotsUsed := T.slotsUsed }
      rw [State.setFrames_setFrames, State.setFrames_self ht]
      rfl
    · show T.slotsUsed = T.slotsUsed + ((T.heap.toList.drop T.heap.size).map (·.slots.size)).sum
      rw [List.drop_eq_nil_of_le (Nat.le_of_eq Array.length_toList)]
      rfl
    · show ((T.heap.toList.drop T.heap.size).map (·.slots.size)).sum ≤ 0
      rw [List.drop_eq_nil_of_le (Nat.le_of_eq Array.length_toList)]
      exact Nat.le_refl _
/-- 'throw new E()': new; dup; invokespecial; athrow -/
theorem vx_throw0 {cc : ByteArray} {pc : Nat} (hexec : p.tables.exec = Jvm.exec) (hb : c.code = cc) (hl : l.stackTraces = false) {own cls : String} {names : List String} {ik ic mc ms : Nat} {A : Nat → Prop}
    (hown : s.vm.findClass own = some m.cls) (hcls : Bundle.fit cls = true) (hnames : ∀ n ∈ names, Bundle.fit n = true)
    (hk : (Cond.classLink own ik cls).before args s = true) (hini : (Cond.initialized cls).before args s = true) (hat : ∀ w ∈ vx_at0 own ic cls names, w.before args s = true)
    (hgood : ∀ w ∈ Cond.classLink own ik cls :: Cond.initialized cls :: vx_at0 own ic cls names, vx_ot w = true)
    (hU : vx_Zq Bundle.tN "UNASSIGNED_STACK" Bundle.steD A s s.heap) (hN : vx_Zq Bundle.tN "SUPPRESSED_SENTINEL" Bundle.listD A s s.heap) (hS : va_S A s.heap H locs) (hsize : ls.size = c.maxLocals)
    (d0 : decode cc pc = .ok (.new ik, 3)) (d3 : decode cc (pc + 3) = .ok (.dup, 1)) (d4 : decode cc (pc + 4) = .ok (.invokespecial ic, 3)) (d7 : decode cc (pc + 7) = .ok (.athrow, 1))
    (hout : ∀ x ∈ c.exceptionTable.toList, covers x (pc + 7) = false)
    (hRframes : names.length + 3 < R.frames) (hRlocals : (rest.map fun v => v.category).sum + (13 * (names.length + 1) + 42) ≤ R.locals) (hRcells : cells + 1 ≤ R.cells) (hRslots : slots + 6 ≤ R.slots) (hlocks : meth.locks = false)
    (hx : ∀ t : State, s.vm.Alike t.vm → H.size ≤ t.heap.size → (∀ q : Nat, q < H.size → t.heap[q]? = H[q]?) → XC cls s t)
    (hf : ∀ z ∈ locs, free z.base) (hc : cells + 1 ≤ mc) (hs : slots + 6 ≤ ms) :
    W p l e R s m args below meth c H locs cells slots (vx_MQ below Qc XC args s mc ms free) (F0 m pc ls rest) := by
  intro T hT X
  have htr : e.platform.stackTraces = false := (show e.platform.stackTraces = l.stackTraces by rw [X.admits.platform]).trans hl
  have Y := vx_rebase X (R' := { frames := R.frames, locals := R.locals, cells := 1, slots := 6 }) (Nat.le_refl _) (Nat.le_refl _) hRcells hRslots
  obtain ⟨s', hA⟩ : ∃ z, z = (T.setVm s.vm).setFrames (.invoking m args :: below) := ⟨_, rfl⟩
  rw [← hA] at Y
  have hvm : s'.vm = s.vm := by rw [hA]; rfl
  have hhp : s'.heap = H := by rw [hA]; exact hT
  have hW0 : s.WarmedH s'.vm := by rw [hvm]; exact State.WarmedH.refl s
  have hat' : ∀ w ∈ vx_at0 own ic cls names, w.before args s' = true := fun w hw => vx_ot_at hW0 hvm.symm (hgood w (List.mem_cons_of_mem _ (List.mem_cons_of_mem _ hw))) (hat w hw)
  have hk' : (Cond.classLink own ik cls).before args s' = true := vx_ot_at hW0 hvm.symm (hgood _ List.mem_cons_self) hk
  have hini' : (Cond.initialized cls).before args s' = true := vx_ot_at hW0 hvm.symm (hgood _ (List.mem_cons_of_mem _ List.mem_cons_self)) hini
  have hU' : vx_Zq Bundle.tN "UNASSIGNED_STACK" Bundle.steD A s' s'.heap := by rw [hhp]; exact vx_Zq.moved hW0.alike (hU.kept hS.2.1)
  have hN' : vx_Zq Bundle.tN "SUPPRESSED_SENTINEL" Bundle.listD A s' s'.heap := by rw [hhp]; exact vx_Zq.moved hW0.alike (hN.kept hS.2.1)
  have h : ∀ w ∈ Bundle.ownAtoms0 own ic cls names, w.before args s' = true := vx_own hat' (vx_isRefq hU'.1) (vx_isRefq hN'.1) hU'.2.word hN'.2.word
  have hown' : s'.vm.findClass own = some m.cls := by rw [hvm]; exact hown
  have hins : (Cond.instantiable cls 6).before args s' = true := h _ (by simp [Bundle.ownAtoms0])
  obtain ⟨vm₁, cX, kX, hfX, hkX, -, -, X₁, st1⟩ := Y.newCold hexec (own := own) (C := cls) (index := ik) (n := 6) hown' hk' hins hini'
    (g := F0 m pc ls rest) rfl (by rw [hb]; exact d0) (Nat.le_refl _) (Nat.le_refl _)
  generalize hT1 : (T.setVm vm₁).pushCell { cls := cX, slots := kX.instanceTypes.map defaultValue, vm := .none } = T1 at X₁ st1
  have hcat : (Value.ref T.heap.size).category = 1 := rfl
  have hcellA : T1.heap[T.heap.size]? = some (freshCell cX kX) := by rw [← hT1]; exact State.heap_pushCell_size _ _
  have d3' : decode c.code (pc + 3) = .ok (.dup, 1) := by rw [hb]; exact d3
  obtain ⟨U, hsteps, hrun, hend, hW, hsame, ce, hce, hO⟩ := X₁.ctorThrow0 hexec htr (own := own) (cls := cls) (names := names) (ic := ic) hown' hcls hnames h (fun x hx => nomatch hx) hfX hkX hcellA (by rw [hhp, hT]; exact Nat.le_refl _)
    (g := { method := m, pc := pc + 4, locals := ls, stack := .ref T.heap.size :: .ref T.heap.size :: rest, locked := none }) rfl hsize rfl rfl (rest := rest) rfl
    (by rw [hb]; exact d4) (by rw [hb]; exact d7) hout hRframes (by simp only [List.map_cons, List.sum_cons, hcat]; omega) hlocks
  obtain ⟨f1, f2⟩ := vx_frame hsame
  rw [hhp] at f1 f2
  have hWs : s.WarmedH U.vm := State.WarmedH.trans hW0 hW
  have hcl : s.vm.findClass cls = some ce.cls := by
    have h9 := hO.cls
    rw [hvm] at h9
    exact h9
  have hall : s.sameButNew ({ U with vm := s.vm } : State) locs mc ms := by
    subst hA
    obtain ⟨e1, e2⟩ := hsame
    rw [State.setFrames_setFrames] at e1
    have h2 : (T.setVm s.vm).sameButNew ({ U with vm := s.vm } : State) [] (0 + 1) (0 + 6) := ⟨e1, e2⟩
    have h3 := X.same.trans h2
    rw [List.append_nil] at h3
    exact h3.mono hc hs
  refine ⟨U, ?_, .threw T.heap.size, hrun, hend, Or.inr ⟨T.heap.size, rfl, cls, ce, locs, hx U hWs.alike f1 (fun q hq => f2 q hq (fun z hz => nomatch hz)), hce, hO.vm, hcl, hWs, hall, hf⟩⟩
  refine st1 _ ?_
  show Steps p.tables e below (T1.setTop { method := m, pc := pc + 3, locals := ls, stack := .ref T.heap.size :: rest, locked := none }) _
  jvm_step X₁.here [X₁.here.top, hexec, d3', Value.category]
  exact hsteps
/-- 'throw new E("text")': new; dup; ldc; invokespecial; athrow -/
theorem vx_throwS {cc : ByteArray} {pc : Nat} (hexec : p.tables.exec = Jvm.exec) (hb : c.code = cc) (hl : l.stackTraces = false) {own cls text : String} {names : List String} {ik is ic mc ms sa : Nat} {A : Nat → Prop}
    (hown : s.vm.findClass own = some m.cls) (hcls : Bundle.fit cls = true) (hnames : ∀ n ∈ names, Bundle.fit n = true)
    (hk : (Cond.classLink own ik cls).before args s = true) (hini : (Cond.initialized cls).before args s = true) (hstr : vk_R own is text sa s) (hat : ∀ w ∈ vx_atS own ic cls names, w.before args s = true)
    (hgood : ∀ w ∈ Cond.classLink own ik cls :: Cond.initialized cls :: vx_atS own ic cls names, vx_ot w = true)
    (hU : vx_Zq Bundle.tN "UNASSIGNED_STACK" Bundle.steD A s s.heap) (hN : vx_Zq Bundle.tN "SUPPRESSED_SENTINEL" Bundle.listD A s s.heap) (hS : va_S A s.heap H locs) (hsize : ls.size = c.maxLocals)
    (d0 : decode cc pc = .ok (.new ik, 3)) (d3 : decode cc (pc + 3) = .ok (.dup, 1)) (d4 : decode cc (pc + 4) = .ok (.ldc is, 2)) (d6 : decode cc (pc + 6) = .ok (.invokespecial ic, 3)) (d9 : decode cc (pc + 9) = .ok (.athrow, 1))
    (hout : ∀ x ∈ c.exceptionTable.toList, covers x (pc + 9) = false)
    (hRframes : names.length + 3 < R.frames) (hRlocals : (rest.map fun v => v.category).sum + (13 * (names.length + 1) + 43) ≤ R.locals) (hRcells : cells + 1 ≤ R.cells) (hRslots : slots + 6 ≤ R.slots) (hlocks : meth.locks = false)
    (hx : ∀ t : State, s.vm.Alike t.vm → H.size ≤ t.heap.size → (∀ q : Nat, q < H.size → t.heap[q]? = H[q]?) → XC cls s t)
    (hf : ∀ z ∈ locs, free z.base) (hc : cells + 1 ≤ mc) (hs : slots + 6 ≤ ms) :
    W p l e R s m args below meth c H locs cells slots (vx_MQ below Qc XC args s mc ms free) (F0 m pc ls rest) := by
  intro T hT X
  have htr : e.platform.stackTraces = false := (show e.platform.stackTraces = l.stackTraces by rw [X.admits.platform]).trans hl
  have Y := vx_rebase X (R' := { frames := R.frames, locals := R.locals, cells := 1, slots := 6 }) (Nat.le_refl _) (Nat.le_refl _) hRcells hRslots
  obtain ⟨s', hA⟩ : ∃ z, z = (T.setVm s.vm).setFrames (.invoking m args :: below) := ⟨_, rfl⟩
  rw [← hA] at Y
  have hvm : s'.vm = s.vm := by rw [hA]; rfl
  have hhp : s'.heap = H := by rw [hA]; exact hT
  have hW0 : s.WarmedH s'.vm := by rw [hvm]; exact State.WarmedH.refl s
  have hat' : ∀ w ∈ vx_atS own ic cls names, w.before args s' = true := fun w hw => vx_ot_at hW0 hvm.symm (hgood w (List.mem_cons_of_mem _ (List.mem_cons_of_mem _ hw))) (hat w hw)
  have hk' : (Cond.classLink own ik cls).before args s' = true := vx_ot_at hW0 hvm.symm (hgood _ List.mem_cons_self) hk
  have hini' : (Cond.initialized cls).before args s' = true := vx_ot_at hW0 hvm.symm (hgood _ (List.mem_cons_of_mem _ List.mem_cons_self)) hini
  have hU' : vx_Zq Bundle.tN "UNASSIGNED_STACK" Bundle.steD A s' s'.heap := by rw [hhp]; exact vx_Zq.moved hW0.alike (hU.kept hS.2.1)
  have hN' : vx_Zq Bundle.tN "SUPPRESSED_SENTINEL" Bundle.listD A s' s'.heap := by rw [hhp]; exact vx_Zq.moved hW0.alike (hN.kept hS.2.1)
  have h : ∀ w ∈ Bundle.ownAtoms own ic cls names, w.before args s' = true := vx_own hat' (vx_isRefq hU'.1) (vx_isRefq hN'.1) hU'.2.word hN'.2.word
  have hown' : s'.vm.findClass own = some m.cls := by rw [hvm]; exact hown
  have hins : (Cond.instantiable cls 6).before args s' = true := h _ (by simp [Bundle.ownAtoms])
  obtain ⟨vm₁, cX, kX, hfX, hkX, -, -, X₁, st1⟩ := Y.newCold hexec (own := own) (C := cls) (index := ik) (n := 6) hown' hk' hins hini'
    (g := F0 m pc ls rest) rfl (by rw [hb]; exact d0) (Nat.le_refl _) (Nat.le_refl _)
  generalize hT1 : (T.setVm vm₁).pushCell { cls := cX, slots := kX.instanceTypes.map defaultValue, vm := .none } = T1 at X₁ st1
  have hcat : (Value.ref T.heap.size).category = 1 := rfl
  have hcellA : T1.heap[T.heap.size]? = some (freshCell cX kX) := by rw [← hT1]; exact State.heap_pushCell_size _ _
  have d3' : decode c.code (pc + 3) = .ok (.dup, 1) := by rw [hb]; exact d3
  have d4' : decode c.code (pc + 4) = .ok (.ldc is, 2) := by rw [hb]; exact d4
  have hstr' : vk_R own is text sa s' := vk_R.warm hW0 hstr
  obtain ⟨U, hsteps, hrun, hend, hW, hsame, ce, hce, hO⟩ := X₁.ctorThrowS hexec htr (own := own) (cls := cls) (names := names) (ic := ic) hown' hcls hnames h (fun x hx => nomatch hx) hfX hkX hcellA (by rw [hhp, hT]; exact Nat.le_refl _) (msg := .ref sa) rfl
    (g := { method := m, pc := pc + 6, locals := ls, stack := .ref sa :: .ref T.heap.size :: .ref T.heap.size :: rest, locked := none }) rfl hsize rfl rfl (rest := rest) rfl
    (by rw [hb]; exact d6) (by rw [hb]; exact d9) hout hRframes (by simp only [List.map_cons, List.sum_cons, hcat]; omega) hlocks
  obtain ⟨f1, f2⟩ := vx_frame hsame
  rw [hhp] at f1 f2
  have hWs : s.WarmedH U.vm := State.WarmedH.trans hW0 hW
  have hcl : s.vm.findClass cls = some ce.cls := by
    have h9 := hO.cls
    rw [hvm] at h9
    exact h9
  have hall : s.sameButNew ({ U with vm := s.vm } : State) locs mc ms := by
    subst hA
    obtain ⟨e1, e2⟩ := hsame
    rw [State.setFrames_setFrames] at e1
    have h2 : (T.setVm s.vm).sameButNew ({ U with vm := s.vm } : State) [] (0 + 1) (0 + 6) := ⟨e1, e2⟩
    have h3 := X.same.trans h2
    rw [List.append_nil] at h3
    exact h3.mono hc hs
  refine ⟨U, ?_, .threw T.heap.size, hrun, hend, Or.inr ⟨T.heap.size, rfl, cls, ce, locs, hx U hWs.alike f1 (fun q hq => f2 q hq (fun z hz => nomatch hz)), hce, hO.vm, hcl, hWs, hall, hf⟩⟩
  refine st1 _ ?_
  show Steps p.tables e below (T1.setTop { method := m, pc := pc + 3, locals := ls, stack := .ref T.heap.size :: rest, locked := none }) _
  jvm_step X₁.here [X₁.here.top, hexec, d3', Value.category]
  exact X₁.ldcString hexec (own := own) (text := text) (index := is) (a := sa) hown' hstr'.1 hstr'.2
    (g := { method := m, pc := pc + 4, locals := ls, stack := .ref T.heap.size :: .ref T.heap.size :: rest, locked := none }) rfl d4' _ hsteps
/-- 'throw new E("text")', the text by a wide index -/
theorem vx_throwSW {cc : ByteArray} {pc : Nat} (hexec : p.tables.exec = Jvm.exec) (hb : c.code = cc) (hl : l.stackTraces = false) {own cls text : String} {names : List String} {ik is ic mc ms sa : Nat} {A : Nat → Prop}
    (hown : s.vm.findClass own = some m.cls) (hcls : Bundle.fit cls = true) (hnames : ∀ n ∈ names, Bundle.fit n = true)
    (hk : (Cond.classLink own ik cls).before args s = true) (hini : (Cond.initialized cls).before args s = true) (hstr : vk_R own is text sa s) (hat : ∀ w ∈ vx_atS own ic cls names, w.before args s = true)
    (hgood : ∀ w ∈ Cond.classLink own ik cls :: Cond.initialized cls :: vx_atS own ic cls names, vx_ot w = true)
    (hU : vx_Zq Bundle.tN "UNASSIGNED_STACK" Bundle.steD A s s.heap) (hN : vx_Zq Bundle.tN "SUPPRESSED_SENTINEL" Bundle.listD A s s.heap) (hS : va_S A s.heap H locs) (hsize : ls.size = c.maxLocals)
    (d0 : decode cc pc = .ok (.new ik, 3)) (d3 : decode cc (pc + 3) = .ok (.dup, 1)) (d4 : decode cc (pc + 4) = .ok (.ldc_w is, 3)) (d7 : decode cc (pc + 7) = .ok (.invokespecial ic, 3)) (d10 : decode cc (pc + 10) = .ok (.athrow, 1))
    (hout : ∀ x ∈ c.exceptionTable.toList, covers x (pc + 10) = false)
    (hRframes : names.length + 3 < R.frames) (hRlocals : (rest.map fun v => v.category).sum + (13 * (names.length + 1) + 43) ≤ R.locals) (hRcells : cells + 1 ≤ R.cells) (hRslots : slots + 6 ≤ R.slots) (hlocks : meth.locks = false)
    (hx : ∀ t : State, s.vm.Alike t.vm → H.size ≤ t.heap.size → (∀ q : Nat, q < H.size → t.heap[q]? = H[q]?) → XC cls s t)
    (hf : ∀ z ∈ locs, free z.base) (hc : cells + 1 ≤ mc) (hs : slots + 6 ≤ ms) :
    W p l e R s m args below meth c H locs cells slots (vx_MQ below Qc XC args s mc ms free) (F0 m pc ls rest) := by
  intro T hT X
  have htr : e.platform.stackTraces = false := (show e.platform.stackTraces = l.stackTraces by rw [X.admits.platform]).trans hl
  have Y := vx_rebase X (R' := { frames := R.frames, locals := R.locals, cells := 1, slots := 6 }) (Nat.le_refl _) (Nat.le_refl _) hRcells hRslots
  obtain ⟨s', hA⟩ : ∃ z, z = (T.setVm s.vm).setFrames (.invoking m args :: below) := ⟨_, rfl⟩
  rw [← hA] at Y
  have hvm : s'.vm = s.vm := by rw [hA]; rfl
  have hhp : s'.heap = H := by rw [hA]; exact hT
  have hW0 : s.WarmedH s'.vm := by rw [hvm]; exact State.WarmedH.refl s
  have hat' : ∀ w ∈ vx_atS own ic cls names, w.before args s' = true := fun w hw => vx_ot_at hW0 hvm.symm (hgood w (List.mem_cons_of_mem _ (List.mem_cons_of_mem _ hw))) (hat w hw)
  have hk' : (Cond.classLink own ik cls).before args s' = true := vx_ot_at hW0 hvm.symm (hgood _ List.mem_cons_self) hk
  have hini' : (Cond.initialized cls).before args s' = true := vx_ot_at hW0 hvm.symm (hgood _ (List.mem_cons_of_mem _ List.mem_cons_self)) hini
  have hU' : vx_Zq Bundle.tN "UNASSIGNED_STACK" Bundle.steD A s' s'.heap := by rw [hhp]; exact vx_Zq.moved hW0.alike (hU.kept hS.2.1)
  have hN' : vx_Zq Bundle.tN "SUPPRESSED_SENTINEL" Bundle.listD A s' s'.heap := by rw [hhp]; exact vx_Zq.moved hW0.alike (hN.kept hS.2.1)
  have h : ∀ w ∈ Bundle.ownAtoms own ic cls names, w.before args s' = true := vx_own hat' (vx_isRefq hU'.1) (vx_isRefq hN'.1) hU'.2.word hN'.2.word
  have hown' : s'.vm.findClass own = some m.cls := by rw [hvm]; exact hown
  have hins : (Cond.instantiable cls 6).before args s' = true := h _ (by simp [Bundle.ownAtoms])
  obtain ⟨vm₁, cX, kX, hfX, hkX, -, -, X₁, st1⟩ := Y.newCold hexec (own := own) (C := cls) (index := ik) (n := 6) hown' hk' hins hini'
    (g := F0 m pc ls rest) rfl (by rw [hb]; exact d0) (Nat.le_refl _) (Nat.le_refl _)
  generalize hT1 : (T.setVm vm₁).pushCell { cls := cX, slots := kX.instanceTypes.map defaultValue, vm := .none } = T1 at X₁ st1
  have hcat : (Value.ref T.heap.size).category = 1 := rfl
  have hcellA : T1.heap[T.heap.size]? = some (freshCell cX kX) := by rw [← hT1]; exact State.heap_pushCell_size _ _
  have d3' : decode c.code (pc + 3) = .ok (.dup, 1) := by rw [hb]; exact d3
  have d4' : decode c.code (pc + 4) = .ok (.ldc_w is, 3) := by rw [hb]; exact d4
  have hstr' : vk_R own is text sa s' := vk_R.warm hW0 hstr
  obtain ⟨U, hsteps, hrun, hend, hW, hsame, ce, hce, hO⟩ := X₁.ctorThrowS hexec htr (own := own) (cls := cls) (names := names) (ic := ic) hown' hcls hnames h (fun x hx => nomatch hx) hfX hkX hcellA (by rw [hhp, hT]; exact Nat.le_refl _) (msg := .ref sa) rfl
    (g := { method := m, pc := pc + 7, locals := ls, stack := .ref sa :: .ref T.heap.size :: .ref T.heap.size :: rest, locked := none }) rfl hsize rfl rfl (rest := rest) rfl
    (by rw [hb]; exact d7) (by rw [hb]; exact d10) hout hRframes (by simp only [List.map_cons, List.sum_cons, hcat]; omega) hlocks
  obtain ⟨f1, f2⟩ := vx_frame hsame
  rw [hhp] at f1 f2
  have hWs : s.WarmedH U.vm := State.WarmedH.trans hW0 hW
  have hcl : s.vm.findClass cls = some ce.cls := by
    have h9 := hO.cls
    rw [hvm] at h9
    exact h9
  have hall : s.sameButNew ({ U with vm := s.vm } : State) locs mc ms := by
    subst hA
    obtain ⟨e1, e2⟩ := hsame
    rw [State.setFrames_setFrames] at e1
    have h2 : (T.setVm s.vm).sameButNew ({ U with vm := s.vm } : State) [] (0 + 1) (0 + 6) := ⟨e1, e2⟩
    have h3 := X.same.trans h2
    rw [List.append_nil] at h3
    exact h3.mono hc hs
  refine ⟨U, ?_, .threw T.heap.size, hrun, hend, Or.inr ⟨T.heap.size, rfl, cls, ce, locs, hx U hWs.alike f1 (fun q hq => f2 q hq (fun z hz => nomatch hz)), hce, hO.vm, hcl, hWs, hall, hf⟩⟩
  refine st1 _ ?_
  show Steps p.tables e below (T1.setTop { method := m, pc := pc + 3, locals := ls, stack := .ref T.heap.size :: rest, locked := none }) _
  jvm_step X₁.here [X₁.here.top, hexec, d3', Value.category]
  exact X₁.ldcStringW hexec (own := own) (text := text) (index := is) (a := sa) hown' hstr'.1 hstr'.2
    (g := { method := m, pc := pc + 4, locals := ls, stack := .ref T.heap.size :: .ref T.heap.size :: rest, locked := none }) rfl d4' _ hsteps
end Ends
section Bodies
variable {l : Launch}
theorem vx_ofW {y : MethodName} {ws ws' : List Cond} {rm : Room} {Pc : Array Value → State → Prop} {Qc : Array Value → State → Outcome → State → Prop} {XC : String → State → State → Prop} {mc ms : Nat} {free : Addr → Prop} {cc : ByteArray} {maxL : Nat} {ret : Option FieldType}
    (hy : plainName y.cls = true) (hw : ws = Cond.code y cc maxL ret :: ws')
    (body : ∀ p e s m args below meth c s₁, BodyLoose p l y (headSpec ws rm) cc maxL ret e s m args below meth c s₁ → c.maxLocals = maxL → (∀ x ∈ c.exceptionTable.toList, False) → Pc args s →
      W p l e (headSpec ws rm).room s m args below meth c s.heap [] 0 0 (vx_MQ below Qc XC args s mc ms free) (entryFrame m args maxL)) : vx_Met l y ws rm Pc Qc XC mc ms free := by
  refine MetFree.of_bodyS (code := cc) (maxLocals := maxL) (ret := ret) hy ?_ ?_
  · intro args s m h hn
    obtain ⟨meth, c, h1, h2, h3, h4, h5, h6, -, -⟩ := Cond.code_spec hn (atoms_spec (ws := ws) h _ (by rw [hw]; exact List.mem_cons_self))
    exact ⟨meth, c, h1, h2, h3, h4, h5, h6⟩
  · intro p e s m args below meth c s₁ B hml hP _
    have hh0 : s₁.heap = s.heap := by rw [B.state]; rfl
    have ht : ∀ x ∈ c.exceptionTable.toList, False := by
      obtain ⟨meth9, c9, h1, h2, -, -, -, -, h7, -⟩ := Cond.code_spec B.named (atoms_spec (ws := ws) B.pre _ (by rw [hw]; exact List.mem_cons_self))
      cases Option.some.inj (h1.symm.trans B.method)
      cases Option.some.inj (h2.symm.trans (Stand.of_body B).code)
      intro x hx
      rw [Array.isEmpty_iff.mp h7] at hx
      cases hx
    obtain ⟨t, a1, o, b1, b2, b3⟩ := body p e s m args below meth c s₁ B hml ht hP s₁ hh0 (Stand.of_body B)
    exact ⟨t, o, a1, b1, b2, b3⟩
/-- the table of a body with handlers -/
theorem vx_table {p : Program} {x y : MethodName} {S : Spec} {cc bytes : ByteArray} {maxL maxL' : Nat} {ret ret' : Option FieldType} {e : Env} {s s₁ : State} {m : MethodId} {args : Array Value} {below : List Frame} {meth : Method} {c : Code} {hh : List (Nat × Nat × Nat × Nat)}
    (B : BodyLoose p l y S cc maxL ret e s m args below meth c s₁) (h : (Cond.codeWith y bytes maxL' ret' hh).before args s = true) : c.exceptionTable.toList = tableOf hh := by
  obtain ⟨m9, meth9, c9, hn9, h1, h2, -, -, h6, -⟩ := Cond.codeWith_spec h
  cases Option.some.inj (hn9.symm.trans B.named)
  cases Option.some.inj (h1.symm.trans B.method)
  cases Option.some.inj (h2.symm.trans (Stand.of_body B).code)
  rw [← h6, table_eq]
end Bodies
end VXA
/-! ===== END ===== -/
/-! ===== BEGIN a static call of a method with an exception table ===== -/
section VXS
variable {p : Program} {l : Launch} {e : Env} {R : Room} {s : State} {m : MethodId} {args : Array Value} {below : List Frame} {meth : Method} {c : Code} {T : State} {H : Heap} {locs : List Loc} {cells slots : Nat}
abbrev vx_CSW (R : Room) (s : State) (args : Array Value) (own : String) (index : Nat) (y : MethodName) (bytes : ByteArray) (maxL : Nat) (ret : Option FieldType) (hh : List (Nat × Nat × Nat × Nat)) (ws : List Cond) (rm : Room) (mc ms n : Nat) : Prop :=
  (rm.cells = mc ∧ rm.slots = ms ∧ rm.frames + 1 ≤ R.frames ∧ 8 + (maxL + 11) + rm.locals ≤ R.locals ∧ (∀ w ∈ ws, ∀ (a' : Array Value) (U : State), s.WarmedH U.vm → w.before a' U = true) ∧ Cond.codeWith y bytes maxL ret hh ∈ ws) ∧
  (Cond.codeWith y bytes maxL ret hh).before args s = true ∧ (Cond.initialized y.cls).before args s = true ∧ (y.cls ≠ "java/lang/invoke/MethodHandle" ∧ y.cls ≠ "java/lang/invoke/VarHandle") ∧
  (∀ sig, parseMethodDescriptor y.desc = some sig → n = sig.parameters.length) ∧ (Cond.methodLink own index y).before args s = true ∧ (Cond.static y).before args s = true
theorem vx_cwSW {own : String} {index maxL mc ms : Nat} {y : MethodName} {bytes : ByteArray} {ret : Option FieldType} {hh : List (Nat × Nat × Nat × Nat)} {Ts ws ws' : List Cond} {rm : Room} (n : Nat) (ht : ∀ w ∈ Ts, w.before args s = true) (hT : GoodIn Ts (va_wsS own index y ws)) (hw : ws = Cond.codeWith y bytes maxL ret hh :: ws') (hrc : rm.cells = mc) (hrs : rm.slots = ms)
    (hd : y.cls ≠ "java/lang/invoke/MethodHandle" ∧ y.cls ≠ "java/lang/invoke/VarHandle" ∧ (parseMethodDescriptor y.desc).map (fun d => d.parameters.length) = some n) (hR : rm.frames + 1 ≤ R.frames ∧ 8 + (maxL + 11) + rm.locals ≤ R.locals) :
    vx_CSW R s args own index y bytes maxL ret hh ws rm mc ms n := by
  have ok : ∀ w ∈ va_wsS own index y ws, w.before args s = true := fun w h => ht w (hT w h).1
  have hG : GoodIn Ts ws := fun w h => hT w (by unfold va_wsS; exact List.mem_append_right _ h)
  have hc : Cond.codeWith y bytes maxL ret hh ∈ ws := by rw [hw]; exact List.mem_cons_self
  refine ⟨⟨hrc, hrs, hR.1, hR.2, pay_in ht hG, hc⟩, ht _ (hG _ hc).1, ok _ (by simp [va_wsS]), ⟨hd.1, hd.2.1⟩, fun sig h => ?_, ok _ (by simp [va_wsS]), ok _ (by simp [va_wsS])⟩
  have h2 := hd.2.2
  rw [h] at h2
  exact (Option.some.inj h2).symm
theorem vx_callSW (X : Stand p l e R s m args below meth c T locs cells slots) (hexec : p.tables.exec = Jvm.exec) {own : String} {index : Nat} {y : MethodName} {bytes : ByteArray} {maxL : Nat} {ret : Option FieldType} {hh : List (Nat × Nat × Nat × Nat)}
    (hown : s.vm.findClass own = some m.cls) (hlink : (Cond.methodLink own index y).before args s = true) (hstat : (Cond.static y).before args s = true) (hinit : (Cond.initialized y.cls).before args s = true)
    (hcode : (Cond.codeWith y bytes maxL ret hh).before args s = true) (hy : y.cls ≠ "java/lang/invoke/MethodHandle" ∧ y.cls ≠ "java/lang/invoke/VarHandle")
    {W9 : Nat} {Pre : Pt → Array Value → Prop} {Post : Pt → Array Value → Option Value → Pt → Prop} (hK : Back l R p e below s args y 3 W9 Pre Post)
    {g : JFrame} (hg : g.method = m) (hsize : g.locals.size = c.maxLocals) {argsL rest : List Value} (hlen : ∀ sig, parseMethodDescriptor y.desc = some sig → argsL.length = sig.parameters.length)
    (hstack : g.stack = argsL.reverse ++ rest) (hW : 2 * g.monitorRoom + (rest.map fun v => v.category).sum ≤ W9) (hdg : decode c.code g.pc = .ok (.invokestatic index, 3))
    (hpre : ∀ vm₁, s.WarmedH vm₁ → Pre ⟨T.setVm vm₁, locs, cells, slots⟩ argsL.toArray) :
    ∃ (v : Option Value) (vm₁ : Vm) (B : Pt), s.WarmedH vm₁ ∧ Stand p l e R s m args below meth c B.U B.locs B.cells B.slots ∧ Post ⟨T.setVm vm₁, locs, cells, slots⟩ argsL.toArray v B ∧
      ∀ target, Steps p.tables e below (B.U.setTop { g with pc := g.pc + 3, stack := v.toList ++ rest }) target → Steps p.tables e below (T.setTop g) target := by
  obtain ⟨mk, methM, cM, hnamed, hmethM, -, -, -, -, -, -, hsigM⟩ := Cond.codeWith_spec hcode
  have hstatic : methM.isStatic = true := Cond.static_spec hnamed hmethM hstat
  obtain ⟨kP, hkP, -⟩ := className_of_methodNamed hnamed
  have hinitP : kP.init = .initialized := Cond.initialized_spec (findClass_of_methodNamed hnamed) hkP hinit
  obtain ⟨vm₁, X₁, hstep₁⟩ := X.invokestatic hexec hown hlink hnamed hmethM hstatic hkP hinitP hy (g := g) hg (argsL := argsL) (rest := rest) (hlen _ hsigM) hstack hdg
  obtain ⟨v, B, X', hpost, hsteps⟩ := hK m meth c ⟨T.setVm vm₁, locs, cells, slots⟩ { g with stack := rest } (.invokestatic index) mk argsL.toArray X₁ hg hsize hdg hW (X₁.named hnamed) (hpre vm₁ X₁.warmed)
  exact ⟨v, vm₁, B, X₁.warmed, X', hpost, fun target h => hstep₁ _ fun acts => by rw [doInvoke_state]; exact hsteps.trans h⟩
theorem vx_runSW {y : MethodName} {bytes cc : ByteArray} {maxL nL mc ms n index : Nat} {ret : Option FieldType} {hh : List (Nat × Nat × Nat × Nat)} {ws : List Cond} {rm : Room} {Pc : Array Value → State → Prop} {Qc : Array Value → State → Outcome → State → Prop} {free : Addr → Prop} {Ts : List Cond} {own : String} {As rest : List Value} {g : JFrame}
    (S : CallFix p m c cc nL s args Ts own) (hM : Met l y ws rm Pc Qc mc ms free) (cw : vx_CSW R s args own index y bytes maxL ret hh ws rm mc ms n) (hp : PreS s H Pc As)
    (hg : g.method = m) (hn : As.length = n) (hsize : g.locals.size = nL) (hstack : g.stack = As.reverse ++ rest) (hW : 2 * g.monitorRoom + (rest.map fun v => v.category).sum ≤ 8) (hdg : decode cc g.pc = .ok (.invokestatic index, 3)) (hf : cells + mc ≤ R.cells ∧ slots + ms ≤ R.slots) :
    va_Run p l e R s m args below meth c H locs cells slots mc ms g rest (Qc As.toArray) (free) := by
  obtain ⟨⟨hrc, hrs, hfr, hlo, hws, hcw⟩, hcode, hini, hy, hlen, hl, hstt⟩ := cw
  have hK : Back l R p e below s args y 3 8 (PreOf R mc ms Pc) (PostOf Qc mc ms free) := va_backW (hh := hh) (bytes := bytes) (maxL := maxL) (ret := ret) hM hp.1 hrc hrs hfr hlo hws hcw (fun a' U hW => word_at hW (Or.inl (by first | rfl | simp [Cond.onTables, Cond.keeps, Cond.steady])) hini)
  obtain ⟨hx, hb, hml, ho, -⟩ := S
  intro T hT X
  obtain ⟨v, vm₁, ⟨U', l2, c2, s2⟩, hW₁, X', ⟨g', mk, t, L, e1, e2, hq, h1, hL, h2, h3⟩, st⟩ := vx_callSW X hx (hh := hh) (bytes := bytes) (maxL := maxL) (ret := ret) ho hl hstt hini hcode hy hK hg (hsize.trans hml.symm) (argsL := As) (rest := rest) (fun sig h => hn.trans (hlen sig h)) hstack hW (by rw [hb]; exact hdg)
    (fun vm₁ hW₁ => ⟨hf.1, hf.2, hp.2 (T.setVm vm₁) hT hW₁⟩)
  dsimp only [Pt.U, Pt.locs, Pt.cells, Pt.slots] at X' e1 e2 h1 h2 h3 st
  subst h1; subst h2; subst h3
  exact ⟨v, (T.setVm vm₁).calling g' mk As.toArray, t, U', L, hT, X', hL, e1, e2, hq, st⟩
/-- not caught here, past rows that name other classes: it goes on to the caller -/
theorem vx_outP {p : Program} {l : Launch} {e : Env} {R : Room} {s : State} {m : MethodId} {args : Array Value} {below : List Frame} {meth : Method} {c : Code} {H : Heap} {locs : List Loc} {cells slots : Nat} {free : Addr → Prop} {ls : Array Slot} {rest : List Value} {Qc : Array Value → State → Outcome → State → Prop} {XC : String → State → State → Prop}
    {pc : Nat} {own E : String} {ce : Cell} {q : Addr} {mc ms : Nat} (hown : s.vm.findClass own = some m.cls) (hlocks : meth.locks = false)
    (hpass : ∀ z ∈ c.exceptionTable.toList, covers z pc = false ∨ (z.catchType ≠ 0 ∧ ∃ nm : String, (Cond.classLink own z.catchType nm).before args s = true ∧ va_Nc E nm s)) (hcell : H[q]? = some ce) (hv : ce.vm = .none) (hcl : s.vm.findClass E = some ce.cls)
    (hx : ∀ t : State, t.heap = H → s.vm.Alike t.vm → XC E s t) (hf : ∀ z ∈ locs, free z.base) (hc : cells ≤ mc) (hs : slots ≤ ms) :
    vx_W p l e R s m args below meth c H locs cells slots (vx_MQ below Qc XC args s mc ms free) (F0 m pc ls rest) q := by
  intro T hT X
  have hpl : e.platform.magicAccessors = ({} : Platform).magicAccessors := by rw [X.admits.platform]
  obtain ⟨vm', hW', X', st⟩ := X.outThrough hlocks q (g := F0 m pc ls rest) rfl rfl rfl (cell := ce) (by rw [hT]; exact hcell) (by rw [hv]; rfl)
    (by obtain ⟨k9, h9, -⟩ := Vm.findClass_spec hcl; exact ⟨k9, h9⟩) (fun z hz => by
      rcases hpass z hz with h | ⟨hz0, nm, hl1, hn1⟩
      · exact Or.inl h
      · obtain ⟨c6, hc6, hcl6⟩ := Cond.classLink_spec hown hl1 e.platform hpl
        obtain ⟨a8, b8, h1, h2, h3⟩ := hn1
        cases Option.some.inj (h1.symm.trans hcl)
        cases Option.some.inj (h2.symm.trans hc6)
        exact Or.inr ⟨hz0, _, hcl6, h3⟩)
  obtain ⟨g₀, hfr⟩ := X'.frames_eq
  have hcell9 : ((T.setVm vm').setFrames (.throwing q :: below)).heap[q]? = some ce := by
    show T.heap[q]? = some ce
    rw [hT]; exact hcell
  have hend : Ended ((T.setVm vm').setFrames (.throwing q :: below)) below (.threw q) := State.frames_setFrames _ (State.cur_lt_of_frames hfr)
  refine ⟨(T.setVm vm').setFrames (.throwing q :: below), ?_, .threw q, X'.here.running, hend, Or.inr ⟨q, rfl, E, ce, locs, hx _ hT (X'.ends _).1.alike, hcell9, hv, hcl, (X'.ends _).1, (X'.ends _).2.mono hc hs, hf⟩⟩
  rw [X.pushThrowing_eq]
  exact st
/-- a thing of a world lies in the heap -/
theorem vx_lt {D : va_G} {cl : List vw_C} {ws : va_W} {H1 : Heap} (h : va_P D cl ws H1) {k : Nat} {q : Nat × va_E} (hk : ws[k]? = some q) : q.1 < H1.size := (h k q hk).lt
end VXS
/-! ===== END ===== -/
/-! ===== BEGIN methods with a table of their own: called by a name, returning or throwing ===== -/
section VXH
/-! vx_backW, vx_callVX, vx_callSX, vx_callVW, vx_runVW, vx_runVX, vx_runSX, vx_ofWH follow the same proofs as their sisters above (Free/Laws.lean, Shelf42/LK1.lean); vx_outP calls Shelf42/NT130.lean (outThrough). -/
section
variable {l : Launch} {R : Room} {p : Program} {e : Env} {below : List Frame} {s : State} {sargs : Array Value} {y : MethodName} {len W9 : Nat}
theorem vx_backW {ws : List Cond} {rm : Room} {Pc : Array Value → State → Prop} {Qc : Array Value → State → Outcome → State → Prop} {XC : String → State → State → Prop} {mc ms : Nat} {free : Addr → Prop} {bytes : ByteArray} {maxL : Nat} {ret : Option FieldType} {hh : List (Nat × Nat × Nat × Nat)}
    (hM : vx_Met l y ws rm Pc Qc XC mc ms free) (hblind : FrameBlind Pc) (hrc : rm.cells = mc) (hrs : rm.slots = ms)
    (hframes : rm.frames + 1 ≤ R.frames) (hlocals : W9 + (maxL + 11) + rm.locals ≤ R.locals)
    (hws : ∀ w ∈ ws, ∀ a' U, s.WarmedH U.vm → w.before a' U = true) (hcode : Cond.codeWith y bytes maxL ret hh ∈ ws) (hinit : ∀ a' U, s.WarmedH U.vm → (Cond.initialized y.cls).before a' U = true) :
    vx_Back l R p e below s sargs y len W9 (PreOf R mc ms Pc) (PostOf Qc mc ms free) (vx_Post XC mc ms free) := by
  intro m meth c A g ig mk a X hg hsize hdg hW hn hp
  have h1 : (headSpec ws rm).pre.before a A.U = true := atoms_intro fun w hw => hws w hw _ _ X.warmed
  have h2 : (Cond.codeWith y bytes maxL ret hh).before a A.U = true := hws _ hcode _ _ X.warmed
  have h3 : (Cond.initialized y.cls).before a A.U = true := hinit _ _ X.warmed
  have h4 : A.cells + (headSpec ws rm).room.cells ≤ R.cells := by rw [show (headSpec ws rm).room.cells = mc from hrc]; exact hp.1
  have h5 : A.slots + (headSpec ws rm).room.slots ≤ R.slots := by rw [show (headSpec ws rm).room.slots = ms from hrs]; exact hp.2.1
  have hPc : Pc a (A.U.calling g mk a) := hblind _ _ _ _ hp.2.2
  obtain ⟨U, Ls, c0, s0⟩ := A
  dsimp only [Pt.U, Pt.locs, Pt.cells, Pt.slots] at h1 h2 h3 h4 h5 X hn hPc ⊢
  obtain ⟨m9, methY, cY, hn9, hmY, hcY, -, hlY, -⟩ := Cond.codeWith_spec h2
  cases Option.some.inj (hn9.symm.trans hn)
  obtain ⟨kY, hkY, -⟩ := className_of_methodNamed hn
  have hinitY : kY.init = .initialized := Cond.initialized_spec (findClass_of_methodNamed hn) hkY h3
  have h : At U g.method c below := by rw [hg]; exact X.here
  have hlocals9 : W9 + (maxL + 11) + (headSpec ws rm).room.locals ≤ R.locals := hlocals
  have happ : (headSpec ws rm).appliesLoose y e.platform (U.calling g mk a) = true :=
    Spec.appliesLoose_calling (g := g) h hdg hn hkY hinitY
      (X.room_calling (g := g) (R' := (headSpec ws rm).room) hsize hmY hcY hframes (by rw [hlY]; omega) h4 h5) h1
  obtain ⟨mid, hmid⟩ := h.above
  have hfr : (U.setTop g).frames = (.java g :: mid) ++ below := by rw [State.frames_setTop' g h.top, hmid]; rfl
  obtain ⟨o, s₂, hsteps, -, hend, hq⟩ := Steps.callFree hM p X.admits X.cas X.clock (acts := []) hfr happ hPc trivial
  have hq' : vx_Q Qc XC mc ms free a (U.calling g mk a) o s₂ := hq
  rw [State.frames_setTop' g h.top] at hend
  obtain ⟨g₀, hg0⟩ := Option.isSome_iff_exists.mp h.top
  obtain ⟨r, hr⟩ := State.topJava?_eq_some.mp hg0
  have hr' : (({ U with heap := s₂.heap, slotsUsed := s₂.slotsUsed } : State).setVm s₂.vm).frames = .java g₀ :: r := hr
  rcases hq' with ⟨hqc, L, hfe, hL⟩ | ⟨q, rfl, E, ce, L, hx, hce, hcv, hcl, hW₂, hsm, hL⟩
  · obtain ⟨⟨v, rfl⟩, hW₂, e2, q2, q3, q4, q5, q6⟩ := id hfe
    have e3 : s₂ = ({ (U.calling g mk a).setFrames s₂.frames with heap := s₂.heap, slotsUsed := s₂.slotsUsed } : State).setVm s₂.vm := by
      have : s₂ = ({ s₂ with vm := (U.calling g mk a).vm } : State).setVm s₂.vm := rfl
      rw [e2] at this
      exact this
    obtain ⟨c₂, i₂, len₂, hc₂, hd₂, hf₂⟩ := hend
    have hW' : U.WarmedH s₂.vm := hW₂
    have hcc : c₂ = c := by
      have h1 : s₂.code? g.method = U.code? g.method := by
        rw [State.code?_eq, State.code?_eq, hW'.alike.method?]
      exact Option.some.inj (hc₂.symm.trans (h1.trans h.code))
    subst hcc
    have hlen : len₂ = len := by rw [hdg] at hd₂; cases hd₂; rfl
    subst hlen
    have hs₂ : s₂ = (({ U with heap := s₂.heap, slotsUsed := s₂.slotsUsed } : State).setVm s₂.vm).setTop { g with pc := g.pc + len₂, stack := v.toList ++ g.stack } := by
      refine e3.trans ?_
      rw [hf₂, State.calling_eq h.top, State.setFrames_setFrames, State.setTop_of_frames _ hr', hr]
      rfl
    have hsame : U.sameButNew ({ U with heap := s₂.heap, slotsUsed := s₂.slotsUsed } : State) L mc ms := by
      refine ⟨?_, q2, q3, q4, q5, q6⟩
      obtain ⟨t, ht, -⟩ := State.frames_cons hr
      show ({ U with heap := s₂.heap, slotsUsed := s₂.slotsUsed } : State) = { U.setFrames U.frames with heap := s₂.heap, slotsUsed := s₂.slotsUsed }
      rw [State.setFrames_self ht]
    subst hg
    refine Or.inl ⟨v, ⟨(({ U with heap := s₂.heap, slotsUsed := s₂.slotsUsed } : State).setVm s₂.vm), Ls ++ L, c0 + mc, s0 + ms⟩,
      ⟨X.admits, X.cas, X.clock, X.frames, X.room, X.hears, X.method, X.code, (X.here.setHeapUsed s₂.heap s₂.slotsUsed).setVm hW'.alike, X.tail, State.WarmedH.trans X.warmed hW', X.limits, X.bytes, X.same.trans (hsame.setVm s.vm)⟩,
      ⟨g, mk, s₂, L, rfl, rfl, hqc, rfl, hL, rfl, rfl⟩, ?_⟩
    show Steps p.tables e below _ ((({ U with heap := s₂.heap, slotsUsed := s₂.slotsUsed } : State).setVm s₂.vm).setTop { g with pc := g.pc + len₂, stack := v.toList ++ g.stack })
    rw [← hs₂]
    exact hsteps
  · obtain ⟨e2, q2, q3, q4, q5, q6⟩ := id hsm
    have e3 : s₂ = ({ (U.calling g mk a).setFrames s₂.frames with heap := s₂.heap, slotsUsed := s₂.slotsUsed } : State).setVm s₂.vm := by
      have : s₂ = ({ s₂ with vm := (U.calling g mk a).vm } : State).setVm s₂.vm := rfl
      rw [e2] at this
      exact this
    have hf₂ : s₂.frames = .throwing q :: .java g :: U.frames.tail := hend
    have hW' : U.WarmedH s₂.vm := hW₂
    have hs₂ : s₂ = ((({ U with heap := s₂.heap, slotsUsed := s₂.slotsUsed } : State).setVm s₂.vm).setTop g).pushFrame (.throwing q) := by
      refine e3.trans ?_
      rw [hf₂, State.calling_eq h.top, State.setFrames_setFrames, State.pushFrame, State.frames_setTop _ hr', State.setTop_of_frames _ hr', State.setFrames_setFrames, hr]
      rfl
    have hsame : U.sameButNew ({ U with heap := s₂.heap, slotsUsed := s₂.slotsUsed } : State) L mc ms := by
      refine ⟨?_, q2, q3, q4, q5, q6⟩
      obtain ⟨t, ht, -⟩ := State.frames_cons hr
      show ({ U with heap := s₂.heap, slotsUsed := s₂.slotsUsed } : State) = { U.setFrames U.frames with heap := s₂.heap, slotsUsed := s₂.slotsUsed }
      rw [State.setFrames_self ht]
    subst hg
    refine Or.inr ⟨q, ⟨(({ U with heap := s₂.heap, slotsUsed := s₂.slotsUsed } : State).setVm s₂.vm), Ls ++ L, c0 + mc, s0 + ms⟩,
      ⟨X.admits, X.cas, X.clock, X.frames, X.room, X.hears, X.method, X.code, (X.here.setHeapUsed s₂.heap s₂.slotsUsed).setVm hW'.alike, X.tail, State.WarmedH.trans X.warmed hW', X.limits, X.bytes, X.same.trans (hsame.setVm s.vm)⟩,
      ⟨g, mk, s₂, L, E, ce, rfl, rfl, hx, hce, hcv, hcl, rfl, hL, rfl, rfl⟩, ?_⟩
    show Steps p.tables e below _ (((({ U with heap := s₂.heap, slotsUsed := s₂.slotsUsed } : State).setVm s₂.vm).setTop g).pushFrame (.throwing q))
    rw [← hs₂]
    exact hsteps
end
variable {p : Program} {l : Launch} {e : Env} {R : Room} {s : State} {m : MethodId} {args : Array Value} {below : List Frame} {meth : Method} {c : Code} {T : State} {H : Heap} {locs : List Loc} {cells slots : Nat}
theorem vx_callVX (X : Stand p l e R s m args below meth c T locs cells slots) (hexec : p.tables.exec = Jvm.exec) {own C : String} {index : Nat} {y : MethodName} {bytes : ByteArray} {maxL : Nat} {ret : Option FieldType} {hh : List (Nat × Nat × Nat × Nat)}
    (hown : s.vm.findClass own = some m.cls) (hlink : (Cond.methodLink own index y).before args s = true) (hinst : (Cond.instanceMethod y).before args s = true) (hsel : (Cond.selects C y y).before args s = true)
    (hcode : (Cond.codeWith y bytes maxL ret hh).before args s = true) (hy : y.cls ≠ "java/lang/invoke/MethodHandle" ∧ y.cls ≠ "java/lang/invoke/VarHandle")
    {W9 : Nat} {Pre : Pt → Array Value → Prop} {Post : Pt → Array Value → Option Value → Pt → Prop} {PostX : Pt → Array Value → Addr → Pt → Prop} (hK : vx_Back l R p e below s args y 3 W9 Pre Post PostX)
    {b : Addr} {cellB : Cell} (hcell : T.heap[b]? = some cellB) (hobj : cellB.vm.isStatics = false) (hcls : s.vm.findClass C = some cellB.cls)
    {g : JFrame} (hg : g.method = m) (hsize : g.locals.size = c.maxLocals) {argsL rest : List Value} (hlen : ∀ sig, parseMethodDescriptor y.desc = some sig → argsL.length = sig.parameters.length)
    (hstack : g.stack = argsL.reverse ++ .ref b :: rest) (hW : 2 * g.monitorRoom + (rest.map fun v => v.category).sum ≤ W9) (hdg : decode c.code g.pc = .ok (.invokevirtual index, 3))
    (hpre : ∀ vm₁, s.WarmedH vm₁ → Pre ⟨T.setVm vm₁, locs, cells, slots⟩ (Value.ref b :: argsL).toArray) :
    (∃ (v : Option Value) (vm₁ : Vm) (B : Pt), s.WarmedH vm₁ ∧ Stand p l e R s m args below meth c B.U B.locs B.cells B.slots ∧ Post ⟨T.setVm vm₁, locs, cells, slots⟩ (Value.ref b :: argsL).toArray v B ∧
      ∀ target, Steps p.tables e below (B.U.setTop { g with pc := g.pc + 3, stack := v.toList ++ rest }) target → Steps p.tables e below (T.setTop g) target) ∨
    (∃ (q : Addr) (vm₁ : Vm) (B : Pt), s.WarmedH vm₁ ∧ Stand p l e R s m args below meth c B.U B.locs B.cells B.slots ∧ PostX ⟨T.setVm vm₁, locs, cells, slots⟩ (Value.ref b :: argsL).toArray q B ∧
      Steps p.tables e below (T.setTop g) ((B.U.setTop { g with stack := rest }).pushFrame (.throwing q))) := by
  obtain ⟨mk, methM, hnamed, hmethM, hstM, habM⟩ := Cond.instanceMethod_spec hinst
  obtain ⟨m8, methM', cM, hn8, hmethM', -, -, -, -, -, -, hsigM⟩ := Cond.codeWith_spec hcode
  cases Option.some.inj (hn8.symm.trans hnamed)
  cases hmethM.symm.trans hmethM'
  obtain ⟨c2, r2, m2, q1, q2, q3, q4, kP, hkP, hkPi⟩ := Cond.selects_spec hsel
  cases hcls.symm.trans q1
  cases (State.methodFound?_of_named hnamed hy).symm.trans q2
  cases hnamed.symm.trans q3
  have hselP : selectMethod e.platform s.vm cellB.cls mk = .method mk := by rw [Launch.admits_selectMethod X.admits]; exact q4
  obtain ⟨vm₁, X₁, hstep₁⟩ := X.invokevirtual hexec hown hlink hnamed hmethM hstM hkP hkPi hy (a := b) (cell := cellB) hcell
    (fun z h => by rw [h] at hobj; cases hobj) hselP hmethM habM hkP hkPi (g := g) hg (argsL := argsL) (rest := rest) (hlen _ hsigM) hstack hdg
  rcases hK m meth c ⟨T.setVm vm₁, locs, cells, slots⟩ { g with stack := rest } (.invokevirtual index) mk (Value.ref b :: argsL).toArray X₁ hg hsize hdg hW (X₁.named hnamed) (hpre vm₁ X₁.warmed) with ⟨v, B, X', hpost, hsteps⟩ | ⟨q, B, X', hpost, hsteps⟩
  · exact Or.inl ⟨v, vm₁, B, X₁.warmed, X', hpost, fun target h => hstep₁ _ fun acts => by rw [doInvoke_state]; exact hsteps.trans h⟩
  · exact Or.inr ⟨q, vm₁, B, X₁.warmed, X', hpost, hstep₁ _ fun acts => by rw [doInvoke_state]; exact hsteps⟩
theorem vx_callSX (X : Stand p l e R s m args below meth c T locs cells slots) (hexec : p.tables.exec = Jvm.exec) {own : String} {index : Nat} {y : MethodName} {bytes : ByteArray} {maxL : Nat} {ret : Option FieldType} {hh : List (Nat × Nat × Nat × Nat)}
    (hown : s.vm.findClass own = some m.cls) (hlink : (Cond.methodLink own index y).before args s = true) (hstat : (Cond.static y).before args s = true) (hinit : (Cond.initialized y.cls).before args s = true)
    (hcode : (Cond.codeWith y bytes maxL ret hh).before args s = true) (hy : y.cls ≠ "java/lang/invoke/MethodHandle" ∧ y.cls ≠ "java/lang/invoke/VarHandle")
    {W9 : Nat} {Pre : Pt → Array Value → Prop} {Post : Pt → Array Value → Option Value → Pt → Prop} {PostX : Pt → Array Value → Addr → Pt → Prop} (hK : vx_Back l R p e below s args y 3 W9 Pre Post PostX)
    {g : JFrame} (hg : g.method = m) (hsize : g.locals.size = c.maxLocals) {argsL rest : List Value} (hlen : ∀ sig, parseMethodDescriptor y.desc = some sig → argsL.length = sig.parameters.length)
    (hstack : g.stack = argsL.reverse ++ rest) (hW : 2 * g.monitorRoom + (rest.map fun v => v.category).sum ≤ W9) (hdg : decode c.code g.pc = .ok (.invokestatic index, 3))
    (hpre : ∀ vm₁, s.WarmedH vm₁ → Pre ⟨T.setVm vm₁, locs, cells, slots⟩ argsL.toArray) :
    (∃ (v : Option Value) (vm₁ : Vm) (B : Pt), s.WarmedH vm₁ ∧ Stand p l e R s m args below meth c B.U B.locs B.cells B.slots ∧ Post ⟨T.setVm vm₁, locs, cells, slots⟩ argsL.toArray v B ∧
      ∀ target, Steps p.tables e below (B.U.setTop { g with pc := g.pc + 3, stack := v.toList ++ rest }) target → Steps p.tables e below (T.setTop g) target) ∨
    (∃ (q : Addr) (vm₁ : Vm) (B : Pt), s.WarmedH vm₁ ∧ Stand p l e R s m args below meth c B.U B.locs B.cells B.slots ∧ PostX ⟨T.setVm vm₁, locs, cells, slots⟩ argsL.toArray q B ∧
      Steps p.tables e below (T.setTop g) ((B.U.setTop { g with stack := rest }).pushFrame (.throwing q))) := by
  obtain ⟨mk, methM, cM, hnamed, hmethM, -, -, -, -, -, -, hsigM⟩ := Cond.codeWith_spec hcode
  have hstatic : methM.isStatic = true := Cond.static_spec hnamed hmethM hstat
  obtain ⟨kP, hkP, -⟩ := className_of_methodNamed hnamed
  have hinitP : kP.init = .initialized := Cond.initialized_spec (findClass_of_methodNamed hnamed) hkP hinit
  obtain ⟨vm₁, X₁, hstep₁⟩ := X.invokestatic hexec hown hlink hnamed hmethM hstatic hkP hinitP hy (g := g) hg (argsL := argsL) (rest := rest) (hlen _ hsigM) hstack hdg
  rcases hK m meth c ⟨T.setVm vm₁, locs, cells, slots⟩ { g with stack := rest } (.invokestatic index) mk argsL.toArray X₁ hg hsize hdg hW (X₁.named hnamed) (hpre vm₁ X₁.warmed) with ⟨v, B, X', hpost, hsteps⟩ | ⟨q, B, X', hpost, hsteps⟩
  · exact Or.inl ⟨v, vm₁, B, X₁.warmed, X', hpost, fun target h => hstep₁ _ fun acts => by rw [doInvoke_state]; exact hsteps.trans h⟩
  · exact Or.inr ⟨q, vm₁, B, X₁.warmed, X', hpost, hstep₁ _ fun acts => by rw [doInvoke_state]; exact hsteps⟩
theorem vx_callVW (X : Stand p l e R s m args below meth c T locs cells slots) (hexec : p.tables.exec = Jvm.exec) {own C : String} {index : Nat} {y : MethodName} {bytes : ByteArray} {maxL : Nat} {ret : Option FieldType} {hh : List (Nat × Nat × Nat × Nat)}
    (hown : s.vm.findClass own = some m.cls) (hlink : (Cond.methodLink own index y).before args s = true) (hinst : (Cond.instanceMethod y).before args s = true) (hsel : (Cond.selects C y y).before args s = true)
    (hcode : (Cond.codeWith y bytes maxL ret hh).before args s = true) (hy : y.cls ≠ "java/lang/invoke/MethodHandle" ∧ y.cls ≠ "java/lang/invoke/VarHandle")
    {W9 : Nat} {Pre : Pt → Array Value → Prop} {Post : Pt → Array Value → Option Value → Pt → Prop} (hK : Back l R p e below s args y 3 W9 Pre Post)
    {b : Addr} {cellB : Cell} (hcell : T.heap[b]? = some cellB) (hobj : cellB.vm.isStatics = false) (hcls : s.vm.findClass C = some cellB.cls)
    {g : JFrame} (hg : g.method = m) (hsize : g.locals.size = c.maxLocals) {argsL rest : List Value} (hlen : ∀ sig, parseMethodDescriptor y.desc = some sig → argsL.length = sig.parameters.length)
    (hstack : g.stack = argsL.reverse ++ .ref b :: rest) (hW : 2 * g.monitorRoom + (rest.map fun v => v.category).sum ≤ W9) (hdg : decode c.code g.pc = .ok (.invokevirtual index, 3))
    (hpre : ∀ vm₁, s.WarmedH vm₁ → Pre ⟨T.setVm vm₁, locs, cells, slots⟩ (Value.ref b :: argsL).toArray) :
    ∃ (v : Option Value) (vm₁ : Vm) (B : Pt), s.WarmedH vm₁ ∧ Stand p l e R s m args below meth c B.U B.locs B.cells B.slots ∧ Post ⟨T.setVm vm₁, locs, cells, slots⟩ (Value.ref b :: argsL).toArray v B ∧
      ∀ target, Steps p.tables e below (B.U.setTop { g with pc := g.pc + 3, stack := v.toList ++ rest }) target → Steps p.tables e below (T.setTop g) target := by
  obtain ⟨mk, methM, hnamed, hmethM, hstM, habM⟩ := Cond.instanceMethod_spec hinst
  obtain ⟨m8, methM', cM, hn8, hmethM', -, -, -, -, -, -, hsigM⟩ := Cond.codeWith_spec hcode
  cases Option.some.inj (hn8.symm.trans hnamed)
  cases hmethM.symm.trans hmethM'
  obtain ⟨c2, r2, m2, q1, q2, q3, q4, kP, hkP, hkPi⟩ := Cond.selects_spec hsel
  cases hcls.symm.trans q1
  cases (State.methodFound?_of_named hnamed hy).symm.trans q2
  cases hnamed.symm.trans q3
  have hselP : selectMethod e.platform s.vm cellB.cls mk = .method mk := by rw [Launch.admits_selectMethod X.admits]; exact q4
  obtain ⟨vm₁, X₁, hstep₁⟩ := X.invokevirtual hexec hown hlink hnamed hmethM hstM hkP hkPi hy (a := b) (cell := cellB) hcell
    (fun z h => by rw [h] at hobj; cases hobj) hselP hmethM habM hkP hkPi (g := g) hg (argsL := argsL) (rest := rest) (hlen _ hsigM) hstack hdg
  obtain ⟨v, B, X', hpost, hsteps⟩ := hK m meth c ⟨T.setVm vm₁, locs, cells, slots⟩ { g with stack := rest } (.invokevirtual index) mk (Value.ref b :: argsL).toArray X₁ hg hsize hdg hW (X₁.named hnamed) (hpre vm₁ X₁.warmed)
  exact ⟨v, vm₁, B, X₁.warmed, X', hpost, fun target h => hstep₁ _ fun acts => by rw [doInvoke_state]; exact hsteps.trans h⟩
abbrev vx_CVW (R : Room) (s : State) (args : Array Value) (own C : String) (index : Nat) (y : MethodName) (bytes : ByteArray) (maxL : Nat) (ret : Option FieldType) (hh : List (Nat × Nat × Nat × Nat)) (ws : List Cond) (rm : Room) (mc ms n : Nat) : Prop :=
  (rm.cells = mc ∧ rm.slots = ms ∧ rm.frames + 1 ≤ R.frames ∧ 8 + (maxL + 11) + rm.locals ≤ R.locals ∧ (∀ w ∈ ws, ∀ (a' : Array Value) (U : State), s.WarmedH U.vm → w.before a' U = true) ∧ Cond.codeWith y bytes maxL ret hh ∈ ws) ∧
  (Cond.codeWith y bytes maxL ret hh).before args s = true ∧ (Cond.initialized y.cls).before args s = true ∧ (y.cls ≠ "java/lang/invoke/MethodHandle" ∧ y.cls ≠ "java/lang/invoke/VarHandle") ∧
  (∀ sig, parseMethodDescriptor y.desc = some sig → n = sig.parameters.length) ∧ (Cond.methodLink own index y).before args s = true ∧ (Cond.instanceMethod y).before args s = true ∧ (Cond.selects C y y).before args s = true
theorem vx_cwVW {own C : String} {index maxL mc ms : Nat} {y : MethodName} {bytes : ByteArray} {ret : Option FieldType} {hh : List (Nat × Nat × Nat × Nat)} {Ts ws ws' : List Cond} {rm : Room} (n : Nat) (ht : ∀ w ∈ Ts, w.before args s = true) (hT : GoodIn Ts (wsV own index C y ws)) (hw : ws = Cond.codeWith y bytes maxL ret hh :: ws') (hrc : rm.cells = mc) (hrs : rm.slots = ms)
    (hd : y.cls = C ∧ y.cls ≠ "java/lang/invoke/MethodHandle" ∧ y.cls ≠ "java/lang/invoke/VarHandle" ∧ (parseMethodDescriptor y.desc).map (fun d => d.parameters.length) = some n) (hR : rm.frames + 1 ≤ R.frames ∧ 8 + (maxL + 11) + rm.locals ≤ R.locals) :
    vx_CVW R s args own C index y bytes maxL ret hh ws rm mc ms n := by
  obtain ⟨hC, hd⟩ := hd
  subst hC
  have ok : ∀ w ∈ wsV own index y.cls y ws, w.before args s = true := fun w h => ht w (hT w h).1
  have hG : GoodIn Ts ws := fun w h => hT w (by unfold wsV; exact List.mem_append_right _ h)
  have hc : Cond.codeWith y bytes maxL ret hh ∈ ws := by rw [hw]; exact List.mem_cons_self
  refine ⟨⟨hrc, hrs, hR.1, hR.2, pay_in ht hG, hc⟩, ht _ (hG _ hc).1, ok _ (by simp [wsV]), ⟨hd.1, hd.2.1⟩, fun sig h => ?_, ok _ (by simp [wsV]), ok _ (by simp [wsV]), ok _ (by simp [wsV])⟩
  have h2 := hd.2.2
  rw [h] at h2
  exact (Option.some.inj h2).symm
theorem vx_runVW {y : MethodName} {bytes cc : ByteArray} {maxL nL mc ms n index : Nat} {ret : Option FieldType} {hh : List (Nat × Nat × Nat × Nat)} {ws : List Cond} {rm : Room} {Pc : Array Value → State → Prop} {Qc : Array Value → State → Outcome → State → Prop} {free : Addr → Prop} {Ts : List Cond} {own C : String} {b : Addr} {As rest : List Value} {g : JFrame}
    (S : CallFix p m c cc nL s args Ts own) (hM : Met l y ws rm Pc Qc mc ms free) (cw : vx_CVW R s args own C index y bytes maxL ret hh ws rm mc ms n) (hp : PreV s H C b Pc As)
    (hg : g.method = m) (hn : As.length = n) (hsize : g.locals.size = nL) (hstack : g.stack = As.reverse ++ .ref b :: rest) (hW : 2 * g.monitorRoom + (rest.map fun v => v.category).sum ≤ 8) (hdg : decode cc g.pc = .ok (.invokevirtual index, 3)) (hf : cells + mc ≤ R.cells ∧ slots + ms ≤ R.slots) :
    va_Run p l e R s m args below meth c H locs cells slots mc ms g rest (Qc (Value.ref b :: As).toArray) free := by
  obtain ⟨⟨hrc, hrs, hfr, hlo, hws, hcw⟩, hcode, hini, hy, hlen, hl, hin, hse⟩ := cw
  have hK : Back l R p e below s args y 3 8 (PreOf R mc ms Pc) (PostOf Qc mc ms free) := va_backW (hh := hh) (bytes := bytes) (maxL := maxL) (ret := ret) hM hp.1 hrc hrs hfr hlo hws hcw (fun a' U hW => word_at hW (Or.inl (by first | rfl | simp [Cond.onTables, Cond.keeps, Cond.steady])) hini)
  obtain ⟨hx, hb, hml, ho, -⟩ := S
  obtain ⟨-, ⟨cellB, hcB, hoB, hclB⟩, hPc⟩ := hp
  intro T hT X
  obtain ⟨v, vm₁, ⟨U', l2, c2, s2⟩, hW₁, X', ⟨g', mk, t, L, e1, e2, hq, h1, hL, h2, h3⟩, st⟩ := vx_callVW X hx (C := C) (hh := hh) (bytes := bytes) (maxL := maxL) (ret := ret) ho hl hin hse hcode hy hK (by rw [hT]; exact hcB) hoB hclB hg (hsize.trans hml.symm) (argsL := As) (rest := rest) (fun sig h => hn.trans (hlen sig h)) hstack hW (by rw [hb]; exact hdg)
    (fun vm₁ hW₁ => ⟨hf.1, hf.2, hPc (T.setVm vm₁) hT hW₁⟩)
  dsimp only [Pt.U, Pt.locs, Pt.cells, Pt.slots] at X' e1 e2 h1 h2 h3 st
  subst h1; subst h2; subst h3
  exact ⟨v, (T.setVm vm₁).calling g' mk (Value.ref b :: As).toArray, t, U', L, hT, X', hL, e1, e2, hq, st⟩
section
variable {y : MethodName} {bytes cc : ByteArray} {maxL nL mc ms n index : Nat} {ret : Option FieldType} {ws : List Cond} {rm : Room} {Pc : Array Value → State → Prop} {Qc : Array Value → State → Outcome → State → Prop} {XC : String → State → State → Prop} {free : Addr → Prop} {Ts : List Cond} {own C : String} {b : Addr} {As rest : List Value} {g : JFrame}
theorem vx_runVX {hh : List (Nat × Nat × Nat × Nat)} (S : CallFix p m c cc nL s args Ts own) (hM : vx_Met l y ws rm Pc Qc XC mc ms free) (cw : vx_CVW R s args own C index y bytes maxL ret hh ws rm mc ms n) (hp : PreV s H C b Pc As)
    (hg : g.method = m) (hn : As.length = n) (hsize : g.locals.size = nL) (hstack : g.stack = As.reverse ++ .ref b :: rest) (hW : 2 * g.monitorRoom + (rest.map fun v => v.category).sum ≤ 8) (hdg : decode cc g.pc = .ok (.invokevirtual index, 3)) (hf : cells + mc ≤ R.cells ∧ slots + ms ≤ R.slots) :
    vx_Run p l e R s m args below meth c H locs cells slots mc ms g rest (Qc (Value.ref b :: As).toArray) XC free := by
  obtain ⟨⟨hrc, hrs, hfr, hlo, hws, hcw⟩, hcode, hini, hy, hlen, hl, hin, hse⟩ := cw
  have hK : vx_Back l R p e below s args y 3 8 (PreOf R mc ms Pc) (PostOf Qc mc ms free) (vx_Post XC mc ms free) := vx_backW (hh := hh) (bytes := bytes) (maxL := maxL) (ret := ret) hM hp.1 hrc hrs hfr hlo hws hcw (fun a' U hW => word_at hW (Or.inl (by first | rfl | simp [Cond.onTables, Cond.keeps, Cond.steady])) hini)
  obtain ⟨hx, hb, hml, ho, -⟩ := S
  obtain ⟨-, ⟨cellB, hcB, hoB, hclB⟩, hPc⟩ := hp
  intro T hT X
  rcases vx_callVX X hx (C := C) (hh := hh) (bytes := bytes) (maxL := maxL) (ret := ret) ho hl hin hse hcode hy hK (by rw [hT]; exact hcB) hoB hclB hg (hsize.trans hml.symm) (argsL := As) (rest := rest) (fun sig h => hn.trans (hlen sig h)) hstack hW (by rw [hb]; exact hdg)
    (fun vm₁ hW₁ => ⟨hf.1, hf.2, hPc (T.setVm vm₁) hT hW₁⟩) with ⟨v, vm₁, ⟨U', l2, c2, s2⟩, hW₁, X', ⟨g', mk, t, L, e1, e2, hq, h1, hL, h2, h3⟩, st⟩ | ⟨q, vm₁, ⟨U', l2, c2, s2⟩, hW₁, X', ⟨g', mk, t, L, E, ce, e1, e2, hq, hce, hcv, hcl, h1, hL, h2, h3⟩, st⟩
  · dsimp only [Pt.U, Pt.locs, Pt.cells, Pt.slots] at X' e1 e2 h1 h2 h3 st
    subst h1; subst h2; subst h3
    exact Or.inl ⟨v, (T.setVm vm₁).calling g' mk (Value.ref b :: As).toArray, t, U', L, hT, X', hL, e1, e2, hq, st⟩
  · dsimp only [Pt.U, Pt.locs, Pt.cells, Pt.slots] at X' e1 e2 h1 h2 h3 st hcl
    subst h1; subst h2; subst h3
    exact Or.inr ⟨q, (T.setVm vm₁).calling g' mk (Value.ref b :: As).toArray, t, U', L, E, ce, hT, X', hL, e1, e2, hq, hce, hcv, vx_cls hW₁ hcl, st⟩
theorem vx_runSX {hh : List (Nat × Nat × Nat × Nat)} (S : CallFix p m c cc nL s args Ts own) (hM : vx_Met l y ws rm Pc Qc XC mc ms free) (cw : vx_CSW R s args own index y bytes maxL ret hh ws rm mc ms n) (hp : PreS s H Pc As)
    (hg : g.method = m) (hn : As.length = n) (hsize : g.locals.size = nL) (hstack : g.stack = As.reverse ++ rest) (hW : 2 * g.monitorRoom + (rest.map fun v => v.category).sum ≤ 8) (hdg : decode cc g.pc = .ok (.invokestatic index, 3)) (hf : cells + mc ≤ R.cells ∧ slots + ms ≤ R.slots) :
    vx_Run p l e R s m args below meth c H locs cells slots mc ms g rest (Qc As.toArray) XC free := by
  obtain ⟨⟨hrc, hrs, hfr, hlo, hws, hcw⟩, hcode, hini, hy, hlen, hl, hstt⟩ := cw
  have hK : vx_Back l R p e below s args y 3 8 (PreOf R mc ms Pc) (PostOf Qc mc ms free) (vx_Post XC mc ms free) := vx_backW (hh := hh) (bytes := bytes) (maxL := maxL) (ret := ret) hM hp.1 hrc hrs hfr hlo hws hcw (fun a' U hW => word_at hW (Or.inl (by first | rfl | simp [Cond.onTables, Cond.keeps, Cond.steady])) hini)
  obtain ⟨hx, hb, hml, ho, -⟩ := S
  intro T hT X
  rcases vx_callSX X hx (hh := hh) (bytes := bytes) (maxL := maxL) (ret := ret) ho hl hstt hini hcode hy hK hg (hsize.trans hml.symm) (argsL := As) (rest := rest) (fun sig h => hn.trans (hlen sig h)) hstack hW (by rw [hb]; exact hdg)
    (fun vm₁ hW₁ => ⟨hf.1, hf.2, hp.2 (T.setVm vm₁) hT hW₁⟩) with ⟨v, vm₁, ⟨U', l2, c2, s2⟩, hW₁, X', ⟨g', mk, t, L, e1, e2, hq, h1, hL, h2, h3⟩, st⟩ | ⟨q, vm₁, ⟨U', l2, c2, s2⟩, hW₁, X', ⟨g', mk, t, L, E, ce, e1, e2, hq, hce, hcv, hcl, h1, hL, h2, h3⟩, st⟩
  · dsimp only [Pt.U, Pt.locs, Pt.cells, Pt.slots] at X' e1 e2 h1 h2 h3 st
    subst h1; subst h2; subst h3
    exact Or.inl ⟨v, (T.setVm vm₁).calling g' mk As.toArray, t, U', L, hT, X', hL, e1, e2, hq, st⟩
  · dsimp only [Pt.U, Pt.locs, Pt.cells, Pt.slots] at X' e1 e2 h1 h2 h3 st hcl
    subst h1; subst h2; subst h3
    exact Or.inr ⟨q, (T.setVm vm₁).calling g' mk As.toArray, t, U', L, E, ce, hT, X', hL, e1, e2, hq, hce, hcv, vx_cls hW₁ hcl, st⟩
end
end VXH
theorem vx_ofWH {l : Launch} {y : MethodName} {ws ws' : List Cond} {rm : Room} {Pc : Array Value → State → Prop} {Qc : Array Value → State → Outcome → State → Prop} {XC : String → State → State → Prop} {mc ms : Nat} {free : Addr → Prop} {cc : ByteArray} {maxL : Nat} {ret : Option FieldType} {hh : List (Nat × Nat × Nat × Nat)}
    (hy : plainName y.cls = true) (hw : ws = Cond.codeWith y cc maxL ret hh :: ws')
    (body : ∀ p e s m args below meth c s₁, BodyLoose p l y (headSpec ws rm) cc maxL ret e s m args below meth c s₁ → c.maxLocals = maxL → Pc args s →
      W p l e (headSpec ws rm).room s m args below meth c s.heap [] 0 0 (vx_MQ below Qc XC args s mc ms free) (entryFrame m args maxL)) : vx_Met l y ws rm Pc Qc XC mc ms free := by
  refine MetFree.of_bodyS (code := cc) (maxLocals := maxL) (ret := ret) hy ?_ ?_
  · intro args s m h hn
    obtain ⟨m9, meth, c, hn9, h1, h2, h3, h4, -, h5, h6, -⟩ := Cond.codeWith_spec (atoms_spec (ws := ws) h _ (by rw [hw]; exact List.mem_cons_self))
    cases hn.symm.trans hn9
    exact ⟨meth, c, h1, h2, h3, h4, h5, h6⟩
  · intro p e s m args below meth c s₁ B hml hP _
    have hh0 : s₁.heap = s.heap := by rw [B.state]; rfl
    obtain ⟨t, a1, o, b1, b2, b3⟩ := body p e s m args below meth c s₁ B hml hP s₁ hh0 (Stand.of_body B)
    exact ⟨t, o, a1, b1, b2, b3⟩
/-! ===== END ===== -/
end
section
/-! ===== BEGIN printed: names, fields, word lists, decode rows ===== -/
def RX0 : String := "CountSheets$LineRows"
def TX0 : u_T := fun k => match k with
  | 0 => ("CountSheets$LineRows", "persons", "[I", true)
  | 1 => ("CountSheets$LineRows", "first", "[I", true)
  | 2 => ("CountSheets$LineRows", "second", "[I", true)
  | 3 => ("CountSheets$LineRows", "agreement", "[I", true)
  | 4 => ("CountSheets$LineRows", "signature", "[I", true)
  | 5 => ("CountSheets$LineRows", "signedGap", "[I", true)
  | _ => ("CountSheets$LineRows", "signatures", "I", false)
def tyX0 : Nat → FieldType := fun k => match k with
  | 0 => .array .int
  | 1 => .array .int
  | 2 => .array .int
  | 3 => .array .int
  | 4 => .array .int
  | 5 => .array .int
  | _ => .int
abbrev wsX00 : List Cond := u_ws RX0 TX0 7
theorem nmX0 : ∀ a, a < 7 → ∀ b, b < 7 → a ≠ b → (TX0 a).2.1 ≠ (TX0 b).2.1 := by decide +kernel
theorem tyX0_ok : ∀ k, k < 7 → parseFieldDescriptor (TX0 k).2.2.1 = some (tyX0 k) := by decide +kernel
abbrev cX0_init : ByteArray := prog_2_method_1_code
def yX0_init : MethodName := ⟨RX0, "<init>", "()V"⟩
abbrev cX0_countsOn : ByteArray := prog_2_method_2_code
def yX0_countsOn : MethodName := ⟨RX0, "countsOn", "(I)I"⟩
abbrev cX0_isCountedBy : ByteArray := prog_2_method_3_code
def yX0_isCountedBy : MethodName := ⟨RX0, "isCountedBy", "(II)Z"⟩
abbrev cX0_agrees : ByteArray := prog_2_method_4_code
def yX0_agrees : MethodName := ⟨RX0, "agrees", "(I)Z"⟩
abbrev cX0_hasSign : ByteArray := prog_2_method_5_code
def yX0_hasSign : MethodName := ⟨RX0, "hasSign", "(I)Z"⟩
abbrev cX0_add : ByteArray := prog_2_method_6_code
def yX0_add : MethodName := ⟨RX0, "add", "(III)V"⟩
abbrev cX0_middleOf : ByteArray := prog_2_method_7_code
def yX0_middleOf : MethodName := ⟨RX0, "middleOf", "(III)I"⟩
abbrev cX0_write : ByteArray := prog_2_method_8_code
def yX0_write : MethodName := ⟨RX0, "write", "(II)V"⟩
def RX1 : String := "CountSheets$MoveRows"
def TX1 : u_T := fun k => match k with
  | 0 => ("CountSheets$MoveRows", "from", "[I", true)
  | 1 => ("CountSheets$MoveRows", "to", "[I", true)
  | 2 => ("CountSheets$MoveRows", "article", "[I", true)
  | 3 => ("CountSheets$MoveRows", "quantity", "[I", true)
  | 4 => ("CountSheets$MoveRows", "minute", "[I", true)
  | _ => ("CountSheets$MoveRows", "size", "I", false)
def tyX1 : Nat → FieldType := fun k => match k with
  | 0 => .array .int
  | 1 => .array .int
  | 2 => .array .int
  | 3 => .array .int
  | 4 => .array .int
  | _ => .int
abbrev wsX10 : List Cond := u_ws RX1 TX1 6
theorem nmX1 : ∀ a, a < 6 → ∀ b, b < 6 → a ≠ b → (TX1 a).2.1 ≠ (TX1 b).2.1 := by decide +kernel
theorem tyX1_ok : ∀ k, k < 6 → parseFieldDescriptor (TX1 k).2.2.1 = some (tyX1 k) := by decide +kernel
abbrev cX1_init : ByteArray := prog_3_method_1_code
def yX1_init : MethodName := ⟨RX1, "<init>", "()V"⟩
abbrev cX1_add : ByteArray := prog_3_method_2_code
def yX1_add : MethodName := ⟨RX1, "add", "(IIIII)I"⟩
abbrev cX1_brought : ByteArray := prog_3_method_3_code
def yX1_brought : MethodName := ⟨RX1, "brought", "(IIII)I"⟩
def RX2 : String := "CountSheets$SheetRows"
def TX2 : u_T := fun k => match k with
  | 0 => ("CountSheets$SheetRows", "place", "[I", true)
  | 1 => ("CountSheets$SheetRows", "cut", "[I", true)
  | 2 => ("CountSheets$SheetRows", "closed", "[Z", true)
  | _ => ("CountSheets$SheetRows", "size", "I", false)
def tyX2 : Nat → FieldType := fun k => match k with
  | 0 => .array .int
  | 1 => .array .int
  | 2 => .array .boolean
  | _ => .int
abbrev wsX20 : List Cond := u_ws RX2 TX2 4
theorem nmX2 : ∀ a, a < 4 → ∀ b, b < 4 → a ≠ b → (TX2 a).2.1 ≠ (TX2 b).2.1 := by decide +kernel
theorem tyX2_ok : ∀ k, k < 4 → parseFieldDescriptor (TX2 k).2.2.1 = some (tyX2 k) := by decide +kernel
abbrev cX2_init : ByteArray := prog_4_method_1_code
def yX2_init : MethodName := ⟨RX2, "<init>", "()V"⟩
abbrev cX2_add : ByteArray := prog_4_method_2_code
def yX2_add : MethodName := ⟨RX2, "add", "(II)I"⟩
abbrev cX2_isOpenFor : ByteArray := prog_4_method_3_code
def yX2_isOpenFor : MethodName := ⟨RX2, "isOpenFor", "(I)Z"⟩
abbrev cX2_latestFor : ByteArray := prog_4_method_4_code
def yX2_latestFor : MethodName := ⟨RX2, "latestFor", "(I)I"⟩
def RX3 : String := "CountSheets"
def TX3 : u_T := fun k => match k with
  | 0 => ("CountSheets", "prices", "[I", true)
  | 1 => ("CountSheets", "bounds", "[I", true)
  | 2 => ("CountSheets", "moveRows", "LCountSheets$MoveRows;", true)
  | 3 => ("CountSheets", "sheetRows", "LCountSheets$SheetRows;", true)
  | 4 => ("CountSheets", "lineRows", "LCountSheets$LineRows;", true)
  | _ => ("CountSheets", "minuteNow", "I", false)
def tyX3 : Nat → FieldType := fun k => match k with
  | 0 => .array .int
  | 1 => .array .int
  | 2 => .object "CountSheets$MoveRows"
  | 3 => .object "CountSheets$SheetRows"
  | 4 => .object "CountSheets$LineRows"
  | _ => .int
abbrev wsX30 : List Cond := u_ws RX3 TX3 6
theorem nmX3 : ∀ a, a < 6 → ∀ b, b < 6 → a ≠ b → (TX3 a).2.1 ≠ (TX3 b).2.1 := by decide +kernel
theorem tyX3_ok : ∀ k, k < 6 → parseFieldDescriptor (TX3 k).2.2.1 = some (tyX3 k) := by decide +kernel
abbrev cX3_init : ByteArray := prog_1_method_1_code
def yX3_init : MethodName := ⟨RX3, "<init>", "()V"⟩
abbrev cX3_setPrice : ByteArray := prog_1_method_2_code
def yX3_setPrice : MethodName := ⟨RX3, "setPrice", "(II)I"⟩
abbrev cX3_setBound : ByteArray := prog_1_method_3_code
def yX3_setBound : MethodName := ⟨RX3, "setBound", "(II)I"⟩
abbrev cX3_move : ByteArray := prog_1_method_4_code
def yX3_move : MethodName := ⟨RX3, "move", "(IIIII)I"⟩
abbrev cX3_pass : ByteArray := prog_1_method_5_code
def yX3_pass : MethodName := ⟨RX3, "pass", "(I)I"⟩
abbrev cX3_open : ByteArray := prog_1_method_6_code
def yX3_open : MethodName := ⟨RX3, "open", "(I)I"⟩
abbrev cX3_count : ByteArray := prog_1_method_7_code
def yX3_count : MethodName := ⟨RX3, "count", "(IIII)Z"⟩
abbrev cX3_close : ByteArray := prog_1_method_8_code
def yX3_close : MethodName := ⟨RX3, "close", "(I)I"⟩
abbrev cX3_sign : ByteArray := prog_1_method_9_code
def yX3_sign : MethodName := ⟨RX3, "sign", "(III)I"⟩
abbrev cX3_settle : ByteArray := prog_1_method_10_code
def yX3_settle : MethodName := ⟨RX3, "settle", "(III)I"⟩
abbrev cX3_now : ByteArray := prog_1_method_11_code
def yX3_now : MethodName := ⟨RX3, "now", "()I"⟩
abbrev cX3_moves : ByteArray := prog_1_method_12_code
def yX3_moves : MethodName := ⟨RX3, "moves", "()I"⟩
abbrev cX3_book : ByteArray := prog_1_method_13_code
def yX3_book : MethodName := ⟨RX3, "book", "(II)I"⟩
abbrev cX3_bookAt : ByteArray := prog_1_method_14_code
def yX3_bookAt : MethodName := ⟨RX3, "bookAt", "(III)I"⟩
abbrev cX3_worth : ByteArray := prog_1_method_15_code
def yX3_worth : MethodName := ⟨RX3, "worth", "(I)I"⟩
abbrev cX3_suggested : ByteArray := prog_1_method_16_code
def yX3_suggested : MethodName := ⟨RX3, "suggested", "()I"⟩
abbrev cX3_sheets : ByteArray := prog_1_method_17_code
def yX3_sheets : MethodName := ⟨RX3, "sheets", "()I"⟩
abbrev cX3_stateOf : ByteArray := prog_1_method_18_code
def yX3_stateOf : MethodName := ⟨RX3, "stateOf", "(I)I"⟩
abbrev cX3_cutOf : ByteArray := prog_1_method_19_code
def yX3_cutOf : MethodName := ⟨RX3, "cutOf", "(I)I"⟩
abbrev cX3_counts : ByteArray := prog_1_method_20_code
def yX3_counts : MethodName := ⟨RX3, "counts", "(II)I"⟩
abbrev cX3_agreed : ByteArray := prog_1_method_21_code
def yX3_agreed : MethodName := ⟨RX3, "agreed", "(II)I"⟩
abbrev cX3_gap : ByteArray := prog_1_method_22_code
def yX3_gap : MethodName := ⟨RX3, "gap", "(II)I"⟩
abbrev cX3_isSigned : ByteArray := prog_1_method_23_code
def yX3_isSigned : MethodName := ⟨RX3, "isSigned", "(II)Z"⟩
abbrev cX3_likely : ByteArray := prog_1_method_24_code
def yX3_likely : MethodName := ⟨RX3, "likely", "(II)I"⟩
abbrev cX3_exact : ByteArray := prog_1_method_25_code
def yX3_exact : MethodName := ⟨RX3, "exact", "(I)I"⟩
abbrev cX3_checkIndex : ByteArray := prog_1_method_26_code
def yX3_checkIndex : MethodName := ⟨RX3, "checkIndex", "(II)V"⟩
abbrev cX3_checkPlaceOrOutside : ByteArray := prog_1_method_27_code
def yX3_checkPlaceOrOutside : MethodName := ⟨RX3, "checkPlaceOrOutside", "(I)V"⟩
abbrev cX3_checkRange : ByteArray := prog_1_method_28_code
def yX3_checkRange : MethodName := ⟨RX3, "checkRange", "(III)V"⟩
abbrev cX3_checkLine : ByteArray := prog_1_method_29_code
def yX3_checkLine : MethodName := ⟨RX3, "checkLine", "(II)V"⟩
abbrev cX3_checkAgrees : ByteArray := prog_1_method_30_code
def yX3_checkAgrees : MethodName := ⟨RX3, "checkAgrees", "(II)V"⟩
abbrev cX3_lineOf : ByteArray := prog_1_method_31_code
def yX3_lineOf : MethodName := ⟨RX3, "lineOf", "(II)I"⟩
abbrev cX3_bookOf : ByteArray := prog_1_method_32_code
def yX3_bookOf : MethodName := ⟨RX3, "bookOf", "(III)I"⟩
abbrev cX3_signedSheetFor : ByteArray := prog_1_method_33_code
def yX3_signedSheetFor : MethodName := ⟨RX3, "signedSheetFor", "(III)I"⟩
abbrev cX3_isStronger : ByteArray := prog_1_method_34_code
def yX3_isStronger : MethodName := ⟨RX3, "isStronger", "(III)Z"⟩
abbrev cX3_worthOf : ByteArray := prog_1_method_35_code
def yX3_worthOf : MethodName := ⟨RX3, "worthOf", "(I)I"⟩
abbrev cX3_urgencyOf : ByteArray := prog_1_method_36_code
def yX3_urgencyOf : MethodName := ⟨RX3, "urgencyOf", "(I)J"⟩
abbrev cX3_gapOf : ByteArray := prog_1_method_37_code
def yX3_gapOf : MethodName := ⟨RX3, "gapOf", "(II)I"⟩
abbrev cX3_isSignable : ByteArray := prog_1_method_38_code
def yX3_isSignable : MethodName := ⟨RX3, "isSignable", "(II)Z"⟩
abbrev cX3_canBeSettled : ByteArray := prog_1_method_39_code
def yX3_canBeSettled : MethodName := ⟨RX3, "canBeSettled", "(III)Z"⟩
def RX4 : String := "CountSheetsModel"
def TX4 : u_T := fun k => match k with
  | _ => ("", "", "", false)
def tyX4 : Nat → FieldType := fun k => match k with
  | _ => .int
abbrev wsX40 : List Cond := u_ws RX4 TX4 0
theorem nmX4 : ∀ a, a < 0 → ∀ b, b < 0 → a ≠ b → (TX4 a).2.1 ≠ (TX4 b).2.1 := by decide +kernel
theorem tyX4_ok : ∀ k, k < 0 → parseFieldDescriptor (TX4 k).2.2.1 = some (tyX4 k) := by decide +kernel
def RJx145de : String := "java/io/Serializable"
def TJx145de : u_T := fun k => match k with
  | _ => ("", "", "", false)
def tyJx145de : Nat → FieldType := fun k => match k with
  | _ => .int
abbrev wsJx145de0 : List Cond := u_ws RJx145de TJx145de 0
theorem nmJx145de : ∀ a, a < 0 → ∀ b, b < 0 → a ≠ b → (TJx145de a).2.1 ≠ (TJx145de b).2.1 := by decide +kernel
theorem tyJx145de_ok : ∀ k, k < 0 → parseFieldDescriptor (TJx145de k).2.2.1 = some (tyJx145de k) := by decide +kernel
def RJ6 : String := "java/lang/Integer"
def TJ6 : u_T := fun k => match k with
  | _ => ("", "", "", false)
def tyJ6 : Nat → FieldType := fun k => match k with
  | _ => .int
abbrev wsJ60 : List Cond := u_ws RJ6 TJ6 0
theorem nmJ6 : ∀ a, a < 0 → ∀ b, b < 0 → a ≠ b → (TJ6 a).2.1 ≠ (TJ6 b).2.1 := by decide +kernel
theorem tyJ6_ok : ∀ k, k < 0 → parseFieldDescriptor (TJ6 k).2.2.1 = some (tyJ6 k) := by decide +kernel
abbrev cJ6_bitCount_0f7a4 : ByteArray := prog_12_method_49_code
def yJ6_bitCount_0f7a4 : MethodName := ⟨RJ6, "bitCount", "(I)I"⟩
def RJ9 : String := "java/lang/Math"
def TJ9 : u_T := fun k => match k with
  | _ => ("", "", "", false)
def tyJ9 : Nat → FieldType := fun k => match k with
  | _ => .int
abbrev wsJ90 : List Cond := u_ws RJ9 TJ9 0
theorem nmJ9 : ∀ a, a < 0 → ∀ b, b < 0 → a ≠ b → (TJ9 a).2.1 ≠ (TJ9 b).2.1 := by decide +kernel
theorem tyJ9_ok : ∀ k, k < 0 → parseFieldDescriptor (TJ9 k).2.2.1 = some (tyJ9 k) := by decide +kernel
abbrev cJ9_abs_0f7a4 : ByteArray := prog_13_method_59_code
def yJ9_abs_0f7a4 : MethodName := ⟨RJ9, "abs", "(I)I"⟩
abbrev cJ9_max_7cf53 : ByteArray := prog_13_method_65_code
def yJ9_max_7cf53 : MethodName := ⟨RJ9, "max", "(II)I"⟩
abbrev cJ9_min_7cf53 : ByteArray := prog_13_method_69_code
def yJ9_min_7cf53 : MethodName := ⟨RJ9, "min", "(II)I"⟩
def RJ0 : String := "java/lang/String"
def TJ0 : u_T := fun k => match k with
  | _ => ("", "", "", false)
def tyJ0 : Nat → FieldType := fun k => match k with
  | _ => .int
abbrev wsJ00 : List Cond := u_ws RJ0 TJ0 0
theorem nmJ0 : ∀ a, a < 0 → ∀ b, b < 0 → a ≠ b → (TJ0 a).2.1 ≠ (TJ0 b).2.1 := by decide +kernel
theorem tyJ0_ok : ∀ k, k < 0 → parseFieldDescriptor (TJ0 k).2.2.1 = some (tyJ0 k) := by decide +kernel
def RJ7 : String := "java/util/Arrays"
def TJ7 : u_T := fun k => match k with
  | _ => ("", "", "", false)
def tyJ7 : Nat → FieldType := fun k => match k with
  | _ => .int
abbrev wsJ70 : List Cond := u_ws RJ7 TJ7 0
theorem nmJ7 : ∀ a, a < 0 → ∀ b, b < 0 → a ≠ b → (TJ7 a).2.1 ≠ (TJ7 b).2.1 := by decide +kernel
theorem tyJ7_ok : ∀ k, k < 0 → parseFieldDescriptor (TJ7 k).2.2.1 = some (tyJ7 k) := by decide +kernel
abbrev cJ7_fill_53178 : ByteArray := prog_17_method_103_code
def yJ7_fill_53178 : MethodName := ⟨RJ7, "fill", "([II)V"⟩
def RL : String := "CountSheetsLaw"
abbrev cL_at : ByteArray := method_2_code
def yL_at : MethodName := ⟨RL, "at", "([II)I"⟩
abbrev cL_low : ByteArray := method_3_code
def yL_low : MethodName := ⟨RL, "low", "(II)I"⟩
abbrev cL_setPrice : ByteArray := method_4_code
def yL_setPrice : MethodName := ⟨RL, "setPrice", "(LCountSheets;II)I"⟩
abbrev cL_setBound : ByteArray := method_5_code
def yL_setBound : MethodName := ⟨RL, "setBound", "(LCountSheets;II)I"⟩
abbrev cL_move : ByteArray := method_6_code
def yL_move : MethodName := ⟨RL, "move", "(LCountSheets;IIIII)I"⟩
abbrev cL_pass : ByteArray := method_7_code
def yL_pass : MethodName := ⟨RL, "pass", "(LCountSheets;I)I"⟩
abbrev cL_open : ByteArray := method_8_code
def yL_open : MethodName := ⟨RL, "open", "(LCountSheets;I)I"⟩
abbrev cL_count : ByteArray := method_9_code
def yL_count : MethodName := ⟨RL, "count", "(LCountSheets;IIII)I"⟩
abbrev cL_close : ByteArray := method_10_code
def yL_close : MethodName := ⟨RL, "close", "(LCountSheets;I)I"⟩
abbrev cL_sign : ByteArray := method_11_code
def yL_sign : MethodName := ⟨RL, "sign", "(LCountSheets;III)I"⟩
abbrev cL_settle : ByteArray := method_12_code
def yL_settle : MethodName := ⟨RL, "settle", "(LCountSheets;III)I"⟩
abbrev cL_book : ByteArray := method_13_code
def yL_book : MethodName := ⟨RL, "book", "(LCountSheets;II)I"⟩
abbrev cL_bookAt : ByteArray := method_14_code
def yL_bookAt : MethodName := ⟨RL, "bookAt", "(LCountSheets;III)I"⟩
abbrev cL_worth : ByteArray := method_15_code
def yL_worth : MethodName := ⟨RL, "worth", "(LCountSheets;I)I"⟩
abbrev cL_stateOf : ByteArray := method_16_code
def yL_stateOf : MethodName := ⟨RL, "stateOf", "(LCountSheets;I)I"⟩
abbrev cL_cutOf : ByteArray := method_17_code
def yL_cutOf : MethodName := ⟨RL, "cutOf", "(LCountSheets;I)I"⟩
abbrev cL_counts : ByteArray := method_18_code
def yL_counts : MethodName := ⟨RL, "counts", "(LCountSheets;II)I"⟩
abbrev cL_agreed : ByteArray := method_19_code
def yL_agreed : MethodName := ⟨RL, "agreed", "(LCountSheets;II)I"⟩
abbrev cL_gap : ByteArray := method_20_code
def yL_gap : MethodName := ⟨RL, "gap", "(LCountSheets;II)I"⟩
abbrev cL_isSigned : ByteArray := method_21_code
def yL_isSigned : MethodName := ⟨RL, "isSigned", "(LCountSheets;II)I"⟩
abbrev cL_likely : ByteArray := method_22_code
def yL_likely : MethodName := ⟨RL, "likely", "(LCountSheets;II)I"⟩
abbrev cL_exact : ByteArray := method_23_code
def yL_exact : MethodName := ⟨RL, "exact", "(LCountSheets;I)I"⟩
abbrev cL_size : ByteArray := method_24_code
def yL_size : MethodName := ⟨RL, "size", "(I)I"⟩
abbrev cL_print : ByteArray := method_25_code
def yL_print : MethodName := ⟨RL, "print", "(LCountSheets;)J"⟩
abbrev cL_places : ByteArray := method_26_code
def yL_places : MethodName := ⟨RL, "places", "(LCountSheets;[I[I[I)Z"⟩
abbrev cL_sheet : ByteArray := method_27_code
def yL_sheet : MethodName := ⟨RL, "sheet", "(LCountSheets;[I[I[II)Z"⟩
abbrev cL_isSo : ByteArray := method_28_code
def yL_isSo : MethodName := ⟨RL, "isSo", "(LCountSheets;[I[I[I[I[I)Z"⟩
abbrev cL_moves : ByteArray := method_29_code
def yL_moves : MethodName := ⟨RL, "moves", "(LCountSheets;LCountSheets;[III)Z"⟩
abbrev cL_signs : ByteArray := method_30_code
def yL_signs : MethodName := ⟨RL, "signs", "(LCountSheets;LCountSheets;[I[I[I[IIII)Z"⟩
abbrev cL_settles : ByteArray := method_31_code
def yL_settles : MethodName := ⟨RL, "settles", "(LCountSheets;LCountSheets;[I[I[I[IIII)Z"⟩
abbrev cL_acts : ByteArray := method_32_code
def yL_acts : MethodName := ⟨RL, "acts", "(LCountSheets;LCountSheets;[I[I[I[I[III)Z"⟩
abbrev cL_law : ByteArray := code
def yL_law : MethodName := ⟨RL, "law", "([I)Z"⟩
end
section
theorem dX0_init_0 : decode cX0_init 0 = .ok (.aload_n 0, 1) := by decide +kernel
theorem dX0_init_1 : decode cX0_init 1 = .ok (.invokespecial 3, 3) := by decide +kernel
theorem dX0_init_4 : decode cX0_init 4 = .ok (.aload_n 0, 1) := by decide +kernel
theorem dX0_init_5 : decode cX0_init 5 = .ok (.sipush 200, 3) := by decide +kernel
theorem dX0_init_8 : decode cX0_init 8 = .ok (.newarray .int, 2) := by decide +kernel
theorem dX0_init_10 : decode cX0_init 10 = .ok (.putfield 11, 3) := by decide +kernel
theorem dX0_init_13 : decode cX0_init 13 = .ok (.aload_n 0, 1) := by decide +kernel
theorem dX0_init_14 : decode cX0_init 14 = .ok (.sipush 200, 3) := by decide +kernel
theorem dX0_init_17 : decode cX0_init 17 = .ok (.newarray .int, 2) := by decide +kernel
theorem dX0_init_19 : decode cX0_init 19 = .ok (.putfield 15, 3) := by decide +kernel
theorem dX0_init_22 : decode cX0_init 22 = .ok (.aload_n 0, 1) := by decide +kernel
theorem dX0_init_23 : decode cX0_init 23 = .ok (.sipush 200, 3) := by decide +kernel
theorem dX0_init_26 : decode cX0_init 26 = .ok (.newarray .int, 2) := by decide +kernel
theorem dX0_init_28 : decode cX0_init 28 = .ok (.putfield 18, 3) := by decide +kernel
theorem dX0_init_31 : decode cX0_init 31 = .ok (.aload_n 0, 1) := by decide +kernel
theorem dX0_init_32 : decode cX0_init 32 = .ok (.sipush 200, 3) := by decide +kernel
theorem dX0_init_35 : decode cX0_init 35 = .ok (.newarray .int, 2) := by decide +kernel
theorem dX0_init_37 : decode cX0_init 37 = .ok (.putfield 21, 3) := by decide +kernel
theorem dX0_init_40 : decode cX0_init 40 = .ok (.aload_n 0, 1) := by decide +kernel
theorem dX0_init_41 : decode cX0_init 41 = .ok (.sipush 200, 3) := by decide +kernel
theorem dX0_init_44 : decode cX0_init 44 = .ok (.newarray .int, 2) := by decide +kernel
theorem dX0_init_46 : decode cX0_init 46 = .ok (.putfield 24, 3) := by decide +kernel
theorem dX0_init_49 : decode cX0_init 49 = .ok (.aload_n 0, 1) := by decide +kernel
theorem dX0_init_50 : decode cX0_init 50 = .ok (.sipush 200, 3) := by decide +kernel
theorem dX0_init_53 : decode cX0_init 53 = .ok (.newarray .int, 2) := by decide +kernel
theorem dX0_init_55 : decode cX0_init 55 = .ok (.putfield 27, 3) := by decide +kernel
theorem dX0_init_58 : decode cX0_init 58 = .ok (.aload_n 0, 1) := by decide +kernel
theorem dX0_init_59 : decode cX0_init 59 = .ok (.iconst 0, 1) := by decide +kernel
theorem dX0_init_60 : decode cX0_init 60 = .ok (.putfield 30, 3) := by decide +kernel
theorem dX0_init_63 : decode cX0_init 63 = .ok (.aload_n 0, 1) := by decide +kernel
theorem dX0_init_64 : decode cX0_init 64 = .ok (.getfield 21, 3) := by decide +kernel
theorem dX0_init_67 : decode cX0_init 67 = .ok (.iconst (-1), 1) := by decide +kernel
theorem dX0_init_68 : decode cX0_init 68 = .ok (.invokestatic 34, 3) := by decide +kernel
theorem dX0_init_71 : decode cX0_init 71 = .ok (.return_, 1) := by decide +kernel
theorem dX0_countsOn_0 : decode cX0_countsOn 0 = .ok (.aload_n 0, 1) := by decide +kernel
theorem dX0_countsOn_1 : decode cX0_countsOn 1 = .ok (.getfield 11, 3) := by decide +kernel
theorem dX0_countsOn_4 : decode cX0_countsOn 4 = .ok (.iload_n 1, 1) := by decide +kernel
theorem dX0_countsOn_5 : decode cX0_countsOn 5 = .ok (.iaload, 1) := by decide +kernel
theorem dX0_countsOn_6 : decode cX0_countsOn 6 = .ok (.invokestatic 40, 3) := by decide +kernel
theorem dX0_countsOn_9 : decode cX0_countsOn 9 = .ok (.ireturn, 1) := by decide +kernel
theorem dX0_isCountedBy_0 : decode cX0_isCountedBy 0 = .ok (.aload_n 0, 1) := by decide +kernel
theorem dX0_isCountedBy_1 : decode cX0_isCountedBy 1 = .ok (.getfield 11, 3) := by decide +kernel
theorem dX0_isCountedBy_4 : decode cX0_isCountedBy 4 = .ok (.iload_n 1, 1) := by decide +kernel
theorem dX0_isCountedBy_5 : decode cX0_isCountedBy 5 = .ok (.iaload, 1) := by decide +kernel
theorem dX0_isCountedBy_6 : decode cX0_isCountedBy 6 = .ok (.iconst 1, 1) := by decide +kernel
theorem dX0_isCountedBy_7 : decode cX0_isCountedBy 7 = .ok (.iload_n 2, 1) := by decide +kernel
theorem dX0_isCountedBy_8 : decode cX0_isCountedBy 8 = .ok (.ishl, 1) := by decide +kernel
theorem dX0_isCountedBy_9 : decode cX0_isCountedBy 9 = .ok (.iand, 1) := by decide +kernel
theorem dX0_isCountedBy_10 : decode cX0_isCountedBy 10 = .ok (.ifCond .eq 7, 3) := by decide +kernel
theorem dX0_isCountedBy_13 : decode cX0_isCountedBy 13 = .ok (.iconst 1, 1) := by decide +kernel
theorem dX0_isCountedBy_14 : decode cX0_isCountedBy 14 = .ok (.goto 4, 3) := by decide +kernel
theorem dX0_isCountedBy_17 : decode cX0_isCountedBy 17 = .ok (.iconst 0, 1) := by decide +kernel
theorem dX0_isCountedBy_18 : decode cX0_isCountedBy 18 = .ok (.ireturn, 1) := by decide +kernel
theorem dX0_agrees_0 : decode cX0_agrees 0 = .ok (.aload_n 0, 1) := by decide +kernel
theorem dX0_agrees_1 : decode cX0_agrees 1 = .ok (.getfield 21, 3) := by decide +kernel
theorem dX0_agrees_4 : decode cX0_agrees 4 = .ok (.iload_n 1, 1) := by decide +kernel
theorem dX0_agrees_5 : decode cX0_agrees 5 = .ok (.iaload, 1) := by decide +kernel
theorem dX0_agrees_6 : decode cX0_agrees 6 = .ok (.iconst (-1), 1) := by decide +kernel
theorem dX0_agrees_7 : decode cX0_agrees 7 = .ok (.if_icmp .eq 7, 3) := by decide +kernel
theorem dX0_agrees_10 : decode cX0_agrees 10 = .ok (.iconst 1, 1) := by decide +kernel
theorem dX0_agrees_11 : decode cX0_agrees 11 = .ok (.goto 4, 3) := by decide +kernel
theorem dX0_agrees_14 : decode cX0_agrees 14 = .ok (.iconst 0, 1) := by decide +kernel
theorem dX0_agrees_15 : decode cX0_agrees 15 = .ok (.ireturn, 1) := by decide +kernel
theorem dX0_hasSign_0 : decode cX0_hasSign 0 = .ok (.aload_n 0, 1) := by decide +kernel
theorem dX0_hasSign_1 : decode cX0_hasSign 1 = .ok (.getfield 24, 3) := by decide +kernel
theorem dX0_hasSign_4 : decode cX0_hasSign 4 = .ok (.iload_n 1, 1) := by decide +kernel
theorem dX0_hasSign_5 : decode cX0_hasSign 5 = .ok (.iaload, 1) := by decide +kernel
theorem dX0_hasSign_6 : decode cX0_hasSign 6 = .ok (.ifCond .eq 7, 3) := by decide +kernel
theorem dX0_hasSign_9 : decode cX0_hasSign 9 = .ok (.iconst 1, 1) := by decide +kernel
theorem dX0_hasSign_10 : decode cX0_hasSign 10 = .ok (.goto 4, 3) := by decide +kernel
theorem dX0_hasSign_13 : decode cX0_hasSign 13 = .ok (.iconst 0, 1) := by decide +kernel
theorem dX0_hasSign_14 : decode cX0_hasSign 14 = .ok (.ireturn, 1) := by decide +kernel
theorem dX0_add_0 : decode cX0_add 0 = .ok (.aload_n 0, 1) := by decide +kernel
theorem dX0_add_1 : decode cX0_add 1 = .ok (.iload_n 1, 1) := by decide +kernel
theorem dX0_add_2 : decode cX0_add 2 = .ok (.invokevirtual 46, 3) := by decide +kernel
theorem dX0_add_5 : decode cX0_add 5 = .ok (.istore 4, 2) := by decide +kernel
theorem dX0_add_7 : decode cX0_add 7 = .ok (.iload 4, 2) := by decide +kernel
theorem dX0_add_9 : decode cX0_add 9 = .ok (.ifCond .ne 13, 3) := by decide +kernel
theorem dX0_add_12 : decode cX0_add 12 = .ok (.aload_n 0, 1) := by decide +kernel
theorem dX0_add_13 : decode cX0_add 13 = .ok (.getfield 15, 3) := by decide +kernel
theorem dX0_add_16 : decode cX0_add 16 = .ok (.iload_n 1, 1) := by decide +kernel
theorem dX0_add_17 : decode cX0_add 17 = .ok (.iload_n 3, 1) := by decide +kernel
theorem dX0_add_18 : decode cX0_add 18 = .ok (.iastore, 1) := by decide +kernel
theorem dX0_add_19 : decode cX0_add 19 = .ok (.goto 62, 3) := by decide +kernel
theorem dX0_add_22 : decode cX0_add 22 = .ok (.iload 4, 2) := by decide +kernel
theorem dX0_add_24 : decode cX0_add 24 = .ok (.iconst 1, 1) := by decide +kernel
theorem dX0_add_25 : decode cX0_add 25 = .ok (.if_icmp .ne 34, 3) := by decide +kernel
theorem dX0_add_28 : decode cX0_add 28 = .ok (.aload_n 0, 1) := by decide +kernel
theorem dX0_add_29 : decode cX0_add 29 = .ok (.getfield 18, 3) := by decide +kernel
theorem dX0_add_32 : decode cX0_add 32 = .ok (.iload_n 1, 1) := by decide +kernel
theorem dX0_add_33 : decode cX0_add 33 = .ok (.iload_n 3, 1) := by decide +kernel
theorem dX0_add_34 : decode cX0_add 34 = .ok (.iastore, 1) := by decide +kernel
theorem dX0_add_35 : decode cX0_add 35 = .ok (.aload_n 0, 1) := by decide +kernel
theorem dX0_add_36 : decode cX0_add 36 = .ok (.getfield 21, 3) := by decide +kernel
theorem dX0_add_39 : decode cX0_add 39 = .ok (.iload_n 1, 1) := by decide +kernel
theorem dX0_add_40 : decode cX0_add 40 = .ok (.aload_n 0, 1) := by decide +kernel
theorem dX0_add_41 : decode cX0_add 41 = .ok (.getfield 15, 3) := by decide +kernel
theorem dX0_add_44 : decode cX0_add 44 = .ok (.iload_n 1, 1) := by decide +kernel
theorem dX0_add_45 : decode cX0_add 45 = .ok (.iaload, 1) := by decide +kernel
theorem dX0_add_46 : decode cX0_add 46 = .ok (.iload_n 3, 1) := by decide +kernel
theorem dX0_add_47 : decode cX0_add 47 = .ok (.if_icmp .ne 7, 3) := by decide +kernel
theorem dX0_add_50 : decode cX0_add 50 = .ok (.iload_n 3, 1) := by decide +kernel
theorem dX0_add_51 : decode cX0_add 51 = .ok (.goto 4, 3) := by decide +kernel
theorem dX0_add_54 : decode cX0_add 54 = .ok (.iconst (-1), 1) := by decide +kernel
theorem dX0_add_55 : decode cX0_add 55 = .ok (.iastore, 1) := by decide +kernel
theorem dX0_add_56 : decode cX0_add 56 = .ok (.goto 25, 3) := by decide +kernel
theorem dX0_add_59 : decode cX0_add 59 = .ok (.aload_n 0, 1) := by decide +kernel
theorem dX0_add_60 : decode cX0_add 60 = .ok (.getfield 21, 3) := by decide +kernel
theorem dX0_add_63 : decode cX0_add 63 = .ok (.iload_n 1, 1) := by decide +kernel
theorem dX0_add_64 : decode cX0_add 64 = .ok (.aload_n 0, 1) := by decide +kernel
theorem dX0_add_65 : decode cX0_add 65 = .ok (.getfield 15, 3) := by decide +kernel
theorem dX0_add_68 : decode cX0_add 68 = .ok (.iload_n 1, 1) := by decide +kernel
theorem dX0_add_69 : decode cX0_add 69 = .ok (.iaload, 1) := by decide +kernel
theorem dX0_add_70 : decode cX0_add 70 = .ok (.aload_n 0, 1) := by decide +kernel
theorem dX0_add_71 : decode cX0_add 71 = .ok (.getfield 18, 3) := by decide +kernel
theorem dX0_add_74 : decode cX0_add 74 = .ok (.iload_n 1, 1) := by decide +kernel
theorem dX0_add_75 : decode cX0_add 75 = .ok (.iaload, 1) := by decide +kernel
theorem dX0_add_76 : decode cX0_add 76 = .ok (.iload_n 3, 1) := by decide +kernel
theorem dX0_add_77 : decode cX0_add 77 = .ok (.invokestatic 49, 3) := by decide +kernel
theorem dX0_add_80 : decode cX0_add 80 = .ok (.iastore, 1) := by decide +kernel
theorem dX0_add_81 : decode cX0_add 81 = .ok (.aload_n 0, 1) := by decide +kernel
theorem dX0_add_82 : decode cX0_add 82 = .ok (.getfield 11, 3) := by decide +kernel
theorem dX0_add_85 : decode cX0_add 85 = .ok (.iload_n 1, 1) := by decide +kernel
theorem dX0_add_86 : decode cX0_add 86 = .ok (.dup2, 1) := by decide +kernel
theorem dX0_add_87 : decode cX0_add 87 = .ok (.iaload, 1) := by decide +kernel
theorem dX0_add_88 : decode cX0_add 88 = .ok (.iconst 1, 1) := by decide +kernel
theorem dX0_add_89 : decode cX0_add 89 = .ok (.iload_n 2, 1) := by decide +kernel
theorem dX0_add_90 : decode cX0_add 90 = .ok (.ishl, 1) := by decide +kernel
theorem dX0_add_91 : decode cX0_add 91 = .ok (.ior, 1) := by decide +kernel
theorem dX0_add_92 : decode cX0_add 92 = .ok (.iastore, 1) := by decide +kernel
theorem dX0_add_93 : decode cX0_add 93 = .ok (.return_, 1) := by decide +kernel
theorem dX0_middleOf_0 : decode cX0_middleOf 0 = .ok (.iload_n 0, 1) := by decide +kernel
theorem dX0_middleOf_1 : decode cX0_middleOf 1 = .ok (.iload_n 1, 1) := by decide +kernel
theorem dX0_middleOf_2 : decode cX0_middleOf 2 = .ok (.invokestatic 53, 3) := by decide +kernel
theorem dX0_middleOf_5 : decode cX0_middleOf 5 = .ok (.iload_n 0, 1) := by decide +kernel
theorem dX0_middleOf_6 : decode cX0_middleOf 6 = .ok (.iload_n 1, 1) := by decide +kernel
theorem dX0_middleOf_7 : decode cX0_middleOf 7 = .ok (.invokestatic 59, 3) := by decide +kernel
theorem dX0_middleOf_10 : decode cX0_middleOf 10 = .ok (.iload_n 2, 1) := by decide +kernel
theorem dX0_middleOf_11 : decode cX0_middleOf 11 = .ok (.invokestatic 53, 3) := by decide +kernel
theorem dX0_middleOf_14 : decode cX0_middleOf 14 = .ok (.invokestatic 59, 3) := by decide +kernel
theorem dX0_middleOf_17 : decode cX0_middleOf 17 = .ok (.ireturn, 1) := by decide +kernel
theorem dX0_write_0 : decode cX0_write 0 = .ok (.aload_n 0, 1) := by decide +kernel
theorem dX0_write_1 : decode cX0_write 1 = .ok (.dup, 1) := by decide +kernel
theorem dX0_write_2 : decode cX0_write 2 = .ok (.getfield 30, 3) := by decide +kernel
theorem dX0_write_5 : decode cX0_write 5 = .ok (.iconst 1, 1) := by decide +kernel
theorem dX0_write_6 : decode cX0_write 6 = .ok (.iadd, 1) := by decide +kernel
theorem dX0_write_7 : decode cX0_write 7 = .ok (.putfield 30, 3) := by decide +kernel
theorem dX0_write_10 : decode cX0_write 10 = .ok (.aload_n 0, 1) := by decide +kernel
theorem dX0_write_11 : decode cX0_write 11 = .ok (.getfield 24, 3) := by decide +kernel
theorem dX0_write_14 : decode cX0_write 14 = .ok (.iload_n 1, 1) := by decide +kernel
theorem dX0_write_15 : decode cX0_write 15 = .ok (.aload_n 0, 1) := by decide +kernel
theorem dX0_write_16 : decode cX0_write 16 = .ok (.getfield 30, 3) := by decide +kernel
theorem dX0_write_19 : decode cX0_write 19 = .ok (.iastore, 1) := by decide +kernel
theorem dX0_write_20 : decode cX0_write 20 = .ok (.aload_n 0, 1) := by decide +kernel
theorem dX0_write_21 : decode cX0_write 21 = .ok (.getfield 27, 3) := by decide +kernel
theorem dX0_write_24 : decode cX0_write 24 = .ok (.iload_n 1, 1) := by decide +kernel
theorem dX0_write_25 : decode cX0_write 25 = .ok (.iload_n 2, 1) := by decide +kernel
theorem dX0_write_26 : decode cX0_write 26 = .ok (.iastore, 1) := by decide +kernel
theorem dX0_write_27 : decode cX0_write 27 = .ok (.return_, 1) := by decide +kernel
theorem dX1_init_0 : decode cX1_init 0 = .ok (.aload_n 0, 1) := by decide +kernel
theorem dX1_init_1 : decode cX1_init 1 = .ok (.invokespecial 3, 3) := by decide +kernel
theorem dX1_init_4 : decode cX1_init 4 = .ok (.aload_n 0, 1) := by decide +kernel
theorem dX1_init_5 : decode cX1_init 5 = .ok (.sipush 200, 3) := by decide +kernel
theorem dX1_init_8 : decode cX1_init 8 = .ok (.newarray .int, 2) := by decide +kernel
theorem dX1_init_10 : decode cX1_init 10 = .ok (.putfield 9, 3) := by decide +kernel
theorem dX1_init_13 : decode cX1_init 13 = .ok (.aload_n 0, 1) := by decide +kernel
theorem dX1_init_14 : decode cX1_init 14 = .ok (.sipush 200, 3) := by decide +kernel
theorem dX1_init_17 : decode cX1_init 17 = .ok (.newarray .int, 2) := by decide +kernel
theorem dX1_init_19 : decode cX1_init 19 = .ok (.putfield 15, 3) := by decide +kernel
theorem dX1_init_22 : decode cX1_init 22 = .ok (.aload_n 0, 1) := by decide +kernel
theorem dX1_init_23 : decode cX1_init 23 = .ok (.sipush 200, 3) := by decide +kernel
theorem dX1_init_26 : decode cX1_init 26 = .ok (.newarray .int, 2) := by decide +kernel
theorem dX1_init_28 : decode cX1_init 28 = .ok (.putfield 18, 3) := by decide +kernel
theorem dX1_init_31 : decode cX1_init 31 = .ok (.aload_n 0, 1) := by decide +kernel
theorem dX1_init_32 : decode cX1_init 32 = .ok (.sipush 200, 3) := by decide +kernel
theorem dX1_init_35 : decode cX1_init 35 = .ok (.newarray .int, 2) := by decide +kernel
theorem dX1_init_37 : decode cX1_init 37 = .ok (.putfield 21, 3) := by decide +kernel
theorem dX1_init_40 : decode cX1_init 40 = .ok (.aload_n 0, 1) := by decide +kernel
theorem dX1_init_41 : decode cX1_init 41 = .ok (.sipush 200, 3) := by decide +kernel
theorem dX1_init_44 : decode cX1_init 44 = .ok (.newarray .int, 2) := by decide +kernel
theorem dX1_init_46 : decode cX1_init 46 = .ok (.putfield 24, 3) := by decide +kernel
theorem dX1_init_49 : decode cX1_init 49 = .ok (.aload_n 0, 1) := by decide +kernel
theorem dX1_init_50 : decode cX1_init 50 = .ok (.iconst 0, 1) := by decide +kernel
theorem dX1_init_51 : decode cX1_init 51 = .ok (.putfield 27, 3) := by decide +kernel
theorem dX1_init_54 : decode cX1_init 54 = .ok (.return_, 1) := by decide +kernel
theorem dX1_add_0 : decode cX1_add 0 = .ok (.aload_n 0, 1) := by decide +kernel
theorem dX1_add_1 : decode cX1_add 1 = .ok (.getfield 27, 3) := by decide +kernel
theorem dX1_add_4 : decode cX1_add 4 = .ok (.istore 6, 2) := by decide +kernel
theorem dX1_add_6 : decode cX1_add 6 = .ok (.aload_n 0, 1) := by decide +kernel
theorem dX1_add_7 : decode cX1_add 7 = .ok (.getfield 9, 3) := by decide +kernel
theorem dX1_add_10 : decode cX1_add 10 = .ok (.iload 6, 2) := by decide +kernel
theorem dX1_add_12 : decode cX1_add 12 = .ok (.iload_n 1, 1) := by decide +kernel
theorem dX1_add_13 : decode cX1_add 13 = .ok (.iastore, 1) := by decide +kernel
theorem dX1_add_14 : decode cX1_add 14 = .ok (.aload_n 0, 1) := by decide +kernel
theorem dX1_add_15 : decode cX1_add 15 = .ok (.getfield 15, 3) := by decide +kernel
theorem dX1_add_18 : decode cX1_add 18 = .ok (.iload 6, 2) := by decide +kernel
theorem dX1_add_20 : decode cX1_add 20 = .ok (.iload_n 2, 1) := by decide +kernel
theorem dX1_add_21 : decode cX1_add 21 = .ok (.iastore, 1) := by decide +kernel
theorem dX1_add_22 : decode cX1_add 22 = .ok (.aload_n 0, 1) := by decide +kernel
theorem dX1_add_23 : decode cX1_add 23 = .ok (.getfield 18, 3) := by decide +kernel
theorem dX1_add_26 : decode cX1_add 26 = .ok (.iload 6, 2) := by decide +kernel
theorem dX1_add_28 : decode cX1_add 28 = .ok (.iload_n 3, 1) := by decide +kernel
theorem dX1_add_29 : decode cX1_add 29 = .ok (.iastore, 1) := by decide +kernel
theorem dX1_add_30 : decode cX1_add 30 = .ok (.aload_n 0, 1) := by decide +kernel
theorem dX1_add_31 : decode cX1_add 31 = .ok (.getfield 21, 3) := by decide +kernel
theorem dX1_add_34 : decode cX1_add 34 = .ok (.iload 6, 2) := by decide +kernel
theorem dX1_add_36 : decode cX1_add 36 = .ok (.iload 4, 2) := by decide +kernel
theorem dX1_add_38 : decode cX1_add 38 = .ok (.iastore, 1) := by decide +kernel
theorem dX1_add_39 : decode cX1_add 39 = .ok (.aload_n 0, 1) := by decide +kernel
theorem dX1_add_40 : decode cX1_add 40 = .ok (.getfield 24, 3) := by decide +kernel
theorem dX1_add_43 : decode cX1_add 43 = .ok (.iload 6, 2) := by decide +kernel
theorem dX1_add_45 : decode cX1_add 45 = .ok (.iload 5, 2) := by decide +kernel
theorem dX1_add_47 : decode cX1_add 47 = .ok (.iastore, 1) := by decide +kernel
theorem dX1_add_48 : decode cX1_add 48 = .ok (.aload_n 0, 1) := by decide +kernel
theorem dX1_add_49 : decode cX1_add 49 = .ok (.dup, 1) := by decide +kernel
theorem dX1_add_50 : decode cX1_add 50 = .ok (.getfield 27, 3) := by decide +kernel
theorem dX1_add_53 : decode cX1_add 53 = .ok (.iconst 1, 1) := by decide +kernel
theorem dX1_add_54 : decode cX1_add 54 = .ok (.iadd, 1) := by decide +kernel
theorem dX1_add_55 : decode cX1_add 55 = .ok (.putfield 27, 3) := by decide +kernel
theorem dX1_add_58 : decode cX1_add 58 = .ok (.iload 6, 2) := by decide +kernel
theorem dX1_add_60 : decode cX1_add 60 = .ok (.ireturn, 1) := by decide +kernel
theorem dX1_brought_0 : decode cX1_brought 0 = .ok (.iconst 0, 1) := by decide +kernel
theorem dX1_brought_1 : decode cX1_brought 1 = .ok (.istore 5, 2) := by decide +kernel
theorem dX1_brought_3 : decode cX1_brought 3 = .ok (.iconst 0, 1) := by decide +kernel
theorem dX1_brought_4 : decode cX1_brought 4 = .ok (.istore 6, 2) := by decide +kernel
theorem dX1_brought_6 : decode cX1_brought 6 = .ok (.iload 6, 2) := by decide +kernel
theorem dX1_brought_8 : decode cX1_brought 8 = .ok (.aload_n 0, 1) := by decide +kernel
theorem dX1_brought_9 : decode cX1_brought 9 = .ok (.getfield 27, 3) := by decide +kernel
theorem dX1_brought_12 : decode cX1_brought 12 = .ok (.if_icmp .ge 92, 3) := by decide +kernel
theorem dX1_brought_15 : decode cX1_brought 15 = .ok (.aload_n 0, 1) := by decide +kernel
theorem dX1_brought_16 : decode cX1_brought 16 = .ok (.getfield 18, 3) := by decide +kernel
theorem dX1_brought_19 : decode cX1_brought 19 = .ok (.iload 6, 2) := by decide +kernel
theorem dX1_brought_21 : decode cX1_brought 21 = .ok (.iaload, 1) := by decide +kernel
theorem dX1_brought_22 : decode cX1_brought 22 = .ok (.iload_n 2, 1) := by decide +kernel
theorem dX1_brought_23 : decode cX1_brought 23 = .ok (.if_icmp .ne 75, 3) := by decide +kernel
theorem dX1_brought_26 : decode cX1_brought 26 = .ok (.aload_n 0, 1) := by decide +kernel
theorem dX1_brought_27 : decode cX1_brought 27 = .ok (.getfield 24, 3) := by decide +kernel
theorem dX1_brought_30 : decode cX1_brought 30 = .ok (.iload 6, 2) := by decide +kernel
theorem dX1_brought_32 : decode cX1_brought 32 = .ok (.iaload, 1) := by decide +kernel
theorem dX1_brought_33 : decode cX1_brought 33 = .ok (.iload_n 3, 1) := by decide +kernel
theorem dX1_brought_34 : decode cX1_brought 34 = .ok (.if_icmp .le 64, 3) := by decide +kernel
theorem dX1_brought_37 : decode cX1_brought 37 = .ok (.aload_n 0, 1) := by decide +kernel
theorem dX1_brought_38 : decode cX1_brought 38 = .ok (.getfield 24, 3) := by decide +kernel
theorem dX1_brought_41 : decode cX1_brought 41 = .ok (.iload 6, 2) := by decide +kernel
theorem dX1_brought_43 : decode cX1_brought 43 = .ok (.iaload, 1) := by decide +kernel
theorem dX1_brought_44 : decode cX1_brought 44 = .ok (.iload 4, 2) := by decide +kernel
theorem dX1_brought_46 : decode cX1_brought 46 = .ok (.if_icmp .gt 52, 3) := by decide +kernel
theorem dX1_brought_49 : decode cX1_brought 49 = .ok (.aload_n 0, 1) := by decide +kernel
theorem dX1_brought_50 : decode cX1_brought 50 = .ok (.getfield 15, 3) := by decide +kernel
theorem dX1_brought_53 : decode cX1_brought 53 = .ok (.iload 6, 2) := by decide +kernel
theorem dX1_brought_55 : decode cX1_brought 55 = .ok (.iaload, 1) := by decide +kernel
theorem dX1_brought_56 : decode cX1_brought 56 = .ok (.iload_n 1, 1) := by decide +kernel
theorem dX1_brought_57 : decode cX1_brought 57 = .ok (.if_icmp .ne 18, 3) := by decide +kernel
theorem dX1_brought_60 : decode cX1_brought 60 = .ok (.iload 5, 2) := by decide +kernel
theorem dX1_brought_62 : decode cX1_brought 62 = .ok (.aload_n 0, 1) := by decide +kernel
theorem dX1_brought_63 : decode cX1_brought 63 = .ok (.getfield 21, 3) := by decide +kernel
theorem dX1_brought_66 : decode cX1_brought 66 = .ok (.iload 6, 2) := by decide +kernel
theorem dX1_brought_68 : decode cX1_brought 68 = .ok (.iaload, 1) := by decide +kernel
theorem dX1_brought_69 : decode cX1_brought 69 = .ok (.iadd, 1) := by decide +kernel
theorem dX1_brought_70 : decode cX1_brought 70 = .ok (.istore 5, 2) := by decide +kernel
theorem dX1_brought_72 : decode cX1_brought 72 = .ok (.goto 26, 3) := by decide +kernel
theorem dX1_brought_75 : decode cX1_brought 75 = .ok (.aload_n 0, 1) := by decide +kernel
theorem dX1_brought_76 : decode cX1_brought 76 = .ok (.getfield 9, 3) := by decide +kernel
theorem dX1_brought_79 : decode cX1_brought 79 = .ok (.iload 6, 2) := by decide +kernel
theorem dX1_brought_81 : decode cX1_brought 81 = .ok (.iaload, 1) := by decide +kernel
theorem dX1_brought_82 : decode cX1_brought 82 = .ok (.iload_n 1, 1) := by decide +kernel
theorem dX1_brought_83 : decode cX1_brought 83 = .ok (.if_icmp .ne 15, 3) := by decide +kernel
theorem dX1_brought_86 : decode cX1_brought 86 = .ok (.iload 5, 2) := by decide +kernel
theorem dX1_brought_88 : decode cX1_brought 88 = .ok (.aload_n 0, 1) := by decide +kernel
theorem dX1_brought_89 : decode cX1_brought 89 = .ok (.getfield 21, 3) := by decide +kernel
theorem dX1_brought_92 : decode cX1_brought 92 = .ok (.iload 6, 2) := by decide +kernel
theorem dX1_brought_94 : decode cX1_brought 94 = .ok (.iaload, 1) := by decide +kernel
theorem dX1_brought_95 : decode cX1_brought 95 = .ok (.isub, 1) := by decide +kernel
theorem dX1_brought_96 : decode cX1_brought 96 = .ok (.istore 5, 2) := by decide +kernel
theorem dX1_brought_98 : decode cX1_brought 98 = .ok (.iinc 6 1, 3) := by decide +kernel
theorem dX1_brought_101 : decode cX1_brought 101 = .ok (.goto (-95), 3) := by decide +kernel
theorem dX1_brought_104 : decode cX1_brought 104 = .ok (.iload 5, 2) := by decide +kernel
theorem dX1_brought_106 : decode cX1_brought 106 = .ok (.ireturn, 1) := by decide +kernel
theorem dX2_init_0 : decode cX2_init 0 = .ok (.aload_n 0, 1) := by decide +kernel
theorem dX2_init_1 : decode cX2_init 1 = .ok (.invokespecial 3, 3) := by decide +kernel
theorem dX2_init_4 : decode cX2_init 4 = .ok (.aload_n 0, 1) := by decide +kernel
theorem dX2_init_5 : decode cX2_init 5 = .ok (.bipush 40, 2) := by decide +kernel
theorem dX2_init_7 : decode cX2_init 7 = .ok (.newarray .int, 2) := by decide +kernel
theorem dX2_init_9 : decode cX2_init 9 = .ok (.putfield 9, 3) := by decide +kernel
theorem dX2_init_12 : decode cX2_init 12 = .ok (.aload_n 0, 1) := by decide +kernel
theorem dX2_init_13 : decode cX2_init 13 = .ok (.bipush 40, 2) := by decide +kernel
theorem dX2_init_15 : decode cX2_init 15 = .ok (.newarray .int, 2) := by decide +kernel
theorem dX2_init_17 : decode cX2_init 17 = .ok (.putfield 15, 3) := by decide +kernel
theorem dX2_init_20 : decode cX2_init 20 = .ok (.aload_n 0, 1) := by decide +kernel
theorem dX2_init_21 : decode cX2_init 21 = .ok (.bipush 40, 2) := by decide +kernel
theorem dX2_init_23 : decode cX2_init 23 = .ok (.newarray .boolean, 2) := by decide +kernel
theorem dX2_init_25 : decode cX2_init 25 = .ok (.putfield 18, 3) := by decide +kernel
theorem dX2_init_28 : decode cX2_init 28 = .ok (.aload_n 0, 1) := by decide +kernel
theorem dX2_init_29 : decode cX2_init 29 = .ok (.iconst 0, 1) := by decide +kernel
theorem dX2_init_30 : decode cX2_init 30 = .ok (.putfield 22, 3) := by decide +kernel
theorem dX2_init_33 : decode cX2_init 33 = .ok (.return_, 1) := by decide +kernel
theorem dX2_add_0 : decode cX2_add 0 = .ok (.aload_n 0, 1) := by decide +kernel
theorem dX2_add_1 : decode cX2_add 1 = .ok (.getfield 22, 3) := by decide +kernel
theorem dX2_add_4 : decode cX2_add 4 = .ok (.istore_n 3, 1) := by decide +kernel
theorem dX2_add_5 : decode cX2_add 5 = .ok (.aload_n 0, 1) := by decide +kernel
theorem dX2_add_6 : decode cX2_add 6 = .ok (.getfield 9, 3) := by decide +kernel
theorem dX2_add_9 : decode cX2_add 9 = .ok (.iload_n 3, 1) := by decide +kernel
theorem dX2_add_10 : decode cX2_add 10 = .ok (.iload_n 1, 1) := by decide +kernel
theorem dX2_add_11 : decode cX2_add 11 = .ok (.iastore, 1) := by decide +kernel
theorem dX2_add_12 : decode cX2_add 12 = .ok (.aload_n 0, 1) := by decide +kernel
theorem dX2_add_13 : decode cX2_add 13 = .ok (.getfield 15, 3) := by decide +kernel
theorem dX2_add_16 : decode cX2_add 16 = .ok (.iload_n 3, 1) := by decide +kernel
theorem dX2_add_17 : decode cX2_add 17 = .ok (.iload_n 2, 1) := by decide +kernel
theorem dX2_add_18 : decode cX2_add 18 = .ok (.iastore, 1) := by decide +kernel
theorem dX2_add_19 : decode cX2_add 19 = .ok (.aload_n 0, 1) := by decide +kernel
theorem dX2_add_20 : decode cX2_add 20 = .ok (.dup, 1) := by decide +kernel
theorem dX2_add_21 : decode cX2_add 21 = .ok (.getfield 22, 3) := by decide +kernel
theorem dX2_add_24 : decode cX2_add 24 = .ok (.iconst 1, 1) := by decide +kernel
theorem dX2_add_25 : decode cX2_add 25 = .ok (.iadd, 1) := by decide +kernel
theorem dX2_add_26 : decode cX2_add 26 = .ok (.putfield 22, 3) := by decide +kernel
theorem dX2_add_29 : decode cX2_add 29 = .ok (.iload_n 3, 1) := by decide +kernel
theorem dX2_add_30 : decode cX2_add 30 = .ok (.ireturn, 1) := by decide +kernel
theorem dX2_isOpenFor_0 : decode cX2_isOpenFor 0 = .ok (.aload_n 0, 1) := by decide +kernel
theorem dX2_isOpenFor_1 : decode cX2_isOpenFor 1 = .ok (.iload_n 1, 1) := by decide +kernel
theorem dX2_isOpenFor_2 : decode cX2_isOpenFor 2 = .ok (.invokevirtual 26, 3) := by decide +kernel
theorem dX2_isOpenFor_5 : decode cX2_isOpenFor 5 = .ok (.istore_n 2, 1) := by decide +kernel
theorem dX2_isOpenFor_6 : decode cX2_isOpenFor 6 = .ok (.iload_n 2, 1) := by decide +kernel
theorem dX2_isOpenFor_7 : decode cX2_isOpenFor 7 = .ok (.iconst (-1), 1) := by decide +kernel
theorem dX2_isOpenFor_8 : decode cX2_isOpenFor 8 = .ok (.if_icmp .eq 16, 3) := by decide +kernel
theorem dX2_isOpenFor_11 : decode cX2_isOpenFor 11 = .ok (.aload_n 0, 1) := by decide +kernel
theorem dX2_isOpenFor_12 : decode cX2_isOpenFor 12 = .ok (.getfield 18, 3) := by decide +kernel
theorem dX2_isOpenFor_15 : decode cX2_isOpenFor 15 = .ok (.iload_n 2, 1) := by decide +kernel
theorem dX2_isOpenFor_16 : decode cX2_isOpenFor 16 = .ok (.baload, 1) := by decide +kernel
theorem dX2_isOpenFor_17 : decode cX2_isOpenFor 17 = .ok (.ifCond .ne 7, 3) := by decide +kernel
theorem dX2_isOpenFor_20 : decode cX2_isOpenFor 20 = .ok (.iconst 1, 1) := by decide +kernel
theorem dX2_isOpenFor_21 : decode cX2_isOpenFor 21 = .ok (.goto 4, 3) := by decide +kernel
theorem dX2_isOpenFor_24 : decode cX2_isOpenFor 24 = .ok (.iconst 0, 1) := by decide +kernel
theorem dX2_isOpenFor_25 : decode cX2_isOpenFor 25 = .ok (.ireturn, 1) := by decide +kernel
theorem dX2_latestFor_0 : decode cX2_latestFor 0 = .ok (.aload_n 0, 1) := by decide +kernel
theorem dX2_latestFor_1 : decode cX2_latestFor 1 = .ok (.getfield 22, 3) := by decide +kernel
theorem dX2_latestFor_4 : decode cX2_latestFor 4 = .ok (.iconst 1, 1) := by decide +kernel
theorem dX2_latestFor_5 : decode cX2_latestFor 5 = .ok (.isub, 1) := by decide +kernel
theorem dX2_latestFor_6 : decode cX2_latestFor 6 = .ok (.istore_n 2, 1) := by decide +kernel
theorem dX2_latestFor_7 : decode cX2_latestFor 7 = .ok (.iload_n 2, 1) := by decide +kernel
theorem dX2_latestFor_8 : decode cX2_latestFor 8 = .ok (.ifCond .lt 21, 3) := by decide +kernel
theorem dX2_latestFor_11 : decode cX2_latestFor 11 = .ok (.aload_n 0, 1) := by decide +kernel
theorem dX2_latestFor_12 : decode cX2_latestFor 12 = .ok (.getfield 9, 3) := by decide +kernel
theorem dX2_latestFor_15 : decode cX2_latestFor 15 = .ok (.iload_n 2, 1) := by decide +kernel
theorem dX2_latestFor_16 : decode cX2_latestFor 16 = .ok (.iaload, 1) := by decide +kernel
theorem dX2_latestFor_17 : decode cX2_latestFor 17 = .ok (.iload_n 1, 1) := by decide +kernel
theorem dX2_latestFor_18 : decode cX2_latestFor 18 = .ok (.if_icmp .ne 5, 3) := by decide +kernel
theorem dX2_latestFor_21 : decode cX2_latestFor 21 = .ok (.iload_n 2, 1) := by decide +kernel
theorem dX2_latestFor_22 : decode cX2_latestFor 22 = .ok (.ireturn, 1) := by decide +kernel
theorem dX2_latestFor_23 : decode cX2_latestFor 23 = .ok (.iinc 2 (-1), 3) := by decide +kernel
theorem dX2_latestFor_26 : decode cX2_latestFor 26 = .ok (.goto (-19), 3) := by decide +kernel
theorem dX2_latestFor_29 : decode cX2_latestFor 29 = .ok (.iconst (-1), 1) := by decide +kernel
theorem dX2_latestFor_30 : decode cX2_latestFor 30 = .ok (.ireturn, 1) := by decide +kernel
theorem dX3_init_0 : decode cX3_init 0 = .ok (.aload_n 0, 1) := by decide +kernel
theorem dX3_init_1 : decode cX3_init 1 = .ok (.invokespecial 3, 3) := by decide +kernel
theorem dX3_init_4 : decode cX3_init 4 = .ok (.aload_n 0, 1) := by decide +kernel
theorem dX3_init_5 : decode cX3_init 5 = .ok (.iconst 5, 1) := by decide +kernel
theorem dX3_init_6 : decode cX3_init 6 = .ok (.newarray .int, 2) := by decide +kernel
theorem dX3_init_8 : decode cX3_init 8 = .ok (.putfield 9, 3) := by decide +kernel
theorem dX3_init_11 : decode cX3_init 11 = .ok (.aload_n 0, 1) := by decide +kernel
theorem dX3_init_12 : decode cX3_init 12 = .ok (.bipush 6, 2) := by decide +kernel
theorem dX3_init_14 : decode cX3_init 14 = .ok (.newarray .int, 2) := by decide +kernel
theorem dX3_init_16 : decode cX3_init 16 = .ok (.putfield 13, 3) := by decide +kernel
theorem dX3_init_19 : decode cX3_init 19 = .ok (.aload_n 0, 1) := by decide +kernel
theorem dX3_init_20 : decode cX3_init 20 = .ok (.new 16, 3) := by decide +kernel
theorem dX3_init_23 : decode cX3_init 23 = .ok (.dup, 1) := by decide +kernel
theorem dX3_init_24 : decode cX3_init 24 = .ok (.invokespecial 18, 3) := by decide +kernel
theorem dX3_init_27 : decode cX3_init 27 = .ok (.putfield 19, 3) := by decide +kernel
theorem dX3_init_30 : decode cX3_init 30 = .ok (.aload_n 0, 1) := by decide +kernel
theorem dX3_init_31 : decode cX3_init 31 = .ok (.new 23, 3) := by decide +kernel
theorem dX3_init_34 : decode cX3_init 34 = .ok (.dup, 1) := by decide +kernel
theorem dX3_init_35 : decode cX3_init 35 = .ok (.invokespecial 25, 3) := by decide +kernel
theorem dX3_init_38 : decode cX3_init 38 = .ok (.putfield 26, 3) := by decide +kernel
theorem dX3_init_41 : decode cX3_init 41 = .ok (.aload_n 0, 1) := by decide +kernel
theorem dX3_init_42 : decode cX3_init 42 = .ok (.new 30, 3) := by decide +kernel
theorem dX3_init_45 : decode cX3_init 45 = .ok (.dup, 1) := by decide +kernel
theorem dX3_init_46 : decode cX3_init 46 = .ok (.invokespecial 32, 3) := by decide +kernel
theorem dX3_init_49 : decode cX3_init 49 = .ok (.putfield 33, 3) := by decide +kernel
theorem dX3_init_52 : decode cX3_init 52 = .ok (.aload_n 0, 1) := by decide +kernel
theorem dX3_init_53 : decode cX3_init 53 = .ok (.iconst 0, 1) := by decide +kernel
theorem dX3_init_54 : decode cX3_init 54 = .ok (.putfield 37, 3) := by decide +kernel
theorem dX3_init_57 : decode cX3_init 57 = .ok (.aload_n 0, 1) := by decide +kernel
theorem dX3_init_58 : decode cX3_init 58 = .ok (.getfield 9, 3) := by decide +kernel
theorem dX3_init_61 : decode cX3_init 61 = .ok (.iconst 1, 1) := by decide +kernel
theorem dX3_init_62 : decode cX3_init 62 = .ok (.invokestatic 41, 3) := by decide +kernel
theorem dX3_init_65 : decode cX3_init 65 = .ok (.aload_n 0, 1) := by decide +kernel
theorem dX3_init_66 : decode cX3_init 66 = .ok (.getfield 13, 3) := by decide +kernel
theorem dX3_init_69 : decode cX3_init 69 = .ok (.bipush 100, 2) := by decide +kernel
theorem dX3_init_71 : decode cX3_init 71 = .ok (.invokestatic 41, 3) := by decide +kernel
theorem dX3_init_74 : decode cX3_init 74 = .ok (.return_, 1) := by decide +kernel
theorem dX3_setPrice_0 : decode cX3_setPrice 0 = .ok (.iload_n 1, 1) := by decide +kernel
theorem dX3_setPrice_1 : decode cX3_setPrice 1 = .ok (.iconst 5, 1) := by decide +kernel
theorem dX3_setPrice_2 : decode cX3_setPrice 2 = .ok (.invokestatic 47, 3) := by decide +kernel
theorem dX3_setPrice_5 : decode cX3_setPrice 5 = .ok (.iload_n 2, 1) := by decide +kernel
theorem dX3_setPrice_6 : decode cX3_setPrice 6 = .ok (.iconst 0, 1) := by decide +kernel
theorem dX3_setPrice_7 : decode cX3_setPrice 7 = .ok (.sipush 1000, 3) := by decide +kernel
theorem dX3_setPrice_10 : decode cX3_setPrice 10 = .ok (.invokestatic 51, 3) := by decide +kernel
theorem dX3_setPrice_13 : decode cX3_setPrice 13 = .ok (.aload_n 0, 1) := by decide +kernel
theorem dX3_setPrice_14 : decode cX3_setPrice 14 = .ok (.getfield 9, 3) := by decide +kernel
theorem dX3_setPrice_17 : decode cX3_setPrice 17 = .ok (.iload_n 1, 1) := by decide +kernel
theorem dX3_setPrice_18 : decode cX3_setPrice 18 = .ok (.iaload, 1) := by decide +kernel
theorem dX3_setPrice_19 : decode cX3_setPrice 19 = .ok (.istore_n 3, 1) := by decide +kernel
theorem dX3_setPrice_20 : decode cX3_setPrice 20 = .ok (.aload_n 0, 1) := by decide +kernel
theorem dX3_setPrice_21 : decode cX3_setPrice 21 = .ok (.getfield 9, 3) := by decide +kernel
theorem dX3_setPrice_24 : decode cX3_setPrice 24 = .ok (.iload_n 1, 1) := by decide +kernel
theorem dX3_setPrice_25 : decode cX3_setPrice 25 = .ok (.iload_n 2, 1) := by decide +kernel
theorem dX3_setPrice_26 : decode cX3_setPrice 26 = .ok (.iastore, 1) := by decide +kernel
theorem dX3_setPrice_27 : decode cX3_setPrice 27 = .ok (.iload_n 3, 1) := by decide +kernel
theorem dX3_setPrice_28 : decode cX3_setPrice 28 = .ok (.ireturn, 1) := by decide +kernel
theorem dX3_setBound_0 : decode cX3_setBound 0 = .ok (.iload_n 1, 1) := by decide +kernel
theorem dX3_setBound_1 : decode cX3_setBound 1 = .ok (.bipush 6, 2) := by decide +kernel
theorem dX3_setBound_3 : decode cX3_setBound 3 = .ok (.invokestatic 47, 3) := by decide +kernel
theorem dX3_setBound_6 : decode cX3_setBound 6 = .ok (.iload_n 2, 1) := by decide +kernel
theorem dX3_setBound_7 : decode cX3_setBound 7 = .ok (.iconst 0, 1) := by decide +kernel
theorem dX3_setBound_8 : decode cX3_setBound 8 = .ok (.ldc 55, 2) := by decide +kernel
theorem dX3_setBound_10 : decode cX3_setBound 10 = .ok (.invokestatic 51, 3) := by decide +kernel
theorem dX3_setBound_13 : decode cX3_setBound 13 = .ok (.aload_n 0, 1) := by decide +kernel
theorem dX3_setBound_14 : decode cX3_setBound 14 = .ok (.getfield 13, 3) := by decide +kernel
theorem dX3_setBound_17 : decode cX3_setBound 17 = .ok (.iload_n 1, 1) := by decide +kernel
theorem dX3_setBound_18 : decode cX3_setBound 18 = .ok (.iaload, 1) := by decide +kernel
theorem dX3_setBound_19 : decode cX3_setBound 19 = .ok (.istore_n 3, 1) := by decide +kernel
theorem dX3_setBound_20 : decode cX3_setBound 20 = .ok (.aload_n 0, 1) := by decide +kernel
theorem dX3_setBound_21 : decode cX3_setBound 21 = .ok (.getfield 13, 3) := by decide +kernel
theorem dX3_setBound_24 : decode cX3_setBound 24 = .ok (.iload_n 1, 1) := by decide +kernel
theorem dX3_setBound_25 : decode cX3_setBound 25 = .ok (.iload_n 2, 1) := by decide +kernel
theorem dX3_setBound_26 : decode cX3_setBound 26 = .ok (.iastore, 1) := by decide +kernel
theorem dX3_setBound_27 : decode cX3_setBound 27 = .ok (.iload_n 3, 1) := by decide +kernel
theorem dX3_setBound_28 : decode cX3_setBound 28 = .ok (.ireturn, 1) := by decide +kernel
theorem dX3_move_0 : decode cX3_move 0 = .ok (.iload_n 1, 1) := by decide +kernel
theorem dX3_move_1 : decode cX3_move 1 = .ok (.invokestatic 56, 3) := by decide +kernel
theorem dX3_move_4 : decode cX3_move 4 = .ok (.iload_n 2, 1) := by decide +kernel
theorem dX3_move_5 : decode cX3_move 5 = .ok (.invokestatic 56, 3) := by decide +kernel
theorem dX3_move_8 : decode cX3_move 8 = .ok (.iload_n 3, 1) := by decide +kernel
theorem dX3_move_9 : decode cX3_move 9 = .ok (.iconst 5, 1) := by decide +kernel
theorem dX3_move_10 : decode cX3_move 10 = .ok (.invokestatic 47, 3) := by decide +kernel
theorem dX3_move_13 : decode cX3_move 13 = .ok (.iload_n 1, 1) := by decide +kernel
theorem dX3_move_14 : decode cX3_move 14 = .ok (.iload_n 2, 1) := by decide +kernel
theorem dX3_move_15 : decode cX3_move 15 = .ok (.if_icmp .ne 13, 3) := by decide +kernel
theorem dX3_move_18 : decode cX3_move 18 = .ok (.new 60, 3) := by decide +kernel
theorem dX3_move_21 : decode cX3_move 21 = .ok (.dup, 1) := by decide +kernel
theorem dX3_move_22 : decode cX3_move 22 = .ok (.ldc 62, 2) := by decide +kernel
theorem dX3_move_24 : decode cX3_move 24 = .ok (.invokespecial 64, 3) := by decide +kernel
theorem dX3_move_27 : decode cX3_move 27 = .ok (.athrow, 1) := by decide +kernel
theorem dX3_move_28 : decode cX3_move 28 = .ok (.iload 4, 2) := by decide +kernel
theorem dX3_move_30 : decode cX3_move 30 = .ok (.iconst 1, 1) := by decide +kernel
theorem dX3_move_31 : decode cX3_move 31 = .ok (.sipush 1000, 3) := by decide +kernel
theorem dX3_move_34 : decode cX3_move 34 = .ok (.invokestatic 51, 3) := by decide +kernel
theorem dX3_move_37 : decode cX3_move 37 = .ok (.iload 5, 2) := by decide +kernel
theorem dX3_move_39 : decode cX3_move 39 = .ok (.iconst 0, 1) := by decide +kernel
theorem dX3_move_40 : decode cX3_move 40 = .ok (.aload_n 0, 1) := by decide +kernel
theorem dX3_move_41 : decode cX3_move 41 = .ok (.getfield 37, 3) := by decide +kernel
theorem dX3_move_44 : decode cX3_move 44 = .ok (.invokestatic 51, 3) := by decide +kernel
theorem dX3_move_47 : decode cX3_move 47 = .ok (.aload_n 0, 1) := by decide +kernel
theorem dX3_move_48 : decode cX3_move 48 = .ok (.getfield 19, 3) := by decide +kernel
theorem dX3_move_51 : decode cX3_move 51 = .ok (.getfield 67, 3) := by decide +kernel
theorem dX3_move_54 : decode cX3_move 54 = .ok (.sipush 200, 3) := by decide +kernel
theorem dX3_move_57 : decode cX3_move 57 = .ok (.if_icmp .lt 13, 3) := by decide +kernel
theorem dX3_move_60 : decode cX3_move 60 = .ok (.new 70, 3) := by decide +kernel
theorem dX3_move_63 : decode cX3_move 63 = .ok (.dup, 1) := by decide +kernel
theorem dX3_move_64 : decode cX3_move 64 = .ok (.ldc 72, 2) := by decide +kernel
theorem dX3_move_66 : decode cX3_move 66 = .ok (.invokespecial 74, 3) := by decide +kernel
theorem dX3_move_69 : decode cX3_move 69 = .ok (.athrow, 1) := by decide +kernel
theorem dX3_move_70 : decode cX3_move 70 = .ok (.aload_n 0, 1) := by decide +kernel
theorem dX3_move_71 : decode cX3_move 71 = .ok (.getfield 19, 3) := by decide +kernel
theorem dX3_move_74 : decode cX3_move 74 = .ok (.iload_n 1, 1) := by decide +kernel
theorem dX3_move_75 : decode cX3_move 75 = .ok (.iload_n 2, 1) := by decide +kernel
theorem dX3_move_76 : decode cX3_move 76 = .ok (.iload_n 3, 1) := by decide +kernel
theorem dX3_move_77 : decode cX3_move 77 = .ok (.iload 4, 2) := by decide +kernel
theorem dX3_move_79 : decode cX3_move 79 = .ok (.iload 5, 2) := by decide +kernel
theorem dX3_move_81 : decode cX3_move 81 = .ok (.invokevirtual 75, 3) := by decide +kernel
theorem dX3_move_84 : decode cX3_move 84 = .ok (.ireturn, 1) := by decide +kernel
theorem dX3_pass_0 : decode cX3_pass 0 = .ok (.iload_n 1, 1) := by decide +kernel
theorem dX3_pass_1 : decode cX3_pass 1 = .ok (.iconst 1, 1) := by decide +kernel
theorem dX3_pass_2 : decode cX3_pass 2 = .ok (.sipush 1000, 3) := by decide +kernel
theorem dX3_pass_5 : decode cX3_pass 5 = .ok (.invokestatic 51, 3) := by decide +kernel
theorem dX3_pass_8 : decode cX3_pass 8 = .ok (.aload_n 0, 1) := by decide +kernel
theorem dX3_pass_9 : decode cX3_pass 9 = .ok (.dup, 1) := by decide +kernel
theorem dX3_pass_10 : decode cX3_pass 10 = .ok (.getfield 37, 3) := by decide +kernel
theorem dX3_pass_13 : decode cX3_pass 13 = .ok (.iload_n 1, 1) := by decide +kernel
theorem dX3_pass_14 : decode cX3_pass 14 = .ok (.iadd, 1) := by decide +kernel
theorem dX3_pass_15 : decode cX3_pass 15 = .ok (.putfield 37, 3) := by decide +kernel
theorem dX3_pass_18 : decode cX3_pass 18 = .ok (.aload_n 0, 1) := by decide +kernel
theorem dX3_pass_19 : decode cX3_pass 19 = .ok (.getfield 37, 3) := by decide +kernel
theorem dX3_pass_22 : decode cX3_pass 22 = .ok (.ireturn, 1) := by decide +kernel
theorem dX3_open_0 : decode cX3_open 0 = .ok (.iload_n 1, 1) := by decide +kernel
theorem dX3_open_1 : decode cX3_open 1 = .ok (.bipush 12, 2) := by decide +kernel
theorem dX3_open_3 : decode cX3_open 3 = .ok (.invokestatic 47, 3) := by decide +kernel
theorem dX3_open_6 : decode cX3_open 6 = .ok (.aload_n 0, 1) := by decide +kernel
theorem dX3_open_7 : decode cX3_open 7 = .ok (.getfield 26, 3) := by decide +kernel
theorem dX3_open_10 : decode cX3_open 10 = .ok (.iload_n 1, 1) := by decide +kernel
theorem dX3_open_11 : decode cX3_open 11 = .ok (.invokevirtual 79, 3) := by decide +kernel
theorem dX3_open_14 : decode cX3_open 14 = .ok (.ifCond .eq 13, 3) := by decide +kernel
theorem dX3_open_17 : decode cX3_open 17 = .ok (.new 70, 3) := by decide +kernel
theorem dX3_open_20 : decode cX3_open 20 = .ok (.dup, 1) := by decide +kernel
theorem dX3_open_21 : decode cX3_open 21 = .ok (.ldc 83, 2) := by decide +kernel
theorem dX3_open_23 : decode cX3_open 23 = .ok (.invokespecial 74, 3) := by decide +kernel
theorem dX3_open_26 : decode cX3_open 26 = .ok (.athrow, 1) := by decide +kernel
theorem dX3_open_27 : decode cX3_open 27 = .ok (.aload_n 0, 1) := by decide +kernel
theorem dX3_open_28 : decode cX3_open 28 = .ok (.getfield 26, 3) := by decide +kernel
theorem dX3_open_31 : decode cX3_open 31 = .ok (.getfield 85, 3) := by decide +kernel
theorem dX3_open_34 : decode cX3_open 34 = .ok (.bipush 40, 2) := by decide +kernel
theorem dX3_open_36 : decode cX3_open 36 = .ok (.if_icmp .lt 13, 3) := by decide +kernel
theorem dX3_open_39 : decode cX3_open 39 = .ok (.new 70, 3) := by decide +kernel
theorem dX3_open_42 : decode cX3_open 42 = .ok (.dup, 1) := by decide +kernel
theorem dX3_open_43 : decode cX3_open 43 = .ok (.ldc 86, 2) := by decide +kernel
theorem dX3_open_45 : decode cX3_open 45 = .ok (.invokespecial 74, 3) := by decide +kernel
theorem dX3_open_48 : decode cX3_open 48 = .ok (.athrow, 1) := by decide +kernel
theorem dX3_open_49 : decode cX3_open 49 = .ok (.aload_n 0, 1) := by decide +kernel
theorem dX3_open_50 : decode cX3_open 50 = .ok (.getfield 26, 3) := by decide +kernel
theorem dX3_open_53 : decode cX3_open 53 = .ok (.iload_n 1, 1) := by decide +kernel
theorem dX3_open_54 : decode cX3_open 54 = .ok (.aload_n 0, 1) := by decide +kernel
theorem dX3_open_55 : decode cX3_open 55 = .ok (.getfield 37, 3) := by decide +kernel
theorem dX3_open_58 : decode cX3_open 58 = .ok (.invokevirtual 88, 3) := by decide +kernel
theorem dX3_open_61 : decode cX3_open 61 = .ok (.ireturn, 1) := by decide +kernel
theorem dX3_count_0 : decode cX3_count 0 = .ok (.iload_n 1, 1) := by decide +kernel
theorem dX3_count_1 : decode cX3_count 1 = .ok (.aload_n 0, 1) := by decide +kernel
theorem dX3_count_2 : decode cX3_count 2 = .ok (.getfield 26, 3) := by decide +kernel
theorem dX3_count_5 : decode cX3_count 5 = .ok (.getfield 85, 3) := by decide +kernel
theorem dX3_count_8 : decode cX3_count 8 = .ok (.invokestatic 47, 3) := by decide +kernel
theorem dX3_count_11 : decode cX3_count 11 = .ok (.iload_n 2, 1) := by decide +kernel
theorem dX3_count_12 : decode cX3_count 12 = .ok (.bipush 6, 2) := by decide +kernel
theorem dX3_count_14 : decode cX3_count 14 = .ok (.invokestatic 47, 3) := by decide +kernel
theorem dX3_count_17 : decode cX3_count 17 = .ok (.iload_n 3, 1) := by decide +kernel
theorem dX3_count_18 : decode cX3_count 18 = .ok (.iconst 5, 1) := by decide +kernel
theorem dX3_count_19 : decode cX3_count 19 = .ok (.invokestatic 47, 3) := by decide +kernel
theorem dX3_count_22 : decode cX3_count 22 = .ok (.iload 4, 2) := by decide +kernel
theorem dX3_count_24 : decode cX3_count 24 = .ok (.iconst 0, 1) := by decide +kernel
theorem dX3_count_25 : decode cX3_count 25 = .ok (.ldc 91, 2) := by decide +kernel
theorem dX3_count_27 : decode cX3_count 27 = .ok (.invokestatic 51, 3) := by decide +kernel
theorem dX3_count_30 : decode cX3_count 30 = .ok (.iload_n 1, 1) := by decide +kernel
theorem dX3_count_31 : decode cX3_count 31 = .ok (.iload_n 3, 1) := by decide +kernel
theorem dX3_count_32 : decode cX3_count 32 = .ok (.invokestatic 92, 3) := by decide +kernel
theorem dX3_count_35 : decode cX3_count 35 = .ok (.istore 5, 2) := by decide +kernel
theorem dX3_count_37 : decode cX3_count 37 = .ok (.aload_n 0, 1) := by decide +kernel
theorem dX3_count_38 : decode cX3_count 38 = .ok (.getfield 26, 3) := by decide +kernel
theorem dX3_count_41 : decode cX3_count 41 = .ok (.getfield 95, 3) := by decide +kernel
theorem dX3_count_44 : decode cX3_count 44 = .ok (.iload_n 1, 1) := by decide +kernel
theorem dX3_count_45 : decode cX3_count 45 = .ok (.baload, 1) := by decide +kernel
theorem dX3_count_46 : decode cX3_count 46 = .ok (.ifCond .eq 13, 3) := by decide +kernel
theorem dX3_count_49 : decode cX3_count 49 = .ok (.new 70, 3) := by decide +kernel
theorem dX3_count_52 : decode cX3_count 52 = .ok (.dup, 1) := by decide +kernel
theorem dX3_count_53 : decode cX3_count 53 = .ok (.ldc 99, 2) := by decide +kernel
theorem dX3_count_55 : decode cX3_count 55 = .ok (.invokespecial 74, 3) := by decide +kernel
theorem dX3_count_58 : decode cX3_count 58 = .ok (.athrow, 1) := by decide +kernel
theorem dX3_count_59 : decode cX3_count 59 = .ok (.aload_n 0, 1) := by decide +kernel
theorem dX3_count_60 : decode cX3_count 60 = .ok (.getfield 33, 3) := by decide +kernel
theorem dX3_count_63 : decode cX3_count 63 = .ok (.iload 5, 2) := by decide +kernel
theorem dX3_count_65 : decode cX3_count 65 = .ok (.invokevirtual 101, 3) := by decide +kernel
theorem dX3_count_68 : decode cX3_count 68 = .ok (.ifCond .eq 13, 3) := by decide +kernel
theorem dX3_count_71 : decode cX3_count 71 = .ok (.new 70, 3) := by decide +kernel
theorem dX3_count_74 : decode cX3_count 74 = .ok (.dup, 1) := by decide +kernel
theorem dX3_count_75 : decode cX3_count 75 = .ok (.ldc 104, 2) := by decide +kernel
theorem dX3_count_77 : decode cX3_count 77 = .ok (.invokespecial 74, 3) := by decide +kernel
theorem dX3_count_80 : decode cX3_count 80 = .ok (.athrow, 1) := by decide +kernel
theorem dX3_count_81 : decode cX3_count 81 = .ok (.aload_n 0, 1) := by decide +kernel
theorem dX3_count_82 : decode cX3_count 82 = .ok (.getfield 33, 3) := by decide +kernel
theorem dX3_count_85 : decode cX3_count 85 = .ok (.iload 5, 2) := by decide +kernel
theorem dX3_count_87 : decode cX3_count 87 = .ok (.iload_n 2, 1) := by decide +kernel
theorem dX3_count_88 : decode cX3_count 88 = .ok (.invokevirtual 106, 3) := by decide +kernel
theorem dX3_count_91 : decode cX3_count 91 = .ok (.ifCond .eq 13, 3) := by decide +kernel
theorem dX3_count_94 : decode cX3_count 94 = .ok (.new 70, 3) := by decide +kernel
theorem dX3_count_97 : decode cX3_count 97 = .ok (.dup, 1) := by decide +kernel
theorem dX3_count_98 : decode cX3_count 98 = .ok (.ldc 110, 2) := by decide +kernel
theorem dX3_count_100 : decode cX3_count 100 = .ok (.invokespecial 74, 3) := by decide +kernel
theorem dX3_count_103 : decode cX3_count 103 = .ok (.athrow, 1) := by decide +kernel
theorem dX3_count_104 : decode cX3_count 104 = .ok (.aload_n 0, 1) := by decide +kernel
theorem dX3_count_105 : decode cX3_count 105 = .ok (.getfield 33, 3) := by decide +kernel
theorem dX3_count_108 : decode cX3_count 108 = .ok (.iload 5, 2) := by decide +kernel
theorem dX3_count_110 : decode cX3_count 110 = .ok (.iload_n 2, 1) := by decide +kernel
theorem dX3_count_111 : decode cX3_count 111 = .ok (.iload 4, 2) := by decide +kernel
theorem dX3_count_113 : decode cX3_count 113 = .ok (.invokevirtual 112, 3) := by decide +kernel
theorem dX3_count_116 : decode cX3_count 116 = .ok (.aload_n 0, 1) := by decide +kernel
theorem dX3_count_117 : decode cX3_count 117 = .ok (.getfield 33, 3) := by decide +kernel
theorem dX3_count_120 : decode cX3_count 120 = .ok (.iload 5, 2) := by decide +kernel
theorem dX3_count_122 : decode cX3_count 122 = .ok (.invokevirtual 101, 3) := by decide +kernel
theorem dX3_count_125 : decode cX3_count 125 = .ok (.ireturn, 1) := by decide +kernel
theorem dX3_close_0 : decode cX3_close 0 = .ok (.iload_n 1, 1) := by decide +kernel
theorem dX3_close_1 : decode cX3_close 1 = .ok (.aload_n 0, 1) := by decide +kernel
theorem dX3_close_2 : decode cX3_close 2 = .ok (.getfield 26, 3) := by decide +kernel
theorem dX3_close_5 : decode cX3_close 5 = .ok (.getfield 85, 3) := by decide +kernel
theorem dX3_close_8 : decode cX3_close 8 = .ok (.invokestatic 47, 3) := by decide +kernel
theorem dX3_close_11 : decode cX3_close 11 = .ok (.aload_n 0, 1) := by decide +kernel
theorem dX3_close_12 : decode cX3_close 12 = .ok (.getfield 26, 3) := by decide +kernel
theorem dX3_close_15 : decode cX3_close 15 = .ok (.getfield 95, 3) := by decide +kernel
theorem dX3_close_18 : decode cX3_close 18 = .ok (.iload_n 1, 1) := by decide +kernel
theorem dX3_close_19 : decode cX3_close 19 = .ok (.baload, 1) := by decide +kernel
theorem dX3_close_20 : decode cX3_close 20 = .ok (.ifCond .eq 13, 3) := by decide +kernel
theorem dX3_close_23 : decode cX3_close 23 = .ok (.new 70, 3) := by decide +kernel
theorem dX3_close_26 : decode cX3_close 26 = .ok (.dup, 1) := by decide +kernel
theorem dX3_close_27 : decode cX3_close 27 = .ok (.ldc 99, 2) := by decide +kernel
theorem dX3_close_29 : decode cX3_close 29 = .ok (.invokespecial 74, 3) := by decide +kernel
theorem dX3_close_32 : decode cX3_close 32 = .ok (.athrow, 1) := by decide +kernel
theorem dX3_close_33 : decode cX3_close 33 = .ok (.iconst 0, 1) := by decide +kernel
theorem dX3_close_34 : decode cX3_close 34 = .ok (.istore_n 2, 1) := by decide +kernel
theorem dX3_close_35 : decode cX3_close 35 = .ok (.iconst 0, 1) := by decide +kernel
theorem dX3_close_36 : decode cX3_close 36 = .ok (.istore_n 3, 1) := by decide +kernel
theorem dX3_close_37 : decode cX3_close 37 = .ok (.iload_n 3, 1) := by decide +kernel
theorem dX3_close_38 : decode cX3_close 38 = .ok (.iconst 5, 1) := by decide +kernel
theorem dX3_close_39 : decode cX3_close 39 = .ok (.if_icmp .ge 56, 3) := by decide +kernel
theorem dX3_close_42 : decode cX3_close 42 = .ok (.iload_n 1, 1) := by decide +kernel
theorem dX3_close_43 : decode cX3_close 43 = .ok (.iload_n 3, 1) := by decide +kernel
theorem dX3_close_44 : decode cX3_close 44 = .ok (.invokestatic 92, 3) := by decide +kernel
theorem dX3_close_47 : decode cX3_close 47 = .ok (.istore 4, 2) := by decide +kernel
theorem dX3_close_49 : decode cX3_close 49 = .ok (.aload_n 0, 1) := by decide +kernel
theorem dX3_close_50 : decode cX3_close 50 = .ok (.getfield 33, 3) := by decide +kernel
theorem dX3_close_53 : decode cX3_close 53 = .ok (.iload 4, 2) := by decide +kernel
theorem dX3_close_55 : decode cX3_close 55 = .ok (.invokevirtual 101, 3) := by decide +kernel
theorem dX3_close_58 : decode cX3_close 58 = .ok (.ifCond .eq 9, 3) := by decide +kernel
theorem dX3_close_61 : decode cX3_close 61 = .ok (.iinc 2 1, 3) := by decide +kernel
theorem dX3_close_64 : decode cX3_close 64 = .ok (.goto 25, 3) := by decide +kernel
theorem dX3_close_67 : decode cX3_close 67 = .ok (.aload_n 0, 1) := by decide +kernel
theorem dX3_close_68 : decode cX3_close 68 = .ok (.getfield 33, 3) := by decide +kernel
theorem dX3_close_71 : decode cX3_close 71 = .ok (.iload 4, 2) := by decide +kernel
theorem dX3_close_73 : decode cX3_close 73 = .ok (.invokevirtual 114, 3) := by decide +kernel
theorem dX3_close_76 : decode cX3_close 76 = .ok (.ifCond .le 13, 3) := by decide +kernel
theorem dX3_close_79 : decode cX3_close 79 = .ok (.new 70, 3) := by decide +kernel
theorem dX3_close_82 : decode cX3_close 82 = .ok (.dup, 1) := by decide +kernel
theorem dX3_close_83 : decode cX3_close 83 = .ok (.ldc 118, 2) := by decide +kernel
theorem dX3_close_85 : decode cX3_close 85 = .ok (.invokespecial 74, 3) := by decide +kernel
theorem dX3_close_88 : decode cX3_close 88 = .ok (.athrow, 1) := by decide +kernel
theorem dX3_close_89 : decode cX3_close 89 = .ok (.iinc 3 1, 3) := by decide +kernel
theorem dX3_close_92 : decode cX3_close 92 = .ok (.goto (-55), 3) := by decide +kernel
theorem dX3_close_95 : decode cX3_close 95 = .ok (.aload_n 0, 1) := by decide +kernel
theorem dX3_close_96 : decode cX3_close 96 = .ok (.getfield 26, 3) := by decide +kernel
theorem dX3_close_99 : decode cX3_close 99 = .ok (.getfield 95, 3) := by decide +kernel
theorem dX3_close_102 : decode cX3_close 102 = .ok (.iload_n 1, 1) := by decide +kernel
theorem dX3_close_103 : decode cX3_close 103 = .ok (.iconst 1, 1) := by decide +kernel
theorem dX3_close_104 : decode cX3_close 104 = .ok (.bastore, 1) := by decide +kernel
theorem dX3_close_105 : decode cX3_close 105 = .ok (.iload_n 2, 1) := by decide +kernel
theorem dX3_close_106 : decode cX3_close 106 = .ok (.ireturn, 1) := by decide +kernel
theorem dX3_sign_0 : decode cX3_sign 0 = .ok (.iload_n 1, 1) := by decide +kernel
theorem dX3_sign_1 : decode cX3_sign 1 = .ok (.aload_n 0, 1) := by decide +kernel
theorem dX3_sign_2 : decode cX3_sign 2 = .ok (.getfield 26, 3) := by decide +kernel
theorem dX3_sign_5 : decode cX3_sign 5 = .ok (.getfield 85, 3) := by decide +kernel
theorem dX3_sign_8 : decode cX3_sign 8 = .ok (.invokestatic 47, 3) := by decide +kernel
theorem dX3_sign_11 : decode cX3_sign 11 = .ok (.iload_n 2, 1) := by decide +kernel
theorem dX3_sign_12 : decode cX3_sign 12 = .ok (.iconst 5, 1) := by decide +kernel
theorem dX3_sign_13 : decode cX3_sign 13 = .ok (.invokestatic 47, 3) := by decide +kernel
theorem dX3_sign_16 : decode cX3_sign 16 = .ok (.iload_n 3, 1) := by decide +kernel
theorem dX3_sign_17 : decode cX3_sign 17 = .ok (.bipush 6, 2) := by decide +kernel
theorem dX3_sign_19 : decode cX3_sign 19 = .ok (.invokestatic 47, 3) := by decide +kernel
theorem dX3_sign_22 : decode cX3_sign 22 = .ok (.aload_n 0, 1) := by decide +kernel
theorem dX3_sign_23 : decode cX3_sign 23 = .ok (.iload_n 1, 1) := by decide +kernel
theorem dX3_sign_24 : decode cX3_sign 24 = .ok (.iload_n 2, 1) := by decide +kernel
theorem dX3_sign_25 : decode cX3_sign 25 = .ok (.invokevirtual 120, 3) := by decide +kernel
theorem dX3_sign_28 : decode cX3_sign 28 = .ok (.aload_n 0, 1) := by decide +kernel
theorem dX3_sign_29 : decode cX3_sign 29 = .ok (.iload_n 1, 1) := by decide +kernel
theorem dX3_sign_30 : decode cX3_sign 30 = .ok (.iload_n 2, 1) := by decide +kernel
theorem dX3_sign_31 : decode cX3_sign 31 = .ok (.invokevirtual 123, 3) := by decide +kernel
theorem dX3_sign_34 : decode cX3_sign 34 = .ok (.ifCond .ne 13, 3) := by decide +kernel
theorem dX3_sign_37 : decode cX3_sign 37 = .ok (.new 70, 3) := by decide +kernel
theorem dX3_sign_40 : decode cX3_sign 40 = .ok (.dup, 1) := by decide +kernel
theorem dX3_sign_41 : decode cX3_sign 41 = .ok (.ldc 126, 2) := by decide +kernel
theorem dX3_sign_43 : decode cX3_sign 43 = .ok (.invokespecial 74, 3) := by decide +kernel
theorem dX3_sign_46 : decode cX3_sign 46 = .ok (.athrow, 1) := by decide +kernel
theorem dX3_sign_47 : decode cX3_sign 47 = .ok (.aload_n 0, 1) := by decide +kernel
theorem dX3_sign_48 : decode cX3_sign 48 = .ok (.iload_n 1, 1) := by decide +kernel
theorem dX3_sign_49 : decode cX3_sign 49 = .ok (.iload_n 2, 1) := by decide +kernel
theorem dX3_sign_50 : decode cX3_sign 50 = .ok (.invokevirtual 128, 3) := by decide +kernel
theorem dX3_sign_53 : decode cX3_sign 53 = .ok (.istore 4, 2) := by decide +kernel
theorem dX3_sign_55 : decode cX3_sign 55 = .ok (.aload_n 0, 1) := by decide +kernel
theorem dX3_sign_56 : decode cX3_sign 56 = .ok (.getfield 13, 3) := by decide +kernel
theorem dX3_sign_59 : decode cX3_sign 59 = .ok (.iload_n 3, 1) := by decide +kernel
theorem dX3_sign_60 : decode cX3_sign 60 = .ok (.iaload, 1) := by decide +kernel
theorem dX3_sign_61 : decode cX3_sign 61 = .ok (.aload_n 0, 1) := by decide +kernel
theorem dX3_sign_62 : decode cX3_sign 62 = .ok (.getfield 9, 3) := by decide +kernel
theorem dX3_sign_65 : decode cX3_sign 65 = .ok (.iload_n 2, 1) := by decide +kernel
theorem dX3_sign_66 : decode cX3_sign 66 = .ok (.iaload, 1) := by decide +kernel
theorem dX3_sign_67 : decode cX3_sign 67 = .ok (.iload 4, 2) := by decide +kernel
theorem dX3_sign_69 : decode cX3_sign 69 = .ok (.invokestatic 131, 3) := by decide +kernel
theorem dX3_sign_72 : decode cX3_sign 72 = .ok (.imul, 1) := by decide +kernel
theorem dX3_sign_73 : decode cX3_sign 73 = .ok (.if_icmp .ge 13, 3) := by decide +kernel
theorem dX3_sign_76 : decode cX3_sign 76 = .ok (.new 70, 3) := by decide +kernel
theorem dX3_sign_79 : decode cX3_sign 79 = .ok (.dup, 1) := by decide +kernel
theorem dX3_sign_80 : decode cX3_sign 80 = .ok (.ldc 136, 2) := by decide +kernel
theorem dX3_sign_82 : decode cX3_sign 82 = .ok (.invokespecial 74, 3) := by decide +kernel
theorem dX3_sign_85 : decode cX3_sign 85 = .ok (.athrow, 1) := by decide +kernel
theorem dX3_sign_86 : decode cX3_sign 86 = .ok (.aload_n 0, 1) := by decide +kernel
theorem dX3_sign_87 : decode cX3_sign 87 = .ok (.getfield 33, 3) := by decide +kernel
theorem dX3_sign_90 : decode cX3_sign 90 = .ok (.iload_n 1, 1) := by decide +kernel
theorem dX3_sign_91 : decode cX3_sign 91 = .ok (.iload_n 2, 1) := by decide +kernel
theorem dX3_sign_92 : decode cX3_sign 92 = .ok (.invokestatic 92, 3) := by decide +kernel
theorem dX3_sign_95 : decode cX3_sign 95 = .ok (.iload 4, 2) := by decide +kernel
theorem dX3_sign_97 : decode cX3_sign 97 = .ok (.invokevirtual 138, 3) := by decide +kernel
theorem dX3_sign_100 : decode cX3_sign 100 = .ok (.iload 4, 2) := by decide +kernel
theorem dX3_sign_102 : decode cX3_sign 102 = .ok (.ireturn, 1) := by decide +kernel
theorem dX3_settle_0 : decode cX3_settle 0 = .ok (.iload_n 1, 1) := by decide +kernel
theorem dX3_settle_1 : decode cX3_settle 1 = .ok (.aload_n 0, 1) := by decide +kernel
theorem dX3_settle_2 : decode cX3_settle 2 = .ok (.getfield 26, 3) := by decide +kernel
theorem dX3_settle_5 : decode cX3_settle 5 = .ok (.getfield 85, 3) := by decide +kernel
theorem dX3_settle_8 : decode cX3_settle 8 = .ok (.invokestatic 47, 3) := by decide +kernel
theorem dX3_settle_11 : decode cX3_settle 11 = .ok (.iload_n 2, 1) := by decide +kernel
theorem dX3_settle_12 : decode cX3_settle 12 = .ok (.aload_n 0, 1) := by decide +kernel
theorem dX3_settle_13 : decode cX3_settle 13 = .ok (.getfield 26, 3) := by decide +kernel
theorem dX3_settle_16 : decode cX3_settle 16 = .ok (.getfield 85, 3) := by decide +kernel
theorem dX3_settle_19 : decode cX3_settle 19 = .ok (.invokestatic 47, 3) := by decide +kernel
theorem dX3_settle_22 : decode cX3_settle 22 = .ok (.iload_n 3, 1) := by decide +kernel
theorem dX3_settle_23 : decode cX3_settle 23 = .ok (.iconst 5, 1) := by decide +kernel
theorem dX3_settle_24 : decode cX3_settle 24 = .ok (.invokestatic 47, 3) := by decide +kernel
theorem dX3_settle_27 : decode cX3_settle 27 = .ok (.aload_n 0, 1) := by decide +kernel
theorem dX3_settle_28 : decode cX3_settle 28 = .ok (.iload_n 1, 1) := by decide +kernel
theorem dX3_settle_29 : decode cX3_settle 29 = .ok (.iload_n 3, 1) := by decide +kernel
theorem dX3_settle_30 : decode cX3_settle 30 = .ok (.invokevirtual 120, 3) := by decide +kernel
theorem dX3_settle_33 : decode cX3_settle 33 = .ok (.aload_n 0, 1) := by decide +kernel
theorem dX3_settle_34 : decode cX3_settle 34 = .ok (.iload_n 2, 1) := by decide +kernel
theorem dX3_settle_35 : decode cX3_settle 35 = .ok (.iload_n 3, 1) := by decide +kernel
theorem dX3_settle_36 : decode cX3_settle 36 = .ok (.invokevirtual 120, 3) := by decide +kernel
theorem dX3_settle_39 : decode cX3_settle 39 = .ok (.aload_n 0, 1) := by decide +kernel
theorem dX3_settle_40 : decode cX3_settle 40 = .ok (.iload_n 1, 1) := by decide +kernel
theorem dX3_settle_41 : decode cX3_settle 41 = .ok (.iload_n 2, 1) := by decide +kernel
theorem dX3_settle_42 : decode cX3_settle 42 = .ok (.iload_n 3, 1) := by decide +kernel
theorem dX3_settle_43 : decode cX3_settle 43 = .ok (.invokevirtual 141, 3) := by decide +kernel
theorem dX3_settle_46 : decode cX3_settle 46 = .ok (.ifCond .ne 13, 3) := by decide +kernel
theorem dX3_settle_49 : decode cX3_settle 49 = .ok (.new 70, 3) := by decide +kernel
theorem dX3_settle_52 : decode cX3_settle 52 = .ok (.dup, 1) := by decide +kernel
theorem dX3_settle_53 : decode cX3_settle 53 = .ok (.ldc 145, 2) := by decide +kernel
theorem dX3_settle_55 : decode cX3_settle 55 = .ok (.invokespecial 74, 3) := by decide +kernel
theorem dX3_settle_58 : decode cX3_settle 58 = .ok (.athrow, 1) := by decide +kernel
theorem dX3_settle_59 : decode cX3_settle 59 = .ok (.aload_n 0, 1) := by decide +kernel
theorem dX3_settle_60 : decode cX3_settle 60 = .ok (.iload_n 1, 1) := by decide +kernel
theorem dX3_settle_61 : decode cX3_settle 61 = .ok (.iload_n 3, 1) := by decide +kernel
theorem dX3_settle_62 : decode cX3_settle 62 = .ok (.invokevirtual 128, 3) := by decide +kernel
theorem dX3_settle_65 : decode cX3_settle 65 = .ok (.istore 4, 2) := by decide +kernel
theorem dX3_settle_67 : decode cX3_settle 67 = .ok (.aload_n 0, 1) := by decide +kernel
theorem dX3_settle_68 : decode cX3_settle 68 = .ok (.getfield 33, 3) := by decide +kernel
theorem dX3_settle_71 : decode cX3_settle 71 = .ok (.iload_n 1, 1) := by decide +kernel
theorem dX3_settle_72 : decode cX3_settle 72 = .ok (.iload_n 3, 1) := by decide +kernel
theorem dX3_settle_73 : decode cX3_settle 73 = .ok (.invokestatic 92, 3) := by decide +kernel
theorem dX3_settle_76 : decode cX3_settle 76 = .ok (.iload 4, 2) := by decide +kernel
theorem dX3_settle_78 : decode cX3_settle 78 = .ok (.invokevirtual 138, 3) := by decide +kernel
theorem dX3_settle_81 : decode cX3_settle 81 = .ok (.aload_n 0, 1) := by decide +kernel
theorem dX3_settle_82 : decode cX3_settle 82 = .ok (.getfield 33, 3) := by decide +kernel
theorem dX3_settle_85 : decode cX3_settle 85 = .ok (.iload_n 2, 1) := by decide +kernel
theorem dX3_settle_86 : decode cX3_settle 86 = .ok (.iload_n 3, 1) := by decide +kernel
theorem dX3_settle_87 : decode cX3_settle 87 = .ok (.invokestatic 92, 3) := by decide +kernel
theorem dX3_settle_90 : decode cX3_settle 90 = .ok (.iload 4, 2) := by decide +kernel
theorem dX3_settle_92 : decode cX3_settle 92 = .ok (.ineg, 1) := by decide +kernel
theorem dX3_settle_93 : decode cX3_settle 93 = .ok (.invokevirtual 138, 3) := by decide +kernel
theorem dX3_settle_96 : decode cX3_settle 96 = .ok (.iload 4, 2) := by decide +kernel
theorem dX3_settle_98 : decode cX3_settle 98 = .ok (.invokestatic 131, 3) := by decide +kernel
theorem dX3_settle_101 : decode cX3_settle 101 = .ok (.ireturn, 1) := by decide +kernel
theorem dX3_now_0 : decode cX3_now 0 = .ok (.aload_n 0, 1) := by decide +kernel
theorem dX3_now_1 : decode cX3_now 1 = .ok (.getfield 37, 3) := by decide +kernel
theorem dX3_now_4 : decode cX3_now 4 = .ok (.ireturn, 1) := by decide +kernel
theorem dX3_moves_0 : decode cX3_moves 0 = .ok (.aload_n 0, 1) := by decide +kernel
theorem dX3_moves_1 : decode cX3_moves 1 = .ok (.getfield 19, 3) := by decide +kernel
theorem dX3_moves_4 : decode cX3_moves 4 = .ok (.getfield 67, 3) := by decide +kernel
theorem dX3_moves_7 : decode cX3_moves 7 = .ok (.ireturn, 1) := by decide +kernel
theorem dX3_book_0 : decode cX3_book 0 = .ok (.iload_n 1, 1) := by decide +kernel
theorem dX3_book_1 : decode cX3_book 1 = .ok (.bipush 12, 2) := by decide +kernel
theorem dX3_book_3 : decode cX3_book 3 = .ok (.invokestatic 47, 3) := by decide +kernel
theorem dX3_book_6 : decode cX3_book 6 = .ok (.iload_n 2, 1) := by decide +kernel
theorem dX3_book_7 : decode cX3_book 7 = .ok (.iconst 5, 1) := by decide +kernel
theorem dX3_book_8 : decode cX3_book 8 = .ok (.invokestatic 47, 3) := by decide +kernel
theorem dX3_book_11 : decode cX3_book 11 = .ok (.aload_n 0, 1) := by decide +kernel
theorem dX3_book_12 : decode cX3_book 12 = .ok (.iload_n 1, 1) := by decide +kernel
theorem dX3_book_13 : decode cX3_book 13 = .ok (.iload_n 2, 1) := by decide +kernel
theorem dX3_book_14 : decode cX3_book 14 = .ok (.aload_n 0, 1) := by decide +kernel
theorem dX3_book_15 : decode cX3_book 15 = .ok (.getfield 37, 3) := by decide +kernel
theorem dX3_book_18 : decode cX3_book 18 = .ok (.invokevirtual 147, 3) := by decide +kernel
theorem dX3_book_21 : decode cX3_book 21 = .ok (.ireturn, 1) := by decide +kernel
theorem dX3_bookAt_0 : decode cX3_bookAt 0 = .ok (.iload_n 1, 1) := by decide +kernel
theorem dX3_bookAt_1 : decode cX3_bookAt 1 = .ok (.bipush 12, 2) := by decide +kernel
theorem dX3_bookAt_3 : decode cX3_bookAt 3 = .ok (.invokestatic 47, 3) := by decide +kernel
theorem dX3_bookAt_6 : decode cX3_bookAt 6 = .ok (.iload_n 2, 1) := by decide +kernel
theorem dX3_bookAt_7 : decode cX3_bookAt 7 = .ok (.iconst 5, 1) := by decide +kernel
theorem dX3_bookAt_8 : decode cX3_bookAt 8 = .ok (.invokestatic 47, 3) := by decide +kernel
theorem dX3_bookAt_11 : decode cX3_bookAt 11 = .ok (.iload_n 3, 1) := by decide +kernel
theorem dX3_bookAt_12 : decode cX3_bookAt 12 = .ok (.iconst 0, 1) := by decide +kernel
theorem dX3_bookAt_13 : decode cX3_bookAt 13 = .ok (.aload_n 0, 1) := by decide +kernel
theorem dX3_bookAt_14 : decode cX3_bookAt 14 = .ok (.getfield 37, 3) := by decide +kernel
theorem dX3_bookAt_17 : decode cX3_bookAt 17 = .ok (.invokestatic 51, 3) := by decide +kernel
theorem dX3_bookAt_20 : decode cX3_bookAt 20 = .ok (.aload_n 0, 1) := by decide +kernel
theorem dX3_bookAt_21 : decode cX3_bookAt 21 = .ok (.iload_n 1, 1) := by decide +kernel
theorem dX3_bookAt_22 : decode cX3_bookAt 22 = .ok (.iload_n 2, 1) := by decide +kernel
theorem dX3_bookAt_23 : decode cX3_bookAt 23 = .ok (.iload_n 3, 1) := by decide +kernel
theorem dX3_bookAt_24 : decode cX3_bookAt 24 = .ok (.invokevirtual 147, 3) := by decide +kernel
theorem dX3_bookAt_27 : decode cX3_bookAt 27 = .ok (.ireturn, 1) := by decide +kernel
theorem dX3_worth_0 : decode cX3_worth 0 = .ok (.iload_n 1, 1) := by decide +kernel
theorem dX3_worth_1 : decode cX3_worth 1 = .ok (.bipush 12, 2) := by decide +kernel
theorem dX3_worth_3 : decode cX3_worth 3 = .ok (.invokestatic 47, 3) := by decide +kernel
theorem dX3_worth_6 : decode cX3_worth 6 = .ok (.aload_n 0, 1) := by decide +kernel
theorem dX3_worth_7 : decode cX3_worth 7 = .ok (.iload_n 1, 1) := by decide +kernel
theorem dX3_worth_8 : decode cX3_worth 8 = .ok (.invokevirtual 151, 3) := by decide +kernel
theorem dX3_worth_11 : decode cX3_worth 11 = .ok (.ireturn, 1) := by decide +kernel
theorem dX3_suggested_0 : decode cX3_suggested 0 = .ok (.iconst (-1), 1) := by decide +kernel
theorem dX3_suggested_1 : decode cX3_suggested 1 = .ok (.istore_n 1, 1) := by decide +kernel
theorem dX3_suggested_2 : decode cX3_suggested 2 = .ok (.lconst 0, 1) := by decide +kernel
theorem dX3_suggested_3 : decode cX3_suggested 3 = .ok (.lstore_n 2, 1) := by decide +kernel
theorem dX3_suggested_4 : decode cX3_suggested 4 = .ok (.iconst 0, 1) := by decide +kernel
theorem dX3_suggested_5 : decode cX3_suggested 5 = .ok (.istore 4, 2) := by decide +kernel
theorem dX3_suggested_7 : decode cX3_suggested 7 = .ok (.iload 4, 2) := by decide +kernel
theorem dX3_suggested_9 : decode cX3_suggested 9 = .ok (.bipush 12, 2) := by decide +kernel
theorem dX3_suggested_11 : decode cX3_suggested 11 = .ok (.if_icmp .ge 47, 3) := by decide +kernel
theorem dX3_suggested_14 : decode cX3_suggested 14 = .ok (.aload_n 0, 1) := by decide +kernel
theorem dX3_suggested_15 : decode cX3_suggested 15 = .ok (.getfield 26, 3) := by decide +kernel
theorem dX3_suggested_18 : decode cX3_suggested 18 = .ok (.iload 4, 2) := by decide +kernel
theorem dX3_suggested_20 : decode cX3_suggested 20 = .ok (.invokevirtual 79, 3) := by decide +kernel
theorem dX3_suggested_23 : decode cX3_suggested 23 = .ok (.ifCond .ne 29, 3) := by decide +kernel
theorem dX3_suggested_26 : decode cX3_suggested 26 = .ok (.aload_n 0, 1) := by decide +kernel
theorem dX3_suggested_27 : decode cX3_suggested 27 = .ok (.iload 4, 2) := by decide +kernel
theorem dX3_suggested_29 : decode cX3_suggested 29 = .ok (.invokevirtual 154, 3) := by decide +kernel
theorem dX3_suggested_32 : decode cX3_suggested 32 = .ok (.lstore 5, 2) := by decide +kernel
theorem dX3_suggested_34 : decode cX3_suggested 34 = .ok (.iload_n 1, 1) := by decide +kernel
theorem dX3_suggested_35 : decode cX3_suggested 35 = .ok (.iconst (-1), 1) := by decide +kernel
theorem dX3_suggested_36 : decode cX3_suggested 36 = .ok (.if_icmp .eq 10, 3) := by decide +kernel
theorem dX3_suggested_39 : decode cX3_suggested 39 = .ok (.lload 5, 2) := by decide +kernel
theorem dX3_suggested_41 : decode cX3_suggested 41 = .ok (.lload_n 2, 1) := by decide +kernel
theorem dX3_suggested_42 : decode cX3_suggested 42 = .ok (.lcmp, 1) := by decide +kernel
theorem dX3_suggested_43 : decode cX3_suggested 43 = .ok (.ifCond .le 9, 3) := by decide +kernel
theorem dX3_suggested_46 : decode cX3_suggested 46 = .ok (.iload 4, 2) := by decide +kernel
theorem dX3_suggested_48 : decode cX3_suggested 48 = .ok (.istore_n 1, 1) := by decide +kernel
theorem dX3_suggested_49 : decode cX3_suggested 49 = .ok (.lload 5, 2) := by decide +kernel
theorem dX3_suggested_51 : decode cX3_suggested 51 = .ok (.lstore_n 2, 1) := by decide +kernel
theorem dX3_suggested_52 : decode cX3_suggested 52 = .ok (.iinc 4 1, 3) := by decide +kernel
theorem dX3_suggested_55 : decode cX3_suggested 55 = .ok (.goto (-48), 3) := by decide +kernel
theorem dX3_suggested_58 : decode cX3_suggested 58 = .ok (.iload_n 1, 1) := by decide +kernel
theorem dX3_suggested_59 : decode cX3_suggested 59 = .ok (.ireturn, 1) := by decide +kernel
theorem dX3_sheets_0 : decode cX3_sheets 0 = .ok (.aload_n 0, 1) := by decide +kernel
theorem dX3_sheets_1 : decode cX3_sheets 1 = .ok (.getfield 26, 3) := by decide +kernel
theorem dX3_sheets_4 : decode cX3_sheets 4 = .ok (.getfield 85, 3) := by decide +kernel
theorem dX3_sheets_7 : decode cX3_sheets 7 = .ok (.ireturn, 1) := by decide +kernel
theorem dX3_stateOf_0 : decode cX3_stateOf 0 = .ok (.iload_n 1, 1) := by decide +kernel
theorem dX3_stateOf_1 : decode cX3_stateOf 1 = .ok (.aload_n 0, 1) := by decide +kernel
theorem dX3_stateOf_2 : decode cX3_stateOf 2 = .ok (.getfield 26, 3) := by decide +kernel
theorem dX3_stateOf_5 : decode cX3_stateOf 5 = .ok (.getfield 85, 3) := by decide +kernel
theorem dX3_stateOf_8 : decode cX3_stateOf 8 = .ok (.invokestatic 47, 3) := by decide +kernel
theorem dX3_stateOf_11 : decode cX3_stateOf 11 = .ok (.aload_n 0, 1) := by decide +kernel
theorem dX3_stateOf_12 : decode cX3_stateOf 12 = .ok (.getfield 26, 3) := by decide +kernel
theorem dX3_stateOf_15 : decode cX3_stateOf 15 = .ok (.getfield 95, 3) := by decide +kernel
theorem dX3_stateOf_18 : decode cX3_stateOf 18 = .ok (.iload_n 1, 1) := by decide +kernel
theorem dX3_stateOf_19 : decode cX3_stateOf 19 = .ok (.baload, 1) := by decide +kernel
theorem dX3_stateOf_20 : decode cX3_stateOf 20 = .ok (.ifCond .eq 7, 3) := by decide +kernel
theorem dX3_stateOf_23 : decode cX3_stateOf 23 = .ok (.iconst 1, 1) := by decide +kernel
theorem dX3_stateOf_24 : decode cX3_stateOf 24 = .ok (.goto 4, 3) := by decide +kernel
theorem dX3_stateOf_27 : decode cX3_stateOf 27 = .ok (.iconst 0, 1) := by decide +kernel
theorem dX3_stateOf_28 : decode cX3_stateOf 28 = .ok (.ireturn, 1) := by decide +kernel
theorem dX3_cutOf_0 : decode cX3_cutOf 0 = .ok (.iload_n 1, 1) := by decide +kernel
theorem dX3_cutOf_1 : decode cX3_cutOf 1 = .ok (.aload_n 0, 1) := by decide +kernel
theorem dX3_cutOf_2 : decode cX3_cutOf 2 = .ok (.getfield 26, 3) := by decide +kernel
theorem dX3_cutOf_5 : decode cX3_cutOf 5 = .ok (.getfield 85, 3) := by decide +kernel
theorem dX3_cutOf_8 : decode cX3_cutOf 8 = .ok (.invokestatic 47, 3) := by decide +kernel
theorem dX3_cutOf_11 : decode cX3_cutOf 11 = .ok (.aload_n 0, 1) := by decide +kernel
theorem dX3_cutOf_12 : decode cX3_cutOf 12 = .ok (.getfield 26, 3) := by decide +kernel
theorem dX3_cutOf_15 : decode cX3_cutOf 15 = .ok (.getfield 158, 3) := by decide +kernel
theorem dX3_cutOf_18 : decode cX3_cutOf 18 = .ok (.iload_n 1, 1) := by decide +kernel
theorem dX3_cutOf_19 : decode cX3_cutOf 19 = .ok (.iaload, 1) := by decide +kernel
theorem dX3_cutOf_20 : decode cX3_cutOf 20 = .ok (.ireturn, 1) := by decide +kernel
theorem dX3_counts_0 : decode cX3_counts 0 = .ok (.aload_n 0, 1) := by decide +kernel
theorem dX3_counts_1 : decode cX3_counts 1 = .ok (.iload_n 1, 1) := by decide +kernel
theorem dX3_counts_2 : decode cX3_counts 2 = .ok (.iload_n 2, 1) := by decide +kernel
theorem dX3_counts_3 : decode cX3_counts 3 = .ok (.invokevirtual 161, 3) := by decide +kernel
theorem dX3_counts_6 : decode cX3_counts 6 = .ok (.aload_n 0, 1) := by decide +kernel
theorem dX3_counts_7 : decode cX3_counts 7 = .ok (.getfield 33, 3) := by decide +kernel
theorem dX3_counts_10 : decode cX3_counts 10 = .ok (.iload_n 1, 1) := by decide +kernel
theorem dX3_counts_11 : decode cX3_counts 11 = .ok (.iload_n 2, 1) := by decide +kernel
theorem dX3_counts_12 : decode cX3_counts 12 = .ok (.invokestatic 92, 3) := by decide +kernel
theorem dX3_counts_15 : decode cX3_counts 15 = .ok (.invokevirtual 114, 3) := by decide +kernel
theorem dX3_counts_18 : decode cX3_counts 18 = .ok (.ireturn, 1) := by decide +kernel
theorem dX3_agreed_0 : decode cX3_agreed 0 = .ok (.aload_n 0, 1) := by decide +kernel
theorem dX3_agreed_1 : decode cX3_agreed 1 = .ok (.iload_n 1, 1) := by decide +kernel
theorem dX3_agreed_2 : decode cX3_agreed 2 = .ok (.iload_n 2, 1) := by decide +kernel
theorem dX3_agreed_3 : decode cX3_agreed 3 = .ok (.invokevirtual 161, 3) := by decide +kernel
theorem dX3_agreed_6 : decode cX3_agreed 6 = .ok (.aload_n 0, 1) := by decide +kernel
theorem dX3_agreed_7 : decode cX3_agreed 7 = .ok (.getfield 33, 3) := by decide +kernel
theorem dX3_agreed_10 : decode cX3_agreed 10 = .ok (.getfield 164, 3) := by decide +kernel
theorem dX3_agreed_13 : decode cX3_agreed 13 = .ok (.iload_n 1, 1) := by decide +kernel
theorem dX3_agreed_14 : decode cX3_agreed 14 = .ok (.iload_n 2, 1) := by decide +kernel
theorem dX3_agreed_15 : decode cX3_agreed 15 = .ok (.invokestatic 92, 3) := by decide +kernel
theorem dX3_agreed_18 : decode cX3_agreed 18 = .ok (.iaload, 1) := by decide +kernel
theorem dX3_agreed_19 : decode cX3_agreed 19 = .ok (.ireturn, 1) := by decide +kernel
theorem dX3_gap_0 : decode cX3_gap 0 = .ok (.aload_n 0, 1) := by decide +kernel
theorem dX3_gap_1 : decode cX3_gap 1 = .ok (.iload_n 1, 1) := by decide +kernel
theorem dX3_gap_2 : decode cX3_gap 2 = .ok (.iload_n 2, 1) := by decide +kernel
theorem dX3_gap_3 : decode cX3_gap 3 = .ok (.invokevirtual 161, 3) := by decide +kernel
theorem dX3_gap_6 : decode cX3_gap 6 = .ok (.aload_n 0, 1) := by decide +kernel
theorem dX3_gap_7 : decode cX3_gap 7 = .ok (.iload_n 1, 1) := by decide +kernel
theorem dX3_gap_8 : decode cX3_gap 8 = .ok (.iload_n 2, 1) := by decide +kernel
theorem dX3_gap_9 : decode cX3_gap 9 = .ok (.invokevirtual 120, 3) := by decide +kernel
theorem dX3_gap_12 : decode cX3_gap 12 = .ok (.aload_n 0, 1) := by decide +kernel
theorem dX3_gap_13 : decode cX3_gap 13 = .ok (.iload_n 1, 1) := by decide +kernel
theorem dX3_gap_14 : decode cX3_gap 14 = .ok (.iload_n 2, 1) := by decide +kernel
theorem dX3_gap_15 : decode cX3_gap 15 = .ok (.invokevirtual 128, 3) := by decide +kernel
theorem dX3_gap_18 : decode cX3_gap 18 = .ok (.ireturn, 1) := by decide +kernel
theorem dX3_isSigned_0 : decode cX3_isSigned 0 = .ok (.aload_n 0, 1) := by decide +kernel
theorem dX3_isSigned_1 : decode cX3_isSigned 1 = .ok (.iload_n 1, 1) := by decide +kernel
theorem dX3_isSigned_2 : decode cX3_isSigned 2 = .ok (.iload_n 2, 1) := by decide +kernel
theorem dX3_isSigned_3 : decode cX3_isSigned 3 = .ok (.invokevirtual 161, 3) := by decide +kernel
theorem dX3_isSigned_6 : decode cX3_isSigned 6 = .ok (.aload_n 0, 1) := by decide +kernel
theorem dX3_isSigned_7 : decode cX3_isSigned 7 = .ok (.getfield 33, 3) := by decide +kernel
theorem dX3_isSigned_10 : decode cX3_isSigned 10 = .ok (.iload_n 1, 1) := by decide +kernel
theorem dX3_isSigned_11 : decode cX3_isSigned 11 = .ok (.iload_n 2, 1) := by decide +kernel
theorem dX3_isSigned_12 : decode cX3_isSigned 12 = .ok (.invokestatic 92, 3) := by decide +kernel
theorem dX3_isSigned_15 : decode cX3_isSigned 15 = .ok (.invokevirtual 167, 3) := by decide +kernel
theorem dX3_isSigned_18 : decode cX3_isSigned 18 = .ok (.ireturn, 1) := by decide +kernel
theorem dX3_likely_0 : decode cX3_likely 0 = .ok (.aload_n 0, 1) := by decide +kernel
theorem dX3_likely_1 : decode cX3_likely 1 = .ok (.iload_n 1, 1) := by decide +kernel
theorem dX3_likely_2 : decode cX3_likely 2 = .ok (.iload_n 2, 1) := by decide +kernel
theorem dX3_likely_3 : decode cX3_likely 3 = .ok (.invokevirtual 161, 3) := by decide +kernel
theorem dX3_likely_6 : decode cX3_likely 6 = .ok (.iconst 0, 1) := by decide +kernel
theorem dX3_likely_7 : decode cX3_likely 7 = .ok (.istore_n 3, 1) := by decide +kernel
theorem dX3_likely_8 : decode cX3_likely 8 = .ok (.iload_n 3, 1) := by decide +kernel
theorem dX3_likely_9 : decode cX3_likely 9 = .ok (.aload_n 0, 1) := by decide +kernel
theorem dX3_likely_10 : decode cX3_likely 10 = .ok (.getfield 26, 3) := by decide +kernel
theorem dX3_likely_13 : decode cX3_likely 13 = .ok (.getfield 85, 3) := by decide +kernel
theorem dX3_likely_16 : decode cX3_likely 16 = .ok (.if_icmp .ge 21, 3) := by decide +kernel
theorem dX3_likely_19 : decode cX3_likely 19 = .ok (.aload_n 0, 1) := by decide +kernel
theorem dX3_likely_20 : decode cX3_likely 20 = .ok (.iload_n 1, 1) := by decide +kernel
theorem dX3_likely_21 : decode cX3_likely 21 = .ok (.iload_n 3, 1) := by decide +kernel
theorem dX3_likely_22 : decode cX3_likely 22 = .ok (.iload_n 2, 1) := by decide +kernel
theorem dX3_likely_23 : decode cX3_likely 23 = .ok (.invokevirtual 141, 3) := by decide +kernel
theorem dX3_likely_26 : decode cX3_likely 26 = .ok (.ifCond .eq 5, 3) := by decide +kernel
theorem dX3_likely_29 : decode cX3_likely 29 = .ok (.iload_n 3, 1) := by decide +kernel
theorem dX3_likely_30 : decode cX3_likely 30 = .ok (.ireturn, 1) := by decide +kernel
theorem dX3_likely_31 : decode cX3_likely 31 = .ok (.iinc 3 1, 3) := by decide +kernel
theorem dX3_likely_34 : decode cX3_likely 34 = .ok (.goto (-26), 3) := by decide +kernel
theorem dX3_likely_37 : decode cX3_likely 37 = .ok (.iconst (-1), 1) := by decide +kernel
theorem dX3_likely_38 : decode cX3_likely 38 = .ok (.ireturn, 1) := by decide +kernel
theorem dX3_exact_0 : decode cX3_exact 0 = .ok (.iload_n 1, 1) := by decide +kernel
theorem dX3_exact_1 : decode cX3_exact 1 = .ok (.iconst 3, 1) := by decide +kernel
theorem dX3_exact_2 : decode cX3_exact 2 = .ok (.invokestatic 47, 3) := by decide +kernel
theorem dX3_exact_5 : decode cX3_exact 5 = .ok (.iconst 0, 1) := by decide +kernel
theorem dX3_exact_6 : decode cX3_exact 6 = .ok (.istore_n 2, 1) := by decide +kernel
theorem dX3_exact_7 : decode cX3_exact 7 = .ok (.iconst 0, 1) := by decide +kernel
theorem dX3_exact_8 : decode cX3_exact 8 = .ok (.istore_n 3, 1) := by decide +kernel
theorem dX3_exact_9 : decode cX3_exact 9 = .ok (.iconst 0, 1) := by decide +kernel
theorem dX3_exact_10 : decode cX3_exact 10 = .ok (.istore 4, 2) := by decide +kernel
theorem dX3_exact_12 : decode cX3_exact 12 = .ok (.iload 4, 2) := by decide +kernel
theorem dX3_exact_14 : decode cX3_exact 14 = .ok (.aload_n 0, 1) := by decide +kernel
theorem dX3_exact_15 : decode cX3_exact 15 = .ok (.getfield 26, 3) := by decide +kernel
theorem dX3_exact_18 : decode cX3_exact 18 = .ok (.getfield 85, 3) := by decide +kernel
theorem dX3_exact_21 : decode cX3_exact 21 = .ok (.if_icmp .ge 85, 3) := by decide +kernel
theorem dX3_exact_24 : decode cX3_exact 24 = .ok (.aload_n 0, 1) := by decide +kernel
theorem dX3_exact_25 : decode cX3_exact 25 = .ok (.getfield 26, 3) := by decide +kernel
theorem dX3_exact_28 : decode cX3_exact 28 = .ok (.getfield 170, 3) := by decide +kernel
theorem dX3_exact_31 : decode cX3_exact 31 = .ok (.iload 4, 2) := by decide +kernel
theorem dX3_exact_33 : decode cX3_exact 33 = .ok (.iaload, 1) := by decide +kernel
theorem dX3_exact_34 : decode cX3_exact 34 = .ok (.iconst 4, 1) := by decide +kernel
theorem dX3_exact_35 : decode cX3_exact 35 = .ok (.idiv, 1) := by decide +kernel
theorem dX3_exact_36 : decode cX3_exact 36 = .ok (.iload_n 1, 1) := by decide +kernel
theorem dX3_exact_37 : decode cX3_exact 37 = .ok (.if_icmp .ne 63, 3) := by decide +kernel
theorem dX3_exact_40 : decode cX3_exact 40 = .ok (.iconst 0, 1) := by decide +kernel
theorem dX3_exact_41 : decode cX3_exact 41 = .ok (.istore 5, 2) := by decide +kernel
theorem dX3_exact_43 : decode cX3_exact 43 = .ok (.iload 5, 2) := by decide +kernel
theorem dX3_exact_45 : decode cX3_exact 45 = .ok (.iconst 5, 1) := by decide +kernel
theorem dX3_exact_46 : decode cX3_exact 46 = .ok (.if_icmp .ge 54, 3) := by decide +kernel
theorem dX3_exact_49 : decode cX3_exact 49 = .ok (.iload 4, 2) := by decide +kernel
theorem dX3_exact_51 : decode cX3_exact 51 = .ok (.iload 5, 2) := by decide +kernel
theorem dX3_exact_53 : decode cX3_exact 53 = .ok (.invokestatic 92, 3) := by decide +kernel
theorem dX3_exact_56 : decode cX3_exact 56 = .ok (.istore 6, 2) := by decide +kernel
theorem dX3_exact_58 : decode cX3_exact 58 = .ok (.aload_n 0, 1) := by decide +kernel
theorem dX3_exact_59 : decode cX3_exact 59 = .ok (.getfield 33, 3) := by decide +kernel
theorem dX3_exact_62 : decode cX3_exact 62 = .ok (.iload 6, 2) := by decide +kernel
theorem dX3_exact_64 : decode cX3_exact 64 = .ok (.invokevirtual 167, 3) := by decide +kernel
theorem dX3_exact_67 : decode cX3_exact 67 = .ok (.ifCond .eq 27, 3) := by decide +kernel
theorem dX3_exact_70 : decode cX3_exact 70 = .ok (.iinc 2 1, 3) := by decide +kernel
theorem dX3_exact_73 : decode cX3_exact 73 = .ok (.iload_n 3, 1) := by decide +kernel
theorem dX3_exact_74 : decode cX3_exact 74 = .ok (.aload_n 0, 1) := by decide +kernel
theorem dX3_exact_75 : decode cX3_exact 75 = .ok (.getfield 33, 3) := by decide +kernel
theorem dX3_exact_78 : decode cX3_exact 78 = .ok (.getfield 173, 3) := by decide +kernel
theorem dX3_exact_81 : decode cX3_exact 81 = .ok (.iload 6, 2) := by decide +kernel
theorem dX3_exact_83 : decode cX3_exact 83 = .ok (.iaload, 1) := by decide +kernel
theorem dX3_exact_84 : decode cX3_exact 84 = .ok (.ifCond .ne 7, 3) := by decide +kernel
theorem dX3_exact_87 : decode cX3_exact 87 = .ok (.iconst 1, 1) := by decide +kernel
theorem dX3_exact_88 : decode cX3_exact 88 = .ok (.goto 4, 3) := by decide +kernel
theorem dX3_exact_91 : decode cX3_exact 91 = .ok (.iconst 0, 1) := by decide +kernel
theorem dX3_exact_92 : decode cX3_exact 92 = .ok (.iadd, 1) := by decide +kernel
theorem dX3_exact_93 : decode cX3_exact 93 = .ok (.istore_n 3, 1) := by decide +kernel
theorem dX3_exact_94 : decode cX3_exact 94 = .ok (.iinc 5 1, 3) := by decide +kernel
theorem dX3_exact_97 : decode cX3_exact 97 = .ok (.goto (-54), 3) := by decide +kernel
theorem dX3_exact_100 : decode cX3_exact 100 = .ok (.iinc 4 1, 3) := by decide +kernel
theorem dX3_exact_103 : decode cX3_exact 103 = .ok (.goto (-91), 3) := by decide +kernel
theorem dX3_exact_106 : decode cX3_exact 106 = .ok (.iload_n 2, 1) := by decide +kernel
theorem dX3_exact_107 : decode cX3_exact 107 = .ok (.ifCond .ne 7, 3) := by decide +kernel
theorem dX3_exact_110 : decode cX3_exact 110 = .ok (.iconst (-1), 1) := by decide +kernel
theorem dX3_exact_111 : decode cX3_exact 111 = .ok (.goto 10, 3) := by decide +kernel
theorem dX3_exact_114 : decode cX3_exact 114 = .ok (.sipush 1000, 3) := by decide +kernel
theorem dX3_exact_117 : decode cX3_exact 117 = .ok (.iload_n 3, 1) := by decide +kernel
theorem dX3_exact_118 : decode cX3_exact 118 = .ok (.imul, 1) := by decide +kernel
theorem dX3_exact_119 : decode cX3_exact 119 = .ok (.iload_n 2, 1) := by decide +kernel
theorem dX3_exact_120 : decode cX3_exact 120 = .ok (.idiv, 1) := by decide +kernel
theorem dX3_exact_121 : decode cX3_exact 121 = .ok (.ireturn, 1) := by decide +kernel
theorem dX3_checkIndex_0 : decode cX3_checkIndex 0 = .ok (.iload_n 0, 1) := by decide +kernel
theorem dX3_checkIndex_1 : decode cX3_checkIndex 1 = .ok (.ifCond .lt 8, 3) := by decide +kernel
theorem dX3_checkIndex_4 : decode cX3_checkIndex 4 = .ok (.iload_n 0, 1) := by decide +kernel
theorem dX3_checkIndex_5 : decode cX3_checkIndex 5 = .ok (.iload_n 1, 1) := by decide +kernel
theorem dX3_checkIndex_6 : decode cX3_checkIndex 6 = .ok (.if_icmp .lt 13, 3) := by decide +kernel
theorem dX3_checkIndex_9 : decode cX3_checkIndex 9 = .ok (.new 176, 3) := by decide +kernel
theorem dX3_checkIndex_12 : decode cX3_checkIndex 12 = .ok (.dup, 1) := by decide +kernel
theorem dX3_checkIndex_13 : decode cX3_checkIndex 13 = .ok (.ldc 178, 2) := by decide +kernel
theorem dX3_checkIndex_15 : decode cX3_checkIndex 15 = .ok (.invokespecial 180, 3) := by decide +kernel
theorem dX3_checkIndex_18 : decode cX3_checkIndex 18 = .ok (.athrow, 1) := by decide +kernel
theorem dX3_checkIndex_19 : decode cX3_checkIndex 19 = .ok (.return_, 1) := by decide +kernel
theorem dX3_checkPlaceOrOutside_0 : decode cX3_checkPlaceOrOutside 0 = .ok (.iload_n 0, 1) := by decide +kernel
theorem dX3_checkPlaceOrOutside_1 : decode cX3_checkPlaceOrOutside 1 = .ok (.iconst (-1), 1) := by decide +kernel
theorem dX3_checkPlaceOrOutside_2 : decode cX3_checkPlaceOrOutside 2 = .ok (.if_icmp .eq 9, 3) := by decide +kernel
theorem dX3_checkPlaceOrOutside_5 : decode cX3_checkPlaceOrOutside 5 = .ok (.iload_n 0, 1) := by decide +kernel
theorem dX3_checkPlaceOrOutside_6 : decode cX3_checkPlaceOrOutside 6 = .ok (.bipush 12, 2) := by decide +kernel
theorem dX3_checkPlaceOrOutside_8 : decode cX3_checkPlaceOrOutside 8 = .ok (.invokestatic 47, 3) := by decide +kernel
theorem dX3_checkPlaceOrOutside_11 : decode cX3_checkPlaceOrOutside 11 = .ok (.return_, 1) := by decide +kernel
theorem dX3_checkRange_0 : decode cX3_checkRange 0 = .ok (.iload_n 0, 1) := by decide +kernel
theorem dX3_checkRange_1 : decode cX3_checkRange 1 = .ok (.iload_n 1, 1) := by decide +kernel
theorem dX3_checkRange_2 : decode cX3_checkRange 2 = .ok (.if_icmp .lt 8, 3) := by decide +kernel
theorem dX3_checkRange_5 : decode cX3_checkRange 5 = .ok (.iload_n 0, 1) := by decide +kernel
theorem dX3_checkRange_6 : decode cX3_checkRange 6 = .ok (.iload_n 2, 1) := by decide +kernel
theorem dX3_checkRange_7 : decode cX3_checkRange 7 = .ok (.if_icmp .le 13, 3) := by decide +kernel
theorem dX3_checkRange_10 : decode cX3_checkRange 10 = .ok (.new 60, 3) := by decide +kernel
theorem dX3_checkRange_13 : decode cX3_checkRange 13 = .ok (.dup, 1) := by decide +kernel
theorem dX3_checkRange_14 : decode cX3_checkRange 14 = .ok (.ldc 181, 2) := by decide +kernel
theorem dX3_checkRange_16 : decode cX3_checkRange 16 = .ok (.invokespecial 64, 3) := by decide +kernel
theorem dX3_checkRange_19 : decode cX3_checkRange 19 = .ok (.athrow, 1) := by decide +kernel
theorem dX3_checkRange_20 : decode cX3_checkRange 20 = .ok (.return_, 1) := by decide +kernel
theorem dX3_checkLine_0 : decode cX3_checkLine 0 = .ok (.iload_n 1, 1) := by decide +kernel
theorem dX3_checkLine_1 : decode cX3_checkLine 1 = .ok (.aload_n 0, 1) := by decide +kernel
theorem dX3_checkLine_2 : decode cX3_checkLine 2 = .ok (.getfield 26, 3) := by decide +kernel
theorem dX3_checkLine_5 : decode cX3_checkLine 5 = .ok (.getfield 85, 3) := by decide +kernel
theorem dX3_checkLine_8 : decode cX3_checkLine 8 = .ok (.invokestatic 47, 3) := by decide +kernel
theorem dX3_checkLine_11 : decode cX3_checkLine 11 = .ok (.iload_n 2, 1) := by decide +kernel
theorem dX3_checkLine_12 : decode cX3_checkLine 12 = .ok (.iconst 5, 1) := by decide +kernel
theorem dX3_checkLine_13 : decode cX3_checkLine 13 = .ok (.invokestatic 47, 3) := by decide +kernel
theorem dX3_checkLine_16 : decode cX3_checkLine 16 = .ok (.return_, 1) := by decide +kernel
theorem dX3_checkAgrees_0 : decode cX3_checkAgrees 0 = .ok (.aload_n 0, 1) := by decide +kernel
theorem dX3_checkAgrees_1 : decode cX3_checkAgrees 1 = .ok (.getfield 33, 3) := by decide +kernel
theorem dX3_checkAgrees_4 : decode cX3_checkAgrees 4 = .ok (.iload_n 1, 1) := by decide +kernel
theorem dX3_checkAgrees_5 : decode cX3_checkAgrees 5 = .ok (.iload_n 2, 1) := by decide +kernel
theorem dX3_checkAgrees_6 : decode cX3_checkAgrees 6 = .ok (.invokestatic 92, 3) := by decide +kernel
theorem dX3_checkAgrees_9 : decode cX3_checkAgrees 9 = .ok (.invokevirtual 101, 3) := by decide +kernel
theorem dX3_checkAgrees_12 : decode cX3_checkAgrees 12 = .ok (.ifCond .ne 13, 3) := by decide +kernel
theorem dX3_checkAgrees_15 : decode cX3_checkAgrees 15 = .ok (.new 183, 3) := by decide +kernel
theorem dX3_checkAgrees_18 : decode cX3_checkAgrees 18 = .ok (.dup, 1) := by decide +kernel
theorem dX3_checkAgrees_19 : decode cX3_checkAgrees 19 = .ok (.ldc 185, 2) := by decide +kernel
theorem dX3_checkAgrees_21 : decode cX3_checkAgrees 21 = .ok (.invokespecial 187, 3) := by decide +kernel
theorem dX3_checkAgrees_24 : decode cX3_checkAgrees 24 = .ok (.athrow, 1) := by decide +kernel
theorem dX3_checkAgrees_25 : decode cX3_checkAgrees 25 = .ok (.return_, 1) := by decide +kernel
theorem dX3_lineOf_0 : decode cX3_lineOf 0 = .ok (.iload_n 0, 1) := by decide +kernel
theorem dX3_lineOf_1 : decode cX3_lineOf 1 = .ok (.iconst 5, 1) := by decide +kernel
theorem dX3_lineOf_2 : decode cX3_lineOf 2 = .ok (.imul, 1) := by decide +kernel
theorem dX3_lineOf_3 : decode cX3_lineOf 3 = .ok (.iload_n 1, 1) := by decide +kernel
theorem dX3_lineOf_4 : decode cX3_lineOf 4 = .ok (.iadd, 1) := by decide +kernel
theorem dX3_lineOf_5 : decode cX3_lineOf 5 = .ok (.ireturn, 1) := by decide +kernel
theorem dX3_bookOf_0 : decode cX3_bookOf 0 = .ok (.aload_n 0, 1) := by decide +kernel
theorem dX3_bookOf_1 : decode cX3_bookOf 1 = .ok (.iload_n 1, 1) := by decide +kernel
theorem dX3_bookOf_2 : decode cX3_bookOf 2 = .ok (.iload_n 2, 1) := by decide +kernel
theorem dX3_bookOf_3 : decode cX3_bookOf 3 = .ok (.iload_n 3, 1) := by decide +kernel
theorem dX3_bookOf_4 : decode cX3_bookOf 4 = .ok (.invokevirtual 188, 3) := by decide +kernel
theorem dX3_bookOf_7 : decode cX3_bookOf 7 = .ok (.istore 4, 2) := by decide +kernel
theorem dX3_bookOf_9 : decode cX3_bookOf 9 = .ok (.iload 4, 2) := by decide +kernel
theorem dX3_bookOf_11 : decode cX3_bookOf 11 = .ok (.iconst (-1), 1) := by decide +kernel
theorem dX3_bookOf_12 : decode cX3_bookOf 12 = .ok (.if_icmp .ne 15, 3) := by decide +kernel
theorem dX3_bookOf_15 : decode cX3_bookOf 15 = .ok (.aload_n 0, 1) := by decide +kernel
theorem dX3_bookOf_16 : decode cX3_bookOf 16 = .ok (.getfield 19, 3) := by decide +kernel
theorem dX3_bookOf_19 : decode cX3_bookOf 19 = .ok (.iload_n 1, 1) := by decide +kernel
theorem dX3_bookOf_20 : decode cX3_bookOf 20 = .ok (.iload_n 2, 1) := by decide +kernel
theorem dX3_bookOf_21 : decode cX3_bookOf 21 = .ok (.iconst (-1), 1) := by decide +kernel
theorem dX3_bookOf_22 : decode cX3_bookOf 22 = .ok (.iload_n 3, 1) := by decide +kernel
theorem dX3_bookOf_23 : decode cX3_bookOf 23 = .ok (.invokevirtual 191, 3) := by decide +kernel
theorem dX3_bookOf_26 : decode cX3_bookOf 26 = .ok (.ireturn, 1) := by decide +kernel
theorem dX3_bookOf_27 : decode cX3_bookOf 27 = .ok (.aload_n 0, 1) := by decide +kernel
theorem dX3_bookOf_28 : decode cX3_bookOf 28 = .ok (.getfield 33, 3) := by decide +kernel
theorem dX3_bookOf_31 : decode cX3_bookOf 31 = .ok (.getfield 164, 3) := by decide +kernel
theorem dX3_bookOf_34 : decode cX3_bookOf 34 = .ok (.iload 4, 2) := by decide +kernel
theorem dX3_bookOf_36 : decode cX3_bookOf 36 = .ok (.iload_n 2, 1) := by decide +kernel
theorem dX3_bookOf_37 : decode cX3_bookOf 37 = .ok (.invokestatic 92, 3) := by decide +kernel
theorem dX3_bookOf_40 : decode cX3_bookOf 40 = .ok (.iaload, 1) := by decide +kernel
theorem dX3_bookOf_41 : decode cX3_bookOf 41 = .ok (.istore 5, 2) := by decide +kernel
theorem dX3_bookOf_43 : decode cX3_bookOf 43 = .ok (.iload 5, 2) := by decide +kernel
theorem dX3_bookOf_45 : decode cX3_bookOf 45 = .ok (.aload_n 0, 1) := by decide +kernel
theorem dX3_bookOf_46 : decode cX3_bookOf 46 = .ok (.getfield 19, 3) := by decide +kernel
theorem dX3_bookOf_49 : decode cX3_bookOf 49 = .ok (.iload_n 1, 1) := by decide +kernel
theorem dX3_bookOf_50 : decode cX3_bookOf 50 = .ok (.iload_n 2, 1) := by decide +kernel
theorem dX3_bookOf_51 : decode cX3_bookOf 51 = .ok (.aload_n 0, 1) := by decide +kernel
theorem dX3_bookOf_52 : decode cX3_bookOf 52 = .ok (.getfield 26, 3) := by decide +kernel
theorem dX3_bookOf_55 : decode cX3_bookOf 55 = .ok (.getfield 158, 3) := by decide +kernel
theorem dX3_bookOf_58 : decode cX3_bookOf 58 = .ok (.iload 4, 2) := by decide +kernel
theorem dX3_bookOf_60 : decode cX3_bookOf 60 = .ok (.iaload, 1) := by decide +kernel
theorem dX3_bookOf_61 : decode cX3_bookOf 61 = .ok (.iload_n 3, 1) := by decide +kernel
theorem dX3_bookOf_62 : decode cX3_bookOf 62 = .ok (.invokevirtual 191, 3) := by decide +kernel
theorem dX3_bookOf_65 : decode cX3_bookOf 65 = .ok (.iadd, 1) := by decide +kernel
theorem dX3_bookOf_66 : decode cX3_bookOf 66 = .ok (.ireturn, 1) := by decide +kernel
theorem dX3_signedSheetFor_0 : decode cX3_signedSheetFor 0 = .ok (.iconst (-1), 1) := by decide +kernel
theorem dX3_signedSheetFor_1 : decode cX3_signedSheetFor 1 = .ok (.istore 4, 2) := by decide +kernel
theorem dX3_signedSheetFor_3 : decode cX3_signedSheetFor 3 = .ok (.iconst 0, 1) := by decide +kernel
theorem dX3_signedSheetFor_4 : decode cX3_signedSheetFor 4 = .ok (.istore 5, 2) := by decide +kernel
theorem dX3_signedSheetFor_6 : decode cX3_signedSheetFor 6 = .ok (.iload 5, 2) := by decide +kernel
theorem dX3_signedSheetFor_8 : decode cX3_signedSheetFor 8 = .ok (.aload_n 0, 1) := by decide +kernel
theorem dX3_signedSheetFor_9 : decode cX3_signedSheetFor 9 = .ok (.getfield 26, 3) := by decide +kernel
theorem dX3_signedSheetFor_12 : decode cX3_signedSheetFor 12 = .ok (.getfield 85, 3) := by decide +kernel
theorem dX3_signedSheetFor_15 : decode cX3_signedSheetFor 15 = .ok (.if_icmp .ge 75, 3) := by decide +kernel
theorem dX3_signedSheetFor_18 : decode cX3_signedSheetFor 18 = .ok (.aload_n 0, 1) := by decide +kernel
theorem dX3_signedSheetFor_19 : decode cX3_signedSheetFor 19 = .ok (.getfield 26, 3) := by decide +kernel
theorem dX3_signedSheetFor_22 : decode cX3_signedSheetFor 22 = .ok (.getfield 170, 3) := by decide +kernel
theorem dX3_signedSheetFor_25 : decode cX3_signedSheetFor 25 = .ok (.iload 5, 2) := by decide +kernel
theorem dX3_signedSheetFor_27 : decode cX3_signedSheetFor 27 = .ok (.iaload, 1) := by decide +kernel
theorem dX3_signedSheetFor_28 : decode cX3_signedSheetFor 28 = .ok (.iload_n 1, 1) := by decide +kernel
theorem dX3_signedSheetFor_29 : decode cX3_signedSheetFor 29 = .ok (.if_icmp .ne 55, 3) := by decide +kernel
theorem dX3_signedSheetFor_32 : decode cX3_signedSheetFor 32 = .ok (.aload_n 0, 1) := by decide +kernel
theorem dX3_signedSheetFor_33 : decode cX3_signedSheetFor 33 = .ok (.getfield 26, 3) := by decide +kernel
theorem dX3_signedSheetFor_36 : decode cX3_signedSheetFor 36 = .ok (.getfield 158, 3) := by decide +kernel
theorem dX3_signedSheetFor_39 : decode cX3_signedSheetFor 39 = .ok (.iload 5, 2) := by decide +kernel
theorem dX3_signedSheetFor_41 : decode cX3_signedSheetFor 41 = .ok (.iaload, 1) := by decide +kernel
theorem dX3_signedSheetFor_42 : decode cX3_signedSheetFor 42 = .ok (.iload_n 3, 1) := by decide +kernel
theorem dX3_signedSheetFor_43 : decode cX3_signedSheetFor 43 = .ok (.if_icmp .gt 41, 3) := by decide +kernel
theorem dX3_signedSheetFor_46 : decode cX3_signedSheetFor 46 = .ok (.aload_n 0, 1) := by decide +kernel
theorem dX3_signedSheetFor_47 : decode cX3_signedSheetFor 47 = .ok (.getfield 33, 3) := by decide +kernel
theorem dX3_signedSheetFor_50 : decode cX3_signedSheetFor 50 = .ok (.iload 5, 2) := by decide +kernel
theorem dX3_signedSheetFor_52 : decode cX3_signedSheetFor 52 = .ok (.iload_n 2, 1) := by decide +kernel
theorem dX3_signedSheetFor_53 : decode cX3_signedSheetFor 53 = .ok (.invokestatic 92, 3) := by decide +kernel
theorem dX3_signedSheetFor_56 : decode cX3_signedSheetFor 56 = .ok (.invokevirtual 167, 3) := by decide +kernel
theorem dX3_signedSheetFor_59 : decode cX3_signedSheetFor 59 = .ok (.ifCond .eq 25, 3) := by decide +kernel
theorem dX3_signedSheetFor_62 : decode cX3_signedSheetFor 62 = .ok (.iload 4, 2) := by decide +kernel
theorem dX3_signedSheetFor_64 : decode cX3_signedSheetFor 64 = .ok (.iconst (-1), 1) := by decide +kernel
theorem dX3_signedSheetFor_65 : decode cX3_signedSheetFor 65 = .ok (.if_icmp .eq 15, 3) := by decide +kernel
theorem dX3_signedSheetFor_68 : decode cX3_signedSheetFor 68 = .ok (.aload_n 0, 1) := by decide +kernel
theorem dX3_signedSheetFor_69 : decode cX3_signedSheetFor 69 = .ok (.iload 5, 2) := by decide +kernel
theorem dX3_signedSheetFor_71 : decode cX3_signedSheetFor 71 = .ok (.iload 4, 2) := by decide +kernel
theorem dX3_signedSheetFor_73 : decode cX3_signedSheetFor 73 = .ok (.iload_n 2, 1) := by decide +kernel
theorem dX3_signedSheetFor_74 : decode cX3_signedSheetFor 74 = .ok (.invokevirtual 195, 3) := by decide +kernel
theorem dX3_signedSheetFor_77 : decode cX3_signedSheetFor 77 = .ok (.ifCond .eq 7, 3) := by decide +kernel
theorem dX3_signedSheetFor_80 : decode cX3_signedSheetFor 80 = .ok (.iload 5, 2) := by decide +kernel
theorem dX3_signedSheetFor_82 : decode cX3_signedSheetFor 82 = .ok (.istore 4, 2) := by decide +kernel
theorem dX3_signedSheetFor_84 : decode cX3_signedSheetFor 84 = .ok (.iinc 5 1, 3) := by decide +kernel
theorem dX3_signedSheetFor_87 : decode cX3_signedSheetFor 87 = .ok (.goto (-81), 3) := by decide +kernel
theorem dX3_signedSheetFor_90 : decode cX3_signedSheetFor 90 = .ok (.iload 4, 2) := by decide +kernel
theorem dX3_signedSheetFor_92 : decode cX3_signedSheetFor 92 = .ok (.ireturn, 1) := by decide +kernel
theorem dX3_isStronger_0 : decode cX3_isStronger 0 = .ok (.aload_n 0, 1) := by decide +kernel
theorem dX3_isStronger_1 : decode cX3_isStronger 1 = .ok (.getfield 26, 3) := by decide +kernel
theorem dX3_isStronger_4 : decode cX3_isStronger 4 = .ok (.getfield 158, 3) := by decide +kernel
theorem dX3_isStronger_7 : decode cX3_isStronger 7 = .ok (.iload_n 1, 1) := by decide +kernel
theorem dX3_isStronger_8 : decode cX3_isStronger 8 = .ok (.iaload, 1) := by decide +kernel
theorem dX3_isStronger_9 : decode cX3_isStronger 9 = .ok (.aload_n 0, 1) := by decide +kernel
theorem dX3_isStronger_10 : decode cX3_isStronger 10 = .ok (.getfield 26, 3) := by decide +kernel
theorem dX3_isStronger_13 : decode cX3_isStronger 13 = .ok (.getfield 158, 3) := by decide +kernel
theorem dX3_isStronger_16 : decode cX3_isStronger 16 = .ok (.iload_n 2, 1) := by decide +kernel
theorem dX3_isStronger_17 : decode cX3_isStronger 17 = .ok (.iaload, 1) := by decide +kernel
theorem dX3_isStronger_18 : decode cX3_isStronger 18 = .ok (.if_icmp .eq 30, 3) := by decide +kernel
theorem dX3_isStronger_21 : decode cX3_isStronger 21 = .ok (.aload_n 0, 1) := by decide +kernel
theorem dX3_isStronger_22 : decode cX3_isStronger 22 = .ok (.getfield 26, 3) := by decide +kernel
theorem dX3_isStronger_25 : decode cX3_isStronger 25 = .ok (.getfield 158, 3) := by decide +kernel
theorem dX3_isStronger_28 : decode cX3_isStronger 28 = .ok (.iload_n 1, 1) := by decide +kernel
theorem dX3_isStronger_29 : decode cX3_isStronger 29 = .ok (.iaload, 1) := by decide +kernel
theorem dX3_isStronger_30 : decode cX3_isStronger 30 = .ok (.aload_n 0, 1) := by decide +kernel
theorem dX3_isStronger_31 : decode cX3_isStronger 31 = .ok (.getfield 26, 3) := by decide +kernel
theorem dX3_isStronger_34 : decode cX3_isStronger 34 = .ok (.getfield 158, 3) := by decide +kernel
theorem dX3_isStronger_37 : decode cX3_isStronger 37 = .ok (.iload_n 2, 1) := by decide +kernel
theorem dX3_isStronger_38 : decode cX3_isStronger 38 = .ok (.iaload, 1) := by decide +kernel
theorem dX3_isStronger_39 : decode cX3_isStronger 39 = .ok (.if_icmp .le 7, 3) := by decide +kernel
theorem dX3_isStronger_42 : decode cX3_isStronger 42 = .ok (.iconst 1, 1) := by decide +kernel
theorem dX3_isStronger_43 : decode cX3_isStronger 43 = .ok (.goto 4, 3) := by decide +kernel
theorem dX3_isStronger_46 : decode cX3_isStronger 46 = .ok (.iconst 0, 1) := by decide +kernel
theorem dX3_isStronger_47 : decode cX3_isStronger 47 = .ok (.ireturn, 1) := by decide +kernel
theorem dX3_isStronger_48 : decode cX3_isStronger 48 = .ok (.aload_n 0, 1) := by decide +kernel
theorem dX3_isStronger_49 : decode cX3_isStronger 49 = .ok (.getfield 33, 3) := by decide +kernel
theorem dX3_isStronger_52 : decode cX3_isStronger 52 = .ok (.getfield 198, 3) := by decide +kernel
theorem dX3_isStronger_55 : decode cX3_isStronger 55 = .ok (.iload_n 1, 1) := by decide +kernel
theorem dX3_isStronger_56 : decode cX3_isStronger 56 = .ok (.iload_n 3, 1) := by decide +kernel
theorem dX3_isStronger_57 : decode cX3_isStronger 57 = .ok (.invokestatic 92, 3) := by decide +kernel
theorem dX3_isStronger_60 : decode cX3_isStronger 60 = .ok (.iaload, 1) := by decide +kernel
theorem dX3_isStronger_61 : decode cX3_isStronger 61 = .ok (.aload_n 0, 1) := by decide +kernel
theorem dX3_isStronger_62 : decode cX3_isStronger 62 = .ok (.getfield 33, 3) := by decide +kernel
theorem dX3_isStronger_65 : decode cX3_isStronger 65 = .ok (.getfield 198, 3) := by decide +kernel
theorem dX3_isStronger_68 : decode cX3_isStronger 68 = .ok (.iload_n 2, 1) := by decide +kernel
theorem dX3_isStronger_69 : decode cX3_isStronger 69 = .ok (.iload_n 3, 1) := by decide +kernel
theorem dX3_isStronger_70 : decode cX3_isStronger 70 = .ok (.invokestatic 92, 3) := by decide +kernel
theorem dX3_isStronger_73 : decode cX3_isStronger 73 = .ok (.iaload, 1) := by decide +kernel
theorem dX3_isStronger_74 : decode cX3_isStronger 74 = .ok (.if_icmp .le 7, 3) := by decide +kernel
theorem dX3_isStronger_77 : decode cX3_isStronger 77 = .ok (.iconst 1, 1) := by decide +kernel
theorem dX3_isStronger_78 : decode cX3_isStronger 78 = .ok (.goto 4, 3) := by decide +kernel
theorem dX3_isStronger_81 : decode cX3_isStronger 81 = .ok (.iconst 0, 1) := by decide +kernel
theorem dX3_isStronger_82 : decode cX3_isStronger 82 = .ok (.ireturn, 1) := by decide +kernel
theorem dX3_worthOf_0 : decode cX3_worthOf 0 = .ok (.iconst 0, 1) := by decide +kernel
theorem dX3_worthOf_1 : decode cX3_worthOf 1 = .ok (.istore_n 2, 1) := by decide +kernel
theorem dX3_worthOf_2 : decode cX3_worthOf 2 = .ok (.iconst 0, 1) := by decide +kernel
theorem dX3_worthOf_3 : decode cX3_worthOf 3 = .ok (.istore_n 3, 1) := by decide +kernel
theorem dX3_worthOf_4 : decode cX3_worthOf 4 = .ok (.iload_n 3, 1) := by decide +kernel
theorem dX3_worthOf_5 : decode cX3_worthOf 5 = .ok (.iconst 5, 1) := by decide +kernel
theorem dX3_worthOf_6 : decode cX3_worthOf 6 = .ok (.if_icmp .ge 33, 3) := by decide +kernel
theorem dX3_worthOf_9 : decode cX3_worthOf 9 = .ok (.iload_n 2, 1) := by decide +kernel
theorem dX3_worthOf_10 : decode cX3_worthOf 10 = .ok (.aload_n 0, 1) := by decide +kernel
theorem dX3_worthOf_11 : decode cX3_worthOf 11 = .ok (.getfield 9, 3) := by decide +kernel
theorem dX3_worthOf_14 : decode cX3_worthOf 14 = .ok (.iload_n 3, 1) := by decide +kernel
theorem dX3_worthOf_15 : decode cX3_worthOf 15 = .ok (.iaload, 1) := by decide +kernel
theorem dX3_worthOf_16 : decode cX3_worthOf 16 = .ok (.iconst 0, 1) := by decide +kernel
theorem dX3_worthOf_17 : decode cX3_worthOf 17 = .ok (.aload_n 0, 1) := by decide +kernel
theorem dX3_worthOf_18 : decode cX3_worthOf 18 = .ok (.iload_n 1, 1) := by decide +kernel
theorem dX3_worthOf_19 : decode cX3_worthOf 19 = .ok (.iload_n 3, 1) := by decide +kernel
theorem dX3_worthOf_20 : decode cX3_worthOf 20 = .ok (.aload_n 0, 1) := by decide +kernel
theorem dX3_worthOf_21 : decode cX3_worthOf 21 = .ok (.getfield 37, 3) := by decide +kernel
theorem dX3_worthOf_24 : decode cX3_worthOf 24 = .ok (.invokevirtual 147, 3) := by decide +kernel
theorem dX3_worthOf_27 : decode cX3_worthOf 27 = .ok (.invokestatic 201, 3) := by decide +kernel
theorem dX3_worthOf_30 : decode cX3_worthOf 30 = .ok (.imul, 1) := by decide +kernel
theorem dX3_worthOf_31 : decode cX3_worthOf 31 = .ok (.iadd, 1) := by decide +kernel
theorem dX3_worthOf_32 : decode cX3_worthOf 32 = .ok (.istore_n 2, 1) := by decide +kernel
theorem dX3_worthOf_33 : decode cX3_worthOf 33 = .ok (.iinc 3 1, 3) := by decide +kernel
theorem dX3_worthOf_36 : decode cX3_worthOf 36 = .ok (.goto (-32), 3) := by decide +kernel
theorem dX3_worthOf_39 : decode cX3_worthOf 39 = .ok (.iload_n 2, 1) := by decide +kernel
theorem dX3_worthOf_40 : decode cX3_worthOf 40 = .ok (.ireturn, 1) := by decide +kernel
theorem dX3_urgencyOf_0 : decode cX3_urgencyOf 0 = .ok (.aload_n 0, 1) := by decide +kernel
theorem dX3_urgencyOf_1 : decode cX3_urgencyOf 1 = .ok (.getfield 26, 3) := by decide +kernel
theorem dX3_urgencyOf_4 : decode cX3_urgencyOf 4 = .ok (.iload_n 1, 1) := by decide +kernel
theorem dX3_urgencyOf_5 : decode cX3_urgencyOf 5 = .ok (.invokevirtual 204, 3) := by decide +kernel
theorem dX3_urgencyOf_8 : decode cX3_urgencyOf 8 = .ok (.istore_n 2, 1) := by decide +kernel
theorem dX3_urgencyOf_9 : decode cX3_urgencyOf 9 = .ok (.iload_n 2, 1) := by decide +kernel
theorem dX3_urgencyOf_10 : decode cX3_urgencyOf 10 = .ok (.iconst (-1), 1) := by decide +kernel
theorem dX3_urgencyOf_11 : decode cX3_urgencyOf 11 = .ok (.if_icmp .ne 13, 3) := by decide +kernel
theorem dX3_urgencyOf_14 : decode cX3_urgencyOf 14 = .ok (.aload_n 0, 1) := by decide +kernel
theorem dX3_urgencyOf_15 : decode cX3_urgencyOf 15 = .ok (.getfield 37, 3) := by decide +kernel
theorem dX3_urgencyOf_18 : decode cX3_urgencyOf 18 = .ok (.i2l, 1) := by decide +kernel
theorem dX3_urgencyOf_19 : decode cX3_urgencyOf 19 = .ok (.lconst 1, 1) := by decide +kernel
theorem dX3_urgencyOf_20 : decode cX3_urgencyOf 20 = .ok (.ladd, 1) := by decide +kernel
theorem dX3_urgencyOf_21 : decode cX3_urgencyOf 21 = .ok (.goto 18, 3) := by decide +kernel
theorem dX3_urgencyOf_24 : decode cX3_urgencyOf 24 = .ok (.aload_n 0, 1) := by decide +kernel
theorem dX3_urgencyOf_25 : decode cX3_urgencyOf 25 = .ok (.getfield 37, 3) := by decide +kernel
theorem dX3_urgencyOf_28 : decode cX3_urgencyOf 28 = .ok (.aload_n 0, 1) := by decide +kernel
theorem dX3_urgencyOf_29 : decode cX3_urgencyOf 29 = .ok (.getfield 26, 3) := by decide +kernel
theorem dX3_urgencyOf_32 : decode cX3_urgencyOf 32 = .ok (.getfield 158, 3) := by decide +kernel
theorem dX3_urgencyOf_35 : decode cX3_urgencyOf 35 = .ok (.iload_n 2, 1) := by decide +kernel
theorem dX3_urgencyOf_36 : decode cX3_urgencyOf 36 = .ok (.iaload, 1) := by decide +kernel
theorem dX3_urgencyOf_37 : decode cX3_urgencyOf 37 = .ok (.isub, 1) := by decide +kernel
theorem dX3_urgencyOf_38 : decode cX3_urgencyOf 38 = .ok (.i2l, 1) := by decide +kernel
theorem dX3_urgencyOf_39 : decode cX3_urgencyOf 39 = .ok (.lstore_n 3, 1) := by decide +kernel
theorem dX3_urgencyOf_40 : decode cX3_urgencyOf 40 = .ok (.aload_n 0, 1) := by decide +kernel
theorem dX3_urgencyOf_41 : decode cX3_urgencyOf 41 = .ok (.iload_n 1, 1) := by decide +kernel
theorem dX3_urgencyOf_42 : decode cX3_urgencyOf 42 = .ok (.invokevirtual 151, 3) := by decide +kernel
theorem dX3_urgencyOf_45 : decode cX3_urgencyOf 45 = .ok (.i2l, 1) := by decide +kernel
theorem dX3_urgencyOf_46 : decode cX3_urgencyOf 46 = .ok (.lconst 1, 1) := by decide +kernel
theorem dX3_urgencyOf_47 : decode cX3_urgencyOf 47 = .ok (.ladd, 1) := by decide +kernel
theorem dX3_urgencyOf_48 : decode cX3_urgencyOf 48 = .ok (.lload_n 3, 1) := by decide +kernel
theorem dX3_urgencyOf_49 : decode cX3_urgencyOf 49 = .ok (.lmul, 1) := by decide +kernel
theorem dX3_urgencyOf_50 : decode cX3_urgencyOf 50 = .ok (.lreturn, 1) := by decide +kernel
theorem dX3_gapOf_0 : decode cX3_gapOf 0 = .ok (.iload_n 1, 1) := by decide +kernel
theorem dX3_gapOf_1 : decode cX3_gapOf 1 = .ok (.iload_n 2, 1) := by decide +kernel
theorem dX3_gapOf_2 : decode cX3_gapOf 2 = .ok (.invokestatic 92, 3) := by decide +kernel
theorem dX3_gapOf_5 : decode cX3_gapOf 5 = .ok (.istore_n 3, 1) := by decide +kernel
theorem dX3_gapOf_6 : decode cX3_gapOf 6 = .ok (.aload_n 0, 1) := by decide +kernel
theorem dX3_gapOf_7 : decode cX3_gapOf 7 = .ok (.getfield 33, 3) := by decide +kernel
theorem dX3_gapOf_10 : decode cX3_gapOf 10 = .ok (.iload_n 3, 1) := by decide +kernel
theorem dX3_gapOf_11 : decode cX3_gapOf 11 = .ok (.invokevirtual 167, 3) := by decide +kernel
theorem dX3_gapOf_14 : decode cX3_gapOf 14 = .ok (.ifCond .eq 13, 3) := by decide +kernel
theorem dX3_gapOf_17 : decode cX3_gapOf 17 = .ok (.aload_n 0, 1) := by decide +kernel
theorem dX3_gapOf_18 : decode cX3_gapOf 18 = .ok (.getfield 33, 3) := by decide +kernel
theorem dX3_gapOf_21 : decode cX3_gapOf 21 = .ok (.getfield 173, 3) := by decide +kernel
theorem dX3_gapOf_24 : decode cX3_gapOf 24 = .ok (.iload_n 3, 1) := by decide +kernel
theorem dX3_gapOf_25 : decode cX3_gapOf 25 = .ok (.iaload, 1) := by decide +kernel
theorem dX3_gapOf_26 : decode cX3_gapOf 26 = .ok (.ireturn, 1) := by decide +kernel
theorem dX3_gapOf_27 : decode cX3_gapOf 27 = .ok (.aload_n 0, 1) := by decide +kernel
theorem dX3_gapOf_28 : decode cX3_gapOf 28 = .ok (.getfield 33, 3) := by decide +kernel
theorem dX3_gapOf_31 : decode cX3_gapOf 31 = .ok (.getfield 164, 3) := by decide +kernel
theorem dX3_gapOf_34 : decode cX3_gapOf 34 = .ok (.iload_n 3, 1) := by decide +kernel
theorem dX3_gapOf_35 : decode cX3_gapOf 35 = .ok (.iaload, 1) := by decide +kernel
theorem dX3_gapOf_36 : decode cX3_gapOf 36 = .ok (.aload_n 0, 1) := by decide +kernel
theorem dX3_gapOf_37 : decode cX3_gapOf 37 = .ok (.aload_n 0, 1) := by decide +kernel
theorem dX3_gapOf_38 : decode cX3_gapOf 38 = .ok (.getfield 26, 3) := by decide +kernel
theorem dX3_gapOf_41 : decode cX3_gapOf 41 = .ok (.getfield 170, 3) := by decide +kernel
theorem dX3_gapOf_44 : decode cX3_gapOf 44 = .ok (.iload_n 1, 1) := by decide +kernel
theorem dX3_gapOf_45 : decode cX3_gapOf 45 = .ok (.iaload, 1) := by decide +kernel
theorem dX3_gapOf_46 : decode cX3_gapOf 46 = .ok (.iload_n 2, 1) := by decide +kernel
theorem dX3_gapOf_47 : decode cX3_gapOf 47 = .ok (.aload_n 0, 1) := by decide +kernel
theorem dX3_gapOf_48 : decode cX3_gapOf 48 = .ok (.getfield 26, 3) := by decide +kernel
theorem dX3_gapOf_51 : decode cX3_gapOf 51 = .ok (.getfield 158, 3) := by decide +kernel
theorem dX3_gapOf_54 : decode cX3_gapOf 54 = .ok (.iload_n 1, 1) := by decide +kernel
theorem dX3_gapOf_55 : decode cX3_gapOf 55 = .ok (.iaload, 1) := by decide +kernel
theorem dX3_gapOf_56 : decode cX3_gapOf 56 = .ok (.invokevirtual 147, 3) := by decide +kernel
theorem dX3_gapOf_59 : decode cX3_gapOf 59 = .ok (.isub, 1) := by decide +kernel
theorem dX3_gapOf_60 : decode cX3_gapOf 60 = .ok (.ireturn, 1) := by decide +kernel
theorem dX3_isSignable_0 : decode cX3_isSignable 0 = .ok (.iload_n 1, 1) := by decide +kernel
theorem dX3_isSignable_1 : decode cX3_isSignable 1 = .ok (.iload_n 2, 1) := by decide +kernel
theorem dX3_isSignable_2 : decode cX3_isSignable 2 = .ok (.invokestatic 92, 3) := by decide +kernel
theorem dX3_isSignable_5 : decode cX3_isSignable 5 = .ok (.istore_n 3, 1) := by decide +kernel
theorem dX3_isSignable_6 : decode cX3_isSignable 6 = .ok (.aload_n 0, 1) := by decide +kernel
theorem dX3_isSignable_7 : decode cX3_isSignable 7 = .ok (.getfield 26, 3) := by decide +kernel
theorem dX3_isSignable_10 : decode cX3_isSignable 10 = .ok (.getfield 95, 3) := by decide +kernel
theorem dX3_isSignable_13 : decode cX3_isSignable 13 = .ok (.iload_n 1, 1) := by decide +kernel
theorem dX3_isSignable_14 : decode cX3_isSignable 14 = .ok (.baload, 1) := by decide +kernel
theorem dX3_isSignable_15 : decode cX3_isSignable 15 = .ok (.ifCond .eq 29, 3) := by decide +kernel
theorem dX3_isSignable_18 : decode cX3_isSignable 18 = .ok (.aload_n 0, 1) := by decide +kernel
theorem dX3_isSignable_19 : decode cX3_isSignable 19 = .ok (.getfield 33, 3) := by decide +kernel
theorem dX3_isSignable_22 : decode cX3_isSignable 22 = .ok (.iload_n 3, 1) := by decide +kernel
theorem dX3_isSignable_23 : decode cX3_isSignable 23 = .ok (.invokevirtual 101, 3) := by decide +kernel
theorem dX3_isSignable_26 : decode cX3_isSignable 26 = .ok (.ifCond .eq 18, 3) := by decide +kernel
theorem dX3_isSignable_29 : decode cX3_isSignable 29 = .ok (.aload_n 0, 1) := by decide +kernel
theorem dX3_isSignable_30 : decode cX3_isSignable 30 = .ok (.getfield 33, 3) := by decide +kernel
theorem dX3_isSignable_33 : decode cX3_isSignable 33 = .ok (.iload_n 3, 1) := by decide +kernel
theorem dX3_isSignable_34 : decode cX3_isSignable 34 = .ok (.invokevirtual 167, 3) := by decide +kernel
theorem dX3_isSignable_37 : decode cX3_isSignable 37 = .ok (.ifCond .ne 7, 3) := by decide +kernel
theorem dX3_isSignable_40 : decode cX3_isSignable 40 = .ok (.iconst 1, 1) := by decide +kernel
theorem dX3_isSignable_41 : decode cX3_isSignable 41 = .ok (.goto 4, 3) := by decide +kernel
theorem dX3_isSignable_44 : decode cX3_isSignable 44 = .ok (.iconst 0, 1) := by decide +kernel
theorem dX3_isSignable_45 : decode cX3_isSignable 45 = .ok (.ireturn, 1) := by decide +kernel
theorem dX3_canBeSettled_0 : decode cX3_canBeSettled 0 = .ok (.aload_n 0, 1) := by decide +kernel
theorem dX3_canBeSettled_1 : decode cX3_canBeSettled 1 = .ok (.getfield 26, 3) := by decide +kernel
theorem dX3_canBeSettled_4 : decode cX3_canBeSettled 4 = .ok (.getfield 170, 3) := by decide +kernel
theorem dX3_canBeSettled_7 : decode cX3_canBeSettled 7 = .ok (.iload_n 1, 1) := by decide +kernel
theorem dX3_canBeSettled_8 : decode cX3_canBeSettled 8 = .ok (.iaload, 1) := by decide +kernel
theorem dX3_canBeSettled_9 : decode cX3_canBeSettled 9 = .ok (.aload_n 0, 1) := by decide +kernel
theorem dX3_canBeSettled_10 : decode cX3_canBeSettled 10 = .ok (.getfield 26, 3) := by decide +kernel
theorem dX3_canBeSettled_13 : decode cX3_canBeSettled 13 = .ok (.getfield 170, 3) := by decide +kernel
theorem dX3_canBeSettled_16 : decode cX3_canBeSettled 16 = .ok (.iload_n 2, 1) := by decide +kernel
theorem dX3_canBeSettled_17 : decode cX3_canBeSettled 17 = .ok (.iaload, 1) := by decide +kernel
theorem dX3_canBeSettled_18 : decode cX3_canBeSettled 18 = .ok (.if_icmp .eq 21, 3) := by decide +kernel
theorem dX3_canBeSettled_21 : decode cX3_canBeSettled 21 = .ok (.aload_n 0, 1) := by decide +kernel
theorem dX3_canBeSettled_22 : decode cX3_canBeSettled 22 = .ok (.iload_n 1, 1) := by decide +kernel
theorem dX3_canBeSettled_23 : decode cX3_canBeSettled 23 = .ok (.iload_n 3, 1) := by decide +kernel
theorem dX3_canBeSettled_24 : decode cX3_canBeSettled 24 = .ok (.invokevirtual 123, 3) := by decide +kernel
theorem dX3_canBeSettled_27 : decode cX3_canBeSettled 27 = .ok (.ifCond .eq 12, 3) := by decide +kernel
theorem dX3_canBeSettled_30 : decode cX3_canBeSettled 30 = .ok (.aload_n 0, 1) := by decide +kernel
theorem dX3_canBeSettled_31 : decode cX3_canBeSettled 31 = .ok (.iload_n 2, 1) := by decide +kernel
theorem dX3_canBeSettled_32 : decode cX3_canBeSettled 32 = .ok (.iload_n 3, 1) := by decide +kernel
theorem dX3_canBeSettled_33 : decode cX3_canBeSettled 33 = .ok (.invokevirtual 123, 3) := by decide +kernel
theorem dX3_canBeSettled_36 : decode cX3_canBeSettled 36 = .ok (.ifCond .ne 5, 3) := by decide +kernel
theorem dX3_canBeSettled_39 : decode cX3_canBeSettled 39 = .ok (.iconst 0, 1) := by decide +kernel
theorem dX3_canBeSettled_40 : decode cX3_canBeSettled 40 = .ok (.ireturn, 1) := by decide +kernel
theorem dX3_canBeSettled_41 : decode cX3_canBeSettled 41 = .ok (.aload_n 0, 1) := by decide +kernel
theorem dX3_canBeSettled_42 : decode cX3_canBeSettled 42 = .ok (.iload_n 1, 1) := by decide +kernel
theorem dX3_canBeSettled_43 : decode cX3_canBeSettled 43 = .ok (.iload_n 3, 1) := by decide +kernel
theorem dX3_canBeSettled_44 : decode cX3_canBeSettled 44 = .ok (.invokevirtual 128, 3) := by decide +kernel
theorem dX3_canBeSettled_47 : decode cX3_canBeSettled 47 = .ok (.istore 4, 2) := by decide +kernel
theorem dX3_canBeSettled_49 : decode cX3_canBeSettled 49 = .ok (.iload 4, 2) := by decide +kernel
theorem dX3_canBeSettled_51 : decode cX3_canBeSettled 51 = .ok (.ifCond .eq 19, 3) := by decide +kernel
theorem dX3_canBeSettled_54 : decode cX3_canBeSettled 54 = .ok (.iload 4, 2) := by decide +kernel
theorem dX3_canBeSettled_56 : decode cX3_canBeSettled 56 = .ok (.aload_n 0, 1) := by decide +kernel
theorem dX3_canBeSettled_57 : decode cX3_canBeSettled 57 = .ok (.iload_n 2, 1) := by decide +kernel
theorem dX3_canBeSettled_58 : decode cX3_canBeSettled 58 = .ok (.iload_n 3, 1) := by decide +kernel
theorem dX3_canBeSettled_59 : decode cX3_canBeSettled 59 = .ok (.invokevirtual 128, 3) := by decide +kernel
theorem dX3_canBeSettled_62 : decode cX3_canBeSettled 62 = .ok (.iadd, 1) := by decide +kernel
theorem dX3_canBeSettled_63 : decode cX3_canBeSettled 63 = .ok (.ifCond .ne 7, 3) := by decide +kernel
theorem dX3_canBeSettled_66 : decode cX3_canBeSettled 66 = .ok (.iconst 1, 1) := by decide +kernel
theorem dX3_canBeSettled_67 : decode cX3_canBeSettled 67 = .ok (.goto 4, 3) := by decide +kernel
theorem dX3_canBeSettled_70 : decode cX3_canBeSettled 70 = .ok (.iconst 0, 1) := by decide +kernel
theorem dX3_canBeSettled_71 : decode cX3_canBeSettled 71 = .ok (.ireturn, 1) := by decide +kernel
theorem dJ6_bitCount_0f7a4_0 : decode cJ6_bitCount_0f7a4 0 = .ok (.iload_n 0, 1) := by decide +kernel
theorem dJ6_bitCount_0f7a4_1 : decode cJ6_bitCount_0f7a4 1 = .ok (.iload_n 0, 1) := by decide +kernel
theorem dJ6_bitCount_0f7a4_2 : decode cJ6_bitCount_0f7a4 2 = .ok (.iconst 1, 1) := by decide +kernel
theorem dJ6_bitCount_0f7a4_3 : decode cJ6_bitCount_0f7a4 3 = .ok (.iushr, 1) := by decide +kernel
theorem dJ6_bitCount_0f7a4_4 : decode cJ6_bitCount_0f7a4 4 = .ok (.ldc_w 265, 3) := by decide +kernel
theorem dJ6_bitCount_0f7a4_7 : decode cJ6_bitCount_0f7a4 7 = .ok (.iand, 1) := by decide +kernel
theorem dJ6_bitCount_0f7a4_8 : decode cJ6_bitCount_0f7a4 8 = .ok (.isub, 1) := by decide +kernel
theorem dJ6_bitCount_0f7a4_9 : decode cJ6_bitCount_0f7a4 9 = .ok (.istore_n 0, 1) := by decide +kernel
theorem dJ6_bitCount_0f7a4_10 : decode cJ6_bitCount_0f7a4 10 = .ok (.iload_n 0, 1) := by decide +kernel
theorem dJ6_bitCount_0f7a4_11 : decode cJ6_bitCount_0f7a4 11 = .ok (.ldc_w 266, 3) := by decide +kernel
theorem dJ6_bitCount_0f7a4_14 : decode cJ6_bitCount_0f7a4 14 = .ok (.iand, 1) := by decide +kernel
theorem dJ6_bitCount_0f7a4_15 : decode cJ6_bitCount_0f7a4 15 = .ok (.iload_n 0, 1) := by decide +kernel
theorem dJ6_bitCount_0f7a4_16 : decode cJ6_bitCount_0f7a4 16 = .ok (.iconst 2, 1) := by decide +kernel
theorem dJ6_bitCount_0f7a4_17 : decode cJ6_bitCount_0f7a4 17 = .ok (.iushr, 1) := by decide +kernel
theorem dJ6_bitCount_0f7a4_18 : decode cJ6_bitCount_0f7a4 18 = .ok (.ldc_w 266, 3) := by decide +kernel
theorem dJ6_bitCount_0f7a4_21 : decode cJ6_bitCount_0f7a4 21 = .ok (.iand, 1) := by decide +kernel
theorem dJ6_bitCount_0f7a4_22 : decode cJ6_bitCount_0f7a4 22 = .ok (.iadd, 1) := by decide +kernel
theorem dJ6_bitCount_0f7a4_23 : decode cJ6_bitCount_0f7a4 23 = .ok (.istore_n 0, 1) := by decide +kernel
theorem dJ6_bitCount_0f7a4_24 : decode cJ6_bitCount_0f7a4 24 = .ok (.iload_n 0, 1) := by decide +kernel
theorem dJ6_bitCount_0f7a4_25 : decode cJ6_bitCount_0f7a4 25 = .ok (.iload_n 0, 1) := by decide +kernel
theorem dJ6_bitCount_0f7a4_26 : decode cJ6_bitCount_0f7a4 26 = .ok (.iconst 4, 1) := by decide +kernel
theorem dJ6_bitCount_0f7a4_27 : decode cJ6_bitCount_0f7a4 27 = .ok (.iushr, 1) := by decide +kernel
theorem dJ6_bitCount_0f7a4_28 : decode cJ6_bitCount_0f7a4 28 = .ok (.iadd, 1) := by decide +kernel
theorem dJ6_bitCount_0f7a4_29 : decode cJ6_bitCount_0f7a4 29 = .ok (.ldc_w 267, 3) := by decide +kernel
theorem dJ6_bitCount_0f7a4_32 : decode cJ6_bitCount_0f7a4 32 = .ok (.iand, 1) := by decide +kernel
theorem dJ6_bitCount_0f7a4_33 : decode cJ6_bitCount_0f7a4 33 = .ok (.istore_n 0, 1) := by decide +kernel
theorem dJ6_bitCount_0f7a4_34 : decode cJ6_bitCount_0f7a4 34 = .ok (.iload_n 0, 1) := by decide +kernel
theorem dJ6_bitCount_0f7a4_35 : decode cJ6_bitCount_0f7a4 35 = .ok (.iload_n 0, 1) := by decide +kernel
theorem dJ6_bitCount_0f7a4_36 : decode cJ6_bitCount_0f7a4 36 = .ok (.bipush 8, 2) := by decide +kernel
theorem dJ6_bitCount_0f7a4_38 : decode cJ6_bitCount_0f7a4 38 = .ok (.iushr, 1) := by decide +kernel
theorem dJ6_bitCount_0f7a4_39 : decode cJ6_bitCount_0f7a4 39 = .ok (.iadd, 1) := by decide +kernel
theorem dJ6_bitCount_0f7a4_40 : decode cJ6_bitCount_0f7a4 40 = .ok (.istore_n 0, 1) := by decide +kernel
theorem dJ6_bitCount_0f7a4_41 : decode cJ6_bitCount_0f7a4 41 = .ok (.iload_n 0, 1) := by decide +kernel
theorem dJ6_bitCount_0f7a4_42 : decode cJ6_bitCount_0f7a4 42 = .ok (.iload_n 0, 1) := by decide +kernel
theorem dJ6_bitCount_0f7a4_43 : decode cJ6_bitCount_0f7a4 43 = .ok (.bipush 16, 2) := by decide +kernel
theorem dJ6_bitCount_0f7a4_45 : decode cJ6_bitCount_0f7a4 45 = .ok (.iushr, 1) := by decide +kernel
theorem dJ6_bitCount_0f7a4_46 : decode cJ6_bitCount_0f7a4 46 = .ok (.iadd, 1) := by decide +kernel
theorem dJ6_bitCount_0f7a4_47 : decode cJ6_bitCount_0f7a4 47 = .ok (.istore_n 0, 1) := by decide +kernel
theorem dJ6_bitCount_0f7a4_48 : decode cJ6_bitCount_0f7a4 48 = .ok (.iload_n 0, 1) := by decide +kernel
theorem dJ6_bitCount_0f7a4_49 : decode cJ6_bitCount_0f7a4 49 = .ok (.bipush 63, 2) := by decide +kernel
theorem dJ6_bitCount_0f7a4_51 : decode cJ6_bitCount_0f7a4 51 = .ok (.iand, 1) := by decide +kernel
theorem dJ6_bitCount_0f7a4_52 : decode cJ6_bitCount_0f7a4 52 = .ok (.ireturn, 1) := by decide +kernel
theorem dJ9_abs_0f7a4_0 : decode cJ9_abs_0f7a4 0 = .ok (.iload_n 0, 1) := by decide +kernel
theorem dJ9_abs_0f7a4_1 : decode cJ9_abs_0f7a4 1 = .ok (.ifCond .ge 8, 3) := by decide +kernel
theorem dJ9_abs_0f7a4_4 : decode cJ9_abs_0f7a4 4 = .ok (.iload_n 0, 1) := by decide +kernel
theorem dJ9_abs_0f7a4_5 : decode cJ9_abs_0f7a4 5 = .ok (.ineg, 1) := by decide +kernel
theorem dJ9_abs_0f7a4_6 : decode cJ9_abs_0f7a4 6 = .ok (.goto 4, 3) := by decide +kernel
theorem dJ9_abs_0f7a4_9 : decode cJ9_abs_0f7a4 9 = .ok (.iload_n 0, 1) := by decide +kernel
theorem dJ9_abs_0f7a4_10 : decode cJ9_abs_0f7a4 10 = .ok (.ireturn, 1) := by decide +kernel
theorem dJ9_max_7cf53_0 : decode cJ9_max_7cf53 0 = .ok (.iload_n 0, 1) := by decide +kernel
theorem dJ9_max_7cf53_1 : decode cJ9_max_7cf53 1 = .ok (.iload_n 1, 1) := by decide +kernel
theorem dJ9_max_7cf53_2 : decode cJ9_max_7cf53 2 = .ok (.if_icmp .lt 7, 3) := by decide +kernel
theorem dJ9_max_7cf53_5 : decode cJ9_max_7cf53 5 = .ok (.iload_n 0, 1) := by decide +kernel
theorem dJ9_max_7cf53_6 : decode cJ9_max_7cf53 6 = .ok (.goto 4, 3) := by decide +kernel
theorem dJ9_max_7cf53_9 : decode cJ9_max_7cf53 9 = .ok (.iload_n 1, 1) := by decide +kernel
theorem dJ9_max_7cf53_10 : decode cJ9_max_7cf53 10 = .ok (.ireturn, 1) := by decide +kernel
theorem dJ9_min_7cf53_0 : decode cJ9_min_7cf53 0 = .ok (.iload_n 0, 1) := by decide +kernel
theorem dJ9_min_7cf53_1 : decode cJ9_min_7cf53 1 = .ok (.iload_n 1, 1) := by decide +kernel
theorem dJ9_min_7cf53_2 : decode cJ9_min_7cf53 2 = .ok (.if_icmp .gt 7, 3) := by decide +kernel
theorem dJ9_min_7cf53_5 : decode cJ9_min_7cf53 5 = .ok (.iload_n 0, 1) := by decide +kernel
theorem dJ9_min_7cf53_6 : decode cJ9_min_7cf53 6 = .ok (.goto 4, 3) := by decide +kernel
theorem dJ9_min_7cf53_9 : decode cJ9_min_7cf53 9 = .ok (.iload_n 1, 1) := by decide +kernel
theorem dJ9_min_7cf53_10 : decode cJ9_min_7cf53 10 = .ok (.ireturn, 1) := by decide +kernel
theorem dJ7_fill_53178_0 : decode cJ7_fill_53178 0 = .ok (.iconst 0, 1) := by decide +kernel
theorem dJ7_fill_53178_1 : decode cJ7_fill_53178 1 = .ok (.istore_n 2, 1) := by decide +kernel
theorem dJ7_fill_53178_2 : decode cJ7_fill_53178 2 = .ok (.aload_n 0, 1) := by decide +kernel
theorem dJ7_fill_53178_3 : decode cJ7_fill_53178 3 = .ok (.arraylength, 1) := by decide +kernel
theorem dJ7_fill_53178_4 : decode cJ7_fill_53178 4 = .ok (.istore_n 3, 1) := by decide +kernel
theorem dJ7_fill_53178_5 : decode cJ7_fill_53178 5 = .ok (.iload_n 2, 1) := by decide +kernel
theorem dJ7_fill_53178_6 : decode cJ7_fill_53178 6 = .ok (.iload_n 3, 1) := by decide +kernel
theorem dJ7_fill_53178_7 : decode cJ7_fill_53178 7 = .ok (.if_icmp .ge 13, 3) := by decide +kernel
theorem dJ7_fill_53178_10 : decode cJ7_fill_53178 10 = .ok (.aload_n 0, 1) := by decide +kernel
theorem dJ7_fill_53178_11 : decode cJ7_fill_53178 11 = .ok (.iload_n 2, 1) := by decide +kernel
theorem dJ7_fill_53178_12 : decode cJ7_fill_53178 12 = .ok (.iload_n 1, 1) := by decide +kernel
theorem dJ7_fill_53178_13 : decode cJ7_fill_53178 13 = .ok (.iastore, 1) := by decide +kernel
theorem dJ7_fill_53178_14 : decode cJ7_fill_53178 14 = .ok (.iinc 2 1, 3) := by decide +kernel
theorem dJ7_fill_53178_17 : decode cJ7_fill_53178 17 = .ok (.goto (-12), 3) := by decide +kernel
theorem dJ7_fill_53178_20 : decode cJ7_fill_53178 20 = .ok (.return_, 1) := by decide +kernel
end
section
theorem dL_at_0 : decode cL_at 0 = .ok (.iload_n 1, 1) := by decide +kernel
theorem dL_at_1 : decode cL_at 1 = .ok (.aload_n 0, 1) := by decide +kernel
theorem dL_at_2 : decode cL_at 2 = .ok (.arraylength, 1) := by decide +kernel
theorem dL_at_3 : decode cL_at 3 = .ok (.if_icmp .ge 9, 3) := by decide +kernel
theorem dL_at_6 : decode cL_at 6 = .ok (.aload_n 0, 1) := by decide +kernel
theorem dL_at_7 : decode cL_at 7 = .ok (.iload_n 1, 1) := by decide +kernel
theorem dL_at_8 : decode cL_at 8 = .ok (.iaload, 1) := by decide +kernel
theorem dL_at_9 : decode cL_at 9 = .ok (.goto 12, 3) := by decide +kernel
theorem dL_at_12 : decode cL_at 12 = .ok (.ldc 7, 2) := by decide +kernel
theorem dL_at_14 : decode cL_at 14 = .ok (.iload_n 1, 1) := by decide +kernel
theorem dL_at_15 : decode cL_at 15 = .ok (.iconst 1, 1) := by decide +kernel
theorem dL_at_16 : decode cL_at 16 = .ok (.iadd, 1) := by decide +kernel
theorem dL_at_17 : decode cL_at 17 = .ok (.imul, 1) := by decide +kernel
theorem dL_at_18 : decode cL_at 18 = .ok (.ldc 8, 2) := by decide +kernel
theorem dL_at_20 : decode cL_at 20 = .ok (.iadd, 1) := by decide +kernel
theorem dL_at_21 : decode cL_at 21 = .ok (.ireturn, 1) := by decide +kernel
theorem dL_low_0 : decode cL_low 0 = .ok (.iload_n 0, 1) := by decide +kernel
theorem dL_low_1 : decode cL_low 1 = .ok (.ldc 9, 2) := by decide +kernel
theorem dL_low_3 : decode cL_low 3 = .ok (.iand, 1) := by decide +kernel
theorem dL_low_4 : decode cL_low 4 = .ok (.iload_n 1, 1) := by decide +kernel
theorem dL_low_5 : decode cL_low 5 = .ok (.irem, 1) := by decide +kernel
theorem dL_low_6 : decode cL_low 6 = .ok (.ireturn, 1) := by decide +kernel
theorem dL_setPrice_0 : decode cL_setPrice 0 = .ok (.aload_n 0, 1) := by decide +kernel
theorem dL_setPrice_1 : decode cL_setPrice 1 = .ok (.iload_n 1, 1) := by decide +kernel
theorem dL_setPrice_2 : decode cL_setPrice 2 = .ok (.iload_n 2, 1) := by decide +kernel
theorem dL_setPrice_3 : decode cL_setPrice 3 = .ok (.invokevirtual 10, 3) := by decide +kernel
theorem dL_setPrice_6 : decode cL_setPrice 6 = .ok (.ireturn, 1) := by decide +kernel
theorem dL_setPrice_7 : decode cL_setPrice 7 = .ok (.astore_n 3, 1) := by decide +kernel
theorem dL_setPrice_8 : decode cL_setPrice 8 = .ok (.ldc 18, 2) := by decide +kernel
theorem dL_setPrice_10 : decode cL_setPrice 10 = .ok (.ireturn, 1) := by decide +kernel
theorem dL_setPrice_11 : decode cL_setPrice 11 = .ok (.astore_n 3, 1) := by decide +kernel
theorem dL_setPrice_12 : decode cL_setPrice 12 = .ok (.ldc 21, 2) := by decide +kernel
theorem dL_setPrice_14 : decode cL_setPrice 14 = .ok (.ireturn, 1) := by decide +kernel
theorem dL_setBound_0 : decode cL_setBound 0 = .ok (.aload_n 0, 1) := by decide +kernel
theorem dL_setBound_1 : decode cL_setBound 1 = .ok (.iload_n 1, 1) := by decide +kernel
theorem dL_setBound_2 : decode cL_setBound 2 = .ok (.iload_n 2, 1) := by decide +kernel
theorem dL_setBound_3 : decode cL_setBound 3 = .ok (.invokevirtual 22, 3) := by decide +kernel
theorem dL_setBound_6 : decode cL_setBound 6 = .ok (.ireturn, 1) := by decide +kernel
theorem dL_setBound_7 : decode cL_setBound 7 = .ok (.astore_n 3, 1) := by decide +kernel
theorem dL_setBound_8 : decode cL_setBound 8 = .ok (.ldc 18, 2) := by decide +kernel
theorem dL_setBound_10 : decode cL_setBound 10 = .ok (.ireturn, 1) := by decide +kernel
theorem dL_setBound_11 : decode cL_setBound 11 = .ok (.astore_n 3, 1) := by decide +kernel
theorem dL_setBound_12 : decode cL_setBound 12 = .ok (.ldc 21, 2) := by decide +kernel
theorem dL_setBound_14 : decode cL_setBound 14 = .ok (.ireturn, 1) := by decide +kernel
theorem dL_move_0 : decode cL_move 0 = .ok (.aload_n 0, 1) := by decide +kernel
theorem dL_move_1 : decode cL_move 1 = .ok (.iload_n 1, 1) := by decide +kernel
theorem dL_move_2 : decode cL_move 2 = .ok (.iload_n 2, 1) := by decide +kernel
theorem dL_move_3 : decode cL_move 3 = .ok (.iload_n 3, 1) := by decide +kernel
theorem dL_move_4 : decode cL_move 4 = .ok (.iload 4, 2) := by decide +kernel
theorem dL_move_6 : decode cL_move 6 = .ok (.iload 5, 2) := by decide +kernel
theorem dL_move_8 : decode cL_move 8 = .ok (.invokevirtual 25, 3) := by decide +kernel
theorem dL_move_11 : decode cL_move 11 = .ok (.ireturn, 1) := by decide +kernel
theorem dL_move_12 : decode cL_move 12 = .ok (.astore 6, 2) := by decide +kernel
theorem dL_move_14 : decode cL_move 14 = .ok (.ldc 18, 2) := by decide +kernel
theorem dL_move_16 : decode cL_move 16 = .ok (.ireturn, 1) := by decide +kernel
theorem dL_move_17 : decode cL_move 17 = .ok (.astore 6, 2) := by decide +kernel
theorem dL_move_19 : decode cL_move 19 = .ok (.ldc 21, 2) := by decide +kernel
theorem dL_move_21 : decode cL_move 21 = .ok (.ireturn, 1) := by decide +kernel
theorem dL_move_22 : decode cL_move 22 = .ok (.astore 6, 2) := by decide +kernel
theorem dL_move_24 : decode cL_move 24 = .ok (.ldc 31, 2) := by decide +kernel
theorem dL_move_26 : decode cL_move 26 = .ok (.ireturn, 1) := by decide +kernel
theorem dL_pass_0 : decode cL_pass 0 = .ok (.aload_n 0, 1) := by decide +kernel
theorem dL_pass_1 : decode cL_pass 1 = .ok (.iload_n 1, 1) := by decide +kernel
theorem dL_pass_2 : decode cL_pass 2 = .ok (.invokevirtual 32, 3) := by decide +kernel
theorem dL_pass_5 : decode cL_pass 5 = .ok (.ireturn, 1) := by decide +kernel
theorem dL_pass_6 : decode cL_pass 6 = .ok (.astore_n 2, 1) := by decide +kernel
theorem dL_pass_7 : decode cL_pass 7 = .ok (.ldc 21, 2) := by decide +kernel
theorem dL_pass_9 : decode cL_pass 9 = .ok (.ireturn, 1) := by decide +kernel
theorem dL_open_0 : decode cL_open 0 = .ok (.aload_n 0, 1) := by decide +kernel
theorem dL_open_1 : decode cL_open 1 = .ok (.iload_n 1, 1) := by decide +kernel
theorem dL_open_2 : decode cL_open 2 = .ok (.invokevirtual 36, 3) := by decide +kernel
theorem dL_open_5 : decode cL_open 5 = .ok (.ireturn, 1) := by decide +kernel
theorem dL_open_6 : decode cL_open 6 = .ok (.astore_n 2, 1) := by decide +kernel
theorem dL_open_7 : decode cL_open 7 = .ok (.ldc 18, 2) := by decide +kernel
theorem dL_open_9 : decode cL_open 9 = .ok (.ireturn, 1) := by decide +kernel
theorem dL_open_10 : decode cL_open 10 = .ok (.astore_n 2, 1) := by decide +kernel
theorem dL_open_11 : decode cL_open 11 = .ok (.ldc 31, 2) := by decide +kernel
theorem dL_open_13 : decode cL_open 13 = .ok (.ireturn, 1) := by decide +kernel
theorem dL_count_0 : decode cL_count 0 = .ok (.aload_n 0, 1) := by decide +kernel
theorem dL_count_1 : decode cL_count 1 = .ok (.iload_n 1, 1) := by decide +kernel
theorem dL_count_2 : decode cL_count 2 = .ok (.iload_n 2, 1) := by decide +kernel
theorem dL_count_3 : decode cL_count 3 = .ok (.iload_n 3, 1) := by decide +kernel
theorem dL_count_4 : decode cL_count 4 = .ok (.iload 4, 2) := by decide +kernel
theorem dL_count_6 : decode cL_count 6 = .ok (.invokevirtual 39, 3) := by decide +kernel
theorem dL_count_9 : decode cL_count 9 = .ok (.ifCond .eq 7, 3) := by decide +kernel
theorem dL_count_12 : decode cL_count 12 = .ok (.iconst 1, 1) := by decide +kernel
theorem dL_count_13 : decode cL_count 13 = .ok (.goto 4, 3) := by decide +kernel
theorem dL_count_16 : decode cL_count 16 = .ok (.iconst 0, 1) := by decide +kernel
theorem dL_count_17 : decode cL_count 17 = .ok (.ireturn, 1) := by decide +kernel
theorem dL_count_18 : decode cL_count 18 = .ok (.astore 5, 2) := by decide +kernel
theorem dL_count_20 : decode cL_count 20 = .ok (.ldc 18, 2) := by decide +kernel
theorem dL_count_22 : decode cL_count 22 = .ok (.ireturn, 1) := by decide +kernel
theorem dL_count_23 : decode cL_count 23 = .ok (.astore 5, 2) := by decide +kernel
theorem dL_count_25 : decode cL_count 25 = .ok (.ldc 21, 2) := by decide +kernel
theorem dL_count_27 : decode cL_count 27 = .ok (.ireturn, 1) := by decide +kernel
theorem dL_count_28 : decode cL_count 28 = .ok (.astore 5, 2) := by decide +kernel
theorem dL_count_30 : decode cL_count 30 = .ok (.ldc 31, 2) := by decide +kernel
theorem dL_count_32 : decode cL_count 32 = .ok (.ireturn, 1) := by decide +kernel
theorem dL_close_0 : decode cL_close 0 = .ok (.aload_n 0, 1) := by decide +kernel
theorem dL_close_1 : decode cL_close 1 = .ok (.iload_n 1, 1) := by decide +kernel
theorem dL_close_2 : decode cL_close 2 = .ok (.invokevirtual 43, 3) := by decide +kernel
theorem dL_close_5 : decode cL_close 5 = .ok (.ireturn, 1) := by decide +kernel
theorem dL_close_6 : decode cL_close 6 = .ok (.astore_n 2, 1) := by decide +kernel
theorem dL_close_7 : decode cL_close 7 = .ok (.ldc 18, 2) := by decide +kernel
theorem dL_close_9 : decode cL_close 9 = .ok (.ireturn, 1) := by decide +kernel
theorem dL_close_10 : decode cL_close 10 = .ok (.astore_n 2, 1) := by decide +kernel
theorem dL_close_11 : decode cL_close 11 = .ok (.ldc 31, 2) := by decide +kernel
theorem dL_close_13 : decode cL_close 13 = .ok (.ireturn, 1) := by decide +kernel
theorem dL_sign_0 : decode cL_sign 0 = .ok (.aload_n 0, 1) := by decide +kernel
theorem dL_sign_1 : decode cL_sign 1 = .ok (.iload_n 1, 1) := by decide +kernel
theorem dL_sign_2 : decode cL_sign 2 = .ok (.iload_n 2, 1) := by decide +kernel
theorem dL_sign_3 : decode cL_sign 3 = .ok (.iload_n 3, 1) := by decide +kernel
theorem dL_sign_4 : decode cL_sign 4 = .ok (.invokevirtual 46, 3) := by decide +kernel
theorem dL_sign_7 : decode cL_sign 7 = .ok (.ireturn, 1) := by decide +kernel
theorem dL_sign_8 : decode cL_sign 8 = .ok (.astore 4, 2) := by decide +kernel
theorem dL_sign_10 : decode cL_sign 10 = .ok (.ldc 18, 2) := by decide +kernel
theorem dL_sign_12 : decode cL_sign 12 = .ok (.ireturn, 1) := by decide +kernel
theorem dL_sign_13 : decode cL_sign 13 = .ok (.astore 4, 2) := by decide +kernel
theorem dL_sign_15 : decode cL_sign 15 = .ok (.ldc 21, 2) := by decide +kernel
theorem dL_sign_17 : decode cL_sign 17 = .ok (.ireturn, 1) := by decide +kernel
theorem dL_sign_18 : decode cL_sign 18 = .ok (.astore 4, 2) := by decide +kernel
theorem dL_sign_20 : decode cL_sign 20 = .ok (.ldc 31, 2) := by decide +kernel
theorem dL_sign_22 : decode cL_sign 22 = .ok (.ireturn, 1) := by decide +kernel
theorem dL_settle_0 : decode cL_settle 0 = .ok (.aload_n 0, 1) := by decide +kernel
theorem dL_settle_1 : decode cL_settle 1 = .ok (.iload_n 1, 1) := by decide +kernel
theorem dL_settle_2 : decode cL_settle 2 = .ok (.iload_n 2, 1) := by decide +kernel
theorem dL_settle_3 : decode cL_settle 3 = .ok (.iload_n 3, 1) := by decide +kernel
theorem dL_settle_4 : decode cL_settle 4 = .ok (.invokevirtual 52, 3) := by decide +kernel
theorem dL_settle_7 : decode cL_settle 7 = .ok (.ireturn, 1) := by decide +kernel
theorem dL_settle_8 : decode cL_settle 8 = .ok (.astore 4, 2) := by decide +kernel
theorem dL_settle_10 : decode cL_settle 10 = .ok (.ldc 18, 2) := by decide +kernel
theorem dL_settle_12 : decode cL_settle 12 = .ok (.ireturn, 1) := by decide +kernel
theorem dL_settle_13 : decode cL_settle 13 = .ok (.astore 4, 2) := by decide +kernel
theorem dL_settle_15 : decode cL_settle 15 = .ok (.ldc 21, 2) := by decide +kernel
theorem dL_settle_17 : decode cL_settle 17 = .ok (.ireturn, 1) := by decide +kernel
theorem dL_settle_18 : decode cL_settle 18 = .ok (.astore 4, 2) := by decide +kernel
theorem dL_settle_20 : decode cL_settle 20 = .ok (.ldc 31, 2) := by decide +kernel
theorem dL_settle_22 : decode cL_settle 22 = .ok (.ireturn, 1) := by decide +kernel
theorem dL_book_0 : decode cL_book 0 = .ok (.aload_n 0, 1) := by decide +kernel
theorem dL_book_1 : decode cL_book 1 = .ok (.iload_n 1, 1) := by decide +kernel
theorem dL_book_2 : decode cL_book 2 = .ok (.iload_n 2, 1) := by decide +kernel
theorem dL_book_3 : decode cL_book 3 = .ok (.invokevirtual 55, 3) := by decide +kernel
theorem dL_book_6 : decode cL_book 6 = .ok (.ireturn, 1) := by decide +kernel
theorem dL_book_7 : decode cL_book 7 = .ok (.astore_n 3, 1) := by decide +kernel
theorem dL_book_8 : decode cL_book 8 = .ok (.ldc 18, 2) := by decide +kernel
theorem dL_book_10 : decode cL_book 10 = .ok (.ireturn, 1) := by decide +kernel
theorem dL_bookAt_0 : decode cL_bookAt 0 = .ok (.aload_n 0, 1) := by decide +kernel
theorem dL_bookAt_1 : decode cL_bookAt 1 = .ok (.iload_n 1, 1) := by decide +kernel
theorem dL_bookAt_2 : decode cL_bookAt 2 = .ok (.iload_n 2, 1) := by decide +kernel
theorem dL_bookAt_3 : decode cL_bookAt 3 = .ok (.iload_n 3, 1) := by decide +kernel
theorem dL_bookAt_4 : decode cL_bookAt 4 = .ok (.invokevirtual 58, 3) := by decide +kernel
theorem dL_bookAt_7 : decode cL_bookAt 7 = .ok (.ireturn, 1) := by decide +kernel
theorem dL_bookAt_8 : decode cL_bookAt 8 = .ok (.astore 4, 2) := by decide +kernel
theorem dL_bookAt_10 : decode cL_bookAt 10 = .ok (.ldc 18, 2) := by decide +kernel
theorem dL_bookAt_12 : decode cL_bookAt 12 = .ok (.ireturn, 1) := by decide +kernel
theorem dL_bookAt_13 : decode cL_bookAt 13 = .ok (.astore 4, 2) := by decide +kernel
theorem dL_bookAt_15 : decode cL_bookAt 15 = .ok (.ldc 21, 2) := by decide +kernel
theorem dL_bookAt_17 : decode cL_bookAt 17 = .ok (.ireturn, 1) := by decide +kernel
theorem dL_worth_0 : decode cL_worth 0 = .ok (.aload_n 0, 1) := by decide +kernel
theorem dL_worth_1 : decode cL_worth 1 = .ok (.iload_n 1, 1) := by decide +kernel
theorem dL_worth_2 : decode cL_worth 2 = .ok (.invokevirtual 61, 3) := by decide +kernel
theorem dL_worth_5 : decode cL_worth 5 = .ok (.ireturn, 1) := by decide +kernel
theorem dL_worth_6 : decode cL_worth 6 = .ok (.astore_n 2, 1) := by decide +kernel
theorem dL_worth_7 : decode cL_worth 7 = .ok (.ldc 18, 2) := by decide +kernel
theorem dL_worth_9 : decode cL_worth 9 = .ok (.ireturn, 1) := by decide +kernel
theorem dL_stateOf_0 : decode cL_stateOf 0 = .ok (.aload_n 0, 1) := by decide +kernel
theorem dL_stateOf_1 : decode cL_stateOf 1 = .ok (.iload_n 1, 1) := by decide +kernel
theorem dL_stateOf_2 : decode cL_stateOf 2 = .ok (.invokevirtual 64, 3) := by decide +kernel
theorem dL_stateOf_5 : decode cL_stateOf 5 = .ok (.ireturn, 1) := by decide +kernel
theorem dL_stateOf_6 : decode cL_stateOf 6 = .ok (.astore_n 2, 1) := by decide +kernel
theorem dL_stateOf_7 : decode cL_stateOf 7 = .ok (.ldc 18, 2) := by decide +kernel
theorem dL_stateOf_9 : decode cL_stateOf 9 = .ok (.ireturn, 1) := by decide +kernel
theorem dL_cutOf_0 : decode cL_cutOf 0 = .ok (.aload_n 0, 1) := by decide +kernel
theorem dL_cutOf_1 : decode cL_cutOf 1 = .ok (.iload_n 1, 1) := by decide +kernel
theorem dL_cutOf_2 : decode cL_cutOf 2 = .ok (.invokevirtual 67, 3) := by decide +kernel
theorem dL_cutOf_5 : decode cL_cutOf 5 = .ok (.ireturn, 1) := by decide +kernel
theorem dL_cutOf_6 : decode cL_cutOf 6 = .ok (.astore_n 2, 1) := by decide +kernel
theorem dL_cutOf_7 : decode cL_cutOf 7 = .ok (.ldc 18, 2) := by decide +kernel
theorem dL_cutOf_9 : decode cL_cutOf 9 = .ok (.ireturn, 1) := by decide +kernel
theorem dL_counts_0 : decode cL_counts 0 = .ok (.aload_n 0, 1) := by decide +kernel
theorem dL_counts_1 : decode cL_counts 1 = .ok (.iload_n 1, 1) := by decide +kernel
theorem dL_counts_2 : decode cL_counts 2 = .ok (.iload_n 2, 1) := by decide +kernel
theorem dL_counts_3 : decode cL_counts 3 = .ok (.invokevirtual 70, 3) := by decide +kernel
theorem dL_counts_6 : decode cL_counts 6 = .ok (.ireturn, 1) := by decide +kernel
theorem dL_counts_7 : decode cL_counts 7 = .ok (.astore_n 3, 1) := by decide +kernel
theorem dL_counts_8 : decode cL_counts 8 = .ok (.ldc 18, 2) := by decide +kernel
theorem dL_counts_10 : decode cL_counts 10 = .ok (.ireturn, 1) := by decide +kernel
theorem dL_agreed_0 : decode cL_agreed 0 = .ok (.aload_n 0, 1) := by decide +kernel
theorem dL_agreed_1 : decode cL_agreed 1 = .ok (.iload_n 1, 1) := by decide +kernel
theorem dL_agreed_2 : decode cL_agreed 2 = .ok (.iload_n 2, 1) := by decide +kernel
theorem dL_agreed_3 : decode cL_agreed 3 = .ok (.invokevirtual 73, 3) := by decide +kernel
theorem dL_agreed_6 : decode cL_agreed 6 = .ok (.ireturn, 1) := by decide +kernel
theorem dL_agreed_7 : decode cL_agreed 7 = .ok (.astore_n 3, 1) := by decide +kernel
theorem dL_agreed_8 : decode cL_agreed 8 = .ok (.ldc 18, 2) := by decide +kernel
theorem dL_agreed_10 : decode cL_agreed 10 = .ok (.ireturn, 1) := by decide +kernel
theorem dL_gap_0 : decode cL_gap 0 = .ok (.aload_n 0, 1) := by decide +kernel
theorem dL_gap_1 : decode cL_gap 1 = .ok (.iload_n 1, 1) := by decide +kernel
theorem dL_gap_2 : decode cL_gap 2 = .ok (.iload_n 2, 1) := by decide +kernel
theorem dL_gap_3 : decode cL_gap 3 = .ok (.invokevirtual 76, 3) := by decide +kernel
theorem dL_gap_6 : decode cL_gap 6 = .ok (.ireturn, 1) := by decide +kernel
theorem dL_gap_7 : decode cL_gap 7 = .ok (.astore_n 3, 1) := by decide +kernel
theorem dL_gap_8 : decode cL_gap 8 = .ok (.ldc 18, 2) := by decide +kernel
theorem dL_gap_10 : decode cL_gap 10 = .ok (.ireturn, 1) := by decide +kernel
theorem dL_gap_11 : decode cL_gap 11 = .ok (.astore_n 3, 1) := by decide +kernel
theorem dL_gap_12 : decode cL_gap 12 = .ok (.ldc 21, 2) := by decide +kernel
theorem dL_gap_14 : decode cL_gap 14 = .ok (.ireturn, 1) := by decide +kernel
theorem dL_isSigned_0 : decode cL_isSigned 0 = .ok (.aload_n 0, 1) := by decide +kernel
theorem dL_isSigned_1 : decode cL_isSigned 1 = .ok (.iload_n 1, 1) := by decide +kernel
theorem dL_isSigned_2 : decode cL_isSigned 2 = .ok (.iload_n 2, 1) := by decide +kernel
theorem dL_isSigned_3 : decode cL_isSigned 3 = .ok (.invokevirtual 79, 3) := by decide +kernel
theorem dL_isSigned_6 : decode cL_isSigned 6 = .ok (.ifCond .eq 7, 3) := by decide +kernel
theorem dL_isSigned_9 : decode cL_isSigned 9 = .ok (.iconst 1, 1) := by decide +kernel
theorem dL_isSigned_10 : decode cL_isSigned 10 = .ok (.goto 4, 3) := by decide +kernel
theorem dL_isSigned_13 : decode cL_isSigned 13 = .ok (.iconst 0, 1) := by decide +kernel
theorem dL_isSigned_14 : decode cL_isSigned 14 = .ok (.ireturn, 1) := by decide +kernel
theorem dL_isSigned_15 : decode cL_isSigned 15 = .ok (.astore_n 3, 1) := by decide +kernel
theorem dL_isSigned_16 : decode cL_isSigned 16 = .ok (.ldc 18, 2) := by decide +kernel
theorem dL_isSigned_18 : decode cL_isSigned 18 = .ok (.ireturn, 1) := by decide +kernel
theorem dL_likely_0 : decode cL_likely 0 = .ok (.aload_n 0, 1) := by decide +kernel
theorem dL_likely_1 : decode cL_likely 1 = .ok (.iload_n 1, 1) := by decide +kernel
theorem dL_likely_2 : decode cL_likely 2 = .ok (.iload_n 2, 1) := by decide +kernel
theorem dL_likely_3 : decode cL_likely 3 = .ok (.invokevirtual 83, 3) := by decide +kernel
theorem dL_likely_6 : decode cL_likely 6 = .ok (.ireturn, 1) := by decide +kernel
theorem dL_likely_7 : decode cL_likely 7 = .ok (.astore_n 3, 1) := by decide +kernel
theorem dL_likely_8 : decode cL_likely 8 = .ok (.ldc 18, 2) := by decide +kernel
theorem dL_likely_10 : decode cL_likely 10 = .ok (.ireturn, 1) := by decide +kernel
theorem dL_exact_0 : decode cL_exact 0 = .ok (.aload_n 0, 1) := by decide +kernel
theorem dL_exact_1 : decode cL_exact 1 = .ok (.iload_n 1, 1) := by decide +kernel
theorem dL_exact_2 : decode cL_exact 2 = .ok (.invokevirtual 86, 3) := by decide +kernel
theorem dL_exact_5 : decode cL_exact 5 = .ok (.ireturn, 1) := by decide +kernel
theorem dL_exact_6 : decode cL_exact 6 = .ok (.astore_n 2, 1) := by decide +kernel
theorem dL_exact_7 : decode cL_exact 7 = .ok (.ldc 18, 2) := by decide +kernel
theorem dL_exact_9 : decode cL_exact 9 = .ok (.ireturn, 1) := by decide +kernel
theorem dL_size_0 : decode cL_size 0 = .ok (.iload_n 0, 1) := by decide +kernel
theorem dL_size_1 : decode cL_size 1 = .ok (.ifCond .ge 8, 3) := by decide +kernel
theorem dL_size_4 : decode cL_size 4 = .ok (.iload_n 0, 1) := by decide +kernel
theorem dL_size_5 : decode cL_size 5 = .ok (.ineg, 1) := by decide +kernel
theorem dL_size_6 : decode cL_size 6 = .ok (.goto 4, 3) := by decide +kernel
theorem dL_size_9 : decode cL_size 9 = .ok (.iload_n 0, 1) := by decide +kernel
theorem dL_size_10 : decode cL_size 10 = .ok (.ireturn, 1) := by decide +kernel
theorem dL_print_0 : decode cL_print 0 = .ok (.aload_n 0, 1) := by decide +kernel
theorem dL_print_1 : decode cL_print 1 = .ok (.invokevirtual 89, 3) := by decide +kernel
theorem dL_print_4 : decode cL_print 4 = .ok (.i2l, 1) := by decide +kernel
theorem dL_print_5 : decode cL_print 5 = .ok (.lstore_n 1, 1) := by decide +kernel
theorem dL_print_6 : decode cL_print 6 = .ok (.iconst 0, 1) := by decide +kernel
theorem dL_print_7 : decode cL_print 7 = .ok (.istore_n 3, 1) := by decide +kernel
theorem dL_print_8 : decode cL_print 8 = .ok (.iload_n 3, 1) := by decide +kernel
theorem dL_print_9 : decode cL_print 9 = .ok (.bipush 60, 2) := by decide +kernel
theorem dL_print_11 : decode cL_print 11 = .ok (.if_icmp .ge 27, 3) := by decide +kernel
theorem dL_print_14 : decode cL_print 14 = .ok (.ldc2_w 93, 3) := by decide +kernel
theorem dL_print_17 : decode cL_print 17 = .ok (.lload_n 1, 1) := by decide +kernel
theorem dL_print_18 : decode cL_print 18 = .ok (.lmul, 1) := by decide +kernel
theorem dL_print_19 : decode cL_print 19 = .ok (.aload_n 0, 1) := by decide +kernel
theorem dL_print_20 : decode cL_print 20 = .ok (.iload_n 3, 1) := by decide +kernel
theorem dL_print_21 : decode cL_print 21 = .ok (.iconst 5, 1) := by decide +kernel
theorem dL_print_22 : decode cL_print 22 = .ok (.idiv, 1) := by decide +kernel
theorem dL_print_23 : decode cL_print 23 = .ok (.iload_n 3, 1) := by decide +kernel
theorem dL_print_24 : decode cL_print 24 = .ok (.iconst 5, 1) := by decide +kernel
theorem dL_print_25 : decode cL_print 25 = .ok (.irem, 1) := by decide +kernel
theorem dL_print_26 : decode cL_print 26 = .ok (.invokestatic 95, 3) := by decide +kernel
theorem dL_print_29 : decode cL_print 29 = .ok (.i2l, 1) := by decide +kernel
theorem dL_print_30 : decode cL_print 30 = .ok (.ladd, 1) := by decide +kernel
theorem dL_print_31 : decode cL_print 31 = .ok (.lstore_n 1, 1) := by decide +kernel
theorem dL_print_32 : decode cL_print 32 = .ok (.iinc 3 1, 3) := by decide +kernel
theorem dL_print_35 : decode cL_print 35 = .ok (.goto (-27), 3) := by decide +kernel
theorem dL_print_38 : decode cL_print 38 = .ok (.lload_n 1, 1) := by decide +kernel
theorem dL_print_39 : decode cL_print 39 = .ok (.lreturn, 1) := by decide +kernel
theorem dL_places_0 : decode cL_places 0 = .ok (.iconst (-1), 1) := by decide +kernel
theorem dL_places_1 : decode cL_places 1 = .ok (.istore 4, 2) := by decide +kernel
theorem dL_places_3 : decode cL_places 3 = .ok (.ldc2_w 100, 3) := by decide +kernel
theorem dL_places_6 : decode cL_places 6 = .ok (.lstore 5, 2) := by decide +kernel
theorem dL_places_8 : decode cL_places 8 = .ok (.iconst 0, 1) := by decide +kernel
theorem dL_places_9 : decode cL_places 9 = .ok (.istore 7, 2) := by decide +kernel
theorem dL_places_11 : decode cL_places 11 = .ok (.iload 7, 2) := by decide +kernel
theorem dL_places_13 : decode cL_places 13 = .ok (.bipush 12, 2) := by decide +kernel
theorem dL_places_15 : decode cL_places 15 = .ok (.if_icmp .ge 200, 3) := by decide +kernel
theorem dL_places_18 : decode cL_places 18 = .ok (.iconst 0, 1) := by decide +kernel
theorem dL_places_19 : decode cL_places 19 = .ok (.istore 8, 2) := by decide +kernel
theorem dL_places_21 : decode cL_places 21 = .ok (.iconst 0, 1) := by decide +kernel
theorem dL_places_22 : decode cL_places 22 = .ok (.istore 9, 2) := by decide +kernel
theorem dL_places_24 : decode cL_places 24 = .ok (.iload 9, 2) := by decide +kernel
theorem dL_places_26 : decode cL_places 26 = .ok (.iconst 5, 1) := by decide +kernel
theorem dL_places_27 : decode cL_places 27 = .ok (.if_icmp .ge 58, 3) := by decide +kernel
theorem dL_places_30 : decode cL_places 30 = .ok (.aload_n 0, 1) := by decide +kernel
theorem dL_places_31 : decode cL_places 31 = .ok (.iload 7, 2) := by decide +kernel
theorem dL_places_33 : decode cL_places 33 = .ok (.iload 9, 2) := by decide +kernel
theorem dL_places_35 : decode cL_places 35 = .ok (.invokestatic 95, 3) := by decide +kernel
theorem dL_places_38 : decode cL_places 38 = .ok (.istore 10, 2) := by decide +kernel
theorem dL_places_40 : decode cL_places 40 = .ok (.iload 8, 2) := by decide +kernel
theorem dL_places_42 : decode cL_places 42 = .ok (.iload 10, 2) := by decide +kernel
theorem dL_places_44 : decode cL_places 44 = .ok (.ifCond .le 13, 3) := by decide +kernel
theorem dL_places_47 : decode cL_places 47 = .ok (.iload 10, 2) := by decide +kernel
theorem dL_places_49 : decode cL_places 49 = .ok (.aload_n 1, 1) := by decide +kernel
theorem dL_places_50 : decode cL_places 50 = .ok (.iload 9, 2) := by decide +kernel
theorem dL_places_52 : decode cL_places 52 = .ok (.iaload, 1) := by decide +kernel
theorem dL_places_53 : decode cL_places 53 = .ok (.imul, 1) := by decide +kernel
theorem dL_places_54 : decode cL_places 54 = .ok (.goto 4, 3) := by decide +kernel
theorem dL_places_57 : decode cL_places 57 = .ok (.iconst 0, 1) := by decide +kernel
theorem dL_places_58 : decode cL_places 58 = .ok (.iadd, 1) := by decide +kernel
theorem dL_places_59 : decode cL_places 59 = .ok (.istore 8, 2) := by decide +kernel
theorem dL_places_61 : decode cL_places 61 = .ok (.aload_n 0, 1) := by decide +kernel
theorem dL_places_62 : decode cL_places 62 = .ok (.iload 7, 2) := by decide +kernel
theorem dL_places_64 : decode cL_places 64 = .ok (.iload 9, 2) := by decide +kernel
theorem dL_places_66 : decode cL_places 66 = .ok (.aload_n 3, 1) := by decide +kernel
theorem dL_places_67 : decode cL_places 67 = .ok (.iconst 0, 1) := by decide +kernel
theorem dL_places_68 : decode cL_places 68 = .ok (.iaload, 1) := by decide +kernel
theorem dL_places_69 : decode cL_places 69 = .ok (.invokestatic 102, 3) := by decide +kernel
theorem dL_places_72 : decode cL_places 72 = .ok (.iload 10, 2) := by decide +kernel
theorem dL_places_74 : decode cL_places 74 = .ok (.if_icmp .eq 5, 3) := by decide +kernel
theorem dL_places_77 : decode cL_places 77 = .ok (.iconst 0, 1) := by decide +kernel
theorem dL_places_78 : decode cL_places 78 = .ok (.ireturn, 1) := by decide +kernel
theorem dL_places_79 : decode cL_places 79 = .ok (.iinc 9 1, 3) := by decide +kernel
theorem dL_places_82 : decode cL_places 82 = .ok (.goto (-58), 3) := by decide +kernel
theorem dL_places_85 : decode cL_places 85 = .ok (.iconst (-1), 1) := by decide +kernel
theorem dL_places_86 : decode cL_places 86 = .ok (.istore 9, 2) := by decide +kernel
theorem dL_places_88 : decode cL_places 88 = .ok (.iconst 0, 1) := by decide +kernel
theorem dL_places_89 : decode cL_places 89 = .ok (.istore 10, 2) := by decide +kernel
theorem dL_places_91 : decode cL_places 91 = .ok (.iconst 0, 1) := by decide +kernel
theorem dL_places_92 : decode cL_places 92 = .ok (.istore 11, 2) := by decide +kernel
theorem dL_places_94 : decode cL_places 94 = .ok (.iload 11, 2) := by decide +kernel
theorem dL_places_96 : decode cL_places 96 = .ok (.aload_n 3, 1) := by decide +kernel
theorem dL_places_97 : decode cL_places 97 = .ok (.iconst 2, 1) := by decide +kernel
theorem dL_places_98 : decode cL_places 98 = .ok (.iaload, 1) := by decide +kernel
theorem dL_places_99 : decode cL_places 99 = .ok (.if_icmp .ge 61, 3) := by decide +kernel
theorem dL_places_102 : decode cL_places 102 = .ok (.aload_n 2, 1) := by decide +kernel
theorem dL_places_103 : decode cL_places 103 = .ok (.iload 11, 2) := by decide +kernel
theorem dL_places_105 : decode cL_places 105 = .ok (.iaload, 1) := by decide +kernel
theorem dL_places_106 : decode cL_places 106 = .ok (.iload 7, 2) := by decide +kernel
theorem dL_places_108 : decode cL_places 108 = .ok (.if_icmp .ne 12, 3) := by decide +kernel
theorem dL_places_111 : decode cL_places 111 = .ok (.aload_n 0, 1) := by decide +kernel
theorem dL_places_112 : decode cL_places 112 = .ok (.iload 11, 2) := by decide +kernel
theorem dL_places_114 : decode cL_places 114 = .ok (.invokestatic 105, 3) := by decide +kernel
theorem dL_places_117 : decode cL_places 117 = .ok (.goto 5, 3) := by decide +kernel
theorem dL_places_120 : decode cL_places 120 = .ok (.iload 9, 2) := by decide +kernel
theorem dL_places_122 : decode cL_places 122 = .ok (.istore 9, 2) := by decide +kernel
theorem dL_places_124 : decode cL_places 124 = .ok (.iload 10, 2) := by decide +kernel
theorem dL_places_126 : decode cL_places 126 = .ok (.ifCond .ne 21, 3) := by decide +kernel
theorem dL_places_129 : decode cL_places 129 = .ok (.aload_n 2, 1) := by decide +kernel
theorem dL_places_130 : decode cL_places 130 = .ok (.iload 11, 2) := by decide +kernel
theorem dL_places_132 : decode cL_places 132 = .ok (.iaload, 1) := by decide +kernel
theorem dL_places_133 : decode cL_places 133 = .ok (.iload 7, 2) := by decide +kernel
theorem dL_places_135 : decode cL_places 135 = .ok (.if_icmp .ne 16, 3) := by decide +kernel
theorem dL_places_138 : decode cL_places 138 = .ok (.aload_n 0, 1) := by decide +kernel
theorem dL_places_139 : decode cL_places 139 = .ok (.iload 11, 2) := by decide +kernel
theorem dL_places_141 : decode cL_places 141 = .ok (.invokestatic 108, 3) := by decide +kernel
theorem dL_places_144 : decode cL_places 144 = .ok (.ifCond .ne 7, 3) := by decide +kernel
theorem dL_places_147 : decode cL_places 147 = .ok (.iconst 1, 1) := by decide +kernel
theorem dL_places_148 : decode cL_places 148 = .ok (.goto 4, 3) := by decide +kernel
theorem dL_places_151 : decode cL_places 151 = .ok (.iconst 0, 1) := by decide +kernel
theorem dL_places_152 : decode cL_places 152 = .ok (.istore 10, 2) := by decide +kernel
theorem dL_places_154 : decode cL_places 154 = .ok (.iinc 11 1, 3) := by decide +kernel
theorem dL_places_157 : decode cL_places 157 = .ok (.goto (-63), 3) := by decide +kernel
theorem dL_places_160 : decode cL_places 160 = .ok (.lconst 1, 1) := by decide +kernel
theorem dL_places_161 : decode cL_places 161 = .ok (.iload 8, 2) := by decide +kernel
theorem dL_places_163 : decode cL_places 163 = .ok (.i2l, 1) := by decide +kernel
theorem dL_places_164 : decode cL_places 164 = .ok (.ladd, 1) := by decide +kernel
theorem dL_places_165 : decode cL_places 165 = .ok (.aload_n 3, 1) := by decide +kernel
theorem dL_places_166 : decode cL_places 166 = .ok (.iconst 0, 1) := by decide +kernel
theorem dL_places_167 : decode cL_places 167 = .ok (.iaload, 1) := by decide +kernel
theorem dL_places_168 : decode cL_places 168 = .ok (.iload 9, 2) := by decide +kernel
theorem dL_places_170 : decode cL_places 170 = .ok (.isub, 1) := by decide +kernel
theorem dL_places_171 : decode cL_places 171 = .ok (.i2l, 1) := by decide +kernel
theorem dL_places_172 : decode cL_places 172 = .ok (.lmul, 1) := by decide +kernel
theorem dL_places_173 : decode cL_places 173 = .ok (.lstore 11, 2) := by decide +kernel
theorem dL_places_175 : decode cL_places 175 = .ok (.aload_n 0, 1) := by decide +kernel
theorem dL_places_176 : decode cL_places 176 = .ok (.iload 7, 2) := by decide +kernel
theorem dL_places_178 : decode cL_places 178 = .ok (.invokestatic 110, 3) := by decide +kernel
theorem dL_places_181 : decode cL_places 181 = .ok (.iload 8, 2) := by decide +kernel
theorem dL_places_183 : decode cL_places 183 = .ok (.if_icmp .eq 5, 3) := by decide +kernel
theorem dL_places_186 : decode cL_places 186 = .ok (.iconst 0, 1) := by decide +kernel
theorem dL_places_187 : decode cL_places 187 = .ok (.ireturn, 1) := by decide +kernel
theorem dL_places_188 : decode cL_places 188 = .ok (.iload 10, 2) := by decide +kernel
theorem dL_places_190 : decode cL_places 190 = .ok (.ifCond .ne 19, 3) := by decide +kernel
theorem dL_places_193 : decode cL_places 193 = .ok (.lload 11, 2) := by decide +kernel
theorem dL_places_195 : decode cL_places 195 = .ok (.lload 5, 2) := by decide +kernel
theorem dL_places_197 : decode cL_places 197 = .ok (.lcmp, 1) := by decide +kernel
theorem dL_places_198 : decode cL_places 198 = .ok (.ifCond .le 11, 3) := by decide +kernel
theorem dL_places_201 : decode cL_places 201 = .ok (.lload 11, 2) := by decide +kernel
theorem dL_places_203 : decode cL_places 203 = .ok (.lstore 5, 2) := by decide +kernel
theorem dL_places_205 : decode cL_places 205 = .ok (.iload 7, 2) := by decide +kernel
theorem dL_places_207 : decode cL_places 207 = .ok (.istore 4, 2) := by decide +kernel
theorem dL_places_209 : decode cL_places 209 = .ok (.iinc 7 1, 3) := by decide +kernel
theorem dL_places_212 : decode cL_places 212 = .ok (.goto (-201), 3) := by decide +kernel
theorem dL_places_215 : decode cL_places 215 = .ok (.aload_n 0, 1) := by decide +kernel
theorem dL_places_216 : decode cL_places 216 = .ok (.invokevirtual 112, 3) := by decide +kernel
theorem dL_places_219 : decode cL_places 219 = .ok (.iload 4, 2) := by decide +kernel
theorem dL_places_221 : decode cL_places 221 = .ok (.if_icmp .ne 87, 3) := by decide +kernel
theorem dL_places_224 : decode cL_places 224 = .ok (.aload_n 0, 1) := by decide +kernel
theorem dL_places_225 : decode cL_places 225 = .ok (.invokevirtual 89, 3) := by decide +kernel
theorem dL_places_228 : decode cL_places 228 = .ok (.aload_n 3, 1) := by decide +kernel
theorem dL_places_229 : decode cL_places 229 = .ok (.iconst 0, 1) := by decide +kernel
theorem dL_places_230 : decode cL_places 230 = .ok (.iaload, 1) := by decide +kernel
theorem dL_places_231 : decode cL_places 231 = .ok (.if_icmp .ne 77, 3) := by decide +kernel
theorem dL_places_234 : decode cL_places 234 = .ok (.aload_n 0, 1) := by decide +kernel
theorem dL_places_235 : decode cL_places 235 = .ok (.invokevirtual 115, 3) := by decide +kernel
theorem dL_places_238 : decode cL_places 238 = .ok (.aload_n 3, 1) := by decide +kernel
theorem dL_places_239 : decode cL_places 239 = .ok (.iconst 1, 1) := by decide +kernel
theorem dL_places_240 : decode cL_places 240 = .ok (.iaload, 1) := by decide +kernel
theorem dL_places_241 : decode cL_places 241 = .ok (.if_icmp .ne 67, 3) := by decide +kernel
theorem dL_places_244 : decode cL_places 244 = .ok (.aload_n 0, 1) := by decide +kernel
theorem dL_places_245 : decode cL_places 245 = .ok (.invokevirtual 118, 3) := by decide +kernel
theorem dL_places_248 : decode cL_places 248 = .ok (.aload_n 3, 1) := by decide +kernel
theorem dL_places_249 : decode cL_places 249 = .ok (.iconst 2, 1) := by decide +kernel
theorem dL_places_250 : decode cL_places 250 = .ok (.iaload, 1) := by decide +kernel
theorem dL_places_251 : decode cL_places 251 = .ok (.if_icmp .ne 57, 3) := by decide +kernel
theorem dL_places_254 : decode cL_places 254 = .ok (.aload_n 0, 1) := by decide +kernel
theorem dL_places_255 : decode cL_places 255 = .ok (.bipush 12, 2) := by decide +kernel
theorem dL_places_257 : decode cL_places 257 = .ok (.invokestatic 110, 3) := by decide +kernel
theorem dL_places_260 : decode cL_places 260 = .ok (.ldc 18, 2) := by decide +kernel
theorem dL_places_262 : decode cL_places 262 = .ok (.if_icmp .ne 46, 3) := by decide +kernel
theorem dL_places_265 : decode cL_places 265 = .ok (.aload_n 0, 1) := by decide +kernel
theorem dL_places_266 : decode cL_places 266 = .ok (.iconst 0, 1) := by decide +kernel
theorem dL_places_267 : decode cL_places 267 = .ok (.iconst 5, 1) := by decide +kernel
theorem dL_places_268 : decode cL_places 268 = .ok (.invokestatic 95, 3) := by decide +kernel
theorem dL_places_271 : decode cL_places 271 = .ok (.ldc 18, 2) := by decide +kernel
theorem dL_places_273 : decode cL_places 273 = .ok (.if_icmp .ne 35, 3) := by decide +kernel
theorem dL_places_276 : decode cL_places 276 = .ok (.aload_n 0, 1) := by decide +kernel
theorem dL_places_277 : decode cL_places 277 = .ok (.iconst 0, 1) := by decide +kernel
theorem dL_places_278 : decode cL_places 278 = .ok (.iconst 0, 1) := by decide +kernel
theorem dL_places_279 : decode cL_places 279 = .ok (.iconst (-1), 1) := by decide +kernel
theorem dL_places_280 : decode cL_places 280 = .ok (.invokestatic 102, 3) := by decide +kernel
theorem dL_places_283 : decode cL_places 283 = .ok (.ldc 21, 2) := by decide +kernel
theorem dL_places_285 : decode cL_places 285 = .ok (.if_icmp .ne 23, 3) := by decide +kernel
theorem dL_places_288 : decode cL_places 288 = .ok (.aload_n 0, 1) := by decide +kernel
theorem dL_places_289 : decode cL_places 289 = .ok (.iconst 0, 1) := by decide +kernel
theorem dL_places_290 : decode cL_places 290 = .ok (.iconst 0, 1) := by decide +kernel
theorem dL_places_291 : decode cL_places 291 = .ok (.aload_n 3, 1) := by decide +kernel
theorem dL_places_292 : decode cL_places 292 = .ok (.iconst 0, 1) := by decide +kernel
theorem dL_places_293 : decode cL_places 293 = .ok (.iaload, 1) := by decide +kernel
theorem dL_places_294 : decode cL_places 294 = .ok (.iconst 1, 1) := by decide +kernel
theorem dL_places_295 : decode cL_places 295 = .ok (.iadd, 1) := by decide +kernel
theorem dL_places_296 : decode cL_places 296 = .ok (.invokestatic 102, 3) := by decide +kernel
theorem dL_places_299 : decode cL_places 299 = .ok (.ldc 21, 2) := by decide +kernel
theorem dL_places_301 : decode cL_places 301 = .ok (.if_icmp .ne 7, 3) := by decide +kernel
theorem dL_places_304 : decode cL_places 304 = .ok (.iconst 1, 1) := by decide +kernel
theorem dL_places_305 : decode cL_places 305 = .ok (.goto 4, 3) := by decide +kernel
theorem dL_places_308 : decode cL_places 308 = .ok (.iconst 0, 1) := by decide +kernel
theorem dL_places_309 : decode cL_places 309 = .ok (.ireturn, 1) := by decide +kernel
theorem dL_sheet_0 : decode cL_sheet 0 = .ok (.iconst 0, 1) := by decide +kernel
theorem dL_sheet_1 : decode cL_sheet 1 = .ok (.istore 5, 2) := by decide +kernel
theorem dL_sheet_3 : decode cL_sheet 3 = .ok (.iload 5, 2) := by decide +kernel
theorem dL_sheet_5 : decode cL_sheet 5 = .ok (.iconst 5, 1) := by decide +kernel
theorem dL_sheet_6 : decode cL_sheet 6 = .ok (.if_icmp .ge 280, 3) := by decide +kernel
theorem dL_sheet_9 : decode cL_sheet 9 = .ok (.aload_n 0, 1) := by decide +kernel
theorem dL_sheet_10 : decode cL_sheet 10 = .ok (.iload 4, 2) := by decide +kernel
theorem dL_sheet_12 : decode cL_sheet 12 = .ok (.iload 5, 2) := by decide +kernel
theorem dL_sheet_14 : decode cL_sheet 14 = .ok (.invokestatic 121, 3) := by decide +kernel
theorem dL_sheet_17 : decode cL_sheet 17 = .ok (.istore 6, 2) := by decide +kernel
theorem dL_sheet_19 : decode cL_sheet 19 = .ok (.aload_n 0, 1) := by decide +kernel
theorem dL_sheet_20 : decode cL_sheet 20 = .ok (.iload 4, 2) := by decide +kernel
theorem dL_sheet_22 : decode cL_sheet 22 = .ok (.iload 5, 2) := by decide +kernel
theorem dL_sheet_24 : decode cL_sheet 24 = .ok (.invokestatic 123, 3) := by decide +kernel
theorem dL_sheet_27 : decode cL_sheet 27 = .ok (.istore 7, 2) := by decide +kernel
theorem dL_sheet_29 : decode cL_sheet 29 = .ok (.aload_n 0, 1) := by decide +kernel
theorem dL_sheet_30 : decode cL_sheet 30 = .ok (.iload 4, 2) := by decide +kernel
theorem dL_sheet_32 : decode cL_sheet 32 = .ok (.iload 5, 2) := by decide +kernel
theorem dL_sheet_34 : decode cL_sheet 34 = .ok (.invokestatic 125, 3) := by decide +kernel
theorem dL_sheet_37 : decode cL_sheet 37 = .ok (.istore 8, 2) := by decide +kernel
theorem dL_sheet_39 : decode cL_sheet 39 = .ok (.aload_n 0, 1) := by decide +kernel
theorem dL_sheet_40 : decode cL_sheet 40 = .ok (.iload 4, 2) := by decide +kernel
theorem dL_sheet_42 : decode cL_sheet 42 = .ok (.iload 5, 2) := by decide +kernel
theorem dL_sheet_44 : decode cL_sheet 44 = .ok (.invokestatic 127, 3) := by decide +kernel
theorem dL_sheet_47 : decode cL_sheet 47 = .ok (.istore 9, 2) := by decide +kernel
theorem dL_sheet_49 : decode cL_sheet 49 = .ok (.iload 6, 2) := by decide +kernel
theorem dL_sheet_51 : decode cL_sheet 51 = .ok (.aload_n 2, 1) := by decide +kernel
theorem dL_sheet_52 : decode cL_sheet 52 = .ok (.iconst 5, 1) := by decide +kernel
theorem dL_sheet_53 : decode cL_sheet 53 = .ok (.iload 4, 2) := by decide +kernel
theorem dL_sheet_55 : decode cL_sheet 55 = .ok (.imul, 1) := by decide +kernel
theorem dL_sheet_56 : decode cL_sheet 56 = .ok (.iload 5, 2) := by decide +kernel
theorem dL_sheet_58 : decode cL_sheet 58 = .ok (.iadd, 1) := by decide +kernel
theorem dL_sheet_59 : decode cL_sheet 59 = .ok (.iaload, 1) := by decide +kernel
theorem dL_sheet_60 : decode cL_sheet 60 = .ok (.if_icmp .ne 36, 3) := by decide +kernel
theorem dL_sheet_63 : decode cL_sheet 63 = .ok (.iload 7, 2) := by decide +kernel
theorem dL_sheet_65 : decode cL_sheet 65 = .ok (.ifCond .lt 31, 3) := by decide +kernel
theorem dL_sheet_68 : decode cL_sheet 68 = .ok (.iload 7, 2) := by decide +kernel
theorem dL_sheet_70 : decode cL_sheet 70 = .ok (.iconst 3, 1) := by decide +kernel
theorem dL_sheet_71 : decode cL_sheet 71 = .ok (.if_icmp .gt 25, 3) := by decide +kernel
theorem dL_sheet_74 : decode cL_sheet 74 = .ok (.iload 7, 2) := by decide +kernel
theorem dL_sheet_76 : decode cL_sheet 76 = .ok (.iconst 3, 1) := by decide +kernel
theorem dL_sheet_77 : decode cL_sheet 77 = .ok (.if_icmp .ne 8, 3) := by decide +kernel
theorem dL_sheet_80 : decode cL_sheet 80 = .ok (.iload 6, 2) := by decide +kernel
theorem dL_sheet_82 : decode cL_sheet 82 = .ok (.ifCond .lt 14, 3) := by decide +kernel
theorem dL_sheet_85 : decode cL_sheet 85 = .ok (.iload 7, 2) := by decide +kernel
theorem dL_sheet_87 : decode cL_sheet 87 = .ok (.iconst 2, 1) := by decide +kernel
theorem dL_sheet_88 : decode cL_sheet 88 = .ok (.if_icmp .ge 10, 3) := by decide +kernel
theorem dL_sheet_91 : decode cL_sheet 91 = .ok (.iload 6, 2) := by decide +kernel
theorem dL_sheet_93 : decode cL_sheet 93 = .ok (.ifCond .lt 5, 3) := by decide +kernel
theorem dL_sheet_96 : decode cL_sheet 96 = .ok (.iconst 0, 1) := by decide +kernel
theorem dL_sheet_97 : decode cL_sheet 97 = .ok (.ireturn, 1) := by decide +kernel
theorem dL_sheet_98 : decode cL_sheet 98 = .ok (.aload_n 0, 1) := by decide +kernel
theorem dL_sheet_99 : decode cL_sheet 99 = .ok (.iload 4, 2) := by decide +kernel
theorem dL_sheet_101 : decode cL_sheet 101 = .ok (.iload 5, 2) := by decide +kernel
theorem dL_sheet_103 : decode cL_sheet 103 = .ok (.invokestatic 129, 3) := by decide +kernel
theorem dL_sheet_106 : decode cL_sheet 106 = .ok (.istore 10, 2) := by decide +kernel
theorem dL_sheet_108 : decode cL_sheet 108 = .ok (.iload 6, 2) := by decide +kernel
theorem dL_sheet_110 : decode cL_sheet 110 = .ok (.ifCond .ge 37, 3) := by decide +kernel
theorem dL_sheet_113 : decode cL_sheet 113 = .ok (.iload 10, 2) := by decide +kernel
theorem dL_sheet_115 : decode cL_sheet 115 = .ok (.ldc 21, 2) := by decide +kernel
theorem dL_sheet_117 : decode cL_sheet 117 = .ok (.if_icmp .ne 28, 3) := by decide +kernel
theorem dL_sheet_120 : decode cL_sheet 120 = .ok (.iload 8, 2) := by decide +kernel
theorem dL_sheet_122 : decode cL_sheet 122 = .ok (.ifCond .ne 23, 3) := by decide +kernel
theorem dL_sheet_125 : decode cL_sheet 125 = .ok (.iload 9, 2) := by decide +kernel
theorem dL_sheet_127 : decode cL_sheet 127 = .ok (.iconst (-1), 1) := by decide +kernel
theorem dL_sheet_128 : decode cL_sheet 128 = .ok (.if_icmp .ne 17, 3) := by decide +kernel
theorem dL_sheet_131 : decode cL_sheet 131 = .ok (.aload_n 0, 1) := by decide +kernel
theorem dL_sheet_132 : decode cL_sheet 132 = .ok (.iload 4, 2) := by decide +kernel
theorem dL_sheet_134 : decode cL_sheet 134 = .ok (.iload 5, 2) := by decide +kernel
theorem dL_sheet_136 : decode cL_sheet 136 = .ok (.iconst 0, 1) := by decide +kernel
theorem dL_sheet_137 : decode cL_sheet 137 = .ok (.invokestatic 131, 3) := by decide +kernel
theorem dL_sheet_140 : decode cL_sheet 140 = .ok (.ldc 21, 2) := by decide +kernel
theorem dL_sheet_142 : decode cL_sheet 142 = .ok (.if_icmp .eq 62, 3) := by decide +kernel
theorem dL_sheet_145 : decode cL_sheet 145 = .ok (.iconst 0, 1) := by decide +kernel
theorem dL_sheet_146 : decode cL_sheet 146 = .ok (.ireturn, 1) := by decide +kernel
theorem dL_sheet_147 : decode cL_sheet 147 = .ok (.iload 8, 2) := by decide +kernel
theorem dL_sheet_149 : decode cL_sheet 149 = .ok (.ifCond .ne 27, 3) := by decide +kernel
theorem dL_sheet_152 : decode cL_sheet 152 = .ok (.iload 10, 2) := by decide +kernel
theorem dL_sheet_154 : decode cL_sheet 154 = .ok (.iload 6, 2) := by decide +kernel
theorem dL_sheet_156 : decode cL_sheet 156 = .ok (.aload_n 0, 1) := by decide +kernel
theorem dL_sheet_157 : decode cL_sheet 157 = .ok (.aload_n 1, 1) := by decide +kernel
theorem dL_sheet_158 : decode cL_sheet 158 = .ok (.iload 4, 2) := by decide +kernel
theorem dL_sheet_160 : decode cL_sheet 160 = .ok (.iaload, 1) := by decide +kernel
theorem dL_sheet_161 : decode cL_sheet 161 = .ok (.iload 5, 2) := by decide +kernel
theorem dL_sheet_163 : decode cL_sheet 163 = .ok (.aload_n 0, 1) := by decide +kernel
theorem dL_sheet_164 : decode cL_sheet 164 = .ok (.iload 4, 2) := by decide +kernel
theorem dL_sheet_166 : decode cL_sheet 166 = .ok (.invokestatic 105, 3) := by decide +kernel
theorem dL_sheet_169 : decode cL_sheet 169 = .ok (.invokestatic 102, 3) := by decide +kernel
theorem dL_sheet_172 : decode cL_sheet 172 = .ok (.isub, 1) := by decide +kernel
theorem dL_sheet_173 : decode cL_sheet 173 = .ok (.if_icmp .ne 29, 3) := by decide +kernel
theorem dL_sheet_176 : decode cL_sheet 176 = .ok (.iload 8, 2) := by decide +kernel
theorem dL_sheet_178 : decode cL_sheet 178 = .ok (.iconst 1, 1) := by decide +kernel
theorem dL_sheet_179 : decode cL_sheet 179 = .ok (.if_icmp .ne 25, 3) := by decide +kernel
theorem dL_sheet_182 : decode cL_sheet 182 = .ok (.iload 9, 2) := by decide +kernel
theorem dL_sheet_184 : decode cL_sheet 184 = .ok (.iconst (-1), 1) := by decide +kernel
theorem dL_sheet_185 : decode cL_sheet 185 = .ok (.if_icmp .ne 17, 3) := by decide +kernel
theorem dL_sheet_188 : decode cL_sheet 188 = .ok (.aload_n 0, 1) := by decide +kernel
theorem dL_sheet_189 : decode cL_sheet 189 = .ok (.iload 4, 2) := by decide +kernel
theorem dL_sheet_191 : decode cL_sheet 191 = .ok (.iload 5, 2) := by decide +kernel
theorem dL_sheet_193 : decode cL_sheet 193 = .ok (.iconst 0, 1) := by decide +kernel
theorem dL_sheet_194 : decode cL_sheet 194 = .ok (.invokestatic 131, 3) := by decide +kernel
theorem dL_sheet_197 : decode cL_sheet 197 = .ok (.ldc 31, 2) := by decide +kernel
theorem dL_sheet_199 : decode cL_sheet 199 = .ok (.if_icmp .eq 5, 3) := by decide +kernel
theorem dL_sheet_202 : decode cL_sheet 202 = .ok (.iconst 0, 1) := by decide +kernel
theorem dL_sheet_203 : decode cL_sheet 203 = .ok (.ireturn, 1) := by decide +kernel
theorem dL_sheet_204 : decode cL_sheet 204 = .ok (.iload 9, 2) := by decide +kernel
theorem dL_sheet_206 : decode cL_sheet 206 = .ok (.ifCond .lt 74, 3) := by decide +kernel
theorem dL_sheet_209 : decode cL_sheet 209 = .ok (.iload 9, 2) := by decide +kernel
theorem dL_sheet_211 : decode cL_sheet 211 = .ok (.aload_n 3, 1) := by decide +kernel
theorem dL_sheet_212 : decode cL_sheet 212 = .ok (.iconst 2, 1) := by decide +kernel
theorem dL_sheet_213 : decode cL_sheet 213 = .ok (.iaload, 1) := by decide +kernel
theorem dL_sheet_214 : decode cL_sheet 214 = .ok (.if_icmp .ge 64, 3) := by decide +kernel
theorem dL_sheet_217 : decode cL_sheet 217 = .ok (.iload 10, 2) := by decide +kernel
theorem dL_sheet_219 : decode cL_sheet 219 = .ok (.ifCond .eq 59, 3) := by decide +kernel
theorem dL_sheet_222 : decode cL_sheet 222 = .ok (.iload 10, 2) := by decide +kernel
theorem dL_sheet_224 : decode cL_sheet 224 = .ok (.aload_n 0, 1) := by decide +kernel
theorem dL_sheet_225 : decode cL_sheet 225 = .ok (.iload 9, 2) := by decide +kernel
theorem dL_sheet_227 : decode cL_sheet 227 = .ok (.iload 5, 2) := by decide +kernel
theorem dL_sheet_229 : decode cL_sheet 229 = .ok (.invokestatic 129, 3) := by decide +kernel
theorem dL_sheet_232 : decode cL_sheet 232 = .ok (.iadd, 1) := by decide +kernel
theorem dL_sheet_233 : decode cL_sheet 233 = .ok (.ifCond .ne 45, 3) := by decide +kernel
theorem dL_sheet_236 : decode cL_sheet 236 = .ok (.aload_n 1, 1) := by decide +kernel
theorem dL_sheet_237 : decode cL_sheet 237 = .ok (.iload 9, 2) := by decide +kernel
theorem dL_sheet_239 : decode cL_sheet 239 = .ok (.iaload, 1) := by decide +kernel
theorem dL_sheet_240 : decode cL_sheet 240 = .ok (.aload_n 1, 1) := by decide +kernel
theorem dL_sheet_241 : decode cL_sheet 241 = .ok (.iload 4, 2) := by decide +kernel
theorem dL_sheet_243 : decode cL_sheet 243 = .ok (.iaload, 1) := by decide +kernel
theorem dL_sheet_244 : decode cL_sheet 244 = .ok (.if_icmp .eq 34, 3) := by decide +kernel
theorem dL_sheet_247 : decode cL_sheet 247 = .ok (.aload_n 0, 1) := by decide +kernel
theorem dL_sheet_248 : decode cL_sheet 248 = .ok (.iload 4, 2) := by decide +kernel
theorem dL_sheet_250 : decode cL_sheet 250 = .ok (.invokestatic 108, 3) := by decide +kernel
theorem dL_sheet_253 : decode cL_sheet 253 = .ok (.iconst 1, 1) := by decide +kernel
theorem dL_sheet_254 : decode cL_sheet 254 = .ok (.if_icmp .ne 24, 3) := by decide +kernel
theorem dL_sheet_257 : decode cL_sheet 257 = .ok (.aload_n 0, 1) := by decide +kernel
theorem dL_sheet_258 : decode cL_sheet 258 = .ok (.iload 9, 2) := by decide +kernel
theorem dL_sheet_260 : decode cL_sheet 260 = .ok (.invokestatic 108, 3) := by decide +kernel
theorem dL_sheet_263 : decode cL_sheet 263 = .ok (.iconst 1, 1) := by decide +kernel
theorem dL_sheet_264 : decode cL_sheet 264 = .ok (.if_icmp .ne 14, 3) := by decide +kernel
theorem dL_sheet_267 : decode cL_sheet 267 = .ok (.aload_n 0, 1) := by decide +kernel
theorem dL_sheet_268 : decode cL_sheet 268 = .ok (.iload 9, 2) := by decide +kernel
theorem dL_sheet_270 : decode cL_sheet 270 = .ok (.iload 5, 2) := by decide +kernel
theorem dL_sheet_272 : decode cL_sheet 272 = .ok (.invokestatic 127, 3) := by decide +kernel
theorem dL_sheet_275 : decode cL_sheet 275 = .ok (.ifCond .ge 5, 3) := by decide +kernel
theorem dL_sheet_278 : decode cL_sheet 278 = .ok (.iconst 0, 1) := by decide +kernel
theorem dL_sheet_279 : decode cL_sheet 279 = .ok (.ireturn, 1) := by decide +kernel
theorem dL_sheet_280 : decode cL_sheet 280 = .ok (.iinc 5 1, 3) := by decide +kernel
theorem dL_sheet_283 : decode cL_sheet 283 = .ok (.goto (-280), 3) := by decide +kernel
theorem dL_sheet_286 : decode cL_sheet 286 = .ok (.aload_n 0, 1) := by decide +kernel
theorem dL_sheet_287 : decode cL_sheet 287 = .ok (.iload 4, 2) := by decide +kernel
theorem dL_sheet_289 : decode cL_sheet 289 = .ok (.invokestatic 105, 3) := by decide +kernel
theorem dL_sheet_292 : decode cL_sheet 292 = .ok (.ifCond .lt 76, 3) := by decide +kernel
theorem dL_sheet_295 : decode cL_sheet 295 = .ok (.aload_n 0, 1) := by decide +kernel
theorem dL_sheet_296 : decode cL_sheet 296 = .ok (.iload 4, 2) := by decide +kernel
theorem dL_sheet_298 : decode cL_sheet 298 = .ok (.invokestatic 105, 3) := by decide +kernel
theorem dL_sheet_301 : decode cL_sheet 301 = .ok (.aload_n 3, 1) := by decide +kernel
theorem dL_sheet_302 : decode cL_sheet 302 = .ok (.iconst 0, 1) := by decide +kernel
theorem dL_sheet_303 : decode cL_sheet 303 = .ok (.iaload, 1) := by decide +kernel
theorem dL_sheet_304 : decode cL_sheet 304 = .ok (.if_icmp .gt 64, 3) := by decide +kernel
theorem dL_sheet_307 : decode cL_sheet 307 = .ok (.aload_n 0, 1) := by decide +kernel
theorem dL_sheet_308 : decode cL_sheet 308 = .ok (.iload 4, 2) := by decide +kernel
theorem dL_sheet_310 : decode cL_sheet 310 = .ok (.invokestatic 108, 3) := by decide +kernel
theorem dL_sheet_313 : decode cL_sheet 313 = .ok (.ifCond .eq 13, 3) := by decide +kernel
theorem dL_sheet_316 : decode cL_sheet 316 = .ok (.aload_n 0, 1) := by decide +kernel
theorem dL_sheet_317 : decode cL_sheet 317 = .ok (.iload 4, 2) := by decide +kernel
theorem dL_sheet_319 : decode cL_sheet 319 = .ok (.invokestatic 108, 3) := by decide +kernel
theorem dL_sheet_322 : decode cL_sheet 322 = .ok (.iconst 1, 1) := by decide +kernel
theorem dL_sheet_323 : decode cL_sheet 323 = .ok (.if_icmp .ne 45, 3) := by decide +kernel
theorem dL_sheet_326 : decode cL_sheet 326 = .ok (.aload_n 0, 1) := by decide +kernel
theorem dL_sheet_327 : decode cL_sheet 327 = .ok (.iload 4, 2) := by decide +kernel
theorem dL_sheet_329 : decode cL_sheet 329 = .ok (.iconst 5, 1) := by decide +kernel
theorem dL_sheet_330 : decode cL_sheet 330 = .ok (.invokestatic 123, 3) := by decide +kernel
theorem dL_sheet_333 : decode cL_sheet 333 = .ok (.ldc 18, 2) := by decide +kernel
theorem dL_sheet_335 : decode cL_sheet 335 = .ok (.if_icmp .ne 33, 3) := by decide +kernel
theorem dL_sheet_338 : decode cL_sheet 338 = .ok (.aload_n 0, 1) := by decide +kernel
theorem dL_sheet_339 : decode cL_sheet 339 = .ok (.aload_n 3, 1) := by decide +kernel
theorem dL_sheet_340 : decode cL_sheet 340 = .ok (.iconst 2, 1) := by decide +kernel
theorem dL_sheet_341 : decode cL_sheet 341 = .ok (.iaload, 1) := by decide +kernel
theorem dL_sheet_342 : decode cL_sheet 342 = .ok (.iconst 0, 1) := by decide +kernel
theorem dL_sheet_343 : decode cL_sheet 343 = .ok (.invokestatic 121, 3) := by decide +kernel
theorem dL_sheet_346 : decode cL_sheet 346 = .ok (.ldc 18, 2) := by decide +kernel
theorem dL_sheet_348 : decode cL_sheet 348 = .ok (.if_icmp .ne 20, 3) := by decide +kernel
theorem dL_sheet_351 : decode cL_sheet 351 = .ok (.aload_n 0, 1) := by decide +kernel
theorem dL_sheet_352 : decode cL_sheet 352 = .ok (.aload_n 3, 1) := by decide +kernel
theorem dL_sheet_353 : decode cL_sheet 353 = .ok (.iconst 2, 1) := by decide +kernel
theorem dL_sheet_354 : decode cL_sheet 354 = .ok (.iaload, 1) := by decide +kernel
theorem dL_sheet_355 : decode cL_sheet 355 = .ok (.iconst 0, 1) := by decide +kernel
theorem dL_sheet_356 : decode cL_sheet 356 = .ok (.invokestatic 129, 3) := by decide +kernel
theorem dL_sheet_359 : decode cL_sheet 359 = .ok (.ldc 18, 2) := by decide +kernel
theorem dL_sheet_361 : decode cL_sheet 361 = .ok (.if_icmp .ne 7, 3) := by decide +kernel
theorem dL_sheet_364 : decode cL_sheet 364 = .ok (.iconst 1, 1) := by decide +kernel
theorem dL_sheet_365 : decode cL_sheet 365 = .ok (.goto 4, 3) := by decide +kernel
theorem dL_sheet_368 : decode cL_sheet 368 = .ok (.iconst 0, 1) := by decide +kernel
theorem dL_sheet_369 : decode cL_sheet 369 = .ok (.ireturn, 1) := by decide +kernel
theorem dL_isSo_0 : decode cL_isSo 0 = .ok (.iconst 0, 1) := by decide +kernel
theorem dL_isSo_1 : decode cL_isSo 1 = .ok (.istore 6, 2) := by decide +kernel
theorem dL_isSo_3 : decode cL_isSo 3 = .ok (.iload 6, 2) := by decide +kernel
theorem dL_isSo_5 : decode cL_isSo 5 = .ok (.aload 5, 2) := by decide +kernel
theorem dL_isSo_7 : decode cL_isSo 7 = .ok (.iconst 2, 1) := by decide +kernel
theorem dL_isSo_8 : decode cL_isSo 8 = .ok (.iaload, 1) := by decide +kernel
theorem dL_isSo_9 : decode cL_isSo 9 = .ok (.if_icmp .ge 24, 3) := by decide +kernel
theorem dL_isSo_12 : decode cL_isSo 12 = .ok (.aload_n 0, 1) := by decide +kernel
theorem dL_isSo_13 : decode cL_isSo 13 = .ok (.aload_n 2, 1) := by decide +kernel
theorem dL_isSo_14 : decode cL_isSo 14 = .ok (.aload_n 3, 1) := by decide +kernel
theorem dL_isSo_15 : decode cL_isSo 15 = .ok (.aload 5, 2) := by decide +kernel
theorem dL_isSo_17 : decode cL_isSo 17 = .ok (.iload 6, 2) := by decide +kernel
theorem dL_isSo_19 : decode cL_isSo 19 = .ok (.invokestatic 133, 3) := by decide +kernel
theorem dL_isSo_22 : decode cL_isSo 22 = .ok (.ifCond .ne 5, 3) := by decide +kernel
theorem dL_isSo_25 : decode cL_isSo 25 = .ok (.iconst 0, 1) := by decide +kernel
theorem dL_isSo_26 : decode cL_isSo 26 = .ok (.ireturn, 1) := by decide +kernel
theorem dL_isSo_27 : decode cL_isSo 27 = .ok (.iinc 6 1, 3) := by decide +kernel
theorem dL_isSo_30 : decode cL_isSo 30 = .ok (.goto (-27), 3) := by decide +kernel
theorem dL_isSo_33 : decode cL_isSo 33 = .ok (.iconst 0, 1) := by decide +kernel
theorem dL_isSo_34 : decode cL_isSo 34 = .ok (.istore 6, 2) := by decide +kernel
theorem dL_isSo_36 : decode cL_isSo 36 = .ok (.iload 6, 2) := by decide +kernel
theorem dL_isSo_38 : decode cL_isSo 38 = .ok (.iconst 3, 1) := by decide +kernel
theorem dL_isSo_39 : decode cL_isSo 39 = .ok (.if_icmp .ge 55, 3) := by decide +kernel
theorem dL_isSo_42 : decode cL_isSo 42 = .ok (.aload_n 0, 1) := by decide +kernel
theorem dL_isSo_43 : decode cL_isSo 43 = .ok (.iload 6, 2) := by decide +kernel
theorem dL_isSo_45 : decode cL_isSo 45 = .ok (.invokestatic 137, 3) := by decide +kernel
theorem dL_isSo_48 : decode cL_isSo 48 = .ok (.aload 4, 2) := by decide +kernel
theorem dL_isSo_50 : decode cL_isSo 50 = .ok (.iconst 2, 1) := by decide +kernel
theorem dL_isSo_51 : decode cL_isSo 51 = .ok (.iload 6, 2) := by decide +kernel
theorem dL_isSo_53 : decode cL_isSo 53 = .ok (.imul, 1) := by decide +kernel
theorem dL_isSo_54 : decode cL_isSo 54 = .ok (.iaload, 1) := by decide +kernel
theorem dL_isSo_55 : decode cL_isSo 55 = .ok (.ifCond .ne 7, 3) := by decide +kernel
theorem dL_isSo_58 : decode cL_isSo 58 = .ok (.iconst (-1), 1) := by decide +kernel
theorem dL_isSo_59 : decode cL_isSo 59 = .ok (.goto 24, 3) := by decide +kernel
theorem dL_isSo_62 : decode cL_isSo 62 = .ok (.sipush 1000, 3) := by decide +kernel
theorem dL_isSo_65 : decode cL_isSo 65 = .ok (.aload 4, 2) := by decide +kernel
theorem dL_isSo_67 : decode cL_isSo 67 = .ok (.iconst 2, 1) := by decide +kernel
theorem dL_isSo_68 : decode cL_isSo 68 = .ok (.iload 6, 2) := by decide +kernel
theorem dL_isSo_70 : decode cL_isSo 70 = .ok (.imul, 1) := by decide +kernel
theorem dL_isSo_71 : decode cL_isSo 71 = .ok (.iconst 1, 1) := by decide +kernel
theorem dL_isSo_72 : decode cL_isSo 72 = .ok (.iadd, 1) := by decide +kernel
theorem dL_isSo_73 : decode cL_isSo 73 = .ok (.iaload, 1) := by decide +kernel
theorem dL_isSo_74 : decode cL_isSo 74 = .ok (.imul, 1) := by decide +kernel
theorem dL_isSo_75 : decode cL_isSo 75 = .ok (.aload 4, 2) := by decide +kernel
theorem dL_isSo_77 : decode cL_isSo 77 = .ok (.iconst 2, 1) := by decide +kernel
theorem dL_isSo_78 : decode cL_isSo 78 = .ok (.iload 6, 2) := by decide +kernel
theorem dL_isSo_80 : decode cL_isSo 80 = .ok (.imul, 1) := by decide +kernel
theorem dL_isSo_81 : decode cL_isSo 81 = .ok (.iaload, 1) := by decide +kernel
theorem dL_isSo_82 : decode cL_isSo 82 = .ok (.idiv, 1) := by decide +kernel
theorem dL_isSo_83 : decode cL_isSo 83 = .ok (.if_icmp .eq 5, 3) := by decide +kernel
theorem dL_isSo_86 : decode cL_isSo 86 = .ok (.iconst 0, 1) := by decide +kernel
theorem dL_isSo_87 : decode cL_isSo 87 = .ok (.ireturn, 1) := by decide +kernel
theorem dL_isSo_88 : decode cL_isSo 88 = .ok (.iinc 6 1, 3) := by decide +kernel
theorem dL_isSo_91 : decode cL_isSo 91 = .ok (.goto (-55), 3) := by decide +kernel
theorem dL_isSo_94 : decode cL_isSo 94 = .ok (.aload_n 0, 1) := by decide +kernel
theorem dL_isSo_95 : decode cL_isSo 95 = .ok (.aload_n 1, 1) := by decide +kernel
theorem dL_isSo_96 : decode cL_isSo 96 = .ok (.aload_n 2, 1) := by decide +kernel
theorem dL_isSo_97 : decode cL_isSo 97 = .ok (.aload 5, 2) := by decide +kernel
theorem dL_isSo_99 : decode cL_isSo 99 = .ok (.invokestatic 139, 3) := by decide +kernel
theorem dL_isSo_102 : decode cL_isSo 102 = .ok (.ifCond .eq 27, 3) := by decide +kernel
theorem dL_isSo_105 : decode cL_isSo 105 = .ok (.aload_n 0, 1) := by decide +kernel
theorem dL_isSo_106 : decode cL_isSo 106 = .ok (.iconst 3, 1) := by decide +kernel
theorem dL_isSo_107 : decode cL_isSo 107 = .ok (.invokestatic 137, 3) := by decide +kernel
theorem dL_isSo_110 : decode cL_isSo 110 = .ok (.ldc 18, 2) := by decide +kernel
theorem dL_isSo_112 : decode cL_isSo 112 = .ok (.if_icmp .ne 17, 3) := by decide +kernel
theorem dL_isSo_115 : decode cL_isSo 115 = .ok (.aload_n 0, 1) := by decide +kernel
theorem dL_isSo_116 : decode cL_isSo 116 = .ok (.iconst (-1), 1) := by decide +kernel
theorem dL_isSo_117 : decode cL_isSo 117 = .ok (.invokestatic 137, 3) := by decide +kernel
theorem dL_isSo_120 : decode cL_isSo 120 = .ok (.ldc 18, 2) := by decide +kernel
theorem dL_isSo_122 : decode cL_isSo 122 = .ok (.if_icmp .ne 7, 3) := by decide +kernel
theorem dL_isSo_125 : decode cL_isSo 125 = .ok (.iconst 1, 1) := by decide +kernel
theorem dL_isSo_126 : decode cL_isSo 126 = .ok (.goto 4, 3) := by decide +kernel
theorem dL_isSo_129 : decode cL_isSo 129 = .ok (.iconst 0, 1) := by decide +kernel
theorem dL_isSo_130 : decode cL_isSo 130 = .ok (.ireturn, 1) := by decide +kernel
theorem dL_moves_0 : decode cL_moves 0 = .ok (.iload 4, 2) := by decide +kernel
theorem dL_moves_2 : decode cL_moves 2 = .ok (.bipush 13, 2) := by decide +kernel
theorem dL_moves_4 : decode cL_moves 4 = .ok (.invokestatic 143, 3) := by decide +kernel
theorem dL_moves_7 : decode cL_moves 7 = .ok (.iconst 1, 1) := by decide +kernel
theorem dL_moves_8 : decode cL_moves 8 = .ok (.isub, 1) := by decide +kernel
theorem dL_moves_9 : decode cL_moves 9 = .ok (.istore 5, 2) := by decide +kernel
theorem dL_moves_11 : decode cL_moves 11 = .ok (.iload 4, 2) := by decide +kernel
theorem dL_moves_13 : decode cL_moves 13 = .ok (.iconst 4, 1) := by decide +kernel
theorem dL_moves_14 : decode cL_moves 14 = .ok (.ishr, 1) := by decide +kernel
theorem dL_moves_15 : decode cL_moves 15 = .ok (.bipush 13, 2) := by decide +kernel
theorem dL_moves_17 : decode cL_moves 17 = .ok (.invokestatic 143, 3) := by decide +kernel
theorem dL_moves_20 : decode cL_moves 20 = .ok (.iconst 1, 1) := by decide +kernel
theorem dL_moves_21 : decode cL_moves 21 = .ok (.isub, 1) := by decide +kernel
theorem dL_moves_22 : decode cL_moves 22 = .ok (.istore 6, 2) := by decide +kernel
theorem dL_moves_24 : decode cL_moves 24 = .ok (.iload_n 3, 1) := by decide +kernel
theorem dL_moves_25 : decode cL_moves 25 = .ok (.iconst 5, 1) := by decide +kernel
theorem dL_moves_26 : decode cL_moves 26 = .ok (.ishr, 1) := by decide +kernel
theorem dL_moves_27 : decode cL_moves 27 = .ok (.iconst 5, 1) := by decide +kernel
theorem dL_moves_28 : decode cL_moves 28 = .ok (.invokestatic 143, 3) := by decide +kernel
theorem dL_moves_31 : decode cL_moves 31 = .ok (.istore 7, 2) := by decide +kernel
theorem dL_moves_33 : decode cL_moves 33 = .ok (.iconst 1, 1) := by decide +kernel
theorem dL_moves_34 : decode cL_moves 34 = .ok (.iload 4, 2) := by decide +kernel
theorem dL_moves_36 : decode cL_moves 36 = .ok (.bipush 8, 2) := by decide +kernel
theorem dL_moves_38 : decode cL_moves 38 = .ok (.ishr, 1) := by decide +kernel
theorem dL_moves_39 : decode cL_moves 39 = .ok (.iload_n 3, 1) := by decide +kernel
theorem dL_moves_40 : decode cL_moves 40 = .ok (.bipush 8, 2) := by decide +kernel
theorem dL_moves_42 : decode cL_moves 42 = .ok (.ishr, 1) := by decide +kernel
theorem dL_moves_43 : decode cL_moves 43 = .ok (.iconst 4, 1) := by decide +kernel
theorem dL_moves_44 : decode cL_moves 44 = .ok (.invokestatic 143, 3) := by decide +kernel
theorem dL_moves_47 : decode cL_moves 47 = .ok (.ifCond .ne 9, 3) := by decide +kernel
theorem dL_moves_50 : decode cL_moves 50 = .ok (.sipush 1000, 3) := by decide +kernel
theorem dL_moves_53 : decode cL_moves 53 = .ok (.goto 5, 3) := by decide +kernel
theorem dL_moves_56 : decode cL_moves 56 = .ok (.bipush 30, 2) := by decide +kernel
theorem dL_moves_58 : decode cL_moves 58 = .ok (.invokestatic 143, 3) := by decide +kernel
theorem dL_moves_61 : decode cL_moves 61 = .ok (.iadd, 1) := by decide +kernel
theorem dL_moves_62 : decode cL_moves 62 = .ok (.istore 8, 2) := by decide +kernel
theorem dL_moves_64 : decode cL_moves 64 = .ok (.iload_n 3, 1) := by decide +kernel
theorem dL_moves_65 : decode cL_moves 65 = .ok (.bipush 10, 2) := by decide +kernel
theorem dL_moves_67 : decode cL_moves 67 = .ok (.ishr, 1) := by decide +kernel
theorem dL_moves_68 : decode cL_moves 68 = .ok (.iconst 3, 1) := by decide +kernel
theorem dL_moves_69 : decode cL_moves 69 = .ok (.invokestatic 143, 3) := by decide +kernel
theorem dL_moves_72 : decode cL_moves 72 = .ok (.ifCond .le 9, 3) := by decide +kernel
theorem dL_moves_75 : decode cL_moves 75 = .ok (.aload_n 2, 1) := by decide +kernel
theorem dL_moves_76 : decode cL_moves 76 = .ok (.iconst 0, 1) := by decide +kernel
theorem dL_moves_77 : decode cL_moves 77 = .ok (.iaload, 1) := by decide +kernel
theorem dL_moves_78 : decode cL_moves 78 = .ok (.goto 16, 3) := by decide +kernel
theorem dL_moves_81 : decode cL_moves 81 = .ok (.iload 4, 2) := by decide +kernel
theorem dL_moves_83 : decode cL_moves 83 = .ok (.bipush 13, 2) := by decide +kernel
theorem dL_moves_85 : decode cL_moves 85 = .ok (.ishr, 1) := by decide +kernel
theorem dL_moves_86 : decode cL_moves 86 = .ok (.aload_n 2, 1) := by decide +kernel
theorem dL_moves_87 : decode cL_moves 87 = .ok (.iconst 0, 1) := by decide +kernel
theorem dL_moves_88 : decode cL_moves 88 = .ok (.iaload, 1) := by decide +kernel
theorem dL_moves_89 : decode cL_moves 89 = .ok (.iconst 1, 1) := by decide +kernel
theorem dL_moves_90 : decode cL_moves 90 = .ok (.iadd, 1) := by decide +kernel
theorem dL_moves_91 : decode cL_moves 91 = .ok (.invokestatic 143, 3) := by decide +kernel
theorem dL_moves_94 : decode cL_moves 94 = .ok (.istore 9, 2) := by decide +kernel
theorem dL_moves_96 : decode cL_moves 96 = .ok (.iload 5, 2) := by decide +kernel
theorem dL_moves_98 : decode cL_moves 98 = .ok (.ifCond .ge 7, 3) := by decide +kernel
theorem dL_moves_101 : decode cL_moves 101 = .ok (.iconst 0, 1) := by decide +kernel
theorem dL_moves_102 : decode cL_moves 102 = .ok (.goto 11, 3) := by decide +kernel
theorem dL_moves_105 : decode cL_moves 105 = .ok (.aload_n 0, 1) := by decide +kernel
theorem dL_moves_106 : decode cL_moves 106 = .ok (.iload 5, 2) := by decide +kernel
theorem dL_moves_108 : decode cL_moves 108 = .ok (.iload 7, 2) := by decide +kernel
theorem dL_moves_110 : decode cL_moves 110 = .ok (.invokestatic 95, 3) := by decide +kernel
theorem dL_moves_113 : decode cL_moves 113 = .ok (.istore 10, 2) := by decide +kernel
theorem dL_moves_115 : decode cL_moves 115 = .ok (.iload 6, 2) := by decide +kernel
theorem dL_moves_117 : decode cL_moves 117 = .ok (.ifCond .ge 7, 3) := by decide +kernel
theorem dL_moves_120 : decode cL_moves 120 = .ok (.iconst 0, 1) := by decide +kernel
theorem dL_moves_121 : decode cL_moves 121 = .ok (.goto 11, 3) := by decide +kernel
theorem dL_moves_124 : decode cL_moves 124 = .ok (.aload_n 0, 1) := by decide +kernel
theorem dL_moves_125 : decode cL_moves 125 = .ok (.iload 6, 2) := by decide +kernel
theorem dL_moves_127 : decode cL_moves 127 = .ok (.iload 7, 2) := by decide +kernel
theorem dL_moves_129 : decode cL_moves 129 = .ok (.invokestatic 95, 3) := by decide +kernel
theorem dL_moves_132 : decode cL_moves 132 = .ok (.istore 11, 2) := by decide +kernel
theorem dL_moves_134 : decode cL_moves 134 = .ok (.iload 4, 2) := by decide +kernel
theorem dL_moves_136 : decode cL_moves 136 = .ok (.bipush 18, 2) := by decide +kernel
theorem dL_moves_138 : decode cL_moves 138 = .ok (.ishr, 1) := by decide +kernel
theorem dL_moves_139 : decode cL_moves 139 = .ok (.bipush 12, 2) := by decide +kernel
theorem dL_moves_141 : decode cL_moves 141 = .ok (.invokestatic 143, 3) := by decide +kernel
theorem dL_moves_144 : decode cL_moves 144 = .ok (.istore 12, 2) := by decide +kernel
theorem dL_moves_146 : decode cL_moves 146 = .ok (.aload_n 0, 1) := by decide +kernel
theorem dL_moves_147 : decode cL_moves 147 = .ok (.iload 12, 2) := by decide +kernel
theorem dL_moves_149 : decode cL_moves 149 = .ok (.iload 7, 2) := by decide +kernel
theorem dL_moves_151 : decode cL_moves 151 = .ok (.invokestatic 95, 3) := by decide +kernel
theorem dL_moves_154 : decode cL_moves 154 = .ok (.istore 13, 2) := by decide +kernel
theorem dL_moves_156 : decode cL_moves 156 = .ok (.iload 5, 2) := by decide +kernel
theorem dL_moves_158 : decode cL_moves 158 = .ok (.iload 6, 2) := by decide +kernel
theorem dL_moves_160 : decode cL_moves 160 = .ok (.if_icmp .ne 8, 3) := by decide +kernel
theorem dL_moves_163 : decode cL_moves 163 = .ok (.ldc 21, 2) := by decide +kernel
theorem dL_moves_165 : decode cL_moves 165 = .ok (.goto 20, 3) := by decide +kernel
theorem dL_moves_168 : decode cL_moves 168 = .ok (.aload_n 2, 1) := by decide +kernel
theorem dL_moves_169 : decode cL_moves 169 = .ok (.iconst 1, 1) := by decide +kernel
theorem dL_moves_170 : decode cL_moves 170 = .ok (.iaload, 1) := by decide +kernel
theorem dL_moves_171 : decode cL_moves 171 = .ok (.sipush 200, 3) := by decide +kernel
theorem dL_moves_174 : decode cL_moves 174 = .ok (.if_icmp .ge 9, 3) := by decide +kernel
theorem dL_moves_177 : decode cL_moves 177 = .ok (.aload_n 2, 1) := by decide +kernel
theorem dL_moves_178 : decode cL_moves 178 = .ok (.iconst 1, 1) := by decide +kernel
theorem dL_moves_179 : decode cL_moves 179 = .ok (.iaload, 1) := by decide +kernel
theorem dL_moves_180 : decode cL_moves 180 = .ok (.goto 5, 3) := by decide +kernel
theorem dL_moves_183 : decode cL_moves 183 = .ok (.ldc 31, 2) := by decide +kernel
theorem dL_moves_185 : decode cL_moves 185 = .ok (.istore 14, 2) := by decide +kernel
theorem dL_moves_187 : decode cL_moves 187 = .ok (.aload_n 0, 1) := by decide +kernel
theorem dL_moves_188 : decode cL_moves 188 = .ok (.iload 5, 2) := by decide +kernel
theorem dL_moves_190 : decode cL_moves 190 = .ok (.iload 6, 2) := by decide +kernel
theorem dL_moves_192 : decode cL_moves 192 = .ok (.iload 7, 2) := by decide +kernel
theorem dL_moves_194 : decode cL_moves 194 = .ok (.iload 8, 2) := by decide +kernel
theorem dL_moves_196 : decode cL_moves 196 = .ok (.iload 9, 2) := by decide +kernel
theorem dL_moves_198 : decode cL_moves 198 = .ok (.invokestatic 146, 3) := by decide +kernel
theorem dL_moves_201 : decode cL_moves 201 = .ok (.iload 14, 2) := by decide +kernel
theorem dL_moves_203 : decode cL_moves 203 = .ok (.if_icmp .ne 26, 3) := by decide +kernel
theorem dL_moves_206 : decode cL_moves 206 = .ok (.aload_n 1, 1) := by decide +kernel
theorem dL_moves_207 : decode cL_moves 207 = .ok (.iload 5, 2) := by decide +kernel
theorem dL_moves_209 : decode cL_moves 209 = .ok (.iload 6, 2) := by decide +kernel
theorem dL_moves_211 : decode cL_moves 211 = .ok (.iload 7, 2) := by decide +kernel
theorem dL_moves_213 : decode cL_moves 213 = .ok (.iload 8, 2) := by decide +kernel
theorem dL_moves_215 : decode cL_moves 215 = .ok (.iload 9, 2) := by decide +kernel
theorem dL_moves_217 : decode cL_moves 217 = .ok (.invokestatic 146, 3) := by decide +kernel
theorem dL_moves_220 : decode cL_moves 220 = .ok (.iload 14, 2) := by decide +kernel
theorem dL_moves_222 : decode cL_moves 222 = .ok (.if_icmp .ne 7, 3) := by decide +kernel
theorem dL_moves_225 : decode cL_moves 225 = .ok (.iconst 1, 1) := by decide +kernel
theorem dL_moves_226 : decode cL_moves 226 = .ok (.goto 4, 3) := by decide +kernel
theorem dL_moves_229 : decode cL_moves 229 = .ok (.iconst 0, 1) := by decide +kernel
theorem dL_moves_230 : decode cL_moves 230 = .ok (.istore 15, 2) := by decide +kernel
theorem dL_moves_232 : decode cL_moves 232 = .ok (.iload 15, 2) := by decide +kernel
theorem dL_moves_234 : decode cL_moves 234 = .ok (.ifCond .eq 70, 3) := by decide +kernel
theorem dL_moves_237 : decode cL_moves 237 = .ok (.aload_n 0, 1) := by decide +kernel
theorem dL_moves_238 : decode cL_moves 238 = .ok (.bipush 12, 2) := by decide +kernel
theorem dL_moves_240 : decode cL_moves 240 = .ok (.iconst 0, 1) := by decide +kernel
theorem dL_moves_241 : decode cL_moves 241 = .ok (.iconst 0, 1) := by decide +kernel
theorem dL_moves_242 : decode cL_moves 242 = .ok (.iconst 0, 1) := by decide +kernel
theorem dL_moves_243 : decode cL_moves 243 = .ok (.iconst 0, 1) := by decide +kernel
theorem dL_moves_244 : decode cL_moves 244 = .ok (.invokestatic 146, 3) := by decide +kernel
theorem dL_moves_247 : decode cL_moves 247 = .ok (.ldc 18, 2) := by decide +kernel
theorem dL_moves_249 : decode cL_moves 249 = .ok (.if_icmp .ne 55, 3) := by decide +kernel
theorem dL_moves_252 : decode cL_moves 252 = .ok (.aload_n 0, 1) := by decide +kernel
theorem dL_moves_253 : decode cL_moves 253 = .ok (.iconst 0, 1) := by decide +kernel
theorem dL_moves_254 : decode cL_moves 254 = .ok (.iconst 1, 1) := by decide +kernel
theorem dL_moves_255 : decode cL_moves 255 = .ok (.iconst 5, 1) := by decide +kernel
theorem dL_moves_256 : decode cL_moves 256 = .ok (.iconst 1, 1) := by decide +kernel
theorem dL_moves_257 : decode cL_moves 257 = .ok (.iconst 0, 1) := by decide +kernel
theorem dL_moves_258 : decode cL_moves 258 = .ok (.invokestatic 146, 3) := by decide +kernel
theorem dL_moves_261 : decode cL_moves 261 = .ok (.ldc 18, 2) := by decide +kernel
theorem dL_moves_263 : decode cL_moves 263 = .ok (.if_icmp .ne 41, 3) := by decide +kernel
theorem dL_moves_266 : decode cL_moves 266 = .ok (.aload_n 0, 1) := by decide +kernel
theorem dL_moves_267 : decode cL_moves 267 = .ok (.iconst 0, 1) := by decide +kernel
theorem dL_moves_268 : decode cL_moves 268 = .ok (.iconst 1, 1) := by decide +kernel
theorem dL_moves_269 : decode cL_moves 269 = .ok (.iconst 0, 1) := by decide +kernel
theorem dL_moves_270 : decode cL_moves 270 = .ok (.sipush 1001, 3) := by decide +kernel
theorem dL_moves_273 : decode cL_moves 273 = .ok (.iconst 0, 1) := by decide +kernel
theorem dL_moves_274 : decode cL_moves 274 = .ok (.invokestatic 146, 3) := by decide +kernel
theorem dL_moves_277 : decode cL_moves 277 = .ok (.ldc 21, 2) := by decide +kernel
theorem dL_moves_279 : decode cL_moves 279 = .ok (.if_icmp .ne 25, 3) := by decide +kernel
theorem dL_moves_282 : decode cL_moves 282 = .ok (.aload_n 0, 1) := by decide +kernel
theorem dL_moves_283 : decode cL_moves 283 = .ok (.iconst 0, 1) := by decide +kernel
theorem dL_moves_284 : decode cL_moves 284 = .ok (.iconst 1, 1) := by decide +kernel
theorem dL_moves_285 : decode cL_moves 285 = .ok (.iconst 0, 1) := by decide +kernel
theorem dL_moves_286 : decode cL_moves 286 = .ok (.iconst 1, 1) := by decide +kernel
theorem dL_moves_287 : decode cL_moves 287 = .ok (.aload_n 2, 1) := by decide +kernel
theorem dL_moves_288 : decode cL_moves 288 = .ok (.iconst 0, 1) := by decide +kernel
theorem dL_moves_289 : decode cL_moves 289 = .ok (.iaload, 1) := by decide +kernel
theorem dL_moves_290 : decode cL_moves 290 = .ok (.iconst 1, 1) := by decide +kernel
theorem dL_moves_291 : decode cL_moves 291 = .ok (.iadd, 1) := by decide +kernel
theorem dL_moves_292 : decode cL_moves 292 = .ok (.invokestatic 146, 3) := by decide +kernel
theorem dL_moves_295 : decode cL_moves 295 = .ok (.ldc 21, 2) := by decide +kernel
theorem dL_moves_297 : decode cL_moves 297 = .ok (.if_icmp .ne 7, 3) := by decide +kernel
theorem dL_moves_300 : decode cL_moves 300 = .ok (.iconst 1, 1) := by decide +kernel
theorem dL_moves_301 : decode cL_moves 301 = .ok (.goto 4, 3) := by decide +kernel
theorem dL_moves_304 : decode cL_moves 304 = .ok (.iconst 0, 1) := by decide +kernel
theorem dL_moves_305 : decode cL_moves 305 = .ok (.istore 15, 2) := by decide +kernel
theorem dL_moves_307 : decode cL_moves 307 = .ok (.iload 14, 2) := by decide +kernel
theorem dL_moves_309 : decode cL_moves 309 = .ok (.ifCond .ge 6, 3) := by decide +kernel
theorem dL_moves_312 : decode cL_moves 312 = .ok (.iload 15, 2) := by decide +kernel
theorem dL_moves_314 : decode cL_moves 314 = .ok (.ireturn, 1) := by decide +kernel
theorem dL_moves_315 : decode cL_moves 315 = .ok (.aload_n 2, 1) := by decide +kernel
theorem dL_moves_316 : decode cL_moves 316 = .ok (.iconst 1, 1) := by decide +kernel
theorem dL_moves_317 : decode cL_moves 317 = .ok (.dup2, 1) := by decide +kernel
theorem dL_moves_318 : decode cL_moves 318 = .ok (.iaload, 1) := by decide +kernel
theorem dL_moves_319 : decode cL_moves 319 = .ok (.iconst 1, 1) := by decide +kernel
theorem dL_moves_320 : decode cL_moves 320 = .ok (.iadd, 1) := by decide +kernel
theorem dL_moves_321 : decode cL_moves 321 = .ok (.iastore, 1) := by decide +kernel
theorem dL_moves_322 : decode cL_moves 322 = .ok (.iload 5, 2) := by decide +kernel
theorem dL_moves_324 : decode cL_moves 324 = .ok (.ifCond .ge 7, 3) := by decide +kernel
theorem dL_moves_327 : decode cL_moves 327 = .ok (.iconst 0, 1) := by decide +kernel
theorem dL_moves_328 : decode cL_moves 328 = .ok (.goto 14, 3) := by decide +kernel
theorem dL_moves_331 : decode cL_moves 331 = .ok (.iload 10, 2) := by decide +kernel
theorem dL_moves_333 : decode cL_moves 333 = .ok (.aload_n 0, 1) := by decide +kernel
theorem dL_moves_334 : decode cL_moves 334 = .ok (.iload 5, 2) := by decide +kernel
theorem dL_moves_336 : decode cL_moves 336 = .ok (.iload 7, 2) := by decide +kernel
theorem dL_moves_338 : decode cL_moves 338 = .ok (.invokestatic 95, 3) := by decide +kernel
theorem dL_moves_341 : decode cL_moves 341 = .ok (.isub, 1) := by decide +kernel
theorem dL_moves_342 : decode cL_moves 342 = .ok (.istore 16, 2) := by decide +kernel
theorem dL_moves_344 : decode cL_moves 344 = .ok (.iload 6, 2) := by decide +kernel
theorem dL_moves_346 : decode cL_moves 346 = .ok (.ifCond .ge 7, 3) := by decide +kernel
theorem dL_moves_349 : decode cL_moves 349 = .ok (.iconst 0, 1) := by decide +kernel
theorem dL_moves_350 : decode cL_moves 350 = .ok (.goto 14, 3) := by decide +kernel
theorem dL_moves_353 : decode cL_moves 353 = .ok (.aload_n 0, 1) := by decide +kernel
theorem dL_moves_354 : decode cL_moves 354 = .ok (.iload 6, 2) := by decide +kernel
theorem dL_moves_356 : decode cL_moves 356 = .ok (.iload 7, 2) := by decide +kernel
theorem dL_moves_358 : decode cL_moves 358 = .ok (.invokestatic 95, 3) := by decide +kernel
theorem dL_moves_361 : decode cL_moves 361 = .ok (.iload 11, 2) := by decide +kernel
theorem dL_moves_363 : decode cL_moves 363 = .ok (.isub, 1) := by decide +kernel
theorem dL_moves_364 : decode cL_moves 364 = .ok (.istore 17, 2) := by decide +kernel
theorem dL_moves_366 : decode cL_moves 366 = .ok (.iload 15, 2) := by decide +kernel
theorem dL_moves_368 : decode cL_moves 368 = .ok (.ifCond .eq 58, 3) := by decide +kernel
theorem dL_moves_371 : decode cL_moves 371 = .ok (.iload 16, 2) := by decide +kernel
theorem dL_moves_373 : decode cL_moves 373 = .ok (.ifCond .eq 10, 3) := by decide +kernel
theorem dL_moves_376 : decode cL_moves 376 = .ok (.iload 16, 2) := by decide +kernel
theorem dL_moves_378 : decode cL_moves 378 = .ok (.iload 8, 2) := by decide +kernel
theorem dL_moves_380 : decode cL_moves 380 = .ok (.if_icmp .ne 46, 3) := by decide +kernel
theorem dL_moves_383 : decode cL_moves 383 = .ok (.iload 17, 2) := by decide +kernel
theorem dL_moves_385 : decode cL_moves 385 = .ok (.ifCond .eq 10, 3) := by decide +kernel
theorem dL_moves_388 : decode cL_moves 388 = .ok (.iload 17, 2) := by decide +kernel
theorem dL_moves_390 : decode cL_moves 390 = .ok (.iload 8, 2) := by decide +kernel
theorem dL_moves_392 : decode cL_moves 392 = .ok (.if_icmp .ne 34, 3) := by decide +kernel
theorem dL_moves_395 : decode cL_moves 395 = .ok (.iload 12, 2) := by decide +kernel
theorem dL_moves_397 : decode cL_moves 397 = .ok (.iload 5, 2) := by decide +kernel
theorem dL_moves_399 : decode cL_moves 399 = .ok (.if_icmp .eq 23, 3) := by decide +kernel
theorem dL_moves_402 : decode cL_moves 402 = .ok (.iload 12, 2) := by decide +kernel
theorem dL_moves_404 : decode cL_moves 404 = .ok (.iload 6, 2) := by decide +kernel
theorem dL_moves_406 : decode cL_moves 406 = .ok (.if_icmp .eq 16, 3) := by decide +kernel
theorem dL_moves_409 : decode cL_moves 409 = .ok (.aload_n 0, 1) := by decide +kernel
theorem dL_moves_410 : decode cL_moves 410 = .ok (.iload 12, 2) := by decide +kernel
theorem dL_moves_412 : decode cL_moves 412 = .ok (.iload 7, 2) := by decide +kernel
theorem dL_moves_414 : decode cL_moves 414 = .ok (.invokestatic 95, 3) := by decide +kernel
theorem dL_moves_417 : decode cL_moves 417 = .ok (.iload 13, 2) := by decide +kernel
theorem dL_moves_419 : decode cL_moves 419 = .ok (.if_icmp .ne 7, 3) := by decide +kernel
theorem dL_moves_422 : decode cL_moves 422 = .ok (.iconst 1, 1) := by decide +kernel
theorem dL_moves_423 : decode cL_moves 423 = .ok (.goto 4, 3) := by decide +kernel
theorem dL_moves_426 : decode cL_moves 426 = .ok (.iconst 0, 1) := by decide +kernel
theorem dL_moves_427 : decode cL_moves 427 = .ok (.ireturn, 1) := by decide +kernel
theorem dL_signs_0 : decode cL_signs 0 = .ok (.aload_n 0, 1) := by decide +kernel
theorem dL_signs_1 : decode cL_signs 1 = .ok (.iload 6, 2) := by decide +kernel
theorem dL_signs_3 : decode cL_signs 3 = .ok (.iload 7, 2) := by decide +kernel
theorem dL_signs_5 : decode cL_signs 5 = .ok (.invokestatic 129, 3) := by decide +kernel
theorem dL_signs_8 : decode cL_signs 8 = .ok (.istore 9, 2) := by decide +kernel
theorem dL_signs_10 : decode cL_signs 10 = .ok (.aload 4, 2) := by decide +kernel
theorem dL_signs_12 : decode cL_signs 12 = .ok (.iconst 5, 1) := by decide +kernel
theorem dL_signs_13 : decode cL_signs 13 = .ok (.iload 6, 2) := by decide +kernel
theorem dL_signs_15 : decode cL_signs 15 = .ok (.imul, 1) := by decide +kernel
theorem dL_signs_16 : decode cL_signs 16 = .ok (.iload 7, 2) := by decide +kernel
theorem dL_signs_18 : decode cL_signs 18 = .ok (.iadd, 1) := by decide +kernel
theorem dL_signs_19 : decode cL_signs 19 = .ok (.iaload, 1) := by decide +kernel
theorem dL_signs_20 : decode cL_signs 20 = .ok (.ifCond .lt 51, 3) := by decide +kernel
theorem dL_signs_23 : decode cL_signs 23 = .ok (.aload_n 0, 1) := by decide +kernel
theorem dL_signs_24 : decode cL_signs 24 = .ok (.iload 6, 2) := by decide +kernel
theorem dL_signs_26 : decode cL_signs 26 = .ok (.invokestatic 108, 3) := by decide +kernel
theorem dL_signs_29 : decode cL_signs 29 = .ok (.iconst 1, 1) := by decide +kernel
theorem dL_signs_30 : decode cL_signs 30 = .ok (.if_icmp .ne 41, 3) := by decide +kernel
theorem dL_signs_33 : decode cL_signs 33 = .ok (.aload_n 0, 1) := by decide +kernel
theorem dL_signs_34 : decode cL_signs 34 = .ok (.iload 6, 2) := by decide +kernel
theorem dL_signs_36 : decode cL_signs 36 = .ok (.iload 7, 2) := by decide +kernel
theorem dL_signs_38 : decode cL_signs 38 = .ok (.invokestatic 125, 3) := by decide +kernel
theorem dL_signs_41 : decode cL_signs 41 = .ok (.ifCond .ne 30, 3) := by decide +kernel
theorem dL_signs_44 : decode cL_signs 44 = .ok (.aload_n 2, 1) := by decide +kernel
theorem dL_signs_45 : decode cL_signs 45 = .ok (.iload 7, 2) := by decide +kernel
theorem dL_signs_47 : decode cL_signs 47 = .ok (.iaload, 1) := by decide +kernel
theorem dL_signs_48 : decode cL_signs 48 = .ok (.i2l, 1) := by decide +kernel
theorem dL_signs_49 : decode cL_signs 49 = .ok (.iload 9, 2) := by decide +kernel
theorem dL_signs_51 : decode cL_signs 51 = .ok (.invokestatic 149, 3) := by decide +kernel
theorem dL_signs_54 : decode cL_signs 54 = .ok (.i2l, 1) := by decide +kernel
theorem dL_signs_55 : decode cL_signs 55 = .ok (.lmul, 1) := by decide +kernel
theorem dL_signs_56 : decode cL_signs 56 = .ok (.aload_n 2, 1) := by decide +kernel
theorem dL_signs_57 : decode cL_signs 57 = .ok (.iconst 5, 1) := by decide +kernel
theorem dL_signs_58 : decode cL_signs 58 = .ok (.iload 8, 2) := by decide +kernel
theorem dL_signs_60 : decode cL_signs 60 = .ok (.iadd, 1) := by decide +kernel
theorem dL_signs_61 : decode cL_signs 61 = .ok (.iaload, 1) := by decide +kernel
theorem dL_signs_62 : decode cL_signs 62 = .ok (.i2l, 1) := by decide +kernel
theorem dL_signs_63 : decode cL_signs 63 = .ok (.lcmp, 1) := by decide +kernel
theorem dL_signs_64 : decode cL_signs 64 = .ok (.ifCond .gt 7, 3) := by decide +kernel
theorem dL_signs_67 : decode cL_signs 67 = .ok (.iconst 1, 1) := by decide +kernel
theorem dL_signs_68 : decode cL_signs 68 = .ok (.goto 4, 3) := by decide +kernel
theorem dL_signs_71 : decode cL_signs 71 = .ok (.iconst 0, 1) := by decide +kernel
theorem dL_signs_72 : decode cL_signs 72 = .ok (.istore 10, 2) := by decide +kernel
theorem dL_signs_74 : decode cL_signs 74 = .ok (.aload 4, 2) := by decide +kernel
theorem dL_signs_76 : decode cL_signs 76 = .ok (.iconst 5, 1) := by decide +kernel
theorem dL_signs_77 : decode cL_signs 77 = .ok (.iload 6, 2) := by decide +kernel
theorem dL_signs_79 : decode cL_signs 79 = .ok (.imul, 1) := by decide +kernel
theorem dL_signs_80 : decode cL_signs 80 = .ok (.iload 7, 2) := by decide +kernel
theorem dL_signs_82 : decode cL_signs 82 = .ok (.iadd, 1) := by decide +kernel
theorem dL_signs_83 : decode cL_signs 83 = .ok (.iaload, 1) := by decide +kernel
theorem dL_signs_84 : decode cL_signs 84 = .ok (.ifCond .ge 8, 3) := by decide +kernel
theorem dL_signs_87 : decode cL_signs 87 = .ok (.ldc 21, 2) := by decide +kernel
theorem dL_signs_89 : decode cL_signs 89 = .ok (.goto 15, 3) := by decide +kernel
theorem dL_signs_92 : decode cL_signs 92 = .ok (.iload 10, 2) := by decide +kernel
theorem dL_signs_94 : decode cL_signs 94 = .ok (.ifCond .eq 8, 3) := by decide +kernel
theorem dL_signs_97 : decode cL_signs 97 = .ok (.iload 9, 2) := by decide +kernel
theorem dL_signs_99 : decode cL_signs 99 = .ok (.goto 5, 3) := by decide +kernel
theorem dL_signs_102 : decode cL_signs 102 = .ok (.ldc 31, 2) := by decide +kernel
theorem dL_signs_104 : decode cL_signs 104 = .ok (.istore 11, 2) := by decide +kernel
theorem dL_signs_106 : decode cL_signs 106 = .ok (.aload_n 0, 1) := by decide +kernel
theorem dL_signs_107 : decode cL_signs 107 = .ok (.iload 6, 2) := by decide +kernel
theorem dL_signs_109 : decode cL_signs 109 = .ok (.iload 7, 2) := by decide +kernel
theorem dL_signs_111 : decode cL_signs 111 = .ok (.iload 8, 2) := by decide +kernel
theorem dL_signs_113 : decode cL_signs 113 = .ok (.invokestatic 131, 3) := by decide +kernel
theorem dL_signs_116 : decode cL_signs 116 = .ok (.iload 11, 2) := by decide +kernel
theorem dL_signs_118 : decode cL_signs 118 = .ok (.if_icmp .ne 37, 3) := by decide +kernel
theorem dL_signs_121 : decode cL_signs 121 = .ok (.aload_n 1, 1) := by decide +kernel
theorem dL_signs_122 : decode cL_signs 122 = .ok (.iload 6, 2) := by decide +kernel
theorem dL_signs_124 : decode cL_signs 124 = .ok (.iload 7, 2) := by decide +kernel
theorem dL_signs_126 : decode cL_signs 126 = .ok (.iload 8, 2) := by decide +kernel
theorem dL_signs_128 : decode cL_signs 128 = .ok (.invokestatic 131, 3) := by decide +kernel
theorem dL_signs_131 : decode cL_signs 131 = .ok (.iload 11, 2) := by decide +kernel
theorem dL_signs_133 : decode cL_signs 133 = .ok (.if_icmp .ne 22, 3) := by decide +kernel
theorem dL_signs_136 : decode cL_signs 136 = .ok (.aload_n 0, 1) := by decide +kernel
theorem dL_signs_137 : decode cL_signs 137 = .ok (.iload 6, 2) := by decide +kernel
theorem dL_signs_139 : decode cL_signs 139 = .ok (.iload 7, 2) := by decide +kernel
theorem dL_signs_141 : decode cL_signs 141 = .ok (.bipush 6, 2) := by decide +kernel
theorem dL_signs_143 : decode cL_signs 143 = .ok (.invokestatic 131, 3) := by decide +kernel
theorem dL_signs_146 : decode cL_signs 146 = .ok (.ldc 18, 2) := by decide +kernel
theorem dL_signs_148 : decode cL_signs 148 = .ok (.if_icmp .ne 7, 3) := by decide +kernel
theorem dL_signs_151 : decode cL_signs 151 = .ok (.iconst 1, 1) := by decide +kernel
theorem dL_signs_152 : decode cL_signs 152 = .ok (.goto 4, 3) := by decide +kernel
theorem dL_signs_155 : decode cL_signs 155 = .ok (.iconst 0, 1) := by decide +kernel
theorem dL_signs_156 : decode cL_signs 156 = .ok (.istore 12, 2) := by decide +kernel
theorem dL_signs_158 : decode cL_signs 158 = .ok (.iload 10, 2) := by decide +kernel
theorem dL_signs_160 : decode cL_signs 160 = .ok (.ifCond .ne 6, 3) := by decide +kernel
theorem dL_signs_163 : decode cL_signs 163 = .ok (.iload 12, 2) := by decide +kernel
theorem dL_signs_165 : decode cL_signs 165 = .ok (.ireturn, 1) := by decide +kernel
theorem dL_signs_166 : decode cL_signs 166 = .ok (.aload 5, 2) := by decide +kernel
theorem dL_signs_168 : decode cL_signs 168 = .ok (.iconst 2, 1) := by decide +kernel
theorem dL_signs_169 : decode cL_signs 169 = .ok (.aload_n 3, 1) := by decide +kernel
theorem dL_signs_170 : decode cL_signs 170 = .ok (.iload 6, 2) := by decide +kernel
theorem dL_signs_172 : decode cL_signs 172 = .ok (.iaload, 1) := by decide +kernel
theorem dL_signs_173 : decode cL_signs 173 = .ok (.iconst 4, 1) := by decide +kernel
theorem dL_signs_174 : decode cL_signs 174 = .ok (.idiv, 1) := by decide +kernel
theorem dL_signs_175 : decode cL_signs 175 = .ok (.imul, 1) := by decide +kernel
theorem dL_signs_176 : decode cL_signs 176 = .ok (.dup2, 1) := by decide +kernel
theorem dL_signs_177 : decode cL_signs 177 = .ok (.iaload, 1) := by decide +kernel
theorem dL_signs_178 : decode cL_signs 178 = .ok (.iconst 1, 1) := by decide +kernel
theorem dL_signs_179 : decode cL_signs 179 = .ok (.iadd, 1) := by decide +kernel
theorem dL_signs_180 : decode cL_signs 180 = .ok (.iastore, 1) := by decide +kernel
theorem dL_signs_181 : decode cL_signs 181 = .ok (.aload 5, 2) := by decide +kernel
theorem dL_signs_183 : decode cL_signs 183 = .ok (.iconst 2, 1) := by decide +kernel
theorem dL_signs_184 : decode cL_signs 184 = .ok (.aload_n 3, 1) := by decide +kernel
theorem dL_signs_185 : decode cL_signs 185 = .ok (.iload 6, 2) := by decide +kernel
theorem dL_signs_187 : decode cL_signs 187 = .ok (.iaload, 1) := by decide +kernel
theorem dL_signs_188 : decode cL_signs 188 = .ok (.iconst 4, 1) := by decide +kernel
theorem dL_signs_189 : decode cL_signs 189 = .ok (.idiv, 1) := by decide +kernel
theorem dL_signs_190 : decode cL_signs 190 = .ok (.imul, 1) := by decide +kernel
theorem dL_signs_191 : decode cL_signs 191 = .ok (.iconst 1, 1) := by decide +kernel
theorem dL_signs_192 : decode cL_signs 192 = .ok (.iadd, 1) := by decide +kernel
theorem dL_signs_193 : decode cL_signs 193 = .ok (.dup2, 1) := by decide +kernel
theorem dL_signs_194 : decode cL_signs 194 = .ok (.iaload, 1) := by decide +kernel
theorem dL_signs_195 : decode cL_signs 195 = .ok (.iload 9, 2) := by decide +kernel
theorem dL_signs_197 : decode cL_signs 197 = .ok (.ifCond .ne 7, 3) := by decide +kernel
theorem dL_signs_200 : decode cL_signs 200 = .ok (.iconst 1, 1) := by decide +kernel
theorem dL_signs_201 : decode cL_signs 201 = .ok (.goto 4, 3) := by decide +kernel
theorem dL_signs_204 : decode cL_signs 204 = .ok (.iconst 0, 1) := by decide +kernel
theorem dL_signs_205 : decode cL_signs 205 = .ok (.iadd, 1) := by decide +kernel
theorem dL_signs_206 : decode cL_signs 206 = .ok (.iastore, 1) := by decide +kernel
theorem dL_signs_207 : decode cL_signs 207 = .ok (.iload 12, 2) := by decide +kernel
theorem dL_signs_209 : decode cL_signs 209 = .ok (.ifCond .eq 61, 3) := by decide +kernel
theorem dL_signs_212 : decode cL_signs 212 = .ok (.aload_n 0, 1) := by decide +kernel
theorem dL_signs_213 : decode cL_signs 213 = .ok (.iload 6, 2) := by decide +kernel
theorem dL_signs_215 : decode cL_signs 215 = .ok (.iload 7, 2) := by decide +kernel
theorem dL_signs_217 : decode cL_signs 217 = .ok (.invokestatic 125, 3) := by decide +kernel
theorem dL_signs_220 : decode cL_signs 220 = .ok (.iconst 1, 1) := by decide +kernel
theorem dL_signs_221 : decode cL_signs 221 = .ok (.if_icmp .ne 49, 3) := by decide +kernel
theorem dL_signs_224 : decode cL_signs 224 = .ok (.aload_n 0, 1) := by decide +kernel
theorem dL_signs_225 : decode cL_signs 225 = .ok (.iload 6, 2) := by decide +kernel
theorem dL_signs_227 : decode cL_signs 227 = .ok (.iload 7, 2) := by decide +kernel
theorem dL_signs_229 : decode cL_signs 229 = .ok (.invokestatic 129, 3) := by decide +kernel
theorem dL_signs_232 : decode cL_signs 232 = .ok (.iload 9, 2) := by decide +kernel
theorem dL_signs_234 : decode cL_signs 234 = .ok (.if_icmp .ne 36, 3) := by decide +kernel
theorem dL_signs_237 : decode cL_signs 237 = .ok (.aload_n 0, 1) := by decide +kernel
theorem dL_signs_238 : decode cL_signs 238 = .ok (.aload_n 3, 1) := by decide +kernel
theorem dL_signs_239 : decode cL_signs 239 = .ok (.iload 6, 2) := by decide +kernel
theorem dL_signs_241 : decode cL_signs 241 = .ok (.iaload, 1) := by decide +kernel
theorem dL_signs_242 : decode cL_signs 242 = .ok (.iload 7, 2) := by decide +kernel
theorem dL_signs_244 : decode cL_signs 244 = .ok (.aload_n 0, 1) := by decide +kernel
theorem dL_signs_245 : decode cL_signs 245 = .ok (.iload 6, 2) := by decide +kernel
theorem dL_signs_247 : decode cL_signs 247 = .ok (.invokestatic 105, 3) := by decide +kernel
theorem dL_signs_250 : decode cL_signs 250 = .ok (.invokestatic 102, 3) := by decide +kernel
theorem dL_signs_253 : decode cL_signs 253 = .ok (.aload 4, 2) := by decide +kernel
theorem dL_signs_255 : decode cL_signs 255 = .ok (.iconst 5, 1) := by decide +kernel
theorem dL_signs_256 : decode cL_signs 256 = .ok (.iload 6, 2) := by decide +kernel
theorem dL_signs_258 : decode cL_signs 258 = .ok (.imul, 1) := by decide +kernel
theorem dL_signs_259 : decode cL_signs 259 = .ok (.iload 7, 2) := by decide +kernel
theorem dL_signs_261 : decode cL_signs 261 = .ok (.iadd, 1) := by decide +kernel
theorem dL_signs_262 : decode cL_signs 262 = .ok (.iaload, 1) := by decide +kernel
theorem dL_signs_263 : decode cL_signs 263 = .ok (.if_icmp .ne 7, 3) := by decide +kernel
theorem dL_signs_266 : decode cL_signs 266 = .ok (.iconst 1, 1) := by decide +kernel
theorem dL_signs_267 : decode cL_signs 267 = .ok (.goto 4, 3) := by decide +kernel
theorem dL_signs_270 : decode cL_signs 270 = .ok (.iconst 0, 1) := by decide +kernel
theorem dL_signs_271 : decode cL_signs 271 = .ok (.ireturn, 1) := by decide +kernel
theorem dL_settles_0 : decode cL_settles 0 = .ok (.aload_n 0, 1) := by decide +kernel
theorem dL_settles_1 : decode cL_settles 1 = .ok (.iload 6, 2) := by decide +kernel
theorem dL_settles_3 : decode cL_settles 3 = .ok (.iload 7, 2) := by decide +kernel
theorem dL_settles_5 : decode cL_settles 5 = .ok (.invokestatic 127, 3) := by decide +kernel
theorem dL_settles_8 : decode cL_settles 8 = .ok (.istore 9, 2) := by decide +kernel
theorem dL_settles_10 : decode cL_settles 10 = .ok (.iload 9, 2) := by decide +kernel
theorem dL_settles_12 : decode cL_settles 12 = .ok (.ifCond .ge 100, 3) := by decide +kernel
theorem dL_settles_15 : decode cL_settles 15 = .ok (.iload 8, 2) := by decide +kernel
theorem dL_settles_17 : decode cL_settles 17 = .ok (.aload 5, 2) := by decide +kernel
theorem dL_settles_19 : decode cL_settles 19 = .ok (.iconst 2, 1) := by decide +kernel
theorem dL_settles_20 : decode cL_settles 20 = .ok (.iaload, 1) := by decide +kernel
theorem dL_settles_21 : decode cL_settles 21 = .ok (.invokestatic 143, 3) := by decide +kernel
theorem dL_settles_24 : decode cL_settles 24 = .ok (.istore 9, 2) := by decide +kernel
theorem dL_settles_26 : decode cL_settles 26 = .ok (.aload_n 3, 1) := by decide +kernel
theorem dL_settles_27 : decode cL_settles 27 = .ok (.iconst 5, 1) := by decide +kernel
theorem dL_settles_28 : decode cL_settles 28 = .ok (.iload 6, 2) := by decide +kernel
theorem dL_settles_30 : decode cL_settles 30 = .ok (.imul, 1) := by decide +kernel
theorem dL_settles_31 : decode cL_settles 31 = .ok (.iload 7, 2) := by decide +kernel
theorem dL_settles_33 : decode cL_settles 33 = .ok (.iadd, 1) := by decide +kernel
theorem dL_settles_34 : decode cL_settles 34 = .ok (.iaload, 1) := by decide +kernel
theorem dL_settles_35 : decode cL_settles 35 = .ok (.ifCond .lt 15, 3) := by decide +kernel
theorem dL_settles_38 : decode cL_settles 38 = .ok (.aload_n 3, 1) := by decide +kernel
theorem dL_settles_39 : decode cL_settles 39 = .ok (.iconst 5, 1) := by decide +kernel
theorem dL_settles_40 : decode cL_settles 40 = .ok (.iload 9, 2) := by decide +kernel
theorem dL_settles_42 : decode cL_settles 42 = .ok (.imul, 1) := by decide +kernel
theorem dL_settles_43 : decode cL_settles 43 = .ok (.iload 7, 2) := by decide +kernel
theorem dL_settles_45 : decode cL_settles 45 = .ok (.iadd, 1) := by decide +kernel
theorem dL_settles_46 : decode cL_settles 46 = .ok (.iaload, 1) := by decide +kernel
theorem dL_settles_47 : decode cL_settles 47 = .ok (.ifCond .ge 8, 3) := by decide +kernel
theorem dL_settles_50 : decode cL_settles 50 = .ok (.ldc 21, 2) := by decide +kernel
theorem dL_settles_52 : decode cL_settles 52 = .ok (.goto 5, 3) := by decide +kernel
theorem dL_settles_55 : decode cL_settles 55 = .ok (.ldc 31, 2) := by decide +kernel
theorem dL_settles_57 : decode cL_settles 57 = .ok (.istore 10, 2) := by decide +kernel
theorem dL_settles_59 : decode cL_settles 59 = .ok (.aload_n 0, 1) := by decide +kernel
theorem dL_settles_60 : decode cL_settles 60 = .ok (.iload 6, 2) := by decide +kernel
theorem dL_settles_62 : decode cL_settles 62 = .ok (.iload 9, 2) := by decide +kernel
theorem dL_settles_64 : decode cL_settles 64 = .ok (.iload 7, 2) := by decide +kernel
theorem dL_settles_66 : decode cL_settles 66 = .ok (.invokestatic 152, 3) := by decide +kernel
theorem dL_settles_69 : decode cL_settles 69 = .ok (.iload 10, 2) := by decide +kernel
theorem dL_settles_71 : decode cL_settles 71 = .ok (.if_icmp .ne 39, 3) := by decide +kernel
theorem dL_settles_74 : decode cL_settles 74 = .ok (.aload_n 1, 1) := by decide +kernel
theorem dL_settles_75 : decode cL_settles 75 = .ok (.iload 6, 2) := by decide +kernel
theorem dL_settles_77 : decode cL_settles 77 = .ok (.iload 9, 2) := by decide +kernel
theorem dL_settles_79 : decode cL_settles 79 = .ok (.iload 7, 2) := by decide +kernel
theorem dL_settles_81 : decode cL_settles 81 = .ok (.invokestatic 152, 3) := by decide +kernel
theorem dL_settles_84 : decode cL_settles 84 = .ok (.iload 10, 2) := by decide +kernel
theorem dL_settles_86 : decode cL_settles 86 = .ok (.if_icmp .ne 24, 3) := by decide +kernel
theorem dL_settles_89 : decode cL_settles 89 = .ok (.aload_n 0, 1) := by decide +kernel
theorem dL_settles_90 : decode cL_settles 90 = .ok (.iload 6, 2) := by decide +kernel
theorem dL_settles_92 : decode cL_settles 92 = .ok (.aload 5, 2) := by decide +kernel
theorem dL_settles_94 : decode cL_settles 94 = .ok (.iconst 2, 1) := by decide +kernel
theorem dL_settles_95 : decode cL_settles 95 = .ok (.iaload, 1) := by decide +kernel
theorem dL_settles_96 : decode cL_settles 96 = .ok (.iload 7, 2) := by decide +kernel
theorem dL_settles_98 : decode cL_settles 98 = .ok (.invokestatic 152, 3) := by decide +kernel
theorem dL_settles_101 : decode cL_settles 101 = .ok (.ldc 18, 2) := by decide +kernel
theorem dL_settles_103 : decode cL_settles 103 = .ok (.if_icmp .ne 7, 3) := by decide +kernel
theorem dL_settles_106 : decode cL_settles 106 = .ok (.iconst 1, 1) := by decide +kernel
theorem dL_settles_107 : decode cL_settles 107 = .ok (.goto 4, 3) := by decide +kernel
theorem dL_settles_110 : decode cL_settles 110 = .ok (.iconst 0, 1) := by decide +kernel
theorem dL_settles_111 : decode cL_settles 111 = .ok (.ireturn, 1) := by decide +kernel
theorem dL_settles_112 : decode cL_settles 112 = .ok (.aload_n 0, 1) := by decide +kernel
theorem dL_settles_113 : decode cL_settles 113 = .ok (.iload 6, 2) := by decide +kernel
theorem dL_settles_115 : decode cL_settles 115 = .ok (.iload 7, 2) := by decide +kernel
theorem dL_settles_117 : decode cL_settles 117 = .ok (.invokestatic 129, 3) := by decide +kernel
theorem dL_settles_120 : decode cL_settles 120 = .ok (.invokestatic 149, 3) := by decide +kernel
theorem dL_settles_123 : decode cL_settles 123 = .ok (.istore 10, 2) := by decide +kernel
theorem dL_settles_125 : decode cL_settles 125 = .ok (.aload_n 0, 1) := by decide +kernel
theorem dL_settles_126 : decode cL_settles 126 = .ok (.iload 6, 2) := by decide +kernel
theorem dL_settles_128 : decode cL_settles 128 = .ok (.iload 9, 2) := by decide +kernel
theorem dL_settles_130 : decode cL_settles 130 = .ok (.iload 7, 2) := by decide +kernel
theorem dL_settles_132 : decode cL_settles 132 = .ok (.invokestatic 152, 3) := by decide +kernel
theorem dL_settles_135 : decode cL_settles 135 = .ok (.iload 10, 2) := by decide +kernel
theorem dL_settles_137 : decode cL_settles 137 = .ok (.if_icmp .ne 66, 3) := by decide +kernel
theorem dL_settles_140 : decode cL_settles 140 = .ok (.aload_n 1, 1) := by decide +kernel
theorem dL_settles_141 : decode cL_settles 141 = .ok (.iload 6, 2) := by decide +kernel
theorem dL_settles_143 : decode cL_settles 143 = .ok (.iload 9, 2) := by decide +kernel
theorem dL_settles_145 : decode cL_settles 145 = .ok (.iload 7, 2) := by decide +kernel
theorem dL_settles_147 : decode cL_settles 147 = .ok (.invokestatic 152, 3) := by decide +kernel
theorem dL_settles_150 : decode cL_settles 150 = .ok (.iload 10, 2) := by decide +kernel
theorem dL_settles_152 : decode cL_settles 152 = .ok (.if_icmp .ne 51, 3) := by decide +kernel
theorem dL_settles_155 : decode cL_settles 155 = .ok (.iload 10, 2) := by decide +kernel
theorem dL_settles_157 : decode cL_settles 157 = .ok (.ifCond .le 46, 3) := by decide +kernel
theorem dL_settles_160 : decode cL_settles 160 = .ok (.aload_n 0, 1) := by decide +kernel
theorem dL_settles_161 : decode cL_settles 161 = .ok (.iload 6, 2) := by decide +kernel
theorem dL_settles_163 : decode cL_settles 163 = .ok (.iload 7, 2) := by decide +kernel
theorem dL_settles_165 : decode cL_settles 165 = .ok (.invokestatic 125, 3) := by decide +kernel
theorem dL_settles_168 : decode cL_settles 168 = .ok (.iconst 1, 1) := by decide +kernel
theorem dL_settles_169 : decode cL_settles 169 = .ok (.if_icmp .ne 34, 3) := by decide +kernel
theorem dL_settles_172 : decode cL_settles 172 = .ok (.aload_n 0, 1) := by decide +kernel
theorem dL_settles_173 : decode cL_settles 173 = .ok (.iload 9, 2) := by decide +kernel
theorem dL_settles_175 : decode cL_settles 175 = .ok (.iload 7, 2) := by decide +kernel
theorem dL_settles_177 : decode cL_settles 177 = .ok (.invokestatic 125, 3) := by decide +kernel
theorem dL_settles_180 : decode cL_settles 180 = .ok (.iconst 1, 1) := by decide +kernel
theorem dL_settles_181 : decode cL_settles 181 = .ok (.if_icmp .ne 22, 3) := by decide +kernel
theorem dL_settles_184 : decode cL_settles 184 = .ok (.aload_n 0, 1) := by decide +kernel
theorem dL_settles_185 : decode cL_settles 185 = .ok (.iload 9, 2) := by decide +kernel
theorem dL_settles_187 : decode cL_settles 187 = .ok (.iload 6, 2) := by decide +kernel
theorem dL_settles_189 : decode cL_settles 189 = .ok (.iload 7, 2) := by decide +kernel
theorem dL_settles_191 : decode cL_settles 191 = .ok (.invokestatic 152, 3) := by decide +kernel
theorem dL_settles_194 : decode cL_settles 194 = .ok (.ldc 31, 2) := by decide +kernel
theorem dL_settles_196 : decode cL_settles 196 = .ok (.if_icmp .ne 7, 3) := by decide +kernel
theorem dL_settles_199 : decode cL_settles 199 = .ok (.iconst 1, 1) := by decide +kernel
theorem dL_settles_200 : decode cL_settles 200 = .ok (.goto 4, 3) := by decide +kernel
theorem dL_settles_203 : decode cL_settles 203 = .ok (.iconst 0, 1) := by decide +kernel
theorem dL_settles_204 : decode cL_settles 204 = .ok (.istore 11, 2) := by decide +kernel
theorem dL_settles_206 : decode cL_settles 206 = .ok (.aload 4, 2) := by decide +kernel
theorem dL_settles_208 : decode cL_settles 208 = .ok (.iconst 2, 1) := by decide +kernel
theorem dL_settles_209 : decode cL_settles 209 = .ok (.aload_n 2, 1) := by decide +kernel
theorem dL_settles_210 : decode cL_settles 210 = .ok (.iload 6, 2) := by decide +kernel
theorem dL_settles_212 : decode cL_settles 212 = .ok (.iaload, 1) := by decide +kernel
theorem dL_settles_213 : decode cL_settles 213 = .ok (.iconst 4, 1) := by decide +kernel
theorem dL_settles_214 : decode cL_settles 214 = .ok (.idiv, 1) := by decide +kernel
theorem dL_settles_215 : decode cL_settles 215 = .ok (.imul, 1) := by decide +kernel
theorem dL_settles_216 : decode cL_settles 216 = .ok (.dup2, 1) := by decide +kernel
theorem dL_settles_217 : decode cL_settles 217 = .ok (.iaload, 1) := by decide +kernel
theorem dL_settles_218 : decode cL_settles 218 = .ok (.iconst 1, 1) := by decide +kernel
theorem dL_settles_219 : decode cL_settles 219 = .ok (.iadd, 1) := by decide +kernel
theorem dL_settles_220 : decode cL_settles 220 = .ok (.iastore, 1) := by decide +kernel
theorem dL_settles_221 : decode cL_settles 221 = .ok (.aload 4, 2) := by decide +kernel
theorem dL_settles_223 : decode cL_settles 223 = .ok (.iconst 2, 1) := by decide +kernel
theorem dL_settles_224 : decode cL_settles 224 = .ok (.aload_n 2, 1) := by decide +kernel
theorem dL_settles_225 : decode cL_settles 225 = .ok (.iload 9, 2) := by decide +kernel
theorem dL_settles_227 : decode cL_settles 227 = .ok (.iaload, 1) := by decide +kernel
theorem dL_settles_228 : decode cL_settles 228 = .ok (.iconst 4, 1) := by decide +kernel
theorem dL_settles_229 : decode cL_settles 229 = .ok (.idiv, 1) := by decide +kernel
theorem dL_settles_230 : decode cL_settles 230 = .ok (.imul, 1) := by decide +kernel
theorem dL_settles_231 : decode cL_settles 231 = .ok (.dup2, 1) := by decide +kernel
theorem dL_settles_232 : decode cL_settles 232 = .ok (.iaload, 1) := by decide +kernel
theorem dL_settles_233 : decode cL_settles 233 = .ok (.iconst 1, 1) := by decide +kernel
theorem dL_settles_234 : decode cL_settles 234 = .ok (.iadd, 1) := by decide +kernel
theorem dL_settles_235 : decode cL_settles 235 = .ok (.iastore, 1) := by decide +kernel
theorem dL_settles_236 : decode cL_settles 236 = .ok (.iload 11, 2) := by decide +kernel
theorem dL_settles_238 : decode cL_settles 238 = .ok (.ifCond .eq 63, 3) := by decide +kernel
theorem dL_settles_241 : decode cL_settles 241 = .ok (.aload_n 0, 1) := by decide +kernel
theorem dL_settles_242 : decode cL_settles 242 = .ok (.aload_n 2, 1) := by decide +kernel
theorem dL_settles_243 : decode cL_settles 243 = .ok (.iload 6, 2) := by decide +kernel
theorem dL_settles_245 : decode cL_settles 245 = .ok (.iaload, 1) := by decide +kernel
theorem dL_settles_246 : decode cL_settles 246 = .ok (.iload 7, 2) := by decide +kernel
theorem dL_settles_248 : decode cL_settles 248 = .ok (.aload_n 0, 1) := by decide +kernel
theorem dL_settles_249 : decode cL_settles 249 = .ok (.iload 6, 2) := by decide +kernel
theorem dL_settles_251 : decode cL_settles 251 = .ok (.invokestatic 105, 3) := by decide +kernel
theorem dL_settles_254 : decode cL_settles 254 = .ok (.invokestatic 102, 3) := by decide +kernel
theorem dL_settles_257 : decode cL_settles 257 = .ok (.aload_n 3, 1) := by decide +kernel
theorem dL_settles_258 : decode cL_settles 258 = .ok (.iconst 5, 1) := by decide +kernel
theorem dL_settles_259 : decode cL_settles 259 = .ok (.iload 6, 2) := by decide +kernel
theorem dL_settles_261 : decode cL_settles 261 = .ok (.imul, 1) := by decide +kernel
theorem dL_settles_262 : decode cL_settles 262 = .ok (.iload 7, 2) := by decide +kernel
theorem dL_settles_264 : decode cL_settles 264 = .ok (.iadd, 1) := by decide +kernel
theorem dL_settles_265 : decode cL_settles 265 = .ok (.iaload, 1) := by decide +kernel
theorem dL_settles_266 : decode cL_settles 266 = .ok (.if_icmp .ne 35, 3) := by decide +kernel
theorem dL_settles_269 : decode cL_settles 269 = .ok (.aload_n 0, 1) := by decide +kernel
theorem dL_settles_270 : decode cL_settles 270 = .ok (.aload_n 2, 1) := by decide +kernel
theorem dL_settles_271 : decode cL_settles 271 = .ok (.iload 9, 2) := by decide +kernel
theorem dL_settles_273 : decode cL_settles 273 = .ok (.iaload, 1) := by decide +kernel
theorem dL_settles_274 : decode cL_settles 274 = .ok (.iload 7, 2) := by decide +kernel
theorem dL_settles_276 : decode cL_settles 276 = .ok (.aload_n 0, 1) := by decide +kernel
theorem dL_settles_277 : decode cL_settles 277 = .ok (.iload 9, 2) := by decide +kernel
theorem dL_settles_279 : decode cL_settles 279 = .ok (.invokestatic 105, 3) := by decide +kernel
theorem dL_settles_282 : decode cL_settles 282 = .ok (.invokestatic 102, 3) := by decide +kernel
theorem dL_settles_285 : decode cL_settles 285 = .ok (.aload_n 3, 1) := by decide +kernel
theorem dL_settles_286 : decode cL_settles 286 = .ok (.iconst 5, 1) := by decide +kernel
theorem dL_settles_287 : decode cL_settles 287 = .ok (.iload 9, 2) := by decide +kernel
theorem dL_settles_289 : decode cL_settles 289 = .ok (.imul, 1) := by decide +kernel
theorem dL_settles_290 : decode cL_settles 290 = .ok (.iload 7, 2) := by decide +kernel
theorem dL_settles_292 : decode cL_settles 292 = .ok (.iadd, 1) := by decide +kernel
theorem dL_settles_293 : decode cL_settles 293 = .ok (.iaload, 1) := by decide +kernel
theorem dL_settles_294 : decode cL_settles 294 = .ok (.if_icmp .ne 7, 3) := by decide +kernel
theorem dL_settles_297 : decode cL_settles 297 = .ok (.iconst 1, 1) := by decide +kernel
theorem dL_settles_298 : decode cL_settles 298 = .ok (.goto 4, 3) := by decide +kernel
theorem dL_settles_301 : decode cL_settles 301 = .ok (.iconst 0, 1) := by decide +kernel
theorem dL_settles_302 : decode cL_settles 302 = .ok (.ireturn, 1) := by decide +kernel
end
section
theorem dL_acts_0 : decode cL_acts 0 = .ok (.iload 7, 2) := by decide +kernel
theorem dL_acts_2 : decode cL_acts 2 = .ok (.bipush 26, 2) := by decide +kernel
theorem dL_acts_4 : decode cL_acts 4 = .ok (.invokestatic 143, 3) := by decide +kernel
theorem dL_acts_7 : decode cL_acts 7 = .ok (.istore 9, 2) := by decide +kernel
theorem dL_acts_9 : decode cL_acts 9 = .ok (.iload 7, 2) := by decide +kernel
theorem dL_acts_11 : decode cL_acts 11 = .ok (.iconst 5, 1) := by decide +kernel
theorem dL_acts_12 : decode cL_acts 12 = .ok (.ishr, 1) := by decide +kernel
theorem dL_acts_13 : decode cL_acts 13 = .ok (.iconst 5, 1) := by decide +kernel
theorem dL_acts_14 : decode cL_acts 14 = .ok (.invokestatic 143, 3) := by decide +kernel
theorem dL_acts_17 : decode cL_acts 17 = .ok (.istore 10, 2) := by decide +kernel
theorem dL_acts_19 : decode cL_acts 19 = .ok (.iload 8, 2) := by decide +kernel
theorem dL_acts_21 : decode cL_acts 21 = .ok (.iconst 3, 1) := by decide +kernel
theorem dL_acts_22 : decode cL_acts 22 = .ok (.ishr, 1) := by decide +kernel
theorem dL_acts_23 : decode cL_acts 23 = .ok (.bipush 6, 2) := by decide +kernel
theorem dL_acts_25 : decode cL_acts 25 = .ok (.invokestatic 143, 3) := by decide +kernel
theorem dL_acts_28 : decode cL_acts 28 = .ok (.istore 11, 2) := by decide +kernel
theorem dL_acts_30 : decode cL_acts 30 = .ok (.iload 9, 2) := by decide +kernel
theorem dL_acts_32 : decode cL_acts 32 = .ok (.bipush 7, 2) := by decide +kernel
theorem dL_acts_34 : decode cL_acts 34 = .ok (.if_icmp .ge 15, 3) := by decide +kernel
theorem dL_acts_37 : decode cL_acts 37 = .ok (.aload_n 0, 1) := by decide +kernel
theorem dL_acts_38 : decode cL_acts 38 = .ok (.aload_n 1, 1) := by decide +kernel
theorem dL_acts_39 : decode cL_acts 39 = .ok (.aload 6, 2) := by decide +kernel
theorem dL_acts_41 : decode cL_acts 41 = .ok (.iload 7, 2) := by decide +kernel
theorem dL_acts_43 : decode cL_acts 43 = .ok (.iload 8, 2) := by decide +kernel
theorem dL_acts_45 : decode cL_acts 45 = .ok (.invokestatic 154, 3) := by decide +kernel
theorem dL_acts_48 : decode cL_acts 48 = .ok (.ireturn, 1) := by decide +kernel
theorem dL_acts_49 : decode cL_acts 49 = .ok (.iload 9, 2) := by decide +kernel
theorem dL_acts_51 : decode cL_acts 51 = .ok (.bipush 9, 2) := by decide +kernel
theorem dL_acts_53 : decode cL_acts 53 = .ok (.if_icmp .ge 77, 3) := by decide +kernel
theorem dL_acts_56 : decode cL_acts 56 = .ok (.iconst 1, 1) := by decide +kernel
theorem dL_acts_57 : decode cL_acts 57 = .ok (.iload 8, 2) := by decide +kernel
theorem dL_acts_59 : decode cL_acts 59 = .ok (.bipush 40, 2) := by decide +kernel
theorem dL_acts_61 : decode cL_acts 61 = .ok (.invokestatic 143, 3) := by decide +kernel
theorem dL_acts_64 : decode cL_acts 64 = .ok (.iadd, 1) := by decide +kernel
theorem dL_acts_65 : decode cL_acts 65 = .ok (.istore 12, 2) := by decide +kernel
theorem dL_acts_67 : decode cL_acts 67 = .ok (.aload 6, 2) := by decide +kernel
theorem dL_acts_69 : decode cL_acts 69 = .ok (.iconst 0, 1) := by decide +kernel
theorem dL_acts_70 : decode cL_acts 70 = .ok (.dup2, 1) := by decide +kernel
theorem dL_acts_71 : decode cL_acts 71 = .ok (.iaload, 1) := by decide +kernel
theorem dL_acts_72 : decode cL_acts 72 = .ok (.iload 12, 2) := by decide +kernel
theorem dL_acts_74 : decode cL_acts 74 = .ok (.iadd, 1) := by decide +kernel
theorem dL_acts_75 : decode cL_acts 75 = .ok (.iastore, 1) := by decide +kernel
theorem dL_acts_76 : decode cL_acts 76 = .ok (.aload_n 0, 1) := by decide +kernel
theorem dL_acts_77 : decode cL_acts 77 = .ok (.iload 12, 2) := by decide +kernel
theorem dL_acts_79 : decode cL_acts 79 = .ok (.invokestatic 157, 3) := by decide +kernel
theorem dL_acts_82 : decode cL_acts 82 = .ok (.aload 6, 2) := by decide +kernel
theorem dL_acts_84 : decode cL_acts 84 = .ok (.iconst 0, 1) := by decide +kernel
theorem dL_acts_85 : decode cL_acts 85 = .ok (.iaload, 1) := by decide +kernel
theorem dL_acts_86 : decode cL_acts 86 = .ok (.if_icmp .ne 42, 3) := by decide +kernel
theorem dL_acts_89 : decode cL_acts 89 = .ok (.aload_n 1, 1) := by decide +kernel
theorem dL_acts_90 : decode cL_acts 90 = .ok (.iload 12, 2) := by decide +kernel
theorem dL_acts_92 : decode cL_acts 92 = .ok (.invokestatic 157, 3) := by decide +kernel
theorem dL_acts_95 : decode cL_acts 95 = .ok (.aload 6, 2) := by decide +kernel
theorem dL_acts_97 : decode cL_acts 97 = .ok (.iconst 0, 1) := by decide +kernel
theorem dL_acts_98 : decode cL_acts 98 = .ok (.iaload, 1) := by decide +kernel
theorem dL_acts_99 : decode cL_acts 99 = .ok (.if_icmp .ne 29, 3) := by decide +kernel
theorem dL_acts_102 : decode cL_acts 102 = .ok (.aload_n 0, 1) := by decide +kernel
theorem dL_acts_103 : decode cL_acts 103 = .ok (.iconst 0, 1) := by decide +kernel
theorem dL_acts_104 : decode cL_acts 104 = .ok (.invokestatic 157, 3) := by decide +kernel
theorem dL_acts_107 : decode cL_acts 107 = .ok (.ldc 21, 2) := by decide +kernel
theorem dL_acts_109 : decode cL_acts 109 = .ok (.if_icmp .ne 19, 3) := by decide +kernel
theorem dL_acts_112 : decode cL_acts 112 = .ok (.aload_n 0, 1) := by decide +kernel
theorem dL_acts_113 : decode cL_acts 113 = .ok (.sipush 1001, 3) := by decide +kernel
theorem dL_acts_116 : decode cL_acts 116 = .ok (.invokestatic 157, 3) := by decide +kernel
theorem dL_acts_119 : decode cL_acts 119 = .ok (.ldc 21, 2) := by decide +kernel
theorem dL_acts_121 : decode cL_acts 121 = .ok (.if_icmp .ne 7, 3) := by decide +kernel
theorem dL_acts_124 : decode cL_acts 124 = .ok (.iconst 1, 1) := by decide +kernel
theorem dL_acts_125 : decode cL_acts 125 = .ok (.goto 4, 3) := by decide +kernel
theorem dL_acts_128 : decode cL_acts 128 = .ok (.iconst 0, 1) := by decide +kernel
theorem dL_acts_129 : decode cL_acts 129 = .ok (.ireturn, 1) := by decide +kernel
theorem dL_acts_130 : decode cL_acts 130 = .ok (.iload 9, 2) := by decide +kernel
theorem dL_acts_132 : decode cL_acts 132 = .ok (.bipush 9, 2) := by decide +kernel
theorem dL_acts_134 : decode cL_acts 134 = .ok (.if_icmp .ne 165, 3) := by decide +kernel
theorem dL_acts_137 : decode cL_acts 137 = .ok (.aload_n 2, 1) := by decide +kernel
theorem dL_acts_138 : decode cL_acts 138 = .ok (.iload 10, 2) := by decide +kernel
theorem dL_acts_140 : decode cL_acts 140 = .ok (.iaload, 1) := by decide +kernel
theorem dL_acts_141 : decode cL_acts 141 = .ok (.istore 12, 2) := by decide +kernel
theorem dL_acts_143 : decode cL_acts 143 = .ok (.aload_n 2, 1) := by decide +kernel
theorem dL_acts_144 : decode cL_acts 144 = .ok (.iconst 5, 1) := by decide +kernel
theorem dL_acts_145 : decode cL_acts 145 = .ok (.iload 11, 2) := by decide +kernel
theorem dL_acts_147 : decode cL_acts 147 = .ok (.iadd, 1) := by decide +kernel
theorem dL_acts_148 : decode cL_acts 148 = .ok (.iaload, 1) := by decide +kernel
theorem dL_acts_149 : decode cL_acts 149 = .ok (.istore 13, 2) := by decide +kernel
theorem dL_acts_151 : decode cL_acts 151 = .ok (.aload_n 2, 1) := by decide +kernel
theorem dL_acts_152 : decode cL_acts 152 = .ok (.iload 10, 2) := by decide +kernel
theorem dL_acts_154 : decode cL_acts 154 = .ok (.iload 8, 2) := by decide +kernel
theorem dL_acts_156 : decode cL_acts 156 = .ok (.bipush 6, 2) := by decide +kernel
theorem dL_acts_158 : decode cL_acts 158 = .ok (.invokestatic 143, 3) := by decide +kernel
theorem dL_acts_161 : decode cL_acts 161 = .ok (.iastore, 1) := by decide +kernel
theorem dL_acts_162 : decode cL_acts 162 = .ok (.aload_n 2, 1) := by decide +kernel
theorem dL_acts_163 : decode cL_acts 163 = .ok (.iconst 5, 1) := by decide +kernel
theorem dL_acts_164 : decode cL_acts 164 = .ok (.iload 11, 2) := by decide +kernel
theorem dL_acts_166 : decode cL_acts 166 = .ok (.iadd, 1) := by decide +kernel
theorem dL_acts_167 : decode cL_acts 167 = .ok (.iload 8, 2) := by decide +kernel
theorem dL_acts_169 : decode cL_acts 169 = .ok (.bipush 6, 2) := by decide +kernel
theorem dL_acts_171 : decode cL_acts 171 = .ok (.ishr, 1) := by decide +kernel
theorem dL_acts_172 : decode cL_acts 172 = .ok (.sipush 300, 3) := by decide +kernel
theorem dL_acts_175 : decode cL_acts 175 = .ok (.invokestatic 143, 3) := by decide +kernel
theorem dL_acts_178 : decode cL_acts 178 = .ok (.iastore, 1) := by decide +kernel
theorem dL_acts_179 : decode cL_acts 179 = .ok (.aload_n 0, 1) := by decide +kernel
theorem dL_acts_180 : decode cL_acts 180 = .ok (.iload 10, 2) := by decide +kernel
theorem dL_acts_182 : decode cL_acts 182 = .ok (.aload_n 2, 1) := by decide +kernel
theorem dL_acts_183 : decode cL_acts 183 = .ok (.iload 10, 2) := by decide +kernel
theorem dL_acts_185 : decode cL_acts 185 = .ok (.iaload, 1) := by decide +kernel
theorem dL_acts_186 : decode cL_acts 186 = .ok (.invokestatic 159, 3) := by decide +kernel
theorem dL_acts_189 : decode cL_acts 189 = .ok (.iload 12, 2) := by decide +kernel
theorem dL_acts_191 : decode cL_acts 191 = .ok (.if_icmp .ne 106, 3) := by decide +kernel
theorem dL_acts_194 : decode cL_acts 194 = .ok (.aload_n 1, 1) := by decide +kernel
theorem dL_acts_195 : decode cL_acts 195 = .ok (.iload 10, 2) := by decide +kernel
theorem dL_acts_197 : decode cL_acts 197 = .ok (.aload_n 2, 1) := by decide +kernel
theorem dL_acts_198 : decode cL_acts 198 = .ok (.iload 10, 2) := by decide +kernel
theorem dL_acts_200 : decode cL_acts 200 = .ok (.iaload, 1) := by decide +kernel
theorem dL_acts_201 : decode cL_acts 201 = .ok (.invokestatic 159, 3) := by decide +kernel
theorem dL_acts_204 : decode cL_acts 204 = .ok (.iload 12, 2) := by decide +kernel
theorem dL_acts_206 : decode cL_acts 206 = .ok (.if_icmp .ne 91, 3) := by decide +kernel
theorem dL_acts_209 : decode cL_acts 209 = .ok (.aload_n 0, 1) := by decide +kernel
theorem dL_acts_210 : decode cL_acts 210 = .ok (.iload 11, 2) := by decide +kernel
theorem dL_acts_212 : decode cL_acts 212 = .ok (.aload_n 2, 1) := by decide +kernel
theorem dL_acts_213 : decode cL_acts 213 = .ok (.iconst 5, 1) := by decide +kernel
theorem dL_acts_214 : decode cL_acts 214 = .ok (.iload 11, 2) := by decide +kernel
theorem dL_acts_216 : decode cL_acts 216 = .ok (.iadd, 1) := by decide +kernel
theorem dL_acts_217 : decode cL_acts 217 = .ok (.iaload, 1) := by decide +kernel
theorem dL_acts_218 : decode cL_acts 218 = .ok (.invokestatic 161, 3) := by decide +kernel
theorem dL_acts_221 : decode cL_acts 221 = .ok (.iload 13, 2) := by decide +kernel
theorem dL_acts_223 : decode cL_acts 223 = .ok (.if_icmp .ne 74, 3) := by decide +kernel
theorem dL_acts_226 : decode cL_acts 226 = .ok (.aload_n 1, 1) := by decide +kernel
theorem dL_acts_227 : decode cL_acts 227 = .ok (.iload 11, 2) := by decide +kernel
theorem dL_acts_229 : decode cL_acts 229 = .ok (.aload_n 2, 1) := by decide +kernel
theorem dL_acts_230 : decode cL_acts 230 = .ok (.iconst 5, 1) := by decide +kernel
theorem dL_acts_231 : decode cL_acts 231 = .ok (.iload 11, 2) := by decide +kernel
theorem dL_acts_233 : decode cL_acts 233 = .ok (.iadd, 1) := by decide +kernel
theorem dL_acts_234 : decode cL_acts 234 = .ok (.iaload, 1) := by decide +kernel
theorem dL_acts_235 : decode cL_acts 235 = .ok (.invokestatic 161, 3) := by decide +kernel
theorem dL_acts_238 : decode cL_acts 238 = .ok (.iload 13, 2) := by decide +kernel
theorem dL_acts_240 : decode cL_acts 240 = .ok (.if_icmp .ne 57, 3) := by decide +kernel
theorem dL_acts_243 : decode cL_acts 243 = .ok (.aload_n 0, 1) := by decide +kernel
theorem dL_acts_244 : decode cL_acts 244 = .ok (.iconst 0, 1) := by decide +kernel
theorem dL_acts_245 : decode cL_acts 245 = .ok (.sipush 1001, 3) := by decide +kernel
theorem dL_acts_248 : decode cL_acts 248 = .ok (.invokestatic 159, 3) := by decide +kernel
theorem dL_acts_251 : decode cL_acts 251 = .ok (.ldc 21, 2) := by decide +kernel
theorem dL_acts_253 : decode cL_acts 253 = .ok (.if_icmp .ne 44, 3) := by decide +kernel
theorem dL_acts_256 : decode cL_acts 256 = .ok (.aload_n 0, 1) := by decide +kernel
theorem dL_acts_257 : decode cL_acts 257 = .ok (.iconst 5, 1) := by decide +kernel
theorem dL_acts_258 : decode cL_acts 258 = .ok (.sipush 1001, 3) := by decide +kernel
theorem dL_acts_261 : decode cL_acts 261 = .ok (.invokestatic 159, 3) := by decide +kernel
theorem dL_acts_264 : decode cL_acts 264 = .ok (.ldc 18, 2) := by decide +kernel
theorem dL_acts_266 : decode cL_acts 266 = .ok (.if_icmp .ne 31, 3) := by decide +kernel
theorem dL_acts_269 : decode cL_acts 269 = .ok (.aload_n 0, 1) := by decide +kernel
theorem dL_acts_270 : decode cL_acts 270 = .ok (.bipush 6, 2) := by decide +kernel
theorem dL_acts_272 : decode cL_acts 272 = .ok (.iconst 0, 1) := by decide +kernel
theorem dL_acts_273 : decode cL_acts 273 = .ok (.invokestatic 161, 3) := by decide +kernel
theorem dL_acts_276 : decode cL_acts 276 = .ok (.ldc 18, 2) := by decide +kernel
theorem dL_acts_278 : decode cL_acts 278 = .ok (.if_icmp .ne 19, 3) := by decide +kernel
theorem dL_acts_281 : decode cL_acts 281 = .ok (.aload_n 0, 1) := by decide +kernel
theorem dL_acts_282 : decode cL_acts 282 = .ok (.iconst 0, 1) := by decide +kernel
theorem dL_acts_283 : decode cL_acts 283 = .ok (.ldc 163, 2) := by decide +kernel
theorem dL_acts_285 : decode cL_acts 285 = .ok (.invokestatic 161, 3) := by decide +kernel
theorem dL_acts_288 : decode cL_acts 288 = .ok (.ldc 21, 2) := by decide +kernel
theorem dL_acts_290 : decode cL_acts 290 = .ok (.if_icmp .ne 7, 3) := by decide +kernel
theorem dL_acts_293 : decode cL_acts 293 = .ok (.iconst 1, 1) := by decide +kernel
theorem dL_acts_294 : decode cL_acts 294 = .ok (.goto 4, 3) := by decide +kernel
theorem dL_acts_297 : decode cL_acts 297 = .ok (.iconst 0, 1) := by decide +kernel
theorem dL_acts_298 : decode cL_acts 298 = .ok (.ireturn, 1) := by decide +kernel
theorem dL_acts_299 : decode cL_acts 299 = .ok (.iload 9, 2) := by decide +kernel
theorem dL_acts_301 : decode cL_acts 301 = .ok (.bipush 13, 2) := by decide +kernel
theorem dL_acts_303 : decode cL_acts 303 = .ok (.if_icmp .ge 236, 3) := by decide +kernel
theorem dL_acts_306 : decode cL_acts 306 = .ok (.aload 6, 2) := by decide +kernel
theorem dL_acts_308 : decode cL_acts 308 = .ok (.iconst 2, 1) := by decide +kernel
theorem dL_acts_309 : decode cL_acts 309 = .ok (.iaload, 1) := by decide +kernel
theorem dL_acts_310 : decode cL_acts 310 = .ok (.bipush 12, 2) := by decide +kernel
theorem dL_acts_312 : decode cL_acts 312 = .ok (.if_icmp .ge 227, 3) := by decide +kernel
theorem dL_acts_315 : decode cL_acts 315 = .ok (.iload 8, 2) := by decide +kernel
theorem dL_acts_317 : decode cL_acts 317 = .ok (.iconst 4, 1) := by decide +kernel
theorem dL_acts_318 : decode cL_acts 318 = .ok (.invokestatic 143, 3) := by decide +kernel
theorem dL_acts_321 : decode cL_acts 321 = .ok (.ifCond .ne 15, 3) := by decide +kernel
theorem dL_acts_324 : decode cL_acts 324 = .ok (.iload 8, 2) := by decide +kernel
theorem dL_acts_326 : decode cL_acts 326 = .ok (.iconst 4, 1) := by decide +kernel
theorem dL_acts_327 : decode cL_acts 327 = .ok (.ishr, 1) := by decide +kernel
theorem dL_acts_328 : decode cL_acts 328 = .ok (.bipush 12, 2) := by decide +kernel
theorem dL_acts_330 : decode cL_acts 330 = .ok (.invokestatic 143, 3) := by decide +kernel
theorem dL_acts_333 : decode cL_acts 333 = .ok (.goto 11, 3) := by decide +kernel
theorem dL_acts_336 : decode cL_acts 336 = .ok (.iload 8, 2) := by decide +kernel
theorem dL_acts_338 : decode cL_acts 338 = .ok (.iconst 4, 1) := by decide +kernel
theorem dL_acts_339 : decode cL_acts 339 = .ok (.ishr, 1) := by decide +kernel
theorem dL_acts_340 : decode cL_acts 340 = .ok (.iconst 3, 1) := by decide +kernel
theorem dL_acts_341 : decode cL_acts 341 = .ok (.invokestatic 143, 3) := by decide +kernel
theorem dL_acts_344 : decode cL_acts 344 = .ok (.istore 12, 2) := by decide +kernel
theorem dL_acts_346 : decode cL_acts 346 = .ok (.iconst 0, 1) := by decide +kernel
theorem dL_acts_347 : decode cL_acts 347 = .ok (.istore 13, 2) := by decide +kernel
theorem dL_acts_349 : decode cL_acts 349 = .ok (.iconst 0, 1) := by decide +kernel
theorem dL_acts_350 : decode cL_acts 350 = .ok (.istore 14, 2) := by decide +kernel
theorem dL_acts_352 : decode cL_acts 352 = .ok (.iload 14, 2) := by decide +kernel
theorem dL_acts_354 : decode cL_acts 354 = .ok (.aload 6, 2) := by decide +kernel
theorem dL_acts_356 : decode cL_acts 356 = .ok (.iconst 2, 1) := by decide +kernel
theorem dL_acts_357 : decode cL_acts 357 = .ok (.iaload, 1) := by decide +kernel
theorem dL_acts_358 : decode cL_acts 358 = .ok (.if_icmp .ge 39, 3) := by decide +kernel
theorem dL_acts_361 : decode cL_acts 361 = .ok (.iload 13, 2) := by decide +kernel
theorem dL_acts_363 : decode cL_acts 363 = .ok (.ifCond .ne 21, 3) := by decide +kernel
theorem dL_acts_366 : decode cL_acts 366 = .ok (.aload_n 3, 1) := by decide +kernel
theorem dL_acts_367 : decode cL_acts 367 = .ok (.iload 14, 2) := by decide +kernel
theorem dL_acts_369 : decode cL_acts 369 = .ok (.iaload, 1) := by decide +kernel
theorem dL_acts_370 : decode cL_acts 370 = .ok (.iload 12, 2) := by decide +kernel
theorem dL_acts_372 : decode cL_acts 372 = .ok (.if_icmp .ne 16, 3) := by decide +kernel
theorem dL_acts_375 : decode cL_acts 375 = .ok (.aload_n 0, 1) := by decide +kernel
theorem dL_acts_376 : decode cL_acts 376 = .ok (.iload 14, 2) := by decide +kernel
theorem dL_acts_378 : decode cL_acts 378 = .ok (.invokestatic 108, 3) := by decide +kernel
theorem dL_acts_381 : decode cL_acts 381 = .ok (.ifCond .ne 7, 3) := by decide +kernel
theorem dL_acts_384 : decode cL_acts 384 = .ok (.iconst 1, 1) := by decide +kernel
theorem dL_acts_385 : decode cL_acts 385 = .ok (.goto 4, 3) := by decide +kernel
theorem dL_acts_388 : decode cL_acts 388 = .ok (.iconst 0, 1) := by decide +kernel
theorem dL_acts_389 : decode cL_acts 389 = .ok (.istore 13, 2) := by decide +kernel
theorem dL_acts_391 : decode cL_acts 391 = .ok (.iinc 14 1, 3) := by decide +kernel
theorem dL_acts_394 : decode cL_acts 394 = .ok (.goto (-42), 3) := by decide +kernel
theorem dL_acts_397 : decode cL_acts 397 = .ok (.iload 13, 2) := by decide +kernel
theorem dL_acts_399 : decode cL_acts 399 = .ok (.ifCond .eq 8, 3) := by decide +kernel
theorem dL_acts_402 : decode cL_acts 402 = .ok (.ldc 31, 2) := by decide +kernel
theorem dL_acts_404 : decode cL_acts 404 = .ok (.goto 7, 3) := by decide +kernel
theorem dL_acts_407 : decode cL_acts 407 = .ok (.aload 6, 2) := by decide +kernel
theorem dL_acts_409 : decode cL_acts 409 = .ok (.iconst 2, 1) := by decide +kernel
theorem dL_acts_410 : decode cL_acts 410 = .ok (.iaload, 1) := by decide +kernel
theorem dL_acts_411 : decode cL_acts 411 = .ok (.istore 14, 2) := by decide +kernel
theorem dL_acts_413 : decode cL_acts 413 = .ok (.iload 13, 2) := by decide +kernel
theorem dL_acts_415 : decode cL_acts 415 = .ok (.ifCond .ne 47, 3) := by decide +kernel
theorem dL_acts_418 : decode cL_acts 418 = .ok (.aload_n 3, 1) := by decide +kernel
theorem dL_acts_419 : decode cL_acts 419 = .ok (.aload 6, 2) := by decide +kernel
theorem dL_acts_421 : decode cL_acts 421 = .ok (.iconst 2, 1) := by decide +kernel
theorem dL_acts_422 : decode cL_acts 422 = .ok (.iaload, 1) := by decide +kernel
theorem dL_acts_423 : decode cL_acts 423 = .ok (.iload 12, 2) := by decide +kernel
theorem dL_acts_425 : decode cL_acts 425 = .ok (.iastore, 1) := by decide +kernel
theorem dL_acts_426 : decode cL_acts 426 = .ok (.iconst 0, 1) := by decide +kernel
theorem dL_acts_427 : decode cL_acts 427 = .ok (.istore 15, 2) := by decide +kernel
theorem dL_acts_429 : decode cL_acts 429 = .ok (.iload 15, 2) := by decide +kernel
theorem dL_acts_431 : decode cL_acts 431 = .ok (.iconst 5, 1) := by decide +kernel
theorem dL_acts_432 : decode cL_acts 432 = .ok (.if_icmp .ge 22, 3) := by decide +kernel
theorem dL_acts_435 : decode cL_acts 435 = .ok (.aload 4, 2) := by decide +kernel
theorem dL_acts_437 : decode cL_acts 437 = .ok (.iconst 5, 1) := by decide +kernel
theorem dL_acts_438 : decode cL_acts 438 = .ok (.aload 6, 2) := by decide +kernel
theorem dL_acts_440 : decode cL_acts 440 = .ok (.iconst 2, 1) := by decide +kernel
theorem dL_acts_441 : decode cL_acts 441 = .ok (.iaload, 1) := by decide +kernel
theorem dL_acts_442 : decode cL_acts 442 = .ok (.imul, 1) := by decide +kernel
theorem dL_acts_443 : decode cL_acts 443 = .ok (.iload 15, 2) := by decide +kernel
theorem dL_acts_445 : decode cL_acts 445 = .ok (.iadd, 1) := by decide +kernel
theorem dL_acts_446 : decode cL_acts 446 = .ok (.iconst (-1), 1) := by decide +kernel
theorem dL_acts_447 : decode cL_acts 447 = .ok (.iastore, 1) := by decide +kernel
theorem dL_acts_448 : decode cL_acts 448 = .ok (.iinc 15 1, 3) := by decide +kernel
theorem dL_acts_451 : decode cL_acts 451 = .ok (.goto (-22), 3) := by decide +kernel
theorem dL_acts_454 : decode cL_acts 454 = .ok (.aload 6, 2) := by decide +kernel
theorem dL_acts_456 : decode cL_acts 456 = .ok (.iconst 2, 1) := by decide +kernel
theorem dL_acts_457 : decode cL_acts 457 = .ok (.dup2, 1) := by decide +kernel
theorem dL_acts_458 : decode cL_acts 458 = .ok (.iaload, 1) := by decide +kernel
theorem dL_acts_459 : decode cL_acts 459 = .ok (.iconst 1, 1) := by decide +kernel
theorem dL_acts_460 : decode cL_acts 460 = .ok (.iadd, 1) := by decide +kernel
theorem dL_acts_461 : decode cL_acts 461 = .ok (.iastore, 1) := by decide +kernel
theorem dL_acts_462 : decode cL_acts 462 = .ok (.aload_n 0, 1) := by decide +kernel
theorem dL_acts_463 : decode cL_acts 463 = .ok (.iload 12, 2) := by decide +kernel
theorem dL_acts_465 : decode cL_acts 465 = .ok (.invokestatic 164, 3) := by decide +kernel
theorem dL_acts_468 : decode cL_acts 468 = .ok (.iload 14, 2) := by decide +kernel
theorem dL_acts_470 : decode cL_acts 470 = .ok (.if_icmp .ne 67, 3) := by decide +kernel
theorem dL_acts_473 : decode cL_acts 473 = .ok (.aload_n 1, 1) := by decide +kernel
theorem dL_acts_474 : decode cL_acts 474 = .ok (.iload 12, 2) := by decide +kernel
theorem dL_acts_476 : decode cL_acts 476 = .ok (.invokestatic 164, 3) := by decide +kernel
theorem dL_acts_479 : decode cL_acts 479 = .ok (.iload 14, 2) := by decide +kernel
theorem dL_acts_481 : decode cL_acts 481 = .ok (.if_icmp .ne 56, 3) := by decide +kernel
theorem dL_acts_484 : decode cL_acts 484 = .ok (.aload_n 0, 1) := by decide +kernel
theorem dL_acts_485 : decode cL_acts 485 = .ok (.iload 12, 2) := by decide +kernel
theorem dL_acts_487 : decode cL_acts 487 = .ok (.invokestatic 164, 3) := by decide +kernel
theorem dL_acts_490 : decode cL_acts 490 = .ok (.ldc 31, 2) := by decide +kernel
theorem dL_acts_492 : decode cL_acts 492 = .ok (.if_icmp .ne 45, 3) := by decide +kernel
theorem dL_acts_495 : decode cL_acts 495 = .ok (.aload_n 0, 1) := by decide +kernel
theorem dL_acts_496 : decode cL_acts 496 = .ok (.bipush 12, 2) := by decide +kernel
theorem dL_acts_498 : decode cL_acts 498 = .ok (.invokestatic 164, 3) := by decide +kernel
theorem dL_acts_501 : decode cL_acts 501 = .ok (.ldc 18, 2) := by decide +kernel
theorem dL_acts_503 : decode cL_acts 503 = .ok (.if_icmp .ne 34, 3) := by decide +kernel
theorem dL_acts_506 : decode cL_acts 506 = .ok (.iload 14, 2) := by decide +kernel
theorem dL_acts_508 : decode cL_acts 508 = .ok (.ifCond .lt 25, 3) := by decide +kernel
theorem dL_acts_511 : decode cL_acts 511 = .ok (.aload_n 0, 1) := by decide +kernel
theorem dL_acts_512 : decode cL_acts 512 = .ok (.iload 14, 2) := by decide +kernel
theorem dL_acts_514 : decode cL_acts 514 = .ok (.invokestatic 105, 3) := by decide +kernel
theorem dL_acts_517 : decode cL_acts 517 = .ok (.aload 6, 2) := by decide +kernel
theorem dL_acts_519 : decode cL_acts 519 = .ok (.iconst 0, 1) := by decide +kernel
theorem dL_acts_520 : decode cL_acts 520 = .ok (.iaload, 1) := by decide +kernel
theorem dL_acts_521 : decode cL_acts 521 = .ok (.if_icmp .ne 16, 3) := by decide +kernel
theorem dL_acts_524 : decode cL_acts 524 = .ok (.aload_n 0, 1) := by decide +kernel
theorem dL_acts_525 : decode cL_acts 525 = .ok (.iload 14, 2) := by decide +kernel
theorem dL_acts_527 : decode cL_acts 527 = .ok (.invokestatic 108, 3) := by decide +kernel
theorem dL_acts_530 : decode cL_acts 530 = .ok (.ifCond .ne 7, 3) := by decide +kernel
theorem dL_acts_533 : decode cL_acts 533 = .ok (.iconst 1, 1) := by decide +kernel
theorem dL_acts_534 : decode cL_acts 534 = .ok (.goto 4, 3) := by decide +kernel
theorem dL_acts_537 : decode cL_acts 537 = .ok (.iconst 0, 1) := by decide +kernel
theorem dL_acts_538 : decode cL_acts 538 = .ok (.ireturn, 1) := by decide +kernel
theorem dL_acts_539 : decode cL_acts 539 = .ok (.aload 6, 2) := by decide +kernel
theorem dL_acts_541 : decode cL_acts 541 = .ok (.iconst 2, 1) := by decide +kernel
theorem dL_acts_542 : decode cL_acts 542 = .ok (.iaload, 1) := by decide +kernel
theorem dL_acts_543 : decode cL_acts 543 = .ok (.ifCond .ne 44, 3) := by decide +kernel
theorem dL_acts_546 : decode cL_acts 546 = .ok (.aload_n 0, 1) := by decide +kernel
theorem dL_acts_547 : decode cL_acts 547 = .ok (.iconst 0, 1) := by decide +kernel
theorem dL_acts_548 : decode cL_acts 548 = .ok (.iconst 0, 1) := by decide +kernel
theorem dL_acts_549 : decode cL_acts 549 = .ok (.iconst 0, 1) := by decide +kernel
theorem dL_acts_550 : decode cL_acts 550 = .ok (.iconst 0, 1) := by decide +kernel
theorem dL_acts_551 : decode cL_acts 551 = .ok (.invokestatic 166, 3) := by decide +kernel
theorem dL_acts_554 : decode cL_acts 554 = .ok (.ldc 18, 2) := by decide +kernel
theorem dL_acts_556 : decode cL_acts 556 = .ok (.if_icmp .ne 29, 3) := by decide +kernel
theorem dL_acts_559 : decode cL_acts 559 = .ok (.aload_n 0, 1) := by decide +kernel
theorem dL_acts_560 : decode cL_acts 560 = .ok (.iconst 0, 1) := by decide +kernel
theorem dL_acts_561 : decode cL_acts 561 = .ok (.invokestatic 169, 3) := by decide +kernel
theorem dL_acts_564 : decode cL_acts 564 = .ok (.ldc 18, 2) := by decide +kernel
theorem dL_acts_566 : decode cL_acts 566 = .ok (.if_icmp .ne 19, 3) := by decide +kernel
theorem dL_acts_569 : decode cL_acts 569 = .ok (.aload_n 0, 1) := by decide +kernel
theorem dL_acts_570 : decode cL_acts 570 = .ok (.iconst 0, 1) := by decide +kernel
theorem dL_acts_571 : decode cL_acts 571 = .ok (.iconst 0, 1) := by decide +kernel
theorem dL_acts_572 : decode cL_acts 572 = .ok (.iconst 0, 1) := by decide +kernel
theorem dL_acts_573 : decode cL_acts 573 = .ok (.invokestatic 131, 3) := by decide +kernel
theorem dL_acts_576 : decode cL_acts 576 = .ok (.ldc 18, 2) := by decide +kernel
theorem dL_acts_578 : decode cL_acts 578 = .ok (.if_icmp .ne 7, 3) := by decide +kernel
theorem dL_acts_581 : decode cL_acts 581 = .ok (.iconst 1, 1) := by decide +kernel
theorem dL_acts_582 : decode cL_acts 582 = .ok (.goto 4, 3) := by decide +kernel
theorem dL_acts_585 : decode cL_acts 585 = .ok (.iconst 0, 1) := by decide +kernel
theorem dL_acts_586 : decode cL_acts 586 = .ok (.ireturn, 1) := by decide +kernel
theorem dL_acts_587 : decode cL_acts 587 = .ok (.iload 7, 2) := by decide +kernel
theorem dL_acts_589 : decode cL_acts 589 = .ok (.bipush 8, 2) := by decide +kernel
theorem dL_acts_591 : decode cL_acts 591 = .ok (.ishr, 1) := by decide +kernel
theorem dL_acts_592 : decode cL_acts 592 = .ok (.iconst 3, 1) := by decide +kernel
theorem dL_acts_593 : decode cL_acts 593 = .ok (.invokestatic 143, 3) := by decide +kernel
theorem dL_acts_596 : decode cL_acts 596 = .ok (.ifCond .le 37, 3) := by decide +kernel
theorem dL_acts_599 : decode cL_acts 599 = .ok (.aload 6, 2) := by decide +kernel
theorem dL_acts_601 : decode cL_acts 601 = .ok (.iconst 2, 1) := by decide +kernel
theorem dL_acts_602 : decode cL_acts 602 = .ok (.iaload, 1) := by decide +kernel
theorem dL_acts_603 : decode cL_acts 603 = .ok (.iconst 1, 1) := by decide +kernel
theorem dL_acts_604 : decode cL_acts 604 = .ok (.isub, 1) := by decide +kernel
theorem dL_acts_605 : decode cL_acts 605 = .ok (.iload 7, 2) := by decide +kernel
theorem dL_acts_607 : decode cL_acts 607 = .ok (.bipush 10, 2) := by decide +kernel
theorem dL_acts_609 : decode cL_acts 609 = .ok (.ishr, 1) := by decide +kernel
theorem dL_acts_610 : decode cL_acts 610 = .ok (.aload 6, 2) := by decide +kernel
theorem dL_acts_612 : decode cL_acts 612 = .ok (.iconst 2, 1) := by decide +kernel
theorem dL_acts_613 : decode cL_acts 613 = .ok (.iaload, 1) := by decide +kernel
theorem dL_acts_614 : decode cL_acts 614 = .ok (.iconst 3, 1) := by decide +kernel
theorem dL_acts_615 : decode cL_acts 615 = .ok (.if_icmp .ge 10, 3) := by decide +kernel
theorem dL_acts_618 : decode cL_acts 618 = .ok (.aload 6, 2) := by decide +kernel
theorem dL_acts_620 : decode cL_acts 620 = .ok (.iconst 2, 1) := by decide +kernel
theorem dL_acts_621 : decode cL_acts 621 = .ok (.iaload, 1) := by decide +kernel
theorem dL_acts_622 : decode cL_acts 622 = .ok (.goto 4, 3) := by decide +kernel
theorem dL_acts_625 : decode cL_acts 625 = .ok (.iconst 3, 1) := by decide +kernel
theorem dL_acts_626 : decode cL_acts 626 = .ok (.invokestatic 143, 3) := by decide +kernel
theorem dL_acts_629 : decode cL_acts 629 = .ok (.isub, 1) := by decide +kernel
theorem dL_acts_630 : decode cL_acts 630 = .ok (.goto 15, 3) := by decide +kernel
theorem dL_acts_633 : decode cL_acts 633 = .ok (.iload 7, 2) := by decide +kernel
theorem dL_acts_635 : decode cL_acts 635 = .ok (.bipush 10, 2) := by decide +kernel
theorem dL_acts_637 : decode cL_acts 637 = .ok (.ishr, 1) := by decide +kernel
theorem dL_acts_638 : decode cL_acts 638 = .ok (.aload 6, 2) := by decide +kernel
theorem dL_acts_640 : decode cL_acts 640 = .ok (.iconst 2, 1) := by decide +kernel
theorem dL_acts_641 : decode cL_acts 641 = .ok (.iaload, 1) := by decide +kernel
theorem dL_acts_642 : decode cL_acts 642 = .ok (.invokestatic 143, 3) := by decide +kernel
theorem dL_acts_645 : decode cL_acts 645 = .ok (.istore 12, 2) := by decide +kernel
theorem dL_acts_647 : decode cL_acts 647 = .ok (.iload 9, 2) := by decide +kernel
theorem dL_acts_649 : decode cL_acts 649 = .ok (.bipush 19, 2) := by decide +kernel
theorem dL_acts_651 : decode cL_acts 651 = .ok (.if_icmp .ge 370, 3) := by decide +kernel
theorem dL_acts_654 : decode cL_acts 654 = .ok (.aload_n 0, 1) := by decide +kernel
theorem dL_acts_655 : decode cL_acts 655 = .ok (.iload 12, 2) := by decide +kernel
theorem dL_acts_657 : decode cL_acts 657 = .ok (.iload 10, 2) := by decide +kernel
theorem dL_acts_659 : decode cL_acts 659 = .ok (.invokestatic 123, 3) := by decide +kernel
theorem dL_acts_662 : decode cL_acts 662 = .ok (.istore 13, 2) := by decide +kernel
theorem dL_acts_664 : decode cL_acts 664 = .ok (.iload 8, 2) := by decide +kernel
theorem dL_acts_666 : decode cL_acts 666 = .ok (.bipush 6, 2) := by decide +kernel
theorem dL_acts_668 : decode cL_acts 668 = .ok (.ishr, 1) := by decide +kernel
theorem dL_acts_669 : decode cL_acts 669 = .ok (.iconst 3, 1) := by decide +kernel
theorem dL_acts_670 : decode cL_acts 670 = .ok (.invokestatic 143, 3) := by decide +kernel
theorem dL_acts_673 : decode cL_acts 673 = .ok (.ifCond .le 29, 3) := by decide +kernel
theorem dL_acts_676 : decode cL_acts 676 = .ok (.aload_n 0, 1) := by decide +kernel
theorem dL_acts_677 : decode cL_acts 677 = .ok (.aload_n 3, 1) := by decide +kernel
theorem dL_acts_678 : decode cL_acts 678 = .ok (.iload 12, 2) := by decide +kernel
theorem dL_acts_680 : decode cL_acts 680 = .ok (.iaload, 1) := by decide +kernel
theorem dL_acts_681 : decode cL_acts 681 = .ok (.iload 10, 2) := by decide +kernel
theorem dL_acts_683 : decode cL_acts 683 = .ok (.invokestatic 95, 3) := by decide +kernel
theorem dL_acts_686 : decode cL_acts 686 = .ok (.invokestatic 149, 3) := by decide +kernel
theorem dL_acts_689 : decode cL_acts 689 = .ok (.iload 8, 2) := by decide +kernel
theorem dL_acts_691 : decode cL_acts 691 = .ok (.bipush 8, 2) := by decide +kernel
theorem dL_acts_693 : decode cL_acts 693 = .ok (.ishr, 1) := by decide +kernel
theorem dL_acts_694 : decode cL_acts 694 = .ok (.iconst 3, 1) := by decide +kernel
theorem dL_acts_695 : decode cL_acts 695 = .ok (.invokestatic 143, 3) := by decide +kernel
theorem dL_acts_698 : decode cL_acts 698 = .ok (.iadd, 1) := by decide +kernel
theorem dL_acts_699 : decode cL_acts 699 = .ok (.goto 13, 3) := by decide +kernel
theorem dL_acts_702 : decode cL_acts 702 = .ok (.iload 8, 2) := by decide +kernel
theorem dL_acts_704 : decode cL_acts 704 = .ok (.bipush 8, 2) := by decide +kernel
theorem dL_acts_706 : decode cL_acts 706 = .ok (.ishr, 1) := by decide +kernel
theorem dL_acts_707 : decode cL_acts 707 = .ok (.ldc 171, 2) := by decide +kernel
theorem dL_acts_709 : decode cL_acts 709 = .ok (.invokestatic 143, 3) := by decide +kernel
theorem dL_acts_712 : decode cL_acts 712 = .ok (.istore 14, 2) := by decide +kernel
theorem dL_acts_714 : decode cL_acts 714 = .ok (.iload 14, 2) := by decide +kernel
theorem dL_acts_716 : decode cL_acts 716 = .ok (.ldc 172, 2) := by decide +kernel
theorem dL_acts_718 : decode cL_acts 718 = .ok (.if_icmp .le 8, 3) := by decide +kernel
theorem dL_acts_721 : decode cL_acts 721 = .ok (.ldc 172, 2) := by decide +kernel
theorem dL_acts_723 : decode cL_acts 723 = .ok (.goto 5, 3) := by decide +kernel
theorem dL_acts_726 : decode cL_acts 726 = .ok (.iload 14, 2) := by decide +kernel
theorem dL_acts_728 : decode cL_acts 728 = .ok (.istore 14, 2) := by decide +kernel
theorem dL_acts_730 : decode cL_acts 730 = .ok (.aload_n 0, 1) := by decide +kernel
theorem dL_acts_731 : decode cL_acts 731 = .ok (.iload 12, 2) := by decide +kernel
theorem dL_acts_733 : decode cL_acts 733 = .ok (.iload 11, 2) := by decide +kernel
theorem dL_acts_735 : decode cL_acts 735 = .ok (.iload 10, 2) := by decide +kernel
theorem dL_acts_737 : decode cL_acts 737 = .ok (.iload 14, 2) := by decide +kernel
theorem dL_acts_739 : decode cL_acts 739 = .ok (.invokestatic 166, 3) := by decide +kernel
theorem dL_acts_742 : decode cL_acts 742 = .ok (.istore 15, 2) := by decide +kernel
theorem dL_acts_744 : decode cL_acts 744 = .ok (.aload_n 1, 1) := by decide +kernel
theorem dL_acts_745 : decode cL_acts 745 = .ok (.iload 12, 2) := by decide +kernel
theorem dL_acts_747 : decode cL_acts 747 = .ok (.iload 11, 2) := by decide +kernel
theorem dL_acts_749 : decode cL_acts 749 = .ok (.iload 10, 2) := by decide +kernel
theorem dL_acts_751 : decode cL_acts 751 = .ok (.iload 14, 2) := by decide +kernel
theorem dL_acts_753 : decode cL_acts 753 = .ok (.invokestatic 166, 3) := by decide +kernel
theorem dL_acts_756 : decode cL_acts 756 = .ok (.iload 15, 2) := by decide +kernel
theorem dL_acts_758 : decode cL_acts 758 = .ok (.if_icmp .ne 78, 3) := by decide +kernel
theorem dL_acts_761 : decode cL_acts 761 = .ok (.aload_n 0, 1) := by decide +kernel
theorem dL_acts_762 : decode cL_acts 762 = .ok (.iload 12, 2) := by decide +kernel
theorem dL_acts_764 : decode cL_acts 764 = .ok (.invokestatic 108, 3) := by decide +kernel
theorem dL_acts_767 : decode cL_acts 767 = .ok (.iconst 1, 1) := by decide +kernel
theorem dL_acts_768 : decode cL_acts 768 = .ok (.if_icmp .eq 16, 3) := by decide +kernel
theorem dL_acts_771 : decode cL_acts 771 = .ok (.aload 4, 2) := by decide +kernel
theorem dL_acts_773 : decode cL_acts 773 = .ok (.iconst 5, 1) := by decide +kernel
theorem dL_acts_774 : decode cL_acts 774 = .ok (.iload 12, 2) := by decide +kernel
theorem dL_acts_776 : decode cL_acts 776 = .ok (.imul, 1) := by decide +kernel
theorem dL_acts_777 : decode cL_acts 777 = .ok (.iload 10, 2) := by decide +kernel
theorem dL_acts_779 : decode cL_acts 779 = .ok (.iadd, 1) := by decide +kernel
theorem dL_acts_780 : decode cL_acts 780 = .ok (.iaload, 1) := by decide +kernel
theorem dL_acts_781 : decode cL_acts 781 = .ok (.ifCond .lt 13, 3) := by decide +kernel
theorem dL_acts_784 : decode cL_acts 784 = .ok (.iload 15, 2) := by decide +kernel
theorem dL_acts_786 : decode cL_acts 786 = .ok (.ldc 31, 2) := by decide +kernel
theorem dL_acts_788 : decode cL_acts 788 = .ok (.if_icmp .ne 48, 3) := by decide +kernel
theorem dL_acts_791 : decode cL_acts 791 = .ok (.goto 41, 3) := by decide +kernel
theorem dL_acts_794 : decode cL_acts 794 = .ok (.iload 15, 2) := by decide +kernel
theorem dL_acts_796 : decode cL_acts 796 = .ok (.ldc 31, 2) := by decide +kernel
theorem dL_acts_798 : decode cL_acts 798 = .ok (.if_icmp .ne 8, 3) := by decide +kernel
theorem dL_acts_801 : decode cL_acts 801 = .ok (.iload 13, 2) := by decide +kernel
theorem dL_acts_803 : decode cL_acts 803 = .ok (.ifCond .gt 29, 3) := by decide +kernel
theorem dL_acts_806 : decode cL_acts 806 = .ok (.iload 15, 2) := by decide +kernel
theorem dL_acts_808 : decode cL_acts 808 = .ok (.ifCond .eq 9, 3) := by decide +kernel
theorem dL_acts_811 : decode cL_acts 811 = .ok (.iload 15, 2) := by decide +kernel
theorem dL_acts_813 : decode cL_acts 813 = .ok (.iconst 1, 1) := by decide +kernel
theorem dL_acts_814 : decode cL_acts 814 = .ok (.if_icmp .ne 22, 3) := by decide +kernel
theorem dL_acts_817 : decode cL_acts 817 = .ok (.aload_n 0, 1) := by decide +kernel
theorem dL_acts_818 : decode cL_acts 818 = .ok (.iload 12, 2) := by decide +kernel
theorem dL_acts_820 : decode cL_acts 820 = .ok (.iload 10, 2) := by decide +kernel
theorem dL_acts_822 : decode cL_acts 822 = .ok (.invokestatic 123, 3) := by decide +kernel
theorem dL_acts_825 : decode cL_acts 825 = .ok (.iload 13, 2) := by decide +kernel
theorem dL_acts_827 : decode cL_acts 827 = .ok (.iconst 1, 1) := by decide +kernel
theorem dL_acts_828 : decode cL_acts 828 = .ok (.iadd, 1) := by decide +kernel
theorem dL_acts_829 : decode cL_acts 829 = .ok (.if_icmp .ne 7, 3) := by decide +kernel
theorem dL_acts_832 : decode cL_acts 832 = .ok (.iconst 1, 1) := by decide +kernel
theorem dL_acts_833 : decode cL_acts 833 = .ok (.goto 4, 3) := by decide +kernel
theorem dL_acts_836 : decode cL_acts 836 = .ok (.iconst 0, 1) := by decide +kernel
theorem dL_acts_837 : decode cL_acts 837 = .ok (.istore 16, 2) := by decide +kernel
theorem dL_acts_839 : decode cL_acts 839 = .ok (.iload 16, 2) := by decide +kernel
theorem dL_acts_841 : decode cL_acts 841 = .ok (.ifCond .eq 37, 3) := by decide +kernel
theorem dL_acts_844 : decode cL_acts 844 = .ok (.iload 15, 2) := by decide +kernel
theorem dL_acts_846 : decode cL_acts 846 = .ok (.ifCond .lt 28, 3) := by decide +kernel
theorem dL_acts_849 : decode cL_acts 849 = .ok (.iload 13, 2) := by decide +kernel
theorem dL_acts_851 : decode cL_acts 851 = .ok (.ifCond .ne 11, 3) := by decide +kernel
theorem dL_acts_854 : decode cL_acts 854 = .ok (.iload 15, 2) := by decide +kernel
theorem dL_acts_856 : decode cL_acts 856 = .ok (.ifCond .ne 22, 3) := by decide +kernel
theorem dL_acts_859 : decode cL_acts 859 = .ok (.goto 15, 3) := by decide +kernel
theorem dL_acts_862 : decode cL_acts 862 = .ok (.iload 13, 2) := by decide +kernel
theorem dL_acts_864 : decode cL_acts 864 = .ok (.iconst 1, 1) := by decide +kernel
theorem dL_acts_865 : decode cL_acts 865 = .ok (.if_icmp .eq 9, 3) := by decide +kernel
theorem dL_acts_868 : decode cL_acts 868 = .ok (.iload 15, 2) := by decide +kernel
theorem dL_acts_870 : decode cL_acts 870 = .ok (.iconst 1, 1) := by decide +kernel
theorem dL_acts_871 : decode cL_acts 871 = .ok (.if_icmp .ne 7, 3) := by decide +kernel
theorem dL_acts_874 : decode cL_acts 874 = .ok (.iconst 1, 1) := by decide +kernel
theorem dL_acts_875 : decode cL_acts 875 = .ok (.goto 4, 3) := by decide +kernel
theorem dL_acts_878 : decode cL_acts 878 = .ok (.iconst 0, 1) := by decide +kernel
theorem dL_acts_879 : decode cL_acts 879 = .ok (.istore 16, 2) := by decide +kernel
theorem dL_acts_881 : decode cL_acts 881 = .ok (.aload 4, 2) := by decide +kernel
theorem dL_acts_883 : decode cL_acts 883 = .ok (.iconst 5, 1) := by decide +kernel
theorem dL_acts_884 : decode cL_acts 884 = .ok (.iload 12, 2) := by decide +kernel
theorem dL_acts_886 : decode cL_acts 886 = .ok (.imul, 1) := by decide +kernel
theorem dL_acts_887 : decode cL_acts 887 = .ok (.iload 10, 2) := by decide +kernel
theorem dL_acts_889 : decode cL_acts 889 = .ok (.iadd, 1) := by decide +kernel
theorem dL_acts_890 : decode cL_acts 890 = .ok (.iload 15, 2) := by decide +kernel
theorem dL_acts_892 : decode cL_acts 892 = .ok (.iconst 1, 1) := by decide +kernel
theorem dL_acts_893 : decode cL_acts 893 = .ok (.if_icmp .ne 14, 3) := by decide +kernel
theorem dL_acts_896 : decode cL_acts 896 = .ok (.aload_n 0, 1) := by decide +kernel
theorem dL_acts_897 : decode cL_acts 897 = .ok (.iload 12, 2) := by decide +kernel
theorem dL_acts_899 : decode cL_acts 899 = .ok (.iload 10, 2) := by decide +kernel
theorem dL_acts_901 : decode cL_acts 901 = .ok (.invokestatic 121, 3) := by decide +kernel
theorem dL_acts_904 : decode cL_acts 904 = .ok (.goto 13, 3) := by decide +kernel
theorem dL_acts_907 : decode cL_acts 907 = .ok (.aload 4, 2) := by decide +kernel
theorem dL_acts_909 : decode cL_acts 909 = .ok (.iconst 5, 1) := by decide +kernel
theorem dL_acts_910 : decode cL_acts 910 = .ok (.iload 12, 2) := by decide +kernel
theorem dL_acts_912 : decode cL_acts 912 = .ok (.imul, 1) := by decide +kernel
theorem dL_acts_913 : decode cL_acts 913 = .ok (.iload 10, 2) := by decide +kernel
theorem dL_acts_915 : decode cL_acts 915 = .ok (.iadd, 1) := by decide +kernel
theorem dL_acts_916 : decode cL_acts 916 = .ok (.iaload, 1) := by decide +kernel
theorem dL_acts_917 : decode cL_acts 917 = .ok (.iastore, 1) := by decide +kernel
theorem dL_acts_918 : decode cL_acts 918 = .ok (.iload 16, 2) := by decide +kernel
theorem dL_acts_920 : decode cL_acts 920 = .ok (.ifCond .eq 54, 3) := by decide +kernel
theorem dL_acts_923 : decode cL_acts 923 = .ok (.iload 15, 2) := by decide +kernel
theorem dL_acts_925 : decode cL_acts 925 = .ok (.iconst 1, 1) := by decide +kernel
theorem dL_acts_926 : decode cL_acts 926 = .ok (.if_icmp .ne 22, 3) := by decide +kernel
theorem dL_acts_929 : decode cL_acts 929 = .ok (.iload 13, 2) := by decide +kernel
theorem dL_acts_931 : decode cL_acts 931 = .ok (.iconst 2, 1) := by decide +kernel
theorem dL_acts_932 : decode cL_acts 932 = .ok (.if_icmp .eq 16, 3) := by decide +kernel
theorem dL_acts_935 : decode cL_acts 935 = .ok (.aload_n 0, 1) := by decide +kernel
theorem dL_acts_936 : decode cL_acts 936 = .ok (.iload 12, 2) := by decide +kernel
theorem dL_acts_938 : decode cL_acts 938 = .ok (.iload 10, 2) := by decide +kernel
theorem dL_acts_940 : decode cL_acts 940 = .ok (.invokestatic 121, 3) := by decide +kernel
theorem dL_acts_943 : decode cL_acts 943 = .ok (.iload 14, 2) := by decide +kernel
theorem dL_acts_945 : decode cL_acts 945 = .ok (.if_icmp .ne 29, 3) := by decide +kernel
theorem dL_acts_948 : decode cL_acts 948 = .ok (.iload 15, 2) := by decide +kernel
theorem dL_acts_950 : decode cL_acts 950 = .ok (.ifCond .lt 20, 3) := by decide +kernel
theorem dL_acts_953 : decode cL_acts 953 = .ok (.aload_n 0, 1) := by decide +kernel
theorem dL_acts_954 : decode cL_acts 954 = .ok (.iload 12, 2) := by decide +kernel
theorem dL_acts_956 : decode cL_acts 956 = .ok (.iload 11, 2) := by decide +kernel
theorem dL_acts_958 : decode cL_acts 958 = .ok (.iload 10, 2) := by decide +kernel
theorem dL_acts_960 : decode cL_acts 960 = .ok (.iload 14, 2) := by decide +kernel
theorem dL_acts_962 : decode cL_acts 962 = .ok (.invokestatic 166, 3) := by decide +kernel
theorem dL_acts_965 : decode cL_acts 965 = .ok (.ldc 31, 2) := by decide +kernel
theorem dL_acts_967 : decode cL_acts 967 = .ok (.if_icmp .ne 7, 3) := by decide +kernel
theorem dL_acts_970 : decode cL_acts 970 = .ok (.iconst 1, 1) := by decide +kernel
theorem dL_acts_971 : decode cL_acts 971 = .ok (.goto 4, 3) := by decide +kernel
theorem dL_acts_974 : decode cL_acts 974 = .ok (.iconst 0, 1) := by decide +kernel
theorem dL_acts_975 : decode cL_acts 975 = .ok (.istore 16, 2) := by decide +kernel
theorem dL_acts_977 : decode cL_acts 977 = .ok (.iload 16, 2) := by decide +kernel
theorem dL_acts_979 : decode cL_acts 979 = .ok (.ifCond .eq 40, 3) := by decide +kernel
theorem dL_acts_982 : decode cL_acts 982 = .ok (.aload_n 0, 1) := by decide +kernel
theorem dL_acts_983 : decode cL_acts 983 = .ok (.iload 12, 2) := by decide +kernel
theorem dL_acts_985 : decode cL_acts 985 = .ok (.iload 11, 2) := by decide +kernel
theorem dL_acts_987 : decode cL_acts 987 = .ok (.iload 10, 2) := by decide +kernel
theorem dL_acts_989 : decode cL_acts 989 = .ok (.ldc 171, 2) := by decide +kernel
theorem dL_acts_991 : decode cL_acts 991 = .ok (.invokestatic 166, 3) := by decide +kernel
theorem dL_acts_994 : decode cL_acts 994 = .ok (.ldc 21, 2) := by decide +kernel
theorem dL_acts_996 : decode cL_acts 996 = .ok (.if_icmp .ne 23, 3) := by decide +kernel
theorem dL_acts_999 : decode cL_acts 999 = .ok (.aload_n 0, 1) := by decide +kernel
theorem dL_acts_1000 : decode cL_acts 1000 = .ok (.iload 12, 2) := by decide +kernel
theorem dL_acts_1002 : decode cL_acts 1002 = .ok (.bipush 6, 2) := by decide +kernel
theorem dL_acts_1004 : decode cL_acts 1004 = .ok (.iload 10, 2) := by decide +kernel
theorem dL_acts_1006 : decode cL_acts 1006 = .ok (.iconst (-1), 1) := by decide +kernel
theorem dL_acts_1007 : decode cL_acts 1007 = .ok (.invokestatic 166, 3) := by decide +kernel
theorem dL_acts_1010 : decode cL_acts 1010 = .ok (.ldc 18, 2) := by decide +kernel
theorem dL_acts_1012 : decode cL_acts 1012 = .ok (.if_icmp .ne 7, 3) := by decide +kernel
theorem dL_acts_1015 : decode cL_acts 1015 = .ok (.iconst 1, 1) := by decide +kernel
theorem dL_acts_1016 : decode cL_acts 1016 = .ok (.goto 4, 3) := by decide +kernel
theorem dL_acts_1019 : decode cL_acts 1019 = .ok (.iconst 0, 1) := by decide +kernel
theorem dL_acts_1020 : decode cL_acts 1020 = .ok (.ireturn, 1) := by decide +kernel
theorem dL_acts_1021 : decode cL_acts 1021 = .ok (.iload 9, 2) := by decide +kernel
theorem dL_acts_1023 : decode cL_acts 1023 = .ok (.bipush 21, 2) := by decide +kernel
theorem dL_acts_1025 : decode cL_acts 1025 = .ok (.if_icmp .ge 166, 3) := by decide +kernel
theorem dL_acts_1028 : decode cL_acts 1028 = .ok (.aload_n 0, 1) := by decide +kernel
theorem dL_acts_1029 : decode cL_acts 1029 = .ok (.iload 12, 2) := by decide +kernel
theorem dL_acts_1031 : decode cL_acts 1031 = .ok (.invokestatic 108, 3) := by decide +kernel
theorem dL_acts_1034 : decode cL_acts 1034 = .ok (.ifCond .ne 7, 3) := by decide +kernel
theorem dL_acts_1037 : decode cL_acts 1037 = .ok (.iconst 1, 1) := by decide +kernel
theorem dL_acts_1038 : decode cL_acts 1038 = .ok (.goto 4, 3) := by decide +kernel
theorem dL_acts_1041 : decode cL_acts 1041 = .ok (.iconst 0, 1) := by decide +kernel
theorem dL_acts_1042 : decode cL_acts 1042 = .ok (.istore 13, 2) := by decide +kernel
theorem dL_acts_1044 : decode cL_acts 1044 = .ok (.iconst 0, 1) := by decide +kernel
theorem dL_acts_1045 : decode cL_acts 1045 = .ok (.istore 14, 2) := by decide +kernel
theorem dL_acts_1047 : decode cL_acts 1047 = .ok (.iconst 0, 1) := by decide +kernel
theorem dL_acts_1048 : decode cL_acts 1048 = .ok (.istore 15, 2) := by decide +kernel
theorem dL_acts_1050 : decode cL_acts 1050 = .ok (.iload 15, 2) := by decide +kernel
theorem dL_acts_1052 : decode cL_acts 1052 = .ok (.iconst 5, 1) := by decide +kernel
theorem dL_acts_1053 : decode cL_acts 1053 = .ok (.if_icmp .ge 68, 3) := by decide +kernel
theorem dL_acts_1056 : decode cL_acts 1056 = .ok (.iload 13, 2) := by decide +kernel
theorem dL_acts_1058 : decode cL_acts 1058 = .ok (.ifCond .eq 31, 3) := by decide +kernel
theorem dL_acts_1061 : decode cL_acts 1061 = .ok (.aload_n 0, 1) := by decide +kernel
theorem dL_acts_1062 : decode cL_acts 1062 = .ok (.iload 12, 2) := by decide +kernel
theorem dL_acts_1064 : decode cL_acts 1064 = .ok (.iload 15, 2) := by decide +kernel
theorem dL_acts_1066 : decode cL_acts 1066 = .ok (.invokestatic 123, 3) := by decide +kernel
theorem dL_acts_1069 : decode cL_acts 1069 = .ok (.ifCond .eq 16, 3) := by decide +kernel
theorem dL_acts_1072 : decode cL_acts 1072 = .ok (.aload 4, 2) := by decide +kernel
theorem dL_acts_1074 : decode cL_acts 1074 = .ok (.iconst 5, 1) := by decide +kernel
theorem dL_acts_1075 : decode cL_acts 1075 = .ok (.iload 12, 2) := by decide +kernel
theorem dL_acts_1077 : decode cL_acts 1077 = .ok (.imul, 1) := by decide +kernel
theorem dL_acts_1078 : decode cL_acts 1078 = .ok (.iload 15, 2) := by decide +kernel
theorem dL_acts_1080 : decode cL_acts 1080 = .ok (.iadd, 1) := by decide +kernel
theorem dL_acts_1081 : decode cL_acts 1081 = .ok (.iaload, 1) := by decide +kernel
theorem dL_acts_1082 : decode cL_acts 1082 = .ok (.ifCond .lt 7, 3) := by decide +kernel
theorem dL_acts_1085 : decode cL_acts 1085 = .ok (.iconst 1, 1) := by decide +kernel
theorem dL_acts_1086 : decode cL_acts 1086 = .ok (.goto 4, 3) := by decide +kernel
theorem dL_acts_1089 : decode cL_acts 1089 = .ok (.iconst 0, 1) := by decide +kernel
theorem dL_acts_1090 : decode cL_acts 1090 = .ok (.istore 13, 2) := by decide +kernel
theorem dL_acts_1092 : decode cL_acts 1092 = .ok (.iload 14, 2) := by decide +kernel
theorem dL_acts_1094 : decode cL_acts 1094 = .ok (.aload 4, 2) := by decide +kernel
theorem dL_acts_1096 : decode cL_acts 1096 = .ok (.iconst 5, 1) := by decide +kernel
theorem dL_acts_1097 : decode cL_acts 1097 = .ok (.iload 12, 2) := by decide +kernel
theorem dL_acts_1099 : decode cL_acts 1099 = .ok (.imul, 1) := by decide +kernel
theorem dL_acts_1100 : decode cL_acts 1100 = .ok (.iload 15, 2) := by decide +kernel
theorem dL_acts_1102 : decode cL_acts 1102 = .ok (.iadd, 1) := by decide +kernel
theorem dL_acts_1103 : decode cL_acts 1103 = .ok (.iaload, 1) := by decide +kernel
theorem dL_acts_1104 : decode cL_acts 1104 = .ok (.ifCond .lt 7, 3) := by decide +kernel
theorem dL_acts_1107 : decode cL_acts 1107 = .ok (.iconst 1, 1) := by decide +kernel
theorem dL_acts_1108 : decode cL_acts 1108 = .ok (.goto 4, 3) := by decide +kernel
theorem dL_acts_1111 : decode cL_acts 1111 = .ok (.iconst 0, 1) := by decide +kernel
theorem dL_acts_1112 : decode cL_acts 1112 = .ok (.iadd, 1) := by decide +kernel
theorem dL_acts_1113 : decode cL_acts 1113 = .ok (.istore 14, 2) := by decide +kernel
theorem dL_acts_1115 : decode cL_acts 1115 = .ok (.iinc 15 1, 3) := by decide +kernel
theorem dL_acts_1118 : decode cL_acts 1118 = .ok (.goto (-68), 3) := by decide +kernel
theorem dL_acts_1121 : decode cL_acts 1121 = .ok (.iload 13, 2) := by decide +kernel
theorem dL_acts_1123 : decode cL_acts 1123 = .ok (.ifCond .eq 8, 3) := by decide +kernel
theorem dL_acts_1126 : decode cL_acts 1126 = .ok (.iload 14, 2) := by decide +kernel
theorem dL_acts_1128 : decode cL_acts 1128 = .ok (.goto 5, 3) := by decide +kernel
theorem dL_acts_1131 : decode cL_acts 1131 = .ok (.ldc 31, 2) := by decide +kernel
theorem dL_acts_1133 : decode cL_acts 1133 = .ok (.istore 15, 2) := by decide +kernel
theorem dL_acts_1135 : decode cL_acts 1135 = .ok (.aload_n 0, 1) := by decide +kernel
theorem dL_acts_1136 : decode cL_acts 1136 = .ok (.iload 12, 2) := by decide +kernel
theorem dL_acts_1138 : decode cL_acts 1138 = .ok (.invokestatic 169, 3) := by decide +kernel
theorem dL_acts_1141 : decode cL_acts 1141 = .ok (.iload 15, 2) := by decide +kernel
theorem dL_acts_1143 : decode cL_acts 1143 = .ok (.if_icmp .ne 46, 3) := by decide +kernel
theorem dL_acts_1146 : decode cL_acts 1146 = .ok (.aload_n 1, 1) := by decide +kernel
theorem dL_acts_1147 : decode cL_acts 1147 = .ok (.iload 12, 2) := by decide +kernel
theorem dL_acts_1149 : decode cL_acts 1149 = .ok (.invokestatic 169, 3) := by decide +kernel
theorem dL_acts_1152 : decode cL_acts 1152 = .ok (.iload 15, 2) := by decide +kernel
theorem dL_acts_1154 : decode cL_acts 1154 = .ok (.if_icmp .ne 35, 3) := by decide +kernel
theorem dL_acts_1157 : decode cL_acts 1157 = .ok (.aload_n 0, 1) := by decide +kernel
theorem dL_acts_1158 : decode cL_acts 1158 = .ok (.aload 6, 2) := by decide +kernel
theorem dL_acts_1160 : decode cL_acts 1160 = .ok (.iconst 2, 1) := by decide +kernel
theorem dL_acts_1161 : decode cL_acts 1161 = .ok (.iaload, 1) := by decide +kernel
theorem dL_acts_1162 : decode cL_acts 1162 = .ok (.invokestatic 169, 3) := by decide +kernel
theorem dL_acts_1165 : decode cL_acts 1165 = .ok (.ldc 18, 2) := by decide +kernel
theorem dL_acts_1167 : decode cL_acts 1167 = .ok (.if_icmp .ne 22, 3) := by decide +kernel
theorem dL_acts_1170 : decode cL_acts 1170 = .ok (.iload 15, 2) := by decide +kernel
theorem dL_acts_1172 : decode cL_acts 1172 = .ok (.ifCond .lt 13, 3) := by decide +kernel
theorem dL_acts_1175 : decode cL_acts 1175 = .ok (.aload_n 0, 1) := by decide +kernel
theorem dL_acts_1176 : decode cL_acts 1176 = .ok (.iload 12, 2) := by decide +kernel
theorem dL_acts_1178 : decode cL_acts 1178 = .ok (.invokestatic 108, 3) := by decide +kernel
theorem dL_acts_1181 : decode cL_acts 1181 = .ok (.iconst 1, 1) := by decide +kernel
theorem dL_acts_1182 : decode cL_acts 1182 = .ok (.if_icmp .ne 7, 3) := by decide +kernel
theorem dL_acts_1185 : decode cL_acts 1185 = .ok (.iconst 1, 1) := by decide +kernel
theorem dL_acts_1186 : decode cL_acts 1186 = .ok (.goto 4, 3) := by decide +kernel
theorem dL_acts_1189 : decode cL_acts 1189 = .ok (.iconst 0, 1) := by decide +kernel
theorem dL_acts_1190 : decode cL_acts 1190 = .ok (.ireturn, 1) := by decide +kernel
theorem dL_acts_1191 : decode cL_acts 1191 = .ok (.iload 9, 2) := by decide +kernel
theorem dL_acts_1193 : decode cL_acts 1193 = .ok (.bipush 24, 2) := by decide +kernel
theorem dL_acts_1195 : decode cL_acts 1195 = .ok (.if_icmp .ge 23, 3) := by decide +kernel
theorem dL_acts_1198 : decode cL_acts 1198 = .ok (.aload_n 0, 1) := by decide +kernel
theorem dL_acts_1199 : decode cL_acts 1199 = .ok (.aload_n 1, 1) := by decide +kernel
theorem dL_acts_1200 : decode cL_acts 1200 = .ok (.aload_n 2, 1) := by decide +kernel
theorem dL_acts_1201 : decode cL_acts 1201 = .ok (.aload_n 3, 1) := by decide +kernel
theorem dL_acts_1202 : decode cL_acts 1202 = .ok (.aload 4, 2) := by decide +kernel
theorem dL_acts_1204 : decode cL_acts 1204 = .ok (.aload 5, 2) := by decide +kernel
theorem dL_acts_1206 : decode cL_acts 1206 = .ok (.iload 12, 2) := by decide +kernel
theorem dL_acts_1208 : decode cL_acts 1208 = .ok (.iload 10, 2) := by decide +kernel
theorem dL_acts_1210 : decode cL_acts 1210 = .ok (.iload 11, 2) := by decide +kernel
theorem dL_acts_1212 : decode cL_acts 1212 = .ok (.invokestatic 173, 3) := by decide +kernel
theorem dL_acts_1215 : decode cL_acts 1215 = .ok (.goto 23, 3) := by decide +kernel
theorem dL_acts_1218 : decode cL_acts 1218 = .ok (.aload_n 0, 1) := by decide +kernel
theorem dL_acts_1219 : decode cL_acts 1219 = .ok (.aload_n 1, 1) := by decide +kernel
theorem dL_acts_1220 : decode cL_acts 1220 = .ok (.aload_n 3, 1) := by decide +kernel
theorem dL_acts_1221 : decode cL_acts 1221 = .ok (.aload 4, 2) := by decide +kernel
theorem dL_acts_1223 : decode cL_acts 1223 = .ok (.aload 5, 2) := by decide +kernel
theorem dL_acts_1225 : decode cL_acts 1225 = .ok (.aload 6, 2) := by decide +kernel
theorem dL_acts_1227 : decode cL_acts 1227 = .ok (.iload 12, 2) := by decide +kernel
theorem dL_acts_1229 : decode cL_acts 1229 = .ok (.iload 10, 2) := by decide +kernel
theorem dL_acts_1231 : decode cL_acts 1231 = .ok (.iload 8, 2) := by decide +kernel
theorem dL_acts_1233 : decode cL_acts 1233 = .ok (.iconst 5, 1) := by decide +kernel
theorem dL_acts_1234 : decode cL_acts 1234 = .ok (.ishr, 1) := by decide +kernel
theorem dL_acts_1235 : decode cL_acts 1235 = .ok (.invokestatic 177, 3) := by decide +kernel
theorem dL_acts_1238 : decode cL_acts 1238 = .ok (.ireturn, 1) := by decide +kernel
theorem dL_law_0 : decode cL_law 0 = .ok (.new 11, 3) := by decide +kernel
theorem dL_law_3 : decode cL_law 3 = .ok (.dup, 1) := by decide +kernel
theorem dL_law_4 : decode cL_law 4 = .ok (.invokespecial 180, 3) := by decide +kernel
theorem dL_law_7 : decode cL_law 7 = .ok (.astore_n 1, 1) := by decide +kernel
theorem dL_law_8 : decode cL_law 8 = .ok (.new 11, 3) := by decide +kernel
theorem dL_law_11 : decode cL_law 11 = .ok (.dup, 1) := by decide +kernel
theorem dL_law_12 : decode cL_law 12 = .ok (.invokespecial 180, 3) := by decide +kernel
theorem dL_law_15 : decode cL_law 15 = .ok (.astore_n 2, 1) := by decide +kernel
theorem dL_law_16 : decode cL_law 16 = .ok (.bipush 11, 2) := by decide +kernel
theorem dL_law_18 : decode cL_law 18 = .ok (.newarray .int, 2) := by decide +kernel
theorem dL_law_20 : decode cL_law 20 = .ok (.astore_n 3, 1) := by decide +kernel
theorem dL_law_21 : decode cL_law 21 = .ok (.bipush 12, 2) := by decide +kernel
theorem dL_law_23 : decode cL_law 23 = .ok (.newarray .int, 2) := by decide +kernel
theorem dL_law_25 : decode cL_law 25 = .ok (.astore 4, 2) := by decide +kernel
theorem dL_law_27 : decode cL_law 27 = .ok (.bipush 60, 2) := by decide +kernel
theorem dL_law_29 : decode cL_law 29 = .ok (.newarray .int, 2) := by decide +kernel
theorem dL_law_31 : decode cL_law 31 = .ok (.astore 5, 2) := by decide +kernel
theorem dL_law_33 : decode cL_law 33 = .ok (.bipush 6, 2) := by decide +kernel
theorem dL_law_35 : decode cL_law 35 = .ok (.newarray .int, 2) := by decide +kernel
theorem dL_law_37 : decode cL_law 37 = .ok (.astore 6, 2) := by decide +kernel
theorem dL_law_39 : decode cL_law 39 = .ok (.iconst 3, 1) := by decide +kernel
theorem dL_law_40 : decode cL_law 40 = .ok (.newarray .int, 2) := by decide +kernel
theorem dL_law_42 : decode cL_law 42 = .ok (.astore 7, 2) := by decide +kernel
theorem dL_law_44 : decode cL_law 44 = .ok (.iconst 0, 1) := by decide +kernel
theorem dL_law_45 : decode cL_law 45 = .ok (.istore 8, 2) := by decide +kernel
theorem dL_law_47 : decode cL_law 47 = .ok (.iload 8, 2) := by decide +kernel
theorem dL_law_49 : decode cL_law 49 = .ok (.bipush 11, 2) := by decide +kernel
theorem dL_law_51 : decode cL_law 51 = .ok (.if_icmp .ge 25, 3) := by decide +kernel
theorem dL_law_54 : decode cL_law 54 = .ok (.aload_n 3, 1) := by decide +kernel
theorem dL_law_55 : decode cL_law 55 = .ok (.iload 8, 2) := by decide +kernel
theorem dL_law_57 : decode cL_law 57 = .ok (.iload 8, 2) := by decide +kernel
theorem dL_law_59 : decode cL_law 59 = .ok (.iconst 5, 1) := by decide +kernel
theorem dL_law_60 : decode cL_law 60 = .ok (.if_icmp .ge 7, 3) := by decide +kernel
theorem dL_law_63 : decode cL_law 63 = .ok (.iconst 1, 1) := by decide +kernel
theorem dL_law_64 : decode cL_law 64 = .ok (.goto 5, 3) := by decide +kernel
theorem dL_law_67 : decode cL_law 67 = .ok (.bipush 100, 2) := by decide +kernel
theorem dL_law_69 : decode cL_law 69 = .ok (.iastore, 1) := by decide +kernel
theorem dL_law_70 : decode cL_law 70 = .ok (.iinc 8 1, 3) := by decide +kernel
theorem dL_law_73 : decode cL_law 73 = .ok (.goto (-26), 3) := by decide +kernel
theorem dL_law_76 : decode cL_law 76 = .ok (.aload_n 1, 1) := by decide +kernel
theorem dL_law_77 : decode cL_law 77 = .ok (.invokevirtual 89, 3) := by decide +kernel
theorem dL_law_80 : decode cL_law 80 = .ok (.ifCond .ne 41, 3) := by decide +kernel
theorem dL_law_83 : decode cL_law 83 = .ok (.aload_n 1, 1) := by decide +kernel
theorem dL_law_84 : decode cL_law 84 = .ok (.invokevirtual 112, 3) := by decide +kernel
theorem dL_law_87 : decode cL_law 87 = .ok (.ifCond .ne 34, 3) := by decide +kernel
theorem dL_law_90 : decode cL_law 90 = .ok (.aload_n 1, 1) := by decide +kernel
theorem dL_law_91 : decode cL_law 91 = .ok (.invokevirtual 118, 3) := by decide +kernel
theorem dL_law_94 : decode cL_law 94 = .ok (.ifCond .ne 27, 3) := by decide +kernel
theorem dL_law_97 : decode cL_law 97 = .ok (.aload_n 1, 1) := by decide +kernel
theorem dL_law_98 : decode cL_law 98 = .ok (.iconst 0, 1) := by decide +kernel
theorem dL_law_99 : decode cL_law 99 = .ok (.invokestatic 137, 3) := by decide +kernel
theorem dL_law_102 : decode cL_law 102 = .ok (.iconst (-1), 1) := by decide +kernel
theorem dL_law_103 : decode cL_law 103 = .ok (.if_icmp .ne 18, 3) := by decide +kernel
theorem dL_law_106 : decode cL_law 106 = .ok (.aload_n 1, 1) := by decide +kernel
theorem dL_law_107 : decode cL_law 107 = .ok (.iconst 0, 1) := by decide +kernel
theorem dL_law_108 : decode cL_law 108 = .ok (.iconst 0, 1) := by decide +kernel
theorem dL_law_109 : decode cL_law 109 = .ok (.invokestatic 121, 3) := by decide +kernel
theorem dL_law_112 : decode cL_law 112 = .ok (.ldc 18, 2) := by decide +kernel
theorem dL_law_114 : decode cL_law 114 = .ok (.if_icmp .ne 7, 3) := by decide +kernel
theorem dL_law_117 : decode cL_law 117 = .ok (.iconst 1, 1) := by decide +kernel
theorem dL_law_118 : decode cL_law 118 = .ok (.goto 4, 3) := by decide +kernel
theorem dL_law_121 : decode cL_law 121 = .ok (.iconst 0, 1) := by decide +kernel
theorem dL_law_122 : decode cL_law 122 = .ok (.istore 8, 2) := by decide +kernel
theorem dL_law_124 : decode cL_law 124 = .ok (.iconst 0, 1) := by decide +kernel
theorem dL_law_125 : decode cL_law 125 = .ok (.istore 9, 2) := by decide +kernel
theorem dL_law_127 : decode cL_law 127 = .ok (.iload 9, 2) := by decide +kernel
theorem dL_law_129 : decode cL_law 129 = .ok (.bipush 110, 2) := by decide +kernel
theorem dL_law_131 : decode cL_law 131 = .ok (.if_icmp .ge 96, 3) := by decide +kernel
theorem dL_law_134 : decode cL_law 134 = .ok (.iload 8, 2) := by decide +kernel
theorem dL_law_136 : decode cL_law 136 = .ok (.ifCond .eq 91, 3) := by decide +kernel
theorem dL_law_139 : decode cL_law 139 = .ok (.aload_n 1, 1) := by decide +kernel
theorem dL_law_140 : decode cL_law 140 = .ok (.aload_n 2, 1) := by decide +kernel
theorem dL_law_141 : decode cL_law 141 = .ok (.aload_n 3, 1) := by decide +kernel
theorem dL_law_142 : decode cL_law 142 = .ok (.aload 4, 2) := by decide +kernel
theorem dL_law_144 : decode cL_law 144 = .ok (.aload 5, 2) := by decide +kernel
theorem dL_law_146 : decode cL_law 146 = .ok (.aload 6, 2) := by decide +kernel
theorem dL_law_148 : decode cL_law 148 = .ok (.aload 7, 2) := by decide +kernel
theorem dL_law_150 : decode cL_law 150 = .ok (.aload_n 0, 1) := by decide +kernel
theorem dL_law_151 : decode cL_law 151 = .ok (.iconst 2, 1) := by decide +kernel
theorem dL_law_152 : decode cL_law 152 = .ok (.iload 9, 2) := by decide +kernel
theorem dL_law_154 : decode cL_law 154 = .ok (.imul, 1) := by decide +kernel
theorem dL_law_155 : decode cL_law 155 = .ok (.invokestatic 181, 3) := by decide +kernel
theorem dL_law_158 : decode cL_law 158 = .ok (.aload_n 0, 1) := by decide +kernel
theorem dL_law_159 : decode cL_law 159 = .ok (.iconst 2, 1) := by decide +kernel
theorem dL_law_160 : decode cL_law 160 = .ok (.iload 9, 2) := by decide +kernel
theorem dL_law_162 : decode cL_law 162 = .ok (.imul, 1) := by decide +kernel
theorem dL_law_163 : decode cL_law 163 = .ok (.iconst 1, 1) := by decide +kernel
theorem dL_law_164 : decode cL_law 164 = .ok (.iadd, 1) := by decide +kernel
theorem dL_law_165 : decode cL_law 165 = .ok (.invokestatic 181, 3) := by decide +kernel
theorem dL_law_168 : decode cL_law 168 = .ok (.invokestatic 185, 3) := by decide +kernel
theorem dL_law_171 : decode cL_law 171 = .ok (.istore 8, 2) := by decide +kernel
theorem dL_law_173 : decode cL_law 173 = .ok (.iload 8, 2) := by decide +kernel
theorem dL_law_175 : decode cL_law 175 = .ok (.ifCond .eq 46, 3) := by decide +kernel
theorem dL_law_178 : decode cL_law 178 = .ok (.iload 9, 2) := by decide +kernel
theorem dL_law_180 : decode cL_law 180 = .ok (.iconst 4, 1) := by decide +kernel
theorem dL_law_181 : decode cL_law 181 = .ok (.irem, 1) := by decide +kernel
theorem dL_law_182 : decode cL_law 182 = .ok (.iconst 3, 1) := by decide +kernel
theorem dL_law_183 : decode cL_law 183 = .ok (.if_icmp .ne 38, 3) := by decide +kernel
theorem dL_law_186 : decode cL_law 186 = .ok (.aload_n 1, 1) := by decide +kernel
theorem dL_law_187 : decode cL_law 187 = .ok (.aload_n 3, 1) := by decide +kernel
theorem dL_law_188 : decode cL_law 188 = .ok (.aload 4, 2) := by decide +kernel
theorem dL_law_190 : decode cL_law 190 = .ok (.aload 5, 2) := by decide +kernel
theorem dL_law_192 : decode cL_law 192 = .ok (.aload 6, 2) := by decide +kernel
theorem dL_law_194 : decode cL_law 194 = .ok (.aload 7, 2) := by decide +kernel
theorem dL_law_196 : decode cL_law 196 = .ok (.invokestatic 189, 3) := by decide +kernel
theorem dL_law_199 : decode cL_law 199 = .ok (.ifCond .eq 19, 3) := by decide +kernel
theorem dL_law_202 : decode cL_law 202 = .ok (.aload_n 1, 1) := by decide +kernel
theorem dL_law_203 : decode cL_law 203 = .ok (.invokestatic 193, 3) := by decide +kernel
theorem dL_law_206 : decode cL_law 206 = .ok (.aload_n 2, 1) := by decide +kernel
theorem dL_law_207 : decode cL_law 207 = .ok (.invokestatic 193, 3) := by decide +kernel
theorem dL_law_210 : decode cL_law 210 = .ok (.lcmp, 1) := by decide +kernel
theorem dL_law_211 : decode cL_law 211 = .ok (.ifCond .ne 7, 3) := by decide +kernel
theorem dL_law_214 : decode cL_law 214 = .ok (.iconst 1, 1) := by decide +kernel
theorem dL_law_215 : decode cL_law 215 = .ok (.goto 4, 3) := by decide +kernel
theorem dL_law_218 : decode cL_law 218 = .ok (.iconst 0, 1) := by decide +kernel
theorem dL_law_219 : decode cL_law 219 = .ok (.istore 8, 2) := by decide +kernel
theorem dL_law_221 : decode cL_law 221 = .ok (.iinc 9 1, 3) := by decide +kernel
theorem dL_law_224 : decode cL_law 224 = .ok (.goto (-97), 3) := by decide +kernel
theorem dL_law_227 : decode cL_law 227 = .ok (.iload 8, 2) := by decide +kernel
theorem dL_law_229 : decode cL_law 229 = .ok (.ireturn, 1) := by decide +kernel
end
section
/-! THE GROUND: the good words of the tables, what holds of a state's tables, pictures of the class and of the model, rows -/
def big : List Cond := lw_tbl.filter goodWord
theorem big_i {w : Cond} (i : Nat) (h : lw_tbl[i]? = some w) (hg : goodWord w = true) : w ∈ big := List.mem_filter.mpr ⟨List.mem_of_getElem? h, hg⟩
theorem big_good {w : Cond} (h : w ∈ big) : w ∈ big ∧ ((w.onTables && w.keeps) = true ∨ ∃ ty, w = .arrayClass ty) := ⟨h, good_of_word (List.mem_filter.mp h).2⟩
/-- the tables are the law's start's, but for what has been resolved since -/
def GL (U : State) : Prop := ∃ (s0 : State) (a0 : Array Value), (∀ w ∈ lw_tbl, w.before a0 s0 = true) ∧ (Jvm.Cond.and given_1 narrow_1).before a0 s0 = true ∧ s0.WarmedH U.vm
theorem GL.warm {s U : State} (h : GL s) (hW : s.WarmedH U.vm) : GL U := by
  obtain ⟨s0, a0, h1, h2, h3⟩ := h
  exact ⟨s0, a0, h1, h2, State.WarmedH.trans h3 hW⟩
theorem GL.words {U : State} {a : Array Value} (h : GL U) : ∀ w ∈ big, w.before a U = true := by
  obtain ⟨s0, a0, h1, h2, h3⟩ := h
  intro w hw
  obtain ⟨hm, hg⟩ := List.mem_filter.mp hw
  exact word_at h3 (good_of_word hg) (h1 w hm)
theorem GL.face {U : State} {a : Array Value} {w : Cond} (h : GL U) (hm : w ∈ lw_tbl) (hk : (w.onTables && w.keepsFace) = true) : w.before a U = true := by
  obtain ⟨s0, a0, h1, h2, h3⟩ := h
  simp only [Bool.and_eq_true] at hk
  have h4 := Cond.before_shiftedFace (State.Shifted.of_warmed h3) w hk.2 (h1 w hm)
  exact va_tabs hk.1 (u := s0.setVm U.vm) rfl h4
theorem GL.nestM {U : State} {a : String} {i : Nat} {x : MethodName} {h : String} (hG : GL U) (hm : Cond.methodLinkNest a i x h ∈ lw_tbl) : va_Nw (.methodLinkNest a i x h) U := by
  obtain ⟨s0, a0, h1, h2, h3⟩ := hG
  exact va_Nw.warmM h3 (va_Nw.of rfl (h1 _ hm))
theorem GL.nestF {U : State} {a : String} {i : Nat} {b n d h : String} (hG : GL U) (hm : Cond.fieldLinkNest a i b n d h ∈ lw_tbl) : va_Nw (.fieldLinkNest a i b n d h) U := by
  obtain ⟨s0, a0, h1, h2, h3⟩ := hG
  exact va_Nw.warmF h3 (va_Nw.of rfl (h1 _ hm))
theorem GL.str {U : State} {own tx : String} {k : Nat} {c : ClassId} (hG : GL U) (hown : U.vm.findClass own = some c) (hm : Cond.stringRef own k tx ∈ lw_tbl) : ∃ sa, vk_R own k tx sa U := by
  obtain ⟨s0, a0, h1, h2, h3⟩ := hG
  have hs := h1 _ hm
  have hown0 : s0.vm.findClass own = some c := by rw [← h3.alike.findClass]; exact hown
  obtain ⟨k', cf, i, sa, -, -, -, -, -, hev⟩ := Cond.stringRef_spec hown0 hs
  exact ⟨sa, (vk_R.of (A := a0) hs hev).warm h3⟩
theorem GL.nc {U : State} {C T : String} (hG : GL U) (hm : Cond.not (.castable C T) ∈ flatC (Jvm.Cond.and given_1 narrow_1)) : va_Nc C T U := by
  obtain ⟨s0, a0, h1, h2, h3⟩ := hG
  exact (va_Nc.of (flat_of_before _ h2 _ hm)).moved h3.alike
abbrev vwCl : List vw_C := [(RX0, TX0, 7), (RX1, TX1, 6), (RX2, TX2, 4), (RX3, TX3, 6)]
abbrev kG : Type := va_G × ClassId × ClassId × ClassId
def kTys (G : kG) : List (ClassId × FieldType) := [(G.2.1, .int), (G.2.2.1, .boolean)]
def KK (G : kG) (U : State) : Prop := va_K G.1 vwCl (kTys G) U ∧ GL U
theorem KK.warm {G : kG} {s U : State} (h : KK G s) (hW : s.WarmedH U.vm) : KK G U := ⟨h.1.moved hW.alike, h.2.warm hW⟩
/-- the class's cells: at a 0 the object, at a 1, a 2 prices and bounds, at a 3, a 4, a 5 the three row objects, then their arrays -/
def wX (G : kG) (a : Nat → Nat) (S : Nat → Nat → Int32) : va_W :=
  [(a 0, .inr (3, [.ref (a 1), .ref (a 2), .ref (a 3), .ref (a 4), .ref (a 5), .int (S 16 0)])),
   (a 1, .inl (G.2.1, 5, .inl (S 0))), (a 2, .inl (G.2.1, 6, .inl (S 1))),
   (a 3, .inr (1, [.ref (a 6), .ref (a 7), .ref (a 8), .ref (a 9), .ref (a 10), .int (S 17 0)])),
   (a 4, .inr (2, [.ref (a 11), .ref (a 12), .ref (a 13), .int (S 18 0)])),
   (a 5, .inr (0, [.ref (a 14), .ref (a 15), .ref (a 16), .ref (a 17), .ref (a 18), .ref (a 19), .int (S 19 0)])),
   (a 6, .inl (G.2.1, 200, .inl (S 2))), (a 7, .inl (G.2.1, 200, .inl (S 3))), (a 8, .inl (G.2.1, 200, .inl (S 4))), (a 9, .inl (G.2.1, 200, .inl (S 5))), (a 10, .inl (G.2.1, 200, .inl (S 6))),
   (a 11, .inl (G.2.1, 40, .inl (S 7))), (a 12, .inl (G.2.1, 40, .inl (S 8))), (a 13, .inl (G.2.2.1, 40, .inl (S 9))),
   (a 14, .inl (G.2.1, 200, .inl (S 10))), (a 15, .inl (G.2.1, 200, .inl (S 11))), (a 16, .inl (G.2.1, 200, .inl (S 12))), (a 17, .inl (G.2.1, 200, .inl (S 13))), (a 18, .inl (G.2.1, 200, .inl (S 14))), (a 19, .inl (G.2.1, 200, .inl (S 15)))]
/-- place i of row k holds x now -/
def su (S : Nat → Nat → Int32) (k i : Nat) (x : Int32) : Nat → Nat → Int32 := fun k' => bif k'.beq k then upd (S k) i x else S k'
def PX (G : kG) (a : Nat → Nat) (S : Nat → Nat → Int32) (U : State) (H : Heap) : Prop := va_P G.1 vwCl (wX G a S) H ∧ KK G U
/-- n addresses, apart, all of a kind -/
def DD (n : Nat) (A : Nat → Prop) (a : Nat → Nat) : Prop := (∀ i j, i < n → j < n → a i = a j → i = j) ∧ ∀ i, i < n → A (a i)
theorem DD.w {n : Nat} {A : Nat → Prop} {a : Nat → Nat} {ws : va_W} (h : DD n A a) (hw : ws.map (fun q => q.1) = (List.range n).map a) : va_D A ws := by
  have key : ∀ (k : Nat) (q : Nat × va_E), ws[k]? = some q → k < n ∧ q.1 = a k := by
    intro k q hk
    have h1 : (ws.map (fun q => q.1))[k]? = some q.1 := by rw [List.getElem?_map, hk]; rfl
    rw [hw, List.getElem?_map] at h1
    by_cases hn : k < n
    · rw [List.getElem?_range hn] at h1
      exact ⟨hn, (Option.some.inj h1).symm⟩
    · rw [List.getElem?_eq_none (by simp; omega)] at h1
      cases h1
  refine ⟨fun i j x y hi hj hxy => ?_, fun k q hk => ?_⟩
  · obtain ⟨h1, h2⟩ := key i x hi
    obtain ⟨h3, h4⟩ := key j y hj
    exact h.1 i j h1 h3 (by rw [← h2, ← h4]; exact hxy)
  · obtain ⟨h1, h2⟩ := key k q hk
    rw [h2]; exact h.2 k h1
theorem wX_fst (G : kG) (a : Nat → Nat) (S : Nat → Nat → Int32) : (wX G a S).map (fun q => q.1) = (List.range 20).map a := rfl
theorem PX.warm {G : kG} {a : Nat → Nat} {S : Nat → Nat → Int32} {s U : State} {H : Heap} (h : PX G a S s H) (hW : s.WarmedH U.vm) : PX G a S U H := ⟨h.1, h.2.warm hW⟩
/-- what a throw reads of the class Throwable -/
def ZS (U : State) (H : Heap) : Prop := vx_Zq Bundle.tN "UNASSIGNED_STACK" Bundle.steD (fun _ => False) U H ∧ vx_Zq Bundle.tN "SUPPRESSED_SENTINEL" Bundle.listD (fun _ => False) U H
theorem ZS.warm {s U : State} {H : Heap} (h : ZS s H) (hW : s.WarmedH U.vm) : ZS U H := ⟨vx_Zq.moved hW.alike h.1, vx_Zq.moved hW.alike h.2⟩
/-- a start's words that only the heap and the tables decide -/
def kBl (B : State → Prop) : Prop := ∀ U U' : State, U'.heap = U.heap → U'.vm = U.vm → B U → B U'
theorem kBl.blind {av : List Value} {B : State → Prop} (h : kBl B) : FrameBlind (va_Pc av B) := fun _ U _ _ q => ⟨q.1, h U _ rfl rfl q.2⟩
theorem warm_vm {U U' : State} (h : U'.vm = U.vm) : U.WarmedH U'.vm := by rw [h]; exact State.WarmedH.refl U
theorem bl_PX {G : kG} {a : Nat → Nat} {S : Nat → Nat → Int32} : kBl (fun U => PX G a S U U.heap) := fun U U' h1 h2 h => by
  show PX G a S U' U'.heap
  rw [h1]; exact PX.warm h (warm_vm h2)
theorem bl_PXZ {G : kG} {a : Nat → Nat} {S : Nat → Nat → Int32} : kBl (fun U => PX G a S U U.heap ∧ ZS U U.heap) := fun U U' h1 h2 h => by
  show PX G a S U' U'.heap ∧ ZS U' U'.heap
  rw [h1]; exact ⟨PX.warm h.1 (warm_vm h2), ZS.warm h.2 (warm_vm h2)⟩
theorem bl_GL : kBl GL := fun U U' _ h2 h => h.warm (warm_vm h2)
theorem bl_GZ : kBl (fun U => GL U ∧ ZS U U.heap) := fun U U' h1 h2 h => by
  show GL U' ∧ ZS U' U'.heap
  rw [h1]; exact ⟨GL.warm h.1 (warm_vm h2), ZS.warm h.2 (warm_vm h2)⟩
theorem inb {C : String} {T : u_T} {N : Nat} (h1 : ∀ w ∈ u_ws C T N, w ∈ lw_tbl) (h2 : ∀ w ∈ u_ws C T N, goodWord w = true) : ∀ w ∈ u_ws C T N, w ∈ big := fun w h => List.mem_filter.mpr ⟨h1 w h, h2 w h⟩
theorem inX0 : ∀ w ∈ u_ws RX0 TX0 7, w ∈ big := inb (by decide +kernel) (by decide +kernel)
theorem inX1 : ∀ w ∈ u_ws RX1 TX1 6, w ∈ big := inb (by decide +kernel) (by decide +kernel)
theorem inX2 : ∀ w ∈ u_ws RX2 TX2 4, w ∈ big := inb (by decide +kernel) (by decide +kernel)
theorem inX3 : ∀ w ∈ u_ws RX3 TX3 6, w ∈ big := inb (by decide +kernel) (by decide +kernel)
/-- a truth as Java's int -/
def bI (b : Bool) : Int32 := if b then 1 else 0
theorem bI_t : bI true = 1 := rfl
theorem bI_f : bI false = 0 := rfl
theorem bI_0 {b : Bool} (h : bI b = 0) : b = false := by cases b; rfl; exact absurd h (by decide)
theorem bI_n {b : Bool} (h : ¬ bI b = 0) : b = true := by cases b; exact absurd rfl h; rfl
theorem bI_nar (b : Bool) : narrow .boolean (.int (bI b)) = .int (bI b) := by cases b <;> rfl
theorem dt {c : Prop} [Decidable c] (h : c) : decide c = true := decide_eq_true h
theorem df {c : Prop} [Decidable c] (h : ¬ c) : decide c = false := decide_eq_false h
section KR
variable {p : Program} {l : Launch} {e : Env} {R : Room} {s : State} {m : MethodId} {args : Array Value} {below : List Frame} {meth : Method} {c : Code} {H H0 : Heap} {locs : List Loc} {cells slots : Nat} {Q : State → Prop}
variable {cc : ByteArray} {pc nL : Nat} {ls : Array Slot} {rest : List Value} {G : kG} {A : Nat → Prop} {ad : Nat} {ws : va_W} {own : String}
theorem k_get (S : CallFix p m c cc nL s args big own) (hK : KK G s) (hP : va_P G.1 vwCl ws H) (q0 : Nat) {ci : Nat} {fs : List Value} (he : ws[q0]? = some (ad, .inr (ci, fs))) {C : String} {T : u_T} {N index : Nat} (hc : vwCl[ci]? = some (C, T, N)) (k : Nat) (hk : k < N) (hin : ∀ w ∈ u_ws C T N, w ∈ big)
    (hl : Cond.fieldLink own index (T k).1 (T k).2.1 (T k).2.2.1 ∈ big) {v : Value} (hv : fs[k]? = some v) (hdg : decode cc pc = .ok (.getfield index, 3))
    (kk : W p l e R s m args below meth c H locs cells slots Q (F0 m (pc + 3) ls (v :: rest))) : W p l e R s m args below meth c H locs cells slots Q (F0 m pc ls (.ref ad :: rest)) :=
  va_get (D := G.1) (ci := ci) (C := C) (T := T) (N := N) S.1 S.2.1 S.2.2.2.2 hin S.2.2.2.1 hK.1 hP q0 he hc k hk (S.2.2.2.2 _ hl) (fun _ h => h) hv hdg kk
theorem k_getN (S : CallFix p m c cc nL s args big own) (hK : KK G s) (hP : va_P G.1 vwCl ws H) (q0 : Nat) {ci : Nat} {fs : List Value} (he : ws[q0]? = some (ad, .inr (ci, fs))) {C host : String} {T : u_T} {N index : Nat} (hc : vwCl[ci]? = some (C, T, N)) (k : Nat) (hk : k < N) (hin : ∀ w ∈ u_ws C T N, w ∈ big)
    (hl : Cond.fieldLinkNest own index (T k).1 (T k).2.1 (T k).2.2.1 host ∈ lw_tbl) {v : Value} (hv : fs[k]? = some v) (hdg : decode cc pc = .ok (.getfield index, 3))
    (kk : W p l e R s m args below meth c H locs cells slots Q (F0 m (pc + 3) ls (v :: rest))) : W p l e R s m args below meth c H locs cells slots Q (F0 m pc ls (.ref ad :: rest)) :=
  va_getN (D := G.1) (ci := ci) (C := C) (T := T) (N := N) S.1 S.2.1 S.2.2.2.2 hin S.2.2.2.1 hK.1 hP q0 he hc k hk (va_Nw.use rfl (hK.2.nestF hl)) (fun _ h => h) hv hdg kk
theorem k_put (S : CallFix p m c cc nL s args big own) (hK : KK G s) (hP : va_P G.1 vwCl ws H) (hD : va_D A ws) (hS : va_S A H0 H locs) (q0 : Nat) {ci : Nat} {fs : List Value} (he : ws[q0]? = some (ad, .inr (ci, fs))) {C : String} {T : u_T} {N index : Nat} (hc : vwCl[ci]? = some (C, T, N)) (k : Nat) (hk : k < N) (hin : ∀ w ∈ u_ws C T N, w ∈ big)
    (ty0 : Nat → FieldType) (hty : ∀ k, k < N → parseFieldDescriptor (T k).2.2.1 = some (ty0 k)) (hnm : ∀ a, a < N → ∀ b, b < N → a ≠ b → (T a).2.1 ≠ (T b).2.1) (hfin : (T k).2.2.2 = false) (hit : ty0 k = .int)
    (hl : Cond.fieldLink own index (T k).1 (T k).2.1 (T k).2.2.1 ∈ big) {v : Int32} (hlen : k < fs.length) (hdg : decode cc pc = .ok (.putfield index, 3))
    (kk : ∀ (H1 : Heap) (locs1 : List Loc), va_P G.1 vwCl (ws.set q0 (ad, .inr (ci, fs.set k (.int v)))) H1 → va_S A H0 H1 locs1 → W p l e R s m args below meth c H1 locs1 cells slots Q (F0 m (pc + 3) ls rest)) : W p l e R s m args below meth c H locs cells slots Q (F0 m pc ls (.int v :: .ref ad :: rest)) :=
  va_put (D := G.1) (ci := ci) (C := C) (T := T) (N := N) (ty := .int) S.1 S.2.1 S.2.2.2.2 hin ty0 hty hnm S.2.2.2.1 hK.1 hP hD hS q0 he hc k hk (S.2.2.2.2 _ hl) (fun _ h => h) hfin (by rw [hty k hk, hit]) rfl rfl hlen hdg (fun H1 locs1 h1 _ h3 => kk H1 locs1 h1 h3)
theorem k_ild (S : CallFix p m c cc nL s args big own) (hK : KK G s) (hP : va_P G.1 vwCl ws H) (q0 : Nat) {n : Nat} {f : Nat → Int32} (he : ws[q0]? = some (ad, .inl (G.2.1, n, .inl f))) {i : Nat} (hi : i < n) (hn : n < 2 ^ 31) (hdg : decode cc pc = .ok (.iaload, 1))
    (kk : W p l e R s m args below meth c H locs cells slots Q (F0 m (pc + 1) ls (.int (f i) :: rest))) : W p l e R s m args below meth c H locs cells slots Q (F0 m pc ls (.int (nI i) :: .ref ad :: rest)) := by
  refine va_iald (D := G.1) S.1 S.2.1 hK.1 hP q0 0 he rfl (vp_in_nI hi hn) hdg ?_
  rw [nI_clamp (Nat.lt_trans hi hn)]
  exact kk
theorem k_zld (S : CallFix p m c cc nL s args big own) (hK : KK G s) (hP : va_P G.1 vwCl ws H) (q0 : Nat) {n : Nat} {f : Nat → Int32} (he : ws[q0]? = some (ad, .inl (G.2.2.1, n, .inl f))) {i : Nat} (hi : i < n) (hn : n < 2 ^ 31) (hdg : decode cc pc = .ok (.baload, 1))
    (kk : W p l e R s m args below meth c H locs cells slots Q (F0 m (pc + 1) ls (.int (f i) :: rest))) : W p l e R s m args below meth c H locs cells slots Q (F0 m pc ls (.int (nI i) :: .ref ad :: rest)) := by
  refine va_zald (D := G.1) S.1 S.2.1 hK.1 hP q0 1 he rfl (vp_in_nI hi hn) hdg ?_
  rw [nI_clamp (Nat.lt_trans hi hn)]
  exact kk
theorem k_ist (S : CallFix p m c cc nL s args big own) (hK : KK G s) (hP : va_P G.1 vwCl ws H) (hD : va_D A ws) (hS : va_S A H0 H locs) (q0 : Nat) {n : Nat} {f : Nat → Int32} (he : ws[q0]? = some (ad, .inl (G.2.1, n, .inl f))) {i : Nat} {x : Int32} (hi : i < n) (hn : n < 2 ^ 31) (hdg : decode cc pc = .ok (.iastore, 1))
    (kk : ∀ (H1 : Heap) (locs1 : List Loc), va_P G.1 vwCl (ws.set q0 (ad, .inl (G.2.1, n, .inl (upd f i x)))) H1 → va_S A H0 H1 locs1 → W p l e R s m args below meth c H1 locs1 cells slots Q (F0 m (pc + 1) ls rest)) : W p l e R s m args below meth c H locs cells slots Q (F0 m pc ls (.int x :: .int (nI i) :: .ref ad :: rest)) := by
  refine va_iast (D := G.1) S.1 S.2.1 hK.1 hP hD hS q0 0 he rfl (vp_in_nI hi hn) hdg (fun H1 locs1 h1 _ h3 => ?_)
  rw [nI_clamp (Nat.lt_trans hi hn)] at h1
  exact kk H1 locs1 h1 h3
theorem k_zst (S : CallFix p m c cc nL s args big own) (hK : KK G s) (hP : va_P G.1 vwCl ws H) (hD : va_D A ws) (hS : va_S A H0 H locs) (q0 : Nat) {n : Nat} {f : Nat → Int32} (he : ws[q0]? = some (ad, .inl (G.2.2.1, n, .inl f))) {i : Nat} {x : Int32} (hi : i < n) (hn : n < 2 ^ 31) (hx : vp_nar .boolean x = x) (hdg : decode cc pc = .ok (.bastore, 1))
    (kk : ∀ (H1 : Heap) (locs1 : List Loc), va_P G.1 vwCl (ws.set q0 (ad, .inl (G.2.2.1, n, .inl (upd f i x)))) H1 → va_S A H0 H1 locs1 → W p l e R s m args below meth c H1 locs1 cells slots Q (F0 m (pc + 1) ls rest)) : W p l e R s m args below meth c H locs cells slots Q (F0 m pc ls (.int x :: .int (nI i) :: .ref ad :: rest)) := by
  refine va_zast (D := G.1) S.1 S.2.1 hK.1 hP hD hS q0 1 he rfl (vp_in_nI hi hn) hdg (fun H1 locs1 h1 _ h3 => ?_)
  rw [nI_clamp (Nat.lt_trans hi hn), hx] at h1
  exact kk H1 locs1 h1 h3
theorem k_alen (S : CallFix p m c cc nL s args big own) (hK : KK G s) (hP : va_P G.1 vwCl ws H) (q0 : Nat) {n : Nat} {f : Nat → Int32} (he : ws[q0]? = some (ad, .inl (G.2.1, n, .inl f))) (hdg : decode cc pc = .ok (.arraylength, 1))
    (kk : W p l e R s m args below meth c H locs cells slots Q (F0 m (pc + 1) ls (.int (nI n) :: rest))) : W p l e R s m args below meth c H locs cells slots Q (F0 m pc ls (.ref ad :: rest)) :=
  va_alen (D := G.1) S.1 S.2.1 hK.1 hP q0 0 he rfl (v := nI n) rfl hdg kk
/-- the value on top under another name -/
theorem k_eq {x y : Int32} (h : x = y) (kk : W p l e R s m args below meth c H locs cells slots Q (F0 m pc ls (.int y :: rest))) : W p l e R s m args below meth c H locs cells slots Q (F0 m pc ls (.int x :: rest)) := by rw [h]; exact kk
theorem k_eq2 {x y : Int32} {v : Value} (h : x = y) (kk : W p l e R s m args below meth c H locs cells slots Q (F0 m pc ls (v :: .int y :: rest))) : W p l e R s m args below meth c H locs cells slots Q (F0 m pc ls (v :: .int x :: rest)) := by rw [h]; exact kk
theorem k_cat {st : List Value} (h : (st.map fun v => v.category).sum ≤ 8) : 2 * (F0 m pc ls rest).monitorRoom + (st.map fun v => v.category).sum ≤ 8 := lv_room h
end KR
end
section
/-! CONTRACTS' FORMS AND RULES FOR CALLS -/
abbrev NF : Addr → Prop := fun _ => False
/-- returns nothing, the heap as it was -/
def rV (P : Prop) : Array Value → State → Outcome → State → Prop := fun _ st o t => o = .returned none ∧ P ∧ t.heap = st.heap
/-- throws: the heap has grown, no more -/
def tX (E : String → Prop) : String → State → State → Prop := fun x st t => E x ∧ st.heap.size ≤ t.heap.size ∧ ∀ q : Nat, q < st.heap.size → t.heap[q]? = st.heap[q]?
/-- returns an int, with another world -/
def oW (A : Nat → Prop) (P : Int32 → Prop) (B : Heap → Prop) : Array Value → State → Outcome → State → Prop := fun _ st o t => (∃ r : Int32, o = .returned (some (.int r)) ∧ P r) ∧ B t.heap ∧ va_F A st t
def oV (A : Nat → Prop) (P : Prop) (B : Heap → Prop) : Array Value → State → Outcome → State → Prop := fun _ st o t => o = .returned none ∧ P ∧ B t.heap ∧ va_F A st t
abbrev names2 : List String := ["java/lang/RuntimeException", "java/lang/Exception"]
def exN (k : Nat) : String := match k with
  | 1 => "java/lang/IndexOutOfBoundsException"
  | 2 => "java/lang/IllegalArgumentException"
  | 3 => "java/lang/IllegalStateException"
  | _ => "java/util/NoSuchElementException"
section KC
variable {p : Program} {l : Launch} {e : Env} {R : Room} {s : State} {m : MethodId} {args : Array Value} {below : List Frame} {meth : Method} {c : Code} {H : Heap} {locs : List Loc} {cells slots : Nat} {Q : State → Prop}
variable {y : MethodName} {bytes cc : ByteArray} {maxL nL mc ms n index pc : Nat} {ret : Option FieldType} {rm : Room} {Pc : Array Value → State → Prop} {Qc : Array Value → State → Outcome → State → Prop} {XC : String → State → State → Prop} {free : Addr → Prop} {own C host : String} {b : Addr} {As rest st0 : List Value} {ls : Array Slot} {a : Array Value} {A A1 : Nat → Prop}
/-- the words of a call, by kind -/
abbrev wdV (own : String) (index : Nat) (C : String) (y : MethodName) (cw : Cond) : Prop := Cond.methodLink own index y ∈ big ∧ Cond.instanceMethod y ∈ big ∧ Cond.selects C y y ∈ big ∧ Cond.initialized C ∈ big ∧ cw ∈ big
abbrev wdS (own : String) (index : Nat) (y : MethodName) (cw : Cond) : Prop := Cond.methodLink own index y ∈ big ∧ Cond.static y ∈ big ∧ Cond.initialized y.cls ∈ big ∧ cw ∈ big
abbrev wdVN (own : String) (index : Nat) (C : String) (y : MethodName) (host : String) (cw : Cond) : Prop := Cond.methodLinkNest own index y host ∈ lw_tbl ∧ Cond.instanceMethod y ∈ big ∧ Cond.selects C y y ∈ big ∧ Cond.initialized C ∈ big ∧ cw ∈ big
abbrev ydV (C : String) (y : MethodName) (n : Nat) : Prop := y.cls = C ∧ y.cls ≠ "java/lang/invoke/MethodHandle" ∧ y.cls ≠ "java/lang/invoke/VarHandle" ∧ (parseMethodDescriptor y.desc).map (fun d => d.parameters.length) = some n
abbrev rmD (rm R : Room) (maxL mc ms : Nat) : Prop := rm.cells = mc ∧ rm.slots = ms ∧ rm.frames + 1 ≤ R.frames ∧ 8 + (maxL + 11) + rm.locals ≤ R.locals
theorem gd_V {cw : Cond} (h : wdV own index C y cw) : GoodIn big (wsV own index C y [cw]) := by
  intro w hw
  simp only [wsV, List.cons_append, List.nil_append, List.mem_cons, List.not_mem_nil, or_false] at hw
  rcases hw with rfl | rfl | rfl | rfl | rfl
  · exact big_good h.1
  · exact big_good h.2.1
  · exact big_good h.2.2.1
  · exact big_good h.2.2.2.1
  · exact big_good h.2.2.2.2
theorem gd_1 {cw : Cond} (h : cw ∈ big) : GoodIn big [cw] := by
  intro w hw
  rw [List.mem_singleton.mp hw]
  exact big_good h
theorem gd_S {cw : Cond} (h : wdS own index y cw) : GoodIn big (va_wsS own index y [cw]) := by
  intro w hw
  simp only [va_wsS, List.cons_append, List.nil_append, List.mem_cons, List.not_mem_nil, or_false] at hw
  rcases hw with rfl | rfl | rfl | rfl
  · exact big_good h.1
  · exact big_good h.2.1
  · exact big_good h.2.2.1
  · exact big_good h.2.2.2
theorem cb_S (S : CallFix p m c cc nL s args big own) (hw : wdS own index y (.code y bytes maxL ret)) (hd : ydV y.cls y n) (hR : rmD rm R maxL mc ms) : CallB R s args own index y bytes maxL ret [.code y bytes maxL ret] rm mc ms n ∧ (Cond.static y).before args s = true :=
  ⟨callB_of n S.2.2.2.2 (gd_1 hw.2.2.2) rfl hR.1 hR.2.1 (S.2.2.2.2 _ hw.2.2.1) (S.2.2.2.2 _ hw.1) hd.2 hR.2.2, S.2.2.2.2 _ hw.2.1⟩
theorem r_V (S : CallFix p m c cc nL s args big own) (hw : wdV own index C y (.code y bytes maxL ret)) (hd : ydV C y n) (hM : Met l y [.code y bytes maxL ret] rm Pc Qc mc ms free) (hR : rmD rm R maxL mc ms) (hp : PreV s H C b Pc As)
    (hn : As.length = n) (hsize : ls.size = nL) (hstack : st0 = As.reverse ++ .ref b :: rest) (hW : (rest.map fun v => v.category).sum ≤ 8) (hf : cells + mc ≤ R.cells ∧ slots + ms ≤ R.slots) (hdg : decode cc pc = .ok (.invokevirtual index, 3)) :
    va_Run p l e R s m args below meth c H locs cells slots mc ms (F0 m pc ls st0) rest (Qc (Value.ref b :: As).toArray) free :=
  va_runV S hM (cwV n S.2.2.2.2 (gd_V hw) rfl hR.1 hR.2.1 hd hR.2.2) hp rfl hn hsize hstack (lv_room hW) hdg hf
theorem r_VN (S : CallFix p m c cc nL s args big own) (hG : GL s) (hw : wdVN own index C y host (.code y bytes maxL ret)) (hd : ydV C y n) (hM : Met l y [.code y bytes maxL ret] rm Pc Qc mc ms free) (hR : rmD rm R maxL mc ms) (hp : PreV s H C b Pc As)
    (hn : As.length = n) (hsize : ls.size = nL) (hstack : st0 = As.reverse ++ .ref b :: rest) (hW : (rest.map fun v => v.category).sum ≤ 8) (hf : cells + mc ≤ R.cells ∧ slots + ms ≤ R.slots) (hdg : decode cc pc = .ok (.invokevirtual index, 3)) :
    va_Run p l e R s m args below meth c H locs cells slots mc ms (F0 m pc ls st0) rest (Qc (Value.ref b :: As).toArray) free :=
  va_runVN S hM ⟨va_cnB n S.2.2.2.2 (gd_1 hw.2.2.2.2) rfl hR.1 hR.2.1 (hG.nestM hw.1) (by rw [hd.1]; exact S.2.2.2.2 _ hw.2.2.2.1) hd.2 hR.2.2, S.2.2.2.2 _ hw.2.1, S.2.2.2.2 _ hw.2.2.1⟩ hp rfl hn hsize hstack (lv_room hW) hdg hf
theorem r_S (S : CallFix p m c cc nL s args big own) (hw : wdS own index y (.code y bytes maxL ret)) (hd : ydV y.cls y n) (hM : Met l y [.code y bytes maxL ret] rm Pc Qc mc ms free) (hR : rmD rm R maxL mc ms) (hp : PreS s H Pc As)
    (hn : As.length = n) (hsize : ls.size = nL) (hstack : st0 = As.reverse ++ rest) (hW : (rest.map fun v => v.category).sum ≤ 8) (hf : cells + mc ≤ R.cells ∧ slots + ms ≤ R.slots) (hdg : decode cc pc = .ok (.invokestatic index, 3)) :
    va_Run p l e R s m args below meth c H locs cells slots mc ms (F0 m pc ls st0) rest (Qc As.toArray) free :=
  va_runS S hM (cb_S S hw hd hR) hp rfl hn hsize hstack (lv_room hW) hdg hf
theorem rx_V (S : CallFix p m c cc nL s args big own) (hw : wdV own index C y (.code y bytes maxL ret)) (hd : ydV C y n) (hM : vx_Met l y [.code y bytes maxL ret] rm Pc Qc XC mc ms free) (hR : rmD rm R maxL mc ms) (hp : PreV s H C b Pc As)
    (hn : As.length = n) (hsize : ls.size = nL) (hstack : st0 = As.reverse ++ .ref b :: rest) (hW : (rest.map fun v => v.category).sum ≤ 8) (hf : cells + mc ≤ R.cells ∧ slots + ms ≤ R.slots) (hdg : decode cc pc = .ok (.invokevirtual index, 3)) :
    vx_Run p l e R s m args below meth c H locs cells slots mc ms (F0 m pc ls st0) rest (Qc (Value.ref b :: As).toArray) XC free :=
  vx_runV S hM (cwV n S.2.2.2.2 (gd_V hw) rfl hR.1 hR.2.1 hd hR.2.2) hp rfl hn hsize hstack (lv_room hW) hdg hf
theorem rx_S (S : CallFix p m c cc nL s args big own) (hw : wdS own index y (.code y bytes maxL ret)) (hd : ydV y.cls y n) (hM : vx_Met l y [.code y bytes maxL ret] rm Pc Qc XC mc ms free) (hR : rmD rm R maxL mc ms) (hp : PreS s H Pc As)
    (hn : As.length = n) (hsize : ls.size = nL) (hstack : st0 = As.reverse ++ rest) (hW : (rest.map fun v => v.category).sum ≤ 8) (hf : cells + mc ≤ R.cells ∧ slots + ms ≤ R.slots) (hdg : decode cc pc = .ok (.invokestatic index, 3)) :
    vx_Run p l e R s m args below meth c H locs cells slots mc ms (F0 m pc ls st0) rest (Qc As.toArray) XC free :=
  vx_runS S hM (cb_S S hw hd hR) hp rfl hn hsize hstack (lv_room hW) hdg hf
theorem rx_SX {hh : List (Nat × Nat × Nat × Nat)} (S : CallFix p m c cc nL s args big own) (hw : wdS own index y (.codeWith y bytes maxL ret hh)) (hd : ydV y.cls y n) (hM : vx_Met l y [.codeWith y bytes maxL ret hh] rm Pc Qc XC mc ms free) (hR : rmD rm R maxL mc ms) (hp : PreS s H Pc As)
    (hn : As.length = n) (hsize : ls.size = nL) (hstack : st0 = As.reverse ++ rest) (hW : (rest.map fun v => v.category).sum ≤ 8) (hf : cells + mc ≤ R.cells ∧ slots + ms ≤ R.slots) (hdg : decode cc pc = .ok (.invokestatic index, 3)) :
    vx_Run p l e R s m args below meth c H locs cells slots mc ms (F0 m pc ls st0) rest (Qc As.toArray) XC free :=
  vx_runSX S hM (vx_cwSW n S.2.2.2.2 (gd_S hw) rfl hR.1 hR.2.1 hd.2 hR.2.2) hp rfl hn hsize hstack (lv_room hW) hdg hf
-- what comes behind a call
theorem q_i {P : Int32 → Prop} (hr : va_Run p l e R s m args below meth c H locs cells slots 0 0 (F0 m pc ls st0) rest (vp_Si P a) NF)
    (kk : ∀ r : Int32, P r → W p l e R s m args below meth c H locs cells slots Q (F0 m (pc + 3) ls (.int r :: rest))) : W p l e R s m args below meth c H locs cells slots Q (F0 m pc ls st0) := by
  intro T hT X
  obtain ⟨v, st₀, t, T', L, h0, X', hL, e1, -, ⟨r, hv, hp, hh⟩, st⟩ := hr T hT X
  cases hv
  obtain ⟨t2, a1, b1⟩ := kk r hp T' (by rw [e1, hh, h0]) (Stand.forget X' (fun q h => (hL q h).elim))
  exact ⟨t2, st t2 a1, b1⟩
theorem q_l {P : Int64 → Prop} (hr : va_Run p l e R s m args below meth c H locs cells slots 0 0 (F0 m pc ls st0) rest (vp_Sl P a) NF)
    (kk : ∀ r : Int64, P r → W p l e R s m args below meth c H locs cells slots Q (F0 m (pc + 3) ls (.long r :: rest))) : W p l e R s m args below meth c H locs cells slots Q (F0 m pc ls st0) := by
  intro T hT X
  obtain ⟨v, st₀, t, T', L, h0, X', hL, e1, -, ⟨r, hv, hp, hh⟩, st⟩ := hr T hT X
  cases hv
  obtain ⟨t2, a1, b1⟩ := kk r hp T' (by rw [e1, hh, h0]) (Stand.forget X' (fun q h => (hL q h).elim))
  exact ⟨t2, st t2 a1, b1⟩
theorem s_call {st₀ t T' : State} {L : List Loc} {H0 : Heap} (h0 : st₀.heap = H) (e1 : T'.heap = t.heap) (hS : va_S A H0 H locs) (hA : ∀ q, A1 q → A q) (hL : ∀ q ∈ L, A1 q.base) (hF : va_F A1 st₀ t) :
    H.size ≤ T'.heap.size ∧ (∀ q : Nat, q < H.size → ¬ A1 q → T'.heap[q]? = H[q]?) ∧ va_S A H0 T'.heap (locs ++ L) := by
  obtain ⟨hz, hk⟩ := hF
  rw [h0] at hz hk
  exact ⟨by rw [e1]; exact hz, fun q h1 h2 => by rw [e1]; exact hk q h1 h2,
    ⟨Nat.le_trans hS.1 (by rw [e1]; exact hz), fun q h1 h2 => by rw [e1, hk q (Nat.lt_of_lt_of_le h1 hS.1) (fun z => h2 (hA q z))]; exact hS.2.1 q h1 h2, fun q hq => by
      rcases List.mem_append.mp hq with h | h
      · exact hS.2.2 q h
      · exact hA _ (hL q h)⟩⟩
theorem q_w {P : Int32 → Prop} {B : Heap → Prop} {H0 : Heap} (hr : va_Run p l e R s m args below meth c H locs cells slots mc ms (F0 m pc ls st0) rest (oW A1 P B a) A1) (hS : va_S A H0 H locs) (hA : ∀ q, A1 q → A q)
    (kk : ∀ (r : Int32) (H1 : Heap) (locs1 : List Loc), P r → B H1 → H.size ≤ H1.size → (∀ q : Nat, q < H.size → ¬ A1 q → H1[q]? = H[q]?) → va_S A H0 H1 locs1 → W p l e R s m args below meth c H1 locs1 (cells + mc) (slots + ms) Q (F0 m (pc + 3) ls (.int r :: rest))) : W p l e R s m args below meth c H locs cells slots Q (F0 m pc ls st0) := by
  intro T hT X
  obtain ⟨v, st₀, t, T', L, h0, X', hL, e1, -, ⟨⟨r, hv, hp⟩, hb, hF⟩, st⟩ := hr T hT X
  cases hv
  obtain ⟨k1, k2, k3⟩ := s_call h0 e1 hS hA hL hF
  obtain ⟨t2, a1, b1⟩ := kk r T'.heap (locs ++ L) hp (by rw [e1]; exact hb) k1 k2 k3 T' rfl X'
  exact ⟨t2, st t2 a1, b1⟩
theorem q_wv {P : Prop} {B : Heap → Prop} {H0 : Heap} (hr : va_Run p l e R s m args below meth c H locs cells slots mc ms (F0 m pc ls st0) rest (oV A1 P B a) A1) (hS : va_S A H0 H locs) (hA : ∀ q, A1 q → A q)
    (kk : ∀ (H1 : Heap) (locs1 : List Loc), P → B H1 → H.size ≤ H1.size → (∀ q : Nat, q < H.size → ¬ A1 q → H1[q]? = H[q]?) → va_S A H0 H1 locs1 → W p l e R s m args below meth c H1 locs1 (cells + mc) (slots + ms) Q (F0 m (pc + 3) ls rest)) : W p l e R s m args below meth c H locs cells slots Q (F0 m pc ls st0) := by
  intro T hT X
  obtain ⟨v, st₀, t, T', L, h0, X', hL, e1, -, ⟨hv, hp, hb, hF⟩, st⟩ := hr T hT X
  cases hv
  obtain ⟨k1, k2, k3⟩ := s_call h0 e1 hS hA hL hF
  obtain ⟨t2, a1, b1⟩ := kk T'.heap (locs ++ L) hp (by rw [e1]; exact hb) k1 k2 k3 T' rfl X'
  exact ⟨t2, st t2 a1, b1⟩
/-- a callee that may throw, read only: its exception goes through this method, which has written nothing -/
theorem q_xv {P : Prop} {E1 E2 : String → Prop} {mc2 ms2 : Nat} {free : Addr → Prop} (hr : vx_Run p l e R s m args below meth c s.heap [] cells slots mc ms (F0 m pc ls st0) rest (rV P a) (tX E1) NF)
    (ht : ∀ x ∈ c.exceptionTable.toList, False) (hlocks : meth.locks = false) (hE : ∀ x, E1 x → E2 x) (hc : cells + mc ≤ mc2) (hs : slots + ms ≤ ms2)
    (kk : P → W p l e R s m args below meth c s.heap [] (cells + mc) (slots + ms) (vx_MQ below Qc (tX E2) args s mc2 ms2 free) (F0 m (pc + 3) ls rest)) : W p l e R s m args below meth c s.heap [] cells slots (vx_MQ below Qc (tX E2) args s mc2 ms2 free) (F0 m pc ls st0) := by
  intro T hT X
  rcases hr T hT X with ⟨v, st₀, t, T', L, h0, X', hL, e1, -, ⟨hv, hp, hh⟩, st⟩ | ⟨q, st₀, t, T', L, E, ce, h0, X', hL, e1, e2, ⟨h1, h2, h3⟩, hce, hcv, hcl, st⟩
  · cases hv
    obtain ⟨t2, a1, b1⟩ := kk hp T' (by rw [e1, hh, h0]) (Stand.forget X' (fun q h => (hL q h).elim))
    exact ⟨t2, st t2 a1, b1⟩
  · rw [h0] at h2 h3
    obtain ⟨t2, a1, b1⟩ := vx_out (Qc := Qc) (XC := tX E2) (free := free) (pc := pc) (ls := ls) (rest := rest) (E := E) (ce := ce) (q := q) (H := T'.heap) (locs := []) (fun x hx => (ht x hx).elim) hlocks (by rw [e1]; exact hce) hcv hcl
      (fun t9 ht9 _ => ⟨hE _ h1, by rw [ht9, e1]; exact h2, fun q hq => by rw [ht9, e1]; exact h3 q hq⟩) (fun z h => by cases h) hc hs T' rfl (Stand.forget X' (fun q h => (hL q h).elim))
    exact ⟨t2, st.trans a1, b1⟩
theorem q_xi {P : Int32 → Prop} {E1 E2 : String → Prop} {mc2 ms2 : Nat} {free : Addr → Prop} (hr : vx_Run p l e R s m args below meth c s.heap [] cells slots mc ms (F0 m pc ls st0) rest (vp_Si P a) (tX E1) NF)
    (ht : ∀ x ∈ c.exceptionTable.toList, False) (hlocks : meth.locks = false) (hE : ∀ x, E1 x → E2 x) (hc : cells + mc ≤ mc2) (hs : slots + ms ≤ ms2)
    (kk : ∀ r : Int32, P r → W p l e R s m args below meth c s.heap [] (cells + mc) (slots + ms) (vx_MQ below Qc (tX E2) args s mc2 ms2 free) (F0 m (pc + 3) ls (.int r :: rest))) : W p l e R s m args below meth c s.heap [] cells slots (vx_MQ below Qc (tX E2) args s mc2 ms2 free) (F0 m pc ls st0) := by
  intro T hT X
  rcases hr T hT X with ⟨v, st₀, t, T', L, h0, X', hL, e1, -, ⟨r, hv, hp, hh⟩, st⟩ | ⟨q, st₀, t, T', L, E, ce, h0, X', hL, e1, e2, ⟨h1, h2, h3⟩, hce, hcv, hcl, st⟩
  · cases hv
    obtain ⟨t2, a1, b1⟩ := kk r hp T' (by rw [e1, hh, h0]) (Stand.forget X' (fun q h => (hL q h).elim))
    exact ⟨t2, st t2 a1, b1⟩
  · rw [h0] at h2 h3
    obtain ⟨t2, a1, b1⟩ := vx_out (Qc := Qc) (XC := tX E2) (free := free) (pc := pc) (ls := ls) (rest := rest) (E := E) (ce := ce) (q := q) (H := T'.heap) (locs := []) (fun x hx => (ht x hx).elim) hlocks (by rw [e1]; exact hce) hcv hcl
      (fun t9 ht9 _ => ⟨hE _ h1, by rw [ht9, e1]; exact h2, fun q hq => by rw [ht9, e1]; exact h3 q hq⟩) (fun z h => by cases h) hc hs T' rfl (Stand.forget X' (fun q h => (hL q h).elim))
    exact ⟨t2, st.trans a1, b1⟩
/-- throw new E("text") in the class, which has written nothing -/
theorem k_thr {E2 : String → Prop} {mc2 ms2 ik is ic : Nat} {cls text : String} {free : Addr → Prop} (S : CallFix p m c cc nL s args big RX3) (hG : GL s) (hZ : ZS s s.heap) (hl : l.stackTraces = false)
    (hat : ∀ w ∈ vx_atS RX3 ic cls names2, w ∈ lw_tbl ∧ (w.onTables && w.keepsFace) = true) (hk : Cond.classLink RX3 ik cls ∈ big) (hini : Cond.initialized cls ∈ big) (hfit : Bundle.fit cls = true)
    (hstr : Cond.stringRef RX3 is text ∈ lw_tbl) (hsize : ls.size = nL) (ht : ∀ x ∈ c.exceptionTable.toList, False) (hlocks : meth.locks = false)
    (hR : 6 ≤ R.frames ∧ 90 ≤ R.locals) (hRc : cells + 1 ≤ R.cells ∧ slots + 6 ≤ R.slots) (hc : cells + 1 ≤ mc2 ∧ slots + 6 ≤ ms2) (hW : (rest.map fun v => v.category).sum ≤ 8) (hE : E2 cls)
    (d0 : decode cc pc = .ok (.new ik, 3)) (d3 : decode cc (pc + 3) = .ok (.dup, 1)) (d4 : decode cc (pc + 4) = .ok (.ldc is, 2)) (d6 : decode cc (pc + 6) = .ok (.invokespecial ic, 3)) (d9 : decode cc (pc + 9) = .ok (.athrow, 1)) :
    W p l e R s m args below meth c s.heap [] cells slots (vx_MQ below Qc (tX E2) args s mc2 ms2 free) (F0 m pc ls rest) := by
  obtain ⟨sa, hsa⟩ := hG.str S.2.2.2.1 hstr
  have hlen : names2.length = 2 := rfl
  refine vx_throwS (cls := cls) (names := names2) (A := fun _ => False) S.1 S.2.1 hl S.2.2.2.1 hfit (by decide +kernel) (S.2.2.2.2 _ hk) (S.2.2.2.2 _ hini) hsa (fun w hw => hG.face (hat w hw).1 (hat w hw).2) ?_ hZ.1 hZ.2 va_S.rf (by rw [hsize]; exact S.2.2.1.symm) d0 d3 d4 d6 d9 (fun x hx => (ht x hx).elim) (by rw [hlen]; omega) (by rw [hlen]; omega) hRc.1 hRc.2 hlocks (fun t _ h2 h3 => ⟨hE, h2, h3⟩) (fun z h => by cases h) hc.1 hc.2
  intro w hw
  rcases List.mem_cons.mp hw with rfl | hw
  · rfl
  · rcases List.mem_cons.mp hw with rfl | hw
    · rfl
    · have h1 := (hat w hw).2
      simp only [Bool.and_eq_true] at h1
      unfold vx_ot
      rw [h1.1]; rfl
-- a body's beginning
theorem k_of {av : List Value} {B : State → Prop} (hy : plainName y.cls = true) (hlen : (lg_sl av).length ≤ maxL) (hB : ∀ U, B U → GL U)
    (body : ∀ (p : Program) (e : Env) (s : State) (m : MethodId) (below : List Frame) (meth : Method) (c : Code) (ls : Array Slot), CallFix p m c cc maxL s av.toArray big y.cls → meth.sig.returnType = ret → meth.locks = false → meth.name = y.name → B s → lv_has ls maxL (lv_args 0 av) →
      W p l e rm s m av.toArray below meth c s.heap [] 0 0 (MQ below Qc av.toArray s mc ms free) (F0 m 0 ls [])) : Met l y [.code y cc maxL ret] rm (va_Pc av B) Qc mc ms free := by
  refine Met.ofW (cc := cc) (maxL := maxL) (ret := ret) hy rfl ?_
  intro p e s m args below meth c s₁ BB hml hv
  obtain ⟨rfl, hb⟩ := hv
  rw [lg_entry_eq]
  exact body p e s m below meth c _ ⟨BB.exec, BB.bytes, hml, findClass_of_methodNamed BB.named, (hB s hb).words⟩ BB.returns BB.notSynchronized (name_of_methodNamed BB.named BB.method).1 hb (lv_entry av hlen)
theorem kx_of {av : List Value} {B : State → Prop} (hy : plainName y.cls = true) (hlen : (lg_sl av).length ≤ maxL) (hB : ∀ U, B U → GL U)
    (body : ∀ (p : Program) (e : Env) (s : State) (m : MethodId) (below : List Frame) (meth : Method) (c : Code) (ls : Array Slot), CallFix p m c cc maxL s av.toArray big y.cls → meth.sig.returnType = ret → meth.locks = false → (∀ x ∈ c.exceptionTable.toList, False) → B s → lv_has ls maxL (lv_args 0 av) →
      W p l e rm s m av.toArray below meth c s.heap [] 0 0 (vx_MQ below Qc XC av.toArray s mc ms free) (F0 m 0 ls [])) : vx_Met l y [.code y cc maxL ret] rm (va_Pc av B) Qc XC mc ms free := by
  refine vx_ofW (cc := cc) (maxL := maxL) (ret := ret) hy rfl ?_
  intro p e s m args below meth c s₁ BB hml ht hv
  obtain ⟨rfl, hb⟩ := hv
  rw [lg_entry_eq]
  exact body p e s m below meth c _ ⟨BB.exec, BB.bytes, hml, findClass_of_methodNamed BB.named, (hB s hb).words⟩ BB.returns BB.notSynchronized ht hb (lv_entry av hlen)
theorem kh_of {av : List Value} {B : State → Prop} {hh : List (Nat × Nat × Nat × Nat)} (hy : plainName y.cls = true) (hlen : (lg_sl av).length ≤ maxL) (hB : ∀ U, B U → GL U)
    (body : ∀ (p : Program) (e : Env) (s : State) (m : MethodId) (below : List Frame) (meth : Method) (c : Code) (ls : Array Slot), CallFix p m c cc maxL s av.toArray big y.cls → meth.sig.returnType = ret → meth.locks = false → c.exceptionTable.toList = tableOf hh → B s → lv_has ls maxL (lv_args 0 av) →
      W p l e rm s m av.toArray below meth c s.heap [] 0 0 (vx_MQ below Qc XC av.toArray s mc ms free) (F0 m 0 ls [])) : vx_Met l y [.codeWith y cc maxL ret hh] rm (va_Pc av B) Qc XC mc ms free := by
  refine vx_ofWH (cc := cc) (maxL := maxL) (ret := ret) (hh := hh) hy rfl ?_
  intro p e s m args below meth c s₁ BB hml hv
  obtain ⟨rfl, hb⟩ := hv
  rw [lg_entry_eq]
  exact body p e s m below meth c _ ⟨BB.exec, BB.bytes, hml, findClass_of_methodNamed BB.named, (hB s hb).words⟩ BB.returns BB.notSynchronized (vx_table (x := y) BB (atoms_spec (ws := [.codeWith y cc maxL ret hh]) BB.pre _ List.mem_cons_self)) hb (lv_entry av hlen)
-- receivers
theorem pv_X {G : kG} {ad : Nat → Nat} {σ : Nat → Nat → Int32} {B : State → Prop} (hX : PX G ad σ s H) (i : Nat) {ci : Nat} {q : vw_C} {fs : List Value} (hc : vwCl[ci]? = some q) (he : (wX G ad σ)[i]? = some (b, .inr (ci, fs))) (hbl : kBl B) (hB : ∀ U : State, U.heap = H → s.WarmedH U.vm → B U) : PreV s H q.1 b (va_Pc (.ref b :: As) B) As :=
  ⟨hbl.blind, va_recv hX.2.1 hX.1 hc he, fun U hU hW => ⟨rfl, hB U hU hW⟩⟩
theorem ps {B : State → Prop} (hbl : kBl B) (hB : ∀ U : State, U.heap = H → s.WarmedH U.vm → B U) : PreS s H (va_Pc As B) As := ⟨hbl.blind, fun U hU hW => ⟨rfl, hB U hU hW⟩⟩
theorem bX {G : kG} {ad : Nat → Nat} {σ : Nat → Nat → Int32} (hX : PX G ad σ s H) : ∀ U : State, U.heap = H → s.WarmedH U.vm → PX G ad σ U U.heap := fun U hU hW => by rw [hU]; exact hX.warm hW
theorem bXZ {G : kG} {ad : Nat → Nat} {σ : Nat → Nat → Int32} (hX : PX G ad σ s H) (hZ : ZS s H) : ∀ U : State, U.heap = H → s.WarmedH U.vm → PX G ad σ U U.heap ∧ ZS U U.heap := fun U hU hW => by rw [hU]; exact ⟨hX.warm hW, hZ.warm hW⟩
theorem bG (hG : GL s) : ∀ U : State, U.heap = H → s.WarmedH U.vm → GL U := fun U _ hW => hG.warm hW
theorem bGZ (hG : GL s) (hZ : ZS s H) : ∀ U : State, U.heap = H → s.WarmedH U.vm → GL U ∧ ZS U U.heap := fun U hU hW => by rw [hU]; exact ⟨hG.warm hW, hZ.warm hW⟩
end KC
end
section
/-! the words of the tables, by their places -/
theorem m_0 : Cond.selects RX2 yX2_isOpenFor yX2_isOpenFor ∈ big := big_i 0 (by decide +kernel) rfl
theorem m_1 : Cond.selects RX2 yX2_latestFor yX2_latestFor ∈ big := big_i 1 (by decide +kernel) rfl
theorem m_2 : Cond.selects RX3 yX3_urgencyOf yX3_urgencyOf ∈ big := big_i 2 (by decide +kernel) rfl
theorem m_3 : Cond.selects RX3 yX3_worthOf yX3_worthOf ∈ big := big_i 3 (by decide +kernel) rfl
theorem m_4 : Cond.selects RX3 yX3_bookOf yX3_bookOf ∈ big := big_i 4 (by decide +kernel) rfl
theorem m_5 : Cond.selects RX3 yX3_signedSheetFor yX3_signedSheetFor ∈ big := big_i 5 (by decide +kernel) rfl
theorem m_6 : Cond.selects RX0 yX0_hasSign yX0_hasSign ∈ big := big_i 6 (by decide +kernel) rfl
theorem m_7 : Cond.selects RX3 yX3_isStronger yX3_isStronger ∈ big := big_i 7 (by decide +kernel) rfl
theorem m_8 : Cond.selects RX1 yX1_brought yX1_brought ∈ big := big_i 8 (by decide +kernel) rfl
theorem m_9 : Cond.selects RX3 yX3_checkLine yX3_checkLine ∈ big := big_i 9 (by decide +kernel) rfl
theorem m_11 : Cond.selects RX0 yX0_countsOn yX0_countsOn ∈ big := big_i 11 (by decide +kernel) rfl
theorem m_12 : Cond.selects RX3 yX3_canBeSettled yX3_canBeSettled ∈ big := big_i 12 (by decide +kernel) rfl
theorem m_13 : Cond.selects RX3 yX3_isSignable yX3_isSignable ∈ big := big_i 13 (by decide +kernel) rfl
theorem m_14 : Cond.selects RX0 yX0_agrees yX0_agrees ∈ big := big_i 14 (by decide +kernel) rfl
theorem m_15 : Cond.selects RX3 yX3_gapOf yX3_gapOf ∈ big := big_i 15 (by decide +kernel) rfl
theorem m_16 : Cond.selects RX3 yX3_checkAgrees yX3_checkAgrees ∈ big := big_i 16 (by decide +kernel) rfl
theorem m_17 : Cond.selects RX0 yX0_write yX0_write ∈ big := big_i 17 (by decide +kernel) rfl
theorem m_18 : Cond.selects RX1 yX1_add yX1_add ∈ big := big_i 18 (by decide +kernel) rfl
theorem m_19 : Cond.selects RX2 yX2_add yX2_add ∈ big := big_i 19 (by decide +kernel) rfl
theorem m_20 : Cond.selects RX0 yX0_isCountedBy yX0_isCountedBy ∈ big := big_i 20 (by decide +kernel) rfl
theorem m_21 : Cond.selects RX0 yX0_add yX0_add ∈ big := big_i 21 (by decide +kernel) rfl
theorem m_22 : Cond.initialized RL ∈ big := big_i 22 (by decide +kernel) rfl
theorem m_23 : Cond.initialized RX3 ∈ big := big_i 23 (by decide +kernel) rfl
theorem m_24 : Cond.initialized RX1 ∈ big := big_i 24 (by decide +kernel) rfl
theorem m_25 : Cond.initialized RX2 ∈ big := big_i 25 (by decide +kernel) rfl
theorem m_26 : Cond.initialized RX0 ∈ big := big_i 26 (by decide +kernel) rfl
theorem m_27 : Cond.initialized "java/util/Arrays" ∈ big := big_i 27 (by decide +kernel) rfl
theorem m_28 : Cond.initialized "java/lang/Math" ∈ big := big_i 28 (by decide +kernel) rfl
theorem m_29 : Cond.initialized "java/lang/Throwable" ∈ big := big_i 29 (by decide +kernel) rfl
theorem m_30 : Cond.initialized "java/lang/Exception" ∈ big := big_i 30 (by decide +kernel) rfl
theorem m_31 : Cond.initialized "java/lang/RuntimeException" ∈ big := big_i 31 (by decide +kernel) rfl
theorem m_32 : Cond.initialized "java/lang/IndexOutOfBoundsException" ∈ big := big_i 32 (by decide +kernel) rfl
theorem m_33 : Cond.initialized "java/lang/IllegalArgumentException" ∈ big := big_i 33 (by decide +kernel) rfl
theorem m_34 : Cond.initialized "java/lang/IllegalStateException" ∈ big := big_i 34 (by decide +kernel) rfl
theorem m_35 : Cond.initialized "java/lang/Integer" ∈ big := big_i 35 (by decide +kernel) rfl
theorem m_36 : Cond.initialized "java/util/NoSuchElementException" ∈ big := big_i 36 (by decide +kernel) rfl
theorem m_37 : Cond.classLink RL 11 RX3 ∈ big := big_i 37 (by decide +kernel) rfl
theorem m_38 : Cond.instantiable RX3 6 ∈ big := big_i 38 (by decide +kernel) rfl
theorem m_39 : Cond.methodLink RL 180 yX3_init ∈ big := big_i 39 (by decide +kernel) rfl
theorem m_40 : Cond.instanceMethod yX3_init ∈ big := big_i 40 (by decide +kernel) rfl
theorem m_41 : Cond.code yX3_init cX3_init 1 none ∈ big := big_i 41 (by decide +kernel) rfl
theorem m_42 : Cond.methodLink RX3 3 objectInit ∈ big := big_i 42 (by decide +kernel) rfl
theorem m_43 : Cond.instanceMethod objectInit ∈ big := big_i 43 (by decide +kernel) rfl
theorem m_44 : Cond.code objectInit ⟨#[0xb1]⟩ 1 none ∈ big := big_i 44 (by decide +kernel) rfl
theorem m_45 : Cond.classLink RX3 16 RX1 ∈ big := big_i 45 (by decide +kernel) rfl
theorem m_46 : Cond.instantiable RX1 6 ∈ big := big_i 46 (by decide +kernel) rfl
theorem n_47 : Cond.methodLinkNest RX3 18 yX1_init "CountSheets" ∈ lw_tbl := List.mem_of_getElem? (i := 47) (by decide +kernel)
theorem m_48 : Cond.instanceMethod yX1_init ∈ big := big_i 48 (by decide +kernel) rfl
theorem m_49 : Cond.code yX1_init cX1_init 1 none ∈ big := big_i 49 (by decide +kernel) rfl
theorem m_50 : Cond.methodLink RX1 3 objectInit ∈ big := big_i 50 (by decide +kernel) rfl
theorem m_51 : Cond.fieldLink RX1 9 "CountSheets$MoveRows" "from" "[I" ∈ big := big_i 51 (by decide +kernel) rfl
theorem m_52 : Cond.fieldLink RX1 15 "CountSheets$MoveRows" "to" "[I" ∈ big := big_i 52 (by decide +kernel) rfl
theorem m_53 : Cond.fieldLink RX1 18 "CountSheets$MoveRows" "article" "[I" ∈ big := big_i 53 (by decide +kernel) rfl
theorem m_54 : Cond.fieldLink RX1 21 "CountSheets$MoveRows" "quantity" "[I" ∈ big := big_i 54 (by decide +kernel) rfl
theorem m_55 : Cond.fieldLink RX1 24 "CountSheets$MoveRows" "minute" "[I" ∈ big := big_i 55 (by decide +kernel) rfl
theorem m_56 : Cond.fieldLink RX1 27 "CountSheets$MoveRows" "size" "I" ∈ big := big_i 56 (by decide +kernel) rfl
theorem n_57 : Cond.fieldLinkNest RX3 67 "CountSheets$MoveRows" "size" "I" "CountSheets" ∈ lw_tbl := List.mem_of_getElem? (i := 57) (by decide +kernel)
theorem m_71 : Cond.arrayClass .int ∈ big := big_i 71 (by decide +kernel) rfl
theorem m_72 : Cond.classLink RX3 23 RX2 ∈ big := big_i 72 (by decide +kernel) rfl
theorem m_73 : Cond.instantiable RX2 4 ∈ big := big_i 73 (by decide +kernel) rfl
theorem n_74 : Cond.methodLinkNest RX3 25 yX2_init "CountSheets" ∈ lw_tbl := List.mem_of_getElem? (i := 74) (by decide +kernel)
theorem m_75 : Cond.instanceMethod yX2_init ∈ big := big_i 75 (by decide +kernel) rfl
theorem m_76 : Cond.code yX2_init cX2_init 1 none ∈ big := big_i 76 (by decide +kernel) rfl
theorem m_77 : Cond.methodLink RX2 3 objectInit ∈ big := big_i 77 (by decide +kernel) rfl
theorem m_78 : Cond.fieldLink RX2 9 "CountSheets$SheetRows" "place" "[I" ∈ big := big_i 78 (by decide +kernel) rfl
theorem n_79 : Cond.fieldLinkNest RX3 170 "CountSheets$SheetRows" "place" "[I" "CountSheets" ∈ lw_tbl := List.mem_of_getElem? (i := 79) (by decide +kernel)
theorem m_80 : Cond.fieldLink RX2 15 "CountSheets$SheetRows" "cut" "[I" ∈ big := big_i 80 (by decide +kernel) rfl
theorem n_81 : Cond.fieldLinkNest RX3 158 "CountSheets$SheetRows" "cut" "[I" "CountSheets" ∈ lw_tbl := List.mem_of_getElem? (i := 81) (by decide +kernel)
theorem m_82 : Cond.fieldLink RX2 18 "CountSheets$SheetRows" "closed" "[Z" ∈ big := big_i 82 (by decide +kernel) rfl
theorem n_83 : Cond.fieldLinkNest RX3 95 "CountSheets$SheetRows" "closed" "[Z" "CountSheets" ∈ lw_tbl := List.mem_of_getElem? (i := 83) (by decide +kernel)
theorem m_84 : Cond.fieldLink RX2 22 "CountSheets$SheetRows" "size" "I" ∈ big := big_i 84 (by decide +kernel) rfl
theorem n_85 : Cond.fieldLinkNest RX3 85 "CountSheets$SheetRows" "size" "I" "CountSheets" ∈ lw_tbl := List.mem_of_getElem? (i := 85) (by decide +kernel)
theorem m_95 : Cond.arrayClass .boolean ∈ big := big_i 95 (by decide +kernel) rfl
theorem m_96 : Cond.classLink RX3 30 RX0 ∈ big := big_i 96 (by decide +kernel) rfl
theorem m_97 : Cond.instantiable RX0 7 ∈ big := big_i 97 (by decide +kernel) rfl
theorem n_98 : Cond.methodLinkNest RX3 32 yX0_init "CountSheets" ∈ lw_tbl := List.mem_of_getElem? (i := 98) (by decide +kernel)
theorem m_99 : Cond.instanceMethod yX0_init ∈ big := big_i 99 (by decide +kernel) rfl
theorem m_100 : Cond.code yX0_init cX0_init 1 none ∈ big := big_i 100 (by decide +kernel) rfl
theorem m_101 : Cond.methodLink RX0 3 objectInit ∈ big := big_i 101 (by decide +kernel) rfl
theorem m_102 : Cond.methodLink RX0 34 yJ7_fill_53178 ∈ big := big_i 102 (by decide +kernel) rfl
theorem m_103 : Cond.static yJ7_fill_53178 ∈ big := big_i 103 (by decide +kernel) rfl
theorem m_104 : Cond.code yJ7_fill_53178 cJ7_fill_53178 4 none ∈ big := big_i 104 (by decide +kernel) rfl
theorem m_105 : Cond.fieldLink RX0 11 "CountSheets$LineRows" "persons" "[I" ∈ big := big_i 105 (by decide +kernel) rfl
theorem m_106 : Cond.fieldLink RX0 15 "CountSheets$LineRows" "first" "[I" ∈ big := big_i 106 (by decide +kernel) rfl
theorem m_107 : Cond.fieldLink RX0 18 "CountSheets$LineRows" "second" "[I" ∈ big := big_i 107 (by decide +kernel) rfl
theorem m_108 : Cond.fieldLink RX0 21 "CountSheets$LineRows" "agreement" "[I" ∈ big := big_i 108 (by decide +kernel) rfl
theorem n_109 : Cond.fieldLinkNest RX3 164 "CountSheets$LineRows" "agreement" "[I" "CountSheets" ∈ lw_tbl := List.mem_of_getElem? (i := 109) (by decide +kernel)
theorem m_110 : Cond.fieldLink RX0 24 "CountSheets$LineRows" "signature" "[I" ∈ big := big_i 110 (by decide +kernel) rfl
theorem n_111 : Cond.fieldLinkNest RX3 198 "CountSheets$LineRows" "signature" "[I" "CountSheets" ∈ lw_tbl := List.mem_of_getElem? (i := 111) (by decide +kernel)
theorem m_112 : Cond.fieldLink RX0 27 "CountSheets$LineRows" "signedGap" "[I" ∈ big := big_i 112 (by decide +kernel) rfl
theorem n_113 : Cond.fieldLinkNest RX3 173 "CountSheets$LineRows" "signedGap" "[I" "CountSheets" ∈ lw_tbl := List.mem_of_getElem? (i := 113) (by decide +kernel)
theorem m_114 : Cond.fieldLink RX0 30 "CountSheets$LineRows" "signatures" "I" ∈ big := big_i 114 (by decide +kernel) rfl
theorem m_130 : Cond.methodLink RX3 41 yJ7_fill_53178 ∈ big := big_i 130 (by decide +kernel) rfl
theorem m_131 : Cond.fieldLink RX3 9 "CountSheets" "prices" "[I" ∈ big := big_i 131 (by decide +kernel) rfl
theorem m_132 : Cond.fieldLink RX3 13 "CountSheets" "bounds" "[I" ∈ big := big_i 132 (by decide +kernel) rfl
theorem m_133 : Cond.fieldLink RX3 19 "CountSheets" "moveRows" "LCountSheets$MoveRows;" ∈ big := big_i 133 (by decide +kernel) rfl
theorem m_134 : Cond.fieldLink RX3 26 "CountSheets" "sheetRows" "LCountSheets$SheetRows;" ∈ big := big_i 134 (by decide +kernel) rfl
theorem m_135 : Cond.fieldLink RX3 33 "CountSheets" "lineRows" "LCountSheets$LineRows;" ∈ big := big_i 135 (by decide +kernel) rfl
theorem m_136 : Cond.fieldLink RX3 37 "CountSheets" "minuteNow" "I" ∈ big := big_i 136 (by decide +kernel) rfl
theorem m_150 : Cond.methodLink RL 89 yX3_now ∈ big := big_i 150 (by decide +kernel) rfl
theorem m_151 : Cond.instanceMethod yX3_now ∈ big := big_i 151 (by decide +kernel) rfl
theorem m_152 : Cond.selects RX3 yX3_now yX3_now ∈ big := big_i 152 (by decide +kernel) rfl
theorem m_153 : Cond.code yX3_now cX3_now 1 (some .int) ∈ big := big_i 153 (by decide +kernel) rfl
theorem m_154 : Cond.methodLink RL 112 yX3_suggested ∈ big := big_i 154 (by decide +kernel) rfl
theorem m_155 : Cond.instanceMethod yX3_suggested ∈ big := big_i 155 (by decide +kernel) rfl
theorem m_156 : Cond.selects RX3 yX3_suggested yX3_suggested ∈ big := big_i 156 (by decide +kernel) rfl
theorem m_157 : Cond.code yX3_suggested cX3_suggested 7 (some .int) ∈ big := big_i 157 (by decide +kernel) rfl
theorem n_158 : Cond.methodLinkNest RX3 79 yX2_isOpenFor "CountSheets" ∈ lw_tbl := List.mem_of_getElem? (i := 158) (by decide +kernel)
theorem m_160 : Cond.instanceMethod yX2_isOpenFor ∈ big := big_i 160 (by decide +kernel) rfl
theorem m_161 : Cond.code yX2_isOpenFor cX2_isOpenFor 3 (some .boolean) ∈ big := big_i 161 (by decide +kernel) rfl
theorem m_162 : Cond.methodLink RX2 26 yX2_latestFor ∈ big := big_i 162 (by decide +kernel) rfl
theorem m_164 : Cond.instanceMethod yX2_latestFor ∈ big := big_i 164 (by decide +kernel) rfl
end
section
/-! the words of the tables, by their places -/
theorem m_165 : Cond.code yX2_latestFor cX2_latestFor 3 (some .int) ∈ big := big_i 165 (by decide +kernel) rfl
theorem m_166 : Cond.methodLink RX3 154 yX3_urgencyOf ∈ big := big_i 166 (by decide +kernel) rfl
theorem m_168 : Cond.instanceMethod yX3_urgencyOf ∈ big := big_i 168 (by decide +kernel) rfl
theorem m_169 : Cond.code yX3_urgencyOf cX3_urgencyOf 5 (some .long) ∈ big := big_i 169 (by decide +kernel) rfl
theorem n_170 : Cond.methodLinkNest RX3 204 yX2_latestFor "CountSheets" ∈ lw_tbl := List.mem_of_getElem? (i := 170) (by decide +kernel)
theorem m_171 : Cond.methodLink RX3 151 yX3_worthOf ∈ big := big_i 171 (by decide +kernel) rfl
theorem m_173 : Cond.instanceMethod yX3_worthOf ∈ big := big_i 173 (by decide +kernel) rfl
theorem m_174 : Cond.code yX3_worthOf cX3_worthOf 4 (some .int) ∈ big := big_i 174 (by decide +kernel) rfl
theorem m_175 : Cond.methodLink RX3 147 yX3_bookOf ∈ big := big_i 175 (by decide +kernel) rfl
theorem m_177 : Cond.instanceMethod yX3_bookOf ∈ big := big_i 177 (by decide +kernel) rfl
theorem m_178 : Cond.code yX3_bookOf cX3_bookOf 6 (some .int) ∈ big := big_i 178 (by decide +kernel) rfl
theorem m_179 : Cond.methodLink RX3 188 yX3_signedSheetFor ∈ big := big_i 179 (by decide +kernel) rfl
theorem m_181 : Cond.instanceMethod yX3_signedSheetFor ∈ big := big_i 181 (by decide +kernel) rfl
theorem m_182 : Cond.code yX3_signedSheetFor cX3_signedSheetFor 6 (some .int) ∈ big := big_i 182 (by decide +kernel) rfl
theorem m_183 : Cond.methodLink RX3 92 yX3_lineOf ∈ big := big_i 183 (by decide +kernel) rfl
theorem m_184 : Cond.static yX3_lineOf ∈ big := big_i 184 (by decide +kernel) rfl
theorem m_185 : Cond.code yX3_lineOf cX3_lineOf 2 (some .int) ∈ big := big_i 185 (by decide +kernel) rfl
theorem n_186 : Cond.methodLinkNest RX3 167 yX0_hasSign "CountSheets" ∈ lw_tbl := List.mem_of_getElem? (i := 186) (by decide +kernel)
theorem m_188 : Cond.instanceMethod yX0_hasSign ∈ big := big_i 188 (by decide +kernel) rfl
theorem m_189 : Cond.code yX0_hasSign cX0_hasSign 2 (some .boolean) ∈ big := big_i 189 (by decide +kernel) rfl
theorem m_190 : Cond.methodLink RX3 195 yX3_isStronger ∈ big := big_i 190 (by decide +kernel) rfl
theorem m_192 : Cond.instanceMethod yX3_isStronger ∈ big := big_i 192 (by decide +kernel) rfl
theorem m_193 : Cond.code yX3_isStronger cX3_isStronger 4 (some .boolean) ∈ big := big_i 193 (by decide +kernel) rfl
theorem n_194 : Cond.methodLinkNest RX3 191 yX1_brought "CountSheets" ∈ lw_tbl := List.mem_of_getElem? (i := 194) (by decide +kernel)
theorem m_196 : Cond.instanceMethod yX1_brought ∈ big := big_i 196 (by decide +kernel) rfl
theorem m_197 : Cond.code yX1_brought cX1_brought 7 (some .int) ∈ big := big_i 197 (by decide +kernel) rfl
theorem m_198 : Cond.methodLink RX3 201 yJ9_max_7cf53 ∈ big := big_i 198 (by decide +kernel) rfl
theorem m_199 : Cond.static yJ9_max_7cf53 ∈ big := big_i 199 (by decide +kernel) rfl
theorem m_200 : Cond.code yJ9_max_7cf53 cJ9_max_7cf53 2 (some .int) ∈ big := big_i 200 (by decide +kernel) rfl
theorem m_201 : Cond.methodLink RL 118 yX3_sheets ∈ big := big_i 201 (by decide +kernel) rfl
theorem m_202 : Cond.instanceMethod yX3_sheets ∈ big := big_i 202 (by decide +kernel) rfl
theorem m_203 : Cond.selects RX3 yX3_sheets yX3_sheets ∈ big := big_i 203 (by decide +kernel) rfl
theorem m_204 : Cond.code yX3_sheets cX3_sheets 1 (some .int) ∈ big := big_i 204 (by decide +kernel) rfl
theorem m_205 : Cond.methodLink RL 181 yL_at ∈ big := big_i 205 (by decide +kernel) rfl
theorem m_206 : Cond.static yL_at ∈ big := big_i 206 (by decide +kernel) rfl
theorem m_207 : Cond.code yL_at cL_at 2 (some .int) ∈ big := big_i 207 (by decide +kernel) rfl
theorem m_208 : Cond.constant RL 7 (1907616213) ∈ big := big_i 208 (by decide +kernel) rfl
theorem m_209 : Cond.constant RL 8 (801482823) ∈ big := big_i 209 (by decide +kernel) rfl
theorem m_210 : Cond.methodLink RL 121 yL_agreed ∈ big := big_i 210 (by decide +kernel) rfl
theorem m_211 : Cond.static yL_agreed ∈ big := big_i 211 (by decide +kernel) rfl
theorem m_212 : Cond.codeWith yL_agreed cL_agreed 4 (some .int) [(0, 6, 7, 16)] ∈ big := big_i 212 (by decide +kernel) rfl
theorem m_213 : Cond.classLink RL 16 "java/lang/IndexOutOfBoundsException" ∈ big := big_i 213 (by decide +kernel) rfl
theorem m_214 : Cond.methodLink RL 73 yX3_agreed ∈ big := big_i 214 (by decide +kernel) rfl
theorem m_215 : Cond.instanceMethod yX3_agreed ∈ big := big_i 215 (by decide +kernel) rfl
theorem m_216 : Cond.selects RX3 yX3_agreed yX3_agreed ∈ big := big_i 216 (by decide +kernel) rfl
theorem m_217 : Cond.code yX3_agreed cX3_agreed 3 (some .int) ∈ big := big_i 217 (by decide +kernel) rfl
theorem m_218 : Cond.methodLink RX3 161 yX3_checkLine ∈ big := big_i 218 (by decide +kernel) rfl
theorem m_220 : Cond.instanceMethod yX3_checkLine ∈ big := big_i 220 (by decide +kernel) rfl
theorem m_221 : Cond.code yX3_checkLine cX3_checkLine 3 none ∈ big := big_i 221 (by decide +kernel) rfl
theorem m_222 : Cond.methodLink RX3 47 yX3_checkIndex ∈ big := big_i 222 (by decide +kernel) rfl
theorem m_223 : Cond.static yX3_checkIndex ∈ big := big_i 223 (by decide +kernel) rfl
theorem m_224 : Cond.code yX3_checkIndex cX3_checkIndex 2 none ∈ big := big_i 224 (by decide +kernel) rfl
theorem m_225 : Cond.classLink RX3 176 "java/lang/IndexOutOfBoundsException" ∈ big := big_i 225 (by decide +kernel) rfl
theorem m_226 : Cond.instantiable "java/lang/IndexOutOfBoundsException" 6 ∈ big := big_i 226 (by decide +kernel) rfl
theorem n_227 : Cond.castable "java/lang/IndexOutOfBoundsException" "java/lang/IndexOutOfBoundsException" ∈ lw_tbl := List.mem_of_getElem? (i := 227) (by decide +kernel)
theorem m_246 : Cond.fieldLink "java/lang/Throwable" 198 "java/lang/Throwable" "backtrace" "Ljava/lang/Object;" ∈ big := big_i 246 (by decide +kernel) rfl
theorem m_250 : Cond.methodLink "java/lang/Throwable" 1 objectInit ∈ big := big_i 250 (by decide +kernel) rfl
theorem m_251 : Cond.fieldLink "java/lang/Throwable" 13 "java/lang/Throwable" "UNASSIGNED_STACK" "[Ljava/lang/StackTraceElement;" ∈ big := big_i 251 (by decide +kernel) rfl
theorem m_253 : Cond.fieldLink "java/lang/Throwable" 20 "java/lang/Throwable" "SUPPRESSED_SENTINEL" "Ljava/util/List;" ∈ big := big_i 253 (by decide +kernel) rfl
theorem m_265 : Cond.instantiable "java/lang/Throwable" 6 ∈ big := big_i 265 (by decide +kernel) rfl
theorem n_267 : Cond.stringRef RX3 178 "there is no such place, zone, article, person or sheet" ∈ lw_tbl := List.mem_of_getElem? (i := 267) (by decide +kernel)
theorem m_280 : Cond.fieldLink "java/lang/Throwable" 198 "java/lang/Throwable" "backtrace" "Ljava/lang/Object;" ∈ big := big_i 280 (by decide +kernel) rfl
theorem m_281 : Cond.fieldLink "java/lang/Throwable" 31 "java/lang/Throwable" "detailMessage" "Ljava/lang/String;" ∈ big := big_i 281 (by decide +kernel) rfl
theorem m_282 : Cond.fieldLink "java/lang/Throwable" 7 "java/lang/Throwable" "cause" "Ljava/lang/Throwable;" ∈ big := big_i 282 (by decide +kernel) rfl
theorem m_283 : Cond.fieldLink "java/lang/Throwable" 17 "java/lang/Throwable" "stackTrace" "[Ljava/lang/StackTraceElement;" ∈ big := big_i 283 (by decide +kernel) rfl
theorem m_284 : Cond.fieldLink "java/lang/Throwable" 24 "java/lang/Throwable" "suppressedExceptions" "Ljava/util/List;" ∈ big := big_i 284 (by decide +kernel) rfl
theorem m_294 : Cond.constant RL 18 (-1000001) ∈ big := big_i 294 (by decide +kernel) rfl
theorem m_295 : Cond.methodLink RL 137 yL_exact ∈ big := big_i 295 (by decide +kernel) rfl
theorem m_296 : Cond.static yL_exact ∈ big := big_i 296 (by decide +kernel) rfl
theorem m_297 : Cond.codeWith yL_exact cL_exact 3 (some .int) [(0, 5, 6, 16)] ∈ big := big_i 297 (by decide +kernel) rfl
theorem m_298 : Cond.methodLink RL 86 yX3_exact ∈ big := big_i 298 (by decide +kernel) rfl
theorem m_299 : Cond.instanceMethod yX3_exact ∈ big := big_i 299 (by decide +kernel) rfl
theorem m_300 : Cond.selects RX3 yX3_exact yX3_exact ∈ big := big_i 300 (by decide +kernel) rfl
theorem m_301 : Cond.code yX3_exact cX3_exact 7 (some .int) ∈ big := big_i 301 (by decide +kernel) rfl
theorem m_302 : Cond.methodLink RL 193 yL_print ∈ big := big_i 302 (by decide +kernel) rfl
theorem m_303 : Cond.static yL_print ∈ big := big_i 303 (by decide +kernel) rfl
theorem m_304 : Cond.code yL_print cL_print 4 (some .long) ∈ big := big_i 304 (by decide +kernel) rfl
theorem m_305 : Cond.constantLong RL 93 (1000003) ∈ big := big_i 305 (by decide +kernel) rfl
theorem m_306 : Cond.methodLink RL 95 yL_book ∈ big := big_i 306 (by decide +kernel) rfl
theorem m_307 : Cond.static yL_book ∈ big := big_i 307 (by decide +kernel) rfl
theorem m_308 : Cond.codeWith yL_book cL_book 4 (some .int) [(0, 6, 7, 16)] ∈ big := big_i 308 (by decide +kernel) rfl
theorem m_309 : Cond.methodLink RL 55 yX3_book ∈ big := big_i 309 (by decide +kernel) rfl
theorem m_310 : Cond.instanceMethod yX3_book ∈ big := big_i 310 (by decide +kernel) rfl
theorem m_311 : Cond.selects RX3 yX3_book yX3_book ∈ big := big_i 311 (by decide +kernel) rfl
theorem m_312 : Cond.code yX3_book cX3_book 3 (some .int) ∈ big := big_i 312 (by decide +kernel) rfl
theorem m_313 : Cond.methodLink RL 189 yL_isSo ∈ big := big_i 313 (by decide +kernel) rfl
theorem m_314 : Cond.static yL_isSo ∈ big := big_i 314 (by decide +kernel) rfl
theorem m_315 : Cond.code yL_isSo cL_isSo 7 (some .boolean) ∈ big := big_i 315 (by decide +kernel) rfl
theorem m_316 : Cond.methodLink RL 133 yL_sheet ∈ big := big_i 316 (by decide +kernel) rfl
theorem m_317 : Cond.static yL_sheet ∈ big := big_i 317 (by decide +kernel) rfl
set_option maxRecDepth 100000 in
theorem m_318 : Cond.code yL_sheet cL_sheet 11 (some .boolean) ∈ big := big_i 318 rfl rfl
theorem m_319 : Cond.methodLink RL 123 yL_counts ∈ big := big_i 319 (by decide +kernel) rfl
theorem m_320 : Cond.static yL_counts ∈ big := big_i 320 (by decide +kernel) rfl
theorem m_321 : Cond.codeWith yL_counts cL_counts 4 (some .int) [(0, 6, 7, 16)] ∈ big := big_i 321 (by decide +kernel) rfl
theorem m_322 : Cond.methodLink RL 70 yX3_counts ∈ big := big_i 322 (by decide +kernel) rfl
theorem m_323 : Cond.instanceMethod yX3_counts ∈ big := big_i 323 (by decide +kernel) rfl
theorem m_324 : Cond.selects RX3 yX3_counts yX3_counts ∈ big := big_i 324 (by decide +kernel) rfl
theorem m_325 : Cond.code yX3_counts cX3_counts 3 (some .int) ∈ big := big_i 325 (by decide +kernel) rfl
theorem n_326 : Cond.methodLinkNest RX3 114 yX0_countsOn "CountSheets" ∈ lw_tbl := List.mem_of_getElem? (i := 326) (by decide +kernel)
theorem m_328 : Cond.instanceMethod yX0_countsOn ∈ big := big_i 328 (by decide +kernel) rfl
theorem m_329 : Cond.code yX0_countsOn cX0_countsOn 2 (some .int) ∈ big := big_i 329 (by decide +kernel) rfl
theorem m_330 : Cond.methodLink RX0 40 yJ6_bitCount_0f7a4 ∈ big := big_i 330 (by decide +kernel) rfl
theorem m_331 : Cond.static yJ6_bitCount_0f7a4 ∈ big := big_i 331 (by decide +kernel) rfl
theorem m_332 : Cond.code yJ6_bitCount_0f7a4 cJ6_bitCount_0f7a4 1 (some .int) ∈ big := big_i 332 (by decide +kernel) rfl
theorem m_333 : Cond.constant "java/lang/Integer" 265 (1431655765) ∈ big := big_i 333 (by decide +kernel) rfl
theorem m_334 : Cond.constant "java/lang/Integer" 266 (858993459) ∈ big := big_i 334 (by decide +kernel) rfl
theorem m_335 : Cond.constant "java/lang/Integer" 267 (252645135) ∈ big := big_i 335 (by decide +kernel) rfl
theorem m_336 : Cond.methodLink RL 125 yL_isSigned ∈ big := big_i 336 (by decide +kernel) rfl
theorem m_337 : Cond.static yL_isSigned ∈ big := big_i 337 (by decide +kernel) rfl
theorem m_338 : Cond.codeWith yL_isSigned cL_isSigned 4 (some .int) [(0, 14, 15, 16)] ∈ big := big_i 338 (by decide +kernel) rfl
theorem m_339 : Cond.methodLink RL 79 yX3_isSigned ∈ big := big_i 339 (by decide +kernel) rfl
theorem m_340 : Cond.instanceMethod yX3_isSigned ∈ big := big_i 340 (by decide +kernel) rfl
end
section
/-! the words of the tables, by their places -/
theorem m_341 : Cond.selects RX3 yX3_isSigned yX3_isSigned ∈ big := big_i 341 (by decide +kernel) rfl
theorem m_342 : Cond.code yX3_isSigned cX3_isSigned 3 (some .boolean) ∈ big := big_i 342 (by decide +kernel) rfl
theorem m_343 : Cond.methodLink RL 127 yL_likely ∈ big := big_i 343 (by decide +kernel) rfl
theorem m_344 : Cond.static yL_likely ∈ big := big_i 344 (by decide +kernel) rfl
theorem m_345 : Cond.codeWith yL_likely cL_likely 4 (some .int) [(0, 6, 7, 16)] ∈ big := big_i 345 (by decide +kernel) rfl
theorem m_346 : Cond.methodLink RL 83 yX3_likely ∈ big := big_i 346 (by decide +kernel) rfl
theorem m_347 : Cond.instanceMethod yX3_likely ∈ big := big_i 347 (by decide +kernel) rfl
theorem m_348 : Cond.selects RX3 yX3_likely yX3_likely ∈ big := big_i 348 (by decide +kernel) rfl
theorem m_349 : Cond.code yX3_likely cX3_likely 4 (some .int) ∈ big := big_i 349 (by decide +kernel) rfl
theorem m_350 : Cond.methodLink RX3 141 yX3_canBeSettled ∈ big := big_i 350 (by decide +kernel) rfl
theorem m_352 : Cond.instanceMethod yX3_canBeSettled ∈ big := big_i 352 (by decide +kernel) rfl
theorem m_353 : Cond.code yX3_canBeSettled cX3_canBeSettled 5 (some .boolean) ∈ big := big_i 353 (by decide +kernel) rfl
theorem m_354 : Cond.methodLink RX3 123 yX3_isSignable ∈ big := big_i 354 (by decide +kernel) rfl
theorem m_356 : Cond.instanceMethod yX3_isSignable ∈ big := big_i 356 (by decide +kernel) rfl
theorem m_357 : Cond.code yX3_isSignable cX3_isSignable 4 (some .boolean) ∈ big := big_i 357 (by decide +kernel) rfl
theorem n_358 : Cond.methodLinkNest RX3 101 yX0_agrees "CountSheets" ∈ lw_tbl := List.mem_of_getElem? (i := 358) (by decide +kernel)
theorem m_360 : Cond.instanceMethod yX0_agrees ∈ big := big_i 360 (by decide +kernel) rfl
theorem m_361 : Cond.code yX0_agrees cX0_agrees 2 (some .boolean) ∈ big := big_i 361 (by decide +kernel) rfl
theorem m_362 : Cond.methodLink RX3 128 yX3_gapOf ∈ big := big_i 362 (by decide +kernel) rfl
theorem m_364 : Cond.instanceMethod yX3_gapOf ∈ big := big_i 364 (by decide +kernel) rfl
theorem m_365 : Cond.code yX3_gapOf cX3_gapOf 4 (some .int) ∈ big := big_i 365 (by decide +kernel) rfl
theorem m_366 : Cond.methodLink RL 129 yL_gap ∈ big := big_i 366 (by decide +kernel) rfl
theorem m_367 : Cond.static yL_gap ∈ big := big_i 367 (by decide +kernel) rfl
theorem m_368 : Cond.codeWith yL_gap cL_gap 4 (some .int) [(0, 6, 7, 16), (0, 6, 11, 50)] ∈ big := big_i 368 (by decide +kernel) rfl
theorem m_369 : Cond.classLink RL 50 "java/util/NoSuchElementException" ∈ big := big_i 369 (by decide +kernel) rfl
theorem m_370 : Cond.methodLink RL 76 yX3_gap ∈ big := big_i 370 (by decide +kernel) rfl
theorem m_371 : Cond.instanceMethod yX3_gap ∈ big := big_i 371 (by decide +kernel) rfl
theorem m_372 : Cond.selects RX3 yX3_gap yX3_gap ∈ big := big_i 372 (by decide +kernel) rfl
theorem m_373 : Cond.code yX3_gap cX3_gap 3 (some .int) ∈ big := big_i 373 (by decide +kernel) rfl
theorem m_374 : Cond.methodLink RX3 120 yX3_checkAgrees ∈ big := big_i 374 (by decide +kernel) rfl
theorem m_376 : Cond.instanceMethod yX3_checkAgrees ∈ big := big_i 376 (by decide +kernel) rfl
theorem m_377 : Cond.code yX3_checkAgrees cX3_checkAgrees 3 none ∈ big := big_i 377 (by decide +kernel) rfl
theorem m_378 : Cond.classLink RX3 183 "java/util/NoSuchElementException" ∈ big := big_i 378 (by decide +kernel) rfl
theorem m_379 : Cond.instantiable "java/util/NoSuchElementException" 6 ∈ big := big_i 379 (by decide +kernel) rfl
theorem n_380 : Cond.castable "java/util/NoSuchElementException" "java/util/NoSuchElementException" ∈ lw_tbl := List.mem_of_getElem? (i := 380) (by decide +kernel)
theorem n_387 : Cond.stringRef RX3 185 "the counts do not agree, or there are none" ∈ lw_tbl := List.mem_of_getElem? (i := 387) (by decide +kernel)
theorem m_394 : Cond.constant RL 21 (-1000002) ∈ big := big_i 394 (by decide +kernel) rfl
theorem m_395 : Cond.methodLink RL 131 yL_sign ∈ big := big_i 395 (by decide +kernel) rfl
theorem m_396 : Cond.static yL_sign ∈ big := big_i 396 (by decide +kernel) rfl
theorem m_397 : Cond.codeWith yL_sign cL_sign 5 (some .int) [(0, 7, 8, 16), (0, 7, 13, 50), (0, 7, 18, 29)] ∈ big := big_i 397 (by decide +kernel) rfl
theorem m_398 : Cond.classLink RL 29 "java/lang/IllegalStateException" ∈ big := big_i 398 (by decide +kernel) rfl
theorem m_399 : Cond.methodLink RL 46 yX3_sign ∈ big := big_i 399 (by decide +kernel) rfl
theorem m_400 : Cond.instanceMethod yX3_sign ∈ big := big_i 400 (by decide +kernel) rfl
theorem m_401 : Cond.selects RX3 yX3_sign yX3_sign ∈ big := big_i 401 (by decide +kernel) rfl
theorem m_402 : Cond.code yX3_sign cX3_sign 5 (some .int) ∈ big := big_i 402 (by decide +kernel) rfl
theorem m_403 : Cond.classLink RX3 70 "java/lang/IllegalStateException" ∈ big := big_i 403 (by decide +kernel) rfl
theorem m_404 : Cond.instantiable "java/lang/IllegalStateException" 6 ∈ big := big_i 404 (by decide +kernel) rfl
theorem n_405 : Cond.castable "java/lang/IllegalStateException" "java/lang/IllegalStateException" ∈ lw_tbl := List.mem_of_getElem? (i := 405) (by decide +kernel)
theorem n_412 : Cond.stringRef RX3 126 "the sheet is not CLOSED, or the article is signed on it" ∈ lw_tbl := List.mem_of_getElem? (i := 412) (by decide +kernel)
theorem m_419 : Cond.methodLink RX3 131 yJ9_abs_0f7a4 ∈ big := big_i 419 (by decide +kernel) rfl
theorem m_420 : Cond.static yJ9_abs_0f7a4 ∈ big := big_i 420 (by decide +kernel) rfl
theorem m_421 : Cond.code yJ9_abs_0f7a4 cJ9_abs_0f7a4 1 (some .int) ∈ big := big_i 421 (by decide +kernel) rfl
theorem n_422 : Cond.stringRef RX3 136 "the person's bound is too low" ∈ lw_tbl := List.mem_of_getElem? (i := 422) (by decide +kernel)
theorem n_423 : Cond.methodLinkNest RX3 138 yX0_write "CountSheets" ∈ lw_tbl := List.mem_of_getElem? (i := 423) (by decide +kernel)
theorem m_425 : Cond.instanceMethod yX0_write ∈ big := big_i 425 (by decide +kernel) rfl
theorem m_426 : Cond.code yX0_write cX0_write 3 none ∈ big := big_i 426 (by decide +kernel) rfl
theorem m_427 : Cond.constant RL 31 (-1000003) ∈ big := big_i 427 (by decide +kernel) rfl
theorem m_428 : Cond.methodLink RL 105 yL_cutOf ∈ big := big_i 428 (by decide +kernel) rfl
theorem m_429 : Cond.static yL_cutOf ∈ big := big_i 429 (by decide +kernel) rfl
theorem m_430 : Cond.codeWith yL_cutOf cL_cutOf 3 (some .int) [(0, 5, 6, 16)] ∈ big := big_i 430 (by decide +kernel) rfl
theorem m_431 : Cond.methodLink RL 67 yX3_cutOf ∈ big := big_i 431 (by decide +kernel) rfl
theorem m_432 : Cond.instanceMethod yX3_cutOf ∈ big := big_i 432 (by decide +kernel) rfl
theorem m_433 : Cond.selects RX3 yX3_cutOf yX3_cutOf ∈ big := big_i 433 (by decide +kernel) rfl
theorem m_434 : Cond.code yX3_cutOf cX3_cutOf 2 (some .int) ∈ big := big_i 434 (by decide +kernel) rfl
theorem m_435 : Cond.methodLink RL 102 yL_bookAt ∈ big := big_i 435 (by decide +kernel) rfl
theorem m_436 : Cond.static yL_bookAt ∈ big := big_i 436 (by decide +kernel) rfl
theorem m_437 : Cond.codeWith yL_bookAt cL_bookAt 5 (some .int) [(0, 7, 8, 16), (0, 7, 13, 19)] ∈ big := big_i 437 (by decide +kernel) rfl
theorem m_438 : Cond.classLink RL 19 "java/lang/IllegalArgumentException" ∈ big := big_i 438 (by decide +kernel) rfl
theorem m_439 : Cond.methodLink RL 58 yX3_bookAt ∈ big := big_i 439 (by decide +kernel) rfl
theorem m_440 : Cond.instanceMethod yX3_bookAt ∈ big := big_i 440 (by decide +kernel) rfl
theorem m_441 : Cond.selects RX3 yX3_bookAt yX3_bookAt ∈ big := big_i 441 (by decide +kernel) rfl
theorem m_442 : Cond.code yX3_bookAt cX3_bookAt 4 (some .int) ∈ big := big_i 442 (by decide +kernel) rfl
theorem m_443 : Cond.methodLink RX3 51 yX3_checkRange ∈ big := big_i 443 (by decide +kernel) rfl
theorem m_444 : Cond.static yX3_checkRange ∈ big := big_i 444 (by decide +kernel) rfl
theorem m_445 : Cond.code yX3_checkRange cX3_checkRange 3 none ∈ big := big_i 445 (by decide +kernel) rfl
theorem m_446 : Cond.classLink RX3 60 "java/lang/IllegalArgumentException" ∈ big := big_i 446 (by decide +kernel) rfl
theorem m_447 : Cond.instantiable "java/lang/IllegalArgumentException" 6 ∈ big := big_i 447 (by decide +kernel) rfl
theorem n_448 : Cond.castable "java/lang/IllegalArgumentException" "java/lang/IllegalArgumentException" ∈ lw_tbl := List.mem_of_getElem? (i := 448) (by decide +kernel)
theorem n_455 : Cond.stringRef RX3 181 "an argument is out of its range" ∈ lw_tbl := List.mem_of_getElem? (i := 455) (by decide +kernel)
theorem m_462 : Cond.methodLink RL 108 yL_stateOf ∈ big := big_i 462 (by decide +kernel) rfl
theorem m_463 : Cond.static yL_stateOf ∈ big := big_i 463 (by decide +kernel) rfl
theorem m_464 : Cond.codeWith yL_stateOf cL_stateOf 3 (some .int) [(0, 5, 6, 16)] ∈ big := big_i 464 (by decide +kernel) rfl
theorem m_465 : Cond.methodLink RL 64 yX3_stateOf ∈ big := big_i 465 (by decide +kernel) rfl
theorem m_466 : Cond.instanceMethod yX3_stateOf ∈ big := big_i 466 (by decide +kernel) rfl
theorem m_467 : Cond.selects RX3 yX3_stateOf yX3_stateOf ∈ big := big_i 467 (by decide +kernel) rfl
theorem m_468 : Cond.code yX3_stateOf cX3_stateOf 2 (some .int) ∈ big := big_i 468 (by decide +kernel) rfl
theorem m_469 : Cond.methodLink RL 139 yL_places ∈ big := big_i 469 (by decide +kernel) rfl
theorem m_470 : Cond.static yL_places ∈ big := big_i 470 (by decide +kernel) rfl
set_option maxRecDepth 100000 in
theorem m_471 : Cond.code yL_places cL_places 13 (some .boolean) ∈ big := big_i 471 rfl rfl
theorem m_472 : Cond.constantLong RL 100 (-1) ∈ big := big_i 472 (by decide +kernel) rfl
theorem m_473 : Cond.methodLink RL 110 yL_worth ∈ big := big_i 473 (by decide +kernel) rfl
theorem m_474 : Cond.static yL_worth ∈ big := big_i 474 (by decide +kernel) rfl
theorem m_475 : Cond.codeWith yL_worth cL_worth 3 (some .int) [(0, 5, 6, 16)] ∈ big := big_i 475 (by decide +kernel) rfl
theorem m_476 : Cond.methodLink RL 61 yX3_worth ∈ big := big_i 476 (by decide +kernel) rfl
theorem m_477 : Cond.instanceMethod yX3_worth ∈ big := big_i 477 (by decide +kernel) rfl
theorem m_478 : Cond.selects RX3 yX3_worth yX3_worth ∈ big := big_i 478 (by decide +kernel) rfl
theorem m_479 : Cond.code yX3_worth cX3_worth 2 (some .int) ∈ big := big_i 479 (by decide +kernel) rfl
theorem m_480 : Cond.methodLink RL 115 yX3_moves ∈ big := big_i 480 (by decide +kernel) rfl
theorem m_481 : Cond.instanceMethod yX3_moves ∈ big := big_i 481 (by decide +kernel) rfl
theorem m_482 : Cond.selects RX3 yX3_moves yX3_moves ∈ big := big_i 482 (by decide +kernel) rfl
theorem m_483 : Cond.code yX3_moves cX3_moves 1 (some .int) ∈ big := big_i 483 (by decide +kernel) rfl
theorem m_484 : Cond.methodLink RL 185 yL_acts ∈ big := big_i 484 (by decide +kernel) rfl
theorem m_485 : Cond.static yL_acts ∈ big := big_i 485 (by decide +kernel) rfl
set_option maxRecDepth 100000 in
theorem m_486 : Cond.code yL_acts cL_acts 17 (some .boolean) ∈ big := big_i 486 rfl rfl
theorem m_487 : Cond.methodLink RL 143 yL_low ∈ big := big_i 487 (by decide +kernel) rfl
theorem m_488 : Cond.static yL_low ∈ big := big_i 488 (by decide +kernel) rfl
theorem m_489 : Cond.code yL_low cL_low 2 (some .int) ∈ big := big_i 489 (by decide +kernel) rfl
theorem m_490 : Cond.constant RL 9 (2147483647) ∈ big := big_i 490 (by decide +kernel) rfl
theorem m_491 : Cond.methodLink RL 154 yL_moves ∈ big := big_i 491 (by decide +kernel) rfl
theorem m_492 : Cond.static yL_moves ∈ big := big_i 492 (by decide +kernel) rfl
set_option maxRecDepth 100000 in
theorem m_493 : Cond.code yL_moves cL_moves 18 (some .boolean) ∈ big := big_i 493 rfl rfl
theorem m_494 : Cond.methodLink RL 146 yL_move ∈ big := big_i 494 (by decide +kernel) rfl
end
section
/-! the words of the tables, by their places -/
theorem m_495 : Cond.static yL_move ∈ big := big_i 495 (by decide +kernel) rfl
theorem m_496 : Cond.codeWith yL_move cL_move 7 (some .int) [(0, 11, 12, 16), (0, 11, 17, 19), (0, 11, 22, 29)] ∈ big := big_i 496 (by decide +kernel) rfl
theorem m_497 : Cond.methodLink RL 25 yX3_move ∈ big := big_i 497 (by decide +kernel) rfl
theorem m_498 : Cond.instanceMethod yX3_move ∈ big := big_i 498 (by decide +kernel) rfl
theorem m_499 : Cond.selects RX3 yX3_move yX3_move ∈ big := big_i 499 (by decide +kernel) rfl
theorem m_500 : Cond.code yX3_move cX3_move 6 (some .int) ∈ big := big_i 500 (by decide +kernel) rfl
theorem m_501 : Cond.methodLink RX3 56 yX3_checkPlaceOrOutside ∈ big := big_i 501 (by decide +kernel) rfl
theorem m_502 : Cond.static yX3_checkPlaceOrOutside ∈ big := big_i 502 (by decide +kernel) rfl
theorem m_503 : Cond.code yX3_checkPlaceOrOutside cX3_checkPlaceOrOutside 1 none ∈ big := big_i 503 (by decide +kernel) rfl
theorem n_504 : Cond.stringRef RX3 62 "from and to are the same" ∈ lw_tbl := List.mem_of_getElem? (i := 504) (by decide +kernel)
theorem n_505 : Cond.stringRef RX3 72 "there are 200 moves" ∈ lw_tbl := List.mem_of_getElem? (i := 505) (by decide +kernel)
theorem n_506 : Cond.methodLinkNest RX3 75 yX1_add "CountSheets" ∈ lw_tbl := List.mem_of_getElem? (i := 506) (by decide +kernel)
theorem m_508 : Cond.instanceMethod yX1_add ∈ big := big_i 508 (by decide +kernel) rfl
theorem m_509 : Cond.code yX1_add cX1_add 7 (some .int) ∈ big := big_i 509 (by decide +kernel) rfl
theorem m_510 : Cond.methodLink RL 157 yL_pass ∈ big := big_i 510 (by decide +kernel) rfl
theorem m_511 : Cond.static yL_pass ∈ big := big_i 511 (by decide +kernel) rfl
theorem m_512 : Cond.codeWith yL_pass cL_pass 3 (some .int) [(0, 5, 6, 19)] ∈ big := big_i 512 (by decide +kernel) rfl
theorem m_513 : Cond.methodLink RL 32 yX3_pass ∈ big := big_i 513 (by decide +kernel) rfl
theorem m_514 : Cond.instanceMethod yX3_pass ∈ big := big_i 514 (by decide +kernel) rfl
theorem m_515 : Cond.selects RX3 yX3_pass yX3_pass ∈ big := big_i 515 (by decide +kernel) rfl
theorem m_516 : Cond.code yX3_pass cX3_pass 2 (some .int) ∈ big := big_i 516 (by decide +kernel) rfl
theorem m_517 : Cond.methodLink RL 159 yL_setPrice ∈ big := big_i 517 (by decide +kernel) rfl
theorem m_518 : Cond.static yL_setPrice ∈ big := big_i 518 (by decide +kernel) rfl
theorem m_519 : Cond.codeWith yL_setPrice cL_setPrice 4 (some .int) [(0, 6, 7, 16), (0, 6, 11, 19)] ∈ big := big_i 519 (by decide +kernel) rfl
theorem m_520 : Cond.methodLink RL 10 yX3_setPrice ∈ big := big_i 520 (by decide +kernel) rfl
theorem m_521 : Cond.instanceMethod yX3_setPrice ∈ big := big_i 521 (by decide +kernel) rfl
theorem m_522 : Cond.selects RX3 yX3_setPrice yX3_setPrice ∈ big := big_i 522 (by decide +kernel) rfl
theorem m_523 : Cond.code yX3_setPrice cX3_setPrice 4 (some .int) ∈ big := big_i 523 (by decide +kernel) rfl
theorem m_524 : Cond.methodLink RL 161 yL_setBound ∈ big := big_i 524 (by decide +kernel) rfl
theorem m_525 : Cond.static yL_setBound ∈ big := big_i 525 (by decide +kernel) rfl
theorem m_526 : Cond.codeWith yL_setBound cL_setBound 4 (some .int) [(0, 6, 7, 16), (0, 6, 11, 19)] ∈ big := big_i 526 (by decide +kernel) rfl
theorem m_527 : Cond.methodLink RL 22 yX3_setBound ∈ big := big_i 527 (by decide +kernel) rfl
theorem m_528 : Cond.instanceMethod yX3_setBound ∈ big := big_i 528 (by decide +kernel) rfl
theorem m_529 : Cond.selects RX3 yX3_setBound yX3_setBound ∈ big := big_i 529 (by decide +kernel) rfl
theorem m_530 : Cond.code yX3_setBound cX3_setBound 4 (some .int) ∈ big := big_i 530 (by decide +kernel) rfl
theorem m_531 : Cond.constant RX3 55 (1000000) ∈ big := big_i 531 (by decide +kernel) rfl
theorem m_532 : Cond.constant RL 163 (1000001) ∈ big := big_i 532 (by decide +kernel) rfl
theorem m_533 : Cond.methodLink RL 164 yL_open ∈ big := big_i 533 (by decide +kernel) rfl
theorem m_534 : Cond.static yL_open ∈ big := big_i 534 (by decide +kernel) rfl
theorem m_535 : Cond.codeWith yL_open cL_open 3 (some .int) [(0, 5, 6, 16), (0, 5, 10, 29)] ∈ big := big_i 535 (by decide +kernel) rfl
theorem m_536 : Cond.methodLink RL 36 yX3_open ∈ big := big_i 536 (by decide +kernel) rfl
theorem m_537 : Cond.instanceMethod yX3_open ∈ big := big_i 537 (by decide +kernel) rfl
theorem m_538 : Cond.selects RX3 yX3_open yX3_open ∈ big := big_i 538 (by decide +kernel) rfl
theorem m_539 : Cond.code yX3_open cX3_open 2 (some .int) ∈ big := big_i 539 (by decide +kernel) rfl
theorem n_540 : Cond.stringRef RX3 83 "there is an OPEN sheet for the place" ∈ lw_tbl := List.mem_of_getElem? (i := 540) (by decide +kernel)
theorem n_541 : Cond.stringRef RX3 86 "there are 40 sheets" ∈ lw_tbl := List.mem_of_getElem? (i := 541) (by decide +kernel)
theorem n_542 : Cond.methodLinkNest RX3 88 yX2_add "CountSheets" ∈ lw_tbl := List.mem_of_getElem? (i := 542) (by decide +kernel)
theorem m_544 : Cond.instanceMethod yX2_add ∈ big := big_i 544 (by decide +kernel) rfl
theorem m_545 : Cond.code yX2_add cX2_add 4 (some .int) ∈ big := big_i 545 (by decide +kernel) rfl
theorem m_546 : Cond.methodLink RL 166 yL_count ∈ big := big_i 546 (by decide +kernel) rfl
theorem m_547 : Cond.static yL_count ∈ big := big_i 547 (by decide +kernel) rfl
theorem m_548 : Cond.codeWith yL_count cL_count 6 (some .int) [(0, 17, 18, 16), (0, 17, 23, 19), (0, 17, 28, 29)] ∈ big := big_i 548 (by decide +kernel) rfl
theorem m_549 : Cond.methodLink RL 39 yX3_count ∈ big := big_i 549 (by decide +kernel) rfl
theorem m_550 : Cond.instanceMethod yX3_count ∈ big := big_i 550 (by decide +kernel) rfl
theorem m_551 : Cond.selects RX3 yX3_count yX3_count ∈ big := big_i 551 (by decide +kernel) rfl
theorem m_552 : Cond.code yX3_count cX3_count 6 (some .boolean) ∈ big := big_i 552 (by decide +kernel) rfl
theorem m_553 : Cond.constant RX3 91 (100000) ∈ big := big_i 553 (by decide +kernel) rfl
theorem n_554 : Cond.stringRef RX3 99 "the sheet is not OPEN" ∈ lw_tbl := List.mem_of_getElem? (i := 554) (by decide +kernel)
theorem n_555 : Cond.stringRef RX3 104 "the counts agree already" ∈ lw_tbl := List.mem_of_getElem? (i := 555) (by decide +kernel)
theorem n_556 : Cond.methodLinkNest RX3 106 yX0_isCountedBy "CountSheets" ∈ lw_tbl := List.mem_of_getElem? (i := 556) (by decide +kernel)
theorem m_558 : Cond.instanceMethod yX0_isCountedBy ∈ big := big_i 558 (by decide +kernel) rfl
theorem m_559 : Cond.code yX0_isCountedBy cX0_isCountedBy 3 (some .boolean) ∈ big := big_i 559 (by decide +kernel) rfl
theorem n_560 : Cond.stringRef RX3 110 "the person has counted the article on the sheet" ∈ lw_tbl := List.mem_of_getElem? (i := 560) (by decide +kernel)
theorem n_561 : Cond.methodLinkNest RX3 112 yX0_add "CountSheets" ∈ lw_tbl := List.mem_of_getElem? (i := 561) (by decide +kernel)
theorem m_563 : Cond.instanceMethod yX0_add ∈ big := big_i 563 (by decide +kernel) rfl
theorem m_564 : Cond.code yX0_add cX0_add 5 none ∈ big := big_i 564 (by decide +kernel) rfl
theorem m_565 : Cond.methodLink RX0 46 yX0_countsOn ∈ big := big_i 565 (by decide +kernel) rfl
theorem m_566 : Cond.methodLink RX0 49 yX0_middleOf ∈ big := big_i 566 (by decide +kernel) rfl
theorem m_567 : Cond.static yX0_middleOf ∈ big := big_i 567 (by decide +kernel) rfl
theorem m_568 : Cond.code yX0_middleOf cX0_middleOf 3 (some .int) ∈ big := big_i 568 (by decide +kernel) rfl
theorem m_569 : Cond.methodLink RX0 53 yJ9_min_7cf53 ∈ big := big_i 569 (by decide +kernel) rfl
theorem m_570 : Cond.static yJ9_min_7cf53 ∈ big := big_i 570 (by decide +kernel) rfl
theorem m_571 : Cond.code yJ9_min_7cf53 cJ9_min_7cf53 2 (some .int) ∈ big := big_i 571 (by decide +kernel) rfl
theorem m_572 : Cond.methodLink RX0 59 yJ9_max_7cf53 ∈ big := big_i 572 (by decide +kernel) rfl
theorem m_573 : Cond.methodLink RL 169 yL_close ∈ big := big_i 573 (by decide +kernel) rfl
theorem m_574 : Cond.static yL_close ∈ big := big_i 574 (by decide +kernel) rfl
theorem m_575 : Cond.codeWith yL_close cL_close 3 (some .int) [(0, 5, 6, 16), (0, 5, 10, 29)] ∈ big := big_i 575 (by decide +kernel) rfl
theorem m_576 : Cond.methodLink RL 43 yX3_close ∈ big := big_i 576 (by decide +kernel) rfl
theorem m_577 : Cond.instanceMethod yX3_close ∈ big := big_i 577 (by decide +kernel) rfl
theorem m_578 : Cond.selects RX3 yX3_close yX3_close ∈ big := big_i 578 (by decide +kernel) rfl
theorem m_579 : Cond.code yX3_close cX3_close 5 (some .int) ∈ big := big_i 579 (by decide +kernel) rfl
theorem n_580 : Cond.stringRef RX3 118 "an article was counted on the sheet without agreement" ∈ lw_tbl := List.mem_of_getElem? (i := 580) (by decide +kernel)
theorem m_581 : Cond.methodLink RL 149 yL_size ∈ big := big_i 581 (by decide +kernel) rfl
theorem m_582 : Cond.static yL_size ∈ big := big_i 582 (by decide +kernel) rfl
theorem m_583 : Cond.code yL_size cL_size 1 (some .int) ∈ big := big_i 583 (by decide +kernel) rfl
theorem m_584 : Cond.constant RL 171 (100001) ∈ big := big_i 584 (by decide +kernel) rfl
theorem m_585 : Cond.constant RL 172 (100000) ∈ big := big_i 585 (by decide +kernel) rfl
theorem m_586 : Cond.methodLink RL 173 yL_signs ∈ big := big_i 586 (by decide +kernel) rfl
theorem m_587 : Cond.static yL_signs ∈ big := big_i 587 (by decide +kernel) rfl
set_option maxRecDepth 100000 in
theorem m_588 : Cond.code yL_signs cL_signs 13 (some .boolean) ∈ big := big_i 588 rfl rfl
theorem m_589 : Cond.methodLink RL 177 yL_settles ∈ big := big_i 589 (by decide +kernel) rfl
theorem m_590 : Cond.static yL_settles ∈ big := big_i 590 (by decide +kernel) rfl
set_option maxRecDepth 100000 in
theorem m_591 : Cond.code yL_settles cL_settles 12 (some .boolean) ∈ big := big_i 591 rfl rfl
theorem m_592 : Cond.methodLink RL 152 yL_settle ∈ big := big_i 592 (by decide +kernel) rfl
theorem m_593 : Cond.static yL_settle ∈ big := big_i 593 (by decide +kernel) rfl
theorem m_594 : Cond.codeWith yL_settle cL_settle 5 (some .int) [(0, 7, 8, 16), (0, 7, 13, 50), (0, 7, 18, 29)] ∈ big := big_i 594 (by decide +kernel) rfl
theorem m_595 : Cond.methodLink RL 52 yX3_settle ∈ big := big_i 595 (by decide +kernel) rfl
theorem m_596 : Cond.instanceMethod yX3_settle ∈ big := big_i 596 (by decide +kernel) rfl
theorem m_597 : Cond.selects RX3 yX3_settle yX3_settle ∈ big := big_i 597 (by decide +kernel) rfl
theorem m_598 : Cond.code yX3_settle cX3_settle 5 (some .int) ∈ big := big_i 598 (by decide +kernel) rfl
theorem n_599 : Cond.stringRef RX3 145 "the gaps cannot be settled" ∈ lw_tbl := List.mem_of_getElem? (i := 599) (by decide +kernel)
theorem n_601 : Cond.castable "CountSheets" "java/lang/Object" ∈ lw_tbl := List.mem_of_getElem? (i := 601) (by decide +kernel)
theorem n_602 : Cond.castable "CountSheets$MoveRows" "java/lang/Object" ∈ lw_tbl := List.mem_of_getElem? (i := 602) (by decide +kernel)
theorem n_603 : Cond.castable "CountSheets$SheetRows" "java/lang/Object" ∈ lw_tbl := List.mem_of_getElem? (i := 603) (by decide +kernel)
theorem n_604 : Cond.castable "CountSheets$LineRows" "java/lang/Object" ∈ lw_tbl := List.mem_of_getElem? (i := 604) (by decide +kernel)
theorem n_605 : Cond.castable "java/lang/IndexOutOfBoundsException" "java/lang/Object" ∈ lw_tbl := List.mem_of_getElem? (i := 605) (by decide +kernel)
theorem n_606 : Cond.castable "java/lang/IllegalArgumentException" "java/lang/Object" ∈ lw_tbl := List.mem_of_getElem? (i := 606) (by decide +kernel)
theorem n_607 : Cond.castable "java/lang/IllegalStateException" "java/lang/Object" ∈ lw_tbl := List.mem_of_getElem? (i := 607) (by decide +kernel)
theorem n_608 : Cond.castable "java/util/NoSuchElementException" "java/lang/Object" ∈ lw_tbl := List.mem_of_getElem? (i := 608) (by decide +kernel)
theorem n_609 : Cond.castable "java/lang/Throwable" "java/lang/Object" ∈ lw_tbl := List.mem_of_getElem? (i := 609) (by decide +kernel)
theorem n_610 : Cond.castable "java/lang/String" "java/lang/Object" ∈ lw_tbl := List.mem_of_getElem? (i := 610) (by decide +kernel)
theorem at_IO : ∀ w ∈ vx_atS RX3 180 "java/lang/IndexOutOfBoundsException" names2, w ∈ lw_tbl ∧ (w.onTables && w.keepsFace) = true := fun w h => by
  have h1 : (vx_atS RX3 180 "java/lang/IndexOutOfBoundsException" names2).all (fun w => decide (w ∈ lw_tbl) && (w.onTables && w.keepsFace)) = true := by decide +kernel
  have h2 := List.all_eq_true.mp h1 w h
  rw [Bool.and_eq_true, decide_eq_true_eq] at h2
  exact h2
theorem at_IA : ∀ w ∈ vx_atS RX3 64 "java/lang/IllegalArgumentException" names2, w ∈ lw_tbl ∧ (w.onTables && w.keepsFace) = true := fun w h => by
  have h1 : (vx_atS RX3 64 "java/lang/IllegalArgumentException" names2).all (fun w => decide (w ∈ lw_tbl) && (w.onTables && w.keepsFace)) = true := by decide +kernel
  have h2 := List.all_eq_true.mp h1 w h
  rw [Bool.and_eq_true, decide_eq_true_eq] at h2
  exact h2
theorem at_IS : ∀ w ∈ vx_atS RX3 74 "java/lang/IllegalStateException" names2, w ∈ lw_tbl ∧ (w.onTables && w.keepsFace) = true := fun w h => by
  have h1 : (vx_atS RX3 74 "java/lang/IllegalStateException" names2).all (fun w => decide (w ∈ lw_tbl) && (w.onTables && w.keepsFace)) = true := by decide +kernel
  have h2 := List.all_eq_true.mp h1 w h
  rw [Bool.and_eq_true, decide_eq_true_eq] at h2
  exact h2
end
section
/-! AN EXCEPTION OF THE JDK's WHOSE CONSTRUCTOR's LINK HAS ANOTHER PLACE THAN 7 (NoSuchElementException: 13), thrown with a text, no traces kept. The two proofs follow the library's BundleOwnThrow (ctorThrowS) and the kit's vx_throwS, with the first link's place and bytes as variables. -/
def kAtoms (own : String) (ic : Nat) (X : String) (ix : Nat) (rx : ByteArray) (Y : String) (r : List String) : List Cond :=
  Bundle.throwableAtoms ++ Bundle.throwableSAtoms ++ (Bundle.passSAtoms X Y ix rx ++ Bundle.chainSAtoms Y r) ++
  [.methodLink own ic (Bundle.initS X), .instantiable X 6, .castable X X, .selects X Bundle.tFill0 Bundle.tFill0, .selects X Bundle.tFill Bundle.tFill,
   .lays X Bundle.tN "cause" "Ljava/lang/Throwable;", .lays X Bundle.tN "stackTrace" Bundle.steD, .lays X Bundle.tN "suppressedExceptions" Bundle.listD, .lays X Bundle.tN "detailMessage" "Ljava/lang/String;",
   .isRef (.static Bundle.tN "UNASSIGNED_STACK" Bundle.steD), .isRef (.static Bundle.tN "SUPPRESSED_SENTINEL" Bundle.listD),
   .fieldLink Bundle.tN 198 Bundle.tN "backtrace" "Ljava/lang/Object;", .lays Bundle.tN Bundle.tN "backtrace" "Ljava/lang/Object;", .lays X Bundle.tN "backtrace" "Ljava/lang/Object;"]
section KNS
variable {p : Program} {l : Launch} {e : Env} {R : Room} {s : State} {m₀ : MethodId} {args : Array Value} {below : List Frame} {meth : Method} {c : Code} {V : State} {locs : List Loc} {cells slots : Nat}
set_option maxHeartbeats 1000000 in
theorem kCtorThrow (X : Stand p l e R s m₀ args below meth c V locs cells slots) (hexec : p.tables.exec = Jvm.exec) (htr : e.platform.stackTraces = false) {own cls Y : String} {names : List String} {ic ix : Nat} {rx : ByteArray}
    (x0 : decode rx 0 = .ok (.aload_n 0, 1)) (x1 : decode rx 1 = .ok (.aload_n 1, 1)) (x2 : decode rx 2 = .ok (.invokespecial ix, 3)) (x5 : decode rx 5 = .ok (.return_, 1))
    (hown : s.vm.findClass own = some m₀.cls) (hcls : Bundle.fit cls = true) (hY : Bundle.fit Y = true) (hnames : ∀ n ∈ names, Bundle.fit n = true)
    (h : ∀ a ∈ kAtoms own ic cls ix rx Y names, a.before args s = true)
    (hlocs : ∀ x ∈ locs, ∀ cell, s.heap[x.base]? = some cell → cell.vm.isStatics = false)
    {a : Addr} {cX : ClassId} {kX : Class} (hfoundX : s.vm.findClass cls = some cX) (hkX : s.vm.classes[cX]? = some kX) (hcell : V.heap[a]? = some (freshCell cX kX)) (hnew : s.heap.size ≤ a)
    {msg : Value} (hmsg : msg.isRef = true)
    {g : JFrame} (hg : g.method = m₀) (hsize : g.locals.size = c.maxLocals) (hlocked : g.locked = none) (hentered : g.entered = []) {rest : List Value} (hstack : g.stack = msg :: .ref a :: .ref a :: rest)
    (hd6 : decode c.code g.pc = .ok (.invokespecial ic, 3)) (hd9 : decode c.code (g.pc + 3) = .ok (.athrow, 1)) (hout : ∀ x ∈ c.exceptionTable.toList, covers x (g.pc + 3) = false)
    (hRframes : names.length + 4 < R.frames) (hRlocals : 2 * g.monitorRoom + ((Value.ref a :: rest).map fun v => v.category).sum + (13 * (names.length + 2) + 42) ≤ R.locals) (hlocks : meth.locks = false) :
    ∃ U : State, Steps p.tables e below (V.setTop g) U ∧ U.status = .running ∧ Ended U below (.threw a) ∧ s.WarmedH U.vm ∧ s.sameButNew ({ U with vm := s.vm } : State) locs cells slots ∧
      ∃ ce, U.heap[a]? = some ce ∧ ce.cls = cX ∧ ce.vm = .none := by
  have howns : e.platform.frameOwnsMonitors = true := by rw [X.admits.platform]
  have hfin : e.platform.finalization = false := by rw [X.admits.platform]
  have hpl : e.platform.magicAccessors = ({} : Platform).magicAccessors := by rw [X.admits.platform]
  have a' : ∀ x, x ∈ kAtoms own ic cls ix rx Y names → x.holds args s none s [] = true := fun x hx => h x hx
  obtain ⟨T, Z0, L, -, Yt⟩ := ThrowableC.of_atoms (args := args) howns hfin hpl (fun x hx => h x (by simp [kAtoms, hx]))
  obtain ⟨Z, M, LZ, LM, hnZ⟩ := Init0T.ofS_atoms (args := args) hpl L Yt (fun x hx => h x (by simp [kAtoms, hx]))
  obtain ⟨P1, L1, hP1m, hs1⟩ := PassC.ofS_atoms (args := args) (s := s) hpl (X := cls) (Y := Y) (Bundle.fit_spec hcls).1 (Bundle.fit_spec hY).2 x0 x1 x2 x5 (fun x hx => h x (by simp [kAtoms, hx]))
  obtain ⟨P2, Ps2, hlen2, L2, hL2, hP2m, hlink2a, hlink2⟩ := Bundle.chainS (args := args) hpl hnZ names Y hY hnames (fun x hx => h x (by simp [kAtoms, hx]))
  have hlink1 : P1.sup = P2.m := Option.some.inj (hs1.symm.trans hP2m)
  have hfound : s.vm.findClass cls = some P1.m.cls := findClass_of_methodNamed hP1m
  cases Option.some.inj (hfoundX.symm.trans hfound)
  obtain ⟨c1, kX', hc1, hk, hord, -, -, hn6⟩ := Cond.instantiable_spec (a' (.instantiable cls 6) (by simp [kAtoms]))
  cases Option.some.inj (hc1.symm.trans hfound)
  cases Option.some.inj (hkX.symm.trans hk)
  have hsel0 : selectMethod e.platform s.vm P1.m.cls T.fill0 = .method T.fill0 := by
    obtain ⟨c2, r2, m2, q1, q2, q3, q4, -⟩ := Cond.selects_spec (a' (.selects cls Bundle.tFill0 Bundle.tFill0) (by simp [kAtoms]))
    cases Option.some.inj (q1.symm.trans hfound)
    cases Option.some.inj (q2.symm.trans (State.methodFound?_of_named Yt.fill0 (by decide)))
    cases Option.some.inj (q3.symm.trans Yt.fill0)
    rw [Launch.admits_selectMethod X.admits]; exact q4
  have hselF : selectMethod e.platform s.vm P1.m.cls T.fill = .method T.fill := by
    obtain ⟨c2, r2, m2, q1, q2, q3, q4, -⟩ := Cond.selects_spec (a' (.selects cls Bundle.tFill Bundle.tFill) (by simp [kAtoms]))
    cases Option.some.inj (q1.symm.trans hfound)
    cases Option.some.inj (q2.symm.trans (State.methodFound?_of_named Yt.fill (by decide)))
    cases Option.some.inj (q3.symm.trans Yt.fill)
    rw [Launch.admits_selectMethod X.admits]; exact q4
  obtain ⟨cellS0, hcS0, hiss⟩ := Yt.statics
  obtain ⟨u0, hu0⟩ := Cond.staticRefV Yt.unassigned L.unassignedStatic L.statics hcS0 hiss (a' (.isRef (.static Bundle.tN "UNASSIGNED_STACK" Bundle.steD)) (by simp [kAtoms]))
  obtain ⟨sen, hsen⟩ := Cond.staticRefV Yt.sentinel L.sentinelStatic L.statics hcS0 hiss (a' (.isRef (.static Bundle.tN "SUPPRESSED_SENTINEL" Bundle.listD)) (by simp [kAtoms]))
  obtain ⟨ci198, i198, fB, hk198, hg198, ha198, hsB, -, hnB, htB, hffB⟩ := Cond.ownField (t := .object "java/lang/Object") Yt.found L.cls (by decide +kernel) (a' (.fieldLink Bundle.tN 198 Bundle.tN "backtrace" "Ljava/lang/Object;") (by simp [kAtoms])) (a' (.lays Bundle.tN Bundle.tN "backtrace" "Ljava/lang/Object;") (by simp [kAtoms])) e.platform hpl
  obtain ⟨cellS, hcS', heS, -, hkeep⟩ := X.same.2.2.2.2.2 T.aS cellS0 hcS0
  have hcellS : V.heap[T.aS]? = some cellS := hcS'
  have hout' : ∀ i, (⟨T.aS, i⟩ : Loc) ∉ locs := fun i hmem => by
    have := hlocs _ hmem cellS0 hcS0
    rw [hiss] at this; cases this
  have hknownS : cellS.vm ≠ .unknown := by
    rw [heS]; intro hu
    rw [show cellS0.vm = .unknown from hu] at hiss
    cases hiss
  have hneS : T.aS ≠ a := Nat.ne_of_lt (Nat.lt_of_lt_of_le (Array.getElem?_eq_some_iff.mp hcS0).1 hnew)
  obtain ⟨iM, hffM⟩ := Yt.msg
  obtain ⟨tyC, dC, hdC, hdnC⟩ := Cond.laysAt hfound hk Yt.cause (a' (.lays cls Bundle.tN "cause" "Ljava/lang/Throwable;") (by simp [kAtoms]))
  obtain ⟨tyS, dS, hdS, hdnS⟩ := Cond.laysAt hfound hk Yt.stack (a' (.lays cls Bundle.tN "stackTrace" Bundle.steD) (by simp [kAtoms]))
  obtain ⟨tyP, dP, hdP, hdnP⟩ := Cond.laysAt hfound hk Yt.supp (a' (.lays cls Bundle.tN "suppressedExceptions" Bundle.listD) (by simp [kAtoms]))
  obtain ⟨tyM, dM, hdM, hdnM⟩ := Cond.laysAt hfound hk hffM (a' (.lays cls Bundle.tN "detailMessage" "Ljava/lang/String;") (by simp [kAtoms]))
  obtain ⟨tyB, dB, hdB, hdnB⟩ := Cond.laysAt hfound hk hffB (a' (.lays cls Bundle.tN "backtrace" "Ljava/lang/Object;") (by simp [kAtoms]))
  have bC := Cond.laysApart hdB hdC hdnB hdnC (by rw [hnB, Yt.causeName]; decide)
  have bS := Cond.laysApart hdB hdS hdnB hdnS (by rw [hnB, Yt.stackName]; decide)
  have bP := Cond.laysApart hdB hdP hdnB hdnP (by rw [hnB, Yt.suppName]; decide)
  have hskip : SkipFacts T e.platform s (fun u => u) u0 ((preparedCellV T.toThrowableT (freshCell P1.m.cls kX) a u0 sen).withEntry V.cur) :=
    ⟨{ ci198 := ci198, i198 := i198, fBack := fB }, ⟨hk198, hg198, ha198, hsB⟩, by
      have := fresh_default (c := P1.m.cls) tyB
      rw [htB] at this
      simpa [preparedCellV, Cell.setSlot, Cell.withEntry, Array.getElem?_setIfInBounds, bC, bS, bP, bC.symm, bS.symm, bP.symm, defaultValue] using this, fun _ _ => rfl⟩
  obtain ⟨tm, methC, cdC, kC, vm₁, hnC, -, -, -, -, -, -, -, hW₁, st1⟩ := Steps.initColdS (tb := p.tables) (e := e) (below := below) (s := s) (U := V) X.here hexec X.warmed hpl hown (t := Bundle.initS cls) rfl rfl (Bundle.fit_spec hcls).2
    (a' (.methodLink own ic (Bundle.initS cls)) (by simp [kAtoms])) (h (.instanceMethod (Bundle.initS cls)) (by simp [kAtoms, Bundle.passSAtoms])) (bytes := rx) (maxL := 2) (h (.code (Bundle.initS cls) rx 2 none) (by simp [kAtoms, Bundle.passSAtoms]))
    (f := g) hg (a := a) (msg := msg) (rest := .ref a :: rest) hstack hd6
  cases Option.some.inj (hnC.symm.trans hP1m)
  have X₁ := X.noted hW₁
  obtain ⟨vm₂, X₂, st2⟩ := X₁.ctorMessageOffV hexec (g := { g with stack := .ref a :: rest }) hg hsize T L Z LZ M LM (P1 :: P2 :: Ps2)
    (fun P hP => by
      rcases List.mem_cons.mp hP with rfl | hP
      · exact L1
      · rcases List.mem_cons.mp hP with rfl | hP
        · exact L2
        · exact hL2 P hP) ⟨hlink1, hlink2a, hlink2⟩ (u0 := u0) (sen := sen) (self := a) hmsg (cell := freshCell P1.m.cls kX) (cellS := cellS)
    hcell (fun _ => by simp) (by simp) rfl rfl hsel0 hselF hcellS hneS hknownS (by rw [hkeep _ (hout' _)]; exact hu0) (by rw [hkeep _ (hout' _)]; exact hsen)
    (Takes.of_laid hk hord tyC (by rw [Yt.causeType]; rfl)) (Takes.of_laid hk hord tyS (by rw [Yt.stackType]; exact fits_refV_array _ u0)) (Takes.of_laid hk hord tyP (by rw [Yt.suppType]; exact fits_refV_object _ sen))
    (Takes.of_laid hk hord tyM (by rw [Yt.msgType]; exact fits_refV_object _ ⟨msg, hmsg⟩)) Yt.objLocals hskip htr [] hd6
    (by simp only [List.length_cons, hlen2]; omega) (by simp only [List.length_cons, hlen2]; exact hRlocals)
  obtain ⟨hwalk, hrun, hended, hWU, hsame⟩ := X₂.athrowLeaves hexec (g := { g with stack := .ref a :: rest, pc := g.pc + 3 }) hg hlocked hentered hout (a := a) (rest := rest) rfl hd9
  have hlt : a < ((V.setVm vm₁).setVm vm₂).heap.size := (Array.getElem?_eq_some_iff.mp hcell).1
  have hU := heapAt_setCell_self (s := (V.setVm vm₁).setVm vm₂) (plainBareV T.toThrowableT (freshCell P1.m.cls kX) a u0 sen msg) hlt
  refine ⟨_, st1 _ (fun acts => ?_), hrun, hended, hWU, hsame.weaken (fun y hy hlt' => ?_) (Nat.le_refl _) (Nat.le_refl _), _, hU, rfl, rfl⟩
  · rw [doInvoke_state]
    exact st2 _ hwalk
  · rcases List.mem_append.mp hy with h1 | h1
    · exact h1
    · exfalso
      have hb : y.base = a := by
        simp only [List.mem_cons, List.not_mem_nil, or_false] at h1
        rcases h1 with rfl | rfl | rfl | rfl | rfl <;> rfl
      rw [hb] at hlt'
      exact Nat.not_lt.mpr hnew hlt'
end KNS
section KNT
variable {p : Program} {l : Launch} {e : Env} {R : Room} {s : State} {m : MethodId} {args : Array Value} {below : List Frame} {meth : Method} {c : Code} {H : Heap} {locs : List Loc} {cells slots : Nat} {Q : State → Prop}
variable {cc : ByteArray} {nL pc : Nat} {Qc : Array Value → State → Outcome → State → Prop} {rest : List Value} {ls : Array Slot}
abbrev nsC : String := "java/util/NoSuchElementException"
def nsB : ByteArray := ⟨#[0x2a, 0x2b, 0xb7, 0x00, 0x0d, 0xb1]⟩
/-- the atoms of its throw but the four that speak of the heap -/
def nsAt (ic : Nat) : List Cond := (kAtoms RX3 ic nsC 13 nsB "java/lang/RuntimeException" ["java/lang/Exception"]).filter vx_no
theorem at_NS : ∀ w ∈ nsAt 187, w ∈ lw_tbl ∧ (w.onTables && w.keepsFace) = true := fun w h => by
  have h1 : (nsAt 187).all (fun w => decide (w ∈ lw_tbl) && (w.onTables && w.keepsFace)) = true := by decide +kernel
  have h2 := List.all_eq_true.mp h1 w h
  rw [Bool.and_eq_true, decide_eq_true_eq] at h2
  exact h2
theorem k_thrN {E2 : String → Prop} {mc2 ms2 ik is ic : Nat} {text : String} {free : Addr → Prop} (S : CallFix p m c cc nL s args big RX3) (hG : GL s) (hZ : ZS s s.heap) (hl : l.stackTraces = false)
    (hat : ∀ w ∈ nsAt ic, w ∈ lw_tbl ∧ (w.onTables && w.keepsFace) = true) (hk : Cond.classLink RX3 ik nsC ∈ big) (hini : Cond.initialized nsC ∈ big) (hfit : Bundle.fit nsC = true)
    (hstr : Cond.stringRef RX3 is text ∈ lw_tbl) (hsize : ls.size = nL) (ht : ∀ x ∈ c.exceptionTable.toList, False) (hlocks : meth.locks = false)
    (hR : 6 ≤ R.frames ∧ 90 ≤ R.locals) (hRc : cells + 1 ≤ R.cells ∧ slots + 6 ≤ R.slots) (hc : cells + 1 ≤ mc2 ∧ slots + 6 ≤ ms2) (hW : (rest.map fun v => v.category).sum ≤ 8) (hE : E2 nsC)
    (d0 : decode cc pc = .ok (.new ik, 3)) (d3 : decode cc (pc + 3) = .ok (.dup, 1)) (d4 : decode cc (pc + 4) = .ok (.ldc is, 2)) (d6 : decode cc (pc + 6) = .ok (.invokespecial ic, 3)) (d9 : decode cc (pc + 9) = .ok (.athrow, 1)) :
    W p l e R s m args below meth c s.heap [] cells slots (vx_MQ below Qc (tX E2) args s mc2 ms2 free) (F0 m pc ls rest) := by
  obtain ⟨sa, hsa⟩ := hG.str S.2.2.2.1 hstr
  intro T hT X
  have htr : e.platform.stackTraces = false := (show e.platform.stackTraces = l.stackTraces by rw [X.admits.platform]).trans hl
  have Y := vx_rebase X (R' := { frames := R.frames, locals := R.locals, cells := 1, slots := 6 }) (Nat.le_refl _) (Nat.le_refl _) hRc.1 hRc.2
  obtain ⟨s', hA⟩ : ∃ z, z = (T.setVm s.vm).setFrames (.invoking m args :: below) := ⟨_, rfl⟩
  rw [← hA] at Y
  have hvm : s'.vm = s.vm := by rw [hA]; rfl
  have hhp : s'.heap = s.heap := by rw [hA]; exact hT
  have hW0 : s.WarmedH s'.vm := by rw [hvm]; exact State.WarmedH.refl s
  have hG' : GL s' := hG.warm hW0
  have hU' : vx_Zq Bundle.tN "UNASSIGNED_STACK" Bundle.steD (fun _ => False) s' s'.heap := by rw [hhp]; exact vx_Zq.moved hW0.alike hZ.1
  have hN' : vx_Zq Bundle.tN "SUPPRESSED_SENTINEL" Bundle.listD (fun _ => False) s' s'.heap := by rw [hhp]; exact vx_Zq.moved hW0.alike hZ.2
  have h : ∀ w ∈ kAtoms RX3 ic nsC 13 nsB "java/lang/RuntimeException" ["java/lang/Exception"], w.before args s' = true := vx_own (fun w hw => hG'.face (hat w hw).1 (hat w hw).2) (vx_isRefq hU'.1) (vx_isRefq hN'.1) hU'.2.word hN'.2.word
  have hown' : s'.vm.findClass RX3 = some m.cls := by rw [hvm]; exact S.2.2.2.1
  have hins : (Cond.instantiable nsC 6).before args s' = true := h _ (by simp [kAtoms])
  obtain ⟨vm₁, cX, kX, hfX, hkX, -, -, X₁, st1⟩ := Y.newCold S.1 (own := RX3) (C := nsC) (index := ik) (n := 6) hown' (hG'.words _ hk) hins (hG'.words _ hini)
    (g := F0 m pc ls rest) rfl (by rw [S.2.1]; exact d0) (Nat.le_refl _) (Nat.le_refl _)
  generalize hT1 : (T.setVm vm₁).pushCell { cls := cX, slots := kX.instanceTypes.map defaultValue, vm := .none } = T1 at X₁ st1
  have hcat : (Value.ref T.heap.size).category = 1 := rfl
  have hcellA : T1.heap[T.heap.size]? = some (freshCell cX kX) := by rw [← hT1]; exact State.heap_pushCell_size _ _
  have d3' : decode c.code (pc + 3) = .ok (.dup, 1) := by rw [S.2.1]; exact d3
  have d4' : decode c.code (pc + 4) = .ok (.ldc is, 2) := by rw [S.2.1]; exact d4
  have hstr' : vk_R RX3 is text sa s' := vk_R.warm hW0 hsa
  obtain ⟨U, hsteps, hrun, hend, hWU, hsame, ce, hce, hcc, hcv⟩ := kCtorThrow X₁ S.1 htr (own := RX3) (cls := nsC) (Y := "java/lang/RuntimeException") (names := ["java/lang/Exception"]) (ic := ic) (ix := 13) (rx := nsB) (by decide +kernel) (by decide +kernel) (by decide +kernel) (by decide +kernel) hown' hfit (by decide +kernel) (by decide +kernel) h (fun x hx => nomatch hx) hfX hkX hcellA (by rw [hhp, hT]; exact Nat.le_refl _) (msg := .ref sa) rfl
    (g := { method := m, pc := pc + 6, locals := ls, stack := .ref sa :: .ref T.heap.size :: .ref T.heap.size :: rest, locked := none }) rfl (by rw [S.2.2.1]; exact hsize) rfl rfl (rest := rest) rfl
    (by rw [S.2.1]; exact d6) (by rw [S.2.1]; exact d9) (fun x hx => (ht x hx).elim) (by show 1 + 4 < R.frames; omega) (by simp only [List.map_cons, List.sum_cons, hcat, List.length_cons, List.length_nil]; have h8 : 2 * (F0 m (pc + 6) ls (.ref sa :: .ref T.heap.size :: .ref T.heap.size :: rest)).monitorRoom = 0 := rfl; show 0 + _ + _ ≤ _; omega) hlocks
  obtain ⟨f1, f2⟩ := vx_frame hsame
  rw [hhp] at f1 f2
  have hWs : s.WarmedH U.vm := State.WarmedH.trans hW0 hWU
  have hcl : s.vm.findClass nsC = some ce.cls := by
    have h9 := hfX
    rw [hvm] at h9
    rw [hcc]; exact h9
  have hall : s.sameButNew ({ U with vm := s.vm } : State) [] mc2 ms2 := by
    subst hA
    obtain ⟨e1, e2⟩ := hsame
    rw [State.setFrames_setFrames] at e1
    have h2 : (T.setVm s.vm).sameButNew ({ U with vm := s.vm } : State) [] (0 + 1) (0 + 6) := ⟨e1, e2⟩
    have h3 := X.same.trans h2
    rw [List.append_nil] at h3
    exact h3.mono hc.1 hc.2
  refine ⟨U, ?_, .threw T.heap.size, hrun, hend, Or.inr ⟨T.heap.size, rfl, nsC, ce, [], ⟨hE, f1, fun q hq => f2 q hq (fun z hz => nomatch hz)⟩, hce, hcv, hcl, hWs, hall, fun z hz => nomatch hz⟩⟩
  refine st1 _ ?_
  show Steps p.tables e below (T1.setTop { method := m, pc := pc + 3, locals := ls, stack := .ref T.heap.size :: rest, locked := none }) _
  jvm_step X₁.here [X₁.here.top, S.1, d3', Value.category]
  exact X₁.ldcString S.1 (own := RX3) (text := text) (index := is) (a := sa) hown' hstr'.1 hstr'.2
    (g := { method := m, pc := pc + 4, locals := ls, stack := .ref T.heap.size :: .ref T.heap.size :: rest, locked := none }) rfl d4' _ hsteps
end KNT
end
section
/-! WHAT THE CLASS's METHODS ANSWER, over its rows: a row's number and a place give an int. 0 prices, 1 bounds, 2 from, 3 to, 4 article, 5 quantity, 6 minute, 7 place, 8 cut, 9 closed, 10 persons, 11 first, 12 second, 13 agreement, 14 signature, 15 signedGap; 16 to 19, each at 0: now, moves, sheets, signatures -/
abbrev kS : Type := Nat → Nat → Int32
def oI (o : Option Nat) : Int32 := match o with
  | none => -1
  | some k => nI k
def ckI (i n : Int32) : Bool := if i < 0 then false else if n ≤ i then false else true
def ckP (i : Int32) : Bool := if i = -1 then true else ckI i 12
def ckR (v a b : Int32) : Bool := if v < a then false else if b < v then false else true
def agB (σ : kS) (k : Nat) : Bool := if σ 13 k = -1 then false else true
def hsB (σ : kS) (k : Nat) : Bool := if σ 14 k = 0 then false else true
/-- Integer.bitCount, its own steps -/
def bc (x : Int32) : Int32 :=
  let sh (a n : Int32) : Int32 := (a.toUInt32 >>> (n.toUInt32 &&& Int32.toUInt32 31)).toInt32
  let a := x - (sh x 1 &&& 1431655765)
  let b := (a &&& 858993459) + (sh a 2 &&& 858993459)
  let d := (b + sh b 4) &&& 252645135
  let f := d + sh d 8
  (f + sh f 16) &&& 63
def cbB (σ : kS) (k : Nat) (pe : Int32) : Bool := if σ 10 k &&& ((1 : Int32) <<< (pe &&& 31)) = 0 then false else true
def latO (σ : kS) (pl : Int32) : Nat → Option Nat
  | 0 => none
  | n + 1 => if σ 7 n = pl then some n else latO σ pl n
def opB (σ : kS) (pl : Int32) (ns : Nat) : Bool := match latO σ pl ns with
  | none => false
  | some k => if σ 9 k = 0 then true else false
def brT (σ : kS) (pl ar af un : Int32) (i : Nat) (z : Int32) : Int32 := if σ 4 i = ar then if af < σ 6 i then if σ 6 i ≤ un then if σ 3 i = pl then z + σ 5 i else if σ 2 i = pl then z - σ 5 i else z else z else z else z
def brF (σ : kS) (pl ar af un : Int32) : Nat → Int32
  | 0 => 0
  | n + 1 => brT σ pl ar af un n (brF σ pl ar af un n)
def strB (σ : kS) (a b ar : Nat) : Bool := if σ 8 a = σ 8 b then if σ 14 (b * 5 + ar) < σ 14 (a * 5 + ar) then true else false else if σ 8 b < σ 8 a then true else false
def ssT (σ : kS) (pl : Int32) (ar : Nat) (mi : Int32) (k : Nat) (o : Option Nat) : Option Nat :=
  if σ 7 k = pl then if σ 8 k ≤ mi then if hsB σ (k * 5 + ar) = true then match o with
    | none => some k
    | some b => if strB σ k b ar = true then some k else some b
  else o else o else o
def ssO (σ : kS) (pl : Int32) (ar : Nat) (mi : Int32) : Nat → Option Nat
  | 0 => none
  | n + 1 => ssT σ pl ar mi n (ssO σ pl ar mi n)
def boV (σ : kS) (nm ns : Nat) (pl : Int32) (ar : Nat) (mi : Int32) : Int32 := match ssO σ pl ar mi ns with
  | none => brF σ pl (nI ar) (-1) mi nm
  | some k => σ 13 (k * 5 + ar) + brF σ pl (nI ar) (σ 8 k) mi nm
def gpV (σ : kS) (nm ns sh ar : Nat) : Int32 := if hsB σ (sh * 5 + ar) = true then σ 15 (sh * 5 + ar) else σ 13 (sh * 5 + ar) - boV σ nm ns (σ 7 sh) ar (σ 8 sh)
def sgB (σ : kS) (sh ar : Nat) : Bool := if σ 9 sh = 0 then false else if agB σ (sh * 5 + ar) = true then if hsB σ (sh * 5 + ar) = true then false else true else false
def csB (σ : kS) (nm ns sh ot ar : Nat) : Bool := if σ 7 sh = σ 7 ot then false else if sgB σ sh ar = true then if sgB σ ot ar = true then if gpV σ nm ns sh ar = 0 then false else if gpV σ nm ns sh ar + gpV σ nm ns ot ar = 0 then true else false else false else false
def woF (σ : kS) (nm ns : Nat) (pl : Int32) : Nat → Int32
  | 0 => 0
  | n + 1 => woF σ nm ns pl n + σ 0 n * (if 0 < boV σ nm ns pl n (σ 16 0) then boV σ nm ns pl n (σ 16 0) else 0)
def urV (σ : kS) (nm ns : Nat) (pl : Int32) : Int64 := ((woF σ nm ns pl 5).toInt64 + 1) * (match latO σ pl ns with
  | none => (σ 16 0).toInt64 + 1
  | some k => (σ 16 0 - σ 8 k).toInt64)
def suT (σ : kS) (nm ns : Nat) (k : Nat) (z : Int32 × Int64) : Int32 × Int64 := if opB σ (nI k) ns = true then z else if z.1 = -1 then (nI k, urV σ nm ns (nI k)) else if lg_cmp (urV σ nm ns (nI k)) z.2 ≤ 0 then z else (nI k, urV σ nm ns (nI k))
def suF (σ : kS) (nm ns : Nat) : Nat → Int32 × Int64
  | 0 => (-1, 0)
  | n + 1 => suT σ nm ns n (suF σ nm ns n)
/-- the first below n for which it holds -/
def flO (p : Nat → Bool) : Nat → Option Nat
  | 0 => none
  | n + 1 => match flO p n with
    | some k => some k
    | none => if p n = true then some n else none
def exI (σ : kS) (sh : Nat) : Nat → Int32 × Int32 → Int32 × Int32
  | 0, z => z
  | n + 1, z => if hsB σ (sh * 5 + n) = true then ((exI σ sh n z).1 + 1, (exI σ sh n z).2 + (if σ 15 (sh * 5 + n) = 0 then 1 else 0)) else exI σ sh n z
def exF (σ : kS) (z : Int32) : Nat → Int32 × Int32
  | 0 => (0, 0)
  | n + 1 => if σ 7 n / 4 = z then exI σ n 5 (exF σ z n) else exF σ z n
def exV (σ : kS) (ns : Nat) (z : Int32) : Int32 := if (exF σ z ns).1 = 0 then -1 else 1000 * (exF σ z ns).2 / (exF σ z ns).1
def clA (σ : kS) (sh : Nat) : Nat → Int32
  | 0 => 0
  | n + 1 => if agB σ (sh * 5 + n) = true then clA σ sh n + 1 else clA σ sh n
def clB (σ : kS) (sh : Nat) : Nat → Bool
  | 0 => true
  | n + 1 => if clB σ sh n = true then if agB σ (sh * 5 + n) = true then true else if bc (σ 10 (sh * 5 + n)) ≤ 0 then true else false else false
def abV (x : Int32) : Int32 := if 0 ≤ x then x else 0 - x
def midV (a b c : Int32) : Int32 :=
  let x := if b < a then b else a
  let y := if a < b then b else a
  let z := if c < y then c else y
  if x < z then z else x
theorem ln_eq (sh ar : Nat) : nI sh * 5 + nI ar = nI (sh * 5 + ar) := by rw [show (5 : Int32) = nI 5 from rfl, pk_mul, nI_add]
-- which exception: 0 none, 1 IndexOutOfBounds, 2 IllegalArgument, 3 IllegalState, 4 NoSuchElement
def eX_setPrice (ar pr : Int32) : Nat := if ckI ar 5 = true then if ckR pr 0 1000 = true then 0 else 2 else 1
def eX_setBound (pe bo : Int32) : Nat := if ckI pe 6 = true then if ckR bo 0 1000000 = true then 0 else 2 else 1
def eX_move (σ : kS) (f t a q mi : Int32) : Nat := if ckP f = true then if ckP t = true then if ckI a 5 = true then if f = t then 2 else if ckR q 1 1000 = true then if ckR mi 0 (σ 16 0) = true then if σ 17 0 < 200 then 0 else 3 else 2 else 2 else 1 else 1 else 1
def eX_pass (mi : Int32) : Nat := if ckR mi 1 1000 = true then 0 else 2
def eX_open (σ : kS) (ns : Nat) (pl : Int32) : Nat := if ckI pl 12 = true then if opB σ pl ns = true then 3 else if σ 18 0 < 40 then 0 else 3 else 1
def ixN (x : Int32) : Nat := x.toNatClampNeg
def lnN (sh ar : Int32) : Nat := ixN sh * 5 + ixN ar
def eX_count (σ : kS) (sh pe ar q : Int32) : Nat := if ckI sh (σ 18 0) = true then if ckI pe 6 = true then if ckI ar 5 = true then if ckR q 0 100000 = true then if σ 9 (ixN sh) = 0 then if agB σ (lnN sh ar) = true then 3 else if cbB σ (lnN sh ar) pe = true then 3 else 0 else 3 else 2 else 1 else 1 else 1
def eX_close (σ : kS) (sh : Int32) : Nat := if ckI sh (σ 18 0) = true then if σ 9 (ixN sh) = 0 then if clB σ (ixN sh) 5 = true then 0 else 3 else 3 else 1
def eX_sign (σ : kS) (nm ns : Nat) (sh ar pe : Int32) : Nat := if ckI sh (σ 18 0) = true then if ckI ar 5 = true then if ckI pe 6 = true then if agB σ (lnN sh ar) = true then if sgB σ (ixN sh) (ixN ar) = true then if σ 0 (ixN ar) * abV (gpV σ nm ns (ixN sh) (ixN ar)) ≤ σ 1 (ixN pe) then 0 else 3 else 3 else 4 else 1 else 1 else 1
def eX_settle (σ : kS) (nm ns : Nat) (sh ot ar : Int32) : Nat := if ckI sh (σ 18 0) = true then if ckI ot (σ 18 0) = true then if ckI ar 5 = true then if agB σ (lnN sh ar) = true then if agB σ (lnN ot ar) = true then if csB σ nm ns (ixN sh) (ixN ot) (ixN ar) = true then 0 else 3 else 4 else 4 else 1 else 1 else 1
def eX_two (a n b k : Int32) : Nat := if (ckI a n && ckI b k) = true then 0 else 1
def eX_bookAt (σ : kS) (pl ar mi : Int32) : Nat := if ckI pl 12 = true then if ckI ar 5 = true then if ckR mi 0 (σ 16 0) = true then 0 else 2 else 1 else 1
def eX_one (a n : Int32) : Nat := if ckI a n = true then 0 else 1
def eX_gap (σ : kS) (sh ar : Int32) : Nat := if (ckI sh (σ 18 0) && ckI ar 5) = true then if agB σ (lnN sh ar) = true then 0 else 4 else 1
theorem ckI_nI {x : Int32} {n : Nat} (h : ckI x (nI n) = true) (hn : n < 2 ^ 31) : ∃ j, j < n ∧ x = nI j := by
  unfold ckI at h
  by_cases h1 : x < 0
  · simp [h1] at h
  · by_cases h2 : nI n ≤ x
    · simp [h1, h2] at h
    · obtain ⟨j, hj, rfl⟩ := nI_of h1
      refine ⟨j, ?_, rfl⟩
      rw [nI_leI hn hj] at h2
      omega
theorem ixN_nI {n : Nat} (h : n < 2 ^ 31) : ixN (nI n) = n := nI_clamp h
theorem flO_none {p : Nat → Bool} : ∀ {n : Nat}, (∀ j, j < n → p j = false) → flO p n = none
  | 0, _ => rfl
  | n + 1, h => by
    rw [flO, flO_none (fun j hj => h j (by omega))]
    simp [h n (by omega)]
theorem flO_at {p : Nat → Bool} {k : Nat} (hk : p k = true) (h : ∀ j, j < k → p j = false) : ∀ {n : Nat}, k < n → flO p n = some k
  | 0, hn => by omega
  | n + 1, hn => by
    rw [flO]
    by_cases q : k = n
    · subst q
      rw [flO_none h]
      simp [hk]
    · rw [flO_at hk h (by omega)]
theorem clB_no {σ : kS} {sh : Nat} : ∀ {n k : Nat}, n ≤ k → clB σ sh n = false → clB σ sh k = false := by
  intro n k h hn
  induction k with
  | zero => have : n = 0 := by omega
            subst this; exact hn
  | succ k ih =>
    by_cases q : n = k + 1
    · subst q; exact hn
    · have := ih (by omega)
      simp [clB, this]
theorem le_nlt {x y : Int32} (h : x ≤ y) : ¬ y < x := Int32.not_lt.mpr h
theorem nle_lt {x y : Int32} (h : ¬ x ≤ y) : y < x := Int32.not_le.mp h
theorem lt_nle {x y : Int32} (h : x < y) : ¬ y ≤ x := Int32.not_le.mpr h
theorem nlt_le {x y : Int32} (h : ¬ x < y) : y ≤ x := Int32.not_lt.mp h
theorem m1_eq (x : Int32) : x + Int32.ofInt (-1) = x - 1 := by rw [show Int32.ofInt (-1) = -1 from rfl, ← Int32.sub_eq_add_neg]
theorem latO_lt {σ : kS} {pl : Int32} : ∀ {n k : Nat}, latO σ pl n = some k → k < n ∧ σ 7 k = pl
  | 0, k, h => by simp [latO] at h
  | n + 1, k, h => by
    by_cases q : σ 7 n = pl
    · simp [latO, q] at h; subst h; exact ⟨by omega, q⟩
    · simp [latO, q] at h
      have := latO_lt h
      exact ⟨by omega, this.2⟩
theorem ssO_lt {σ : kS} {pl : Int32} {ar : Nat} {mi : Int32} : ∀ {n k : Nat}, ssO σ pl ar mi n = some k → k < n
  | 0, k, h => by simp [ssO] at h
  | n + 1, k, h => by
    have ih := fun {k : Nat} => @ssO_lt σ pl ar mi n k
    rw [ssO] at h
    generalize ho : ssO σ pl ar mi n = o at h ih
    unfold ssT at h
    cases o with
    | none =>
      simp only at h
      split at h
      · split at h
        · split at h
          · cases h; omega
          · cases h
        · cases h
      · cases h
    | some b =>
      have hb := ih rfl
      simp only at h
      split at h
      · split at h
        · split at h
          · split at h
            · cases h; omega
            · cases h; omega
          · cases h; omega
        · cases h; omega
      · cases h; omega
theorem nI_m1 {k : Nat} (h : k < 2 ^ 31) : ¬ nI k = -1 := fun q => nI_pos h (by rw [q]; decide)
end
section
set_option maxHeartbeats 4000000 in
set_option maxRecDepth 100000 in
theorem c_lineOf (l : Launch) (sh ar : Nat)  : Met l yX3_lineOf [.code yX3_lineOf cX3_lineOf 2 (some .int)] ({ frames := 1, cells := 0, slots := 0, locals := 40 }) (va_Pc [.int (nI sh), .int (nI ar)] (fun U => GL U)) (vp_Si (fun r => r = nI (sh * 5 + ar))) 0 0 NF := by
  refine k_of (by decide) (Nat.le_of_ble_eq_true rfl) (fun U h => h) ?_
  intro p e s m below meth c ls S hr hlocks hmn hB hl
  have hx := S.1
  have hb := S.2.1
  have hG : GL s := hB
  have hl : lv_has ls 2 [(0, .int (nI sh)), (1, .int (nI ar))] := hl
  refine lv_iload_n hx hb dX3_lineOf_0 rfl (lv_at hl 0 rfl) ?_
  refine lv_iconst (v := 5) hx hb dX3_lineOf_1 (by decide) ?_
  refine lv_imul hx hb dX3_lineOf_2 ?_
  refine lv_iload_n hx hb dX3_lineOf_3 rfl (lv_at hl 1 rfl) ?_
  refine lv_iadd hx hb dX3_lineOf_4 ?_
  exact W.iret (v := ((nI sh) * 5) + (nI ar)) hx hb hr (fun t ht hW => ⟨_, rfl, ln_eq sh ar, ht⟩) (fun q h => by cases h) dX3_lineOf_5

set_option maxHeartbeats 4000000 in
set_option maxRecDepth 100000 in
theorem c_bitCount (l : Launch) (x : Int32)  : Met l yJ6_bitCount_0f7a4 [.code yJ6_bitCount_0f7a4 cJ6_bitCount_0f7a4 1 (some .int)] ({ frames := 1, cells := 0, slots := 0, locals := 40 }) (va_Pc [.int x] (fun U => GL U)) (vp_Si (fun r => r = bc x)) 0 0 NF := by
  refine k_of (by decide) (Nat.le_of_ble_eq_true rfl) (fun U h => h) ?_
  intro p e s m below meth c ls S hr hlocks hmn hB hl
  have hx := S.1
  have hb := S.2.1
  have hG : GL s := hB
  have hl : lv_has ls 1 [(0, .int x)] := hl
  refine lv_iload_n hx hb dJ6_bitCount_0f7a4_0 rfl (lv_at hl 0 rfl) ?_
  refine lv_iload_n hx hb dJ6_bitCount_0f7a4_1 rfl (lv_at hl 0 rfl) ?_
  refine lv_iconst (v := 1) hx hb dJ6_bitCount_0f7a4_2 (by decide) ?_
  refine lv_iushr (v := (x.toUInt32 >>> (Int32.toUInt32 1 &&& Int32.toUInt32 31)).toInt32) hx hb dJ6_bitCount_0f7a4_3 rfl ?_
  refine lv_ldcw (v := 1431655765) hx hb S.2.2.2.1 (S.2.2.2.2 _ m_333) dJ6_bitCount_0f7a4_4 ?_
  refine lv_iand hx hb dJ6_bitCount_0f7a4_7 ?_
  refine lv_isub hx hb dJ6_bitCount_0f7a4_8 ?_
  refine lv_topi (fun x1 ex1 => ?_)
  refine lv_istore_n (lv' := [(0, .int x1)]) hx hb dJ6_bitCount_0f7a4_9 rfl hl (by decide) rfl (fun ls hl => ?_)
  refine lv_iload_n hx hb dJ6_bitCount_0f7a4_10 rfl (lv_at hl 0 rfl) ?_
  refine lv_ldcw (v := 858993459) hx hb S.2.2.2.1 (S.2.2.2.2 _ m_334) dJ6_bitCount_0f7a4_11 ?_
  refine lv_iand hx hb dJ6_bitCount_0f7a4_14 ?_
  refine lv_iload_n hx hb dJ6_bitCount_0f7a4_15 rfl (lv_at hl 0 rfl) ?_
  refine lv_iconst (v := 2) hx hb dJ6_bitCount_0f7a4_16 (by decide) ?_
  refine lv_iushr (v := (x1.toUInt32 >>> (Int32.toUInt32 2 &&& Int32.toUInt32 31)).toInt32) hx hb dJ6_bitCount_0f7a4_17 rfl ?_
  refine lv_ldcw (v := 858993459) hx hb S.2.2.2.1 (S.2.2.2.2 _ m_334) dJ6_bitCount_0f7a4_18 ?_
  refine lv_iand hx hb dJ6_bitCount_0f7a4_21 ?_
  refine lv_iadd hx hb dJ6_bitCount_0f7a4_22 ?_
  refine lv_topi (fun x2 ex2 => ?_)
  refine lv_istore_n (lv' := [(0, .int x2)]) hx hb dJ6_bitCount_0f7a4_23 rfl hl (by decide) rfl (fun ls hl => ?_)
  refine lv_iload_n hx hb dJ6_bitCount_0f7a4_24 rfl (lv_at hl 0 rfl) ?_
  refine lv_iload_n hx hb dJ6_bitCount_0f7a4_25 rfl (lv_at hl 0 rfl) ?_
  refine lv_iconst (v := 4) hx hb dJ6_bitCount_0f7a4_26 (by decide) ?_
  refine lv_iushr (v := (x2.toUInt32 >>> (Int32.toUInt32 4 &&& Int32.toUInt32 31)).toInt32) hx hb dJ6_bitCount_0f7a4_27 rfl ?_
  refine lv_iadd hx hb dJ6_bitCount_0f7a4_28 ?_
  refine lv_ldcw (v := 252645135) hx hb S.2.2.2.1 (S.2.2.2.2 _ m_335) dJ6_bitCount_0f7a4_29 ?_
  refine lv_iand hx hb dJ6_bitCount_0f7a4_32 ?_
  refine lv_topi (fun x3 ex3 => ?_)
  refine lv_istore_n (lv' := [(0, .int x3)]) hx hb dJ6_bitCount_0f7a4_33 rfl hl (by decide) rfl (fun ls hl => ?_)
  refine lv_iload_n hx hb dJ6_bitCount_0f7a4_34 rfl (lv_at hl 0 rfl) ?_
  refine lv_iload_n hx hb dJ6_bitCount_0f7a4_35 rfl (lv_at hl 0 rfl) ?_
  refine lv_bipush (v := 8) hx hb dJ6_bitCount_0f7a4_36 (by decide) ?_
  refine lv_iushr (v := (x3.toUInt32 >>> (Int32.toUInt32 8 &&& Int32.toUInt32 31)).toInt32) hx hb dJ6_bitCount_0f7a4_38 rfl ?_
  refine lv_iadd hx hb dJ6_bitCount_0f7a4_39 ?_
  refine lv_topi (fun x4 ex4 => ?_)
  refine lv_istore_n (lv' := [(0, .int x4)]) hx hb dJ6_bitCount_0f7a4_40 rfl hl (by decide) rfl (fun ls hl => ?_)
  refine lv_iload_n hx hb dJ6_bitCount_0f7a4_41 rfl (lv_at hl 0 rfl) ?_
  refine lv_iload_n hx hb dJ6_bitCount_0f7a4_42 rfl (lv_at hl 0 rfl) ?_
  refine lv_bipush (v := 16) hx hb dJ6_bitCount_0f7a4_43 (by decide) ?_
  refine lv_iushr (v := (x4.toUInt32 >>> (Int32.toUInt32 16 &&& Int32.toUInt32 31)).toInt32) hx hb dJ6_bitCount_0f7a4_45 rfl ?_
  refine lv_iadd hx hb dJ6_bitCount_0f7a4_46 ?_
  refine lv_topi (fun x5 ex5 => ?_)
  refine lv_istore_n (lv' := [(0, .int x5)]) hx hb dJ6_bitCount_0f7a4_47 rfl hl (by decide) rfl (fun ls hl => ?_)
  refine lv_iload_n hx hb dJ6_bitCount_0f7a4_48 rfl (lv_at hl 0 rfl) ?_
  refine lv_bipush (v := 63) hx hb dJ6_bitCount_0f7a4_49 (by decide) ?_
  refine lv_iand hx hb dJ6_bitCount_0f7a4_51 ?_
  exact W.iret (v := x5 &&& 63) hx hb hr (fun t ht hW => ⟨_, rfl, (by subst ex5; subst ex4; subst ex3; subst ex2; subst ex1; rfl), ht⟩) (fun q h => by cases h) dJ6_bitCount_0f7a4_52

set_option maxHeartbeats 4000000 in
set_option maxRecDepth 100000 in
theorem c_agrees (l : Launch) (G : kG) (ad : Nat → Nat) (σ : kS) (k : Nat) (hk : k < 200) : Met l yX0_agrees [.code yX0_agrees cX0_agrees 2 (some .boolean)] ({ frames := 1, cells := 0, slots := 0, locals := 40 }) (va_Pc [.ref (ad 5), .int (nI k)] (fun U => PX G ad σ U U.heap)) (vp_Si (fun r => r = bI (agB σ k))) 0 0 NF := by
  refine k_of (by decide) (Nat.le_of_ble_eq_true rfl) (fun U h => h.2.2) ?_
  intro p e s m below meth c ls S hr hlocks hmn hB hl
  have hx := S.1
  have hb := S.2.1
  have hX : PX G ad σ s s.heap := hB
  have hl : lv_has ls 2 [(0, .ref (ad 5)), (1, .int (nI k))] := hl
  refine lv_aload_n hx hb dX0_agrees_0 rfl (lv_at hl 0 rfl) ?_
  refine k_get S hX.2 hX.1 5 (C := RX0) (T := TX0) (N := 7) rfl rfl 3 (by decide) inX0 m_108 rfl dX0_agrees_1 ?_
  refine lv_iload_n hx hb dX0_agrees_4 rfl (lv_at hl 1 rfl) ?_
  refine k_ild S hX.2 hX.1 17 (i := k) rfl (by omega) (by decide) dX0_agrees_5 ?_
  refine lv_iconst (v := (-1)) hx hb dX0_agrees_6 (by decide) ?_
  refine lv_icmp_eq (tgt := 14) hx hb dX0_agrees_7 (by decide) (fun c7_1 => ?_) (fun c7_1 => ?_)
  · have bc7_1 := c7_1
    refine lv_iconst (v := 0) hx hb dX0_agrees_14 (by decide) ?_
    exact W.zret (v := 0) (ty := .boolean) hx hb hr (by first | rfl | exact bI_nar _) (fun t ht hW => ⟨_, rfl, (by simp [agB, bI, c7_1]), ht⟩) (fun q h => by cases h) dX0_agrees_15
  · have bc7_1 := c7_1
    refine lv_iconst (v := 1) hx hb dX0_agrees_10 (by decide) ?_
    refine lv_goto (tgt := 15) hx hb dX0_agrees_11 (by decide) ?_
    exact W.zret (v := 1) (ty := .boolean) hx hb hr (by first | rfl | exact bI_nar _) (fun t ht hW => ⟨_, rfl, (by simp [agB, bI, c7_1]), ht⟩) (fun q h => by cases h) dX0_agrees_15

set_option maxHeartbeats 4000000 in
set_option maxRecDepth 100000 in
theorem c_hasSign (l : Launch) (G : kG) (ad : Nat → Nat) (σ : kS) (k : Nat) (hk : k < 200) : Met l yX0_hasSign [.code yX0_hasSign cX0_hasSign 2 (some .boolean)] ({ frames := 1, cells := 0, slots := 0, locals := 40 }) (va_Pc [.ref (ad 5), .int (nI k)] (fun U => PX G ad σ U U.heap)) (vp_Si (fun r => r = bI (hsB σ k))) 0 0 NF := by
  refine k_of (by decide) (Nat.le_of_ble_eq_true rfl) (fun U h => h.2.2) ?_
  intro p e s m below meth c ls S hr hlocks hmn hB hl
  have hx := S.1
  have hb := S.2.1
  have hX : PX G ad σ s s.heap := hB
  have hl : lv_has ls 2 [(0, .ref (ad 5)), (1, .int (nI k))] := hl
  refine lv_aload_n hx hb dX0_hasSign_0 rfl (lv_at hl 0 rfl) ?_
  refine k_get S hX.2 hX.1 5 (C := RX0) (T := TX0) (N := 7) rfl rfl 4 (by decide) inX0 m_110 rfl dX0_hasSign_1 ?_
  refine lv_iload_n hx hb dX0_hasSign_4 rfl (lv_at hl 1 rfl) ?_
  refine k_ild S hX.2 hX.1 18 (i := k) rfl (by omega) (by decide) dX0_hasSign_5 ?_
  refine lv_if_eq (tgt := 13) hx hb dX0_hasSign_6 (by decide) (fun c6_1 => ?_) (fun c6_1 => ?_)
  · have bc6_1 := c6_1
    refine lv_iconst (v := 0) hx hb dX0_hasSign_13 (by decide) ?_
    exact W.zret (v := 0) (ty := .boolean) hx hb hr (by first | rfl | exact bI_nar _) (fun t ht hW => ⟨_, rfl, (by simp [hsB, bI, c6_1]), ht⟩) (fun q h => by cases h) dX0_hasSign_14
  · have bc6_1 := c6_1
    refine lv_iconst (v := 1) hx hb dX0_hasSign_9 (by decide) ?_
    refine lv_goto (tgt := 14) hx hb dX0_hasSign_10 (by decide) ?_
    exact W.zret (v := 1) (ty := .boolean) hx hb hr (by first | rfl | exact bI_nar _) (fun t ht hW => ⟨_, rfl, (by simp [hsB, bI, c6_1]), ht⟩) (fun q h => by cases h) dX0_hasSign_14

set_option maxHeartbeats 4000000 in
set_option maxRecDepth 100000 in
theorem c_countsOn (l : Launch) (G : kG) (ad : Nat → Nat) (σ : kS) (k : Nat) (hk : k < 200) : Met l yX0_countsOn [.code yX0_countsOn cX0_countsOn 2 (some .int)] ({ frames := 2, cells := 0, slots := 0, locals := 60 }) (va_Pc [.ref (ad 5), .int (nI k)] (fun U => PX G ad σ U U.heap)) (vp_Si (fun r => r = bc (σ 10 k))) 0 0 NF := by
  refine k_of (by decide) (Nat.le_of_ble_eq_true rfl) (fun U h => h.2.2) ?_
  intro p e s m below meth c ls S hr hlocks hmn hB hl
  have hx := S.1
  have hb := S.2.1
  have hX : PX G ad σ s s.heap := hB
  have hl : lv_has ls 2 [(0, .ref (ad 5)), (1, .int (nI k))] := hl
  refine lv_aload_n hx hb dX0_countsOn_0 rfl (lv_at hl 0 rfl) ?_
  refine k_get S hX.2 hX.1 5 (C := RX0) (T := TX0) (N := 7) rfl rfl 0 (by decide) inX0 m_105 rfl dX0_countsOn_1 ?_
  refine lv_iload_n hx hb dX0_countsOn_4 rfl (lv_at hl 1 rfl) ?_
  refine k_ild S hX.2 hX.1 14 (i := k) rfl (by omega) (by decide) dX0_countsOn_5 ?_
  refine q_i (r_S S ⟨m_330, m_331, m_35, m_332⟩ ⟨rfl, by decide, by decide, by decide +kernel⟩ (c_bitCount l (σ 10 k)) ⟨rfl, rfl, Nat.le_of_ble_eq_true rfl, Nat.le_of_ble_eq_true rfl⟩ (ps bl_GL (bG hX.2.2)) (n := 1) (As := [.int (σ 10 k)]) (rest := []) rfl hl.1 rfl (Nat.le_of_ble_eq_true rfl) ⟨Nat.le_of_ble_eq_true rfl, Nat.le_of_ble_eq_true rfl⟩ dX0_countsOn_6) (fun r1 (e1 : r1 = bc (σ 10 k)) => ?_)
  subst e1
  exact W.iret (v := bc (σ 10 k)) hx hb hr (fun t ht hW => ⟨_, rfl, rfl, ht⟩) (fun q h => by cases h) dX0_countsOn_9

set_option maxHeartbeats 4000000 in
set_option maxRecDepth 100000 in
theorem c_isCountedBy (l : Launch) (G : kG) (ad : Nat → Nat) (σ : kS) (k : Nat) (pe : Int32) (hk : k < 200) : Met l yX0_isCountedBy [.code yX0_isCountedBy cX0_isCountedBy 3 (some .boolean)] ({ frames := 1, cells := 0, slots := 0, locals := 40 }) (va_Pc [.ref (ad 5), .int (nI k), .int pe] (fun U => PX G ad σ U U.heap)) (vp_Si (fun r => r = bI (cbB σ k pe))) 0 0 NF := by
  refine k_of (by decide) (Nat.le_of_ble_eq_true rfl) (fun U h => h.2.2) ?_
  intro p e s m below meth c ls S hr hlocks hmn hB hl
  have hx := S.1
  have hb := S.2.1
  have hX : PX G ad σ s s.heap := hB
  have hl : lv_has ls 3 [(0, .ref (ad 5)), (1, .int (nI k)), (2, .int pe)] := hl
  refine lv_aload_n hx hb dX0_isCountedBy_0 rfl (lv_at hl 0 rfl) ?_
  refine k_get S hX.2 hX.1 5 (C := RX0) (T := TX0) (N := 7) rfl rfl 0 (by decide) inX0 m_105 rfl dX0_isCountedBy_1 ?_
  refine lv_iload_n hx hb dX0_isCountedBy_4 rfl (lv_at hl 1 rfl) ?_
  refine k_ild S hX.2 hX.1 14 (i := k) rfl (by omega) (by decide) dX0_isCountedBy_5 ?_
  refine lv_iconst (v := 1) hx hb dX0_isCountedBy_6 (by decide) ?_
  refine lv_iload_n hx hb dX0_isCountedBy_7 rfl (lv_at hl 2 rfl) ?_
  refine lv_ishl hx hb dX0_isCountedBy_8 ?_
  refine lv_iand hx hb dX0_isCountedBy_9 ?_
  refine lv_if_eq (tgt := 17) hx hb dX0_isCountedBy_10 (by decide) (fun c10_1 => ?_) (fun c10_1 => ?_)
  · have bc10_1 := c10_1
    refine lv_iconst (v := 0) hx hb dX0_isCountedBy_17 (by decide) ?_
    exact W.zret (v := 0) (ty := .boolean) hx hb hr (by first | rfl | exact bI_nar _) (fun t ht hW => ⟨_, rfl, (by simp [cbB, bI, c10_1]), ht⟩) (fun q h => by cases h) dX0_isCountedBy_18
  · have bc10_1 := c10_1
    refine lv_iconst (v := 1) hx hb dX0_isCountedBy_13 (by decide) ?_
    refine lv_goto (tgt := 18) hx hb dX0_isCountedBy_14 (by decide) ?_
    exact W.zret (v := 1) (ty := .boolean) hx hb hr (by first | rfl | exact bI_nar _) (fun t ht hW => ⟨_, rfl, (by simp [cbB, bI, c10_1]), ht⟩) (fun q h => by cases h) dX0_isCountedBy_18

set_option maxHeartbeats 4000000 in
set_option maxRecDepth 100000 in
theorem c_middleOf (l : Launch) (a b c9 : Int32)  : Met l yX0_middleOf [.code yX0_middleOf cX0_middleOf 3 (some .int)] ({ frames := 2, cells := 0, slots := 0, locals := 61 }) (va_Pc [.int a, .int b, .int c9] (fun U => GL U)) (vp_Si (fun r => r = midV a b c9)) 0 0 NF := by
  refine k_of (by decide) (Nat.le_of_ble_eq_true rfl) (fun U h => h) ?_
  intro p e s m below meth c ls S hr hlocks hmn hB hl
  have hx := S.1
  have hb := S.2.1
  have hG : GL s := hB
  have hl : lv_has ls 3 [(0, .int a), (1, .int b), (2, .int c9)] := hl
  refine lv_iload_n hx hb dX0_middleOf_0 rfl (lv_at hl 0 rfl) ?_
  refine lv_iload_n hx hb dX0_middleOf_1 rfl (lv_at hl 1 rfl) ?_
  refine va_mmin hx hb (S.2.2.1.trans hl.1.symm) S.2.2.2.1 (S.2.2.2.2 _ m_569) (S.2.2.2.2 _ m_570) (S.2.2.2.2 _ m_28) (S.2.2.2.2 _ m_571) (Nat.le_of_ble_eq_true rfl) (Nat.le_of_ble_eq_true rfl) (Nat.le_of_ble_eq_true rfl) (Nat.le_of_ble_eq_true rfl) dX0_middleOf_2 ?_
  refine lv_iload_n hx hb dX0_middleOf_5 rfl (lv_at hl 0 rfl) ?_
  refine lv_iload_n hx hb dX0_middleOf_6 rfl (lv_at hl 1 rfl) ?_
  refine va_mmax hx hb (S.2.2.1.trans hl.1.symm) S.2.2.2.1 (S.2.2.2.2 _ m_572) (S.2.2.2.2 _ m_199) (S.2.2.2.2 _ m_28) (S.2.2.2.2 _ m_200) (Nat.le_of_ble_eq_true rfl) (Nat.le_of_ble_eq_true rfl) (Nat.le_of_ble_eq_true rfl) (Nat.le_of_ble_eq_true rfl) dX0_middleOf_7 ?_
  refine lv_iload_n hx hb dX0_middleOf_10 rfl (lv_at hl 2 rfl) ?_
  refine va_mmin hx hb (S.2.2.1.trans hl.1.symm) S.2.2.2.1 (S.2.2.2.2 _ m_569) (S.2.2.2.2 _ m_570) (S.2.2.2.2 _ m_28) (S.2.2.2.2 _ m_571) (Nat.le_of_ble_eq_true rfl) (Nat.le_of_ble_eq_true rfl) (Nat.le_of_ble_eq_true rfl) (Nat.le_of_ble_eq_true rfl) dX0_middleOf_11 ?_
  refine va_mmax hx hb (S.2.2.1.trans hl.1.symm) S.2.2.2.1 (S.2.2.2.2 _ m_572) (S.2.2.2.2 _ m_199) (S.2.2.2.2 _ m_28) (S.2.2.2.2 _ m_200) (Nat.le_of_ble_eq_true rfl) (Nat.le_of_ble_eq_true rfl) (Nat.le_of_ble_eq_true rfl) (Nat.le_of_ble_eq_true rfl) dX0_middleOf_14 ?_
  exact W.iret (v := (if (if b < a then b else a) < (if c9 < (if a < b then b else a) then c9 else (if a < b then b else a)) then (if c9 < (if a < b then b else a) then c9 else (if a < b then b else a)) else (if b < a then b else a))) hx hb hr (fun t ht hW => ⟨_, rfl, rfl, ht⟩) (fun q h => by cases h) dX0_middleOf_17

set_option maxHeartbeats 4000000 in
set_option maxRecDepth 100000 in
theorem c_latestFor (l : Launch) (G : kG) (ad : Nat → Nat) (σ : kS) (ns : Nat) (pl : Int32) (hns : σ 18 0 = nI ns) (hns4 : ns ≤ 40) : Met l yX2_latestFor [.code yX2_latestFor cX2_latestFor 3 (some .int)] ({ frames := 1, cells := 0, slots := 0, locals := 40 }) (va_Pc [.ref (ad 4), .int pl] (fun U => PX G ad σ U U.heap)) (vp_Si (fun r => r = oI (latO σ pl ns))) 0 0 NF := by
  refine k_of (by decide) (Nat.le_of_ble_eq_true rfl) (fun U h => h.2.2) ?_
  intro p e s m below meth c ls S hr hlocks hmn hB hl
  have hx := S.1
  have hb := S.2.1
  have hX : PX G ad σ s s.heap := hB
  have hl : lv_has ls 3 [(0, .ref (ad 4)), (1, .int pl)] := hl
  have L7 : ∀ (k : Nat), k ≤ ns → latO σ pl k = latO σ pl ns → ∀ ls, lv_has ls 3 [(0, .ref (ad 4)), (1, .int pl), (2, .int (nI k - 1))] → W p l e ({ frames := 1, cells := 0, slots := 0, locals := 40 } : Room) s m [.ref (ad 4), .int pl].toArray below meth c s.heap [] 0 0 (MQ below (vp_Si (fun r => r = oI (latO σ pl ns))) [.ref (ad 4), .int pl].toArray s 0 0 NF) (F0 m 7 ls []) := by
    intro k
    induction k with
    | zero =>
      intro hk hlo ls hl
      refine lv_iload_n hx hb dX2_latestFor_7 rfl (lv_at hl 2 rfl) ?_
      refine lv_if_lt (tgt := 29) hx hb dX2_latestFor_8 (by decide) (fun c8_1 => ?_) (fun c8_1 => ?_)
      · have bc8_1 := lt_nle c8_1
        refine lv_iconst (v := (-1)) hx hb dX2_latestFor_29 (by decide) ?_
        exact W.iret (v := (-1)) hx hb hr (fun t ht hW => ⟨_, rfl, (by rw [← hlo]; rfl), ht⟩) (fun q h => by cases h) dX2_latestFor_30
      · have bc8_1 := nlt_le c8_1
        exact absurd (by decide) c8_1
    | succ j ih =>
      intro hk hlo ls hl
      rw [nI_pred] at hl
      refine lv_iload_n hx hb dX2_latestFor_7 rfl (lv_at hl 2 rfl) ?_
      refine lv_if_lt (tgt := 29) hx hb dX2_latestFor_8 (by decide) (fun c8_2 => ?_) (fun c8_2 => ?_)
      · have bc8_2 := lt_nle c8_2
        exact absurd c8_2 (nI_pos (by omega))
      · have bc8_2 := nlt_le c8_2
        refine lv_aload_n hx hb dX2_latestFor_11 rfl (lv_at hl 0 rfl) ?_
        refine k_get S hX.2 hX.1 4 (C := RX2) (T := TX2) (N := 4) rfl rfl 0 (by decide) inX2 m_78 rfl dX2_latestFor_12 ?_
        refine lv_iload_n hx hb dX2_latestFor_15 rfl (lv_at hl 2 rfl) ?_
        refine k_ild S hX.2 hX.1 11 (i := j) rfl (by omega) (by decide) dX2_latestFor_16 ?_
        refine lv_iload_n hx hb dX2_latestFor_17 rfl (lv_at hl 1 rfl) ?_
        refine lv_icmp_ne (tgt := 23) hx hb dX2_latestFor_18 (by decide) (fun c18_3 => ?_) (fun c18_3 => ?_)
        · have bc18_3 := c18_3
          refine lv_iinc (v := nI j - 1) (lv' := [(2, .int (nI j - 1)), (0, .ref (ad 4)), (1, .int pl)]) hx hb dX2_latestFor_23 hl (k := 2) rfl (m1_eq _) (by decide) rfl (fun ls hl => ?_)
          refine lv_goto (tgt := 7) hx hb dX2_latestFor_26 (by decide) ?_
          exact ih (by omega) (by rw [← hlo]; simp [latO, c18_3]) ls (lv_sub hl [1, 2, 0] rfl)
        · have bc18_3 := c18_3
          refine lv_iload_n hx hb dX2_latestFor_21 rfl (lv_at hl 2 rfl) ?_
          exact W.iret (v := nI j) hx hb hr (fun t ht hW => ⟨_, rfl, (by rw [← hlo]; simp [latO, c18_3, oI]), ht⟩) (fun q h => by cases h) dX2_latestFor_22
  refine lv_aload_n hx hb dX2_latestFor_0 rfl (lv_at hl 0 rfl) ?_
  refine k_get S hX.2 hX.1 4 (C := RX2) (T := TX2) (N := 4) rfl rfl 3 (by decide) inX2 m_84 rfl dX2_latestFor_1 ?_
  refine k_eq (y := nI ns) (hns) ?_
  refine lv_iconst (v := 1) hx hb dX2_latestFor_4 (by decide) ?_
  refine lv_isub hx hb dX2_latestFor_5 ?_
  refine lv_istore_n (lv' := [(2, .int ((nI ns) - 1)), (0, .ref (ad 4)), (1, .int pl)]) hx hb dX2_latestFor_6 rfl hl (by decide) rfl (fun ls hl => ?_)
  exact L7 ns (Nat.le_refl _) rfl ls (lv_sub hl [1, 2, 0] rfl)

set_option maxHeartbeats 4000000 in
set_option maxRecDepth 100000 in
theorem c_isOpenFor (l : Launch) (G : kG) (ad : Nat → Nat) (σ : kS) (ns : Nat) (pl : Int32) (hns : σ 18 0 = nI ns) (hns4 : ns ≤ 40) : Met l yX2_isOpenFor [.code yX2_isOpenFor cX2_isOpenFor 3 (some .boolean)] ({ frames := 2, cells := 0, slots := 0, locals := 62 }) (va_Pc [.ref (ad 4), .int pl] (fun U => PX G ad σ U U.heap)) (vp_Si (fun r => r = bI (opB σ pl ns))) 0 0 NF := by
  refine k_of (by decide) (Nat.le_of_ble_eq_true rfl) (fun U h => h.2.2) ?_
  intro p e s m below meth c ls S hr hlocks hmn hB hl
  have hx := S.1
  have hb := S.2.1
  have hX : PX G ad σ s s.heap := hB
  have hl : lv_has ls 3 [(0, .ref (ad 4)), (1, .int pl)] := hl
  refine lv_aload_n hx hb dX2_isOpenFor_0 rfl (lv_at hl 0 rfl) ?_
  refine lv_iload_n hx hb dX2_isOpenFor_1 rfl (lv_at hl 1 rfl) ?_
  refine q_i (r_V S ⟨m_162, m_164, m_1, m_25, m_165⟩ ⟨rfl, by decide, by decide, by decide +kernel⟩ (c_latestFor l G ad σ ns pl hns hns4) ⟨rfl, rfl, Nat.le_of_ble_eq_true rfl, Nat.le_of_ble_eq_true rfl⟩ (pv_X hX 4 rfl rfl bl_PX (bX hX)) (n := 1) (As := [.int pl]) (rest := []) rfl hl.1 rfl (Nat.le_of_ble_eq_true rfl) ⟨Nat.le_of_ble_eq_true rfl, Nat.le_of_ble_eq_true rfl⟩ dX2_isOpenFor_2) (fun r1 (e1 : r1 = oI (latO σ pl ns)) => ?_)
  subst e1
  rcases hla : latO σ pl ns with _ | k
  · show W _ _ _ _ _ _ _ _ _ _ _ _ _ _ _ (F0 m 5 ls [.int (-1)])
    refine lv_istore_n (lv' := [(2, .int (-1)), (0, .ref (ad 4)), (1, .int pl)]) hx hb dX2_isOpenFor_5 rfl hl (by decide) rfl (fun ls hl => ?_)
    refine lv_iload_n hx hb dX2_isOpenFor_6 rfl (lv_at hl 0 rfl) ?_
    refine lv_iconst (v := (-1)) hx hb dX2_isOpenFor_7 (by decide) ?_
    refine lv_icmp_eq (tgt := 24) hx hb dX2_isOpenFor_8 (by decide) (fun c8_2 => ?_) (fun c8_2 => ?_)
    · have bc8_2 := c8_2
      refine lv_iconst (v := 0) hx hb dX2_isOpenFor_24 (by decide) ?_
      exact W.zret (v := 0) (ty := .boolean) hx hb hr (by first | rfl | exact bI_nar _) (fun t ht hW => ⟨_, rfl, (by simp [opB, bI, hla, c8_2]), ht⟩) (fun q h => by cases h) dX2_isOpenFor_25
    · have bc8_2 := c8_2
      exact absurd rfl c8_2
  · show W _ _ _ _ _ _ _ _ _ _ _ _ _ _ _ (F0 m 5 ls [.int (nI k)])
    have hkn := (latO_lt hla).1
    refine lv_istore_n (lv' := [(2, .int (nI k)), (0, .ref (ad 4)), (1, .int pl)]) hx hb dX2_isOpenFor_5 rfl hl (by decide) rfl (fun ls hl => ?_)
    refine lv_iload_n hx hb dX2_isOpenFor_6 rfl (lv_at hl 0 rfl) ?_
    refine lv_iconst (v := (-1)) hx hb dX2_isOpenFor_7 (by decide) ?_
    refine lv_icmp_eq (tgt := 24) hx hb dX2_isOpenFor_8 (by decide) (fun c8_3 => ?_) (fun c8_3 => ?_)
    · have bc8_3 := c8_3
      exact absurd c8_3 (nI_m1 (by omega))
    · have bc8_3 := c8_3
      refine lv_aload_n hx hb dX2_isOpenFor_11 rfl (lv_at hl 1 rfl) ?_
      refine k_get S hX.2 hX.1 4 (C := RX2) (T := TX2) (N := 4) rfl rfl 2 (by decide) inX2 m_82 rfl dX2_isOpenFor_12 ?_
      refine lv_iload_n hx hb dX2_isOpenFor_15 rfl (lv_at hl 0 rfl) ?_
      refine k_zld S hX.2 hX.1 13 (i := k) rfl (by omega) (by decide) dX2_isOpenFor_16 ?_
      refine lv_if_ne (tgt := 24) hx hb dX2_isOpenFor_17 (by decide) (fun c17_4 => ?_) (fun c17_4 => ?_)
      · have bc17_4 := c17_4
        refine lv_iconst (v := 0) hx hb dX2_isOpenFor_24 (by decide) ?_
        exact W.zret (v := 0) (ty := .boolean) hx hb hr (by first | rfl | exact bI_nar _) (fun t ht hW => ⟨_, rfl, (by simp [opB, bI, hla, c8_3, c17_4]), ht⟩) (fun q h => by cases h) dX2_isOpenFor_25
      · have bc17_4 := c17_4
        refine lv_iconst (v := 1) hx hb dX2_isOpenFor_20 (by decide) ?_
        refine lv_goto (tgt := 25) hx hb dX2_isOpenFor_21 (by decide) ?_
        exact W.zret (v := 1) (ty := .boolean) hx hb hr (by first | rfl | exact bI_nar _) (fun t ht hW => ⟨_, rfl, (by simp [opB, bI, hla, c8_3, c17_4]), ht⟩) (fun q h => by cases h) dX2_isOpenFor_25

set_option maxHeartbeats 4000000 in
set_option maxRecDepth 100000 in
theorem c_brought (l : Launch) (G : kG) (ad : Nat → Nat) (σ : kS) (nm : Nat) (pl ar af un : Int32) (hnm : σ 17 0 = nI nm) (hnm2 : nm ≤ 200) : Met l yX1_brought [.code yX1_brought cX1_brought 7 (some .int)] ({ frames := 1, cells := 0, slots := 0, locals := 40 }) (va_Pc [.ref (ad 3), .int pl, .int ar, .int af, .int un] (fun U => PX G ad σ U U.heap)) (vp_Si (fun r => r = brF σ pl ar af un nm)) 0 0 NF := by
  refine k_of (by decide) (Nat.le_of_ble_eq_true rfl) (fun U h => h.2.2) ?_
  intro p e s m below meth c ls S hr hlocks hmn hB hl
  have hx := S.1
  have hb := S.2.1
  have hX : PX G ad σ s s.heap := hB
  have hl : lv_has ls 7 [(0, .ref (ad 3)), (1, .int pl), (2, .int ar), (3, .int af), (4, .int un)] := hl
  have L6 : ∀ (n i : Nat), i ≤ nm → nm + 1 ≤ i + n → ∀ ls, lv_has ls 7 [(0, .ref (ad 3)), (1, .int pl), (2, .int ar), (3, .int af), (4, .int un), (5, .int (brF σ pl ar af un i)), (6, .int (nI i))] → W p l e ({ frames := 1, cells := 0, slots := 0, locals := 40 } : Room) s m [.ref (ad 3), .int pl, .int ar, .int af, .int un].toArray below meth c s.heap [] 0 0 (MQ below (vp_Si (fun r => r = brF σ pl ar af un nm)) [.ref (ad 3), .int pl, .int ar, .int af, .int un].toArray s 0 0 NF) (F0 m 6 ls []) := by
    intro n
    induction n with
    | zero =>
      intro i h1 h2
      omega
    | succ n ih =>
      intro i hi hin ls hl
      refine lv_iload hx hb dX1_brought_6 (lv_at hl 6 rfl) ?_
      refine lv_aload_n hx hb dX1_brought_8 rfl (lv_at hl 0 rfl) ?_
      refine k_get S hX.2 hX.1 3 (C := RX1) (T := TX1) (N := 6) rfl rfl 5 (by decide) inX1 m_56 rfl dX1_brought_9 ?_
      refine k_eq (y := nI nm) (hnm) ?_
      refine lv_icmp_ge (tgt := 104) hx hb dX1_brought_12 (by decide) (fun c12_1 => ?_) (fun c12_1 => ?_)
      · have bc12_1 := le_nlt c12_1
        have hge : i = nm := by
          have h9 := c12_1
          rw [nI_leI (by omega) (by omega)] at h9
          omega
        subst hge
        refine lv_iload hx hb dX1_brought_104 (lv_at hl 5 rfl) ?_
        exact W.iret (v := brF σ pl ar af un i) hx hb hr (fun t ht hW => ⟨_, rfl, rfl, ht⟩) (fun q h => by cases h) dX1_brought_106
      · have bc12_1 := nle_lt c12_1
        have hlt : i < nm := by
          have h9 := nle_lt c12_1
          rw [nI_ltI (by omega) (by omega)] at h9
          exact h9
        refine lv_aload_n hx hb dX1_brought_15 rfl (lv_at hl 0 rfl) ?_
        refine k_get S hX.2 hX.1 3 (C := RX1) (T := TX1) (N := 6) rfl rfl 2 (by decide) inX1 m_53 rfl dX1_brought_16 ?_
        refine lv_iload hx hb dX1_brought_19 (lv_at hl 6 rfl) ?_
        refine k_ild S hX.2 hX.1 8 (i := i) rfl (by omega) (by decide) dX1_brought_21 ?_
        refine lv_iload_n hx hb dX1_brought_22 rfl (lv_at hl 2 rfl) ?_
        refine lv_icmp_ne (tgt := 98) hx hb dX1_brought_23 (by decide) (fun c23_2 => ?_) (fun c23_2 => ?_)
        · have bc23_2 := c23_2
          refine lv_iinc (v := nI (i + 1)) (lv' := [(6, .int (nI (i + 1))), (0, .ref (ad 3)), (1, .int pl), (2, .int ar), (3, .int af), (4, .int un), (5, .int (brF σ pl ar af un i))]) hx hb dX1_brought_98 hl (k := 6) rfl (nI_1 i) (by decide) rfl (fun ls hl => ?_)
          refine lv_goto (tgt := 6) hx hb dX1_brought_101 (by decide) ?_
          have ev3 : brF σ pl ar af un i = brF σ pl ar af un (i + 1) := by simp [brF, brT, c12_1, bc12_1, c23_2]
          rw [ev3] at hl
          exact ih (i + 1) hlt (by omega) ls (lv_sub hl [1, 2, 3, 4, 5, 6, 0] rfl)
        · have bc23_2 := c23_2
          refine lv_aload_n hx hb dX1_brought_26 rfl (lv_at hl 0 rfl) ?_
          refine k_get S hX.2 hX.1 3 (C := RX1) (T := TX1) (N := 6) rfl rfl 4 (by decide) inX1 m_55 rfl dX1_brought_27 ?_
          refine lv_iload hx hb dX1_brought_30 (lv_at hl 6 rfl) ?_
          refine k_ild S hX.2 hX.1 10 (i := i) rfl (by omega) (by decide) dX1_brought_32 ?_
          refine lv_iload_n hx hb dX1_brought_33 rfl (lv_at hl 3 rfl) ?_
          refine lv_icmp_le (tgt := 98) hx hb dX1_brought_34 (by decide) (fun c34_4 => ?_) (fun c34_4 => ?_)
          · have bc34_4 := le_nlt c34_4
            refine lv_iinc (v := nI (i + 1)) (lv' := [(6, .int (nI (i + 1))), (0, .ref (ad 3)), (1, .int pl), (2, .int ar), (3, .int af), (4, .int un), (5, .int (brF σ pl ar af un i))]) hx hb dX1_brought_98 hl (k := 6) rfl (nI_1 i) (by decide) rfl (fun ls hl => ?_)
            refine lv_goto (tgt := 6) hx hb dX1_brought_101 (by decide) ?_
            have ev5 : brF σ pl ar af un i = brF σ pl ar af un (i + 1) := by simp [brF, brT, c12_1, bc12_1, c23_2, c34_4, bc34_4]
            rw [ev5] at hl
            exact ih (i + 1) hlt (by omega) ls (lv_sub hl [1, 2, 3, 4, 5, 6, 0] rfl)
          · have bc34_4 := nle_lt c34_4
            refine lv_aload_n hx hb dX1_brought_37 rfl (lv_at hl 0 rfl) ?_
            refine k_get S hX.2 hX.1 3 (C := RX1) (T := TX1) (N := 6) rfl rfl 4 (by decide) inX1 m_55 rfl dX1_brought_38 ?_
            refine lv_iload hx hb dX1_brought_41 (lv_at hl 6 rfl) ?_
            refine k_ild S hX.2 hX.1 10 (i := i) rfl (by omega) (by decide) dX1_brought_43 ?_
            refine lv_iload hx hb dX1_brought_44 (lv_at hl 4 rfl) ?_
            refine lv_icmp_gt (tgt := 98) hx hb dX1_brought_46 (by decide) (fun c46_6 => ?_) (fun c46_6 => ?_)
            · have bc46_6 := lt_nle c46_6
              refine lv_iinc (v := nI (i + 1)) (lv' := [(6, .int (nI (i + 1))), (0, .ref (ad 3)), (1, .int pl), (2, .int ar), (3, .int af), (4, .int un), (5, .int (brF σ pl ar af un i))]) hx hb dX1_brought_98 hl (k := 6) rfl (nI_1 i) (by decide) rfl (fun ls hl => ?_)
              refine lv_goto (tgt := 6) hx hb dX1_brought_101 (by decide) ?_
              have ev7 : brF σ pl ar af un i = brF σ pl ar af un (i + 1) := by simp [brF, brT, c12_1, bc12_1, c23_2, c34_4, bc34_4, c46_6, bc46_6]
              rw [ev7] at hl
              exact ih (i + 1) hlt (by omega) ls (lv_sub hl [1, 2, 3, 4, 5, 6, 0] rfl)
            · have bc46_6 := nlt_le c46_6
              refine lv_aload_n hx hb dX1_brought_49 rfl (lv_at hl 0 rfl) ?_
              refine k_get S hX.2 hX.1 3 (C := RX1) (T := TX1) (N := 6) rfl rfl 1 (by decide) inX1 m_52 rfl dX1_brought_50 ?_
              refine lv_iload hx hb dX1_brought_53 (lv_at hl 6 rfl) ?_
              refine k_ild S hX.2 hX.1 7 (i := i) rfl (by omega) (by decide) dX1_brought_55 ?_
              refine lv_iload_n hx hb dX1_brought_56 rfl (lv_at hl 1 rfl) ?_
              refine lv_icmp_ne (tgt := 75) hx hb dX1_brought_57 (by decide) (fun c57_8 => ?_) (fun c57_8 => ?_)
              · have bc57_8 := c57_8
                refine lv_aload_n hx hb dX1_brought_75 rfl (lv_at hl 0 rfl) ?_
                refine k_get S hX.2 hX.1 3 (C := RX1) (T := TX1) (N := 6) rfl rfl 0 (by decide) inX1 m_51 rfl dX1_brought_76 ?_
                refine lv_iload hx hb dX1_brought_79 (lv_at hl 6 rfl) ?_
                refine k_ild S hX.2 hX.1 6 (i := i) rfl (by omega) (by decide) dX1_brought_81 ?_
                refine lv_iload_n hx hb dX1_brought_82 rfl (lv_at hl 1 rfl) ?_
                refine lv_icmp_ne (tgt := 98) hx hb dX1_brought_83 (by decide) (fun c83_9 => ?_) (fun c83_9 => ?_)
                · have bc83_9 := c83_9
                  refine lv_iinc (v := nI (i + 1)) (lv' := [(6, .int (nI (i + 1))), (0, .ref (ad 3)), (1, .int pl), (2, .int ar), (3, .int af), (4, .int un), (5, .int (brF σ pl ar af un i))]) hx hb dX1_brought_98 hl (k := 6) rfl (nI_1 i) (by decide) rfl (fun ls hl => ?_)
                  refine lv_goto (tgt := 6) hx hb dX1_brought_101 (by decide) ?_
                  have ev10 : brF σ pl ar af un i = brF σ pl ar af un (i + 1) := by simp [brF, brT, c12_1, bc12_1, c23_2, c34_4, bc34_4, c46_6, bc46_6, c57_8, c83_9]
                  rw [ev10] at hl
                  exact ih (i + 1) hlt (by omega) ls (lv_sub hl [1, 2, 3, 4, 5, 6, 0] rfl)
                · have bc83_9 := c83_9
                  refine lv_iload hx hb dX1_brought_86 (lv_at hl 5 rfl) ?_
                  refine lv_aload_n hx hb dX1_brought_88 rfl (lv_at hl 0 rfl) ?_
                  refine k_get S hX.2 hX.1 3 (C := RX1) (T := TX1) (N := 6) rfl rfl 3 (by decide) inX1 m_54 rfl dX1_brought_89 ?_
                  refine lv_iload hx hb dX1_brought_92 (lv_at hl 6 rfl) ?_
                  refine k_ild S hX.2 hX.1 9 (i := i) rfl (by omega) (by decide) dX1_brought_94 ?_
                  refine lv_isub hx hb dX1_brought_95 ?_
                  refine lv_istore (lv' := [(5, .int ((brF σ pl ar af un i) - (σ 5 i))), (0, .ref (ad 3)), (1, .int pl), (2, .int ar), (3, .int af), (4, .int un), (6, .int (nI i))]) hx hb dX1_brought_96 hl (by decide) rfl (fun ls hl => ?_)
                  refine lv_iinc (v := nI (i + 1)) (lv' := [(6, .int (nI (i + 1))), (5, .int ((brF σ pl ar af un i) - (σ 5 i))), (0, .ref (ad 3)), (1, .int pl), (2, .int ar), (3, .int af), (4, .int un)]) hx hb dX1_brought_98 hl (k := 6) rfl (nI_1 i) (by decide) rfl (fun ls hl => ?_)
                  refine lv_goto (tgt := 6) hx hb dX1_brought_101 (by decide) ?_
                  have ev11 : (brF σ pl ar af un i) - (σ 5 i) = brF σ pl ar af un (i + 1) := by simp [brF, brT, c12_1, bc12_1, c23_2, c34_4, bc34_4, c46_6, bc46_6, c57_8, c83_9]
                  rw [ev11] at hl
                  exact ih (i + 1) hlt (by omega) ls (lv_sub hl [2, 3, 4, 5, 6, 1, 0] rfl)
              · have bc57_8 := c57_8
                refine lv_iload hx hb dX1_brought_60 (lv_at hl 5 rfl) ?_
                refine lv_aload_n hx hb dX1_brought_62 rfl (lv_at hl 0 rfl) ?_
                refine k_get S hX.2 hX.1 3 (C := RX1) (T := TX1) (N := 6) rfl rfl 3 (by decide) inX1 m_54 rfl dX1_brought_63 ?_
                refine lv_iload hx hb dX1_brought_66 (lv_at hl 6 rfl) ?_
                refine k_ild S hX.2 hX.1 9 (i := i) rfl (by omega) (by decide) dX1_brought_68 ?_
                refine lv_iadd hx hb dX1_brought_69 ?_
                refine lv_istore (lv' := [(5, .int ((brF σ pl ar af un i) + (σ 5 i))), (0, .ref (ad 3)), (1, .int pl), (2, .int ar), (3, .int af), (4, .int un), (6, .int (nI i))]) hx hb dX1_brought_70 hl (by decide) rfl (fun ls hl => ?_)
                refine lv_goto (tgt := 98) hx hb dX1_brought_72 (by decide) ?_
                refine lv_iinc (v := nI (i + 1)) (lv' := [(6, .int (nI (i + 1))), (5, .int ((brF σ pl ar af un i) + (σ 5 i))), (0, .ref (ad 3)), (1, .int pl), (2, .int ar), (3, .int af), (4, .int un)]) hx hb dX1_brought_98 hl (k := 6) rfl (nI_1 i) (by decide) rfl (fun ls hl => ?_)
                refine lv_goto (tgt := 6) hx hb dX1_brought_101 (by decide) ?_
                have ev12 : (brF σ pl ar af un i) + (σ 5 i) = brF σ pl ar af un (i + 1) := by simp [brF, brT, c12_1, bc12_1, c23_2, c34_4, bc34_4, c46_6, bc46_6, c57_8]
                rw [ev12] at hl
                exact ih (i + 1) hlt (by omega) ls (lv_sub hl [2, 3, 4, 5, 6, 1, 0] rfl)
  refine lv_iconst (v := 0) hx hb dX1_brought_0 (by decide) ?_
  refine lv_istore (lv' := [(5, .int 0), (0, .ref (ad 3)), (1, .int pl), (2, .int ar), (3, .int af), (4, .int un)]) hx hb dX1_brought_1 hl (by decide) rfl (fun ls hl => ?_)
  refine lv_iconst (v := 0) hx hb dX1_brought_3 (by decide) ?_
  refine lv_istore (lv' := [(6, .int 0), (5, .int 0), (0, .ref (ad 3)), (1, .int pl), (2, .int ar), (3, .int af), (4, .int un)]) hx hb dX1_brought_4 hl (by decide) rfl (fun ls hl => ?_)
  exact L6 (nm + 1) 0 (Nat.zero_le _) (by omega) ls (lv_sub hl [2, 3, 4, 5, 6, 1, 0] rfl)
end
section
set_option maxHeartbeats 4000000 in
set_option maxRecDepth 100000 in
theorem c_isStronger (l : Launch) (G : kG) (ad : Nat → Nat) (σ : kS) (a b ar : Nat) (ha : a < 40) (hb4 : b < 40) (har : ar < 5) : Met l yX3_isStronger [.code yX3_isStronger cX3_isStronger 4 (some .boolean)] ({ frames := 2, cells := 0, slots := 0, locals := 61 }) (va_Pc [.ref (ad 0), .int (nI a), .int (nI b), .int (nI ar)] (fun U => PX G ad σ U U.heap)) (vp_Si (fun r => r = bI (strB σ a b ar))) 0 0 NF := by
  refine k_of (by decide) (Nat.le_of_ble_eq_true rfl) (fun U h => h.2.2) ?_
  intro p e s m below meth c ls S hr hlocks hmn hB hl
  have hx := S.1
  have hb := S.2.1
  have hX : PX G ad σ s s.heap := hB
  have hl : lv_has ls 4 [(0, .ref (ad 0)), (1, .int (nI a)), (2, .int (nI b)), (3, .int (nI ar))] := hl
  refine lv_aload_n hx hb dX3_isStronger_0 rfl (lv_at hl 0 rfl) ?_
  refine k_get S hX.2 hX.1 0 (C := RX3) (T := TX3) (N := 6) rfl rfl 3 (by decide) inX3 m_134 rfl dX3_isStronger_1 ?_
  refine k_getN S hX.2 hX.1 4 (C := RX2) (T := TX2) (N := 4) rfl rfl 1 (by decide) inX2 n_81 rfl dX3_isStronger_4 ?_
  refine lv_iload_n hx hb dX3_isStronger_7 rfl (lv_at hl 1 rfl) ?_
  refine k_ild S hX.2 hX.1 12 (i := a) rfl (by omega) (by decide) dX3_isStronger_8 ?_
  refine lv_aload_n hx hb dX3_isStronger_9 rfl (lv_at hl 0 rfl) ?_
  refine k_get S hX.2 hX.1 0 (C := RX3) (T := TX3) (N := 6) rfl rfl 3 (by decide) inX3 m_134 rfl dX3_isStronger_10 ?_
  refine k_getN S hX.2 hX.1 4 (C := RX2) (T := TX2) (N := 4) rfl rfl 1 (by decide) inX2 n_81 rfl dX3_isStronger_13 ?_
  refine lv_iload_n hx hb dX3_isStronger_16 rfl (lv_at hl 2 rfl) ?_
  refine k_ild S hX.2 hX.1 12 (i := b) rfl (by omega) (by decide) dX3_isStronger_17 ?_
  refine lv_icmp_eq (tgt := 48) hx hb dX3_isStronger_18 (by decide) (fun c18_1 => ?_) (fun c18_1 => ?_)
  · have bc18_1 := c18_1
    refine lv_aload_n hx hb dX3_isStronger_48 rfl (lv_at hl 0 rfl) ?_
    refine k_get S hX.2 hX.1 0 (C := RX3) (T := TX3) (N := 6) rfl rfl 4 (by decide) inX3 m_135 rfl dX3_isStronger_49 ?_
    refine k_getN S hX.2 hX.1 5 (C := RX0) (T := TX0) (N := 7) rfl rfl 4 (by decide) inX0 n_111 rfl dX3_isStronger_52 ?_
    refine lv_iload_n hx hb dX3_isStronger_55 rfl (lv_at hl 1 rfl) ?_
    refine lv_iload_n hx hb dX3_isStronger_56 rfl (lv_at hl 3 rfl) ?_
    refine q_i (r_S S ⟨m_183, m_184, m_23, m_185⟩ ⟨rfl, by decide, by decide, by decide +kernel⟩ (c_lineOf l a ar) ⟨rfl, rfl, Nat.le_of_ble_eq_true rfl, Nat.le_of_ble_eq_true rfl⟩ (ps bl_GL (bG hX.2.2)) (n := 2) (As := [.int (nI a), .int (nI ar)]) (rest := [.ref (ad 18)]) rfl hl.1 rfl (Nat.le_of_ble_eq_true rfl) ⟨Nat.le_of_ble_eq_true rfl, Nat.le_of_ble_eq_true rfl⟩ dX3_isStronger_57) (fun r2 (e2 : r2 = nI (a * 5 + ar)) => ?_)
    subst e2
    refine k_ild S hX.2 hX.1 18 (i := (a * 5 + ar)) rfl (by omega) (by decide) dX3_isStronger_60 ?_
    refine lv_aload_n hx hb dX3_isStronger_61 rfl (lv_at hl 0 rfl) ?_
    refine k_get S hX.2 hX.1 0 (C := RX3) (T := TX3) (N := 6) rfl rfl 4 (by decide) inX3 m_135 rfl dX3_isStronger_62 ?_
    refine k_getN S hX.2 hX.1 5 (C := RX0) (T := TX0) (N := 7) rfl rfl 4 (by decide) inX0 n_111 rfl dX3_isStronger_65 ?_
    refine lv_iload_n hx hb dX3_isStronger_68 rfl (lv_at hl 2 rfl) ?_
    refine lv_iload_n hx hb dX3_isStronger_69 rfl (lv_at hl 3 rfl) ?_
    refine q_i (r_S S ⟨m_183, m_184, m_23, m_185⟩ ⟨rfl, by decide, by decide, by decide +kernel⟩ (c_lineOf l b ar) ⟨rfl, rfl, Nat.le_of_ble_eq_true rfl, Nat.le_of_ble_eq_true rfl⟩ (ps bl_GL (bG hX.2.2)) (n := 2) (As := [.int (nI b), .int (nI ar)]) (rest := [.ref (ad 18), .int (σ 14 (a * 5 + ar))]) rfl hl.1 rfl (Nat.le_of_ble_eq_true rfl) ⟨Nat.le_of_ble_eq_true rfl, Nat.le_of_ble_eq_true rfl⟩ dX3_isStronger_70) (fun r3 (e3 : r3 = nI (b * 5 + ar)) => ?_)
    subst e3
    refine k_ild S hX.2 hX.1 18 (i := (b * 5 + ar)) rfl (by omega) (by decide) dX3_isStronger_73 ?_
    refine lv_icmp_le (tgt := 81) hx hb dX3_isStronger_74 (by decide) (fun c74_4 => ?_) (fun c74_4 => ?_)
    · have bc74_4 := le_nlt c74_4
      refine lv_iconst (v := 0) hx hb dX3_isStronger_81 (by decide) ?_
      exact W.zret (v := 0) (ty := .boolean) hx hb hr (by first | rfl | exact bI_nar _) (fun t ht hW => ⟨_, rfl, (by simp [strB, bI, c18_1, c74_4, bc74_4]), ht⟩) (fun q h => by cases h) dX3_isStronger_82
    · have bc74_4 := nle_lt c74_4
      refine lv_iconst (v := 1) hx hb dX3_isStronger_77 (by decide) ?_
      refine lv_goto (tgt := 82) hx hb dX3_isStronger_78 (by decide) ?_
      exact W.zret (v := 1) (ty := .boolean) hx hb hr (by first | rfl | exact bI_nar _) (fun t ht hW => ⟨_, rfl, (by simp [strB, bI, c18_1, c74_4, bc74_4]), ht⟩) (fun q h => by cases h) dX3_isStronger_82
  · have bc18_1 := c18_1
    refine lv_aload_n hx hb dX3_isStronger_21 rfl (lv_at hl 0 rfl) ?_
    refine k_get S hX.2 hX.1 0 (C := RX3) (T := TX3) (N := 6) rfl rfl 3 (by decide) inX3 m_134 rfl dX3_isStronger_22 ?_
    refine k_getN S hX.2 hX.1 4 (C := RX2) (T := TX2) (N := 4) rfl rfl 1 (by decide) inX2 n_81 rfl dX3_isStronger_25 ?_
    refine lv_iload_n hx hb dX3_isStronger_28 rfl (lv_at hl 1 rfl) ?_
    refine k_ild S hX.2 hX.1 12 (i := a) rfl (by omega) (by decide) dX3_isStronger_29 ?_
    refine lv_aload_n hx hb dX3_isStronger_30 rfl (lv_at hl 0 rfl) ?_
    refine k_get S hX.2 hX.1 0 (C := RX3) (T := TX3) (N := 6) rfl rfl 3 (by decide) inX3 m_134 rfl dX3_isStronger_31 ?_
    refine k_getN S hX.2 hX.1 4 (C := RX2) (T := TX2) (N := 4) rfl rfl 1 (by decide) inX2 n_81 rfl dX3_isStronger_34 ?_
    refine lv_iload_n hx hb dX3_isStronger_37 rfl (lv_at hl 2 rfl) ?_
    refine k_ild S hX.2 hX.1 12 (i := b) rfl (by omega) (by decide) dX3_isStronger_38 ?_
    refine lv_icmp_le (tgt := 46) hx hb dX3_isStronger_39 (by decide) (fun c39_5 => ?_) (fun c39_5 => ?_)
    · have bc39_5 := le_nlt c39_5
      refine lv_iconst (v := 0) hx hb dX3_isStronger_46 (by decide) ?_
      exact W.zret (v := 0) (ty := .boolean) hx hb hr (by first | rfl | exact bI_nar _) (fun t ht hW => ⟨_, rfl, (by simp [strB, bI, c18_1, c39_5, bc39_5]), ht⟩) (fun q h => by cases h) dX3_isStronger_47
    · have bc39_5 := nle_lt c39_5
      refine lv_iconst (v := 1) hx hb dX3_isStronger_42 (by decide) ?_
      refine lv_goto (tgt := 47) hx hb dX3_isStronger_43 (by decide) ?_
      exact W.zret (v := 1) (ty := .boolean) hx hb hr (by first | rfl | exact bI_nar _) (fun t ht hW => ⟨_, rfl, (by simp [strB, bI, c18_1, c39_5, bc39_5]), ht⟩) (fun q h => by cases h) dX3_isStronger_47

set_option maxHeartbeats 4000000 in
set_option maxRecDepth 100000 in
theorem c_signedSheetFor (l : Launch) (G : kG) (ad : Nat → Nat) (σ : kS) (ns : Nat) (pl : Int32) (ar : Nat) (mi : Int32) (hns : σ 18 0 = nI ns) (hns4 : ns ≤ 40) (har : ar < 5) : Met l yX3_signedSheetFor [.code yX3_signedSheetFor cX3_signedSheetFor 6 (some .int)] ({ frames := 3, cells := 0, slots := 0, locals := 84 }) (va_Pc [.ref (ad 0), .int pl, .int (nI ar), .int mi] (fun U => PX G ad σ U U.heap)) (vp_Si (fun r => r = oI (ssO σ pl ar mi ns))) 0 0 NF := by
  refine k_of (by decide) (Nat.le_of_ble_eq_true rfl) (fun U h => h.2.2) ?_
  intro p e s m below meth c ls S hr hlocks hmn hB hl
  have hx := S.1
  have hb := S.2.1
  have hX : PX G ad σ s s.heap := hB
  have hl : lv_has ls 6 [(0, .ref (ad 0)), (1, .int pl), (2, .int (nI ar)), (3, .int mi)] := hl
  have L6 : ∀ (n i : Nat), i ≤ ns → ns + 1 ≤ i + n → ∀ ls, lv_has ls 6 [(0, .ref (ad 0)), (1, .int pl), (2, .int (nI ar)), (3, .int mi), (4, .int (oI (ssO σ pl ar mi i))), (5, .int (nI i))] → W p l e ({ frames := 3, cells := 0, slots := 0, locals := 84 } : Room) s m [.ref (ad 0), .int pl, .int (nI ar), .int mi].toArray below meth c s.heap [] 0 0 (MQ below (vp_Si (fun r => r = oI (ssO σ pl ar mi ns))) [.ref (ad 0), .int pl, .int (nI ar), .int mi].toArray s 0 0 NF) (F0 m 6 ls []) := by
    intro n
    induction n with
    | zero =>
      intro i h1 h2
      omega
    | succ n ih =>
      intro i hi hin ls hl
      obtain ⟨o, ho⟩ : ∃ o, o = ssO σ pl ar mi i := ⟨_, rfl⟩
      rw [← ho] at hl
      rcases o with _ | b
      · have hl : lv_has ls 6 [(0, .ref (ad 0)), (1, .int pl), (2, .int (nI ar)), (3, .int mi), (4, .int (-1)), (5, .int (nI i))] := hl
        refine lv_iload hx hb dX3_signedSheetFor_6 (lv_at hl 5 rfl) ?_
        refine lv_aload_n hx hb dX3_signedSheetFor_8 rfl (lv_at hl 0 rfl) ?_
        refine k_get S hX.2 hX.1 0 (C := RX3) (T := TX3) (N := 6) rfl rfl 3 (by decide) inX3 m_134 rfl dX3_signedSheetFor_9 ?_
        refine k_getN S hX.2 hX.1 4 (C := RX2) (T := TX2) (N := 4) rfl rfl 3 (by decide) inX2 n_85 rfl dX3_signedSheetFor_12 ?_
        refine k_eq (y := nI ns) (hns) ?_
        refine lv_icmp_ge (tgt := 90) hx hb dX3_signedSheetFor_15 (by decide) (fun c15_1 => ?_) (fun c15_1 => ?_)
        · have bc15_1 := le_nlt c15_1
          have hge : i = ns := by
            have h9 := c15_1
            rw [nI_leI (by omega) (by omega)] at h9
            omega
          subst hge
          refine lv_iload hx hb dX3_signedSheetFor_90 (lv_at hl 4 rfl) ?_
          exact W.iret (v := (-1)) hx hb hr (fun t ht hW => ⟨_, rfl, (by rw [← ho]; rfl), ht⟩) (fun q h => by cases h) dX3_signedSheetFor_92
        · have bc15_1 := nle_lt c15_1
          have hlt : i < ns := by
            have h9 := nle_lt c15_1
            rw [nI_ltI (by omega) (by omega)] at h9
            exact h9
          refine lv_aload_n hx hb dX3_signedSheetFor_18 rfl (lv_at hl 0 rfl) ?_
          refine k_get S hX.2 hX.1 0 (C := RX3) (T := TX3) (N := 6) rfl rfl 3 (by decide) inX3 m_134 rfl dX3_signedSheetFor_19 ?_
          refine k_getN S hX.2 hX.1 4 (C := RX2) (T := TX2) (N := 4) rfl rfl 0 (by decide) inX2 n_79 rfl dX3_signedSheetFor_22 ?_
          refine lv_iload hx hb dX3_signedSheetFor_25 (lv_at hl 5 rfl) ?_
          refine k_ild S hX.2 hX.1 11 (i := i) rfl (by omega) (by decide) dX3_signedSheetFor_27 ?_
          refine lv_iload_n hx hb dX3_signedSheetFor_28 rfl (lv_at hl 1 rfl) ?_
          refine lv_icmp_ne (tgt := 84) hx hb dX3_signedSheetFor_29 (by decide) (fun c29_2 => ?_) (fun c29_2 => ?_)
          · have bc29_2 := c29_2
            refine lv_iinc (v := nI (i + 1)) (lv' := [(5, .int (nI (i + 1))), (0, .ref (ad 0)), (1, .int pl), (2, .int (nI ar)), (3, .int mi), (4, .int (-1))]) hx hb dX3_signedSheetFor_84 hl (k := 5) rfl (nI_1 i) (by decide) rfl (fun ls hl => ?_)
            refine lv_goto (tgt := 6) hx hb dX3_signedSheetFor_87 (by decide) ?_
            have ev3 : (-1) = oI (ssO σ pl ar mi (i + 1)) := by simp [ssO, ssT, ← ho, oI, c15_1, bc15_1, c29_2]
            rw [ev3] at hl
            exact ih (i + 1) hlt (by omega) ls (lv_sub hl [1, 2, 3, 4, 5, 0] rfl)
          · have bc29_2 := c29_2
            refine lv_aload_n hx hb dX3_signedSheetFor_32 rfl (lv_at hl 0 rfl) ?_
            refine k_get S hX.2 hX.1 0 (C := RX3) (T := TX3) (N := 6) rfl rfl 3 (by decide) inX3 m_134 rfl dX3_signedSheetFor_33 ?_
            refine k_getN S hX.2 hX.1 4 (C := RX2) (T := TX2) (N := 4) rfl rfl 1 (by decide) inX2 n_81 rfl dX3_signedSheetFor_36 ?_
            refine lv_iload hx hb dX3_signedSheetFor_39 (lv_at hl 5 rfl) ?_
            refine k_ild S hX.2 hX.1 12 (i := i) rfl (by omega) (by decide) dX3_signedSheetFor_41 ?_
            refine lv_iload_n hx hb dX3_signedSheetFor_42 rfl (lv_at hl 3 rfl) ?_
            refine lv_icmp_gt (tgt := 84) hx hb dX3_signedSheetFor_43 (by decide) (fun c43_4 => ?_) (fun c43_4 => ?_)
            · have bc43_4 := lt_nle c43_4
              refine lv_iinc (v := nI (i + 1)) (lv' := [(5, .int (nI (i + 1))), (0, .ref (ad 0)), (1, .int pl), (2, .int (nI ar)), (3, .int mi), (4, .int (-1))]) hx hb dX3_signedSheetFor_84 hl (k := 5) rfl (nI_1 i) (by decide) rfl (fun ls hl => ?_)
              refine lv_goto (tgt := 6) hx hb dX3_signedSheetFor_87 (by decide) ?_
              have ev5 : (-1) = oI (ssO σ pl ar mi (i + 1)) := by simp [ssO, ssT, ← ho, oI, c15_1, bc15_1, c29_2, c43_4, bc43_4]
              rw [ev5] at hl
              exact ih (i + 1) hlt (by omega) ls (lv_sub hl [1, 2, 3, 4, 5, 0] rfl)
            · have bc43_4 := nlt_le c43_4
              refine lv_aload_n hx hb dX3_signedSheetFor_46 rfl (lv_at hl 0 rfl) ?_
              refine k_get S hX.2 hX.1 0 (C := RX3) (T := TX3) (N := 6) rfl rfl 4 (by decide) inX3 m_135 rfl dX3_signedSheetFor_47 ?_
              refine lv_iload hx hb dX3_signedSheetFor_50 (lv_at hl 5 rfl) ?_
              refine lv_iload_n hx hb dX3_signedSheetFor_52 rfl (lv_at hl 2 rfl) ?_
              refine q_i (r_S S ⟨m_183, m_184, m_23, m_185⟩ ⟨rfl, by decide, by decide, by decide +kernel⟩ (c_lineOf l i ar) ⟨rfl, rfl, Nat.le_of_ble_eq_true rfl, Nat.le_of_ble_eq_true rfl⟩ (ps bl_GL (bG hX.2.2)) (n := 2) (As := [.int (nI i), .int (nI ar)]) (rest := [.ref (ad 5)]) rfl hl.1 rfl (Nat.le_of_ble_eq_true rfl) ⟨Nat.le_of_ble_eq_true rfl, Nat.le_of_ble_eq_true rfl⟩ dX3_signedSheetFor_53) (fun r6 (e6 : r6 = nI (i * 5 + ar)) => ?_)
              subst e6
              refine q_i (r_VN S hX.2.2 ⟨n_186, m_188, m_6, m_26, m_189⟩ ⟨rfl, by decide, by decide, by decide +kernel⟩ (c_hasSign l G ad σ (i * 5 + ar) (by omega)) ⟨rfl, rfl, Nat.le_of_ble_eq_true rfl, Nat.le_of_ble_eq_true rfl⟩ (pv_X hX 5 rfl rfl bl_PX (bX hX)) (n := 1) (As := [.int (nI (i * 5 + ar))]) (rest := []) rfl hl.1 rfl (Nat.le_of_ble_eq_true rfl) ⟨Nat.le_of_ble_eq_true rfl, Nat.le_of_ble_eq_true rfl⟩ dX3_signedSheetFor_56) (fun r7 (e7 : r7 = bI (hsB σ (i * 5 + ar))) => ?_)
              subst e7
              refine lv_if_eq (tgt := 84) hx hb dX3_signedSheetFor_59 (by decide) (fun c59_8 => ?_) (fun c59_8 => ?_)
              · have bc59_8 := bI_0 c59_8
                refine lv_iinc (v := nI (i + 1)) (lv' := [(5, .int (nI (i + 1))), (0, .ref (ad 0)), (1, .int pl), (2, .int (nI ar)), (3, .int mi), (4, .int (-1))]) hx hb dX3_signedSheetFor_84 hl (k := 5) rfl (nI_1 i) (by decide) rfl (fun ls hl => ?_)
                refine lv_goto (tgt := 6) hx hb dX3_signedSheetFor_87 (by decide) ?_
                have ev9 : (-1) = oI (ssO σ pl ar mi (i + 1)) := by simp [ssO, ssT, ← ho, oI, c15_1, bc15_1, c29_2, c43_4, bc43_4, bc59_8]
                rw [ev9] at hl
                exact ih (i + 1) hlt (by omega) ls (lv_sub hl [1, 2, 3, 4, 5, 0] rfl)
              · have bc59_8 := bI_n c59_8
                refine lv_iload hx hb dX3_signedSheetFor_62 (lv_at hl 4 rfl) ?_
                refine lv_iconst (v := (-1)) hx hb dX3_signedSheetFor_64 (by decide) ?_
                refine lv_icmp_eq (tgt := 80) hx hb dX3_signedSheetFor_65 (by decide) (fun c65_10 => ?_) (fun c65_10 => ?_)
                · have bc65_10 := c65_10
                  refine lv_iload hx hb dX3_signedSheetFor_80 (lv_at hl 5 rfl) ?_
                  refine lv_istore (lv' := [(4, .int (nI i)), (0, .ref (ad 0)), (1, .int pl), (2, .int (nI ar)), (3, .int mi), (5, .int (nI i))]) hx hb dX3_signedSheetFor_82 hl (by decide) rfl (fun ls hl => ?_)
                  refine lv_iinc (v := nI (i + 1)) (lv' := [(5, .int (nI (i + 1))), (4, .int (nI i)), (0, .ref (ad 0)), (1, .int pl), (2, .int (nI ar)), (3, .int mi)]) hx hb dX3_signedSheetFor_84 hl (k := 5) rfl (nI_1 i) (by decide) rfl (fun ls hl => ?_)
                  refine lv_goto (tgt := 6) hx hb dX3_signedSheetFor_87 (by decide) ?_
                  have ev11 : nI i = oI (ssO σ pl ar mi (i + 1)) := by simp [ssO, ssT, ← ho, oI, c15_1, bc15_1, c29_2, c43_4, bc43_4, bc59_8, c65_10]
                  rw [ev11] at hl
                  exact ih (i + 1) hlt (by omega) ls (lv_sub hl [2, 3, 4, 5, 1, 0] rfl)
                · have bc65_10 := c65_10
                  exact absurd rfl c65_10
      · have hl : lv_has ls 6 [(0, .ref (ad 0)), (1, .int pl), (2, .int (nI ar)), (3, .int mi), (4, .int (nI b)), (5, .int (nI i))] := hl
        have hbi := ssO_lt ho.symm
        refine lv_iload hx hb dX3_signedSheetFor_6 (lv_at hl 5 rfl) ?_
        refine lv_aload_n hx hb dX3_signedSheetFor_8 rfl (lv_at hl 0 rfl) ?_
        refine k_get S hX.2 hX.1 0 (C := RX3) (T := TX3) (N := 6) rfl rfl 3 (by decide) inX3 m_134 rfl dX3_signedSheetFor_9 ?_
        refine k_getN S hX.2 hX.1 4 (C := RX2) (T := TX2) (N := 4) rfl rfl 3 (by decide) inX2 n_85 rfl dX3_signedSheetFor_12 ?_
        refine k_eq (y := nI ns) (hns) ?_
        refine lv_icmp_ge (tgt := 90) hx hb dX3_signedSheetFor_15 (by decide) (fun c15_12 => ?_) (fun c15_12 => ?_)
        · have bc15_12 := le_nlt c15_12
          have hge : i = ns := by
            have h9 := c15_12
            rw [nI_leI (by omega) (by omega)] at h9
            omega
          subst hge
          refine lv_iload hx hb dX3_signedSheetFor_90 (lv_at hl 4 rfl) ?_
          exact W.iret (v := nI b) hx hb hr (fun t ht hW => ⟨_, rfl, (by rw [← ho]; rfl), ht⟩) (fun q h => by cases h) dX3_signedSheetFor_92
        · have bc15_12 := nle_lt c15_12
          have hlt : i < ns := by
            have h9 := nle_lt c15_12
            rw [nI_ltI (by omega) (by omega)] at h9
            exact h9
          refine lv_aload_n hx hb dX3_signedSheetFor_18 rfl (lv_at hl 0 rfl) ?_
          refine k_get S hX.2 hX.1 0 (C := RX3) (T := TX3) (N := 6) rfl rfl 3 (by decide) inX3 m_134 rfl dX3_signedSheetFor_19 ?_
          refine k_getN S hX.2 hX.1 4 (C := RX2) (T := TX2) (N := 4) rfl rfl 0 (by decide) inX2 n_79 rfl dX3_signedSheetFor_22 ?_
          refine lv_iload hx hb dX3_signedSheetFor_25 (lv_at hl 5 rfl) ?_
          refine k_ild S hX.2 hX.1 11 (i := i) rfl (by omega) (by decide) dX3_signedSheetFor_27 ?_
          refine lv_iload_n hx hb dX3_signedSheetFor_28 rfl (lv_at hl 1 rfl) ?_
          refine lv_icmp_ne (tgt := 84) hx hb dX3_signedSheetFor_29 (by decide) (fun c29_13 => ?_) (fun c29_13 => ?_)
          · have bc29_13 := c29_13
            refine lv_iinc (v := nI (i + 1)) (lv' := [(5, .int (nI (i + 1))), (0, .ref (ad 0)), (1, .int pl), (2, .int (nI ar)), (3, .int mi), (4, .int (nI b))]) hx hb dX3_signedSheetFor_84 hl (k := 5) rfl (nI_1 i) (by decide) rfl (fun ls hl => ?_)
            refine lv_goto (tgt := 6) hx hb dX3_signedSheetFor_87 (by decide) ?_
            have ev14 : nI b = oI (ssO σ pl ar mi (i + 1)) := by simp [ssO, ssT, ← ho, oI, c15_12, bc15_12, c29_13]
            rw [ev14] at hl
            exact ih (i + 1) hlt (by omega) ls (lv_sub hl [1, 2, 3, 4, 5, 0] rfl)
          · have bc29_13 := c29_13
            refine lv_aload_n hx hb dX3_signedSheetFor_32 rfl (lv_at hl 0 rfl) ?_
            refine k_get S hX.2 hX.1 0 (C := RX3) (T := TX3) (N := 6) rfl rfl 3 (by decide) inX3 m_134 rfl dX3_signedSheetFor_33 ?_
            refine k_getN S hX.2 hX.1 4 (C := RX2) (T := TX2) (N := 4) rfl rfl 1 (by decide) inX2 n_81 rfl dX3_signedSheetFor_36 ?_
            refine lv_iload hx hb dX3_signedSheetFor_39 (lv_at hl 5 rfl) ?_
            refine k_ild S hX.2 hX.1 12 (i := i) rfl (by omega) (by decide) dX3_signedSheetFor_41 ?_
            refine lv_iload_n hx hb dX3_signedSheetFor_42 rfl (lv_at hl 3 rfl) ?_
            refine lv_icmp_gt (tgt := 84) hx hb dX3_signedSheetFor_43 (by decide) (fun c43_15 => ?_) (fun c43_15 => ?_)
            · have bc43_15 := lt_nle c43_15
              refine lv_iinc (v := nI (i + 1)) (lv' := [(5, .int (nI (i + 1))), (0, .ref (ad 0)), (1, .int pl), (2, .int (nI ar)), (3, .int mi), (4, .int (nI b))]) hx hb dX3_signedSheetFor_84 hl (k := 5) rfl (nI_1 i) (by decide) rfl (fun ls hl => ?_)
              refine lv_goto (tgt := 6) hx hb dX3_signedSheetFor_87 (by decide) ?_
              have ev16 : nI b = oI (ssO σ pl ar mi (i + 1)) := by simp [ssO, ssT, ← ho, oI, c15_12, bc15_12, c29_13, c43_15, bc43_15]
              rw [ev16] at hl
              exact ih (i + 1) hlt (by omega) ls (lv_sub hl [1, 2, 3, 4, 5, 0] rfl)
            · have bc43_15 := nlt_le c43_15
              refine lv_aload_n hx hb dX3_signedSheetFor_46 rfl (lv_at hl 0 rfl) ?_
              refine k_get S hX.2 hX.1 0 (C := RX3) (T := TX3) (N := 6) rfl rfl 4 (by decide) inX3 m_135 rfl dX3_signedSheetFor_47 ?_
              refine lv_iload hx hb dX3_signedSheetFor_50 (lv_at hl 5 rfl) ?_
              refine lv_iload_n hx hb dX3_signedSheetFor_52 rfl (lv_at hl 2 rfl) ?_
              refine q_i (r_S S ⟨m_183, m_184, m_23, m_185⟩ ⟨rfl, by decide, by decide, by decide +kernel⟩ (c_lineOf l i ar) ⟨rfl, rfl, Nat.le_of_ble_eq_true rfl, Nat.le_of_ble_eq_true rfl⟩ (ps bl_GL (bG hX.2.2)) (n := 2) (As := [.int (nI i), .int (nI ar)]) (rest := [.ref (ad 5)]) rfl hl.1 rfl (Nat.le_of_ble_eq_true rfl) ⟨Nat.le_of_ble_eq_true rfl, Nat.le_of_ble_eq_true rfl⟩ dX3_signedSheetFor_53) (fun r17 (e17 : r17 = nI (i * 5 + ar)) => ?_)
              subst e17
              refine q_i (r_VN S hX.2.2 ⟨n_186, m_188, m_6, m_26, m_189⟩ ⟨rfl, by decide, by decide, by decide +kernel⟩ (c_hasSign l G ad σ (i * 5 + ar) (by omega)) ⟨rfl, rfl, Nat.le_of_ble_eq_true rfl, Nat.le_of_ble_eq_true rfl⟩ (pv_X hX 5 rfl rfl bl_PX (bX hX)) (n := 1) (As := [.int (nI (i * 5 + ar))]) (rest := []) rfl hl.1 rfl (Nat.le_of_ble_eq_true rfl) ⟨Nat.le_of_ble_eq_true rfl, Nat.le_of_ble_eq_true rfl⟩ dX3_signedSheetFor_56) (fun r18 (e18 : r18 = bI (hsB σ (i * 5 + ar))) => ?_)
              subst e18
              refine lv_if_eq (tgt := 84) hx hb dX3_signedSheetFor_59 (by decide) (fun c59_19 => ?_) (fun c59_19 => ?_)
              · have bc59_19 := bI_0 c59_19
                refine lv_iinc (v := nI (i + 1)) (lv' := [(5, .int (nI (i + 1))), (0, .ref (ad 0)), (1, .int pl), (2, .int (nI ar)), (3, .int mi), (4, .int (nI b))]) hx hb dX3_signedSheetFor_84 hl (k := 5) rfl (nI_1 i) (by decide) rfl (fun ls hl => ?_)
                refine lv_goto (tgt := 6) hx hb dX3_signedSheetFor_87 (by decide) ?_
                have ev20 : nI b = oI (ssO σ pl ar mi (i + 1)) := by simp [ssO, ssT, ← ho, oI, c15_12, bc15_12, c29_13, c43_15, bc43_15, bc59_19]
                rw [ev20] at hl
                exact ih (i + 1) hlt (by omega) ls (lv_sub hl [1, 2, 3, 4, 5, 0] rfl)
              · have bc59_19 := bI_n c59_19
                refine lv_iload hx hb dX3_signedSheetFor_62 (lv_at hl 4 rfl) ?_
                refine lv_iconst (v := (-1)) hx hb dX3_signedSheetFor_64 (by decide) ?_
                refine lv_icmp_eq (tgt := 80) hx hb dX3_signedSheetFor_65 (by decide) (fun c65_21 => ?_) (fun c65_21 => ?_)
                · have bc65_21 := c65_21
                  exact absurd c65_21 (nI_m1 (by omega))
                · have bc65_21 := c65_21
                  refine lv_aload_n hx hb dX3_signedSheetFor_68 rfl (lv_at hl 0 rfl) ?_
                  refine lv_iload hx hb dX3_signedSheetFor_69 (lv_at hl 5 rfl) ?_
                  refine lv_iload hx hb dX3_signedSheetFor_71 (lv_at hl 4 rfl) ?_
                  refine lv_iload_n hx hb dX3_signedSheetFor_73 rfl (lv_at hl 2 rfl) ?_
                  refine q_i (r_V S ⟨m_190, m_192, m_7, m_23, m_193⟩ ⟨rfl, by decide, by decide, by decide +kernel⟩ (c_isStronger l G ad σ i b ar (by omega) (by omega) (by omega)) ⟨rfl, rfl, Nat.le_of_ble_eq_true rfl, Nat.le_of_ble_eq_true rfl⟩ (pv_X hX 0 rfl rfl bl_PX (bX hX)) (n := 3) (As := [.int (nI i), .int (nI b), .int (nI ar)]) (rest := []) rfl hl.1 rfl (Nat.le_of_ble_eq_true rfl) ⟨Nat.le_of_ble_eq_true rfl, Nat.le_of_ble_eq_true rfl⟩ dX3_signedSheetFor_74) (fun r22 (e22 : r22 = bI (strB σ i b ar)) => ?_)
                  subst e22
                  refine lv_if_eq (tgt := 84) hx hb dX3_signedSheetFor_77 (by decide) (fun c77_23 => ?_) (fun c77_23 => ?_)
                  · have bc77_23 := bI_0 c77_23
                    refine lv_iinc (v := nI (i + 1)) (lv' := [(5, .int (nI (i + 1))), (0, .ref (ad 0)), (1, .int pl), (2, .int (nI ar)), (3, .int mi), (4, .int (nI b))]) hx hb dX3_signedSheetFor_84 hl (k := 5) rfl (nI_1 i) (by decide) rfl (fun ls hl => ?_)
                    refine lv_goto (tgt := 6) hx hb dX3_signedSheetFor_87 (by decide) ?_
                    have ev24 : nI b = oI (ssO σ pl ar mi (i + 1)) := by simp [ssO, ssT, ← ho, oI, c15_12, bc15_12, c29_13, c43_15, bc43_15, bc59_19, c65_21, bc77_23]
                    rw [ev24] at hl
                    exact ih (i + 1) hlt (by omega) ls (lv_sub hl [1, 2, 3, 4, 5, 0] rfl)
                  · have bc77_23 := bI_n c77_23
                    refine lv_iload hx hb dX3_signedSheetFor_80 (lv_at hl 5 rfl) ?_
                    refine lv_istore (lv' := [(4, .int (nI i)), (0, .ref (ad 0)), (1, .int pl), (2, .int (nI ar)), (3, .int mi), (5, .int (nI i))]) hx hb dX3_signedSheetFor_82 hl (by decide) rfl (fun ls hl => ?_)
                    refine lv_iinc (v := nI (i + 1)) (lv' := [(5, .int (nI (i + 1))), (4, .int (nI i)), (0, .ref (ad 0)), (1, .int pl), (2, .int (nI ar)), (3, .int mi)]) hx hb dX3_signedSheetFor_84 hl (k := 5) rfl (nI_1 i) (by decide) rfl (fun ls hl => ?_)
                    refine lv_goto (tgt := 6) hx hb dX3_signedSheetFor_87 (by decide) ?_
                    have ev25 : nI i = oI (ssO σ pl ar mi (i + 1)) := by simp [ssO, ssT, ← ho, oI, c15_12, bc15_12, c29_13, c43_15, bc43_15, bc59_19, c65_21, bc77_23]
                    rw [ev25] at hl
                    exact ih (i + 1) hlt (by omega) ls (lv_sub hl [2, 3, 4, 5, 1, 0] rfl)
  refine lv_iconst (v := (-1)) hx hb dX3_signedSheetFor_0 (by decide) ?_
  refine lv_istore (lv' := [(4, .int (-1)), (0, .ref (ad 0)), (1, .int pl), (2, .int (nI ar)), (3, .int mi)]) hx hb dX3_signedSheetFor_1 hl (by decide) rfl (fun ls hl => ?_)
  refine lv_iconst (v := 0) hx hb dX3_signedSheetFor_3 (by decide) ?_
  refine lv_istore (lv' := [(5, .int 0), (4, .int (-1)), (0, .ref (ad 0)), (1, .int pl), (2, .int (nI ar)), (3, .int mi)]) hx hb dX3_signedSheetFor_4 hl (by decide) rfl (fun ls hl => ?_)
  exact L6 (ns + 1) 0 (Nat.zero_le _) (by omega) ls (lv_sub hl [2, 3, 4, 5, 1, 0] rfl)

set_option maxHeartbeats 4000000 in
set_option maxRecDepth 100000 in
theorem c_bookOf (l : Launch) (G : kG) (ad : Nat → Nat) (σ : kS) (nm ns : Nat) (pl : Int32) (ar : Nat) (mi : Int32) (hns : σ 18 0 = nI ns) (hns4 : ns ≤ 40) (hnm : σ 17 0 = nI nm) (hnm2 : nm ≤ 200) (har : ar < 5) : Met l yX3_bookOf [.code yX3_bookOf cX3_bookOf 6 (some .int)] ({ frames := 4, cells := 0, slots := 0, locals := 109 }) (va_Pc [.ref (ad 0), .int pl, .int (nI ar), .int mi] (fun U => PX G ad σ U U.heap)) (vp_Si (fun r => r = boV σ nm ns pl ar mi)) 0 0 NF := by
  refine k_of (by decide) (Nat.le_of_ble_eq_true rfl) (fun U h => h.2.2) ?_
  intro p e s m below meth c ls S hr hlocks hmn hB hl
  have hx := S.1
  have hb := S.2.1
  have hX : PX G ad σ s s.heap := hB
  have hl : lv_has ls 6 [(0, .ref (ad 0)), (1, .int pl), (2, .int (nI ar)), (3, .int mi)] := hl
  refine lv_aload_n hx hb dX3_bookOf_0 rfl (lv_at hl 0 rfl) ?_
  refine lv_iload_n hx hb dX3_bookOf_1 rfl (lv_at hl 1 rfl) ?_
  refine lv_iload_n hx hb dX3_bookOf_2 rfl (lv_at hl 2 rfl) ?_
  refine lv_iload_n hx hb dX3_bookOf_3 rfl (lv_at hl 3 rfl) ?_
  refine q_i (r_V S ⟨m_179, m_181, m_5, m_23, m_182⟩ ⟨rfl, by decide, by decide, by decide +kernel⟩ (c_signedSheetFor l G ad σ ns pl ar mi hns hns4 (by omega)) ⟨rfl, rfl, Nat.le_of_ble_eq_true rfl, Nat.le_of_ble_eq_true rfl⟩ (pv_X hX 0 rfl rfl bl_PX (bX hX)) (n := 3) (As := [.int pl, .int (nI ar), .int mi]) (rest := []) rfl hl.1 rfl (Nat.le_of_ble_eq_true rfl) ⟨Nat.le_of_ble_eq_true rfl, Nat.le_of_ble_eq_true rfl⟩ dX3_bookOf_4) (fun r1 (e1 : r1 = oI (ssO σ pl ar mi ns)) => ?_)
  subst e1
  rcases hss : ssO σ pl ar mi ns with _ | k
  · show W _ _ _ _ _ _ _ _ _ _ _ _ _ _ _ (F0 m 7 ls [.int (-1)])
    refine lv_istore (lv' := [(4, .int (-1)), (0, .ref (ad 0)), (1, .int pl), (2, .int (nI ar)), (3, .int mi)]) hx hb dX3_bookOf_7 hl (by decide) rfl (fun ls hl => ?_)
    refine lv_iload hx hb dX3_bookOf_9 (lv_at hl 0 rfl) ?_
    refine lv_iconst (v := (-1)) hx hb dX3_bookOf_11 (by decide) ?_
    refine lv_icmp_ne (tgt := 27) hx hb dX3_bookOf_12 (by decide) (fun c12_2 => ?_) (fun c12_2 => ?_)
    · have bc12_2 := c12_2
      exact absurd rfl c12_2
    · have bc12_2 := c12_2
      refine lv_aload_n hx hb dX3_bookOf_15 rfl (lv_at hl 1 rfl) ?_
      refine k_get S hX.2 hX.1 0 (C := RX3) (T := TX3) (N := 6) rfl rfl 2 (by decide) inX3 m_133 rfl dX3_bookOf_16 ?_
      refine lv_iload_n hx hb dX3_bookOf_19 rfl (lv_at hl 2 rfl) ?_
      refine lv_iload_n hx hb dX3_bookOf_20 rfl (lv_at hl 3 rfl) ?_
      refine lv_iconst (v := (-1)) hx hb dX3_bookOf_21 (by decide) ?_
      refine lv_iload_n hx hb dX3_bookOf_22 rfl (lv_at hl 4 rfl) ?_
      refine q_i (r_VN S hX.2.2 ⟨n_194, m_196, m_8, m_24, m_197⟩ ⟨rfl, by decide, by decide, by decide +kernel⟩ (c_brought l G ad σ nm pl (nI ar) (-1) mi hnm hnm2) ⟨rfl, rfl, Nat.le_of_ble_eq_true rfl, Nat.le_of_ble_eq_true rfl⟩ (pv_X hX 3 rfl rfl bl_PX (bX hX)) (n := 4) (As := [.int pl, .int (nI ar), .int (-1), .int mi]) (rest := []) rfl hl.1 rfl (Nat.le_of_ble_eq_true rfl) ⟨Nat.le_of_ble_eq_true rfl, Nat.le_of_ble_eq_true rfl⟩ dX3_bookOf_23) (fun r3 (e3 : r3 = brF σ pl (nI ar) (-1) mi nm) => ?_)
      subst e3
      exact W.iret (v := brF σ pl (nI ar) (-1) mi nm) hx hb hr (fun t ht hW => ⟨_, rfl, (by simp [boV, hss, c12_2]), ht⟩) (fun q h => by cases h) dX3_bookOf_26
  · show W _ _ _ _ _ _ _ _ _ _ _ _ _ _ _ (F0 m 7 ls [.int (nI k)])
    have hkn := ssO_lt hss
    refine lv_istore (lv' := [(4, .int (nI k)), (0, .ref (ad 0)), (1, .int pl), (2, .int (nI ar)), (3, .int mi)]) hx hb dX3_bookOf_7 hl (by decide) rfl (fun ls hl => ?_)
    refine lv_iload hx hb dX3_bookOf_9 (lv_at hl 0 rfl) ?_
    refine lv_iconst (v := (-1)) hx hb dX3_bookOf_11 (by decide) ?_
    refine lv_icmp_ne (tgt := 27) hx hb dX3_bookOf_12 (by decide) (fun c12_4 => ?_) (fun c12_4 => ?_)
    · have bc12_4 := c12_4
      refine lv_aload_n hx hb dX3_bookOf_27 rfl (lv_at hl 1 rfl) ?_
      refine k_get S hX.2 hX.1 0 (C := RX3) (T := TX3) (N := 6) rfl rfl 4 (by decide) inX3 m_135 rfl dX3_bookOf_28 ?_
      refine k_getN S hX.2 hX.1 5 (C := RX0) (T := TX0) (N := 7) rfl rfl 3 (by decide) inX0 n_109 rfl dX3_bookOf_31 ?_
      refine lv_iload hx hb dX3_bookOf_34 (lv_at hl 0 rfl) ?_
      refine lv_iload_n hx hb dX3_bookOf_36 rfl (lv_at hl 3 rfl) ?_
      refine q_i (r_S S ⟨m_183, m_184, m_23, m_185⟩ ⟨rfl, by decide, by decide, by decide +kernel⟩ (c_lineOf l k ar) ⟨rfl, rfl, Nat.le_of_ble_eq_true rfl, Nat.le_of_ble_eq_true rfl⟩ (ps bl_GL (bG hX.2.2)) (n := 2) (As := [.int (nI k), .int (nI ar)]) (rest := [.ref (ad 17)]) rfl hl.1 rfl (Nat.le_of_ble_eq_true rfl) ⟨Nat.le_of_ble_eq_true rfl, Nat.le_of_ble_eq_true rfl⟩ dX3_bookOf_37) (fun r5 (e5 : r5 = nI (k * 5 + ar)) => ?_)
      subst e5
      refine k_ild S hX.2 hX.1 17 (i := (k * 5 + ar)) rfl (by omega) (by decide) dX3_bookOf_40 ?_
      refine lv_istore (lv' := [(5, .int (σ 13 (k * 5 + ar))), (4, .int (nI k)), (0, .ref (ad 0)), (1, .int pl), (2, .int (nI ar)), (3, .int mi)]) hx hb dX3_bookOf_41 hl (by decide) rfl (fun ls hl => ?_)
      refine lv_iload hx hb dX3_bookOf_43 (lv_at hl 0 rfl) ?_
      refine lv_aload_n hx hb dX3_bookOf_45 rfl (lv_at hl 2 rfl) ?_
      refine k_get S hX.2 hX.1 0 (C := RX3) (T := TX3) (N := 6) rfl rfl 2 (by decide) inX3 m_133 rfl dX3_bookOf_46 ?_
      refine lv_iload_n hx hb dX3_bookOf_49 rfl (lv_at hl 3 rfl) ?_
      refine lv_iload_n hx hb dX3_bookOf_50 rfl (lv_at hl 4 rfl) ?_
      refine lv_aload_n hx hb dX3_bookOf_51 rfl (lv_at hl 2 rfl) ?_
      refine k_get S hX.2 hX.1 0 (C := RX3) (T := TX3) (N := 6) rfl rfl 3 (by decide) inX3 m_134 rfl dX3_bookOf_52 ?_
      refine k_getN S hX.2 hX.1 4 (C := RX2) (T := TX2) (N := 4) rfl rfl 1 (by decide) inX2 n_81 rfl dX3_bookOf_55 ?_
      refine lv_iload hx hb dX3_bookOf_58 (lv_at hl 1 rfl) ?_
      refine k_ild S hX.2 hX.1 12 (i := k) rfl (by omega) (by decide) dX3_bookOf_60 ?_
      refine lv_iload_n hx hb dX3_bookOf_61 rfl (lv_at hl 5 rfl) ?_
      refine q_i (r_VN S hX.2.2 ⟨n_194, m_196, m_8, m_24, m_197⟩ ⟨rfl, by decide, by decide, by decide +kernel⟩ (c_brought l G ad σ nm pl (nI ar) (σ 8 k) mi hnm hnm2) ⟨rfl, rfl, Nat.le_of_ble_eq_true rfl, Nat.le_of_ble_eq_true rfl⟩ (pv_X hX 3 rfl rfl bl_PX (bX hX)) (n := 4) (As := [.int pl, .int (nI ar), .int (σ 8 k), .int mi]) (rest := [.int (σ 13 (k * 5 + ar))]) rfl hl.1 rfl (Nat.le_of_ble_eq_true rfl) ⟨Nat.le_of_ble_eq_true rfl, Nat.le_of_ble_eq_true rfl⟩ dX3_bookOf_62) (fun r6 (e6 : r6 = brF σ pl (nI ar) (σ 8 k) mi nm) => ?_)
      subst e6
      refine lv_iadd hx hb dX3_bookOf_65 ?_
      exact W.iret (v := (σ 13 (k * 5 + ar)) + (brF σ pl (nI ar) (σ 8 k) mi nm)) hx hb hr (fun t ht hW => ⟨_, rfl, (by simp [boV, hss, c12_4]), ht⟩) (fun q h => by cases h) dX3_bookOf_66
    · have bc12_4 := c12_4
      exact absurd c12_4 (nI_m1 (by omega))

set_option maxHeartbeats 4000000 in
set_option maxRecDepth 100000 in
theorem c_gapOf (l : Launch) (G : kG) (ad : Nat → Nat) (σ : kS) (nm ns : Nat) (sh ar : Nat) (hns : σ 18 0 = nI ns) (hns4 : ns ≤ 40) (hnm : σ 17 0 = nI nm) (hnm2 : nm ≤ 200) (hsh : sh < ns) (har : ar < 5) : Met l yX3_gapOf [.code yX3_gapOf cX3_gapOf 4 (some .int)] ({ frames := 5, cells := 0, slots := 0, locals := 134 }) (va_Pc [.ref (ad 0), .int (nI sh), .int (nI ar)] (fun U => PX G ad σ U U.heap)) (vp_Si (fun r => r = gpV σ nm ns sh ar)) 0 0 NF := by
  refine k_of (by decide) (Nat.le_of_ble_eq_true rfl) (fun U h => h.2.2) ?_
  intro p e s m below meth c ls S hr hlocks hmn hB hl
  have hx := S.1
  have hb := S.2.1
  have hX : PX G ad σ s s.heap := hB
  have hl : lv_has ls 4 [(0, .ref (ad 0)), (1, .int (nI sh)), (2, .int (nI ar))] := hl
  refine lv_iload_n hx hb dX3_gapOf_0 rfl (lv_at hl 1 rfl) ?_
  refine lv_iload_n hx hb dX3_gapOf_1 rfl (lv_at hl 2 rfl) ?_
  refine q_i (r_S S ⟨m_183, m_184, m_23, m_185⟩ ⟨rfl, by decide, by decide, by decide +kernel⟩ (c_lineOf l sh ar) ⟨rfl, rfl, Nat.le_of_ble_eq_true rfl, Nat.le_of_ble_eq_true rfl⟩ (ps bl_GL (bG hX.2.2)) (n := 2) (As := [.int (nI sh), .int (nI ar)]) (rest := []) rfl hl.1 rfl (Nat.le_of_ble_eq_true rfl) ⟨Nat.le_of_ble_eq_true rfl, Nat.le_of_ble_eq_true rfl⟩ dX3_gapOf_2) (fun r1 (e1 : r1 = nI (sh * 5 + ar)) => ?_)
  subst e1
  refine lv_istore_n (lv' := [(3, .int (nI (sh * 5 + ar))), (0, .ref (ad 0)), (1, .int (nI sh)), (2, .int (nI ar))]) hx hb dX3_gapOf_5 rfl hl (by decide) rfl (fun ls hl => ?_)
  refine lv_aload_n hx hb dX3_gapOf_6 rfl (lv_at hl 1 rfl) ?_
  refine k_get S hX.2 hX.1 0 (C := RX3) (T := TX3) (N := 6) rfl rfl 4 (by decide) inX3 m_135 rfl dX3_gapOf_7 ?_
  refine lv_iload_n hx hb dX3_gapOf_10 rfl (lv_at hl 0 rfl) ?_
  refine q_i (r_VN S hX.2.2 ⟨n_186, m_188, m_6, m_26, m_189⟩ ⟨rfl, by decide, by decide, by decide +kernel⟩ (c_hasSign l G ad σ (sh * 5 + ar) (by omega)) ⟨rfl, rfl, Nat.le_of_ble_eq_true rfl, Nat.le_of_ble_eq_true rfl⟩ (pv_X hX 5 rfl rfl bl_PX (bX hX)) (n := 1) (As := [.int (nI (sh * 5 + ar))]) (rest := []) rfl hl.1 rfl (Nat.le_of_ble_eq_true rfl) ⟨Nat.le_of_ble_eq_true rfl, Nat.le_of_ble_eq_true rfl⟩ dX3_gapOf_11) (fun r2 (e2 : r2 = bI (hsB σ (sh * 5 + ar))) => ?_)
  subst e2
  refine lv_if_eq (tgt := 27) hx hb dX3_gapOf_14 (by decide) (fun c14_3 => ?_) (fun c14_3 => ?_)
  · have bc14_3 := bI_0 c14_3
    refine lv_aload_n hx hb dX3_gapOf_27 rfl (lv_at hl 1 rfl) ?_
    refine k_get S hX.2 hX.1 0 (C := RX3) (T := TX3) (N := 6) rfl rfl 4 (by decide) inX3 m_135 rfl dX3_gapOf_28 ?_
    refine k_getN S hX.2 hX.1 5 (C := RX0) (T := TX0) (N := 7) rfl rfl 3 (by decide) inX0 n_109 rfl dX3_gapOf_31 ?_
    refine lv_iload_n hx hb dX3_gapOf_34 rfl (lv_at hl 0 rfl) ?_
    refine k_ild S hX.2 hX.1 17 (i := (sh * 5 + ar)) rfl (by omega) (by decide) dX3_gapOf_35 ?_
    refine lv_aload_n hx hb dX3_gapOf_36 rfl (lv_at hl 1 rfl) ?_
    refine lv_aload_n hx hb dX3_gapOf_37 rfl (lv_at hl 1 rfl) ?_
    refine k_get S hX.2 hX.1 0 (C := RX3) (T := TX3) (N := 6) rfl rfl 3 (by decide) inX3 m_134 rfl dX3_gapOf_38 ?_
    refine k_getN S hX.2 hX.1 4 (C := RX2) (T := TX2) (N := 4) rfl rfl 0 (by decide) inX2 n_79 rfl dX3_gapOf_41 ?_
    refine lv_iload_n hx hb dX3_gapOf_44 rfl (lv_at hl 2 rfl) ?_
    refine k_ild S hX.2 hX.1 11 (i := sh) rfl (by omega) (by decide) dX3_gapOf_45 ?_
    refine lv_iload_n hx hb dX3_gapOf_46 rfl (lv_at hl 3 rfl) ?_
    refine lv_aload_n hx hb dX3_gapOf_47 rfl (lv_at hl 1 rfl) ?_
    refine k_get S hX.2 hX.1 0 (C := RX3) (T := TX3) (N := 6) rfl rfl 3 (by decide) inX3 m_134 rfl dX3_gapOf_48 ?_
    refine k_getN S hX.2 hX.1 4 (C := RX2) (T := TX2) (N := 4) rfl rfl 1 (by decide) inX2 n_81 rfl dX3_gapOf_51 ?_
    refine lv_iload_n hx hb dX3_gapOf_54 rfl (lv_at hl 2 rfl) ?_
    refine k_ild S hX.2 hX.1 12 (i := sh) rfl (by omega) (by decide) dX3_gapOf_55 ?_
    refine q_i (r_V S ⟨m_175, m_177, m_4, m_23, m_178⟩ ⟨rfl, by decide, by decide, by decide +kernel⟩ (c_bookOf l G ad σ nm ns (σ 7 sh) ar (σ 8 sh) hns hns4 hnm hnm2 (by omega)) ⟨rfl, rfl, Nat.le_of_ble_eq_true rfl, Nat.le_of_ble_eq_true rfl⟩ (pv_X hX 0 rfl rfl bl_PX (bX hX)) (n := 3) (As := [.int (σ 7 sh), .int (nI ar), .int (σ 8 sh)]) (rest := [.int (σ 13 (sh * 5 + ar))]) rfl hl.1 rfl (Nat.le_of_ble_eq_true rfl) ⟨Nat.le_of_ble_eq_true rfl, Nat.le_of_ble_eq_true rfl⟩ dX3_gapOf_56) (fun r4 (e4 : r4 = boV σ nm ns (σ 7 sh) ar (σ 8 sh)) => ?_)
    subst e4
    refine lv_isub hx hb dX3_gapOf_59 ?_
    exact W.iret (v := (σ 13 (sh * 5 + ar)) - (boV σ nm ns (σ 7 sh) ar (σ 8 sh))) hx hb hr (fun t ht hW => ⟨_, rfl, (by simp [gpV, bc14_3]), ht⟩) (fun q h => by cases h) dX3_gapOf_60
  · have bc14_3 := bI_n c14_3
    refine lv_aload_n hx hb dX3_gapOf_17 rfl (lv_at hl 1 rfl) ?_
    refine k_get S hX.2 hX.1 0 (C := RX3) (T := TX3) (N := 6) rfl rfl 4 (by decide) inX3 m_135 rfl dX3_gapOf_18 ?_
    refine k_getN S hX.2 hX.1 5 (C := RX0) (T := TX0) (N := 7) rfl rfl 5 (by decide) inX0 n_113 rfl dX3_gapOf_21 ?_
    refine lv_iload_n hx hb dX3_gapOf_24 rfl (lv_at hl 0 rfl) ?_
    refine k_ild S hX.2 hX.1 19 (i := (sh * 5 + ar)) rfl (by omega) (by decide) dX3_gapOf_25 ?_
    exact W.iret (v := σ 15 (sh * 5 + ar)) hx hb hr (fun t ht hW => ⟨_, rfl, (by simp [gpV, bc14_3]), ht⟩) (fun q h => by cases h) dX3_gapOf_26

set_option maxHeartbeats 4000000 in
set_option maxRecDepth 100000 in
theorem c_isSignable (l : Launch) (G : kG) (ad : Nat → Nat) (σ : kS) (sh ar : Nat) (hsh : sh < 40) (har : ar < 5) : Met l yX3_isSignable [.code yX3_isSignable cX3_isSignable 4 (some .boolean)] ({ frames := 2, cells := 0, slots := 0, locals := 61 }) (va_Pc [.ref (ad 0), .int (nI sh), .int (nI ar)] (fun U => PX G ad σ U U.heap)) (vp_Si (fun r => r = bI (sgB σ sh ar))) 0 0 NF := by
  refine k_of (by decide) (Nat.le_of_ble_eq_true rfl) (fun U h => h.2.2) ?_
  intro p e s m below meth c ls S hr hlocks hmn hB hl
  have hx := S.1
  have hb := S.2.1
  have hX : PX G ad σ s s.heap := hB
  have hl : lv_has ls 4 [(0, .ref (ad 0)), (1, .int (nI sh)), (2, .int (nI ar))] := hl
  refine lv_iload_n hx hb dX3_isSignable_0 rfl (lv_at hl 1 rfl) ?_
  refine lv_iload_n hx hb dX3_isSignable_1 rfl (lv_at hl 2 rfl) ?_
  refine q_i (r_S S ⟨m_183, m_184, m_23, m_185⟩ ⟨rfl, by decide, by decide, by decide +kernel⟩ (c_lineOf l sh ar) ⟨rfl, rfl, Nat.le_of_ble_eq_true rfl, Nat.le_of_ble_eq_true rfl⟩ (ps bl_GL (bG hX.2.2)) (n := 2) (As := [.int (nI sh), .int (nI ar)]) (rest := []) rfl hl.1 rfl (Nat.le_of_ble_eq_true rfl) ⟨Nat.le_of_ble_eq_true rfl, Nat.le_of_ble_eq_true rfl⟩ dX3_isSignable_2) (fun r1 (e1 : r1 = nI (sh * 5 + ar)) => ?_)
  subst e1
  refine lv_istore_n (lv' := [(3, .int (nI (sh * 5 + ar))), (0, .ref (ad 0)), (1, .int (nI sh)), (2, .int (nI ar))]) hx hb dX3_isSignable_5 rfl hl (by decide) rfl (fun ls hl => ?_)
  refine lv_aload_n hx hb dX3_isSignable_6 rfl (lv_at hl 1 rfl) ?_
  refine k_get S hX.2 hX.1 0 (C := RX3) (T := TX3) (N := 6) rfl rfl 3 (by decide) inX3 m_134 rfl dX3_isSignable_7 ?_
  refine k_getN S hX.2 hX.1 4 (C := RX2) (T := TX2) (N := 4) rfl rfl 2 (by decide) inX2 n_83 rfl dX3_isSignable_10 ?_
  refine lv_iload_n hx hb dX3_isSignable_13 rfl (lv_at hl 2 rfl) ?_
  refine k_zld S hX.2 hX.1 13 (i := sh) rfl (by omega) (by decide) dX3_isSignable_14 ?_
  refine lv_if_eq (tgt := 44) hx hb dX3_isSignable_15 (by decide) (fun c15_2 => ?_) (fun c15_2 => ?_)
  · have bc15_2 := c15_2
    refine lv_iconst (v := 0) hx hb dX3_isSignable_44 (by decide) ?_
    exact W.zret (v := 0) (ty := .boolean) hx hb hr (by first | rfl | exact bI_nar _) (fun t ht hW => ⟨_, rfl, (by simp [sgB, bI, c15_2]), ht⟩) (fun q h => by cases h) dX3_isSignable_45
  · have bc15_2 := c15_2
    refine lv_aload_n hx hb dX3_isSignable_18 rfl (lv_at hl 1 rfl) ?_
    refine k_get S hX.2 hX.1 0 (C := RX3) (T := TX3) (N := 6) rfl rfl 4 (by decide) inX3 m_135 rfl dX3_isSignable_19 ?_
    refine lv_iload_n hx hb dX3_isSignable_22 rfl (lv_at hl 0 rfl) ?_
    refine q_i (r_VN S hX.2.2 ⟨n_358, m_360, m_14, m_26, m_361⟩ ⟨rfl, by decide, by decide, by decide +kernel⟩ (c_agrees l G ad σ (sh * 5 + ar) (by omega)) ⟨rfl, rfl, Nat.le_of_ble_eq_true rfl, Nat.le_of_ble_eq_true rfl⟩ (pv_X hX 5 rfl rfl bl_PX (bX hX)) (n := 1) (As := [.int (nI (sh * 5 + ar))]) (rest := []) rfl hl.1 rfl (Nat.le_of_ble_eq_true rfl) ⟨Nat.le_of_ble_eq_true rfl, Nat.le_of_ble_eq_true rfl⟩ dX3_isSignable_23) (fun r3 (e3 : r3 = bI (agB σ (sh * 5 + ar))) => ?_)
    subst e3
    refine lv_if_eq (tgt := 44) hx hb dX3_isSignable_26 (by decide) (fun c26_4 => ?_) (fun c26_4 => ?_)
    · have bc26_4 := bI_0 c26_4
      refine lv_iconst (v := 0) hx hb dX3_isSignable_44 (by decide) ?_
      exact W.zret (v := 0) (ty := .boolean) hx hb hr (by first | rfl | exact bI_nar _) (fun t ht hW => ⟨_, rfl, (by simp [sgB, bI, c15_2, bc26_4]), ht⟩) (fun q h => by cases h) dX3_isSignable_45
    · have bc26_4 := bI_n c26_4
      refine lv_aload_n hx hb dX3_isSignable_29 rfl (lv_at hl 1 rfl) ?_
      refine k_get S hX.2 hX.1 0 (C := RX3) (T := TX3) (N := 6) rfl rfl 4 (by decide) inX3 m_135 rfl dX3_isSignable_30 ?_
      refine lv_iload_n hx hb dX3_isSignable_33 rfl (lv_at hl 0 rfl) ?_
      refine q_i (r_VN S hX.2.2 ⟨n_186, m_188, m_6, m_26, m_189⟩ ⟨rfl, by decide, by decide, by decide +kernel⟩ (c_hasSign l G ad σ (sh * 5 + ar) (by omega)) ⟨rfl, rfl, Nat.le_of_ble_eq_true rfl, Nat.le_of_ble_eq_true rfl⟩ (pv_X hX 5 rfl rfl bl_PX (bX hX)) (n := 1) (As := [.int (nI (sh * 5 + ar))]) (rest := []) rfl hl.1 rfl (Nat.le_of_ble_eq_true rfl) ⟨Nat.le_of_ble_eq_true rfl, Nat.le_of_ble_eq_true rfl⟩ dX3_isSignable_34) (fun r5 (e5 : r5 = bI (hsB σ (sh * 5 + ar))) => ?_)
      subst e5
      refine lv_if_ne (tgt := 44) hx hb dX3_isSignable_37 (by decide) (fun c37_6 => ?_) (fun c37_6 => ?_)
      · have bc37_6 := bI_n c37_6
        refine lv_iconst (v := 0) hx hb dX3_isSignable_44 (by decide) ?_
        exact W.zret (v := 0) (ty := .boolean) hx hb hr (by first | rfl | exact bI_nar _) (fun t ht hW => ⟨_, rfl, (by simp [sgB, bI, c15_2, bc26_4, bc37_6]), ht⟩) (fun q h => by cases h) dX3_isSignable_45
      · have bc37_6 := bI_0 c37_6
        refine lv_iconst (v := 1) hx hb dX3_isSignable_40 (by decide) ?_
        refine lv_goto (tgt := 45) hx hb dX3_isSignable_41 (by decide) ?_
        exact W.zret (v := 1) (ty := .boolean) hx hb hr (by first | rfl | exact bI_nar _) (fun t ht hW => ⟨_, rfl, (by simp [sgB, bI, c15_2, bc26_4, bc37_6]), ht⟩) (fun q h => by cases h) dX3_isSignable_45

set_option maxHeartbeats 4000000 in
set_option maxRecDepth 100000 in
theorem c_canBeSettled (l : Launch) (G : kG) (ad : Nat → Nat) (σ : kS) (nm ns : Nat) (sh ot ar : Nat) (hns : σ 18 0 = nI ns) (hns4 : ns ≤ 40) (hnm : σ 17 0 = nI nm) (hnm2 : nm ≤ 200) (hsh : sh < ns) (hot : ot < ns) (har : ar < 5) : Met l yX3_canBeSettled [.code yX3_canBeSettled cX3_canBeSettled 5 (some .boolean)] ({ frames := 6, cells := 0, slots := 0, locals := 157 }) (va_Pc [.ref (ad 0), .int (nI sh), .int (nI ot), .int (nI ar)] (fun U => PX G ad σ U U.heap)) (vp_Si (fun r => r = bI (csB σ nm ns sh ot ar))) 0 0 NF := by
  refine k_of (by decide) (Nat.le_of_ble_eq_true rfl) (fun U h => h.2.2) ?_
  intro p e s m below meth c ls S hr hlocks hmn hB hl
  have hx := S.1
  have hb := S.2.1
  have hX : PX G ad σ s s.heap := hB
  have hl : lv_has ls 5 [(0, .ref (ad 0)), (1, .int (nI sh)), (2, .int (nI ot)), (3, .int (nI ar))] := hl
  refine lv_aload_n hx hb dX3_canBeSettled_0 rfl (lv_at hl 0 rfl) ?_
  refine k_get S hX.2 hX.1 0 (C := RX3) (T := TX3) (N := 6) rfl rfl 3 (by decide) inX3 m_134 rfl dX3_canBeSettled_1 ?_
  refine k_getN S hX.2 hX.1 4 (C := RX2) (T := TX2) (N := 4) rfl rfl 0 (by decide) inX2 n_79 rfl dX3_canBeSettled_4 ?_
  refine lv_iload_n hx hb dX3_canBeSettled_7 rfl (lv_at hl 1 rfl) ?_
  refine k_ild S hX.2 hX.1 11 (i := sh) rfl (by omega) (by decide) dX3_canBeSettled_8 ?_
  refine lv_aload_n hx hb dX3_canBeSettled_9 rfl (lv_at hl 0 rfl) ?_
  refine k_get S hX.2 hX.1 0 (C := RX3) (T := TX3) (N := 6) rfl rfl 3 (by decide) inX3 m_134 rfl dX3_canBeSettled_10 ?_
  refine k_getN S hX.2 hX.1 4 (C := RX2) (T := TX2) (N := 4) rfl rfl 0 (by decide) inX2 n_79 rfl dX3_canBeSettled_13 ?_
  refine lv_iload_n hx hb dX3_canBeSettled_16 rfl (lv_at hl 2 rfl) ?_
  refine k_ild S hX.2 hX.1 11 (i := ot) rfl (by omega) (by decide) dX3_canBeSettled_17 ?_
  refine lv_icmp_eq (tgt := 39) hx hb dX3_canBeSettled_18 (by decide) (fun c18_1 => ?_) (fun c18_1 => ?_)
  · have bc18_1 := c18_1
    refine lv_iconst (v := 0) hx hb dX3_canBeSettled_39 (by decide) ?_
    exact W.zret (v := 0) (ty := .boolean) hx hb hr (by first | rfl | exact bI_nar _) (fun t ht hW => ⟨_, rfl, (by simp [csB, bI, c18_1]), ht⟩) (fun q h => by cases h) dX3_canBeSettled_40
  · have bc18_1 := c18_1
    refine lv_aload_n hx hb dX3_canBeSettled_21 rfl (lv_at hl 0 rfl) ?_
    refine lv_iload_n hx hb dX3_canBeSettled_22 rfl (lv_at hl 1 rfl) ?_
    refine lv_iload_n hx hb dX3_canBeSettled_23 rfl (lv_at hl 3 rfl) ?_
    refine q_i (r_V S ⟨m_354, m_356, m_13, m_23, m_357⟩ ⟨rfl, by decide, by decide, by decide +kernel⟩ (c_isSignable l G ad σ sh ar (by omega) (by omega)) ⟨rfl, rfl, Nat.le_of_ble_eq_true rfl, Nat.le_of_ble_eq_true rfl⟩ (pv_X hX 0 rfl rfl bl_PX (bX hX)) (n := 2) (As := [.int (nI sh), .int (nI ar)]) (rest := []) rfl hl.1 rfl (Nat.le_of_ble_eq_true rfl) ⟨Nat.le_of_ble_eq_true rfl, Nat.le_of_ble_eq_true rfl⟩ dX3_canBeSettled_24) (fun r2 (e2 : r2 = bI (sgB σ sh ar)) => ?_)
    subst e2
    refine lv_if_eq (tgt := 39) hx hb dX3_canBeSettled_27 (by decide) (fun c27_3 => ?_) (fun c27_3 => ?_)
    · have bc27_3 := bI_0 c27_3
      refine lv_iconst (v := 0) hx hb dX3_canBeSettled_39 (by decide) ?_
      exact W.zret (v := 0) (ty := .boolean) hx hb hr (by first | rfl | exact bI_nar _) (fun t ht hW => ⟨_, rfl, (by simp [csB, bI, c18_1, bc27_3]), ht⟩) (fun q h => by cases h) dX3_canBeSettled_40
    · have bc27_3 := bI_n c27_3
      refine lv_aload_n hx hb dX3_canBeSettled_30 rfl (lv_at hl 0 rfl) ?_
      refine lv_iload_n hx hb dX3_canBeSettled_31 rfl (lv_at hl 2 rfl) ?_
      refine lv_iload_n hx hb dX3_canBeSettled_32 rfl (lv_at hl 3 rfl) ?_
      refine q_i (r_V S ⟨m_354, m_356, m_13, m_23, m_357⟩ ⟨rfl, by decide, by decide, by decide +kernel⟩ (c_isSignable l G ad σ ot ar (by omega) (by omega)) ⟨rfl, rfl, Nat.le_of_ble_eq_true rfl, Nat.le_of_ble_eq_true rfl⟩ (pv_X hX 0 rfl rfl bl_PX (bX hX)) (n := 2) (As := [.int (nI ot), .int (nI ar)]) (rest := []) rfl hl.1 rfl (Nat.le_of_ble_eq_true rfl) ⟨Nat.le_of_ble_eq_true rfl, Nat.le_of_ble_eq_true rfl⟩ dX3_canBeSettled_33) (fun r4 (e4 : r4 = bI (sgB σ ot ar)) => ?_)
      subst e4
      refine lv_if_ne (tgt := 41) hx hb dX3_canBeSettled_36 (by decide) (fun c36_5 => ?_) (fun c36_5 => ?_)
      · have bc36_5 := bI_n c36_5
        refine lv_aload_n hx hb dX3_canBeSettled_41 rfl (lv_at hl 0 rfl) ?_
        refine lv_iload_n hx hb dX3_canBeSettled_42 rfl (lv_at hl 1 rfl) ?_
        refine lv_iload_n hx hb dX3_canBeSettled_43 rfl (lv_at hl 3 rfl) ?_
        refine q_i (r_V S ⟨m_362, m_364, m_15, m_23, m_365⟩ ⟨rfl, by decide, by decide, by decide +kernel⟩ (c_gapOf l G ad σ nm ns sh ar hns hns4 hnm hnm2 (by omega) (by omega)) ⟨rfl, rfl, Nat.le_of_ble_eq_true rfl, Nat.le_of_ble_eq_true rfl⟩ (pv_X hX 0 rfl rfl bl_PX (bX hX)) (n := 2) (As := [.int (nI sh), .int (nI ar)]) (rest := []) rfl hl.1 rfl (Nat.le_of_ble_eq_true rfl) ⟨Nat.le_of_ble_eq_true rfl, Nat.le_of_ble_eq_true rfl⟩ dX3_canBeSettled_44) (fun r6 (e6 : r6 = gpV σ nm ns sh ar) => ?_)
        subst e6
        refine lv_istore (lv' := [(4, .int (gpV σ nm ns sh ar)), (0, .ref (ad 0)), (1, .int (nI sh)), (2, .int (nI ot)), (3, .int (nI ar))]) hx hb dX3_canBeSettled_47 hl (by decide) rfl (fun ls hl => ?_)
        refine lv_iload hx hb dX3_canBeSettled_49 (lv_at hl 0 rfl) ?_
        refine lv_if_eq (tgt := 70) hx hb dX3_canBeSettled_51 (by decide) (fun c51_7 => ?_) (fun c51_7 => ?_)
        · have bc51_7 := c51_7
          refine lv_iconst (v := 0) hx hb dX3_canBeSettled_70 (by decide) ?_
          exact W.zret (v := 0) (ty := .boolean) hx hb hr (by first | rfl | exact bI_nar _) (fun t ht hW => ⟨_, rfl, (by simp [csB, bI, c18_1, bc27_3, bc36_5, c51_7]), ht⟩) (fun q h => by cases h) dX3_canBeSettled_71
        · have bc51_7 := c51_7
          refine lv_iload hx hb dX3_canBeSettled_54 (lv_at hl 0 rfl) ?_
          refine lv_aload_n hx hb dX3_canBeSettled_56 rfl (lv_at hl 1 rfl) ?_
          refine lv_iload_n hx hb dX3_canBeSettled_57 rfl (lv_at hl 3 rfl) ?_
          refine lv_iload_n hx hb dX3_canBeSettled_58 rfl (lv_at hl 4 rfl) ?_
          refine q_i (r_V S ⟨m_362, m_364, m_15, m_23, m_365⟩ ⟨rfl, by decide, by decide, by decide +kernel⟩ (c_gapOf l G ad σ nm ns ot ar hns hns4 hnm hnm2 (by omega) (by omega)) ⟨rfl, rfl, Nat.le_of_ble_eq_true rfl, Nat.le_of_ble_eq_true rfl⟩ (pv_X hX 0 rfl rfl bl_PX (bX hX)) (n := 2) (As := [.int (nI ot), .int (nI ar)]) (rest := [.int (gpV σ nm ns sh ar)]) rfl hl.1 rfl (Nat.le_of_ble_eq_true rfl) ⟨Nat.le_of_ble_eq_true rfl, Nat.le_of_ble_eq_true rfl⟩ dX3_canBeSettled_59) (fun r8 (e8 : r8 = gpV σ nm ns ot ar) => ?_)
          subst e8
          refine lv_iadd hx hb dX3_canBeSettled_62 ?_
          refine lv_if_ne (tgt := 70) hx hb dX3_canBeSettled_63 (by decide) (fun c63_9 => ?_) (fun c63_9 => ?_)
          · have bc63_9 := c63_9
            refine lv_iconst (v := 0) hx hb dX3_canBeSettled_70 (by decide) ?_
            exact W.zret (v := 0) (ty := .boolean) hx hb hr (by first | rfl | exact bI_nar _) (fun t ht hW => ⟨_, rfl, (by simp [csB, bI, c18_1, bc27_3, bc36_5, c51_7, c63_9]), ht⟩) (fun q h => by cases h) dX3_canBeSettled_71
          · have bc63_9 := c63_9
            refine lv_iconst (v := 1) hx hb dX3_canBeSettled_66 (by decide) ?_
            refine lv_goto (tgt := 71) hx hb dX3_canBeSettled_67 (by decide) ?_
            exact W.zret (v := 1) (ty := .boolean) hx hb hr (by first | rfl | exact bI_nar _) (fun t ht hW => ⟨_, rfl, (by simp [csB, bI, c18_1, bc27_3, bc36_5, c51_7, c63_9]), ht⟩) (fun q h => by cases h) dX3_canBeSettled_71
      · have bc36_5 := bI_0 c36_5
        refine lv_iconst (v := 0) hx hb dX3_canBeSettled_39 (by decide) ?_
        exact W.zret (v := 0) (ty := .boolean) hx hb hr (by first | rfl | exact bI_nar _) (fun t ht hW => ⟨_, rfl, (by simp [csB, bI, c18_1, bc27_3, bc36_5]), ht⟩) (fun q h => by cases h) dX3_canBeSettled_40

set_option maxHeartbeats 4000000 in
set_option maxRecDepth 100000 in
theorem c_worthOf (l : Launch) (G : kG) (ad : Nat → Nat) (σ : kS) (nm ns : Nat) (pl : Int32) (hns : σ 18 0 = nI ns) (hns4 : ns ≤ 40) (hnm : σ 17 0 = nI nm) (hnm2 : nm ≤ 200) : Met l yX3_worthOf [.code yX3_worthOf cX3_worthOf 4 (some .int)] ({ frames := 5, cells := 0, slots := 0, locals := 134 }) (va_Pc [.ref (ad 0), .int pl] (fun U => PX G ad σ U U.heap)) (vp_Si (fun r => r = woF σ nm ns pl 5)) 0 0 NF := by
  refine k_of (by decide) (Nat.le_of_ble_eq_true rfl) (fun U h => h.2.2) ?_
  intro p e s m below meth c ls S hr hlocks hmn hB hl
  have hx := S.1
  have hb := S.2.1
  have hX : PX G ad σ s s.heap := hB
  have hl : lv_has ls 4 [(0, .ref (ad 0)), (1, .int pl)] := hl
  have L4 : ∀ (n i : Nat), i ≤ 5 → 5 + 1 ≤ i + n → ∀ ls, lv_has ls 4 [(0, .ref (ad 0)), (1, .int pl), (2, .int (woF σ nm ns pl i)), (3, .int (nI i))] → W p l e ({ frames := 5, cells := 0, slots := 0, locals := 134 } : Room) s m [.ref (ad 0), .int pl].toArray below meth c s.heap [] 0 0 (MQ below (vp_Si (fun r => r = woF σ nm ns pl 5)) [.ref (ad 0), .int pl].toArray s 0 0 NF) (F0 m 4 ls []) := by
    intro n
    induction n with
    | zero =>
      intro i h1 h2
      omega
    | succ n ih =>
      intro i hi hin ls hl
      refine lv_iload_n hx hb dX3_worthOf_4 rfl (lv_at hl 3 rfl) ?_
      refine lv_iconst (v := 5) hx hb dX3_worthOf_5 (by decide) ?_
      refine lv_icmp_ge (tgt := 39) hx hb dX3_worthOf_6 (by decide) (fun c6_1 => ?_) (fun c6_1 => ?_)
      · have bc6_1 := le_nlt c6_1
        have hge : i = 5 := by
          have h9 := c6_1
          rw [show (5 : Int32) = nI 5 from rfl, nI_leI (by omega) (by omega)] at h9
          omega
        refine lv_iload_n hx hb dX3_worthOf_39 rfl (lv_at hl 2 rfl) ?_
        exact W.iret (v := woF σ nm ns pl i) hx hb hr (fun t ht hW => ⟨_, rfl, (by rw [hge]), ht⟩) (fun q h => by cases h) dX3_worthOf_40
      · have bc6_1 := nle_lt c6_1
        have hlt : i < 5 := by
          have h9 := nle_lt c6_1
          rw [show (5 : Int32) = nI 5 from rfl, nI_ltI (by omega) (by omega)] at h9
          exact h9
        refine lv_iload_n hx hb dX3_worthOf_9 rfl (lv_at hl 2 rfl) ?_
        refine lv_aload_n hx hb dX3_worthOf_10 rfl (lv_at hl 0 rfl) ?_
        refine k_get S hX.2 hX.1 0 (C := RX3) (T := TX3) (N := 6) rfl rfl 0 (by decide) inX3 m_131 rfl dX3_worthOf_11 ?_
        refine lv_iload_n hx hb dX3_worthOf_14 rfl (lv_at hl 3 rfl) ?_
        refine k_ild S hX.2 hX.1 1 (i := i) rfl (by omega) (by decide) dX3_worthOf_15 ?_
        refine lv_iconst (v := 0) hx hb dX3_worthOf_16 (by decide) ?_
        refine lv_aload_n hx hb dX3_worthOf_17 rfl (lv_at hl 0 rfl) ?_
        refine lv_iload_n hx hb dX3_worthOf_18 rfl (lv_at hl 1 rfl) ?_
        refine lv_iload_n hx hb dX3_worthOf_19 rfl (lv_at hl 3 rfl) ?_
        refine lv_aload_n hx hb dX3_worthOf_20 rfl (lv_at hl 0 rfl) ?_
        refine k_get S hX.2 hX.1 0 (C := RX3) (T := TX3) (N := 6) rfl rfl 5 (by decide) inX3 m_136 rfl dX3_worthOf_21 ?_
        refine q_i (r_V S ⟨m_175, m_177, m_4, m_23, m_178⟩ ⟨rfl, by decide, by decide, by decide +kernel⟩ (c_bookOf l G ad σ nm ns pl i (σ 16 0) hns hns4 hnm hnm2 (by omega)) ⟨rfl, rfl, Nat.le_of_ble_eq_true rfl, Nat.le_of_ble_eq_true rfl⟩ (pv_X hX 0 rfl rfl bl_PX (bX hX)) (n := 3) (As := [.int pl, .int (nI i), .int (σ 16 0)]) (rest := [.int 0, .int (σ 0 i), .int (woF σ nm ns pl i)]) rfl hl.1 rfl (Nat.le_of_ble_eq_true rfl) ⟨Nat.le_of_ble_eq_true rfl, Nat.le_of_ble_eq_true rfl⟩ dX3_worthOf_24) (fun r2 (e2 : r2 = boV σ nm ns pl i (σ 16 0)) => ?_)
        subst e2
        refine va_mmax hx hb (S.2.2.1.trans hl.1.symm) S.2.2.2.1 (S.2.2.2.2 _ m_198) (S.2.2.2.2 _ m_199) (S.2.2.2.2 _ m_28) (S.2.2.2.2 _ m_200) (Nat.le_of_ble_eq_true rfl) (Nat.le_of_ble_eq_true rfl) (Nat.le_of_ble_eq_true rfl) (Nat.le_of_ble_eq_true rfl) dX3_worthOf_27 ?_
        refine lv_imul hx hb dX3_worthOf_30 ?_
        refine lv_iadd hx hb dX3_worthOf_31 ?_
        refine lv_istore_n (lv' := [(2, .int ((woF σ nm ns pl i) + ((σ 0 i) * (if 0 < boV σ nm ns pl i (σ 16 0) then boV σ nm ns pl i (σ 16 0) else 0)))), (0, .ref (ad 0)), (1, .int pl), (3, .int (nI i))]) hx hb dX3_worthOf_32 rfl hl (by decide) rfl (fun ls hl => ?_)
        refine lv_iinc (v := nI (i + 1)) (lv' := [(3, .int (nI (i + 1))), (2, .int ((woF σ nm ns pl i) + ((σ 0 i) * (if 0 < boV σ nm ns pl i (σ 16 0) then boV σ nm ns pl i (σ 16 0) else 0)))), (0, .ref (ad 0)), (1, .int pl)]) hx hb dX3_worthOf_33 hl (k := 3) rfl (nI_1 i) (by decide) rfl (fun ls hl => ?_)
        refine lv_goto (tgt := 4) hx hb dX3_worthOf_36 (by decide) ?_
        have ev3 : (woF σ nm ns pl i) + ((σ 0 i) * (if 0 < boV σ nm ns pl i (σ 16 0) then boV σ nm ns pl i (σ 16 0) else 0)) = woF σ nm ns pl (i + 1) := by simp [woF, c6_1, bc6_1]
        rw [ev3] at hl
        exact ih (i + 1) hlt (by omega) ls (lv_sub hl [2, 3, 1, 0] rfl)
  refine lv_iconst (v := 0) hx hb dX3_worthOf_0 (by decide) ?_
  refine lv_istore_n (lv' := [(2, .int 0), (0, .ref (ad 0)), (1, .int pl)]) hx hb dX3_worthOf_1 rfl hl (by decide) rfl (fun ls hl => ?_)
  refine lv_iconst (v := 0) hx hb dX3_worthOf_2 (by decide) ?_
  refine lv_istore_n (lv' := [(3, .int 0), (2, .int 0), (0, .ref (ad 0)), (1, .int pl)]) hx hb dX3_worthOf_3 rfl hl (by decide) rfl (fun ls hl => ?_)
  exact L4 6 0 (Nat.zero_le _) (by omega) ls (lv_sub hl [2, 3, 1, 0] rfl)

set_option maxHeartbeats 4000000 in
set_option maxRecDepth 100000 in
theorem c_urgencyOf (l : Launch) (G : kG) (ad : Nat → Nat) (σ : kS) (nm ns : Nat) (pl : Int32) (hns : σ 18 0 = nI ns) (hns4 : ns ≤ 40) (hnm : σ 17 0 = nI nm) (hnm2 : nm ≤ 200) : Met l yX3_urgencyOf [.code yX3_urgencyOf cX3_urgencyOf 5 (some .long)] ({ frames := 6, cells := 0, slots := 0, locals := 157 }) (va_Pc [.ref (ad 0), .int pl] (fun U => PX G ad σ U U.heap)) (vp_Sl (fun r => r = urV σ nm ns pl)) 0 0 NF := by
  refine k_of (by decide) (Nat.le_of_ble_eq_true rfl) (fun U h => h.2.2) ?_
  intro p e s m below meth c ls S hr hlocks hmn hB hl
  have hx := S.1
  have hb := S.2.1
  have hX : PX G ad σ s s.heap := hB
  have hl : lv_has ls 5 [(0, .ref (ad 0)), (1, .int pl)] := hl
  refine lv_aload_n hx hb dX3_urgencyOf_0 rfl (lv_at hl 0 rfl) ?_
  refine k_get S hX.2 hX.1 0 (C := RX3) (T := TX3) (N := 6) rfl rfl 3 (by decide) inX3 m_134 rfl dX3_urgencyOf_1 ?_
  refine lv_iload_n hx hb dX3_urgencyOf_4 rfl (lv_at hl 1 rfl) ?_
  refine q_i (r_VN S hX.2.2 ⟨n_170, m_164, m_1, m_25, m_165⟩ ⟨rfl, by decide, by decide, by decide +kernel⟩ (c_latestFor l G ad σ ns pl hns hns4) ⟨rfl, rfl, Nat.le_of_ble_eq_true rfl, Nat.le_of_ble_eq_true rfl⟩ (pv_X hX 4 rfl rfl bl_PX (bX hX)) (n := 1) (As := [.int pl]) (rest := []) rfl hl.1 rfl (Nat.le_of_ble_eq_true rfl) ⟨Nat.le_of_ble_eq_true rfl, Nat.le_of_ble_eq_true rfl⟩ dX3_urgencyOf_5) (fun r1 (e1 : r1 = oI (latO σ pl ns)) => ?_)
  subst e1
  rcases hla : latO σ pl ns with _ | k
  · show W _ _ _ _ _ _ _ _ _ _ _ _ _ _ _ (F0 m 8 ls [.int (-1)])
    refine lv_istore_n (lv' := [(2, .int (-1)), (0, .ref (ad 0)), (1, .int pl)]) hx hb dX3_urgencyOf_8 rfl hl (by decide) rfl (fun ls hl => ?_)
    refine lv_iload_n hx hb dX3_urgencyOf_9 rfl (lv_at hl 0 rfl) ?_
    refine lv_iconst (v := (-1)) hx hb dX3_urgencyOf_10 (by decide) ?_
    refine lv_icmp_ne (tgt := 24) hx hb dX3_urgencyOf_11 (by decide) (fun c11_2 => ?_) (fun c11_2 => ?_)
    · have bc11_2 := c11_2
      exact absurd rfl c11_2
    · have bc11_2 := c11_2
      refine lv_aload_n hx hb dX3_urgencyOf_14 rfl (lv_at hl 1 rfl) ?_
      refine k_get S hX.2 hX.1 0 (C := RX3) (T := TX3) (N := 6) rfl rfl 5 (by decide) inX3 m_136 rfl dX3_urgencyOf_15 ?_
      refine lv_i2l (v := ((σ 16 0)).toInt64) hx hb dX3_urgencyOf_18 rfl ?_
      refine lv_lconst (v := 1) hx hb dX3_urgencyOf_19 (by decide) ?_
      refine lv_ladd hx hb dX3_urgencyOf_20 ?_
      refine lv_goto (tgt := 39) hx hb dX3_urgencyOf_21 (by decide) ?_
      refine lv_lstore_n (lv' := [(3, .long ((((σ 16 0)).toInt64) + 1)), (2, .int (-1)), (0, .ref (ad 0)), (1, .int pl)]) hx hb dX3_urgencyOf_39 rfl hl (by decide) rfl (fun ls hl => ?_)
      refine lv_aload_n hx hb dX3_urgencyOf_40 rfl (lv_at hl 2 rfl) ?_
      refine lv_iload_n hx hb dX3_urgencyOf_41 rfl (lv_at hl 3 rfl) ?_
      refine q_i (r_V S ⟨m_171, m_173, m_3, m_23, m_174⟩ ⟨rfl, by decide, by decide, by decide +kernel⟩ (c_worthOf l G ad σ nm ns pl hns hns4 hnm hnm2) ⟨rfl, rfl, Nat.le_of_ble_eq_true rfl, Nat.le_of_ble_eq_true rfl⟩ (pv_X hX 0 rfl rfl bl_PX (bX hX)) (n := 1) (As := [.int pl]) (rest := []) rfl hl.1 rfl (Nat.le_of_ble_eq_true rfl) ⟨Nat.le_of_ble_eq_true rfl, Nat.le_of_ble_eq_true rfl⟩ dX3_urgencyOf_42) (fun r3 (e3 : r3 = woF σ nm ns pl 5) => ?_)
      subst e3
      refine lv_i2l (v := ((woF σ nm ns pl 5)).toInt64) hx hb dX3_urgencyOf_45 rfl ?_
      refine lv_lconst (v := 1) hx hb dX3_urgencyOf_46 (by decide) ?_
      refine lv_ladd hx hb dX3_urgencyOf_47 ?_
      refine lv_lload_n hx hb dX3_urgencyOf_48 rfl (lv_at hl 0 rfl) ?_
      refine lv_lmul hx hb dX3_urgencyOf_49 ?_
      exact W.lret (v := ((((woF σ nm ns pl 5)).toInt64) + 1) * ((((σ 16 0)).toInt64) + 1)) hx hb hr (fun t ht hW => ⟨_, rfl, (by simp [urV, hla, c11_2]), ht⟩) (fun q h => by cases h) dX3_urgencyOf_50
  · show W _ _ _ _ _ _ _ _ _ _ _ _ _ _ _ (F0 m 8 ls [.int (nI k)])
    have hkn := (latO_lt hla).1
    refine lv_istore_n (lv' := [(2, .int (nI k)), (0, .ref (ad 0)), (1, .int pl)]) hx hb dX3_urgencyOf_8 rfl hl (by decide) rfl (fun ls hl => ?_)
    refine lv_iload_n hx hb dX3_urgencyOf_9 rfl (lv_at hl 0 rfl) ?_
    refine lv_iconst (v := (-1)) hx hb dX3_urgencyOf_10 (by decide) ?_
    refine lv_icmp_ne (tgt := 24) hx hb dX3_urgencyOf_11 (by decide) (fun c11_4 => ?_) (fun c11_4 => ?_)
    · have bc11_4 := c11_4
      refine lv_aload_n hx hb dX3_urgencyOf_24 rfl (lv_at hl 1 rfl) ?_
      refine k_get S hX.2 hX.1 0 (C := RX3) (T := TX3) (N := 6) rfl rfl 5 (by decide) inX3 m_136 rfl dX3_urgencyOf_25 ?_
      refine lv_aload_n hx hb dX3_urgencyOf_28 rfl (lv_at hl 1 rfl) ?_
      refine k_get S hX.2 hX.1 0 (C := RX3) (T := TX3) (N := 6) rfl rfl 3 (by decide) inX3 m_134 rfl dX3_urgencyOf_29 ?_
      refine k_getN S hX.2 hX.1 4 (C := RX2) (T := TX2) (N := 4) rfl rfl 1 (by decide) inX2 n_81 rfl dX3_urgencyOf_32 ?_
      refine lv_iload_n hx hb dX3_urgencyOf_35 rfl (lv_at hl 0 rfl) ?_
      refine k_ild S hX.2 hX.1 12 (i := k) rfl (by omega) (by decide) dX3_urgencyOf_36 ?_
      refine lv_isub hx hb dX3_urgencyOf_37 ?_
      refine lv_i2l (v := (((σ 16 0) - (σ 8 k))).toInt64) hx hb dX3_urgencyOf_38 rfl ?_
      refine lv_lstore_n (lv' := [(3, .long ((((σ 16 0) - (σ 8 k))).toInt64)), (2, .int (nI k)), (0, .ref (ad 0)), (1, .int pl)]) hx hb dX3_urgencyOf_39 rfl hl (by decide) rfl (fun ls hl => ?_)
      refine lv_aload_n hx hb dX3_urgencyOf_40 rfl (lv_at hl 2 rfl) ?_
      refine lv_iload_n hx hb dX3_urgencyOf_41 rfl (lv_at hl 3 rfl) ?_
      refine q_i (r_V S ⟨m_171, m_173, m_3, m_23, m_174⟩ ⟨rfl, by decide, by decide, by decide +kernel⟩ (c_worthOf l G ad σ nm ns pl hns hns4 hnm hnm2) ⟨rfl, rfl, Nat.le_of_ble_eq_true rfl, Nat.le_of_ble_eq_true rfl⟩ (pv_X hX 0 rfl rfl bl_PX (bX hX)) (n := 1) (As := [.int pl]) (rest := []) rfl hl.1 rfl (Nat.le_of_ble_eq_true rfl) ⟨Nat.le_of_ble_eq_true rfl, Nat.le_of_ble_eq_true rfl⟩ dX3_urgencyOf_42) (fun r5 (e5 : r5 = woF σ nm ns pl 5) => ?_)
      subst e5
      refine lv_i2l (v := ((woF σ nm ns pl 5)).toInt64) hx hb dX3_urgencyOf_45 rfl ?_
      refine lv_lconst (v := 1) hx hb dX3_urgencyOf_46 (by decide) ?_
      refine lv_ladd hx hb dX3_urgencyOf_47 ?_
      refine lv_lload_n hx hb dX3_urgencyOf_48 rfl (lv_at hl 0 rfl) ?_
      refine lv_lmul hx hb dX3_urgencyOf_49 ?_
      exact W.lret (v := ((((woF σ nm ns pl 5)).toInt64) + 1) * ((((σ 16 0) - (σ 8 k))).toInt64)) hx hb hr (fun t ht hW => ⟨_, rfl, (by simp [urV, hla, c11_4]), ht⟩) (fun q h => by cases h) dX3_urgencyOf_50
    · have bc11_4 := c11_4
      exact absurd c11_4 (nI_m1 (by omega))
end
section
/-! THE CLASS's WRITERS: the rows behind them -/
def wrS (σ : kS) (k : Nat) (g : Int32) : kS := su (su (su σ 19 0 (σ 19 0 + 1)) 14 k (σ 19 0 + 1)) 15 k g
def adS (σ : kS) (k : Nat) (pe q9 : Int32) : kS := if bc (σ 10 k) = 0 then su (su σ 11 k q9) 10 k (σ 10 k ||| 1 <<< (pe &&& 31)) else if bc (σ 10 k) = 1 then (if σ 11 k = q9 then su (su (su σ 12 k q9) 13 k q9) 10 k (σ 10 k ||| 1 <<< (pe &&& 31)) else su (su (su σ 12 k q9) 13 k (-1)) 10 k (σ 10 k ||| 1 <<< (pe &&& 31))) else su (su σ 13 k (midV (σ 11 k) (σ 12 k) q9)) 10 k (σ 10 k ||| 1 <<< (pe &&& 31))
def mvS (σ : kS) (nm : Nat) (f9 t9 a9 q9 i9 : Int32) : kS := su (su (su (su (su (su σ 2 nm f9) 3 nm t9) 4 nm a9) 5 nm q9) 6 nm i9) 17 0 (σ 17 0 + 1)
def shS (σ : kS) (ns : Nat) (pl i9 : Int32) : kS := su (su (su σ 7 ns pl) 8 ns i9) 18 0 (σ 18 0 + 1)
set_option maxHeartbeats 4000000 in
set_option maxRecDepth 100000 in
theorem c_checkIndex (l : Launch) (i n : Int32) (hst : l.stackTraces = false) : vx_Met l yX3_checkIndex [.code yX3_checkIndex cX3_checkIndex 2 none] ({ frames := 6, cells := 1, slots := 6, locals := 92 }) (va_Pc [.int i, .int n] (fun U => GL U ∧ ZS U U.heap)) (rV (ckI i n = true)) (tX (fun x => x = exN 1 ∧ ckI i n = false)) 1 6 NF := by
  refine kx_of (by decide) (Nat.le_of_ble_eq_true rfl) (fun U h => h.1) ?_
  intro p e s m below meth c ls S hr hlocks ht hB hl
  have hx := S.1
  have hb := S.2.1
  have hG : GL s := hB.1
  have hZ : ZS s s.heap := hB.2
  have hl : lv_has ls 2 [(0, .int i), (1, .int n)] := hl
  refine lv_iload_n hx hb dX3_checkIndex_0 rfl (lv_at hl 0 rfl) ?_
  refine lv_if_lt (tgt := 9) hx hb dX3_checkIndex_1 (by decide) (fun c1_1 => ?_) (fun c1_1 => ?_)
  · have bc1_1 := lt_nle c1_1
    exact k_thr S hG hZ hst at_IO m_225 m_32 (by decide +kernel) n_267 hl.1 ht hlocks ⟨Nat.le_of_ble_eq_true rfl, Nat.le_of_ble_eq_true rfl⟩ ⟨Nat.le_of_ble_eq_true rfl, Nat.le_of_ble_eq_true rfl⟩ ⟨Nat.le_of_ble_eq_true rfl, Nat.le_of_ble_eq_true rfl⟩ (Nat.le_of_ble_eq_true rfl) (by simp [ckI, c1_1, bc1_1, exN]) dX3_checkIndex_9 dX3_checkIndex_12 dX3_checkIndex_13 dX3_checkIndex_15 dX3_checkIndex_18
  · have bc1_1 := nlt_le c1_1
    refine lv_iload_n hx hb dX3_checkIndex_4 rfl (lv_at hl 0 rfl) ?_
    refine lv_iload_n hx hb dX3_checkIndex_5 rfl (lv_at hl 1 rfl) ?_
    refine lv_icmp_lt (tgt := 19) hx hb dX3_checkIndex_6 (by decide) (fun c6_2 => ?_) (fun c6_2 => ?_)
    · have bc6_2 := lt_nle c6_2
      refine W.widen (k := 1) (n := 6) (Nat.le_of_ble_eq_true rfl) (Nat.le_of_ble_eq_true rfl) ?_
      refine vx_ret ?_
      exact W.vret hx hb hr (fun t ht hW => ⟨rfl, (by simp [ckI, c1_1, bc1_1, c6_2, bc6_2]), ht⟩) (fun q h => by cases h) dX3_checkIndex_19
    · have bc6_2 := nlt_le c6_2
      exact k_thr S hG hZ hst at_IO m_225 m_32 (by decide +kernel) n_267 hl.1 ht hlocks ⟨Nat.le_of_ble_eq_true rfl, Nat.le_of_ble_eq_true rfl⟩ ⟨Nat.le_of_ble_eq_true rfl, Nat.le_of_ble_eq_true rfl⟩ ⟨Nat.le_of_ble_eq_true rfl, Nat.le_of_ble_eq_true rfl⟩ (Nat.le_of_ble_eq_true rfl) (by simp [ckI, c1_1, bc1_1, c6_2, bc6_2, exN]) dX3_checkIndex_9 dX3_checkIndex_12 dX3_checkIndex_13 dX3_checkIndex_15 dX3_checkIndex_18

set_option maxHeartbeats 4000000 in
set_option maxRecDepth 100000 in
theorem c_checkRange (l : Launch) (v a b : Int32) (hst : l.stackTraces = false) : vx_Met l yX3_checkRange [.code yX3_checkRange cX3_checkRange 3 none] ({ frames := 6, cells := 1, slots := 6, locals := 92 }) (va_Pc [.int v, .int a, .int b] (fun U => GL U ∧ ZS U U.heap)) (rV (ckR v a b = true)) (tX (fun x => x = exN 2 ∧ ckR v a b = false)) 1 6 NF := by
  refine kx_of (by decide) (Nat.le_of_ble_eq_true rfl) (fun U h => h.1) ?_
  intro p e s m below meth c ls S hr hlocks ht hB hl
  have hx := S.1
  have hb := S.2.1
  have hG : GL s := hB.1
  have hZ : ZS s s.heap := hB.2
  have hl : lv_has ls 3 [(0, .int v), (1, .int a), (2, .int b)] := hl
  refine lv_iload_n hx hb dX3_checkRange_0 rfl (lv_at hl 0 rfl) ?_
  refine lv_iload_n hx hb dX3_checkRange_1 rfl (lv_at hl 1 rfl) ?_
  refine lv_icmp_lt (tgt := 10) hx hb dX3_checkRange_2 (by decide) (fun c2_1 => ?_) (fun c2_1 => ?_)
  · have bc2_1 := lt_nle c2_1
    exact k_thr S hG hZ hst at_IA m_446 m_33 (by decide +kernel) n_455 hl.1 ht hlocks ⟨Nat.le_of_ble_eq_true rfl, Nat.le_of_ble_eq_true rfl⟩ ⟨Nat.le_of_ble_eq_true rfl, Nat.le_of_ble_eq_true rfl⟩ ⟨Nat.le_of_ble_eq_true rfl, Nat.le_of_ble_eq_true rfl⟩ (Nat.le_of_ble_eq_true rfl) (by simp [ckR, c2_1, bc2_1, exN]) dX3_checkRange_10 dX3_checkRange_13 dX3_checkRange_14 dX3_checkRange_16 dX3_checkRange_19
  · have bc2_1 := nlt_le c2_1
    refine lv_iload_n hx hb dX3_checkRange_5 rfl (lv_at hl 0 rfl) ?_
    refine lv_iload_n hx hb dX3_checkRange_6 rfl (lv_at hl 2 rfl) ?_
    refine lv_icmp_le (tgt := 20) hx hb dX3_checkRange_7 (by decide) (fun c7_2 => ?_) (fun c7_2 => ?_)
    · have bc7_2 := le_nlt c7_2
      refine W.widen (k := 1) (n := 6) (Nat.le_of_ble_eq_true rfl) (Nat.le_of_ble_eq_true rfl) ?_
      refine vx_ret ?_
      exact W.vret hx hb hr (fun t ht hW => ⟨rfl, (by simp [ckR, c2_1, bc2_1, c7_2, bc7_2]), ht⟩) (fun q h => by cases h) dX3_checkRange_20
    · have bc7_2 := nle_lt c7_2
      exact k_thr S hG hZ hst at_IA m_446 m_33 (by decide +kernel) n_455 hl.1 ht hlocks ⟨Nat.le_of_ble_eq_true rfl, Nat.le_of_ble_eq_true rfl⟩ ⟨Nat.le_of_ble_eq_true rfl, Nat.le_of_ble_eq_true rfl⟩ ⟨Nat.le_of_ble_eq_true rfl, Nat.le_of_ble_eq_true rfl⟩ (Nat.le_of_ble_eq_true rfl) (by simp [ckR, c2_1, bc2_1, c7_2, bc7_2, exN]) dX3_checkRange_10 dX3_checkRange_13 dX3_checkRange_14 dX3_checkRange_16 dX3_checkRange_19

set_option maxHeartbeats 4000000 in
set_option maxRecDepth 100000 in
theorem c_checkPlace (l : Launch) (i : Int32) (hst : l.stackTraces = false) : vx_Met l yX3_checkPlaceOrOutside [.code yX3_checkPlaceOrOutside cX3_checkPlaceOrOutside 1 none] ({ frames := 7, cells := 1, slots := 6, locals := 113 }) (va_Pc [.int i] (fun U => GL U ∧ ZS U U.heap)) (rV (ckP i = true)) (tX (fun x => x = exN 1 ∧ ckP i = false)) 1 6 NF := by
  refine kx_of (by decide) (Nat.le_of_ble_eq_true rfl) (fun U h => h.1) ?_
  intro p e s m below meth c ls S hr hlocks ht hB hl
  have hx := S.1
  have hb := S.2.1
  have hG : GL s := hB.1
  have hZ : ZS s s.heap := hB.2
  have hl : lv_has ls 1 [(0, .int i)] := hl
  refine lv_iload_n hx hb dX3_checkPlaceOrOutside_0 rfl (lv_at hl 0 rfl) ?_
  refine lv_iconst (v := (-1)) hx hb dX3_checkPlaceOrOutside_1 (by decide) ?_
  refine lv_icmp_eq (tgt := 11) hx hb dX3_checkPlaceOrOutside_2 (by decide) (fun c2_1 => ?_) (fun c2_1 => ?_)
  · have bc2_1 := c2_1
    refine W.widen (k := 1) (n := 6) (Nat.le_of_ble_eq_true rfl) (Nat.le_of_ble_eq_true rfl) ?_
    refine vx_ret ?_
    exact W.vret hx hb hr (fun t ht hW => ⟨rfl, (by simp [ckP, c2_1]), ht⟩) (fun q h => by cases h) dX3_checkPlaceOrOutside_11
  · have bc2_1 := c2_1
    refine lv_iload_n hx hb dX3_checkPlaceOrOutside_5 rfl (lv_at hl 0 rfl) ?_
    refine lv_bipush (v := 12) hx hb dX3_checkPlaceOrOutside_6 (by decide) ?_
    refine q_xv (rx_S S ⟨m_222, m_223, m_23, m_224⟩ ⟨rfl, by decide, by decide, by decide +kernel⟩ (c_checkIndex l i 12 hst) ⟨rfl, rfl, Nat.le_of_ble_eq_true rfl, Nat.le_of_ble_eq_true rfl⟩ (ps bl_GZ (bGZ hG hZ)) (n := 2) (As := [.int i, .int 12]) (rest := []) rfl hl.1 rfl (Nat.le_of_ble_eq_true rfl) ⟨Nat.le_of_ble_eq_true rfl, Nat.le_of_ble_eq_true rfl⟩ dX3_checkPlaceOrOutside_8) ht hlocks (by rintro x ⟨rfl, hf2⟩; simp [ckP, hf2, c2_1]) (Nat.le_of_ble_eq_true rfl) (Nat.le_of_ble_eq_true rfl) (fun (p2 : ckI i 12 = true) => ?_)
    refine vx_ret ?_
    exact W.vret hx hb hr (fun t ht hW => ⟨rfl, (by simp [ckP, c2_1, p2]), ht⟩) (fun q h => by cases h) dX3_checkPlaceOrOutside_11

set_option maxHeartbeats 4000000 in
set_option maxRecDepth 100000 in
theorem c_checkLine (l : Launch) (G : kG) (ad : Nat → Nat) (σ : kS) (sh ar : Int32) (hst : l.stackTraces = false) : vx_Met l yX3_checkLine [.code yX3_checkLine cX3_checkLine 3 none] ({ frames := 7, cells := 2, slots := 12, locals := 113 }) (va_Pc [.ref (ad 0), .int sh, .int ar] (fun U => PX G ad σ U U.heap ∧ ZS U U.heap)) (rV ((ckI sh (σ 18 0) && ckI ar 5) = true)) (tX (fun x => x = exN 1 ∧ (ckI sh (σ 18 0) && ckI ar 5) = false)) 2 12 NF := by
  refine kx_of (by decide) (Nat.le_of_ble_eq_true rfl) (fun U h => h.1.2.2) ?_
  intro p e s m below meth c ls S hr hlocks ht hB hl
  have hx := S.1
  have hb := S.2.1
  have hX : PX G ad σ s s.heap := hB.1
  have hG : GL s := hX.2.2
  have hZ : ZS s s.heap := hB.2
  have hl : lv_has ls 3 [(0, .ref (ad 0)), (1, .int sh), (2, .int ar)] := hl
  refine lv_iload_n hx hb dX3_checkLine_0 rfl (lv_at hl 1 rfl) ?_
  refine lv_aload_n hx hb dX3_checkLine_1 rfl (lv_at hl 0 rfl) ?_
  refine k_get S hX.2 hX.1 0 (C := RX3) (T := TX3) (N := 6) rfl rfl 3 (by decide) inX3 m_134 rfl dX3_checkLine_2 ?_
  refine k_getN S hX.2 hX.1 4 (C := RX2) (T := TX2) (N := 4) rfl rfl 3 (by decide) inX2 n_85 rfl dX3_checkLine_5 ?_
  refine q_xv (rx_S S ⟨m_222, m_223, m_23, m_224⟩ ⟨rfl, by decide, by decide, by decide +kernel⟩ (c_checkIndex l sh (σ 18 0) hst) ⟨rfl, rfl, Nat.le_of_ble_eq_true rfl, Nat.le_of_ble_eq_true rfl⟩ (ps bl_GZ (bGZ hX.2.2 hZ)) (n := 2) (As := [.int sh, .int (σ 18 0)]) (rest := []) rfl hl.1 rfl (Nat.le_of_ble_eq_true rfl) ⟨Nat.le_of_ble_eq_true rfl, Nat.le_of_ble_eq_true rfl⟩ dX3_checkLine_8) ht hlocks (by rintro x ⟨rfl, hf1⟩; simp [exN, hf1, exN]) (Nat.le_of_ble_eq_true rfl) (Nat.le_of_ble_eq_true rfl) (fun (p1 : ckI sh (σ 18 0) = true) => ?_)
  refine lv_iload_n hx hb dX3_checkLine_11 rfl (lv_at hl 2 rfl) ?_
  refine lv_iconst (v := 5) hx hb dX3_checkLine_12 (by decide) ?_
  refine q_xv (rx_S S ⟨m_222, m_223, m_23, m_224⟩ ⟨rfl, by decide, by decide, by decide +kernel⟩ (c_checkIndex l ar 5 hst) ⟨rfl, rfl, Nat.le_of_ble_eq_true rfl, Nat.le_of_ble_eq_true rfl⟩ (ps bl_GZ (bGZ hX.2.2 hZ)) (n := 2) (As := [.int ar, .int 5]) (rest := []) rfl hl.1 rfl (Nat.le_of_ble_eq_true rfl) ⟨Nat.le_of_ble_eq_true rfl, Nat.le_of_ble_eq_true rfl⟩ dX3_checkLine_13) ht hlocks (by rintro x ⟨rfl, hf2⟩; simp [exN, p1, hf2, exN]) (Nat.le_of_ble_eq_true rfl) (Nat.le_of_ble_eq_true rfl) (fun (p2 : ckI ar 5 = true) => ?_)
  refine vx_ret ?_
  exact W.vret hx hb hr (fun t ht hW => ⟨rfl, (by simp [exN, p1, p2]), ht⟩) (fun q h => by cases h) dX3_checkLine_16

set_option maxHeartbeats 4000000 in
set_option maxRecDepth 100000 in
theorem c_checkAgrees (l : Launch) (G : kG) (ad : Nat → Nat) (σ : kS) (sh ar : Nat) (hst : l.stackTraces = false) (hsh : sh < 40) (har : ar < 5) : vx_Met l yX3_checkAgrees [.code yX3_checkAgrees cX3_checkAgrees 3 none] ({ frames := 6, cells := 1, slots := 6, locals := 92 }) (va_Pc [.ref (ad 0), .int (nI sh), .int (nI ar)] (fun U => PX G ad σ U U.heap ∧ ZS U U.heap)) (rV (agB σ (sh * 5 + ar) = true)) (tX (fun x => x = exN 4 ∧ agB σ (sh * 5 + ar) = false)) 1 6 NF := by
  refine kx_of (by decide) (Nat.le_of_ble_eq_true rfl) (fun U h => h.1.2.2) ?_
  intro p e s m below meth c ls S hr hlocks ht hB hl
  have hx := S.1
  have hb := S.2.1
  have hX : PX G ad σ s s.heap := hB.1
  have hG : GL s := hX.2.2
  have hZ : ZS s s.heap := hB.2
  have hl : lv_has ls 3 [(0, .ref (ad 0)), (1, .int (nI sh)), (2, .int (nI ar))] := hl
  refine lv_aload_n hx hb dX3_checkAgrees_0 rfl (lv_at hl 0 rfl) ?_
  refine k_get S hX.2 hX.1 0 (C := RX3) (T := TX3) (N := 6) rfl rfl 4 (by decide) inX3 m_135 rfl dX3_checkAgrees_1 ?_
  refine lv_iload_n hx hb dX3_checkAgrees_4 rfl (lv_at hl 1 rfl) ?_
  refine lv_iload_n hx hb dX3_checkAgrees_5 rfl (lv_at hl 2 rfl) ?_
  refine q_i (r_S S ⟨m_183, m_184, m_23, m_185⟩ ⟨rfl, by decide, by decide, by decide +kernel⟩ (c_lineOf l sh ar) ⟨rfl, rfl, Nat.le_of_ble_eq_true rfl, Nat.le_of_ble_eq_true rfl⟩ (ps bl_GL (bG hX.2.2)) (n := 2) (As := [.int (nI sh), .int (nI ar)]) (rest := [.ref (ad 5)]) rfl hl.1 rfl (Nat.le_of_ble_eq_true rfl) ⟨Nat.le_of_ble_eq_true rfl, Nat.le_of_ble_eq_true rfl⟩ dX3_checkAgrees_6) (fun r1 (e1 : r1 = nI (sh * 5 + ar)) => ?_)
  subst e1
  refine q_i (r_VN S hX.2.2 ⟨n_358, m_360, m_14, m_26, m_361⟩ ⟨rfl, by decide, by decide, by decide +kernel⟩ (c_agrees l G ad σ (sh * 5 + ar) (by omega)) ⟨rfl, rfl, Nat.le_of_ble_eq_true rfl, Nat.le_of_ble_eq_true rfl⟩ (pv_X hX 5 rfl rfl bl_PX (bX hX)) (n := 1) (As := [.int (nI (sh * 5 + ar))]) (rest := []) rfl hl.1 rfl (Nat.le_of_ble_eq_true rfl) ⟨Nat.le_of_ble_eq_true rfl, Nat.le_of_ble_eq_true rfl⟩ dX3_checkAgrees_9) (fun r2 (e2 : r2 = bI (agB σ (sh * 5 + ar))) => ?_)
  subst e2
  refine lv_if_ne (tgt := 25) hx hb dX3_checkAgrees_12 (by decide) (fun c12_3 => ?_) (fun c12_3 => ?_)
  · have bc12_3 := bI_n c12_3
    refine W.widen (k := 1) (n := 6) (Nat.le_of_ble_eq_true rfl) (Nat.le_of_ble_eq_true rfl) ?_
    refine vx_ret ?_
    exact W.vret hx hb hr (fun t ht hW => ⟨rfl, bc12_3, ht⟩) (fun q h => by cases h) dX3_checkAgrees_25
  · have bc12_3 := bI_0 c12_3
    exact k_thrN S hG hZ hst at_NS m_378 m_36 (by decide +kernel) n_387 hl.1 ht hlocks ⟨Nat.le_of_ble_eq_true rfl, Nat.le_of_ble_eq_true rfl⟩ ⟨Nat.le_of_ble_eq_true rfl, Nat.le_of_ble_eq_true rfl⟩ ⟨Nat.le_of_ble_eq_true rfl, Nat.le_of_ble_eq_true rfl⟩ (Nat.le_of_ble_eq_true rfl) ⟨rfl, bc12_3⟩ dX3_checkAgrees_15 dX3_checkAgrees_18 dX3_checkAgrees_19 dX3_checkAgrees_21 dX3_checkAgrees_24

set_option maxHeartbeats 4000000 in
set_option maxRecDepth 100000 in
theorem c_write (l : Launch) (G : kG) (ad : Nat → Nat) (σ : kS) (k : Nat) (g : Int32) (hk : k < 200) (A : Nat → Prop) (hD : DD 20 A ad) : Met l yX0_write [.code yX0_write cX0_write 3 none] ({ frames := 1, cells := 0, slots := 0, locals := 40 }) (va_Pc [.ref (ad 5), .int (nI k), .int g] (fun U => PX G ad σ U U.heap)) (oV A True (fun H9 => va_P G.1 vwCl (wX G ad (wrS σ k g)) H9)) 0 0 A := by
  refine k_of (by decide) (Nat.le_of_ble_eq_true rfl) (fun U h => h.2.2) ?_
  intro p e s m below meth c ls S hr hlocks hmn hB hl
  have hx := S.1
  have hb := S.2.1
  have hX : PX G ad σ s s.heap := hB
  have hS0 : va_S A s.heap s.heap [] := va_S.rf
  have hl : lv_has ls 3 [(0, .ref (ad 5)), (1, .int (nI k)), (2, .int g)] := hl
  refine lv_aload_n hx hb dX0_write_0 rfl (lv_at hl 0 rfl) ?_
  refine lv_dup hx hb dX0_write_1 rfl ?_
  refine k_get S hX.2 hX.1 5 (C := RX0) (T := TX0) (N := 7) rfl rfl 6 (by decide) inX0 m_114 rfl dX0_write_2 ?_
  refine lv_iconst (v := 1) hx hb dX0_write_5 (by decide) ?_
  refine lv_iadd hx hb dX0_write_6 ?_
  refine k_put S hX.2 hX.1 (hD.w (wX_fst _ _ _)) hS0 5 (C := RX0) (T := TX0) (N := 7) rfl rfl 6 (by decide) inX0 tyX0 tyX0_ok nmX0 rfl rfl m_114 (Nat.le_of_ble_eq_true rfl) dX0_write_7 (fun H1 L1 h1 hS1 => ?_)
  have hX1 : PX G ad (su σ 19 0 ((σ 19 0) + 1)) s H1 := ⟨h1, hX.2⟩
  refine lv_aload_n hx hb dX0_write_10 rfl (lv_at hl 0 rfl) ?_
  refine k_get S hX1.2 hX1.1 5 (C := RX0) (T := TX0) (N := 7) rfl rfl 4 (by decide) inX0 m_110 rfl dX0_write_11 ?_
  refine lv_iload_n hx hb dX0_write_14 rfl (lv_at hl 1 rfl) ?_
  refine lv_aload_n hx hb dX0_write_15 rfl (lv_at hl 0 rfl) ?_
  refine k_get S hX1.2 hX1.1 5 (C := RX0) (T := TX0) (N := 7) rfl rfl 6 (by decide) inX0 m_114 rfl dX0_write_16 ?_
  refine k_eq (y := (σ 19 0) + 1) (by rfl) ?_
  refine k_ist S hX1.2 hX1.1 (hD.w (wX_fst _ _ _)) hS1 18 (i := k) rfl (by omega) (by decide) dX0_write_19 (fun H2 L2 h2 hS2 => ?_)
  have hX2 : PX G ad (su (su σ 19 0 ((σ 19 0) + 1)) 14 k ((σ 19 0) + 1)) s H2 := ⟨h2, hX1.2⟩
  refine lv_aload_n hx hb dX0_write_20 rfl (lv_at hl 0 rfl) ?_
  refine k_get S hX2.2 hX2.1 5 (C := RX0) (T := TX0) (N := 7) rfl rfl 5 (by decide) inX0 m_112 rfl dX0_write_21 ?_
  refine lv_iload_n hx hb dX0_write_24 rfl (lv_at hl 1 rfl) ?_
  refine lv_iload_n hx hb dX0_write_25 rfl (lv_at hl 2 rfl) ?_
  refine k_ist S hX2.2 hX2.1 (hD.w (wX_fst _ _ _)) hS2 19 (i := k) rfl (by omega) (by decide) dX0_write_26 (fun H3 L3 h3 hS3 => ?_)
  have hX3 : PX G ad (su (su (su σ 19 0 ((σ 19 0) + 1)) 14 k ((σ 19 0) + 1)) 15 k g) s H3 := ⟨h3, hX2.2⟩
  exact W.vret hx hb hr (fun t ht hW => ⟨rfl, trivial, (by have e9 : wrS σ k g = su (su (su σ 19 0 ((σ 19 0) + 1)) 14 k ((σ 19 0) + 1)) 15 k g := (by first | rfl | simp [wrS]); show va_P G.1 vwCl (wX G ad (wrS σ k g)) t.heap; rw [e9, ht]; exact hX3.1), hS3.F ht⟩) hS3.2.2 dX0_write_27

set_option maxHeartbeats 4000000 in
set_option maxRecDepth 100000 in
theorem c_lineAdd (l : Launch) (G : kG) (ad : Nat → Nat) (σ : kS) (k : Nat) (pe q9 : Int32) (hk : k < 200) (A : Nat → Prop) (hD : DD 20 A ad) : Met l yX0_add [.code yX0_add cX0_add 5 none] ({ frames := 3, cells := 0, slots := 0, locals := 83 }) (va_Pc [.ref (ad 5), .int (nI k), .int pe, .int q9] (fun U => PX G ad σ U U.heap)) (oV A True (fun H9 => va_P G.1 vwCl (wX G ad (adS σ k pe q9)) H9)) 0 0 A := by
  refine k_of (by decide) (Nat.le_of_ble_eq_true rfl) (fun U h => h.2.2) ?_
  intro p e s m below meth c ls S hr hlocks hmn hB hl
  have hx := S.1
  have hb := S.2.1
  have hX : PX G ad σ s s.heap := hB
  have hS0 : va_S A s.heap s.heap [] := va_S.rf
  have hl : lv_has ls 5 [(0, .ref (ad 5)), (1, .int (nI k)), (2, .int pe), (3, .int q9)] := hl
  refine lv_aload_n hx hb dX0_add_0 rfl (lv_at hl 0 rfl) ?_
  refine lv_iload_n hx hb dX0_add_1 rfl (lv_at hl 1 rfl) ?_
  refine q_i (r_V S ⟨m_565, m_328, m_11, m_26, m_329⟩ ⟨rfl, by decide, by decide, by decide +kernel⟩ (c_countsOn l G ad σ k (by omega)) ⟨rfl, rfl, Nat.le_of_ble_eq_true rfl, Nat.le_of_ble_eq_true rfl⟩ (pv_X hX 5 rfl rfl bl_PX (bX hX)) (n := 1) (As := [.int (nI k)]) (rest := []) rfl hl.1 rfl (Nat.le_of_ble_eq_true rfl) ⟨Nat.le_of_ble_eq_true rfl, Nat.le_of_ble_eq_true rfl⟩ dX0_add_2) (fun r1 (e1 : r1 = bc (σ 10 k)) => ?_)
  subst e1
  refine lv_istore (lv' := [(4, .int (bc (σ 10 k))), (0, .ref (ad 5)), (1, .int (nI k)), (2, .int pe), (3, .int q9)]) hx hb dX0_add_5 hl (by decide) rfl (fun ls hl => ?_)
  refine lv_iload hx hb dX0_add_7 (lv_at hl 0 rfl) ?_
  refine lv_if_ne (tgt := 22) hx hb dX0_add_9 (by decide) (fun c9_2 => ?_) (fun c9_2 => ?_)
  · have bc9_2 := c9_2
    refine lv_iload hx hb dX0_add_22 (lv_at hl 0 rfl) ?_
    refine lv_iconst (v := 1) hx hb dX0_add_24 (by decide) ?_
    refine lv_icmp_ne (tgt := 59) hx hb dX0_add_25 (by decide) (fun c25_3 => ?_) (fun c25_3 => ?_)
    · have bc25_3 := c25_3
      refine lv_aload_n hx hb dX0_add_59 rfl (lv_at hl 1 rfl) ?_
      refine k_get S hX.2 hX.1 5 (C := RX0) (T := TX0) (N := 7) rfl rfl 3 (by decide) inX0 m_108 rfl dX0_add_60 ?_
      refine lv_iload_n hx hb dX0_add_63 rfl (lv_at hl 2 rfl) ?_
      refine lv_aload_n hx hb dX0_add_64 rfl (lv_at hl 1 rfl) ?_
      refine k_get S hX.2 hX.1 5 (C := RX0) (T := TX0) (N := 7) rfl rfl 1 (by decide) inX0 m_106 rfl dX0_add_65 ?_
      refine lv_iload_n hx hb dX0_add_68 rfl (lv_at hl 2 rfl) ?_
      refine k_ild S hX.2 hX.1 15 (i := k) rfl (by omega) (by decide) dX0_add_69 ?_
      refine lv_aload_n hx hb dX0_add_70 rfl (lv_at hl 1 rfl) ?_
      refine k_get S hX.2 hX.1 5 (C := RX0) (T := TX0) (N := 7) rfl rfl 2 (by decide) inX0 m_107 rfl dX0_add_71 ?_
      refine lv_iload_n hx hb dX0_add_74 rfl (lv_at hl 2 rfl) ?_
      refine k_ild S hX.2 hX.1 16 (i := k) rfl (by omega) (by decide) dX0_add_75 ?_
      refine lv_iload_n hx hb dX0_add_76 rfl (lv_at hl 4 rfl) ?_
      refine q_i (r_S S ⟨m_566, m_567, m_26, m_568⟩ ⟨rfl, by decide, by decide, by decide +kernel⟩ (c_middleOf l (σ 11 k) (σ 12 k) q9) ⟨rfl, rfl, Nat.le_of_ble_eq_true rfl, Nat.le_of_ble_eq_true rfl⟩ (ps bl_GL (bG hX.2.2)) (n := 3) (As := [.int (σ 11 k), .int (σ 12 k), .int q9]) (rest := [.int (nI k), .ref (ad 17)]) rfl hl.1 rfl (Nat.le_of_ble_eq_true rfl) ⟨Nat.le_of_ble_eq_true rfl, Nat.le_of_ble_eq_true rfl⟩ dX0_add_77) (fun r4 (e4 : r4 = midV (σ 11 k) (σ 12 k) q9) => ?_)
      subst e4
      refine k_ist S hX.2 hX.1 (hD.w (wX_fst _ _ _)) hS0 17 (i := k) rfl (by omega) (by decide) dX0_add_80 (fun H5 L5 h5 hS5 => ?_)
      have hX5 : PX G ad (su σ 13 k (midV (σ 11 k) (σ 12 k) q9)) s H5 := ⟨h5, hX.2⟩
      refine lv_aload_n hx hb dX0_add_81 rfl (lv_at hl 1 rfl) ?_
      refine k_get S hX5.2 hX5.1 5 (C := RX0) (T := TX0) (N := 7) rfl rfl 0 (by decide) inX0 m_105 rfl dX0_add_82 ?_
      refine lv_iload_n hx hb dX0_add_85 rfl (lv_at hl 2 rfl) ?_
      refine lv_dup2_11 hx hb dX0_add_86 rfl rfl ?_
      refine k_ild S hX5.2 hX5.1 14 (i := k) rfl (by omega) (by decide) dX0_add_87 ?_
      refine k_eq (y := σ 10 k) (by rfl) ?_
      refine k_eq (y := σ 10 k) (rfl) ?_
      refine lv_iconst (v := 1) hx hb dX0_add_88 (by decide) ?_
      refine lv_iload_n hx hb dX0_add_89 rfl (lv_at hl 3 rfl) ?_
      refine lv_ishl hx hb dX0_add_90 ?_
      refine lv_ior hx hb dX0_add_91 ?_
      refine k_ist S hX5.2 hX5.1 (hD.w (wX_fst _ _ _)) hS5 14 (i := k) rfl (by omega) (by decide) dX0_add_92 (fun H6 L6 h6 hS6 => ?_)
      have hX6 : PX G ad (su (su σ 13 k (midV (σ 11 k) (σ 12 k) q9)) 10 k ((σ 10 k) ||| (1 <<< (pe &&& 31)))) s H6 := ⟨h6, hX5.2⟩
      exact W.vret hx hb hr (fun t ht hW => ⟨rfl, trivial, (by have e9 : adS σ k pe q9 = su (su σ 13 k (midV (σ 11 k) (σ 12 k) q9)) 10 k ((σ 10 k) ||| (1 <<< (pe &&& 31))) := (by first | rfl | simp [adS, c9_2, c25_3]); show va_P G.1 vwCl (wX G ad (adS σ k pe q9)) t.heap; rw [e9, ht]; exact hX6.1), hS6.F ht⟩) hS6.2.2 dX0_add_93
    · have bc25_3 := c25_3
      refine lv_aload_n hx hb dX0_add_28 rfl (lv_at hl 1 rfl) ?_
      refine k_get S hX.2 hX.1 5 (C := RX0) (T := TX0) (N := 7) rfl rfl 2 (by decide) inX0 m_107 rfl dX0_add_29 ?_
      refine lv_iload_n hx hb dX0_add_32 rfl (lv_at hl 2 rfl) ?_
      refine lv_iload_n hx hb dX0_add_33 rfl (lv_at hl 4 rfl) ?_
      refine k_ist S hX.2 hX.1 (hD.w (wX_fst _ _ _)) hS0 16 (i := k) rfl (by omega) (by decide) dX0_add_34 (fun H7 L7 h7 hS7 => ?_)
      have hX7 : PX G ad (su σ 12 k q9) s H7 := ⟨h7, hX.2⟩
      refine lv_aload_n hx hb dX0_add_35 rfl (lv_at hl 1 rfl) ?_
      refine k_get S hX7.2 hX7.1 5 (C := RX0) (T := TX0) (N := 7) rfl rfl 3 (by decide) inX0 m_108 rfl dX0_add_36 ?_
      refine lv_iload_n hx hb dX0_add_39 rfl (lv_at hl 2 rfl) ?_
      refine lv_aload_n hx hb dX0_add_40 rfl (lv_at hl 1 rfl) ?_
      refine k_get S hX7.2 hX7.1 5 (C := RX0) (T := TX0) (N := 7) rfl rfl 1 (by decide) inX0 m_106 rfl dX0_add_41 ?_
      refine lv_iload_n hx hb dX0_add_44 rfl (lv_at hl 2 rfl) ?_
      refine k_ild S hX7.2 hX7.1 15 (i := k) rfl (by omega) (by decide) dX0_add_45 ?_
      refine k_eq (y := σ 11 k) (by rfl) ?_
      refine k_eq (y := σ 11 k) (rfl) ?_
      refine lv_iload_n hx hb dX0_add_46 rfl (lv_at hl 4 rfl) ?_
      refine lv_icmp_ne (tgt := 54) hx hb dX0_add_47 (by decide) (fun c47_8 => ?_) (fun c47_8 => ?_)
      · have bc47_8 := c47_8
        refine lv_iconst (v := (-1)) hx hb dX0_add_54 (by decide) ?_
        refine k_ist S hX7.2 hX7.1 (hD.w (wX_fst _ _ _)) hS7 17 (i := k) rfl (by omega) (by decide) dX0_add_55 (fun H9 L9 h9 hS9 => ?_)
        have hX9 : PX G ad (su (su σ 12 k q9) 13 k (-1)) s H9 := ⟨h9, hX7.2⟩
        refine lv_goto (tgt := 81) hx hb dX0_add_56 (by decide) ?_
        refine lv_aload_n hx hb dX0_add_81 rfl (lv_at hl 1 rfl) ?_
        refine k_get S hX9.2 hX9.1 5 (C := RX0) (T := TX0) (N := 7) rfl rfl 0 (by decide) inX0 m_105 rfl dX0_add_82 ?_
        refine lv_iload_n hx hb dX0_add_85 rfl (lv_at hl 2 rfl) ?_
        refine lv_dup2_11 hx hb dX0_add_86 rfl rfl ?_
        refine k_ild S hX9.2 hX9.1 14 (i := k) rfl (by omega) (by decide) dX0_add_87 ?_
        refine k_eq (y := σ 10 k) (by rfl) ?_
        refine k_eq (y := σ 10 k) (rfl) ?_
        refine lv_iconst (v := 1) hx hb dX0_add_88 (by decide) ?_
        refine lv_iload_n hx hb dX0_add_89 rfl (lv_at hl 3 rfl) ?_
        refine lv_ishl hx hb dX0_add_90 ?_
        refine lv_ior hx hb dX0_add_91 ?_
        refine k_ist S hX9.2 hX9.1 (hD.w (wX_fst _ _ _)) hS9 14 (i := k) rfl (by omega) (by decide) dX0_add_92 (fun H10 L10 h10 hS10 => ?_)
        have hX10 : PX G ad (su (su (su σ 12 k q9) 13 k (-1)) 10 k ((σ 10 k) ||| (1 <<< (pe &&& 31)))) s H10 := ⟨h10, hX9.2⟩
        exact W.vret hx hb hr (fun t ht hW => ⟨rfl, trivial, (by have e9 : adS σ k pe q9 = su (su (su σ 12 k q9) 13 k (-1)) 10 k ((σ 10 k) ||| (1 <<< (pe &&& 31))) := (by first | rfl | simp [adS, c9_2, c25_3, c47_8]); show va_P G.1 vwCl (wX G ad (adS σ k pe q9)) t.heap; rw [e9, ht]; exact hX10.1), hS10.F ht⟩) hS10.2.2 dX0_add_93
      · have bc47_8 := c47_8
        refine lv_iload_n hx hb dX0_add_50 rfl (lv_at hl 4 rfl) ?_
        refine lv_goto (tgt := 55) hx hb dX0_add_51 (by decide) ?_
        refine k_ist S hX7.2 hX7.1 (hD.w (wX_fst _ _ _)) hS7 17 (i := k) rfl (by omega) (by decide) dX0_add_55 (fun H11 L11 h11 hS11 => ?_)
        have hX11 : PX G ad (su (su σ 12 k q9) 13 k q9) s H11 := ⟨h11, hX7.2⟩
        refine lv_goto (tgt := 81) hx hb dX0_add_56 (by decide) ?_
        refine lv_aload_n hx hb dX0_add_81 rfl (lv_at hl 1 rfl) ?_
        refine k_get S hX11.2 hX11.1 5 (C := RX0) (T := TX0) (N := 7) rfl rfl 0 (by decide) inX0 m_105 rfl dX0_add_82 ?_
        refine lv_iload_n hx hb dX0_add_85 rfl (lv_at hl 2 rfl) ?_
        refine lv_dup2_11 hx hb dX0_add_86 rfl rfl ?_
        refine k_ild S hX11.2 hX11.1 14 (i := k) rfl (by omega) (by decide) dX0_add_87 ?_
        refine k_eq (y := σ 10 k) (by rfl) ?_
        refine k_eq (y := σ 10 k) (rfl) ?_
        refine lv_iconst (v := 1) hx hb dX0_add_88 (by decide) ?_
        refine lv_iload_n hx hb dX0_add_89 rfl (lv_at hl 3 rfl) ?_
        refine lv_ishl hx hb dX0_add_90 ?_
        refine lv_ior hx hb dX0_add_91 ?_
        refine k_ist S hX11.2 hX11.1 (hD.w (wX_fst _ _ _)) hS11 14 (i := k) rfl (by omega) (by decide) dX0_add_92 (fun H12 L12 h12 hS12 => ?_)
        have hX12 : PX G ad (su (su (su σ 12 k q9) 13 k q9) 10 k ((σ 10 k) ||| (1 <<< (pe &&& 31)))) s H12 := ⟨h12, hX11.2⟩
        exact W.vret hx hb hr (fun t ht hW => ⟨rfl, trivial, (by have e9 : adS σ k pe q9 = su (su (su σ 12 k q9) 13 k q9) 10 k ((σ 10 k) ||| (1 <<< (pe &&& 31))) := (by first | rfl | simp [adS, c9_2, c25_3, c47_8]); show va_P G.1 vwCl (wX G ad (adS σ k pe q9)) t.heap; rw [e9, ht]; exact hX12.1), hS12.F ht⟩) hS12.2.2 dX0_add_93
  · have bc9_2 := c9_2
    refine lv_aload_n hx hb dX0_add_12 rfl (lv_at hl 1 rfl) ?_
    refine k_get S hX.2 hX.1 5 (C := RX0) (T := TX0) (N := 7) rfl rfl 1 (by decide) inX0 m_106 rfl dX0_add_13 ?_
    refine lv_iload_n hx hb dX0_add_16 rfl (lv_at hl 2 rfl) ?_
    refine lv_iload_n hx hb dX0_add_17 rfl (lv_at hl 4 rfl) ?_
    refine k_ist S hX.2 hX.1 (hD.w (wX_fst _ _ _)) hS0 15 (i := k) rfl (by omega) (by decide) dX0_add_18 (fun H13 L13 h13 hS13 => ?_)
    have hX13 : PX G ad (su σ 11 k q9) s H13 := ⟨h13, hX.2⟩
    refine lv_goto (tgt := 81) hx hb dX0_add_19 (by decide) ?_
    refine lv_aload_n hx hb dX0_add_81 rfl (lv_at hl 1 rfl) ?_
    refine k_get S hX13.2 hX13.1 5 (C := RX0) (T := TX0) (N := 7) rfl rfl 0 (by decide) inX0 m_105 rfl dX0_add_82 ?_
    refine lv_iload_n hx hb dX0_add_85 rfl (lv_at hl 2 rfl) ?_
    refine lv_dup2_11 hx hb dX0_add_86 rfl rfl ?_
    refine k_ild S hX13.2 hX13.1 14 (i := k) rfl (by omega) (by decide) dX0_add_87 ?_
    refine k_eq (y := σ 10 k) (by rfl) ?_
    refine k_eq (y := σ 10 k) (rfl) ?_
    refine lv_iconst (v := 1) hx hb dX0_add_88 (by decide) ?_
    refine lv_iload_n hx hb dX0_add_89 rfl (lv_at hl 3 rfl) ?_
    refine lv_ishl hx hb dX0_add_90 ?_
    refine lv_ior hx hb dX0_add_91 ?_
    refine k_ist S hX13.2 hX13.1 (hD.w (wX_fst _ _ _)) hS13 14 (i := k) rfl (by omega) (by decide) dX0_add_92 (fun H14 L14 h14 hS14 => ?_)
    have hX14 : PX G ad (su (su σ 11 k q9) 10 k ((σ 10 k) ||| (1 <<< (pe &&& 31)))) s H14 := ⟨h14, hX13.2⟩
    exact W.vret hx hb hr (fun t ht hW => ⟨rfl, trivial, (by have e9 : adS σ k pe q9 = su (su σ 11 k q9) 10 k ((σ 10 k) ||| (1 <<< (pe &&& 31))) := (by first | rfl | simp [adS, c9_2]); show va_P G.1 vwCl (wX G ad (adS σ k pe q9)) t.heap; rw [e9, ht]; exact hX14.1), hS14.F ht⟩) hS14.2.2 dX0_add_93

set_option maxHeartbeats 4000000 in
set_option maxRecDepth 100000 in
theorem c_moveAdd (l : Launch) (G : kG) (ad : Nat → Nat) (σ : kS) (nm : Nat) (f9 t9 a9 q9 i9 : Int32) (hnm : σ 17 0 = nI nm) (hnm2 : nm < 200) (A : Nat → Prop) (hD : DD 20 A ad) : Met l yX1_add [.code yX1_add cX1_add 7 (some .int)] ({ frames := 1, cells := 0, slots := 0, locals := 40 }) (va_Pc [.ref (ad 3), .int f9, .int t9, .int a9, .int q9, .int i9] (fun U => PX G ad σ U U.heap)) (oW A (fun r => r = nI nm) (fun H9 => va_P G.1 vwCl (wX G ad (mvS σ nm f9 t9 a9 q9 i9)) H9)) 0 0 A := by
  refine k_of (by decide) (Nat.le_of_ble_eq_true rfl) (fun U h => h.2.2) ?_
  intro p e s m below meth c ls S hr hlocks hmn hB hl
  have hx := S.1
  have hb := S.2.1
  have hX : PX G ad σ s s.heap := hB
  have hS0 : va_S A s.heap s.heap [] := va_S.rf
  have hl : lv_has ls 7 [(0, .ref (ad 3)), (1, .int f9), (2, .int t9), (3, .int a9), (4, .int q9), (5, .int i9)] := hl
  refine lv_aload_n hx hb dX1_add_0 rfl (lv_at hl 0 rfl) ?_
  refine k_get S hX.2 hX.1 3 (C := RX1) (T := TX1) (N := 6) rfl rfl 5 (by decide) inX1 m_56 rfl dX1_add_1 ?_
  refine k_eq hnm ?_
  refine lv_istore (lv' := [(6, .int (nI nm)), (0, .ref (ad 3)), (1, .int f9), (2, .int t9), (3, .int a9), (4, .int q9), (5, .int i9)]) hx hb dX1_add_4 hl (by decide) rfl (fun ls hl => ?_)
  refine lv_aload_n hx hb dX1_add_6 rfl (lv_at hl 1 rfl) ?_
  refine k_get S hX.2 hX.1 3 (C := RX1) (T := TX1) (N := 6) rfl rfl 0 (by decide) inX1 m_51 rfl dX1_add_7 ?_
  refine lv_iload hx hb dX1_add_10 (lv_at hl 0 rfl) ?_
  refine lv_iload_n hx hb dX1_add_12 rfl (lv_at hl 2 rfl) ?_
  refine k_ist S hX.2 hX.1 (hD.w (wX_fst _ _ _)) hS0 6 (i := nm) rfl (by omega) (by decide) dX1_add_13 (fun H1 L1 h1 hS1 => ?_)
  have hX1 : PX G ad (su σ 2 nm f9) s H1 := ⟨h1, hX.2⟩
  refine lv_aload_n hx hb dX1_add_14 rfl (lv_at hl 1 rfl) ?_
  refine k_get S hX1.2 hX1.1 3 (C := RX1) (T := TX1) (N := 6) rfl rfl 1 (by decide) inX1 m_52 rfl dX1_add_15 ?_
  refine lv_iload hx hb dX1_add_18 (lv_at hl 0 rfl) ?_
  refine lv_iload_n hx hb dX1_add_20 rfl (lv_at hl 3 rfl) ?_
  refine k_ist S hX1.2 hX1.1 (hD.w (wX_fst _ _ _)) hS1 7 (i := nm) rfl (by omega) (by decide) dX1_add_21 (fun H2 L2 h2 hS2 => ?_)
  have hX2 : PX G ad (su (su σ 2 nm f9) 3 nm t9) s H2 := ⟨h2, hX1.2⟩
  refine lv_aload_n hx hb dX1_add_22 rfl (lv_at hl 1 rfl) ?_
  refine k_get S hX2.2 hX2.1 3 (C := RX1) (T := TX1) (N := 6) rfl rfl 2 (by decide) inX1 m_53 rfl dX1_add_23 ?_
  refine lv_iload hx hb dX1_add_26 (lv_at hl 0 rfl) ?_
  refine lv_iload_n hx hb dX1_add_28 rfl (lv_at hl 4 rfl) ?_
  refine k_ist S hX2.2 hX2.1 (hD.w (wX_fst _ _ _)) hS2 8 (i := nm) rfl (by omega) (by decide) dX1_add_29 (fun H3 L3 h3 hS3 => ?_)
  have hX3 : PX G ad (su (su (su σ 2 nm f9) 3 nm t9) 4 nm a9) s H3 := ⟨h3, hX2.2⟩
  refine lv_aload_n hx hb dX1_add_30 rfl (lv_at hl 1 rfl) ?_
  refine k_get S hX3.2 hX3.1 3 (C := RX1) (T := TX1) (N := 6) rfl rfl 3 (by decide) inX1 m_54 rfl dX1_add_31 ?_
  refine lv_iload hx hb dX1_add_34 (lv_at hl 0 rfl) ?_
  refine lv_iload hx hb dX1_add_36 (lv_at hl 5 rfl) ?_
  refine k_ist S hX3.2 hX3.1 (hD.w (wX_fst _ _ _)) hS3 9 (i := nm) rfl (by omega) (by decide) dX1_add_38 (fun H4 L4 h4 hS4 => ?_)
  have hX4 : PX G ad (su (su (su (su σ 2 nm f9) 3 nm t9) 4 nm a9) 5 nm q9) s H4 := ⟨h4, hX3.2⟩
  refine lv_aload_n hx hb dX1_add_39 rfl (lv_at hl 1 rfl) ?_
  refine k_get S hX4.2 hX4.1 3 (C := RX1) (T := TX1) (N := 6) rfl rfl 4 (by decide) inX1 m_55 rfl dX1_add_40 ?_
  refine lv_iload hx hb dX1_add_43 (lv_at hl 0 rfl) ?_
  refine lv_iload hx hb dX1_add_45 (lv_at hl 6 rfl) ?_
  refine k_ist S hX4.2 hX4.1 (hD.w (wX_fst _ _ _)) hS4 10 (i := nm) rfl (by omega) (by decide) dX1_add_47 (fun H5 L5 h5 hS5 => ?_)
  have hX5 : PX G ad (su (su (su (su (su σ 2 nm f9) 3 nm t9) 4 nm a9) 5 nm q9) 6 nm i9) s H5 := ⟨h5, hX4.2⟩
  refine lv_aload_n hx hb dX1_add_48 rfl (lv_at hl 1 rfl) ?_
  refine lv_dup hx hb dX1_add_49 rfl ?_
  refine k_get S hX5.2 hX5.1 3 (C := RX1) (T := TX1) (N := 6) rfl rfl 5 (by decide) inX1 m_56 rfl dX1_add_50 ?_
  refine k_eq (y := σ 17 0) (by rfl) ?_
  refine k_eq (y := σ 17 0) rfl ?_
  refine lv_iconst (v := 1) hx hb dX1_add_53 (by decide) ?_
  refine lv_iadd hx hb dX1_add_54 ?_
  refine k_put S hX5.2 hX5.1 (hD.w (wX_fst _ _ _)) hS5 3 (C := RX1) (T := TX1) (N := 6) rfl rfl 5 (by decide) inX1 tyX1 tyX1_ok nmX1 rfl rfl m_56 (Nat.le_of_ble_eq_true rfl) dX1_add_55 (fun H6 L6 h6 hS6 => ?_)
  have hX6 : PX G ad (su (su (su (su (su (su σ 2 nm f9) 3 nm t9) 4 nm a9) 5 nm q9) 6 nm i9) 17 0 ((σ 17 0) + 1)) s H6 := ⟨h6, hX5.2⟩
  refine lv_iload hx hb dX1_add_58 (lv_at hl 0 rfl) ?_
  exact W.iret (v := nI nm) hx hb hr (fun t ht hW => ⟨⟨_, rfl, rfl⟩, (by have e9 : mvS σ nm f9 t9 a9 q9 i9 = su (su (su (su (su (su σ 2 nm f9) 3 nm t9) 4 nm a9) 5 nm q9) 6 nm i9) 17 0 ((σ 17 0) + 1) := (by first | rfl | simp [mvS]); show va_P G.1 vwCl (wX G ad (mvS σ nm f9 t9 a9 q9 i9)) t.heap; rw [e9, ht]; exact hX6.1), hS6.F ht⟩) hS6.2.2 dX1_add_60

set_option maxHeartbeats 4000000 in
set_option maxRecDepth 100000 in
theorem c_sheetAdd (l : Launch) (G : kG) (ad : Nat → Nat) (σ : kS) (ns : Nat) (pl i9 : Int32) (hns : σ 18 0 = nI ns) (hns4 : ns < 40) (A : Nat → Prop) (hD : DD 20 A ad) : Met l yX2_add [.code yX2_add cX2_add 4 (some .int)] ({ frames := 1, cells := 0, slots := 0, locals := 40 }) (va_Pc [.ref (ad 4), .int pl, .int i9] (fun U => PX G ad σ U U.heap)) (oW A (fun r => r = nI ns) (fun H9 => va_P G.1 vwCl (wX G ad (shS σ ns pl i9)) H9)) 0 0 A := by
  refine k_of (by decide) (Nat.le_of_ble_eq_true rfl) (fun U h => h.2.2) ?_
  intro p e s m below meth c ls S hr hlocks hmn hB hl
  have hx := S.1
  have hb := S.2.1
  have hX : PX G ad σ s s.heap := hB
  have hS0 : va_S A s.heap s.heap [] := va_S.rf
  have hl : lv_has ls 4 [(0, .ref (ad 4)), (1, .int pl), (2, .int i9)] := hl
  refine lv_aload_n hx hb dX2_add_0 rfl (lv_at hl 0 rfl) ?_
  refine k_get S hX.2 hX.1 4 (C := RX2) (T := TX2) (N := 4) rfl rfl 3 (by decide) inX2 m_84 rfl dX2_add_1 ?_
  refine k_eq hns ?_
  refine lv_istore_n (lv' := [(3, .int (nI ns)), (0, .ref (ad 4)), (1, .int pl), (2, .int i9)]) hx hb dX2_add_4 rfl hl (by decide) rfl (fun ls hl => ?_)
  refine lv_aload_n hx hb dX2_add_5 rfl (lv_at hl 1 rfl) ?_
  refine k_get S hX.2 hX.1 4 (C := RX2) (T := TX2) (N := 4) rfl rfl 0 (by decide) inX2 m_78 rfl dX2_add_6 ?_
  refine lv_iload_n hx hb dX2_add_9 rfl (lv_at hl 0 rfl) ?_
  refine lv_iload_n hx hb dX2_add_10 rfl (lv_at hl 2 rfl) ?_
  refine k_ist S hX.2 hX.1 (hD.w (wX_fst _ _ _)) hS0 11 (i := ns) rfl (by omega) (by decide) dX2_add_11 (fun H1 L1 h1 hS1 => ?_)
  have hX1 : PX G ad (su σ 7 ns pl) s H1 := ⟨h1, hX.2⟩
  refine lv_aload_n hx hb dX2_add_12 rfl (lv_at hl 1 rfl) ?_
  refine k_get S hX1.2 hX1.1 4 (C := RX2) (T := TX2) (N := 4) rfl rfl 1 (by decide) inX2 m_80 rfl dX2_add_13 ?_
  refine lv_iload_n hx hb dX2_add_16 rfl (lv_at hl 0 rfl) ?_
  refine lv_iload_n hx hb dX2_add_17 rfl (lv_at hl 3 rfl) ?_
  refine k_ist S hX1.2 hX1.1 (hD.w (wX_fst _ _ _)) hS1 12 (i := ns) rfl (by omega) (by decide) dX2_add_18 (fun H2 L2 h2 hS2 => ?_)
  have hX2 : PX G ad (su (su σ 7 ns pl) 8 ns i9) s H2 := ⟨h2, hX1.2⟩
  refine lv_aload_n hx hb dX2_add_19 rfl (lv_at hl 1 rfl) ?_
  refine lv_dup hx hb dX2_add_20 rfl ?_
  refine k_get S hX2.2 hX2.1 4 (C := RX2) (T := TX2) (N := 4) rfl rfl 3 (by decide) inX2 m_84 rfl dX2_add_21 ?_
  refine k_eq (y := σ 18 0) (by rfl) ?_
  refine k_eq (y := σ 18 0) rfl ?_
  refine lv_iconst (v := 1) hx hb dX2_add_24 (by decide) ?_
  refine lv_iadd hx hb dX2_add_25 ?_
  refine k_put S hX2.2 hX2.1 (hD.w (wX_fst _ _ _)) hS2 4 (C := RX2) (T := TX2) (N := 4) rfl rfl 3 (by decide) inX2 tyX2 tyX2_ok nmX2 rfl rfl m_84 (Nat.le_of_ble_eq_true rfl) dX2_add_26 (fun H3 L3 h3 hS3 => ?_)
  have hX3 : PX G ad (su (su (su σ 7 ns pl) 8 ns i9) 18 0 ((σ 18 0) + 1)) s H3 := ⟨h3, hX2.2⟩
  refine lv_iload_n hx hb dX2_add_29 rfl (lv_at hl 0 rfl) ?_
  exact W.iret (v := nI ns) hx hb hr (fun t ht hW => ⟨⟨_, rfl, rfl⟩, (by have e9 : shS σ ns pl i9 = su (su (su σ 7 ns pl) 8 ns i9) 18 0 ((σ 18 0) + 1) := (by first | rfl | simp [shS]); show va_P G.1 vwCl (wX G ad (shS σ ns pl i9)) t.heap; rw [e9, ht]; exact hX3.1), hS3.F ht⟩) hS3.2.2 dX2_add_30
end
section
set_option maxHeartbeats 4000000 in
set_option maxRecDepth 100000 in
theorem c_setPrice (l : Launch) (G : kG) (ad : Nat → Nat) (σ : kS) (nm ns : Nat) (a0 b0 : Int32) (hst : l.stackTraces = false) (hns : σ 18 0 = nI ns) (hns4 : ns ≤ 40) (hnm : σ 17 0 = nI nm) (hnm2 : nm ≤ 200) (A : Nat → Prop) (hD : DD 20 A ad)  : vx_Met l yX3_setPrice [.code yX3_setPrice cX3_setPrice 4 (some .int)] ({ frames := 7, cells := 2, slots := 12, locals := 114 }) (va_Pc [.ref (ad 0), .int a0, .int b0] (fun U => PX G ad σ U U.heap ∧ ZS U U.heap)) (oW A (fun r => eX_setPrice a0 b0 = 0 ∧ r = σ 0 (ixN a0)) (fun H9 => va_P G.1 vwCl (wX G ad (su σ 0 (ixN a0) b0)) H9)) (tX (fun x => eX_setPrice a0 b0 ≠ 0 ∧ x = exN (eX_setPrice a0 b0))) 2 12 A := by
  refine kx_of (by decide) (Nat.le_of_ble_eq_true rfl) (fun U h => h.1.2.2) ?_
  intro p e s m below meth c ls S hr hlocks ht hB hl
  have hx := S.1
  have hb := S.2.1
  have hX : PX G ad σ s s.heap := hB.1
  have hG : GL s := hX.2.2
  have hZ : ZS s s.heap := hB.2
  have hl : lv_has ls 4 [(0, .ref (ad 0)), (1, .int a0), (2, .int b0)] := hl
  have hS0 : va_S A s.heap s.heap [] := va_S.rf
  refine lv_iload_n hx hb dX3_setPrice_0 rfl (lv_at hl 1 rfl) ?_
  refine lv_iconst (v := 5) hx hb dX3_setPrice_1 (by decide) ?_
  refine q_xv (rx_S S ⟨m_222, m_223, m_23, m_224⟩ ⟨rfl, by decide, by decide, by decide +kernel⟩ (c_checkIndex l a0 5 hst) ⟨rfl, rfl, Nat.le_of_ble_eq_true rfl, Nat.le_of_ble_eq_true rfl⟩ (ps bl_GZ (bGZ hX.2.2 hZ)) (n := 2) (As := [.int a0, .int 5]) (rest := []) rfl hl.1 rfl (Nat.le_of_ble_eq_true rfl) ⟨Nat.le_of_ble_eq_true rfl, Nat.le_of_ble_eq_true rfl⟩ dX3_setPrice_2) ht hlocks (by rintro x ⟨rfl, hf1⟩; simp [eX_setPrice, hf1, exN]) (Nat.le_of_ble_eq_true rfl) (Nat.le_of_ble_eq_true rfl) (fun (p1 : ckI a0 5 = true) => ?_)
  obtain ⟨ar, har, rfl⟩ := ckI_nI (n := 5) p1 (by decide)
  have h31ar : ar < 2 ^ 31 := by omega
  refine lv_iload_n hx hb dX3_setPrice_5 rfl (lv_at hl 2 rfl) ?_
  refine lv_iconst (v := 0) hx hb dX3_setPrice_6 (by decide) ?_
  refine lv_sipush (v := 1000) hx hb dX3_setPrice_7 (by decide) ?_
  refine q_xv (rx_S S ⟨m_443, m_444, m_23, m_445⟩ ⟨rfl, by decide, by decide, by decide +kernel⟩ (c_checkRange l b0 0 1000 hst) ⟨rfl, rfl, Nat.le_of_ble_eq_true rfl, Nat.le_of_ble_eq_true rfl⟩ (ps bl_GZ (bGZ hX.2.2 hZ)) (n := 3) (As := [.int b0, .int 0, .int 1000]) (rest := []) rfl hl.1 rfl (Nat.le_of_ble_eq_true rfl) ⟨Nat.le_of_ble_eq_true rfl, Nat.le_of_ble_eq_true rfl⟩ dX3_setPrice_10) ht hlocks (by rintro x ⟨rfl, hf2⟩; simp [eX_setPrice, ixN_nI h31ar, p1, hf2, exN]) (Nat.le_of_ble_eq_true rfl) (Nat.le_of_ble_eq_true rfl) (fun (p2 : ckR b0 0 1000 = true) => ?_)
  refine lv_aload_n hx hb dX3_setPrice_13 rfl (lv_at hl 0 rfl) ?_
  refine k_get S hX.2 hX.1 0 (C := RX3) (T := TX3) (N := 6) rfl rfl 0 (by decide) inX3 m_131 rfl dX3_setPrice_14 ?_
  refine lv_iload_n hx hb dX3_setPrice_17 rfl (lv_at hl 1 rfl) ?_
  refine k_ild S hX.2 hX.1 1 (i := ar) rfl (by omega) (by decide) dX3_setPrice_18 ?_
  refine lv_istore_n (lv' := [(3, .int (σ 0 ar)), (0, .ref (ad 0)), (1, .int (nI ar)), (2, .int b0)]) hx hb dX3_setPrice_19 rfl hl (by decide) rfl (fun ls hl => ?_)
  refine lv_aload_n hx hb dX3_setPrice_20 rfl (lv_at hl 1 rfl) ?_
  refine k_get S hX.2 hX.1 0 (C := RX3) (T := TX3) (N := 6) rfl rfl 0 (by decide) inX3 m_131 rfl dX3_setPrice_21 ?_
  refine lv_iload_n hx hb dX3_setPrice_24 rfl (lv_at hl 2 rfl) ?_
  refine lv_iload_n hx hb dX3_setPrice_25 rfl (lv_at hl 3 rfl) ?_
  refine k_ist S hX.2 hX.1 (hD.w (wX_fst _ _ _)) hS0 1 (i := ar) rfl (by omega) (by decide) dX3_setPrice_26 (fun H3 L3 h3 hS3 => ?_)
  have hX3 : PX G ad (su σ 0 ar b0) s H3 := ⟨h3, hX.2⟩
  refine lv_iload_n hx hb dX3_setPrice_27 rfl (lv_at hl 0 rfl) ?_
  refine vx_ret ?_
  exact W.iret (v := σ 0 ar) hx hb hr (fun t ht hW => ⟨⟨_, rfl, (by simp [eX_setPrice, ixN_nI h31ar, p1, p2])⟩, (by have e9 : su σ 0 (ixN (nI ar)) b0 = su σ 0 ar b0 := (by first | rfl | simp [eX_setPrice, ixN_nI h31ar]); show va_P G.1 vwCl (wX G ad (su σ 0 (ixN (nI ar)) b0)) t.heap; rw [e9, ht]; exact hX3.1), hS3.F ht⟩) hS3.2.2 dX3_setPrice_28

set_option maxHeartbeats 4000000 in
set_option maxRecDepth 100000 in
theorem c_setBound (l : Launch) (G : kG) (ad : Nat → Nat) (σ : kS) (nm ns : Nat) (a0 b0 : Int32) (hst : l.stackTraces = false) (hns : σ 18 0 = nI ns) (hns4 : ns ≤ 40) (hnm : σ 17 0 = nI nm) (hnm2 : nm ≤ 200) (A : Nat → Prop) (hD : DD 20 A ad)  : vx_Met l yX3_setBound [.code yX3_setBound cX3_setBound 4 (some .int)] ({ frames := 7, cells := 2, slots := 12, locals := 114 }) (va_Pc [.ref (ad 0), .int a0, .int b0] (fun U => PX G ad σ U U.heap ∧ ZS U U.heap)) (oW A (fun r => eX_setBound a0 b0 = 0 ∧ r = σ 1 (ixN a0)) (fun H9 => va_P G.1 vwCl (wX G ad (su σ 1 (ixN a0) b0)) H9)) (tX (fun x => eX_setBound a0 b0 ≠ 0 ∧ x = exN (eX_setBound a0 b0))) 2 12 A := by
  refine kx_of (by decide) (Nat.le_of_ble_eq_true rfl) (fun U h => h.1.2.2) ?_
  intro p e s m below meth c ls S hr hlocks ht hB hl
  have hx := S.1
  have hb := S.2.1
  have hX : PX G ad σ s s.heap := hB.1
  have hG : GL s := hX.2.2
  have hZ : ZS s s.heap := hB.2
  have hl : lv_has ls 4 [(0, .ref (ad 0)), (1, .int a0), (2, .int b0)] := hl
  have hS0 : va_S A s.heap s.heap [] := va_S.rf
  refine lv_iload_n hx hb dX3_setBound_0 rfl (lv_at hl 1 rfl) ?_
  refine lv_bipush (v := 6) hx hb dX3_setBound_1 (by decide) ?_
  refine q_xv (rx_S S ⟨m_222, m_223, m_23, m_224⟩ ⟨rfl, by decide, by decide, by decide +kernel⟩ (c_checkIndex l a0 6 hst) ⟨rfl, rfl, Nat.le_of_ble_eq_true rfl, Nat.le_of_ble_eq_true rfl⟩ (ps bl_GZ (bGZ hX.2.2 hZ)) (n := 2) (As := [.int a0, .int 6]) (rest := []) rfl hl.1 rfl (Nat.le_of_ble_eq_true rfl) ⟨Nat.le_of_ble_eq_true rfl, Nat.le_of_ble_eq_true rfl⟩ dX3_setBound_3) ht hlocks (by rintro x ⟨rfl, hf1⟩; simp [eX_setBound, hf1, exN]) (Nat.le_of_ble_eq_true rfl) (Nat.le_of_ble_eq_true rfl) (fun (p1 : ckI a0 6 = true) => ?_)
  obtain ⟨pe, hpe, rfl⟩ := ckI_nI (n := 6) p1 (by decide)
  have h31pe : pe < 2 ^ 31 := by omega
  refine lv_iload_n hx hb dX3_setBound_6 rfl (lv_at hl 2 rfl) ?_
  refine lv_iconst (v := 0) hx hb dX3_setBound_7 (by decide) ?_
  refine lv_ldc (v := 1000000) hx hb S.2.2.2.1 (S.2.2.2.2 _ m_531) dX3_setBound_8 ?_
  refine q_xv (rx_S S ⟨m_443, m_444, m_23, m_445⟩ ⟨rfl, by decide, by decide, by decide +kernel⟩ (c_checkRange l b0 0 1000000 hst) ⟨rfl, rfl, Nat.le_of_ble_eq_true rfl, Nat.le_of_ble_eq_true rfl⟩ (ps bl_GZ (bGZ hX.2.2 hZ)) (n := 3) (As := [.int b0, .int 0, .int 1000000]) (rest := []) rfl hl.1 rfl (Nat.le_of_ble_eq_true rfl) ⟨Nat.le_of_ble_eq_true rfl, Nat.le_of_ble_eq_true rfl⟩ dX3_setBound_10) ht hlocks (by rintro x ⟨rfl, hf2⟩; simp [eX_setBound, ixN_nI h31pe, p1, hf2, exN]) (Nat.le_of_ble_eq_true rfl) (Nat.le_of_ble_eq_true rfl) (fun (p2 : ckR b0 0 1000000 = true) => ?_)
  refine lv_aload_n hx hb dX3_setBound_13 rfl (lv_at hl 0 rfl) ?_
  refine k_get S hX.2 hX.1 0 (C := RX3) (T := TX3) (N := 6) rfl rfl 1 (by decide) inX3 m_132 rfl dX3_setBound_14 ?_
  refine lv_iload_n hx hb dX3_setBound_17 rfl (lv_at hl 1 rfl) ?_
  refine k_ild S hX.2 hX.1 2 (i := pe) rfl (by omega) (by decide) dX3_setBound_18 ?_
  refine lv_istore_n (lv' := [(3, .int (σ 1 pe)), (0, .ref (ad 0)), (1, .int (nI pe)), (2, .int b0)]) hx hb dX3_setBound_19 rfl hl (by decide) rfl (fun ls hl => ?_)
  refine lv_aload_n hx hb dX3_setBound_20 rfl (lv_at hl 1 rfl) ?_
  refine k_get S hX.2 hX.1 0 (C := RX3) (T := TX3) (N := 6) rfl rfl 1 (by decide) inX3 m_132 rfl dX3_setBound_21 ?_
  refine lv_iload_n hx hb dX3_setBound_24 rfl (lv_at hl 2 rfl) ?_
  refine lv_iload_n hx hb dX3_setBound_25 rfl (lv_at hl 3 rfl) ?_
  refine k_ist S hX.2 hX.1 (hD.w (wX_fst _ _ _)) hS0 2 (i := pe) rfl (by omega) (by decide) dX3_setBound_26 (fun H3 L3 h3 hS3 => ?_)
  have hX3 : PX G ad (su σ 1 pe b0) s H3 := ⟨h3, hX.2⟩
  refine lv_iload_n hx hb dX3_setBound_27 rfl (lv_at hl 0 rfl) ?_
  refine vx_ret ?_
  exact W.iret (v := σ 1 pe) hx hb hr (fun t ht hW => ⟨⟨_, rfl, (by simp [eX_setBound, ixN_nI h31pe, p1, p2])⟩, (by have e9 : su σ 1 (ixN (nI pe)) b0 = su σ 1 pe b0 := (by first | rfl | simp [eX_setBound, ixN_nI h31pe]); show va_P G.1 vwCl (wX G ad (su σ 1 (ixN (nI pe)) b0)) t.heap; rw [e9, ht]; exact hX3.1), hS3.F ht⟩) hS3.2.2 dX3_setBound_28

set_option maxHeartbeats 4000000 in
set_option maxRecDepth 100000 in
theorem c_move (l : Launch) (G : kG) (ad : Nat → Nat) (σ : kS) (nm ns : Nat) (a0 b0 c0 d0 e0 : Int32) (hst : l.stackTraces = false) (hns : σ 18 0 = nI ns) (hns4 : ns ≤ 40) (hnm : σ 17 0 = nI nm) (hnm2 : nm ≤ 200) (A : Nat → Prop) (hD : DD 20 A ad)  : vx_Met l yX3_move [.code yX3_move cX3_move 6 (some .int)] ({ frames := 8, cells := 6, slots := 36, locals := 133 }) (va_Pc [.ref (ad 0), .int a0, .int b0, .int c0, .int d0, .int e0] (fun U => PX G ad σ U U.heap ∧ ZS U U.heap)) (oW A (fun r => eX_move σ a0 b0 c0 d0 e0 = 0 ∧ r = nI nm) (fun H9 => va_P G.1 vwCl (wX G ad (mvS σ nm a0 b0 c0 d0 e0)) H9)) (tX (fun x => eX_move σ a0 b0 c0 d0 e0 ≠ 0 ∧ x = exN (eX_move σ a0 b0 c0 d0 e0))) 6 36 A := by
  refine kx_of (by decide) (Nat.le_of_ble_eq_true rfl) (fun U h => h.1.2.2) ?_
  intro p e s m below meth c ls S hr hlocks ht hB hl
  have hx := S.1
  have hb := S.2.1
  have hX : PX G ad σ s s.heap := hB.1
  have hG : GL s := hX.2.2
  have hZ : ZS s s.heap := hB.2
  have hl : lv_has ls 6 [(0, .ref (ad 0)), (1, .int a0), (2, .int b0), (3, .int c0), (4, .int d0), (5, .int e0)] := hl
  have hS0 : va_S A s.heap s.heap [] := va_S.rf
  refine lv_iload_n hx hb dX3_move_0 rfl (lv_at hl 1 rfl) ?_
  refine q_xv (rx_S S ⟨m_501, m_502, m_23, m_503⟩ ⟨rfl, by decide, by decide, by decide +kernel⟩ (c_checkPlace l a0 hst) ⟨rfl, rfl, Nat.le_of_ble_eq_true rfl, Nat.le_of_ble_eq_true rfl⟩ (ps bl_GZ (bGZ hX.2.2 hZ)) (n := 1) (As := [.int a0]) (rest := []) rfl hl.1 rfl (Nat.le_of_ble_eq_true rfl) ⟨Nat.le_of_ble_eq_true rfl, Nat.le_of_ble_eq_true rfl⟩ dX3_move_1) ht hlocks (by rintro x ⟨rfl, hf1⟩; simp [eX_move, hf1, exN]) (Nat.le_of_ble_eq_true rfl) (Nat.le_of_ble_eq_true rfl) (fun (p1 : ckP a0 = true) => ?_)
  refine lv_iload_n hx hb dX3_move_4 rfl (lv_at hl 2 rfl) ?_
  refine q_xv (rx_S S ⟨m_501, m_502, m_23, m_503⟩ ⟨rfl, by decide, by decide, by decide +kernel⟩ (c_checkPlace l b0 hst) ⟨rfl, rfl, Nat.le_of_ble_eq_true rfl, Nat.le_of_ble_eq_true rfl⟩ (ps bl_GZ (bGZ hX.2.2 hZ)) (n := 1) (As := [.int b0]) (rest := []) rfl hl.1 rfl (Nat.le_of_ble_eq_true rfl) ⟨Nat.le_of_ble_eq_true rfl, Nat.le_of_ble_eq_true rfl⟩ dX3_move_5) ht hlocks (by rintro x ⟨rfl, hf2⟩; simp [eX_move, p1, hf2, exN]) (Nat.le_of_ble_eq_true rfl) (Nat.le_of_ble_eq_true rfl) (fun (p2 : ckP b0 = true) => ?_)
  refine lv_iload_n hx hb dX3_move_8 rfl (lv_at hl 3 rfl) ?_
  refine lv_iconst (v := 5) hx hb dX3_move_9 (by decide) ?_
  refine q_xv (rx_S S ⟨m_222, m_223, m_23, m_224⟩ ⟨rfl, by decide, by decide, by decide +kernel⟩ (c_checkIndex l c0 5 hst) ⟨rfl, rfl, Nat.le_of_ble_eq_true rfl, Nat.le_of_ble_eq_true rfl⟩ (ps bl_GZ (bGZ hX.2.2 hZ)) (n := 2) (As := [.int c0, .int 5]) (rest := []) rfl hl.1 rfl (Nat.le_of_ble_eq_true rfl) ⟨Nat.le_of_ble_eq_true rfl, Nat.le_of_ble_eq_true rfl⟩ dX3_move_10) ht hlocks (by rintro x ⟨rfl, hf3⟩; simp [eX_move, p1, p2, hf3, exN]) (Nat.le_of_ble_eq_true rfl) (Nat.le_of_ble_eq_true rfl) (fun (p3 : ckI c0 5 = true) => ?_)
  refine lv_iload_n hx hb dX3_move_13 rfl (lv_at hl 1 rfl) ?_
  refine lv_iload_n hx hb dX3_move_14 rfl (lv_at hl 2 rfl) ?_
  refine lv_icmp_ne (tgt := 28) hx hb dX3_move_15 (by decide) (fun c15_4 => ?_) (fun c15_4 => ?_)
  · have bc15_4 := c15_4
    refine lv_iload hx hb dX3_move_28 (lv_at hl 4 rfl) ?_
    refine lv_iconst (v := 1) hx hb dX3_move_30 (by decide) ?_
    refine lv_sipush (v := 1000) hx hb dX3_move_31 (by decide) ?_
    refine q_xv (rx_S S ⟨m_443, m_444, m_23, m_445⟩ ⟨rfl, by decide, by decide, by decide +kernel⟩ (c_checkRange l d0 1 1000 hst) ⟨rfl, rfl, Nat.le_of_ble_eq_true rfl, Nat.le_of_ble_eq_true rfl⟩ (ps bl_GZ (bGZ hX.2.2 hZ)) (n := 3) (As := [.int d0, .int 1, .int 1000]) (rest := []) rfl hl.1 rfl (Nat.le_of_ble_eq_true rfl) ⟨Nat.le_of_ble_eq_true rfl, Nat.le_of_ble_eq_true rfl⟩ dX3_move_34) ht hlocks (by rintro x ⟨rfl, hf5⟩; simp [eX_move, p1, p2, p3, c15_4, hf5, exN]) (Nat.le_of_ble_eq_true rfl) (Nat.le_of_ble_eq_true rfl) (fun (p5 : ckR d0 1 1000 = true) => ?_)
    refine lv_iload hx hb dX3_move_37 (lv_at hl 5 rfl) ?_
    refine lv_iconst (v := 0) hx hb dX3_move_39 (by decide) ?_
    refine lv_aload_n hx hb dX3_move_40 rfl (lv_at hl 0 rfl) ?_
    refine k_get S hX.2 hX.1 0 (C := RX3) (T := TX3) (N := 6) rfl rfl 5 (by decide) inX3 m_136 rfl dX3_move_41 ?_
    refine q_xv (rx_S S ⟨m_443, m_444, m_23, m_445⟩ ⟨rfl, by decide, by decide, by decide +kernel⟩ (c_checkRange l e0 0 (σ 16 0) hst) ⟨rfl, rfl, Nat.le_of_ble_eq_true rfl, Nat.le_of_ble_eq_true rfl⟩ (ps bl_GZ (bGZ hX.2.2 hZ)) (n := 3) (As := [.int e0, .int 0, .int (σ 16 0)]) (rest := []) rfl hl.1 rfl (Nat.le_of_ble_eq_true rfl) ⟨Nat.le_of_ble_eq_true rfl, Nat.le_of_ble_eq_true rfl⟩ dX3_move_44) ht hlocks (by rintro x ⟨rfl, hf6⟩; simp [eX_move, p1, p2, p3, c15_4, p5, hf6, exN]) (Nat.le_of_ble_eq_true rfl) (Nat.le_of_ble_eq_true rfl) (fun (p6 : ckR e0 0 (σ 16 0) = true) => ?_)
    refine lv_aload_n hx hb dX3_move_47 rfl (lv_at hl 0 rfl) ?_
    refine k_get S hX.2 hX.1 0 (C := RX3) (T := TX3) (N := 6) rfl rfl 2 (by decide) inX3 m_133 rfl dX3_move_48 ?_
    refine k_getN S hX.2 hX.1 3 (C := RX1) (T := TX1) (N := 6) rfl rfl 5 (by decide) inX1 n_57 rfl dX3_move_51 ?_
    refine lv_sipush (v := 200) hx hb dX3_move_54 (by decide) ?_
    refine lv_icmp_lt (tgt := 70) hx hb dX3_move_57 (by decide) (fun c57_7 => ?_) (fun c57_7 => ?_)
    · have bc57_7 := lt_nle c57_7
      have hnm3 : nm < 200 := by
        have h9 := c57_7
        rw [hnm, show (200 : Int32) = nI 200 from rfl, nI_ltI (by omega) (by omega)] at h9
        exact h9
      refine lv_aload_n hx hb dX3_move_70 rfl (lv_at hl 0 rfl) ?_
      refine k_get S hX.2 hX.1 0 (C := RX3) (T := TX3) (N := 6) rfl rfl 2 (by decide) inX3 m_133 rfl dX3_move_71 ?_
      refine lv_iload_n hx hb dX3_move_74 rfl (lv_at hl 1 rfl) ?_
      refine lv_iload_n hx hb dX3_move_75 rfl (lv_at hl 2 rfl) ?_
      refine lv_iload_n hx hb dX3_move_76 rfl (lv_at hl 3 rfl) ?_
      refine lv_iload hx hb dX3_move_77 (lv_at hl 4 rfl) ?_
      refine lv_iload hx hb dX3_move_79 (lv_at hl 5 rfl) ?_
      refine q_w (r_VN S hX.2.2 ⟨n_506, m_508, m_18, m_24, m_509⟩ ⟨rfl, by decide, by decide, by decide +kernel⟩ (c_moveAdd l G ad σ nm a0 b0 c0 d0 e0 hnm hnm3 A hD) ⟨rfl, rfl, Nat.le_of_ble_eq_true rfl, Nat.le_of_ble_eq_true rfl⟩ (pv_X hX 3 rfl rfl bl_PX (bX hX)) (n := 5) (As := [.int a0, .int b0, .int c0, .int d0, .int e0]) (rest := []) rfl hl.1 rfl (Nat.le_of_ble_eq_true rfl) ⟨Nat.le_of_ble_eq_true rfl, Nat.le_of_ble_eq_true rfl⟩ dX3_move_81) hS0 (fun _ h => h) (fun r8 H8 L8 (e8 : r8 = nI nm) h8 _ _ hS8 => ?_)
      subst e8
      have hX8 : PX G ad (mvS σ nm a0 b0 c0 d0 e0) s H8 := ⟨h8, hX.2⟩
      refine W.widen (k := 6) (n := 36) (Nat.le_of_ble_eq_true rfl) (Nat.le_of_ble_eq_true rfl) ?_
      refine vx_ret ?_
      exact W.iret (v := nI nm) hx hb hr (fun t ht hW => ⟨⟨_, rfl, (by simp [eX_move, p1, p2, p3, c15_4, p5, p6, c57_7, bc57_7])⟩, (by have e9 : mvS σ nm a0 b0 c0 d0 e0 = mvS σ nm a0 b0 c0 d0 e0 := (by first | rfl | simp [eX_move]); show va_P G.1 vwCl (wX G ad (mvS σ nm a0 b0 c0 d0 e0)) t.heap; rw [e9, ht]; exact hX8.1), hS8.F ht⟩) hS8.2.2 dX3_move_84
    · have bc57_7 := nlt_le c57_7
      exact k_thr S hG hZ hst at_IS m_403 m_34 (by decide +kernel) n_505 hl.1 ht hlocks ⟨Nat.le_of_ble_eq_true rfl, Nat.le_of_ble_eq_true rfl⟩ ⟨Nat.le_of_ble_eq_true rfl, Nat.le_of_ble_eq_true rfl⟩ ⟨Nat.le_of_ble_eq_true rfl, Nat.le_of_ble_eq_true rfl⟩ (Nat.le_of_ble_eq_true rfl) (by simp [eX_move, p1, p2, p3, c15_4, p5, p6, c57_7, bc57_7, exN]) dX3_move_60 dX3_move_63 dX3_move_64 dX3_move_66 dX3_move_69
  · have bc15_4 := c15_4
    exact k_thr S hG hZ hst at_IA m_446 m_33 (by decide +kernel) n_504 hl.1 ht hlocks ⟨Nat.le_of_ble_eq_true rfl, Nat.le_of_ble_eq_true rfl⟩ ⟨Nat.le_of_ble_eq_true rfl, Nat.le_of_ble_eq_true rfl⟩ ⟨Nat.le_of_ble_eq_true rfl, Nat.le_of_ble_eq_true rfl⟩ (Nat.le_of_ble_eq_true rfl) (by simp [eX_move, p1, p2, p3, c15_4, exN]) dX3_move_18 dX3_move_21 dX3_move_22 dX3_move_24 dX3_move_27

set_option maxHeartbeats 4000000 in
set_option maxRecDepth 100000 in
theorem c_pass (l : Launch) (G : kG) (ad : Nat → Nat) (σ : kS) (nm ns : Nat) (a0 : Int32) (hst : l.stackTraces = false) (hns : σ 18 0 = nI ns) (hns4 : ns ≤ 40) (hnm : σ 17 0 = nI nm) (hnm2 : nm ≤ 200) (A : Nat → Prop) (hD : DD 20 A ad)  : vx_Met l yX3_pass [.code yX3_pass cX3_pass 2 (some .int)] ({ frames := 7, cells := 1, slots := 6, locals := 114 }) (va_Pc [.ref (ad 0), .int a0] (fun U => PX G ad σ U U.heap ∧ ZS U U.heap)) (oW A (fun r => eX_pass a0 = 0 ∧ r = σ 16 0 + a0) (fun H9 => va_P G.1 vwCl (wX G ad (su σ 16 0 (σ 16 0 + a0))) H9)) (tX (fun x => eX_pass a0 ≠ 0 ∧ x = exN (eX_pass a0))) 1 6 A := by
  refine kx_of (by decide) (Nat.le_of_ble_eq_true rfl) (fun U h => h.1.2.2) ?_
  intro p e s m below meth c ls S hr hlocks ht hB hl
  have hx := S.1
  have hb := S.2.1
  have hX : PX G ad σ s s.heap := hB.1
  have hG : GL s := hX.2.2
  have hZ : ZS s s.heap := hB.2
  have hl : lv_has ls 2 [(0, .ref (ad 0)), (1, .int a0)] := hl
  have hS0 : va_S A s.heap s.heap [] := va_S.rf
  refine lv_iload_n hx hb dX3_pass_0 rfl (lv_at hl 1 rfl) ?_
  refine lv_iconst (v := 1) hx hb dX3_pass_1 (by decide) ?_
  refine lv_sipush (v := 1000) hx hb dX3_pass_2 (by decide) ?_
  refine q_xv (rx_S S ⟨m_443, m_444, m_23, m_445⟩ ⟨rfl, by decide, by decide, by decide +kernel⟩ (c_checkRange l a0 1 1000 hst) ⟨rfl, rfl, Nat.le_of_ble_eq_true rfl, Nat.le_of_ble_eq_true rfl⟩ (ps bl_GZ (bGZ hX.2.2 hZ)) (n := 3) (As := [.int a0, .int 1, .int 1000]) (rest := []) rfl hl.1 rfl (Nat.le_of_ble_eq_true rfl) ⟨Nat.le_of_ble_eq_true rfl, Nat.le_of_ble_eq_true rfl⟩ dX3_pass_5) ht hlocks (by rintro x ⟨rfl, hf1⟩; simp [eX_pass, hf1, exN]) (Nat.le_of_ble_eq_true rfl) (Nat.le_of_ble_eq_true rfl) (fun (p1 : ckR a0 1 1000 = true) => ?_)
  refine lv_aload_n hx hb dX3_pass_8 rfl (lv_at hl 0 rfl) ?_
  refine lv_dup hx hb dX3_pass_9 rfl ?_
  refine k_get S hX.2 hX.1 0 (C := RX3) (T := TX3) (N := 6) rfl rfl 5 (by decide) inX3 m_136 rfl dX3_pass_10 ?_
  refine lv_iload_n hx hb dX3_pass_13 rfl (lv_at hl 1 rfl) ?_
  refine lv_iadd hx hb dX3_pass_14 ?_
  refine k_put S hX.2 hX.1 (hD.w (wX_fst _ _ _)) hS0 0 (C := RX3) (T := TX3) (N := 6) rfl rfl 5 (by decide) inX3 tyX3 tyX3_ok nmX3 rfl rfl m_136 (Nat.le_of_ble_eq_true rfl) dX3_pass_15 (fun H2 L2 h2 hS2 => ?_)
  have hX2 : PX G ad (su σ 16 0 ((σ 16 0) + a0)) s H2 := ⟨h2, hX.2⟩
  refine lv_aload_n hx hb dX3_pass_18 rfl (lv_at hl 0 rfl) ?_
  refine k_get S hX2.2 hX2.1 0 (C := RX3) (T := TX3) (N := 6) rfl rfl 5 (by decide) inX3 m_136 rfl dX3_pass_19 ?_
  refine k_eq (y := (σ 16 0) + a0) (by rfl) ?_
  refine k_eq (y := σ 16 0 + a0) (rfl) ?_
  refine vx_ret ?_
  exact W.iret (v := σ 16 0 + a0) hx hb hr (fun t ht hW => ⟨⟨_, rfl, (by simp [eX_pass, p1])⟩, (by have e9 : su σ 16 0 (σ 16 0 + a0) = su σ 16 0 ((σ 16 0) + a0) := (by first | rfl | simp [eX_pass]); show va_P G.1 vwCl (wX G ad (su σ 16 0 (σ 16 0 + a0))) t.heap; rw [e9, ht]; exact hX2.1), hS2.F ht⟩) hS2.2.2 dX3_pass_22

set_option maxHeartbeats 4000000 in
set_option maxRecDepth 100000 in
theorem c_open (l : Launch) (G : kG) (ad : Nat → Nat) (σ : kS) (nm ns : Nat) (a0 : Int32) (hst : l.stackTraces = false) (hns : σ 18 0 = nI ns) (hns4 : ns ≤ 40) (hnm : σ 17 0 = nI nm) (hnm2 : nm ≤ 200) (A : Nat → Prop) (hD : DD 20 A ad)  : vx_Met l yX3_open [.code yX3_open cX3_open 2 (some .int)] ({ frames := 7, cells := 2, slots := 12, locals := 113 }) (va_Pc [.ref (ad 0), .int a0] (fun U => PX G ad σ U U.heap ∧ ZS U U.heap)) (oW A (fun r => eX_open σ ns a0 = 0 ∧ r = nI ns) (fun H9 => va_P G.1 vwCl (wX G ad (shS σ ns a0 (σ 16 0))) H9)) (tX (fun x => eX_open σ ns a0 ≠ 0 ∧ x = exN (eX_open σ ns a0))) 2 12 A := by
  refine kx_of (by decide) (Nat.le_of_ble_eq_true rfl) (fun U h => h.1.2.2) ?_
  intro p e s m below meth c ls S hr hlocks ht hB hl
  have hx := S.1
  have hb := S.2.1
  have hX : PX G ad σ s s.heap := hB.1
  have hG : GL s := hX.2.2
  have hZ : ZS s s.heap := hB.2
  have hl : lv_has ls 2 [(0, .ref (ad 0)), (1, .int a0)] := hl
  have hS0 : va_S A s.heap s.heap [] := va_S.rf
  refine lv_iload_n hx hb dX3_open_0 rfl (lv_at hl 1 rfl) ?_
  refine lv_bipush (v := 12) hx hb dX3_open_1 (by decide) ?_
  refine q_xv (rx_S S ⟨m_222, m_223, m_23, m_224⟩ ⟨rfl, by decide, by decide, by decide +kernel⟩ (c_checkIndex l a0 12 hst) ⟨rfl, rfl, Nat.le_of_ble_eq_true rfl, Nat.le_of_ble_eq_true rfl⟩ (ps bl_GZ (bGZ hX.2.2 hZ)) (n := 2) (As := [.int a0, .int 12]) (rest := []) rfl hl.1 rfl (Nat.le_of_ble_eq_true rfl) ⟨Nat.le_of_ble_eq_true rfl, Nat.le_of_ble_eq_true rfl⟩ dX3_open_3) ht hlocks (by rintro x ⟨rfl, hf1⟩; simp [eX_open, hf1, exN]) (Nat.le_of_ble_eq_true rfl) (Nat.le_of_ble_eq_true rfl) (fun (p1 : ckI a0 12 = true) => ?_)
  refine lv_aload_n hx hb dX3_open_6 rfl (lv_at hl 0 rfl) ?_
  refine k_get S hX.2 hX.1 0 (C := RX3) (T := TX3) (N := 6) rfl rfl 3 (by decide) inX3 m_134 rfl dX3_open_7 ?_
  refine lv_iload_n hx hb dX3_open_10 rfl (lv_at hl 1 rfl) ?_
  refine q_i (r_VN S hX.2.2 ⟨n_158, m_160, m_0, m_25, m_161⟩ ⟨rfl, by decide, by decide, by decide +kernel⟩ (c_isOpenFor l G ad σ ns a0 hns hns4) ⟨rfl, rfl, Nat.le_of_ble_eq_true rfl, Nat.le_of_ble_eq_true rfl⟩ (pv_X hX 4 rfl rfl bl_PX (bX hX)) (n := 1) (As := [.int a0]) (rest := []) rfl hl.1 rfl (Nat.le_of_ble_eq_true rfl) ⟨Nat.le_of_ble_eq_true rfl, Nat.le_of_ble_eq_true rfl⟩ dX3_open_11) (fun r2 (e2 : r2 = bI (opB σ a0 ns)) => ?_)
  subst e2
  refine lv_if_eq (tgt := 27) hx hb dX3_open_14 (by decide) (fun c14_3 => ?_) (fun c14_3 => ?_)
  · have bc14_3 := bI_0 c14_3
    refine lv_aload_n hx hb dX3_open_27 rfl (lv_at hl 0 rfl) ?_
    refine k_get S hX.2 hX.1 0 (C := RX3) (T := TX3) (N := 6) rfl rfl 3 (by decide) inX3 m_134 rfl dX3_open_28 ?_
    refine k_getN S hX.2 hX.1 4 (C := RX2) (T := TX2) (N := 4) rfl rfl 3 (by decide) inX2 n_85 rfl dX3_open_31 ?_
    refine lv_bipush (v := 40) hx hb dX3_open_34 (by decide) ?_
    refine lv_icmp_lt (tgt := 49) hx hb dX3_open_36 (by decide) (fun c36_4 => ?_) (fun c36_4 => ?_)
    · have bc36_4 := lt_nle c36_4
      have hns5 : ns < 40 := by
        have h9 := c36_4
        rw [hns, show (40 : Int32) = nI 40 from rfl, nI_ltI (by omega) (by omega)] at h9
        exact h9
      refine lv_aload_n hx hb dX3_open_49 rfl (lv_at hl 0 rfl) ?_
      refine k_get S hX.2 hX.1 0 (C := RX3) (T := TX3) (N := 6) rfl rfl 3 (by decide) inX3 m_134 rfl dX3_open_50 ?_
      refine lv_iload_n hx hb dX3_open_53 rfl (lv_at hl 1 rfl) ?_
      refine lv_aload_n hx hb dX3_open_54 rfl (lv_at hl 0 rfl) ?_
      refine k_get S hX.2 hX.1 0 (C := RX3) (T := TX3) (N := 6) rfl rfl 5 (by decide) inX3 m_136 rfl dX3_open_55 ?_
      refine q_w (r_VN S hX.2.2 ⟨n_542, m_544, m_19, m_25, m_545⟩ ⟨rfl, by decide, by decide, by decide +kernel⟩ (c_sheetAdd l G ad σ ns a0 (σ 16 0) hns hns5 A hD) ⟨rfl, rfl, Nat.le_of_ble_eq_true rfl, Nat.le_of_ble_eq_true rfl⟩ (pv_X hX 4 rfl rfl bl_PX (bX hX)) (n := 2) (As := [.int a0, .int (σ 16 0)]) (rest := []) rfl hl.1 rfl (Nat.le_of_ble_eq_true rfl) ⟨Nat.le_of_ble_eq_true rfl, Nat.le_of_ble_eq_true rfl⟩ dX3_open_58) hS0 (fun _ h => h) (fun r5 H5 L5 (e5 : r5 = nI ns) h5 _ _ hS5 => ?_)
      subst e5
      have hX5 : PX G ad (shS σ ns a0 (σ 16 0)) s H5 := ⟨h5, hX.2⟩
      refine W.widen (k := 2) (n := 12) (Nat.le_of_ble_eq_true rfl) (Nat.le_of_ble_eq_true rfl) ?_
      refine vx_ret ?_
      exact W.iret (v := nI ns) hx hb hr (fun t ht hW => ⟨⟨_, rfl, (by simp [eX_open, p1, bc14_3, c36_4, bc36_4])⟩, (by have e9 : shS σ ns a0 (σ 16 0) = shS σ ns a0 (σ 16 0) := (by first | rfl | simp [eX_open]); show va_P G.1 vwCl (wX G ad (shS σ ns a0 (σ 16 0))) t.heap; rw [e9, ht]; exact hX5.1), hS5.F ht⟩) hS5.2.2 dX3_open_61
    · have bc36_4 := nlt_le c36_4
      exact k_thr S hG hZ hst at_IS m_403 m_34 (by decide +kernel) n_541 hl.1 ht hlocks ⟨Nat.le_of_ble_eq_true rfl, Nat.le_of_ble_eq_true rfl⟩ ⟨Nat.le_of_ble_eq_true rfl, Nat.le_of_ble_eq_true rfl⟩ ⟨Nat.le_of_ble_eq_true rfl, Nat.le_of_ble_eq_true rfl⟩ (Nat.le_of_ble_eq_true rfl) (by simp [eX_open, p1, bc14_3, c36_4, bc36_4, exN]) dX3_open_39 dX3_open_42 dX3_open_43 dX3_open_45 dX3_open_48
  · have bc14_3 := bI_n c14_3
    exact k_thr S hG hZ hst at_IS m_403 m_34 (by decide +kernel) n_540 hl.1 ht hlocks ⟨Nat.le_of_ble_eq_true rfl, Nat.le_of_ble_eq_true rfl⟩ ⟨Nat.le_of_ble_eq_true rfl, Nat.le_of_ble_eq_true rfl⟩ ⟨Nat.le_of_ble_eq_true rfl, Nat.le_of_ble_eq_true rfl⟩ (Nat.le_of_ble_eq_true rfl) (by simp [eX_open, p1, bc14_3, exN]) dX3_open_17 dX3_open_20 dX3_open_21 dX3_open_23 dX3_open_26

set_option maxHeartbeats 4000000 in
set_option maxRecDepth 100000 in
theorem c_count (l : Launch) (G : kG) (ad : Nat → Nat) (σ : kS) (nm ns : Nat) (a0 b0 c0 d0 : Int32) (hst : l.stackTraces = false) (hns : σ 18 0 = nI ns) (hns4 : ns ≤ 40) (hnm : σ 17 0 = nI nm) (hnm2 : nm ≤ 200) (A : Nat → Prop) (hD : DD 20 A ad)  : vx_Met l yX3_count [.code yX3_count cX3_count 6 (some .boolean)] ({ frames := 7, cells := 5, slots := 30, locals := 114 }) (va_Pc [.ref (ad 0), .int a0, .int b0, .int c0, .int d0] (fun U => PX G ad σ U U.heap ∧ ZS U U.heap)) (oW A (fun r => eX_count σ a0 b0 c0 d0 = 0 ∧ r = bI (agB (adS σ (lnN a0 c0) b0 d0) (lnN a0 c0))) (fun H9 => va_P G.1 vwCl (wX G ad (adS σ (lnN a0 c0) b0 d0)) H9)) (tX (fun x => eX_count σ a0 b0 c0 d0 ≠ 0 ∧ x = exN (eX_count σ a0 b0 c0 d0))) 5 30 A := by
  refine kx_of (by decide) (Nat.le_of_ble_eq_true rfl) (fun U h => h.1.2.2) ?_
  intro p e s m below meth c ls S hr hlocks ht hB hl
  have hx := S.1
  have hb := S.2.1
  have hX : PX G ad σ s s.heap := hB.1
  have hG : GL s := hX.2.2
  have hZ : ZS s s.heap := hB.2
  have hl : lv_has ls 6 [(0, .ref (ad 0)), (1, .int a0), (2, .int b0), (3, .int c0), (4, .int d0)] := hl
  have hS0 : va_S A s.heap s.heap [] := va_S.rf
  refine lv_iload_n hx hb dX3_count_0 rfl (lv_at hl 1 rfl) ?_
  refine lv_aload_n hx hb dX3_count_1 rfl (lv_at hl 0 rfl) ?_
  refine k_get S hX.2 hX.1 0 (C := RX3) (T := TX3) (N := 6) rfl rfl 3 (by decide) inX3 m_134 rfl dX3_count_2 ?_
  refine k_getN S hX.2 hX.1 4 (C := RX2) (T := TX2) (N := 4) rfl rfl 3 (by decide) inX2 n_85 rfl dX3_count_5 ?_
  refine q_xv (rx_S S ⟨m_222, m_223, m_23, m_224⟩ ⟨rfl, by decide, by decide, by decide +kernel⟩ (c_checkIndex l a0 (σ 18 0) hst) ⟨rfl, rfl, Nat.le_of_ble_eq_true rfl, Nat.le_of_ble_eq_true rfl⟩ (ps bl_GZ (bGZ hX.2.2 hZ)) (n := 2) (As := [.int a0, .int (σ 18 0)]) (rest := []) rfl hl.1 rfl (Nat.le_of_ble_eq_true rfl) ⟨Nat.le_of_ble_eq_true rfl, Nat.le_of_ble_eq_true rfl⟩ dX3_count_8) ht hlocks (by rintro x ⟨rfl, hf1⟩; simp [eX_count, lnN, hf1, exN]) (Nat.le_of_ble_eq_true rfl) (Nat.le_of_ble_eq_true rfl) (fun (p1 : ckI a0 (σ 18 0) = true) => ?_)
  obtain ⟨sh, hsh, rfl⟩ := ckI_nI (n := ns) (by rw [← hns]; exact p1) (by omega)
  have h31sh : sh < 2 ^ 31 := by omega
  refine lv_iload_n hx hb dX3_count_11 rfl (lv_at hl 2 rfl) ?_
  refine lv_bipush (v := 6) hx hb dX3_count_12 (by decide) ?_
  refine q_xv (rx_S S ⟨m_222, m_223, m_23, m_224⟩ ⟨rfl, by decide, by decide, by decide +kernel⟩ (c_checkIndex l b0 6 hst) ⟨rfl, rfl, Nat.le_of_ble_eq_true rfl, Nat.le_of_ble_eq_true rfl⟩ (ps bl_GZ (bGZ hX.2.2 hZ)) (n := 2) (As := [.int b0, .int 6]) (rest := []) rfl hl.1 rfl (Nat.le_of_ble_eq_true rfl) ⟨Nat.le_of_ble_eq_true rfl, Nat.le_of_ble_eq_true rfl⟩ dX3_count_14) ht hlocks (by rintro x ⟨rfl, hf2⟩; simp [eX_count, lnN, ixN_nI h31sh, p1, hf2, exN]) (Nat.le_of_ble_eq_true rfl) (Nat.le_of_ble_eq_true rfl) (fun (p2 : ckI b0 6 = true) => ?_)
  refine lv_iload_n hx hb dX3_count_17 rfl (lv_at hl 3 rfl) ?_
  refine lv_iconst (v := 5) hx hb dX3_count_18 (by decide) ?_
  refine q_xv (rx_S S ⟨m_222, m_223, m_23, m_224⟩ ⟨rfl, by decide, by decide, by decide +kernel⟩ (c_checkIndex l c0 5 hst) ⟨rfl, rfl, Nat.le_of_ble_eq_true rfl, Nat.le_of_ble_eq_true rfl⟩ (ps bl_GZ (bGZ hX.2.2 hZ)) (n := 2) (As := [.int c0, .int 5]) (rest := []) rfl hl.1 rfl (Nat.le_of_ble_eq_true rfl) ⟨Nat.le_of_ble_eq_true rfl, Nat.le_of_ble_eq_true rfl⟩ dX3_count_19) ht hlocks (by rintro x ⟨rfl, hf3⟩; simp [eX_count, lnN, ixN_nI h31sh, p1, p2, hf3, exN]) (Nat.le_of_ble_eq_true rfl) (Nat.le_of_ble_eq_true rfl) (fun (p3 : ckI c0 5 = true) => ?_)
  obtain ⟨ar, har, rfl⟩ := ckI_nI (n := 5) p3 (by decide)
  have h31ar : ar < 2 ^ 31 := by omega
  refine lv_iload hx hb dX3_count_22 (lv_at hl 4 rfl) ?_
  refine lv_iconst (v := 0) hx hb dX3_count_24 (by decide) ?_
  refine lv_ldc (v := 100000) hx hb S.2.2.2.1 (S.2.2.2.2 _ m_553) dX3_count_25 ?_
  refine q_xv (rx_S S ⟨m_443, m_444, m_23, m_445⟩ ⟨rfl, by decide, by decide, by decide +kernel⟩ (c_checkRange l d0 0 100000 hst) ⟨rfl, rfl, Nat.le_of_ble_eq_true rfl, Nat.le_of_ble_eq_true rfl⟩ (ps bl_GZ (bGZ hX.2.2 hZ)) (n := 3) (As := [.int d0, .int 0, .int 100000]) (rest := []) rfl hl.1 rfl (Nat.le_of_ble_eq_true rfl) ⟨Nat.le_of_ble_eq_true rfl, Nat.le_of_ble_eq_true rfl⟩ dX3_count_27) ht hlocks (by rintro x ⟨rfl, hf4⟩; simp [eX_count, lnN, ixN_nI h31sh, ixN_nI h31ar, p1, p2, p3, hf4, exN]) (Nat.le_of_ble_eq_true rfl) (Nat.le_of_ble_eq_true rfl) (fun (p4 : ckR d0 0 100000 = true) => ?_)
  refine lv_iload_n hx hb dX3_count_30 rfl (lv_at hl 1 rfl) ?_
  refine lv_iload_n hx hb dX3_count_31 rfl (lv_at hl 3 rfl) ?_
  refine q_i (r_S S ⟨m_183, m_184, m_23, m_185⟩ ⟨rfl, by decide, by decide, by decide +kernel⟩ (c_lineOf l sh ar) ⟨rfl, rfl, Nat.le_of_ble_eq_true rfl, Nat.le_of_ble_eq_true rfl⟩ (ps bl_GL (bG hX.2.2)) (n := 2) (As := [.int (nI sh), .int (nI ar)]) (rest := []) rfl hl.1 rfl (Nat.le_of_ble_eq_true rfl) ⟨Nat.le_of_ble_eq_true rfl, Nat.le_of_ble_eq_true rfl⟩ dX3_count_32) (fun r5 (e5 : r5 = nI (sh * 5 + ar)) => ?_)
  subst e5
  refine lv_istore (lv' := [(5, .int (nI (sh * 5 + ar))), (0, .ref (ad 0)), (1, .int (nI sh)), (2, .int b0), (3, .int (nI ar)), (4, .int d0)]) hx hb dX3_count_35 hl (by decide) rfl (fun ls hl => ?_)
  refine lv_aload_n hx hb dX3_count_37 rfl (lv_at hl 1 rfl) ?_
  refine k_get S hX.2 hX.1 0 (C := RX3) (T := TX3) (N := 6) rfl rfl 3 (by decide) inX3 m_134 rfl dX3_count_38 ?_
  refine k_getN S hX.2 hX.1 4 (C := RX2) (T := TX2) (N := 4) rfl rfl 2 (by decide) inX2 n_83 rfl dX3_count_41 ?_
  refine lv_iload_n hx hb dX3_count_44 rfl (lv_at hl 2 rfl) ?_
  refine k_zld S hX.2 hX.1 13 (i := sh) rfl (by omega) (by decide) dX3_count_45 ?_
  refine lv_if_eq (tgt := 59) hx hb dX3_count_46 (by decide) (fun c46_6 => ?_) (fun c46_6 => ?_)
  · have bc46_6 := c46_6
    refine lv_aload_n hx hb dX3_count_59 rfl (lv_at hl 1 rfl) ?_
    refine k_get S hX.2 hX.1 0 (C := RX3) (T := TX3) (N := 6) rfl rfl 4 (by decide) inX3 m_135 rfl dX3_count_60 ?_
    refine lv_iload hx hb dX3_count_63 (lv_at hl 0 rfl) ?_
    refine q_i (r_VN S hX.2.2 ⟨n_358, m_360, m_14, m_26, m_361⟩ ⟨rfl, by decide, by decide, by decide +kernel⟩ (c_agrees l G ad σ (sh * 5 + ar) (by omega)) ⟨rfl, rfl, Nat.le_of_ble_eq_true rfl, Nat.le_of_ble_eq_true rfl⟩ (pv_X hX 5 rfl rfl bl_PX (bX hX)) (n := 1) (As := [.int (nI (sh * 5 + ar))]) (rest := []) rfl hl.1 rfl (Nat.le_of_ble_eq_true rfl) ⟨Nat.le_of_ble_eq_true rfl, Nat.le_of_ble_eq_true rfl⟩ dX3_count_65) (fun r7 (e7 : r7 = bI (agB σ (sh * 5 + ar))) => ?_)
    subst e7
    refine lv_if_eq (tgt := 81) hx hb dX3_count_68 (by decide) (fun c68_8 => ?_) (fun c68_8 => ?_)
    · have bc68_8 := bI_0 c68_8
      refine lv_aload_n hx hb dX3_count_81 rfl (lv_at hl 1 rfl) ?_
      refine k_get S hX.2 hX.1 0 (C := RX3) (T := TX3) (N := 6) rfl rfl 4 (by decide) inX3 m_135 rfl dX3_count_82 ?_
      refine lv_iload hx hb dX3_count_85 (lv_at hl 0 rfl) ?_
      refine lv_iload_n hx hb dX3_count_87 rfl (lv_at hl 3 rfl) ?_
      refine q_i (r_VN S hX.2.2 ⟨n_556, m_558, m_20, m_26, m_559⟩ ⟨rfl, by decide, by decide, by decide +kernel⟩ (c_isCountedBy l G ad σ (sh * 5 + ar) b0 (by omega)) ⟨rfl, rfl, Nat.le_of_ble_eq_true rfl, Nat.le_of_ble_eq_true rfl⟩ (pv_X hX 5 rfl rfl bl_PX (bX hX)) (n := 2) (As := [.int (nI (sh * 5 + ar)), .int b0]) (rest := []) rfl hl.1 rfl (Nat.le_of_ble_eq_true rfl) ⟨Nat.le_of_ble_eq_true rfl, Nat.le_of_ble_eq_true rfl⟩ dX3_count_88) (fun r9 (e9 : r9 = bI (cbB σ (sh * 5 + ar) b0)) => ?_)
      subst e9
      refine lv_if_eq (tgt := 104) hx hb dX3_count_91 (by decide) (fun c91_10 => ?_) (fun c91_10 => ?_)
      · have bc91_10 := bI_0 c91_10
        refine lv_aload_n hx hb dX3_count_104 rfl (lv_at hl 1 rfl) ?_
        refine k_get S hX.2 hX.1 0 (C := RX3) (T := TX3) (N := 6) rfl rfl 4 (by decide) inX3 m_135 rfl dX3_count_105 ?_
        refine lv_iload hx hb dX3_count_108 (lv_at hl 0 rfl) ?_
        refine lv_iload_n hx hb dX3_count_110 rfl (lv_at hl 3 rfl) ?_
        refine lv_iload hx hb dX3_count_111 (lv_at hl 5 rfl) ?_
        refine q_wv (r_VN S hX.2.2 ⟨n_561, m_563, m_21, m_26, m_564⟩ ⟨rfl, by decide, by decide, by decide +kernel⟩ (c_lineAdd l G ad σ (sh * 5 + ar) b0 d0 (by omega) A hD) ⟨rfl, rfl, Nat.le_of_ble_eq_true rfl, Nat.le_of_ble_eq_true rfl⟩ (pv_X hX 5 rfl rfl bl_PX (bX hX)) (n := 3) (As := [.int (nI (sh * 5 + ar)), .int b0, .int d0]) (rest := []) rfl hl.1 rfl (Nat.le_of_ble_eq_true rfl) ⟨Nat.le_of_ble_eq_true rfl, Nat.le_of_ble_eq_true rfl⟩ dX3_count_113) hS0 (fun _ h => h) (fun H11 L11 _ h11 _ _ hS11 => ?_)
        have hX11 : PX G ad (adS σ (sh * 5 + ar) b0 d0) s H11 := ⟨h11, hX.2⟩
        refine lv_aload_n hx hb dX3_count_116 rfl (lv_at hl 1 rfl) ?_
        refine k_get S hX11.2 hX11.1 0 (C := RX3) (T := TX3) (N := 6) rfl rfl 4 (by decide) inX3 m_135 rfl dX3_count_117 ?_
        refine lv_iload hx hb dX3_count_120 (lv_at hl 0 rfl) ?_
        refine q_i (r_VN S hX11.2.2 ⟨n_358, m_360, m_14, m_26, m_361⟩ ⟨rfl, by decide, by decide, by decide +kernel⟩ (c_agrees l G ad (adS σ (sh * 5 + ar) b0 d0) (sh * 5 + ar) (by omega)) ⟨rfl, rfl, Nat.le_of_ble_eq_true rfl, Nat.le_of_ble_eq_true rfl⟩ (pv_X hX11 5 rfl rfl bl_PX (bX hX11)) (n := 1) (As := [.int (nI (sh * 5 + ar))]) (rest := []) rfl hl.1 rfl (Nat.le_of_ble_eq_true rfl) ⟨Nat.le_of_ble_eq_true rfl, Nat.le_of_ble_eq_true rfl⟩ dX3_count_122) (fun r12 (e12 : r12 = bI (agB (adS σ (sh * 5 + ar) b0 d0) (sh * 5 + ar))) => ?_)
        subst e12
        refine W.widen (k := 5) (n := 30) (Nat.le_of_ble_eq_true rfl) (Nat.le_of_ble_eq_true rfl) ?_
        refine vx_ret ?_
        exact W.zret (v := bI (agB (adS σ (sh * 5 + ar) b0 d0) (sh * 5 + ar))) (ty := .boolean) hx hb hr (by first | rfl | exact bI_nar _) (fun t ht hW => ⟨⟨_, rfl, (by simp [eX_count, lnN, ixN_nI h31sh, ixN_nI h31ar, p1, p2, p3, p4, c46_6, bc68_8, bc91_10])⟩, (by have e9 : adS σ (lnN (nI sh) (nI ar)) b0 d0 = adS σ (sh * 5 + ar) b0 d0 := (by first | rfl | simp [eX_count, lnN, ixN_nI h31sh, ixN_nI h31ar]); show va_P G.1 vwCl (wX G ad (adS σ (lnN (nI sh) (nI ar)) b0 d0)) t.heap; rw [e9, ht]; exact hX11.1), hS11.F ht⟩) hS11.2.2 dX3_count_125
      · have bc91_10 := bI_n c91_10
        exact k_thr S hG hZ hst at_IS m_403 m_34 (by decide +kernel) n_560 hl.1 ht hlocks ⟨Nat.le_of_ble_eq_true rfl, Nat.le_of_ble_eq_true rfl⟩ ⟨Nat.le_of_ble_eq_true rfl, Nat.le_of_ble_eq_true rfl⟩ ⟨Nat.le_of_ble_eq_true rfl, Nat.le_of_ble_eq_true rfl⟩ (Nat.le_of_ble_eq_true rfl) (by simp [eX_count, lnN, ixN_nI h31sh, ixN_nI h31ar, p1, p2, p3, p4, c46_6, bc68_8, bc91_10, exN]) dX3_count_94 dX3_count_97 dX3_count_98 dX3_count_100 dX3_count_103
    · have bc68_8 := bI_n c68_8
      exact k_thr S hG hZ hst at_IS m_403 m_34 (by decide +kernel) n_555 hl.1 ht hlocks ⟨Nat.le_of_ble_eq_true rfl, Nat.le_of_ble_eq_true rfl⟩ ⟨Nat.le_of_ble_eq_true rfl, Nat.le_of_ble_eq_true rfl⟩ ⟨Nat.le_of_ble_eq_true rfl, Nat.le_of_ble_eq_true rfl⟩ (Nat.le_of_ble_eq_true rfl) (by simp [eX_count, lnN, ixN_nI h31sh, ixN_nI h31ar, p1, p2, p3, p4, c46_6, bc68_8, exN]) dX3_count_71 dX3_count_74 dX3_count_75 dX3_count_77 dX3_count_80
  · have bc46_6 := c46_6
    exact k_thr S hG hZ hst at_IS m_403 m_34 (by decide +kernel) n_554 hl.1 ht hlocks ⟨Nat.le_of_ble_eq_true rfl, Nat.le_of_ble_eq_true rfl⟩ ⟨Nat.le_of_ble_eq_true rfl, Nat.le_of_ble_eq_true rfl⟩ ⟨Nat.le_of_ble_eq_true rfl, Nat.le_of_ble_eq_true rfl⟩ (Nat.le_of_ble_eq_true rfl) (by simp [eX_count, lnN, ixN_nI h31sh, ixN_nI h31ar, p1, p2, p3, p4, c46_6, exN]) dX3_count_49 dX3_count_52 dX3_count_53 dX3_count_55 dX3_count_58

set_option maxHeartbeats 4000000 in
set_option maxRecDepth 100000 in
theorem c_close (l : Launch) (G : kG) (ad : Nat → Nat) (σ : kS) (nm ns : Nat) (a0 : Int32) (hst : l.stackTraces = false) (hns : σ 18 0 = nI ns) (hns4 : ns ≤ 40) (hnm : σ 17 0 = nI nm) (hnm2 : nm ≤ 200) (A : Nat → Prop) (hD : DD 20 A ad)  : vx_Met l yX3_close [.code yX3_close cX3_close 5 (some .int)] ({ frames := 7, cells := 2, slots := 12, locals := 113 }) (va_Pc [.ref (ad 0), .int a0] (fun U => PX G ad σ U U.heap ∧ ZS U U.heap)) (oW A (fun r => eX_close σ a0 = 0 ∧ r = clA σ (ixN a0) 5) (fun H9 => va_P G.1 vwCl (wX G ad (su σ 9 (ixN a0) 1)) H9)) (tX (fun x => eX_close σ a0 ≠ 0 ∧ x = exN (eX_close σ a0))) 2 12 A := by
  refine kx_of (by decide) (Nat.le_of_ble_eq_true rfl) (fun U h => h.1.2.2) ?_
  intro p e s m below meth c ls S hr hlocks ht hB hl
  have hx := S.1
  have hb := S.2.1
  have hX : PX G ad σ s s.heap := hB.1
  have hG : GL s := hX.2.2
  have hZ : ZS s s.heap := hB.2
  have hl : lv_has ls 5 [(0, .ref (ad 0)), (1, .int a0)] := hl
  have hS0 : va_S A s.heap s.heap [] := va_S.rf
  refine lv_iload_n hx hb dX3_close_0 rfl (lv_at hl 1 rfl) ?_
  refine lv_aload_n hx hb dX3_close_1 rfl (lv_at hl 0 rfl) ?_
  refine k_get S hX.2 hX.1 0 (C := RX3) (T := TX3) (N := 6) rfl rfl 3 (by decide) inX3 m_134 rfl dX3_close_2 ?_
  refine k_getN S hX.2 hX.1 4 (C := RX2) (T := TX2) (N := 4) rfl rfl 3 (by decide) inX2 n_85 rfl dX3_close_5 ?_
  refine q_xv (rx_S S ⟨m_222, m_223, m_23, m_224⟩ ⟨rfl, by decide, by decide, by decide +kernel⟩ (c_checkIndex l a0 (σ 18 0) hst) ⟨rfl, rfl, Nat.le_of_ble_eq_true rfl, Nat.le_of_ble_eq_true rfl⟩ (ps bl_GZ (bGZ hX.2.2 hZ)) (n := 2) (As := [.int a0, .int (σ 18 0)]) (rest := []) rfl hl.1 rfl (Nat.le_of_ble_eq_true rfl) ⟨Nat.le_of_ble_eq_true rfl, Nat.le_of_ble_eq_true rfl⟩ dX3_close_8) ht hlocks (by rintro x ⟨rfl, hf1⟩; simp [eX_close, hf1, exN]) (Nat.le_of_ble_eq_true rfl) (Nat.le_of_ble_eq_true rfl) (fun (p1 : ckI a0 (σ 18 0) = true) => ?_)
  obtain ⟨sh, hsh, rfl⟩ := ckI_nI (n := ns) (by rw [← hns]; exact p1) (by omega)
  have h31sh : sh < 2 ^ 31 := by omega
  refine lv_aload_n hx hb dX3_close_11 rfl (lv_at hl 0 rfl) ?_
  refine k_get S hX.2 hX.1 0 (C := RX3) (T := TX3) (N := 6) rfl rfl 3 (by decide) inX3 m_134 rfl dX3_close_12 ?_
  refine k_getN S hX.2 hX.1 4 (C := RX2) (T := TX2) (N := 4) rfl rfl 2 (by decide) inX2 n_83 rfl dX3_close_15 ?_
  refine lv_iload_n hx hb dX3_close_18 rfl (lv_at hl 1 rfl) ?_
  refine k_zld S hX.2 hX.1 13 (i := sh) rfl (by omega) (by decide) dX3_close_19 ?_
  refine lv_if_eq (tgt := 33) hx hb dX3_close_20 (by decide) (fun c20_2 => ?_) (fun c20_2 => ?_)
  · have bc20_2 := c20_2
    have L37 : ∀ (n i : Nat), i ≤ 5 → 5 + 1 ≤ i + n → clB σ sh i = true → ∀ ls, lv_has ls 5 [(0, .ref (ad 0)), (1, .int (nI sh)), (2, .int (clA σ sh i)), (3, .int (nI i))] → W p l e ({ frames := 7, cells := 2, slots := 12, locals := 113 } : Room) s m [.ref (ad 0), .int (nI sh)].toArray below meth c s.heap [] 1 6 (vx_MQ below (oW A (fun r => eX_close σ (nI sh) = 0 ∧ r = clA σ (ixN (nI sh)) 5) (fun H9 => va_P G.1 vwCl (wX G ad (su σ 9 (ixN (nI sh)) 1)) H9)) (tX (fun x => eX_close σ (nI sh) ≠ 0 ∧ x = exN (eX_close σ (nI sh)))) [.ref (ad 0), .int (nI sh)].toArray s 2 12 A) (F0 m 37 ls []) := by
      intro n
      induction n with
      | zero =>
        intro i h1 h2
        omega
      | succ n ihn =>
        intro i hii hini hcb ls hl
        refine lv_iload_n hx hb dX3_close_37 rfl (lv_at hl 3 rfl) ?_
        refine lv_iconst (v := 5) hx hb dX3_close_38 (by decide) ?_
        refine lv_icmp_ge (tgt := 95) hx hb dX3_close_39 (by decide) (fun c39_3 => ?_) (fun c39_3 => ?_)
        · have bc39_3 := le_nlt c39_3
          have hgei : i = 5 := by
            have h9 := c39_3
            rw [show (5 : Int32) = nI 5 from rfl, nI_leI (by omega) (by omega)] at h9
            omega
          refine lv_aload_n hx hb dX3_close_95 rfl (lv_at hl 0 rfl) ?_
          refine k_get S hX.2 hX.1 0 (C := RX3) (T := TX3) (N := 6) rfl rfl 3 (by decide) inX3 m_134 rfl dX3_close_96 ?_
          refine k_getN S hX.2 hX.1 4 (C := RX2) (T := TX2) (N := 4) rfl rfl 2 (by decide) inX2 n_83 rfl dX3_close_99 ?_
          refine lv_iload_n hx hb dX3_close_102 rfl (lv_at hl 1 rfl) ?_
          refine lv_iconst (v := 1) hx hb dX3_close_103 (by decide) ?_
          refine k_zst S hX.2 hX.1 (hD.w (wX_fst _ _ _)) hS0 13 (i := sh) rfl (by omega) (by decide) rfl dX3_close_104 (fun H4 L4 h4 hS4 => ?_)
          have hX4 : PX G ad (su σ 9 sh 1) s H4 := ⟨h4, hX.2⟩
          refine lv_iload_n hx hb dX3_close_105 rfl (lv_at hl 2 rfl) ?_
          refine W.widen (k := 2) (n := 12) (Nat.le_of_ble_eq_true rfl) (Nat.le_of_ble_eq_true rfl) ?_
          refine vx_ret ?_
          exact W.iret (v := clA σ sh i) hx hb hr (fun t ht hW => ⟨⟨_, rfl, (by subst hgei; simp [eX_close, ixN_nI h31sh, p1, c20_2, c39_3, bc39_3, hcb])⟩, (by have e9 : su σ 9 (ixN (nI sh)) 1 = su σ 9 sh 1 := (by first | rfl | simp [eX_close, ixN_nI h31sh]); show va_P G.1 vwCl (wX G ad (su σ 9 (ixN (nI sh)) 1)) t.heap; rw [e9, ht]; exact hX4.1), hS4.F ht⟩) hS4.2.2 dX3_close_106
        · have bc39_3 := nle_lt c39_3
          have hlti : i < 5 := by
            have h9 := nle_lt c39_3
            rw [show (5 : Int32) = nI 5 from rfl, nI_ltI (by omega) (by omega)] at h9
            exact h9
          refine lv_iload_n hx hb dX3_close_42 rfl (lv_at hl 1 rfl) ?_
          refine lv_iload_n hx hb dX3_close_43 rfl (lv_at hl 3 rfl) ?_
          refine q_i (r_S S ⟨m_183, m_184, m_23, m_185⟩ ⟨rfl, by decide, by decide, by decide +kernel⟩ (c_lineOf l sh i) ⟨rfl, rfl, Nat.le_of_ble_eq_true rfl, Nat.le_of_ble_eq_true rfl⟩ (ps bl_GL (bG hX.2.2)) (n := 2) (As := [.int (nI sh), .int (nI i)]) (rest := []) rfl hl.1 rfl (Nat.le_of_ble_eq_true rfl) ⟨Nat.le_of_ble_eq_true rfl, Nat.le_of_ble_eq_true rfl⟩ dX3_close_44) (fun r5 (e5 : r5 = nI (sh * 5 + i)) => ?_)
          subst e5
          refine lv_istore (lv' := [(4, .int (nI (sh * 5 + i))), (0, .ref (ad 0)), (1, .int (nI sh)), (2, .int (clA σ sh i)), (3, .int (nI i))]) hx hb dX3_close_47 hl (by decide) rfl (fun ls hl => ?_)
          refine lv_aload_n hx hb dX3_close_49 rfl (lv_at hl 1 rfl) ?_
          refine k_get S hX.2 hX.1 0 (C := RX3) (T := TX3) (N := 6) rfl rfl 4 (by decide) inX3 m_135 rfl dX3_close_50 ?_
          refine lv_iload hx hb dX3_close_53 (lv_at hl 0 rfl) ?_
          refine q_i (r_VN S hX.2.2 ⟨n_358, m_360, m_14, m_26, m_361⟩ ⟨rfl, by decide, by decide, by decide +kernel⟩ (c_agrees l G ad σ (sh * 5 + i) (by omega)) ⟨rfl, rfl, Nat.le_of_ble_eq_true rfl, Nat.le_of_ble_eq_true rfl⟩ (pv_X hX 5 rfl rfl bl_PX (bX hX)) (n := 1) (As := [.int (nI (sh * 5 + i))]) (rest := []) rfl hl.1 rfl (Nat.le_of_ble_eq_true rfl) ⟨Nat.le_of_ble_eq_true rfl, Nat.le_of_ble_eq_true rfl⟩ dX3_close_55) (fun r6 (e6 : r6 = bI (agB σ (sh * 5 + i))) => ?_)
          subst e6
          refine lv_if_eq (tgt := 67) hx hb dX3_close_58 (by decide) (fun c58_7 => ?_) (fun c58_7 => ?_)
          · have bc58_7 := bI_0 c58_7
            refine lv_aload_n hx hb dX3_close_67 rfl (lv_at hl 1 rfl) ?_
            refine k_get S hX.2 hX.1 0 (C := RX3) (T := TX3) (N := 6) rfl rfl 4 (by decide) inX3 m_135 rfl dX3_close_68 ?_
            refine lv_iload hx hb dX3_close_71 (lv_at hl 0 rfl) ?_
            refine q_i (r_VN S hX.2.2 ⟨n_326, m_328, m_11, m_26, m_329⟩ ⟨rfl, by decide, by decide, by decide +kernel⟩ (c_countsOn l G ad σ (sh * 5 + i) (by omega)) ⟨rfl, rfl, Nat.le_of_ble_eq_true rfl, Nat.le_of_ble_eq_true rfl⟩ (pv_X hX 5 rfl rfl bl_PX (bX hX)) (n := 1) (As := [.int (nI (sh * 5 + i))]) (rest := []) rfl hl.1 rfl (Nat.le_of_ble_eq_true rfl) ⟨Nat.le_of_ble_eq_true rfl, Nat.le_of_ble_eq_true rfl⟩ dX3_close_73) (fun r8 (e8 : r8 = bc (σ 10 (sh * 5 + i))) => ?_)
            subst e8
            refine lv_if_le (tgt := 89) hx hb dX3_close_76 (by decide) (fun c76_9 => ?_) (fun c76_9 => ?_)
            · have bc76_9 := le_nlt c76_9
              refine lv_iinc (v := nI (i + 1)) (lv' := [(3, .int (nI (i + 1))), (4, .int (nI (sh * 5 + i))), (0, .ref (ad 0)), (1, .int (nI sh)), (2, .int (clA σ sh i))]) hx hb dX3_close_89 hl (k := 4) rfl (nI_1 i) (by decide) rfl (fun ls hl => ?_)
              refine lv_goto (tgt := 37) hx hb dX3_close_92 (by decide) ?_
              have ev10 : clA σ sh i = clA σ sh (i + 1) := by simp [clA, p1, c20_2, c39_3, bc39_3, bc58_7, c76_9, bc76_9]
              rw [ev10] at hl
              exact ihn (i + 1) hlti (by omega) (by simp [clB, hcb, p1, c20_2, c39_3, bc39_3, bc58_7, c76_9, bc76_9]) ls (lv_sub hl [2, 3, 4, 0] rfl)
            · have bc76_9 := nle_lt c76_9
              exact k_thr S hG hZ hst at_IS m_403 m_34 (by decide +kernel) n_580 hl.1 ht hlocks ⟨Nat.le_of_ble_eq_true rfl, Nat.le_of_ble_eq_true rfl⟩ ⟨Nat.le_of_ble_eq_true rfl, Nat.le_of_ble_eq_true rfl⟩ ⟨Nat.le_of_ble_eq_true rfl, Nat.le_of_ble_eq_true rfl⟩ (Nat.le_of_ble_eq_true rfl) (by have h9 : clB σ sh (i + 1) = false := (by simp [clB, hcb, p1, c20_2, c39_3, bc39_3, bc58_7, c76_9, bc76_9]); have h8 := clB_no (by omega : i + 1 ≤ 5) h9; simp [eX_close, ixN_nI h31sh, p1, c20_2, c39_3, bc39_3, bc58_7, c76_9, bc76_9, h8, exN]) dX3_close_79 dX3_close_82 dX3_close_83 dX3_close_85 dX3_close_88
          · have bc58_7 := bI_n c58_7
            refine lv_iinc (v := clA σ sh i + 1) (lv' := [(2, .int (clA σ sh i + 1)), (4, .int (nI (sh * 5 + i))), (0, .ref (ad 0)), (1, .int (nI sh)), (3, .int (nI i))]) hx hb dX3_close_61 hl (k := 3) rfl rfl (by decide) rfl (fun ls hl => ?_)
            refine lv_goto (tgt := 89) hx hb dX3_close_64 (by decide) ?_
            refine lv_iinc (v := nI (i + 1)) (lv' := [(3, .int (nI (i + 1))), (2, .int (clA σ sh i + 1)), (4, .int (nI (sh * 5 + i))), (0, .ref (ad 0)), (1, .int (nI sh))]) hx hb dX3_close_89 hl (k := 4) rfl (nI_1 i) (by decide) rfl (fun ls hl => ?_)
            refine lv_goto (tgt := 37) hx hb dX3_close_92 (by decide) ?_
            have ev11 : clA σ sh i + 1 = clA σ sh (i + 1) := by simp [clA, p1, c20_2, c39_3, bc39_3, bc58_7]
            rw [ev11] at hl
            exact ihn (i + 1) hlti (by omega) (by simp [clB, hcb, p1, c20_2, c39_3, bc39_3, bc58_7]) ls (lv_sub hl [3, 4, 1, 0] rfl)
    refine lv_iconst (v := 0) hx hb dX3_close_33 (by decide) ?_
    refine lv_istore_n (lv' := [(2, .int 0), (0, .ref (ad 0)), (1, .int (nI sh))]) hx hb dX3_close_34 rfl hl (by decide) rfl (fun ls hl => ?_)
    refine lv_iconst (v := 0) hx hb dX3_close_35 (by decide) ?_
    refine lv_istore_n (lv' := [(3, .int 0), (2, .int 0), (0, .ref (ad 0)), (1, .int (nI sh))]) hx hb dX3_close_36 rfl hl (by decide) rfl (fun ls hl => ?_)
    exact L37 6 0 (Nat.zero_le _) (by omega) rfl ls (lv_sub hl [2, 3, 1, 0] rfl)
  · have bc20_2 := c20_2
    exact k_thr S hG hZ hst at_IS m_403 m_34 (by decide +kernel) n_554 hl.1 ht hlocks ⟨Nat.le_of_ble_eq_true rfl, Nat.le_of_ble_eq_true rfl⟩ ⟨Nat.le_of_ble_eq_true rfl, Nat.le_of_ble_eq_true rfl⟩ ⟨Nat.le_of_ble_eq_true rfl, Nat.le_of_ble_eq_true rfl⟩ (Nat.le_of_ble_eq_true rfl) (by simp [eX_close, ixN_nI h31sh, p1, c20_2, exN]) dX3_close_23 dX3_close_26 dX3_close_27 dX3_close_29 dX3_close_32

set_option maxHeartbeats 4000000 in
set_option maxRecDepth 100000 in
theorem c_sign (l : Launch) (G : kG) (ad : Nat → Nat) (σ : kS) (nm ns : Nat) (a0 b0 c0 : Int32) (hst : l.stackTraces = false) (hns : σ 18 0 = nI ns) (hns4 : ns ≤ 40) (hnm : σ 17 0 = nI nm) (hnm2 : nm ≤ 200) (A : Nat → Prop) (hD : DD 20 A ad)  : vx_Met l yX3_sign [.code yX3_sign cX3_sign 5 (some .int)] ({ frames := 7, cells := 5, slots := 30, locals := 157 }) (va_Pc [.ref (ad 0), .int a0, .int b0, .int c0] (fun U => PX G ad σ U U.heap ∧ ZS U U.heap)) (oW A (fun r => eX_sign σ nm ns a0 b0 c0 = 0 ∧ r = gpV σ nm ns (ixN a0) (ixN b0)) (fun H9 => va_P G.1 vwCl (wX G ad (wrS σ (lnN a0 b0) (gpV σ nm ns (ixN a0) (ixN b0)))) H9)) (tX (fun x => eX_sign σ nm ns a0 b0 c0 ≠ 0 ∧ x = exN (eX_sign σ nm ns a0 b0 c0))) 5 30 A := by
  refine kx_of (by decide) (Nat.le_of_ble_eq_true rfl) (fun U h => h.1.2.2) ?_
  intro p e s m below meth c ls S hr hlocks ht hB hl
  have hx := S.1
  have hb := S.2.1
  have hX : PX G ad σ s s.heap := hB.1
  have hG : GL s := hX.2.2
  have hZ : ZS s s.heap := hB.2
  have hl : lv_has ls 5 [(0, .ref (ad 0)), (1, .int a0), (2, .int b0), (3, .int c0)] := hl
  have hS0 : va_S A s.heap s.heap [] := va_S.rf
  refine lv_iload_n hx hb dX3_sign_0 rfl (lv_at hl 1 rfl) ?_
  refine lv_aload_n hx hb dX3_sign_1 rfl (lv_at hl 0 rfl) ?_
  refine k_get S hX.2 hX.1 0 (C := RX3) (T := TX3) (N := 6) rfl rfl 3 (by decide) inX3 m_134 rfl dX3_sign_2 ?_
  refine k_getN S hX.2 hX.1 4 (C := RX2) (T := TX2) (N := 4) rfl rfl 3 (by decide) inX2 n_85 rfl dX3_sign_5 ?_
  refine q_xv (rx_S S ⟨m_222, m_223, m_23, m_224⟩ ⟨rfl, by decide, by decide, by decide +kernel⟩ (c_checkIndex l a0 (σ 18 0) hst) ⟨rfl, rfl, Nat.le_of_ble_eq_true rfl, Nat.le_of_ble_eq_true rfl⟩ (ps bl_GZ (bGZ hX.2.2 hZ)) (n := 2) (As := [.int a0, .int (σ 18 0)]) (rest := []) rfl hl.1 rfl (Nat.le_of_ble_eq_true rfl) ⟨Nat.le_of_ble_eq_true rfl, Nat.le_of_ble_eq_true rfl⟩ dX3_sign_8) ht hlocks (by rintro x ⟨rfl, hf1⟩; simp [eX_sign, lnN, hf1, exN]) (Nat.le_of_ble_eq_true rfl) (Nat.le_of_ble_eq_true rfl) (fun (p1 : ckI a0 (σ 18 0) = true) => ?_)
  obtain ⟨sh, hsh, rfl⟩ := ckI_nI (n := ns) (by rw [← hns]; exact p1) (by omega)
  have h31sh : sh < 2 ^ 31 := by omega
  refine lv_iload_n hx hb dX3_sign_11 rfl (lv_at hl 2 rfl) ?_
  refine lv_iconst (v := 5) hx hb dX3_sign_12 (by decide) ?_
  refine q_xv (rx_S S ⟨m_222, m_223, m_23, m_224⟩ ⟨rfl, by decide, by decide, by decide +kernel⟩ (c_checkIndex l b0 5 hst) ⟨rfl, rfl, Nat.le_of_ble_eq_true rfl, Nat.le_of_ble_eq_true rfl⟩ (ps bl_GZ (bGZ hX.2.2 hZ)) (n := 2) (As := [.int b0, .int 5]) (rest := []) rfl hl.1 rfl (Nat.le_of_ble_eq_true rfl) ⟨Nat.le_of_ble_eq_true rfl, Nat.le_of_ble_eq_true rfl⟩ dX3_sign_13) ht hlocks (by rintro x ⟨rfl, hf2⟩; simp [eX_sign, lnN, ixN_nI h31sh, p1, hf2, exN]) (Nat.le_of_ble_eq_true rfl) (Nat.le_of_ble_eq_true rfl) (fun (p2 : ckI b0 5 = true) => ?_)
  obtain ⟨ar, har, rfl⟩ := ckI_nI (n := 5) p2 (by decide)
  have h31ar : ar < 2 ^ 31 := by omega
  refine lv_iload_n hx hb dX3_sign_16 rfl (lv_at hl 3 rfl) ?_
  refine lv_bipush (v := 6) hx hb dX3_sign_17 (by decide) ?_
  refine q_xv (rx_S S ⟨m_222, m_223, m_23, m_224⟩ ⟨rfl, by decide, by decide, by decide +kernel⟩ (c_checkIndex l c0 6 hst) ⟨rfl, rfl, Nat.le_of_ble_eq_true rfl, Nat.le_of_ble_eq_true rfl⟩ (ps bl_GZ (bGZ hX.2.2 hZ)) (n := 2) (As := [.int c0, .int 6]) (rest := []) rfl hl.1 rfl (Nat.le_of_ble_eq_true rfl) ⟨Nat.le_of_ble_eq_true rfl, Nat.le_of_ble_eq_true rfl⟩ dX3_sign_19) ht hlocks (by rintro x ⟨rfl, hf3⟩; simp [eX_sign, lnN, ixN_nI h31sh, ixN_nI h31ar, p1, p2, hf3, exN]) (Nat.le_of_ble_eq_true rfl) (Nat.le_of_ble_eq_true rfl) (fun (p3 : ckI c0 6 = true) => ?_)
  obtain ⟨pe, hpe, rfl⟩ := ckI_nI (n := 6) p3 (by decide)
  have h31pe : pe < 2 ^ 31 := by omega
  refine lv_aload_n hx hb dX3_sign_22 rfl (lv_at hl 0 rfl) ?_
  refine lv_iload_n hx hb dX3_sign_23 rfl (lv_at hl 1 rfl) ?_
  refine lv_iload_n hx hb dX3_sign_24 rfl (lv_at hl 2 rfl) ?_
  refine q_xv (rx_V S ⟨m_374, m_376, m_16, m_23, m_377⟩ ⟨rfl, by decide, by decide, by decide +kernel⟩ (c_checkAgrees l G ad σ sh ar hst (by omega) (by omega)) ⟨rfl, rfl, Nat.le_of_ble_eq_true rfl, Nat.le_of_ble_eq_true rfl⟩ (pv_X hX 0 rfl rfl bl_PXZ (bXZ hX hZ)) (n := 2) (As := [.int (nI sh), .int (nI ar)]) (rest := []) rfl hl.1 rfl (Nat.le_of_ble_eq_true rfl) ⟨Nat.le_of_ble_eq_true rfl, Nat.le_of_ble_eq_true rfl⟩ dX3_sign_25) ht hlocks (by rintro x ⟨rfl, hf4⟩; simp [eX_sign, lnN, ixN_nI h31sh, ixN_nI h31ar, ixN_nI h31pe, p1, p2, p3, hf4, exN]) (Nat.le_of_ble_eq_true rfl) (Nat.le_of_ble_eq_true rfl) (fun (p4 : agB σ (sh * 5 + ar) = true) => ?_)
  refine lv_aload_n hx hb dX3_sign_28 rfl (lv_at hl 0 rfl) ?_
  refine lv_iload_n hx hb dX3_sign_29 rfl (lv_at hl 1 rfl) ?_
  refine lv_iload_n hx hb dX3_sign_30 rfl (lv_at hl 2 rfl) ?_
  refine q_i (r_V S ⟨m_354, m_356, m_13, m_23, m_357⟩ ⟨rfl, by decide, by decide, by decide +kernel⟩ (c_isSignable l G ad σ sh ar (by omega) (by omega)) ⟨rfl, rfl, Nat.le_of_ble_eq_true rfl, Nat.le_of_ble_eq_true rfl⟩ (pv_X hX 0 rfl rfl bl_PX (bX hX)) (n := 2) (As := [.int (nI sh), .int (nI ar)]) (rest := []) rfl hl.1 rfl (Nat.le_of_ble_eq_true rfl) ⟨Nat.le_of_ble_eq_true rfl, Nat.le_of_ble_eq_true rfl⟩ dX3_sign_31) (fun r5 (e5 : r5 = bI (sgB σ sh ar)) => ?_)
  subst e5
  refine lv_if_ne (tgt := 47) hx hb dX3_sign_34 (by decide) (fun c34_6 => ?_) (fun c34_6 => ?_)
  · have bc34_6 := bI_n c34_6
    refine lv_aload_n hx hb dX3_sign_47 rfl (lv_at hl 0 rfl) ?_
    refine lv_iload_n hx hb dX3_sign_48 rfl (lv_at hl 1 rfl) ?_
    refine lv_iload_n hx hb dX3_sign_49 rfl (lv_at hl 2 rfl) ?_
    refine q_i (r_V S ⟨m_362, m_364, m_15, m_23, m_365⟩ ⟨rfl, by decide, by decide, by decide +kernel⟩ (c_gapOf l G ad σ nm ns sh ar hns hns4 hnm hnm2 (by omega) (by omega)) ⟨rfl, rfl, Nat.le_of_ble_eq_true rfl, Nat.le_of_ble_eq_true rfl⟩ (pv_X hX 0 rfl rfl bl_PX (bX hX)) (n := 2) (As := [.int (nI sh), .int (nI ar)]) (rest := []) rfl hl.1 rfl (Nat.le_of_ble_eq_true rfl) ⟨Nat.le_of_ble_eq_true rfl, Nat.le_of_ble_eq_true rfl⟩ dX3_sign_50) (fun r7 (e7 : r7 = gpV σ nm ns sh ar) => ?_)
    subst e7
    refine lv_istore (lv' := [(4, .int (gpV σ nm ns sh ar)), (0, .ref (ad 0)), (1, .int (nI sh)), (2, .int (nI ar)), (3, .int (nI pe))]) hx hb dX3_sign_53 hl (by decide) rfl (fun ls hl => ?_)
    refine lv_aload_n hx hb dX3_sign_55 rfl (lv_at hl 1 rfl) ?_
    refine k_get S hX.2 hX.1 0 (C := RX3) (T := TX3) (N := 6) rfl rfl 1 (by decide) inX3 m_132 rfl dX3_sign_56 ?_
    refine lv_iload_n hx hb dX3_sign_59 rfl (lv_at hl 4 rfl) ?_
    refine k_ild S hX.2 hX.1 2 (i := pe) rfl (by omega) (by decide) dX3_sign_60 ?_
    refine lv_aload_n hx hb dX3_sign_61 rfl (lv_at hl 1 rfl) ?_
    refine k_get S hX.2 hX.1 0 (C := RX3) (T := TX3) (N := 6) rfl rfl 0 (by decide) inX3 m_131 rfl dX3_sign_62 ?_
    refine lv_iload_n hx hb dX3_sign_65 rfl (lv_at hl 3 rfl) ?_
    refine k_ild S hX.2 hX.1 1 (i := ar) rfl (by omega) (by decide) dX3_sign_66 ?_
    refine lv_iload hx hb dX3_sign_67 (lv_at hl 0 rfl) ?_
    refine va_mabs hx hb (S.2.2.1.trans hl.1.symm) S.2.2.2.1 (S.2.2.2.2 _ m_419) (S.2.2.2.2 _ m_420) (S.2.2.2.2 _ m_28) (S.2.2.2.2 _ m_421) (Nat.le_of_ble_eq_true rfl) (Nat.le_of_ble_eq_true rfl) (Nat.le_of_ble_eq_true rfl) (Nat.le_of_ble_eq_true rfl) dX3_sign_69 ?_
    refine k_eq (y := abV (gpV σ nm ns sh ar)) rfl ?_
    refine lv_imul hx hb dX3_sign_72 ?_
    refine lv_icmp_ge (tgt := 86) hx hb dX3_sign_73 (by decide) (fun c73_8 => ?_) (fun c73_8 => ?_)
    · have bc73_8 := le_nlt c73_8
      refine lv_aload_n hx hb dX3_sign_86 rfl (lv_at hl 1 rfl) ?_
      refine k_get S hX.2 hX.1 0 (C := RX3) (T := TX3) (N := 6) rfl rfl 4 (by decide) inX3 m_135 rfl dX3_sign_87 ?_
      refine lv_iload_n hx hb dX3_sign_90 rfl (lv_at hl 2 rfl) ?_
      refine lv_iload_n hx hb dX3_sign_91 rfl (lv_at hl 3 rfl) ?_
      refine q_i (r_S S ⟨m_183, m_184, m_23, m_185⟩ ⟨rfl, by decide, by decide, by decide +kernel⟩ (c_lineOf l sh ar) ⟨rfl, rfl, Nat.le_of_ble_eq_true rfl, Nat.le_of_ble_eq_true rfl⟩ (ps bl_GL (bG hX.2.2)) (n := 2) (As := [.int (nI sh), .int (nI ar)]) (rest := [.ref (ad 5)]) rfl hl.1 rfl (Nat.le_of_ble_eq_true rfl) ⟨Nat.le_of_ble_eq_true rfl, Nat.le_of_ble_eq_true rfl⟩ dX3_sign_92) (fun r9 (e9 : r9 = nI (sh * 5 + ar)) => ?_)
      subst e9
      refine lv_iload hx hb dX3_sign_95 (lv_at hl 0 rfl) ?_
      refine q_wv (r_VN S hX.2.2 ⟨n_423, m_425, m_17, m_26, m_426⟩ ⟨rfl, by decide, by decide, by decide +kernel⟩ (c_write l G ad σ (sh * 5 + ar) (gpV σ nm ns sh ar) (by omega) A hD) ⟨rfl, rfl, Nat.le_of_ble_eq_true rfl, Nat.le_of_ble_eq_true rfl⟩ (pv_X hX 5 rfl rfl bl_PX (bX hX)) (n := 2) (As := [.int (nI (sh * 5 + ar)), .int (gpV σ nm ns sh ar)]) (rest := []) rfl hl.1 rfl (Nat.le_of_ble_eq_true rfl) ⟨Nat.le_of_ble_eq_true rfl, Nat.le_of_ble_eq_true rfl⟩ dX3_sign_97) hS0 (fun _ h => h) (fun H10 L10 _ h10 _ _ hS10 => ?_)
      have hX10 : PX G ad (wrS σ (sh * 5 + ar) (gpV σ nm ns sh ar)) s H10 := ⟨h10, hX.2⟩
      refine lv_iload hx hb dX3_sign_100 (lv_at hl 0 rfl) ?_
      refine W.widen (k := 5) (n := 30) (Nat.le_of_ble_eq_true rfl) (Nat.le_of_ble_eq_true rfl) ?_
      refine vx_ret ?_
      exact W.iret (v := gpV σ nm ns sh ar) hx hb hr (fun t ht hW => ⟨⟨_, rfl, (by simp [eX_sign, lnN, ixN_nI h31sh, ixN_nI h31ar, ixN_nI h31pe, p1, p2, p3, p4, bc34_6, c73_8, bc73_8])⟩, (by have e9 : wrS σ (lnN (nI sh) (nI ar)) (gpV σ nm ns (ixN (nI sh)) (ixN (nI ar))) = wrS σ (sh * 5 + ar) (gpV σ nm ns sh ar) := (by first | rfl | simp [eX_sign, lnN, ixN_nI h31sh, ixN_nI h31ar, ixN_nI h31pe]); show va_P G.1 vwCl (wX G ad (wrS σ (lnN (nI sh) (nI ar)) (gpV σ nm ns (ixN (nI sh)) (ixN (nI ar))))) t.heap; rw [e9, ht]; exact hX10.1), hS10.F ht⟩) hS10.2.2 dX3_sign_102
    · have bc73_8 := nle_lt c73_8
      exact k_thr S hG hZ hst at_IS m_403 m_34 (by decide +kernel) n_422 hl.1 ht hlocks ⟨Nat.le_of_ble_eq_true rfl, Nat.le_of_ble_eq_true rfl⟩ ⟨Nat.le_of_ble_eq_true rfl, Nat.le_of_ble_eq_true rfl⟩ ⟨Nat.le_of_ble_eq_true rfl, Nat.le_of_ble_eq_true rfl⟩ (Nat.le_of_ble_eq_true rfl) (by simp [eX_sign, lnN, ixN_nI h31sh, ixN_nI h31ar, ixN_nI h31pe, p1, p2, p3, p4, bc34_6, c73_8, bc73_8, exN]) dX3_sign_76 dX3_sign_79 dX3_sign_80 dX3_sign_82 dX3_sign_85
  · have bc34_6 := bI_0 c34_6
    exact k_thr S hG hZ hst at_IS m_403 m_34 (by decide +kernel) n_412 hl.1 ht hlocks ⟨Nat.le_of_ble_eq_true rfl, Nat.le_of_ble_eq_true rfl⟩ ⟨Nat.le_of_ble_eq_true rfl, Nat.le_of_ble_eq_true rfl⟩ ⟨Nat.le_of_ble_eq_true rfl, Nat.le_of_ble_eq_true rfl⟩ (Nat.le_of_ble_eq_true rfl) (by simp [eX_sign, lnN, ixN_nI h31sh, ixN_nI h31ar, ixN_nI h31pe, p1, p2, p3, p4, bc34_6, exN]) dX3_sign_37 dX3_sign_40 dX3_sign_41 dX3_sign_43 dX3_sign_46

set_option maxHeartbeats 4000000 in
set_option maxRecDepth 100000 in
theorem c_settle (l : Launch) (G : kG) (ad : Nat → Nat) (σ : kS) (nm ns : Nat) (a0 b0 c0 : Int32) (hst : l.stackTraces = false) (hns : σ 18 0 = nI ns) (hns4 : ns ≤ 40) (hnm : σ 17 0 = nI nm) (hnm2 : nm ≤ 200) (A : Nat → Prop) (hD : DD 20 A ad)  : vx_Met l yX3_settle [.code yX3_settle cX3_settle 5 (some .int)] ({ frames := 7, cells := 6, slots := 36, locals := 181 }) (va_Pc [.ref (ad 0), .int a0, .int b0, .int c0] (fun U => PX G ad σ U U.heap ∧ ZS U U.heap)) (oW A (fun r => eX_settle σ nm ns a0 b0 c0 = 0 ∧ r = abV (gpV σ nm ns (ixN a0) (ixN c0))) (fun H9 => va_P G.1 vwCl (wX G ad (wrS (wrS σ (lnN a0 c0) (gpV σ nm ns (ixN a0) (ixN c0))) (lnN b0 c0) (-(gpV σ nm ns (ixN a0) (ixN c0))))) H9)) (tX (fun x => eX_settle σ nm ns a0 b0 c0 ≠ 0 ∧ x = exN (eX_settle σ nm ns a0 b0 c0))) 6 36 A := by
  refine kx_of (by decide) (Nat.le_of_ble_eq_true rfl) (fun U h => h.1.2.2) ?_
  intro p e s m below meth c ls S hr hlocks ht hB hl
  have hx := S.1
  have hb := S.2.1
  have hX : PX G ad σ s s.heap := hB.1
  have hG : GL s := hX.2.2
  have hZ : ZS s s.heap := hB.2
  have hl : lv_has ls 5 [(0, .ref (ad 0)), (1, .int a0), (2, .int b0), (3, .int c0)] := hl
  have hS0 : va_S A s.heap s.heap [] := va_S.rf
  refine lv_iload_n hx hb dX3_settle_0 rfl (lv_at hl 1 rfl) ?_
  refine lv_aload_n hx hb dX3_settle_1 rfl (lv_at hl 0 rfl) ?_
  refine k_get S hX.2 hX.1 0 (C := RX3) (T := TX3) (N := 6) rfl rfl 3 (by decide) inX3 m_134 rfl dX3_settle_2 ?_
  refine k_getN S hX.2 hX.1 4 (C := RX2) (T := TX2) (N := 4) rfl rfl 3 (by decide) inX2 n_85 rfl dX3_settle_5 ?_
  refine q_xv (rx_S S ⟨m_222, m_223, m_23, m_224⟩ ⟨rfl, by decide, by decide, by decide +kernel⟩ (c_checkIndex l a0 (σ 18 0) hst) ⟨rfl, rfl, Nat.le_of_ble_eq_true rfl, Nat.le_of_ble_eq_true rfl⟩ (ps bl_GZ (bGZ hX.2.2 hZ)) (n := 2) (As := [.int a0, .int (σ 18 0)]) (rest := []) rfl hl.1 rfl (Nat.le_of_ble_eq_true rfl) ⟨Nat.le_of_ble_eq_true rfl, Nat.le_of_ble_eq_true rfl⟩ dX3_settle_8) ht hlocks (by rintro x ⟨rfl, hf1⟩; simp [eX_settle, lnN, hf1, exN]) (Nat.le_of_ble_eq_true rfl) (Nat.le_of_ble_eq_true rfl) (fun (p1 : ckI a0 (σ 18 0) = true) => ?_)
  obtain ⟨sh, hsh, rfl⟩ := ckI_nI (n := ns) (by rw [← hns]; exact p1) (by omega)
  have h31sh : sh < 2 ^ 31 := by omega
  refine lv_iload_n hx hb dX3_settle_11 rfl (lv_at hl 2 rfl) ?_
  refine lv_aload_n hx hb dX3_settle_12 rfl (lv_at hl 0 rfl) ?_
  refine k_get S hX.2 hX.1 0 (C := RX3) (T := TX3) (N := 6) rfl rfl 3 (by decide) inX3 m_134 rfl dX3_settle_13 ?_
  refine k_getN S hX.2 hX.1 4 (C := RX2) (T := TX2) (N := 4) rfl rfl 3 (by decide) inX2 n_85 rfl dX3_settle_16 ?_
  refine q_xv (rx_S S ⟨m_222, m_223, m_23, m_224⟩ ⟨rfl, by decide, by decide, by decide +kernel⟩ (c_checkIndex l b0 (σ 18 0) hst) ⟨rfl, rfl, Nat.le_of_ble_eq_true rfl, Nat.le_of_ble_eq_true rfl⟩ (ps bl_GZ (bGZ hX.2.2 hZ)) (n := 2) (As := [.int b0, .int (σ 18 0)]) (rest := []) rfl hl.1 rfl (Nat.le_of_ble_eq_true rfl) ⟨Nat.le_of_ble_eq_true rfl, Nat.le_of_ble_eq_true rfl⟩ dX3_settle_19) ht hlocks (by rintro x ⟨rfl, hf2⟩; simp [eX_settle, lnN, ixN_nI h31sh, p1, hf2, exN]) (Nat.le_of_ble_eq_true rfl) (Nat.le_of_ble_eq_true rfl) (fun (p2 : ckI b0 (σ 18 0) = true) => ?_)
  obtain ⟨ot, hot, rfl⟩ := ckI_nI (n := ns) (by rw [← hns]; exact p2) (by omega)
  have h31ot : ot < 2 ^ 31 := by omega
  refine lv_iload_n hx hb dX3_settle_22 rfl (lv_at hl 3 rfl) ?_
  refine lv_iconst (v := 5) hx hb dX3_settle_23 (by decide) ?_
  refine q_xv (rx_S S ⟨m_222, m_223, m_23, m_224⟩ ⟨rfl, by decide, by decide, by decide +kernel⟩ (c_checkIndex l c0 5 hst) ⟨rfl, rfl, Nat.le_of_ble_eq_true rfl, Nat.le_of_ble_eq_true rfl⟩ (ps bl_GZ (bGZ hX.2.2 hZ)) (n := 2) (As := [.int c0, .int 5]) (rest := []) rfl hl.1 rfl (Nat.le_of_ble_eq_true rfl) ⟨Nat.le_of_ble_eq_true rfl, Nat.le_of_ble_eq_true rfl⟩ dX3_settle_24) ht hlocks (by rintro x ⟨rfl, hf3⟩; simp [eX_settle, lnN, ixN_nI h31sh, ixN_nI h31ot, p1, p2, hf3, exN]) (Nat.le_of_ble_eq_true rfl) (Nat.le_of_ble_eq_true rfl) (fun (p3 : ckI c0 5 = true) => ?_)
  obtain ⟨ar, har, rfl⟩ := ckI_nI (n := 5) p3 (by decide)
  have h31ar : ar < 2 ^ 31 := by omega
  refine lv_aload_n hx hb dX3_settle_27 rfl (lv_at hl 0 rfl) ?_
  refine lv_iload_n hx hb dX3_settle_28 rfl (lv_at hl 1 rfl) ?_
  refine lv_iload_n hx hb dX3_settle_29 rfl (lv_at hl 3 rfl) ?_
  refine q_xv (rx_V S ⟨m_374, m_376, m_16, m_23, m_377⟩ ⟨rfl, by decide, by decide, by decide +kernel⟩ (c_checkAgrees l G ad σ sh ar hst (by omega) (by omega)) ⟨rfl, rfl, Nat.le_of_ble_eq_true rfl, Nat.le_of_ble_eq_true rfl⟩ (pv_X hX 0 rfl rfl bl_PXZ (bXZ hX hZ)) (n := 2) (As := [.int (nI sh), .int (nI ar)]) (rest := []) rfl hl.1 rfl (Nat.le_of_ble_eq_true rfl) ⟨Nat.le_of_ble_eq_true rfl, Nat.le_of_ble_eq_true rfl⟩ dX3_settle_30) ht hlocks (by rintro x ⟨rfl, hf4⟩; simp [eX_settle, lnN, ixN_nI h31sh, ixN_nI h31ot, ixN_nI h31ar, p1, p2, p3, hf4, exN]) (Nat.le_of_ble_eq_true rfl) (Nat.le_of_ble_eq_true rfl) (fun (p4 : agB σ (sh * 5 + ar) = true) => ?_)
  refine lv_aload_n hx hb dX3_settle_33 rfl (lv_at hl 0 rfl) ?_
  refine lv_iload_n hx hb dX3_settle_34 rfl (lv_at hl 2 rfl) ?_
  refine lv_iload_n hx hb dX3_settle_35 rfl (lv_at hl 3 rfl) ?_
  refine q_xv (rx_V S ⟨m_374, m_376, m_16, m_23, m_377⟩ ⟨rfl, by decide, by decide, by decide +kernel⟩ (c_checkAgrees l G ad σ ot ar hst (by omega) (by omega)) ⟨rfl, rfl, Nat.le_of_ble_eq_true rfl, Nat.le_of_ble_eq_true rfl⟩ (pv_X hX 0 rfl rfl bl_PXZ (bXZ hX hZ)) (n := 2) (As := [.int (nI ot), .int (nI ar)]) (rest := []) rfl hl.1 rfl (Nat.le_of_ble_eq_true rfl) ⟨Nat.le_of_ble_eq_true rfl, Nat.le_of_ble_eq_true rfl⟩ dX3_settle_36) ht hlocks (by rintro x ⟨rfl, hf5⟩; simp [eX_settle, lnN, ixN_nI h31sh, ixN_nI h31ot, ixN_nI h31ar, p1, p2, p3, p4, hf5, exN]) (Nat.le_of_ble_eq_true rfl) (Nat.le_of_ble_eq_true rfl) (fun (p5 : agB σ (ot * 5 + ar) = true) => ?_)
  refine lv_aload_n hx hb dX3_settle_39 rfl (lv_at hl 0 rfl) ?_
  refine lv_iload_n hx hb dX3_settle_40 rfl (lv_at hl 1 rfl) ?_
  refine lv_iload_n hx hb dX3_settle_41 rfl (lv_at hl 2 rfl) ?_
  refine lv_iload_n hx hb dX3_settle_42 rfl (lv_at hl 3 rfl) ?_
  refine q_i (r_V S ⟨m_350, m_352, m_12, m_23, m_353⟩ ⟨rfl, by decide, by decide, by decide +kernel⟩ (c_canBeSettled l G ad σ nm ns sh ot ar hns hns4 hnm hnm2 (by omega) (by omega) (by omega)) ⟨rfl, rfl, Nat.le_of_ble_eq_true rfl, Nat.le_of_ble_eq_true rfl⟩ (pv_X hX 0 rfl rfl bl_PX (bX hX)) (n := 3) (As := [.int (nI sh), .int (nI ot), .int (nI ar)]) (rest := []) rfl hl.1 rfl (Nat.le_of_ble_eq_true rfl) ⟨Nat.le_of_ble_eq_true rfl, Nat.le_of_ble_eq_true rfl⟩ dX3_settle_43) (fun r6 (e6 : r6 = bI (csB σ nm ns sh ot ar)) => ?_)
  subst e6
  refine lv_if_ne (tgt := 59) hx hb dX3_settle_46 (by decide) (fun c46_7 => ?_) (fun c46_7 => ?_)
  · have bc46_7 := bI_n c46_7
    refine lv_aload_n hx hb dX3_settle_59 rfl (lv_at hl 0 rfl) ?_
    refine lv_iload_n hx hb dX3_settle_60 rfl (lv_at hl 1 rfl) ?_
    refine lv_iload_n hx hb dX3_settle_61 rfl (lv_at hl 3 rfl) ?_
    refine q_i (r_V S ⟨m_362, m_364, m_15, m_23, m_365⟩ ⟨rfl, by decide, by decide, by decide +kernel⟩ (c_gapOf l G ad σ nm ns sh ar hns hns4 hnm hnm2 (by omega) (by omega)) ⟨rfl, rfl, Nat.le_of_ble_eq_true rfl, Nat.le_of_ble_eq_true rfl⟩ (pv_X hX 0 rfl rfl bl_PX (bX hX)) (n := 2) (As := [.int (nI sh), .int (nI ar)]) (rest := []) rfl hl.1 rfl (Nat.le_of_ble_eq_true rfl) ⟨Nat.le_of_ble_eq_true rfl, Nat.le_of_ble_eq_true rfl⟩ dX3_settle_62) (fun r8 (e8 : r8 = gpV σ nm ns sh ar) => ?_)
    subst e8
    refine lv_istore (lv' := [(4, .int (gpV σ nm ns sh ar)), (0, .ref (ad 0)), (1, .int (nI sh)), (2, .int (nI ot)), (3, .int (nI ar))]) hx hb dX3_settle_65 hl (by decide) rfl (fun ls hl => ?_)
    refine lv_aload_n hx hb dX3_settle_67 rfl (lv_at hl 1 rfl) ?_
    refine k_get S hX.2 hX.1 0 (C := RX3) (T := TX3) (N := 6) rfl rfl 4 (by decide) inX3 m_135 rfl dX3_settle_68 ?_
    refine lv_iload_n hx hb dX3_settle_71 rfl (lv_at hl 2 rfl) ?_
    refine lv_iload_n hx hb dX3_settle_72 rfl (lv_at hl 4 rfl) ?_
    refine q_i (r_S S ⟨m_183, m_184, m_23, m_185⟩ ⟨rfl, by decide, by decide, by decide +kernel⟩ (c_lineOf l sh ar) ⟨rfl, rfl, Nat.le_of_ble_eq_true rfl, Nat.le_of_ble_eq_true rfl⟩ (ps bl_GL (bG hX.2.2)) (n := 2) (As := [.int (nI sh), .int (nI ar)]) (rest := [.ref (ad 5)]) rfl hl.1 rfl (Nat.le_of_ble_eq_true rfl) ⟨Nat.le_of_ble_eq_true rfl, Nat.le_of_ble_eq_true rfl⟩ dX3_settle_73) (fun r9 (e9 : r9 = nI (sh * 5 + ar)) => ?_)
    subst e9
    refine lv_iload hx hb dX3_settle_76 (lv_at hl 0 rfl) ?_
    refine q_wv (r_VN S hX.2.2 ⟨n_423, m_425, m_17, m_26, m_426⟩ ⟨rfl, by decide, by decide, by decide +kernel⟩ (c_write l G ad σ (sh * 5 + ar) (gpV σ nm ns sh ar) (by omega) A hD) ⟨rfl, rfl, Nat.le_of_ble_eq_true rfl, Nat.le_of_ble_eq_true rfl⟩ (pv_X hX 5 rfl rfl bl_PX (bX hX)) (n := 2) (As := [.int (nI (sh * 5 + ar)), .int (gpV σ nm ns sh ar)]) (rest := []) rfl hl.1 rfl (Nat.le_of_ble_eq_true rfl) ⟨Nat.le_of_ble_eq_true rfl, Nat.le_of_ble_eq_true rfl⟩ dX3_settle_78) hS0 (fun _ h => h) (fun H10 L10 _ h10 _ _ hS10 => ?_)
    have hX10 : PX G ad (wrS σ (sh * 5 + ar) (gpV σ nm ns sh ar)) s H10 := ⟨h10, hX.2⟩
    refine lv_aload_n hx hb dX3_settle_81 rfl (lv_at hl 1 rfl) ?_
    refine k_get S hX10.2 hX10.1 0 (C := RX3) (T := TX3) (N := 6) rfl rfl 4 (by decide) inX3 m_135 rfl dX3_settle_82 ?_
    refine lv_iload_n hx hb dX3_settle_85 rfl (lv_at hl 3 rfl) ?_
    refine lv_iload_n hx hb dX3_settle_86 rfl (lv_at hl 4 rfl) ?_
    refine q_i (r_S S ⟨m_183, m_184, m_23, m_185⟩ ⟨rfl, by decide, by decide, by decide +kernel⟩ (c_lineOf l ot ar) ⟨rfl, rfl, Nat.le_of_ble_eq_true rfl, Nat.le_of_ble_eq_true rfl⟩ (ps bl_GL (bG hX10.2.2)) (n := 2) (As := [.int (nI ot), .int (nI ar)]) (rest := [.ref (ad 5)]) rfl hl.1 rfl (Nat.le_of_ble_eq_true rfl) ⟨Nat.le_of_ble_eq_true rfl, Nat.le_of_ble_eq_true rfl⟩ dX3_settle_87) (fun r11 (e11 : r11 = nI (ot * 5 + ar)) => ?_)
    subst e11
    refine lv_iload hx hb dX3_settle_90 (lv_at hl 0 rfl) ?_
    refine lv_ineg hx hb dX3_settle_92 ?_
    refine q_wv (r_VN S hX10.2.2 ⟨n_423, m_425, m_17, m_26, m_426⟩ ⟨rfl, by decide, by decide, by decide +kernel⟩ (c_write l G ad (wrS σ (sh * 5 + ar) (gpV σ nm ns sh ar)) (ot * 5 + ar) (-(gpV σ nm ns sh ar)) (by omega) A hD) ⟨rfl, rfl, Nat.le_of_ble_eq_true rfl, Nat.le_of_ble_eq_true rfl⟩ (pv_X hX10 5 rfl rfl bl_PX (bX hX10)) (n := 2) (As := [.int (nI (ot * 5 + ar)), .int (-(gpV σ nm ns sh ar))]) (rest := []) rfl hl.1 rfl (Nat.le_of_ble_eq_true rfl) ⟨Nat.le_of_ble_eq_true rfl, Nat.le_of_ble_eq_true rfl⟩ dX3_settle_93) hS10 (fun _ h => h) (fun H12 L12 _ h12 _ _ hS12 => ?_)
    have hX12 : PX G ad (wrS (wrS σ (sh * 5 + ar) (gpV σ nm ns sh ar)) (ot * 5 + ar) (-(gpV σ nm ns sh ar))) s H12 := ⟨h12, hX10.2⟩
    refine lv_iload hx hb dX3_settle_96 (lv_at hl 0 rfl) ?_
    refine va_mabs hx hb (S.2.2.1.trans hl.1.symm) S.2.2.2.1 (S.2.2.2.2 _ m_419) (S.2.2.2.2 _ m_420) (S.2.2.2.2 _ m_28) (S.2.2.2.2 _ m_421) (Nat.le_of_ble_eq_true rfl) (Nat.le_of_ble_eq_true rfl) (Nat.le_of_ble_eq_true rfl) (Nat.le_of_ble_eq_true rfl) dX3_settle_98 ?_
    refine k_eq (y := abV (gpV σ nm ns sh ar)) rfl ?_
    refine W.widen (k := 6) (n := 36) (Nat.le_of_ble_eq_true rfl) (Nat.le_of_ble_eq_true rfl) ?_
    refine vx_ret ?_
    exact W.iret (v := abV (gpV σ nm ns sh ar)) hx hb hr (fun t ht hW => ⟨⟨_, rfl, (by simp [eX_settle, lnN, ixN_nI h31sh, ixN_nI h31ot, ixN_nI h31ar, p1, p2, p3, p4, p5, bc46_7])⟩, (by have e9 : wrS (wrS σ (lnN (nI sh) (nI ar)) (gpV σ nm ns (ixN (nI sh)) (ixN (nI ar)))) (lnN (nI ot) (nI ar)) (-(gpV σ nm ns (ixN (nI sh)) (ixN (nI ar)))) = wrS (wrS σ (sh * 5 + ar) (gpV σ nm ns sh ar)) (ot * 5 + ar) (-(gpV σ nm ns sh ar)) := (by first | rfl | simp [eX_settle, lnN, ixN_nI h31sh, ixN_nI h31ot, ixN_nI h31ar]); show va_P G.1 vwCl (wX G ad (wrS (wrS σ (lnN (nI sh) (nI ar)) (gpV σ nm ns (ixN (nI sh)) (ixN (nI ar)))) (lnN (nI ot) (nI ar)) (-(gpV σ nm ns (ixN (nI sh)) (ixN (nI ar)))))) t.heap; rw [e9, ht]; exact hX12.1), hS12.F ht⟩) hS12.2.2 dX3_settle_101
  · have bc46_7 := bI_0 c46_7
    exact k_thr S hG hZ hst at_IS m_403 m_34 (by decide +kernel) n_599 hl.1 ht hlocks ⟨Nat.le_of_ble_eq_true rfl, Nat.le_of_ble_eq_true rfl⟩ ⟨Nat.le_of_ble_eq_true rfl, Nat.le_of_ble_eq_true rfl⟩ ⟨Nat.le_of_ble_eq_true rfl, Nat.le_of_ble_eq_true rfl⟩ (Nat.le_of_ble_eq_true rfl) (by simp [eX_settle, lnN, ixN_nI h31sh, ixN_nI h31ot, ixN_nI h31ar, p1, p2, p3, p4, p5, bc46_7, exN]) dX3_settle_49 dX3_settle_52 dX3_settle_53 dX3_settle_55 dX3_settle_58

set_option maxHeartbeats 4000000 in
set_option maxRecDepth 100000 in
theorem c_now (l : Launch) (G : kG) (ad : Nat → Nat) (σ : kS)  : Met l yX3_now [.code yX3_now cX3_now 1 (some .int)] ({ frames := 1, cells := 0, slots := 0, locals := 40 }) (va_Pc [.ref (ad 0)] (fun U => PX G ad σ U U.heap)) (vp_Si (fun r => r = σ 16 0)) 0 0 NF := by
  refine k_of (by decide) (Nat.le_of_ble_eq_true rfl) (fun U h => h.2.2) ?_
  intro p e s m below meth c ls S hr hlocks hmn hB hl
  have hx := S.1
  have hb := S.2.1
  have hX : PX G ad σ s s.heap := hB
  have hl : lv_has ls 1 [(0, .ref (ad 0))] := hl
  refine lv_aload_n hx hb dX3_now_0 rfl (lv_at hl 0 rfl) ?_
  refine k_get S hX.2 hX.1 0 (C := RX3) (T := TX3) (N := 6) rfl rfl 5 (by decide) inX3 m_136 rfl dX3_now_1 ?_
  exact W.iret (v := σ 16 0) hx hb hr (fun t ht hW => ⟨_, rfl, rfl, ht⟩) (fun q h => by cases h) dX3_now_4

set_option maxHeartbeats 4000000 in
set_option maxRecDepth 100000 in
theorem c_moves (l : Launch) (G : kG) (ad : Nat → Nat) (σ : kS)  : Met l yX3_moves [.code yX3_moves cX3_moves 1 (some .int)] ({ frames := 1, cells := 0, slots := 0, locals := 40 }) (va_Pc [.ref (ad 0)] (fun U => PX G ad σ U U.heap)) (vp_Si (fun r => r = σ 17 0)) 0 0 NF := by
  refine k_of (by decide) (Nat.le_of_ble_eq_true rfl) (fun U h => h.2.2) ?_
  intro p e s m below meth c ls S hr hlocks hmn hB hl
  have hx := S.1
  have hb := S.2.1
  have hX : PX G ad σ s s.heap := hB
  have hl : lv_has ls 1 [(0, .ref (ad 0))] := hl
  refine lv_aload_n hx hb dX3_moves_0 rfl (lv_at hl 0 rfl) ?_
  refine k_get S hX.2 hX.1 0 (C := RX3) (T := TX3) (N := 6) rfl rfl 2 (by decide) inX3 m_133 rfl dX3_moves_1 ?_
  refine k_getN S hX.2 hX.1 3 (C := RX1) (T := TX1) (N := 6) rfl rfl 5 (by decide) inX1 n_57 rfl dX3_moves_4 ?_
  exact W.iret (v := σ 17 0) hx hb hr (fun t ht hW => ⟨_, rfl, rfl, ht⟩) (fun q h => by cases h) dX3_moves_7

set_option maxHeartbeats 4000000 in
set_option maxRecDepth 100000 in
theorem c_sheets (l : Launch) (G : kG) (ad : Nat → Nat) (σ : kS)  : Met l yX3_sheets [.code yX3_sheets cX3_sheets 1 (some .int)] ({ frames := 1, cells := 0, slots := 0, locals := 40 }) (va_Pc [.ref (ad 0)] (fun U => PX G ad σ U U.heap)) (vp_Si (fun r => r = σ 18 0)) 0 0 NF := by
  refine k_of (by decide) (Nat.le_of_ble_eq_true rfl) (fun U h => h.2.2) ?_
  intro p e s m below meth c ls S hr hlocks hmn hB hl
  have hx := S.1
  have hb := S.2.1
  have hX : PX G ad σ s s.heap := hB
  have hl : lv_has ls 1 [(0, .ref (ad 0))] := hl
  refine lv_aload_n hx hb dX3_sheets_0 rfl (lv_at hl 0 rfl) ?_
  refine k_get S hX.2 hX.1 0 (C := RX3) (T := TX3) (N := 6) rfl rfl 3 (by decide) inX3 m_134 rfl dX3_sheets_1 ?_
  refine k_getN S hX.2 hX.1 4 (C := RX2) (T := TX2) (N := 4) rfl rfl 3 (by decide) inX2 n_85 rfl dX3_sheets_4 ?_
  exact W.iret (v := σ 18 0) hx hb hr (fun t ht hW => ⟨_, rfl, rfl, ht⟩) (fun q h => by cases h) dX3_sheets_7

set_option maxHeartbeats 4000000 in
set_option maxRecDepth 100000 in
theorem c_book (l : Launch) (G : kG) (ad : Nat → Nat) (σ : kS) (nm ns : Nat) (a0 b0 : Int32) (hst : l.stackTraces = false) (hns : σ 18 0 = nI ns) (hns4 : ns ≤ 40) (hnm : σ 17 0 = nI nm) (hnm2 : nm ≤ 200)  : vx_Met l yX3_book [.code yX3_book cX3_book 3 (some .int)] ({ frames := 7, cells := 2, slots := 12, locals := 134 }) (va_Pc [.ref (ad 0), .int a0, .int b0] (fun U => PX G ad σ U U.heap ∧ ZS U U.heap)) (vp_Si (fun r => eX_two a0 12 b0 5 = 0 ∧ r = boV σ nm ns a0 (ixN b0) (σ 16 0))) (tX (fun x => eX_two a0 12 b0 5 ≠ 0 ∧ x = exN (eX_two a0 12 b0 5))) 2 12 NF := by
  refine kx_of (by decide) (Nat.le_of_ble_eq_true rfl) (fun U h => h.1.2.2) ?_
  intro p e s m below meth c ls S hr hlocks ht hB hl
  have hx := S.1
  have hb := S.2.1
  have hX : PX G ad σ s s.heap := hB.1
  have hG : GL s := hX.2.2
  have hZ : ZS s s.heap := hB.2
  have hl : lv_has ls 3 [(0, .ref (ad 0)), (1, .int a0), (2, .int b0)] := hl
  refine lv_iload_n hx hb dX3_book_0 rfl (lv_at hl 1 rfl) ?_
  refine lv_bipush (v := 12) hx hb dX3_book_1 (by decide) ?_
  refine q_xv (rx_S S ⟨m_222, m_223, m_23, m_224⟩ ⟨rfl, by decide, by decide, by decide +kernel⟩ (c_checkIndex l a0 12 hst) ⟨rfl, rfl, Nat.le_of_ble_eq_true rfl, Nat.le_of_ble_eq_true rfl⟩ (ps bl_GZ (bGZ hX.2.2 hZ)) (n := 2) (As := [.int a0, .int 12]) (rest := []) rfl hl.1 rfl (Nat.le_of_ble_eq_true rfl) ⟨Nat.le_of_ble_eq_true rfl, Nat.le_of_ble_eq_true rfl⟩ dX3_book_3) ht hlocks (by rintro x ⟨rfl, hf1⟩; simp [eX_two, hf1, exN]) (Nat.le_of_ble_eq_true rfl) (Nat.le_of_ble_eq_true rfl) (fun (p1 : ckI a0 12 = true) => ?_)
  refine lv_iload_n hx hb dX3_book_6 rfl (lv_at hl 2 rfl) ?_
  refine lv_iconst (v := 5) hx hb dX3_book_7 (by decide) ?_
  refine q_xv (rx_S S ⟨m_222, m_223, m_23, m_224⟩ ⟨rfl, by decide, by decide, by decide +kernel⟩ (c_checkIndex l b0 5 hst) ⟨rfl, rfl, Nat.le_of_ble_eq_true rfl, Nat.le_of_ble_eq_true rfl⟩ (ps bl_GZ (bGZ hX.2.2 hZ)) (n := 2) (As := [.int b0, .int 5]) (rest := []) rfl hl.1 rfl (Nat.le_of_ble_eq_true rfl) ⟨Nat.le_of_ble_eq_true rfl, Nat.le_of_ble_eq_true rfl⟩ dX3_book_8) ht hlocks (by rintro x ⟨rfl, hf2⟩; simp [eX_two, p1, hf2, exN]) (Nat.le_of_ble_eq_true rfl) (Nat.le_of_ble_eq_true rfl) (fun (p2 : ckI b0 5 = true) => ?_)
  obtain ⟨ar, har, rfl⟩ := ckI_nI (n := 5) p2 (by decide)
  have h31ar : ar < 2 ^ 31 := by omega
  refine lv_aload_n hx hb dX3_book_11 rfl (lv_at hl 0 rfl) ?_
  refine lv_iload_n hx hb dX3_book_12 rfl (lv_at hl 1 rfl) ?_
  refine lv_iload_n hx hb dX3_book_13 rfl (lv_at hl 2 rfl) ?_
  refine lv_aload_n hx hb dX3_book_14 rfl (lv_at hl 0 rfl) ?_
  refine k_get S hX.2 hX.1 0 (C := RX3) (T := TX3) (N := 6) rfl rfl 5 (by decide) inX3 m_136 rfl dX3_book_15 ?_
  refine q_i (r_V S ⟨m_175, m_177, m_4, m_23, m_178⟩ ⟨rfl, by decide, by decide, by decide +kernel⟩ (c_bookOf l G ad σ nm ns a0 ar (σ 16 0) hns hns4 hnm hnm2 (by omega)) ⟨rfl, rfl, Nat.le_of_ble_eq_true rfl, Nat.le_of_ble_eq_true rfl⟩ (pv_X hX 0 rfl rfl bl_PX (bX hX)) (n := 3) (As := [.int a0, .int (nI ar), .int (σ 16 0)]) (rest := []) rfl hl.1 rfl (Nat.le_of_ble_eq_true rfl) ⟨Nat.le_of_ble_eq_true rfl, Nat.le_of_ble_eq_true rfl⟩ dX3_book_18) (fun r3 (e3 : r3 = boV σ nm ns a0 ar (σ 16 0)) => ?_)
  subst e3
  refine vx_ret ?_
  exact W.iret (v := boV σ nm ns a0 ar (σ 16 0)) hx hb hr (fun t ht hW => ⟨_, rfl, (by simp [eX_two, ixN_nI h31ar, p1, p2]), ht⟩) (fun q h => by cases h) dX3_book_21

set_option maxHeartbeats 4000000 in
set_option maxRecDepth 100000 in
theorem c_bookAt (l : Launch) (G : kG) (ad : Nat → Nat) (σ : kS) (nm ns : Nat) (a0 b0 c0 : Int32) (hst : l.stackTraces = false) (hns : σ 18 0 = nI ns) (hns4 : ns ≤ 40) (hnm : σ 17 0 = nI nm) (hnm2 : nm ≤ 200)  : vx_Met l yX3_bookAt [.code yX3_bookAt cX3_bookAt 4 (some .int)] ({ frames := 7, cells := 3, slots := 18, locals := 134 }) (va_Pc [.ref (ad 0), .int a0, .int b0, .int c0] (fun U => PX G ad σ U U.heap ∧ ZS U U.heap)) (vp_Si (fun r => eX_bookAt σ a0 b0 c0 = 0 ∧ r = boV σ nm ns a0 (ixN b0) c0)) (tX (fun x => eX_bookAt σ a0 b0 c0 ≠ 0 ∧ x = exN (eX_bookAt σ a0 b0 c0))) 3 18 NF := by
  refine kx_of (by decide) (Nat.le_of_ble_eq_true rfl) (fun U h => h.1.2.2) ?_
  intro p e s m below meth c ls S hr hlocks ht hB hl
  have hx := S.1
  have hb := S.2.1
  have hX : PX G ad σ s s.heap := hB.1
  have hG : GL s := hX.2.2
  have hZ : ZS s s.heap := hB.2
  have hl : lv_has ls 4 [(0, .ref (ad 0)), (1, .int a0), (2, .int b0), (3, .int c0)] := hl
  refine lv_iload_n hx hb dX3_bookAt_0 rfl (lv_at hl 1 rfl) ?_
  refine lv_bipush (v := 12) hx hb dX3_bookAt_1 (by decide) ?_
  refine q_xv (rx_S S ⟨m_222, m_223, m_23, m_224⟩ ⟨rfl, by decide, by decide, by decide +kernel⟩ (c_checkIndex l a0 12 hst) ⟨rfl, rfl, Nat.le_of_ble_eq_true rfl, Nat.le_of_ble_eq_true rfl⟩ (ps bl_GZ (bGZ hX.2.2 hZ)) (n := 2) (As := [.int a0, .int 12]) (rest := []) rfl hl.1 rfl (Nat.le_of_ble_eq_true rfl) ⟨Nat.le_of_ble_eq_true rfl, Nat.le_of_ble_eq_true rfl⟩ dX3_bookAt_3) ht hlocks (by rintro x ⟨rfl, hf1⟩; simp [eX_bookAt, hf1, exN]) (Nat.le_of_ble_eq_true rfl) (Nat.le_of_ble_eq_true rfl) (fun (p1 : ckI a0 12 = true) => ?_)
  refine lv_iload_n hx hb dX3_bookAt_6 rfl (lv_at hl 2 rfl) ?_
  refine lv_iconst (v := 5) hx hb dX3_bookAt_7 (by decide) ?_
  refine q_xv (rx_S S ⟨m_222, m_223, m_23, m_224⟩ ⟨rfl, by decide, by decide, by decide +kernel⟩ (c_checkIndex l b0 5 hst) ⟨rfl, rfl, Nat.le_of_ble_eq_true rfl, Nat.le_of_ble_eq_true rfl⟩ (ps bl_GZ (bGZ hX.2.2 hZ)) (n := 2) (As := [.int b0, .int 5]) (rest := []) rfl hl.1 rfl (Nat.le_of_ble_eq_true rfl) ⟨Nat.le_of_ble_eq_true rfl, Nat.le_of_ble_eq_true rfl⟩ dX3_bookAt_8) ht hlocks (by rintro x ⟨rfl, hf2⟩; simp [eX_bookAt, p1, hf2, exN]) (Nat.le_of_ble_eq_true rfl) (Nat.le_of_ble_eq_true rfl) (fun (p2 : ckI b0 5 = true) => ?_)
  obtain ⟨ar, har, rfl⟩ := ckI_nI (n := 5) p2 (by decide)
  have h31ar : ar < 2 ^ 31 := by omega
  refine lv_iload_n hx hb dX3_bookAt_11 rfl (lv_at hl 3 rfl) ?_
  refine lv_iconst (v := 0) hx hb dX3_bookAt_12 (by decide) ?_
  refine lv_aload_n hx hb dX3_bookAt_13 rfl (lv_at hl 0 rfl) ?_
  refine k_get S hX.2 hX.1 0 (C := RX3) (T := TX3) (N := 6) rfl rfl 5 (by decide) inX3 m_136 rfl dX3_bookAt_14 ?_
  refine q_xv (rx_S S ⟨m_443, m_444, m_23, m_445⟩ ⟨rfl, by decide, by decide, by decide +kernel⟩ (c_checkRange l c0 0 (σ 16 0) hst) ⟨rfl, rfl, Nat.le_of_ble_eq_true rfl, Nat.le_of_ble_eq_true rfl⟩ (ps bl_GZ (bGZ hX.2.2 hZ)) (n := 3) (As := [.int c0, .int 0, .int (σ 16 0)]) (rest := []) rfl hl.1 rfl (Nat.le_of_ble_eq_true rfl) ⟨Nat.le_of_ble_eq_true rfl, Nat.le_of_ble_eq_true rfl⟩ dX3_bookAt_17) ht hlocks (by rintro x ⟨rfl, hf3⟩; simp [eX_bookAt, ixN_nI h31ar, p1, p2, hf3, exN]) (Nat.le_of_ble_eq_true rfl) (Nat.le_of_ble_eq_true rfl) (fun (p3 : ckR c0 0 (σ 16 0) = true) => ?_)
  refine lv_aload_n hx hb dX3_bookAt_20 rfl (lv_at hl 0 rfl) ?_
  refine lv_iload_n hx hb dX3_bookAt_21 rfl (lv_at hl 1 rfl) ?_
  refine lv_iload_n hx hb dX3_bookAt_22 rfl (lv_at hl 2 rfl) ?_
  refine lv_iload_n hx hb dX3_bookAt_23 rfl (lv_at hl 3 rfl) ?_
  refine q_i (r_V S ⟨m_175, m_177, m_4, m_23, m_178⟩ ⟨rfl, by decide, by decide, by decide +kernel⟩ (c_bookOf l G ad σ nm ns a0 ar c0 hns hns4 hnm hnm2 (by omega)) ⟨rfl, rfl, Nat.le_of_ble_eq_true rfl, Nat.le_of_ble_eq_true rfl⟩ (pv_X hX 0 rfl rfl bl_PX (bX hX)) (n := 3) (As := [.int a0, .int (nI ar), .int c0]) (rest := []) rfl hl.1 rfl (Nat.le_of_ble_eq_true rfl) ⟨Nat.le_of_ble_eq_true rfl, Nat.le_of_ble_eq_true rfl⟩ dX3_bookAt_24) (fun r4 (e4 : r4 = boV σ nm ns a0 ar c0) => ?_)
  subst e4
  refine vx_ret ?_
  exact W.iret (v := boV σ nm ns a0 ar c0) hx hb hr (fun t ht hW => ⟨_, rfl, (by simp [eX_bookAt, ixN_nI h31ar, p1, p2, p3]), ht⟩) (fun q h => by cases h) dX3_bookAt_27

set_option maxHeartbeats 4000000 in
set_option maxRecDepth 100000 in
theorem c_worth (l : Launch) (G : kG) (ad : Nat → Nat) (σ : kS) (nm ns : Nat) (a0 : Int32) (hst : l.stackTraces = false) (hns : σ 18 0 = nI ns) (hns4 : ns ≤ 40) (hnm : σ 17 0 = nI nm) (hnm2 : nm ≤ 200)  : vx_Met l yX3_worth [.code yX3_worth cX3_worth 2 (some .int)] ({ frames := 7, cells := 1, slots := 6, locals := 157 }) (va_Pc [.ref (ad 0), .int a0] (fun U => PX G ad σ U U.heap ∧ ZS U U.heap)) (vp_Si (fun r => eX_one a0 12 = 0 ∧ r = woF σ nm ns a0 5)) (tX (fun x => eX_one a0 12 ≠ 0 ∧ x = exN (eX_one a0 12))) 1 6 NF := by
  refine kx_of (by decide) (Nat.le_of_ble_eq_true rfl) (fun U h => h.1.2.2) ?_
  intro p e s m below meth c ls S hr hlocks ht hB hl
  have hx := S.1
  have hb := S.2.1
  have hX : PX G ad σ s s.heap := hB.1
  have hG : GL s := hX.2.2
  have hZ : ZS s s.heap := hB.2
  have hl : lv_has ls 2 [(0, .ref (ad 0)), (1, .int a0)] := hl
  refine lv_iload_n hx hb dX3_worth_0 rfl (lv_at hl 1 rfl) ?_
  refine lv_bipush (v := 12) hx hb dX3_worth_1 (by decide) ?_
  refine q_xv (rx_S S ⟨m_222, m_223, m_23, m_224⟩ ⟨rfl, by decide, by decide, by decide +kernel⟩ (c_checkIndex l a0 12 hst) ⟨rfl, rfl, Nat.le_of_ble_eq_true rfl, Nat.le_of_ble_eq_true rfl⟩ (ps bl_GZ (bGZ hX.2.2 hZ)) (n := 2) (As := [.int a0, .int 12]) (rest := []) rfl hl.1 rfl (Nat.le_of_ble_eq_true rfl) ⟨Nat.le_of_ble_eq_true rfl, Nat.le_of_ble_eq_true rfl⟩ dX3_worth_3) ht hlocks (by rintro x ⟨rfl, hf1⟩; simp [eX_one, hf1, exN]) (Nat.le_of_ble_eq_true rfl) (Nat.le_of_ble_eq_true rfl) (fun (p1 : ckI a0 12 = true) => ?_)
  refine lv_aload_n hx hb dX3_worth_6 rfl (lv_at hl 0 rfl) ?_
  refine lv_iload_n hx hb dX3_worth_7 rfl (lv_at hl 1 rfl) ?_
  refine q_i (r_V S ⟨m_171, m_173, m_3, m_23, m_174⟩ ⟨rfl, by decide, by decide, by decide +kernel⟩ (c_worthOf l G ad σ nm ns a0 hns hns4 hnm hnm2) ⟨rfl, rfl, Nat.le_of_ble_eq_true rfl, Nat.le_of_ble_eq_true rfl⟩ (pv_X hX 0 rfl rfl bl_PX (bX hX)) (n := 1) (As := [.int a0]) (rest := []) rfl hl.1 rfl (Nat.le_of_ble_eq_true rfl) ⟨Nat.le_of_ble_eq_true rfl, Nat.le_of_ble_eq_true rfl⟩ dX3_worth_8) (fun r2 (e2 : r2 = woF σ nm ns a0 5) => ?_)
  subst e2
  refine vx_ret ?_
  exact W.iret (v := woF σ nm ns a0 5) hx hb hr (fun t ht hW => ⟨_, rfl, (by simp [eX_one, p1]), ht⟩) (fun q h => by cases h) dX3_worth_11

set_option maxHeartbeats 4000000 in
set_option maxRecDepth 100000 in
theorem c_stateOf (l : Launch) (G : kG) (ad : Nat → Nat) (σ : kS) (nm ns : Nat) (a0 : Int32) (hst : l.stackTraces = false) (hns : σ 18 0 = nI ns) (hns4 : ns ≤ 40) (hnm : σ 17 0 = nI nm) (hnm2 : nm ≤ 200)  : vx_Met l yX3_stateOf [.code yX3_stateOf cX3_stateOf 2 (some .int)] ({ frames := 7, cells := 1, slots := 6, locals := 113 }) (va_Pc [.ref (ad 0), .int a0] (fun U => PX G ad σ U U.heap ∧ ZS U U.heap)) (vp_Si (fun r => eX_one a0 (σ 18 0) = 0 ∧ r = (if σ 9 (ixN a0) = 0 then 0 else 1))) (tX (fun x => eX_one a0 (σ 18 0) ≠ 0 ∧ x = exN (eX_one a0 (σ 18 0)))) 1 6 NF := by
  refine kx_of (by decide) (Nat.le_of_ble_eq_true rfl) (fun U h => h.1.2.2) ?_
  intro p e s m below meth c ls S hr hlocks ht hB hl
  have hx := S.1
  have hb := S.2.1
  have hX : PX G ad σ s s.heap := hB.1
  have hG : GL s := hX.2.2
  have hZ : ZS s s.heap := hB.2
  have hl : lv_has ls 2 [(0, .ref (ad 0)), (1, .int a0)] := hl
  refine lv_iload_n hx hb dX3_stateOf_0 rfl (lv_at hl 1 rfl) ?_
  refine lv_aload_n hx hb dX3_stateOf_1 rfl (lv_at hl 0 rfl) ?_
  refine k_get S hX.2 hX.1 0 (C := RX3) (T := TX3) (N := 6) rfl rfl 3 (by decide) inX3 m_134 rfl dX3_stateOf_2 ?_
  refine k_getN S hX.2 hX.1 4 (C := RX2) (T := TX2) (N := 4) rfl rfl 3 (by decide) inX2 n_85 rfl dX3_stateOf_5 ?_
  refine q_xv (rx_S S ⟨m_222, m_223, m_23, m_224⟩ ⟨rfl, by decide, by decide, by decide +kernel⟩ (c_checkIndex l a0 (σ 18 0) hst) ⟨rfl, rfl, Nat.le_of_ble_eq_true rfl, Nat.le_of_ble_eq_true rfl⟩ (ps bl_GZ (bGZ hX.2.2 hZ)) (n := 2) (As := [.int a0, .int (σ 18 0)]) (rest := []) rfl hl.1 rfl (Nat.le_of_ble_eq_true rfl) ⟨Nat.le_of_ble_eq_true rfl, Nat.le_of_ble_eq_true rfl⟩ dX3_stateOf_8) ht hlocks (by rintro x ⟨rfl, hf1⟩; simp [eX_one, hf1, exN]) (Nat.le_of_ble_eq_true rfl) (Nat.le_of_ble_eq_true rfl) (fun (p1 : ckI a0 (σ 18 0) = true) => ?_)
  obtain ⟨sh, hsh, rfl⟩ := ckI_nI (n := ns) (by rw [← hns]; exact p1) (by omega)
  have h31sh : sh < 2 ^ 31 := by omega
  refine lv_aload_n hx hb dX3_stateOf_11 rfl (lv_at hl 0 rfl) ?_
  refine k_get S hX.2 hX.1 0 (C := RX3) (T := TX3) (N := 6) rfl rfl 3 (by decide) inX3 m_134 rfl dX3_stateOf_12 ?_
  refine k_getN S hX.2 hX.1 4 (C := RX2) (T := TX2) (N := 4) rfl rfl 2 (by decide) inX2 n_83 rfl dX3_stateOf_15 ?_
  refine lv_iload_n hx hb dX3_stateOf_18 rfl (lv_at hl 1 rfl) ?_
  refine k_zld S hX.2 hX.1 13 (i := sh) rfl (by omega) (by decide) dX3_stateOf_19 ?_
  refine lv_if_eq (tgt := 27) hx hb dX3_stateOf_20 (by decide) (fun c20_2 => ?_) (fun c20_2 => ?_)
  · have bc20_2 := c20_2
    refine lv_iconst (v := 0) hx hb dX3_stateOf_27 (by decide) ?_
    refine vx_ret ?_
    exact W.iret (v := 0) hx hb hr (fun t ht hW => ⟨_, rfl, (by simp [eX_one, ixN_nI h31sh, p1, c20_2]), ht⟩) (fun q h => by cases h) dX3_stateOf_28
  · have bc20_2 := c20_2
    refine lv_iconst (v := 1) hx hb dX3_stateOf_23 (by decide) ?_
    refine lv_goto (tgt := 28) hx hb dX3_stateOf_24 (by decide) ?_
    refine vx_ret ?_
    exact W.iret (v := 1) hx hb hr (fun t ht hW => ⟨_, rfl, (by simp [eX_one, ixN_nI h31sh, p1, c20_2]), ht⟩) (fun q h => by cases h) dX3_stateOf_28

set_option maxHeartbeats 4000000 in
set_option maxRecDepth 100000 in
theorem c_cutOf (l : Launch) (G : kG) (ad : Nat → Nat) (σ : kS) (nm ns : Nat) (a0 : Int32) (hst : l.stackTraces = false) (hns : σ 18 0 = nI ns) (hns4 : ns ≤ 40) (hnm : σ 17 0 = nI nm) (hnm2 : nm ≤ 200)  : vx_Met l yX3_cutOf [.code yX3_cutOf cX3_cutOf 2 (some .int)] ({ frames := 7, cells := 1, slots := 6, locals := 113 }) (va_Pc [.ref (ad 0), .int a0] (fun U => PX G ad σ U U.heap ∧ ZS U U.heap)) (vp_Si (fun r => eX_one a0 (σ 18 0) = 0 ∧ r = σ 8 (ixN a0))) (tX (fun x => eX_one a0 (σ 18 0) ≠ 0 ∧ x = exN (eX_one a0 (σ 18 0)))) 1 6 NF := by
  refine kx_of (by decide) (Nat.le_of_ble_eq_true rfl) (fun U h => h.1.2.2) ?_
  intro p e s m below meth c ls S hr hlocks ht hB hl
  have hx := S.1
  have hb := S.2.1
  have hX : PX G ad σ s s.heap := hB.1
  have hG : GL s := hX.2.2
  have hZ : ZS s s.heap := hB.2
  have hl : lv_has ls 2 [(0, .ref (ad 0)), (1, .int a0)] := hl
  refine lv_iload_n hx hb dX3_cutOf_0 rfl (lv_at hl 1 rfl) ?_
  refine lv_aload_n hx hb dX3_cutOf_1 rfl (lv_at hl 0 rfl) ?_
  refine k_get S hX.2 hX.1 0 (C := RX3) (T := TX3) (N := 6) rfl rfl 3 (by decide) inX3 m_134 rfl dX3_cutOf_2 ?_
  refine k_getN S hX.2 hX.1 4 (C := RX2) (T := TX2) (N := 4) rfl rfl 3 (by decide) inX2 n_85 rfl dX3_cutOf_5 ?_
  refine q_xv (rx_S S ⟨m_222, m_223, m_23, m_224⟩ ⟨rfl, by decide, by decide, by decide +kernel⟩ (c_checkIndex l a0 (σ 18 0) hst) ⟨rfl, rfl, Nat.le_of_ble_eq_true rfl, Nat.le_of_ble_eq_true rfl⟩ (ps bl_GZ (bGZ hX.2.2 hZ)) (n := 2) (As := [.int a0, .int (σ 18 0)]) (rest := []) rfl hl.1 rfl (Nat.le_of_ble_eq_true rfl) ⟨Nat.le_of_ble_eq_true rfl, Nat.le_of_ble_eq_true rfl⟩ dX3_cutOf_8) ht hlocks (by rintro x ⟨rfl, hf1⟩; simp [eX_one, hf1, exN]) (Nat.le_of_ble_eq_true rfl) (Nat.le_of_ble_eq_true rfl) (fun (p1 : ckI a0 (σ 18 0) = true) => ?_)
  obtain ⟨sh, hsh, rfl⟩ := ckI_nI (n := ns) (by rw [← hns]; exact p1) (by omega)
  have h31sh : sh < 2 ^ 31 := by omega
  refine lv_aload_n hx hb dX3_cutOf_11 rfl (lv_at hl 0 rfl) ?_
  refine k_get S hX.2 hX.1 0 (C := RX3) (T := TX3) (N := 6) rfl rfl 3 (by decide) inX3 m_134 rfl dX3_cutOf_12 ?_
  refine k_getN S hX.2 hX.1 4 (C := RX2) (T := TX2) (N := 4) rfl rfl 1 (by decide) inX2 n_81 rfl dX3_cutOf_15 ?_
  refine lv_iload_n hx hb dX3_cutOf_18 rfl (lv_at hl 1 rfl) ?_
  refine k_ild S hX.2 hX.1 12 (i := sh) rfl (by omega) (by decide) dX3_cutOf_19 ?_
  refine vx_ret ?_
  exact W.iret (v := σ 8 sh) hx hb hr (fun t ht hW => ⟨_, rfl, (by simp [eX_one, ixN_nI h31sh, p1]), ht⟩) (fun q h => by cases h) dX3_cutOf_20

set_option maxHeartbeats 4000000 in
set_option maxRecDepth 100000 in
theorem c_counts (l : Launch) (G : kG) (ad : Nat → Nat) (σ : kS) (nm ns : Nat) (a0 b0 : Int32) (hst : l.stackTraces = false) (hns : σ 18 0 = nI ns) (hns4 : ns ≤ 40) (hnm : σ 17 0 = nI nm) (hnm2 : nm ≤ 200)  : vx_Met l yX3_counts [.code yX3_counts cX3_counts 3 (some .int)] ({ frames := 8, cells := 2, slots := 12, locals := 135 }) (va_Pc [.ref (ad 0), .int a0, .int b0] (fun U => PX G ad σ U U.heap ∧ ZS U U.heap)) (vp_Si (fun r => eX_two a0 (σ 18 0) b0 5 = 0 ∧ r = bc (σ 10 (lnN a0 b0)))) (tX (fun x => eX_two a0 (σ 18 0) b0 5 ≠ 0 ∧ x = exN (eX_two a0 (σ 18 0) b0 5))) 2 12 NF := by
  refine kx_of (by decide) (Nat.le_of_ble_eq_true rfl) (fun U h => h.1.2.2) ?_
  intro p e s m below meth c ls S hr hlocks ht hB hl
  have hx := S.1
  have hb := S.2.1
  have hX : PX G ad σ s s.heap := hB.1
  have hG : GL s := hX.2.2
  have hZ : ZS s s.heap := hB.2
  have hl : lv_has ls 3 [(0, .ref (ad 0)), (1, .int a0), (2, .int b0)] := hl
  refine lv_aload_n hx hb dX3_counts_0 rfl (lv_at hl 0 rfl) ?_
  refine lv_iload_n hx hb dX3_counts_1 rfl (lv_at hl 1 rfl) ?_
  refine lv_iload_n hx hb dX3_counts_2 rfl (lv_at hl 2 rfl) ?_
  refine q_xv (rx_V S ⟨m_218, m_220, m_9, m_23, m_221⟩ ⟨rfl, by decide, by decide, by decide +kernel⟩ (c_checkLine l G ad σ a0 b0 hst) ⟨rfl, rfl, Nat.le_of_ble_eq_true rfl, Nat.le_of_ble_eq_true rfl⟩ (pv_X hX 0 rfl rfl bl_PXZ (bXZ hX hZ)) (n := 2) (As := [.int a0, .int b0]) (rest := []) rfl hl.1 rfl (Nat.le_of_ble_eq_true rfl) ⟨Nat.le_of_ble_eq_true rfl, Nat.le_of_ble_eq_true rfl⟩ dX3_counts_3) ht hlocks (by rintro x ⟨rfl, hf1⟩; simp only [eX_two, hf1]; exact ⟨by simp, rfl⟩) (Nat.le_of_ble_eq_true rfl) (Nat.le_of_ble_eq_true rfl) (fun (p1 : (ckI a0 (σ 18 0) && ckI b0 5) = true) => ?_)
  obtain ⟨hpa, hpb⟩ := Bool.and_eq_true_iff.mp p1
  obtain ⟨sh, hsh, rfl⟩ := ckI_nI (n := ns) (by rw [← hns]; exact hpa) (by omega)
  obtain ⟨ar, har, rfl⟩ := ckI_nI (n := 5) hpb (by decide)
  have h31sh : sh < 2 ^ 31 := by omega
  have h31ar : ar < 2 ^ 31 := by omega
  refine lv_aload_n hx hb dX3_counts_6 rfl (lv_at hl 0 rfl) ?_
  refine k_get S hX.2 hX.1 0 (C := RX3) (T := TX3) (N := 6) rfl rfl 4 (by decide) inX3 m_135 rfl dX3_counts_7 ?_
  refine lv_iload_n hx hb dX3_counts_10 rfl (lv_at hl 1 rfl) ?_
  refine lv_iload_n hx hb dX3_counts_11 rfl (lv_at hl 2 rfl) ?_
  refine q_i (r_S S ⟨m_183, m_184, m_23, m_185⟩ ⟨rfl, by decide, by decide, by decide +kernel⟩ (c_lineOf l sh ar) ⟨rfl, rfl, Nat.le_of_ble_eq_true rfl, Nat.le_of_ble_eq_true rfl⟩ (ps bl_GL (bG hX.2.2)) (n := 2) (As := [.int (nI sh), .int (nI ar)]) (rest := [.ref (ad 5)]) rfl hl.1 rfl (Nat.le_of_ble_eq_true rfl) ⟨Nat.le_of_ble_eq_true rfl, Nat.le_of_ble_eq_true rfl⟩ dX3_counts_12) (fun r2 (e2 : r2 = nI (sh * 5 + ar)) => ?_)
  subst e2
  refine q_i (r_VN S hX.2.2 ⟨n_326, m_328, m_11, m_26, m_329⟩ ⟨rfl, by decide, by decide, by decide +kernel⟩ (c_countsOn l G ad σ (sh * 5 + ar) (by omega)) ⟨rfl, rfl, Nat.le_of_ble_eq_true rfl, Nat.le_of_ble_eq_true rfl⟩ (pv_X hX 5 rfl rfl bl_PX (bX hX)) (n := 1) (As := [.int (nI (sh * 5 + ar))]) (rest := []) rfl hl.1 rfl (Nat.le_of_ble_eq_true rfl) ⟨Nat.le_of_ble_eq_true rfl, Nat.le_of_ble_eq_true rfl⟩ dX3_counts_15) (fun r3 (e3 : r3 = bc (σ 10 (sh * 5 + ar))) => ?_)
  subst e3
  refine vx_ret ?_
  exact W.iret (v := bc (σ 10 (sh * 5 + ar))) hx hb hr (fun t ht hW => ⟨_, rfl, (by simp only [eX_two, p1]; simp [lnN, ixN_nI h31sh, ixN_nI h31ar]), ht⟩) (fun q h => by cases h) dX3_counts_18

set_option maxHeartbeats 4000000 in
set_option maxRecDepth 100000 in
theorem c_agreed (l : Launch) (G : kG) (ad : Nat → Nat) (σ : kS) (nm ns : Nat) (a0 b0 : Int32) (hst : l.stackTraces = false) (hns : σ 18 0 = nI ns) (hns4 : ns ≤ 40) (hnm : σ 17 0 = nI nm) (hnm2 : nm ≤ 200)  : vx_Met l yX3_agreed [.code yX3_agreed cX3_agreed 3 (some .int)] ({ frames := 8, cells := 2, slots := 12, locals := 135 }) (va_Pc [.ref (ad 0), .int a0, .int b0] (fun U => PX G ad σ U U.heap ∧ ZS U U.heap)) (vp_Si (fun r => eX_two a0 (σ 18 0) b0 5 = 0 ∧ r = σ 13 (lnN a0 b0))) (tX (fun x => eX_two a0 (σ 18 0) b0 5 ≠ 0 ∧ x = exN (eX_two a0 (σ 18 0) b0 5))) 2 12 NF := by
  refine kx_of (by decide) (Nat.le_of_ble_eq_true rfl) (fun U h => h.1.2.2) ?_
  intro p e s m below meth c ls S hr hlocks ht hB hl
  have hx := S.1
  have hb := S.2.1
  have hX : PX G ad σ s s.heap := hB.1
  have hG : GL s := hX.2.2
  have hZ : ZS s s.heap := hB.2
  have hl : lv_has ls 3 [(0, .ref (ad 0)), (1, .int a0), (2, .int b0)] := hl
  refine lv_aload_n hx hb dX3_agreed_0 rfl (lv_at hl 0 rfl) ?_
  refine lv_iload_n hx hb dX3_agreed_1 rfl (lv_at hl 1 rfl) ?_
  refine lv_iload_n hx hb dX3_agreed_2 rfl (lv_at hl 2 rfl) ?_
  refine q_xv (rx_V S ⟨m_218, m_220, m_9, m_23, m_221⟩ ⟨rfl, by decide, by decide, by decide +kernel⟩ (c_checkLine l G ad σ a0 b0 hst) ⟨rfl, rfl, Nat.le_of_ble_eq_true rfl, Nat.le_of_ble_eq_true rfl⟩ (pv_X hX 0 rfl rfl bl_PXZ (bXZ hX hZ)) (n := 2) (As := [.int a0, .int b0]) (rest := []) rfl hl.1 rfl (Nat.le_of_ble_eq_true rfl) ⟨Nat.le_of_ble_eq_true rfl, Nat.le_of_ble_eq_true rfl⟩ dX3_agreed_3) ht hlocks (by rintro x ⟨rfl, hf1⟩; simp only [eX_two, hf1]; exact ⟨by simp, rfl⟩) (Nat.le_of_ble_eq_true rfl) (Nat.le_of_ble_eq_true rfl) (fun (p1 : (ckI a0 (σ 18 0) && ckI b0 5) = true) => ?_)
  obtain ⟨hpa, hpb⟩ := Bool.and_eq_true_iff.mp p1
  obtain ⟨sh, hsh, rfl⟩ := ckI_nI (n := ns) (by rw [← hns]; exact hpa) (by omega)
  obtain ⟨ar, har, rfl⟩ := ckI_nI (n := 5) hpb (by decide)
  have h31sh : sh < 2 ^ 31 := by omega
  have h31ar : ar < 2 ^ 31 := by omega
  refine lv_aload_n hx hb dX3_agreed_6 rfl (lv_at hl 0 rfl) ?_
  refine k_get S hX.2 hX.1 0 (C := RX3) (T := TX3) (N := 6) rfl rfl 4 (by decide) inX3 m_135 rfl dX3_agreed_7 ?_
  refine k_getN S hX.2 hX.1 5 (C := RX0) (T := TX0) (N := 7) rfl rfl 3 (by decide) inX0 n_109 rfl dX3_agreed_10 ?_
  refine lv_iload_n hx hb dX3_agreed_13 rfl (lv_at hl 1 rfl) ?_
  refine lv_iload_n hx hb dX3_agreed_14 rfl (lv_at hl 2 rfl) ?_
  refine q_i (r_S S ⟨m_183, m_184, m_23, m_185⟩ ⟨rfl, by decide, by decide, by decide +kernel⟩ (c_lineOf l sh ar) ⟨rfl, rfl, Nat.le_of_ble_eq_true rfl, Nat.le_of_ble_eq_true rfl⟩ (ps bl_GL (bG hX.2.2)) (n := 2) (As := [.int (nI sh), .int (nI ar)]) (rest := [.ref (ad 17)]) rfl hl.1 rfl (Nat.le_of_ble_eq_true rfl) ⟨Nat.le_of_ble_eq_true rfl, Nat.le_of_ble_eq_true rfl⟩ dX3_agreed_15) (fun r2 (e2 : r2 = nI (sh * 5 + ar)) => ?_)
  subst e2
  refine k_ild S hX.2 hX.1 17 (i := (sh * 5 + ar)) rfl (by omega) (by decide) dX3_agreed_18 ?_
  refine vx_ret ?_
  exact W.iret (v := σ 13 (sh * 5 + ar)) hx hb hr (fun t ht hW => ⟨_, rfl, (by simp only [eX_two, p1]; simp [lnN, ixN_nI h31sh, ixN_nI h31ar]), ht⟩) (fun q h => by cases h) dX3_agreed_19

set_option maxHeartbeats 4000000 in
set_option maxRecDepth 100000 in
theorem c_isSigned (l : Launch) (G : kG) (ad : Nat → Nat) (σ : kS) (nm ns : Nat) (a0 b0 : Int32) (hst : l.stackTraces = false) (hns : σ 18 0 = nI ns) (hns4 : ns ≤ 40) (hnm : σ 17 0 = nI nm) (hnm2 : nm ≤ 200)  : vx_Met l yX3_isSigned [.code yX3_isSigned cX3_isSigned 3 (some .boolean)] ({ frames := 8, cells := 2, slots := 12, locals := 135 }) (va_Pc [.ref (ad 0), .int a0, .int b0] (fun U => PX G ad σ U U.heap ∧ ZS U U.heap)) (vp_Si (fun r => eX_two a0 (σ 18 0) b0 5 = 0 ∧ r = bI (hsB σ (lnN a0 b0)))) (tX (fun x => eX_two a0 (σ 18 0) b0 5 ≠ 0 ∧ x = exN (eX_two a0 (σ 18 0) b0 5))) 2 12 NF := by
  refine kx_of (by decide) (Nat.le_of_ble_eq_true rfl) (fun U h => h.1.2.2) ?_
  intro p e s m below meth c ls S hr hlocks ht hB hl
  have hx := S.1
  have hb := S.2.1
  have hX : PX G ad σ s s.heap := hB.1
  have hG : GL s := hX.2.2
  have hZ : ZS s s.heap := hB.2
  have hl : lv_has ls 3 [(0, .ref (ad 0)), (1, .int a0), (2, .int b0)] := hl
  refine lv_aload_n hx hb dX3_isSigned_0 rfl (lv_at hl 0 rfl) ?_
  refine lv_iload_n hx hb dX3_isSigned_1 rfl (lv_at hl 1 rfl) ?_
  refine lv_iload_n hx hb dX3_isSigned_2 rfl (lv_at hl 2 rfl) ?_
  refine q_xv (rx_V S ⟨m_218, m_220, m_9, m_23, m_221⟩ ⟨rfl, by decide, by decide, by decide +kernel⟩ (c_checkLine l G ad σ a0 b0 hst) ⟨rfl, rfl, Nat.le_of_ble_eq_true rfl, Nat.le_of_ble_eq_true rfl⟩ (pv_X hX 0 rfl rfl bl_PXZ (bXZ hX hZ)) (n := 2) (As := [.int a0, .int b0]) (rest := []) rfl hl.1 rfl (Nat.le_of_ble_eq_true rfl) ⟨Nat.le_of_ble_eq_true rfl, Nat.le_of_ble_eq_true rfl⟩ dX3_isSigned_3) ht hlocks (by rintro x ⟨rfl, hf1⟩; simp only [eX_two, hf1]; exact ⟨by simp, rfl⟩) (Nat.le_of_ble_eq_true rfl) (Nat.le_of_ble_eq_true rfl) (fun (p1 : (ckI a0 (σ 18 0) && ckI b0 5) = true) => ?_)
  obtain ⟨hpa, hpb⟩ := Bool.and_eq_true_iff.mp p1
  obtain ⟨sh, hsh, rfl⟩ := ckI_nI (n := ns) (by rw [← hns]; exact hpa) (by omega)
  obtain ⟨ar, har, rfl⟩ := ckI_nI (n := 5) hpb (by decide)
  have h31sh : sh < 2 ^ 31 := by omega
  have h31ar : ar < 2 ^ 31 := by omega
  refine lv_aload_n hx hb dX3_isSigned_6 rfl (lv_at hl 0 rfl) ?_
  refine k_get S hX.2 hX.1 0 (C := RX3) (T := TX3) (N := 6) rfl rfl 4 (by decide) inX3 m_135 rfl dX3_isSigned_7 ?_
  refine lv_iload_n hx hb dX3_isSigned_10 rfl (lv_at hl 1 rfl) ?_
  refine lv_iload_n hx hb dX3_isSigned_11 rfl (lv_at hl 2 rfl) ?_
  refine q_i (r_S S ⟨m_183, m_184, m_23, m_185⟩ ⟨rfl, by decide, by decide, by decide +kernel⟩ (c_lineOf l sh ar) ⟨rfl, rfl, Nat.le_of_ble_eq_true rfl, Nat.le_of_ble_eq_true rfl⟩ (ps bl_GL (bG hX.2.2)) (n := 2) (As := [.int (nI sh), .int (nI ar)]) (rest := [.ref (ad 5)]) rfl hl.1 rfl (Nat.le_of_ble_eq_true rfl) ⟨Nat.le_of_ble_eq_true rfl, Nat.le_of_ble_eq_true rfl⟩ dX3_isSigned_12) (fun r2 (e2 : r2 = nI (sh * 5 + ar)) => ?_)
  subst e2
  refine q_i (r_VN S hX.2.2 ⟨n_186, m_188, m_6, m_26, m_189⟩ ⟨rfl, by decide, by decide, by decide +kernel⟩ (c_hasSign l G ad σ (sh * 5 + ar) (by omega)) ⟨rfl, rfl, Nat.le_of_ble_eq_true rfl, Nat.le_of_ble_eq_true rfl⟩ (pv_X hX 5 rfl rfl bl_PX (bX hX)) (n := 1) (As := [.int (nI (sh * 5 + ar))]) (rest := []) rfl hl.1 rfl (Nat.le_of_ble_eq_true rfl) ⟨Nat.le_of_ble_eq_true rfl, Nat.le_of_ble_eq_true rfl⟩ dX3_isSigned_15) (fun r3 (e3 : r3 = bI (hsB σ (sh * 5 + ar))) => ?_)
  subst e3
  refine vx_ret ?_
  exact W.zret (v := bI (hsB σ (sh * 5 + ar))) (ty := .boolean) hx hb hr (by first | rfl | exact bI_nar _) (fun t ht hW => ⟨_, rfl, (by simp only [eX_two, p1]; simp [lnN, ixN_nI h31sh, ixN_nI h31ar]), ht⟩) (fun q h => by cases h) dX3_isSigned_18

set_option maxHeartbeats 4000000 in
set_option maxRecDepth 100000 in
theorem c_gap (l : Launch) (G : kG) (ad : Nat → Nat) (σ : kS) (nm ns : Nat) (a0 b0 : Int32) (hst : l.stackTraces = false) (hns : σ 18 0 = nI ns) (hns4 : ns ≤ 40) (hnm : σ 17 0 = nI nm) (hnm2 : nm ≤ 200)  : vx_Met l yX3_gap [.code yX3_gap cX3_gap 3 (some .int)] ({ frames := 8, cells := 3, slots := 18, locals := 157 }) (va_Pc [.ref (ad 0), .int a0, .int b0] (fun U => PX G ad σ U U.heap ∧ ZS U U.heap)) (vp_Si (fun r => eX_gap σ a0 b0 = 0 ∧ r = gpV σ nm ns (ixN a0) (ixN b0))) (tX (fun x => eX_gap σ a0 b0 ≠ 0 ∧ x = exN (eX_gap σ a0 b0))) 3 18 NF := by
  refine kx_of (by decide) (Nat.le_of_ble_eq_true rfl) (fun U h => h.1.2.2) ?_
  intro p e s m below meth c ls S hr hlocks ht hB hl
  have hx := S.1
  have hb := S.2.1
  have hX : PX G ad σ s s.heap := hB.1
  have hG : GL s := hX.2.2
  have hZ : ZS s s.heap := hB.2
  have hl : lv_has ls 3 [(0, .ref (ad 0)), (1, .int a0), (2, .int b0)] := hl
  refine lv_aload_n hx hb dX3_gap_0 rfl (lv_at hl 0 rfl) ?_
  refine lv_iload_n hx hb dX3_gap_1 rfl (lv_at hl 1 rfl) ?_
  refine lv_iload_n hx hb dX3_gap_2 rfl (lv_at hl 2 rfl) ?_
  refine q_xv (rx_V S ⟨m_218, m_220, m_9, m_23, m_221⟩ ⟨rfl, by decide, by decide, by decide +kernel⟩ (c_checkLine l G ad σ a0 b0 hst) ⟨rfl, rfl, Nat.le_of_ble_eq_true rfl, Nat.le_of_ble_eq_true rfl⟩ (pv_X hX 0 rfl rfl bl_PXZ (bXZ hX hZ)) (n := 2) (As := [.int a0, .int b0]) (rest := []) rfl hl.1 rfl (Nat.le_of_ble_eq_true rfl) ⟨Nat.le_of_ble_eq_true rfl, Nat.le_of_ble_eq_true rfl⟩ dX3_gap_3) ht hlocks (by rintro x ⟨rfl, hf1⟩; simp only [eX_gap, hf1]; exact ⟨by simp, rfl⟩) (Nat.le_of_ble_eq_true rfl) (Nat.le_of_ble_eq_true rfl) (fun (p1 : (ckI a0 (σ 18 0) && ckI b0 5) = true) => ?_)
  obtain ⟨hpa, hpb⟩ := Bool.and_eq_true_iff.mp p1
  obtain ⟨sh, hsh, rfl⟩ := ckI_nI (n := ns) (by rw [← hns]; exact hpa) (by omega)
  obtain ⟨ar, har, rfl⟩ := ckI_nI (n := 5) hpb (by decide)
  have h31sh : sh < 2 ^ 31 := by omega
  have h31ar : ar < 2 ^ 31 := by omega
  refine lv_aload_n hx hb dX3_gap_6 rfl (lv_at hl 0 rfl) ?_
  refine lv_iload_n hx hb dX3_gap_7 rfl (lv_at hl 1 rfl) ?_
  refine lv_iload_n hx hb dX3_gap_8 rfl (lv_at hl 2 rfl) ?_
  refine q_xv (rx_V S ⟨m_374, m_376, m_16, m_23, m_377⟩ ⟨rfl, by decide, by decide, by decide +kernel⟩ (c_checkAgrees l G ad σ sh ar hst (by omega) (by omega)) ⟨rfl, rfl, Nat.le_of_ble_eq_true rfl, Nat.le_of_ble_eq_true rfl⟩ (pv_X hX 0 rfl rfl bl_PXZ (bXZ hX hZ)) (n := 2) (As := [.int (nI sh), .int (nI ar)]) (rest := []) rfl hl.1 rfl (Nat.le_of_ble_eq_true rfl) ⟨Nat.le_of_ble_eq_true rfl, Nat.le_of_ble_eq_true rfl⟩ dX3_gap_9) ht hlocks (by rintro x ⟨rfl, hf2⟩; simp only [eX_gap, p1]; simp [lnN, ixN_nI h31sh, ixN_nI h31ar, hf2]) (Nat.le_of_ble_eq_true rfl) (Nat.le_of_ble_eq_true rfl) (fun (p2 : agB σ (sh * 5 + ar) = true) => ?_)
  refine lv_aload_n hx hb dX3_gap_12 rfl (lv_at hl 0 rfl) ?_
  refine lv_iload_n hx hb dX3_gap_13 rfl (lv_at hl 1 rfl) ?_
  refine lv_iload_n hx hb dX3_gap_14 rfl (lv_at hl 2 rfl) ?_
  refine q_i (r_V S ⟨m_362, m_364, m_15, m_23, m_365⟩ ⟨rfl, by decide, by decide, by decide +kernel⟩ (c_gapOf l G ad σ nm ns sh ar hns hns4 hnm hnm2 (by omega) (by omega)) ⟨rfl, rfl, Nat.le_of_ble_eq_true rfl, Nat.le_of_ble_eq_true rfl⟩ (pv_X hX 0 rfl rfl bl_PX (bX hX)) (n := 2) (As := [.int (nI sh), .int (nI ar)]) (rest := []) rfl hl.1 rfl (Nat.le_of_ble_eq_true rfl) ⟨Nat.le_of_ble_eq_true rfl, Nat.le_of_ble_eq_true rfl⟩ dX3_gap_15) (fun r3 (e3 : r3 = gpV σ nm ns sh ar) => ?_)
  subst e3
  refine vx_ret ?_
  exact W.iret (v := gpV σ nm ns sh ar) hx hb hr (fun t ht hW => ⟨_, rfl, (by simp only [eX_gap, p1]; simp [lnN, ixN_nI h31sh, ixN_nI h31ar, p2]), ht⟩) (fun q h => by cases h) dX3_gap_18

set_option maxHeartbeats 4000000 in
set_option maxRecDepth 100000 in
theorem c_likely (l : Launch) (G : kG) (ad : Nat → Nat) (σ : kS) (nm ns : Nat) (a0 b0 : Int32) (hst : l.stackTraces = false) (hns : σ 18 0 = nI ns) (hns4 : ns ≤ 40) (hnm : σ 17 0 = nI nm) (hnm2 : nm ≤ 200)  : vx_Met l yX3_likely [.code yX3_likely cX3_likely 4 (some .int)] ({ frames := 8, cells := 2, slots := 12, locals := 181 }) (va_Pc [.ref (ad 0), .int a0, .int b0] (fun U => PX G ad σ U U.heap ∧ ZS U U.heap)) (vp_Si (fun r => eX_two a0 (σ 18 0) b0 5 = 0 ∧ r = oI (flO (fun k => csB σ nm ns (ixN a0) k (ixN b0)) ns))) (tX (fun x => eX_two a0 (σ 18 0) b0 5 ≠ 0 ∧ x = exN (eX_two a0 (σ 18 0) b0 5))) 2 12 NF := by
  refine kx_of (by decide) (Nat.le_of_ble_eq_true rfl) (fun U h => h.1.2.2) ?_
  intro p e s m below meth c ls S hr hlocks ht hB hl
  have hx := S.1
  have hb := S.2.1
  have hX : PX G ad σ s s.heap := hB.1
  have hG : GL s := hX.2.2
  have hZ : ZS s s.heap := hB.2
  have hl : lv_has ls 4 [(0, .ref (ad 0)), (1, .int a0), (2, .int b0)] := hl
  refine lv_aload_n hx hb dX3_likely_0 rfl (lv_at hl 0 rfl) ?_
  refine lv_iload_n hx hb dX3_likely_1 rfl (lv_at hl 1 rfl) ?_
  refine lv_iload_n hx hb dX3_likely_2 rfl (lv_at hl 2 rfl) ?_
  refine q_xv (rx_V S ⟨m_218, m_220, m_9, m_23, m_221⟩ ⟨rfl, by decide, by decide, by decide +kernel⟩ (c_checkLine l G ad σ a0 b0 hst) ⟨rfl, rfl, Nat.le_of_ble_eq_true rfl, Nat.le_of_ble_eq_true rfl⟩ (pv_X hX 0 rfl rfl bl_PXZ (bXZ hX hZ)) (n := 2) (As := [.int a0, .int b0]) (rest := []) rfl hl.1 rfl (Nat.le_of_ble_eq_true rfl) ⟨Nat.le_of_ble_eq_true rfl, Nat.le_of_ble_eq_true rfl⟩ dX3_likely_3) ht hlocks (by rintro x ⟨rfl, hf1⟩; simp only [eX_two, hf1]; exact ⟨by simp, rfl⟩) (Nat.le_of_ble_eq_true rfl) (Nat.le_of_ble_eq_true rfl) (fun (p1 : (ckI a0 (σ 18 0) && ckI b0 5) = true) => ?_)
  obtain ⟨hpa, hpb⟩ := Bool.and_eq_true_iff.mp p1
  obtain ⟨sh, hsh, rfl⟩ := ckI_nI (n := ns) (by rw [← hns]; exact hpa) (by omega)
  obtain ⟨ar, har, rfl⟩ := ckI_nI (n := 5) hpb (by decide)
  have h31sh : sh < 2 ^ 31 := by omega
  have h31ar : ar < 2 ^ 31 := by omega
  have L8 : ∀ (n i : Nat), i ≤ ns → ns + 1 ≤ i + n → (∀ j, j < i → csB σ nm ns sh j ar = false) → ∀ ls, lv_has ls 4 [(0, .ref (ad 0)), (1, .int (nI sh)), (2, .int (nI ar)), (3, .int (nI i))] → W p l e ({ frames := 8, cells := 2, slots := 12, locals := 181 } : Room) s m [.ref (ad 0), .int (nI sh), .int (nI ar)].toArray below meth c s.heap [] 2 12 (vx_MQ below (vp_Si (fun r => eX_two (nI sh) (σ 18 0) (nI ar) 5 = 0 ∧ r = oI (flO (fun k => csB σ nm ns (ixN (nI sh)) k (ixN (nI ar))) ns))) (tX (fun x => eX_two (nI sh) (σ 18 0) (nI ar) 5 ≠ 0 ∧ x = exN (eX_two (nI sh) (σ 18 0) (nI ar) 5))) [.ref (ad 0), .int (nI sh), .int (nI ar)].toArray s 2 12 NF) (F0 m 8 ls []) := by
    intro n
    induction n with
    | zero =>
      intro i h1 h2
      omega
    | succ n ihn =>
      intro i hii hini hno ls hl
      refine lv_iload_n hx hb dX3_likely_8 rfl (lv_at hl 3 rfl) ?_
      refine lv_aload_n hx hb dX3_likely_9 rfl (lv_at hl 0 rfl) ?_
      refine k_get S hX.2 hX.1 0 (C := RX3) (T := TX3) (N := 6) rfl rfl 3 (by decide) inX3 m_134 rfl dX3_likely_10 ?_
      refine k_getN S hX.2 hX.1 4 (C := RX2) (T := TX2) (N := 4) rfl rfl 3 (by decide) inX2 n_85 rfl dX3_likely_13 ?_
      refine k_eq (y := nI ns) (hns) ?_
      refine lv_icmp_ge (tgt := 37) hx hb dX3_likely_16 (by decide) (fun c16_2 => ?_) (fun c16_2 => ?_)
      · have bc16_2 := le_nlt c16_2
        have hgei : i = ns := by
          have h9 := c16_2
          rw [nI_leI (by omega) (by omega)] at h9
          omega
        refine lv_iconst (v := (-1)) hx hb dX3_likely_37 (by decide) ?_
        refine vx_ret ?_
        exact W.iret (v := (-1)) hx hb hr (fun t ht hW => ⟨_, rfl, (by simp only [eX_two, p1, ixN_nI h31sh, ixN_nI h31ar]; exact ⟨rfl, by rw [flO_none (p := fun k => csB σ nm ns sh k ar) (fun j hj => hno j (by omega))]; rfl⟩), ht⟩) (fun q h => by cases h) dX3_likely_38
      · have bc16_2 := nle_lt c16_2
        have hlti : i < ns := by
          have h9 := nle_lt c16_2
          rw [nI_ltI (by omega) (by omega)] at h9
          exact h9
        refine lv_aload_n hx hb dX3_likely_19 rfl (lv_at hl 0 rfl) ?_
        refine lv_iload_n hx hb dX3_likely_20 rfl (lv_at hl 1 rfl) ?_
        refine lv_iload_n hx hb dX3_likely_21 rfl (lv_at hl 3 rfl) ?_
        refine lv_iload_n hx hb dX3_likely_22 rfl (lv_at hl 2 rfl) ?_
        refine q_i (r_V S ⟨m_350, m_352, m_12, m_23, m_353⟩ ⟨rfl, by decide, by decide, by decide +kernel⟩ (c_canBeSettled l G ad σ nm ns sh i ar hns hns4 hnm hnm2 (by omega) (by omega) (by omega)) ⟨rfl, rfl, Nat.le_of_ble_eq_true rfl, Nat.le_of_ble_eq_true rfl⟩ (pv_X hX 0 rfl rfl bl_PX (bX hX)) (n := 3) (As := [.int (nI sh), .int (nI i), .int (nI ar)]) (rest := []) rfl hl.1 rfl (Nat.le_of_ble_eq_true rfl) ⟨Nat.le_of_ble_eq_true rfl, Nat.le_of_ble_eq_true rfl⟩ dX3_likely_23) (fun r3 (e3 : r3 = bI (csB σ nm ns sh i ar)) => ?_)
        subst e3
        refine lv_if_eq (tgt := 31) hx hb dX3_likely_26 (by decide) (fun c26_4 => ?_) (fun c26_4 => ?_)
        · have bc26_4 := bI_0 c26_4
          refine lv_iinc (v := nI (i + 1)) (lv' := [(3, .int (nI (i + 1))), (0, .ref (ad 0)), (1, .int (nI sh)), (2, .int (nI ar))]) hx hb dX3_likely_31 hl (k := 3) rfl (nI_1 i) (by decide) rfl (fun ls hl => ?_)
          refine lv_goto (tgt := 8) hx hb dX3_likely_34 (by decide) ?_
          exact ihn (i + 1) hlti (by omega) (lt_s hno bc26_4) ls (lv_sub hl [1, 2, 3, 0] rfl)
        · have bc26_4 := bI_n c26_4
          refine lv_iload_n hx hb dX3_likely_29 rfl (lv_at hl 3 rfl) ?_
          refine vx_ret ?_
          exact W.iret (v := nI i) hx hb hr (fun t ht hW => ⟨_, rfl, (by simp only [eX_two, p1, ixN_nI h31sh, ixN_nI h31ar]; exact ⟨rfl, by rw [flO_at (p := fun k => csB σ nm ns sh k ar) bc26_4 hno hlti]; rfl⟩), ht⟩) (fun q h => by cases h) dX3_likely_30
  refine lv_iconst (v := 0) hx hb dX3_likely_6 (by decide) ?_
  refine lv_istore_n (lv' := [(3, .int 0), (0, .ref (ad 0)), (1, .int (nI sh)), (2, .int (nI ar))]) hx hb dX3_likely_7 rfl hl (by decide) rfl (fun ls hl => ?_)
  exact L8 (ns + 1) 0 (Nat.zero_le _) (by omega) lt_0 ls (lv_sub hl [1, 2, 3, 0] rfl)

set_option maxHeartbeats 4000000 in
set_option maxRecDepth 100000 in
theorem c_exact (l : Launch) (G : kG) (ad : Nat → Nat) (σ : kS) (nm ns : Nat) (a0 : Int32) (hst : l.stackTraces = false) (hns : σ 18 0 = nI ns) (hns4 : ns ≤ 40) (hnm : σ 17 0 = nI nm) (hnm2 : nm ≤ 200)  : vx_Met l yX3_exact [.code yX3_exact cX3_exact 7 (some .int)] ({ frames := 7, cells := 1, slots := 6, locals := 113 }) (va_Pc [.ref (ad 0), .int a0] (fun U => PX G ad σ U U.heap ∧ ZS U U.heap)) (vp_Si (fun r => eX_one a0 3 = 0 ∧ r = exV σ ns a0)) (tX (fun x => eX_one a0 3 ≠ 0 ∧ x = exN (eX_one a0 3))) 1 6 NF := by
  refine kx_of (by decide) (Nat.le_of_ble_eq_true rfl) (fun U h => h.1.2.2) ?_
  intro p e s m below meth c ls S hr hlocks ht hB hl
  have hx := S.1
  have hb := S.2.1
  have hX : PX G ad σ s s.heap := hB.1
  have hG : GL s := hX.2.2
  have hZ : ZS s s.heap := hB.2
  have hl : lv_has ls 7 [(0, .ref (ad 0)), (1, .int a0)] := hl
  refine lv_iload_n hx hb dX3_exact_0 rfl (lv_at hl 1 rfl) ?_
  refine lv_iconst (v := 3) hx hb dX3_exact_1 (by decide) ?_
  refine q_xv (rx_S S ⟨m_222, m_223, m_23, m_224⟩ ⟨rfl, by decide, by decide, by decide +kernel⟩ (c_checkIndex l a0 3 hst) ⟨rfl, rfl, Nat.le_of_ble_eq_true rfl, Nat.le_of_ble_eq_true rfl⟩ (ps bl_GZ (bGZ hX.2.2 hZ)) (n := 2) (As := [.int a0, .int 3]) (rest := []) rfl hl.1 rfl (Nat.le_of_ble_eq_true rfl) ⟨Nat.le_of_ble_eq_true rfl, Nat.le_of_ble_eq_true rfl⟩ dX3_exact_2) ht hlocks (by rintro x ⟨rfl, hf1⟩; simp [eX_one, exV, hf1, exN]) (Nat.le_of_ble_eq_true rfl) (Nat.le_of_ble_eq_true rfl) (fun (p1 : ckI a0 3 = true) => ?_)
  have L12 : ∀ (n i : Nat), i ≤ ns → ns + 1 ≤ i + n → ∀ ls, lv_has ls 7 [(0, .ref (ad 0)), (1, .int a0), (2, .int ((exF σ a0 i).1)), (3, .int ((exF σ a0 i).2)), (4, .int (nI i))] → W p l e ({ frames := 7, cells := 1, slots := 6, locals := 113 } : Room) s m [.ref (ad 0), .int a0].toArray below meth c s.heap [] 1 6 (vx_MQ below (vp_Si (fun r => eX_one a0 3 = 0 ∧ r = exV σ ns a0)) (tX (fun x => eX_one a0 3 ≠ 0 ∧ x = exN (eX_one a0 3))) [.ref (ad 0), .int a0].toArray s 1 6 NF) (F0 m 12 ls []) := by
    intro n
    induction n with
    | zero =>
      intro i h1 h2
      omega
    | succ n ihn =>
      intro i hii hini ls hl
      refine lv_iload hx hb dX3_exact_12 (lv_at hl 4 rfl) ?_
      refine lv_aload_n hx hb dX3_exact_14 rfl (lv_at hl 0 rfl) ?_
      refine k_get S hX.2 hX.1 0 (C := RX3) (T := TX3) (N := 6) rfl rfl 3 (by decide) inX3 m_134 rfl dX3_exact_15 ?_
      refine k_getN S hX.2 hX.1 4 (C := RX2) (T := TX2) (N := 4) rfl rfl 3 (by decide) inX2 n_85 rfl dX3_exact_18 ?_
      refine k_eq (y := nI ns) (hns) ?_
      refine lv_icmp_ge (tgt := 106) hx hb dX3_exact_21 (by decide) (fun c21_2 => ?_) (fun c21_2 => ?_)
      · have bc21_2 := le_nlt c21_2
        have hgei : i = ns := by
          have h9 := c21_2
          rw [nI_leI (by omega) (by omega)] at h9
          omega
        refine lv_iload_n hx hb dX3_exact_106 rfl (lv_at hl 2 rfl) ?_
        refine lv_if_ne (tgt := 114) hx hb dX3_exact_107 (by decide) (fun c107_3 => ?_) (fun c107_3 => ?_)
        · have bc107_3 := c107_3
          have hdz := c107_3
          refine lv_sipush (v := 1000) hx hb dX3_exact_114 (by decide) ?_
          refine lv_iload_n hx hb dX3_exact_117 rfl (lv_at hl 3 rfl) ?_
          refine lv_imul hx hb dX3_exact_118 ?_
          refine lv_iload_n hx hb dX3_exact_119 rfl (lv_at hl 2 rfl) ?_
          refine lv_idiv hx hb dX3_exact_120 hdz ?_
          refine vx_ret ?_
          exact W.iret (v := (1000 * ((exF σ a0 i).2)) / ((exF σ a0 i).1)) hx hb hr (fun t ht hW => ⟨_, rfl, (by subst hgei; simp [eX_one, exV, p1, c21_2, bc21_2, c107_3]), ht⟩) (fun q h => by cases h) dX3_exact_121
        · have bc107_3 := c107_3
          refine lv_iconst (v := (-1)) hx hb dX3_exact_110 (by decide) ?_
          refine lv_goto (tgt := 121) hx hb dX3_exact_111 (by decide) ?_
          refine vx_ret ?_
          exact W.iret (v := (-1)) hx hb hr (fun t ht hW => ⟨_, rfl, (by subst hgei; simp [eX_one, exV, p1, c21_2, bc21_2, c107_3]), ht⟩) (fun q h => by cases h) dX3_exact_121
      · have bc21_2 := nle_lt c21_2
        have hlti : i < ns := by
          have h9 := nle_lt c21_2
          rw [nI_ltI (by omega) (by omega)] at h9
          exact h9
        refine lv_aload_n hx hb dX3_exact_24 rfl (lv_at hl 0 rfl) ?_
        refine k_get S hX.2 hX.1 0 (C := RX3) (T := TX3) (N := 6) rfl rfl 3 (by decide) inX3 m_134 rfl dX3_exact_25 ?_
        refine k_getN S hX.2 hX.1 4 (C := RX2) (T := TX2) (N := 4) rfl rfl 0 (by decide) inX2 n_79 rfl dX3_exact_28 ?_
        refine lv_iload hx hb dX3_exact_31 (lv_at hl 4 rfl) ?_
        refine k_ild S hX.2 hX.1 11 (i := i) rfl (by omega) (by decide) dX3_exact_33 ?_
        refine lv_iconst (v := 4) hx hb dX3_exact_34 (by decide) ?_
        refine lv_idiv hx hb dX3_exact_35 (by decide) ?_
        refine lv_iload_n hx hb dX3_exact_36 rfl (lv_at hl 1 rfl) ?_
        refine lv_icmp_ne (tgt := 100) hx hb dX3_exact_37 (by decide) (fun c37_4 => ?_) (fun c37_4 => ?_)
        · have bc37_4 := c37_4
          refine lv_iinc (v := nI (i + 1)) (lv' := [(4, .int (nI (i + 1))), (0, .ref (ad 0)), (1, .int a0), (2, .int ((exF σ a0 i).1)), (3, .int ((exF σ a0 i).2))]) hx hb dX3_exact_100 hl (k := 4) rfl (nI_1 i) (by decide) rfl (fun ls hl => ?_)
          refine lv_goto (tgt := 12) hx hb dX3_exact_103 (by decide) ?_
          have ev5 : (exF σ a0 i).1 = (exF σ a0 (i + 1)).1 := by simp [exF, p1, c21_2, bc21_2, c37_4]
          rw [ev5] at hl
          have ev6 : (exF σ a0 i).2 = (exF σ a0 (i + 1)).2 := by simp [exF, p1, c21_2, bc21_2, c37_4]
          rw [ev6] at hl
          exact ihn (i + 1) hlti (by omega) ls (lv_sub hl [1, 2, 3, 4, 0] rfl)
        · have bc37_4 := c37_4
          have L43 : ∀ (n2 j : Nat), j ≤ 5 → 5 + 1 ≤ j + n2 → ∀ ls, lv_has ls 7 [(0, .ref (ad 0)), (1, .int a0), (2, .int ((exI σ i j (exF σ a0 i)).1)), (3, .int ((exI σ i j (exF σ a0 i)).2)), (4, .int (nI i)), (5, .int (nI j))] → W p l e ({ frames := 7, cells := 1, slots := 6, locals := 113 } : Room) s m [.ref (ad 0), .int a0].toArray below meth c s.heap [] 1 6 (vx_MQ below (vp_Si (fun r => eX_one a0 3 = 0 ∧ r = exV σ ns a0)) (tX (fun x => eX_one a0 3 ≠ 0 ∧ x = exN (eX_one a0 3))) [.ref (ad 0), .int a0].toArray s 1 6 NF) (F0 m 43 ls []) := by
            intro n2
            induction n2 with
            | zero =>
              intro j h1 h2
              omega
            | succ n2 ihn2 =>
              intro j hij hinj ls hl
              refine lv_iload hx hb dX3_exact_43 (lv_at hl 5 rfl) ?_
              refine lv_iconst (v := 5) hx hb dX3_exact_45 (by decide) ?_
              refine lv_icmp_ge (tgt := 100) hx hb dX3_exact_46 (by decide) (fun c46_7 => ?_) (fun c46_7 => ?_)
              · have bc46_7 := le_nlt c46_7
                have hgej : j = 5 := by
                  have h9 := c46_7
                  rw [show (5 : Int32) = nI 5 from rfl, nI_leI (by omega) (by omega)] at h9
                  omega
                refine lv_iinc (v := nI (i + 1)) (lv' := [(4, .int (nI (i + 1))), (0, .ref (ad 0)), (1, .int a0), (2, .int ((exI σ i j (exF σ a0 i)).1)), (3, .int ((exI σ i j (exF σ a0 i)).2)), (5, .int (nI j))]) hx hb dX3_exact_100 hl (k := 4) rfl (nI_1 i) (by decide) rfl (fun ls hl => ?_)
                refine lv_goto (tgt := 12) hx hb dX3_exact_103 (by decide) ?_
                subst hgej
                have ev8 : (exI σ i 5 (exF σ a0 i)).1 = (exF σ a0 (i + 1)).1 := by simp [exF, p1, c21_2, bc21_2, c37_4]
                rw [ev8] at hl
                have ev9 : (exI σ i 5 (exF σ a0 i)).2 = (exF σ a0 (i + 1)).2 := by simp [exF, p1, c21_2, bc21_2, c37_4]
                rw [ev9] at hl
                exact ihn (i + 1) hlti (by omega) ls (lv_sub hl [1, 2, 3, 4, 0] rfl)
              · have bc46_7 := nle_lt c46_7
                have hltj : j < 5 := by
                  have h9 := nle_lt c46_7
                  rw [show (5 : Int32) = nI 5 from rfl, nI_ltI (by omega) (by omega)] at h9
                  exact h9
                refine lv_iload hx hb dX3_exact_49 (lv_at hl 4 rfl) ?_
                refine lv_iload hx hb dX3_exact_51 (lv_at hl 5 rfl) ?_
                refine q_i (r_S S ⟨m_183, m_184, m_23, m_185⟩ ⟨rfl, by decide, by decide, by decide +kernel⟩ (c_lineOf l i j) ⟨rfl, rfl, Nat.le_of_ble_eq_true rfl, Nat.le_of_ble_eq_true rfl⟩ (ps bl_GL (bG hX.2.2)) (n := 2) (As := [.int (nI i), .int (nI j)]) (rest := []) rfl hl.1 rfl (Nat.le_of_ble_eq_true rfl) ⟨Nat.le_of_ble_eq_true rfl, Nat.le_of_ble_eq_true rfl⟩ dX3_exact_53) (fun r10 (e10 : r10 = nI (i * 5 + j)) => ?_)
                subst e10
                refine lv_istore (lv' := [(6, .int (nI (i * 5 + j))), (0, .ref (ad 0)), (1, .int a0), (2, .int ((exI σ i j (exF σ a0 i)).1)), (3, .int ((exI σ i j (exF σ a0 i)).2)), (4, .int (nI i)), (5, .int (nI j))]) hx hb dX3_exact_56 hl (by decide) rfl (fun ls hl => ?_)
                refine lv_aload_n hx hb dX3_exact_58 rfl (lv_at hl 1 rfl) ?_
                refine k_get S hX.2 hX.1 0 (C := RX3) (T := TX3) (N := 6) rfl rfl 4 (by decide) inX3 m_135 rfl dX3_exact_59 ?_
                refine lv_iload hx hb dX3_exact_62 (lv_at hl 0 rfl) ?_
                refine q_i (r_VN S hX.2.2 ⟨n_186, m_188, m_6, m_26, m_189⟩ ⟨rfl, by decide, by decide, by decide +kernel⟩ (c_hasSign l G ad σ (i * 5 + j) (by omega)) ⟨rfl, rfl, Nat.le_of_ble_eq_true rfl, Nat.le_of_ble_eq_true rfl⟩ (pv_X hX 5 rfl rfl bl_PX (bX hX)) (n := 1) (As := [.int (nI (i * 5 + j))]) (rest := []) rfl hl.1 rfl (Nat.le_of_ble_eq_true rfl) ⟨Nat.le_of_ble_eq_true rfl, Nat.le_of_ble_eq_true rfl⟩ dX3_exact_64) (fun r11 (e11 : r11 = bI (hsB σ (i * 5 + j))) => ?_)
                subst e11
                refine lv_if_eq (tgt := 94) hx hb dX3_exact_67 (by decide) (fun c67_12 => ?_) (fun c67_12 => ?_)
                · have bc67_12 := bI_0 c67_12
                  refine lv_iinc (v := nI (j + 1)) (lv' := [(5, .int (nI (j + 1))), (6, .int (nI (i * 5 + j))), (0, .ref (ad 0)), (1, .int a0), (2, .int ((exI σ i j (exF σ a0 i)).1)), (3, .int ((exI σ i j (exF σ a0 i)).2)), (4, .int (nI i))]) hx hb dX3_exact_94 hl (k := 6) rfl (nI_1 j) (by decide) rfl (fun ls hl => ?_)
                  refine lv_goto (tgt := 43) hx hb dX3_exact_97 (by decide) ?_
                  have ev13 : (exI σ i j (exF σ a0 i)).1 = (exI σ i (j + 1) (exF σ a0 i)).1 := by simp [exI, p1, c21_2, bc21_2, c37_4, c46_7, bc46_7, bc67_12]
                  rw [ev13] at hl
                  have ev14 : (exI σ i j (exF σ a0 i)).2 = (exI σ i (j + 1) (exF σ a0 i)).2 := by simp [exI, p1, c21_2, bc21_2, c37_4, c46_7, bc46_7, bc67_12]
                  rw [ev14] at hl
                  exact ihn2 (j + 1) hltj (by omega) ls (lv_sub hl [2, 3, 4, 5, 6, 0] rfl)
                · have bc67_12 := bI_n c67_12
                  refine lv_iinc (v := (exI σ i j (exF σ a0 i)).1 + 1) (lv' := [(2, .int ((exI σ i j (exF σ a0 i)).1 + 1)), (6, .int (nI (i * 5 + j))), (0, .ref (ad 0)), (1, .int a0), (3, .int ((exI σ i j (exF σ a0 i)).2)), (4, .int (nI i)), (5, .int (nI j))]) hx hb dX3_exact_70 hl (k := 3) rfl rfl (by decide) rfl (fun ls hl => ?_)
                  refine lv_iload_n hx hb dX3_exact_73 rfl (lv_at hl 4 rfl) ?_
                  refine lv_aload_n hx hb dX3_exact_74 rfl (lv_at hl 2 rfl) ?_
                  refine k_get S hX.2 hX.1 0 (C := RX3) (T := TX3) (N := 6) rfl rfl 4 (by decide) inX3 m_135 rfl dX3_exact_75 ?_
                  refine k_getN S hX.2 hX.1 5 (C := RX0) (T := TX0) (N := 7) rfl rfl 5 (by decide) inX0 n_113 rfl dX3_exact_78 ?_
                  refine lv_iload hx hb dX3_exact_81 (lv_at hl 1 rfl) ?_
                  refine k_ild S hX.2 hX.1 19 (i := (i * 5 + j)) rfl (by omega) (by decide) dX3_exact_83 ?_
                  refine lv_if_ne (tgt := 91) hx hb dX3_exact_84 (by decide) (fun c84_15 => ?_) (fun c84_15 => ?_)
                  · have bc84_15 := c84_15
                    refine lv_iconst (v := 0) hx hb dX3_exact_91 (by decide) ?_
                    refine lv_iadd hx hb dX3_exact_92 ?_
                    refine lv_istore_n (lv' := [(3, .int (((exI σ i j (exF σ a0 i)).2) + 0)), (2, .int ((exI σ i j (exF σ a0 i)).1 + 1)), (6, .int (nI (i * 5 + j))), (0, .ref (ad 0)), (1, .int a0), (4, .int (nI i)), (5, .int (nI j))]) hx hb dX3_exact_93 rfl hl (by decide) rfl (fun ls hl => ?_)
                    refine lv_iinc (v := nI (j + 1)) (lv' := [(5, .int (nI (j + 1))), (3, .int (((exI σ i j (exF σ a0 i)).2) + 0)), (2, .int ((exI σ i j (exF σ a0 i)).1 + 1)), (6, .int (nI (i * 5 + j))), (0, .ref (ad 0)), (1, .int a0), (4, .int (nI i))]) hx hb dX3_exact_94 hl (k := 6) rfl (nI_1 j) (by decide) rfl (fun ls hl => ?_)
                    refine lv_goto (tgt := 43) hx hb dX3_exact_97 (by decide) ?_
                    have ev16 : (exI σ i j (exF σ a0 i)).1 + 1 = (exI σ i (j + 1) (exF σ a0 i)).1 := by simp [exI, p1, c21_2, bc21_2, c37_4, c46_7, bc46_7, bc67_12, c84_15]
                    rw [ev16] at hl
                    have ev17 : ((exI σ i j (exF σ a0 i)).2) + 0 = (exI σ i (j + 1) (exF σ a0 i)).2 := by simp [exI, p1, c21_2, bc21_2, c37_4, c46_7, bc46_7, bc67_12, c84_15]
                    rw [ev17] at hl
                    exact ihn2 (j + 1) hltj (by omega) ls (lv_sub hl [4, 5, 2, 1, 6, 0] rfl)
                  · have bc84_15 := c84_15
                    refine lv_iconst (v := 1) hx hb dX3_exact_87 (by decide) ?_
                    refine lv_goto (tgt := 92) hx hb dX3_exact_88 (by decide) ?_
                    refine lv_iadd hx hb dX3_exact_92 ?_
                    refine lv_istore_n (lv' := [(3, .int (((exI σ i j (exF σ a0 i)).2) + 1)), (2, .int ((exI σ i j (exF σ a0 i)).1 + 1)), (6, .int (nI (i * 5 + j))), (0, .ref (ad 0)), (1, .int a0), (4, .int (nI i)), (5, .int (nI j))]) hx hb dX3_exact_93 rfl hl (by decide) rfl (fun ls hl => ?_)
                    refine lv_iinc (v := nI (j + 1)) (lv' := [(5, .int (nI (j + 1))), (3, .int (((exI σ i j (exF σ a0 i)).2) + 1)), (2, .int ((exI σ i j (exF σ a0 i)).1 + 1)), (6, .int (nI (i * 5 + j))), (0, .ref (ad 0)), (1, .int a0), (4, .int (nI i))]) hx hb dX3_exact_94 hl (k := 6) rfl (nI_1 j) (by decide) rfl (fun ls hl => ?_)
                    refine lv_goto (tgt := 43) hx hb dX3_exact_97 (by decide) ?_
                    have ev18 : (exI σ i j (exF σ a0 i)).1 + 1 = (exI σ i (j + 1) (exF σ a0 i)).1 := by simp [exI, p1, c21_2, bc21_2, c37_4, c46_7, bc46_7, bc67_12, c84_15]
                    rw [ev18] at hl
                    have ev19 : ((exI σ i j (exF σ a0 i)).2) + 1 = (exI σ i (j + 1) (exF σ a0 i)).2 := by simp [exI, p1, c21_2, bc21_2, c37_4, c46_7, bc46_7, bc67_12, c84_15]
                    rw [ev19] at hl
                    exact ihn2 (j + 1) hltj (by omega) ls (lv_sub hl [4, 5, 2, 1, 6, 0] rfl)
          refine lv_iconst (v := 0) hx hb dX3_exact_40 (by decide) ?_
          refine lv_istore (lv' := [(5, .int 0), (0, .ref (ad 0)), (1, .int a0), (2, .int ((exF σ a0 i).1)), (3, .int ((exF σ a0 i).2)), (4, .int (nI i))]) hx hb dX3_exact_41 hl (by decide) rfl (fun ls hl => ?_)
          exact L43 6 0 (Nat.zero_le _) (by omega) ls (lv_sub hl [1, 2, 3, 4, 5, 0] rfl)
  refine lv_iconst (v := 0) hx hb dX3_exact_5 (by decide) ?_
  refine lv_istore_n (lv' := [(2, .int 0), (0, .ref (ad 0)), (1, .int a0)]) hx hb dX3_exact_6 rfl hl (by decide) rfl (fun ls hl => ?_)
  refine lv_iconst (v := 0) hx hb dX3_exact_7 (by decide) ?_
  refine lv_istore_n (lv' := [(3, .int 0), (2, .int 0), (0, .ref (ad 0)), (1, .int a0)]) hx hb dX3_exact_8 rfl hl (by decide) rfl (fun ls hl => ?_)
  refine lv_iconst (v := 0) hx hb dX3_exact_9 (by decide) ?_
  refine lv_istore (lv' := [(4, .int 0), (3, .int 0), (2, .int 0), (0, .ref (ad 0)), (1, .int a0)]) hx hb dX3_exact_10 hl (by decide) rfl (fun ls hl => ?_)
  exact L12 (ns + 1) 0 (Nat.zero_le _) (by omega) ls (lv_sub hl [3, 4, 2, 1, 0] rfl)

set_option maxHeartbeats 4000000 in
set_option maxRecDepth 100000 in
theorem c_suggested (l : Launch) (G : kG) (ad : Nat → Nat) (σ : kS) (nm ns : Nat) (hns : σ 18 0 = nI ns) (hns4 : ns ≤ 40) (hnm : σ 17 0 = nI nm) (hnm2 : nm ≤ 200) : Met l yX3_suggested [.code yX3_suggested cX3_suggested 7 (some .int)] ({ frames := 7, cells := 0, slots := 0, locals := 181 }) (va_Pc [.ref (ad 0)] (fun U => PX G ad σ U U.heap)) (vp_Si (fun r => r = (suF σ nm ns 12).1)) 0 0 NF := by
  refine k_of (by decide) (Nat.le_of_ble_eq_true rfl) (fun U h => h.2.2) ?_
  intro p e s m below meth c ls S hr hlocks hmn hB hl
  have hx := S.1
  have hb := S.2.1
  have hX : PX G ad σ s s.heap := hB
  have hl : lv_has ls 7 [(0, .ref (ad 0))] := hl
  have L7 : ∀ (n i : Nat), i ≤ 12 → 12 + 1 ≤ i + n → ∀ ls, lv_has ls 7 [(0, .ref (ad 0)), (1, .int ((suF σ nm ns i).1)), (2, .long ((suF σ nm ns i).2)), (4, .int (nI i))] → W p l e ({ frames := 7, cells := 0, slots := 0, locals := 181 } : Room) s m [.ref (ad 0)].toArray below meth c s.heap [] 0 0 (MQ below (vp_Si (fun r => r = (suF σ nm ns 12).1)) [.ref (ad 0)].toArray s 0 0 NF) (F0 m 7 ls []) := by
    intro n
    induction n with
    | zero =>
      intro i h1 h2
      omega
    | succ n ihn =>
      intro i hii hini ls hl
      refine lv_iload hx hb dX3_suggested_7 (lv_at hl 3 rfl) ?_
      refine lv_bipush (v := 12) hx hb dX3_suggested_9 (by decide) ?_
      refine lv_icmp_ge (tgt := 58) hx hb dX3_suggested_11 (by decide) (fun c11_1 => ?_) (fun c11_1 => ?_)
      · have bc11_1 := le_nlt c11_1
        have hgei : i = 12 := by
          have h9 := c11_1
          rw [show (12 : Int32) = nI 12 from rfl, nI_leI (by omega) (by omega)] at h9
          omega
        refine lv_iload_n hx hb dX3_suggested_58 rfl (lv_at hl 1 rfl) ?_
        exact W.iret (v := (suF σ nm ns i).1) hx hb hr (fun t ht hW => ⟨_, rfl, (by subst hgei; rfl), ht⟩) (fun q h => by cases h) dX3_suggested_59
      · have bc11_1 := nle_lt c11_1
        have hlti : i < 12 := by
          have h9 := nle_lt c11_1
          rw [show (12 : Int32) = nI 12 from rfl, nI_ltI (by omega) (by omega)] at h9
          exact h9
        refine lv_aload_n hx hb dX3_suggested_14 rfl (lv_at hl 0 rfl) ?_
        refine k_get S hX.2 hX.1 0 (C := RX3) (T := TX3) (N := 6) rfl rfl 3 (by decide) inX3 m_134 rfl dX3_suggested_15 ?_
        refine lv_iload hx hb dX3_suggested_18 (lv_at hl 3 rfl) ?_
        refine q_i (r_VN S hX.2.2 ⟨n_158, m_160, m_0, m_25, m_161⟩ ⟨rfl, by decide, by decide, by decide +kernel⟩ (c_isOpenFor l G ad σ ns (nI i) hns hns4) ⟨rfl, rfl, Nat.le_of_ble_eq_true rfl, Nat.le_of_ble_eq_true rfl⟩ (pv_X hX 4 rfl rfl bl_PX (bX hX)) (n := 1) (As := [.int (nI i)]) (rest := []) rfl hl.1 rfl (Nat.le_of_ble_eq_true rfl) ⟨Nat.le_of_ble_eq_true rfl, Nat.le_of_ble_eq_true rfl⟩ dX3_suggested_20) (fun r2 (e2 : r2 = bI (opB σ (nI i) ns)) => ?_)
        subst e2
        refine lv_if_ne (tgt := 52) hx hb dX3_suggested_23 (by decide) (fun c23_3 => ?_) (fun c23_3 => ?_)
        · have bc23_3 := bI_n c23_3
          refine lv_iinc (v := nI (i + 1)) (lv' := [(4, .int (nI (i + 1))), (0, .ref (ad 0)), (1, .int ((suF σ nm ns i).1)), (2, .long ((suF σ nm ns i).2))]) hx hb dX3_suggested_52 hl (k := 3) rfl (nI_1 i) (by decide) rfl (fun ls hl => ?_)
          refine lv_goto (tgt := 7) hx hb dX3_suggested_55 (by decide) ?_
          have ev4 : (suF σ nm ns i).2 = (suF σ nm ns (i + 1)).2 := by simp [suF, suT, c11_1, bc11_1, bc23_3]
          rw [ev4] at hl
          have ev5 : (suF σ nm ns i).1 = (suF σ nm ns (i + 1)).1 := by simp [suF, suT, c11_1, bc11_1, bc23_3]
          rw [ev5] at hl
          exact ihn (i + 1) hlti (by omega) ls (lv_sub hl [1, 2, 3, 0] rfl)
        · have bc23_3 := bI_0 c23_3
          refine lv_aload_n hx hb dX3_suggested_26 rfl (lv_at hl 0 rfl) ?_
          refine lv_iload hx hb dX3_suggested_27 (lv_at hl 3 rfl) ?_
          refine q_l (r_V S ⟨m_166, m_168, m_2, m_23, m_169⟩ ⟨rfl, by decide, by decide, by decide +kernel⟩ (c_urgencyOf l G ad σ nm ns (nI i) hns hns4 hnm hnm2) ⟨rfl, rfl, Nat.le_of_ble_eq_true rfl, Nat.le_of_ble_eq_true rfl⟩ (pv_X hX 0 rfl rfl bl_PX (bX hX)) (n := 1) (As := [.int (nI i)]) (rest := []) rfl hl.1 rfl (Nat.le_of_ble_eq_true rfl) ⟨Nat.le_of_ble_eq_true rfl, Nat.le_of_ble_eq_true rfl⟩ dX3_suggested_29) (fun r6 (e6 : r6 = urV σ nm ns (nI i)) => ?_)
          subst e6
          refine lv_lstore (lv' := [(5, .long (urV σ nm ns (nI i))), (0, .ref (ad 0)), (1, .int ((suF σ nm ns i).1)), (2, .long ((suF σ nm ns i).2)), (4, .int (nI i))]) hx hb dX3_suggested_32 hl (by decide) rfl (fun ls hl => ?_)
          refine lv_iload_n hx hb dX3_suggested_34 rfl (lv_at hl 2 rfl) ?_
          refine lv_iconst (v := (-1)) hx hb dX3_suggested_35 (by decide) ?_
          refine lv_icmp_eq (tgt := 46) hx hb dX3_suggested_36 (by decide) (fun c36_7 => ?_) (fun c36_7 => ?_)
          · have bc36_7 := c36_7
            refine lv_iload hx hb dX3_suggested_46 (lv_at hl 4 rfl) ?_
            refine lv_istore_n (lv' := [(1, .int (nI i)), (5, .long (urV σ nm ns (nI i))), (0, .ref (ad 0)), (2, .long ((suF σ nm ns i).2)), (4, .int (nI i))]) hx hb dX3_suggested_48 rfl hl (by decide) rfl (fun ls hl => ?_)
            refine lv_lload hx hb dX3_suggested_49 (lv_at hl 1 rfl) ?_
            refine lv_lstore_n (lv' := [(2, .long (urV σ nm ns (nI i))), (1, .int (nI i)), (5, .long (urV σ nm ns (nI i))), (0, .ref (ad 0)), (4, .int (nI i))]) hx hb dX3_suggested_51 rfl hl (by decide) rfl (fun ls hl => ?_)
            refine lv_iinc (v := nI (i + 1)) (lv' := [(4, .int (nI (i + 1))), (2, .long (urV σ nm ns (nI i))), (1, .int (nI i)), (5, .long (urV σ nm ns (nI i))), (0, .ref (ad 0))]) hx hb dX3_suggested_52 hl (k := 4) rfl (nI_1 i) (by decide) rfl (fun ls hl => ?_)
            refine lv_goto (tgt := 7) hx hb dX3_suggested_55 (by decide) ?_
            have ev8 : urV σ nm ns (nI i) = (suF σ nm ns (i + 1)).2 := by simp [suF, suT, c11_1, bc11_1, bc23_3, c36_7]
            rw [ev8] at hl
            have ev9 : nI i = (suF σ nm ns (i + 1)).1 := by simp [suF, suT, c11_1, bc11_1, bc23_3, c36_7]
            rw [ev9] at hl
            exact ihn (i + 1) hlti (by omega) ls (lv_sub hl [4, 2, 1, 0] rfl)
          · have bc36_7 := c36_7
            refine lv_lload hx hb dX3_suggested_39 (lv_at hl 0 rfl) ?_
            refine lv_lload_n hx hb dX3_suggested_41 rfl (lv_at hl 3 rfl) ?_
            refine W.lcmp hx hb dX3_suggested_42 ?_
            refine lv_if_le (tgt := 52) hx hb dX3_suggested_43 (by decide) (fun c43_10 => ?_) (fun c43_10 => ?_)
            · have bc43_10 := le_nlt c43_10
              refine lv_iinc (v := nI (i + 1)) (lv' := [(4, .int (nI (i + 1))), (5, .long (urV σ nm ns (nI i))), (0, .ref (ad 0)), (1, .int ((suF σ nm ns i).1)), (2, .long ((suF σ nm ns i).2))]) hx hb dX3_suggested_52 hl (k := 4) rfl (nI_1 i) (by decide) rfl (fun ls hl => ?_)
              refine lv_goto (tgt := 7) hx hb dX3_suggested_55 (by decide) ?_
              have ev11 : (suF σ nm ns i).2 = (suF σ nm ns (i + 1)).2 := by simp [suF, suT, c11_1, bc11_1, bc23_3, c36_7, c43_10, bc43_10]
              rw [ev11] at hl
              have ev12 : (suF σ nm ns i).1 = (suF σ nm ns (i + 1)).1 := by simp [suF, suT, c11_1, bc11_1, bc23_3, c36_7, c43_10, bc43_10]
              rw [ev12] at hl
              exact ihn (i + 1) hlti (by omega) ls (lv_sub hl [2, 3, 4, 0] rfl)
            · have bc43_10 := nle_lt c43_10
              refine lv_iload hx hb dX3_suggested_46 (lv_at hl 4 rfl) ?_
              refine lv_istore_n (lv' := [(1, .int (nI i)), (5, .long (urV σ nm ns (nI i))), (0, .ref (ad 0)), (2, .long ((suF σ nm ns i).2)), (4, .int (nI i))]) hx hb dX3_suggested_48 rfl hl (by decide) rfl (fun ls hl => ?_)
              refine lv_lload hx hb dX3_suggested_49 (lv_at hl 1 rfl) ?_
              refine lv_lstore_n (lv' := [(2, .long (urV σ nm ns (nI i))), (1, .int (nI i)), (5, .long (urV σ nm ns (nI i))), (0, .ref (ad 0)), (4, .int (nI i))]) hx hb dX3_suggested_51 rfl hl (by decide) rfl (fun ls hl => ?_)
              refine lv_iinc (v := nI (i + 1)) (lv' := [(4, .int (nI (i + 1))), (2, .long (urV σ nm ns (nI i))), (1, .int (nI i)), (5, .long (urV σ nm ns (nI i))), (0, .ref (ad 0))]) hx hb dX3_suggested_52 hl (k := 4) rfl (nI_1 i) (by decide) rfl (fun ls hl => ?_)
              refine lv_goto (tgt := 7) hx hb dX3_suggested_55 (by decide) ?_
              have ev13 : urV σ nm ns (nI i) = (suF σ nm ns (i + 1)).2 := by simp [suF, suT, c11_1, bc11_1, bc23_3, c36_7, c43_10, bc43_10]
              rw [ev13] at hl
              have ev14 : nI i = (suF σ nm ns (i + 1)).1 := by simp [suF, suT, c11_1, bc11_1, bc23_3, c36_7, c43_10, bc43_10]
              rw [ev14] at hl
              exact ihn (i + 1) hlti (by omega) ls (lv_sub hl [4, 2, 1, 0] rfl)
  refine lv_iconst (v := (-1)) hx hb dX3_suggested_0 (by decide) ?_
  refine lv_istore_n (lv' := [(1, .int (-1)), (0, .ref (ad 0))]) hx hb dX3_suggested_1 rfl hl (by decide) rfl (fun ls hl => ?_)
  refine lv_lconst (v := 0) hx hb dX3_suggested_2 (by decide) ?_
  refine lv_lstore_n (lv' := [(2, .long 0), (1, .int (-1)), (0, .ref (ad 0))]) hx hb dX3_suggested_3 rfl hl (by decide) rfl (fun ls hl => ?_)
  refine lv_iconst (v := 0) hx hb dX3_suggested_4 (by decide) ?_
  refine lv_istore (lv' := [(4, .int 0), (2, .long 0), (1, .int (-1)), (0, .ref (ad 0))]) hx hb dX3_suggested_5 hl (by decide) rfl (fun ls hl => ?_)
  exact L7 13 0 (Nat.zero_le _) (by omega) ls (lv_sub hl [3, 2, 1, 0] rfl)
end
section
/-! NEW OBJECTS: rows, the form of a constructor's end -/
/-- a row whose first n places hold x, and f's behind them -/
def fil (n : Nat) (x : Int32) (f : Nat → Int32) : Nat → Int32 := fun i => if i < n then x else f i
theorem fil_0 (x : Int32) (f : Nat → Int32) : fil 0 x f = f := by
  funext i; exact if_neg (Nat.not_lt_zero i)
theorem fil_s (k : Nat) (x : Int32) (f : Nat → Int32) : upd (fil k x f) k x = fil (k + 1) x f := by
  funext i
  unfold upd fil
  by_cases h1 : i = k
  · subst h1; simp
  · by_cases h2 : i < k
    · have h3 : i < k + 1 := by omega
      simp [h1, h2, h3]
    · have h3 : ¬ i < k + 1 := by omega
      simp [h1, h2, h3]
theorem DD.of {n : Nat} {A : Nat → Prop} {a : Nat → Nat} {ws : va_W} (h : va_D A ws) (hw : ws.map (fun q => q.1) = (List.range n).map a) : DD n A a := by
  have key : ∀ i, i < n → ∃ q, ws[i]? = some q ∧ q.1 = a i := by
    intro i hi
    have h1 : (ws.map (fun q => q.1))[i]? = some (a i) := by
      rw [hw, List.getElem?_map, List.getElem?_range hi]; rfl
    rw [List.getElem?_map] at h1
    cases hq : ws[i]? with
    | none => rw [hq] at h1; cases h1
    | some q => rw [hq] at h1; exact ⟨q, rfl, Option.some.inj h1⟩
  refine ⟨fun i j hi hj hij => ?_, fun i hi => ?_⟩
  · obtain ⟨x, h1, h2⟩ := key i hi
    obtain ⟨y, h3, h4⟩ := key j hj
    exact h.1 i j x y h1 h3 (by rw [h2, h4]; exact hij)
  · obtain ⟨x, h1, h2⟩ := key i hi
    rw [← h2]; exact h.2 i x h1
/-- how a constructor ends: its object and the cells that it has made, the rest as it was -/
def oC (G : kG) (b : Nat) (w : (Nat → Nat) → va_W) (A : Nat → Prop) : Array Value → State → Outcome → State → Prop := fun _ st o t => o = .returned none ∧ (∃ c : Nat → Nat, va_P G.1 vwCl (w c) t.heap ∧ va_D A (w c)) ∧ va_F A st t
section KN
variable {p : Program} {l : Launch} {e : Env} {R : Room} {s : State} {m : MethodId} {args : Array Value} {below : List Frame} {meth : Method} {c : Code} {H H0 : Heap} {locs : List Loc} {cells slots : Nat} {Q : State → Prop}
variable {cc : ByteArray} {pc nL : Nat} {ls : Array Slot} {rest : List Value} {G : kG} {A : Nat → Prop} {ad : Nat} {ws : va_W} {own : String}
theorem k_newi (S : CallFix p m c cc nL s args big own) (hK : KK G s) (hP : va_P G.1 vwCl ws H) (hD : va_D A ws) (hS : va_S A H0 H locs) (hA : ∀ q, H0.size ≤ q → A q) {n : Int32} (N : Nat) (hn : ¬ n < 0) (hN : n.toNatClampNeg = N) (hbytes : N * componentBytes .int ≤ 536870912) (hcells : cells + 1 ≤ R.cells) (hslots : slots + N ≤ R.slots) (hdg : decode cc pc = .ok (.newarray .int, 2))
    (kk : ∀ (q : Nat) (H1 : Heap), va_P G.1 vwCl (ws ++ [(q, .inl (G.2.1, N, .inl (fun _ => 0)))]) H1 → va_D A (ws ++ [(q, .inl (G.2.1, N, .inl (fun _ => 0)))]) → va_S A H0 H1 locs → W p l e R s m args below meth c H1 locs (cells + 1) (slots + N) Q (F0 m (pc + 2) ls (.ref q :: rest))) : W p l e R s m args below meth c H locs cells slots Q (F0 m pc ls (.int n :: rest)) := by
  refine va_newa (D := G.1) (atype := .int) S.1 S.2.1 (S.2.2.2.2 (Cond.arrayClass .int) m_71) rfl hK.1 hP hD hS hA (a0 := (N, .inl (fun _ => 0))) (fun cA => rfl) hn hN hbytes hcells hslots hdg (fun q cA H1 h1 h2 h3 h4 => ?_)
  have e1 : s.vm.findClass ("[" ++ FieldType.int.toString) = some cA := (h1.2 2 (cA, .int) rfl).2
  have e2 : s.vm.findClass ("[" ++ FieldType.int.toString) = some G.2.1 := (hK.1.2 0 (G.2.1, .int) rfl).2
  have e3 : cA = G.2.1 := Option.some.inj (e1.symm.trans e2)
  rw [e3] at h2 h3
  exact kk q H1 h2 h3 h4
theorem k_newz (S : CallFix p m c cc nL s args big own) (hK : KK G s) (hP : va_P G.1 vwCl ws H) (hD : va_D A ws) (hS : va_S A H0 H locs) (hA : ∀ q, H0.size ≤ q → A q) {n : Int32} (N : Nat) (hn : ¬ n < 0) (hN : n.toNatClampNeg = N) (hbytes : N * componentBytes .boolean ≤ 536870912) (hcells : cells + 1 ≤ R.cells) (hslots : slots + N ≤ R.slots) (hdg : decode cc pc = .ok (.newarray .boolean, 2))
    (kk : ∀ (q : Nat) (H1 : Heap), va_P G.1 vwCl (ws ++ [(q, .inl (G.2.2.1, N, .inl (fun _ => 0)))]) H1 → va_D A (ws ++ [(q, .inl (G.2.2.1, N, .inl (fun _ => 0)))]) → va_S A H0 H1 locs → W p l e R s m args below meth c H1 locs (cells + 1) (slots + N) Q (F0 m (pc + 2) ls (.ref q :: rest))) : W p l e R s m args below meth c H locs cells slots Q (F0 m pc ls (.int n :: rest)) := by
  refine va_newa (D := G.1) (atype := .boolean) S.1 S.2.1 (S.2.2.2.2 (Cond.arrayClass .boolean) m_95) rfl hK.1 hP hD hS hA (a0 := (N, .inl (fun _ => 0))) (fun cA => rfl) hn hN hbytes hcells hslots hdg (fun q cA H1 h1 h2 h3 h4 => ?_)
  have e1 : s.vm.findClass ("[" ++ FieldType.boolean.toString) = some cA := (h1.2 2 (cA, .boolean) rfl).2
  have e2 : s.vm.findClass ("[" ++ FieldType.boolean.toString) = some G.2.2.1 := (hK.1.2 1 (G.2.2.1, .boolean) rfl).2
  have e3 : cA = G.2.2.1 := Option.some.inj (e1.symm.trans e2)
  rw [e3] at h2 h3
  exact kk q H1 h2 h3 h4
/-- a final field, in its class's constructor -/
theorem k_putF (S : CallFix p m c cc nL s args big own) (hK : KK G s) (hP : va_P G.1 vwCl ws H) (hD : va_D A ws) (hS : va_S A H0 H locs) (q0 : Nat) {ci : Nat} {fs : List Value} (he : ws[q0]? = some (ad, .inr (ci, fs))) {C : String} {T : u_T} {N index : Nat} (hc : vwCl[ci]? = some (C, T, N)) (k : Nat) (hk : k < N) (hin : ∀ w ∈ u_ws C T N, w ∈ big)
    (ty0 : Nat → FieldType) (hty : ∀ k, k < N → parseFieldDescriptor (T k).2.2.1 = some (ty0 k)) (hnm : ∀ a, a < N → ∀ b, b < N → a ≠ b → (T a).2.1 ≠ (T b).2.1) (hfin : (T k).2.2.2 = true) (hin2 : meth.name = "<init>") (hdecl : (T k).1 = own)
    (hl : Cond.fieldLink own index (T k).1 (T k).2.1 (T k).2.2.1 ∈ big) {v : Value} (hn : narrow (ty0 k) v = v) (hfit : fits (ty0 k) v = true) (hlen : k < fs.length) (hdg : decode cc pc = .ok (.putfield index, 3))
    (kk : ∀ (H1 : Heap) (locs1 : List Loc), va_P G.1 vwCl (ws.set q0 (ad, .inr (ci, fs.set k v))) H1 → va_D A (ws.set q0 (ad, .inr (ci, fs.set k v))) → va_S A H0 H1 locs1 → W p l e R s m args below meth c H1 locs1 cells slots Q (F0 m (pc + 3) ls rest)) : W p l e R s m args below meth c H locs cells slots Q (F0 m pc ls (v :: .ref ad :: rest)) :=
  va_putF (D := G.1) (ci := ci) (C := C) (T := T) (N := N) (ty := ty0 k) S.1 S.2.1 S.2.2.2.2 hin ty0 hty hnm S.2.2.2.1 hK.1 hP hD hS q0 he hc k hk (S.2.2.2.2 _ hl) (fun _ h => h) hfin hin2 hdecl (hty k hk) hn hfit hlen hdg kk
theorem k_putI (S : CallFix p m c cc nL s args big own) (hK : KK G s) (hP : va_P G.1 vwCl ws H) (hD : va_D A ws) (hS : va_S A H0 H locs) (q0 : Nat) {ci : Nat} {fs : List Value} (he : ws[q0]? = some (ad, .inr (ci, fs))) {C : String} {T : u_T} {N index : Nat} (hc : vwCl[ci]? = some (C, T, N)) (k : Nat) (hk : k < N) (hin : ∀ w ∈ u_ws C T N, w ∈ big)
    (ty0 : Nat → FieldType) (hty : ∀ k, k < N → parseFieldDescriptor (T k).2.2.1 = some (ty0 k)) (hnm : ∀ a, a < N → ∀ b, b < N → a ≠ b → (T a).2.1 ≠ (T b).2.1) (hfin : (T k).2.2.2 = false) (hit : ty0 k = .int)
    (hl : Cond.fieldLink own index (T k).1 (T k).2.1 (T k).2.2.1 ∈ big) {v : Int32} (hlen : k < fs.length) (hdg : decode cc pc = .ok (.putfield index, 3))
    (kk : ∀ (H1 : Heap) (locs1 : List Loc), va_P G.1 vwCl (ws.set q0 (ad, .inr (ci, fs.set k (.int v)))) H1 → va_D A (ws.set q0 (ad, .inr (ci, fs.set k (.int v)))) → va_S A H0 H1 locs1 → W p l e R s m args below meth c H1 locs1 cells slots Q (F0 m (pc + 3) ls rest)) : W p l e R s m args below meth c H locs cells slots Q (F0 m pc ls (.int v :: .ref ad :: rest)) :=
  k_put S hK hP hD hS q0 he hc k hk hin ty0 hty hnm hfin hit hl hlen hdg (fun H1 locs1 h1 h3 => kk H1 locs1 h1 (hD.set he) h3)
/-- one cell of the picture has changed, and no other below the size -/
theorem k_set {H1 : Heap} {q0 : Nat} {e0 e1 : va_E} (hP : va_P G.1 vwCl ws H) (hD : va_D A ws) (he : ws[q0]? = some (ad, e0)) (h1 : va_P G.1 vwCl [(ad, e1)] H1) (hk : ∀ q : Nat, q < H.size → ¬ q = ad → H1[q]? = H[q]?) : va_P G.1 vwCl (ws.set q0 (ad, e1)) H1 := by
  intro k q hq
  by_cases hkq : k = q0
  · subst hkq
    have hl : k < ws.length := (List.getElem?_eq_some_iff.mp he).1
    rw [List.getElem?_set_self hl] at hq
    cases hq
    exact h1 0 _ rfl
  · rw [List.getElem?_set_ne (fun h => hkq h.symm)] at hq
    have h2 := hP k q hq
    exact h2.kept (hk q.1 h2.lt (fun h => hkq (hD.1 k q0 q (ad, e0) hq he h)))
variable {y : MethodName} {bytes : ByteArray} {maxL mc ms index : Nat} {rm : Room} {Pc : Array Value → State → Prop} {Qc : Array Value → State → Outcome → State → Prop} {free : Addr → Prop} {host : String} {b : Addr} {st0 : List Value}
theorem r_IN (S : CallFix p m c cc nL s args big own) (hG : GL s) (hw : Cond.methodLinkNest own index y host ∈ lw_tbl ∧ Cond.instanceMethod y ∈ big ∧ Cond.initialized y.cls ∈ big ∧ Cond.code y bytes maxL none ∈ big) (hyn : y.name = "<init>") (hd : y.cls ≠ "java/lang/invoke/MethodHandle" ∧ y.cls ≠ "java/lang/invoke/VarHandle" ∧ (parseMethodDescriptor y.desc).map (fun d => d.parameters.length) = some 0)
    (hM : Met l y [.code y bytes maxL none] rm Pc Qc mc ms free) (hR : rmD rm R maxL mc ms) (hp : PreS s H Pc [.ref b])
    (hsize : ls.size = nL) (hstack : st0 = .ref b :: rest) (hW : (rest.map fun v => v.category).sum ≤ 8) (hf : cells + mc ≤ R.cells ∧ slots + ms ≤ R.slots) (hdg : decode cc pc = .ok (.invokespecial index, 3)) :
    va_Run p l e R s m args below meth c H locs cells slots mc ms (F0 m pc ls st0) rest (Qc [Value.ref b].toArray) free :=
  va_runIN (As := []) S hM ⟨va_cnB 0 S.2.2.2.2 (gd_1 hw.2.2.2) rfl hR.1 hR.2.1 (hG.nestM hw.1) (S.2.2.2.2 _ hw.2.2.1) hd hR.2.2, hyn, S.2.2.2.2 _ hw.2.1⟩ hp rfl rfl hsize hstack (lv_room hW) hdg hf
theorem r_I (S : CallFix p m c cc nL s args big own) (hw : Cond.methodLink own index y ∈ big ∧ Cond.instanceMethod y ∈ big ∧ Cond.initialized y.cls ∈ big ∧ Cond.code y bytes maxL none ∈ big) (hyn : y.name = "<init>") (hd : y.cls ≠ "java/lang/invoke/MethodHandle" ∧ y.cls ≠ "java/lang/invoke/VarHandle" ∧ (parseMethodDescriptor y.desc).map (fun d => d.parameters.length) = some 0)
    (hM : Met l y [.code y bytes maxL none] rm Pc Qc mc ms free) (hR : rmD rm R maxL mc ms) (hp : PreS s H Pc [.ref b])
    (hsize : ls.size = nL) (hstack : st0 = .ref b :: rest) (hW : (rest.map fun v => v.category).sum ≤ 8) (hf : cells + mc ≤ R.cells ∧ slots + ms ≤ R.slots) (hdg : decode cc pc = .ok (.invokespecial index, 3)) :
    va_Run p l e R s m args below meth c H locs cells slots mc ms (F0 m pc ls st0) rest (Qc [Value.ref b].toArray) free :=
  va_runI (As := []) S hM ⟨callB_of 0 S.2.2.2.2 (gd_1 hw.2.2.2) rfl hR.1 hR.2.1 (S.2.2.2.2 _ hw.2.2.1) (S.2.2.2.2 _ hw.1) hd hR.2.2, hyn, S.2.2.2.2 _ hw.2.1⟩ hp rfl rfl hsize hstack (lv_room hW) hdg hf
theorem k_obj (S : CallFix p m c cc nL s args big own) (hlk : Cond.methodLink own index Lib.objectInit ∈ big) (hsize : ls.size = nL) (hW : (rest.map fun v => v.category).sum ≤ 8) (hdg : decode cc pc = .ok (.invokespecial index, 3)) (hR : 1 ≤ R.frames ∧ 20 ≤ R.locals)
    (kk : W p l e R s m args below meth c H locs cells slots Q (F0 m (pc + 3) ls rest)) : W p l e R s m args below meth c H locs cells slots Q (F0 m pc ls (.ref b :: rest)) :=
  W.objInit S.1 S.2.1 S.2.2.2.1 (S.2.2.2.2 _ hlk) (S.2.2.2.2 _ m_43) (S.2.2.2.2 _ m_44) rfl (hsize.trans S.2.2.1.symm) rfl hdg hR.1 (by have h2 := hR.2; show 2 * 0 + (rest.map fun v => v.category).sum + 12 ≤ R.locals; omega) kk
/-- behind a constructor's call -/
theorem q_c {w : (Nat → Nat) → va_W} {A1 : Nat → Prop} {a : Array Value} (hr : va_Run p l e R s m args below meth c H locs cells slots mc ms (F0 m pc ls st0) rest (oC G b w A1 a) A1) (hS : va_S A H0 H locs) (hA : ∀ q, A1 q → A q)
    (kk : ∀ (cc9 : Nat → Nat) (H1 : Heap) (locs1 : List Loc), va_P G.1 vwCl (w cc9) H1 → va_D A1 (w cc9) → (∀ q : Nat, q < H.size → ¬ A1 q → H1[q]? = H[q]?) → va_S A H0 H1 locs1 → W p l e R s m args below meth c H1 locs1 (cells + mc) (slots + ms) Q (F0 m (pc + 3) ls rest)) : W p l e R s m args below meth c H locs cells slots Q (F0 m pc ls st0) := by
  intro T hT X
  obtain ⟨v, st₀, t, T', L, h0, X', hL, e1, -, ⟨hv, ⟨cc9, hp, hd⟩, hF⟩, st⟩ := hr T hT X
  cases hv
  obtain ⟨k1, k2, k3⟩ := s_call h0 e1 hS hA hL hF
  obtain ⟨t2, a1, b1⟩ := kk cc9 T'.heap (locs ++ L) (by rw [e1]; exact hp) hd k2 k3 T' rfl X'
  exact ⟨t2, st t2 a1, b1⟩
end KN
theorem bl_C {G : kG} {ws : va_W} {n : Nat} : kBl (fun U => va_P G.1 vwCl ws U.heap ∧ KK G U ∧ U.heap.size = n) := fun U U' h1 h2 h => by
  show va_P G.1 vwCl ws U'.heap ∧ KK G U' ∧ U'.heap.size = n
  rw [h1]; exact ⟨h.1, h.2.1.warm (warm_vm h2), h.2.2⟩
theorem bl_1 {G : kG} {ws : va_W} : kBl (fun U => va_P G.1 vwCl ws U.heap ∧ KK G U) := fun U U' h1 h2 h => by
  show va_P G.1 vwCl ws U'.heap ∧ KK G U'
  rw [h1]; exact ⟨h.1, h.2.warm (warm_vm h2)⟩
set_option maxHeartbeats 4000000 in
set_option maxRecDepth 100000 in
theorem c_fill (l : Launch) (G : kG) (b N : Nat) (x : Int32) (f : Nat → Int32) (hN : N < 2 ^ 31) : Met l yJ7_fill_53178 [.code yJ7_fill_53178 cJ7_fill_53178 4 none] ({ frames := 1, cells := 0, slots := 0, locals := 40 }) (va_Pc [.ref b, .int x] (fun U => va_P G.1 vwCl [(b, .inl (G.2.1, N, .inl f))] U.heap ∧ KK G U)) (oV (fun q => q = b) True (fun H9 => va_P G.1 vwCl [(b, .inl (G.2.1, N, .inl (fil N x f)))] H9)) 0 0 (fun q => q = b) := by
  refine k_of (by decide) (Nat.le_of_ble_eq_true rfl) (fun U h => h.2.2) ?_
  intro p e s m below meth c ls S hr hlocks hmn hB hl
  have hx := S.1
  have hb := S.2.1
  have hl : lv_has ls 4 [(0, .ref b), (1, .int x)] := hl
  have hD : ∀ (g : Nat → Int32), va_D (fun q => q = b) [(b, .inl (G.2.1, N, .inl g))] := by
    intro g
    refine ⟨fun i j x9 y9 hi hj _ => ?_, fun k q hk => ?_⟩
    · have h1 : i < 1 := (List.getElem?_eq_some_iff.mp hi).1
      have h2 : j < 1 := (List.getElem?_eq_some_iff.mp hj).1
      omega
    · have h1 : k < 1 := (List.getElem?_eq_some_iff.mp hk).1
      have h2 : k = 0 := by omega
      subst h2
      cases hk; rfl
  refine lv_iconst (v := 0) hx hb dJ7_fill_53178_0 (by decide) ?_
  refine lv_istore_n (lv' := [(2, .int 0), (0, .ref b), (1, .int x)]) hx hb dJ7_fill_53178_1 rfl hl (by decide) rfl (fun ls hl => ?_)
  refine lv_aload_n hx hb dJ7_fill_53178_2 rfl (lv_at hl 1 rfl) ?_
  refine k_alen S hB.2 hB.1 0 rfl dJ7_fill_53178_3 ?_
  refine lv_istore_n (lv' := [(3, .int (nI N)), (2, .int 0), (0, .ref b), (1, .int x)]) hx hb dJ7_fill_53178_4 rfl hl (by decide) rfl (fun ls hl => ?_)
  have L5 : ∀ (n : Nat) (i : Nat), i ≤ N → N + 1 ≤ i + n → ∀ (H : Heap) (L : List Loc), va_P G.1 vwCl [(b, .inl (G.2.1, N, .inl (fil i x f)))] H → va_S (fun q => q = b) s.heap H L → ∀ ls, lv_has ls 4 [(0, .ref b), (1, .int x), (2, .int (nI i)), (3, .int (nI N))] → W p l e ({ frames := 1, cells := 0, slots := 0, locals := 40 } : Room) s m [.ref b, .int x].toArray below meth c H L 0 0 (MQ below (oV (fun q => q = b) True (fun H9 => va_P G.1 vwCl [(b, .inl (G.2.1, N, .inl (fil N x f)))] H9)) [.ref b, .int x].toArray s 0 0 (fun q => q = b)) (F0 m 5 ls []) := by
    intro n
    induction n with
    | zero => intro i h1 h2; omega
    | succ n ihn =>
      intro i h1 h2 H L hP hS ls hl
      refine lv_iload_n hx hb dJ7_fill_53178_5 rfl (lv_at hl 2 rfl) ?_
      refine lv_iload_n hx hb dJ7_fill_53178_6 rfl (lv_at hl 3 rfl) ?_
      refine lv_icmp_ge (tgt := 20) hx hb dJ7_fill_53178_7 (by decide) (fun c7 => ?_) (fun c7 => ?_)
      · have hge : i = N := by
          rcases Nat.lt_or_ge i N with h | h
          · exact absurd ((nI_ltI (by omega) hN).mpr h) (by have := c7; exact fun z => absurd z (Int32.not_lt.mpr this))
          · omega
        subst hge
        exact W.vret hx hb hr (fun t ht hW => ⟨rfl, trivial, by rw [ht]; exact hP, hS.F ht⟩) hS.2.2 dJ7_fill_53178_20
      · have hlt : i < N := by
          rcases Nat.lt_or_ge i N with h | h
          · exact h
          · have e5 : i = N := by omega
            subst e5
            exact absurd (Int32.le_refl _) c7
        refine lv_aload_n hx hb dJ7_fill_53178_10 rfl (lv_at hl 0 rfl) ?_
        refine lv_iload_n hx hb dJ7_fill_53178_11 rfl (lv_at hl 2 rfl) ?_
        refine lv_iload_n hx hb dJ7_fill_53178_12 rfl (lv_at hl 1 rfl) ?_
        refine k_ist S hB.2 hP (hD _) hS 0 (i := i) rfl hlt hN dJ7_fill_53178_13 (fun H1 L1 h3 hS1 => ?_)
        have h3 : va_P G.1 vwCl [(b, .inl (G.2.1, N, .inl (upd (fil i x f) i x)))] H1 := h3
        rw [fil_s] at h3
        refine lv_iinc (v := nI (i + 1)) (lv' := [(2, .int (nI (i + 1))), (0, .ref b), (1, .int x), (3, .int (nI N))]) hx hb dJ7_fill_53178_14 hl (k := 2) rfl (nI_1 i) (by decide) rfl (fun ls hl => ?_)
        refine lv_goto (tgt := 5) hx hb dJ7_fill_53178_17 (by decide) ?_
        exact ihn (i + 1) hlt (by omega) H1 L1 h3 hS1 ls (lv_sub hl [1, 2, 0, 3] rfl)
  exact L5 (N + 1) 0 (Nat.zero_le _) (by omega) s.heap [] (by rw [fil_0]; exact hB.1) va_S.rf ls (lv_sub hl [2, 3, 1, 0] rfl)
end
section
theorem d_1 {b : Nat} {e0 : va_E} : va_D (fun _ => True) [(b, e0)] := by
  refine ⟨fun i j x9 y9 hi hj _ => ?_, fun _ _ _ => trivial⟩
  have h1 : i < 1 := (List.getElem?_eq_some_iff.mp hi).1
  have h2 : j < 1 := (List.getElem?_eq_some_iff.mp hj).1
  omega

set_option maxHeartbeats 4000000 in
set_option maxRecDepth 100000 in
theorem c_init1 (l : Launch) (G : kG) (b nn : Nat) : Met l yX1_init [.code yX1_init cX1_init 1 none] ({ frames := 1, cells := 5, slots := 1000, locals := 40 }) (va_Pc [.ref b] (fun U => va_P G.1 vwCl [(b, .inr (1, [.null, .null, .null, .null, .null, .int 0]))] U.heap ∧ KK G U ∧ U.heap.size = nn)) (oC G b (fun c => [(b, .inr (1, [.ref (c 0), .ref (c 1), .ref (c 2), .ref (c 3), .ref (c 4), .int 0])), (c 0, .inl (G.2.1, 200, .inl (fun _ => 0))), (c 1, .inl (G.2.1, 200, .inl (fun _ => 0))), (c 2, .inl (G.2.1, 200, .inl (fun _ => 0))), (c 3, .inl (G.2.1, 200, .inl (fun _ => 0))), (c 4, .inl (G.2.1, 200, .inl (fun _ => 0)))]) (va_A [(b, .inr (1, [.null, .null, .null, .null, .null, .int 0]))] nn)) 5 1000 (va_A [(b, .inr (1, [.null, .null, .null, .null, .null, .int 0]))] nn) := by
  refine k_of (by decide) (Nat.le_of_ble_eq_true rfl) (fun U h => h.2.1.2) ?_
  intro p e s m below meth c ls S hr hlocks hmn hB hl
  have hx := S.1
  have hb := S.2.1
  have hl : lv_has ls 1 [(0, .ref b)] := hl
  have hA : ∀ q, s.heap.size ≤ q → (va_A [(b, .inr (1, [.null, .null, .null, .null, .null, .int 0]))] nn) q := fun q h => Or.inr (by rw [← hB.2.2]; exact h)
  have hD0 : va_D (va_A [(b, .inr (1, [.null, .null, .null, .null, .null, .int 0]))] nn) [(b, .inr (1, [.null, .null, .null, .null, .null, .int 0]))] := (d_1 (b := b)).self
  refine lv_aload_n hx hb dX1_init_0 rfl (lv_at hl 0 rfl) ?_
  refine k_obj S m_50 hl.1 (Nat.le_of_ble_eq_true rfl) dX1_init_1 ⟨Nat.le_of_ble_eq_true rfl, Nat.le_of_ble_eq_true rfl⟩ ?_
  refine lv_aload_n hx hb dX1_init_4 rfl (lv_at hl 0 rfl) ?_
  refine lv_sipush (v := 200) hx hb dX1_init_5 (by decide) ?_
  refine k_newi S hB.2.1 hB.1 hD0 va_S.rf hA 200 (by decide) (by decide) (Nat.le_of_ble_eq_true rfl) (Nat.le_of_ble_eq_true rfl) (Nat.le_of_ble_eq_true rfl) dX1_init_8 (fun q1 H1 h1 d1 hS1 => ?_)
  have hP1 : va_P G.1 vwCl [(b, .inr (1, [.null, .null, .null, .null, .null, .int 0])), (q1, .inl (G.2.1, 200, .inl (fun _ => 0)))] H1 := h1
  have hD1 : va_D (va_A [(b, .inr (1, [.null, .null, .null, .null, .null, .int 0]))] nn) [(b, .inr (1, [.null, .null, .null, .null, .null, .int 0])), (q1, .inl (G.2.1, 200, .inl (fun _ => 0)))] := d1
  refine k_putF S hB.2.1 hP1 hD1 hS1 0 (C := RX1) (T := TX1) (N := 6) rfl rfl 0 (by decide) inX1 tyX1 tyX1_ok nmX1 rfl hmn rfl m_51 rfl rfl (Nat.le_of_ble_eq_true rfl) dX1_init_10 (fun H2 L2 h2 d2 hS2 => ?_)
  have hP2 : va_P G.1 vwCl [(b, .inr (1, [.ref q1, .null, .null, .null, .null, .int 0])), (q1, .inl (G.2.1, 200, .inl (fun _ => 0)))] H2 := h2
  have hD2 : va_D (va_A [(b, .inr (1, [.null, .null, .null, .null, .null, .int 0]))] nn) [(b, .inr (1, [.ref q1, .null, .null, .null, .null, .int 0])), (q1, .inl (G.2.1, 200, .inl (fun _ => 0)))] := d2
  refine lv_aload_n hx hb dX1_init_13 rfl (lv_at hl 0 rfl) ?_
  refine lv_sipush (v := 200) hx hb dX1_init_14 (by decide) ?_
  refine k_newi S hB.2.1 hP2 hD2 hS2 hA 200 (by decide) (by decide) (Nat.le_of_ble_eq_true rfl) (Nat.le_of_ble_eq_true rfl) (Nat.le_of_ble_eq_true rfl) dX1_init_17 (fun q3 H3 h3 d3 hS3 => ?_)
  have hP3 : va_P G.1 vwCl [(b, .inr (1, [.ref q1, .null, .null, .null, .null, .int 0])), (q1, .inl (G.2.1, 200, .inl (fun _ => 0))), (q3, .inl (G.2.1, 200, .inl (fun _ => 0)))] H3 := h3
  have hD3 : va_D (va_A [(b, .inr (1, [.null, .null, .null, .null, .null, .int 0]))] nn) [(b, .inr (1, [.ref q1, .null, .null, .null, .null, .int 0])), (q1, .inl (G.2.1, 200, .inl (fun _ => 0))), (q3, .inl (G.2.1, 200, .inl (fun _ => 0)))] := d3
  refine k_putF S hB.2.1 hP3 hD3 hS3 0 (C := RX1) (T := TX1) (N := 6) rfl rfl 1 (by decide) inX1 tyX1 tyX1_ok nmX1 rfl hmn rfl m_52 rfl rfl (Nat.le_of_ble_eq_true rfl) dX1_init_19 (fun H4 L4 h4 d4 hS4 => ?_)
  have hP4 : va_P G.1 vwCl [(b, .inr (1, [.ref q1, .ref q3, .null, .null, .null, .int 0])), (q1, .inl (G.2.1, 200, .inl (fun _ => 0))), (q3, .inl (G.2.1, 200, .inl (fun _ => 0)))] H4 := h4
  have hD4 : va_D (va_A [(b, .inr (1, [.null, .null, .null, .null, .null, .int 0]))] nn) [(b, .inr (1, [.ref q1, .ref q3, .null, .null, .null, .int 0])), (q1, .inl (G.2.1, 200, .inl (fun _ => 0))), (q3, .inl (G.2.1, 200, .inl (fun _ => 0)))] := d4
  refine lv_aload_n hx hb dX1_init_22 rfl (lv_at hl 0 rfl) ?_
  refine lv_sipush (v := 200) hx hb dX1_init_23 (by decide) ?_
  refine k_newi S hB.2.1 hP4 hD4 hS4 hA 200 (by decide) (by decide) (Nat.le_of_ble_eq_true rfl) (Nat.le_of_ble_eq_true rfl) (Nat.le_of_ble_eq_true rfl) dX1_init_26 (fun q5 H5 h5 d5 hS5 => ?_)
  have hP5 : va_P G.1 vwCl [(b, .inr (1, [.ref q1, .ref q3, .null, .null, .null, .int 0])), (q1, .inl (G.2.1, 200, .inl (fun _ => 0))), (q3, .inl (G.2.1, 200, .inl (fun _ => 0))), (q5, .inl (G.2.1, 200, .inl (fun _ => 0)))] H5 := h5
  have hD5 : va_D (va_A [(b, .inr (1, [.null, .null, .null, .null, .null, .int 0]))] nn) [(b, .inr (1, [.ref q1, .ref q3, .null, .null, .null, .int 0])), (q1, .inl (G.2.1, 200, .inl (fun _ => 0))), (q3, .inl (G.2.1, 200, .inl (fun _ => 0))), (q5, .inl (G.2.1, 200, .inl (fun _ => 0)))] := d5
  refine k_putF S hB.2.1 hP5 hD5 hS5 0 (C := RX1) (T := TX1) (N := 6) rfl rfl 2 (by decide) inX1 tyX1 tyX1_ok nmX1 rfl hmn rfl m_53 rfl rfl (Nat.le_of_ble_eq_true rfl) dX1_init_28 (fun H6 L6 h6 d6 hS6 => ?_)
  have hP6 : va_P G.1 vwCl [(b, .inr (1, [.ref q1, .ref q3, .ref q5, .null, .null, .int 0])), (q1, .inl (G.2.1, 200, .inl (fun _ => 0))), (q3, .inl (G.2.1, 200, .inl (fun _ => 0))), (q5, .inl (G.2.1, 200, .inl (fun _ => 0)))] H6 := h6
  have hD6 : va_D (va_A [(b, .inr (1, [.null, .null, .null, .null, .null, .int 0]))] nn) [(b, .inr (1, [.ref q1, .ref q3, .ref q5, .null, .null, .int 0])), (q1, .inl (G.2.1, 200, .inl (fun _ => 0))), (q3, .inl (G.2.1, 200, .inl (fun _ => 0))), (q5, .inl (G.2.1, 200, .inl (fun _ => 0)))] := d6
  refine lv_aload_n hx hb dX1_init_31 rfl (lv_at hl 0 rfl) ?_
  refine lv_sipush (v := 200) hx hb dX1_init_32 (by decide) ?_
  refine k_newi S hB.2.1 hP6 hD6 hS6 hA 200 (by decide) (by decide) (Nat.le_of_ble_eq_true rfl) (Nat.le_of_ble_eq_true rfl) (Nat.le_of_ble_eq_true rfl) dX1_init_35 (fun q7 H7 h7 d7 hS7 => ?_)
  have hP7 : va_P G.1 vwCl [(b, .inr (1, [.ref q1, .ref q3, .ref q5, .null, .null, .int 0])), (q1, .inl (G.2.1, 200, .inl (fun _ => 0))), (q3, .inl (G.2.1, 200, .inl (fun _ => 0))), (q5, .inl (G.2.1, 200, .inl (fun _ => 0))), (q7, .inl (G.2.1, 200, .inl (fun _ => 0)))] H7 := h7
  have hD7 : va_D (va_A [(b, .inr (1, [.null, .null, .null, .null, .null, .int 0]))] nn) [(b, .inr (1, [.ref q1, .ref q3, .ref q5, .null, .null, .int 0])), (q1, .inl (G.2.1, 200, .inl (fun _ => 0))), (q3, .inl (G.2.1, 200, .inl (fun _ => 0))), (q5, .inl (G.2.1, 200, .inl (fun _ => 0))), (q7, .inl (G.2.1, 200, .inl (fun _ => 0)))] := d7
  refine k_putF S hB.2.1 hP7 hD7 hS7 0 (C := RX1) (T := TX1) (N := 6) rfl rfl 3 (by decide) inX1 tyX1 tyX1_ok nmX1 rfl hmn rfl m_54 rfl rfl (Nat.le_of_ble_eq_true rfl) dX1_init_37 (fun H8 L8 h8 d8 hS8 => ?_)
  have hP8 : va_P G.1 vwCl [(b, .inr (1, [.ref q1, .ref q3, .ref q5, .ref q7, .null, .int 0])), (q1, .inl (G.2.1, 200, .inl (fun _ => 0))), (q3, .inl (G.2.1, 200, .inl (fun _ => 0))), (q5, .inl (G.2.1, 200, .inl (fun _ => 0))), (q7, .inl (G.2.1, 200, .inl (fun _ => 0)))] H8 := h8
  have hD8 : va_D (va_A [(b, .inr (1, [.null, .null, .null, .null, .null, .int 0]))] nn) [(b, .inr (1, [.ref q1, .ref q3, .ref q5, .ref q7, .null, .int 0])), (q1, .inl (G.2.1, 200, .inl (fun _ => 0))), (q3, .inl (G.2.1, 200, .inl (fun _ => 0))), (q5, .inl (G.2.1, 200, .inl (fun _ => 0))), (q7, .inl (G.2.1, 200, .inl (fun _ => 0)))] := d8
  refine lv_aload_n hx hb dX1_init_40 rfl (lv_at hl 0 rfl) ?_
  refine lv_sipush (v := 200) hx hb dX1_init_41 (by decide) ?_
  refine k_newi S hB.2.1 hP8 hD8 hS8 hA 200 (by decide) (by decide) (Nat.le_of_ble_eq_true rfl) (Nat.le_of_ble_eq_true rfl) (Nat.le_of_ble_eq_true rfl) dX1_init_44 (fun q9 H9 h9 d9 hS9 => ?_)
  have hP9 : va_P G.1 vwCl [(b, .inr (1, [.ref q1, .ref q3, .ref q5, .ref q7, .null, .int 0])), (q1, .inl (G.2.1, 200, .inl (fun _ => 0))), (q3, .inl (G.2.1, 200, .inl (fun _ => 0))), (q5, .inl (G.2.1, 200, .inl (fun _ => 0))), (q7, .inl (G.2.1, 200, .inl (fun _ => 0))), (q9, .inl (G.2.1, 200, .inl (fun _ => 0)))] H9 := h9
  have hD9 : va_D (va_A [(b, .inr (1, [.null, .null, .null, .null, .null, .int 0]))] nn) [(b, .inr (1, [.ref q1, .ref q3, .ref q5, .ref q7, .null, .int 0])), (q1, .inl (G.2.1, 200, .inl (fun _ => 0))), (q3, .inl (G.2.1, 200, .inl (fun _ => 0))), (q5, .inl (G.2.1, 200, .inl (fun _ => 0))), (q7, .inl (G.2.1, 200, .inl (fun _ => 0))), (q9, .inl (G.2.1, 200, .inl (fun _ => 0)))] := d9
  refine k_putF S hB.2.1 hP9 hD9 hS9 0 (C := RX1) (T := TX1) (N := 6) rfl rfl 4 (by decide) inX1 tyX1 tyX1_ok nmX1 rfl hmn rfl m_55 rfl rfl (Nat.le_of_ble_eq_true rfl) dX1_init_46 (fun H10 L10 h10 d10 hS10 => ?_)
  have hP10 : va_P G.1 vwCl [(b, .inr (1, [.ref q1, .ref q3, .ref q5, .ref q7, .ref q9, .int 0])), (q1, .inl (G.2.1, 200, .inl (fun _ => 0))), (q3, .inl (G.2.1, 200, .inl (fun _ => 0))), (q5, .inl (G.2.1, 200, .inl (fun _ => 0))), (q7, .inl (G.2.1, 200, .inl (fun _ => 0))), (q9, .inl (G.2.1, 200, .inl (fun _ => 0)))] H10 := h10
  have hD10 : va_D (va_A [(b, .inr (1, [.null, .null, .null, .null, .null, .int 0]))] nn) [(b, .inr (1, [.ref q1, .ref q3, .ref q5, .ref q7, .ref q9, .int 0])), (q1, .inl (G.2.1, 200, .inl (fun _ => 0))), (q3, .inl (G.2.1, 200, .inl (fun _ => 0))), (q5, .inl (G.2.1, 200, .inl (fun _ => 0))), (q7, .inl (G.2.1, 200, .inl (fun _ => 0))), (q9, .inl (G.2.1, 200, .inl (fun _ => 0)))] := d10
  refine lv_aload_n hx hb dX1_init_49 rfl (lv_at hl 0 rfl) ?_
  refine lv_iconst (v := 0) hx hb dX1_init_50 (by decide) ?_
  refine k_putI S hB.2.1 hP10 hD10 hS10 0 (C := RX1) (T := TX1) (N := 6) rfl rfl 5 (by decide) inX1 tyX1 tyX1_ok nmX1 rfl rfl m_56 (Nat.le_of_ble_eq_true rfl) dX1_init_51 (fun H11 L11 h11 d11 hS11 => ?_)
  have hP11 : va_P G.1 vwCl [(b, .inr (1, [.ref q1, .ref q3, .ref q5, .ref q7, .ref q9, .int 0])), (q1, .inl (G.2.1, 200, .inl (fun _ => 0))), (q3, .inl (G.2.1, 200, .inl (fun _ => 0))), (q5, .inl (G.2.1, 200, .inl (fun _ => 0))), (q7, .inl (G.2.1, 200, .inl (fun _ => 0))), (q9, .inl (G.2.1, 200, .inl (fun _ => 0)))] H11 := h11
  have hD11 : va_D (va_A [(b, .inr (1, [.null, .null, .null, .null, .null, .int 0]))] nn) [(b, .inr (1, [.ref q1, .ref q3, .ref q5, .ref q7, .ref q9, .int 0])), (q1, .inl (G.2.1, 200, .inl (fun _ => 0))), (q3, .inl (G.2.1, 200, .inl (fun _ => 0))), (q5, .inl (G.2.1, 200, .inl (fun _ => 0))), (q7, .inl (G.2.1, 200, .inl (fun _ => 0))), (q9, .inl (G.2.1, 200, .inl (fun _ => 0)))] := d11
  have hPz := hP11.sub [0, 1, 2, 3, 4, 5] (ws' := [(b, .inr (1, [.ref q1, .ref q3, .ref q5, .ref q7, .ref q9, .int 0])), (q1, .inl (G.2.1, 200, .inl (fun _ => 0))), (q3, .inl (G.2.1, 200, .inl (fun _ => 0))), (q5, .inl (G.2.1, 200, .inl (fun _ => 0))), (q7, .inl (G.2.1, 200, .inl (fun _ => 0))), (q9, .inl (G.2.1, 200, .inl (fun _ => 0)))]) rfl
  have hDz := hD11.sub [0, 1, 2, 3, 4, 5] (ws' := [(b, .inr (1, [.ref q1, .ref q3, .ref q5, .ref q7, .ref q9, .int 0])), (q1, .inl (G.2.1, 200, .inl (fun _ => 0))), (q3, .inl (G.2.1, 200, .inl (fun _ => 0))), (q5, .inl (G.2.1, 200, .inl (fun _ => 0))), (q7, .inl (G.2.1, 200, .inl (fun _ => 0))), (q9, .inl (G.2.1, 200, .inl (fun _ => 0)))]) rfl rfl
  exact W.vret hx hb hr (fun t ht hW => ⟨rfl, ⟨fun i => match i with | 0 => q1 | 1 => q3 | 2 => q5 | 3 => q7 | _ => q9, by rw [ht]; exact hPz, hDz⟩, (hS11).F ht⟩) hS11.2.2 dX1_init_54

set_option maxHeartbeats 4000000 in
set_option maxRecDepth 100000 in
theorem c_init2 (l : Launch) (G : kG) (b nn : Nat) : Met l yX2_init [.code yX2_init cX2_init 1 none] ({ frames := 1, cells := 3, slots := 120, locals := 40 }) (va_Pc [.ref b] (fun U => va_P G.1 vwCl [(b, .inr (2, [.null, .null, .null, .int 0]))] U.heap ∧ KK G U ∧ U.heap.size = nn)) (oC G b (fun c => [(b, .inr (2, [.ref (c 0), .ref (c 1), .ref (c 2), .int 0])), (c 0, .inl (G.2.1, 40, .inl (fun _ => 0))), (c 1, .inl (G.2.1, 40, .inl (fun _ => 0))), (c 2, .inl (G.2.2.1, 40, .inl (fun _ => 0)))]) (va_A [(b, .inr (2, [.null, .null, .null, .int 0]))] nn)) 3 120 (va_A [(b, .inr (2, [.null, .null, .null, .int 0]))] nn) := by
  refine k_of (by decide) (Nat.le_of_ble_eq_true rfl) (fun U h => h.2.1.2) ?_
  intro p e s m below meth c ls S hr hlocks hmn hB hl
  have hx := S.1
  have hb := S.2.1
  have hl : lv_has ls 1 [(0, .ref b)] := hl
  have hA : ∀ q, s.heap.size ≤ q → (va_A [(b, .inr (2, [.null, .null, .null, .int 0]))] nn) q := fun q h => Or.inr (by rw [← hB.2.2]; exact h)
  have hD0 : va_D (va_A [(b, .inr (2, [.null, .null, .null, .int 0]))] nn) [(b, .inr (2, [.null, .null, .null, .int 0]))] := (d_1 (b := b)).self
  refine lv_aload_n hx hb dX2_init_0 rfl (lv_at hl 0 rfl) ?_
  refine k_obj S m_77 hl.1 (Nat.le_of_ble_eq_true rfl) dX2_init_1 ⟨Nat.le_of_ble_eq_true rfl, Nat.le_of_ble_eq_true rfl⟩ ?_
  refine lv_aload_n hx hb dX2_init_4 rfl (lv_at hl 0 rfl) ?_
  refine lv_bipush (v := 40) hx hb dX2_init_5 (by decide) ?_
  refine k_newi S hB.2.1 hB.1 hD0 va_S.rf hA 40 (by decide) (by decide) (Nat.le_of_ble_eq_true rfl) (Nat.le_of_ble_eq_true rfl) (Nat.le_of_ble_eq_true rfl) dX2_init_7 (fun q1 H1 h1 d1 hS1 => ?_)
  have hP1 : va_P G.1 vwCl [(b, .inr (2, [.null, .null, .null, .int 0])), (q1, .inl (G.2.1, 40, .inl (fun _ => 0)))] H1 := h1
  have hD1 : va_D (va_A [(b, .inr (2, [.null, .null, .null, .int 0]))] nn) [(b, .inr (2, [.null, .null, .null, .int 0])), (q1, .inl (G.2.1, 40, .inl (fun _ => 0)))] := d1
  refine k_putF S hB.2.1 hP1 hD1 hS1 0 (C := RX2) (T := TX2) (N := 4) rfl rfl 0 (by decide) inX2 tyX2 tyX2_ok nmX2 rfl hmn rfl m_78 rfl rfl (Nat.le_of_ble_eq_true rfl) dX2_init_9 (fun H2 L2 h2 d2 hS2 => ?_)
  have hP2 : va_P G.1 vwCl [(b, .inr (2, [.ref q1, .null, .null, .int 0])), (q1, .inl (G.2.1, 40, .inl (fun _ => 0)))] H2 := h2
  have hD2 : va_D (va_A [(b, .inr (2, [.null, .null, .null, .int 0]))] nn) [(b, .inr (2, [.ref q1, .null, .null, .int 0])), (q1, .inl (G.2.1, 40, .inl (fun _ => 0)))] := d2
  refine lv_aload_n hx hb dX2_init_12 rfl (lv_at hl 0 rfl) ?_
  refine lv_bipush (v := 40) hx hb dX2_init_13 (by decide) ?_
  refine k_newi S hB.2.1 hP2 hD2 hS2 hA 40 (by decide) (by decide) (Nat.le_of_ble_eq_true rfl) (Nat.le_of_ble_eq_true rfl) (Nat.le_of_ble_eq_true rfl) dX2_init_15 (fun q3 H3 h3 d3 hS3 => ?_)
  have hP3 : va_P G.1 vwCl [(b, .inr (2, [.ref q1, .null, .null, .int 0])), (q1, .inl (G.2.1, 40, .inl (fun _ => 0))), (q3, .inl (G.2.1, 40, .inl (fun _ => 0)))] H3 := h3
  have hD3 : va_D (va_A [(b, .inr (2, [.null, .null, .null, .int 0]))] nn) [(b, .inr (2, [.ref q1, .null, .null, .int 0])), (q1, .inl (G.2.1, 40, .inl (fun _ => 0))), (q3, .inl (G.2.1, 40, .inl (fun _ => 0)))] := d3
  refine k_putF S hB.2.1 hP3 hD3 hS3 0 (C := RX2) (T := TX2) (N := 4) rfl rfl 1 (by decide) inX2 tyX2 tyX2_ok nmX2 rfl hmn rfl m_80 rfl rfl (Nat.le_of_ble_eq_true rfl) dX2_init_17 (fun H4 L4 h4 d4 hS4 => ?_)
  have hP4 : va_P G.1 vwCl [(b, .inr (2, [.ref q1, .ref q3, .null, .int 0])), (q1, .inl (G.2.1, 40, .inl (fun _ => 0))), (q3, .inl (G.2.1, 40, .inl (fun _ => 0)))] H4 := h4
  have hD4 : va_D (va_A [(b, .inr (2, [.null, .null, .null, .int 0]))] nn) [(b, .inr (2, [.ref q1, .ref q3, .null, .int 0])), (q1, .inl (G.2.1, 40, .inl (fun _ => 0))), (q3, .inl (G.2.1, 40, .inl (fun _ => 0)))] := d4
  refine lv_aload_n hx hb dX2_init_20 rfl (lv_at hl 0 rfl) ?_
  refine lv_bipush (v := 40) hx hb dX2_init_21 (by decide) ?_
  refine k_newz S hB.2.1 hP4 hD4 hS4 hA 40 (by decide) (by decide) (Nat.le_of_ble_eq_true rfl) (Nat.le_of_ble_eq_true rfl) (Nat.le_of_ble_eq_true rfl) dX2_init_23 (fun q5 H5 h5 d5 hS5 => ?_)
  have hP5 : va_P G.1 vwCl [(b, .inr (2, [.ref q1, .ref q3, .null, .int 0])), (q1, .inl (G.2.1, 40, .inl (fun _ => 0))), (q3, .inl (G.2.1, 40, .inl (fun _ => 0))), (q5, .inl (G.2.2.1, 40, .inl (fun _ => 0)))] H5 := h5
  have hD5 : va_D (va_A [(b, .inr (2, [.null, .null, .null, .int 0]))] nn) [(b, .inr (2, [.ref q1, .ref q3, .null, .int 0])), (q1, .inl (G.2.1, 40, .inl (fun _ => 0))), (q3, .inl (G.2.1, 40, .inl (fun _ => 0))), (q5, .inl (G.2.2.1, 40, .inl (fun _ => 0)))] := d5
  refine k_putF S hB.2.1 hP5 hD5 hS5 0 (C := RX2) (T := TX2) (N := 4) rfl rfl 2 (by decide) inX2 tyX2 tyX2_ok nmX2 rfl hmn rfl m_82 rfl rfl (Nat.le_of_ble_eq_true rfl) dX2_init_25 (fun H6 L6 h6 d6 hS6 => ?_)
  have hP6 : va_P G.1 vwCl [(b, .inr (2, [.ref q1, .ref q3, .ref q5, .int 0])), (q1, .inl (G.2.1, 40, .inl (fun _ => 0))), (q3, .inl (G.2.1, 40, .inl (fun _ => 0))), (q5, .inl (G.2.2.1, 40, .inl (fun _ => 0)))] H6 := h6
  have hD6 : va_D (va_A [(b, .inr (2, [.null, .null, .null, .int 0]))] nn) [(b, .inr (2, [.ref q1, .ref q3, .ref q5, .int 0])), (q1, .inl (G.2.1, 40, .inl (fun _ => 0))), (q3, .inl (G.2.1, 40, .inl (fun _ => 0))), (q5, .inl (G.2.2.1, 40, .inl (fun _ => 0)))] := d6
  refine lv_aload_n hx hb dX2_init_28 rfl (lv_at hl 0 rfl) ?_
  refine lv_iconst (v := 0) hx hb dX2_init_29 (by decide) ?_
  refine k_putI S hB.2.1 hP6 hD6 hS6 0 (C := RX2) (T := TX2) (N := 4) rfl rfl 3 (by decide) inX2 tyX2 tyX2_ok nmX2 rfl rfl m_84 (Nat.le_of_ble_eq_true rfl) dX2_init_30 (fun H7 L7 h7 d7 hS7 => ?_)
  have hP7 : va_P G.1 vwCl [(b, .inr (2, [.ref q1, .ref q3, .ref q5, .int 0])), (q1, .inl (G.2.1, 40, .inl (fun _ => 0))), (q3, .inl (G.2.1, 40, .inl (fun _ => 0))), (q5, .inl (G.2.2.1, 40, .inl (fun _ => 0)))] H7 := h7
  have hD7 : va_D (va_A [(b, .inr (2, [.null, .null, .null, .int 0]))] nn) [(b, .inr (2, [.ref q1, .ref q3, .ref q5, .int 0])), (q1, .inl (G.2.1, 40, .inl (fun _ => 0))), (q3, .inl (G.2.1, 40, .inl (fun _ => 0))), (q5, .inl (G.2.2.1, 40, .inl (fun _ => 0)))] := d7
  have hPz := hP7.sub [0, 1, 2, 3] (ws' := [(b, .inr (2, [.ref q1, .ref q3, .ref q5, .int 0])), (q1, .inl (G.2.1, 40, .inl (fun _ => 0))), (q3, .inl (G.2.1, 40, .inl (fun _ => 0))), (q5, .inl (G.2.2.1, 40, .inl (fun _ => 0)))]) rfl
  have hDz := hD7.sub [0, 1, 2, 3] (ws' := [(b, .inr (2, [.ref q1, .ref q3, .ref q5, .int 0])), (q1, .inl (G.2.1, 40, .inl (fun _ => 0))), (q3, .inl (G.2.1, 40, .inl (fun _ => 0))), (q5, .inl (G.2.2.1, 40, .inl (fun _ => 0)))]) rfl rfl
  exact W.vret hx hb hr (fun t ht hW => ⟨rfl, ⟨fun i => match i with | 0 => q1 | 1 => q3 | _ => q5, by rw [ht]; exact hPz, hDz⟩, (hS7).F ht⟩) hS7.2.2 dX2_init_33

set_option maxHeartbeats 4000000 in
set_option maxRecDepth 100000 in
theorem c_init0 (l : Launch) (G : kG) (b nn : Nat) : Met l yX0_init [.code yX0_init cX0_init 1 none] ({ frames := 3, cells := 6, slots := 1200, locals := 100 }) (va_Pc [.ref b] (fun U => va_P G.1 vwCl [(b, .inr (0, [.null, .null, .null, .null, .null, .null, .int 0]))] U.heap ∧ KK G U ∧ U.heap.size = nn)) (oC G b (fun c => [(b, .inr (0, [.ref (c 0), .ref (c 1), .ref (c 2), .ref (c 3), .ref (c 4), .ref (c 5), .int 0])), (c 0, .inl (G.2.1, 200, .inl (fun _ => 0))), (c 1, .inl (G.2.1, 200, .inl (fun _ => 0))), (c 2, .inl (G.2.1, 200, .inl (fun _ => 0))), (c 3, .inl (G.2.1, 200, .inl (fil 200 (-1) (fun _ => 0)))), (c 4, .inl (G.2.1, 200, .inl (fun _ => 0))), (c 5, .inl (G.2.1, 200, .inl (fun _ => 0)))]) (va_A [(b, .inr (0, [.null, .null, .null, .null, .null, .null, .int 0]))] nn)) 6 1200 (va_A [(b, .inr (0, [.null, .null, .null, .null, .null, .null, .int 0]))] nn) := by
  refine k_of (by decide) (Nat.le_of_ble_eq_true rfl) (fun U h => h.2.1.2) ?_
  intro p e s m below meth c ls S hr hlocks hmn hB hl
  have hx := S.1
  have hb := S.2.1
  have hl : lv_has ls 1 [(0, .ref b)] := hl
  have hA : ∀ q, s.heap.size ≤ q → (va_A [(b, .inr (0, [.null, .null, .null, .null, .null, .null, .int 0]))] nn) q := fun q h => Or.inr (by rw [← hB.2.2]; exact h)
  have hD0 : va_D (va_A [(b, .inr (0, [.null, .null, .null, .null, .null, .null, .int 0]))] nn) [(b, .inr (0, [.null, .null, .null, .null, .null, .null, .int 0]))] := (d_1 (b := b)).self
  refine lv_aload_n hx hb dX0_init_0 rfl (lv_at hl 0 rfl) ?_
  refine k_obj S m_101 hl.1 (Nat.le_of_ble_eq_true rfl) dX0_init_1 ⟨Nat.le_of_ble_eq_true rfl, Nat.le_of_ble_eq_true rfl⟩ ?_
  refine lv_aload_n hx hb dX0_init_4 rfl (lv_at hl 0 rfl) ?_
  refine lv_sipush (v := 200) hx hb dX0_init_5 (by decide) ?_
  refine k_newi S hB.2.1 hB.1 hD0 va_S.rf hA 200 (by decide) (by decide) (Nat.le_of_ble_eq_true rfl) (Nat.le_of_ble_eq_true rfl) (Nat.le_of_ble_eq_true rfl) dX0_init_8 (fun q1 H1 h1 d1 hS1 => ?_)
  have hP1 : va_P G.1 vwCl [(b, .inr (0, [.null, .null, .null, .null, .null, .null, .int 0])), (q1, .inl (G.2.1, 200, .inl (fun _ => 0)))] H1 := h1
  have hD1 : va_D (va_A [(b, .inr (0, [.null, .null, .null, .null, .null, .null, .int 0]))] nn) [(b, .inr (0, [.null, .null, .null, .null, .null, .null, .int 0])), (q1, .inl (G.2.1, 200, .inl (fun _ => 0)))] := d1
  refine k_putF S hB.2.1 hP1 hD1 hS1 0 (C := RX0) (T := TX0) (N := 7) rfl rfl 0 (by decide) inX0 tyX0 tyX0_ok nmX0 rfl hmn rfl m_105 rfl rfl (Nat.le_of_ble_eq_true rfl) dX0_init_10 (fun H2 L2 h2 d2 hS2 => ?_)
  have hP2 : va_P G.1 vwCl [(b, .inr (0, [.ref q1, .null, .null, .null, .null, .null, .int 0])), (q1, .inl (G.2.1, 200, .inl (fun _ => 0)))] H2 := h2
  have hD2 : va_D (va_A [(b, .inr (0, [.null, .null, .null, .null, .null, .null, .int 0]))] nn) [(b, .inr (0, [.ref q1, .null, .null, .null, .null, .null, .int 0])), (q1, .inl (G.2.1, 200, .inl (fun _ => 0)))] := d2
  refine lv_aload_n hx hb dX0_init_13 rfl (lv_at hl 0 rfl) ?_
  refine lv_sipush (v := 200) hx hb dX0_init_14 (by decide) ?_
  refine k_newi S hB.2.1 hP2 hD2 hS2 hA 200 (by decide) (by decide) (Nat.le_of_ble_eq_true rfl) (Nat.le_of_ble_eq_true rfl) (Nat.le_of_ble_eq_true rfl) dX0_init_17 (fun q3 H3 h3 d3 hS3 => ?_)
  have hP3 : va_P G.1 vwCl [(b, .inr (0, [.ref q1, .null, .null, .null, .null, .null, .int 0])), (q1, .inl (G.2.1, 200, .inl (fun _ => 0))), (q3, .inl (G.2.1, 200, .inl (fun _ => 0)))] H3 := h3
  have hD3 : va_D (va_A [(b, .inr (0, [.null, .null, .null, .null, .null, .null, .int 0]))] nn) [(b, .inr (0, [.ref q1, .null, .null, .null, .null, .null, .int 0])), (q1, .inl (G.2.1, 200, .inl (fun _ => 0))), (q3, .inl (G.2.1, 200, .inl (fun _ => 0)))] := d3
  refine k_putF S hB.2.1 hP3 hD3 hS3 0 (C := RX0) (T := TX0) (N := 7) rfl rfl 1 (by decide) inX0 tyX0 tyX0_ok nmX0 rfl hmn rfl m_106 rfl rfl (Nat.le_of_ble_eq_true rfl) dX0_init_19 (fun H4 L4 h4 d4 hS4 => ?_)
  have hP4 : va_P G.1 vwCl [(b, .inr (0, [.ref q1, .ref q3, .null, .null, .null, .null, .int 0])), (q1, .inl (G.2.1, 200, .inl (fun _ => 0))), (q3, .inl (G.2.1, 200, .inl (fun _ => 0)))] H4 := h4
  have hD4 : va_D (va_A [(b, .inr (0, [.null, .null, .null, .null, .null, .null, .int 0]))] nn) [(b, .inr (0, [.ref q1, .ref q3, .null, .null, .null, .null, .int 0])), (q1, .inl (G.2.1, 200, .inl (fun _ => 0))), (q3, .inl (G.2.1, 200, .inl (fun _ => 0)))] := d4
  refine lv_aload_n hx hb dX0_init_22 rfl (lv_at hl 0 rfl) ?_
  refine lv_sipush (v := 200) hx hb dX0_init_23 (by decide) ?_
  refine k_newi S hB.2.1 hP4 hD4 hS4 hA 200 (by decide) (by decide) (Nat.le_of_ble_eq_true rfl) (Nat.le_of_ble_eq_true rfl) (Nat.le_of_ble_eq_true rfl) dX0_init_26 (fun q5 H5 h5 d5 hS5 => ?_)
  have hP5 : va_P G.1 vwCl [(b, .inr (0, [.ref q1, .ref q3, .null, .null, .null, .null, .int 0])), (q1, .inl (G.2.1, 200, .inl (fun _ => 0))), (q3, .inl (G.2.1, 200, .inl (fun _ => 0))), (q5, .inl (G.2.1, 200, .inl (fun _ => 0)))] H5 := h5
  have hD5 : va_D (va_A [(b, .inr (0, [.null, .null, .null, .null, .null, .null, .int 0]))] nn) [(b, .inr (0, [.ref q1, .ref q3, .null, .null, .null, .null, .int 0])), (q1, .inl (G.2.1, 200, .inl (fun _ => 0))), (q3, .inl (G.2.1, 200, .inl (fun _ => 0))), (q5, .inl (G.2.1, 200, .inl (fun _ => 0)))] := d5
  refine k_putF S hB.2.1 hP5 hD5 hS5 0 (C := RX0) (T := TX0) (N := 7) rfl rfl 2 (by decide) inX0 tyX0 tyX0_ok nmX0 rfl hmn rfl m_107 rfl rfl (Nat.le_of_ble_eq_true rfl) dX0_init_28 (fun H6 L6 h6 d6 hS6 => ?_)
  have hP6 : va_P G.1 vwCl [(b, .inr (0, [.ref q1, .ref q3, .ref q5, .null, .null, .null, .int 0])), (q1, .inl (G.2.1, 200, .inl (fun _ => 0))), (q3, .inl (G.2.1, 200, .inl (fun _ => 0))), (q5, .inl (G.2.1, 200, .inl (fun _ => 0)))] H6 := h6
  have hD6 : va_D (va_A [(b, .inr (0, [.null, .null, .null, .null, .null, .null, .int 0]))] nn) [(b, .inr (0, [.ref q1, .ref q3, .ref q5, .null, .null, .null, .int 0])), (q1, .inl (G.2.1, 200, .inl (fun _ => 0))), (q3, .inl (G.2.1, 200, .inl (fun _ => 0))), (q5, .inl (G.2.1, 200, .inl (fun _ => 0)))] := d6
  refine lv_aload_n hx hb dX0_init_31 rfl (lv_at hl 0 rfl) ?_
  refine lv_sipush (v := 200) hx hb dX0_init_32 (by decide) ?_
  refine k_newi S hB.2.1 hP6 hD6 hS6 hA 200 (by decide) (by decide) (Nat.le_of_ble_eq_true rfl) (Nat.le_of_ble_eq_true rfl) (Nat.le_of_ble_eq_true rfl) dX0_init_35 (fun q7 H7 h7 d7 hS7 => ?_)
  have hP7 : va_P G.1 vwCl [(b, .inr (0, [.ref q1, .ref q3, .ref q5, .null, .null, .null, .int 0])), (q1, .inl (G.2.1, 200, .inl (fun _ => 0))), (q3, .inl (G.2.1, 200, .inl (fun _ => 0))), (q5, .inl (G.2.1, 200, .inl (fun _ => 0))), (q7, .inl (G.2.1, 200, .inl (fun _ => 0)))] H7 := h7
  have hD7 : va_D (va_A [(b, .inr (0, [.null, .null, .null, .null, .null, .null, .int 0]))] nn) [(b, .inr (0, [.ref q1, .ref q3, .ref q5, .null, .null, .null, .int 0])), (q1, .inl (G.2.1, 200, .inl (fun _ => 0))), (q3, .inl (G.2.1, 200, .inl (fun _ => 0))), (q5, .inl (G.2.1, 200, .inl (fun _ => 0))), (q7, .inl (G.2.1, 200, .inl (fun _ => 0)))] := d7
  refine k_putF S hB.2.1 hP7 hD7 hS7 0 (C := RX0) (T := TX0) (N := 7) rfl rfl 3 (by decide) inX0 tyX0 tyX0_ok nmX0 rfl hmn rfl m_108 rfl rfl (Nat.le_of_ble_eq_true rfl) dX0_init_37 (fun H8 L8 h8 d8 hS8 => ?_)
  have hP8 : va_P G.1 vwCl [(b, .inr (0, [.ref q1, .ref q3, .ref q5, .ref q7, .null, .null, .int 0])), (q1, .inl (G.2.1, 200, .inl (fun _ => 0))), (q3, .inl (G.2.1, 200, .inl (fun _ => 0))), (q5, .inl (G.2.1, 200, .inl (fun _ => 0))), (q7, .inl (G.2.1, 200, .inl (fun _ => 0)))] H8 := h8
  have hD8 : va_D (va_A [(b, .inr (0, [.null, .null, .null, .null, .null, .null, .int 0]))] nn) [(b, .inr (0, [.ref q1, .ref q3, .ref q5, .ref q7, .null, .null, .int 0])), (q1, .inl (G.2.1, 200, .inl (fun _ => 0))), (q3, .inl (G.2.1, 200, .inl (fun _ => 0))), (q5, .inl (G.2.1, 200, .inl (fun _ => 0))), (q7, .inl (G.2.1, 200, .inl (fun _ => 0)))] := d8
  refine lv_aload_n hx hb dX0_init_40 rfl (lv_at hl 0 rfl) ?_
  refine lv_sipush (v := 200) hx hb dX0_init_41 (by decide) ?_
  refine k_newi S hB.2.1 hP8 hD8 hS8 hA 200 (by decide) (by decide) (Nat.le_of_ble_eq_true rfl) (Nat.le_of_ble_eq_true rfl) (Nat.le_of_ble_eq_true rfl) dX0_init_44 (fun q9 H9 h9 d9 hS9 => ?_)
  have hP9 : va_P G.1 vwCl [(b, .inr (0, [.ref q1, .ref q3, .ref q5, .ref q7, .null, .null, .int 0])), (q1, .inl (G.2.1, 200, .inl (fun _ => 0))), (q3, .inl (G.2.1, 200, .inl (fun _ => 0))), (q5, .inl (G.2.1, 200, .inl (fun _ => 0))), (q7, .inl (G.2.1, 200, .inl (fun _ => 0))), (q9, .inl (G.2.1, 200, .inl (fun _ => 0)))] H9 := h9
  have hD9 : va_D (va_A [(b, .inr (0, [.null, .null, .null, .null, .null, .null, .int 0]))] nn) [(b, .inr (0, [.ref q1, .ref q3, .ref q5, .ref q7, .null, .null, .int 0])), (q1, .inl (G.2.1, 200, .inl (fun _ => 0))), (q3, .inl (G.2.1, 200, .inl (fun _ => 0))), (q5, .inl (G.2.1, 200, .inl (fun _ => 0))), (q7, .inl (G.2.1, 200, .inl (fun _ => 0))), (q9, .inl (G.2.1, 200, .inl (fun _ => 0)))] := d9
  refine k_putF S hB.2.1 hP9 hD9 hS9 0 (C := RX0) (T := TX0) (N := 7) rfl rfl 4 (by decide) inX0 tyX0 tyX0_ok nmX0 rfl hmn rfl m_110 rfl rfl (Nat.le_of_ble_eq_true rfl) dX0_init_46 (fun H10 L10 h10 d10 hS10 => ?_)
  have hP10 : va_P G.1 vwCl [(b, .inr (0, [.ref q1, .ref q3, .ref q5, .ref q7, .ref q9, .null, .int 0])), (q1, .inl (G.2.1, 200, .inl (fun _ => 0))), (q3, .inl (G.2.1, 200, .inl (fun _ => 0))), (q5, .inl (G.2.1, 200, .inl (fun _ => 0))), (q7, .inl (G.2.1, 200, .inl (fun _ => 0))), (q9, .inl (G.2.1, 200, .inl (fun _ => 0)))] H10 := h10
  have hD10 : va_D (va_A [(b, .inr (0, [.null, .null, .null, .null, .null, .null, .int 0]))] nn) [(b, .inr (0, [.ref q1, .ref q3, .ref q5, .ref q7, .ref q9, .null, .int 0])), (q1, .inl (G.2.1, 200, .inl (fun _ => 0))), (q3, .inl (G.2.1, 200, .inl (fun _ => 0))), (q5, .inl (G.2.1, 200, .inl (fun _ => 0))), (q7, .inl (G.2.1, 200, .inl (fun _ => 0))), (q9, .inl (G.2.1, 200, .inl (fun _ => 0)))] := d10
  refine lv_aload_n hx hb dX0_init_49 rfl (lv_at hl 0 rfl) ?_
  refine lv_sipush (v := 200) hx hb dX0_init_50 (by decide) ?_
  refine k_newi S hB.2.1 hP10 hD10 hS10 hA 200 (by decide) (by decide) (Nat.le_of_ble_eq_true rfl) (Nat.le_of_ble_eq_true rfl) (Nat.le_of_ble_eq_true rfl) dX0_init_53 (fun q11 H11 h11 d11 hS11 => ?_)
  have hP11 : va_P G.1 vwCl [(b, .inr (0, [.ref q1, .ref q3, .ref q5, .ref q7, .ref q9, .null, .int 0])), (q1, .inl (G.2.1, 200, .inl (fun _ => 0))), (q3, .inl (G.2.1, 200, .inl (fun _ => 0))), (q5, .inl (G.2.1, 200, .inl (fun _ => 0))), (q7, .inl (G.2.1, 200, .inl (fun _ => 0))), (q9, .inl (G.2.1, 200, .inl (fun _ => 0))), (q11, .inl (G.2.1, 200, .inl (fun _ => 0)))] H11 := h11
  have hD11 : va_D (va_A [(b, .inr (0, [.null, .null, .null, .null, .null, .null, .int 0]))] nn) [(b, .inr (0, [.ref q1, .ref q3, .ref q5, .ref q7, .ref q9, .null, .int 0])), (q1, .inl (G.2.1, 200, .inl (fun _ => 0))), (q3, .inl (G.2.1, 200, .inl (fun _ => 0))), (q5, .inl (G.2.1, 200, .inl (fun _ => 0))), (q7, .inl (G.2.1, 200, .inl (fun _ => 0))), (q9, .inl (G.2.1, 200, .inl (fun _ => 0))), (q11, .inl (G.2.1, 200, .inl (fun _ => 0)))] := d11
  refine k_putF S hB.2.1 hP11 hD11 hS11 0 (C := RX0) (T := TX0) (N := 7) rfl rfl 5 (by decide) inX0 tyX0 tyX0_ok nmX0 rfl hmn rfl m_112 rfl rfl (Nat.le_of_ble_eq_true rfl) dX0_init_55 (fun H12 L12 h12 d12 hS12 => ?_)
  have hP12 : va_P G.1 vwCl [(b, .inr (0, [.ref q1, .ref q3, .ref q5, .ref q7, .ref q9, .ref q11, .int 0])), (q1, .inl (G.2.1, 200, .inl (fun _ => 0))), (q3, .inl (G.2.1, 200, .inl (fun _ => 0))), (q5, .inl (G.2.1, 200, .inl (fun _ => 0))), (q7, .inl (G.2.1, 200, .inl (fun _ => 0))), (q9, .inl (G.2.1, 200, .inl (fun _ => 0))), (q11, .inl (G.2.1, 200, .inl (fun _ => 0)))] H12 := h12
  have hD12 : va_D (va_A [(b, .inr (0, [.null, .null, .null, .null, .null, .null, .int 0]))] nn) [(b, .inr (0, [.ref q1, .ref q3, .ref q5, .ref q7, .ref q9, .ref q11, .int 0])), (q1, .inl (G.2.1, 200, .inl (fun _ => 0))), (q3, .inl (G.2.1, 200, .inl (fun _ => 0))), (q5, .inl (G.2.1, 200, .inl (fun _ => 0))), (q7, .inl (G.2.1, 200, .inl (fun _ => 0))), (q9, .inl (G.2.1, 200, .inl (fun _ => 0))), (q11, .inl (G.2.1, 200, .inl (fun _ => 0)))] := d12
  refine lv_aload_n hx hb dX0_init_58 rfl (lv_at hl 0 rfl) ?_
  refine lv_iconst (v := 0) hx hb dX0_init_59 (by decide) ?_
  refine k_putI S hB.2.1 hP12 hD12 hS12 0 (C := RX0) (T := TX0) (N := 7) rfl rfl 6 (by decide) inX0 tyX0 tyX0_ok nmX0 rfl rfl m_114 (Nat.le_of_ble_eq_true rfl) dX0_init_60 (fun H13 L13 h13 d13 hS13 => ?_)
  have hP13 : va_P G.1 vwCl [(b, .inr (0, [.ref q1, .ref q3, .ref q5, .ref q7, .ref q9, .ref q11, .int 0])), (q1, .inl (G.2.1, 200, .inl (fun _ => 0))), (q3, .inl (G.2.1, 200, .inl (fun _ => 0))), (q5, .inl (G.2.1, 200, .inl (fun _ => 0))), (q7, .inl (G.2.1, 200, .inl (fun _ => 0))), (q9, .inl (G.2.1, 200, .inl (fun _ => 0))), (q11, .inl (G.2.1, 200, .inl (fun _ => 0)))] H13 := h13
  have hD13 : va_D (va_A [(b, .inr (0, [.null, .null, .null, .null, .null, .null, .int 0]))] nn) [(b, .inr (0, [.ref q1, .ref q3, .ref q5, .ref q7, .ref q9, .ref q11, .int 0])), (q1, .inl (G.2.1, 200, .inl (fun _ => 0))), (q3, .inl (G.2.1, 200, .inl (fun _ => 0))), (q5, .inl (G.2.1, 200, .inl (fun _ => 0))), (q7, .inl (G.2.1, 200, .inl (fun _ => 0))), (q9, .inl (G.2.1, 200, .inl (fun _ => 0))), (q11, .inl (G.2.1, 200, .inl (fun _ => 0)))] := d13
  refine lv_aload_n hx hb dX0_init_63 rfl (lv_at hl 0 rfl) ?_
  refine k_get S hB.2.1 hP13 0 (C := RX0) (T := TX0) (N := 7) rfl rfl 3 (by decide) inX0 m_108 rfl dX0_init_64 ?_
  refine lv_iconst (v := (-1)) hx hb dX0_init_67 (by decide) ?_
  refine q_wv (A1 := fun q => q = q7) (r_S S ⟨m_102, m_103, m_27, m_104⟩ ⟨rfl, by decide, by decide, by decide +kernel⟩ (c_fill l G q7 200 (-1) (fun _ => 0) (by decide)) ⟨rfl, rfl, Nat.le_of_ble_eq_true rfl, Nat.le_of_ble_eq_true rfl⟩ (ps bl_1 (fun U hU hW => ⟨by rw [hU]; exact hP13.sub [4] rfl, hB.2.1.warm hW⟩)) (n := 2) (As := [.ref q7, .int (-1)]) (rest := []) rfl hl.1 rfl (Nat.le_of_ble_eq_true rfl) ⟨Nat.le_of_ble_eq_true rfl, Nat.le_of_ble_eq_true rfl⟩ dX0_init_68) hS13 (fun q9 h9 => by rw [h9]; exact hD13.2 4 _ rfl) (fun H14 L14 _ g14 _ f14 hS14 => ?_)
  have h14 := k_set (q0 := 4) hP13 hD13 rfl g14 f14
  have d14 := hD13.set (p := 4) (e := .inl (G.2.1, 200, .inl (fil 200 (-1) (fun _ => 0)))) rfl
  have hP14 : va_P G.1 vwCl [(b, .inr (0, [.ref q1, .ref q3, .ref q5, .ref q7, .ref q9, .ref q11, .int 0])), (q1, .inl (G.2.1, 200, .inl (fun _ => 0))), (q3, .inl (G.2.1, 200, .inl (fun _ => 0))), (q5, .inl (G.2.1, 200, .inl (fun _ => 0))), (q7, .inl (G.2.1, 200, .inl (fil 200 (-1) (fun _ => 0)))), (q9, .inl (G.2.1, 200, .inl (fun _ => 0))), (q11, .inl (G.2.1, 200, .inl (fun _ => 0)))] H14 := h14
  have hD14 : va_D (va_A [(b, .inr (0, [.null, .null, .null, .null, .null, .null, .int 0]))] nn) [(b, .inr (0, [.ref q1, .ref q3, .ref q5, .ref q7, .ref q9, .ref q11, .int 0])), (q1, .inl (G.2.1, 200, .inl (fun _ => 0))), (q3, .inl (G.2.1, 200, .inl (fun _ => 0))), (q5, .inl (G.2.1, 200, .inl (fun _ => 0))), (q7, .inl (G.2.1, 200, .inl (fil 200 (-1) (fun _ => 0)))), (q9, .inl (G.2.1, 200, .inl (fun _ => 0))), (q11, .inl (G.2.1, 200, .inl (fun _ => 0)))] := d14
  have hPz := hP14.sub [0, 1, 2, 3, 4, 5, 6] (ws' := [(b, .inr (0, [.ref q1, .ref q3, .ref q5, .ref q7, .ref q9, .ref q11, .int 0])), (q1, .inl (G.2.1, 200, .inl (fun _ => 0))), (q3, .inl (G.2.1, 200, .inl (fun _ => 0))), (q5, .inl (G.2.1, 200, .inl (fun _ => 0))), (q7, .inl (G.2.1, 200, .inl (fil 200 (-1) (fun _ => 0)))), (q9, .inl (G.2.1, 200, .inl (fun _ => 0))), (q11, .inl (G.2.1, 200, .inl (fun _ => 0)))]) rfl
  have hDz := hD14.sub [0, 1, 2, 3, 4, 5, 6] (ws' := [(b, .inr (0, [.ref q1, .ref q3, .ref q5, .ref q7, .ref q9, .ref q11, .int 0])), (q1, .inl (G.2.1, 200, .inl (fun _ => 0))), (q3, .inl (G.2.1, 200, .inl (fun _ => 0))), (q5, .inl (G.2.1, 200, .inl (fun _ => 0))), (q7, .inl (G.2.1, 200, .inl (fil 200 (-1) (fun _ => 0)))), (q9, .inl (G.2.1, 200, .inl (fun _ => 0))), (q11, .inl (G.2.1, 200, .inl (fun _ => 0)))]) rfl rfl
  exact W.vret hx hb hr (fun t ht hW => ⟨rfl, ⟨fun i => match i with | 0 => q1 | 1 => q3 | 2 => q5 | 3 => q7 | 4 => q9 | _ => q11, by rw [ht]; exact hPz, hDz⟩, (hS14).F ht⟩) hS14.2.2 dX0_init_71

def adC (b : Nat) (c : Nat → Nat) : Nat → Nat := fun i => match i with
  | 0 => b
  | k + 1 => c k
/-- the rows of a new object -/
def S0 : Nat → Nat → Int32 := fun k => match k with
  | 0 => fil 5 1 (fun _ => 0)
  | 1 => fil 6 100 (fun _ => 0)
  | 13 => fil 200 (-1) (fun _ => 0)
  | _ => fun _ => 0

set_option maxHeartbeats 4000000 in
set_option maxRecDepth 100000 in
theorem c_initX (l : Launch) (G : kG) (b nn : Nat) : Met l yX3_init [.code yX3_init cX3_init 1 none] ({ frames := 5, cells := 19, slots := 2348, locals := 200 }) (va_Pc [.ref b] (fun U => va_P G.1 vwCl [(b, .inr (3, [.null, .null, .null, .null, .null, .int 0]))] U.heap ∧ KK G U ∧ U.heap.size = nn)) (oC G b (fun c => wX G (adC b c) S0) (va_A [(b, .inr (3, [.null, .null, .null, .null, .null, .int 0]))] nn)) 19 2348 (va_A [(b, .inr (3, [.null, .null, .null, .null, .null, .int 0]))] nn) := by
  refine k_of (by decide) (Nat.le_of_ble_eq_true rfl) (fun U h => h.2.1.2) ?_
  intro p e s m below meth c ls S hr hlocks hmn hB hl
  have hx := S.1
  have hb := S.2.1
  have hl : lv_has ls 1 [(0, .ref b)] := hl
  have hA : ∀ q, s.heap.size ≤ q → (va_A [(b, .inr (3, [.null, .null, .null, .null, .null, .int 0]))] nn) q := fun q h => Or.inr (by rw [← hB.2.2]; exact h)
  have hD0 : va_D (va_A [(b, .inr (3, [.null, .null, .null, .null, .null, .int 0]))] nn) [(b, .inr (3, [.null, .null, .null, .null, .null, .int 0]))] := (d_1 (b := b)).self
  refine lv_aload_n hx hb dX3_init_0 rfl (lv_at hl 0 rfl) ?_
  refine k_obj S m_42 hl.1 (Nat.le_of_ble_eq_true rfl) dX3_init_1 ⟨Nat.le_of_ble_eq_true rfl, Nat.le_of_ble_eq_true rfl⟩ ?_
  refine lv_aload_n hx hb dX3_init_4 rfl (lv_at hl 0 rfl) ?_
  refine lv_iconst (v := 5) hx hb dX3_init_5 (by decide) ?_
  refine k_newi S hB.2.1 hB.1 hD0 va_S.rf hA 5 (by decide) (by decide) (Nat.le_of_ble_eq_true rfl) (Nat.le_of_ble_eq_true rfl) (Nat.le_of_ble_eq_true rfl) dX3_init_6 (fun q1 H1 h1 d1 hS1 => ?_)
  have hP1 : va_P G.1 vwCl [(b, .inr (3, [.null, .null, .null, .null, .null, .int 0])), (q1, .inl (G.2.1, 5, .inl (fun _ => 0)))] H1 := h1
  have hD1 : va_D (va_A [(b, .inr (3, [.null, .null, .null, .null, .null, .int 0]))] nn) [(b, .inr (3, [.null, .null, .null, .null, .null, .int 0])), (q1, .inl (G.2.1, 5, .inl (fun _ => 0)))] := d1
  refine k_putF S hB.2.1 hP1 hD1 hS1 0 (C := RX3) (T := TX3) (N := 6) rfl rfl 0 (by decide) inX3 tyX3 tyX3_ok nmX3 rfl hmn rfl m_131 rfl rfl (Nat.le_of_ble_eq_true rfl) dX3_init_8 (fun H2 L2 h2 d2 hS2 => ?_)
  have hP2 : va_P G.1 vwCl [(b, .inr (3, [.ref q1, .null, .null, .null, .null, .int 0])), (q1, .inl (G.2.1, 5, .inl (fun _ => 0)))] H2 := h2
  have hD2 : va_D (va_A [(b, .inr (3, [.null, .null, .null, .null, .null, .int 0]))] nn) [(b, .inr (3, [.ref q1, .null, .null, .null, .null, .int 0])), (q1, .inl (G.2.1, 5, .inl (fun _ => 0)))] := d2
  refine lv_aload_n hx hb dX3_init_11 rfl (lv_at hl 0 rfl) ?_
  refine lv_bipush (v := 6) hx hb dX3_init_12 (by decide) ?_
  refine k_newi S hB.2.1 hP2 hD2 hS2 hA 6 (by decide) (by decide) (Nat.le_of_ble_eq_true rfl) (Nat.le_of_ble_eq_true rfl) (Nat.le_of_ble_eq_true rfl) dX3_init_14 (fun q3 H3 h3 d3 hS3 => ?_)
  have hP3 : va_P G.1 vwCl [(b, .inr (3, [.ref q1, .null, .null, .null, .null, .int 0])), (q1, .inl (G.2.1, 5, .inl (fun _ => 0))), (q3, .inl (G.2.1, 6, .inl (fun _ => 0)))] H3 := h3
  have hD3 : va_D (va_A [(b, .inr (3, [.null, .null, .null, .null, .null, .int 0]))] nn) [(b, .inr (3, [.ref q1, .null, .null, .null, .null, .int 0])), (q1, .inl (G.2.1, 5, .inl (fun _ => 0))), (q3, .inl (G.2.1, 6, .inl (fun _ => 0)))] := d3
  refine k_putF S hB.2.1 hP3 hD3 hS3 0 (C := RX3) (T := TX3) (N := 6) rfl rfl 1 (by decide) inX3 tyX3 tyX3_ok nmX3 rfl hmn rfl m_132 rfl rfl (Nat.le_of_ble_eq_true rfl) dX3_init_16 (fun H4 L4 h4 d4 hS4 => ?_)
  have hP4 : va_P G.1 vwCl [(b, .inr (3, [.ref q1, .ref q3, .null, .null, .null, .int 0])), (q1, .inl (G.2.1, 5, .inl (fun _ => 0))), (q3, .inl (G.2.1, 6, .inl (fun _ => 0)))] H4 := h4
  have hD4 : va_D (va_A [(b, .inr (3, [.null, .null, .null, .null, .null, .int 0]))] nn) [(b, .inr (3, [.ref q1, .ref q3, .null, .null, .null, .int 0])), (q1, .inl (G.2.1, 5, .inl (fun _ => 0))), (q3, .inl (G.2.1, 6, .inl (fun _ => 0)))] := d4
  refine lv_aload_n hx hb dX3_init_19 rfl (lv_at hl 0 rfl) ?_
  refine va_new (D := G.1) (ci := 1) (C := RX1) (T := TX1) (N := 6) (fs := [.null, .null, .null, .null, .null, .int 0]) S.1 S.2.1 S.2.2.2.2 inX1 tyX1 tyX1_ok S.2.2.2.1 (S.2.2.2.2 _ m_45) (S.2.2.2.2 _ m_46) (S.2.2.2.2 _ m_24) hB.2.1.1 hP4 hD4 hS4 hA rfl (by decide) (Nat.le_of_ble_eq_true rfl) (Nat.le_of_ble_eq_true rfl) dX3_init_20 (fun q5 H5 h5 d5 hS5 => ?_)
  have hP5 : va_P G.1 vwCl [(b, .inr (3, [.ref q1, .ref q3, .null, .null, .null, .int 0])), (q1, .inl (G.2.1, 5, .inl (fun _ => 0))), (q3, .inl (G.2.1, 6, .inl (fun _ => 0))), (q5, .inr (1, [.null, .null, .null, .null, .null, .int 0]))] H5 := h5
  have hD5 : va_D (va_A [(b, .inr (3, [.null, .null, .null, .null, .null, .int 0]))] nn) [(b, .inr (3, [.ref q1, .ref q3, .null, .null, .null, .int 0])), (q1, .inl (G.2.1, 5, .inl (fun _ => 0))), (q3, .inl (G.2.1, 6, .inl (fun _ => 0))), (q5, .inr (1, [.null, .null, .null, .null, .null, .int 0]))] := d5
  refine lv_dup hx hb dX3_init_23 rfl ?_
  refine q_c (A1 := va_A [(q5, .inr (1, [.null, .null, .null, .null, .null, .int 0]))] H5.size) (r_IN S hB.2.1.2 ⟨n_47, m_48, m_24, m_49⟩ rfl ⟨by decide, by decide, by decide +kernel⟩ (c_init1 l G q5 H5.size) ⟨rfl, rfl, Nat.le_of_ble_eq_true rfl, Nat.le_of_ble_eq_true rfl⟩ (ps bl_C (fun U hU hW => ⟨by rw [hU]; exact hP5.sub [3] rfl, hB.2.1.warm hW, by rw [hU]⟩)) (rest := [.ref q5, .ref b]) hl.1 rfl (Nat.le_of_ble_eq_true rfl) ⟨Nat.le_of_ble_eq_true rfl, Nat.le_of_ble_eq_true rfl⟩ dX3_init_24) hS5 (va_free hD5 hS5 hA [3] rfl) (fun c6 H6 L6 g6 e6 f6 hS6 => ?_)
  obtain ⟨h6, d6⟩ := va_join (wc := [(q5, .inr (1, [.null, .null, .null, .null, .null, .int 0]))]) (wr := [(b, .inr (3, [.ref q1, .ref q3, .null, .null, .null, .int 0])), (q1, .inl (G.2.1, 5, .inl (fun _ => 0))), (q3, .inl (G.2.1, 6, .inl (fun _ => 0)))]) hP5 hD5 [3] [0, 1, 2] rfl rfl rfl (by decide) f6 (va_free hD5 hS5 hA [3] rfl) g6 e6
  have hP6 : va_P G.1 vwCl [(b, .inr (3, [.ref q1, .ref q3, .null, .null, .null, .int 0])), (q1, .inl (G.2.1, 5, .inl (fun _ => 0))), (q3, .inl (G.2.1, 6, .inl (fun _ => 0))), (q5, .inr (1, [.ref (c6 0), .ref (c6 1), .ref (c6 2), .ref (c6 3), .ref (c6 4), .int 0])), (c6 0, .inl (G.2.1, 200, .inl (fun _ => 0))), (c6 1, .inl (G.2.1, 200, .inl (fun _ => 0))), (c6 2, .inl (G.2.1, 200, .inl (fun _ => 0))), (c6 3, .inl (G.2.1, 200, .inl (fun _ => 0))), (c6 4, .inl (G.2.1, 200, .inl (fun _ => 0)))] H6 := h6
  have hD6 : va_D (va_A [(b, .inr (3, [.null, .null, .null, .null, .null, .int 0]))] nn) [(b, .inr (3, [.ref q1, .ref q3, .null, .null, .null, .int 0])), (q1, .inl (G.2.1, 5, .inl (fun _ => 0))), (q3, .inl (G.2.1, 6, .inl (fun _ => 0))), (q5, .inr (1, [.ref (c6 0), .ref (c6 1), .ref (c6 2), .ref (c6 3), .ref (c6 4), .int 0])), (c6 0, .inl (G.2.1, 200, .inl (fun _ => 0))), (c6 1, .inl (G.2.1, 200, .inl (fun _ => 0))), (c6 2, .inl (G.2.1, 200, .inl (fun _ => 0))), (c6 3, .inl (G.2.1, 200, .inl (fun _ => 0))), (c6 4, .inl (G.2.1, 200, .inl (fun _ => 0)))] := d6
  refine k_putF S hB.2.1 hP6 hD6 hS6 0 (C := RX3) (T := TX3) (N := 6) rfl rfl 2 (by decide) inX3 tyX3 tyX3_ok nmX3 rfl hmn rfl m_133 rfl rfl (Nat.le_of_ble_eq_true rfl) dX3_init_27 (fun H7 L7 h7 d7 hS7 => ?_)
  have hP7 : va_P G.1 vwCl [(b, .inr (3, [.ref q1, .ref q3, .ref q5, .null, .null, .int 0])), (q1, .inl (G.2.1, 5, .inl (fun _ => 0))), (q3, .inl (G.2.1, 6, .inl (fun _ => 0))), (q5, .inr (1, [.ref (c6 0), .ref (c6 1), .ref (c6 2), .ref (c6 3), .ref (c6 4), .int 0])), (c6 0, .inl (G.2.1, 200, .inl (fun _ => 0))), (c6 1, .inl (G.2.1, 200, .inl (fun _ => 0))), (c6 2, .inl (G.2.1, 200, .inl (fun _ => 0))), (c6 3, .inl (G.2.1, 200, .inl (fun _ => 0))), (c6 4, .inl (G.2.1, 200, .inl (fun _ => 0)))] H7 := h7
  have hD7 : va_D (va_A [(b, .inr (3, [.null, .null, .null, .null, .null, .int 0]))] nn) [(b, .inr (3, [.ref q1, .ref q3, .ref q5, .null, .null, .int 0])), (q1, .inl (G.2.1, 5, .inl (fun _ => 0))), (q3, .inl (G.2.1, 6, .inl (fun _ => 0))), (q5, .inr (1, [.ref (c6 0), .ref (c6 1), .ref (c6 2), .ref (c6 3), .ref (c6 4), .int 0])), (c6 0, .inl (G.2.1, 200, .inl (fun _ => 0))), (c6 1, .inl (G.2.1, 200, .inl (fun _ => 0))), (c6 2, .inl (G.2.1, 200, .inl (fun _ => 0))), (c6 3, .inl (G.2.1, 200, .inl (fun _ => 0))), (c6 4, .inl (G.2.1, 200, .inl (fun _ => 0)))] := d7
  refine lv_aload_n hx hb dX3_init_30 rfl (lv_at hl 0 rfl) ?_
  refine va_new (D := G.1) (ci := 2) (C := RX2) (T := TX2) (N := 4) (fs := [.null, .null, .null, .int 0]) S.1 S.2.1 S.2.2.2.2 inX2 tyX2 tyX2_ok S.2.2.2.1 (S.2.2.2.2 _ m_72) (S.2.2.2.2 _ m_73) (S.2.2.2.2 _ m_25) hB.2.1.1 hP7 hD7 hS7 hA rfl (by decide) (Nat.le_of_ble_eq_true rfl) (Nat.le_of_ble_eq_true rfl) dX3_init_31 (fun q8 H8 h8 d8 hS8 => ?_)
  have hP8 : va_P G.1 vwCl [(b, .inr (3, [.ref q1, .ref q3, .ref q5, .null, .null, .int 0])), (q1, .inl (G.2.1, 5, .inl (fun _ => 0))), (q3, .inl (G.2.1, 6, .inl (fun _ => 0))), (q5, .inr (1, [.ref (c6 0), .ref (c6 1), .ref (c6 2), .ref (c6 3), .ref (c6 4), .int 0])), (c6 0, .inl (G.2.1, 200, .inl (fun _ => 0))), (c6 1, .inl (G.2.1, 200, .inl (fun _ => 0))), (c6 2, .inl (G.2.1, 200, .inl (fun _ => 0))), (c6 3, .inl (G.2.1, 200, .inl (fun _ => 0))), (c6 4, .inl (G.2.1, 200, .inl (fun _ => 0))), (q8, .inr (2, [.null, .null, .null, .int 0]))] H8 := h8
  have hD8 : va_D (va_A [(b, .inr (3, [.null, .null, .null, .null, .null, .int 0]))] nn) [(b, .inr (3, [.ref q1, .ref q3, .ref q5, .null, .null, .int 0])), (q1, .inl (G.2.1, 5, .inl (fun _ => 0))), (q3, .inl (G.2.1, 6, .inl (fun _ => 0))), (q5, .inr (1, [.ref (c6 0), .ref (c6 1), .ref (c6 2), .ref (c6 3), .ref (c6 4), .int 0])), (c6 0, .inl (G.2.1, 200, .inl (fun _ => 0))), (c6 1, .inl (G.2.1, 200, .inl (fun _ => 0))), (c6 2, .inl (G.2.1, 200, .inl (fun _ => 0))), (c6 3, .inl (G.2.1, 200, .inl (fun _ => 0))), (c6 4, .inl (G.2.1, 200, .inl (fun _ => 0))), (q8, .inr (2, [.null, .null, .null, .int 0]))] := d8
  refine lv_dup hx hb dX3_init_34 rfl ?_
  refine q_c (A1 := va_A [(q8, .inr (2, [.null, .null, .null, .int 0]))] H8.size) (r_IN S hB.2.1.2 ⟨n_74, m_75, m_25, m_76⟩ rfl ⟨by decide, by decide, by decide +kernel⟩ (c_init2 l G q8 H8.size) ⟨rfl, rfl, Nat.le_of_ble_eq_true rfl, Nat.le_of_ble_eq_true rfl⟩ (ps bl_C (fun U hU hW => ⟨by rw [hU]; exact hP8.sub [9] rfl, hB.2.1.warm hW, by rw [hU]⟩)) (rest := [.ref q8, .ref b]) hl.1 rfl (Nat.le_of_ble_eq_true rfl) ⟨Nat.le_of_ble_eq_true rfl, Nat.le_of_ble_eq_true rfl⟩ dX3_init_35) hS8 (va_free hD8 hS8 hA [9] rfl) (fun c9 H9 L9 g9 e9 f9 hS9 => ?_)
  obtain ⟨h9, d9⟩ := va_join (wc := [(q8, .inr (2, [.null, .null, .null, .int 0]))]) (wr := [(b, .inr (3, [.ref q1, .ref q3, .ref q5, .null, .null, .int 0])), (q1, .inl (G.2.1, 5, .inl (fun _ => 0))), (q3, .inl (G.2.1, 6, .inl (fun _ => 0))), (q5, .inr (1, [.ref (c6 0), .ref (c6 1), .ref (c6 2), .ref (c6 3), .ref (c6 4), .int 0])), (c6 0, .inl (G.2.1, 200, .inl (fun _ => 0))), (c6 1, .inl (G.2.1, 200, .inl (fun _ => 0))), (c6 2, .inl (G.2.1, 200, .inl (fun _ => 0))), (c6 3, .inl (G.2.1, 200, .inl (fun _ => 0))), (c6 4, .inl (G.2.1, 200, .inl (fun _ => 0)))]) hP8 hD8 [9] [0, 1, 2, 3, 4, 5, 6, 7, 8] rfl rfl rfl (by decide) f9 (va_free hD8 hS8 hA [9] rfl) g9 e9
  have hP9 : va_P G.1 vwCl [(b, .inr (3, [.ref q1, .ref q3, .ref q5, .null, .null, .int 0])), (q1, .inl (G.2.1, 5, .inl (fun _ => 0))), (q3, .inl (G.2.1, 6, .inl (fun _ => 0))), (q5, .inr (1, [.ref (c6 0), .ref (c6 1), .ref (c6 2), .ref (c6 3), .ref (c6 4), .int 0])), (c6 0, .inl (G.2.1, 200, .inl (fun _ => 0))), (c6 1, .inl (G.2.1, 200, .inl (fun _ => 0))), (c6 2, .inl (G.2.1, 200, .inl (fun _ => 0))), (c6 3, .inl (G.2.1, 200, .inl (fun _ => 0))), (c6 4, .inl (G.2.1, 200, .inl (fun _ => 0))), (q8, .inr (2, [.ref (c9 0), .ref (c9 1), .ref (c9 2), .int 0])), (c9 0, .inl (G.2.1, 40, .inl (fun _ => 0))), (c9 1, .inl (G.2.1, 40, .inl (fun _ => 0))), (c9 2, .inl (G.2.2.1, 40, .inl (fun _ => 0)))] H9 := h9
  have hD9 : va_D (va_A [(b, .inr (3, [.null, .null, .null, .null, .null, .int 0]))] nn) [(b, .inr (3, [.ref q1, .ref q3, .ref q5, .null, .null, .int 0])), (q1, .inl (G.2.1, 5, .inl (fun _ => 0))), (q3, .inl (G.2.1, 6, .inl (fun _ => 0))), (q5, .inr (1, [.ref (c6 0), .ref (c6 1), .ref (c6 2), .ref (c6 3), .ref (c6 4), .int 0])), (c6 0, .inl (G.2.1, 200, .inl (fun _ => 0))), (c6 1, .inl (G.2.1, 200, .inl (fun _ => 0))), (c6 2, .inl (G.2.1, 200, .inl (fun _ => 0))), (c6 3, .inl (G.2.1, 200, .inl (fun _ => 0))), (c6 4, .inl (G.2.1, 200, .inl (fun _ => 0))), (q8, .inr (2, [.ref (c9 0), .ref (c9 1), .ref (c9 2), .int 0])), (c9 0, .inl (G.2.1, 40, .inl (fun _ => 0))), (c9 1, .inl (G.2.1, 40, .inl (fun _ => 0))), (c9 2, .inl (G.2.2.1, 40, .inl (fun _ => 0)))] := d9
  refine k_putF S hB.2.1 hP9 hD9 hS9 0 (C := RX3) (T := TX3) (N := 6) rfl rfl 3 (by decide) inX3 tyX3 tyX3_ok nmX3 rfl hmn rfl m_134 rfl rfl (Nat.le_of_ble_eq_true rfl) dX3_init_38 (fun H10 L10 h10 d10 hS10 => ?_)
  have hP10 : va_P G.1 vwCl [(b, .inr (3, [.ref q1, .ref q3, .ref q5, .ref q8, .null, .int 0])), (q1, .inl (G.2.1, 5, .inl (fun _ => 0))), (q3, .inl (G.2.1, 6, .inl (fun _ => 0))), (q5, .inr (1, [.ref (c6 0), .ref (c6 1), .ref (c6 2), .ref (c6 3), .ref (c6 4), .int 0])), (c6 0, .inl (G.2.1, 200, .inl (fun _ => 0))), (c6 1, .inl (G.2.1, 200, .inl (fun _ => 0))), (c6 2, .inl (G.2.1, 200, .inl (fun _ => 0))), (c6 3, .inl (G.2.1, 200, .inl (fun _ => 0))), (c6 4, .inl (G.2.1, 200, .inl (fun _ => 0))), (q8, .inr (2, [.ref (c9 0), .ref (c9 1), .ref (c9 2), .int 0])), (c9 0, .inl (G.2.1, 40, .inl (fun _ => 0))), (c9 1, .inl (G.2.1, 40, .inl (fun _ => 0))), (c9 2, .inl (G.2.2.1, 40, .inl (fun _ => 0)))] H10 := h10
  have hD10 : va_D (va_A [(b, .inr (3, [.null, .null, .null, .null, .null, .int 0]))] nn) [(b, .inr (3, [.ref q1, .ref q3, .ref q5, .ref q8, .null, .int 0])), (q1, .inl (G.2.1, 5, .inl (fun _ => 0))), (q3, .inl (G.2.1, 6, .inl (fun _ => 0))), (q5, .inr (1, [.ref (c6 0), .ref (c6 1), .ref (c6 2), .ref (c6 3), .ref (c6 4), .int 0])), (c6 0, .inl (G.2.1, 200, .inl (fun _ => 0))), (c6 1, .inl (G.2.1, 200, .inl (fun _ => 0))), (c6 2, .inl (G.2.1, 200, .inl (fun _ => 0))), (c6 3, .inl (G.2.1, 200, .inl (fun _ => 0))), (c6 4, .inl (G.2.1, 200, .inl (fun _ => 0))), (q8, .inr (2, [.ref (c9 0), .ref (c9 1), .ref (c9 2), .int 0])), (c9 0, .inl (G.2.1, 40, .inl (fun _ => 0))), (c9 1, .inl (G.2.1, 40, .inl (fun _ => 0))), (c9 2, .inl (G.2.2.1, 40, .inl (fun _ => 0)))] := d10
  refine lv_aload_n hx hb dX3_init_41 rfl (lv_at hl 0 rfl) ?_
  refine va_new (D := G.1) (ci := 0) (C := RX0) (T := TX0) (N := 7) (fs := [.null, .null, .null, .null, .null, .null, .int 0]) S.1 S.2.1 S.2.2.2.2 inX0 tyX0 tyX0_ok S.2.2.2.1 (S.2.2.2.2 _ m_96) (S.2.2.2.2 _ m_97) (S.2.2.2.2 _ m_26) hB.2.1.1 hP10 hD10 hS10 hA rfl (by decide) (Nat.le_of_ble_eq_true rfl) (Nat.le_of_ble_eq_true rfl) dX3_init_42 (fun q11 H11 h11 d11 hS11 => ?_)
  have hP11 : va_P G.1 vwCl [(b, .inr (3, [.ref q1, .ref q3, .ref q5, .ref q8, .null, .int 0])), (q1, .inl (G.2.1, 5, .inl (fun _ => 0))), (q3, .inl (G.2.1, 6, .inl (fun _ => 0))), (q5, .inr (1, [.ref (c6 0), .ref (c6 1), .ref (c6 2), .ref (c6 3), .ref (c6 4), .int 0])), (c6 0, .inl (G.2.1, 200, .inl (fun _ => 0))), (c6 1, .inl (G.2.1, 200, .inl (fun _ => 0))), (c6 2, .inl (G.2.1, 200, .inl (fun _ => 0))), (c6 3, .inl (G.2.1, 200, .inl (fun _ => 0))), (c6 4, .inl (G.2.1, 200, .inl (fun _ => 0))), (q8, .inr (2, [.ref (c9 0), .ref (c9 1), .ref (c9 2), .int 0])), (c9 0, .inl (G.2.1, 40, .inl (fun _ => 0))), (c9 1, .inl (G.2.1, 40, .inl (fun _ => 0))), (c9 2, .inl (G.2.2.1, 40, .inl (fun _ => 0))), (q11, .inr (0, [.null, .null, .null, .null, .null, .null, .int 0]))] H11 := h11
  have hD11 : va_D (va_A [(b, .inr (3, [.null, .null, .null, .null, .null, .int 0]))] nn) [(b, .inr (3, [.ref q1, .ref q3, .ref q5, .ref q8, .null, .int 0])), (q1, .inl (G.2.1, 5, .inl (fun _ => 0))), (q3, .inl (G.2.1, 6, .inl (fun _ => 0))), (q5, .inr (1, [.ref (c6 0), .ref (c6 1), .ref (c6 2), .ref (c6 3), .ref (c6 4), .int 0])), (c6 0, .inl (G.2.1, 200, .inl (fun _ => 0))), (c6 1, .inl (G.2.1, 200, .inl (fun _ => 0))), (c6 2, .inl (G.2.1, 200, .inl (fun _ => 0))), (c6 3, .inl (G.2.1, 200, .inl (fun _ => 0))), (c6 4, .inl (G.2.1, 200, .inl (fun _ => 0))), (q8, .inr (2, [.ref (c9 0), .ref (c9 1), .ref (c9 2), .int 0])), (c9 0, .inl (G.2.1, 40, .inl (fun _ => 0))), (c9 1, .inl (G.2.1, 40, .inl (fun _ => 0))), (c9 2, .inl (G.2.2.1, 40, .inl (fun _ => 0))), (q11, .inr (0, [.null, .null, .null, .null, .null, .null, .int 0]))] := d11
  refine lv_dup hx hb dX3_init_45 rfl ?_
  refine q_c (A1 := va_A [(q11, .inr (0, [.null, .null, .null, .null, .null, .null, .int 0]))] H11.size) (r_IN S hB.2.1.2 ⟨n_98, m_99, m_26, m_100⟩ rfl ⟨by decide, by decide, by decide +kernel⟩ (c_init0 l G q11 H11.size) ⟨rfl, rfl, Nat.le_of_ble_eq_true rfl, Nat.le_of_ble_eq_true rfl⟩ (ps bl_C (fun U hU hW => ⟨by rw [hU]; exact hP11.sub [13] rfl, hB.2.1.warm hW, by rw [hU]⟩)) (rest := [.ref q11, .ref b]) hl.1 rfl (Nat.le_of_ble_eq_true rfl) ⟨Nat.le_of_ble_eq_true rfl, Nat.le_of_ble_eq_true rfl⟩ dX3_init_46) hS11 (va_free hD11 hS11 hA [13] rfl) (fun c12 H12 L12 g12 e12 f12 hS12 => ?_)
  obtain ⟨h12, d12⟩ := va_join (wc := [(q11, .inr (0, [.null, .null, .null, .null, .null, .null, .int 0]))]) (wr := [(b, .inr (3, [.ref q1, .ref q3, .ref q5, .ref q8, .null, .int 0])), (q1, .inl (G.2.1, 5, .inl (fun _ => 0))), (q3, .inl (G.2.1, 6, .inl (fun _ => 0))), (q5, .inr (1, [.ref (c6 0), .ref (c6 1), .ref (c6 2), .ref (c6 3), .ref (c6 4), .int 0])), (c6 0, .inl (G.2.1, 200, .inl (fun _ => 0))), (c6 1, .inl (G.2.1, 200, .inl (fun _ => 0))), (c6 2, .inl (G.2.1, 200, .inl (fun _ => 0))), (c6 3, .inl (G.2.1, 200, .inl (fun _ => 0))), (c6 4, .inl (G.2.1, 200, .inl (fun _ => 0))), (q8, .inr (2, [.ref (c9 0), .ref (c9 1), .ref (c9 2), .int 0])), (c9 0, .inl (G.2.1, 40, .inl (fun _ => 0))), (c9 1, .inl (G.2.1, 40, .inl (fun _ => 0))), (c9 2, .inl (G.2.2.1, 40, .inl (fun _ => 0)))]) hP11 hD11 [13] [0, 1, 2, 3, 4, 5, 6, 7, 8, 9, 10, 11, 12] rfl rfl rfl (by decide) f12 (va_free hD11 hS11 hA [13] rfl) g12 e12
  have hP12 : va_P G.1 vwCl [(b, .inr (3, [.ref q1, .ref q3, .ref q5, .ref q8, .null, .int 0])), (q1, .inl (G.2.1, 5, .inl (fun _ => 0))), (q3, .inl (G.2.1, 6, .inl (fun _ => 0))), (q5, .inr (1, [.ref (c6 0), .ref (c6 1), .ref (c6 2), .ref (c6 3), .ref (c6 4), .int 0])), (c6 0, .inl (G.2.1, 200, .inl (fun _ => 0))), (c6 1, .inl (G.2.1, 200, .inl (fun _ => 0))), (c6 2, .inl (G.2.1, 200, .inl (fun _ => 0))), (c6 3, .inl (G.2.1, 200, .inl (fun _ => 0))), (c6 4, .inl (G.2.1, 200, .inl (fun _ => 0))), (q8, .inr (2, [.ref (c9 0), .ref (c9 1), .ref (c9 2), .int 0])), (c9 0, .inl (G.2.1, 40, .inl (fun _ => 0))), (c9 1, .inl (G.2.1, 40, .inl (fun _ => 0))), (c9 2, .inl (G.2.2.1, 40, .inl (fun _ => 0))), (q11, .inr (0, [.ref (c12 0), .ref (c12 1), .ref (c12 2), .ref (c12 3), .ref (c12 4), .ref (c12 5), .int 0])), (c12 0, .inl (G.2.1, 200, .inl (fun _ => 0))), (c12 1, .inl (G.2.1, 200, .inl (fun _ => 0))), (c12 2, .inl (G.2.1, 200, .inl (fun _ => 0))), (c12 3, .inl (G.2.1, 200, .inl (fil 200 (-1) (fun _ => 0)))), (c12 4, .inl (G.2.1, 200, .inl (fun _ => 0))), (c12 5, .inl (G.2.1, 200, .inl (fun _ => 0)))] H12 := h12
  have hD12 : va_D (va_A [(b, .inr (3, [.null, .null, .null, .null, .null, .int 0]))] nn) [(b, .inr (3, [.ref q1, .ref q3, .ref q5, .ref q8, .null, .int 0])), (q1, .inl (G.2.1, 5, .inl (fun _ => 0))), (q3, .inl (G.2.1, 6, .inl (fun _ => 0))), (q5, .inr (1, [.ref (c6 0), .ref (c6 1), .ref (c6 2), .ref (c6 3), .ref (c6 4), .int 0])), (c6 0, .inl (G.2.1, 200, .inl (fun _ => 0))), (c6 1, .inl (G.2.1, 200, .inl (fun _ => 0))), (c6 2, .inl (G.2.1, 200, .inl (fun _ => 0))), (c6 3, .inl (G.2.1, 200, .inl (fun _ => 0))), (c6 4, .inl (G.2.1, 200, .inl (fun _ => 0))), (q8, .inr (2, [.ref (c9 0), .ref (c9 1), .ref (c9 2), .int 0])), (c9 0, .inl (G.2.1, 40, .inl (fun _ => 0))), (c9 1, .inl (G.2.1, 40, .inl (fun _ => 0))), (c9 2, .inl (G.2.2.1, 40, .inl (fun _ => 0))), (q11, .inr (0, [.ref (c12 0), .ref (c12 1), .ref (c12 2), .ref (c12 3), .ref (c12 4), .ref (c12 5), .int 0])), (c12 0, .inl (G.2.1, 200, .inl (fun _ => 0))), (c12 1, .inl (G.2.1, 200, .inl (fun _ => 0))), (c12 2, .inl (G.2.1, 200, .inl (fun _ => 0))), (c12 3, .inl (G.2.1, 200, .inl (fil 200 (-1) (fun _ => 0)))), (c12 4, .inl (G.2.1, 200, .inl (fun _ => 0))), (c12 5, .inl (G.2.1, 200, .inl (fun _ => 0)))] := d12
  refine k_putF S hB.2.1 hP12 hD12 hS12 0 (C := RX3) (T := TX3) (N := 6) rfl rfl 4 (by decide) inX3 tyX3 tyX3_ok nmX3 rfl hmn rfl m_135 rfl rfl (Nat.le_of_ble_eq_true rfl) dX3_init_49 (fun H13 L13 h13 d13 hS13 => ?_)
  have hP13 : va_P G.1 vwCl [(b, .inr (3, [.ref q1, .ref q3, .ref q5, .ref q8, .ref q11, .int 0])), (q1, .inl (G.2.1, 5, .inl (fun _ => 0))), (q3, .inl (G.2.1, 6, .inl (fun _ => 0))), (q5, .inr (1, [.ref (c6 0), .ref (c6 1), .ref (c6 2), .ref (c6 3), .ref (c6 4), .int 0])), (c6 0, .inl (G.2.1, 200, .inl (fun _ => 0))), (c6 1, .inl (G.2.1, 200, .inl (fun _ => 0))), (c6 2, .inl (G.2.1, 200, .inl (fun _ => 0))), (c6 3, .inl (G.2.1, 200, .inl (fun _ => 0))), (c6 4, .inl (G.2.1, 200, .inl (fun _ => 0))), (q8, .inr (2, [.ref (c9 0), .ref (c9 1), .ref (c9 2), .int 0])), (c9 0, .inl (G.2.1, 40, .inl (fun _ => 0))), (c9 1, .inl (G.2.1, 40, .inl (fun _ => 0))), (c9 2, .inl (G.2.2.1, 40, .inl (fun _ => 0))), (q11, .inr (0, [.ref (c12 0), .ref (c12 1), .ref (c12 2), .ref (c12 3), .ref (c12 4), .ref (c12 5), .int 0])), (c12 0, .inl (G.2.1, 200, .inl (fun _ => 0))), (c12 1, .inl (G.2.1, 200, .inl (fun _ => 0))), (c12 2, .inl (G.2.1, 200, .inl (fun _ => 0))), (c12 3, .inl (G.2.1, 200, .inl (fil 200 (-1) (fun _ => 0)))), (c12 4, .inl (G.2.1, 200, .inl (fun _ => 0))), (c12 5, .inl (G.2.1, 200, .inl (fun _ => 0)))] H13 := h13
  have hD13 : va_D (va_A [(b, .inr (3, [.null, .null, .null, .null, .null, .int 0]))] nn) [(b, .inr (3, [.ref q1, .ref q3, .ref q5, .ref q8, .ref q11, .int 0])), (q1, .inl (G.2.1, 5, .inl (fun _ => 0))), (q3, .inl (G.2.1, 6, .inl (fun _ => 0))), (q5, .inr (1, [.ref (c6 0), .ref (c6 1), .ref (c6 2), .ref (c6 3), .ref (c6 4), .int 0])), (c6 0, .inl (G.2.1, 200, .inl (fun _ => 0))), (c6 1, .inl (G.2.1, 200, .inl (fun _ => 0))), (c6 2, .inl (G.2.1, 200, .inl (fun _ => 0))), (c6 3, .inl (G.2.1, 200, .inl (fun _ => 0))), (c6 4, .inl (G.2.1, 200, .inl (fun _ => 0))), (q8, .inr (2, [.ref (c9 0), .ref (c9 1), .ref (c9 2), .int 0])), (c9 0, .inl (G.2.1, 40, .inl (fun _ => 0))), (c9 1, .inl (G.2.1, 40, .inl (fun _ => 0))), (c9 2, .inl (G.2.2.1, 40, .inl (fun _ => 0))), (q11, .inr (0, [.ref (c12 0), .ref (c12 1), .ref (c12 2), .ref (c12 3), .ref (c12 4), .ref (c12 5), .int 0])), (c12 0, .inl (G.2.1, 200, .inl (fun _ => 0))), (c12 1, .inl (G.2.1, 200, .inl (fun _ => 0))), (c12 2, .inl (G.2.1, 200, .inl (fun _ => 0))), (c12 3, .inl (G.2.1, 200, .inl (fil 200 (-1) (fun _ => 0)))), (c12 4, .inl (G.2.1, 200, .inl (fun _ => 0))), (c12 5, .inl (G.2.1, 200, .inl (fun _ => 0)))] := d13
  refine lv_aload_n hx hb dX3_init_52 rfl (lv_at hl 0 rfl) ?_
  refine lv_iconst (v := 0) hx hb dX3_init_53 (by decide) ?_
  refine k_putI S hB.2.1 hP13 hD13 hS13 0 (C := RX3) (T := TX3) (N := 6) rfl rfl 5 (by decide) inX3 tyX3 tyX3_ok nmX3 rfl rfl m_136 (Nat.le_of_ble_eq_true rfl) dX3_init_54 (fun H14 L14 h14 d14 hS14 => ?_)
  have hP14 : va_P G.1 vwCl [(b, .inr (3, [.ref q1, .ref q3, .ref q5, .ref q8, .ref q11, .int 0])), (q1, .inl (G.2.1, 5, .inl (fun _ => 0))), (q3, .inl (G.2.1, 6, .inl (fun _ => 0))), (q5, .inr (1, [.ref (c6 0), .ref (c6 1), .ref (c6 2), .ref (c6 3), .ref (c6 4), .int 0])), (c6 0, .inl (G.2.1, 200, .inl (fun _ => 0))), (c6 1, .inl (G.2.1, 200, .inl (fun _ => 0))), (c6 2, .inl (G.2.1, 200, .inl (fun _ => 0))), (c6 3, .inl (G.2.1, 200, .inl (fun _ => 0))), (c6 4, .inl (G.2.1, 200, .inl (fun _ => 0))), (q8, .inr (2, [.ref (c9 0), .ref (c9 1), .ref (c9 2), .int 0])), (c9 0, .inl (G.2.1, 40, .inl (fun _ => 0))), (c9 1, .inl (G.2.1, 40, .inl (fun _ => 0))), (c9 2, .inl (G.2.2.1, 40, .inl (fun _ => 0))), (q11, .inr (0, [.ref (c12 0), .ref (c12 1), .ref (c12 2), .ref (c12 3), .ref (c12 4), .ref (c12 5), .int 0])), (c12 0, .inl (G.2.1, 200, .inl (fun _ => 0))), (c12 1, .inl (G.2.1, 200, .inl (fun _ => 0))), (c12 2, .inl (G.2.1, 200, .inl (fun _ => 0))), (c12 3, .inl (G.2.1, 200, .inl (fil 200 (-1) (fun _ => 0)))), (c12 4, .inl (G.2.1, 200, .inl (fun _ => 0))), (c12 5, .inl (G.2.1, 200, .inl (fun _ => 0)))] H14 := h14
  have hD14 : va_D (va_A [(b, .inr (3, [.null, .null, .null, .null, .null, .int 0]))] nn) [(b, .inr (3, [.ref q1, .ref q3, .ref q5, .ref q8, .ref q11, .int 0])), (q1, .inl (G.2.1, 5, .inl (fun _ => 0))), (q3, .inl (G.2.1, 6, .inl (fun _ => 0))), (q5, .inr (1, [.ref (c6 0), .ref (c6 1), .ref (c6 2), .ref (c6 3), .ref (c6 4), .int 0])), (c6 0, .inl (G.2.1, 200, .inl (fun _ => 0))), (c6 1, .inl (G.2.1, 200, .inl (fun _ => 0))), (c6 2, .inl (G.2.1, 200, .inl (fun _ => 0))), (c6 3, .inl (G.2.1, 200, .inl (fun _ => 0))), (c6 4, .inl (G.2.1, 200, .inl (fun _ => 0))), (q8, .inr (2, [.ref (c9 0), .ref (c9 1), .ref (c9 2), .int 0])), (c9 0, .inl (G.2.1, 40, .inl (fun _ => 0))), (c9 1, .inl (G.2.1, 40, .inl (fun _ => 0))), (c9 2, .inl (G.2.2.1, 40, .inl (fun _ => 0))), (q11, .inr (0, [.ref (c12 0), .ref (c12 1), .ref (c12 2), .ref (c12 3), .ref (c12 4), .ref (c12 5), .int 0])), (c12 0, .inl (G.2.1, 200, .inl (fun _ => 0))), (c12 1, .inl (G.2.1, 200, .inl (fun _ => 0))), (c12 2, .inl (G.2.1, 200, .inl (fun _ => 0))), (c12 3, .inl (G.2.1, 200, .inl (fil 200 (-1) (fun _ => 0)))), (c12 4, .inl (G.2.1, 200, .inl (fun _ => 0))), (c12 5, .inl (G.2.1, 200, .inl (fun _ => 0)))] := d14
  refine lv_aload_n hx hb dX3_init_57 rfl (lv_at hl 0 rfl) ?_
  refine k_get S hB.2.1 hP14 0 (C := RX3) (T := TX3) (N := 6) rfl rfl 0 (by decide) inX3 m_131 rfl dX3_init_58 ?_
  refine lv_iconst (v := 1) hx hb dX3_init_61 (by decide) ?_
  refine q_wv (A1 := fun q => q = q1) (r_S S ⟨m_130, m_103, m_27, m_104⟩ ⟨rfl, by decide, by decide, by decide +kernel⟩ (c_fill l G q1 5 1 (fun _ => 0) (by decide)) ⟨rfl, rfl, Nat.le_of_ble_eq_true rfl, Nat.le_of_ble_eq_true rfl⟩ (ps bl_1 (fun U hU hW => ⟨by rw [hU]; exact hP14.sub [1] rfl, hB.2.1.warm hW⟩)) (n := 2) (As := [.ref q1, .int 1]) (rest := []) rfl hl.1 rfl (Nat.le_of_ble_eq_true rfl) ⟨Nat.le_of_ble_eq_true rfl, Nat.le_of_ble_eq_true rfl⟩ dX3_init_62) hS14 (fun q9 h9 => by rw [h9]; exact hD14.2 1 _ rfl) (fun H15 L15 _ g15 _ f15 hS15 => ?_)
  have h15 := k_set (q0 := 1) hP14 hD14 rfl g15 f15
  have d15 := hD14.set (p := 1) (e := .inl (G.2.1, 5, .inl (fil 5 1 (fun _ => 0)))) rfl
  have hP15 : va_P G.1 vwCl [(b, .inr (3, [.ref q1, .ref q3, .ref q5, .ref q8, .ref q11, .int 0])), (q1, .inl (G.2.1, 5, .inl (fil 5 1 (fun _ => 0)))), (q3, .inl (G.2.1, 6, .inl (fun _ => 0))), (q5, .inr (1, [.ref (c6 0), .ref (c6 1), .ref (c6 2), .ref (c6 3), .ref (c6 4), .int 0])), (c6 0, .inl (G.2.1, 200, .inl (fun _ => 0))), (c6 1, .inl (G.2.1, 200, .inl (fun _ => 0))), (c6 2, .inl (G.2.1, 200, .inl (fun _ => 0))), (c6 3, .inl (G.2.1, 200, .inl (fun _ => 0))), (c6 4, .inl (G.2.1, 200, .inl (fun _ => 0))), (q8, .inr (2, [.ref (c9 0), .ref (c9 1), .ref (c9 2), .int 0])), (c9 0, .inl (G.2.1, 40, .inl (fun _ => 0))), (c9 1, .inl (G.2.1, 40, .inl (fun _ => 0))), (c9 2, .inl (G.2.2.1, 40, .inl (fun _ => 0))), (q11, .inr (0, [.ref (c12 0), .ref (c12 1), .ref (c12 2), .ref (c12 3), .ref (c12 4), .ref (c12 5), .int 0])), (c12 0, .inl (G.2.1, 200, .inl (fun _ => 0))), (c12 1, .inl (G.2.1, 200, .inl (fun _ => 0))), (c12 2, .inl (G.2.1, 200, .inl (fun _ => 0))), (c12 3, .inl (G.2.1, 200, .inl (fil 200 (-1) (fun _ => 0)))), (c12 4, .inl (G.2.1, 200, .inl (fun _ => 0))), (c12 5, .inl (G.2.1, 200, .inl (fun _ => 0)))] H15 := h15
  have hD15 : va_D (va_A [(b, .inr (3, [.null, .null, .null, .null, .null, .int 0]))] nn) [(b, .inr (3, [.ref q1, .ref q3, .ref q5, .ref q8, .ref q11, .int 0])), (q1, .inl (G.2.1, 5, .inl (fil 5 1 (fun _ => 0)))), (q3, .inl (G.2.1, 6, .inl (fun _ => 0))), (q5, .inr (1, [.ref (c6 0), .ref (c6 1), .ref (c6 2), .ref (c6 3), .ref (c6 4), .int 0])), (c6 0, .inl (G.2.1, 200, .inl (fun _ => 0))), (c6 1, .inl (G.2.1, 200, .inl (fun _ => 0))), (c6 2, .inl (G.2.1, 200, .inl (fun _ => 0))), (c6 3, .inl (G.2.1, 200, .inl (fun _ => 0))), (c6 4, .inl (G.2.1, 200, .inl (fun _ => 0))), (q8, .inr (2, [.ref (c9 0), .ref (c9 1), .ref (c9 2), .int 0])), (c9 0, .inl (G.2.1, 40, .inl (fun _ => 0))), (c9 1, .inl (G.2.1, 40, .inl (fun _ => 0))), (c9 2, .inl (G.2.2.1, 40, .inl (fun _ => 0))), (q11, .inr (0, [.ref (c12 0), .ref (c12 1), .ref (c12 2), .ref (c12 3), .ref (c12 4), .ref (c12 5), .int 0])), (c12 0, .inl (G.2.1, 200, .inl (fun _ => 0))), (c12 1, .inl (G.2.1, 200, .inl (fun _ => 0))), (c12 2, .inl (G.2.1, 200, .inl (fun _ => 0))), (c12 3, .inl (G.2.1, 200, .inl (fil 200 (-1) (fun _ => 0)))), (c12 4, .inl (G.2.1, 200, .inl (fun _ => 0))), (c12 5, .inl (G.2.1, 200, .inl (fun _ => 0)))] := d15
  refine lv_aload_n hx hb dX3_init_65 rfl (lv_at hl 0 rfl) ?_
  refine k_get S hB.2.1 hP15 0 (C := RX3) (T := TX3) (N := 6) rfl rfl 1 (by decide) inX3 m_132 rfl dX3_init_66 ?_
  refine lv_bipush (v := 100) hx hb dX3_init_69 (by decide) ?_
  refine q_wv (A1 := fun q => q = q3) (r_S S ⟨m_130, m_103, m_27, m_104⟩ ⟨rfl, by decide, by decide, by decide +kernel⟩ (c_fill l G q3 6 100 (fun _ => 0) (by decide)) ⟨rfl, rfl, Nat.le_of_ble_eq_true rfl, Nat.le_of_ble_eq_true rfl⟩ (ps bl_1 (fun U hU hW => ⟨by rw [hU]; exact hP15.sub [2] rfl, hB.2.1.warm hW⟩)) (n := 2) (As := [.ref q3, .int 100]) (rest := []) rfl hl.1 rfl (Nat.le_of_ble_eq_true rfl) ⟨Nat.le_of_ble_eq_true rfl, Nat.le_of_ble_eq_true rfl⟩ dX3_init_71) hS15 (fun q9 h9 => by rw [h9]; exact hD15.2 2 _ rfl) (fun H16 L16 _ g16 _ f16 hS16 => ?_)
  have h16 := k_set (q0 := 2) hP15 hD15 rfl g16 f16
  have d16 := hD15.set (p := 2) (e := .inl (G.2.1, 6, .inl (fil 6 100 (fun _ => 0)))) rfl
  have hP16 : va_P G.1 vwCl [(b, .inr (3, [.ref q1, .ref q3, .ref q5, .ref q8, .ref q11, .int 0])), (q1, .inl (G.2.1, 5, .inl (fil 5 1 (fun _ => 0)))), (q3, .inl (G.2.1, 6, .inl (fil 6 100 (fun _ => 0)))), (q5, .inr (1, [.ref (c6 0), .ref (c6 1), .ref (c6 2), .ref (c6 3), .ref (c6 4), .int 0])), (c6 0, .inl (G.2.1, 200, .inl (fun _ => 0))), (c6 1, .inl (G.2.1, 200, .inl (fun _ => 0))), (c6 2, .inl (G.2.1, 200, .inl (fun _ => 0))), (c6 3, .inl (G.2.1, 200, .inl (fun _ => 0))), (c6 4, .inl (G.2.1, 200, .inl (fun _ => 0))), (q8, .inr (2, [.ref (c9 0), .ref (c9 1), .ref (c9 2), .int 0])), (c9 0, .inl (G.2.1, 40, .inl (fun _ => 0))), (c9 1, .inl (G.2.1, 40, .inl (fun _ => 0))), (c9 2, .inl (G.2.2.1, 40, .inl (fun _ => 0))), (q11, .inr (0, [.ref (c12 0), .ref (c12 1), .ref (c12 2), .ref (c12 3), .ref (c12 4), .ref (c12 5), .int 0])), (c12 0, .inl (G.2.1, 200, .inl (fun _ => 0))), (c12 1, .inl (G.2.1, 200, .inl (fun _ => 0))), (c12 2, .inl (G.2.1, 200, .inl (fun _ => 0))), (c12 3, .inl (G.2.1, 200, .inl (fil 200 (-1) (fun _ => 0)))), (c12 4, .inl (G.2.1, 200, .inl (fun _ => 0))), (c12 5, .inl (G.2.1, 200, .inl (fun _ => 0)))] H16 := h16
  have hD16 : va_D (va_A [(b, .inr (3, [.null, .null, .null, .null, .null, .int 0]))] nn) [(b, .inr (3, [.ref q1, .ref q3, .ref q5, .ref q8, .ref q11, .int 0])), (q1, .inl (G.2.1, 5, .inl (fil 5 1 (fun _ => 0)))), (q3, .inl (G.2.1, 6, .inl (fil 6 100 (fun _ => 0)))), (q5, .inr (1, [.ref (c6 0), .ref (c6 1), .ref (c6 2), .ref (c6 3), .ref (c6 4), .int 0])), (c6 0, .inl (G.2.1, 200, .inl (fun _ => 0))), (c6 1, .inl (G.2.1, 200, .inl (fun _ => 0))), (c6 2, .inl (G.2.1, 200, .inl (fun _ => 0))), (c6 3, .inl (G.2.1, 200, .inl (fun _ => 0))), (c6 4, .inl (G.2.1, 200, .inl (fun _ => 0))), (q8, .inr (2, [.ref (c9 0), .ref (c9 1), .ref (c9 2), .int 0])), (c9 0, .inl (G.2.1, 40, .inl (fun _ => 0))), (c9 1, .inl (G.2.1, 40, .inl (fun _ => 0))), (c9 2, .inl (G.2.2.1, 40, .inl (fun _ => 0))), (q11, .inr (0, [.ref (c12 0), .ref (c12 1), .ref (c12 2), .ref (c12 3), .ref (c12 4), .ref (c12 5), .int 0])), (c12 0, .inl (G.2.1, 200, .inl (fun _ => 0))), (c12 1, .inl (G.2.1, 200, .inl (fun _ => 0))), (c12 2, .inl (G.2.1, 200, .inl (fun _ => 0))), (c12 3, .inl (G.2.1, 200, .inl (fil 200 (-1) (fun _ => 0)))), (c12 4, .inl (G.2.1, 200, .inl (fun _ => 0))), (c12 5, .inl (G.2.1, 200, .inl (fun _ => 0)))] := d16
  have hPz := hP16.sub [0, 1, 2, 3, 9, 13, 4, 5, 6, 7, 8, 10, 11, 12, 14, 15, 16, 17, 18, 19] (ws' := wX G (fun i => match i with | 0 => b | 1 => q1 | 2 => q3 | 3 => q5 | 4 => q8 | 5 => q11 | 6 => c6 0 | 7 => c6 1 | 8 => c6 2 | 9 => c6 3 | 10 => c6 4 | 11 => c9 0 | 12 => c9 1 | 13 => c9 2 | 14 => c12 0 | 15 => c12 1 | 16 => c12 2 | 17 => c12 3 | 18 => c12 4 | _ => c12 5) S0) rfl
  have hDz := hD16.sub [0, 1, 2, 3, 9, 13, 4, 5, 6, 7, 8, 10, 11, 12, 14, 15, 16, 17, 18, 19] (ws' := wX G (fun i => match i with | 0 => b | 1 => q1 | 2 => q3 | 3 => q5 | 4 => q8 | 5 => q11 | 6 => c6 0 | 7 => c6 1 | 8 => c6 2 | 9 => c6 3 | 10 => c6 4 | 11 => c9 0 | 12 => c9 1 | 13 => c9 2 | 14 => c12 0 | 15 => c12 1 | 16 => c12 2 | 17 => c12 3 | 18 => c12 4 | _ => c12 5) S0) rfl rfl
  exact W.vret hx hb hr (fun t ht hW => ⟨rfl, ⟨fun i => match i with | 0 => q1 | 1 => q3 | 2 => q5 | 3 => q8 | 4 => q11 | 5 => c6 0 | 6 => c6 1 | 7 => c6 2 | 8 => c6 3 | 9 => c6 4 | 10 => c9 0 | 11 => c9 1 | 12 => c9 2 | 13 => c12 0 | 14 => c12 1 | 15 => c12 2 | 16 => c12 3 | 17 => c12 4 | _ => c12 5, by rw [ht]; exact hPz, hDz⟩, (hS16).F ht⟩) hS16.2.2 dX3_init_74
end
section
/-! THE LAW's HELPERS: a call of the class, its exceptions as numbers -/
/-- what a helper tells: the answer, or the exception's number (E: which exception) -/
def hcV (E : Nat) (v : Int32) : Int32 := match E with
  | 0 => v
  | 1 => -1000001
  | 2 => -1000002
  | 3 => -1000003
  | _ => -1000002
theorem hcV_0 {E : Nat} {v : Int32} (h : E = 0) : hcV E v = v := by subst h; rfl
theorem hcV_1 {E : Nat} {v : Int32} (h : E = 1) : hcV E v = -1000001 := by subst h; rfl
theorem hcV_2 {E : Nat} {v : Int32} (h : E = 2) : hcV E v = -1000002 := by subst h; rfl
theorem hcV_3 {E : Nat} {v : Int32} (h : E = 3) : hcV E v = -1000003 := by subst h; rfl
theorem hcV_4 {E : Nat} {v : Int32} (h : E = 4) : hcV E v = -1000002 := by subst h; rfl
theorem bI_if {b : Bool} : (if bI b = 0 then (0 : Int32) else 1) = bI b := by cases b <;> rfl
section KL
variable {p : Program} {l : Launch} {e : Env} {R : Room} {s : State} {m : MethodId} {args : Array Value} {below : List Frame} {meth : Method} {c : Code} {H H0 : Heap} {locs : List Loc} {cells slots mc ms : Nat} {Q : State → Prop}
variable {cc : ByteArray} {pc nL : Nat} {ls : Array Slot} {rest st0 : List Value} {G : kG} {A A1 : Nat → Prop} {own : String} {a : Array Value} {E : String → Prop}
theorem q_hw {P : Int32 → Prop} {B : Heap → Prop} (hr : vx_Run p l e R s m args below meth c H locs cells slots mc ms (F0 m pc ls st0) rest (oW A1 P B a) (tX E) A1) (hS : va_S A H0 H locs) (hA : ∀ q, A1 q → A q)
    (kk : ∀ (r : Int32) (H1 : Heap) (locs1 : List Loc), P r → B H1 → (∀ q : Nat, q < H.size → ¬ A1 q → H1[q]? = H[q]?) → va_S A H0 H1 locs1 → W p l e R s m args below meth c H1 locs1 (cells + mc) (slots + ms) Q (F0 m (pc + 3) ls (.int r :: rest)))
    (kx : ∀ (x : String) (q : Addr) (ce : Cell) (H1 : Heap) (locs1 : List Loc), E x → (∀ q : Nat, q < H.size → H1[q]? = H[q]?) → va_S A H0 H1 locs1 → H1[q]? = some ce → ce.vm = .none → s.vm.findClass x = some ce.cls → vx_W p l e R s m args below meth c H1 locs1 (cells + mc) (slots + ms) Q (F0 m pc ls rest) q) : W p l e R s m args below meth c H locs cells slots Q (F0 m pc ls st0) := by
  intro T hT X
  rcases hr T hT X with ⟨v, st₀, t, T', L, h0, X', hL, e1, -, ⟨⟨r, hv, hp⟩, hb, hF⟩, st⟩ | ⟨q, st₀, t, T', L, x, ce, h0, X', hL, e1, e2, ⟨h1, h2, h3⟩, hce, hcv, hcl, st⟩
  · cases hv
    obtain ⟨k1, k2, k3⟩ := s_call h0 e1 hS hA hL hF
    obtain ⟨t2, a1, b1⟩ := kk r T'.heap (locs ++ L) hp (by rw [e1]; exact hb) k2 k3 T' rfl X'
    exact ⟨t2, st t2 a1, b1⟩
  · have hF : va_F A1 st₀ t := ⟨h2, fun q hq _ => h3 q hq⟩
    obtain ⟨k1, k2, k3⟩ := s_call h0 e1 hS hA hL hF
    rw [h0] at h3
    obtain ⟨t2, a1, b1⟩ := kx x q ce T'.heap (locs ++ L) h1 (fun q hq => by rw [e1]; exact h3 q hq) k3 (by rw [e1]; exact hce) hcv hcl T' rfl X'
    exact ⟨t2, st.trans a1, b1⟩
theorem q_hi {P : Int32 → Prop} (hr : vx_Run p l e R s m args below meth c H locs cells slots mc ms (F0 m pc ls st0) rest (vp_Si P a) (tX E) NF) (hS : va_S A H0 H locs)
    (kk : ∀ (r : Int32) (H1 : Heap) (locs1 : List Loc), P r → H1 = H → va_S A H0 H1 locs1 → W p l e R s m args below meth c H1 locs1 (cells + mc) (slots + ms) Q (F0 m (pc + 3) ls (.int r :: rest)))
    (kx : ∀ (x : String) (q : Addr) (ce : Cell) (H1 : Heap) (locs1 : List Loc), E x → (∀ q : Nat, q < H.size → H1[q]? = H[q]?) → va_S A H0 H1 locs1 → H1[q]? = some ce → ce.vm = .none → s.vm.findClass x = some ce.cls → vx_W p l e R s m args below meth c H1 locs1 (cells + mc) (slots + ms) Q (F0 m pc ls rest) q) : W p l e R s m args below meth c H locs cells slots Q (F0 m pc ls st0) := by
  intro T hT X
  rcases hr T hT X with ⟨v, st₀, t, T', L, h0, X', hL, e1, -, ⟨r, hv, hp, hh⟩, st⟩ | ⟨q, st₀, t, T', L, x, ce, h0, X', hL, e1, e2, ⟨h1, h2, h3⟩, hce, hcv, hcl, st⟩
  · cases hv
    have hF : va_F NF st₀ t := ⟨by rw [hh]; exact Nat.le_refl _, fun q _ _ => by rw [hh]⟩
    obtain ⟨k1, k2, k3⟩ := s_call h0 e1 hS (fun q hq => hq.elim) hL hF
    obtain ⟨t2, a1, b1⟩ := kk r T'.heap (locs ++ L) hp (by rw [e1, hh, h0]) k3 T' rfl X'
    exact ⟨t2, st t2 a1, b1⟩
  · have hF : va_F NF st₀ t := ⟨h2, fun q hq _ => h3 q hq⟩
    obtain ⟨k1, k2, k3⟩ := s_call h0 e1 hS (fun q hq => hq.elim) hL hF
    rw [h0] at h3
    obtain ⟨t2, a1, b1⟩ := kx x q ce T'.heap (locs ++ L) h1 (fun q hq => by rw [e1]; exact h3 q hq) k3 (by rw [e1]; exact hce) hcv hcl T' rfl X'
    exact ⟨t2, st.trans a1, b1⟩
theorem kp {ws : va_W} {H1 : Heap} (hP : va_P G.1 vwCl ws H) (hk : ∀ q : Nat, q < H.size → H1[q]? = H[q]?) : va_P G.1 vwCl ws H1 := hP.kept (fun k q h => hk q.1 (hP k q h).lt)
/-- behind a helper that has caught all that is thrown -/
theorem q_wx {P : Int32 → Prop} {B : Heap → Prop} (hr : vx_Run p l e R s m args below meth c H locs cells slots mc ms (F0 m pc ls st0) rest (oW A1 P B a) (fun _ _ _ => False) A1) (hS : va_S A H0 H locs) (hA : ∀ q, A1 q → A q)
    (kk : ∀ (r : Int32) (H1 : Heap) (locs1 : List Loc), P r → B H1 → (∀ q : Nat, q < H.size → ¬ A1 q → H1[q]? = H[q]?) → va_S A H0 H1 locs1 → W p l e R s m args below meth c H1 locs1 (cells + mc) (slots + ms) Q (F0 m (pc + 3) ls (.int r :: rest))) : W p l e R s m args below meth c H locs cells slots Q (F0 m pc ls st0) := by
  intro T hT X
  rcases hr T hT X with ⟨v, st₀, t, T', L, h0, X', hL, e1, -, ⟨⟨r, hv, hp⟩, hb, hF⟩, st⟩ | ⟨q, st₀, t, T', L, x, ce, h0, X', hL, e1, e2, h1, hce, hcv, hcl, st⟩
  · cases hv
    obtain ⟨k1, k2, k3⟩ := s_call h0 e1 hS hA hL hF
    obtain ⟨t2, a1, b1⟩ := kk r T'.heap (locs ++ L) hp (by rw [e1]; exact hb) k2 k3 T' rfl X'
    exact ⟨t2, st t2 a1, b1⟩
  · exact h1.elim
end KL
theorem ncx21 : Cond.not (.castable "java/lang/IllegalArgumentException" "java/lang/IndexOutOfBoundsException") ∈ flatC (Jvm.Cond.and given_1 narrow_1) := by decide +kernel
theorem ncx31 : Cond.not (.castable "java/lang/IllegalStateException" "java/lang/IndexOutOfBoundsException") ∈ flatC (Jvm.Cond.and given_1 narrow_1) := by decide +kernel
theorem ncx32 : Cond.not (.castable "java/lang/IllegalStateException" "java/lang/IllegalArgumentException") ∈ flatC (Jvm.Cond.and given_1 narrow_1) := by decide +kernel
theorem ncx41 : Cond.not (.castable "java/util/NoSuchElementException" "java/lang/IndexOutOfBoundsException") ∈ flatC (Jvm.Cond.and given_1 narrow_1) := by decide +kernel
theorem ncx34 : Cond.not (.castable "java/lang/IllegalStateException" "java/util/NoSuchElementException") ∈ flatC (Jvm.Cond.and given_1 narrow_1) := by decide +kernel
theorem fcx1 : ((Cond.castable "java/lang/IndexOutOfBoundsException" "java/lang/IndexOutOfBoundsException").onTables && (Cond.castable "java/lang/IndexOutOfBoundsException" "java/lang/IndexOutOfBoundsException").keepsFace) = true := by decide +kernel
theorem fcx2 : ((Cond.castable "java/lang/IllegalArgumentException" "java/lang/IllegalArgumentException").onTables && (Cond.castable "java/lang/IllegalArgumentException" "java/lang/IllegalArgumentException").keepsFace) = true := by decide +kernel
theorem fcx3 : ((Cond.castable "java/lang/IllegalStateException" "java/lang/IllegalStateException").onTables && (Cond.castable "java/lang/IllegalStateException" "java/lang/IllegalStateException").keepsFace) = true := by decide +kernel
theorem fcx4 : ((Cond.castable "java/util/NoSuchElementException" "java/util/NoSuchElementException").onTables && (Cond.castable "java/util/NoSuchElementException" "java/util/NoSuchElementException").keepsFace) = true := by decide +kernel
end
section
theorem ek_setPrice (σ : kS) (nm ns : Nat) (a0 : Int32) (b0 : Int32) : eX_setPrice a0 b0 = 0 ∨ eX_setPrice a0 b0 = 1 ∨ eX_setPrice a0 b0 = 2 := by
  unfold eX_setPrice
  (repeat' split) <;> decide
set_option maxHeartbeats 4000000 in
set_option maxRecDepth 100000 in
theorem kL_setPrice (l : Launch) (G : kG) (ad : Nat → Nat) (σ : kS) (nm ns : Nat) (a0 b0 : Int32) (hst : l.stackTraces = false) (hns : σ 18 0 = nI ns) (hns4 : ns ≤ 40) (hnm : σ 17 0 = nI nm) (hnm2 : nm ≤ 200)   (A1 : Nat → Prop) (hD : DD 20 A1 ad) : vx_Met l yL_setPrice [.codeWith yL_setPrice cL_setPrice 4 (some .int) [(0, 6, 7, 16), (0, 6, 11, 19)]] ({ frames := 8, cells := 2, slots := 12, locals := 147 }) (va_Pc [.ref (ad 0), .int a0, .int b0] (fun U => PX G ad σ U U.heap ∧ ZS U U.heap)) (oW A1 (fun r => r = hcV (eX_setPrice a0 b0) (σ 0 (ixN a0))) (fun H9 => va_P G.1 vwCl (wX G ad (if eX_setPrice a0 b0 = 0 then (su σ 0 (ixN a0) b0) else σ)) H9)) (fun _ _ _ => False) 2 12 A1 := by
  refine kh_of (by decide) (Nat.le_of_ble_eq_true rfl) (fun U h => h.1.2.2) ?_
  intro p e s m below meth c ls S hr hlocks ht hB hl
  have hx := S.1
  have hb := S.2.1
  obtain ⟨hX, hZ⟩ := hB
  have hl : lv_has ls 4 [(0, .ref (ad 0)), (1, .int a0), (2, .int b0)] := hl
  refine lv_aload_n hx hb dL_setPrice_0 rfl (lv_at hl 0 rfl) ?_
  refine lv_iload_n hx hb dL_setPrice_1 rfl (lv_at hl 1 rfl) ?_
  refine lv_iload_n hx hb dL_setPrice_2 rfl (lv_at hl 2 rfl) ?_
  refine q_hw (rx_V S ⟨m_520, m_521, m_522, m_23, m_523⟩ ⟨rfl, by decide, by decide, by decide +kernel⟩ (c_setPrice l G ad σ nm ns a0 b0 hst hns hns4 hnm hnm2 A1 hD) ⟨rfl, rfl, Nat.le_of_ble_eq_true rfl, Nat.le_of_ble_eq_true rfl⟩ (pv_X hX 0 rfl rfl bl_PXZ (bXZ hX hZ)) (n := 2) (As := [.int a0, .int b0]) (rest := []) rfl hl.1 rfl (Nat.le_of_ble_eq_true rfl) ⟨Nat.le_of_ble_eq_true rfl, Nat.le_of_ble_eq_true rfl⟩ dL_setPrice_3) (va_S.rf (A := A1)) (fun q h => h) (fun r H1 L1 ⟨he, hv⟩ h1 f1 hS1 => ?_) (fun x q ce H1 L1 ⟨he, hq⟩ f1 hS1 hce hcv hcl => ?_)
  · subst hv
    refine vx_ret ?_
    exact W.iret (v := σ 0 (ixN a0)) hx hb hr (fun t ht9 hW => ⟨⟨_, rfl, (hcV_0 he).symm⟩, by rw [ht9, if_pos he]; exact h1, hS1.F ht9⟩) hS1.2.2 dL_setPrice_6
  · rcases ek_setPrice σ nm ns a0 b0 with hk | hk | hk
    · exact absurd hk he
    · rw [hk] at hq
      subst hq
      refine vx_catch S.2.2.2.1 [] ⟨0, 6, 7, 16⟩ [⟨0, 6, 11, 19⟩] ht (fun z hz => by cases hz) (by decide) (by decide) (S.2.2.2.2 _ m_213) (hX.2.2.face n_227 fcx1) hce hcv hcl ?_
      refine lv_astore_n (lv' := [(3, .ref q), (0, .ref (ad 0)), (1, .int a0), (2, .int b0)]) hx hb dL_setPrice_7 rfl hl (by decide) rfl (fun ls hl => ?_)
      refine lv_ldc (v := (-1000001)) hx hb S.2.2.2.1 (S.2.2.2.2 _ m_294) dL_setPrice_8 ?_
      refine vx_ret ?_
      exact W.iret (v := (-1000001)) hx hb hr (fun t ht9 hW => ⟨⟨_, rfl, (hcV_1 hk).symm⟩, by rw [ht9, if_neg he]; exact kp hX.1 f1, hS1.F ht9⟩) hS1.2.2 dL_setPrice_10
    · rw [hk] at hq
      subst hq
      refine vx_catch S.2.2.2.1 [⟨0, 6, 7, 16⟩] ⟨0, 6, 11, 19⟩ [] ht (fun z hz => by
        rcases List.mem_cons.mp hz with rfl | hz
        · exact Or.inr ⟨by decide, _, S.2.2.2.2 _ m_213, hX.2.2.nc ncx21⟩
        cases hz) (by decide) (by decide) (S.2.2.2.2 _ m_438) (hX.2.2.face n_448 fcx2) hce hcv hcl ?_
      refine lv_astore_n (lv' := [(3, .ref q), (0, .ref (ad 0)), (1, .int a0), (2, .int b0)]) hx hb dL_setPrice_11 rfl hl (by decide) rfl (fun ls hl => ?_)
      refine lv_ldc (v := (-1000002)) hx hb S.2.2.2.1 (S.2.2.2.2 _ m_394) dL_setPrice_12 ?_
      refine vx_ret ?_
      exact W.iret (v := (-1000002)) hx hb hr (fun t ht9 hW => ⟨⟨_, rfl, (hcV_2 hk).symm⟩, by rw [ht9, if_neg he]; exact kp hX.1 f1, hS1.F ht9⟩) hS1.2.2 dL_setPrice_14

theorem ek_setBound (σ : kS) (nm ns : Nat) (a0 : Int32) (b0 : Int32) : eX_setBound a0 b0 = 0 ∨ eX_setBound a0 b0 = 1 ∨ eX_setBound a0 b0 = 2 := by
  unfold eX_setBound
  (repeat' split) <;> decide
set_option maxHeartbeats 4000000 in
set_option maxRecDepth 100000 in
theorem kL_setBound (l : Launch) (G : kG) (ad : Nat → Nat) (σ : kS) (nm ns : Nat) (a0 b0 : Int32) (hst : l.stackTraces = false) (hns : σ 18 0 = nI ns) (hns4 : ns ≤ 40) (hnm : σ 17 0 = nI nm) (hnm2 : nm ≤ 200)   (A1 : Nat → Prop) (hD : DD 20 A1 ad) : vx_Met l yL_setBound [.codeWith yL_setBound cL_setBound 4 (some .int) [(0, 6, 7, 16), (0, 6, 11, 19)]] ({ frames := 8, cells := 2, slots := 12, locals := 147 }) (va_Pc [.ref (ad 0), .int a0, .int b0] (fun U => PX G ad σ U U.heap ∧ ZS U U.heap)) (oW A1 (fun r => r = hcV (eX_setBound a0 b0) (σ 1 (ixN a0))) (fun H9 => va_P G.1 vwCl (wX G ad (if eX_setBound a0 b0 = 0 then (su σ 1 (ixN a0) b0) else σ)) H9)) (fun _ _ _ => False) 2 12 A1 := by
  refine kh_of (by decide) (Nat.le_of_ble_eq_true rfl) (fun U h => h.1.2.2) ?_
  intro p e s m below meth c ls S hr hlocks ht hB hl
  have hx := S.1
  have hb := S.2.1
  obtain ⟨hX, hZ⟩ := hB
  have hl : lv_has ls 4 [(0, .ref (ad 0)), (1, .int a0), (2, .int b0)] := hl
  refine lv_aload_n hx hb dL_setBound_0 rfl (lv_at hl 0 rfl) ?_
  refine lv_iload_n hx hb dL_setBound_1 rfl (lv_at hl 1 rfl) ?_
  refine lv_iload_n hx hb dL_setBound_2 rfl (lv_at hl 2 rfl) ?_
  refine q_hw (rx_V S ⟨m_527, m_528, m_529, m_23, m_530⟩ ⟨rfl, by decide, by decide, by decide +kernel⟩ (c_setBound l G ad σ nm ns a0 b0 hst hns hns4 hnm hnm2 A1 hD) ⟨rfl, rfl, Nat.le_of_ble_eq_true rfl, Nat.le_of_ble_eq_true rfl⟩ (pv_X hX 0 rfl rfl bl_PXZ (bXZ hX hZ)) (n := 2) (As := [.int a0, .int b0]) (rest := []) rfl hl.1 rfl (Nat.le_of_ble_eq_true rfl) ⟨Nat.le_of_ble_eq_true rfl, Nat.le_of_ble_eq_true rfl⟩ dL_setBound_3) (va_S.rf (A := A1)) (fun q h => h) (fun r H1 L1 ⟨he, hv⟩ h1 f1 hS1 => ?_) (fun x q ce H1 L1 ⟨he, hq⟩ f1 hS1 hce hcv hcl => ?_)
  · subst hv
    refine vx_ret ?_
    exact W.iret (v := σ 1 (ixN a0)) hx hb hr (fun t ht9 hW => ⟨⟨_, rfl, (hcV_0 he).symm⟩, by rw [ht9, if_pos he]; exact h1, hS1.F ht9⟩) hS1.2.2 dL_setBound_6
  · rcases ek_setBound σ nm ns a0 b0 with hk | hk | hk
    · exact absurd hk he
    · rw [hk] at hq
      subst hq
      refine vx_catch S.2.2.2.1 [] ⟨0, 6, 7, 16⟩ [⟨0, 6, 11, 19⟩] ht (fun z hz => by cases hz) (by decide) (by decide) (S.2.2.2.2 _ m_213) (hX.2.2.face n_227 fcx1) hce hcv hcl ?_
      refine lv_astore_n (lv' := [(3, .ref q), (0, .ref (ad 0)), (1, .int a0), (2, .int b0)]) hx hb dL_setBound_7 rfl hl (by decide) rfl (fun ls hl => ?_)
      refine lv_ldc (v := (-1000001)) hx hb S.2.2.2.1 (S.2.2.2.2 _ m_294) dL_setBound_8 ?_
      refine vx_ret ?_
      exact W.iret (v := (-1000001)) hx hb hr (fun t ht9 hW => ⟨⟨_, rfl, (hcV_1 hk).symm⟩, by rw [ht9, if_neg he]; exact kp hX.1 f1, hS1.F ht9⟩) hS1.2.2 dL_setBound_10
    · rw [hk] at hq
      subst hq
      refine vx_catch S.2.2.2.1 [⟨0, 6, 7, 16⟩] ⟨0, 6, 11, 19⟩ [] ht (fun z hz => by
        rcases List.mem_cons.mp hz with rfl | hz
        · exact Or.inr ⟨by decide, _, S.2.2.2.2 _ m_213, hX.2.2.nc ncx21⟩
        cases hz) (by decide) (by decide) (S.2.2.2.2 _ m_438) (hX.2.2.face n_448 fcx2) hce hcv hcl ?_
      refine lv_astore_n (lv' := [(3, .ref q), (0, .ref (ad 0)), (1, .int a0), (2, .int b0)]) hx hb dL_setBound_11 rfl hl (by decide) rfl (fun ls hl => ?_)
      refine lv_ldc (v := (-1000002)) hx hb S.2.2.2.1 (S.2.2.2.2 _ m_394) dL_setBound_12 ?_
      refine vx_ret ?_
      exact W.iret (v := (-1000002)) hx hb hr (fun t ht9 hW => ⟨⟨_, rfl, (hcV_2 hk).symm⟩, by rw [ht9, if_neg he]; exact kp hX.1 f1, hS1.F ht9⟩) hS1.2.2 dL_setBound_14

theorem ek_move (σ : kS) (nm ns : Nat) (a0 : Int32) (b0 : Int32) (c0 : Int32) (d0 : Int32) (e0 : Int32) : eX_move σ a0 b0 c0 d0 e0 = 0 ∨ eX_move σ a0 b0 c0 d0 e0 = 1 ∨ eX_move σ a0 b0 c0 d0 e0 = 2 ∨ eX_move σ a0 b0 c0 d0 e0 = 3 := by
  unfold eX_move
  (repeat' split) <;> decide
set_option maxHeartbeats 4000000 in
set_option maxRecDepth 100000 in
theorem kL_move (l : Launch) (G : kG) (ad : Nat → Nat) (σ : kS) (nm ns : Nat) (a0 b0 c0 d0 e0 : Int32) (hst : l.stackTraces = false) (hns : σ 18 0 = nI ns) (hns4 : ns ≤ 40) (hnm : σ 17 0 = nI nm) (hnm2 : nm ≤ 200)   (A1 : Nat → Prop) (hD : DD 20 A1 ad) : vx_Met l yL_move [.codeWith yL_move cL_move 7 (some .int) [(0, 11, 12, 16), (0, 11, 17, 19), (0, 11, 22, 29)]] ({ frames := 9, cells := 6, slots := 36, locals := 169 }) (va_Pc [.ref (ad 0), .int a0, .int b0, .int c0, .int d0, .int e0] (fun U => PX G ad σ U U.heap ∧ ZS U U.heap)) (oW A1 (fun r => r = hcV (eX_move σ a0 b0 c0 d0 e0) (nI nm)) (fun H9 => va_P G.1 vwCl (wX G ad (if eX_move σ a0 b0 c0 d0 e0 = 0 then (mvS σ nm a0 b0 c0 d0 e0) else σ)) H9)) (fun _ _ _ => False) 6 36 A1 := by
  refine kh_of (by decide) (Nat.le_of_ble_eq_true rfl) (fun U h => h.1.2.2) ?_
  intro p e s m below meth c ls S hr hlocks ht hB hl
  have hx := S.1
  have hb := S.2.1
  obtain ⟨hX, hZ⟩ := hB
  have hl : lv_has ls 7 [(0, .ref (ad 0)), (1, .int a0), (2, .int b0), (3, .int c0), (4, .int d0), (5, .int e0)] := hl
  refine lv_aload_n hx hb dL_move_0 rfl (lv_at hl 0 rfl) ?_
  refine lv_iload_n hx hb dL_move_1 rfl (lv_at hl 1 rfl) ?_
  refine lv_iload_n hx hb dL_move_2 rfl (lv_at hl 2 rfl) ?_
  refine lv_iload_n hx hb dL_move_3 rfl (lv_at hl 3 rfl) ?_
  refine lv_iload hx hb dL_move_4 (lv_at hl 4 rfl) ?_
  refine lv_iload hx hb dL_move_6 (lv_at hl 5 rfl) ?_
  refine q_hw (rx_V S ⟨m_497, m_498, m_499, m_23, m_500⟩ ⟨rfl, by decide, by decide, by decide +kernel⟩ (c_move l G ad σ nm ns a0 b0 c0 d0 e0 hst hns hns4 hnm hnm2 A1 hD) ⟨rfl, rfl, Nat.le_of_ble_eq_true rfl, Nat.le_of_ble_eq_true rfl⟩ (pv_X hX 0 rfl rfl bl_PXZ (bXZ hX hZ)) (n := 5) (As := [.int a0, .int b0, .int c0, .int d0, .int e0]) (rest := []) rfl hl.1 rfl (Nat.le_of_ble_eq_true rfl) ⟨Nat.le_of_ble_eq_true rfl, Nat.le_of_ble_eq_true rfl⟩ dL_move_8) (va_S.rf (A := A1)) (fun q h => h) (fun r H1 L1 ⟨he, hv⟩ h1 f1 hS1 => ?_) (fun x q ce H1 L1 ⟨he, hq⟩ f1 hS1 hce hcv hcl => ?_)
  · subst hv
    refine vx_ret ?_
    exact W.iret (v := nI nm) hx hb hr (fun t ht9 hW => ⟨⟨_, rfl, (hcV_0 he).symm⟩, by rw [ht9, if_pos he]; exact h1, hS1.F ht9⟩) hS1.2.2 dL_move_11
  · rcases ek_move σ nm ns a0 b0 c0 d0 e0 with hk | hk | hk | hk
    · exact absurd hk he
    · rw [hk] at hq
      subst hq
      refine vx_catch S.2.2.2.1 [] ⟨0, 11, 12, 16⟩ [⟨0, 11, 17, 19⟩, ⟨0, 11, 22, 29⟩] ht (fun z hz => by cases hz) (by decide) (by decide) (S.2.2.2.2 _ m_213) (hX.2.2.face n_227 fcx1) hce hcv hcl ?_
      refine lv_astore (lv' := [(6, .ref q), (0, .ref (ad 0)), (1, .int a0), (2, .int b0), (3, .int c0), (4, .int d0), (5, .int e0)]) hx hb dL_move_12 hl (by decide) rfl (fun ls hl => ?_)
      refine lv_ldc (v := (-1000001)) hx hb S.2.2.2.1 (S.2.2.2.2 _ m_294) dL_move_14 ?_
      refine vx_ret ?_
      exact W.iret (v := (-1000001)) hx hb hr (fun t ht9 hW => ⟨⟨_, rfl, (hcV_1 hk).symm⟩, by rw [ht9, if_neg he]; exact kp hX.1 f1, hS1.F ht9⟩) hS1.2.2 dL_move_16
    · rw [hk] at hq
      subst hq
      refine vx_catch S.2.2.2.1 [⟨0, 11, 12, 16⟩] ⟨0, 11, 17, 19⟩ [⟨0, 11, 22, 29⟩] ht (fun z hz => by
        rcases List.mem_cons.mp hz with rfl | hz
        · exact Or.inr ⟨by decide, _, S.2.2.2.2 _ m_213, hX.2.2.nc ncx21⟩
        cases hz) (by decide) (by decide) (S.2.2.2.2 _ m_438) (hX.2.2.face n_448 fcx2) hce hcv hcl ?_
      refine lv_astore (lv' := [(6, .ref q), (0, .ref (ad 0)), (1, .int a0), (2, .int b0), (3, .int c0), (4, .int d0), (5, .int e0)]) hx hb dL_move_17 hl (by decide) rfl (fun ls hl => ?_)
      refine lv_ldc (v := (-1000002)) hx hb S.2.2.2.1 (S.2.2.2.2 _ m_394) dL_move_19 ?_
      refine vx_ret ?_
      exact W.iret (v := (-1000002)) hx hb hr (fun t ht9 hW => ⟨⟨_, rfl, (hcV_2 hk).symm⟩, by rw [ht9, if_neg he]; exact kp hX.1 f1, hS1.F ht9⟩) hS1.2.2 dL_move_21
    · rw [hk] at hq
      subst hq
      refine vx_catch S.2.2.2.1 [⟨0, 11, 12, 16⟩, ⟨0, 11, 17, 19⟩] ⟨0, 11, 22, 29⟩ [] ht (fun z hz => by
        rcases List.mem_cons.mp hz with rfl | hz
        · exact Or.inr ⟨by decide, _, S.2.2.2.2 _ m_213, hX.2.2.nc ncx31⟩
        rcases List.mem_cons.mp hz with rfl | hz
        · exact Or.inr ⟨by decide, _, S.2.2.2.2 _ m_438, hX.2.2.nc ncx32⟩
        cases hz) (by decide) (by decide) (S.2.2.2.2 _ m_398) (hX.2.2.face n_405 fcx3) hce hcv hcl ?_
      refine lv_astore (lv' := [(6, .ref q), (0, .ref (ad 0)), (1, .int a0), (2, .int b0), (3, .int c0), (4, .int d0), (5, .int e0)]) hx hb dL_move_22 hl (by decide) rfl (fun ls hl => ?_)
      refine lv_ldc (v := (-1000003)) hx hb S.2.2.2.1 (S.2.2.2.2 _ m_427) dL_move_24 ?_
      refine vx_ret ?_
      exact W.iret (v := (-1000003)) hx hb hr (fun t ht9 hW => ⟨⟨_, rfl, (hcV_3 hk).symm⟩, by rw [ht9, if_neg he]; exact kp hX.1 f1, hS1.F ht9⟩) hS1.2.2 dL_move_26

theorem ek_pass (σ : kS) (nm ns : Nat) (a0 : Int32) : eX_pass a0 = 0 ∨ eX_pass a0 = 2 := by
  unfold eX_pass
  (repeat' split) <;> decide
set_option maxHeartbeats 4000000 in
set_option maxRecDepth 100000 in
theorem kL_pass (l : Launch) (G : kG) (ad : Nat → Nat) (σ : kS) (nm ns : Nat) (a0 : Int32) (hst : l.stackTraces = false) (hns : σ 18 0 = nI ns) (hns4 : ns ≤ 40) (hnm : σ 17 0 = nI nm) (hnm2 : nm ≤ 200)   (A1 : Nat → Prop) (hD : DD 20 A1 ad) : vx_Met l yL_pass [.codeWith yL_pass cL_pass 3 (some .int) [(0, 5, 6, 19)]] ({ frames := 8, cells := 1, slots := 6, locals := 146 }) (va_Pc [.ref (ad 0), .int a0] (fun U => PX G ad σ U U.heap ∧ ZS U U.heap)) (oW A1 (fun r => r = hcV (eX_pass a0) (σ 16 0 + a0)) (fun H9 => va_P G.1 vwCl (wX G ad (if eX_pass a0 = 0 then (su σ 16 0 (σ 16 0 + a0)) else σ)) H9)) (fun _ _ _ => False) 1 6 A1 := by
  refine kh_of (by decide) (Nat.le_of_ble_eq_true rfl) (fun U h => h.1.2.2) ?_
  intro p e s m below meth c ls S hr hlocks ht hB hl
  have hx := S.1
  have hb := S.2.1
  obtain ⟨hX, hZ⟩ := hB
  have hl : lv_has ls 3 [(0, .ref (ad 0)), (1, .int a0)] := hl
  refine lv_aload_n hx hb dL_pass_0 rfl (lv_at hl 0 rfl) ?_
  refine lv_iload_n hx hb dL_pass_1 rfl (lv_at hl 1 rfl) ?_
  refine q_hw (rx_V S ⟨m_513, m_514, m_515, m_23, m_516⟩ ⟨rfl, by decide, by decide, by decide +kernel⟩ (c_pass l G ad σ nm ns a0 hst hns hns4 hnm hnm2 A1 hD) ⟨rfl, rfl, Nat.le_of_ble_eq_true rfl, Nat.le_of_ble_eq_true rfl⟩ (pv_X hX 0 rfl rfl bl_PXZ (bXZ hX hZ)) (n := 1) (As := [.int a0]) (rest := []) rfl hl.1 rfl (Nat.le_of_ble_eq_true rfl) ⟨Nat.le_of_ble_eq_true rfl, Nat.le_of_ble_eq_true rfl⟩ dL_pass_2) (va_S.rf (A := A1)) (fun q h => h) (fun r H1 L1 ⟨he, hv⟩ h1 f1 hS1 => ?_) (fun x q ce H1 L1 ⟨he, hq⟩ f1 hS1 hce hcv hcl => ?_)
  · subst hv
    refine vx_ret ?_
    exact W.iret (v := σ 16 0 + a0) hx hb hr (fun t ht9 hW => ⟨⟨_, rfl, (hcV_0 he).symm⟩, by rw [ht9, if_pos he]; exact h1, hS1.F ht9⟩) hS1.2.2 dL_pass_5
  · rcases ek_pass σ nm ns a0 with hk | hk
    · exact absurd hk he
    · rw [hk] at hq
      subst hq
      refine vx_catch S.2.2.2.1 [] ⟨0, 5, 6, 19⟩ [] ht (fun z hz => by cases hz) (by decide) (by decide) (S.2.2.2.2 _ m_438) (hX.2.2.face n_448 fcx2) hce hcv hcl ?_
      refine lv_astore_n (lv' := [(2, .ref q), (0, .ref (ad 0)), (1, .int a0)]) hx hb dL_pass_6 rfl hl (by decide) rfl (fun ls hl => ?_)
      refine lv_ldc (v := (-1000002)) hx hb S.2.2.2.1 (S.2.2.2.2 _ m_394) dL_pass_7 ?_
      refine vx_ret ?_
      exact W.iret (v := (-1000002)) hx hb hr (fun t ht9 hW => ⟨⟨_, rfl, (hcV_2 hk).symm⟩, by rw [ht9, if_neg he]; exact kp hX.1 f1, hS1.F ht9⟩) hS1.2.2 dL_pass_9

theorem ek_open (σ : kS) (nm ns : Nat) (a0 : Int32) : eX_open σ ns a0 = 0 ∨ eX_open σ ns a0 = 1 ∨ eX_open σ ns a0 = 3 := by
  unfold eX_open
  (repeat' split) <;> decide
set_option maxHeartbeats 4000000 in
set_option maxRecDepth 100000 in
theorem kL_open (l : Launch) (G : kG) (ad : Nat → Nat) (σ : kS) (nm ns : Nat) (a0 : Int32) (hst : l.stackTraces = false) (hns : σ 18 0 = nI ns) (hns4 : ns ≤ 40) (hnm : σ 17 0 = nI nm) (hnm2 : nm ≤ 200)   (A1 : Nat → Prop) (hD : DD 20 A1 ad) : vx_Met l yL_open [.codeWith yL_open cL_open 3 (some .int) [(0, 5, 6, 16), (0, 5, 10, 29)]] ({ frames := 8, cells := 2, slots := 12, locals := 145 }) (va_Pc [.ref (ad 0), .int a0] (fun U => PX G ad σ U U.heap ∧ ZS U U.heap)) (oW A1 (fun r => r = hcV (eX_open σ ns a0) (nI ns)) (fun H9 => va_P G.1 vwCl (wX G ad (if eX_open σ ns a0 = 0 then (shS σ ns a0 (σ 16 0)) else σ)) H9)) (fun _ _ _ => False) 2 12 A1 := by
  refine kh_of (by decide) (Nat.le_of_ble_eq_true rfl) (fun U h => h.1.2.2) ?_
  intro p e s m below meth c ls S hr hlocks ht hB hl
  have hx := S.1
  have hb := S.2.1
  obtain ⟨hX, hZ⟩ := hB
  have hl : lv_has ls 3 [(0, .ref (ad 0)), (1, .int a0)] := hl
  refine lv_aload_n hx hb dL_open_0 rfl (lv_at hl 0 rfl) ?_
  refine lv_iload_n hx hb dL_open_1 rfl (lv_at hl 1 rfl) ?_
  refine q_hw (rx_V S ⟨m_536, m_537, m_538, m_23, m_539⟩ ⟨rfl, by decide, by decide, by decide +kernel⟩ (c_open l G ad σ nm ns a0 hst hns hns4 hnm hnm2 A1 hD) ⟨rfl, rfl, Nat.le_of_ble_eq_true rfl, Nat.le_of_ble_eq_true rfl⟩ (pv_X hX 0 rfl rfl bl_PXZ (bXZ hX hZ)) (n := 1) (As := [.int a0]) (rest := []) rfl hl.1 rfl (Nat.le_of_ble_eq_true rfl) ⟨Nat.le_of_ble_eq_true rfl, Nat.le_of_ble_eq_true rfl⟩ dL_open_2) (va_S.rf (A := A1)) (fun q h => h) (fun r H1 L1 ⟨he, hv⟩ h1 f1 hS1 => ?_) (fun x q ce H1 L1 ⟨he, hq⟩ f1 hS1 hce hcv hcl => ?_)
  · subst hv
    refine vx_ret ?_
    exact W.iret (v := nI ns) hx hb hr (fun t ht9 hW => ⟨⟨_, rfl, (hcV_0 he).symm⟩, by rw [ht9, if_pos he]; exact h1, hS1.F ht9⟩) hS1.2.2 dL_open_5
  · rcases ek_open σ nm ns a0 with hk | hk | hk
    · exact absurd hk he
    · rw [hk] at hq
      subst hq
      refine vx_catch S.2.2.2.1 [] ⟨0, 5, 6, 16⟩ [⟨0, 5, 10, 29⟩] ht (fun z hz => by cases hz) (by decide) (by decide) (S.2.2.2.2 _ m_213) (hX.2.2.face n_227 fcx1) hce hcv hcl ?_
      refine lv_astore_n (lv' := [(2, .ref q), (0, .ref (ad 0)), (1, .int a0)]) hx hb dL_open_6 rfl hl (by decide) rfl (fun ls hl => ?_)
      refine lv_ldc (v := (-1000001)) hx hb S.2.2.2.1 (S.2.2.2.2 _ m_294) dL_open_7 ?_
      refine vx_ret ?_
      exact W.iret (v := (-1000001)) hx hb hr (fun t ht9 hW => ⟨⟨_, rfl, (hcV_1 hk).symm⟩, by rw [ht9, if_neg he]; exact kp hX.1 f1, hS1.F ht9⟩) hS1.2.2 dL_open_9
    · rw [hk] at hq
      subst hq
      refine vx_catch S.2.2.2.1 [⟨0, 5, 6, 16⟩] ⟨0, 5, 10, 29⟩ [] ht (fun z hz => by
        rcases List.mem_cons.mp hz with rfl | hz
        · exact Or.inr ⟨by decide, _, S.2.2.2.2 _ m_213, hX.2.2.nc ncx31⟩
        cases hz) (by decide) (by decide) (S.2.2.2.2 _ m_398) (hX.2.2.face n_405 fcx3) hce hcv hcl ?_
      refine lv_astore_n (lv' := [(2, .ref q), (0, .ref (ad 0)), (1, .int a0)]) hx hb dL_open_10 rfl hl (by decide) rfl (fun ls hl => ?_)
      refine lv_ldc (v := (-1000003)) hx hb S.2.2.2.1 (S.2.2.2.2 _ m_427) dL_open_11 ?_
      refine vx_ret ?_
      exact W.iret (v := (-1000003)) hx hb hr (fun t ht9 hW => ⟨⟨_, rfl, (hcV_3 hk).symm⟩, by rw [ht9, if_neg he]; exact kp hX.1 f1, hS1.F ht9⟩) hS1.2.2 dL_open_13

theorem ek_count (σ : kS) (nm ns : Nat) (a0 : Int32) (b0 : Int32) (c0 : Int32) (d0 : Int32) : eX_count σ a0 b0 c0 d0 = 0 ∨ eX_count σ a0 b0 c0 d0 = 1 ∨ eX_count σ a0 b0 c0 d0 = 2 ∨ eX_count σ a0 b0 c0 d0 = 3 := by
  unfold eX_count
  (repeat' split) <;> decide
set_option maxHeartbeats 4000000 in
set_option maxRecDepth 100000 in
theorem kL_count (l : Launch) (G : kG) (ad : Nat → Nat) (σ : kS) (nm ns : Nat) (a0 b0 c0 d0 : Int32) (hst : l.stackTraces = false) (hns : σ 18 0 = nI ns) (hns4 : ns ≤ 40) (hnm : σ 17 0 = nI nm) (hnm2 : nm ≤ 200)   (A1 : Nat → Prop) (hD : DD 20 A1 ad) : vx_Met l yL_count [.codeWith yL_count cL_count 6 (some .int) [(0, 17, 18, 16), (0, 17, 23, 19), (0, 17, 28, 29)]] ({ frames := 8, cells := 5, slots := 30, locals := 149 }) (va_Pc [.ref (ad 0), .int a0, .int b0, .int c0, .int d0] (fun U => PX G ad σ U U.heap ∧ ZS U U.heap)) (oW A1 (fun r => r = hcV (eX_count σ a0 b0 c0 d0) (bI (agB (adS σ (lnN a0 c0) b0 d0) (lnN a0 c0)))) (fun H9 => va_P G.1 vwCl (wX G ad (if eX_count σ a0 b0 c0 d0 = 0 then (adS σ (lnN a0 c0) b0 d0) else σ)) H9)) (fun _ _ _ => False) 5 30 A1 := by
  refine kh_of (by decide) (Nat.le_of_ble_eq_true rfl) (fun U h => h.1.2.2) ?_
  intro p e s m below meth c ls S hr hlocks ht hB hl
  have hx := S.1
  have hb := S.2.1
  obtain ⟨hX, hZ⟩ := hB
  have hl : lv_has ls 6 [(0, .ref (ad 0)), (1, .int a0), (2, .int b0), (3, .int c0), (4, .int d0)] := hl
  refine lv_aload_n hx hb dL_count_0 rfl (lv_at hl 0 rfl) ?_
  refine lv_iload_n hx hb dL_count_1 rfl (lv_at hl 1 rfl) ?_
  refine lv_iload_n hx hb dL_count_2 rfl (lv_at hl 2 rfl) ?_
  refine lv_iload_n hx hb dL_count_3 rfl (lv_at hl 3 rfl) ?_
  refine lv_iload hx hb dL_count_4 (lv_at hl 4 rfl) ?_
  refine q_hw (rx_V S ⟨m_549, m_550, m_551, m_23, m_552⟩ ⟨rfl, by decide, by decide, by decide +kernel⟩ (c_count l G ad σ nm ns a0 b0 c0 d0 hst hns hns4 hnm hnm2 A1 hD) ⟨rfl, rfl, Nat.le_of_ble_eq_true rfl, Nat.le_of_ble_eq_true rfl⟩ (pv_X hX 0 rfl rfl bl_PXZ (bXZ hX hZ)) (n := 4) (As := [.int a0, .int b0, .int c0, .int d0]) (rest := []) rfl hl.1 rfl (Nat.le_of_ble_eq_true rfl) ⟨Nat.le_of_ble_eq_true rfl, Nat.le_of_ble_eq_true rfl⟩ dL_count_6) (va_S.rf (A := A1)) (fun q h => h) (fun r H1 L1 ⟨he, hv⟩ h1 f1 hS1 => ?_) (fun x q ce H1 L1 ⟨he, hq⟩ f1 hS1 hce hcv hcl => ?_)
  · subst hv
    refine lv_if_eq (tgt := 16) hx hb dL_count_9 (by decide) (fun cz => ?_) (fun cz => ?_)
    · refine lv_iconst (v := 0) hx hb dL_count_16 (by decide) ?_
      refine vx_ret ?_
      exact W.iret (v := 0) hx hb hr (fun t ht9 hW => ⟨⟨_, rfl, (by rw [hcV_0 he]; exact cz.symm)⟩, by rw [ht9, if_pos he]; exact h1, hS1.F ht9⟩) hS1.2.2 dL_count_17
    · refine lv_iconst (v := 1) hx hb dL_count_12 (by decide) ?_
      refine lv_goto (tgt := 17) hx hb dL_count_13 (by decide) ?_
      refine vx_ret ?_
      exact W.iret (v := 1) hx hb hr (fun t ht9 hW => ⟨⟨_, rfl, (by rw [hcV_0 he, bI_n cz]; rfl)⟩, by rw [ht9, if_pos he]; exact h1, hS1.F ht9⟩) hS1.2.2 dL_count_17
  · rcases ek_count σ nm ns a0 b0 c0 d0 with hk | hk | hk | hk
    · exact absurd hk he
    · rw [hk] at hq
      subst hq
      refine vx_catch S.2.2.2.1 [] ⟨0, 17, 18, 16⟩ [⟨0, 17, 23, 19⟩, ⟨0, 17, 28, 29⟩] ht (fun z hz => by cases hz) (by decide) (by decide) (S.2.2.2.2 _ m_213) (hX.2.2.face n_227 fcx1) hce hcv hcl ?_
      refine lv_astore (lv' := [(5, .ref q), (0, .ref (ad 0)), (1, .int a0), (2, .int b0), (3, .int c0), (4, .int d0)]) hx hb dL_count_18 hl (by decide) rfl (fun ls hl => ?_)
      refine lv_ldc (v := (-1000001)) hx hb S.2.2.2.1 (S.2.2.2.2 _ m_294) dL_count_20 ?_
      refine vx_ret ?_
      exact W.iret (v := (-1000001)) hx hb hr (fun t ht9 hW => ⟨⟨_, rfl, (hcV_1 hk).symm⟩, by rw [ht9, if_neg he]; exact kp hX.1 f1, hS1.F ht9⟩) hS1.2.2 dL_count_22
    · rw [hk] at hq
      subst hq
      refine vx_catch S.2.2.2.1 [⟨0, 17, 18, 16⟩] ⟨0, 17, 23, 19⟩ [⟨0, 17, 28, 29⟩] ht (fun z hz => by
        rcases List.mem_cons.mp hz with rfl | hz
        · exact Or.inr ⟨by decide, _, S.2.2.2.2 _ m_213, hX.2.2.nc ncx21⟩
        cases hz) (by decide) (by decide) (S.2.2.2.2 _ m_438) (hX.2.2.face n_448 fcx2) hce hcv hcl ?_
      refine lv_astore (lv' := [(5, .ref q), (0, .ref (ad 0)), (1, .int a0), (2, .int b0), (3, .int c0), (4, .int d0)]) hx hb dL_count_23 hl (by decide) rfl (fun ls hl => ?_)
      refine lv_ldc (v := (-1000002)) hx hb S.2.2.2.1 (S.2.2.2.2 _ m_394) dL_count_25 ?_
      refine vx_ret ?_
      exact W.iret (v := (-1000002)) hx hb hr (fun t ht9 hW => ⟨⟨_, rfl, (hcV_2 hk).symm⟩, by rw [ht9, if_neg he]; exact kp hX.1 f1, hS1.F ht9⟩) hS1.2.2 dL_count_27
    · rw [hk] at hq
      subst hq
      refine vx_catch S.2.2.2.1 [⟨0, 17, 18, 16⟩, ⟨0, 17, 23, 19⟩] ⟨0, 17, 28, 29⟩ [] ht (fun z hz => by
        rcases List.mem_cons.mp hz with rfl | hz
        · exact Or.inr ⟨by decide, _, S.2.2.2.2 _ m_213, hX.2.2.nc ncx31⟩
        rcases List.mem_cons.mp hz with rfl | hz
        · exact Or.inr ⟨by decide, _, S.2.2.2.2 _ m_438, hX.2.2.nc ncx32⟩
        cases hz) (by decide) (by decide) (S.2.2.2.2 _ m_398) (hX.2.2.face n_405 fcx3) hce hcv hcl ?_
      refine lv_astore (lv' := [(5, .ref q), (0, .ref (ad 0)), (1, .int a0), (2, .int b0), (3, .int c0), (4, .int d0)]) hx hb dL_count_28 hl (by decide) rfl (fun ls hl => ?_)
      refine lv_ldc (v := (-1000003)) hx hb S.2.2.2.1 (S.2.2.2.2 _ m_427) dL_count_30 ?_
      refine vx_ret ?_
      exact W.iret (v := (-1000003)) hx hb hr (fun t ht9 hW => ⟨⟨_, rfl, (hcV_3 hk).symm⟩, by rw [ht9, if_neg he]; exact kp hX.1 f1, hS1.F ht9⟩) hS1.2.2 dL_count_32

theorem ek_close (σ : kS) (nm ns : Nat) (a0 : Int32) : eX_close σ a0 = 0 ∨ eX_close σ a0 = 1 ∨ eX_close σ a0 = 3 := by
  unfold eX_close
  (repeat' split) <;> decide
set_option maxHeartbeats 4000000 in
set_option maxRecDepth 100000 in
theorem kL_close (l : Launch) (G : kG) (ad : Nat → Nat) (σ : kS) (nm ns : Nat) (a0 : Int32) (hst : l.stackTraces = false) (hns : σ 18 0 = nI ns) (hns4 : ns ≤ 40) (hnm : σ 17 0 = nI nm) (hnm2 : nm ≤ 200)   (A1 : Nat → Prop) (hD : DD 20 A1 ad) : vx_Met l yL_close [.codeWith yL_close cL_close 3 (some .int) [(0, 5, 6, 16), (0, 5, 10, 29)]] ({ frames := 8, cells := 2, slots := 12, locals := 145 }) (va_Pc [.ref (ad 0), .int a0] (fun U => PX G ad σ U U.heap ∧ ZS U U.heap)) (oW A1 (fun r => r = hcV (eX_close σ a0) (clA σ (ixN a0) 5)) (fun H9 => va_P G.1 vwCl (wX G ad (if eX_close σ a0 = 0 then (su σ 9 (ixN a0) 1) else σ)) H9)) (fun _ _ _ => False) 2 12 A1 := by
  refine kh_of (by decide) (Nat.le_of_ble_eq_true rfl) (fun U h => h.1.2.2) ?_
  intro p e s m below meth c ls S hr hlocks ht hB hl
  have hx := S.1
  have hb := S.2.1
  obtain ⟨hX, hZ⟩ := hB
  have hl : lv_has ls 3 [(0, .ref (ad 0)), (1, .int a0)] := hl
  refine lv_aload_n hx hb dL_close_0 rfl (lv_at hl 0 rfl) ?_
  refine lv_iload_n hx hb dL_close_1 rfl (lv_at hl 1 rfl) ?_
  refine q_hw (rx_V S ⟨m_576, m_577, m_578, m_23, m_579⟩ ⟨rfl, by decide, by decide, by decide +kernel⟩ (c_close l G ad σ nm ns a0 hst hns hns4 hnm hnm2 A1 hD) ⟨rfl, rfl, Nat.le_of_ble_eq_true rfl, Nat.le_of_ble_eq_true rfl⟩ (pv_X hX 0 rfl rfl bl_PXZ (bXZ hX hZ)) (n := 1) (As := [.int a0]) (rest := []) rfl hl.1 rfl (Nat.le_of_ble_eq_true rfl) ⟨Nat.le_of_ble_eq_true rfl, Nat.le_of_ble_eq_true rfl⟩ dL_close_2) (va_S.rf (A := A1)) (fun q h => h) (fun r H1 L1 ⟨he, hv⟩ h1 f1 hS1 => ?_) (fun x q ce H1 L1 ⟨he, hq⟩ f1 hS1 hce hcv hcl => ?_)
  · subst hv
    refine vx_ret ?_
    exact W.iret (v := clA σ (ixN a0) 5) hx hb hr (fun t ht9 hW => ⟨⟨_, rfl, (hcV_0 he).symm⟩, by rw [ht9, if_pos he]; exact h1, hS1.F ht9⟩) hS1.2.2 dL_close_5
  · rcases ek_close σ nm ns a0 with hk | hk | hk
    · exact absurd hk he
    · rw [hk] at hq
      subst hq
      refine vx_catch S.2.2.2.1 [] ⟨0, 5, 6, 16⟩ [⟨0, 5, 10, 29⟩] ht (fun z hz => by cases hz) (by decide) (by decide) (S.2.2.2.2 _ m_213) (hX.2.2.face n_227 fcx1) hce hcv hcl ?_
      refine lv_astore_n (lv' := [(2, .ref q), (0, .ref (ad 0)), (1, .int a0)]) hx hb dL_close_6 rfl hl (by decide) rfl (fun ls hl => ?_)
      refine lv_ldc (v := (-1000001)) hx hb S.2.2.2.1 (S.2.2.2.2 _ m_294) dL_close_7 ?_
      refine vx_ret ?_
      exact W.iret (v := (-1000001)) hx hb hr (fun t ht9 hW => ⟨⟨_, rfl, (hcV_1 hk).symm⟩, by rw [ht9, if_neg he]; exact kp hX.1 f1, hS1.F ht9⟩) hS1.2.2 dL_close_9
    · rw [hk] at hq
      subst hq
      refine vx_catch S.2.2.2.1 [⟨0, 5, 6, 16⟩] ⟨0, 5, 10, 29⟩ [] ht (fun z hz => by
        rcases List.mem_cons.mp hz with rfl | hz
        · exact Or.inr ⟨by decide, _, S.2.2.2.2 _ m_213, hX.2.2.nc ncx31⟩
        cases hz) (by decide) (by decide) (S.2.2.2.2 _ m_398) (hX.2.2.face n_405 fcx3) hce hcv hcl ?_
      refine lv_astore_n (lv' := [(2, .ref q), (0, .ref (ad 0)), (1, .int a0)]) hx hb dL_close_10 rfl hl (by decide) rfl (fun ls hl => ?_)
      refine lv_ldc (v := (-1000003)) hx hb S.2.2.2.1 (S.2.2.2.2 _ m_427) dL_close_11 ?_
      refine vx_ret ?_
      exact W.iret (v := (-1000003)) hx hb hr (fun t ht9 hW => ⟨⟨_, rfl, (hcV_3 hk).symm⟩, by rw [ht9, if_neg he]; exact kp hX.1 f1, hS1.F ht9⟩) hS1.2.2 dL_close_13

theorem ek_sign (σ : kS) (nm ns : Nat) (a0 : Int32) (b0 : Int32) (c0 : Int32) : eX_sign σ nm ns a0 b0 c0 = 0 ∨ eX_sign σ nm ns a0 b0 c0 = 1 ∨ eX_sign σ nm ns a0 b0 c0 = 4 ∨ eX_sign σ nm ns a0 b0 c0 = 3 := by
  unfold eX_sign
  (repeat' split) <;> decide
set_option maxHeartbeats 4000000 in
set_option maxRecDepth 100000 in
theorem kL_sign (l : Launch) (G : kG) (ad : Nat → Nat) (σ : kS) (nm ns : Nat) (a0 b0 c0 : Int32) (hst : l.stackTraces = false) (hns : σ 18 0 = nI ns) (hns4 : ns ≤ 40) (hnm : σ 17 0 = nI nm) (hnm2 : nm ≤ 200)   (A1 : Nat → Prop) (hD : DD 20 A1 ad) : vx_Met l yL_sign [.codeWith yL_sign cL_sign 5 (some .int) [(0, 7, 8, 16), (0, 7, 13, 50), (0, 7, 18, 29)]] ({ frames := 8, cells := 5, slots := 30, locals := 191 }) (va_Pc [.ref (ad 0), .int a0, .int b0, .int c0] (fun U => PX G ad σ U U.heap ∧ ZS U U.heap)) (oW A1 (fun r => r = hcV (eX_sign σ nm ns a0 b0 c0) (gpV σ nm ns (ixN a0) (ixN b0))) (fun H9 => va_P G.1 vwCl (wX G ad (if eX_sign σ nm ns a0 b0 c0 = 0 then (wrS σ (lnN a0 b0) (gpV σ nm ns (ixN a0) (ixN b0))) else σ)) H9)) (fun _ _ _ => False) 5 30 A1 := by
  refine kh_of (by decide) (Nat.le_of_ble_eq_true rfl) (fun U h => h.1.2.2) ?_
  intro p e s m below meth c ls S hr hlocks ht hB hl
  have hx := S.1
  have hb := S.2.1
  obtain ⟨hX, hZ⟩ := hB
  have hl : lv_has ls 5 [(0, .ref (ad 0)), (1, .int a0), (2, .int b0), (3, .int c0)] := hl
  refine lv_aload_n hx hb dL_sign_0 rfl (lv_at hl 0 rfl) ?_
  refine lv_iload_n hx hb dL_sign_1 rfl (lv_at hl 1 rfl) ?_
  refine lv_iload_n hx hb dL_sign_2 rfl (lv_at hl 2 rfl) ?_
  refine lv_iload_n hx hb dL_sign_3 rfl (lv_at hl 3 rfl) ?_
  refine q_hw (rx_V S ⟨m_399, m_400, m_401, m_23, m_402⟩ ⟨rfl, by decide, by decide, by decide +kernel⟩ (c_sign l G ad σ nm ns a0 b0 c0 hst hns hns4 hnm hnm2 A1 hD) ⟨rfl, rfl, Nat.le_of_ble_eq_true rfl, Nat.le_of_ble_eq_true rfl⟩ (pv_X hX 0 rfl rfl bl_PXZ (bXZ hX hZ)) (n := 3) (As := [.int a0, .int b0, .int c0]) (rest := []) rfl hl.1 rfl (Nat.le_of_ble_eq_true rfl) ⟨Nat.le_of_ble_eq_true rfl, Nat.le_of_ble_eq_true rfl⟩ dL_sign_4) (va_S.rf (A := A1)) (fun q h => h) (fun r H1 L1 ⟨he, hv⟩ h1 f1 hS1 => ?_) (fun x q ce H1 L1 ⟨he, hq⟩ f1 hS1 hce hcv hcl => ?_)
  · subst hv
    refine vx_ret ?_
    exact W.iret (v := gpV σ nm ns (ixN a0) (ixN b0)) hx hb hr (fun t ht9 hW => ⟨⟨_, rfl, (hcV_0 he).symm⟩, by rw [ht9, if_pos he]; exact h1, hS1.F ht9⟩) hS1.2.2 dL_sign_7
  · rcases ek_sign σ nm ns a0 b0 c0 with hk | hk | hk | hk
    · exact absurd hk he
    · rw [hk] at hq
      subst hq
      refine vx_catch S.2.2.2.1 [] ⟨0, 7, 8, 16⟩ [⟨0, 7, 13, 50⟩, ⟨0, 7, 18, 29⟩] ht (fun z hz => by cases hz) (by decide) (by decide) (S.2.2.2.2 _ m_213) (hX.2.2.face n_227 fcx1) hce hcv hcl ?_
      refine lv_astore (lv' := [(4, .ref q), (0, .ref (ad 0)), (1, .int a0), (2, .int b0), (3, .int c0)]) hx hb dL_sign_8 hl (by decide) rfl (fun ls hl => ?_)
      refine lv_ldc (v := (-1000001)) hx hb S.2.2.2.1 (S.2.2.2.2 _ m_294) dL_sign_10 ?_
      refine vx_ret ?_
      exact W.iret (v := (-1000001)) hx hb hr (fun t ht9 hW => ⟨⟨_, rfl, (hcV_1 hk).symm⟩, by rw [ht9, if_neg he]; exact kp hX.1 f1, hS1.F ht9⟩) hS1.2.2 dL_sign_12
    · rw [hk] at hq
      subst hq
      refine vx_catch S.2.2.2.1 [⟨0, 7, 8, 16⟩] ⟨0, 7, 13, 50⟩ [⟨0, 7, 18, 29⟩] ht (fun z hz => by
        rcases List.mem_cons.mp hz with rfl | hz
        · exact Or.inr ⟨by decide, _, S.2.2.2.2 _ m_213, hX.2.2.nc ncx41⟩
        cases hz) (by decide) (by decide) (S.2.2.2.2 _ m_369) (hX.2.2.face n_380 fcx4) hce hcv hcl ?_
      refine lv_astore (lv' := [(4, .ref q), (0, .ref (ad 0)), (1, .int a0), (2, .int b0), (3, .int c0)]) hx hb dL_sign_13 hl (by decide) rfl (fun ls hl => ?_)
      refine lv_ldc (v := (-1000002)) hx hb S.2.2.2.1 (S.2.2.2.2 _ m_394) dL_sign_15 ?_
      refine vx_ret ?_
      exact W.iret (v := (-1000002)) hx hb hr (fun t ht9 hW => ⟨⟨_, rfl, (hcV_4 hk).symm⟩, by rw [ht9, if_neg he]; exact kp hX.1 f1, hS1.F ht9⟩) hS1.2.2 dL_sign_17
    · rw [hk] at hq
      subst hq
      refine vx_catch S.2.2.2.1 [⟨0, 7, 8, 16⟩, ⟨0, 7, 13, 50⟩] ⟨0, 7, 18, 29⟩ [] ht (fun z hz => by
        rcases List.mem_cons.mp hz with rfl | hz
        · exact Or.inr ⟨by decide, _, S.2.2.2.2 _ m_213, hX.2.2.nc ncx31⟩
        rcases List.mem_cons.mp hz with rfl | hz
        · exact Or.inr ⟨by decide, _, S.2.2.2.2 _ m_369, hX.2.2.nc ncx34⟩
        cases hz) (by decide) (by decide) (S.2.2.2.2 _ m_398) (hX.2.2.face n_405 fcx3) hce hcv hcl ?_
      refine lv_astore (lv' := [(4, .ref q), (0, .ref (ad 0)), (1, .int a0), (2, .int b0), (3, .int c0)]) hx hb dL_sign_18 hl (by decide) rfl (fun ls hl => ?_)
      refine lv_ldc (v := (-1000003)) hx hb S.2.2.2.1 (S.2.2.2.2 _ m_427) dL_sign_20 ?_
      refine vx_ret ?_
      exact W.iret (v := (-1000003)) hx hb hr (fun t ht9 hW => ⟨⟨_, rfl, (hcV_3 hk).symm⟩, by rw [ht9, if_neg he]; exact kp hX.1 f1, hS1.F ht9⟩) hS1.2.2 dL_sign_22

theorem ek_settle (σ : kS) (nm ns : Nat) (a0 : Int32) (b0 : Int32) (c0 : Int32) : eX_settle σ nm ns a0 b0 c0 = 0 ∨ eX_settle σ nm ns a0 b0 c0 = 1 ∨ eX_settle σ nm ns a0 b0 c0 = 4 ∨ eX_settle σ nm ns a0 b0 c0 = 3 := by
  unfold eX_settle
  (repeat' split) <;> decide
set_option maxHeartbeats 4000000 in
set_option maxRecDepth 100000 in
theorem kL_settle (l : Launch) (G : kG) (ad : Nat → Nat) (σ : kS) (nm ns : Nat) (a0 b0 c0 : Int32) (hst : l.stackTraces = false) (hns : σ 18 0 = nI ns) (hns4 : ns ≤ 40) (hnm : σ 17 0 = nI nm) (hnm2 : nm ≤ 200)   (A1 : Nat → Prop) (hD : DD 20 A1 ad) : vx_Met l yL_settle [.codeWith yL_settle cL_settle 5 (some .int) [(0, 7, 8, 16), (0, 7, 13, 50), (0, 7, 18, 29)]] ({ frames := 8, cells := 6, slots := 36, locals := 215 }) (va_Pc [.ref (ad 0), .int a0, .int b0, .int c0] (fun U => PX G ad σ U U.heap ∧ ZS U U.heap)) (oW A1 (fun r => r = hcV (eX_settle σ nm ns a0 b0 c0) (abV (gpV σ nm ns (ixN a0) (ixN c0)))) (fun H9 => va_P G.1 vwCl (wX G ad (if eX_settle σ nm ns a0 b0 c0 = 0 then (wrS (wrS σ (lnN a0 c0) (gpV σ nm ns (ixN a0) (ixN c0))) (lnN b0 c0) (-(gpV σ nm ns (ixN a0) (ixN c0)))) else σ)) H9)) (fun _ _ _ => False) 6 36 A1 := by
  refine kh_of (by decide) (Nat.le_of_ble_eq_true rfl) (fun U h => h.1.2.2) ?_
  intro p e s m below meth c ls S hr hlocks ht hB hl
  have hx := S.1
  have hb := S.2.1
  obtain ⟨hX, hZ⟩ := hB
  have hl : lv_has ls 5 [(0, .ref (ad 0)), (1, .int a0), (2, .int b0), (3, .int c0)] := hl
  refine lv_aload_n hx hb dL_settle_0 rfl (lv_at hl 0 rfl) ?_
  refine lv_iload_n hx hb dL_settle_1 rfl (lv_at hl 1 rfl) ?_
  refine lv_iload_n hx hb dL_settle_2 rfl (lv_at hl 2 rfl) ?_
  refine lv_iload_n hx hb dL_settle_3 rfl (lv_at hl 3 rfl) ?_
  refine q_hw (rx_V S ⟨m_595, m_596, m_597, m_23, m_598⟩ ⟨rfl, by decide, by decide, by decide +kernel⟩ (c_settle l G ad σ nm ns a0 b0 c0 hst hns hns4 hnm hnm2 A1 hD) ⟨rfl, rfl, Nat.le_of_ble_eq_true rfl, Nat.le_of_ble_eq_true rfl⟩ (pv_X hX 0 rfl rfl bl_PXZ (bXZ hX hZ)) (n := 3) (As := [.int a0, .int b0, .int c0]) (rest := []) rfl hl.1 rfl (Nat.le_of_ble_eq_true rfl) ⟨Nat.le_of_ble_eq_true rfl, Nat.le_of_ble_eq_true rfl⟩ dL_settle_4) (va_S.rf (A := A1)) (fun q h => h) (fun r H1 L1 ⟨he, hv⟩ h1 f1 hS1 => ?_) (fun x q ce H1 L1 ⟨he, hq⟩ f1 hS1 hce hcv hcl => ?_)
  · subst hv
    refine vx_ret ?_
    exact W.iret (v := abV (gpV σ nm ns (ixN a0) (ixN c0))) hx hb hr (fun t ht9 hW => ⟨⟨_, rfl, (hcV_0 he).symm⟩, by rw [ht9, if_pos he]; exact h1, hS1.F ht9⟩) hS1.2.2 dL_settle_7
  · rcases ek_settle σ nm ns a0 b0 c0 with hk | hk | hk | hk
    · exact absurd hk he
    · rw [hk] at hq
      subst hq
      refine vx_catch S.2.2.2.1 [] ⟨0, 7, 8, 16⟩ [⟨0, 7, 13, 50⟩, ⟨0, 7, 18, 29⟩] ht (fun z hz => by cases hz) (by decide) (by decide) (S.2.2.2.2 _ m_213) (hX.2.2.face n_227 fcx1) hce hcv hcl ?_
      refine lv_astore (lv' := [(4, .ref q), (0, .ref (ad 0)), (1, .int a0), (2, .int b0), (3, .int c0)]) hx hb dL_settle_8 hl (by decide) rfl (fun ls hl => ?_)
      refine lv_ldc (v := (-1000001)) hx hb S.2.2.2.1 (S.2.2.2.2 _ m_294) dL_settle_10 ?_
      refine vx_ret ?_
      exact W.iret (v := (-1000001)) hx hb hr (fun t ht9 hW => ⟨⟨_, rfl, (hcV_1 hk).symm⟩, by rw [ht9, if_neg he]; exact kp hX.1 f1, hS1.F ht9⟩) hS1.2.2 dL_settle_12
    · rw [hk] at hq
      subst hq
      refine vx_catch S.2.2.2.1 [⟨0, 7, 8, 16⟩] ⟨0, 7, 13, 50⟩ [⟨0, 7, 18, 29⟩] ht (fun z hz => by
        rcases List.mem_cons.mp hz with rfl | hz
        · exact Or.inr ⟨by decide, _, S.2.2.2.2 _ m_213, hX.2.2.nc ncx41⟩
        cases hz) (by decide) (by decide) (S.2.2.2.2 _ m_369) (hX.2.2.face n_380 fcx4) hce hcv hcl ?_
      refine lv_astore (lv' := [(4, .ref q), (0, .ref (ad 0)), (1, .int a0), (2, .int b0), (3, .int c0)]) hx hb dL_settle_13 hl (by decide) rfl (fun ls hl => ?_)
      refine lv_ldc (v := (-1000002)) hx hb S.2.2.2.1 (S.2.2.2.2 _ m_394) dL_settle_15 ?_
      refine vx_ret ?_
      exact W.iret (v := (-1000002)) hx hb hr (fun t ht9 hW => ⟨⟨_, rfl, (hcV_4 hk).symm⟩, by rw [ht9, if_neg he]; exact kp hX.1 f1, hS1.F ht9⟩) hS1.2.2 dL_settle_17
    · rw [hk] at hq
      subst hq
      refine vx_catch S.2.2.2.1 [⟨0, 7, 8, 16⟩, ⟨0, 7, 13, 50⟩] ⟨0, 7, 18, 29⟩ [] ht (fun z hz => by
        rcases List.mem_cons.mp hz with rfl | hz
        · exact Or.inr ⟨by decide, _, S.2.2.2.2 _ m_213, hX.2.2.nc ncx31⟩
        rcases List.mem_cons.mp hz with rfl | hz
        · exact Or.inr ⟨by decide, _, S.2.2.2.2 _ m_369, hX.2.2.nc ncx34⟩
        cases hz) (by decide) (by decide) (S.2.2.2.2 _ m_398) (hX.2.2.face n_405 fcx3) hce hcv hcl ?_
      refine lv_astore (lv' := [(4, .ref q), (0, .ref (ad 0)), (1, .int a0), (2, .int b0), (3, .int c0)]) hx hb dL_settle_18 hl (by decide) rfl (fun ls hl => ?_)
      refine lv_ldc (v := (-1000003)) hx hb S.2.2.2.1 (S.2.2.2.2 _ m_427) dL_settle_20 ?_
      refine vx_ret ?_
      exact W.iret (v := (-1000003)) hx hb hr (fun t ht9 hW => ⟨⟨_, rfl, (hcV_3 hk).symm⟩, by rw [ht9, if_neg he]; exact kp hX.1 f1, hS1.F ht9⟩) hS1.2.2 dL_settle_22

theorem ek_book (σ : kS) (nm ns : Nat) (a0 : Int32) (b0 : Int32) : eX_two a0 12 b0 5 = 0 ∨ eX_two a0 12 b0 5 = 1 := by
  unfold eX_two
  (repeat' split) <;> decide
set_option maxHeartbeats 4000000 in
set_option maxRecDepth 100000 in
theorem kL_book (l : Launch) (G : kG) (ad : Nat → Nat) (σ : kS) (nm ns : Nat) (a0 b0 : Int32) (hst : l.stackTraces = false) (hns : σ 18 0 = nI ns) (hns4 : ns ≤ 40) (hnm : σ 17 0 = nI nm) (hnm2 : nm ≤ 200)   : vx_Met l yL_book [.codeWith yL_book cL_book 4 (some .int) [(0, 6, 7, 16)]] ({ frames := 8, cells := 2, slots := 12, locals := 167 }) (va_Pc [.ref (ad 0), .int a0, .int b0] (fun U => PX G ad σ U U.heap ∧ ZS U U.heap)) (oW NF (fun r => r = hcV (eX_two a0 12 b0 5) (boV σ nm ns a0 (ixN b0) (σ 16 0))) (fun _ => True)) (fun _ _ _ => False) 2 12 NF := by
  refine kh_of (by decide) (Nat.le_of_ble_eq_true rfl) (fun U h => h.1.2.2) ?_
  intro p e s m below meth c ls S hr hlocks ht hB hl
  have hx := S.1
  have hb := S.2.1
  obtain ⟨hX, hZ⟩ := hB
  have hl : lv_has ls 4 [(0, .ref (ad 0)), (1, .int a0), (2, .int b0)] := hl
  refine lv_aload_n hx hb dL_book_0 rfl (lv_at hl 0 rfl) ?_
  refine lv_iload_n hx hb dL_book_1 rfl (lv_at hl 1 rfl) ?_
  refine lv_iload_n hx hb dL_book_2 rfl (lv_at hl 2 rfl) ?_
  refine q_hi (rx_V S ⟨m_309, m_310, m_311, m_23, m_312⟩ ⟨rfl, by decide, by decide, by decide +kernel⟩ (c_book l G ad σ nm ns a0 b0 hst hns hns4 hnm hnm2) ⟨rfl, rfl, Nat.le_of_ble_eq_true rfl, Nat.le_of_ble_eq_true rfl⟩ (pv_X hX 0 rfl rfl bl_PXZ (bXZ hX hZ)) (n := 2) (As := [.int a0, .int b0]) (rest := []) rfl hl.1 rfl (Nat.le_of_ble_eq_true rfl) ⟨Nat.le_of_ble_eq_true rfl, Nat.le_of_ble_eq_true rfl⟩ dL_book_3) (va_S.rf (A := NF)) (fun r H1 L1 ⟨he, hv⟩ h1 hS1 => ?_) (fun x q ce H1 L1 ⟨he, hq⟩ f1 hS1 hce hcv hcl => ?_)
  · subst hv
    refine vx_ret ?_
    exact W.iret (v := boV σ nm ns a0 (ixN b0) (σ 16 0)) hx hb hr (fun t ht9 hW => ⟨⟨_, rfl, (hcV_0 he).symm⟩, trivial, hS1.F ht9⟩) hS1.2.2 dL_book_6
  · rcases ek_book σ nm ns a0 b0 with hk | hk
    · exact absurd hk he
    · rw [hk] at hq
      subst hq
      refine vx_catch S.2.2.2.1 [] ⟨0, 6, 7, 16⟩ [] ht (fun z hz => by cases hz) (by decide) (by decide) (S.2.2.2.2 _ m_213) (hX.2.2.face n_227 fcx1) hce hcv hcl ?_
      refine lv_astore_n (lv' := [(3, .ref q), (0, .ref (ad 0)), (1, .int a0), (2, .int b0)]) hx hb dL_book_7 rfl hl (by decide) rfl (fun ls hl => ?_)
      refine lv_ldc (v := (-1000001)) hx hb S.2.2.2.1 (S.2.2.2.2 _ m_294) dL_book_8 ?_
      refine vx_ret ?_
      exact W.iret (v := (-1000001)) hx hb hr (fun t ht9 hW => ⟨⟨_, rfl, (hcV_1 hk).symm⟩, trivial, hS1.F ht9⟩) hS1.2.2 dL_book_10

theorem ek_bookAt (σ : kS) (nm ns : Nat) (a0 : Int32) (b0 : Int32) (c0 : Int32) : eX_bookAt σ a0 b0 c0 = 0 ∨ eX_bookAt σ a0 b0 c0 = 1 ∨ eX_bookAt σ a0 b0 c0 = 2 := by
  unfold eX_bookAt
  (repeat' split) <;> decide
set_option maxHeartbeats 4000000 in
set_option maxRecDepth 100000 in
theorem kL_bookAt (l : Launch) (G : kG) (ad : Nat → Nat) (σ : kS) (nm ns : Nat) (a0 b0 c0 : Int32) (hst : l.stackTraces = false) (hns : σ 18 0 = nI ns) (hns4 : ns ≤ 40) (hnm : σ 17 0 = nI nm) (hnm2 : nm ≤ 200)   : vx_Met l yL_bookAt [.codeWith yL_bookAt cL_bookAt 5 (some .int) [(0, 7, 8, 16), (0, 7, 13, 19)]] ({ frames := 8, cells := 3, slots := 18, locals := 168 }) (va_Pc [.ref (ad 0), .int a0, .int b0, .int c0] (fun U => PX G ad σ U U.heap ∧ ZS U U.heap)) (oW NF (fun r => r = hcV (eX_bookAt σ a0 b0 c0) (boV σ nm ns a0 (ixN b0) c0)) (fun _ => True)) (fun _ _ _ => False) 3 18 NF := by
  refine kh_of (by decide) (Nat.le_of_ble_eq_true rfl) (fun U h => h.1.2.2) ?_
  intro p e s m below meth c ls S hr hlocks ht hB hl
  have hx := S.1
  have hb := S.2.1
  obtain ⟨hX, hZ⟩ := hB
  have hl : lv_has ls 5 [(0, .ref (ad 0)), (1, .int a0), (2, .int b0), (3, .int c0)] := hl
  refine lv_aload_n hx hb dL_bookAt_0 rfl (lv_at hl 0 rfl) ?_
  refine lv_iload_n hx hb dL_bookAt_1 rfl (lv_at hl 1 rfl) ?_
  refine lv_iload_n hx hb dL_bookAt_2 rfl (lv_at hl 2 rfl) ?_
  refine lv_iload_n hx hb dL_bookAt_3 rfl (lv_at hl 3 rfl) ?_
  refine q_hi (rx_V S ⟨m_439, m_440, m_441, m_23, m_442⟩ ⟨rfl, by decide, by decide, by decide +kernel⟩ (c_bookAt l G ad σ nm ns a0 b0 c0 hst hns hns4 hnm hnm2) ⟨rfl, rfl, Nat.le_of_ble_eq_true rfl, Nat.le_of_ble_eq_true rfl⟩ (pv_X hX 0 rfl rfl bl_PXZ (bXZ hX hZ)) (n := 3) (As := [.int a0, .int b0, .int c0]) (rest := []) rfl hl.1 rfl (Nat.le_of_ble_eq_true rfl) ⟨Nat.le_of_ble_eq_true rfl, Nat.le_of_ble_eq_true rfl⟩ dL_bookAt_4) (va_S.rf (A := NF)) (fun r H1 L1 ⟨he, hv⟩ h1 hS1 => ?_) (fun x q ce H1 L1 ⟨he, hq⟩ f1 hS1 hce hcv hcl => ?_)
  · subst hv
    refine vx_ret ?_
    exact W.iret (v := boV σ nm ns a0 (ixN b0) c0) hx hb hr (fun t ht9 hW => ⟨⟨_, rfl, (hcV_0 he).symm⟩, trivial, hS1.F ht9⟩) hS1.2.2 dL_bookAt_7
  · rcases ek_bookAt σ nm ns a0 b0 c0 with hk | hk | hk
    · exact absurd hk he
    · rw [hk] at hq
      subst hq
      refine vx_catch S.2.2.2.1 [] ⟨0, 7, 8, 16⟩ [⟨0, 7, 13, 19⟩] ht (fun z hz => by cases hz) (by decide) (by decide) (S.2.2.2.2 _ m_213) (hX.2.2.face n_227 fcx1) hce hcv hcl ?_
      refine lv_astore (lv' := [(4, .ref q), (0, .ref (ad 0)), (1, .int a0), (2, .int b0), (3, .int c0)]) hx hb dL_bookAt_8 hl (by decide) rfl (fun ls hl => ?_)
      refine lv_ldc (v := (-1000001)) hx hb S.2.2.2.1 (S.2.2.2.2 _ m_294) dL_bookAt_10 ?_
      refine vx_ret ?_
      exact W.iret (v := (-1000001)) hx hb hr (fun t ht9 hW => ⟨⟨_, rfl, (hcV_1 hk).symm⟩, trivial, hS1.F ht9⟩) hS1.2.2 dL_bookAt_12
    · rw [hk] at hq
      subst hq
      refine vx_catch S.2.2.2.1 [⟨0, 7, 8, 16⟩] ⟨0, 7, 13, 19⟩ [] ht (fun z hz => by
        rcases List.mem_cons.mp hz with rfl | hz
        · exact Or.inr ⟨by decide, _, S.2.2.2.2 _ m_213, hX.2.2.nc ncx21⟩
        cases hz) (by decide) (by decide) (S.2.2.2.2 _ m_438) (hX.2.2.face n_448 fcx2) hce hcv hcl ?_
      refine lv_astore (lv' := [(4, .ref q), (0, .ref (ad 0)), (1, .int a0), (2, .int b0), (3, .int c0)]) hx hb dL_bookAt_13 hl (by decide) rfl (fun ls hl => ?_)
      refine lv_ldc (v := (-1000002)) hx hb S.2.2.2.1 (S.2.2.2.2 _ m_394) dL_bookAt_15 ?_
      refine vx_ret ?_
      exact W.iret (v := (-1000002)) hx hb hr (fun t ht9 hW => ⟨⟨_, rfl, (hcV_2 hk).symm⟩, trivial, hS1.F ht9⟩) hS1.2.2 dL_bookAt_17

theorem ek_worth (σ : kS) (nm ns : Nat) (a0 : Int32) : eX_one a0 12 = 0 ∨ eX_one a0 12 = 1 := by
  unfold eX_one
  (repeat' split) <;> decide
set_option maxHeartbeats 4000000 in
set_option maxRecDepth 100000 in
theorem kL_worth (l : Launch) (G : kG) (ad : Nat → Nat) (σ : kS) (nm ns : Nat) (a0 : Int32) (hst : l.stackTraces = false) (hns : σ 18 0 = nI ns) (hns4 : ns ≤ 40) (hnm : σ 17 0 = nI nm) (hnm2 : nm ≤ 200)   : vx_Met l yL_worth [.codeWith yL_worth cL_worth 3 (some .int) [(0, 5, 6, 16)]] ({ frames := 8, cells := 1, slots := 6, locals := 189 }) (va_Pc [.ref (ad 0), .int a0] (fun U => PX G ad σ U U.heap ∧ ZS U U.heap)) (oW NF (fun r => r = hcV (eX_one a0 12) (woF σ nm ns a0 5)) (fun _ => True)) (fun _ _ _ => False) 1 6 NF := by
  refine kh_of (by decide) (Nat.le_of_ble_eq_true rfl) (fun U h => h.1.2.2) ?_
  intro p e s m below meth c ls S hr hlocks ht hB hl
  have hx := S.1
  have hb := S.2.1
  obtain ⟨hX, hZ⟩ := hB
  have hl : lv_has ls 3 [(0, .ref (ad 0)), (1, .int a0)] := hl
  refine lv_aload_n hx hb dL_worth_0 rfl (lv_at hl 0 rfl) ?_
  refine lv_iload_n hx hb dL_worth_1 rfl (lv_at hl 1 rfl) ?_
  refine q_hi (rx_V S ⟨m_476, m_477, m_478, m_23, m_479⟩ ⟨rfl, by decide, by decide, by decide +kernel⟩ (c_worth l G ad σ nm ns a0 hst hns hns4 hnm hnm2) ⟨rfl, rfl, Nat.le_of_ble_eq_true rfl, Nat.le_of_ble_eq_true rfl⟩ (pv_X hX 0 rfl rfl bl_PXZ (bXZ hX hZ)) (n := 1) (As := [.int a0]) (rest := []) rfl hl.1 rfl (Nat.le_of_ble_eq_true rfl) ⟨Nat.le_of_ble_eq_true rfl, Nat.le_of_ble_eq_true rfl⟩ dL_worth_2) (va_S.rf (A := NF)) (fun r H1 L1 ⟨he, hv⟩ h1 hS1 => ?_) (fun x q ce H1 L1 ⟨he, hq⟩ f1 hS1 hce hcv hcl => ?_)
  · subst hv
    refine vx_ret ?_
    exact W.iret (v := woF σ nm ns a0 5) hx hb hr (fun t ht9 hW => ⟨⟨_, rfl, (hcV_0 he).symm⟩, trivial, hS1.F ht9⟩) hS1.2.2 dL_worth_5
  · rcases ek_worth σ nm ns a0 with hk | hk
    · exact absurd hk he
    · rw [hk] at hq
      subst hq
      refine vx_catch S.2.2.2.1 [] ⟨0, 5, 6, 16⟩ [] ht (fun z hz => by cases hz) (by decide) (by decide) (S.2.2.2.2 _ m_213) (hX.2.2.face n_227 fcx1) hce hcv hcl ?_
      refine lv_astore_n (lv' := [(2, .ref q), (0, .ref (ad 0)), (1, .int a0)]) hx hb dL_worth_6 rfl hl (by decide) rfl (fun ls hl => ?_)
      refine lv_ldc (v := (-1000001)) hx hb S.2.2.2.1 (S.2.2.2.2 _ m_294) dL_worth_7 ?_
      refine vx_ret ?_
      exact W.iret (v := (-1000001)) hx hb hr (fun t ht9 hW => ⟨⟨_, rfl, (hcV_1 hk).symm⟩, trivial, hS1.F ht9⟩) hS1.2.2 dL_worth_9

theorem ek_stateOf (σ : kS) (nm ns : Nat) (a0 : Int32) : eX_one a0 (σ 18 0) = 0 ∨ eX_one a0 (σ 18 0) = 1 := by
  unfold eX_one
  (repeat' split) <;> decide
set_option maxHeartbeats 4000000 in
set_option maxRecDepth 100000 in
theorem kL_stateOf (l : Launch) (G : kG) (ad : Nat → Nat) (σ : kS) (nm ns : Nat) (a0 : Int32) (hst : l.stackTraces = false) (hns : σ 18 0 = nI ns) (hns4 : ns ≤ 40) (hnm : σ 17 0 = nI nm) (hnm2 : nm ≤ 200)   : vx_Met l yL_stateOf [.codeWith yL_stateOf cL_stateOf 3 (some .int) [(0, 5, 6, 16)]] ({ frames := 8, cells := 1, slots := 6, locals := 145 }) (va_Pc [.ref (ad 0), .int a0] (fun U => PX G ad σ U U.heap ∧ ZS U U.heap)) (oW NF (fun r => r = hcV (eX_one a0 (σ 18 0)) ((if σ 9 (ixN a0) = 0 then 0 else 1))) (fun _ => True)) (fun _ _ _ => False) 1 6 NF := by
  refine kh_of (by decide) (Nat.le_of_ble_eq_true rfl) (fun U h => h.1.2.2) ?_
  intro p e s m below meth c ls S hr hlocks ht hB hl
  have hx := S.1
  have hb := S.2.1
  obtain ⟨hX, hZ⟩ := hB
  have hl : lv_has ls 3 [(0, .ref (ad 0)), (1, .int a0)] := hl
  refine lv_aload_n hx hb dL_stateOf_0 rfl (lv_at hl 0 rfl) ?_
  refine lv_iload_n hx hb dL_stateOf_1 rfl (lv_at hl 1 rfl) ?_
  refine q_hi (rx_V S ⟨m_465, m_466, m_467, m_23, m_468⟩ ⟨rfl, by decide, by decide, by decide +kernel⟩ (c_stateOf l G ad σ nm ns a0 hst hns hns4 hnm hnm2) ⟨rfl, rfl, Nat.le_of_ble_eq_true rfl, Nat.le_of_ble_eq_true rfl⟩ (pv_X hX 0 rfl rfl bl_PXZ (bXZ hX hZ)) (n := 1) (As := [.int a0]) (rest := []) rfl hl.1 rfl (Nat.le_of_ble_eq_true rfl) ⟨Nat.le_of_ble_eq_true rfl, Nat.le_of_ble_eq_true rfl⟩ dL_stateOf_2) (va_S.rf (A := NF)) (fun r H1 L1 ⟨he, hv⟩ h1 hS1 => ?_) (fun x q ce H1 L1 ⟨he, hq⟩ f1 hS1 hce hcv hcl => ?_)
  · subst hv
    refine vx_ret ?_
    exact W.iret (v := (if σ 9 (ixN a0) = 0 then 0 else 1)) hx hb hr (fun t ht9 hW => ⟨⟨_, rfl, (hcV_0 he).symm⟩, trivial, hS1.F ht9⟩) hS1.2.2 dL_stateOf_5
  · rcases ek_stateOf σ nm ns a0 with hk | hk
    · exact absurd hk he
    · rw [hk] at hq
      subst hq
      refine vx_catch S.2.2.2.1 [] ⟨0, 5, 6, 16⟩ [] ht (fun z hz => by cases hz) (by decide) (by decide) (S.2.2.2.2 _ m_213) (hX.2.2.face n_227 fcx1) hce hcv hcl ?_
      refine lv_astore_n (lv' := [(2, .ref q), (0, .ref (ad 0)), (1, .int a0)]) hx hb dL_stateOf_6 rfl hl (by decide) rfl (fun ls hl => ?_)
      refine lv_ldc (v := (-1000001)) hx hb S.2.2.2.1 (S.2.2.2.2 _ m_294) dL_stateOf_7 ?_
      refine vx_ret ?_
      exact W.iret (v := (-1000001)) hx hb hr (fun t ht9 hW => ⟨⟨_, rfl, (hcV_1 hk).symm⟩, trivial, hS1.F ht9⟩) hS1.2.2 dL_stateOf_9

theorem ek_cutOf (σ : kS) (nm ns : Nat) (a0 : Int32) : eX_one a0 (σ 18 0) = 0 ∨ eX_one a0 (σ 18 0) = 1 := by
  unfold eX_one
  (repeat' split) <;> decide
set_option maxHeartbeats 4000000 in
set_option maxRecDepth 100000 in
theorem kL_cutOf (l : Launch) (G : kG) (ad : Nat → Nat) (σ : kS) (nm ns : Nat) (a0 : Int32) (hst : l.stackTraces = false) (hns : σ 18 0 = nI ns) (hns4 : ns ≤ 40) (hnm : σ 17 0 = nI nm) (hnm2 : nm ≤ 200)   : vx_Met l yL_cutOf [.codeWith yL_cutOf cL_cutOf 3 (some .int) [(0, 5, 6, 16)]] ({ frames := 8, cells := 1, slots := 6, locals := 145 }) (va_Pc [.ref (ad 0), .int a0] (fun U => PX G ad σ U U.heap ∧ ZS U U.heap)) (oW NF (fun r => r = hcV (eX_one a0 (σ 18 0)) (σ 8 (ixN a0))) (fun _ => True)) (fun _ _ _ => False) 1 6 NF := by
  refine kh_of (by decide) (Nat.le_of_ble_eq_true rfl) (fun U h => h.1.2.2) ?_
  intro p e s m below meth c ls S hr hlocks ht hB hl
  have hx := S.1
  have hb := S.2.1
  obtain ⟨hX, hZ⟩ := hB
  have hl : lv_has ls 3 [(0, .ref (ad 0)), (1, .int a0)] := hl
  refine lv_aload_n hx hb dL_cutOf_0 rfl (lv_at hl 0 rfl) ?_
  refine lv_iload_n hx hb dL_cutOf_1 rfl (lv_at hl 1 rfl) ?_
  refine q_hi (rx_V S ⟨m_431, m_432, m_433, m_23, m_434⟩ ⟨rfl, by decide, by decide, by decide +kernel⟩ (c_cutOf l G ad σ nm ns a0 hst hns hns4 hnm hnm2) ⟨rfl, rfl, Nat.le_of_ble_eq_true rfl, Nat.le_of_ble_eq_true rfl⟩ (pv_X hX 0 rfl rfl bl_PXZ (bXZ hX hZ)) (n := 1) (As := [.int a0]) (rest := []) rfl hl.1 rfl (Nat.le_of_ble_eq_true rfl) ⟨Nat.le_of_ble_eq_true rfl, Nat.le_of_ble_eq_true rfl⟩ dL_cutOf_2) (va_S.rf (A := NF)) (fun r H1 L1 ⟨he, hv⟩ h1 hS1 => ?_) (fun x q ce H1 L1 ⟨he, hq⟩ f1 hS1 hce hcv hcl => ?_)
  · subst hv
    refine vx_ret ?_
    exact W.iret (v := σ 8 (ixN a0)) hx hb hr (fun t ht9 hW => ⟨⟨_, rfl, (hcV_0 he).symm⟩, trivial, hS1.F ht9⟩) hS1.2.2 dL_cutOf_5
  · rcases ek_cutOf σ nm ns a0 with hk | hk
    · exact absurd hk he
    · rw [hk] at hq
      subst hq
      refine vx_catch S.2.2.2.1 [] ⟨0, 5, 6, 16⟩ [] ht (fun z hz => by cases hz) (by decide) (by decide) (S.2.2.2.2 _ m_213) (hX.2.2.face n_227 fcx1) hce hcv hcl ?_
      refine lv_astore_n (lv' := [(2, .ref q), (0, .ref (ad 0)), (1, .int a0)]) hx hb dL_cutOf_6 rfl hl (by decide) rfl (fun ls hl => ?_)
      refine lv_ldc (v := (-1000001)) hx hb S.2.2.2.1 (S.2.2.2.2 _ m_294) dL_cutOf_7 ?_
      refine vx_ret ?_
      exact W.iret (v := (-1000001)) hx hb hr (fun t ht9 hW => ⟨⟨_, rfl, (hcV_1 hk).symm⟩, trivial, hS1.F ht9⟩) hS1.2.2 dL_cutOf_9

theorem ek_counts (σ : kS) (nm ns : Nat) (a0 : Int32) (b0 : Int32) : eX_two a0 (σ 18 0) b0 5 = 0 ∨ eX_two a0 (σ 18 0) b0 5 = 1 := by
  unfold eX_two
  (repeat' split) <;> decide
set_option maxHeartbeats 4000000 in
set_option maxRecDepth 100000 in
theorem kL_counts (l : Launch) (G : kG) (ad : Nat → Nat) (σ : kS) (nm ns : Nat) (a0 b0 : Int32) (hst : l.stackTraces = false) (hns : σ 18 0 = nI ns) (hns4 : ns ≤ 40) (hnm : σ 17 0 = nI nm) (hnm2 : nm ≤ 200)   : vx_Met l yL_counts [.codeWith yL_counts cL_counts 4 (some .int) [(0, 6, 7, 16)]] ({ frames := 9, cells := 2, slots := 12, locals := 168 }) (va_Pc [.ref (ad 0), .int a0, .int b0] (fun U => PX G ad σ U U.heap ∧ ZS U U.heap)) (oW NF (fun r => r = hcV (eX_two a0 (σ 18 0) b0 5) (bc (σ 10 (lnN a0 b0)))) (fun _ => True)) (fun _ _ _ => False) 2 12 NF := by
  refine kh_of (by decide) (Nat.le_of_ble_eq_true rfl) (fun U h => h.1.2.2) ?_
  intro p e s m below meth c ls S hr hlocks ht hB hl
  have hx := S.1
  have hb := S.2.1
  obtain ⟨hX, hZ⟩ := hB
  have hl : lv_has ls 4 [(0, .ref (ad 0)), (1, .int a0), (2, .int b0)] := hl
  refine lv_aload_n hx hb dL_counts_0 rfl (lv_at hl 0 rfl) ?_
  refine lv_iload_n hx hb dL_counts_1 rfl (lv_at hl 1 rfl) ?_
  refine lv_iload_n hx hb dL_counts_2 rfl (lv_at hl 2 rfl) ?_
  refine q_hi (rx_V S ⟨m_322, m_323, m_324, m_23, m_325⟩ ⟨rfl, by decide, by decide, by decide +kernel⟩ (c_counts l G ad σ nm ns a0 b0 hst hns hns4 hnm hnm2) ⟨rfl, rfl, Nat.le_of_ble_eq_true rfl, Nat.le_of_ble_eq_true rfl⟩ (pv_X hX 0 rfl rfl bl_PXZ (bXZ hX hZ)) (n := 2) (As := [.int a0, .int b0]) (rest := []) rfl hl.1 rfl (Nat.le_of_ble_eq_true rfl) ⟨Nat.le_of_ble_eq_true rfl, Nat.le_of_ble_eq_true rfl⟩ dL_counts_3) (va_S.rf (A := NF)) (fun r H1 L1 ⟨he, hv⟩ h1 hS1 => ?_) (fun x q ce H1 L1 ⟨he, hq⟩ f1 hS1 hce hcv hcl => ?_)
  · subst hv
    refine vx_ret ?_
    exact W.iret (v := bc (σ 10 (lnN a0 b0))) hx hb hr (fun t ht9 hW => ⟨⟨_, rfl, (hcV_0 he).symm⟩, trivial, hS1.F ht9⟩) hS1.2.2 dL_counts_6
  · rcases ek_counts σ nm ns a0 b0 with hk | hk
    · exact absurd hk he
    · rw [hk] at hq
      subst hq
      refine vx_catch S.2.2.2.1 [] ⟨0, 6, 7, 16⟩ [] ht (fun z hz => by cases hz) (by decide) (by decide) (S.2.2.2.2 _ m_213) (hX.2.2.face n_227 fcx1) hce hcv hcl ?_
      refine lv_astore_n (lv' := [(3, .ref q), (0, .ref (ad 0)), (1, .int a0), (2, .int b0)]) hx hb dL_counts_7 rfl hl (by decide) rfl (fun ls hl => ?_)
      refine lv_ldc (v := (-1000001)) hx hb S.2.2.2.1 (S.2.2.2.2 _ m_294) dL_counts_8 ?_
      refine vx_ret ?_
      exact W.iret (v := (-1000001)) hx hb hr (fun t ht9 hW => ⟨⟨_, rfl, (hcV_1 hk).symm⟩, trivial, hS1.F ht9⟩) hS1.2.2 dL_counts_10

theorem ek_agreed (σ : kS) (nm ns : Nat) (a0 : Int32) (b0 : Int32) : eX_two a0 (σ 18 0) b0 5 = 0 ∨ eX_two a0 (σ 18 0) b0 5 = 1 := by
  unfold eX_two
  (repeat' split) <;> decide
set_option maxHeartbeats 4000000 in
set_option maxRecDepth 100000 in
theorem kL_agreed (l : Launch) (G : kG) (ad : Nat → Nat) (σ : kS) (nm ns : Nat) (a0 b0 : Int32) (hst : l.stackTraces = false) (hns : σ 18 0 = nI ns) (hns4 : ns ≤ 40) (hnm : σ 17 0 = nI nm) (hnm2 : nm ≤ 200)   : vx_Met l yL_agreed [.codeWith yL_agreed cL_agreed 4 (some .int) [(0, 6, 7, 16)]] ({ frames := 9, cells := 2, slots := 12, locals := 168 }) (va_Pc [.ref (ad 0), .int a0, .int b0] (fun U => PX G ad σ U U.heap ∧ ZS U U.heap)) (oW NF (fun r => r = hcV (eX_two a0 (σ 18 0) b0 5) (σ 13 (lnN a0 b0))) (fun _ => True)) (fun _ _ _ => False) 2 12 NF := by
  refine kh_of (by decide) (Nat.le_of_ble_eq_true rfl) (fun U h => h.1.2.2) ?_
  intro p e s m below meth c ls S hr hlocks ht hB hl
  have hx := S.1
  have hb := S.2.1
  obtain ⟨hX, hZ⟩ := hB
  have hl : lv_has ls 4 [(0, .ref (ad 0)), (1, .int a0), (2, .int b0)] := hl
  refine lv_aload_n hx hb dL_agreed_0 rfl (lv_at hl 0 rfl) ?_
  refine lv_iload_n hx hb dL_agreed_1 rfl (lv_at hl 1 rfl) ?_
  refine lv_iload_n hx hb dL_agreed_2 rfl (lv_at hl 2 rfl) ?_
  refine q_hi (rx_V S ⟨m_214, m_215, m_216, m_23, m_217⟩ ⟨rfl, by decide, by decide, by decide +kernel⟩ (c_agreed l G ad σ nm ns a0 b0 hst hns hns4 hnm hnm2) ⟨rfl, rfl, Nat.le_of_ble_eq_true rfl, Nat.le_of_ble_eq_true rfl⟩ (pv_X hX 0 rfl rfl bl_PXZ (bXZ hX hZ)) (n := 2) (As := [.int a0, .int b0]) (rest := []) rfl hl.1 rfl (Nat.le_of_ble_eq_true rfl) ⟨Nat.le_of_ble_eq_true rfl, Nat.le_of_ble_eq_true rfl⟩ dL_agreed_3) (va_S.rf (A := NF)) (fun r H1 L1 ⟨he, hv⟩ h1 hS1 => ?_) (fun x q ce H1 L1 ⟨he, hq⟩ f1 hS1 hce hcv hcl => ?_)
  · subst hv
    refine vx_ret ?_
    exact W.iret (v := σ 13 (lnN a0 b0)) hx hb hr (fun t ht9 hW => ⟨⟨_, rfl, (hcV_0 he).symm⟩, trivial, hS1.F ht9⟩) hS1.2.2 dL_agreed_6
  · rcases ek_agreed σ nm ns a0 b0 with hk | hk
    · exact absurd hk he
    · rw [hk] at hq
      subst hq
      refine vx_catch S.2.2.2.1 [] ⟨0, 6, 7, 16⟩ [] ht (fun z hz => by cases hz) (by decide) (by decide) (S.2.2.2.2 _ m_213) (hX.2.2.face n_227 fcx1) hce hcv hcl ?_
      refine lv_astore_n (lv' := [(3, .ref q), (0, .ref (ad 0)), (1, .int a0), (2, .int b0)]) hx hb dL_agreed_7 rfl hl (by decide) rfl (fun ls hl => ?_)
      refine lv_ldc (v := (-1000001)) hx hb S.2.2.2.1 (S.2.2.2.2 _ m_294) dL_agreed_8 ?_
      refine vx_ret ?_
      exact W.iret (v := (-1000001)) hx hb hr (fun t ht9 hW => ⟨⟨_, rfl, (hcV_1 hk).symm⟩, trivial, hS1.F ht9⟩) hS1.2.2 dL_agreed_10

theorem ek_gap (σ : kS) (nm ns : Nat) (a0 : Int32) (b0 : Int32) : eX_gap σ a0 b0 = 0 ∨ eX_gap σ a0 b0 = 1 ∨ eX_gap σ a0 b0 = 4 := by
  unfold eX_gap
  (repeat' split) <;> decide
set_option maxHeartbeats 4000000 in
set_option maxRecDepth 100000 in
theorem kL_gap (l : Launch) (G : kG) (ad : Nat → Nat) (σ : kS) (nm ns : Nat) (a0 b0 : Int32) (hst : l.stackTraces = false) (hns : σ 18 0 = nI ns) (hns4 : ns ≤ 40) (hnm : σ 17 0 = nI nm) (hnm2 : nm ≤ 200)   : vx_Met l yL_gap [.codeWith yL_gap cL_gap 4 (some .int) [(0, 6, 7, 16), (0, 6, 11, 50)]] ({ frames := 9, cells := 3, slots := 18, locals := 190 }) (va_Pc [.ref (ad 0), .int a0, .int b0] (fun U => PX G ad σ U U.heap ∧ ZS U U.heap)) (oW NF (fun r => r = hcV (eX_gap σ a0 b0) (gpV σ nm ns (ixN a0) (ixN b0))) (fun _ => True)) (fun _ _ _ => False) 3 18 NF := by
  refine kh_of (by decide) (Nat.le_of_ble_eq_true rfl) (fun U h => h.1.2.2) ?_
  intro p e s m below meth c ls S hr hlocks ht hB hl
  have hx := S.1
  have hb := S.2.1
  obtain ⟨hX, hZ⟩ := hB
  have hl : lv_has ls 4 [(0, .ref (ad 0)), (1, .int a0), (2, .int b0)] := hl
  refine lv_aload_n hx hb dL_gap_0 rfl (lv_at hl 0 rfl) ?_
  refine lv_iload_n hx hb dL_gap_1 rfl (lv_at hl 1 rfl) ?_
  refine lv_iload_n hx hb dL_gap_2 rfl (lv_at hl 2 rfl) ?_
  refine q_hi (rx_V S ⟨m_370, m_371, m_372, m_23, m_373⟩ ⟨rfl, by decide, by decide, by decide +kernel⟩ (c_gap l G ad σ nm ns a0 b0 hst hns hns4 hnm hnm2) ⟨rfl, rfl, Nat.le_of_ble_eq_true rfl, Nat.le_of_ble_eq_true rfl⟩ (pv_X hX 0 rfl rfl bl_PXZ (bXZ hX hZ)) (n := 2) (As := [.int a0, .int b0]) (rest := []) rfl hl.1 rfl (Nat.le_of_ble_eq_true rfl) ⟨Nat.le_of_ble_eq_true rfl, Nat.le_of_ble_eq_true rfl⟩ dL_gap_3) (va_S.rf (A := NF)) (fun r H1 L1 ⟨he, hv⟩ h1 hS1 => ?_) (fun x q ce H1 L1 ⟨he, hq⟩ f1 hS1 hce hcv hcl => ?_)
  · subst hv
    refine vx_ret ?_
    exact W.iret (v := gpV σ nm ns (ixN a0) (ixN b0)) hx hb hr (fun t ht9 hW => ⟨⟨_, rfl, (hcV_0 he).symm⟩, trivial, hS1.F ht9⟩) hS1.2.2 dL_gap_6
  · rcases ek_gap σ nm ns a0 b0 with hk | hk | hk
    · exact absurd hk he
    · rw [hk] at hq
      subst hq
      refine vx_catch S.2.2.2.1 [] ⟨0, 6, 7, 16⟩ [⟨0, 6, 11, 50⟩] ht (fun z hz => by cases hz) (by decide) (by decide) (S.2.2.2.2 _ m_213) (hX.2.2.face n_227 fcx1) hce hcv hcl ?_
      refine lv_astore_n (lv' := [(3, .ref q), (0, .ref (ad 0)), (1, .int a0), (2, .int b0)]) hx hb dL_gap_7 rfl hl (by decide) rfl (fun ls hl => ?_)
      refine lv_ldc (v := (-1000001)) hx hb S.2.2.2.1 (S.2.2.2.2 _ m_294) dL_gap_8 ?_
      refine vx_ret ?_
      exact W.iret (v := (-1000001)) hx hb hr (fun t ht9 hW => ⟨⟨_, rfl, (hcV_1 hk).symm⟩, trivial, hS1.F ht9⟩) hS1.2.2 dL_gap_10
    · rw [hk] at hq
      subst hq
      refine vx_catch S.2.2.2.1 [⟨0, 6, 7, 16⟩] ⟨0, 6, 11, 50⟩ [] ht (fun z hz => by
        rcases List.mem_cons.mp hz with rfl | hz
        · exact Or.inr ⟨by decide, _, S.2.2.2.2 _ m_213, hX.2.2.nc ncx41⟩
        cases hz) (by decide) (by decide) (S.2.2.2.2 _ m_369) (hX.2.2.face n_380 fcx4) hce hcv hcl ?_
      refine lv_astore_n (lv' := [(3, .ref q), (0, .ref (ad 0)), (1, .int a0), (2, .int b0)]) hx hb dL_gap_11 rfl hl (by decide) rfl (fun ls hl => ?_)
      refine lv_ldc (v := (-1000002)) hx hb S.2.2.2.1 (S.2.2.2.2 _ m_394) dL_gap_12 ?_
      refine vx_ret ?_
      exact W.iret (v := (-1000002)) hx hb hr (fun t ht9 hW => ⟨⟨_, rfl, (hcV_4 hk).symm⟩, trivial, hS1.F ht9⟩) hS1.2.2 dL_gap_14

theorem ek_isSigned (σ : kS) (nm ns : Nat) (a0 : Int32) (b0 : Int32) : eX_two a0 (σ 18 0) b0 5 = 0 ∨ eX_two a0 (σ 18 0) b0 5 = 1 := by
  unfold eX_two
  (repeat' split) <;> decide
set_option maxHeartbeats 4000000 in
set_option maxRecDepth 100000 in
theorem kL_isSigned (l : Launch) (G : kG) (ad : Nat → Nat) (σ : kS) (nm ns : Nat) (a0 b0 : Int32) (hst : l.stackTraces = false) (hns : σ 18 0 = nI ns) (hns4 : ns ≤ 40) (hnm : σ 17 0 = nI nm) (hnm2 : nm ≤ 200)   : vx_Met l yL_isSigned [.codeWith yL_isSigned cL_isSigned 4 (some .int) [(0, 14, 15, 16)]] ({ frames := 9, cells := 2, slots := 12, locals := 168 }) (va_Pc [.ref (ad 0), .int a0, .int b0] (fun U => PX G ad σ U U.heap ∧ ZS U U.heap)) (oW NF (fun r => r = hcV (eX_two a0 (σ 18 0) b0 5) (bI (hsB σ (lnN a0 b0)))) (fun _ => True)) (fun _ _ _ => False) 2 12 NF := by
  refine kh_of (by decide) (Nat.le_of_ble_eq_true rfl) (fun U h => h.1.2.2) ?_
  intro p e s m below meth c ls S hr hlocks ht hB hl
  have hx := S.1
  have hb := S.2.1
  obtain ⟨hX, hZ⟩ := hB
  have hl : lv_has ls 4 [(0, .ref (ad 0)), (1, .int a0), (2, .int b0)] := hl
  refine lv_aload_n hx hb dL_isSigned_0 rfl (lv_at hl 0 rfl) ?_
  refine lv_iload_n hx hb dL_isSigned_1 rfl (lv_at hl 1 rfl) ?_
  refine lv_iload_n hx hb dL_isSigned_2 rfl (lv_at hl 2 rfl) ?_
  refine q_hi (rx_V S ⟨m_339, m_340, m_341, m_23, m_342⟩ ⟨rfl, by decide, by decide, by decide +kernel⟩ (c_isSigned l G ad σ nm ns a0 b0 hst hns hns4 hnm hnm2) ⟨rfl, rfl, Nat.le_of_ble_eq_true rfl, Nat.le_of_ble_eq_true rfl⟩ (pv_X hX 0 rfl rfl bl_PXZ (bXZ hX hZ)) (n := 2) (As := [.int a0, .int b0]) (rest := []) rfl hl.1 rfl (Nat.le_of_ble_eq_true rfl) ⟨Nat.le_of_ble_eq_true rfl, Nat.le_of_ble_eq_true rfl⟩ dL_isSigned_3) (va_S.rf (A := NF)) (fun r H1 L1 ⟨he, hv⟩ h1 hS1 => ?_) (fun x q ce H1 L1 ⟨he, hq⟩ f1 hS1 hce hcv hcl => ?_)
  · subst hv
    refine lv_if_eq (tgt := 13) hx hb dL_isSigned_6 (by decide) (fun cz => ?_) (fun cz => ?_)
    · refine lv_iconst (v := 0) hx hb dL_isSigned_13 (by decide) ?_
      refine vx_ret ?_
      exact W.iret (v := 0) hx hb hr (fun t ht9 hW => ⟨⟨_, rfl, (by rw [hcV_0 he]; exact cz.symm)⟩, trivial, hS1.F ht9⟩) hS1.2.2 dL_isSigned_14
    · refine lv_iconst (v := 1) hx hb dL_isSigned_9 (by decide) ?_
      refine lv_goto (tgt := 14) hx hb dL_isSigned_10 (by decide) ?_
      refine vx_ret ?_
      exact W.iret (v := 1) hx hb hr (fun t ht9 hW => ⟨⟨_, rfl, (by rw [hcV_0 he, bI_n cz]; rfl)⟩, trivial, hS1.F ht9⟩) hS1.2.2 dL_isSigned_14
  · rcases ek_isSigned σ nm ns a0 b0 with hk | hk
    · exact absurd hk he
    · rw [hk] at hq
      subst hq
      refine vx_catch S.2.2.2.1 [] ⟨0, 14, 15, 16⟩ [] ht (fun z hz => by cases hz) (by decide) (by decide) (S.2.2.2.2 _ m_213) (hX.2.2.face n_227 fcx1) hce hcv hcl ?_
      refine lv_astore_n (lv' := [(3, .ref q), (0, .ref (ad 0)), (1, .int a0), (2, .int b0)]) hx hb dL_isSigned_15 rfl hl (by decide) rfl (fun ls hl => ?_)
      refine lv_ldc (v := (-1000001)) hx hb S.2.2.2.1 (S.2.2.2.2 _ m_294) dL_isSigned_16 ?_
      refine vx_ret ?_
      exact W.iret (v := (-1000001)) hx hb hr (fun t ht9 hW => ⟨⟨_, rfl, (hcV_1 hk).symm⟩, trivial, hS1.F ht9⟩) hS1.2.2 dL_isSigned_18

theorem ek_likely (σ : kS) (nm ns : Nat) (a0 : Int32) (b0 : Int32) : eX_two a0 (σ 18 0) b0 5 = 0 ∨ eX_two a0 (σ 18 0) b0 5 = 1 := by
  unfold eX_two
  (repeat' split) <;> decide
set_option maxHeartbeats 4000000 in
set_option maxRecDepth 100000 in
theorem kL_likely (l : Launch) (G : kG) (ad : Nat → Nat) (σ : kS) (nm ns : Nat) (a0 b0 : Int32) (hst : l.stackTraces = false) (hns : σ 18 0 = nI ns) (hns4 : ns ≤ 40) (hnm : σ 17 0 = nI nm) (hnm2 : nm ≤ 200)   : vx_Met l yL_likely [.codeWith yL_likely cL_likely 4 (some .int) [(0, 6, 7, 16)]] ({ frames := 9, cells := 2, slots := 12, locals := 214 }) (va_Pc [.ref (ad 0), .int a0, .int b0] (fun U => PX G ad σ U U.heap ∧ ZS U U.heap)) (oW NF (fun r => r = hcV (eX_two a0 (σ 18 0) b0 5) (oI (flO (fun k => csB σ nm ns (ixN a0) k (ixN b0)) ns))) (fun _ => True)) (fun _ _ _ => False) 2 12 NF := by
  refine kh_of (by decide) (Nat.le_of_ble_eq_true rfl) (fun U h => h.1.2.2) ?_
  intro p e s m below meth c ls S hr hlocks ht hB hl
  have hx := S.1
  have hb := S.2.1
  obtain ⟨hX, hZ⟩ := hB
  have hl : lv_has ls 4 [(0, .ref (ad 0)), (1, .int a0), (2, .int b0)] := hl
  refine lv_aload_n hx hb dL_likely_0 rfl (lv_at hl 0 rfl) ?_
  refine lv_iload_n hx hb dL_likely_1 rfl (lv_at hl 1 rfl) ?_
  refine lv_iload_n hx hb dL_likely_2 rfl (lv_at hl 2 rfl) ?_
  refine q_hi (rx_V S ⟨m_346, m_347, m_348, m_23, m_349⟩ ⟨rfl, by decide, by decide, by decide +kernel⟩ (c_likely l G ad σ nm ns a0 b0 hst hns hns4 hnm hnm2) ⟨rfl, rfl, Nat.le_of_ble_eq_true rfl, Nat.le_of_ble_eq_true rfl⟩ (pv_X hX 0 rfl rfl bl_PXZ (bXZ hX hZ)) (n := 2) (As := [.int a0, .int b0]) (rest := []) rfl hl.1 rfl (Nat.le_of_ble_eq_true rfl) ⟨Nat.le_of_ble_eq_true rfl, Nat.le_of_ble_eq_true rfl⟩ dL_likely_3) (va_S.rf (A := NF)) (fun r H1 L1 ⟨he, hv⟩ h1 hS1 => ?_) (fun x q ce H1 L1 ⟨he, hq⟩ f1 hS1 hce hcv hcl => ?_)
  · subst hv
    refine vx_ret ?_
    exact W.iret (v := oI (flO (fun k => csB σ nm ns (ixN a0) k (ixN b0)) ns)) hx hb hr (fun t ht9 hW => ⟨⟨_, rfl, (hcV_0 he).symm⟩, trivial, hS1.F ht9⟩) hS1.2.2 dL_likely_6
  · rcases ek_likely σ nm ns a0 b0 with hk | hk
    · exact absurd hk he
    · rw [hk] at hq
      subst hq
      refine vx_catch S.2.2.2.1 [] ⟨0, 6, 7, 16⟩ [] ht (fun z hz => by cases hz) (by decide) (by decide) (S.2.2.2.2 _ m_213) (hX.2.2.face n_227 fcx1) hce hcv hcl ?_
      refine lv_astore_n (lv' := [(3, .ref q), (0, .ref (ad 0)), (1, .int a0), (2, .int b0)]) hx hb dL_likely_7 rfl hl (by decide) rfl (fun ls hl => ?_)
      refine lv_ldc (v := (-1000001)) hx hb S.2.2.2.1 (S.2.2.2.2 _ m_294) dL_likely_8 ?_
      refine vx_ret ?_
      exact W.iret (v := (-1000001)) hx hb hr (fun t ht9 hW => ⟨⟨_, rfl, (hcV_1 hk).symm⟩, trivial, hS1.F ht9⟩) hS1.2.2 dL_likely_10

theorem ek_exact (σ : kS) (nm ns : Nat) (a0 : Int32) : eX_one a0 3 = 0 ∨ eX_one a0 3 = 1 := by
  unfold eX_one
  (repeat' split) <;> decide
set_option maxHeartbeats 4000000 in
set_option maxRecDepth 100000 in
theorem kL_exact (l : Launch) (G : kG) (ad : Nat → Nat) (σ : kS) (nm ns : Nat) (a0 : Int32) (hst : l.stackTraces = false) (hns : σ 18 0 = nI ns) (hns4 : ns ≤ 40) (hnm : σ 17 0 = nI nm) (hnm2 : nm ≤ 200)   : vx_Met l yL_exact [.codeWith yL_exact cL_exact 3 (some .int) [(0, 5, 6, 16)]] ({ frames := 8, cells := 1, slots := 6, locals := 145 }) (va_Pc [.ref (ad 0), .int a0] (fun U => PX G ad σ U U.heap ∧ ZS U U.heap)) (oW NF (fun r => r = hcV (eX_one a0 3) (exV σ ns a0)) (fun _ => True)) (fun _ _ _ => False) 1 6 NF := by
  refine kh_of (by decide) (Nat.le_of_ble_eq_true rfl) (fun U h => h.1.2.2) ?_
  intro p e s m below meth c ls S hr hlocks ht hB hl
  have hx := S.1
  have hb := S.2.1
  obtain ⟨hX, hZ⟩ := hB
  have hl : lv_has ls 3 [(0, .ref (ad 0)), (1, .int a0)] := hl
  refine lv_aload_n hx hb dL_exact_0 rfl (lv_at hl 0 rfl) ?_
  refine lv_iload_n hx hb dL_exact_1 rfl (lv_at hl 1 rfl) ?_
  refine q_hi (rx_V S ⟨m_298, m_299, m_300, m_23, m_301⟩ ⟨rfl, by decide, by decide, by decide +kernel⟩ (c_exact l G ad σ nm ns a0 hst hns hns4 hnm hnm2) ⟨rfl, rfl, Nat.le_of_ble_eq_true rfl, Nat.le_of_ble_eq_true rfl⟩ (pv_X hX 0 rfl rfl bl_PXZ (bXZ hX hZ)) (n := 1) (As := [.int a0]) (rest := []) rfl hl.1 rfl (Nat.le_of_ble_eq_true rfl) ⟨Nat.le_of_ble_eq_true rfl, Nat.le_of_ble_eq_true rfl⟩ dL_exact_2) (va_S.rf (A := NF)) (fun r H1 L1 ⟨he, hv⟩ h1 hS1 => ?_) (fun x q ce H1 L1 ⟨he, hq⟩ f1 hS1 hce hcv hcl => ?_)
  · subst hv
    refine vx_ret ?_
    exact W.iret (v := exV σ ns a0) hx hb hr (fun t ht9 hW => ⟨⟨_, rfl, (hcV_0 he).symm⟩, trivial, hS1.F ht9⟩) hS1.2.2 dL_exact_5
  · rcases ek_exact σ nm ns a0 with hk | hk
    · exact absurd hk he
    · rw [hk] at hq
      subst hq
      refine vx_catch S.2.2.2.1 [] ⟨0, 5, 6, 16⟩ [] ht (fun z hz => by cases hz) (by decide) (by decide) (S.2.2.2.2 _ m_213) (hX.2.2.face n_227 fcx1) hce hcv hcl ?_
      refine lv_astore_n (lv' := [(2, .ref q), (0, .ref (ad 0)), (1, .int a0)]) hx hb dL_exact_6 rfl hl (by decide) rfl (fun ls hl => ?_)
      refine lv_ldc (v := (-1000001)) hx hb S.2.2.2.1 (S.2.2.2.2 _ m_294) dL_exact_7 ?_
      refine vx_ret ?_
      exact W.iret (v := (-1000001)) hx hb hr (fun t ht9 hW => ⟨⟨_, rfl, (hcV_1 hk).symm⟩, trivial, hS1.F ht9⟩) hS1.2.2 dL_exact_9
end
section
/-! THE LAW'S WORLD: two objects of the class and five rows of ints -/
def wQa (G : kG) (a : Nat → Nat) (α : kS) : va_W := [(a 0, .inl (G.2.1, 11, .inl (α 0))), (a 1, .inl (G.2.1, 12, .inl (α 1))), (a 2, .inl (G.2.1, 60, .inl (α 2))), (a 3, .inl (G.2.1, 6, .inl (α 3))), (a 4, .inl (G.2.1, 3, .inl (α 4)))]
def lenQ (r : Nat) : Nat := match r with
  | 0 => 11
  | 1 => 12
  | 2 => 60
  | 3 => 6
  | _ => 3
theorem wQa_at {G : kG} {a : Nat → Nat} {α : kS} {r : Nat} (hr : r < 5) : (wQa G a α)[r]? = some (a r, .inl (G.2.1, lenQ r, .inl (α r))) := by
  match r, hr with
  | 0, _ => rfl
  | 1, _ => rfl
  | 2, _ => rfl
  | 3, _ => rfl
  | 4, _ => rfl
  | k + 5, h => omega
theorem wQa_set {G : kG} {a : Nat → Nat} {α : kS} {r i : Nat} {x : Int32} (hr : r < 5) : (wQa G a α).set r (a r, .inl (G.2.1, lenQ r, .inl (upd (α r) i x))) = wQa G a (su α r i x) := by
  match r, hr with
  | 0, _ => rfl
  | 1, _ => rfl
  | 2, _ => rfl
  | 3, _ => rfl
  | 4, _ => rfl
  | k + 5, h => omega
theorem wQa_fst (G : kG) (a : Nat → Nat) (α : kS) : (wQa G a α).map (fun q => q.1) = (List.range 5).map a := rfl
def adQ (o t a : Nat → Nat) : Nat → Nat := fun i => if i < 20 then o i else if i < 40 then t (i - 20) else a (i - 40)
def AQ (o t a : Nat → Nat) : Nat → Prop := fun q => ∃ i, i < 45 ∧ q = adQ o t a i
def AO (o : Nat → Nat) : Nat → Prop := fun q => ∃ i, i < 20 ∧ q = o i
def A5 (a : Nat → Nat) : Nat → Prop := fun q => ∃ i, i < 5 ∧ q = a i
def JQ (o t a : Nat → Nat) : Prop := ∀ i j, i < 45 → j < 45 → adQ o t a i = adQ o t a j → i = j
theorem adQ_o {o t a : Nat → Nat} {i : Nat} (h : i < 20) : adQ o t a i = o i := if_pos h
theorem adQ_t {o t a : Nat → Nat} {i : Nat} (h : i < 20) : adQ o t a (i + 20) = t i := by
  unfold adQ
  rw [if_neg (by omega), if_pos (by omega), Nat.add_sub_cancel]
theorem adQ_a {o t a : Nat → Nat} {i : Nat} : adQ o t a (i + 40) = a i := by
  unfold adQ
  rw [if_neg (by omega), if_neg (by omega), Nat.add_sub_cancel]
theorem AO.inO {o t a : Nat → Nat} {q : Nat} (h : AO o q) : AQ o t a q := by
  obtain ⟨i, h1, h2⟩ := h
  exact ⟨i, by omega, by rw [adQ_o h1]; exact h2⟩
theorem AO.inT {o t a : Nat → Nat} {q : Nat} (h : AO t q) : AQ o t a q := by
  obtain ⟨i, h1, h2⟩ := h
  exact ⟨i + 20, by omega, by rw [adQ_t h1]; exact h2⟩
theorem A5.inA {o t a : Nat → Nat} {q : Nat} (h : A5 a q) : AQ o t a q := by
  obtain ⟨i, h1, h2⟩ := h
  exact ⟨i + 40, by omega, by rw [adQ_a]; exact h2⟩
theorem JQ.dO {o t a : Nat → Nat} (h : JQ o t a) : DD 20 (AO o) o := ⟨fun i j hi hj e => h i j (by omega) (by omega) (by rw [adQ_o hi, adQ_o hj]; exact e), fun i hi => ⟨i, hi, rfl⟩⟩
theorem JQ.dT {o t a : Nat → Nat} (h : JQ o t a) : DD 20 (AO t) t := ⟨fun i j hi hj e => by
  have := h (i + 20) (j + 20) (by omega) (by omega) (by rw [adQ_t hi, adQ_t hj]; exact e)
  omega, fun i hi => ⟨i, hi, rfl⟩⟩
theorem JQ.dA {o t a : Nat → Nat} (h : JQ o t a) : DD 5 (A5 a) a := ⟨fun i j hi hj e => by
  have := h (i + 40) (j + 40) (by omega) (by omega) (by rw [adQ_a, adQ_a]; exact e)
  omega, fun i hi => ⟨i, hi, rfl⟩⟩
theorem JQ.ot {o t a : Nat → Nat} (h : JQ o t a) : ∀ q, AO o q → ¬ AO t q := by
  rintro q ⟨i, hi, e⟩ ⟨j, hj, e2⟩
  have := h i (j + 20) (by omega) (by omega) (by rw [adQ_o hi, adQ_t hj, ← e, ← e2])
  omega
theorem JQ.oa {o t a : Nat → Nat} (h : JQ o t a) : ∀ q, AO o q → ¬ A5 a q := by
  rintro q ⟨i, hi, e⟩ ⟨j, hj, e2⟩
  have := h i (j + 40) (by omega) (by omega) (by rw [adQ_o hi, adQ_a, ← e, ← e2])
  omega
theorem JQ.ta {o t a : Nat → Nat} (h : JQ o t a) : ∀ q, AO t q → ¬ A5 a q := by
  rintro q ⟨i, hi, e⟩ ⟨j, hj, e2⟩
  have := h (i + 20) (j + 40) (by omega) (by omega) (by rw [adQ_t hi, adQ_a, ← e, ← e2])
  omega
/-- an entry of a picture whose addresses are those of a -/
theorem fst_at {ws : va_W} {n : Nat} {a : Nat → Nat} (hw : ws.map (fun q => q.1) = (List.range n).map a) {k : Nat} {q : Nat × va_E} (h : ws[k]? = some q) : k < n ∧ q.1 = a k := by
  have h1 : (ws.map (fun q => q.1))[k]? = some q.1 := by rw [List.getElem?_map, h]; rfl
  rw [hw, List.getElem?_map] at h1
  by_cases hn : k < n
  · rw [List.getElem?_range hn] at h1
    exact ⟨hn, (Option.some.inj h1).symm⟩
  · rw [List.getElem?_eq_none (by simp; omega)] at h1
    cases h1
theorem wXin {G : kG} {o : Nat → Nat} {σ : kS} {k : Nat} {q : Nat × va_E} (h : (wX G o σ)[k]? = some q) : AO o q.1 := ⟨k, (fst_at (wX_fst G o σ) h).1, (fst_at (wX_fst G o σ) h).2⟩
theorem wAin {G : kG} {a : Nat → Nat} {α : kS} {k : Nat} {q : Nat × va_E} (h : (wQa G a α)[k]? = some q) : A5 a q.1 := ⟨k, (fst_at (wQa_fst G a α) h).1, (fst_at (wQa_fst G a α) h).2⟩
def WQ (G : kG) (o t a : Nat → Nat) (σ τ α : kS) (H : Heap) : Prop := va_P G.1 vwCl (wX G o σ) H ∧ va_P G.1 vwCl (wX G t τ) H ∧ va_P G.1 vwCl (wQa G a α) H
def ZQ (A : Nat → Prop) (U : State) (H : Heap) : Prop := vx_Zq Bundle.tN "UNASSIGNED_STACK" Bundle.steD A U H ∧ vx_Zq Bundle.tN "SUPPRESSED_SENTINEL" Bundle.listD A U H
def PQ (G : kG) (o t a : Nat → Nat) (σ τ α : kS) : State → Prop := fun U => WQ G o t a σ τ α U.heap ∧ KK G U ∧ ZQ (AQ o t a) U U.heap
theorem bl_PQ {G : kG} {o t a : Nat → Nat} {σ τ α : kS} : kBl (PQ G o t a σ τ α) := fun U U' h1 h2 h => by
  unfold PQ
  rw [h1]; exact ⟨h.1, h.2.1.warm (warm_vm h2), vx_Zq.moved (warm_vm h2).alike h.2.2.1, vx_Zq.moved (warm_vm h2).alike h.2.2.2⟩
section KQ
variable {p : Program} {l : Launch} {e : Env} {R : Room} {s : State} {m : MethodId} {args : Array Value} {below : List Frame} {meth : Method} {c : Code} {H H0 H1 : Heap} {locs : List Loc} {cells slots mc ms : Nat} {Q : State → Prop}
variable {cc : ByteArray} {pc nL : Nat} {ls : Array Slot} {rest : List Value} {G : kG} {A B : Nat → Prop} {o t a : Nat → Nat} {σ τ α σ' : kS} {own : String}
theorem ZQ.at (h : ZQ B s s.heap) (hS : va_S A s.heap H locs) (hA : ∀ q, A q → B q) : ZQ B s H := ⟨h.1.kept (fun q h1 h2 => hS.2.1 q h1 (fun z => h2 (hA q z))), h.2.kept (fun q h1 h2 => hS.2.1 q h1 (fun z => h2 (hA q z)))⟩
theorem ZQ.zs (h : ZQ B s H) : ZS s H := ⟨h.1.narrow (fun _ z => z.elim), h.2.narrow (fun _ z => z.elim)⟩
theorem ZQ.nar (h : ZQ B s H) (hA : ∀ q, A q → B q) : ZQ A s H := ⟨h.1.narrow hA, h.2.narrow hA⟩
theorem WQ.xo (h : WQ G o t a σ τ α H) (hK : KK G s) : PX G o σ s H := ⟨h.1, hK⟩
theorem WQ.xt (h : WQ G o t a σ τ α H) (hK : KK G s) : PX G t τ s H := ⟨h.2.1, hK⟩
theorem WQ.rd (h : WQ G o t a σ τ α H) (hk : ∀ q : Nat, q < H.size → ¬ NF q → H1[q]? = H[q]?) : WQ G o t a σ τ α H1 := ⟨kp h.1 (fun q z => hk q z (fun y => y)), kp h.2.1 (fun q z => hk q z (fun y => y)), kp h.2.2 (fun q z => hk q z (fun y => y))⟩
theorem WQ.wo (h : WQ G o t a σ τ α H) (hJ : JQ o t a) (h1 : va_P G.1 vwCl (wX G o σ') H1) (hk : ∀ q : Nat, q < H.size → ¬ AO o q → H1[q]? = H[q]?) : WQ G o t a σ' τ α H1 :=
  ⟨h1, h.2.1.kept (fun k q z => hk q.1 (h.2.1 k q z).lt (fun y => hJ.ot _ y (wXin z))), h.2.2.kept (fun k q z => hk q.1 (h.2.2 k q z).lt (fun y => hJ.oa _ y (wAin z)))⟩
theorem WQ.wt (h : WQ G o t a σ τ α H) (hJ : JQ o t a) (h1 : va_P G.1 vwCl (wX G t σ') H1) (hk : ∀ q : Nat, q < H.size → ¬ AO t q → H1[q]? = H[q]?) : WQ G o t a σ σ' α H1 :=
  ⟨h.1.kept (fun k q z => hk q.1 (h.1 k q z).lt (fun y => hJ.ot _ (wXin z) y)), h1, h.2.2.kept (fun k q z => hk q.1 (h.2.2 k q z).lt (fun y => hJ.ta _ y (wAin z)))⟩
theorem WQ.bq (h : WQ G o t a σ τ α H) (hK : KK G s) (hZ : ZQ (AQ o t a) s H) : ∀ U : State, U.heap = H → s.WarmedH U.vm → PQ G o t a σ τ α U := fun U hU hW => by
  unfold PQ
  rw [hU]; exact ⟨h, hK.warm hW, vx_Zq.moved hW.alike hZ.1, vx_Zq.moved hW.alike hZ.2⟩
theorem vP_ap {w1 w2 : va_W} (h1 : va_P G.1 vwCl w1 H) (h2 : va_P G.1 vwCl w2 H) : va_P G.1 vwCl (w1 ++ w2) H := fun k q h => by
  by_cases c9 : k < w1.length
  · rw [List.getElem?_append_left c9] at h
    exact h1 k q h
  · rw [List.getElem?_append_right (by omega)] at h
    exact h2 _ q h
theorem vP_le {w1 w2 : va_W} (h : va_P G.1 vwCl (w1 ++ w2) H) : va_P G.1 vwCl w1 H := fun k q z => h k q (by
  rw [List.getElem?_append_left (List.getElem?_eq_some_iff.mp z).1]; exact z)
theorem vP_ri {w1 w2 : va_W} (h : va_P G.1 vwCl (w1 ++ w2) H) : va_P G.1 vwCl w2 H := fun k q z => h (w1.length + k) q (by
  rw [List.getElem?_append_right (by omega), Nat.add_sub_cancel_left]; exact z)
theorem k_ldQ (S : CallFix p m c cc nL s args big own) (hK : KK G s) (h : WQ G o t a σ τ α H) (r : Nat) (hr : r < 5) {i : Nat} (hi : i < lenQ r) (hdg : decode cc pc = .ok (.iaload, 1))
    (kk : W p l e R s m args below meth c H locs cells slots Q (F0 m (pc + 1) ls (.int (α r i) :: rest))) : W p l e R s m args below meth c H locs cells slots Q (F0 m pc ls (.int (nI i) :: .ref (a r) :: rest)) :=
  k_ild S hK h.2.2 r (wQa_at hr) hi (by match r, hr with | 0, _ => decide | 1, _ => decide | 2, _ => decide | 3, _ => decide | 4, _ => decide | k + 5, h => omega) hdg kk
theorem k_stQ (S : CallFix p m c cc nL s args big own) (hK : KK G s) (hJ : JQ o t a) (h : WQ G o t a σ τ α H) (hS : va_S A H0 H locs) (hA : ∀ q, AQ o t a q → A q) (r : Nat) (hr : r < 5) {i : Nat} {x : Int32} (hi : i < lenQ r) (hdg : decode cc pc = .ok (.iastore, 1))
    (kk : ∀ (H1 : Heap) (locs1 : List Loc), WQ G o t a σ τ (su α r i x) H1 → va_S A H0 H1 locs1 → W p l e R s m args below meth c H1 locs1 cells slots Q (F0 m (pc + 1) ls rest)) : W p l e R s m args below meth c H locs cells slots Q (F0 m pc ls (.int x :: .int (nI i) :: .ref (a r) :: rest)) := by
  have hP : va_P G.1 vwCl ((wX G o σ ++ wX G t τ) ++ wQa G a α) H := vP_ap (vP_ap h.1 h.2.1) h.2.2
  have hlen : (wX G o σ ++ wX G t τ).length = 40 := rfl
  have hfst : ((wX G o σ ++ wX G t τ) ++ wQa G a α).map (fun q => q.1) = (List.range 45).map (adQ o t a) := rfl
  have hd : va_D A ((wX G o σ ++ wX G t τ) ++ wQa G a α) := DD.w (n := 45) (a := adQ o t a) ⟨hJ, fun i hi => hA _ ⟨i, hi, rfl⟩⟩ hfst
  have hq : ((wX G o σ ++ wX G t τ) ++ wQa G a α)[40 + r]? = some (a r, .inl (G.2.1, lenQ r, .inl (α r))) := by
    rw [List.getElem?_append_right (by rw [hlen]; omega), hlen, Nat.add_sub_cancel_left]
    exact wQa_at hr
  refine k_ist S hK hP hd hS (40 + r) hq hi (by match r, hr with | 0, _ => decide | 1, _ => decide | 2, _ => decide | 3, _ => decide | 4, _ => decide | k + 5, h => omega) hdg (fun H1 L1 h1 hS1 => kk H1 L1 ?_ hS1)
  rw [List.set_append_right _ _ (by rw [hlen]; omega), hlen, Nat.add_sub_cancel_left, wQa_set hr] at h1
  exact ⟨vP_le (vP_le h1), vP_ri (vP_le h1), vP_ri h1⟩
theorem k_eql {x y : Int64} (h : x = y) (kk : W p l e R s m args below meth c H locs cells slots Q (F0 m pc ls (.long y :: rest))) : W p l e R s m args below meth c H locs cells slots Q (F0 m pc ls (.long x :: rest)) := by rw [h]; exact kk
/-- returns a long, old cells kept but for A's -/
def oWl (A : Nat → Prop) (P : Int64 → Prop) : Array Value → State → Outcome → State → Prop := fun _ st o t => (∃ r : Int64, o = .returned (some (.long r)) ∧ P r) ∧ va_F A st t
theorem q_wl {P : Int64 → Prop} {A1 : Nat → Prop} {st0 : List Value} {v9 : Array Value} (hr : va_Run p l e R s m args below meth c H locs cells slots mc ms (F0 m pc ls st0) rest (oWl A1 P v9) A1) (hS : va_S A H0 H locs) (hA : ∀ q, A1 q → A q)
    (kk : ∀ (r : Int64) (H1 : Heap) (locs1 : List Loc), P r → (∀ q : Nat, q < H.size → ¬ A1 q → H1[q]? = H[q]?) → va_S A H0 H1 locs1 → W p l e R s m args below meth c H1 locs1 (cells + mc) (slots + ms) Q (F0 m (pc + 3) ls (.long r :: rest))) : W p l e R s m args below meth c H locs cells slots Q (F0 m pc ls st0) := by
  intro T hT X
  obtain ⟨v, st₀, t, T', L, h0, X', hL, e1, -, ⟨⟨r, hv, hp⟩, hF⟩, st⟩ := hr T hT X
  cases hv
  obtain ⟨k1, k2, k3⟩ := s_call h0 e1 hS hA hL hF
  obtain ⟨t2, a1, b1⟩ := kk r T'.heap (locs ++ L) hp k2 k3 T' rfl X'
  exact ⟨t2, st t2 a1, b1⟩
end KQ
end
section
/-! WHAT A HELPER TELLS WHERE ALL IS IN ORDER -/
theorem ckI_ok {k n : Nat} (h : k < n) (hn : n < 2 ^ 31) : ckI (nI k) (nI n) = true := by
  unfold ckI
  rw [if_neg (nI_pos (by omega)), if_neg (nI_ge h hn)]
theorem ckI_no {k n : Nat} (h : n ≤ k) (hk : k < 2 ^ 31) : ckI (nI k) (nI n) = false := by
  unfold ckI
  rw [if_neg (nI_pos hk), if_pos (nI_le h hk)]
theorem ckR_ok {k a b : Nat} (h1 : a ≤ k) (h2 : k ≤ b) (hb : b < 2 ^ 31) : ckR (nI k) (nI a) (nI b) = true := by
  unfold ckR
  rw [if_neg (nI_nlt h1 (by omega)), if_neg (nI_nlt h2 hb)]
theorem ckR_hi {k a b : Nat} (h1 : a ≤ k) (h2 : b < k) (hk : k < 2 ^ 31) : ckR (nI k) (nI a) (nI b) = false := by
  unfold ckR
  rw [if_neg (nI_nlt h1 hk), if_pos (nI_lt h2 hk)]
theorem ck5 {k : Nat} (h : k < 5) : ckI (nI k) 5 = true := ckI_ok (n := 5) h (by decide)
theorem ck6 {k : Nat} (h : k < 6) : ckI (nI k) 6 = true := ckI_ok (n := 6) h (by decide)
theorem ck12 {k : Nat} (h : k < 12) : ckI (nI k) 12 = true := ckI_ok (n := 12) h (by decide)
theorem eT_book {pl ar : Nat} (h1 : pl < 12) (h2 : ar < 5) : eX_two (nI pl) 12 (nI ar) 5 = 0 := by
  unfold eX_two
  rw [ck12 h1, ck5 h2]
  rfl
theorem tV_book {σ : kS} {nm ns pl ar : Nat} {v : Int32} (h1 : pl < 12) (h2 : ar < 5) : hcV (eX_two (nI pl) 12 (nI ar) 5) (boV σ nm ns (nI pl) (ixN (nI ar)) v) = boV σ nm ns (nI pl) ar v := by
  rw [hcV_0 (eT_book h1 h2), ixN_nI (by omega)]
/-- the print of an object: books of all places and articles, mixed -/
def prV (σ : kS) (nm ns : Nat) : Nat → Int64
  | 0 => (σ 16 0 : Int32).toInt64
  | k + 1 => 1000003 * prV σ nm ns k + (boV σ nm ns (nI (k / 5)) (k % 5) (σ 16 0) : Int32).toInt64
def szV (x : Int32) : Int32 := if 0 ≤ x then x else -x
theorem low_V (v : Int32) {k : Nat} (h0 : 0 < k) (hk : k < 2 ^ 31) : ∃ j : Nat, j < k ∧ (v &&& 2147483647) - (v &&& 2147483647) / nI k * nI k = nI j := by
  have e := pk_and v (m := 2147483647) 31 (by decide)
  rw [e, pk_rem (Nat.mod_lt _ (by decide)) h0 hk]
  exact ⟨_, Nat.mod_lt _ h0, rfl⟩
theorem nI_nz {k : Nat} (h0 : 0 < k) (hk : k < 2 ^ 31) : ¬ nI k = 0 := nI_ne0 h0 hk
theorem bl_at {b L : Nat} {xs : Nat → Int32} : kBl (fun U => va_X b L xs U U.heap ∧ b < U.heap.size ∧ GL U) := fun U U' h1 h2 h => by
  show va_X b L xs U' U'.heap ∧ b < U'.heap.size ∧ GL U'
  rw [h1]; exact ⟨va_X.moved (warm_vm h2).alike h.1, h.2.1, h.2.2.warm (warm_vm h2)⟩
end
section
set_option maxHeartbeats 4000000 in
set_option maxRecDepth 100000 in
theorem kL_low (l : Launch) (v : Int32) (k : Nat) (h0 : 0 < k) (hk : k < 2 ^ 31) : Met l yL_low [.code yL_low cL_low 2 (some .int)] ({ frames := 1, cells := 0, slots := 0, locals := 40 }) (va_Pc [.int v, .int (nI k)] (fun U => GL U)) (vp_Si (fun r => ∃ j, j < k ∧ r = nI j)) 0 0 NF := by
  refine k_of (by decide) (Nat.le_of_ble_eq_true rfl) (fun U h => h) ?_
  intro p e s m below meth c ls S hr hlocks hmn hB hl
  have hx := S.1
  have hb := S.2.1
  have hS : va_S NF s.heap s.heap [] := va_S.rf
  have hG : GL s := hB
  have hl : lv_has ls 2 [(0, .int v), (1, .int (nI k))] := hl
  refine lv_iload_n hx hb dL_low_0 rfl (lv_at hl 0 rfl) ?_
  refine lv_ldc (v := 2147483647) hx hb S.2.2.2.1 (S.2.2.2.2 _ m_490) dL_low_1 ?_
  refine lv_iand hx hb dL_low_3 ?_
  refine lv_iload_n hx hb dL_low_4 rfl (lv_at hl 1 rfl) ?_
  refine lv_irem hx hb dL_low_5 (nI_nz h0 hk) ?_
  exact W.iret (v := (v &&& 2147483647) - (v &&& 2147483647) / (nI k) * (nI k)) hx hb hr (fun t9 ht hW9 => ⟨_, rfl, low_V v h0 hk, ht⟩) hS.2.2 dL_low_6

set_option maxHeartbeats 4000000 in
set_option maxRecDepth 100000 in
theorem kL_size (l : Launch) (v : Int32) : Met l yL_size [.code yL_size cL_size 1 (some .int)] ({ frames := 1, cells := 0, slots := 0, locals := 40 }) (va_Pc [.int v] (fun U => GL U)) (vp_Si (fun r => r = szV v)) 0 0 NF := by
  refine k_of (by decide) (Nat.le_of_ble_eq_true rfl) (fun U h => h) ?_
  intro p e s m below meth c ls S hr hlocks hmn hB hl
  have hx := S.1
  have hb := S.2.1
  have hS : va_S NF s.heap s.heap [] := va_S.rf
  have hG : GL s := hB
  have hl : lv_has ls 1 [(0, .int v)] := hl
  refine lv_iload_n hx hb dL_size_0 rfl (lv_at hl 0 rfl) ?_
  refine lv_if_ge (tgt := 9) hx hb dL_size_1 (by decide) (fun cz => ?_) (fun cz => ?_)
  · skip
    refine lv_iload_n hx hb dL_size_9 rfl (lv_at hl 0 rfl) ?_
    exact W.iret (v := v) hx hb hr (fun t9 ht hW9 => ⟨_, rfl, by unfold szV; rw [if_pos cz], ht⟩) hS.2.2 dL_size_10
  · skip
    refine lv_iload_n hx hb dL_size_4 rfl (lv_at hl 0 rfl) ?_
    refine lv_ineg hx hb dL_size_5 ?_
    refine lv_goto (tgt := 10) hx hb dL_size_6 (by decide) ?_
    exact W.iret (v := -v) hx hb hr (fun t9 ht hW9 => ⟨_, rfl, by unfold szV; rw [if_neg cz], ht⟩) hS.2.2 dL_size_10

set_option maxHeartbeats 4000000 in
set_option maxRecDepth 100000 in
theorem kL_at (l : Launch) (b L : Nat) (xs : Nat → Int32) (k : Nat) (hk : k < 2 ^ 31) (hL : L < 2 ^ 31) : Met l yL_at [.code yL_at cL_at 2 (some .int)] ({ frames := 1, cells := 0, slots := 0, locals := 40 }) (va_Pc [.ref b, .int (nI k)] (fun U => va_X b L xs U U.heap ∧ b < U.heap.size ∧ GL U)) (vp_Si (fun r => True)) 0 0 NF := by
  refine k_of (by decide) (Nat.le_of_ble_eq_true rfl) (fun U h => h.2.2) ?_
  intro p e s m below meth c ls S hr hlocks hmn hB hl
  have hx := S.1
  have hb := S.2.1
  have hS : va_S NF s.heap s.heap [] := va_S.rf
  obtain ⟨hX, hbl, hG⟩ := hB
  have hl : lv_has ls 2 [(0, .ref b), (1, .int (nI k))] := hl
  refine lv_iload_n hx hb dL_at_0 rfl (lv_at hl 1 rfl) ?_
  refine lv_aload_n hx hb dL_at_1 rfl (lv_at hl 0 rfl) ?_
  refine va_slen hx hb hX hbl (fun z => z) hS dL_at_2 ?_
  refine lv_icmp_ge (tgt := 12) hx hb dL_at_3 (by decide) (fun cz => ?_) (fun cz => ?_)
  · skip
    refine lv_ldc (v := 1907616213) hx hb S.2.2.2.1 (S.2.2.2.2 _ m_208) dL_at_12 ?_
    refine lv_iload_n hx hb dL_at_14 rfl (lv_at hl 1 rfl) ?_
    refine lv_iconst (v := 1) hx hb dL_at_15 (by decide) ?_
    refine lv_iadd hx hb dL_at_16 ?_
    refine lv_imul hx hb dL_at_17 ?_
    refine lv_ldc (v := 801482823) hx hb S.2.2.2.1 (S.2.2.2.2 _ m_209) dL_at_18 ?_
    refine lv_iadd hx hb dL_at_20 ?_
    exact W.iret (v := (1907616213 * ((nI k) + 1)) + 801482823) hx hb hr (fun t9 ht hW9 => ⟨_, rfl, trivial, ht⟩) hS.2.2 dL_at_21
  · skip
    refine lv_aload_n hx hb dL_at_6 rfl (lv_at hl 0 rfl) ?_
    refine lv_iload_n hx hb dL_at_7 rfl (lv_at hl 1 rfl) ?_
    have hkl : k < L := by
      rcases Nat.lt_or_ge k L with h9 | h9
      · exact h9
      · exact absurd (nI_le h9 hk) cz
    refine va_sld hx hb hX hbl (fun z => z) hS (vp_in_nI hkl hL) dL_at_8 ?_
    refine lv_goto (tgt := 21) hx hb dL_at_9 (by decide) ?_
    exact W.iret (v := xs ((nI k).toNatClampNeg)) hx hb hr (fun t9 ht hW9 => ⟨_, rfl, trivial, ht⟩) hS.2.2 dL_at_21

set_option maxHeartbeats 4000000 in
set_option maxRecDepth 100000 in
theorem kL_print (l : Launch) (G : kG) (ad : Nat → Nat) (σ : kS) (nm ns : Nat) (hst : l.stackTraces = false) (hns : σ 18 0 = nI ns) (hns4 : ns ≤ 40) (hnm : σ 17 0 = nI nm) (hnm2 : nm ≤ 200) : Met l yL_print [.code yL_print cL_print 4 (some .long)] ({ frames := 9, cells := 120, slots := 720, locals := 190 }) (va_Pc [.ref (ad 0)] (fun U => PX G ad σ U U.heap ∧ ZS U U.heap)) (oWl NF (fun r => r = prV σ nm ns 60)) 120 720 NF := by
  refine k_of (by decide) (Nat.le_of_ble_eq_true rfl) (fun U h => h.1.2.2) ?_
  intro p e s m below meth c ls S hr hlocks hmn hB hl
  have hx := S.1
  have hb := S.2.1
  obtain ⟨hX, hZ⟩ := hB
  have hS : va_S NF s.heap s.heap [] := va_S.rf
  have hl : lv_has ls 4 [(0, .ref (ad 0))] := hl
  have L8 : ∀ (n9 i : Nat), i ≤ 60 → 60 + 1 ≤ i + n9 → ∀ (H9 : Heap) (L9 : List Loc), PX G ad σ s H9 → ZS s H9 → va_S (NF) s.heap H9 L9 → ∀ ls, lv_has ls 4 [(0, .ref (ad 0)), (1, .long (prV σ nm ns i)), (3, .int (nI i))] → W p l e (({ frames := 9, cells := 120, slots := 720, locals := 190 }) : Room) s m [.ref (ad 0)].toArray below meth c H9 L9 (0 + 2 * i) (0 + 12 * i) (MQ below (oWl NF (fun r => r = prV σ nm ns 60)) [.ref (ad 0)].toArray s 120 720 NF) (F0 m 8 ls []) := by
    intro n9
    induction n9 with
    | zero =>
      intro i h1 h2
      omega
    | succ n9 ihL8 =>
      intro i hii hini  H9 L9 hX hZ hS ls hl
      refine lv_iload_n hx hb dL_print_8 rfl (lv_at hl 2 rfl) ?_
      refine lv_bipush (v := 60) hx hb dL_print_9 (by decide) ?_
      refine lv_icmp_ge (tgt := 38) hx hb dL_print_11 (by decide) (fun cz => ?_) (fun cz => ?_)
      · skip
        have hge : i = 60 := by
          have h9 := cz
          rw [show (60 : Int32) = nI 60 from rfl, nI_leI (by decide) (by omega)] at h9
          omega
        refine lv_lload_n hx hb dL_print_38 rfl (lv_at hl 1 rfl) ?_
        refine W.widen (k := 120) (n := 720) (by first | omega | exact Nat.le_of_ble_eq_true rfl) (by first | omega | exact Nat.le_of_ble_eq_true rfl) ?_
        exact W.lret (v := prV σ nm ns i) hx hb hr (fun t9 ht hW9 => ⟨⟨_, rfl, by rw [hge]⟩, hS.F ht⟩) hS.2.2 dL_print_39
      · skip
        have hlt : i < 60 := by
          rcases Nat.lt_or_ge i 60 with h9 | h9
          · exact h9
          · exact absurd (nI_le (a := 60) h9 (by omega)) cz
        refine lv_ldc2 (v := 1000003) hx hb S.2.2.2.1 (S.2.2.2.2 _ m_305) dL_print_14 ?_
        refine lv_lload_n hx hb dL_print_17 rfl (lv_at hl 1 rfl) ?_
        refine lv_lmul hx hb dL_print_18 ?_
        refine lv_aload_n hx hb dL_print_19 rfl (lv_at hl 0 rfl) ?_
        refine lv_iload_n hx hb dL_print_20 rfl (lv_at hl 2 rfl) ?_
        refine lv_iconst (v := 5) hx hb dL_print_21 (by decide) ?_
        refine lv_idiv hx hb dL_print_22 (by decide) ?_
        refine k_eq (y := nI (i / 5)) (pk_div (a := i) (d := 5) (by omega) (by decide) (by decide)) ?_
        refine lv_iload_n hx hb dL_print_23 rfl (lv_at hl 2 rfl) ?_
        refine lv_iconst (v := 5) hx hb dL_print_24 (by decide) ?_
        refine lv_irem hx hb dL_print_25 (by decide) ?_
        refine k_eq (y := nI (i % 5)) (pk_rem (a := i) (d := 5) (by omega) (by decide) (by decide)) ?_
        refine q_wx (rx_SX S ⟨m_306, m_307, m_22, m_308⟩ ⟨rfl, by decide, by decide, by decide +kernel⟩ (kL_book l G ad σ nm ns (nI (i / 5)) (nI (i % 5)) hst hns hns4 hnm hnm2) ⟨rfl, rfl, Nat.le_of_ble_eq_true rfl, Nat.le_of_ble_eq_true rfl⟩ (ps bl_PXZ (bXZ hX hZ)) (n := 3) (As := [.ref (ad 0), .int (nI (i / 5)), .int (nI (i % 5))]) (rest := [.long (1000003 * (prV σ nm ns i))]) rfl hl.1 rfl (Nat.le_of_ble_eq_true rfl) ⟨by show _ ≤ (120 : Nat); omega, by show _ ≤ (720 : Nat); omega⟩ dL_print_26) hS (fun _ h => h.elim) (fun r2 H2 L2 e2 g2 f2 hS2 => ?_)
        subst e2
        have hX2 : PX G ad σ s H2 := ⟨kp hX.1 (fun q z => f2 q z (fun y => y)), hX.2⟩
        have hZ2 : ZS s H2 := ⟨hZ.1.kept f2, hZ.2.kept f2⟩
        refine k_eq (y := boV σ nm ns (nI (i / 5)) (i % 5) (σ 16 0)) (tV_book (by omega) (by omega)) ?_
        refine lv_i2l (v := ((boV σ nm ns (nI (i / 5)) (i % 5) (σ 16 0)) : Int32).toInt64) hx hb dL_print_29 rfl ?_
        refine lv_ladd hx hb dL_print_30 ?_
        refine k_eql (y := prV σ nm ns (i + 1)) (rfl) ?_
        refine lv_lstore_n (lv' := [(1, .long (prV σ nm ns (i + 1))), (0, .ref (ad 0)), (3, .int (nI i))]) hx hb dL_print_31 rfl hl (by decide) rfl (fun ls hl => ?_)
        refine lv_iinc (v := nI (i + 1)) (lv' := [(3, .int (nI (i + 1))), (1, .long (prV σ nm ns (i + 1))), (0, .ref (ad 0))]) hx hb dL_print_32 hl (k := 2) rfl (nI_1 i) (by decide) rfl (fun ls hl => ?_)
        refine lv_goto (tgt := 8) hx hb dL_print_35 (by decide) ?_
        exact ihL8 (i + 1) hlt (by omega) H2 L2 hX2 hZ2 hS2 ls (lv_sub hl [2, 1, 0] rfl)
  refine lv_aload_n hx hb dL_print_0 rfl (lv_at hl 0 rfl) ?_
  refine q_i (r_V S ⟨m_150, m_151, m_152, m_23, m_153⟩ ⟨rfl, by decide, by decide, by decide +kernel⟩ (c_now l G ad σ) ⟨rfl, rfl, Nat.le_of_ble_eq_true rfl, Nat.le_of_ble_eq_true rfl⟩ (pv_X hX 0 rfl rfl bl_PX (bX hX)) (n := 0) (As := []) (rest := []) rfl hl.1 rfl (Nat.le_of_ble_eq_true rfl) ⟨Nat.le_of_ble_eq_true rfl, Nat.le_of_ble_eq_true rfl⟩ dL_print_1) (fun r3 e3 => ?_)
  subst e3
  refine lv_i2l (v := ((σ 16 0) : Int32).toInt64) hx hb dL_print_4 rfl ?_
  refine lv_lstore_n (lv' := [(1, .long (((σ 16 0) : Int32).toInt64)), (0, .ref (ad 0))]) hx hb dL_print_5 rfl hl (by decide) rfl (fun ls hl => ?_)
  refine lv_iconst (v := 0) hx hb dL_print_6 (by decide) ?_
  refine lv_istore_n (lv' := [(3, .int 0), (1, .long (((σ 16 0) : Int32).toInt64)), (0, .ref (ad 0))]) hx hb dL_print_7 rfl hl (by decide) rfl (fun ls hl => ?_)
  exact L8 61 0 (Nat.zero_le _) (by omega) s.heap _ hX hZ hS ls (lv_sub hl [2, 1, 0] rfl)
end
section
theorem zz_end : True := trivial
end
