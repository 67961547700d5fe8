section
-- ===== PART A: goes FIRST, ahead of the names: the tables' words, and 'selects' of the private methods out of them =====
/-- a private method of a class that the tables say can be made, by its rows of tables_1 -/
def lw_okq (q : MethodName × Nat) : Prop := (q.1.cls ≠ "java/lang/invoke/MethodHandle" ∧ q.1.cls ≠ "java/lang/invoke/VarHandle") ∧ Cond.instantiable q.1.cls q.2 ∈ tables_1 ∧ Cond.privateMethod q.1 ∈ tables_1 ∧ Cond.instanceMethod q.1 ∈ tables_1
theorem lw_p0 : lw_okq (⟨"CountSheets$SheetRows", "isOpenFor", "(I)Z"⟩, 4) := ⟨⟨by decide +kernel, by decide +kernel⟩, List.mem_of_getElem? (i := 52) (by decide +kernel), List.mem_of_getElem? (i := 142) (by decide +kernel), List.mem_of_getElem? (i := 143) (by decide +kernel)⟩
theorem lw_p1 : lw_okq (⟨"CountSheets$SheetRows", "latestFor", "(I)I"⟩, 4) := ⟨⟨by decide +kernel, by decide +kernel⟩, List.mem_of_getElem? (i := 52) (by decide +kernel), List.mem_of_getElem? (i := 146) (by decide +kernel), List.mem_of_getElem? (i := 147) (by decide +kernel)⟩
theorem lw_p2 : lw_okq (⟨"CountSheets", "urgencyOf", "(I)J"⟩, 6) := ⟨⟨by decide +kernel, by decide +kernel⟩, List.mem_of_getElem? (i := 17) (by decide +kernel), List.mem_of_getElem? (i := 150) (by decide +kernel), List.mem_of_getElem? (i := 151) (by decide +kernel)⟩
theorem lw_p3 : lw_okq (⟨"CountSheets", "worthOf", "(I)I"⟩, 6) := ⟨⟨by decide +kernel, by decide +kernel⟩, List.mem_of_getElem? (i := 17) (by decide +kernel), List.mem_of_getElem? (i := 155) (by decide +kernel), List.mem_of_getElem? (i := 156) (by decide +kernel)⟩
theorem lw_p4 : lw_okq (⟨"CountSheets", "bookOf", "(III)I"⟩, 6) := ⟨⟨by decide +kernel, by decide +kernel⟩, List.mem_of_getElem? (i := 17) (by decide +kernel), List.mem_of_getElem? (i := 159) (by decide +kernel), List.mem_of_getElem? (i := 160) (by decide +kernel)⟩
theorem lw_p5 : lw_okq (⟨"CountSheets", "signedSheetFor", "(III)I"⟩, 6) := ⟨⟨by decide +kernel, by decide +kernel⟩, List.mem_of_getElem? (i := 17) (by decide +kernel), List.mem_of_getElem? (i := 163) (by decide +kernel), List.mem_of_getElem? (i := 164) (by decide +kernel)⟩
theorem lw_p6 : lw_okq (⟨"CountSheets$LineRows", "hasSign", "(I)Z"⟩, 7) := ⟨⟨by decide +kernel, by decide +kernel⟩, List.mem_of_getElem? (i := 76) (by decide +kernel), List.mem_of_getElem? (i := 170) (by decide +kernel), List.mem_of_getElem? (i := 171) (by decide +kernel)⟩
theorem lw_p7 : lw_okq (⟨"CountSheets", "isStronger", "(III)Z"⟩, 6) := ⟨⟨by decide +kernel, by decide +kernel⟩, List.mem_of_getElem? (i := 17) (by decide +kernel), List.mem_of_getElem? (i := 174) (by decide +kernel), List.mem_of_getElem? (i := 175) (by decide +kernel)⟩
theorem lw_p8 : lw_okq (⟨"CountSheets$MoveRows", "brought", "(IIII)I"⟩, 6) := ⟨⟨by decide +kernel, by decide +kernel⟩, List.mem_of_getElem? (i := 25) (by decide +kernel), List.mem_of_getElem? (i := 178) (by decide +kernel), List.mem_of_getElem? (i := 179) (by decide +kernel)⟩
theorem lw_p9 : lw_okq (⟨"java/lang/Throwable", "fillInStackTrace", "(I)Ljava/lang/Throwable;"⟩, 6) := ⟨⟨by decide +kernel, by decide +kernel⟩, List.mem_of_getElem? (i := 240) (by decide +kernel), List.mem_of_getElem? (i := 238) (by decide +kernel), List.mem_of_getElem? (i := 239) (by decide +kernel)⟩
theorem lw_p10 : lw_okq (⟨"CountSheets$MoveRows", "add", "(IIIII)I"⟩, 6) := ⟨⟨by decide +kernel, by decide +kernel⟩, List.mem_of_getElem? (i := 25) (by decide +kernel), List.mem_of_getElem? (i := 325) (by decide +kernel), List.mem_of_getElem? (i := 326) (by decide +kernel)⟩
theorem lw_p11 : lw_okq (⟨"CountSheets$SheetRows", "add", "(II)I"⟩, 4) := ⟨⟨by decide +kernel, by decide +kernel⟩, List.mem_of_getElem? (i := 52) (by decide +kernel), List.mem_of_getElem? (i := 345) (by decide +kernel), List.mem_of_getElem? (i := 346) (by decide +kernel)⟩
theorem lw_p12 : lw_okq (⟨"CountSheets$LineRows", "agrees", "(I)Z"⟩, 7) := ⟨⟨by decide +kernel, by decide +kernel⟩, List.mem_of_getElem? (i := 76) (by decide +kernel), List.mem_of_getElem? (i := 358) (by decide +kernel), List.mem_of_getElem? (i := 359) (by decide +kernel)⟩
theorem lw_p13 : lw_okq (⟨"CountSheets$LineRows", "isCountedBy", "(II)Z"⟩, 7) := ⟨⟨by decide +kernel, by decide +kernel⟩, List.mem_of_getElem? (i := 76) (by decide +kernel), List.mem_of_getElem? (i := 363) (by decide +kernel), List.mem_of_getElem? (i := 364) (by decide +kernel)⟩
theorem lw_p14 : lw_okq (⟨"CountSheets$LineRows", "add", "(III)V"⟩, 7) := ⟨⟨by decide +kernel, by decide +kernel⟩, List.mem_of_getElem? (i := 76) (by decide +kernel), List.mem_of_getElem? (i := 368) (by decide +kernel), List.mem_of_getElem? (i := 369) (by decide +kernel)⟩
theorem lw_p15 : lw_okq (⟨"CountSheets$LineRows", "countsOn", "(I)I"⟩, 7) := ⟨⟨by decide +kernel, by decide +kernel⟩, List.mem_of_getElem? (i := 76) (by decide +kernel), List.mem_of_getElem? (i := 372) (by decide +kernel), List.mem_of_getElem? (i := 373) (by decide +kernel)⟩
def lw_privs_1 : List (MethodName × Nat) := [(⟨"CountSheets$SheetRows", "isOpenFor", "(I)Z"⟩, 4), (⟨"CountSheets$SheetRows", "latestFor", "(I)I"⟩, 4), (⟨"CountSheets", "urgencyOf", "(I)J"⟩, 6), (⟨"CountSheets", "worthOf", "(I)I"⟩, 6), (⟨"CountSheets", "bookOf", "(III)I"⟩, 6), (⟨"CountSheets", "signedSheetFor", "(III)I"⟩, 6), (⟨"CountSheets$LineRows", "hasSign", "(I)Z"⟩, 7), (⟨"CountSheets", "isStronger", "(III)Z"⟩, 6), (⟨"CountSheets$MoveRows", "brought", "(IIII)I"⟩, 6), (⟨"java/lang/Throwable", "fillInStackTrace", "(I)Ljava/lang/Throwable;"⟩, 6), (⟨"CountSheets$MoveRows", "add", "(IIIII)I"⟩, 6), (⟨"CountSheets$SheetRows", "add", "(II)I"⟩, 4), (⟨"CountSheets$LineRows", "agrees", "(I)Z"⟩, 7), (⟨"CountSheets$LineRows", "isCountedBy", "(II)Z"⟩, 7), (⟨"CountSheets$LineRows", "add", "(III)V"⟩, 7), (⟨"CountSheets$LineRows", "countsOn", "(I)I"⟩, 7)]
theorem lw_r1 : ∀ q ∈ lw_privs_1, lw_okq q := List.forall_mem_cons.mpr ⟨lw_p0, List.forall_mem_cons.mpr ⟨lw_p1, List.forall_mem_cons.mpr ⟨lw_p2, List.forall_mem_cons.mpr ⟨lw_p3, List.forall_mem_cons.mpr ⟨lw_p4, List.forall_mem_cons.mpr ⟨lw_p5, List.forall_mem_cons.mpr ⟨lw_p6, List.forall_mem_cons.mpr ⟨lw_p7, List.forall_mem_cons.mpr ⟨lw_p8, List.forall_mem_cons.mpr ⟨lw_p9, List.forall_mem_cons.mpr ⟨lw_p10, List.forall_mem_cons.mpr ⟨lw_p11, List.forall_mem_cons.mpr ⟨lw_p12, List.forall_mem_cons.mpr ⟨lw_p13, List.forall_mem_cons.mpr ⟨lw_p14, List.forall_mem_cons.mpr ⟨lw_p15, fun _ h => absurd h List.not_mem_nil⟩⟩⟩⟩⟩⟩⟩⟩⟩⟩⟩⟩⟩⟩⟩⟩
theorem lw_p16 : lw_okq (⟨"CountSheets", "checkAgrees", "(II)V"⟩, 6) := ⟨⟨by decide +kernel, by decide +kernel⟩, List.mem_of_getElem? (i := 17) (by decide +kernel), List.mem_of_getElem? (i := 406) (by decide +kernel), List.mem_of_getElem? (i := 407) (by decide +kernel)⟩
theorem lw_p17 : lw_okq (⟨"CountSheets", "isSignable", "(II)Z"⟩, 6) := ⟨⟨by decide +kernel, by decide +kernel⟩, List.mem_of_getElem? (i := 17) (by decide +kernel), List.mem_of_getElem? (i := 426) (by decide +kernel), List.mem_of_getElem? (i := 427) (by decide +kernel)⟩
theorem lw_p18 : lw_okq (⟨"CountSheets", "gapOf", "(II)I"⟩, 6) := ⟨⟨by decide +kernel, by decide +kernel⟩, List.mem_of_getElem? (i := 17) (by decide +kernel), List.mem_of_getElem? (i := 431) (by decide +kernel), List.mem_of_getElem? (i := 432) (by decide +kernel)⟩
theorem lw_p19 : lw_okq (⟨"CountSheets$LineRows", "write", "(II)V"⟩, 7) := ⟨⟨by decide +kernel, by decide +kernel⟩, List.mem_of_getElem? (i := 76) (by decide +kernel), List.mem_of_getElem? (i := 439) (by decide +kernel), List.mem_of_getElem? (i := 440) (by decide +kernel)⟩
theorem lw_p20 : lw_okq (⟨"CountSheets", "canBeSettled", "(III)Z"⟩, 6) := ⟨⟨by decide +kernel, by decide +kernel⟩, List.mem_of_getElem? (i := 17) (by decide +kernel), List.mem_of_getElem? (i := 450) (by decide +kernel), List.mem_of_getElem? (i := 451) (by decide +kernel)⟩
theorem lw_p21 : lw_okq (⟨"CountSheets", "checkLine", "(II)V"⟩, 6) := ⟨⟨by decide +kernel, by decide +kernel⟩, List.mem_of_getElem? (i := 17) (by decide +kernel), List.mem_of_getElem? (i := 497) (by decide +kernel), List.mem_of_getElem? (i := 498) (by decide +kernel)⟩
theorem lw_p22 : lw_okq (⟨"CountSheetsModel", "goes", "(ZZZ)Z"⟩, 20) := ⟨⟨by decide +kernel, by decide +kernel⟩, List.mem_of_getElem? (i := 536) (by decide +kernel), List.mem_of_getElem? (i := 617) (by decide +kernel), List.mem_of_getElem? (i := 618) (by decide +kernel)⟩
theorem lw_p23 : lw_okq (⟨"CountSheetsModel", "hasOpen", "(I)Z"⟩, 20) := ⟨⟨by decide +kernel, by decide +kernel⟩, List.mem_of_getElem? (i := 536) (by decide +kernel), List.mem_of_getElem? (i := 641) (by decide +kernel), List.mem_of_getElem? (i := 642) (by decide +kernel)⟩
theorem lw_p24 : lw_okq (⟨"CountSheetsModel", "isSheet", "(I)Z"⟩, 20) := ⟨⟨by decide +kernel, by decide +kernel⟩, List.mem_of_getElem? (i := 536) (by decide +kernel), List.mem_of_getElem? (i := 649) (by decide +kernel), List.mem_of_getElem? (i := 650) (by decide +kernel)⟩
theorem lw_p25 : lw_okq (⟨"CountSheetsModel", "hasCounted", "(II)Z"⟩, 20) := ⟨⟨by decide +kernel, by decide +kernel⟩, List.mem_of_getElem? (i := 536) (by decide +kernel), List.mem_of_getElem? (i := 656) (by decide +kernel), List.mem_of_getElem? (i := 657) (by decide +kernel)⟩
theorem lw_p26 : lw_okq (⟨"CountSheetsModel", "agree", "(I)I"⟩, 20) := ⟨⟨by decide +kernel, by decide +kernel⟩, List.mem_of_getElem? (i := 536) (by decide +kernel), List.mem_of_getElem? (i := 660) (by decide +kernel), List.mem_of_getElem? (i := 661) (by decide +kernel)⟩
theorem lw_p27 : lw_okq (⟨"CountSheetsModel", "agrees", "(II)Z"⟩, 20) := ⟨⟨by decide +kernel, by decide +kernel⟩, List.mem_of_getElem? (i := 536) (by decide +kernel), List.mem_of_getElem? (i := 673) (by decide +kernel), List.mem_of_getElem? (i := 674) (by decide +kernel)⟩
theorem lw_p28 : lw_okq (⟨"CountSheetsModel", "gapOf", "(II)I"⟩, 20) := ⟨⟨by decide +kernel, by decide +kernel⟩, List.mem_of_getElem? (i := 536) (by decide +kernel), List.mem_of_getElem? (i := 677) (by decide +kernel), List.mem_of_getElem? (i := 678) (by decide +kernel)⟩
theorem lw_p29 : lw_okq (⟨"CountSheetsModel", "bookOf", "(III)I"⟩, 20) := ⟨⟨by decide +kernel, by decide +kernel⟩, List.mem_of_getElem? (i := 536) (by decide +kernel), List.mem_of_getElem? (i := 681) (by decide +kernel), List.mem_of_getElem? (i := 682) (by decide +kernel)⟩
theorem lw_p30 : lw_okq (⟨"CountSheetsModel", "signs", "(III)V"⟩, 20) := ⟨⟨by decide +kernel, by decide +kernel⟩, List.mem_of_getElem? (i := 536) (by decide +kernel), List.mem_of_getElem? (i := 685) (by decide +kernel), List.mem_of_getElem? (i := 686) (by decide +kernel)⟩
theorem lw_p31 : lw_okq (⟨"CountSheetsModel", "canSettle", "(III)Z"⟩, 20) := ⟨⟨by decide +kernel, by decide +kernel⟩, List.mem_of_getElem? (i := 536) (by decide +kernel), List.mem_of_getElem? (i := 693) (by decide +kernel), List.mem_of_getElem? (i := 694) (by decide +kernel)⟩
def lw_privs_2 : List (MethodName × Nat) := [(⟨"CountSheets", "checkAgrees", "(II)V"⟩, 6), (⟨"CountSheets", "isSignable", "(II)Z"⟩, 6), (⟨"CountSheets", "gapOf", "(II)I"⟩, 6), (⟨"CountSheets$LineRows", "write", "(II)V"⟩, 7), (⟨"CountSheets", "canBeSettled", "(III)Z"⟩, 6), (⟨"CountSheets", "checkLine", "(II)V"⟩, 6), (⟨"CountSheetsModel", "goes", "(ZZZ)Z"⟩, 20), (⟨"CountSheetsModel", "hasOpen", "(I)Z"⟩, 20), (⟨"CountSheetsModel", "isSheet", "(I)Z"⟩, 20), (⟨"CountSheetsModel", "hasCounted", "(II)Z"⟩, 20), (⟨"CountSheetsModel", "agree", "(I)I"⟩, 20), (⟨"CountSheetsModel", "agrees", "(II)Z"⟩, 20), (⟨"CountSheetsModel", "gapOf", "(II)I"⟩, 20), (⟨"CountSheetsModel", "bookOf", "(III)I"⟩, 20), (⟨"CountSheetsModel", "signs", "(III)V"⟩, 20), (⟨"CountSheetsModel", "canSettle", "(III)Z"⟩, 20)]
theorem lw_r2 : ∀ q ∈ lw_privs_2, lw_okq q := List.forall_mem_cons.mpr ⟨lw_p16, List.forall_mem_cons.mpr ⟨lw_p17, List.forall_mem_cons.mpr ⟨lw_p18, List.forall_mem_cons.mpr ⟨lw_p19, List.forall_mem_cons.mpr ⟨lw_p20, List.forall_mem_cons.mpr ⟨lw_p21, List.forall_mem_cons.mpr ⟨lw_p22, List.forall_mem_cons.mpr ⟨lw_p23, List.forall_mem_cons.mpr ⟨lw_p24, List.forall_mem_cons.mpr ⟨lw_p25, List.forall_mem_cons.mpr ⟨lw_p26, List.forall_mem_cons.mpr ⟨lw_p27, List.forall_mem_cons.mpr ⟨lw_p28, List.forall_mem_cons.mpr ⟨lw_p29, List.forall_mem_cons.mpr ⟨lw_p30, List.forall_mem_cons.mpr ⟨lw_p31, fun _ h => absurd h List.not_mem_nil⟩⟩⟩⟩⟩⟩⟩⟩⟩⟩⟩⟩⟩⟩⟩⟩
theorem lw_p32 : lw_okq (⟨"CountSheetsModel", "told", "(I)I"⟩, 20) := ⟨⟨by decide +kernel, by decide +kernel⟩, List.mem_of_getElem? (i := 536) (by decide +kernel), List.mem_of_getElem? (i := 701) (by decide +kernel), List.mem_of_getElem? (i := 702) (by decide +kernel)⟩
theorem lw_p33 : lw_okq (⟨"CountSheetsModel", "worthOf", "(I)I"⟩, 20) := ⟨⟨by decide +kernel, by decide +kernel⟩, List.mem_of_getElem? (i := 536) (by decide +kernel), List.mem_of_getElem? (i := 721) (by decide +kernel), List.mem_of_getElem? (i := 722) (by decide +kernel)⟩
def lw_privs_3 : List (MethodName × Nat) := [(⟨"CountSheetsModel", "told", "(I)I"⟩, 20), (⟨"CountSheetsModel", "worthOf", "(I)I"⟩, 20)]
theorem lw_r3 : ∀ q ∈ lw_privs_3, lw_okq q := List.forall_mem_cons.mpr ⟨lw_p32, List.forall_mem_cons.mpr ⟨lw_p33, fun _ h => absurd h List.not_mem_nil⟩⟩
def lw_privs : List (MethodName × Nat) := lw_privs_1 ++ (lw_privs_2 ++ (lw_privs_3))
def lw_tbl : List Cond := k2_sels lw_privs ++ tables_1
theorem lw_privs_ok : ∀ q ∈ lw_privs, lw_okq q := by
  show ∀ q ∈ lw_privs_1 ++ (lw_privs_2 ++ (lw_privs_3)), lw_okq q
  exact List.forall_mem_append.mpr ⟨lw_r1, List.forall_mem_append.mpr ⟨lw_r2, lw_r3⟩⟩
end
section
/-! ===== BEGIN words of one list among another's, by their places ===== -/
theorem goodIn_r {big : List Cond} (ws : List Cond) (ps : List Nat) (hp : ws = ps.filterMap (fun i => big[i]?)) (h : ws.all goodWord = true) : GoodIn big ws := by
  intro w hw
  have h1 := List.all_eq_true.mp h w hw
  rw [hp] at hw
  obtain ⟨i, -, hi⟩ := List.mem_filterMap.mp hw
  have hm : w ∈ big := by first | exact List.mem_of_getElem? hi | exact List.getElem?_mem hi
  exact ⟨hm, good_of_word h1⟩
theorem goodIn_app {big a b : List Cond} (ha : GoodIn big a) (hb : GoodIn big b) : GoodIn big (a ++ b) := fun w h => (List.mem_append.mp h).elim (ha w) (hb w)
theorem goodIn_ca {big a b : List Cond} {c : Cond} (ha : GoodIn big (c :: a)) (hb : GoodIn big b) : GoodIn big (c :: (a ++ b)) := fun w h => (List.mem_cons.mp h).elim (fun e => ha w (List.mem_cons.mpr (Or.inl e))) (fun h => (List.mem_append.mp h).elim (fun h => ha w (List.mem_cons.mpr (Or.inr h))) (hb w))
theorem goodIn_sub {big ws : List Cond} (hm : ∀ w ∈ ws, w ∈ big) (h : ws.all goodWord = true) : GoodIn big ws := fun w hw => ⟨hm w hw, good_of_word (List.all_eq_true.mp h w hw)⟩
/-! ===== END ===== -/

/-! ===== BEGIN exceptions that leave a method, and their catching by the caller (launches without stack traces) ===== -/
section VXA
/-! The laws vx_back, vx_callV, vx_callS, vx_callSW, vx_throw0, vx_throwS follow proofs of the library, with one case more: JvmDerived/Free/Laws.lean (Back.of_free), Shelf42/LK1.lean (callV, callS), Shelf/KitTraced.lean (throwNew0V, throwNewS). -/
/-- where a method has thrown q: the class by its name, the cell, what was written, the world -/
def vx_T (XC : String → State → State → Prop) (st : State) (q : Addr) (t : State) (mc ms : Nat) (free : Addr → Prop) : Prop :=
  ∃ (E : String) (ce : Cell) (L : List Loc), XC E st t ∧ t.heap[q]? = some ce ∧ ce.vm = .none ∧ st.vm.findClass E = some ce.cls ∧ st.WarmedH t.vm ∧ st.sameButNew ({ t with vm := st.vm } : State) L mc ms ∧ ∀ z ∈ L, free z.base
def vx_Q (Qc : Array Value → State → Outcome → State → Prop) (XC : String → State → State → Prop) (mc ms : Nat) (free : Addr → Prop) : Array Value → State → Outcome → State → Prop := fun a st o t =>
  (Qc a st o t ∧ ∃ L, FrameEnd st o t L mc ms ∧ ∀ q ∈ L, free q.base) ∨ ∃ q, o = .threw q ∧ vx_T XC st q t mc ms free
/-- a callee that returns or throws -/
def vx_Met (l : Launch) (y : MethodName) (ws : List Cond) (rm : Room) (Pc : Array Value → State → Prop) (Qc : Array Value → State → Outcome → State → Prop) (XC : String → State → State → Prop) (mc ms : Nat) (free : Addr → Prop) : Prop :=
  MetFree l y (headSpec ws rm) Pc (fun _ _ _ _ _ => True) (vx_Q Qc XC mc ms free)
def vx_Post (XC : String → State → State → Prop) (mc ms : Nat) (free : Addr → Prop) : Pt → Array Value → Addr → Pt → Prop := fun A a q B =>
  ∃ (g : JFrame) (mk : MethodId) (t : State) (L : List Loc) (E : String) (ce : Cell), B.U.heap = t.heap ∧ B.U.vm = t.vm ∧ XC E (A.U.calling g mk a) t ∧ t.heap[q]? = some ce ∧ ce.vm = .none ∧ A.U.vm.findClass E = some ce.cls ∧ B.locs = A.locs ++ L ∧ (∀ z ∈ L, free z.base) ∧ B.cells = A.cells + mc ∧ B.slots = A.slots + ms
def vx_Back (l : Launch) (R : Room) (p : Program) (e : Env) (below : List Frame) (s : State) (sargs : Array Value) (y : MethodName) (len W9 : Nat)
    (Pre : Pt → Array Value → Prop) (Post : Pt → Array Value → Option Value → Pt → Prop) (PostX : Pt → Array Value → Addr → Pt → Prop) : Prop :=
  ∀ (m : MethodId) (meth : Method) (c : Code) (A : Pt) (g : JFrame) (ig : Instr) (mk : MethodId) (a : Array Value),
    Stand p l e R s m sargs below meth c A.U A.locs A.cells A.slots → g.method = m → g.locals.size = c.maxLocals → decode c.code g.pc = .ok (ig, len) →
    2 * g.monitorRoom + (g.stack.map fun v => v.category).sum ≤ W9 → A.U.methodNamed? y = some mk → Pre A a →
    (∃ (v : Option Value) (B : Pt), Stand p l e R s m sargs below meth c B.U B.locs B.cells B.slots ∧ Post A a v B ∧
      Steps p.tables e below (doInvoke e (A.U.setTop g) [] mk a).1 (B.U.setTop { g with pc := g.pc + len, stack := v.toList ++ g.stack })) ∨
    (∃ (q : Addr) (B : Pt), Stand p l e R s m sargs below meth c B.U B.locs B.cells B.slots ∧ PostX A a q B ∧
      Steps p.tables e below (doInvoke e (A.U.setTop g) [] mk a).1 ((B.U.setTop g).pushFrame (.throwing q)))
section Payer
variable {l : Launch} {R : Room} {p : Program} {e : Env} {below : List Frame} {s : State} {sargs : Array Value} {y : MethodName} {len W9 : Nat}
theorem vx_back {ws : List Cond} {rm : Room} {Pc : Array Value → State → Prop} {Qc : Array Value → State → Outcome → State → Prop} {XC : String → State → State → Prop} {mc ms : Nat} {free : Addr → Prop} {bytes : ByteArray} {maxL : Nat} {ret : Option FieldType}
    (hM : vx_Met l y ws rm Pc Qc XC mc ms free) (hblind : FrameBlind Pc) (hrc : rm.cells = mc) (hrs : rm.slots = ms)
    (hframes : rm.frames + 1 ≤ R.frames) (hlocals : W9 + (maxL + 11) + rm.locals ≤ R.locals)
    (hws : ∀ w ∈ ws, ∀ a' U, s.WarmedH U.vm → w.before a' U = true) (hcode : Cond.code y bytes maxL ret ∈ ws) (hinit : ∀ a' U, s.WarmedH U.vm → (Cond.initialized y.cls).before a' U = true) :
    vx_Back l R p e below s sargs y len W9 (PreOf R mc ms Pc) (PostOf Qc mc ms free) (vx_Post XC mc ms free) := by
  intro m meth c A g ig mk a X hg hsize hdg hW hn hp
  have h1 : (headSpec ws rm).pre.before a A.U = true := atoms_intro fun w hw => hws w hw _ _ X.warmed
  have h2 : (Cond.code y bytes maxL ret).before a A.U = true := hws _ hcode _ _ X.warmed
  have h3 : (Cond.initialized y.cls).before a A.U = true := hinit _ _ X.warmed
  have h4 : A.cells + (headSpec ws rm).room.cells ≤ R.cells := by rw [show (headSpec ws rm).room.cells = mc from hrc]; exact hp.1
  have h5 : A.slots + (headSpec ws rm).room.slots ≤ R.slots := by rw [show (headSpec ws rm).room.slots = ms from hrs]; exact hp.2.1
  have hPc : Pc a (A.U.calling g mk a) := hblind _ _ _ _ hp.2.2
  obtain ⟨U, Ls, c0, s0⟩ := A
  dsimp only [Pt.U, Pt.locs, Pt.cells, Pt.slots] at h1 h2 h3 h4 h5 X hn hPc ⊢
  obtain ⟨methY, cY, hmY, hcY, -, hlY, -, -, -, -⟩ := Cond.code_spec hn h2
  obtain ⟨kY, hkY, -⟩ := className_of_methodNamed hn
  have hinitY : kY.init = .initialized := Cond.initialized_spec (findClass_of_methodNamed hn) hkY h3
  have h : At U g.method c below := by rw [hg]; exact X.here
  have hlocals9 : W9 + (maxL + 11) + (headSpec ws rm).room.locals ≤ R.locals := hlocals
  have happ : (headSpec ws rm).appliesLoose y e.platform (U.calling g mk a) = true :=
    Spec.appliesLoose_calling (g := g) h hdg hn hkY hinitY
      (X.room_calling (g := g) (R' := (headSpec ws rm).room) hsize hmY hcY hframes (by rw [hlY]; omega) h4 h5) h1
  obtain ⟨mid, hmid⟩ := h.above
  have hfr : (U.setTop g).frames = (.java g :: mid) ++ below := by rw [State.frames_setTop' g h.top, hmid]; rfl
  obtain ⟨o, s₂, hsteps, -, hend, hq⟩ := Steps.callFree hM p X.admits X.cas X.clock (acts := []) hfr happ hPc trivial
  have hq' : vx_Q Qc XC mc ms free a (U.calling g mk a) o s₂ := hq
  rw [State.frames_setTop' g h.top] at hend
  obtain ⟨g₀, hg0⟩ := Option.isSome_iff_exists.mp h.top
  obtain ⟨r, hr⟩ := State.topJava?_eq_some.mp hg0
  have hr' : (({ U with heap := s₂.heap, slotsUsed := s₂.slotsUsed } : State).setVm s₂.vm).frames = .java g₀ :: r := hr
  rcases hq' with ⟨hqc, L, hfe, hL⟩ | ⟨q, rfl, E, ce, L, hx, hce, hcv, hcl, hW₂, hsm, hL⟩
  · obtain ⟨⟨v, rfl⟩, hW₂, e2, q2, q3, q4, q5, q6⟩ := id hfe
    have e3 : s₂ = ({ (U.calling g mk a).setFrames s₂.frames with heap := s₂.heap, slotsUsed := s₂.slotsUsed } : State).setVm s₂.vm := by
      have : s₂ = ({ s₂ with vm := (U.calling g mk a).vm } : State).setVm s₂.vm := rfl
      rw [e2] at this
      exact this
    obtain ⟨c₂, i₂, len₂, hc₂, hd₂, hf₂⟩ := hend
    have hW' : U.WarmedH s₂.vm := hW₂
    have hcc : c₂ = c := by
      have h1 : s₂.code? g.method = U.code? g.method := by
        rw [State.code?_eq, State.code?_eq, hW'.alike.method?]
      exact Option.some.inj (hc₂.symm.trans (h1.trans h.code))
    subst hcc
    have hlen : len₂ = len := by rw [hdg] at hd₂; cases hd₂; rfl
    subst hlen
    have hs₂ : s₂ = (({ U with heap := s₂.heap, slotsUsed := s₂.slotsUsed } : State).setVm s₂.vm).setTop { g with pc := g.pc + len₂, stack := v.toList ++ g.stack } := by
      refine e3.trans ?_
      rw [hf₂, State.calling_eq h.top, State.setFrames_setFrames, State.setTop_of_frames _ hr', hr]
      rfl
    have hsame : U.sameButNew ({ U with heap := s₂.heap, slotsUsed := s₂.slotsUsed } : State) L mc ms := by
      refine ⟨?_, q2, q3, q4, q5, q6⟩
      obtain ⟨t, ht, -⟩ := State.frames_cons hr
      show ({ U with heap := s₂.heap, slotsUsed := s₂.slotsUsed } : State) = { U.setFrames U.frames with heap := s₂.heap, slotsUsed := s₂.slotsUsed }
      rw [State.setFrames_self ht]
    subst hg
    refine Or.inl ⟨v, ⟨(({ U with heap := s₂.heap, slotsUsed := s₂.slotsUsed } : State).setVm s₂.vm), Ls ++ L, c0 + mc, s0 + ms⟩,
      ⟨X.admits, X.cas, X.clock, X.frames, X.room, X.hears, X.method, X.code, (X.here.setHeapUsed s₂.heap s₂.slotsUsed).setVm hW'.alike, X.tail, State.WarmedH.trans X.warmed hW', X.limits, X.bytes, X.same.trans (hsame.setVm s.vm)⟩,
      ⟨g, mk, s₂, L, rfl, rfl, hqc, rfl, hL, rfl, rfl⟩, ?_⟩
    show Steps p.tables e below _ ((({ U with heap := s₂.heap, slotsUsed := s₂.slotsUsed } : State).setVm s₂.vm).setTop { g with pc := g.pc + len₂, stack := v.toList ++ g.stack })
    rw [← hs₂]
    exact hsteps
  · obtain ⟨e2, q2, q3, q4, q5, q6⟩ := id hsm
    have e3 : s₂ = ({ (U.calling g mk a).setFrames s₂.frames with heap := s₂.heap, slotsUsed := s₂.slotsUsed } : State).setVm s₂.vm := by
      have : s₂ = ({ s₂ with vm := (U.calling g mk a).vm } : State).setVm s₂.vm := rfl
      rw [e2] at this
      exact this
    have hf₂ : s₂.frames = .throwing q :: .java g :: U.frames.tail := hend
    have hW' : U.WarmedH s₂.vm := hW₂
    have hs₂ : s₂ = ((({ U with heap := s₂.heap, slotsUsed := s₂.slotsUsed } : State).setVm s₂.vm).setTop g).pushFrame (.throwing q) := by
      refine e3.trans ?_
      rw [hf₂, State.calling_eq h.top, State.setFrames_setFrames, State.pushFrame, State.frames_setTop _ hr', State.setTop_of_frames _ hr', State.setFrames_setFrames, hr]
      rfl
    have hsame : U.sameButNew ({ U with heap := s₂.heap, slotsUsed := s₂.slotsUsed } : State) L mc ms := by
      refine ⟨?_, q2, q3, q4, q5, q6⟩
      obtain ⟨t, ht, -⟩ := State.frames_cons hr
      show ({ U with heap := s₂.heap, slotsUsed := s₂.slotsUsed } : State) = { U.setFrames U.frames with heap := s₂.heap, slotsUsed := s₂.slotsUsed }
      rw [State.setFrames_self ht]
    subst hg
    refine Or.inr ⟨q, ⟨(({ U with heap := s₂.heap, slotsUsed := s₂.slotsUsed } : State).setVm s₂.vm), Ls ++ L, c0 + mc, s0 + ms⟩,
      ⟨X.admits, X.cas, X.clock, X.frames, X.room, X.hears, X.method, X.code, (X.here.setHeapUsed s₂.heap s₂.slotsUsed).setVm hW'.alike, X.tail, State.WarmedH.trans X.warmed hW', X.limits, X.bytes, X.same.trans (hsame.setVm s.vm)⟩,
      ⟨g, mk, s₂, L, E, ce, rfl, rfl, hx, hce, hcv, hcl, rfl, hL, rfl, rfl⟩, ?_⟩
    show Steps p.tables e below _ (((({ U with heap := s₂.heap, slotsUsed := s₂.slotsUsed } : State).setVm s₂.vm).setTop g).pushFrame (.throwing q))
    rw [← hs₂]
    exact hsteps
end Payer
section Calls
variable {p : Program} {l : Launch} {e : Env} {R : Room} {s : State} {m : MethodId} {args : Array Value} {below : List Frame} {meth : Method} {c : Code} {T : State} {locs : List Loc} {cells slots : Nat}
theorem vx_callV (X : Stand p l e R s m args below meth c T locs cells slots) (hexec : p.tables.exec = Jvm.exec) {own C : String} {index : Nat} {y : MethodName} {bytes : ByteArray} {maxL : Nat} {ret : Option FieldType}
    (hown : s.vm.findClass own = some m.cls) (hlink : (Cond.methodLink own index y).before args s = true) (hinst : (Cond.instanceMethod y).before args s = true) (hsel : (Cond.selects C y y).before args s = true)
    (hcode : (Cond.code y bytes maxL ret).before args s = true) (hy : y.cls ≠ "java/lang/invoke/MethodHandle" ∧ y.cls ≠ "java/lang/invoke/VarHandle")
    {W9 : Nat} {Pre : Pt → Array Value → Prop} {Post : Pt → Array Value → Option Value → Pt → Prop} {PostX : Pt → Array Value → Addr → Pt → Prop} (hK : vx_Back l R p e below s args y 3 W9 Pre Post PostX)
    {b : Addr} {cellB : Cell} (hcell : T.heap[b]? = some cellB) (hobj : cellB.vm.isStatics = false) (hcls : s.vm.findClass C = some cellB.cls)
    {g : JFrame} (hg : g.method = m) (hsize : g.locals.size = c.maxLocals) {argsL rest : List Value} (hlen : ∀ sig, parseMethodDescriptor y.desc = some sig → argsL.length = sig.parameters.length)
    (hstack : g.stack = argsL.reverse ++ .ref b :: rest) (hW : 2 * g.monitorRoom + (rest.map fun v => v.category).sum ≤ W9) (hdg : decode c.code g.pc = .ok (.invokevirtual index, 3))
    (hpre : ∀ vm₁, s.WarmedH vm₁ → Pre ⟨T.setVm vm₁, locs, cells, slots⟩ (Value.ref b :: argsL).toArray) :
    (∃ (v : Option Value) (vm₁ : Vm) (B : Pt), s.WarmedH vm₁ ∧ Stand p l e R s m args below meth c B.U B.locs B.cells B.slots ∧ Post ⟨T.setVm vm₁, locs, cells, slots⟩ (Value.ref b :: argsL).toArray v B ∧
      ∀ target, Steps p.tables e below (B.U.setTop { g with pc := g.pc + 3, stack := v.toList ++ rest }) target → Steps p.tables e below (T.setTop g) target) ∨
    (∃ (q : Addr) (vm₁ : Vm) (B : Pt), s.WarmedH vm₁ ∧ Stand p l e R s m args below meth c B.U B.locs B.cells B.slots ∧ PostX ⟨T.setVm vm₁, locs, cells, slots⟩ (Value.ref b :: argsL).toArray q B ∧
      Steps p.tables e below (T.setTop g) ((B.U.setTop { g with stack := rest }).pushFrame (.throwing q))) := by
  obtain ⟨mk, methM, hnamed, hmethM, hstM, habM⟩ := Cond.instanceMethod_spec hinst
  obtain ⟨methM', cM, hmethM', -, -, -, -, -, -, hsigM⟩ := Cond.code_spec hnamed hcode
  cases hmethM.symm.trans hmethM'
  obtain ⟨c2, r2, m2, q1, q2, q3, q4, kP, hkP, hkPi⟩ := Cond.selects_spec hsel
  cases hcls.symm.trans q1
  cases (State.methodFound?_of_named hnamed hy).symm.trans q2
  cases hnamed.symm.trans q3
  have hselP : selectMethod e.platform s.vm cellB.cls mk = .method mk := by rw [Launch.admits_selectMethod X.admits]; exact q4
  obtain ⟨vm₁, X₁, hstep₁⟩ := X.invokevirtual hexec hown hlink hnamed hmethM hstM hkP hkPi hy (a := b) (cell := cellB) hcell
    (fun z h => by rw [h] at hobj; cases hobj) hselP hmethM habM hkP hkPi (g := g) hg (argsL := argsL) (rest := rest) (hlen _ hsigM) hstack hdg
  rcases hK m meth c ⟨T.setVm vm₁, locs, cells, slots⟩ { g with stack := rest } (.invokevirtual index) mk (Value.ref b :: argsL).toArray X₁ hg hsize hdg hW (X₁.named hnamed) (hpre vm₁ X₁.warmed) with ⟨v, B, X', hpost, hsteps⟩ | ⟨q, B, X', hpost, hsteps⟩
  · exact Or.inl ⟨v, vm₁, B, X₁.warmed, X', hpost, fun target h => hstep₁ _ fun acts => by rw [doInvoke_state]; exact hsteps.trans h⟩
  · exact Or.inr ⟨q, vm₁, B, X₁.warmed, X', hpost, hstep₁ _ fun acts => by rw [doInvoke_state]; exact hsteps⟩
theorem vx_callS (X : Stand p l e R s m args below meth c T locs cells slots) (hexec : p.tables.exec = Jvm.exec) {own : String} {index : Nat} {y : MethodName} {bytes : ByteArray} {maxL : Nat} {ret : Option FieldType}
    (hown : s.vm.findClass own = some m.cls) (hlink : (Cond.methodLink own index y).before args s = true) (hstat : (Cond.static y).before args s = true) (hinit : (Cond.initialized y.cls).before args s = true)
    (hcode : (Cond.code y bytes maxL ret).before args s = true) (hy : y.cls ≠ "java/lang/invoke/MethodHandle" ∧ y.cls ≠ "java/lang/invoke/VarHandle")
    {W9 : Nat} {Pre : Pt → Array Value → Prop} {Post : Pt → Array Value → Option Value → Pt → Prop} {PostX : Pt → Array Value → Addr → Pt → Prop} (hK : vx_Back l R p e below s args y 3 W9 Pre Post PostX)
    {g : JFrame} (hg : g.method = m) (hsize : g.locals.size = c.maxLocals) {argsL rest : List Value} (hlen : ∀ sig, parseMethodDescriptor y.desc = some sig → argsL.length = sig.parameters.length)
    (hstack : g.stack = argsL.reverse ++ rest) (hW : 2 * g.monitorRoom + (rest.map fun v => v.category).sum ≤ W9) (hdg : decode c.code g.pc = .ok (.invokestatic index, 3))
    (hpre : ∀ vm₁, s.WarmedH vm₁ → Pre ⟨T.setVm vm₁, locs, cells, slots⟩ argsL.toArray) :
    (∃ (v : Option Value) (vm₁ : Vm) (B : Pt), s.WarmedH vm₁ ∧ Stand p l e R s m args below meth c B.U B.locs B.cells B.slots ∧ Post ⟨T.setVm vm₁, locs, cells, slots⟩ argsL.toArray v B ∧
      ∀ target, Steps p.tables e below (B.U.setTop { g with pc := g.pc + 3, stack := v.toList ++ rest }) target → Steps p.tables e below (T.setTop g) target) ∨
    (∃ (q : Addr) (vm₁ : Vm) (B : Pt), s.WarmedH vm₁ ∧ Stand p l e R s m args below meth c B.U B.locs B.cells B.slots ∧ PostX ⟨T.setVm vm₁, locs, cells, slots⟩ argsL.toArray q B ∧
      Steps p.tables e below (T.setTop g) ((B.U.setTop { g with stack := rest }).pushFrame (.throwing q))) := by
  obtain ⟨mk, hnamed⟩ := Cond.code_named hcode
  obtain ⟨methM, cM, hmethM, -, -, -, -, -, -, hsigM⟩ := Cond.code_spec hnamed hcode
  have hstatic : methM.isStatic = true := Cond.static_spec hnamed hmethM hstat
  obtain ⟨kP, hkP, -⟩ := className_of_methodNamed hnamed
  have hinitP : kP.init = .initialized := Cond.initialized_spec (findClass_of_methodNamed hnamed) hkP hinit
  obtain ⟨vm₁, X₁, hstep₁⟩ := X.invokestatic hexec hown hlink hnamed hmethM hstatic hkP hinitP hy (g := g) hg (argsL := argsL) (rest := rest) (hlen _ hsigM) hstack hdg
  rcases hK m meth c ⟨T.setVm vm₁, locs, cells, slots⟩ { g with stack := rest } (.invokestatic index) mk argsL.toArray X₁ hg hsize hdg hW (X₁.named hnamed) (hpre vm₁ X₁.warmed) with ⟨v, B, X', hpost, hsteps⟩ | ⟨q, B, X', hpost, hsteps⟩
  · exact Or.inl ⟨v, vm₁, B, X₁.warmed, X', hpost, fun target h => hstep₁ _ fun acts => by rw [doInvoke_state]; exact hsteps.trans h⟩
  · exact Or.inr ⟨q, vm₁, B, X₁.warmed, X', hpost, hstep₁ _ fun acts => by rw [doInvoke_state]; exact hsteps⟩
end Calls
theorem vx_cls {s : State} {T : State} {vm₁ : Vm} {E : String} {k : ClassId} (hW : s.WarmedH vm₁) (h : (T.setVm vm₁).vm.findClass E = some k) : s.vm.findClass E = some k := by
  have h1 : vm₁.findClass E = some k := h
  rw [hW.alike.findClass] at h1
  exact h1
/-- the method's frame g, with q thrown over it -/
def vx_W (p : Program) (l : Launch) (e : Env) (R : Room) (s : State) (m : MethodId) (args : Array Value) (below : List Frame) (meth : Method) (c : Code) (H : Heap) (locs : List Loc) (cells slots : Nat) (Q : State → Prop) (g : JFrame) (q : Addr) : Prop :=
  ∀ T : State, T.heap = H → Stand p l e R s m args below meth c T locs cells slots → ∃ t, Steps p.tables e below ((T.setTop g).pushFrame (.throwing q)) t ∧ Q t
def vx_Run (p : Program) (l : Launch) (e : Env) (R : Room) (s : State) (m : MethodId) (args : Array Value) (below : List Frame) (meth : Method) (c : Code) (H : Heap) (locs : List Loc) (cells slots mc ms : Nat) (g : JFrame) (rest : List Value) (Qa : State → Outcome → State → Prop) (XC : String → State → State → Prop) (free : Addr → Prop) : Prop :=
  ∀ T : State, T.heap = H → Stand p l e R s m args below meth c T locs cells slots →
    (∃ (v : Option Value) (st₀ t T' : State) (L : List Loc), st₀.heap = H ∧ Stand p l e R s m args below meth c T' (locs ++ L) (cells + mc) (slots + ms) ∧ (∀ q ∈ L, free q.base) ∧ T'.heap = t.heap ∧ T'.vm = t.vm ∧ Qa st₀ (.returned v) t ∧
      Goes p e below T g T' { g with pc := g.pc + 3, stack := v.toList ++ rest }) ∨
    (∃ (q : Addr) (st₀ t T' : State) (L : List Loc) (E : String) (ce : Cell), st₀.heap = H ∧ Stand p l e R s m args below meth c T' (locs ++ L) (cells + mc) (slots + ms) ∧ (∀ z ∈ L, free z.base) ∧ T'.heap = t.heap ∧ T'.vm = t.vm ∧ XC E st₀ t ∧ t.heap[q]? = some ce ∧ ce.vm = .none ∧ s.vm.findClass E = some ce.cls ∧
      Steps p.tables e below (T.setTop g) ((T'.setTop { g with stack := rest }).pushFrame (.throwing q)))
def vx_X {S : Type} (px : S → Prop) (B : String → S → State → Prop) (A : Nat → Prop) : String → State → State → Prop := fun E st t => ∃ u : S, px u ∧ B E u t ∧ va_F A st t
section Runs
variable {p : Program} {l : Launch} {e : Env} {R : Room} {s : State} {m : MethodId} {args : Array Value} {below : List Frame} {meth : Method} {c : Code} {H : Heap} {locs : List Loc} {cells slots : Nat}
variable {y : MethodName} {bytes cc : ByteArray} {maxL nL mc ms n index : Nat} {ret : Option FieldType} {ws : List Cond} {rm : Room} {Pc : Array Value → State → Prop} {Qc : Array Value → State → Outcome → State → Prop} {XC : String → State → State → Prop} {free : Addr → Prop} {Ts : List Cond} {own C : String} {b : Addr} {As rest : List Value} {g : JFrame}
theorem vx_callBack (cb : CallB R s args own index y bytes maxL ret ws rm mc ms n) (hM : vx_Met l y ws rm Pc Qc XC mc ms free) (hbl : FrameBlind Pc) : vx_Back l R p e below s args y 3 8 (PreOf R mc ms Pc) (PostOf Qc mc ms free) (vx_Post XC mc ms free) := by
  obtain ⟨hrc, hrs, hfr, hlo, hws, hcw, -, hini, -⟩ := cb
  exact vx_back (bytes := bytes) (maxL := maxL) (ret := ret) hM hbl hrc hrs hfr hlo hws hcw (fun a' U hW => word_at hW (Or.inl (by first | rfl | simp [Cond.onTables, Cond.keeps, Cond.steady])) hini)
theorem vx_runV (S : CallFix p m c cc nL s args Ts own) (hM : vx_Met l y ws rm Pc Qc XC mc ms free) (cw : CallW R s args own C index y bytes maxL ret ws rm mc ms n) (hp : PreV s H C b Pc As)
    (hg : g.method = m) (hn : As.length = n) (hsize : g.locals.size = nL) (hstack : g.stack = As.reverse ++ .ref b :: rest) (hW : 2 * g.monitorRoom + (rest.map fun v => v.category).sum ≤ 8) (hdg : decode cc g.pc = .ok (.invokevirtual index, 3)) (hf : cells + mc ≤ R.cells ∧ slots + ms ≤ R.slots) :
    vx_Run p l e R s m args below meth c H locs cells slots mc ms g rest (Qc (Value.ref b :: As).toArray) XC free := by
  have hK : vx_Back l R p e below s args y 3 8 (PreOf R mc ms Pc) (PostOf Qc mc ms free) (vx_Post XC mc ms free) := vx_callBack cw.1 hM hp.1
  obtain ⟨⟨-, -, -, -, -, -, hcode, -, hy, hlen, hl⟩, hin, hse⟩ := cw
  obtain ⟨hx, hb, hml, ho, -⟩ := S
  obtain ⟨-, ⟨cellB, hcB, hoB, hclB⟩, hPc⟩ := hp
  intro T hT X
  rcases vx_callV X hx (C := C) (bytes := bytes) (maxL := maxL) (ret := ret) ho hl hin hse hcode hy hK (by rw [hT]; exact hcB) hoB hclB hg (hsize.trans hml.symm) (argsL := As) (rest := rest) (fun sig h => hn.trans (hlen sig h)) hstack hW (by rw [hb]; exact hdg)
    (fun vm₁ hW₁ => ⟨hf.1, hf.2, hPc (T.setVm vm₁) hT hW₁⟩) with ⟨v, vm₁, ⟨U', l2, c2, s2⟩, hW₁, X', ⟨g', mk, t, L, e1, e2, hq, h1, hL, h2, h3⟩, st⟩ | ⟨q, vm₁, ⟨U', l2, c2, s2⟩, hW₁, X', ⟨g', mk, t, L, E, ce, e1, e2, hq, hce, hcv, hcl, h1, hL, h2, h3⟩, st⟩
  · dsimp only [Pt.U, Pt.locs, Pt.cells, Pt.slots] at X' e1 e2 h1 h2 h3 st
    subst h1; subst h2; subst h3
    exact Or.inl ⟨v, (T.setVm vm₁).calling g' mk (Value.ref b :: As).toArray, t, U', L, hT, X', hL, e1, e2, hq, st⟩
  · dsimp only [Pt.U, Pt.locs, Pt.cells, Pt.slots] at X' e1 e2 h1 h2 h3 st hcl
    subst h1; subst h2; subst h3
    exact Or.inr ⟨q, (T.setVm vm₁).calling g' mk (Value.ref b :: As).toArray, t, U', L, E, ce, hT, X', hL, e1, e2, hq, hce, hcv, vx_cls hW₁ hcl, st⟩
theorem vx_runS (S : CallFix p m c cc nL s args Ts own) (hM : vx_Met l y ws rm Pc Qc XC mc ms free) (cw : CallB R s args own index y bytes maxL ret ws rm mc ms n ∧ (Cond.static y).before args s = true) (hp : PreS s H Pc As)
    (hg : g.method = m) (hn : As.length = n) (hsize : g.locals.size = nL) (hstack : g.stack = As.reverse ++ rest) (hW : 2 * g.monitorRoom + (rest.map fun v => v.category).sum ≤ 8) (hdg : decode cc g.pc = .ok (.invokestatic index, 3)) (hf : cells + mc ≤ R.cells ∧ slots + ms ≤ R.slots) :
    vx_Run p l e R s m args below meth c H locs cells slots mc ms g rest (Qc As.toArray) XC free := by
  have hK : vx_Back l R p e below s args y 3 8 (PreOf R mc ms Pc) (PostOf Qc mc ms free) (vx_Post XC mc ms free) := vx_callBack cw.1 hM hp.1
  obtain ⟨⟨-, -, -, -, -, -, hcode, hini, hy, hlen, hl⟩, hstt⟩ := cw
  obtain ⟨hx, hb, hml, ho, -⟩ := S
  intro T hT X
  rcases vx_callS X hx (bytes := bytes) (maxL := maxL) (ret := ret) ho hl hstt hini hcode hy hK hg (hsize.trans hml.symm) (argsL := As) (rest := rest) (fun sig h => hn.trans (hlen sig h)) hstack hW (by rw [hb]; exact hdg)
    (fun vm₁ hW₁ => ⟨hf.1, hf.2, hp.2 (T.setVm vm₁) hT hW₁⟩) with ⟨v, vm₁, ⟨U', l2, c2, s2⟩, hW₁, X', ⟨g', mk, t, L, e1, e2, hq, h1, hL, h2, h3⟩, st⟩ | ⟨q, vm₁, ⟨U', l2, c2, s2⟩, hW₁, X', ⟨g', mk, t, L, E, ce, e1, e2, hq, hce, hcv, hcl, h1, hL, h2, h3⟩, st⟩
  · dsimp only [Pt.U, Pt.locs, Pt.cells, Pt.slots] at X' e1 e2 h1 h2 h3 st
    subst h1; subst h2; subst h3
    exact Or.inl ⟨v, (T.setVm vm₁).calling g' mk As.toArray, t, U', L, hT, X', hL, e1, e2, hq, st⟩
  · dsimp only [Pt.U, Pt.locs, Pt.cells, Pt.slots] at X' e1 e2 h1 h2 h3 st hcl
    subst h1; subst h2; subst h3
    exact Or.inr ⟨q, (T.setVm vm₁).calling g' mk As.toArray, t, U', L, E, ce, hT, X', hL, e1, e2, hq, hce, hcv, vx_cls hW₁ hcl, st⟩
end Runs
section Rows
variable {p : Program} {l : Launch} {e : Env} {R : Room} {s : State} {m : MethodId} {args : Array Value} {below : List Frame} {meth : Method} {c : Code} {H : Heap} {locs : List Loc} {cells slots : Nat} {Q : State → Prop}
variable {mc ms : Nat} {free : Addr → Prop} {A0 A1 : Nat → Prop} {H0 : Heap} {a : Array Value} {pc : Nat} {ls : Array Slot} {st0 rest : List Value}
theorem vx_keep {st₀ t T' : State} {L : List Loc} (h0 : st₀.heap = H) (e1 : T'.heap = t.heap) (hS : va_S A0 H0 H locs) (hA : ∀ q, q < H.size → A1 q → A0 q) (hf : ∀ q, free q → A0 q) (hL : ∀ q ∈ L, free q.base) (hF : va_F A1 st₀ t) :
    H.size ≤ T'.heap.size ∧ (∀ q : Nat, q < H.size → ¬ A1 q → T'.heap[q]? = H[q]?) ∧ va_S A0 H0 T'.heap (locs ++ L) := by
  obtain ⟨hz, hk⟩ := hF
  rw [h0] at hz hk
  exact ⟨by rw [e1]; exact hz, fun q h1 h2 => by rw [e1]; exact hk q h1 h2,
    ⟨Nat.le_trans hS.1 (by rw [e1]; exact hz), fun q h1 h2 => by rw [e1, hk q (Nat.lt_of_lt_of_le h1 hS.1) (fun z => h2 (hA q (Nat.lt_of_lt_of_le h1 hS.1) z))]; exact hS.2.1 q h1 h2, fun q hq => by
      rcases List.mem_append.mp hq with h | h
      · exact hS.2.2 q h
      · exact hf _ (hL q h)⟩⟩
theorem vx_calli {S SX : Type} {post : Int32 → S → Prop} {px : SX → Prop} {B : S → State → Prop} {BX : String → SX → State → Prop} {AX : Nat → Prop} (hr : vx_Run p l e R s m args below meth c H locs cells slots mc ms (F0 m pc ls st0) rest (va_Qi post B A1 a) (vx_X px BX AX) free) (hS : va_S A0 H0 H locs) (hA : ∀ q, q < H.size → A1 q → A0 q) (hf : ∀ q, free q → A0 q) (hAX : ∀ q, q < H.size → AX q → A0 q)
    (kx : ∀ (E : String) (ce : Cell) (q9 : Addr) (u : SX) (t : State) (H1 : Heap) (locs1 : List Loc), t.heap = H1 → s.vm.Alike t.vm → px u → BX E u t → H.size ≤ H1.size → (∀ q : Nat, q < H.size → ¬ AX q → H1[q]? = H[q]?) → va_S A0 H0 H1 locs1 → H1[q9]? = some ce → ce.vm = .none → s.vm.findClass E = some ce.cls → vx_W p l e R s m args below meth c H1 locs1 (cells + mc) (slots + ms) Q (F0 m pc ls rest) q9)
    (kk : ∀ (r : Int32) (u : S) (t : State) (H1 : Heap) (locs1 : List Loc), t.heap = H1 → s.vm.Alike t.vm → post r u → B u t → H.size ≤ H1.size → (∀ q : Nat, q < H.size → ¬ A1 q → H1[q]? = H[q]?) → va_S A0 H0 H1 locs1 → W p l e R s m args below meth c H1 locs1 (cells + mc) (slots + ms) Q (F0 m (pc + 3) ls (.int r :: rest))) : W p l e R s m args below meth c H locs cells slots Q (F0 m pc ls st0) := by
  intro T hT X
  rcases hr T hT X with ⟨v, st₀, t, T', L, h0, X', hL, e1, e2, ⟨⟨r, u, hv, hp, hb⟩, hF⟩, st⟩ | ⟨q, st₀, t, T', L, E, ce, h0, X', hL, e1, e2, ⟨u, hp, hb, hF⟩, hce, hcv, hcl, st⟩
  · cases hv
    obtain ⟨k1, k2, k3⟩ := vx_keep h0 e1 hS hA hf hL hF
    obtain ⟨t2, a1, b1⟩ := kk r u t T'.heap (locs ++ L) e1.symm (by rw [← e2]; exact X'.warmed.alike) hp hb k1 k2 k3 T' rfl X'
    exact ⟨t2, st t2 a1, b1⟩
  · obtain ⟨k1, k2, k3⟩ := vx_keep h0 e1 hS hAX hf hL hF
    obtain ⟨t2, a1, b1⟩ := kx E ce q u t T'.heap (locs ++ L) e1.symm (by rw [← e2]; exact X'.warmed.alike) hp hb k1 k2 k3 (by rw [e1]; exact hce) hcv hcl T' rfl X'
    exact ⟨t2, st.trans a1, b1⟩
theorem vx_calll {S SX : Type} {post : Int64 → S → Prop} {px : SX → Prop} {B : S → State → Prop} {BX : String → SX → State → Prop} {AX : Nat → Prop} (hr : vx_Run p l e R s m args below meth c H locs cells slots mc ms (F0 m pc ls st0) rest (va_Ql post B A1 a) (vx_X px BX AX) free) (hS : va_S A0 H0 H locs) (hA : ∀ q, q < H.size → A1 q → A0 q) (hf : ∀ q, free q → A0 q) (hAX : ∀ q, q < H.size → AX q → A0 q)
    (kx : ∀ (E : String) (ce : Cell) (q9 : Addr) (u : SX) (t : State) (H1 : Heap) (locs1 : List Loc), t.heap = H1 → s.vm.Alike t.vm → px u → BX E u t → H.size ≤ H1.size → (∀ q : Nat, q < H.size → ¬ AX q → H1[q]? = H[q]?) → va_S A0 H0 H1 locs1 → H1[q9]? = some ce → ce.vm = .none → s.vm.findClass E = some ce.cls → vx_W p l e R s m args below meth c H1 locs1 (cells + mc) (slots + ms) Q (F0 m pc ls rest) q9)
    (kk : ∀ (r : Int64) (u : S) (t : State) (H1 : Heap) (locs1 : List Loc), t.heap = H1 → s.vm.Alike t.vm → post r u → B u t → H.size ≤ H1.size → (∀ q : Nat, q < H.size → ¬ A1 q → H1[q]? = H[q]?) → va_S A0 H0 H1 locs1 → W p l e R s m args below meth c H1 locs1 (cells + mc) (slots + ms) Q (F0 m (pc + 3) ls (.long r :: rest))) : W p l e R s m args below meth c H locs cells slots Q (F0 m pc ls st0) := by
  intro T hT X
  rcases hr T hT X with ⟨v, st₀, t, T', L, h0, X', hL, e1, e2, ⟨⟨r, u, hv, hp, hb⟩, hF⟩, st⟩ | ⟨q, st₀, t, T', L, E, ce, h0, X', hL, e1, e2, ⟨u, hp, hb, hF⟩, hce, hcv, hcl, st⟩
  · cases hv
    obtain ⟨k1, k2, k3⟩ := vx_keep h0 e1 hS hA hf hL hF
    obtain ⟨t2, a1, b1⟩ := kk r u t T'.heap (locs ++ L) e1.symm (by rw [← e2]; exact X'.warmed.alike) hp hb k1 k2 k3 T' rfl X'
    exact ⟨t2, st t2 a1, b1⟩
  · obtain ⟨k1, k2, k3⟩ := vx_keep h0 e1 hS hAX hf hL hF
    obtain ⟨t2, a1, b1⟩ := kx E ce q u t T'.heap (locs ++ L) e1.symm (by rw [← e2]; exact X'.warmed.alike) hp hb k1 k2 k3 (by rw [e1]; exact hce) hcv hcl T' rfl X'
    exact ⟨t2, st.trans a1, b1⟩
theorem vx_callf {S SX : Type} {post : UInt32 → S → Prop} {px : SX → Prop} {B : S → State → Prop} {BX : String → SX → State → Prop} {AX : Nat → Prop} (hr : vx_Run p l e R s m args below meth c H locs cells slots mc ms (F0 m pc ls st0) rest (va_Qf post B A1 a) (vx_X px BX AX) free) (hS : va_S A0 H0 H locs) (hA : ∀ q, q < H.size → A1 q → A0 q) (hf : ∀ q, free q → A0 q) (hAX : ∀ q, q < H.size → AX q → A0 q)
    (kx : ∀ (E : String) (ce : Cell) (q9 : Addr) (u : SX) (t : State) (H1 : Heap) (locs1 : List Loc), t.heap = H1 → s.vm.Alike t.vm → px u → BX E u t → H.size ≤ H1.size → (∀ q : Nat, q < H.size → ¬ AX q → H1[q]? = H[q]?) → va_S A0 H0 H1 locs1 → H1[q9]? = some ce → ce.vm = .none → s.vm.findClass E = some ce.cls → vx_W p l e R s m args below meth c H1 locs1 (cells + mc) (slots + ms) Q (F0 m pc ls rest) q9)
    (kk : ∀ (r : UInt32) (u : S) (t : State) (H1 : Heap) (locs1 : List Loc), t.heap = H1 → s.vm.Alike t.vm → post r u → B u t → H.size ≤ H1.size → (∀ q : Nat, q < H.size → ¬ A1 q → H1[q]? = H[q]?) → va_S A0 H0 H1 locs1 → W p l e R s m args below meth c H1 locs1 (cells + mc) (slots + ms) Q (F0 m (pc + 3) ls (.float r :: rest))) : W p l e R s m args below meth c H locs cells slots Q (F0 m pc ls st0) := by
  intro T hT X
  rcases hr T hT X with ⟨v, st₀, t, T', L, h0, X', hL, e1, e2, ⟨⟨r, u, hv, hp, hb⟩, hF⟩, st⟩ | ⟨q, st₀, t, T', L, E, ce, h0, X', hL, e1, e2, ⟨u, hp, hb, hF⟩, hce, hcv, hcl, st⟩
  · cases hv
    obtain ⟨k1, k2, k3⟩ := vx_keep h0 e1 hS hA hf hL hF
    obtain ⟨t2, a1, b1⟩ := kk r u t T'.heap (locs ++ L) e1.symm (by rw [← e2]; exact X'.warmed.alike) hp hb k1 k2 k3 T' rfl X'
    exact ⟨t2, st t2 a1, b1⟩
  · obtain ⟨k1, k2, k3⟩ := vx_keep h0 e1 hS hAX hf hL hF
    obtain ⟨t2, a1, b1⟩ := kx E ce q u t T'.heap (locs ++ L) e1.symm (by rw [← e2]; exact X'.warmed.alike) hp hb k1 k2 k3 (by rw [e1]; exact hce) hcv hcl T' rfl X'
    exact ⟨t2, st.trans a1, b1⟩
theorem vx_calld {S SX : Type} {post : UInt64 → S → Prop} {px : SX → Prop} {B : S → State → Prop} {BX : String → SX → State → Prop} {AX : Nat → Prop} (hr : vx_Run p l e R s m args below meth c H locs cells slots mc ms (F0 m pc ls st0) rest (va_Qd post B A1 a) (vx_X px BX AX) free) (hS : va_S A0 H0 H locs) (hA : ∀ q, q < H.size → A1 q → A0 q) (hf : ∀ q, free q → A0 q) (hAX : ∀ q, q < H.size → AX q → A0 q)
    (kx : ∀ (E : String) (ce : Cell) (q9 : Addr) (u : SX) (t : State) (H1 : Heap) (locs1 : List Loc), t.heap = H1 → s.vm.Alike t.vm → px u → BX E u t → H.size ≤ H1.size → (∀ q : Nat, q < H.size → ¬ AX q → H1[q]? = H[q]?) → va_S A0 H0 H1 locs1 → H1[q9]? = some ce → ce.vm = .none → s.vm.findClass E = some ce.cls → vx_W p l e R s m args below meth c H1 locs1 (cells + mc) (slots + ms) Q (F0 m pc ls rest) q9)
    (kk : ∀ (r : UInt64) (u : S) (t : State) (H1 : Heap) (locs1 : List Loc), t.heap = H1 → s.vm.Alike t.vm → post r u → B u t → H.size ≤ H1.size → (∀ q : Nat, q < H.size → ¬ A1 q → H1[q]? = H[q]?) → va_S A0 H0 H1 locs1 → W p l e R s m args below meth c H1 locs1 (cells + mc) (slots + ms) Q (F0 m (pc + 3) ls (.double r :: rest))) : W p l e R s m args below meth c H locs cells slots Q (F0 m pc ls st0) := by
  intro T hT X
  rcases hr T hT X with ⟨v, st₀, t, T', L, h0, X', hL, e1, e2, ⟨⟨r, u, hv, hp, hb⟩, hF⟩, st⟩ | ⟨q, st₀, t, T', L, E, ce, h0, X', hL, e1, e2, ⟨u, hp, hb, hF⟩, hce, hcv, hcl, st⟩
  · cases hv
    obtain ⟨k1, k2, k3⟩ := vx_keep h0 e1 hS hA hf hL hF
    obtain ⟨t2, a1, b1⟩ := kk r u t T'.heap (locs ++ L) e1.symm (by rw [← e2]; exact X'.warmed.alike) hp hb k1 k2 k3 T' rfl X'
    exact ⟨t2, st t2 a1, b1⟩
  · obtain ⟨k1, k2, k3⟩ := vx_keep h0 e1 hS hAX hf hL hF
    obtain ⟨t2, a1, b1⟩ := kx E ce q u t T'.heap (locs ++ L) e1.symm (by rw [← e2]; exact X'.warmed.alike) hp hb k1 k2 k3 (by rw [e1]; exact hce) hcv hcl T' rfl X'
    exact ⟨t2, st.trans a1, b1⟩
theorem vx_callv {S SX : Type} {post : S → Prop} {px : SX → Prop} {B : S → State → Prop} {BX : String → SX → State → Prop} {AX : Nat → Prop} (hr : vx_Run p l e R s m args below meth c H locs cells slots mc ms (F0 m pc ls st0) rest (va_Qv post B A1 a) (vx_X px BX AX) free) (hS : va_S A0 H0 H locs) (hA : ∀ q, q < H.size → A1 q → A0 q) (hf : ∀ q, free q → A0 q) (hAX : ∀ q, q < H.size → AX q → A0 q)
    (kx : ∀ (E : String) (ce : Cell) (q9 : Addr) (u : SX) (t : State) (H1 : Heap) (locs1 : List Loc), t.heap = H1 → s.vm.Alike t.vm → px u → BX E u t → H.size ≤ H1.size → (∀ q : Nat, q < H.size → ¬ AX q → H1[q]? = H[q]?) → va_S A0 H0 H1 locs1 → H1[q9]? = some ce → ce.vm = .none → s.vm.findClass E = some ce.cls → vx_W p l e R s m args below meth c H1 locs1 (cells + mc) (slots + ms) Q (F0 m pc ls rest) q9)
    (kk : ∀ (u : S) (t : State) (H1 : Heap) (locs1 : List Loc), t.heap = H1 → s.vm.Alike t.vm → post u → B u t → H.size ≤ H1.size → (∀ q : Nat, q < H.size → ¬ A1 q → H1[q]? = H[q]?) → va_S A0 H0 H1 locs1 → W p l e R s m args below meth c H1 locs1 (cells + mc) (slots + ms) Q (F0 m (pc + 3) ls (rest))) : W p l e R s m args below meth c H locs cells slots Q (F0 m pc ls st0) := by
  intro T hT X
  rcases hr T hT X with ⟨v, st₀, t, T', L, h0, X', hL, e1, e2, ⟨⟨u, hv, hp, hb⟩, hF⟩, st⟩ | ⟨q, st₀, t, T', L, E, ce, h0, X', hL, e1, e2, ⟨u, hp, hb, hF⟩, hce, hcv, hcl, st⟩
  · cases hv
    obtain ⟨k1, k2, k3⟩ := vx_keep h0 e1 hS hA hf hL hF
    obtain ⟨t2, a1, b1⟩ := kk u t T'.heap (locs ++ L) e1.symm (by rw [← e2]; exact X'.warmed.alike) hp hb k1 k2 k3 T' rfl X'
    exact ⟨t2, st t2 a1, b1⟩
  · obtain ⟨k1, k2, k3⟩ := vx_keep h0 e1 hS hAX hf hL hF
    obtain ⟨t2, a1, b1⟩ := kx E ce q u t T'.heap (locs ++ L) e1.symm (by rw [← e2]; exact X'.warmed.alike) hp hb k1 k2 k3 (by rw [e1]; exact hce) hcv hcl T' rfl X'
    exact ⟨t2, st.trans a1, b1⟩
/-- caught by the row x of this method's table; the rows ahead don't take it -/
theorem vx_catch {own name : String} {E : String} {ce : Cell} {q : Addr} (hown : s.vm.findClass own = some m.cls) (pre : List ExceptionTableEntry) (x : ExceptionTableEntry) (suf : List ExceptionTableEntry) (hsplit : c.exceptionTable.toList = pre ++ x :: suf)
    (hpass : ∀ z ∈ pre, covers z pc = false ∨ (z.catchType ≠ 0 ∧ ∃ nm : String, (Cond.classLink own z.catchType nm).before args s = true ∧ va_Nc E nm s)) (hx : covers x pc = true) (h0 : x.catchType ≠ 0)
    (hlink : (Cond.classLink own x.catchType name).before args s = true) (hcast : (Cond.castable E name).before args s = true) (hcell : H[q]? = some ce) (hv : ce.vm = .none) (hcl : s.vm.findClass E = some ce.cls)
    (kk : W p l e R s m args below meth c H locs cells slots Q (F0 m x.handlerPc ls [.ref q])) : vx_W p l e R s m args below meth c H locs cells slots Q (F0 m pc ls rest) q := by
  intro T hT X
  have hpl : e.platform.magicAccessors = ({} : Platform).magicAccessors := by rw [X.admits.platform]
  obtain ⟨c3, c4, hc3, hc4, hasg⟩ := Cond.castable_spec hcast
  cases Option.some.inj (hc3.symm.trans hcl)
  obtain ⟨c5, hc5, hcl5⟩ := Cond.classLink_spec hown hlink e.platform hpl
  cases Option.some.inj (hc4.symm.trans hc5)
  obtain ⟨vm', X', st⟩ := X.thenCaughtThrough q (g := F0 m pc ls rest) rfl (Steps.refl _) (by rw [hT]; exact hcell) (by rw [hv]; rfl) (by obtain ⟨k9, h9, -⟩ := Vm.findClass_spec hcl; exact ⟨k9, h9⟩) pre x suf hsplit
    (fun z hz => by
      rcases hpass z hz with h | ⟨hz0, nm, hl1, hn1⟩
      · exact Or.inl h
      · obtain ⟨c6, hc6, hcl6⟩ := Cond.classLink_spec hown hl1 e.platform hpl
        obtain ⟨a8, b8, h1, h2, h3⟩ := hn1
        cases Option.some.inj (h1.symm.trans hcl)
        cases Option.some.inj (h2.symm.trans hc6)
        exact Or.inr ⟨hz0, _, hcl6, h3⟩) hx (Or.inr ⟨h0, c4, hcl5, hasg⟩)
  obtain ⟨t, a1, b1⟩ := kk (T.setVm vm') hT X'
  exact ⟨t, st.trans a1, b1⟩
end Rows
section Ends
variable {p : Program} {l : Launch} {e : Env} {R : Room} {s : State} {m : MethodId} {args : Array Value} {below : List Frame} {meth : Method} {c : Code} {H : Heap} {locs : List Loc} {cells slots : Nat} {Q : State → Prop}
variable {mc ms : Nat} {free : Addr → Prop} {A0 A1 : Nat → Prop} {H0 : Heap} {a : Array Value} {ls : Array Slot} {st0 rest : List Value}
variable {Qc : Array Value → State → Outcome → State → Prop} {XC : String → State → State → Prop}
/-- what a body that may throw owes at its end -/
def vx_MQ (below : List Frame) (Qc : Array Value → State → Outcome → State → Prop) (XC : String → State → State → Prop) (a : Array Value) (s : State) (mc ms : Nat) (free : Addr → Prop) : State → Prop := fun t =>
  ∃ o, t.status = .running ∧ Ended t below o ∧ vx_Q Qc XC mc ms free a s o t
theorem vx_ret {g : JFrame} {mc ms : Nat} (k : W p l e R s m args below meth c H locs cells slots (MQ below Qc args s mc ms free) g) : W p l e R s m args below meth c H locs cells slots (vx_MQ below Qc XC args s mc ms free) g := by
  intro T hT X
  obtain ⟨t, a1, o, b1, b2, b3, b4⟩ := k T hT X
  exact ⟨t, a1, o, b1, b2, Or.inl ⟨b3, b4⟩⟩
/-- not caught here: it goes on to the caller -/
theorem vx_widen {g : JFrame} {q : Addr} {k n : Nat} (h1 : cells ≤ k) (h2 : slots ≤ n) (kk : vx_W p l e R s m args below meth c H locs k n Q g q) : vx_W p l e R s m args below meth c H locs cells slots Q g q := fun T hT X => kk T hT (stand_widen X h1 h2)
theorem vx_out {pc : Nat} {E : String} {ce : Cell} {q : Addr} {mc ms : Nat} (hout : ∀ x ∈ c.exceptionTable.toList, covers x pc = false) (hlocks : meth.locks = false) (hcell : H[q]? = some ce) (hv : ce.vm = .none) (hcl : s.vm.findClass E = some ce.cls)
    (hx : ∀ t : State, t.heap = H → s.vm.Alike t.vm → XC E s t) (hf : ∀ z ∈ locs, free z.base) (hc : cells ≤ mc) (hs : slots ≤ ms) :
    vx_W p l e R s m args below meth c H locs cells slots (vx_MQ below Qc XC args s mc ms free) (F0 m pc ls rest) q := by
  intro T hT X
  obtain ⟨st1, hrun, hend, hW, hsm⟩ := X.leaveThrown q (g := F0 m pc ls rest) rfl rfl rfl hout hlocks
  have hcell9 : (T.setFrames (.throwing q :: below)).heap[q]? = some ce := by
    show T.heap[q]? = some ce
    rw [hT]; exact hcell
  exact ⟨_, st1, .threw q, hrun, hend, Or.inr ⟨q, rfl, E, ce, locs, hx _ hT hW.alike, hcell9, hv, hcl, hW, hsm.mono hc hs, hf⟩⟩
theorem vx_frame {U : State} {k n : Nat} (h : s.sameButNew ({ U with vm := s.vm } : State) locs k n) : s.heap.size ≤ U.heap.size ∧ ∀ q : Nat, q < s.heap.size → (∀ z ∈ locs, z.base ≠ q) → U.heap[q]? = s.heap[q]? := by
  obtain ⟨-, h2, -, -, -, h6⟩ := h
  refine ⟨h2, fun q hq hz => ?_⟩
  obtain ⟨c9, e1, e2, e3, e4⟩ := h6 q _ (Array.getElem?_eq_getElem hq)
  have hs : c9.slots = (s.heap[q]).slots := Array.ext_getElem? fun i => e4 i fun hm => hz _ hm rfl
  have h9 : c9 = s.heap[q] := by
    rw [hs] at e2
    exact e2
  have e5 : U.heap[q]? = some c9 := e1
  rw [e5, h9, Array.getElem?_eq_getElem hq]
/-- the words of a throw but the four that speak of the heap -/
def vx_no (w : Cond) : Bool := decide (w ≠ .isRef (.static Bundle.tN "UNASSIGNED_STACK" Bundle.steD)) && decide (w ≠ .isRef (.static Bundle.tN "SUPPRESSED_SENTINEL" Bundle.listD)) && decide (w ≠ .laysStatic Bundle.tN "UNASSIGNED_STACK" Bundle.steD) && decide (w ≠ .laysStatic Bundle.tN "SUPPRESSED_SENTINEL" Bundle.listD)
def vx_at0 (own : String) (ic : Nat) (X : String) (names : List String) : List Cond := (Bundle.ownAtoms0 own ic X names).filter vx_no
def vx_atS (own : String) (ic : Nat) (X : String) (names : List String) : List Cond := (Bundle.ownAtoms own ic X names).filter vx_no
/-- a word that the tables alone decide, or a good one -/
def vx_ot (w : Cond) : Bool := w.onTables || goodWord w
theorem vx_ot_at {args a' : Array Value} {s U : State} {w : Cond} (hW : s.WarmedH U.vm) (hvm : s.vm = U.vm) (hg : vx_ot w = true) (h : w.before args s = true) : w.before a' U = true := by
  simp only [vx_ot, Bool.or_eq_true] at hg
  rcases hg with hg | hg
  · exact va_tabs hg hvm h
  · exact word_at hW (good_of_word hg) h
/-- a list's words: the good ones out of the method's own list, the others by premises of their own -/
theorem vx_hat {args : Array Value} {s : State} {L B : List Cond} (h1 : ∀ w ∈ L.filter goodWord, w.before args s = true) (h2 : ∀ w ∈ L.filter (fun w => !goodWord w), w ∈ B) (h3 : ∀ w ∈ B, w.before args s = true) : ∀ w ∈ L, w.before args s = true := by
  intro w hw
  by_cases g : goodWord w = true
  · exact h1 w (List.mem_filter.mpr ⟨hw, g⟩)
  · refine h3 w (h2 w (List.mem_filter.mpr ⟨hw, ?_⟩))
    show (!goodWord w) = true
    cases hgw : goodWord w
    · rfl
    · exact absurd hgw g
theorem vx_c {args : Array Value} {s : State} {w : Cond} {B : List Cond} (h : w.before args s = true) (t : ∀ w ∈ B, w.before args s = true) : ∀ w' ∈ w :: B, w'.before args s = true := fun w' h' => (List.mem_cons.mp h').elim (fun e => by rw [e]; exact h) (t w')
theorem vx_n {args : Array Value} {s : State} : ∀ w ∈ ([] : List Cond), w.before args s = true := fun _ h => nomatch h
theorem vx_own {args : Array Value} {s : State} {L : List Cond} (h1 : ∀ w ∈ L.filter vx_no, w.before args s = true)
    (hU : (Cond.isRef (.static Bundle.tN "UNASSIGNED_STACK" Bundle.steD)).before args s = true) (hN : (Cond.isRef (.static Bundle.tN "SUPPRESSED_SENTINEL" Bundle.listD)).before args s = true)
    (lU : (Cond.laysStatic Bundle.tN "UNASSIGNED_STACK" Bundle.steD).before args s = true) (lN : (Cond.laysStatic Bundle.tN "SUPPRESSED_SENTINEL" Bundle.listD).before args s = true) : ∀ w ∈ L, w.before args s = true := by
  intro w hw
  by_cases e1 : w = .isRef (.static Bundle.tN "UNASSIGNED_STACK" Bundle.steD)
  · rw [e1]; exact hU
  · by_cases e2 : w = .isRef (.static Bundle.tN "SUPPRESSED_SENTINEL" Bundle.listD)
    · rw [e2]; exact hN
    · by_cases e3 : w = .laysStatic Bundle.tN "UNASSIGNED_STACK" Bundle.steD
      · rw [e3]; exact lU
      · by_cases e4 : w = .laysStatic Bundle.tN "SUPPRESSED_SENTINEL" Bundle.listD
        · rw [e4]; exact lN
        · exact h1 w (List.mem_filter.mpr ⟨hw, by unfold vx_no; rw [decide_eq_true e1, decide_eq_true e2, decide_eq_true e3, decide_eq_true e4]; rfl⟩)
/-- where a static field lies, its class's statics cell in H -/
def vx_L (C n d : String) (A : Nat → Prop) (U : State) (H : Heap) : Prop := ∃ (c : ClassId) (k : Class) (i : Nat) (f : Field) (a : Nat) (cell : Cell), U.vm.findClass C = some c ∧ U.fieldFound? C n d = some (c, k, i, f) ∧ f.isStatic = true ∧ k.statics = some a ∧ H[a]? = some cell ∧ cell.vm.isStatics = true ∧ cell.cls = c ∧ f.slot < cell.slots.size ∧ k.staticTypes[f.slot]? = some f.type ∧ ¬ A a
theorem vx_L.moved {C n d : String} {A : Nat → Prop} {u U : State} {H : Heap} (hvm : u.vm.Alike U.vm) (h : vx_L C n d A u H) : vx_L C n d A U H := by
  obtain ⟨c, k, i, f, a, cell, h1, h2, h3, h4, h5, h6, h7, h8, h9, h10⟩ := h
  obtain ⟨k', hi', he⟩ := State.fieldFound?_setVm hvm h2
  exact ⟨c, k', i, f, a, cell, by rw [hvm.findClass]; exact h1, hi', h3, by rw [he]; exact h4, h5, h6, h7, h8, by rw [he]; exact h9, h10⟩
theorem vx_L.kept {C n d : String} {A : Nat → Prop} {U : State} {H H1 : Heap} (h : vx_L C n d A U H) (hq : ∀ a : Nat, a < H.size → ¬ A a → H1[a]? = H[a]?) : vx_L C n d A U H1 := by
  obtain ⟨c, k, i, f, a, cell, h1, h2, h3, h4, h5, h6, h7, h8, h9, h10⟩ := h
  exact ⟨c, k, i, f, a, cell, h1, h2, h3, h4, by rw [hq a (Array.getElem?_eq_some_iff.mp h5).1 h10]; exact h5, h6, h7, h8, h9, h10⟩
theorem vx_L.narrow {C n d : String} {A B : Nat → Prop} {U : State} {H : Heap} (h : vx_L C n d A U H) (hAB : ∀ q, B q → A q) : vx_L C n d B U H := by
  obtain ⟨c, k, i, f, a, cell, h1, h2, h3, h4, h5, h6, h7, h8, h9, h10⟩ := h
  exact ⟨c, k, i, f, a, cell, h1, h2, h3, h4, h5, h6, h7, h8, h9, fun z => h10 (hAB _ z)⟩
theorem vx_L.word {C n d : String} {A : Nat → Prop} {s : State} {args : Array Value} (h : vx_L C n d A s s.heap) : (Cond.laysStatic C n d).before args s = true := by
  obtain ⟨c, k, i, f, a, cell, h1, h2, h3, h4, h5, h6, h7, h8, h9, -⟩ := h
  show (Cond.laysStatic C n d).holds args s none s [] = true
  exact Cond.laysStatic_of h1 h2 h3 h4 h5 h6 h7 h8 h9
/-- .. and what it holds: null or some reference -/
def vx_Zq (C n d : String) (A : Nat → Prop) (U : State) (H : Heap) : Prop := va_Zq C n d A U H ∧ vx_L C n d A U H
theorem vx_Zq.moved {C n d : String} {A : Nat → Prop} {u U : State} {H : Heap} (hvm : u.vm.Alike U.vm) (h : vx_Zq C n d A u H) : vx_Zq C n d A U H := ⟨va_Zq.moved hvm h.1, vx_L.moved hvm h.2⟩
theorem vx_Zq.kept {C n d : String} {A : Nat → Prop} {U : State} {H H1 : Heap} (h : vx_Zq C n d A U H) (hq : ∀ a : Nat, a < H.size → ¬ A a → H1[a]? = H[a]?) : vx_Zq C n d A U H1 := ⟨va_Zq.kept h.1 hq, vx_L.kept h.2 hq⟩
theorem vx_Zq.narrow {C n d : String} {A B : Nat → Prop} {U : State} {H : Heap} (h : vx_Zq C n d A U H) (hAB : ∀ q, B q → A q) : vx_Zq C n d B U H := ⟨va_Zq.narrow h.1 hAB, vx_L.narrow h.2 hAB⟩
theorem vx_Zqof {args : Array Value} {s : State} {C n d : String} {A : Nat → Prop} (hl : (Cond.laysStatic C n d).before args s = true) (hini : (Cond.initialized C).before args s = true) (h : (Cond.isRef (.static C n d)).before args s = true) (hA : ∀ a : Nat, a < s.heap.size → ¬ A a) : vx_Zq C n d A s s.heap := by
  refine ⟨va_Zqof hl hini h hA, ?_⟩
  obtain ⟨c, k, i, f, a, cell, h1, h2, h3, h4, h5, h6, h7, h8, h9⟩ := Cond.laysStatic_spec hl
  exact ⟨c, k, i, f, a, cell, h1, h2, h3, h4, h5, h6, h7, h8, h9, hA a (Array.getElem?_eq_some_iff.mp h5).1⟩
theorem vx_isRef {C n d : String} {v : Value} {A : Nat → Prop} {s : State} {args : Array Value} (h : va_Z C n d v A s s.heap) (hv : v.isRef = true) : (Cond.isRef (.static C n d)).before args s = true := by
  obtain ⟨cf, kf, fi, f, a, cell, h1, h2, h3, h4, h5, h6, h7, -⟩ := h
  have he : (Term.static C n d).eval args s none [] s = some v := by
    simp [Term.eval, State.fieldNamed?, h1, h2, h4, h5, h6, h7]
  simp only [Cond.before, Cond.holds, Cond.value, he]
  cases v <;> simp_all [Value.isRef]
theorem vx_isRefq {C n d : String} {A : Nat → Prop} {s : State} {args : Array Value} (h : va_Zq C n d A s s.heap) : (Cond.isRef (.static C n d)).before args s = true := by
  rcases h with h | ⟨t, h⟩
  · exact vx_isRef h rfl
  · exact vx_isRef h rfl
/-- the same frame, seen from here: as if the method were called anew in this heap -/
theorem vx_rebase {T : State} (X : Stand p l e R s m args below meth c T locs cells slots) {R' : Room} (hf : R'.frames ≤ R.frames) (hl : R'.locals ≤ R.locals) (hc : cells + R'.cells ≤ R.cells) (hs : slots + R'.slots ≤ R.slots) :
    Stand p l e R' ((T.setVm s.vm).setFrames (.invoking m args :: below)) m args below meth c T [] 0 0 := by
  have htop : (T.setVm s.vm).topJava?.isSome := X.here.top
  have hF : ((T.setVm s.vm).setFrames (.invoking m args :: below)).frames = .invoking m args :: below := State.frames_setFrames _ (State.cur_lt_of_top htop)
  obtain ⟨g₀, hg0⟩ := Option.isSome_iff_exists.mp htop
  obtain ⟨r, hr⟩ := State.topJava?_eq_some.mp hg0
  have hl9 : e.platform.stackLimits (T.setVm s.vm).me = e.platform.stackLimits s.me := X.limits
  have hb9 : (T.setVm s.vm).me.stackBytes = s.me.stackBytes := X.bytes
  refine ⟨X.admits, X.cas, X.clock, hF, ?_, X.hears, X.method, X.code, X.here, X.tail, X.warmed, ?_, ?_, ?_⟩
  · have h := X.room
    have hU : ((T.setVm s.vm).setFrames (.invoking m args :: below)).localsInUse = s.localsInUse := by
      rw [State.localsInUse_invoking hF (meth := meth) (c := c) X.method X.code, State.localsInUse_invoking X.frames X.method X.code]
    simp only [State.hasRoom, Bool.and_eq_true, decide_eq_true_eq] at h ⊢
    obtain ⟨⟨⟨⟨h1, h2, h3, h4, h5, h6⟩, h7⟩, h8⟩, h9⟩ := h
    rw [X.frames, List.length_cons] at h2 h3
    have q1 := X.heapSize
    have q2 := X.used
    simp only [hF, hU, List.length_cons, State.stackLimits_setFrames, State.stackBytes_setFrames, hl9, hb9]
    refine ⟨⟨⟨⟨by omega, by omega, by omega, by omega, by omega, h6⟩, ?_⟩, ?_⟩, X.book⟩
    · show T.heap.size + R'.cells ≤ e.platform.maxCells
      omega
    · show T.slotsUsed + R'.slots ≤ e.platform.maxSlots
      omega
  · rw [State.stackLimits_setFrames]; rfl
  · rw [State.stackBytes_setFrames]; rfl
  · refine ⟨?_, Nat.le_refl _, Nat.le_refl _, ?_, ?_, fun a c9 h9 => ⟨c9, h9, rfl, rfl, fun _ _ => rfl⟩⟩
    · obtain ⟨t, ht, -⟩ := State.frames_cons hr
      show T.setVm s.vm = { ((T.setVm s.vm).setFrames (.invoking m args :: below)).setFrames (T.setVm s.vm).frames with heap := T.heap, slotsUsed := T.slotsUsed }
      rw [State.setFrames_setFrames, State.setFrames_self ht]
      rfl
    · show T.slotsUsed = T.slotsUsed + ((T.heap.toList.drop T.heap.size).map (·.slots.size)).sum
      rw [List.drop_eq_nil_of_le (Nat.le_of_eq Array.length_toList)]
      rfl
    · show ((T.heap.toList.drop T.heap.size).map (·.slots.size)).sum ≤ 0
      rw [List.drop_eq_nil_of_le (Nat.le_of_eq Array.length_toList)]
      exact Nat.le_refl _
/-- 'throw new E()': new; dup; invokespecial; athrow -/
theorem vx_throw0 {cc : ByteArray} {pc : Nat} (hexec : p.tables.exec = Jvm.exec) (hb : c.code = cc) (hl : l.stackTraces = false) {own cls : String} {names : List String} {ik ic mc ms : Nat} {A : Nat → Prop}
    (hown : s.vm.findClass own = some m.cls) (hcls : Bundle.fit cls = true) (hnames : ∀ n ∈ names, Bundle.fit n = true)
    (hk : (Cond.classLink own ik cls).before args s = true) (hini : (Cond.initialized cls).before args s = true) (hat : ∀ w ∈ vx_at0 own ic cls names, w.before args s = true)
    (hgood : ∀ w ∈ Cond.classLink own ik cls :: Cond.initialized cls :: vx_at0 own ic cls names, vx_ot w = true)
    (hU : vx_Zq Bundle.tN "UNASSIGNED_STACK" Bundle.steD A s s.heap) (hN : vx_Zq Bundle.tN "SUPPRESSED_SENTINEL" Bundle.listD A s s.heap) (hS : va_S A s.heap H locs) (hsize : ls.size = c.maxLocals)
    (d0 : decode cc pc = .ok (.new ik, 3)) (d3 : decode cc (pc + 3) = .ok (.dup, 1)) (d4 : decode cc (pc + 4) = .ok (.invokespecial ic, 3)) (d7 : decode cc (pc + 7) = .ok (.athrow, 1))
    (hout : ∀ x ∈ c.exceptionTable.toList, covers x (pc + 7) = false)
    (hRframes : names.length + 3 < R.frames) (hRlocals : (rest.map fun v => v.category).sum + (13 * (names.length + 1) + 42) ≤ R.locals) (hRcells : cells + 1 ≤ R.cells) (hRslots : slots + 6 ≤ R.slots) (hlocks : meth.locks = false)
    (hx : ∀ t : State, s.vm.Alike t.vm → H.size ≤ t.heap.size → (∀ q : Nat, q < H.size → t.heap[q]? = H[q]?) → XC cls s t)
    (hf : ∀ z ∈ locs, free z.base) (hc : cells + 1 ≤ mc) (hs : slots + 6 ≤ ms) :
    W p l e R s m args below meth c H locs cells slots (vx_MQ below Qc XC args s mc ms free) (F0 m pc ls rest) := by
  intro T hT X
  have htr : e.platform.stackTraces = false := (show e.platform.stackTraces = l.stackTraces by rw [X.admits.platform]).trans hl
  have Y := vx_rebase X (R' := { frames := R.frames, locals := R.locals, cells := 1, slots := 6 }) (Nat.le_refl _) (Nat.le_refl _) hRcells hRslots
  obtain ⟨s', hA⟩ : ∃ z, z = (T.setVm s.vm).setFrames (.invoking m args :: below) := ⟨_, rfl⟩
  rw [← hA] at Y
  have hvm : s'.vm = s.vm := by rw [hA]; rfl
  have hhp : s'.heap = H := by rw [hA]; exact hT
  have hW0 : s.WarmedH s'.vm := by rw [hvm]; exact State.WarmedH.refl s
  have hat' : ∀ w ∈ vx_at0 own ic cls names, w.before args s' = true := fun w hw => vx_ot_at hW0 hvm.symm (hgood w (List.mem_cons_of_mem _ (List.mem_cons_of_mem _ hw))) (hat w hw)
  have hk' : (Cond.classLink own ik cls).before args s' = true := vx_ot_at hW0 hvm.symm (hgood _ List.mem_cons_self) hk
  have hini' : (Cond.initialized cls).before args s' = true := vx_ot_at hW0 hvm.symm (hgood _ (List.mem_cons_of_mem _ List.mem_cons_self)) hini
  have hU' : vx_Zq Bundle.tN "UNASSIGNED_STACK" Bundle.steD A s' s'.heap := by rw [hhp]; exact vx_Zq.moved hW0.alike (hU.kept hS.2.1)
  have hN' : vx_Zq Bundle.tN "SUPPRESSED_SENTINEL" Bundle.listD A s' s'.heap := by rw [hhp]; exact vx_Zq.moved hW0.alike (hN.kept hS.2.1)
  have h : ∀ w ∈ Bundle.ownAtoms0 own ic cls names, w.before args s' = true := vx_own hat' (vx_isRefq hU'.1) (vx_isRefq hN'.1) hU'.2.word hN'.2.word
  have hown' : s'.vm.findClass own = some m.cls := by rw [hvm]; exact hown
  have hins : (Cond.instantiable cls 6).before args s' = true := h _ (by simp [Bundle.ownAtoms0])
  obtain ⟨vm₁, cX, kX, hfX, hkX, -, -, X₁, st1⟩ := Y.newCold hexec (own := own) (C := cls) (index := ik) (n := 6) hown' hk' hins hini'
    (g := F0 m pc ls rest) rfl (by rw [hb]; exact d0) (Nat.le_refl _) (Nat.le_refl _)
  generalize hT1 : (T.setVm vm₁).pushCell { cls := cX, slots := kX.instanceTypes.map defaultValue, vm := .none } = T1 at X₁ st1
  have hcat : (Value.ref T.heap.size).category = 1 := rfl
  have hcellA : T1.heap[T.heap.size]? = some (freshCell cX kX) := by rw [← hT1]; exact State.heap_pushCell_size _ _
  have d3' : decode c.code (pc + 3) = .ok (.dup, 1) := by rw [hb]; exact d3
  obtain ⟨U, hsteps, hrun, hend, hW, hsame, ce, hce, hO⟩ := X₁.ctorThrow0 hexec htr (own := own) (cls := cls) (names := names) (ic := ic) hown' hcls hnames h (fun x hx => nomatch hx) hfX hkX hcellA (by rw [hhp, hT]; exact Nat.le_refl _)
    (g := { method := m, pc := pc + 4, locals := ls, stack := .ref T.heap.size :: .ref T.heap.size :: rest, locked := none }) rfl hsize rfl rfl (rest := rest) rfl
    (by rw [hb]; exact d4) (by rw [hb]; exact d7) hout hRframes (by simp only [List.map_cons, List.sum_cons, hcat]; omega) hlocks
  obtain ⟨f1, f2⟩ := vx_frame hsame
  rw [hhp] at f1 f2
  have hWs : s.WarmedH U.vm := State.WarmedH.trans hW0 hW
  have hcl : s.vm.findClass cls = some ce.cls := by
    have h9 := hO.cls
    rw [hvm] at h9
    exact h9
  have hall : s.sameButNew ({ U with vm := s.vm } : State) locs mc ms := by
    subst hA
    obtain ⟨e1, e2⟩ := hsame
    rw [State.setFrames_setFrames] at e1
    have h2 : (T.setVm s.vm).sameButNew ({ U with vm := s.vm } : State) [] (0 + 1) (0 + 6) := ⟨e1, e2⟩
    have h3 := X.same.trans h2
    rw [List.append_nil] at h3
    exact h3.mono hc hs
  refine ⟨U, ?_, .threw T.heap.size, hrun, hend, Or.inr ⟨T.heap.size, rfl, cls, ce, locs, hx U hWs.alike f1 (fun q hq => f2 q hq (fun z hz => nomatch hz)), hce, hO.vm, hcl, hWs, hall, hf⟩⟩
  refine st1 _ ?_
  show Steps p.tables e below (T1.setTop { method := m, pc := pc + 3, locals := ls, stack := .ref T.heap.size :: rest, locked := none }) _
  jvm_step X₁.here [X₁.here.top, hexec, d3', Value.category]
  exact hsteps
/-- 'throw new E("text")': new; dup; ldc; invokespecial; athrow -/
theorem vx_throwS {cc : ByteArray} {pc : Nat} (hexec : p.tables.exec = Jvm.exec) (hb : c.code = cc) (hl : l.stackTraces = false) {own cls text : String} {names : List String} {ik is ic mc ms sa : Nat} {A : Nat → Prop}
    (hown : s.vm.findClass own = some m.cls) (hcls : Bundle.fit cls = true) (hnames : ∀ n ∈ names, Bundle.fit n = true)
    (hk : (Cond.classLink own ik cls).before args s = true) (hini : (Cond.initialized cls).before args s = true) (hstr : vk_R own is text sa s) (hat : ∀ w ∈ vx_atS own ic cls names, w.before args s = true)
    (hgood : ∀ w ∈ Cond.classLink own ik cls :: Cond.initialized cls :: vx_atS own ic cls names, vx_ot w = true)
    (hU : vx_Zq Bundle.tN "UNASSIGNED_STACK" Bundle.steD A s s.heap) (hN : vx_Zq Bundle.tN "SUPPRESSED_SENTINEL" Bundle.listD A s s.heap) (hS : va_S A s.heap H locs) (hsize : ls.size = c.maxLocals)
    (d0 : decode cc pc = .ok (.new ik, 3)) (d3 : decode cc (pc + 3) = .ok (.dup, 1)) (d4 : decode cc (pc + 4) = .ok (.ldc is, 2)) (d6 : decode cc (pc + 6) = .ok (.invokespecial ic, 3)) (d9 : decode cc (pc + 9) = .ok (.athrow, 1))
    (hout : ∀ x ∈ c.exceptionTable.toList, covers x (pc + 9) = false)
    (hRframes : names.length + 3 < R.frames) (hRlocals : (rest.map fun v => v.category).sum + (13 * (names.length + 1) + 43) ≤ R.locals) (hRcells : cells + 1 ≤ R.cells) (hRslots : slots + 6 ≤ R.slots) (hlocks : meth.locks = false)
    (hx : ∀ t : State, s.vm.Alike t.vm → H.size ≤ t.heap.size → (∀ q : Nat, q < H.size → t.heap[q]? = H[q]?) → XC cls s t)
    (hf : ∀ z ∈ locs, free z.base) (hc : cells + 1 ≤ mc) (hs : slots + 6 ≤ ms) :
    W p l e R s m args below meth c H locs cells slots (vx_MQ below Qc XC args s mc ms free) (F0 m pc ls rest) := by
  intro T hT X
  have htr : e.platform.stackTraces = false := (show e.platform.stackTraces = l.stackTraces by rw [X.admits.platform]).trans hl
  have Y := vx_rebase X (R' := { frames := R.frames, locals := R.locals, cells := 1, slots := 6 }) (Nat.le_refl _) (Nat.le_refl _) hRcells hRslots
  obtain ⟨s', hA⟩ : ∃ z, z = (T.setVm s.vm).setFrames (.invoking m args :: below) := ⟨_, rfl⟩
  rw [← hA] at Y
  have hvm : s'.vm = s.vm := by rw [hA]; rfl
  have hhp : s'.heap = H := by rw [hA]; exact hT
  have hW0 : s.WarmedH s'.vm := by rw [hvm]; exact State.WarmedH.refl s
  have hat' : ∀ w ∈ vx_atS own ic cls names, w.before args s' = true := fun w hw => vx_ot_at hW0 hvm.symm (hgood w (List.mem_cons_of_mem _ (List.mem_cons_of_mem _ hw))) (hat w hw)
  have hk' : (Cond.classLink own ik cls).before args s' = true := vx_ot_at hW0 hvm.symm (hgood _ List.mem_cons_self) hk
  have hini' : (Cond.initialized cls).before args s' = true := vx_ot_at hW0 hvm.symm (hgood _ (List.mem_cons_of_mem _ List.mem_cons_self)) hini
  have hU' : vx_Zq Bundle.tN "UNASSIGNED_STACK" Bundle.steD A s' s'.heap := by rw [hhp]; exact vx_Zq.moved hW0.alike (hU.kept hS.2.1)
  have hN' : vx_Zq Bundle.tN "SUPPRESSED_SENTINEL" Bundle.listD A s' s'.heap := by rw [hhp]; exact vx_Zq.moved hW0.alike (hN.kept hS.2.1)
  have h : ∀ w ∈ Bundle.ownAtoms own ic cls names, w.before args s' = true := vx_own hat' (vx_isRefq hU'.1) (vx_isRefq hN'.1) hU'.2.word hN'.2.word
  have hown' : s'.vm.findClass own = some m.cls := by rw [hvm]; exact hown
  have hins : (Cond.instantiable cls 6).before args s' = true := h _ (by simp [Bundle.ownAtoms])
  obtain ⟨vm₁, cX, kX, hfX, hkX, -, -, X₁, st1⟩ := Y.newCold hexec (own := own) (C := cls) (index := ik) (n := 6) hown' hk' hins hini'
    (g := F0 m pc ls rest) rfl (by rw [hb]; exact d0) (Nat.le_refl _) (Nat.le_refl _)
  generalize hT1 : (T.setVm vm₁).pushCell { cls := cX, slots := kX.instanceTypes.map defaultValue, vm := .none } = T1 at X₁ st1
  have hcat : (Value.ref T.heap.size).category = 1 := rfl
  have hcellA : T1.heap[T.heap.size]? = some (freshCell cX kX) := by rw [← hT1]; exact State.heap_pushCell_size _ _
  have d3' : decode c.code (pc + 3) = .ok (.dup, 1) := by rw [hb]; exact d3
  have d4' : decode c.code (pc + 4) = .ok (.ldc is, 2) := by rw [hb]; exact d4
  have hstr' : vk_R own is text sa s' := vk_R.warm hW0 hstr
  obtain ⟨U, hsteps, hrun, hend, hW, hsame, ce, hce, hO⟩ := X₁.ctorThrowS hexec htr (own := own) (cls := cls) (names := names) (ic := ic) hown' hcls hnames h (fun x hx => nomatch hx) hfX hkX hcellA (by rw [hhp, hT]; exact Nat.le_refl _) (msg := .ref sa) rfl
    (g := { method := m, pc := pc + 6, locals := ls, stack := .ref sa :: .ref T.heap.size :: .ref T.heap.size :: rest, locked := none }) rfl hsize rfl rfl (rest := rest) rfl
    (by rw [hb]; exact d6) (by rw [hb]; exact d9) hout hRframes (by simp only [List.map_cons, List.sum_cons, hcat]; omega) hlocks
  obtain ⟨f1, f2⟩ := vx_frame hsame
  rw [hhp] at f1 f2
  have hWs : s.WarmedH U.vm := State.WarmedH.trans hW0 hW
  have hcl : s.vm.findClass cls = some ce.cls := by
    have h9 := hO.cls
    rw [hvm] at h9
    exact h9
  have hall : s.sameButNew ({ U with vm := s.vm } : State) locs mc ms := by
    subst hA
    obtain ⟨e1, e2⟩ := hsame
    rw [State.setFrames_setFrames] at e1
    have h2 : (T.setVm s.vm).sameButNew ({ U with vm := s.vm } : State) [] (0 + 1) (0 + 6) := ⟨e1, e2⟩
    have h3 := X.same.trans h2
    rw [List.append_nil] at h3
    exact h3.mono hc hs
  refine ⟨U, ?_, .threw T.heap.size, hrun, hend, Or.inr ⟨T.heap.size, rfl, cls, ce, locs, hx U hWs.alike f1 (fun q hq => f2 q hq (fun z hz => nomatch hz)), hce, hO.vm, hcl, hWs, hall, hf⟩⟩
  refine st1 _ ?_
  show Steps p.tables e below (T1.setTop { method := m, pc := pc + 3, locals := ls, stack := .ref T.heap.size :: rest, locked := none }) _
  jvm_step X₁.here [X₁.here.top, hexec, d3', Value.category]
  exact X₁.ldcString hexec (own := own) (text := text) (index := is) (a := sa) hown' hstr'.1 hstr'.2
    (g := { method := m, pc := pc + 4, locals := ls, stack := .ref T.heap.size :: .ref T.heap.size :: rest, locked := none }) rfl d4' _ hsteps
/-- 'throw new E("text")', the text by a wide index -/
theorem vx_throwSW {cc : ByteArray} {pc : Nat} (hexec : p.tables.exec = Jvm.exec) (hb : c.code = cc) (hl : l.stackTraces = false) {own cls text : String} {names : List String} {ik is ic mc ms sa : Nat} {A : Nat → Prop}
    (hown : s.vm.findClass own = some m.cls) (hcls : Bundle.fit cls = true) (hnames : ∀ n ∈ names, Bundle.fit n = true)
    (hk : (Cond.classLink own ik cls).before args s = true) (hini : (Cond.initialized cls).before args s = true) (hstr : vk_R own is text sa s) (hat : ∀ w ∈ vx_atS own ic cls names, w.before args s = true)
    (hgood : ∀ w ∈ Cond.classLink own ik cls :: Cond.initialized cls :: vx_atS own ic cls names, vx_ot w = true)
    (hU : vx_Zq Bundle.tN "UNASSIGNED_STACK" Bundle.steD A s s.heap) (hN : vx_Zq Bundle.tN "SUPPRESSED_SENTINEL" Bundle.listD A s s.heap) (hS : va_S A s.heap H locs) (hsize : ls.size = c.maxLocals)
    (d0 : decode cc pc = .ok (.new ik, 3)) (d3 : decode cc (pc + 3) = .ok (.dup, 1)) (d4 : decode cc (pc + 4) = .ok (.ldc_w is, 3)) (d7 : decode cc (pc + 7) = .ok (.invokespecial ic, 3)) (d10 : decode cc (pc + 10) = .ok (.athrow, 1))
    (hout : ∀ x ∈ c.exceptionTable.toList, covers x (pc + 10) = false)
    (hRframes : names.length + 3 < R.frames) (hRlocals : (rest.map fun v => v.category).sum + (13 * (names.length + 1) + 43) ≤ R.locals) (hRcells : cells + 1 ≤ R.cells) (hRslots : slots + 6 ≤ R.slots) (hlocks : meth.locks = false)
    (hx : ∀ t : State, s.vm.Alike t.vm → H.size ≤ t.heap.size → (∀ q : Nat, q < H.size → t.heap[q]? = H[q]?) → XC cls s t)
    (hf : ∀ z ∈ locs, free z.base) (hc : cells + 1 ≤ mc) (hs : slots + 6 ≤ ms) :
    W p l e R s m args below meth c H locs cells slots (vx_MQ below Qc XC args s mc ms free) (F0 m pc ls rest) := by
  intro T hT X
  have htr : e.platform.stackTraces = false := (show e.platform.stackTraces = l.stackTraces by rw [X.admits.platform]).trans hl
  have Y := vx_rebase X (R' := { frames := R.frames, locals := R.locals, cells := 1, slots := 6 }) (Nat.le_refl _) (Nat.le_refl _) hRcells hRslots
  obtain ⟨s', hA⟩ : ∃ z, z = (T.setVm s.vm).setFrames (.invoking m args :: below) := ⟨_, rfl⟩
  rw [← hA] at Y
  have hvm : s'.vm = s.vm := by rw [hA]; rfl
  have hhp : s'.heap = H := by rw [hA]; exact hT
  have hW0 : s.WarmedH s'.vm := by rw [hvm]; exact State.WarmedH.refl s
  have hat' : ∀ w ∈ vx_atS own ic cls names, w.before args s' = true := fun w hw => vx_ot_at hW0 hvm.symm (hgood w (List.mem_cons_of_mem _ (List.mem_cons_of_mem _ hw))) (hat w hw)
  have hk' : (Cond.classLink own ik cls).before args s' = true := vx_ot_at hW0 hvm.symm (hgood _ List.mem_cons_self) hk
  have hini' : (Cond.initialized cls).before args s' = true := vx_ot_at hW0 hvm.symm (hgood _ (List.mem_cons_of_mem _ List.mem_cons_self)) hini
  have hU' : vx_Zq Bundle.tN "UNASSIGNED_STACK" Bundle.steD A s' s'.heap := by rw [hhp]; exact vx_Zq.moved hW0.alike (hU.kept hS.2.1)
  have hN' : vx_Zq Bundle.tN "SUPPRESSED_SENTINEL" Bundle.listD A s' s'.heap := by rw [hhp]; exact vx_Zq.moved hW0.alike (hN.kept hS.2.1)
  have h : ∀ w ∈ Bundle.ownAtoms own ic cls names, w.before args s' = true := vx_own hat' (vx_isRefq hU'.1) (vx_isRefq hN'.1) hU'.2.word hN'.2.word
  have hown' : s'.vm.findClass own = some m.cls := by rw [hvm]; exact hown
  have hins : (Cond.instantiable cls 6).before args s' = true := h _ (by simp [Bundle.ownAtoms])
  obtain ⟨vm₁, cX, kX, hfX, hkX, -, -, X₁, st1⟩ := Y.newCold hexec (own := own) (C := cls) (index := ik) (n := 6) hown' hk' hins hini'
    (g := F0 m pc ls rest) rfl (by rw [hb]; exact d0) (Nat.le_refl _) (Nat.le_refl _)
  generalize hT1 : (T.setVm vm₁).pushCell { cls := cX, slots := kX.instanceTypes.map defaultValue, vm := .none } = T1 at X₁ st1
  have hcat : (Value.ref T.heap.size).category = 1 := rfl
  have hcellA : T1.heap[T.heap.size]? = some (freshCell cX kX) := by rw [← hT1]; exact State.heap_pushCell_size _ _
  have d3' : decode c.code (pc + 3) = .ok (.dup, 1) := by rw [hb]; exact d3
  have d4' : decode c.code (pc + 4) = .ok (.ldc_w is, 3) := by rw [hb]; exact d4
  have hstr' : vk_R own is text sa s' := vk_R.warm hW0 hstr
  obtain ⟨U, hsteps, hrun, hend, hW, hsame, ce, hce, hO⟩ := X₁.ctorThrowS hexec htr (own := own) (cls := cls) (names := names) (ic := ic) hown' hcls hnames h (fun x hx => nomatch hx) hfX hkX hcellA (by rw [hhp, hT]; exact Nat.le_refl _) (msg := .ref sa) rfl
    (g := { method := m, pc := pc + 7, locals := ls, stack := .ref sa :: .ref T.heap.size :: .ref T.heap.size :: rest, locked := none }) rfl hsize rfl rfl (rest := rest) rfl
    (by rw [hb]; exact d7) (by rw [hb]; exact d10) hout hRframes (by simp only [List.map_cons, List.sum_cons, hcat]; omega) hlocks
  obtain ⟨f1, f2⟩ := vx_frame hsame
  rw [hhp] at f1 f2
  have hWs : s.WarmedH U.vm := State.WarmedH.trans hW0 hW
  have hcl : s.vm.findClass cls = some ce.cls := by
    have h9 := hO.cls
    rw [hvm] at h9
    exact h9
  have hall : s.sameButNew ({ U with vm := s.vm } : State) locs mc ms := by
    subst hA
    obtain ⟨e1, e2⟩ := hsame
    rw [State.setFrames_setFrames] at e1
    have h2 : (T.setVm s.vm).sameButNew ({ U with vm := s.vm } : State) [] (0 + 1) (0 + 6) := ⟨e1, e2⟩
    have h3 := X.same.trans h2
    rw [List.append_nil] at h3
    exact h3.mono hc hs
  refine ⟨U, ?_, .threw T.heap.size, hrun, hend, Or.inr ⟨T.heap.size, rfl, cls, ce, locs, hx U hWs.alike f1 (fun q hq => f2 q hq (fun z hz => nomatch hz)), hce, hO.vm, hcl, hWs, hall, hf⟩⟩
  refine st1 _ ?_
  show Steps p.tables e below (T1.setTop { method := m, pc := pc + 3, locals := ls, stack := .ref T.heap.size :: rest, locked := none }) _
  jvm_step X₁.here [X₁.here.top, hexec, d3', Value.category]
  exact X₁.ldcStringW hexec (own := own) (text := text) (index := is) (a := sa) hown' hstr'.1 hstr'.2
    (g := { method := m, pc := pc + 4, locals := ls, stack := .ref T.heap.size :: .ref T.heap.size :: rest, locked := none }) rfl d4' _ hsteps
end Ends
section Bodies
variable {l : Launch}
theorem vx_ofW {y : MethodName} {ws ws' : List Cond} {rm : Room} {Pc : Array Value → State → Prop} {Qc : Array Value → State → Outcome → State → Prop} {XC : String → State → State → Prop} {mc ms : Nat} {free : Addr → Prop} {cc : ByteArray} {maxL : Nat} {ret : Option FieldType}
    (hy : plainName y.cls = true) (hw : ws = Cond.code y cc maxL ret :: ws')
    (body : ∀ p e s m args below meth c s₁, BodyLoose p l y (headSpec ws rm) cc maxL ret e s m args below meth c s₁ → c.maxLocals = maxL → (∀ x ∈ c.exceptionTable.toList, False) → Pc args s →
      W p l e (headSpec ws rm).room s m args below meth c s.heap [] 0 0 (vx_MQ below Qc XC args s mc ms free) (entryFrame m args maxL)) : vx_Met l y ws rm Pc Qc XC mc ms free := by
  refine MetFree.of_bodyS (code := cc) (maxLocals := maxL) (ret := ret) hy ?_ ?_
  · intro args s m h hn
    obtain ⟨meth, c, h1, h2, h3, h4, h5, h6, -, -⟩ := Cond.code_spec hn (atoms_spec (ws := ws) h _ (by rw [hw]; exact List.mem_cons_self))
    exact ⟨meth, c, h1, h2, h3, h4, h5, h6⟩
  · intro p e s m args below meth c s₁ B hml hP _
    have hh0 : s₁.heap = s.heap := by rw [B.state]; rfl
    have ht : ∀ x ∈ c.exceptionTable.toList, False := by
      obtain ⟨meth9, c9, h1, h2, -, -, -, -, h7, -⟩ := Cond.code_spec B.named (atoms_spec (ws := ws) B.pre _ (by rw [hw]; exact List.mem_cons_self))
      cases Option.some.inj (h1.symm.trans B.method)
      cases Option.some.inj (h2.symm.trans (Stand.of_body B).code)
      intro x hx
      rw [Array.isEmpty_iff.mp h7] at hx
      cases hx
    obtain ⟨t, a1, o, b1, b2, b3⟩ := body p e s m args below meth c s₁ B hml ht hP s₁ hh0 (Stand.of_body B)
    exact ⟨t, o, a1, b1, b2, b3⟩
/-- the table of a body with handlers -/
theorem vx_table {p : Program} {x y : MethodName} {S : Spec} {cc bytes : ByteArray} {maxL maxL' : Nat} {ret ret' : Option FieldType} {e : Env} {s s₁ : State} {m : MethodId} {args : Array Value} {below : List Frame} {meth : Method} {c : Code} {hh : List (Nat × Nat × Nat × Nat)}
    (B : BodyLoose p l y S cc maxL ret e s m args below meth c s₁) (h : (Cond.codeWith y bytes maxL' ret' hh).before args s = true) : c.exceptionTable.toList = tableOf hh := by
  obtain ⟨m9, meth9, c9, hn9, h1, h2, -, -, h6, -⟩ := Cond.codeWith_spec h
  cases Option.some.inj (hn9.symm.trans B.named)
  cases Option.some.inj (h1.symm.trans B.method)
  cases Option.some.inj (h2.symm.trans (Stand.of_body B).code)
  rw [← h6, table_eq]
end Bodies
end VXA
/-! ===== END ===== -/
/-! ===== BEGIN a static call of a method with an exception table ===== -/
section VXS
variable {p : Program} {l : Launch} {e : Env} {R : Room} {s : State} {m : MethodId} {args : Array Value} {below : List Frame} {meth : Method} {c : Code} {T : State} {H : Heap} {locs : List Loc} {cells slots : Nat}
abbrev vx_CSW (R : Room) (s : State) (args : Array Value) (own : String) (index : Nat) (y : MethodName) (bytes : ByteArray) (maxL : Nat) (ret : Option FieldType) (hh : List (Nat × Nat × Nat × Nat)) (ws : List Cond) (rm : Room) (mc ms n : Nat) : Prop :=
  (rm.cells = mc ∧ rm.slots = ms ∧ rm.frames + 1 ≤ R.frames ∧ 8 + (maxL + 11) + rm.locals ≤ R.locals ∧ (∀ w ∈ ws, ∀ (a' : Array Value) (U : State), s.WarmedH U.vm → w.before a' U = true) ∧ Cond.codeWith y bytes maxL ret hh ∈ ws) ∧
  (Cond.codeWith y bytes maxL ret hh).before args s = true ∧ (Cond.initialized y.cls).before args s = true ∧ (y.cls ≠ "java/lang/invoke/MethodHandle" ∧ y.cls ≠ "java/lang/invoke/VarHandle") ∧
  (∀ sig, parseMethodDescriptor y.desc = some sig → n = sig.parameters.length) ∧ (Cond.methodLink own index y).before args s = true ∧ (Cond.static y).before args s = true
theorem vx_cwSW {own : String} {index maxL mc ms : Nat} {y : MethodName} {bytes : ByteArray} {ret : Option FieldType} {hh : List (Nat × Nat × Nat × Nat)} {Ts ws ws' : List Cond} {rm : Room} (n : Nat) (ht : ∀ w ∈ Ts, w.before args s = true) (hT : GoodIn Ts (va_wsS own index y ws)) (hw : ws = Cond.codeWith y bytes maxL ret hh :: ws') (hrc : rm.cells = mc) (hrs : rm.slots = ms)
    (hd : y.cls ≠ "java/lang/invoke/MethodHandle" ∧ y.cls ≠ "java/lang/invoke/VarHandle" ∧ (parseMethodDescriptor y.desc).map (fun d => d.parameters.length) = some n) (hR : rm.frames + 1 ≤ R.frames ∧ 8 + (maxL + 11) + rm.locals ≤ R.locals) :
    vx_CSW R s args own index y bytes maxL ret hh ws rm mc ms n := by
  have ok : ∀ w ∈ va_wsS own index y ws, w.before args s = true := fun w h => ht w (hT w h).1
  have hG : GoodIn Ts ws := fun w h => hT w (by unfold va_wsS; exact List.mem_append_right _ h)
  have hc : Cond.codeWith y bytes maxL ret hh ∈ ws := by rw [hw]; exact List.mem_cons_self
  refine ⟨⟨hrc, hrs, hR.1, hR.2, pay_in ht hG, hc⟩, ht _ (hG _ hc).1, ok _ (by simp [va_wsS]), ⟨hd.1, hd.2.1⟩, fun sig h => ?_, ok _ (by simp [va_wsS]), ok _ (by simp [va_wsS])⟩
  have h2 := hd.2.2
  rw [h] at h2
  exact (Option.some.inj h2).symm
theorem vx_callSW (X : Stand p l e R s m args below meth c T locs cells slots) (hexec : p.tables.exec = Jvm.exec) {own : String} {index : Nat} {y : MethodName} {bytes : ByteArray} {maxL : Nat} {ret : Option FieldType} {hh : List (Nat × Nat × Nat × Nat)}
    (hown : s.vm.findClass own = some m.cls) (hlink : (Cond.methodLink own index y).before args s = true) (hstat : (Cond.static y).before args s = true) (hinit : (Cond.initialized y.cls).before args s = true)
    (hcode : (Cond.codeWith y bytes maxL ret hh).before args s = true) (hy : y.cls ≠ "java/lang/invoke/MethodHandle" ∧ y.cls ≠ "java/lang/invoke/VarHandle")
    {W9 : Nat} {Pre : Pt → Array Value → Prop} {Post : Pt → Array Value → Option Value → Pt → Prop} (hK : Back l R p e below s args y 3 W9 Pre Post)
    {g : JFrame} (hg : g.method = m) (hsize : g.locals.size = c.maxLocals) {argsL rest : List Value} (hlen : ∀ sig, parseMethodDescriptor y.desc = some sig → argsL.length = sig.parameters.length)
    (hstack : g.stack = argsL.reverse ++ rest) (hW : 2 * g.monitorRoom + (rest.map fun v => v.category).sum ≤ W9) (hdg : decode c.code g.pc = .ok (.invokestatic index, 3))
    (hpre : ∀ vm₁, s.WarmedH vm₁ → Pre ⟨T.setVm vm₁, locs, cells, slots⟩ argsL.toArray) :
    ∃ (v : Option Value) (vm₁ : Vm) (B : Pt), s.WarmedH vm₁ ∧ Stand p l e R s m args below meth c B.U B.locs B.cells B.slots ∧ Post ⟨T.setVm vm₁, locs, cells, slots⟩ argsL.toArray v B ∧
      ∀ target, Steps p.tables e below (B.U.setTop { g with pc := g.pc + 3, stack := v.toList ++ rest }) target → Steps p.tables e below (T.setTop g) target := by
  obtain ⟨mk, methM, cM, hnamed, hmethM, -, -, -, -, -, -, hsigM⟩ := Cond.codeWith_spec hcode
  have hstatic : methM.isStatic = true := Cond.static_spec hnamed hmethM hstat
  obtain ⟨kP, hkP, -⟩ := className_of_methodNamed hnamed
  have hinitP : kP.init = .initialized := Cond.initialized_spec (findClass_of_methodNamed hnamed) hkP hinit
  obtain ⟨vm₁, X₁, hstep₁⟩ := X.invokestatic hexec hown hlink hnamed hmethM hstatic hkP hinitP hy (g := g) hg (argsL := argsL) (rest := rest) (hlen _ hsigM) hstack hdg
  obtain ⟨v, B, X', hpost, hsteps⟩ := hK m meth c ⟨T.setVm vm₁, locs, cells, slots⟩ { g with stack := rest } (.invokestatic index) mk argsL.toArray X₁ hg hsize hdg hW (X₁.named hnamed) (hpre vm₁ X₁.warmed)
  exact ⟨v, vm₁, B, X₁.warmed, X', hpost, fun target h => hstep₁ _ fun acts => by rw [doInvoke_state]; exact hsteps.trans h⟩
theorem vx_runSW {y : MethodName} {bytes cc : ByteArray} {maxL nL mc ms n index : Nat} {ret : Option FieldType} {hh : List (Nat × Nat × Nat × Nat)} {ws : List Cond} {rm : Room} {Pc : Array Value → State → Prop} {Qc : Array Value → State → Outcome → State → Prop} {free : Addr → Prop} {Ts : List Cond} {own : String} {As rest : List Value} {g : JFrame}
    (S : CallFix p m c cc nL s args Ts own) (hM : Met l y ws rm Pc Qc mc ms free) (cw : vx_CSW R s args own index y bytes maxL ret hh ws rm mc ms n) (hp : PreS s H Pc As)
    (hg : g.method = m) (hn : As.length = n) (hsize : g.locals.size = nL) (hstack : g.stack = As.reverse ++ rest) (hW : 2 * g.monitorRoom + (rest.map fun v => v.category).sum ≤ 8) (hdg : decode cc g.pc = .ok (.invokestatic index, 3)) (hf : cells + mc ≤ R.cells ∧ slots + ms ≤ R.slots) :
    va_Run p l e R s m args below meth c H locs cells slots mc ms g rest (Qc As.toArray) (free) := by
  obtain ⟨⟨hrc, hrs, hfr, hlo, hws, hcw⟩, hcode, hini, hy, hlen, hl, hstt⟩ := cw
  have hK : Back l R p e below s args y 3 8 (PreOf R mc ms Pc) (PostOf Qc mc ms free) := va_backW (hh := hh) (bytes := bytes) (maxL := maxL) (ret := ret) hM hp.1 hrc hrs hfr hlo hws hcw (fun a' U hW => word_at hW (Or.inl (by first | rfl | simp [Cond.onTables, Cond.keeps, Cond.steady])) hini)
  obtain ⟨hx, hb, hml, ho, -⟩ := S
  intro T hT X
  obtain ⟨v, vm₁, ⟨U', l2, c2, s2⟩, hW₁, X', ⟨g', mk, t, L, e1, e2, hq, h1, hL, h2, h3⟩, st⟩ := vx_callSW X hx (hh := hh) (bytes := bytes) (maxL := maxL) (ret := ret) ho hl hstt hini hcode hy hK hg (hsize.trans hml.symm) (argsL := As) (rest := rest) (fun sig h => hn.trans (hlen sig h)) hstack hW (by rw [hb]; exact hdg)
    (fun vm₁ hW₁ => ⟨hf.1, hf.2, hp.2 (T.setVm vm₁) hT hW₁⟩)
  dsimp only [Pt.U, Pt.locs, Pt.cells, Pt.slots] at X' e1 e2 h1 h2 h3 st
  subst h1; subst h2; subst h3
  exact ⟨v, (T.setVm vm₁).calling g' mk As.toArray, t, U', L, hT, X', hL, e1, e2, hq, st⟩
/-- not caught here, past rows that name other classes: it goes on to the caller -/
theorem vx_outP {p : Program} {l : Launch} {e : Env} {R : Room} {s : State} {m : MethodId} {args : Array Value} {below : List Frame} {meth : Method} {c : Code} {H : Heap} {locs : List Loc} {cells slots : Nat} {free : Addr → Prop} {ls : Array Slot} {rest : List Value} {Qc : Array Value → State → Outcome → State → Prop} {XC : String → State → State → Prop}
    {pc : Nat} {own E : String} {ce : Cell} {q : Addr} {mc ms : Nat} (hown : s.vm.findClass own = some m.cls) (hlocks : meth.locks = false)
    (hpass : ∀ z ∈ c.exceptionTable.toList, covers z pc = false ∨ (z.catchType ≠ 0 ∧ ∃ nm : String, (Cond.classLink own z.catchType nm).before args s = true ∧ va_Nc E nm s)) (hcell : H[q]? = some ce) (hv : ce.vm = .none) (hcl : s.vm.findClass E = some ce.cls)
    (hx : ∀ t : State, t.heap = H → s.vm.Alike t.vm → XC E s t) (hf : ∀ z ∈ locs, free z.base) (hc : cells ≤ mc) (hs : slots ≤ ms) :
    vx_W p l e R s m args below meth c H locs cells slots (vx_MQ below Qc XC args s mc ms free) (F0 m pc ls rest) q := by
  intro T hT X
  have hpl : e.platform.magicAccessors = ({} : Platform).magicAccessors := by rw [X.admits.platform]
  obtain ⟨vm', hW', X', st⟩ := X.outThrough hlocks q (g := F0 m pc ls rest) rfl rfl rfl (cell := ce) (by rw [hT]; exact hcell) (by rw [hv]; rfl)
    (by obtain ⟨k9, h9, -⟩ := Vm.findClass_spec hcl; exact ⟨k9, h9⟩) (fun z hz => by
      rcases hpass z hz with h | ⟨hz0, nm, hl1, hn1⟩
      · exact Or.inl h
      · obtain ⟨c6, hc6, hcl6⟩ := Cond.classLink_spec hown hl1 e.platform hpl
        obtain ⟨a8, b8, h1, h2, h3⟩ := hn1
        cases Option.some.inj (h1.symm.trans hcl)
        cases Option.some.inj (h2.symm.trans hc6)
        exact Or.inr ⟨hz0, _, hcl6, h3⟩)
  obtain ⟨g₀, hfr⟩ := X'.frames_eq
  have hcell9 : ((T.setVm vm').setFrames (.throwing q :: below)).heap[q]? = some ce := by
    show T.heap[q]? = some ce
    rw [hT]; exact hcell
  have hend : Ended ((T.setVm vm').setFrames (.throwing q :: below)) below (.threw q) := State.frames_setFrames _ (State.cur_lt_of_frames hfr)
  refine ⟨(T.setVm vm').setFrames (.throwing q :: below), ?_, .threw q, X'.here.running, hend, Or.inr ⟨q, rfl, E, ce, locs, hx _ hT (X'.ends _).1.alike, hcell9, hv, hcl, (X'.ends _).1, (X'.ends _).2.mono hc hs, hf⟩⟩
  rw [X.pushThrowing_eq]
  exact st
/-- a thing of a world lies in the heap -/
theorem vx_lt {D : va_G} {cl : List vw_C} {ws : va_W} {H1 : Heap} (h : va_P D cl ws H1) {k : Nat} {q : Nat × va_E} (hk : ws[k]? = some q) : q.1 < H1.size := (h k q hk).lt
end VXS
/-! ===== END ===== -/
/-! ===== BEGIN methods with a table of their own: called by a name, returning or throwing ===== -/
section VXH
/-! vx_backW, vx_callVX, vx_callSX, vx_callVW, vx_runVW, vx_runVX, vx_runSX, vx_ofWH follow the same proofs as their sisters above (Free/Laws.lean, Shelf42/LK1.lean); vx_outP calls Shelf42/NT130.lean (outThrough). -/
section
variable {l : Launch} {R : Room} {p : Program} {e : Env} {below : List Frame} {s : State} {sargs : Array Value} {y : MethodName} {len W9 : Nat}
theorem vx_backW {ws : List Cond} {rm : Room} {Pc : Array Value → State → Prop} {Qc : Array Value → State → Outcome → State → Prop} {XC : String → State → State → Prop} {mc ms : Nat} {free : Addr → Prop} {bytes : ByteArray} {maxL : Nat} {ret : Option FieldType} {hh : List (Nat × Nat × Nat × Nat)}
    (hM : vx_Met l y ws rm Pc Qc XC mc ms free) (hblind : FrameBlind Pc) (hrc : rm.cells = mc) (hrs : rm.slots = ms)
    (hframes : rm.frames + 1 ≤ R.frames) (hlocals : W9 + (maxL + 11) + rm.locals ≤ R.locals)
    (hws : ∀ w ∈ ws, ∀ a' U, s.WarmedH U.vm → w.before a' U = true) (hcode : Cond.codeWith y bytes maxL ret hh ∈ ws) (hinit : ∀ a' U, s.WarmedH U.vm → (Cond.initialized y.cls).before a' U = true) :
    vx_Back l R p e below s sargs y len W9 (PreOf R mc ms Pc) (PostOf Qc mc ms free) (vx_Post XC mc ms free) := by
  intro m meth c A g ig mk a X hg hsize hdg hW hn hp
  have h1 : (headSpec ws rm).pre.before a A.U = true := atoms_intro fun w hw => hws w hw _ _ X.warmed
  have h2 : (Cond.codeWith y bytes maxL ret hh).before a A.U = true := hws _ hcode _ _ X.warmed
  have h3 : (Cond.initialized y.cls).before a A.U = true := hinit _ _ X.warmed
  have h4 : A.cells + (headSpec ws rm).room.cells ≤ R.cells := by rw [show (headSpec ws rm).room.cells = mc from hrc]; exact hp.1
  have h5 : A.slots + (headSpec ws rm).room.slots ≤ R.slots := by rw [show (headSpec ws rm).room.slots = ms from hrs]; exact hp.2.1
  have hPc : Pc a (A.U.calling g mk a) := hblind _ _ _ _ hp.2.2
  obtain ⟨U, Ls, c0, s0⟩ := A
  dsimp only [Pt.U, Pt.locs, Pt.cells, Pt.slots] at h1 h2 h3 h4 h5 X hn hPc ⊢
  obtain ⟨m9, methY, cY, hn9, hmY, hcY, -, hlY, -⟩ := Cond.codeWith_spec h2
  cases Option.some.inj (hn9.symm.trans hn)
  obtain ⟨kY, hkY, -⟩ := className_of_methodNamed hn
  have hinitY : kY.init = .initialized := Cond.initialized_spec (findClass_of_methodNamed hn) hkY h3
  have h : At U g.method c below := by rw [hg]; exact X.here
  have hlocals9 : W9 + (maxL + 11) + (headSpec ws rm).room.locals ≤ R.locals := hlocals
  have happ : (headSpec ws rm).appliesLoose y e.platform (U.calling g mk a) = true :=
    Spec.appliesLoose_calling (g := g) h hdg hn hkY hinitY
      (X.room_calling (g := g) (R' := (headSpec ws rm).room) hsize hmY hcY hframes (by rw [hlY]; omega) h4 h5) h1
  obtain ⟨mid, hmid⟩ := h.above
  have hfr : (U.setTop g).frames = (.java g :: mid) ++ below := by rw [State.frames_setTop' g h.top, hmid]; rfl
  obtain ⟨o, s₂, hsteps, -, hend, hq⟩ := Steps.callFree hM p X.admits X.cas X.clock (acts := []) hfr happ hPc trivial
  have hq' : vx_Q Qc XC mc ms free a (U.calling g mk a) o s₂ := hq
  rw [State.frames_setTop' g h.top] at hend
  obtain ⟨g₀, hg0⟩ := Option.isSome_iff_exists.mp h.top
  obtain ⟨r, hr⟩ := State.topJava?_eq_some.mp hg0
  have hr' : (({ U with heap := s₂.heap, slotsUsed := s₂.slotsUsed } : State).setVm s₂.vm).frames = .java g₀ :: r := hr
  rcases hq' with ⟨hqc, L, hfe, hL⟩ | ⟨q, rfl, E, ce, L, hx, hce, hcv, hcl, hW₂, hsm, hL⟩
  · obtain ⟨⟨v, rfl⟩, hW₂, e2, q2, q3, q4, q5, q6⟩ := id hfe
    have e3 : s₂ = ({ (U.calling g mk a).setFrames s₂.frames with heap := s₂.heap, slotsUsed := s₂.slotsUsed } : State).setVm s₂.vm := by
      have : s₂ = ({ s₂ with vm := (U.calling g mk a).vm } : State).setVm s₂.vm := rfl
      rw [e2] at this
      exact this
    obtain ⟨c₂, i₂, len₂, hc₂, hd₂, hf₂⟩ := hend
    have hW' : U.WarmedH s₂.vm := hW₂
    have hcc : c₂ = c := by
      have h1 : s₂.code? g.method = U.code? g.method := by
        rw [State.code?_eq, State.code?_eq, hW'.alike.method?]
      exact Option.some.inj (hc₂.symm.trans (h1.trans h.code))
    subst hcc
    have hlen : len₂ = len := by rw [hdg] at hd₂; cases hd₂; rfl
    subst hlen
    have hs₂ : s₂ = (({ U with heap := s₂.heap, slotsUsed := s₂.slotsUsed } : State).setVm s₂.vm).setTop { g with pc := g.pc + len₂, stack := v.toList ++ g.stack } := by
      refine e3.trans ?_
      rw [hf₂, State.calling_eq h.top, State.setFrames_setFrames, State.setTop_of_frames _ hr', hr]
      rfl
    have hsame : U.sameButNew ({ U with heap := s₂.heap, slotsUsed := s₂.slotsUsed } : State) L mc ms := by
      refine ⟨?_, q2, q3, q4, q5, q6⟩
      obtain ⟨t, ht, -⟩ := State.frames_cons hr
      show ({ U with heap := s₂.heap, slotsUsed := s₂.slotsUsed } : State) = { U.setFrames U.frames with heap := s₂.heap, slotsUsed := s₂.slotsUsed }
      rw [State.setFrames_self ht]
    subst hg
    refine Or.inl ⟨v, ⟨(({ U with heap := s₂.heap, slotsUsed := s₂.slotsUsed } : State).setVm s₂.vm), Ls ++ L, c0 + mc, s0 + ms⟩,
      ⟨X.admits, X.cas, X.clock, X.frames, X.room, X.hears, X.method, X.code, (X.here.setHeapUsed s₂.heap s₂.slotsUsed).setVm hW'.alike, X.tail, State.WarmedH.trans X.warmed hW', X.limits, X.bytes, X.same.trans (hsame.setVm s.vm)⟩,
      ⟨g, mk, s₂, L, rfl, rfl, hqc, rfl, hL, rfl, rfl⟩, ?_⟩
    show Steps p.tables e below _ ((({ U with heap := s₂.heap, slotsUsed := s₂.slotsUsed } : State).setVm s₂.vm).setTop { g with pc := g.pc + len₂, stack := v.toList ++ g.stack })
    rw [← hs₂]
    exact hsteps
  · obtain ⟨e2, q2, q3, q4, q5, q6⟩ := id hsm
    have e3 : s₂ = ({ (U.calling g mk a).setFrames s₂.frames with heap := s₂.heap, slotsUsed := s₂.slotsUsed } : State).setVm s₂.vm := by
      have : s₂ = ({ s₂ with vm := (U.calling g mk a).vm } : State).setVm s₂.vm := rfl
      rw [e2] at this
      exact this
    have hf₂ : s₂.frames = .throwing q :: .java g :: U.frames.tail := hend
    have hW' : U.WarmedH s₂.vm := hW₂
    have hs₂ : s₂ = ((({ U with heap := s₂.heap, slotsUsed := s₂.slotsUsed } : State).setVm s₂.vm).setTop g).pushFrame (.throwing q) := by
      refine e3.trans ?_
      rw [hf₂, State.calling_eq h.top, State.setFrames_setFrames, State.pushFrame, State.frames_setTop _ hr', State.setTop_of_frames _ hr', State.setFrames_setFrames, hr]
      rfl
    have hsame : U.sameButNew ({ U with heap := s₂.heap, slotsUsed := s₂.slotsUsed } : State) L mc ms := by
      refine ⟨?_, q2, q3, q4, q5, q6⟩
      obtain ⟨t, ht, -⟩ := State.frames_cons hr
      show ({ U with heap := s₂.heap, slotsUsed := s₂.slotsUsed } : State) = { U.setFrames U.frames with heap := s₂.heap, slotsUsed := s₂.slotsUsed }
      rw [State.setFrames_self ht]
    subst hg
    refine Or.inr ⟨q, ⟨(({ U with heap := s₂.heap, slotsUsed := s₂.slotsUsed } : State).setVm s₂.vm), Ls ++ L, c0 + mc, s0 + ms⟩,
      ⟨X.admits, X.cas, X.clock, X.frames, X.room, X.hears, X.method, X.code, (X.here.setHeapUsed s₂.heap s₂.slotsUsed).setVm hW'.alike, X.tail, State.WarmedH.trans X.warmed hW', X.limits, X.bytes, X.same.trans (hsame.setVm s.vm)⟩,
      ⟨g, mk, s₂, L, E, ce, rfl, rfl, hx, hce, hcv, hcl, rfl, hL, rfl, rfl⟩, ?_⟩
    show Steps p.tables e below _ (((({ U with heap := s₂.heap, slotsUsed := s₂.slotsUsed } : State).setVm s₂.vm).setTop g).pushFrame (.throwing q))
    rw [← hs₂]
    exact hsteps
end
variable {p : Program} {l : Launch} {e : Env} {R : Room} {s : State} {m : MethodId} {args : Array Value} {below : List Frame} {meth : Method} {c : Code} {T : State} {H : Heap} {locs : List Loc} {cells slots : Nat}
theorem vx_callVX (X : Stand p l e R s m args below meth c T locs cells slots) (hexec : p.tables.exec = Jvm.exec) {own C : String} {index : Nat} {y : MethodName} {bytes : ByteArray} {maxL : Nat} {ret : Option FieldType} {hh : List (Nat × Nat × Nat × Nat)}
    (hown : s.vm.findClass own = some m.cls) (hlink : (Cond.methodLink own index y).before args s = true) (hinst : (Cond.instanceMethod y).before args s = true) (hsel : (Cond.selects C y y).before args s = true)
    (hcode : (Cond.codeWith y bytes maxL ret hh).before args s = true) (hy : y.cls ≠ "java/lang/invoke/MethodHandle" ∧ y.cls ≠ "java/lang/invoke/VarHandle")
    {W9 : Nat} {Pre : Pt → Array Value → Prop} {Post : Pt → Array Value → Option Value → Pt → Prop} {PostX : Pt → Array Value → Addr → Pt → Prop} (hK : vx_Back l R p e below s args y 3 W9 Pre Post PostX)
    {b : Addr} {cellB : Cell} (hcell : T.heap[b]? = some cellB) (hobj : cellB.vm.isStatics = false) (hcls : s.vm.findClass C = some cellB.cls)
    {g : JFrame} (hg : g.method = m) (hsize : g.locals.size = c.maxLocals) {argsL rest : List Value} (hlen : ∀ sig, parseMethodDescriptor y.desc = some sig → argsL.length = sig.parameters.length)
    (hstack : g.stack = argsL.reverse ++ .ref b :: rest) (hW : 2 * g.monitorRoom + (rest.map fun v => v.category).sum ≤ W9) (hdg : decode c.code g.pc = .ok (.invokevirtual index, 3))
    (hpre : ∀ vm₁, s.WarmedH vm₁ → Pre ⟨T.setVm vm₁, locs, cells, slots⟩ (Value.ref b :: argsL).toArray) :
    (∃ (v : Option Value) (vm₁ : Vm) (B : Pt), s.WarmedH vm₁ ∧ Stand p l e R s m args below meth c B.U B.locs B.cells B.slots ∧ Post ⟨T.setVm vm₁, locs, cells, slots⟩ (Value.ref b :: argsL).toArray v B ∧
      ∀ target, Steps p.tables e below (B.U.setTop { g with pc := g.pc + 3, stack := v.toList ++ rest }) target → Steps p.tables e below (T.setTop g) target) ∨
    (∃ (q : Addr) (vm₁ : Vm) (B : Pt), s.WarmedH vm₁ ∧ Stand p l e R s m args below meth c B.U B.locs B.cells B.slots ∧ PostX ⟨T.setVm vm₁, locs, cells, slots⟩ (Value.ref b :: argsL).toArray q B ∧
      Steps p.tables e below (T.setTop g) ((B.U.setTop { g with stack := rest }).pushFrame (.throwing q))) := by
  obtain ⟨mk, methM, hnamed, hmethM, hstM, habM⟩ := Cond.instanceMethod_spec hinst
  obtain ⟨m8, methM', cM, hn8, hmethM', -, -, -, -, -, -, hsigM⟩ := Cond.codeWith_spec hcode
  cases Option.some.inj (hn8.symm.trans hnamed)
  cases hmethM.symm.trans hmethM'
  obtain ⟨c2, r2, m2, q1, q2, q3, q4, kP, hkP, hkPi⟩ := Cond.selects_spec hsel
  cases hcls.symm.trans q1
  cases (State.methodFound?_of_named hnamed hy).symm.trans q2
  cases hnamed.symm.trans q3
  have hselP : selectMethod e.platform s.vm cellB.cls mk = .method mk := by rw [Launch.admits_selectMethod X.admits]; exact q4
  obtain ⟨vm₁, X₁, hstep₁⟩ := X.invokevirtual hexec hown hlink hnamed hmethM hstM hkP hkPi hy (a := b) (cell := cellB) hcell
    (fun z h => by rw [h] at hobj; cases hobj) hselP hmethM habM hkP hkPi (g := g) hg (argsL := argsL) (rest := rest) (hlen _ hsigM) hstack hdg
  rcases hK m meth c ⟨T.setVm vm₁, locs, cells, slots⟩ { g with stack := rest } (.invokevirtual index) mk (Value.ref b :: argsL).toArray X₁ hg hsize hdg hW (X₁.named hnamed) (hpre vm₁ X₁.warmed) with ⟨v, B, X', hpost, hsteps⟩ | ⟨q, B, X', hpost, hsteps⟩
  · exact Or.inl ⟨v, vm₁, B, X₁.warmed, X', hpost, fun target h => hstep₁ _ fun acts => by rw [doInvoke_state]; exact hsteps.trans h⟩
  · exact Or.inr ⟨q, vm₁, B, X₁.warmed, X', hpost, hstep₁ _ fun acts => by rw [doInvoke_state]; exact hsteps⟩
theorem vx_callSX (X : Stand p l e R s m args below meth c T locs cells slots) (hexec : p.tables.exec = Jvm.exec) {own : String} {index : Nat} {y : MethodName} {bytes : ByteArray} {maxL : Nat} {ret : Option FieldType} {hh : List (Nat × Nat × Nat × Nat)}
    (hown : s.vm.findClass own = some m.cls) (hlink : (Cond.methodLink own index y).before args s = true) (hstat : (Cond.static y).before args s = true) (hinit : (Cond.initialized y.cls).before args s = true)
    (hcode : (Cond.codeWith y bytes maxL ret hh).before args s = true) (hy : y.cls ≠ "java/lang/invoke/MethodHandle" ∧ y.cls ≠ "java/lang/invoke/VarHandle")
    {W9 : Nat} {Pre : Pt → Array Value → Prop} {Post : Pt → Array Value → Option Value → Pt → Prop} {PostX : Pt → Array Value → Addr → Pt → Prop} (hK : vx_Back l R p e below s args y 3 W9 Pre Post PostX)
    {g : JFrame} (hg : g.method = m) (hsize : g.locals.size = c.maxLocals) {argsL rest : List Value} (hlen : ∀ sig, parseMethodDescriptor y.desc = some sig → argsL.length = sig.parameters.length)
    (hstack : g.stack = argsL.reverse ++ rest) (hW : 2 * g.monitorRoom + (rest.map fun v => v.category).sum ≤ W9) (hdg : decode c.code g.pc = .ok (.invokestatic index, 3))
    (hpre : ∀ vm₁, s.WarmedH vm₁ → Pre ⟨T.setVm vm₁, locs, cells, slots⟩ argsL.toArray) :
    (∃ (v : Option Value) (vm₁ : Vm) (B : Pt), s.WarmedH vm₁ ∧ Stand p l e R s m args below meth c B.U B.locs B.cells B.slots ∧ Post ⟨T.setVm vm₁, locs, cells, slots⟩ argsL.toArray v B ∧
      ∀ target, Steps p.tables e below (B.U.setTop { g with pc := g.pc + 3, stack := v.toList ++ rest }) target → Steps p.tables e below (T.setTop g) target) ∨
    (∃ (q : Addr) (vm₁ : Vm) (B : Pt), s.WarmedH vm₁ ∧ Stand p l e R s m args below meth c B.U B.locs B.cells B.slots ∧ PostX ⟨T.setVm vm₁, locs, cells, slots⟩ argsL.toArray q B ∧
      Steps p.tables e below (T.setTop g) ((B.U.setTop { g with stack := rest }).pushFrame (.throwing q))) := by
  obtain ⟨mk, methM, cM, hnamed, hmethM, -, -, -, -, -, -, hsigM⟩ := Cond.codeWith_spec hcode
  have hstatic : methM.isStatic = true := Cond.static_spec hnamed hmethM hstat
  obtain ⟨kP, hkP, -⟩ := className_of_methodNamed hnamed
  have hinitP : kP.init = .initialized := Cond.initialized_spec (findClass_of_methodNamed hnamed) hkP hinit
  obtain ⟨vm₁, X₁, hstep₁⟩ := X.invokestatic hexec hown hlink hnamed hmethM hstatic hkP hinitP hy (g := g) hg (argsL := argsL) (rest := rest) (hlen _ hsigM) hstack hdg
  rcases hK m meth c ⟨T.setVm vm₁, locs, cells, slots⟩ { g with stack := rest } (.invokestatic index) mk argsL.toArray X₁ hg hsize hdg hW (X₁.named hnamed) (hpre vm₁ X₁.warmed) with ⟨v, B, X', hpost, hsteps⟩ | ⟨q, B, X', hpost, hsteps⟩
  · exact Or.inl ⟨v, vm₁, B, X₁.warmed, X', hpost, fun target h => hstep₁ _ fun acts => by rw [doInvoke_state]; exact hsteps.trans h⟩
  · exact Or.inr ⟨q, vm₁, B, X₁.warmed, X', hpost, hstep₁ _ fun acts => by rw [doInvoke_state]; exact hsteps⟩
theorem vx_callVW (X : Stand p l e R s m args below meth c T locs cells slots) (hexec : p.tables.exec = Jvm.exec) {own C : String} {index : Nat} {y : MethodName} {bytes : ByteArray} {maxL : Nat} {ret : Option FieldType} {hh : List (Nat × Nat × Nat × Nat)}
    (hown : s.vm.findClass own = some m.cls) (hlink : (Cond.methodLink own index y).before args s = true) (hinst : (Cond.instanceMethod y).before args s = true) (hsel : (Cond.selects C y y).before args s = true)
    (hcode : (Cond.codeWith y bytes maxL ret hh).before args s = true) (hy : y.cls ≠ "java/lang/invoke/MethodHandle" ∧ y.cls ≠ "java/lang/invoke/VarHandle")
    {W9 : Nat} {Pre : Pt → Array Value → Prop} {Post : Pt → Array Value → Option Value → Pt → Prop} (hK : Back l R p e below s args y 3 W9 Pre Post)
    {b : Addr} {cellB : Cell} (hcell : T.heap[b]? = some cellB) (hobj : cellB.vm.isStatics = false) (hcls : s.vm.findClass C = some cellB.cls)
    {g : JFrame} (hg : g.method = m) (hsize : g.locals.size = c.maxLocals) {argsL rest : List Value} (hlen : ∀ sig, parseMethodDescriptor y.desc = some sig → argsL.length = sig.parameters.length)
    (hstack : g.stack = argsL.reverse ++ .ref b :: rest) (hW : 2 * g.monitorRoom + (rest.map fun v => v.category).sum ≤ W9) (hdg : decode c.code g.pc = .ok (.invokevirtual index, 3))
    (hpre : ∀ vm₁, s.WarmedH vm₁ → Pre ⟨T.setVm vm₁, locs, cells, slots⟩ (Value.ref b :: argsL).toArray) :
    ∃ (v : Option Value) (vm₁ : Vm) (B : Pt), s.WarmedH vm₁ ∧ Stand p l e R s m args below meth c B.U B.locs B.cells B.slots ∧ Post ⟨T.setVm vm₁, locs, cells, slots⟩ (Value.ref b :: argsL).toArray v B ∧
      ∀ target, Steps p.tables e below (B.U.setTop { g with pc := g.pc + 3, stack := v.toList ++ rest }) target → Steps p.tables e below (T.setTop g) target := by
  obtain ⟨mk, methM, hnamed, hmethM, hstM, habM⟩ := Cond.instanceMethod_spec hinst
  obtain ⟨m8, methM', cM, hn8, hmethM', -, -, -, -, -, -, hsigM⟩ := Cond.codeWith_spec hcode
  cases Option.some.inj (hn8.symm.trans hnamed)
  cases hmethM.symm.trans hmethM'
  obtain ⟨c2, r2, m2, q1, q2, q3, q4, kP, hkP, hkPi⟩ := Cond.selects_spec hsel
  cases hcls.symm.trans q1
  cases (State.methodFound?_of_named hnamed hy).symm.trans q2
  cases hnamed.symm.trans q3
  have hselP : selectMethod e.platform s.vm cellB.cls mk = .method mk := by rw [Launch.admits_selectMethod X.admits]; exact q4
  obtain ⟨vm₁, X₁, hstep₁⟩ := X.invokevirtual hexec hown hlink hnamed hmethM hstM hkP hkPi hy (a := b) (cell := cellB) hcell
    (fun z h => by rw [h] at hobj; cases hobj) hselP hmethM habM hkP hkPi (g := g) hg (argsL := argsL) (rest := rest) (hlen _ hsigM) hstack hdg
  obtain ⟨v, B, X', hpost, hsteps⟩ := hK m meth c ⟨T.setVm vm₁, locs, cells, slots⟩ { g with stack := rest } (.invokevirtual index) mk (Value.ref b :: argsL).toArray X₁ hg hsize hdg hW (X₁.named hnamed) (hpre vm₁ X₁.warmed)
  exact ⟨v, vm₁, B, X₁.warmed, X', hpost, fun target h => hstep₁ _ fun acts => by rw [doInvoke_state]; exact hsteps.trans h⟩
abbrev vx_CVW (R : Room) (s : State) (args : Array Value) (own C : String) (index : Nat) (y : MethodName) (bytes : ByteArray) (maxL : Nat) (ret : Option FieldType) (hh : List (Nat × Nat × Nat × Nat)) (ws : List Cond) (rm : Room) (mc ms n : Nat) : Prop :=
  (rm.cells = mc ∧ rm.slots = ms ∧ rm.frames + 1 ≤ R.frames ∧ 8 + (maxL + 11) + rm.locals ≤ R.locals ∧ (∀ w ∈ ws, ∀ (a' : Array Value) (U : State), s.WarmedH U.vm → w.before a' U = true) ∧ Cond.codeWith y bytes maxL ret hh ∈ ws) ∧
  (Cond.codeWith y bytes maxL ret hh).before args s = true ∧ (Cond.initialized y.cls).before args s = true ∧ (y.cls ≠ "java/lang/invoke/MethodHandle" ∧ y.cls ≠ "java/lang/invoke/VarHandle") ∧
  (∀ sig, parseMethodDescriptor y.desc = some sig → n = sig.parameters.length) ∧ (Cond.methodLink own index y).before args s = true ∧ (Cond.instanceMethod y).before args s = true ∧ (Cond.selects C y y).before args s = true
theorem vx_cwVW {own C : String} {index maxL mc ms : Nat} {y : MethodName} {bytes : ByteArray} {ret : Option FieldType} {hh : List (Nat × Nat × Nat × Nat)} {Ts ws ws' : List Cond} {rm : Room} (n : Nat) (ht : ∀ w ∈ Ts, w.before args s = true) (hT : GoodIn Ts (wsV own index C y ws)) (hw : ws = Cond.codeWith y bytes maxL ret hh :: ws') (hrc : rm.cells = mc) (hrs : rm.slots = ms)
    (hd : y.cls = C ∧ y.cls ≠ "java/lang/invoke/MethodHandle" ∧ y.cls ≠ "java/lang/invoke/VarHandle" ∧ (parseMethodDescriptor y.desc).map (fun d => d.parameters.length) = some n) (hR : rm.frames + 1 ≤ R.frames ∧ 8 + (maxL + 11) + rm.locals ≤ R.locals) :
    vx_CVW R s args own C index y bytes maxL ret hh ws rm mc ms n := by
  obtain ⟨hC, hd⟩ := hd
  subst hC
  have ok : ∀ w ∈ wsV own index y.cls y ws, w.before args s = true := fun w h => ht w (hT w h).1
  have hG : GoodIn Ts ws := fun w h => hT w (by unfold wsV; exact List.mem_append_right _ h)
  have hc : Cond.codeWith y bytes maxL ret hh ∈ ws := by rw [hw]; exact List.mem_cons_self
  refine ⟨⟨hrc, hrs, hR.1, hR.2, pay_in ht hG, hc⟩, ht _ (hG _ hc).1, ok _ (by simp [wsV]), ⟨hd.1, hd.2.1⟩, fun sig h => ?_, ok _ (by simp [wsV]), ok _ (by simp [wsV]), ok _ (by simp [wsV])⟩
  have h2 := hd.2.2
  rw [h] at h2
  exact (Option.some.inj h2).symm
theorem vx_runVW {y : MethodName} {bytes cc : ByteArray} {maxL nL mc ms n index : Nat} {ret : Option FieldType} {hh : List (Nat × Nat × Nat × Nat)} {ws : List Cond} {rm : Room} {Pc : Array Value → State → Prop} {Qc : Array Value → State → Outcome → State → Prop} {free : Addr → Prop} {Ts : List Cond} {own C : String} {b : Addr} {As rest : List Value} {g : JFrame}
    (S : CallFix p m c cc nL s args Ts own) (hM : Met l y ws rm Pc Qc mc ms free) (cw : vx_CVW R s args own C index y bytes maxL ret hh ws rm mc ms n) (hp : PreV s H C b Pc As)
    (hg : g.method = m) (hn : As.length = n) (hsize : g.locals.size = nL) (hstack : g.stack = As.reverse ++ .ref b :: rest) (hW : 2 * g.monitorRoom + (rest.map fun v => v.category).sum ≤ 8) (hdg : decode cc g.pc = .ok (.invokevirtual index, 3)) (hf : cells + mc ≤ R.cells ∧ slots + ms ≤ R.slots) :
    va_Run p l e R s m args below meth c H locs cells slots mc ms g rest (Qc (Value.ref b :: As).toArray) free := by
  obtain ⟨⟨hrc, hrs, hfr, hlo, hws, hcw⟩, hcode, hini, hy, hlen, hl, hin, hse⟩ := cw
  have hK : Back l R p e below s args y 3 8 (PreOf R mc ms Pc) (PostOf Qc mc ms free) := va_backW (hh := hh) (bytes := bytes) (maxL := maxL) (ret := ret) hM hp.1 hrc hrs hfr hlo hws hcw (fun a' U hW => word_at hW (Or.inl (by first | rfl | simp [Cond.onTables, Cond.keeps, Cond.steady])) hini)
  obtain ⟨hx, hb, hml, ho, -⟩ := S
  obtain ⟨-, ⟨cellB, hcB, hoB, hclB⟩, hPc⟩ := hp
  intro T hT X
  obtain ⟨v, vm₁, ⟨U', l2, c2, s2⟩, hW₁, X', ⟨g', mk, t, L, e1, e2, hq, h1, hL, h2, h3⟩, st⟩ := vx_callVW X hx (C := C) (hh := hh) (bytes := bytes) (maxL := maxL) (ret := ret) ho hl hin hse hcode hy hK (by rw [hT]; exact hcB) hoB hclB hg (hsize.trans hml.symm) (argsL := As) (rest := rest) (fun sig h => hn.trans (hlen sig h)) hstack hW (by rw [hb]; exact hdg)
    (fun vm₁ hW₁ => ⟨hf.1, hf.2, hPc (T.setVm vm₁) hT hW₁⟩)
  dsimp only [Pt.U, Pt.locs, Pt.cells, Pt.slots] at X' e1 e2 h1 h2 h3 st
  subst h1; subst h2; subst h3
  exact ⟨v, (T.setVm vm₁).calling g' mk (Value.ref b :: As).toArray, t, U', L, hT, X', hL, e1, e2, hq, st⟩
section
variable {y : MethodName} {bytes cc : ByteArray} {maxL nL mc ms n index : Nat} {ret : Option FieldType} {ws : List Cond} {rm : Room} {Pc : Array Value → State → Prop} {Qc : Array Value → State → Outcome → State → Prop} {XC : String → State → State → Prop} {free : Addr → Prop} {Ts : List Cond} {own C : String} {b : Addr} {As rest : List Value} {g : JFrame}
theorem vx_runVX {hh : List (Nat × Nat × Nat × Nat)} (S : CallFix p m c cc nL s args Ts own) (hM : vx_Met l y ws rm Pc Qc XC mc ms free) (cw : vx_CVW R s args own C index y bytes maxL ret hh ws rm mc ms n) (hp : PreV s H C b Pc As)
    (hg : g.method = m) (hn : As.length = n) (hsize : g.locals.size = nL) (hstack : g.stack = As.reverse ++ .ref b :: rest) (hW : 2 * g.monitorRoom + (rest.map fun v => v.category).sum ≤ 8) (hdg : decode cc g.pc = .ok (.invokevirtual index, 3)) (hf : cells + mc ≤ R.cells ∧ slots + ms ≤ R.slots) :
    vx_Run p l e R s m args below meth c H locs cells slots mc ms g rest (Qc (Value.ref b :: As).toArray) XC free := by
  obtain ⟨⟨hrc, hrs, hfr, hlo, hws, hcw⟩, hcode, hini, hy, hlen, hl, hin, hse⟩ := cw
  have hK : vx_Back l R p e below s args y 3 8 (PreOf R mc ms Pc) (PostOf Qc mc ms free) (vx_Post XC mc ms free) := vx_backW (hh := hh) (bytes := bytes) (maxL := maxL) (ret := ret) hM hp.1 hrc hrs hfr hlo hws hcw (fun a' U hW => word_at hW (Or.inl (by first | rfl | simp [Cond.onTables, Cond.keeps, Cond.steady])) hini)
  obtain ⟨hx, hb, hml, ho, -⟩ := S
  obtain ⟨-, ⟨cellB, hcB, hoB, hclB⟩, hPc⟩ := hp
  intro T hT X
  rcases vx_callVX X hx (C := C) (hh := hh) (bytes := bytes) (maxL := maxL) (ret := ret) ho hl hin hse hcode hy hK (by rw [hT]; exact hcB) hoB hclB hg (hsize.trans hml.symm) (argsL := As) (rest := rest) (fun sig h => hn.trans (hlen sig h)) hstack hW (by rw [hb]; exact hdg)
    (fun vm₁ hW₁ => ⟨hf.1, hf.2, hPc (T.setVm vm₁) hT hW₁⟩) with ⟨v, vm₁, ⟨U', l2, c2, s2⟩, hW₁, X', ⟨g', mk, t, L, e1, e2, hq, h1, hL, h2, h3⟩, st⟩ | ⟨q, vm₁, ⟨U', l2, c2, s2⟩, hW₁, X', ⟨g', mk, t, L, E, ce, e1, e2, hq, hce, hcv, hcl, h1, hL, h2, h3⟩, st⟩
  · dsimp only [Pt.U, Pt.locs, Pt.cells, Pt.slots] at X' e1 e2 h1 h2 h3 st
    subst h1; subst h2; subst h3
    exact Or.inl ⟨v, (T.setVm vm₁).calling g' mk (Value.ref b :: As).toArray, t, U', L, hT, X', hL, e1, e2, hq, st⟩
  · dsimp only [Pt.U, Pt.locs, Pt.cells, Pt.slots] at X' e1 e2 h1 h2 h3 st hcl
    subst h1; subst h2; subst h3
    exact Or.inr ⟨q, (T.setVm vm₁).calling g' mk (Value.ref b :: As).toArray, t, U', L, E, ce, hT, X', hL, e1, e2, hq, hce, hcv, vx_cls hW₁ hcl, st⟩
theorem vx_runSX {hh : List (Nat × Nat × Nat × Nat)} (S : CallFix p m c cc nL s args Ts own) (hM : vx_Met l y ws rm Pc Qc XC mc ms free) (cw : vx_CSW R s args own index y bytes maxL ret hh ws rm mc ms n) (hp : PreS s H Pc As)
    (hg : g.method = m) (hn : As.length = n) (hsize : g.locals.size = nL) (hstack : g.stack = As.reverse ++ rest) (hW : 2 * g.monitorRoom + (rest.map fun v => v.category).sum ≤ 8) (hdg : decode cc g.pc = .ok (.invokestatic index, 3)) (hf : cells + mc ≤ R.cells ∧ slots + ms ≤ R.slots) :
    vx_Run p l e R s m args below meth c H locs cells slots mc ms g rest (Qc As.toArray) XC free := by
  obtain ⟨⟨hrc, hrs, hfr, hlo, hws, hcw⟩, hcode, hini, hy, hlen, hl, hstt⟩ := cw
  have hK : vx_Back l R p e below s args y 3 8 (PreOf R mc ms Pc) (PostOf Qc mc ms free) (vx_Post XC mc ms free) := vx_backW (hh := hh) (bytes := bytes) (maxL := maxL) (ret := ret) hM hp.1 hrc hrs hfr hlo hws hcw (fun a' U hW => word_at hW (Or.inl (by first | rfl | simp [Cond.onTables, Cond.keeps, Cond.steady])) hini)
  obtain ⟨hx, hb, hml, ho, -⟩ := S
  intro T hT X
  rcases vx_callSX X hx (hh := hh) (bytes := bytes) (maxL := maxL) (ret := ret) ho hl hstt hini hcode hy hK hg (hsize.trans hml.symm) (argsL := As) (rest := rest) (fun sig h => hn.trans (hlen sig h)) hstack hW (by rw [hb]; exact hdg)
    (fun vm₁ hW₁ => ⟨hf.1, hf.2, hp.2 (T.setVm vm₁) hT hW₁⟩) with ⟨v, vm₁, ⟨U', l2, c2, s2⟩, hW₁, X', ⟨g', mk, t, L, e1, e2, hq, h1, hL, h2, h3⟩, st⟩ | ⟨q, vm₁, ⟨U', l2, c2, s2⟩, hW₁, X', ⟨g', mk, t, L, E, ce, e1, e2, hq, hce, hcv, hcl, h1, hL, h2, h3⟩, st⟩
  · dsimp only [Pt.U, Pt.locs, Pt.cells, Pt.slots] at X' e1 e2 h1 h2 h3 st
    subst h1; subst h2; subst h3
    exact Or.inl ⟨v, (T.setVm vm₁).calling g' mk As.toArray, t, U', L, hT, X', hL, e1, e2, hq, st⟩
  · dsimp only [Pt.U, Pt.locs, Pt.cells, Pt.slots] at X' e1 e2 h1 h2 h3 st hcl
    subst h1; subst h2; subst h3
    exact Or.inr ⟨q, (T.setVm vm₁).calling g' mk As.toArray, t, U', L, E, ce, hT, X', hL, e1, e2, hq, hce, hcv, vx_cls hW₁ hcl, st⟩
end
end VXH
theorem vx_ofWH {l : Launch} {y : MethodName} {ws ws' : List Cond} {rm : Room} {Pc : Array Value → State → Prop} {Qc : Array Value → State → Outcome → State → Prop} {XC : String → State → State → Prop} {mc ms : Nat} {free : Addr → Prop} {cc : ByteArray} {maxL : Nat} {ret : Option FieldType} {hh : List (Nat × Nat × Nat × Nat)}
    (hy : plainName y.cls = true) (hw : ws = Cond.codeWith y cc maxL ret hh :: ws')
    (body : ∀ p e s m args below meth c s₁, BodyLoose p l y (headSpec ws rm) cc maxL ret e s m args below meth c s₁ → c.maxLocals = maxL → Pc args s →
      W p l e (headSpec ws rm).room s m args below meth c s.heap [] 0 0 (vx_MQ below Qc XC args s mc ms free) (entryFrame m args maxL)) : vx_Met l y ws rm Pc Qc XC mc ms free := by
  refine MetFree.of_bodyS (code := cc) (maxLocals := maxL) (ret := ret) hy ?_ ?_
  · intro args s m h hn
    obtain ⟨m9, meth, c, hn9, h1, h2, h3, h4, -, h5, h6, -⟩ := Cond.codeWith_spec (atoms_spec (ws := ws) h _ (by rw [hw]; exact List.mem_cons_self))
    cases hn.symm.trans hn9
    exact ⟨meth, c, h1, h2, h3, h4, h5, h6⟩
  · intro p e s m args below meth c s₁ B hml hP _
    have hh0 : s₁.heap = s.heap := by rw [B.state]; rfl
    obtain ⟨t, a1, o, b1, b2, b3⟩ := body p e s m args below meth c s₁ B hml hP s₁ hh0 (Stand.of_body B)
    exact ⟨t, o, a1, b1, b2, b3⟩
/-! ===== END ===== -/
end
section
/-! ===== BEGIN printed: names, fields, word lists, decode rows ===== -/
def RX0 : String := "CountSheets$LineRows"
def TX0 : u_T := fun k => match k with
  | 0 => ("CountSheets$LineRows", "persons", "[I", true)
  | 1 => ("CountSheets$LineRows", "first", "[I", true)
  | 2 => ("CountSheets$LineRows", "second", "[I", true)
  | 3 => ("CountSheets$LineRows", "agreement", "[I", true)
  | 4 => ("CountSheets$LineRows", "signature", "[I", true)
  | 5 => ("CountSheets$LineRows", "signedGap", "[I", true)
  | _ => ("CountSheets$LineRows", "signatures", "I", false)
def tyX0 : Nat → FieldType := fun k => match k with
  | 0 => .array .int
  | 1 => .array .int
  | 2 => .array .int
  | 3 => .array .int
  | 4 => .array .int
  | 5 => .array .int
  | _ => .int
abbrev wsX00 : List Cond := u_ws RX0 TX0 7
theorem nmX0 : ∀ a, a < 7 → ∀ b, b < 7 → a ≠ b → (TX0 a).2.1 ≠ (TX0 b).2.1 := by decide +kernel
theorem tyX0_ok : ∀ k, k < 7 → parseFieldDescriptor (TX0 k).2.2.1 = some (tyX0 k) := by decide +kernel
abbrev cX0_init : ByteArray := prog_2_method_1_code
def yX0_init : MethodName := ⟨RX0, "<init>", "()V"⟩
abbrev cX0_countsOn : ByteArray := prog_2_method_2_code
def yX0_countsOn : MethodName := ⟨RX0, "countsOn", "(I)I"⟩
abbrev cX0_isCountedBy : ByteArray := prog_2_method_3_code
def yX0_isCountedBy : MethodName := ⟨RX0, "isCountedBy", "(II)Z"⟩
abbrev cX0_agrees : ByteArray := prog_2_method_4_code
def yX0_agrees : MethodName := ⟨RX0, "agrees", "(I)Z"⟩
abbrev cX0_hasSign : ByteArray := prog_2_method_5_code
def yX0_hasSign : MethodName := ⟨RX0, "hasSign", "(I)Z"⟩
abbrev cX0_add : ByteArray := prog_2_method_6_code
def yX0_add : MethodName := ⟨RX0, "add", "(III)V"⟩
abbrev cX0_middleOf : ByteArray := prog_2_method_7_code
def yX0_middleOf : MethodName := ⟨RX0, "middleOf", "(III)I"⟩
abbrev cX0_write : ByteArray := prog_2_method_8_code
def yX0_write : MethodName := ⟨RX0, "write", "(II)V"⟩
def RX1 : String := "CountSheets$MoveRows"
def TX1 : u_T := fun k => match k with
  | 0 => ("CountSheets$MoveRows", "from", "[I", true)
  | 1 => ("CountSheets$MoveRows", "to", "[I", true)
  | 2 => ("CountSheets$MoveRows", "article", "[I", true)
  | 3 => ("CountSheets$MoveRows", "quantity", "[I", true)
  | 4 => ("CountSheets$MoveRows", "minute", "[I", true)
  | _ => ("CountSheets$MoveRows", "size", "I", false)
def tyX1 : Nat → FieldType := fun k => match k with
  | 0 => .array .int
  | 1 => .array .int
  | 2 => .array .int
  | 3 => .array .int
  | 4 => .array .int
  | _ => .int
abbrev wsX10 : List Cond := u_ws RX1 TX1 6
theorem nmX1 : ∀ a, a < 6 → ∀ b, b < 6 → a ≠ b → (TX1 a).2.1 ≠ (TX1 b).2.1 := by decide +kernel
theorem tyX1_ok : ∀ k, k < 6 → parseFieldDescriptor (TX1 k).2.2.1 = some (tyX1 k) := by decide +kernel
abbrev cX1_init : ByteArray := prog_3_method_1_code
def yX1_init : MethodName := ⟨RX1, "<init>", "()V"⟩
abbrev cX1_add : ByteArray := prog_3_method_2_code
def yX1_add : MethodName := ⟨RX1, "add", "(IIIII)I"⟩
abbrev cX1_brought : ByteArray := prog_3_method_3_code
def yX1_brought : MethodName := ⟨RX1, "brought", "(IIII)I"⟩
def RX2 : String := "CountSheets$SheetRows"
def TX2 : u_T := fun k => match k with
  | 0 => ("CountSheets$SheetRows", "place", "[I", true)
  | 1 => ("CountSheets$SheetRows", "cut", "[I", true)
  | 2 => ("CountSheets$SheetRows", "closed", "[Z", true)
  | _ => ("CountSheets$SheetRows", "size", "I", false)
def tyX2 : Nat → FieldType := fun k => match k with
  | 0 => .array .int
  | 1 => .array .int
  | 2 => .array .boolean
  | _ => .int
abbrev wsX20 : List Cond := u_ws RX2 TX2 4
theorem nmX2 : ∀ a, a < 4 → ∀ b, b < 4 → a ≠ b → (TX2 a).2.1 ≠ (TX2 b).2.1 := by decide +kernel
theorem tyX2_ok : ∀ k, k < 4 → parseFieldDescriptor (TX2 k).2.2.1 = some (tyX2 k) := by decide +kernel
abbrev cX2_init : ByteArray := prog_4_method_1_code
def yX2_init : MethodName := ⟨RX2, "<init>", "()V"⟩
abbrev cX2_add : ByteArray := prog_4_method_2_code
def yX2_add : MethodName := ⟨RX2, "add", "(II)I"⟩
abbrev cX2_isOpenFor : ByteArray := prog_4_method_3_code
def yX2_isOpenFor : MethodName := ⟨RX2, "isOpenFor", "(I)Z"⟩
abbrev cX2_latestFor : ByteArray := prog_4_method_4_code
def yX2_latestFor : MethodName := ⟨RX2, "latestFor", "(I)I"⟩
def RX3 : String := "CountSheets"
def TX3 : u_T := fun k => match k with
  | 0 => ("CountSheets", "prices", "[I", true)
  | 1 => ("CountSheets", "bounds", "[I", true)
  | 2 => ("CountSheets", "moveRows", "LCountSheets$MoveRows;", true)
  | 3 => ("CountSheets", "sheetRows", "LCountSheets$SheetRows;", true)
  | 4 => ("CountSheets", "lineRows", "LCountSheets$LineRows;", true)
  | _ => ("CountSheets", "minuteNow", "I", false)
def tyX3 : Nat → FieldType := fun k => match k with
  | 0 => .array .int
  | 1 => .array .int
  | 2 => .object "CountSheets$MoveRows"
  | 3 => .object "CountSheets$SheetRows"
  | 4 => .object "CountSheets$LineRows"
  | _ => .int
abbrev wsX30 : List Cond := u_ws RX3 TX3 6
theorem nmX3 : ∀ a, a < 6 → ∀ b, b < 6 → a ≠ b → (TX3 a).2.1 ≠ (TX3 b).2.1 := by decide +kernel
theorem tyX3_ok : ∀ k, k < 6 → parseFieldDescriptor (TX3 k).2.2.1 = some (tyX3 k) := by decide +kernel
abbrev cX3_init : ByteArray := prog_1_method_1_code
def yX3_init : MethodName := ⟨RX3, "<init>", "()V"⟩
abbrev cX3_setPrice : ByteArray := prog_1_method_2_code
def yX3_setPrice : MethodName := ⟨RX3, "setPrice", "(II)I"⟩
abbrev cX3_setBound : ByteArray := prog_1_method_3_code
def yX3_setBound : MethodName := ⟨RX3, "setBound", "(II)I"⟩
abbrev cX3_move : ByteArray := prog_1_method_4_code
def yX3_move : MethodName := ⟨RX3, "move", "(IIIII)I"⟩
abbrev cX3_pass : ByteArray := prog_1_method_5_code
def yX3_pass : MethodName := ⟨RX3, "pass", "(I)I"⟩
abbrev cX3_open : ByteArray := prog_1_method_6_code
def yX3_open : MethodName := ⟨RX3, "open", "(I)I"⟩
abbrev cX3_count : ByteArray := prog_1_method_7_code
def yX3_count : MethodName := ⟨RX3, "count", "(IIII)Z"⟩
abbrev cX3_close : ByteArray := prog_1_method_8_code
def yX3_close : MethodName := ⟨RX3, "close", "(I)I"⟩
abbrev cX3_sign : ByteArray := prog_1_method_9_code
def yX3_sign : MethodName := ⟨RX3, "sign", "(III)I"⟩
abbrev cX3_settle : ByteArray := prog_1_method_10_code
def yX3_settle : MethodName := ⟨RX3, "settle", "(III)I"⟩
abbrev cX3_now : ByteArray := prog_1_method_11_code
def yX3_now : MethodName := ⟨RX3, "now", "()I"⟩
abbrev cX3_moves : ByteArray := prog_1_method_12_code
def yX3_moves : MethodName := ⟨RX3, "moves", "()I"⟩
abbrev cX3_book : ByteArray := prog_1_method_13_code
def yX3_book : MethodName := ⟨RX3, "book", "(II)I"⟩
abbrev cX3_bookAt : ByteArray := prog_1_method_14_code
def yX3_bookAt : MethodName := ⟨RX3, "bookAt", "(III)I"⟩
abbrev cX3_worth : ByteArray := prog_1_method_15_code
def yX3_worth : MethodName := ⟨RX3, "worth", "(I)I"⟩
abbrev cX3_suggested : ByteArray := prog_1_method_16_code
def yX3_suggested : MethodName := ⟨RX3, "suggested", "()I"⟩
abbrev cX3_sheets : ByteArray := prog_1_method_17_code
def yX3_sheets : MethodName := ⟨RX3, "sheets", "()I"⟩
abbrev cX3_stateOf : ByteArray := prog_1_method_18_code
def yX3_stateOf : MethodName := ⟨RX3, "stateOf", "(I)I"⟩
abbrev cX3_cutOf : ByteArray := prog_1_method_19_code
def yX3_cutOf : MethodName := ⟨RX3, "cutOf", "(I)I"⟩
abbrev cX3_counts : ByteArray := prog_1_method_20_code
def yX3_counts : MethodName := ⟨RX3, "counts", "(II)I"⟩
abbrev cX3_agreed : ByteArray := prog_1_method_21_code
def yX3_agreed : MethodName := ⟨RX3, "agreed", "(II)I"⟩
abbrev cX3_gap : ByteArray := prog_1_method_22_code
def yX3_gap : MethodName := ⟨RX3, "gap", "(II)I"⟩
abbrev cX3_isSigned : ByteArray := prog_1_method_23_code
def yX3_isSigned : MethodName := ⟨RX3, "isSigned", "(II)Z"⟩
abbrev cX3_likely : ByteArray := prog_1_method_24_code
def yX3_likely : MethodName := ⟨RX3, "likely", "(II)I"⟩
abbrev cX3_exact : ByteArray := prog_1_method_25_code
def yX3_exact : MethodName := ⟨RX3, "exact", "(I)I"⟩
abbrev cX3_checkIndex : ByteArray := prog_1_method_26_code
def yX3_checkIndex : MethodName := ⟨RX3, "checkIndex", "(II)V"⟩
abbrev cX3_checkPlaceOrOutside : ByteArray := prog_1_method_27_code
def yX3_checkPlaceOrOutside : MethodName := ⟨RX3, "checkPlaceOrOutside", "(I)V"⟩
abbrev cX3_checkRange : ByteArray := prog_1_method_28_code
def yX3_checkRange : MethodName := ⟨RX3, "checkRange", "(III)V"⟩
abbrev cX3_checkLine : ByteArray := prog_1_method_29_code
def yX3_checkLine : MethodName := ⟨RX3, "checkLine", "(II)V"⟩
abbrev cX3_checkAgrees : ByteArray := prog_1_method_30_code
def yX3_checkAgrees : MethodName := ⟨RX3, "checkAgrees", "(II)V"⟩
abbrev cX3_lineOf : ByteArray := prog_1_method_31_code
def yX3_lineOf : MethodName := ⟨RX3, "lineOf", "(II)I"⟩
abbrev cX3_bookOf : ByteArray := prog_1_method_32_code
def yX3_bookOf : MethodName := ⟨RX3, "bookOf", "(III)I"⟩
abbrev cX3_signedSheetFor : ByteArray := prog_1_method_33_code
def yX3_signedSheetFor : MethodName := ⟨RX3, "signedSheetFor", "(III)I"⟩
abbrev cX3_isStronger : ByteArray := prog_1_method_34_code
def yX3_isStronger : MethodName := ⟨RX3, "isStronger", "(III)Z"⟩
abbrev cX3_worthOf : ByteArray := prog_1_method_35_code
def yX3_worthOf : MethodName := ⟨RX3, "worthOf", "(I)I"⟩
abbrev cX3_urgencyOf : ByteArray := prog_1_method_36_code
def yX3_urgencyOf : MethodName := ⟨RX3, "urgencyOf", "(I)J"⟩
abbrev cX3_gapOf : ByteArray := prog_1_method_37_code
def yX3_gapOf : MethodName := ⟨RX3, "gapOf", "(II)I"⟩
abbrev cX3_isSignable : ByteArray := prog_1_method_38_code
def yX3_isSignable : MethodName := ⟨RX3, "isSignable", "(II)Z"⟩
abbrev cX3_canBeSettled : ByteArray := prog_1_method_39_code
def yX3_canBeSettled : MethodName := ⟨RX3, "canBeSettled", "(III)Z"⟩
def RX4 : String := "CountSheetsModel"
def TX4 : u_T := fun k => match k with
  | 0 => ("CountSheetsModel", "now", "I", false)
  | 1 => ("CountSheetsModel", "price", "[I", true)
  | 2 => ("CountSheetsModel", "bound", "[I", true)
  | 3 => ("CountSheetsModel", "moves", "I", false)
  | 4 => ("CountSheetsModel", "from", "[I", true)
  | 5 => ("CountSheetsModel", "to", "[I", true)
  | 6 => ("CountSheetsModel", "what", "[I", true)
  | 7 => ("CountSheetsModel", "many", "[I", true)
  | 8 => ("CountSheetsModel", "when", "[I", true)
  | 9 => ("CountSheetsModel", "sheets", "I", false)
  | 10 => ("CountSheetsModel", "place", "[I", true)
  | 11 => ("CountSheetsModel", "cut", "[I", true)
  | 12 => ("CountSheetsModel", "state", "[I", true)
  | 13 => ("CountSheetsModel", "counted", "[I", true)
  | 14 => ("CountSheetsModel", "signed", "[I", true)
  | 15 => ("CountSheetsModel", "gaps", "[I", true)
  | 16 => ("CountSheetsModel", "signings", "I", false)
  | 17 => ("CountSheetsModel", "person", "[I", true)
  | 18 => ("CountSheetsModel", "quantity", "[I", true)
  | _ => ("CountSheetsModel", "thrown", "I", false)
def tyX4 : Nat → FieldType := fun k => match k with
  | 0 => .int
  | 1 => .array .int
  | 2 => .array .int
  | 3 => .int
  | 4 => .array .int
  | 5 => .array .int
  | 6 => .array .int
  | 7 => .array .int
  | 8 => .array .int
  | 9 => .int
  | 10 => .array .int
  | 11 => .array .int
  | 12 => .array .int
  | 13 => .array .int
  | 14 => .array .int
  | 15 => .array .int
  | 16 => .int
  | 17 => .array .int
  | 18 => .array .int
  | _ => .int
abbrev wsX40 : List Cond := u_ws RX4 TX4 20
theorem nmX4 : ∀ a, a < 20 → ∀ b, b < 20 → a ≠ b → (TX4 a).2.1 ≠ (TX4 b).2.1 := by decide +kernel
theorem tyX4_ok : ∀ k, k < 20 → parseFieldDescriptor (TX4 k).2.2.1 = some (tyX4 k) := by decide +kernel
abbrev cX4_init : ByteArray := prog_6_method_1_code
def yX4_init : MethodName := ⟨RX4, "<init>", "()V"⟩
abbrev cX4_thrown : ByteArray := prog_6_method_2_code
def yX4_thrown : MethodName := ⟨RX4, "thrown", "()I"⟩
abbrev cX4_in : ByteArray := prog_6_method_3_code
def yX4_in : MethodName := ⟨RX4, "in", "(III)Z"⟩
abbrev cX4_goes : ByteArray := prog_6_method_4_code
def yX4_goes : MethodName := ⟨RX4, "goes", "(ZZZ)Z"⟩
abbrev cX4_told : ByteArray := prog_6_method_5_code
def yX4_told : MethodName := ⟨RX4, "told", "(I)I"⟩
abbrev cX4_isPlace : ByteArray := prog_6_method_6_code
def yX4_isPlace : MethodName := ⟨RX4, "isPlace", "(I)Z"⟩
abbrev cX4_isArticle : ByteArray := prog_6_method_7_code
def yX4_isArticle : MethodName := ⟨RX4, "isArticle", "(I)Z"⟩
abbrev cX4_isSheet : ByteArray := prog_6_method_8_code
def yX4_isSheet : MethodName := ⟨RX4, "isSheet", "(I)Z"⟩
abbrev cX4_setPrice : ByteArray := prog_6_method_9_code
def yX4_setPrice : MethodName := ⟨RX4, "setPrice", "(II)I"⟩
abbrev cX4_setBound : ByteArray := prog_6_method_10_code
def yX4_setBound : MethodName := ⟨RX4, "setBound", "(II)I"⟩
abbrev cX4_move : ByteArray := prog_6_method_11_code
def yX4_move : MethodName := ⟨RX4, "move", "(IIIII)I"⟩
abbrev cX4_pass : ByteArray := prog_6_method_12_code
def yX4_pass : MethodName := ⟨RX4, "pass", "(I)I"⟩
abbrev cX4_at : ByteArray := prog_6_method_13_code
def yX4_at : MethodName := ⟨RX4, "at", "(II)I"⟩
abbrev cX4_agree : ByteArray := prog_6_method_14_code
def yX4_agree : MethodName := ⟨RX4, "agree", "(I)I"⟩
abbrev cX4_bookOf : ByteArray := prog_6_method_15_code
def yX4_bookOf : MethodName := ⟨RX4, "bookOf", "(III)I"⟩
abbrev cX4_hasOpen : ByteArray := prog_6_method_16_code
def yX4_hasOpen : MethodName := ⟨RX4, "hasOpen", "(I)Z"⟩
abbrev cX4_open : ByteArray := prog_6_method_17_code
def yX4_open : MethodName := ⟨RX4, "open", "(I)I"⟩
abbrev cX4_hasCounted : ByteArray := prog_6_method_18_code
def yX4_hasCounted : MethodName := ⟨RX4, "hasCounted", "(II)Z"⟩
abbrev cX4_count : ByteArray := prog_6_method_19_code
def yX4_count : MethodName := ⟨RX4, "count", "(IIII)Z"⟩
abbrev cX4_close : ByteArray := prog_6_method_20_code
def yX4_close : MethodName := ⟨RX4, "close", "(I)I"⟩
abbrev cX4_agrees : ByteArray := prog_6_method_21_code
def yX4_agrees : MethodName := ⟨RX4, "agrees", "(II)Z"⟩
abbrev cX4_gapOf : ByteArray := prog_6_method_22_code
def yX4_gapOf : MethodName := ⟨RX4, "gapOf", "(II)I"⟩
abbrev cX4_signs : ByteArray := prog_6_method_23_code
def yX4_signs : MethodName := ⟨RX4, "signs", "(III)V"⟩
abbrev cX4_sign : ByteArray := prog_6_method_24_code
def yX4_sign : MethodName := ⟨RX4, "sign", "(III)I"⟩
abbrev cX4_canSettle : ByteArray := prog_6_method_25_code
def yX4_canSettle : MethodName := ⟨RX4, "canSettle", "(III)Z"⟩
abbrev cX4_settle : ByteArray := prog_6_method_26_code
def yX4_settle : MethodName := ⟨RX4, "settle", "(III)I"⟩
abbrev cX4_now : ByteArray := prog_6_method_27_code
def yX4_now : MethodName := ⟨RX4, "now", "()I"⟩
abbrev cX4_moves : ByteArray := prog_6_method_28_code
def yX4_moves : MethodName := ⟨RX4, "moves", "()I"⟩
abbrev cX4_book : ByteArray := prog_6_method_29_code
def yX4_book : MethodName := ⟨RX4, "book", "(II)I"⟩
abbrev cX4_bookAt : ByteArray := prog_6_method_30_code
def yX4_bookAt : MethodName := ⟨RX4, "bookAt", "(III)I"⟩
abbrev cX4_worthOf : ByteArray := prog_6_method_31_code
def yX4_worthOf : MethodName := ⟨RX4, "worthOf", "(I)I"⟩
abbrev cX4_worth : ByteArray := prog_6_method_32_code
def yX4_worth : MethodName := ⟨RX4, "worth", "(I)I"⟩
abbrev cX4_suggested : ByteArray := prog_6_method_33_code
def yX4_suggested : MethodName := ⟨RX4, "suggested", "()I"⟩
abbrev cX4_sheets : ByteArray := prog_6_method_34_code
def yX4_sheets : MethodName := ⟨RX4, "sheets", "()I"⟩
abbrev cX4_stateOf : ByteArray := prog_6_method_35_code
def yX4_stateOf : MethodName := ⟨RX4, "stateOf", "(I)I"⟩
abbrev cX4_cutOf : ByteArray := prog_6_method_36_code
def yX4_cutOf : MethodName := ⟨RX4, "cutOf", "(I)I"⟩
abbrev cX4_counts : ByteArray := prog_6_method_37_code
def yX4_counts : MethodName := ⟨RX4, "counts", "(II)I"⟩
abbrev cX4_agreed : ByteArray := prog_6_method_38_code
def yX4_agreed : MethodName := ⟨RX4, "agreed", "(II)I"⟩
abbrev cX4_gap : ByteArray := prog_6_method_39_code
def yX4_gap : MethodName := ⟨RX4, "gap", "(II)I"⟩
abbrev cX4_isSigned : ByteArray := prog_6_method_40_code
def yX4_isSigned : MethodName := ⟨RX4, "isSigned", "(II)Z"⟩
abbrev cX4_likely : ByteArray := prog_6_method_41_code
def yX4_likely : MethodName := ⟨RX4, "likely", "(II)I"⟩
abbrev cX4_exact : ByteArray := prog_6_method_42_code
def yX4_exact : MethodName := ⟨RX4, "exact", "(I)I"⟩
def RJx145de : String := "java/io/Serializable"
def TJx145de : u_T := fun k => match k with
  | _ => ("", "", "", false)
def tyJx145de : Nat → FieldType := fun k => match k with
  | _ => .int
abbrev wsJx145de0 : List Cond := u_ws RJx145de TJx145de 0
theorem nmJx145de : ∀ a, a < 0 → ∀ b, b < 0 → a ≠ b → (TJx145de a).2.1 ≠ (TJx145de b).2.1 := by decide +kernel
theorem tyJx145de_ok : ∀ k, k < 0 → parseFieldDescriptor (TJx145de k).2.2.1 = some (tyJx145de k) := by decide +kernel
def RJ6 : String := "java/lang/Integer"
def TJ6 : u_T := fun k => match k with
  | _ => ("", "", "", false)
def tyJ6 : Nat → FieldType := fun k => match k with
  | _ => .int
abbrev wsJ60 : List Cond := u_ws RJ6 TJ6 0
theorem nmJ6 : ∀ a, a < 0 → ∀ b, b < 0 → a ≠ b → (TJ6 a).2.1 ≠ (TJ6 b).2.1 := by decide +kernel
theorem tyJ6_ok : ∀ k, k < 0 → parseFieldDescriptor (TJ6 k).2.2.1 = some (tyJ6 k) := by decide +kernel
abbrev cJ6_bitCount_0f7a4 : ByteArray := prog_12_method_49_code
def yJ6_bitCount_0f7a4 : MethodName := ⟨RJ6, "bitCount", "(I)I"⟩
def RJ9 : String := "java/lang/Math"
def TJ9 : u_T := fun k => match k with
  | _ => ("", "", "", false)
def tyJ9 : Nat → FieldType := fun k => match k with
  | _ => .int
abbrev wsJ90 : List Cond := u_ws RJ9 TJ9 0
theorem nmJ9 : ∀ a, a < 0 → ∀ b, b < 0 → a ≠ b → (TJ9 a).2.1 ≠ (TJ9 b).2.1 := by decide +kernel
theorem tyJ9_ok : ∀ k, k < 0 → parseFieldDescriptor (TJ9 k).2.2.1 = some (tyJ9 k) := by decide +kernel
abbrev cJ9_abs_0f7a4 : ByteArray := prog_13_method_59_code
def yJ9_abs_0f7a4 : MethodName := ⟨RJ9, "abs", "(I)I"⟩
abbrev cJ9_max_7cf53 : ByteArray := prog_13_method_65_code
def yJ9_max_7cf53 : MethodName := ⟨RJ9, "max", "(II)I"⟩
abbrev cJ9_min_7cf53 : ByteArray := prog_13_method_69_code
def yJ9_min_7cf53 : MethodName := ⟨RJ9, "min", "(II)I"⟩
def RJ0 : String := "java/lang/String"
def TJ0 : u_T := fun k => match k with
  | _ => ("", "", "", false)
def tyJ0 : Nat → FieldType := fun k => match k with
  | _ => .int
abbrev wsJ00 : List Cond := u_ws RJ0 TJ0 0
theorem nmJ0 : ∀ a, a < 0 → ∀ b, b < 0 → a ≠ b → (TJ0 a).2.1 ≠ (TJ0 b).2.1 := by decide +kernel
theorem tyJ0_ok : ∀ k, k < 0 → parseFieldDescriptor (TJ0 k).2.2.1 = some (tyJ0 k) := by decide +kernel
def RJ7 : String := "java/util/Arrays"
def TJ7 : u_T := fun k => match k with
  | _ => ("", "", "", false)
def tyJ7 : Nat → FieldType := fun k => match k with
  | _ => .int
abbrev wsJ70 : List Cond := u_ws RJ7 TJ7 0
theorem nmJ7 : ∀ a, a < 0 → ∀ b, b < 0 → a ≠ b → (TJ7 a).2.1 ≠ (TJ7 b).2.1 := by decide +kernel
theorem tyJ7_ok : ∀ k, k < 0 → parseFieldDescriptor (TJ7 k).2.2.1 = some (tyJ7 k) := by decide +kernel
abbrev cJ7_fill_53178 : ByteArray := prog_17_method_103_code
def yJ7_fill_53178 : MethodName := ⟨RJ7, "fill", "([II)V"⟩
def RL : String := "CountSheetsLaw"
abbrev cL_setPrice : ByteArray := method_3_code
def yL_setPrice : MethodName := ⟨RL, "setPrice", "(LCountSheets;II[J)I"⟩
abbrev cL_setBound : ByteArray := method_4_code
def yL_setBound : MethodName := ⟨RL, "setBound", "(LCountSheets;II[J)I"⟩
abbrev cL_move : ByteArray := method_5_code
def yL_move : MethodName := ⟨RL, "move", "(LCountSheets;IIIII[J)I"⟩
abbrev cL_pass : ByteArray := method_6_code
def yL_pass : MethodName := ⟨RL, "pass", "(LCountSheets;I[J)I"⟩
abbrev cL_open : ByteArray := method_7_code
def yL_open : MethodName := ⟨RL, "open", "(LCountSheets;I[J)I"⟩
abbrev cL_count : ByteArray := method_8_code
def yL_count : MethodName := ⟨RL, "count", "(LCountSheets;IIII[J)I"⟩
abbrev cL_close : ByteArray := method_9_code
def yL_close : MethodName := ⟨RL, "close", "(LCountSheets;I[J)I"⟩
abbrev cL_sign : ByteArray := method_10_code
def yL_sign : MethodName := ⟨RL, "sign", "(LCountSheets;III[J)I"⟩
abbrev cL_settle : ByteArray := method_11_code
def yL_settle : MethodName := ⟨RL, "settle", "(LCountSheets;III[J)I"⟩
abbrev cL_book : ByteArray := method_12_code
def yL_book : MethodName := ⟨RL, "book", "(LCountSheets;II[J)I"⟩
abbrev cL_bookAt : ByteArray := method_13_code
def yL_bookAt : MethodName := ⟨RL, "bookAt", "(LCountSheets;III[J)I"⟩
abbrev cL_worth : ByteArray := method_14_code
def yL_worth : MethodName := ⟨RL, "worth", "(LCountSheets;I[J)I"⟩
abbrev cL_stateOf : ByteArray := method_15_code
def yL_stateOf : MethodName := ⟨RL, "stateOf", "(LCountSheets;I[J)I"⟩
abbrev cL_cutOf : ByteArray := method_16_code
def yL_cutOf : MethodName := ⟨RL, "cutOf", "(LCountSheets;I[J)I"⟩
abbrev cL_counts : ByteArray := method_17_code
def yL_counts : MethodName := ⟨RL, "counts", "(LCountSheets;II[J)I"⟩
abbrev cL_agreed : ByteArray := method_18_code
def yL_agreed : MethodName := ⟨RL, "agreed", "(LCountSheets;II[J)I"⟩
abbrev cL_gap : ByteArray := method_19_code
def yL_gap : MethodName := ⟨RL, "gap", "(LCountSheets;II[J)I"⟩
abbrev cL_isSigned : ByteArray := method_20_code
def yL_isSigned : MethodName := ⟨RL, "isSigned", "(LCountSheets;II[J)I"⟩
abbrev cL_likely : ByteArray := method_21_code
def yL_likely : MethodName := ⟨RL, "likely", "(LCountSheets;II[J)I"⟩
abbrev cL_exact : ByteArray := method_22_code
def yL_exact : MethodName := ⟨RL, "exact", "(LCountSheets;I[J)I"⟩
abbrev cL_law : ByteArray := code
def yL_law : MethodName := ⟨RL, "law", "([I)Z"⟩
end
section
theorem dX0_init_0 : decode cX0_init 0 = .ok (.aload_n 0, 1) := by decide +kernel
theorem dX0_init_1 : decode cX0_init 1 = .ok (.invokespecial 3, 3) := by decide +kernel
theorem dX0_init_4 : decode cX0_init 4 = .ok (.aload_n 0, 1) := by decide +kernel
theorem dX0_init_5 : decode cX0_init 5 = .ok (.sipush 200, 3) := by decide +kernel
theorem dX0_init_8 : decode cX0_init 8 = .ok (.newarray .int, 2) := by decide +kernel
theorem dX0_init_10 : decode cX0_init 10 = .ok (.putfield 11, 3) := by decide +kernel
theorem dX0_init_13 : decode cX0_init 13 = .ok (.aload_n 0, 1) := by decide +kernel
theorem dX0_init_14 : decode cX0_init 14 = .ok (.sipush 200, 3) := by decide +kernel
theorem dX0_init_17 : decode cX0_init 17 = .ok (.newarray .int, 2) := by decide +kernel
theorem dX0_init_19 : decode cX0_init 19 = .ok (.putfield 15, 3) := by decide +kernel
theorem dX0_init_22 : decode cX0_init 22 = .ok (.aload_n 0, 1) := by decide +kernel
theorem dX0_init_23 : decode cX0_init 23 = .ok (.sipush 200, 3) := by decide +kernel
theorem dX0_init_26 : decode cX0_init 26 = .ok (.newarray .int, 2) := by decide +kernel
theorem dX0_init_28 : decode cX0_init 28 = .ok (.putfield 18, 3) := by decide +kernel
theorem dX0_init_31 : decode cX0_init 31 = .ok (.aload_n 0, 1) := by decide +kernel
theorem dX0_init_32 : decode cX0_init 32 = .ok (.sipush 200, 3) := by decide +kernel
theorem dX0_init_35 : decode cX0_init 35 = .ok (.newarray .int, 2) := by decide +kernel
theorem dX0_init_37 : decode cX0_init 37 = .ok (.putfield 21, 3) := by decide +kernel
theorem dX0_init_40 : decode cX0_init 40 = .ok (.aload_n 0, 1) := by decide +kernel
theorem dX0_init_41 : decode cX0_init 41 = .ok (.sipush 200, 3) := by decide +kernel
theorem dX0_init_44 : decode cX0_init 44 = .ok (.newarray .int, 2) := by decide +kernel
theorem dX0_init_46 : decode cX0_init 46 = .ok (.putfield 24, 3) := by decide +kernel
theorem dX0_init_49 : decode cX0_init 49 = .ok (.aload_n 0, 1) := by decide +kernel
theorem dX0_init_50 : decode cX0_init 50 = .ok (.sipush 200, 3) := by decide +kernel
theorem dX0_init_53 : decode cX0_init 53 = .ok (.newarray .int, 2) := by decide +kernel
theorem dX0_init_55 : decode cX0_init 55 = .ok (.putfield 27, 3) := by decide +kernel
theorem dX0_init_58 : decode cX0_init 58 = .ok (.aload_n 0, 1) := by decide +kernel
theorem dX0_init_59 : decode cX0_init 59 = .ok (.iconst 0, 1) := by decide +kernel
theorem dX0_init_60 : decode cX0_init 60 = .ok (.putfield 30, 3) := by decide +kernel
theorem dX0_init_63 : decode cX0_init 63 = .ok (.aload_n 0, 1) := by decide +kernel
theorem dX0_init_64 : decode cX0_init 64 = .ok (.getfield 21, 3) := by decide +kernel
theorem dX0_init_67 : decode cX0_init 67 = .ok (.iconst (-1), 1) := by decide +kernel
theorem dX0_init_68 : decode cX0_init 68 = .ok (.invokestatic 34, 3) := by decide +kernel
theorem dX0_init_71 : decode cX0_init 71 = .ok (.return_, 1) := by decide +kernel
theorem dX0_countsOn_0 : decode cX0_countsOn 0 = .ok (.aload_n 0, 1) := by decide +kernel
theorem dX0_countsOn_1 : decode cX0_countsOn 1 = .ok (.getfield 11, 3) := by decide +kernel
theorem dX0_countsOn_4 : decode cX0_countsOn 4 = .ok (.iload_n 1, 1) := by decide +kernel
theorem dX0_countsOn_5 : decode cX0_countsOn 5 = .ok (.iaload, 1) := by decide +kernel
theorem dX0_countsOn_6 : decode cX0_countsOn 6 = .ok (.invokestatic 40, 3) := by decide +kernel
theorem dX0_countsOn_9 : decode cX0_countsOn 9 = .ok (.ireturn, 1) := by decide +kernel
theorem dX0_isCountedBy_0 : decode cX0_isCountedBy 0 = .ok (.aload_n 0, 1) := by decide +kernel
theorem dX0_isCountedBy_1 : decode cX0_isCountedBy 1 = .ok (.getfield 11, 3) := by decide +kernel
theorem dX0_isCountedBy_4 : decode cX0_isCountedBy 4 = .ok (.iload_n 1, 1) := by decide +kernel
theorem dX0_isCountedBy_5 : decode cX0_isCountedBy 5 = .ok (.iaload, 1) := by decide +kernel
theorem dX0_isCountedBy_6 : decode cX0_isCountedBy 6 = .ok (.iconst 1, 1) := by decide +kernel
theorem dX0_isCountedBy_7 : decode cX0_isCountedBy 7 = .ok (.iload_n 2, 1) := by decide +kernel
theorem dX0_isCountedBy_8 : decode cX0_isCountedBy 8 = .ok (.ishl, 1) := by decide +kernel
theorem dX0_isCountedBy_9 : decode cX0_isCountedBy 9 = .ok (.iand, 1) := by decide +kernel
theorem dX0_isCountedBy_10 : decode cX0_isCountedBy 10 = .ok (.ifCond .eq 7, 3) := by decide +kernel
theorem dX0_isCountedBy_13 : decode cX0_isCountedBy 13 = .ok (.iconst 1, 1) := by decide +kernel
theorem dX0_isCountedBy_14 : decode cX0_isCountedBy 14 = .ok (.goto 4, 3) := by decide +kernel
theorem dX0_isCountedBy_17 : decode cX0_isCountedBy 17 = .ok (.iconst 0, 1) := by decide +kernel
theorem dX0_isCountedBy_18 : decode cX0_isCountedBy 18 = .ok (.ireturn, 1) := by decide +kernel
theorem dX0_agrees_0 : decode cX0_agrees 0 = .ok (.aload_n 0, 1) := by decide +kernel
theorem dX0_agrees_1 : decode cX0_agrees 1 = .ok (.getfield 21, 3) := by decide +kernel
theorem dX0_agrees_4 : decode cX0_agrees 4 = .ok (.iload_n 1, 1) := by decide +kernel
theorem dX0_agrees_5 : decode cX0_agrees 5 = .ok (.iaload, 1) := by decide +kernel
theorem dX0_agrees_6 : decode cX0_agrees 6 = .ok (.iconst (-1), 1) := by decide +kernel
theorem dX0_agrees_7 : decode cX0_agrees 7 = .ok (.if_icmp .eq 7, 3) := by decide +kernel
theorem dX0_agrees_10 : decode cX0_agrees 10 = .ok (.iconst 1, 1) := by decide +kernel
theorem dX0_agrees_11 : decode cX0_agrees 11 = .ok (.goto 4, 3) := by decide +kernel
theorem dX0_agrees_14 : decode cX0_agrees 14 = .ok (.iconst 0, 1) := by decide +kernel
theorem dX0_agrees_15 : decode cX0_agrees 15 = .ok (.ireturn, 1) := by decide +kernel
theorem dX0_hasSign_0 : decode cX0_hasSign 0 = .ok (.aload_n 0, 1) := by decide +kernel
theorem dX0_hasSign_1 : decode cX0_hasSign 1 = .ok (.getfield 24, 3) := by decide +kernel
theorem dX0_hasSign_4 : decode cX0_hasSign 4 = .ok (.iload_n 1, 1) := by decide +kernel
theorem dX0_hasSign_5 : decode cX0_hasSign 5 = .ok (.iaload, 1) := by decide +kernel
theorem dX0_hasSign_6 : decode cX0_hasSign 6 = .ok (.ifCond .eq 7, 3) := by decide +kernel
theorem dX0_hasSign_9 : decode cX0_hasSign 9 = .ok (.iconst 1, 1) := by decide +kernel
theorem dX0_hasSign_10 : decode cX0_hasSign 10 = .ok (.goto 4, 3) := by decide +kernel
theorem dX0_hasSign_13 : decode cX0_hasSign 13 = .ok (.iconst 0, 1) := by decide +kernel
theorem dX0_hasSign_14 : decode cX0_hasSign 14 = .ok (.ireturn, 1) := by decide +kernel
theorem dX0_add_0 : decode cX0_add 0 = .ok (.aload_n 0, 1) := by decide +kernel
theorem dX0_add_1 : decode cX0_add 1 = .ok (.iload_n 1, 1) := by decide +kernel
theorem dX0_add_2 : decode cX0_add 2 = .ok (.invokevirtual 46, 3) := by decide +kernel
theorem dX0_add_5 : decode cX0_add 5 = .ok (.istore 4, 2) := by decide +kernel
theorem dX0_add_7 : decode cX0_add 7 = .ok (.iload 4, 2) := by decide +kernel
theorem dX0_add_9 : decode cX0_add 9 = .ok (.ifCond .ne 13, 3) := by decide +kernel
theorem dX0_add_12 : decode cX0_add 12 = .ok (.aload_n 0, 1) := by decide +kernel
theorem dX0_add_13 : decode cX0_add 13 = .ok (.getfield 15, 3) := by decide +kernel
theorem dX0_add_16 : decode cX0_add 16 = .ok (.iload_n 1, 1) := by decide +kernel
theorem dX0_add_17 : decode cX0_add 17 = .ok (.iload_n 3, 1) := by decide +kernel
theorem dX0_add_18 : decode cX0_add 18 = .ok (.iastore, 1) := by decide +kernel
theorem dX0_add_19 : decode cX0_add 19 = .ok (.goto 62, 3) := by decide +kernel
theorem dX0_add_22 : decode cX0_add 22 = .ok (.iload 4, 2) := by decide +kernel
theorem dX0_add_24 : decode cX0_add 24 = .ok (.iconst 1, 1) := by decide +kernel
theorem dX0_add_25 : decode cX0_add 25 = .ok (.if_icmp .ne 34, 3) := by decide +kernel
theorem dX0_add_28 : decode cX0_add 28 = .ok (.aload_n 0, 1) := by decide +kernel
theorem dX0_add_29 : decode cX0_add 29 = .ok (.getfield 18, 3) := by decide +kernel
theorem dX0_add_32 : decode cX0_add 32 = .ok (.iload_n 1, 1) := by decide +kernel
theorem dX0_add_33 : decode cX0_add 33 = .ok (.iload_n 3, 1) := by decide +kernel
theorem dX0_add_34 : decode cX0_add 34 = .ok (.iastore, 1) := by decide +kernel
theorem dX0_add_35 : decode cX0_add 35 = .ok (.aload_n 0, 1) := by decide +kernel
theorem dX0_add_36 : decode cX0_add 36 = .ok (.getfield 21, 3) := by decide +kernel
theorem dX0_add_39 : decode cX0_add 39 = .ok (.iload_n 1, 1) := by decide +kernel
theorem dX0_add_40 : decode cX0_add 40 = .ok (.aload_n 0, 1) := by decide +kernel
theorem dX0_add_41 : decode cX0_add 41 = .ok (.getfield 15, 3) := by decide +kernel
theorem dX0_add_44 : decode cX0_add 44 = .ok (.iload_n 1, 1) := by decide +kernel
theorem dX0_add_45 : decode cX0_add 45 = .ok (.iaload, 1) := by decide +kernel
theorem dX0_add_46 : decode cX0_add 46 = .ok (.iload_n 3, 1) := by decide +kernel
theorem dX0_add_47 : decode cX0_add 47 = .ok (.if_icmp .ne 7, 3) := by decide +kernel
theorem dX0_add_50 : decode cX0_add 50 = .ok (.iload_n 3, 1) := by decide +kernel
theorem dX0_add_51 : decode cX0_add 51 = .ok (.goto 4, 3) := by decide +kernel
theorem dX0_add_54 : decode cX0_add 54 = .ok (.iconst (-1), 1) := by decide +kernel
theorem dX0_add_55 : decode cX0_add 55 = .ok (.iastore, 1) := by decide +kernel
theorem dX0_add_56 : decode cX0_add 56 = .ok (.goto 25, 3) := by decide +kernel
theorem dX0_add_59 : decode cX0_add 59 = .ok (.aload_n 0, 1) := by decide +kernel
theorem dX0_add_60 : decode cX0_add 60 = .ok (.getfield 21, 3) := by decide +kernel
theorem dX0_add_63 : decode cX0_add 63 = .ok (.iload_n 1, 1) := by decide +kernel
theorem dX0_add_64 : decode cX0_add 64 = .ok (.aload_n 0, 1) := by decide +kernel
theorem dX0_add_65 : decode cX0_add 65 = .ok (.getfield 15, 3) := by decide +kernel
theorem dX0_add_68 : decode cX0_add 68 = .ok (.iload_n 1, 1) := by decide +kernel
theorem dX0_add_69 : decode cX0_add 69 = .ok (.iaload, 1) := by decide +kernel
theorem dX0_add_70 : decode cX0_add 70 = .ok (.aload_n 0, 1) := by decide +kernel
theorem dX0_add_71 : decode cX0_add 71 = .ok (.getfield 18, 3) := by decide +kernel
theorem dX0_add_74 : decode cX0_add 74 = .ok (.iload_n 1, 1) := by decide +kernel
theorem dX0_add_75 : decode cX0_add 75 = .ok (.iaload, 1) := by decide +kernel
theorem dX0_add_76 : decode cX0_add 76 = .ok (.iload_n 3, 1) := by decide +kernel
theorem dX0_add_77 : decode cX0_add 77 = .ok (.invokestatic 49, 3) := by decide +kernel
theorem dX0_add_80 : decode cX0_add 80 = .ok (.iastore, 1) := by decide +kernel
theorem dX0_add_81 : decode cX0_add 81 = .ok (.aload_n 0, 1) := by decide +kernel
theorem dX0_add_82 : decode cX0_add 82 = .ok (.getfield 11, 3) := by decide +kernel
theorem dX0_add_85 : decode cX0_add 85 = .ok (.iload_n 1, 1) := by decide +kernel
theorem dX0_add_86 : decode cX0_add 86 = .ok (.dup2, 1) := by decide +kernel
theorem dX0_add_87 : decode cX0_add 87 = .ok (.iaload, 1) := by decide +kernel
theorem dX0_add_88 : decode cX0_add 88 = .ok (.iconst 1, 1) := by decide +kernel
theorem dX0_add_89 : decode cX0_add 89 = .ok (.iload_n 2, 1) := by decide +kernel
theorem dX0_add_90 : decode cX0_add 90 = .ok (.ishl, 1) := by decide +kernel
theorem dX0_add_91 : decode cX0_add 91 = .ok (.ior, 1) := by decide +kernel
theorem dX0_add_92 : decode cX0_add 92 = .ok (.iastore, 1) := by decide +kernel
theorem dX0_add_93 : decode cX0_add 93 = .ok (.return_, 1) := by decide +kernel
theorem dX0_middleOf_0 : decode cX0_middleOf 0 = .ok (.iload_n 0, 1) := by decide +kernel
theorem dX0_middleOf_1 : decode cX0_middleOf 1 = .ok (.iload_n 1, 1) := by decide +kernel
theorem dX0_middleOf_2 : decode cX0_middleOf 2 = .ok (.invokestatic 53, 3) := by decide +kernel
theorem dX0_middleOf_5 : decode cX0_middleOf 5 = .ok (.iload_n 0, 1) := by decide +kernel
theorem dX0_middleOf_6 : decode cX0_middleOf 6 = .ok (.iload_n 1, 1) := by decide +kernel
theorem dX0_middleOf_7 : decode cX0_middleOf 7 = .ok (.invokestatic 59, 3) := by decide +kernel
theorem dX0_middleOf_10 : decode cX0_middleOf 10 = .ok (.iload_n 2, 1) := by decide +kernel
theorem dX0_middleOf_11 : decode cX0_middleOf 11 = .ok (.invokestatic 53, 3) := by decide +kernel
theorem dX0_middleOf_14 : decode cX0_middleOf 14 = .ok (.invokestatic 59, 3) := by decide +kernel
theorem dX0_middleOf_17 : decode cX0_middleOf 17 = .ok (.ireturn, 1) := by decide +kernel
theorem dX0_write_0 : decode cX0_write 0 = .ok (.aload_n 0, 1) := by decide +kernel
theorem dX0_write_1 : decode cX0_write 1 = .ok (.dup, 1) := by decide +kernel
theorem dX0_write_2 : decode cX0_write 2 = .ok (.getfield 30, 3) := by decide +kernel
theorem dX0_write_5 : decode cX0_write 5 = .ok (.iconst 1, 1) := by decide +kernel
theorem dX0_write_6 : decode cX0_write 6 = .ok (.iadd, 1) := by decide +kernel
theorem dX0_write_7 : decode cX0_write 7 = .ok (.putfield 30, 3) := by decide +kernel
theorem dX0_write_10 : decode cX0_write 10 = .ok (.aload_n 0, 1) := by decide +kernel
theorem dX0_write_11 : decode cX0_write 11 = .ok (.getfield 24, 3) := by decide +kernel
theorem dX0_write_14 : decode cX0_write 14 = .ok (.iload_n 1, 1) := by decide +kernel
theorem dX0_write_15 : decode cX0_write 15 = .ok (.aload_n 0, 1) := by decide +kernel
theorem dX0_write_16 : decode cX0_write 16 = .ok (.getfield 30, 3) := by decide +kernel
theorem dX0_write_19 : decode cX0_write 19 = .ok (.iastore, 1) := by decide +kernel
theorem dX0_write_20 : decode cX0_write 20 = .ok (.aload_n 0, 1) := by decide +kernel
theorem dX0_write_21 : decode cX0_write 21 = .ok (.getfield 27, 3) := by decide +kernel
theorem dX0_write_24 : decode cX0_write 24 = .ok (.iload_n 1, 1) := by decide +kernel
theorem dX0_write_25 : decode cX0_write 25 = .ok (.iload_n 2, 1) := by decide +kernel
theorem dX0_write_26 : decode cX0_write 26 = .ok (.iastore, 1) := by decide +kernel
theorem dX0_write_27 : decode cX0_write 27 = .ok (.return_, 1) := by decide +kernel
theorem dX1_init_0 : decode cX1_init 0 = .ok (.aload_n 0, 1) := by decide +kernel
theorem dX1_init_1 : decode cX1_init 1 = .ok (.invokespecial 3, 3) := by decide +kernel
theorem dX1_init_4 : decode cX1_init 4 = .ok (.aload_n 0, 1) := by decide +kernel
theorem dX1_init_5 : decode cX1_init 5 = .ok (.sipush 200, 3) := by decide +kernel
theorem dX1_init_8 : decode cX1_init 8 = .ok (.newarray .int, 2) := by decide +kernel
theorem dX1_init_10 : decode cX1_init 10 = .ok (.putfield 9, 3) := by decide +kernel
theorem dX1_init_13 : decode cX1_init 13 = .ok (.aload_n 0, 1) := by decide +kernel
theorem dX1_init_14 : decode cX1_init 14 = .ok (.sipush 200, 3) := by decide +kernel
theorem dX1_init_17 : decode cX1_init 17 = .ok (.newarray .int, 2) := by decide +kernel
theorem dX1_init_19 : decode cX1_init 19 = .ok (.putfield 15, 3) := by decide +kernel
theorem dX1_init_22 : decode cX1_init 22 = .ok (.aload_n 0, 1) := by decide +kernel
theorem dX1_init_23 : decode cX1_init 23 = .ok (.sipush 200, 3) := by decide +kernel
theorem dX1_init_26 : decode cX1_init 26 = .ok (.newarray .int, 2) := by decide +kernel
theorem dX1_init_28 : decode cX1_init 28 = .ok (.putfield 18, 3) := by decide +kernel
theorem dX1_init_31 : decode cX1_init 31 = .ok (.aload_n 0, 1) := by decide +kernel
theorem dX1_init_32 : decode cX1_init 32 = .ok (.sipush 200, 3) := by decide +kernel
theorem dX1_init_35 : decode cX1_init 35 = .ok (.newarray .int, 2) := by decide +kernel
theorem dX1_init_37 : decode cX1_init 37 = .ok (.putfield 21, 3) := by decide +kernel
theorem dX1_init_40 : decode cX1_init 40 = .ok (.aload_n 0, 1) := by decide +kernel
theorem dX1_init_41 : decode cX1_init 41 = .ok (.sipush 200, 3) := by decide +kernel
theorem dX1_init_44 : decode cX1_init 44 = .ok (.newarray .int, 2) := by decide +kernel
theorem dX1_init_46 : decode cX1_init 46 = .ok (.putfield 24, 3) := by decide +kernel
theorem dX1_init_49 : decode cX1_init 49 = .ok (.aload_n 0, 1) := by decide +kernel
theorem dX1_init_50 : decode cX1_init 50 = .ok (.iconst 0, 1) := by decide +kernel
theorem dX1_init_51 : decode cX1_init 51 = .ok (.putfield 27, 3) := by decide +kernel
theorem dX1_init_54 : decode cX1_init 54 = .ok (.return_, 1) := by decide +kernel
theorem dX1_add_0 : decode cX1_add 0 = .ok (.aload_n 0, 1) := by decide +kernel
theorem dX1_add_1 : decode cX1_add 1 = .ok (.getfield 27, 3) := by decide +kernel
theorem dX1_add_4 : decode cX1_add 4 = .ok (.istore 6, 2) := by decide +kernel
theorem dX1_add_6 : decode cX1_add 6 = .ok (.aload_n 0, 1) := by decide +kernel
theorem dX1_add_7 : decode cX1_add 7 = .ok (.getfield 9, 3) := by decide +kernel
theorem dX1_add_10 : decode cX1_add 10 = .ok (.iload 6, 2) := by decide +kernel
theorem dX1_add_12 : decode cX1_add 12 = .ok (.iload_n 1, 1) := by decide +kernel
theorem dX1_add_13 : decode cX1_add 13 = .ok (.iastore, 1) := by decide +kernel
theorem dX1_add_14 : decode cX1_add 14 = .ok (.aload_n 0, 1) := by decide +kernel
theorem dX1_add_15 : decode cX1_add 15 = .ok (.getfield 15, 3) := by decide +kernel
theorem dX1_add_18 : decode cX1_add 18 = .ok (.iload 6, 2) := by decide +kernel
theorem dX1_add_20 : decode cX1_add 20 = .ok (.iload_n 2, 1) := by decide +kernel
theorem dX1_add_21 : decode cX1_add 21 = .ok (.iastore, 1) := by decide +kernel
theorem dX1_add_22 : decode cX1_add 22 = .ok (.aload_n 0, 1) := by decide +kernel
theorem dX1_add_23 : decode cX1_add 23 = .ok (.getfield 18, 3) := by decide +kernel
theorem dX1_add_26 : decode cX1_add 26 = .ok (.iload 6, 2) := by decide +kernel
theorem dX1_add_28 : decode cX1_add 28 = .ok (.iload_n 3, 1) := by decide +kernel
theorem dX1_add_29 : decode cX1_add 29 = .ok (.iastore, 1) := by decide +kernel
theorem dX1_add_30 : decode cX1_add 30 = .ok (.aload_n 0, 1) := by decide +kernel
theorem dX1_add_31 : decode cX1_add 31 = .ok (.getfield 21, 3) := by decide +kernel
theorem dX1_add_34 : decode cX1_add 34 = .ok (.iload 6, 2) := by decide +kernel
theorem dX1_add_36 : decode cX1_add 36 = .ok (.iload 4, 2) := by decide +kernel
theorem dX1_add_38 : decode cX1_add 38 = .ok (.iastore, 1) := by decide +kernel
theorem dX1_add_39 : decode cX1_add 39 = .ok (.aload_n 0, 1) := by decide +kernel
theorem dX1_add_40 : decode cX1_add 40 = .ok (.getfield 24, 3) := by decide +kernel
theorem dX1_add_43 : decode cX1_add 43 = .ok (.iload 6, 2) := by decide +kernel
theorem dX1_add_45 : decode cX1_add 45 = .ok (.iload 5, 2) := by decide +kernel
theorem dX1_add_47 : decode cX1_add 47 = .ok (.iastore, 1) := by decide +kernel
theorem dX1_add_48 : decode cX1_add 48 = .ok (.aload_n 0, 1) := by decide +kernel
theorem dX1_add_49 : decode cX1_add 49 = .ok (.dup, 1) := by decide +kernel
theorem dX1_add_50 : decode cX1_add 50 = .ok (.getfield 27, 3) := by decide +kernel
theorem dX1_add_53 : decode cX1_add 53 = .ok (.iconst 1, 1) := by decide +kernel
theorem dX1_add_54 : decode cX1_add 54 = .ok (.iadd, 1) := by decide +kernel
theorem dX1_add_55 : decode cX1_add 55 = .ok (.putfield 27, 3) := by decide +kernel
theorem dX1_add_58 : decode cX1_add 58 = .ok (.iload 6, 2) := by decide +kernel
theorem dX1_add_60 : decode cX1_add 60 = .ok (.ireturn, 1) := by decide +kernel
theorem dX1_brought_0 : decode cX1_brought 0 = .ok (.iconst 0, 1) := by decide +kernel
theorem dX1_brought_1 : decode cX1_brought 1 = .ok (.istore 5, 2) := by decide +kernel
theorem dX1_brought_3 : decode cX1_brought 3 = .ok (.iconst 0, 1) := by decide +kernel
theorem dX1_brought_4 : decode cX1_brought 4 = .ok (.istore 6, 2) := by decide +kernel
theorem dX1_brought_6 : decode cX1_brought 6 = .ok (.iload 6, 2) := by decide +kernel
theorem dX1_brought_8 : decode cX1_brought 8 = .ok (.aload_n 0, 1) := by decide +kernel
theorem dX1_brought_9 : decode cX1_brought 9 = .ok (.getfield 27, 3) := by decide +kernel
theorem dX1_brought_12 : decode cX1_brought 12 = .ok (.if_icmp .ge 92, 3) := by decide +kernel
theorem dX1_brought_15 : decode cX1_brought 15 = .ok (.aload_n 0, 1) := by decide +kernel
theorem dX1_brought_16 : decode cX1_brought 16 = .ok (.getfield 18, 3) := by decide +kernel
theorem dX1_brought_19 : decode cX1_brought 19 = .ok (.iload 6, 2) := by decide +kernel
theorem dX1_brought_21 : decode cX1_brought 21 = .ok (.iaload, 1) := by decide +kernel
theorem dX1_brought_22 : decode cX1_brought 22 = .ok (.iload_n 2, 1) := by decide +kernel
theorem dX1_brought_23 : decode cX1_brought 23 = .ok (.if_icmp .ne 75, 3) := by decide +kernel
theorem dX1_brought_26 : decode cX1_brought 26 = .ok (.aload_n 0, 1) := by decide +kernel
theorem dX1_brought_27 : decode cX1_brought 27 = .ok (.getfield 24, 3) := by decide +kernel
theorem dX1_brought_30 : decode cX1_brought 30 = .ok (.iload 6, 2) := by decide +kernel
theorem dX1_brought_32 : decode cX1_brought 32 = .ok (.iaload, 1) := by decide +kernel
theorem dX1_brought_33 : decode cX1_brought 33 = .ok (.iload_n 3, 1) := by decide +kernel
theorem dX1_brought_34 : decode cX1_brought 34 = .ok (.if_icmp .le 64, 3) := by decide +kernel
theorem dX1_brought_37 : decode cX1_brought 37 = .ok (.aload_n 0, 1) := by decide +kernel
theorem dX1_brought_38 : decode cX1_brought 38 = .ok (.getfield 24, 3) := by decide +kernel
theorem dX1_brought_41 : decode cX1_brought 41 = .ok (.iload 6, 2) := by decide +kernel
theorem dX1_brought_43 : decode cX1_brought 43 = .ok (.iaload, 1) := by decide +kernel
theorem dX1_brought_44 : decode cX1_brought 44 = .ok (.iload 4, 2) := by decide +kernel
theorem dX1_brought_46 : decode cX1_brought 46 = .ok (.if_icmp .gt 52, 3) := by decide +kernel
theorem dX1_brought_49 : decode cX1_brought 49 = .ok (.aload_n 0, 1) := by decide +kernel
theorem dX1_brought_50 : decode cX1_brought 50 = .ok (.getfield 15, 3) := by decide +kernel
theorem dX1_brought_53 : decode cX1_brought 53 = .ok (.iload 6, 2) := by decide +kernel
theorem dX1_brought_55 : decode cX1_brought 55 = .ok (.iaload, 1) := by decide +kernel
theorem dX1_brought_56 : decode cX1_brought 56 = .ok (.iload_n 1, 1) := by decide +kernel
theorem dX1_brought_57 : decode cX1_brought 57 = .ok (.if_icmp .ne 18, 3) := by decide +kernel
theorem dX1_brought_60 : decode cX1_brought 60 = .ok (.iload 5, 2) := by decide +kernel
theorem dX1_brought_62 : decode cX1_brought 62 = .ok (.aload_n 0, 1) := by decide +kernel
theorem dX1_brought_63 : decode cX1_brought 63 = .ok (.getfield 21, 3) := by decide +kernel
theorem dX1_brought_66 : decode cX1_brought 66 = .ok (.iload 6, 2) := by decide +kernel
theorem dX1_brought_68 : decode cX1_brought 68 = .ok (.iaload, 1) := by decide +kernel
theorem dX1_brought_69 : decode cX1_brought 69 = .ok (.iadd, 1) := by decide +kernel
theorem dX1_brought_70 : decode cX1_brought 70 = .ok (.istore 5, 2) := by decide +kernel
theorem dX1_brought_72 : decode cX1_brought 72 = .ok (.goto 26, 3) := by decide +kernel
theorem dX1_brought_75 : decode cX1_brought 75 = .ok (.aload_n 0, 1) := by decide +kernel
theorem dX1_brought_76 : decode cX1_brought 76 = .ok (.getfield 9, 3) := by decide +kernel
theorem dX1_brought_79 : decode cX1_brought 79 = .ok (.iload 6, 2) := by decide +kernel
theorem dX1_brought_81 : decode cX1_brought 81 = .ok (.iaload, 1) := by decide +kernel
theorem dX1_brought_82 : decode cX1_brought 82 = .ok (.iload_n 1, 1) := by decide +kernel
theorem dX1_brought_83 : decode cX1_brought 83 = .ok (.if_icmp .ne 15, 3) := by decide +kernel
theorem dX1_brought_86 : decode cX1_brought 86 = .ok (.iload 5, 2) := by decide +kernel
theorem dX1_brought_88 : decode cX1_brought 88 = .ok (.aload_n 0, 1) := by decide +kernel
theorem dX1_brought_89 : decode cX1_brought 89 = .ok (.getfield 21, 3) := by decide +kernel
theorem dX1_brought_92 : decode cX1_brought 92 = .ok (.iload 6, 2) := by decide +kernel
theorem dX1_brought_94 : decode cX1_brought 94 = .ok (.iaload, 1) := by decide +kernel
theorem dX1_brought_95 : decode cX1_brought 95 = .ok (.isub, 1) := by decide +kernel
theorem dX1_brought_96 : decode cX1_brought 96 = .ok (.istore 5, 2) := by decide +kernel
theorem dX1_brought_98 : decode cX1_brought 98 = .ok (.iinc 6 1, 3) := by decide +kernel
theorem dX1_brought_101 : decode cX1_brought 101 = .ok (.goto (-95), 3) := by decide +kernel
theorem dX1_brought_104 : decode cX1_brought 104 = .ok (.iload 5, 2) := by decide +kernel
theorem dX1_brought_106 : decode cX1_brought 106 = .ok (.ireturn, 1) := by decide +kernel
theorem dX2_init_0 : decode cX2_init 0 = .ok (.aload_n 0, 1) := by decide +kernel
theorem dX2_init_1 : decode cX2_init 1 = .ok (.invokespecial 3, 3) := by decide +kernel
theorem dX2_init_4 : decode cX2_init 4 = .ok (.aload_n 0, 1) := by decide +kernel
theorem dX2_init_5 : decode cX2_init 5 = .ok (.bipush 40, 2) := by decide +kernel
theorem dX2_init_7 : decode cX2_init 7 = .ok (.newarray .int, 2) := by decide +kernel
theorem dX2_init_9 : decode cX2_init 9 = .ok (.putfield 9, 3) := by decide +kernel
theorem dX2_init_12 : decode cX2_init 12 = .ok (.aload_n 0, 1) := by decide +kernel
theorem dX2_init_13 : decode cX2_init 13 = .ok (.bipush 40, 2) := by decide +kernel
theorem dX2_init_15 : decode cX2_init 15 = .ok (.newarray .int, 2) := by decide +kernel
theorem dX2_init_17 : decode cX2_init 17 = .ok (.putfield 15, 3) := by decide +kernel
theorem dX2_init_20 : decode cX2_init 20 = .ok (.aload_n 0, 1) := by decide +kernel
theorem dX2_init_21 : decode cX2_init 21 = .ok (.bipush 40, 2) := by decide +kernel
theorem dX2_init_23 : decode cX2_init 23 = .ok (.newarray .boolean, 2) := by decide +kernel
theorem dX2_init_25 : decode cX2_init 25 = .ok (.putfield 18, 3) := by decide +kernel
theorem dX2_init_28 : decode cX2_init 28 = .ok (.aload_n 0, 1) := by decide +kernel
theorem dX2_init_29 : decode cX2_init 29 = .ok (.iconst 0, 1) := by decide +kernel
theorem dX2_init_30 : decode cX2_init 30 = .ok (.putfield 22, 3) := by decide +kernel
theorem dX2_init_33 : decode cX2_init 33 = .ok (.return_, 1) := by decide +kernel
theorem dX2_add_0 : decode cX2_add 0 = .ok (.aload_n 0, 1) := by decide +kernel
theorem dX2_add_1 : decode cX2_add 1 = .ok (.getfield 22, 3) := by decide +kernel
theorem dX2_add_4 : decode cX2_add 4 = .ok (.istore_n 3, 1) := by decide +kernel
theorem dX2_add_5 : decode cX2_add 5 = .ok (.aload_n 0, 1) := by decide +kernel
theorem dX2_add_6 : decode cX2_add 6 = .ok (.getfield 9, 3) := by decide +kernel
theorem dX2_add_9 : decode cX2_add 9 = .ok (.iload_n 3, 1) := by decide +kernel
theorem dX2_add_10 : decode cX2_add 10 = .ok (.iload_n 1, 1) := by decide +kernel
theorem dX2_add_11 : decode cX2_add 11 = .ok (.iastore, 1) := by decide +kernel
theorem dX2_add_12 : decode cX2_add 12 = .ok (.aload_n 0, 1) := by decide +kernel
theorem dX2_add_13 : decode cX2_add 13 = .ok (.getfield 15, 3) := by decide +kernel
theorem dX2_add_16 : decode cX2_add 16 = .ok (.iload_n 3, 1) := by decide +kernel
theorem dX2_add_17 : decode cX2_add 17 = .ok (.iload_n 2, 1) := by decide +kernel
theorem dX2_add_18 : decode cX2_add 18 = .ok (.iastore, 1) := by decide +kernel
theorem dX2_add_19 : decode cX2_add 19 = .ok (.aload_n 0, 1) := by decide +kernel
theorem dX2_add_20 : decode cX2_add 20 = .ok (.dup, 1) := by decide +kernel
theorem dX2_add_21 : decode cX2_add 21 = .ok (.getfield 22, 3) := by decide +kernel
theorem dX2_add_24 : decode cX2_add 24 = .ok (.iconst 1, 1) := by decide +kernel
theorem dX2_add_25 : decode cX2_add 25 = .ok (.iadd, 1) := by decide +kernel
theorem dX2_add_26 : decode cX2_add 26 = .ok (.putfield 22, 3) := by decide +kernel
theorem dX2_add_29 : decode cX2_add 29 = .ok (.iload_n 3, 1) := by decide +kernel
theorem dX2_add_30 : decode cX2_add 30 = .ok (.ireturn, 1) := by decide +kernel
theorem dX2_isOpenFor_0 : decode cX2_isOpenFor 0 = .ok (.aload_n 0, 1) := by decide +kernel
theorem dX2_isOpenFor_1 : decode cX2_isOpenFor 1 = .ok (.iload_n 1, 1) := by decide +kernel
theorem dX2_isOpenFor_2 : decode cX2_isOpenFor 2 = .ok (.invokevirtual 26, 3) := by decide +kernel
theorem dX2_isOpenFor_5 : decode cX2_isOpenFor 5 = .ok (.istore_n 2, 1) := by decide +kernel
theorem dX2_isOpenFor_6 : decode cX2_isOpenFor 6 = .ok (.iload_n 2, 1) := by decide +kernel
theorem dX2_isOpenFor_7 : decode cX2_isOpenFor 7 = .ok (.iconst (-1), 1) := by decide +kernel
theorem dX2_isOpenFor_8 : decode cX2_isOpenFor 8 = .ok (.if_icmp .eq 16, 3) := by decide +kernel
theorem dX2_isOpenFor_11 : decode cX2_isOpenFor 11 = .ok (.aload_n 0, 1) := by decide +kernel
theorem dX2_isOpenFor_12 : decode cX2_isOpenFor 12 = .ok (.getfield 18, 3) := by decide +kernel
theorem dX2_isOpenFor_15 : decode cX2_isOpenFor 15 = .ok (.iload_n 2, 1) := by decide +kernel
theorem dX2_isOpenFor_16 : decode cX2_isOpenFor 16 = .ok (.baload, 1) := by decide +kernel
theorem dX2_isOpenFor_17 : decode cX2_isOpenFor 17 = .ok (.ifCond .ne 7, 3) := by decide +kernel
theorem dX2_isOpenFor_20 : decode cX2_isOpenFor 20 = .ok (.iconst 1, 1) := by decide +kernel
theorem dX2_isOpenFor_21 : decode cX2_isOpenFor 21 = .ok (.goto 4, 3) := by decide +kernel
theorem dX2_isOpenFor_24 : decode cX2_isOpenFor 24 = .ok (.iconst 0, 1) := by decide +kernel
theorem dX2_isOpenFor_25 : decode cX2_isOpenFor 25 = .ok (.ireturn, 1) := by decide +kernel
theorem dX2_latestFor_0 : decode cX2_latestFor 0 = .ok (.aload_n 0, 1) := by decide +kernel
theorem dX2_latestFor_1 : decode cX2_latestFor 1 = .ok (.getfield 22, 3) := by decide +kernel
theorem dX2_latestFor_4 : decode cX2_latestFor 4 = .ok (.iconst 1, 1) := by decide +kernel
theorem dX2_latestFor_5 : decode cX2_latestFor 5 = .ok (.isub, 1) := by decide +kernel
theorem dX2_latestFor_6 : decode cX2_latestFor 6 = .ok (.istore_n 2, 1) := by decide +kernel
theorem dX2_latestFor_7 : decode cX2_latestFor 7 = .ok (.iload_n 2, 1) := by decide +kernel
theorem dX2_latestFor_8 : decode cX2_latestFor 8 = .ok (.ifCond .lt 21, 3) := by decide +kernel
theorem dX2_latestFor_11 : decode cX2_latestFor 11 = .ok (.aload_n 0, 1) := by decide +kernel
theorem dX2_latestFor_12 : decode cX2_latestFor 12 = .ok (.getfield 9, 3) := by decide +kernel
theorem dX2_latestFor_15 : decode cX2_latestFor 15 = .ok (.iload_n 2, 1) := by decide +kernel
theorem dX2_latestFor_16 : decode cX2_latestFor 16 = .ok (.iaload, 1) := by decide +kernel
theorem dX2_latestFor_17 : decode cX2_latestFor 17 = .ok (.iload_n 1, 1) := by decide +kernel
theorem dX2_latestFor_18 : decode cX2_latestFor 18 = .ok (.if_icmp .ne 5, 3) := by decide +kernel
theorem dX2_latestFor_21 : decode cX2_latestFor 21 = .ok (.iload_n 2, 1) := by decide +kernel
theorem dX2_latestFor_22 : decode cX2_latestFor 22 = .ok (.ireturn, 1) := by decide +kernel
theorem dX2_latestFor_23 : decode cX2_latestFor 23 = .ok (.iinc 2 (-1), 3) := by decide +kernel
theorem dX2_latestFor_26 : decode cX2_latestFor 26 = .ok (.goto (-19), 3) := by decide +kernel
theorem dX2_latestFor_29 : decode cX2_latestFor 29 = .ok (.iconst (-1), 1) := by decide +kernel
theorem dX2_latestFor_30 : decode cX2_latestFor 30 = .ok (.ireturn, 1) := by decide +kernel
theorem dX3_init_0 : decode cX3_init 0 = .ok (.aload_n 0, 1) := by decide +kernel
theorem dX3_init_1 : decode cX3_init 1 = .ok (.invokespecial 3, 3) := by decide +kernel
theorem dX3_init_4 : decode cX3_init 4 = .ok (.aload_n 0, 1) := by decide +kernel
theorem dX3_init_5 : decode cX3_init 5 = .ok (.iconst 5, 1) := by decide +kernel
theorem dX3_init_6 : decode cX3_init 6 = .ok (.newarray .int, 2) := by decide +kernel
theorem dX3_init_8 : decode cX3_init 8 = .ok (.putfield 9, 3) := by decide +kernel
theorem dX3_init_11 : decode cX3_init 11 = .ok (.aload_n 0, 1) := by decide +kernel
theorem dX3_init_12 : decode cX3_init 12 = .ok (.bipush 6, 2) := by decide +kernel
theorem dX3_init_14 : decode cX3_init 14 = .ok (.newarray .int, 2) := by decide +kernel
theorem dX3_init_16 : decode cX3_init 16 = .ok (.putfield 13, 3) := by decide +kernel
theorem dX3_init_19 : decode cX3_init 19 = .ok (.aload_n 0, 1) := by decide +kernel
theorem dX3_init_20 : decode cX3_init 20 = .ok (.new 16, 3) := by decide +kernel
theorem dX3_init_23 : decode cX3_init 23 = .ok (.dup, 1) := by decide +kernel
theorem dX3_init_24 : decode cX3_init 24 = .ok (.invokespecial 18, 3) := by decide +kernel
theorem dX3_init_27 : decode cX3_init 27 = .ok (.putfield 19, 3) := by decide +kernel
theorem dX3_init_30 : decode cX3_init 30 = .ok (.aload_n 0, 1) := by decide +kernel
theorem dX3_init_31 : decode cX3_init 31 = .ok (.new 23, 3) := by decide +kernel
theorem dX3_init_34 : decode cX3_init 34 = .ok (.dup, 1) := by decide +kernel
theorem dX3_init_35 : decode cX3_init 35 = .ok (.invokespecial 25, 3) := by decide +kernel
theorem dX3_init_38 : decode cX3_init 38 = .ok (.putfield 26, 3) := by decide +kernel
theorem dX3_init_41 : decode cX3_init 41 = .ok (.aload_n 0, 1) := by decide +kernel
theorem dX3_init_42 : decode cX3_init 42 = .ok (.new 30, 3) := by decide +kernel
theorem dX3_init_45 : decode cX3_init 45 = .ok (.dup, 1) := by decide +kernel
theorem dX3_init_46 : decode cX3_init 46 = .ok (.invokespecial 32, 3) := by decide +kernel
theorem dX3_init_49 : decode cX3_init 49 = .ok (.putfield 33, 3) := by decide +kernel
theorem dX3_init_52 : decode cX3_init 52 = .ok (.aload_n 0, 1) := by decide +kernel
theorem dX3_init_53 : decode cX3_init 53 = .ok (.iconst 0, 1) := by decide +kernel
theorem dX3_init_54 : decode cX3_init 54 = .ok (.putfield 37, 3) := by decide +kernel
theorem dX3_init_57 : decode cX3_init 57 = .ok (.aload_n 0, 1) := by decide +kernel
theorem dX3_init_58 : decode cX3_init 58 = .ok (.getfield 9, 3) := by decide +kernel
theorem dX3_init_61 : decode cX3_init 61 = .ok (.iconst 1, 1) := by decide +kernel
theorem dX3_init_62 : decode cX3_init 62 = .ok (.invokestatic 41, 3) := by decide +kernel
theorem dX3_init_65 : decode cX3_init 65 = .ok (.aload_n 0, 1) := by decide +kernel
theorem dX3_init_66 : decode cX3_init 66 = .ok (.getfield 13, 3) := by decide +kernel
theorem dX3_init_69 : decode cX3_init 69 = .ok (.bipush 100, 2) := by decide +kernel
theorem dX3_init_71 : decode cX3_init 71 = .ok (.invokestatic 41, 3) := by decide +kernel
theorem dX3_init_74 : decode cX3_init 74 = .ok (.return_, 1) := by decide +kernel
theorem dX3_setPrice_0 : decode cX3_setPrice 0 = .ok (.iload_n 1, 1) := by decide +kernel
theorem dX3_setPrice_1 : decode cX3_setPrice 1 = .ok (.iconst 5, 1) := by decide +kernel
theorem dX3_setPrice_2 : decode cX3_setPrice 2 = .ok (.invokestatic 47, 3) := by decide +kernel
theorem dX3_setPrice_5 : decode cX3_setPrice 5 = .ok (.iload_n 2, 1) := by decide +kernel
theorem dX3_setPrice_6 : decode cX3_setPrice 6 = .ok (.iconst 0, 1) := by decide +kernel
theorem dX3_setPrice_7 : decode cX3_setPrice 7 = .ok (.sipush 1000, 3) := by decide +kernel
theorem dX3_setPrice_10 : decode cX3_setPrice 10 = .ok (.invokestatic 51, 3) := by decide +kernel
theorem dX3_setPrice_13 : decode cX3_setPrice 13 = .ok (.aload_n 0, 1) := by decide +kernel
theorem dX3_setPrice_14 : decode cX3_setPrice 14 = .ok (.getfield 9, 3) := by decide +kernel
theorem dX3_setPrice_17 : decode cX3_setPrice 17 = .ok (.iload_n 1, 1) := by decide +kernel
theorem dX3_setPrice_18 : decode cX3_setPrice 18 = .ok (.iaload, 1) := by decide +kernel
theorem dX3_setPrice_19 : decode cX3_setPrice 19 = .ok (.istore_n 3, 1) := by decide +kernel
theorem dX3_setPrice_20 : decode cX3_setPrice 20 = .ok (.aload_n 0, 1) := by decide +kernel
theorem dX3_setPrice_21 : decode cX3_setPrice 21 = .ok (.getfield 9, 3) := by decide +kernel
theorem dX3_setPrice_24 : decode cX3_setPrice 24 = .ok (.iload_n 1, 1) := by decide +kernel
theorem dX3_setPrice_25 : decode cX3_setPrice 25 = .ok (.iload_n 2, 1) := by decide +kernel
theorem dX3_setPrice_26 : decode cX3_setPrice 26 = .ok (.iastore, 1) := by decide +kernel
theorem dX3_setPrice_27 : decode cX3_setPrice 27 = .ok (.iload_n 3, 1) := by decide +kernel
theorem dX3_setPrice_28 : decode cX3_setPrice 28 = .ok (.ireturn, 1) := by decide +kernel
theorem dX3_setBound_0 : decode cX3_setBound 0 = .ok (.iload_n 1, 1) := by decide +kernel
theorem dX3_setBound_1 : decode cX3_setBound 1 = .ok (.bipush 6, 2) := by decide +kernel
theorem dX3_setBound_3 : decode cX3_setBound 3 = .ok (.invokestatic 47, 3) := by decide +kernel
theorem dX3_setBound_6 : decode cX3_setBound 6 = .ok (.iload_n 2, 1) := by decide +kernel
theorem dX3_setBound_7 : decode cX3_setBound 7 = .ok (.iconst 0, 1) := by decide +kernel
theorem dX3_setBound_8 : decode cX3_setBound 8 = .ok (.ldc 55, 2) := by decide +kernel
theorem dX3_setBound_10 : decode cX3_setBound 10 = .ok (.invokestatic 51, 3) := by decide +kernel
theorem dX3_setBound_13 : decode cX3_setBound 13 = .ok (.aload_n 0, 1) := by decide +kernel
theorem dX3_setBound_14 : decode cX3_setBound 14 = .ok (.getfield 13, 3) := by decide +kernel
theorem dX3_setBound_17 : decode cX3_setBound 17 = .ok (.iload_n 1, 1) := by decide +kernel
theorem dX3_setBound_18 : decode cX3_setBound 18 = .ok (.iaload, 1) := by decide +kernel
theorem dX3_setBound_19 : decode cX3_setBound 19 = .ok (.istore_n 3, 1) := by decide +kernel
theorem dX3_setBound_20 : decode cX3_setBound 20 = .ok (.aload_n 0, 1) := by decide +kernel
theorem dX3_setBound_21 : decode cX3_setBound 21 = .ok (.getfield 13, 3) := by decide +kernel
theorem dX3_setBound_24 : decode cX3_setBound 24 = .ok (.iload_n 1, 1) := by decide +kernel
theorem dX3_setBound_25 : decode cX3_setBound 25 = .ok (.iload_n 2, 1) := by decide +kernel
theorem dX3_setBound_26 : decode cX3_setBound 26 = .ok (.iastore, 1) := by decide +kernel
theorem dX3_setBound_27 : decode cX3_setBound 27 = .ok (.iload_n 3, 1) := by decide +kernel
theorem dX3_setBound_28 : decode cX3_setBound 28 = .ok (.ireturn, 1) := by decide +kernel
theorem dX3_move_0 : decode cX3_move 0 = .ok (.iload_n 1, 1) := by decide +kernel
theorem dX3_move_1 : decode cX3_move 1 = .ok (.invokestatic 56, 3) := by decide +kernel
theorem dX3_move_4 : decode cX3_move 4 = .ok (.iload_n 2, 1) := by decide +kernel
theorem dX3_move_5 : decode cX3_move 5 = .ok (.invokestatic 56, 3) := by decide +kernel
theorem dX3_move_8 : decode cX3_move 8 = .ok (.iload_n 3, 1) := by decide +kernel
theorem dX3_move_9 : decode cX3_move 9 = .ok (.iconst 5, 1) := by decide +kernel
theorem dX3_move_10 : decode cX3_move 10 = .ok (.invokestatic 47, 3) := by decide +kernel
theorem dX3_move_13 : decode cX3_move 13 = .ok (.iload_n 1, 1) := by decide +kernel
theorem dX3_move_14 : decode cX3_move 14 = .ok (.iload_n 2, 1) := by decide +kernel
theorem dX3_move_15 : decode cX3_move 15 = .ok (.if_icmp .ne 13, 3) := by decide +kernel
theorem dX3_move_18 : decode cX3_move 18 = .ok (.new 60, 3) := by decide +kernel
theorem dX3_move_21 : decode cX3_move 21 = .ok (.dup, 1) := by decide +kernel
theorem dX3_move_22 : decode cX3_move 22 = .ok (.ldc 62, 2) := by decide +kernel
theorem dX3_move_24 : decode cX3_move 24 = .ok (.invokespecial 64, 3) := by decide +kernel
theorem dX3_move_27 : decode cX3_move 27 = .ok (.athrow, 1) := by decide +kernel
theorem dX3_move_28 : decode cX3_move 28 = .ok (.iload 4, 2) := by decide +kernel
theorem dX3_move_30 : decode cX3_move 30 = .ok (.iconst 1, 1) := by decide +kernel
theorem dX3_move_31 : decode cX3_move 31 = .ok (.sipush 1000, 3) := by decide +kernel
theorem dX3_move_34 : decode cX3_move 34 = .ok (.invokestatic 51, 3) := by decide +kernel
theorem dX3_move_37 : decode cX3_move 37 = .ok (.iload 5, 2) := by decide +kernel
theorem dX3_move_39 : decode cX3_move 39 = .ok (.iconst 0, 1) := by decide +kernel
theorem dX3_move_40 : decode cX3_move 40 = .ok (.aload_n 0, 1) := by decide +kernel
theorem dX3_move_41 : decode cX3_move 41 = .ok (.getfield 37, 3) := by decide +kernel
theorem dX3_move_44 : decode cX3_move 44 = .ok (.invokestatic 51, 3) := by decide +kernel
theorem dX3_move_47 : decode cX3_move 47 = .ok (.aload_n 0, 1) := by decide +kernel
theorem dX3_move_48 : decode cX3_move 48 = .ok (.getfield 19, 3) := by decide +kernel
theorem dX3_move_51 : decode cX3_move 51 = .ok (.getfield 67, 3) := by decide +kernel
theorem dX3_move_54 : decode cX3_move 54 = .ok (.sipush 200, 3) := by decide +kernel
theorem dX3_move_57 : decode cX3_move 57 = .ok (.if_icmp .lt 13, 3) := by decide +kernel
theorem dX3_move_60 : decode cX3_move 60 = .ok (.new 70, 3) := by decide +kernel
theorem dX3_move_63 : decode cX3_move 63 = .ok (.dup, 1) := by decide +kernel
theorem dX3_move_64 : decode cX3_move 64 = .ok (.ldc 72, 2) := by decide +kernel
theorem dX3_move_66 : decode cX3_move 66 = .ok (.invokespecial 74, 3) := by decide +kernel
theorem dX3_move_69 : decode cX3_move 69 = .ok (.athrow, 1) := by decide +kernel
theorem dX3_move_70 : decode cX3_move 70 = .ok (.aload_n 0, 1) := by decide +kernel
theorem dX3_move_71 : decode cX3_move 71 = .ok (.getfield 19, 3) := by decide +kernel
theorem dX3_move_74 : decode cX3_move 74 = .ok (.iload_n 1, 1) := by decide +kernel
theorem dX3_move_75 : decode cX3_move 75 = .ok (.iload_n 2, 1) := by decide +kernel
theorem dX3_move_76 : decode cX3_move 76 = .ok (.iload_n 3, 1) := by decide +kernel
theorem dX3_move_77 : decode cX3_move 77 = .ok (.iload 4, 2) := by decide +kernel
theorem dX3_move_79 : decode cX3_move 79 = .ok (.iload 5, 2) := by decide +kernel
theorem dX3_move_81 : decode cX3_move 81 = .ok (.invokevirtual 75, 3) := by decide +kernel
theorem dX3_move_84 : decode cX3_move 84 = .ok (.ireturn, 1) := by decide +kernel
theorem dX3_pass_0 : decode cX3_pass 0 = .ok (.iload_n 1, 1) := by decide +kernel
theorem dX3_pass_1 : decode cX3_pass 1 = .ok (.iconst 1, 1) := by decide +kernel
theorem dX3_pass_2 : decode cX3_pass 2 = .ok (.sipush 1000, 3) := by decide +kernel
theorem dX3_pass_5 : decode cX3_pass 5 = .ok (.invokestatic 51, 3) := by decide +kernel
theorem dX3_pass_8 : decode cX3_pass 8 = .ok (.aload_n 0, 1) := by decide +kernel
theorem dX3_pass_9 : decode cX3_pass 9 = .ok (.dup, 1) := by decide +kernel
theorem dX3_pass_10 : decode cX3_pass 10 = .ok (.getfield 37, 3) := by decide +kernel
theorem dX3_pass_13 : decode cX3_pass 13 = .ok (.iload_n 1, 1) := by decide +kernel
theorem dX3_pass_14 : decode cX3_pass 14 = .ok (.iadd, 1) := by decide +kernel
theorem dX3_pass_15 : decode cX3_pass 15 = .ok (.putfield 37, 3) := by decide +kernel
theorem dX3_pass_18 : decode cX3_pass 18 = .ok (.aload_n 0, 1) := by decide +kernel
theorem dX3_pass_19 : decode cX3_pass 19 = .ok (.getfield 37, 3) := by decide +kernel
theorem dX3_pass_22 : decode cX3_pass 22 = .ok (.ireturn, 1) := by decide +kernel
theorem dX3_open_0 : decode cX3_open 0 = .ok (.iload_n 1, 1) := by decide +kernel
theorem dX3_open_1 : decode cX3_open 1 = .ok (.bipush 12, 2) := by decide +kernel
theorem dX3_open_3 : decode cX3_open 3 = .ok (.invokestatic 47, 3) := by decide +kernel
theorem dX3_open_6 : decode cX3_open 6 = .ok (.aload_n 0, 1) := by decide +kernel
theorem dX3_open_7 : decode cX3_open 7 = .ok (.getfield 26, 3) := by decide +kernel
theorem dX3_open_10 : decode cX3_open 10 = .ok (.iload_n 1, 1) := by decide +kernel
theorem dX3_open_11 : decode cX3_open 11 = .ok (.invokevirtual 79, 3) := by decide +kernel
theorem dX3_open_14 : decode cX3_open 14 = .ok (.ifCond .eq 13, 3) := by decide +kernel
theorem dX3_open_17 : decode cX3_open 17 = .ok (.new 70, 3) := by decide +kernel
theorem dX3_open_20 : decode cX3_open 20 = .ok (.dup, 1) := by decide +kernel
theorem dX3_open_21 : decode cX3_open 21 = .ok (.ldc 83, 2) := by decide +kernel
theorem dX3_open_23 : decode cX3_open 23 = .ok (.invokespecial 74, 3) := by decide +kernel
theorem dX3_open_26 : decode cX3_open 26 = .ok (.athrow, 1) := by decide +kernel
theorem dX3_open_27 : decode cX3_open 27 = .ok (.aload_n 0, 1) := by decide +kernel
theorem dX3_open_28 : decode cX3_open 28 = .ok (.getfield 26, 3) := by decide +kernel
theorem dX3_open_31 : decode cX3_open 31 = .ok (.getfield 85, 3) := by decide +kernel
theorem dX3_open_34 : decode cX3_open 34 = .ok (.bipush 40, 2) := by decide +kernel
theorem dX3_open_36 : decode cX3_open 36 = .ok (.if_icmp .lt 13, 3) := by decide +kernel
theorem dX3_open_39 : decode cX3_open 39 = .ok (.new 70, 3) := by decide +kernel
theorem dX3_open_42 : decode cX3_open 42 = .ok (.dup, 1) := by decide +kernel
theorem dX3_open_43 : decode cX3_open 43 = .ok (.ldc 86, 2) := by decide +kernel
theorem dX3_open_45 : decode cX3_open 45 = .ok (.invokespecial 74, 3) := by decide +kernel
theorem dX3_open_48 : decode cX3_open 48 = .ok (.athrow, 1) := by decide +kernel
theorem dX3_open_49 : decode cX3_open 49 = .ok (.aload_n 0, 1) := by decide +kernel
theorem dX3_open_50 : decode cX3_open 50 = .ok (.getfield 26, 3) := by decide +kernel
theorem dX3_open_53 : decode cX3_open 53 = .ok (.iload_n 1, 1) := by decide +kernel
theorem dX3_open_54 : decode cX3_open 54 = .ok (.aload_n 0, 1) := by decide +kernel
theorem dX3_open_55 : decode cX3_open 55 = .ok (.getfield 37, 3) := by decide +kernel
theorem dX3_open_58 : decode cX3_open 58 = .ok (.invokevirtual 88, 3) := by decide +kernel
theorem dX3_open_61 : decode cX3_open 61 = .ok (.ireturn, 1) := by decide +kernel
theorem dX3_count_0 : decode cX3_count 0 = .ok (.iload_n 1, 1) := by decide +kernel
theorem dX3_count_1 : decode cX3_count 1 = .ok (.aload_n 0, 1) := by decide +kernel
theorem dX3_count_2 : decode cX3_count 2 = .ok (.getfield 26, 3) := by decide +kernel
theorem dX3_count_5 : decode cX3_count 5 = .ok (.getfield 85, 3) := by decide +kernel
theorem dX3_count_8 : decode cX3_count 8 = .ok (.invokestatic 47, 3) := by decide +kernel
theorem dX3_count_11 : decode cX3_count 11 = .ok (.iload_n 2, 1) := by decide +kernel
theorem dX3_count_12 : decode cX3_count 12 = .ok (.bipush 6, 2) := by decide +kernel
theorem dX3_count_14 : decode cX3_count 14 = .ok (.invokestatic 47, 3) := by decide +kernel
theorem dX3_count_17 : decode cX3_count 17 = .ok (.iload_n 3, 1) := by decide +kernel
theorem dX3_count_18 : decode cX3_count 18 = .ok (.iconst 5, 1) := by decide +kernel
theorem dX3_count_19 : decode cX3_count 19 = .ok (.invokestatic 47, 3) := by decide +kernel
theorem dX3_count_22 : decode cX3_count 22 = .ok (.iload 4, 2) := by decide +kernel
theorem dX3_count_24 : decode cX3_count 24 = .ok (.iconst 0, 1) := by decide +kernel
theorem dX3_count_25 : decode cX3_count 25 = .ok (.ldc 91, 2) := by decide +kernel
theorem dX3_count_27 : decode cX3_count 27 = .ok (.invokestatic 51, 3) := by decide +kernel
theorem dX3_count_30 : decode cX3_count 30 = .ok (.iload_n 1, 1) := by decide +kernel
theorem dX3_count_31 : decode cX3_count 31 = .ok (.iload_n 3, 1) := by decide +kernel
theorem dX3_count_32 : decode cX3_count 32 = .ok (.invokestatic 92, 3) := by decide +kernel
theorem dX3_count_35 : decode cX3_count 35 = .ok (.istore 5, 2) := by decide +kernel
theorem dX3_count_37 : decode cX3_count 37 = .ok (.aload_n 0, 1) := by decide +kernel
theorem dX3_count_38 : decode cX3_count 38 = .ok (.getfield 26, 3) := by decide +kernel
theorem dX3_count_41 : decode cX3_count 41 = .ok (.getfield 95, 3) := by decide +kernel
theorem dX3_count_44 : decode cX3_count 44 = .ok (.iload_n 1, 1) := by decide +kernel
theorem dX3_count_45 : decode cX3_count 45 = .ok (.baload, 1) := by decide +kernel
theorem dX3_count_46 : decode cX3_count 46 = .ok (.ifCond .eq 13, 3) := by decide +kernel
theorem dX3_count_49 : decode cX3_count 49 = .ok (.new 70, 3) := by decide +kernel
theorem dX3_count_52 : decode cX3_count 52 = .ok (.dup, 1) := by decide +kernel
theorem dX3_count_53 : decode cX3_count 53 = .ok (.ldc 99, 2) := by decide +kernel
theorem dX3_count_55 : decode cX3_count 55 = .ok (.invokespecial 74, 3) := by decide +kernel
theorem dX3_count_58 : decode cX3_count 58 = .ok (.athrow, 1) := by decide +kernel
theorem dX3_count_59 : decode cX3_count 59 = .ok (.aload_n 0, 1) := by decide +kernel
theorem dX3_count_60 : decode cX3_count 60 = .ok (.getfield 33, 3) := by decide +kernel
theorem dX3_count_63 : decode cX3_count 63 = .ok (.iload 5, 2) := by decide +kernel
theorem dX3_count_65 : decode cX3_count 65 = .ok (.invokevirtual 101, 3) := by decide +kernel
theorem dX3_count_68 : decode cX3_count 68 = .ok (.ifCond .eq 13, 3) := by decide +kernel
theorem dX3_count_71 : decode cX3_count 71 = .ok (.new 70, 3) := by decide +kernel
theorem dX3_count_74 : decode cX3_count 74 = .ok (.dup, 1) := by decide +kernel
theorem dX3_count_75 : decode cX3_count 75 = .ok (.ldc 104, 2) := by decide +kernel
theorem dX3_count_77 : decode cX3_count 77 = .ok (.invokespecial 74, 3) := by decide +kernel
theorem dX3_count_80 : decode cX3_count 80 = .ok (.athrow, 1) := by decide +kernel
theorem dX3_count_81 : decode cX3_count 81 = .ok (.aload_n 0, 1) := by decide +kernel
theorem dX3_count_82 : decode cX3_count 82 = .ok (.getfield 33, 3) := by decide +kernel
theorem dX3_count_85 : decode cX3_count 85 = .ok (.iload 5, 2) := by decide +kernel
theorem dX3_count_87 : decode cX3_count 87 = .ok (.iload_n 2, 1) := by decide +kernel
theorem dX3_count_88 : decode cX3_count 88 = .ok (.invokevirtual 106, 3) := by decide +kernel
theorem dX3_count_91 : decode cX3_count 91 = .ok (.ifCond .eq 13, 3) := by decide +kernel
theorem dX3_count_94 : decode cX3_count 94 = .ok (.new 70, 3) := by decide +kernel
theorem dX3_count_97 : decode cX3_count 97 = .ok (.dup, 1) := by decide +kernel
theorem dX3_count_98 : decode cX3_count 98 = .ok (.ldc 110, 2) := by decide +kernel
theorem dX3_count_100 : decode cX3_count 100 = .ok (.invokespecial 74, 3) := by decide +kernel
theorem dX3_count_103 : decode cX3_count 103 = .ok (.athrow, 1) := by decide +kernel
theorem dX3_count_104 : decode cX3_count 104 = .ok (.aload_n 0, 1) := by decide +kernel
theorem dX3_count_105 : decode cX3_count 105 = .ok (.getfield 33, 3) := by decide +kernel
theorem dX3_count_108 : decode cX3_count 108 = .ok (.iload 5, 2) := by decide +kernel
theorem dX3_count_110 : decode cX3_count 110 = .ok (.iload_n 2, 1) := by decide +kernel
theorem dX3_count_111 : decode cX3_count 111 = .ok (.iload 4, 2) := by decide +kernel
theorem dX3_count_113 : decode cX3_count 113 = .ok (.invokevirtual 112, 3) := by decide +kernel
theorem dX3_count_116 : decode cX3_count 116 = .ok (.aload_n 0, 1) := by decide +kernel
theorem dX3_count_117 : decode cX3_count 117 = .ok (.getfield 33, 3) := by decide +kernel
theorem dX3_count_120 : decode cX3_count 120 = .ok (.iload 5, 2) := by decide +kernel
theorem dX3_count_122 : decode cX3_count 122 = .ok (.invokevirtual 101, 3) := by decide +kernel
theorem dX3_count_125 : decode cX3_count 125 = .ok (.ireturn, 1) := by decide +kernel
theorem dX3_close_0 : decode cX3_close 0 = .ok (.iload_n 1, 1) := by decide +kernel
theorem dX3_close_1 : decode cX3_close 1 = .ok (.aload_n 0, 1) := by decide +kernel
theorem dX3_close_2 : decode cX3_close 2 = .ok (.getfield 26, 3) := by decide +kernel
theorem dX3_close_5 : decode cX3_close 5 = .ok (.getfield 85, 3) := by decide +kernel
theorem dX3_close_8 : decode cX3_close 8 = .ok (.invokestatic 47, 3) := by decide +kernel
theorem dX3_close_11 : decode cX3_close 11 = .ok (.aload_n 0, 1) := by decide +kernel
theorem dX3_close_12 : decode cX3_close 12 = .ok (.getfield 26, 3) := by decide +kernel
theorem dX3_close_15 : decode cX3_close 15 = .ok (.getfield 95, 3) := by decide +kernel
theorem dX3_close_18 : decode cX3_close 18 = .ok (.iload_n 1, 1) := by decide +kernel
theorem dX3_close_19 : decode cX3_close 19 = .ok (.baload, 1) := by decide +kernel
theorem dX3_close_20 : decode cX3_close 20 = .ok (.ifCond .eq 13, 3) := by decide +kernel
theorem dX3_close_23 : decode cX3_close 23 = .ok (.new 70, 3) := by decide +kernel
theorem dX3_close_26 : decode cX3_close 26 = .ok (.dup, 1) := by decide +kernel
theorem dX3_close_27 : decode cX3_close 27 = .ok (.ldc 99, 2) := by decide +kernel
theorem dX3_close_29 : decode cX3_close 29 = .ok (.invokespecial 74, 3) := by decide +kernel
theorem dX3_close_32 : decode cX3_close 32 = .ok (.athrow, 1) := by decide +kernel
theorem dX3_close_33 : decode cX3_close 33 = .ok (.iconst 0, 1) := by decide +kernel
theorem dX3_close_34 : decode cX3_close 34 = .ok (.istore_n 2, 1) := by decide +kernel
theorem dX3_close_35 : decode cX3_close 35 = .ok (.iconst 0, 1) := by decide +kernel
theorem dX3_close_36 : decode cX3_close 36 = .ok (.istore_n 3, 1) := by decide +kernel
theorem dX3_close_37 : decode cX3_close 37 = .ok (.iload_n 3, 1) := by decide +kernel
theorem dX3_close_38 : decode cX3_close 38 = .ok (.iconst 5, 1) := by decide +kernel
theorem dX3_close_39 : decode cX3_close 39 = .ok (.if_icmp .ge 56, 3) := by decide +kernel
theorem dX3_close_42 : decode cX3_close 42 = .ok (.iload_n 1, 1) := by decide +kernel
theorem dX3_close_43 : decode cX3_close 43 = .ok (.iload_n 3, 1) := by decide +kernel
theorem dX3_close_44 : decode cX3_close 44 = .ok (.invokestatic 92, 3) := by decide +kernel
theorem dX3_close_47 : decode cX3_close 47 = .ok (.istore 4, 2) := by decide +kernel
theorem dX3_close_49 : decode cX3_close 49 = .ok (.aload_n 0, 1) := by decide +kernel
theorem dX3_close_50 : decode cX3_close 50 = .ok (.getfield 33, 3) := by decide +kernel
theorem dX3_close_53 : decode cX3_close 53 = .ok (.iload 4, 2) := by decide +kernel
theorem dX3_close_55 : decode cX3_close 55 = .ok (.invokevirtual 101, 3) := by decide +kernel
theorem dX3_close_58 : decode cX3_close 58 = .ok (.ifCond .eq 9, 3) := by decide +kernel
theorem dX3_close_61 : decode cX3_close 61 = .ok (.iinc 2 1, 3) := by decide +kernel
theorem dX3_close_64 : decode cX3_close 64 = .ok (.goto 25, 3) := by decide +kernel
theorem dX3_close_67 : decode cX3_close 67 = .ok (.aload_n 0, 1) := by decide +kernel
theorem dX3_close_68 : decode cX3_close 68 = .ok (.getfield 33, 3) := by decide +kernel
theorem dX3_close_71 : decode cX3_close 71 = .ok (.iload 4, 2) := by decide +kernel
theorem dX3_close_73 : decode cX3_close 73 = .ok (.invokevirtual 114, 3) := by decide +kernel
theorem dX3_close_76 : decode cX3_close 76 = .ok (.ifCond .le 13, 3) := by decide +kernel
theorem dX3_close_79 : decode cX3_close 79 = .ok (.new 70, 3) := by decide +kernel
theorem dX3_close_82 : decode cX3_close 82 = .ok (.dup, 1) := by decide +kernel
theorem dX3_close_83 : decode cX3_close 83 = .ok (.ldc 118, 2) := by decide +kernel
theorem dX3_close_85 : decode cX3_close 85 = .ok (.invokespecial 74, 3) := by decide +kernel
theorem dX3_close_88 : decode cX3_close 88 = .ok (.athrow, 1) := by decide +kernel
theorem dX3_close_89 : decode cX3_close 89 = .ok (.iinc 3 1, 3) := by decide +kernel
theorem dX3_close_92 : decode cX3_close 92 = .ok (.goto (-55), 3) := by decide +kernel
theorem dX3_close_95 : decode cX3_close 95 = .ok (.aload_n 0, 1) := by decide +kernel
theorem dX3_close_96 : decode cX3_close 96 = .ok (.getfield 26, 3) := by decide +kernel
theorem dX3_close_99 : decode cX3_close 99 = .ok (.getfield 95, 3) := by decide +kernel
theorem dX3_close_102 : decode cX3_close 102 = .ok (.iload_n 1, 1) := by decide +kernel
theorem dX3_close_103 : decode cX3_close 103 = .ok (.iconst 1, 1) := by decide +kernel
theorem dX3_close_104 : decode cX3_close 104 = .ok (.bastore, 1) := by decide +kernel
theorem dX3_close_105 : decode cX3_close 105 = .ok (.iload_n 2, 1) := by decide +kernel
theorem dX3_close_106 : decode cX3_close 106 = .ok (.ireturn, 1) := by decide +kernel
theorem dX3_sign_0 : decode cX3_sign 0 = .ok (.iload_n 1, 1) := by decide +kernel
theorem dX3_sign_1 : decode cX3_sign 1 = .ok (.aload_n 0, 1) := by decide +kernel
theorem dX3_sign_2 : decode cX3_sign 2 = .ok (.getfield 26, 3) := by decide +kernel
theorem dX3_sign_5 : decode cX3_sign 5 = .ok (.getfield 85, 3) := by decide +kernel
theorem dX3_sign_8 : decode cX3_sign 8 = .ok (.invokestatic 47, 3) := by decide +kernel
theorem dX3_sign_11 : decode cX3_sign 11 = .ok (.iload_n 2, 1) := by decide +kernel
theorem dX3_sign_12 : decode cX3_sign 12 = .ok (.iconst 5, 1) := by decide +kernel
theorem dX3_sign_13 : decode cX3_sign 13 = .ok (.invokestatic 47, 3) := by decide +kernel
theorem dX3_sign_16 : decode cX3_sign 16 = .ok (.iload_n 3, 1) := by decide +kernel
theorem dX3_sign_17 : decode cX3_sign 17 = .ok (.bipush 6, 2) := by decide +kernel
theorem dX3_sign_19 : decode cX3_sign 19 = .ok (.invokestatic 47, 3) := by decide +kernel
theorem dX3_sign_22 : decode cX3_sign 22 = .ok (.aload_n 0, 1) := by decide +kernel
theorem dX3_sign_23 : decode cX3_sign 23 = .ok (.iload_n 1, 1) := by decide +kernel
theorem dX3_sign_24 : decode cX3_sign 24 = .ok (.iload_n 2, 1) := by decide +kernel
theorem dX3_sign_25 : decode cX3_sign 25 = .ok (.invokevirtual 120, 3) := by decide +kernel
theorem dX3_sign_28 : decode cX3_sign 28 = .ok (.aload_n 0, 1) := by decide +kernel
theorem dX3_sign_29 : decode cX3_sign 29 = .ok (.iload_n 1, 1) := by decide +kernel
theorem dX3_sign_30 : decode cX3_sign 30 = .ok (.iload_n 2, 1) := by decide +kernel
theorem dX3_sign_31 : decode cX3_sign 31 = .ok (.invokevirtual 123, 3) := by decide +kernel
theorem dX3_sign_34 : decode cX3_sign 34 = .ok (.ifCond .ne 13, 3) := by decide +kernel
theorem dX3_sign_37 : decode cX3_sign 37 = .ok (.new 70, 3) := by decide +kernel
theorem dX3_sign_40 : decode cX3_sign 40 = .ok (.dup, 1) := by decide +kernel
theorem dX3_sign_41 : decode cX3_sign 41 = .ok (.ldc 126, 2) := by decide +kernel
theorem dX3_sign_43 : decode cX3_sign 43 = .ok (.invokespecial 74, 3) := by decide +kernel
theorem dX3_sign_46 : decode cX3_sign 46 = .ok (.athrow, 1) := by decide +kernel
theorem dX3_sign_47 : decode cX3_sign 47 = .ok (.aload_n 0, 1) := by decide +kernel
theorem dX3_sign_48 : decode cX3_sign 48 = .ok (.iload_n 1, 1) := by decide +kernel
theorem dX3_sign_49 : decode cX3_sign 49 = .ok (.iload_n 2, 1) := by decide +kernel
theorem dX3_sign_50 : decode cX3_sign 50 = .ok (.invokevirtual 128, 3) := by decide +kernel
theorem dX3_sign_53 : decode cX3_sign 53 = .ok (.istore 4, 2) := by decide +kernel
theorem dX3_sign_55 : decode cX3_sign 55 = .ok (.aload_n 0, 1) := by decide +kernel
theorem dX3_sign_56 : decode cX3_sign 56 = .ok (.getfield 13, 3) := by decide +kernel
theorem dX3_sign_59 : decode cX3_sign 59 = .ok (.iload_n 3, 1) := by decide +kernel
theorem dX3_sign_60 : decode cX3_sign 60 = .ok (.iaload, 1) := by decide +kernel
theorem dX3_sign_61 : decode cX3_sign 61 = .ok (.aload_n 0, 1) := by decide +kernel
theorem dX3_sign_62 : decode cX3_sign 62 = .ok (.getfield 9, 3) := by decide +kernel
theorem dX3_sign_65 : decode cX3_sign 65 = .ok (.iload_n 2, 1) := by decide +kernel
theorem dX3_sign_66 : decode cX3_sign 66 = .ok (.iaload, 1) := by decide +kernel
theorem dX3_sign_67 : decode cX3_sign 67 = .ok (.iload 4, 2) := by decide +kernel
theorem dX3_sign_69 : decode cX3_sign 69 = .ok (.invokestatic 131, 3) := by decide +kernel
theorem dX3_sign_72 : decode cX3_sign 72 = .ok (.imul, 1) := by decide +kernel
theorem dX3_sign_73 : decode cX3_sign 73 = .ok (.if_icmp .ge 13, 3) := by decide +kernel
theorem dX3_sign_76 : decode cX3_sign 76 = .ok (.new 70, 3) := by decide +kernel
theorem dX3_sign_79 : decode cX3_sign 79 = .ok (.dup, 1) := by decide +kernel
theorem dX3_sign_80 : decode cX3_sign 80 = .ok (.ldc 136, 2) := by decide +kernel
theorem dX3_sign_82 : decode cX3_sign 82 = .ok (.invokespecial 74, 3) := by decide +kernel
theorem dX3_sign_85 : decode cX3_sign 85 = .ok (.athrow, 1) := by decide +kernel
theorem dX3_sign_86 : decode cX3_sign 86 = .ok (.aload_n 0, 1) := by decide +kernel
theorem dX3_sign_87 : decode cX3_sign 87 = .ok (.getfield 33, 3) := by decide +kernel
theorem dX3_sign_90 : decode cX3_sign 90 = .ok (.iload_n 1, 1) := by decide +kernel
theorem dX3_sign_91 : decode cX3_sign 91 = .ok (.iload_n 2, 1) := by decide +kernel
theorem dX3_sign_92 : decode cX3_sign 92 = .ok (.invokestatic 92, 3) := by decide +kernel
theorem dX3_sign_95 : decode cX3_sign 95 = .ok (.iload 4, 2) := by decide +kernel
theorem dX3_sign_97 : decode cX3_sign 97 = .ok (.invokevirtual 138, 3) := by decide +kernel
theorem dX3_sign_100 : decode cX3_sign 100 = .ok (.iload 4, 2) := by decide +kernel
theorem dX3_sign_102 : decode cX3_sign 102 = .ok (.ireturn, 1) := by decide +kernel
theorem dX3_settle_0 : decode cX3_settle 0 = .ok (.iload_n 1, 1) := by decide +kernel
theorem dX3_settle_1 : decode cX3_settle 1 = .ok (.aload_n 0, 1) := by decide +kernel
theorem dX3_settle_2 : decode cX3_settle 2 = .ok (.getfield 26, 3) := by decide +kernel
theorem dX3_settle_5 : decode cX3_settle 5 = .ok (.getfield 85, 3) := by decide +kernel
theorem dX3_settle_8 : decode cX3_settle 8 = .ok (.invokestatic 47, 3) := by decide +kernel
theorem dX3_settle_11 : decode cX3_settle 11 = .ok (.iload_n 2, 1) := by decide +kernel
theorem dX3_settle_12 : decode cX3_settle 12 = .ok (.aload_n 0, 1) := by decide +kernel
theorem dX3_settle_13 : decode cX3_settle 13 = .ok (.getfield 26, 3) := by decide +kernel
theorem dX3_settle_16 : decode cX3_settle 16 = .ok (.getfield 85, 3) := by decide +kernel
theorem dX3_settle_19 : decode cX3_settle 19 = .ok (.invokestatic 47, 3) := by decide +kernel
theorem dX3_settle_22 : decode cX3_settle 22 = .ok (.iload_n 3, 1) := by decide +kernel
theorem dX3_settle_23 : decode cX3_settle 23 = .ok (.iconst 5, 1) := by decide +kernel
theorem dX3_settle_24 : decode cX3_settle 24 = .ok (.invokestatic 47, 3) := by decide +kernel
theorem dX3_settle_27 : decode cX3_settle 27 = .ok (.aload_n 0, 1) := by decide +kernel
theorem dX3_settle_28 : decode cX3_settle 28 = .ok (.iload_n 1, 1) := by decide +kernel
theorem dX3_settle_29 : decode cX3_settle 29 = .ok (.iload_n 3, 1) := by decide +kernel
theorem dX3_settle_30 : decode cX3_settle 30 = .ok (.invokevirtual 120, 3) := by decide +kernel
theorem dX3_settle_33 : decode cX3_settle 33 = .ok (.aload_n 0, 1) := by decide +kernel
theorem dX3_settle_34 : decode cX3_settle 34 = .ok (.iload_n 2, 1) := by decide +kernel
theorem dX3_settle_35 : decode cX3_settle 35 = .ok (.iload_n 3, 1) := by decide +kernel
theorem dX3_settle_36 : decode cX3_settle 36 = .ok (.invokevirtual 120, 3) := by decide +kernel
theorem dX3_settle_39 : decode cX3_settle 39 = .ok (.aload_n 0, 1) := by decide +kernel
theorem dX3_settle_40 : decode cX3_settle 40 = .ok (.iload_n 1, 1) := by decide +kernel
theorem dX3_settle_41 : decode cX3_settle 41 = .ok (.iload_n 2, 1) := by decide +kernel
theorem dX3_settle_42 : decode cX3_settle 42 = .ok (.iload_n 3, 1) := by decide +kernel
theorem dX3_settle_43 : decode cX3_settle 43 = .ok (.invokevirtual 141, 3) := by decide +kernel
theorem dX3_settle_46 : decode cX3_settle 46 = .ok (.ifCond .ne 13, 3) := by decide +kernel
theorem dX3_settle_49 : decode cX3_settle 49 = .ok (.new 70, 3) := by decide +kernel
theorem dX3_settle_52 : decode cX3_settle 52 = .ok (.dup, 1) := by decide +kernel
theorem dX3_settle_53 : decode cX3_settle 53 = .ok (.ldc 145, 2) := by decide +kernel
theorem dX3_settle_55 : decode cX3_settle 55 = .ok (.invokespecial 74, 3) := by decide +kernel
theorem dX3_settle_58 : decode cX3_settle 58 = .ok (.athrow, 1) := by decide +kernel
theorem dX3_settle_59 : decode cX3_settle 59 = .ok (.aload_n 0, 1) := by decide +kernel
theorem dX3_settle_60 : decode cX3_settle 60 = .ok (.iload_n 1, 1) := by decide +kernel
theorem dX3_settle_61 : decode cX3_settle 61 = .ok (.iload_n 3, 1) := by decide +kernel
theorem dX3_settle_62 : decode cX3_settle 62 = .ok (.invokevirtual 128, 3) := by decide +kernel
theorem dX3_settle_65 : decode cX3_settle 65 = .ok (.istore 4, 2) := by decide +kernel
theorem dX3_settle_67 : decode cX3_settle 67 = .ok (.aload_n 0, 1) := by decide +kernel
theorem dX3_settle_68 : decode cX3_settle 68 = .ok (.getfield 33, 3) := by decide +kernel
theorem dX3_settle_71 : decode cX3_settle 71 = .ok (.iload_n 1, 1) := by decide +kernel
theorem dX3_settle_72 : decode cX3_settle 72 = .ok (.iload_n 3, 1) := by decide +kernel
theorem dX3_settle_73 : decode cX3_settle 73 = .ok (.invokestatic 92, 3) := by decide +kernel
theorem dX3_settle_76 : decode cX3_settle 76 = .ok (.iload 4, 2) := by decide +kernel
theorem dX3_settle_78 : decode cX3_settle 78 = .ok (.invokevirtual 138, 3) := by decide +kernel
theorem dX3_settle_81 : decode cX3_settle 81 = .ok (.aload_n 0, 1) := by decide +kernel
theorem dX3_settle_82 : decode cX3_settle 82 = .ok (.getfield 33, 3) := by decide +kernel
theorem dX3_settle_85 : decode cX3_settle 85 = .ok (.iload_n 2, 1) := by decide +kernel
theorem dX3_settle_86 : decode cX3_settle 86 = .ok (.iload_n 3, 1) := by decide +kernel
theorem dX3_settle_87 : decode cX3_settle 87 = .ok (.invokestatic 92, 3) := by decide +kernel
theorem dX3_settle_90 : decode cX3_settle 90 = .ok (.iload 4, 2) := by decide +kernel
theorem dX3_settle_92 : decode cX3_settle 92 = .ok (.ineg, 1) := by decide +kernel
theorem dX3_settle_93 : decode cX3_settle 93 = .ok (.invokevirtual 138, 3) := by decide +kernel
theorem dX3_settle_96 : decode cX3_settle 96 = .ok (.iload 4, 2) := by decide +kernel
theorem dX3_settle_98 : decode cX3_settle 98 = .ok (.invokestatic 131, 3) := by decide +kernel
theorem dX3_settle_101 : decode cX3_settle 101 = .ok (.ireturn, 1) := by decide +kernel
theorem dX3_now_0 : decode cX3_now 0 = .ok (.aload_n 0, 1) := by decide +kernel
theorem dX3_now_1 : decode cX3_now 1 = .ok (.getfield 37, 3) := by decide +kernel
theorem dX3_now_4 : decode cX3_now 4 = .ok (.ireturn, 1) := by decide +kernel
theorem dX3_moves_0 : decode cX3_moves 0 = .ok (.aload_n 0, 1) := by decide +kernel
theorem dX3_moves_1 : decode cX3_moves 1 = .ok (.getfield 19, 3) := by decide +kernel
theorem dX3_moves_4 : decode cX3_moves 4 = .ok (.getfield 67, 3) := by decide +kernel
theorem dX3_moves_7 : decode cX3_moves 7 = .ok (.ireturn, 1) := by decide +kernel
theorem dX3_book_0 : decode cX3_book 0 = .ok (.iload_n 1, 1) := by decide +kernel
theorem dX3_book_1 : decode cX3_book 1 = .ok (.bipush 12, 2) := by decide +kernel
theorem dX3_book_3 : decode cX3_book 3 = .ok (.invokestatic 47, 3) := by decide +kernel
theorem dX3_book_6 : decode cX3_book 6 = .ok (.iload_n 2, 1) := by decide +kernel
theorem dX3_book_7 : decode cX3_book 7 = .ok (.iconst 5, 1) := by decide +kernel
theorem dX3_book_8 : decode cX3_book 8 = .ok (.invokestatic 47, 3) := by decide +kernel
theorem dX3_book_11 : decode cX3_book 11 = .ok (.aload_n 0, 1) := by decide +kernel
theorem dX3_book_12 : decode cX3_book 12 = .ok (.iload_n 1, 1) := by decide +kernel
theorem dX3_book_13 : decode cX3_book 13 = .ok (.iload_n 2, 1) := by decide +kernel
theorem dX3_book_14 : decode cX3_book 14 = .ok (.aload_n 0, 1) := by decide +kernel
theorem dX3_book_15 : decode cX3_book 15 = .ok (.getfield 37, 3) := by decide +kernel
theorem dX3_book_18 : decode cX3_book 18 = .ok (.invokevirtual 147, 3) := by decide +kernel
theorem dX3_book_21 : decode cX3_book 21 = .ok (.ireturn, 1) := by decide +kernel
theorem dX3_bookAt_0 : decode cX3_bookAt 0 = .ok (.iload_n 1, 1) := by decide +kernel
theorem dX3_bookAt_1 : decode cX3_bookAt 1 = .ok (.bipush 12, 2) := by decide +kernel
theorem dX3_bookAt_3 : decode cX3_bookAt 3 = .ok (.invokestatic 47, 3) := by decide +kernel
theorem dX3_bookAt_6 : decode cX3_bookAt 6 = .ok (.iload_n 2, 1) := by decide +kernel
theorem dX3_bookAt_7 : decode cX3_bookAt 7 = .ok (.iconst 5, 1) := by decide +kernel
theorem dX3_bookAt_8 : decode cX3_bookAt 8 = .ok (.invokestatic 47, 3) := by decide +kernel
theorem dX3_bookAt_11 : decode cX3_bookAt 11 = .ok (.iload_n 3, 1) := by decide +kernel
theorem dX3_bookAt_12 : decode cX3_bookAt 12 = .ok (.iconst 0, 1) := by decide +kernel
theorem dX3_bookAt_13 : decode cX3_bookAt 13 = .ok (.aload_n 0, 1) := by decide +kernel
theorem dX3_bookAt_14 : decode cX3_bookAt 14 = .ok (.getfield 37, 3) := by decide +kernel
theorem dX3_bookAt_17 : decode cX3_bookAt 17 = .ok (.invokestatic 51, 3) := by decide +kernel
theorem dX3_bookAt_20 : decode cX3_bookAt 20 = .ok (.aload_n 0, 1) := by decide +kernel
theorem dX3_bookAt_21 : decode cX3_bookAt 21 = .ok (.iload_n 1, 1) := by decide +kernel
theorem dX3_bookAt_22 : decode cX3_bookAt 22 = .ok (.iload_n 2, 1) := by decide +kernel
theorem dX3_bookAt_23 : decode cX3_bookAt 23 = .ok (.iload_n 3, 1) := by decide +kernel
theorem dX3_bookAt_24 : decode cX3_bookAt 24 = .ok (.invokevirtual 147, 3) := by decide +kernel
theorem dX3_bookAt_27 : decode cX3_bookAt 27 = .ok (.ireturn, 1) := by decide +kernel
theorem dX3_worth_0 : decode cX3_worth 0 = .ok (.iload_n 1, 1) := by decide +kernel
theorem dX3_worth_1 : decode cX3_worth 1 = .ok (.bipush 12, 2) := by decide +kernel
theorem dX3_worth_3 : decode cX3_worth 3 = .ok (.invokestatic 47, 3) := by decide +kernel
theorem dX3_worth_6 : decode cX3_worth 6 = .ok (.aload_n 0, 1) := by decide +kernel
theorem dX3_worth_7 : decode cX3_worth 7 = .ok (.iload_n 1, 1) := by decide +kernel
theorem dX3_worth_8 : decode cX3_worth 8 = .ok (.invokevirtual 151, 3) := by decide +kernel
theorem dX3_worth_11 : decode cX3_worth 11 = .ok (.ireturn, 1) := by decide +kernel
theorem dX3_suggested_0 : decode cX3_suggested 0 = .ok (.iconst (-1), 1) := by decide +kernel
theorem dX3_suggested_1 : decode cX3_suggested 1 = .ok (.istore_n 1, 1) := by decide +kernel
theorem dX3_suggested_2 : decode cX3_suggested 2 = .ok (.lconst 0, 1) := by decide +kernel
theorem dX3_suggested_3 : decode cX3_suggested 3 = .ok (.lstore_n 2, 1) := by decide +kernel
theorem dX3_suggested_4 : decode cX3_suggested 4 = .ok (.iconst 0, 1) := by decide +kernel
theorem dX3_suggested_5 : decode cX3_suggested 5 = .ok (.istore 4, 2) := by decide +kernel
theorem dX3_suggested_7 : decode cX3_suggested 7 = .ok (.iload 4, 2) := by decide +kernel
theorem dX3_suggested_9 : decode cX3_suggested 9 = .ok (.bipush 12, 2) := by decide +kernel
theorem dX3_suggested_11 : decode cX3_suggested 11 = .ok (.if_icmp .ge 47, 3) := by decide +kernel
theorem dX3_suggested_14 : decode cX3_suggested 14 = .ok (.aload_n 0, 1) := by decide +kernel
theorem dX3_suggested_15 : decode cX3_suggested 15 = .ok (.getfield 26, 3) := by decide +kernel
theorem dX3_suggested_18 : decode cX3_suggested 18 = .ok (.iload 4, 2) := by decide +kernel
theorem dX3_suggested_20 : decode cX3_suggested 20 = .ok (.invokevirtual 79, 3) := by decide +kernel
theorem dX3_suggested_23 : decode cX3_suggested 23 = .ok (.ifCond .ne 29, 3) := by decide +kernel
theorem dX3_suggested_26 : decode cX3_suggested 26 = .ok (.aload_n 0, 1) := by decide +kernel
theorem dX3_suggested_27 : decode cX3_suggested 27 = .ok (.iload 4, 2) := by decide +kernel
theorem dX3_suggested_29 : decode cX3_suggested 29 = .ok (.invokevirtual 154, 3) := by decide +kernel
theorem dX3_suggested_32 : decode cX3_suggested 32 = .ok (.lstore 5, 2) := by decide +kernel
theorem dX3_suggested_34 : decode cX3_suggested 34 = .ok (.iload_n 1, 1) := by decide +kernel
theorem dX3_suggested_35 : decode cX3_suggested 35 = .ok (.iconst (-1), 1) := by decide +kernel
theorem dX3_suggested_36 : decode cX3_suggested 36 = .ok (.if_icmp .eq 10, 3) := by decide +kernel
theorem dX3_suggested_39 : decode cX3_suggested 39 = .ok (.lload 5, 2) := by decide +kernel
theorem dX3_suggested_41 : decode cX3_suggested 41 = .ok (.lload_n 2, 1) := by decide +kernel
theorem dX3_suggested_42 : decode cX3_suggested 42 = .ok (.lcmp, 1) := by decide +kernel
theorem dX3_suggested_43 : decode cX3_suggested 43 = .ok (.ifCond .le 9, 3) := by decide +kernel
theorem dX3_suggested_46 : decode cX3_suggested 46 = .ok (.iload 4, 2) := by decide +kernel
theorem dX3_suggested_48 : decode cX3_suggested 48 = .ok (.istore_n 1, 1) := by decide +kernel
theorem dX3_suggested_49 : decode cX3_suggested 49 = .ok (.lload 5, 2) := by decide +kernel
theorem dX3_suggested_51 : decode cX3_suggested 51 = .ok (.lstore_n 2, 1) := by decide +kernel
theorem dX3_suggested_52 : decode cX3_suggested 52 = .ok (.iinc 4 1, 3) := by decide +kernel
theorem dX3_suggested_55 : decode cX3_suggested 55 = .ok (.goto (-48), 3) := by decide +kernel
theorem dX3_suggested_58 : decode cX3_suggested 58 = .ok (.iload_n 1, 1) := by decide +kernel
theorem dX3_suggested_59 : decode cX3_suggested 59 = .ok (.ireturn, 1) := by decide +kernel
theorem dX3_sheets_0 : decode cX3_sheets 0 = .ok (.aload_n 0, 1) := by decide +kernel
theorem dX3_sheets_1 : decode cX3_sheets 1 = .ok (.getfield 26, 3) := by decide +kernel
theorem dX3_sheets_4 : decode cX3_sheets 4 = .ok (.getfield 85, 3) := by decide +kernel
theorem dX3_sheets_7 : decode cX3_sheets 7 = .ok (.ireturn, 1) := by decide +kernel
theorem dX3_stateOf_0 : decode cX3_stateOf 0 = .ok (.iload_n 1, 1) := by decide +kernel
theorem dX3_stateOf_1 : decode cX3_stateOf 1 = .ok (.aload_n 0, 1) := by decide +kernel
theorem dX3_stateOf_2 : decode cX3_stateOf 2 = .ok (.getfield 26, 3) := by decide +kernel
theorem dX3_stateOf_5 : decode cX3_stateOf 5 = .ok (.getfield 85, 3) := by decide +kernel
theorem dX3_stateOf_8 : decode cX3_stateOf 8 = .ok (.invokestatic 47, 3) := by decide +kernel
theorem dX3_stateOf_11 : decode cX3_stateOf 11 = .ok (.aload_n 0, 1) := by decide +kernel
theorem dX3_stateOf_12 : decode cX3_stateOf 12 = .ok (.getfield 26, 3) := by decide +kernel
theorem dX3_stateOf_15 : decode cX3_stateOf 15 = .ok (.getfield 95, 3) := by decide +kernel
theorem dX3_stateOf_18 : decode cX3_stateOf 18 = .ok (.iload_n 1, 1) := by decide +kernel
theorem dX3_stateOf_19 : decode cX3_stateOf 19 = .ok (.baload, 1) := by decide +kernel
theorem dX3_stateOf_20 : decode cX3_stateOf 20 = .ok (.ifCond .eq 7, 3) := by decide +kernel
theorem dX3_stateOf_23 : decode cX3_stateOf 23 = .ok (.iconst 1, 1) := by decide +kernel
theorem dX3_stateOf_24 : decode cX3_stateOf 24 = .ok (.goto 4, 3) := by decide +kernel
theorem dX3_stateOf_27 : decode cX3_stateOf 27 = .ok (.iconst 0, 1) := by decide +kernel
theorem dX3_stateOf_28 : decode cX3_stateOf 28 = .ok (.ireturn, 1) := by decide +kernel
theorem dX3_cutOf_0 : decode cX3_cutOf 0 = .ok (.iload_n 1, 1) := by decide +kernel
theorem dX3_cutOf_1 : decode cX3_cutOf 1 = .ok (.aload_n 0, 1) := by decide +kernel
theorem dX3_cutOf_2 : decode cX3_cutOf 2 = .ok (.getfield 26, 3) := by decide +kernel
theorem dX3_cutOf_5 : decode cX3_cutOf 5 = .ok (.getfield 85, 3) := by decide +kernel
theorem dX3_cutOf_8 : decode cX3_cutOf 8 = .ok (.invokestatic 47, 3) := by decide +kernel
theorem dX3_cutOf_11 : decode cX3_cutOf 11 = .ok (.aload_n 0, 1) := by decide +kernel
theorem dX3_cutOf_12 : decode cX3_cutOf 12 = .ok (.getfield 26, 3) := by decide +kernel
theorem dX3_cutOf_15 : decode cX3_cutOf 15 = .ok (.getfield 158, 3) := by decide +kernel
theorem dX3_cutOf_18 : decode cX3_cutOf 18 = .ok (.iload_n 1, 1) := by decide +kernel
theorem dX3_cutOf_19 : decode cX3_cutOf 19 = .ok (.iaload, 1) := by decide +kernel
theorem dX3_cutOf_20 : decode cX3_cutOf 20 = .ok (.ireturn, 1) := by decide +kernel
theorem dX3_counts_0 : decode cX3_counts 0 = .ok (.aload_n 0, 1) := by decide +kernel
theorem dX3_counts_1 : decode cX3_counts 1 = .ok (.iload_n 1, 1) := by decide +kernel
theorem dX3_counts_2 : decode cX3_counts 2 = .ok (.iload_n 2, 1) := by decide +kernel
theorem dX3_counts_3 : decode cX3_counts 3 = .ok (.invokevirtual 161, 3) := by decide +kernel
theorem dX3_counts_6 : decode cX3_counts 6 = .ok (.aload_n 0, 1) := by decide +kernel
theorem dX3_counts_7 : decode cX3_counts 7 = .ok (.getfield 33, 3) := by decide +kernel
theorem dX3_counts_10 : decode cX3_counts 10 = .ok (.iload_n 1, 1) := by decide +kernel
theorem dX3_counts_11 : decode cX3_counts 11 = .ok (.iload_n 2, 1) := by decide +kernel
theorem dX3_counts_12 : decode cX3_counts 12 = .ok (.invokestatic 92, 3) := by decide +kernel
theorem dX3_counts_15 : decode cX3_counts 15 = .ok (.invokevirtual 114, 3) := by decide +kernel
theorem dX3_counts_18 : decode cX3_counts 18 = .ok (.ireturn, 1) := by decide +kernel
theorem dX3_agreed_0 : decode cX3_agreed 0 = .ok (.aload_n 0, 1) := by decide +kernel
theorem dX3_agreed_1 : decode cX3_agreed 1 = .ok (.iload_n 1, 1) := by decide +kernel
theorem dX3_agreed_2 : decode cX3_agreed 2 = .ok (.iload_n 2, 1) := by decide +kernel
theorem dX3_agreed_3 : decode cX3_agreed 3 = .ok (.invokevirtual 161, 3) := by decide +kernel
theorem dX3_agreed_6 : decode cX3_agreed 6 = .ok (.aload_n 0, 1) := by decide +kernel
theorem dX3_agreed_7 : decode cX3_agreed 7 = .ok (.getfield 33, 3) := by decide +kernel
theorem dX3_agreed_10 : decode cX3_agreed 10 = .ok (.getfield 164, 3) := by decide +kernel
theorem dX3_agreed_13 : decode cX3_agreed 13 = .ok (.iload_n 1, 1) := by decide +kernel
theorem dX3_agreed_14 : decode cX3_agreed 14 = .ok (.iload_n 2, 1) := by decide +kernel
theorem dX3_agreed_15 : decode cX3_agreed 15 = .ok (.invokestatic 92, 3) := by decide +kernel
theorem dX3_agreed_18 : decode cX3_agreed 18 = .ok (.iaload, 1) := by decide +kernel
theorem dX3_agreed_19 : decode cX3_agreed 19 = .ok (.ireturn, 1) := by decide +kernel
theorem dX3_gap_0 : decode cX3_gap 0 = .ok (.aload_n 0, 1) := by decide +kernel
theorem dX3_gap_1 : decode cX3_gap 1 = .ok (.iload_n 1, 1) := by decide +kernel
theorem dX3_gap_2 : decode cX3_gap 2 = .ok (.iload_n 2, 1) := by decide +kernel
theorem dX3_gap_3 : decode cX3_gap 3 = .ok (.invokevirtual 161, 3) := by decide +kernel
theorem dX3_gap_6 : decode cX3_gap 6 = .ok (.aload_n 0, 1) := by decide +kernel
theorem dX3_gap_7 : decode cX3_gap 7 = .ok (.iload_n 1, 1) := by decide +kernel
theorem dX3_gap_8 : decode cX3_gap 8 = .ok (.iload_n 2, 1) := by decide +kernel
theorem dX3_gap_9 : decode cX3_gap 9 = .ok (.invokevirtual 120, 3) := by decide +kernel
theorem dX3_gap_12 : decode cX3_gap 12 = .ok (.aload_n 0, 1) := by decide +kernel
theorem dX3_gap_13 : decode cX3_gap 13 = .ok (.iload_n 1, 1) := by decide +kernel
theorem dX3_gap_14 : decode cX3_gap 14 = .ok (.iload_n 2, 1) := by decide +kernel
theorem dX3_gap_15 : decode cX3_gap 15 = .ok (.invokevirtual 128, 3) := by decide +kernel
theorem dX3_gap_18 : decode cX3_gap 18 = .ok (.ireturn, 1) := by decide +kernel
theorem dX3_isSigned_0 : decode cX3_isSigned 0 = .ok (.aload_n 0, 1) := by decide +kernel
theorem dX3_isSigned_1 : decode cX3_isSigned 1 = .ok (.iload_n 1, 1) := by decide +kernel
theorem dX3_isSigned_2 : decode cX3_isSigned 2 = .ok (.iload_n 2, 1) := by decide +kernel
theorem dX3_isSigned_3 : decode cX3_isSigned 3 = .ok (.invokevirtual 161, 3) := by decide +kernel
theorem dX3_isSigned_6 : decode cX3_isSigned 6 = .ok (.aload_n 0, 1) := by decide +kernel
theorem dX3_isSigned_7 : decode cX3_isSigned 7 = .ok (.getfield 33, 3) := by decide +kernel
theorem dX3_isSigned_10 : decode cX3_isSigned 10 = .ok (.iload_n 1, 1) := by decide +kernel
theorem dX3_isSigned_11 : decode cX3_isSigned 11 = .ok (.iload_n 2, 1) := by decide +kernel
theorem dX3_isSigned_12 : decode cX3_isSigned 12 = .ok (.invokestatic 92, 3) := by decide +kernel
theorem dX3_isSigned_15 : decode cX3_isSigned 15 = .ok (.invokevirtual 167, 3) := by decide +kernel
theorem dX3_isSigned_18 : decode cX3_isSigned 18 = .ok (.ireturn, 1) := by decide +kernel
theorem dX3_likely_0 : decode cX3_likely 0 = .ok (.aload_n 0, 1) := by decide +kernel
theorem dX3_likely_1 : decode cX3_likely 1 = .ok (.iload_n 1, 1) := by decide +kernel
theorem dX3_likely_2 : decode cX3_likely 2 = .ok (.iload_n 2, 1) := by decide +kernel
theorem dX3_likely_3 : decode cX3_likely 3 = .ok (.invokevirtual 161, 3) := by decide +kernel
theorem dX3_likely_6 : decode cX3_likely 6 = .ok (.iconst 0, 1) := by decide +kernel
theorem dX3_likely_7 : decode cX3_likely 7 = .ok (.istore_n 3, 1) := by decide +kernel
theorem dX3_likely_8 : decode cX3_likely 8 = .ok (.iload_n 3, 1) := by decide +kernel
theorem dX3_likely_9 : decode cX3_likely 9 = .ok (.aload_n 0, 1) := by decide +kernel
theorem dX3_likely_10 : decode cX3_likely 10 = .ok (.getfield 26, 3) := by decide +kernel
theorem dX3_likely_13 : decode cX3_likely 13 = .ok (.getfield 85, 3) := by decide +kernel
theorem dX3_likely_16 : decode cX3_likely 16 = .ok (.if_icmp .ge 21, 3) := by decide +kernel
theorem dX3_likely_19 : decode cX3_likely 19 = .ok (.aload_n 0, 1) := by decide +kernel
theorem dX3_likely_20 : decode cX3_likely 20 = .ok (.iload_n 1, 1) := by decide +kernel
theorem dX3_likely_21 : decode cX3_likely 21 = .ok (.iload_n 3, 1) := by decide +kernel
theorem dX3_likely_22 : decode cX3_likely 22 = .ok (.iload_n 2, 1) := by decide +kernel
theorem dX3_likely_23 : decode cX3_likely 23 = .ok (.invokevirtual 141, 3) := by decide +kernel
theorem dX3_likely_26 : decode cX3_likely 26 = .ok (.ifCond .eq 5, 3) := by decide +kernel
theorem dX3_likely_29 : decode cX3_likely 29 = .ok (.iload_n 3, 1) := by decide +kernel
theorem dX3_likely_30 : decode cX3_likely 30 = .ok (.ireturn, 1) := by decide +kernel
theorem dX3_likely_31 : decode cX3_likely 31 = .ok (.iinc 3 1, 3) := by decide +kernel
theorem dX3_likely_34 : decode cX3_likely 34 = .ok (.goto (-26), 3) := by decide +kernel
theorem dX3_likely_37 : decode cX3_likely 37 = .ok (.iconst (-1), 1) := by decide +kernel
theorem dX3_likely_38 : decode cX3_likely 38 = .ok (.ireturn, 1) := by decide +kernel
theorem dX3_exact_0 : decode cX3_exact 0 = .ok (.iload_n 1, 1) := by decide +kernel
theorem dX3_exact_1 : decode cX3_exact 1 = .ok (.iconst 3, 1) := by decide +kernel
theorem dX3_exact_2 : decode cX3_exact 2 = .ok (.invokestatic 47, 3) := by decide +kernel
theorem dX3_exact_5 : decode cX3_exact 5 = .ok (.iconst 0, 1) := by decide +kernel
theorem dX3_exact_6 : decode cX3_exact 6 = .ok (.istore_n 2, 1) := by decide +kernel
theorem dX3_exact_7 : decode cX3_exact 7 = .ok (.iconst 0, 1) := by decide +kernel
theorem dX3_exact_8 : decode cX3_exact 8 = .ok (.istore_n 3, 1) := by decide +kernel
theorem dX3_exact_9 : decode cX3_exact 9 = .ok (.iconst 0, 1) := by decide +kernel
theorem dX3_exact_10 : decode cX3_exact 10 = .ok (.istore 4, 2) := by decide +kernel
theorem dX3_exact_12 : decode cX3_exact 12 = .ok (.iload 4, 2) := by decide +kernel
theorem dX3_exact_14 : decode cX3_exact 14 = .ok (.aload_n 0, 1) := by decide +kernel
theorem dX3_exact_15 : decode cX3_exact 15 = .ok (.getfield 26, 3) := by decide +kernel
theorem dX3_exact_18 : decode cX3_exact 18 = .ok (.getfield 85, 3) := by decide +kernel
theorem dX3_exact_21 : decode cX3_exact 21 = .ok (.if_icmp .ge 85, 3) := by decide +kernel
theorem dX3_exact_24 : decode cX3_exact 24 = .ok (.aload_n 0, 1) := by decide +kernel
theorem dX3_exact_25 : decode cX3_exact 25 = .ok (.getfield 26, 3) := by decide +kernel
theorem dX3_exact_28 : decode cX3_exact 28 = .ok (.getfield 170, 3) := by decide +kernel
theorem dX3_exact_31 : decode cX3_exact 31 = .ok (.iload 4, 2) := by decide +kernel
theorem dX3_exact_33 : decode cX3_exact 33 = .ok (.iaload, 1) := by decide +kernel
theorem dX3_exact_34 : decode cX3_exact 34 = .ok (.iconst 4, 1) := by decide +kernel
theorem dX3_exact_35 : decode cX3_exact 35 = .ok (.idiv, 1) := by decide +kernel
theorem dX3_exact_36 : decode cX3_exact 36 = .ok (.iload_n 1, 1) := by decide +kernel
theorem dX3_exact_37 : decode cX3_exact 37 = .ok (.if_icmp .ne 63, 3) := by decide +kernel
theorem dX3_exact_40 : decode cX3_exact 40 = .ok (.iconst 0, 1) := by decide +kernel
theorem dX3_exact_41 : decode cX3_exact 41 = .ok (.istore 5, 2) := by decide +kernel
theorem dX3_exact_43 : decode cX3_exact 43 = .ok (.iload 5, 2) := by decide +kernel
theorem dX3_exact_45 : decode cX3_exact 45 = .ok (.iconst 5, 1) := by decide +kernel
theorem dX3_exact_46 : decode cX3_exact 46 = .ok (.if_icmp .ge 54, 3) := by decide +kernel
theorem dX3_exact_49 : decode cX3_exact 49 = .ok (.iload 4, 2) := by decide +kernel
theorem dX3_exact_51 : decode cX3_exact 51 = .ok (.iload 5, 2) := by decide +kernel
theorem dX3_exact_53 : decode cX3_exact 53 = .ok (.invokestatic 92, 3) := by decide +kernel
theorem dX3_exact_56 : decode cX3_exact 56 = .ok (.istore 6, 2) := by decide +kernel
theorem dX3_exact_58 : decode cX3_exact 58 = .ok (.aload_n 0, 1) := by decide +kernel
theorem dX3_exact_59 : decode cX3_exact 59 = .ok (.getfield 33, 3) := by decide +kernel
theorem dX3_exact_62 : decode cX3_exact 62 = .ok (.iload 6, 2) := by decide +kernel
theorem dX3_exact_64 : decode cX3_exact 64 = .ok (.invokevirtual 167, 3) := by decide +kernel
theorem dX3_exact_67 : decode cX3_exact 67 = .ok (.ifCond .eq 27, 3) := by decide +kernel
theorem dX3_exact_70 : decode cX3_exact 70 = .ok (.iinc 2 1, 3) := by decide +kernel
theorem dX3_exact_73 : decode cX3_exact 73 = .ok (.iload_n 3, 1) := by decide +kernel
theorem dX3_exact_74 : decode cX3_exact 74 = .ok (.aload_n 0, 1) := by decide +kernel
theorem dX3_exact_75 : decode cX3_exact 75 = .ok (.getfield 33, 3) := by decide +kernel
theorem dX3_exact_78 : decode cX3_exact 78 = .ok (.getfield 173, 3) := by decide +kernel
theorem dX3_exact_81 : decode cX3_exact 81 = .ok (.iload 6, 2) := by decide +kernel
theorem dX3_exact_83 : decode cX3_exact 83 = .ok (.iaload, 1) := by decide +kernel
theorem dX3_exact_84 : decode cX3_exact 84 = .ok (.ifCond .ne 7, 3) := by decide +kernel
theorem dX3_exact_87 : decode cX3_exact 87 = .ok (.iconst 1, 1) := by decide +kernel
theorem dX3_exact_88 : decode cX3_exact 88 = .ok (.goto 4, 3) := by decide +kernel
theorem dX3_exact_91 : decode cX3_exact 91 = .ok (.iconst 0, 1) := by decide +kernel
theorem dX3_exact_92 : decode cX3_exact 92 = .ok (.iadd, 1) := by decide +kernel
theorem dX3_exact_93 : decode cX3_exact 93 = .ok (.istore_n 3, 1) := by decide +kernel
theorem dX3_exact_94 : decode cX3_exact 94 = .ok (.iinc 5 1, 3) := by decide +kernel
theorem dX3_exact_97 : decode cX3_exact 97 = .ok (.goto (-54), 3) := by decide +kernel
theorem dX3_exact_100 : decode cX3_exact 100 = .ok (.iinc 4 1, 3) := by decide +kernel
theorem dX3_exact_103 : decode cX3_exact 103 = .ok (.goto (-91), 3) := by decide +kernel
theorem dX3_exact_106 : decode cX3_exact 106 = .ok (.iload_n 2, 1) := by decide +kernel
theorem dX3_exact_107 : decode cX3_exact 107 = .ok (.ifCond .ne 7, 3) := by decide +kernel
theorem dX3_exact_110 : decode cX3_exact 110 = .ok (.iconst (-1), 1) := by decide +kernel
theorem dX3_exact_111 : decode cX3_exact 111 = .ok (.goto 10, 3) := by decide +kernel
theorem dX3_exact_114 : decode cX3_exact 114 = .ok (.sipush 1000, 3) := by decide +kernel
theorem dX3_exact_117 : decode cX3_exact 117 = .ok (.iload_n 3, 1) := by decide +kernel
theorem dX3_exact_118 : decode cX3_exact 118 = .ok (.imul, 1) := by decide +kernel
theorem dX3_exact_119 : decode cX3_exact 119 = .ok (.iload_n 2, 1) := by decide +kernel
theorem dX3_exact_120 : decode cX3_exact 120 = .ok (.idiv, 1) := by decide +kernel
theorem dX3_exact_121 : decode cX3_exact 121 = .ok (.ireturn, 1) := by decide +kernel
theorem dX3_checkIndex_0 : decode cX3_checkIndex 0 = .ok (.iload_n 0, 1) := by decide +kernel
theorem dX3_checkIndex_1 : decode cX3_checkIndex 1 = .ok (.ifCond .lt 8, 3) := by decide +kernel
theorem dX3_checkIndex_4 : decode cX3_checkIndex 4 = .ok (.iload_n 0, 1) := by decide +kernel
theorem dX3_checkIndex_5 : decode cX3_checkIndex 5 = .ok (.iload_n 1, 1) := by decide +kernel
theorem dX3_checkIndex_6 : decode cX3_checkIndex 6 = .ok (.if_icmp .lt 13, 3) := by decide +kernel
theorem dX3_checkIndex_9 : decode cX3_checkIndex 9 = .ok (.new 176, 3) := by decide +kernel
theorem dX3_checkIndex_12 : decode cX3_checkIndex 12 = .ok (.dup, 1) := by decide +kernel
theorem dX3_checkIndex_13 : decode cX3_checkIndex 13 = .ok (.ldc 178, 2) := by decide +kernel
theorem dX3_checkIndex_15 : decode cX3_checkIndex 15 = .ok (.invokespecial 180, 3) := by decide +kernel
theorem dX3_checkIndex_18 : decode cX3_checkIndex 18 = .ok (.athrow, 1) := by decide +kernel
theorem dX3_checkIndex_19 : decode cX3_checkIndex 19 = .ok (.return_, 1) := by decide +kernel
theorem dX3_checkPlaceOrOutside_0 : decode cX3_checkPlaceOrOutside 0 = .ok (.iload_n 0, 1) := by decide +kernel
theorem dX3_checkPlaceOrOutside_1 : decode cX3_checkPlaceOrOutside 1 = .ok (.iconst (-1), 1) := by decide +kernel
theorem dX3_checkPlaceOrOutside_2 : decode cX3_checkPlaceOrOutside 2 = .ok (.if_icmp .eq 9, 3) := by decide +kernel
theorem dX3_checkPlaceOrOutside_5 : decode cX3_checkPlaceOrOutside 5 = .ok (.iload_n 0, 1) := by decide +kernel
theorem dX3_checkPlaceOrOutside_6 : decode cX3_checkPlaceOrOutside 6 = .ok (.bipush 12, 2) := by decide +kernel
theorem dX3_checkPlaceOrOutside_8 : decode cX3_checkPlaceOrOutside 8 = .ok (.invokestatic 47, 3) := by decide +kernel
theorem dX3_checkPlaceOrOutside_11 : decode cX3_checkPlaceOrOutside 11 = .ok (.return_, 1) := by decide +kernel
theorem dX3_checkRange_0 : decode cX3_checkRange 0 = .ok (.iload_n 0, 1) := by decide +kernel
theorem dX3_checkRange_1 : decode cX3_checkRange 1 = .ok (.iload_n 1, 1) := by decide +kernel
theorem dX3_checkRange_2 : decode cX3_checkRange 2 = .ok (.if_icmp .lt 8, 3) := by decide +kernel
theorem dX3_checkRange_5 : decode cX3_checkRange 5 = .ok (.iload_n 0, 1) := by decide +kernel
theorem dX3_checkRange_6 : decode cX3_checkRange 6 = .ok (.iload_n 2, 1) := by decide +kernel
theorem dX3_checkRange_7 : decode cX3_checkRange 7 = .ok (.if_icmp .le 13, 3) := by decide +kernel
theorem dX3_checkRange_10 : decode cX3_checkRange 10 = .ok (.new 60, 3) := by decide +kernel
theorem dX3_checkRange_13 : decode cX3_checkRange 13 = .ok (.dup, 1) := by decide +kernel
theorem dX3_checkRange_14 : decode cX3_checkRange 14 = .ok (.ldc 181, 2) := by decide +kernel
theorem dX3_checkRange_16 : decode cX3_checkRange 16 = .ok (.invokespecial 64, 3) := by decide +kernel
theorem dX3_checkRange_19 : decode cX3_checkRange 19 = .ok (.athrow, 1) := by decide +kernel
theorem dX3_checkRange_20 : decode cX3_checkRange 20 = .ok (.return_, 1) := by decide +kernel
theorem dX3_checkLine_0 : decode cX3_checkLine 0 = .ok (.iload_n 1, 1) := by decide +kernel
theorem dX3_checkLine_1 : decode cX3_checkLine 1 = .ok (.aload_n 0, 1) := by decide +kernel
theorem dX3_checkLine_2 : decode cX3_checkLine 2 = .ok (.getfield 26, 3) := by decide +kernel
theorem dX3_checkLine_5 : decode cX3_checkLine 5 = .ok (.getfield 85, 3) := by decide +kernel
theorem dX3_checkLine_8 : decode cX3_checkLine 8 = .ok (.invokestatic 47, 3) := by decide +kernel
theorem dX3_checkLine_11 : decode cX3_checkLine 11 = .ok (.iload_n 2, 1) := by decide +kernel
theorem dX3_checkLine_12 : decode cX3_checkLine 12 = .ok (.iconst 5, 1) := by decide +kernel
theorem dX3_checkLine_13 : decode cX3_checkLine 13 = .ok (.invokestatic 47, 3) := by decide +kernel
theorem dX3_checkLine_16 : decode cX3_checkLine 16 = .ok (.return_, 1) := by decide +kernel
theorem dX3_checkAgrees_0 : decode cX3_checkAgrees 0 = .ok (.aload_n 0, 1) := by decide +kernel
theorem dX3_checkAgrees_1 : decode cX3_checkAgrees 1 = .ok (.getfield 33, 3) := by decide +kernel
theorem dX3_checkAgrees_4 : decode cX3_checkAgrees 4 = .ok (.iload_n 1, 1) := by decide +kernel
theorem dX3_checkAgrees_5 : decode cX3_checkAgrees 5 = .ok (.iload_n 2, 1) := by decide +kernel
theorem dX3_checkAgrees_6 : decode cX3_checkAgrees 6 = .ok (.invokestatic 92, 3) := by decide +kernel
theorem dX3_checkAgrees_9 : decode cX3_checkAgrees 9 = .ok (.invokevirtual 101, 3) := by decide +kernel
theorem dX3_checkAgrees_12 : decode cX3_checkAgrees 12 = .ok (.ifCond .ne 13, 3) := by decide +kernel
theorem dX3_checkAgrees_15 : decode cX3_checkAgrees 15 = .ok (.new 183, 3) := by decide +kernel
theorem dX3_checkAgrees_18 : decode cX3_checkAgrees 18 = .ok (.dup, 1) := by decide +kernel
theorem dX3_checkAgrees_19 : decode cX3_checkAgrees 19 = .ok (.ldc 185, 2) := by decide +kernel
theorem dX3_checkAgrees_21 : decode cX3_checkAgrees 21 = .ok (.invokespecial 187, 3) := by decide +kernel
theorem dX3_checkAgrees_24 : decode cX3_checkAgrees 24 = .ok (.athrow, 1) := by decide +kernel
theorem dX3_checkAgrees_25 : decode cX3_checkAgrees 25 = .ok (.return_, 1) := by decide +kernel
theorem dX3_lineOf_0 : decode cX3_lineOf 0 = .ok (.iload_n 0, 1) := by decide +kernel
theorem dX3_lineOf_1 : decode cX3_lineOf 1 = .ok (.iconst 5, 1) := by decide +kernel
theorem dX3_lineOf_2 : decode cX3_lineOf 2 = .ok (.imul, 1) := by decide +kernel
theorem dX3_lineOf_3 : decode cX3_lineOf 3 = .ok (.iload_n 1, 1) := by decide +kernel
theorem dX3_lineOf_4 : decode cX3_lineOf 4 = .ok (.iadd, 1) := by decide +kernel
theorem dX3_lineOf_5 : decode cX3_lineOf 5 = .ok (.ireturn, 1) := by decide +kernel
theorem dX3_bookOf_0 : decode cX3_bookOf 0 = .ok (.aload_n 0, 1) := by decide +kernel
theorem dX3_bookOf_1 : decode cX3_bookOf 1 = .ok (.iload_n 1, 1) := by decide +kernel
theorem dX3_bookOf_2 : decode cX3_bookOf 2 = .ok (.iload_n 2, 1) := by decide +kernel
theorem dX3_bookOf_3 : decode cX3_bookOf 3 = .ok (.iload_n 3, 1) := by decide +kernel
theorem dX3_bookOf_4 : decode cX3_bookOf 4 = .ok (.invokevirtual 188, 3) := by decide +kernel
theorem dX3_bookOf_7 : decode cX3_bookOf 7 = .ok (.istore 4, 2) := by decide +kernel
theorem dX3_bookOf_9 : decode cX3_bookOf 9 = .ok (.iload 4, 2) := by decide +kernel
theorem dX3_bookOf_11 : decode cX3_bookOf 11 = .ok (.iconst (-1), 1) := by decide +kernel
theorem dX3_bookOf_12 : decode cX3_bookOf 12 = .ok (.if_icmp .ne 15, 3) := by decide +kernel
theorem dX3_bookOf_15 : decode cX3_bookOf 15 = .ok (.aload_n 0, 1) := by decide +kernel
theorem dX3_bookOf_16 : decode cX3_bookOf 16 = .ok (.getfield 19, 3) := by decide +kernel
theorem dX3_bookOf_19 : decode cX3_bookOf 19 = .ok (.iload_n 1, 1) := by decide +kernel
theorem dX3_bookOf_20 : decode cX3_bookOf 20 = .ok (.iload_n 2, 1) := by decide +kernel
theorem dX3_bookOf_21 : decode cX3_bookOf 21 = .ok (.iconst (-1), 1) := by decide +kernel
theorem dX3_bookOf_22 : decode cX3_bookOf 22 = .ok (.iload_n 3, 1) := by decide +kernel
theorem dX3_bookOf_23 : decode cX3_bookOf 23 = .ok (.invokevirtual 191, 3) := by decide +kernel
theorem dX3_bookOf_26 : decode cX3_bookOf 26 = .ok (.ireturn, 1) := by decide +kernel
theorem dX3_bookOf_27 : decode cX3_bookOf 27 = .ok (.aload_n 0, 1) := by decide +kernel
theorem dX3_bookOf_28 : decode cX3_bookOf 28 = .ok (.getfield 33, 3) := by decide +kernel
theorem dX3_bookOf_31 : decode cX3_bookOf 31 = .ok (.getfield 164, 3) := by decide +kernel
theorem dX3_bookOf_34 : decode cX3_bookOf 34 = .ok (.iload 4, 2) := by decide +kernel
theorem dX3_bookOf_36 : decode cX3_bookOf 36 = .ok (.iload_n 2, 1) := by decide +kernel
theorem dX3_bookOf_37 : decode cX3_bookOf 37 = .ok (.invokestatic 92, 3) := by decide +kernel
theorem dX3_bookOf_40 : decode cX3_bookOf 40 = .ok (.iaload, 1) := by decide +kernel
theorem dX3_bookOf_41 : decode cX3_bookOf 41 = .ok (.istore 5, 2) := by decide +kernel
theorem dX3_bookOf_43 : decode cX3_bookOf 43 = .ok (.iload 5, 2) := by decide +kernel
theorem dX3_bookOf_45 : decode cX3_bookOf 45 = .ok (.aload_n 0, 1) := by decide +kernel
theorem dX3_bookOf_46 : decode cX3_bookOf 46 = .ok (.getfield 19, 3) := by decide +kernel
theorem dX3_bookOf_49 : decode cX3_bookOf 49 = .ok (.iload_n 1, 1) := by decide +kernel
theorem dX3_bookOf_50 : decode cX3_bookOf 50 = .ok (.iload_n 2, 1) := by decide +kernel
theorem dX3_bookOf_51 : decode cX3_bookOf 51 = .ok (.aload_n 0, 1) := by decide +kernel
theorem dX3_bookOf_52 : decode cX3_bookOf 52 = .ok (.getfield 26, 3) := by decide +kernel
theorem dX3_bookOf_55 : decode cX3_bookOf 55 = .ok (.getfield 158, 3) := by decide +kernel
theorem dX3_bookOf_58 : decode cX3_bookOf 58 = .ok (.iload 4, 2) := by decide +kernel
theorem dX3_bookOf_60 : decode cX3_bookOf 60 = .ok (.iaload, 1) := by decide +kernel
theorem dX3_bookOf_61 : decode cX3_bookOf 61 = .ok (.iload_n 3, 1) := by decide +kernel
theorem dX3_bookOf_62 : decode cX3_bookOf 62 = .ok (.invokevirtual 191, 3) := by decide +kernel
theorem dX3_bookOf_65 : decode cX3_bookOf 65 = .ok (.iadd, 1) := by decide +kernel
theorem dX3_bookOf_66 : decode cX3_bookOf 66 = .ok (.ireturn, 1) := by decide +kernel
theorem dX3_signedSheetFor_0 : decode cX3_signedSheetFor 0 = .ok (.iconst (-1), 1) := by decide +kernel
theorem dX3_signedSheetFor_1 : decode cX3_signedSheetFor 1 = .ok (.istore 4, 2) := by decide +kernel
theorem dX3_signedSheetFor_3 : decode cX3_signedSheetFor 3 = .ok (.iconst 0, 1) := by decide +kernel
theorem dX3_signedSheetFor_4 : decode cX3_signedSheetFor 4 = .ok (.istore 5, 2) := by decide +kernel
theorem dX3_signedSheetFor_6 : decode cX3_signedSheetFor 6 = .ok (.iload 5, 2) := by decide +kernel
theorem dX3_signedSheetFor_8 : decode cX3_signedSheetFor 8 = .ok (.aload_n 0, 1) := by decide +kernel
theorem dX3_signedSheetFor_9 : decode cX3_signedSheetFor 9 = .ok (.getfield 26, 3) := by decide +kernel
theorem dX3_signedSheetFor_12 : decode cX3_signedSheetFor 12 = .ok (.getfield 85, 3) := by decide +kernel
theorem dX3_signedSheetFor_15 : decode cX3_signedSheetFor 15 = .ok (.if_icmp .ge 75, 3) := by decide +kernel
theorem dX3_signedSheetFor_18 : decode cX3_signedSheetFor 18 = .ok (.aload_n 0, 1) := by decide +kernel
theorem dX3_signedSheetFor_19 : decode cX3_signedSheetFor 19 = .ok (.getfield 26, 3) := by decide +kernel
theorem dX3_signedSheetFor_22 : decode cX3_signedSheetFor 22 = .ok (.getfield 170, 3) := by decide +kernel
theorem dX3_signedSheetFor_25 : decode cX3_signedSheetFor 25 = .ok (.iload 5, 2) := by decide +kernel
theorem dX3_signedSheetFor_27 : decode cX3_signedSheetFor 27 = .ok (.iaload, 1) := by decide +kernel
theorem dX3_signedSheetFor_28 : decode cX3_signedSheetFor 28 = .ok (.iload_n 1, 1) := by decide +kernel
theorem dX3_signedSheetFor_29 : decode cX3_signedSheetFor 29 = .ok (.if_icmp .ne 55, 3) := by decide +kernel
theorem dX3_signedSheetFor_32 : decode cX3_signedSheetFor 32 = .ok (.aload_n 0, 1) := by decide +kernel
theorem dX3_signedSheetFor_33 : decode cX3_signedSheetFor 33 = .ok (.getfield 26, 3) := by decide +kernel
theorem dX3_signedSheetFor_36 : decode cX3_signedSheetFor 36 = .ok (.getfield 158, 3) := by decide +kernel
theorem dX3_signedSheetFor_39 : decode cX3_signedSheetFor 39 = .ok (.iload 5, 2) := by decide +kernel
theorem dX3_signedSheetFor_41 : decode cX3_signedSheetFor 41 = .ok (.iaload, 1) := by decide +kernel
theorem dX3_signedSheetFor_42 : decode cX3_signedSheetFor 42 = .ok (.iload_n 3, 1) := by decide +kernel
theorem dX3_signedSheetFor_43 : decode cX3_signedSheetFor 43 = .ok (.if_icmp .gt 41, 3) := by decide +kernel
theorem dX3_signedSheetFor_46 : decode cX3_signedSheetFor 46 = .ok (.aload_n 0, 1) := by decide +kernel
theorem dX3_signedSheetFor_47 : decode cX3_signedSheetFor 47 = .ok (.getfield 33, 3) := by decide +kernel
theorem dX3_signedSheetFor_50 : decode cX3_signedSheetFor 50 = .ok (.iload 5, 2) := by decide +kernel
theorem dX3_signedSheetFor_52 : decode cX3_signedSheetFor 52 = .ok (.iload_n 2, 1) := by decide +kernel
theorem dX3_signedSheetFor_53 : decode cX3_signedSheetFor 53 = .ok (.invokestatic 92, 3) := by decide +kernel
theorem dX3_signedSheetFor_56 : decode cX3_signedSheetFor 56 = .ok (.invokevirtual 167, 3) := by decide +kernel
theorem dX3_signedSheetFor_59 : decode cX3_signedSheetFor 59 = .ok (.ifCond .eq 25, 3) := by decide +kernel
theorem dX3_signedSheetFor_62 : decode cX3_signedSheetFor 62 = .ok (.iload 4, 2) := by decide +kernel
theorem dX3_signedSheetFor_64 : decode cX3_signedSheetFor 64 = .ok (.iconst (-1), 1) := by decide +kernel
theorem dX3_signedSheetFor_65 : decode cX3_signedSheetFor 65 = .ok (.if_icmp .eq 15, 3) := by decide +kernel
theorem dX3_signedSheetFor_68 : decode cX3_signedSheetFor 68 = .ok (.aload_n 0, 1) := by decide +kernel
theorem dX3_signedSheetFor_69 : decode cX3_signedSheetFor 69 = .ok (.iload 5, 2) := by decide +kernel
theorem dX3_signedSheetFor_71 : decode cX3_signedSheetFor 71 = .ok (.iload 4, 2) := by decide +kernel
theorem dX3_signedSheetFor_73 : decode cX3_signedSheetFor 73 = .ok (.iload_n 2, 1) := by decide +kernel
theorem dX3_signedSheetFor_74 : decode cX3_signedSheetFor 74 = .ok (.invokevirtual 195, 3) := by decide +kernel
theorem dX3_signedSheetFor_77 : decode cX3_signedSheetFor 77 = .ok (.ifCond .eq 7, 3) := by decide +kernel
theorem dX3_signedSheetFor_80 : decode cX3_signedSheetFor 80 = .ok (.iload 5, 2) := by decide +kernel
theorem dX3_signedSheetFor_82 : decode cX3_signedSheetFor 82 = .ok (.istore 4, 2) := by decide +kernel
theorem dX3_signedSheetFor_84 : decode cX3_signedSheetFor 84 = .ok (.iinc 5 1, 3) := by decide +kernel
theorem dX3_signedSheetFor_87 : decode cX3_signedSheetFor 87 = .ok (.goto (-81), 3) := by decide +kernel
theorem dX3_signedSheetFor_90 : decode cX3_signedSheetFor 90 = .ok (.iload 4, 2) := by decide +kernel
theorem dX3_signedSheetFor_92 : decode cX3_signedSheetFor 92 = .ok (.ireturn, 1) := by decide +kernel
theorem dX3_isStronger_0 : decode cX3_isStronger 0 = .ok (.aload_n 0, 1) := by decide +kernel
theorem dX3_isStronger_1 : decode cX3_isStronger 1 = .ok (.getfield 26, 3) := by decide +kernel
theorem dX3_isStronger_4 : decode cX3_isStronger 4 = .ok (.getfield 158, 3) := by decide +kernel
theorem dX3_isStronger_7 : decode cX3_isStronger 7 = .ok (.iload_n 1, 1) := by decide +kernel
theorem dX3_isStronger_8 : decode cX3_isStronger 8 = .ok (.iaload, 1) := by decide +kernel
theorem dX3_isStronger_9 : decode cX3_isStronger 9 = .ok (.aload_n 0, 1) := by decide +kernel
theorem dX3_isStronger_10 : decode cX3_isStronger 10 = .ok (.getfield 26, 3) := by decide +kernel
theorem dX3_isStronger_13 : decode cX3_isStronger 13 = .ok (.getfield 158, 3) := by decide +kernel
theorem dX3_isStronger_16 : decode cX3_isStronger 16 = .ok (.iload_n 2, 1) := by decide +kernel
theorem dX3_isStronger_17 : decode cX3_isStronger 17 = .ok (.iaload, 1) := by decide +kernel
theorem dX3_isStronger_18 : decode cX3_isStronger 18 = .ok (.if_icmp .eq 30, 3) := by decide +kernel
theorem dX3_isStronger_21 : decode cX3_isStronger 21 = .ok (.aload_n 0, 1) := by decide +kernel
theorem dX3_isStronger_22 : decode cX3_isStronger 22 = .ok (.getfield 26, 3) := by decide +kernel
theorem dX3_isStronger_25 : decode cX3_isStronger 25 = .ok (.getfield 158, 3) := by decide +kernel
theorem dX3_isStronger_28 : decode cX3_isStronger 28 = .ok (.iload_n 1, 1) := by decide +kernel
theorem dX3_isStronger_29 : decode cX3_isStronger 29 = .ok (.iaload, 1) := by decide +kernel
theorem dX3_isStronger_30 : decode cX3_isStronger 30 = .ok (.aload_n 0, 1) := by decide +kernel
theorem dX3_isStronger_31 : decode cX3_isStronger 31 = .ok (.getfield 26, 3) := by decide +kernel
theorem dX3_isStronger_34 : decode cX3_isStronger 34 = .ok (.getfield 158, 3) := by decide +kernel
theorem dX3_isStronger_37 : decode cX3_isStronger 37 = .ok (.iload_n 2, 1) := by decide +kernel
theorem dX3_isStronger_38 : decode cX3_isStronger 38 = .ok (.iaload, 1) := by decide +kernel
theorem dX3_isStronger_39 : decode cX3_isStronger 39 = .ok (.if_icmp .le 7, 3) := by decide +kernel
theorem dX3_isStronger_42 : decode cX3_isStronger 42 = .ok (.iconst 1, 1) := by decide +kernel
theorem dX3_isStronger_43 : decode cX3_isStronger 43 = .ok (.goto 4, 3) := by decide +kernel
theorem dX3_isStronger_46 : decode cX3_isStronger 46 = .ok (.iconst 0, 1) := by decide +kernel
theorem dX3_isStronger_47 : decode cX3_isStronger 47 = .ok (.ireturn, 1) := by decide +kernel
theorem dX3_isStronger_48 : decode cX3_isStronger 48 = .ok (.aload_n 0, 1) := by decide +kernel
theorem dX3_isStronger_49 : decode cX3_isStronger 49 = .ok (.getfield 33, 3) := by decide +kernel
theorem dX3_isStronger_52 : decode cX3_isStronger 52 = .ok (.getfield 198, 3) := by decide +kernel
theorem dX3_isStronger_55 : decode cX3_isStronger 55 = .ok (.iload_n 1, 1) := by decide +kernel
theorem dX3_isStronger_56 : decode cX3_isStronger 56 = .ok (.iload_n 3, 1) := by decide +kernel
theorem dX3_isStronger_57 : decode cX3_isStronger 57 = .ok (.invokestatic 92, 3) := by decide +kernel
theorem dX3_isStronger_60 : decode cX3_isStronger 60 = .ok (.iaload, 1) := by decide +kernel
theorem dX3_isStronger_61 : decode cX3_isStronger 61 = .ok (.aload_n 0, 1) := by decide +kernel
theorem dX3_isStronger_62 : decode cX3_isStronger 62 = .ok (.getfield 33, 3) := by decide +kernel
theorem dX3_isStronger_65 : decode cX3_isStronger 65 = .ok (.getfield 198, 3) := by decide +kernel
theorem dX3_isStronger_68 : decode cX3_isStronger 68 = .ok (.iload_n 2, 1) := by decide +kernel
theorem dX3_isStronger_69 : decode cX3_isStronger 69 = .ok (.iload_n 3, 1) := by decide +kernel
theorem dX3_isStronger_70 : decode cX3_isStronger 70 = .ok (.invokestatic 92, 3) := by decide +kernel
theorem dX3_isStronger_73 : decode cX3_isStronger 73 = .ok (.iaload, 1) := by decide +kernel
theorem dX3_isStronger_74 : decode cX3_isStronger 74 = .ok (.if_icmp .le 7, 3) := by decide +kernel
theorem dX3_isStronger_77 : decode cX3_isStronger 77 = .ok (.iconst 1, 1) := by decide +kernel
theorem dX3_isStronger_78 : decode cX3_isStronger 78 = .ok (.goto 4, 3) := by decide +kernel
theorem dX3_isStronger_81 : decode cX3_isStronger 81 = .ok (.iconst 0, 1) := by decide +kernel
theorem dX3_isStronger_82 : decode cX3_isStronger 82 = .ok (.ireturn, 1) := by decide +kernel
theorem dX3_worthOf_0 : decode cX3_worthOf 0 = .ok (.iconst 0, 1) := by decide +kernel
theorem dX3_worthOf_1 : decode cX3_worthOf 1 = .ok (.istore_n 2, 1) := by decide +kernel
theorem dX3_worthOf_2 : decode cX3_worthOf 2 = .ok (.iconst 0, 1) := by decide +kernel
theorem dX3_worthOf_3 : decode cX3_worthOf 3 = .ok (.istore_n 3, 1) := by decide +kernel
theorem dX3_worthOf_4 : decode cX3_worthOf 4 = .ok (.iload_n 3, 1) := by decide +kernel
theorem dX3_worthOf_5 : decode cX3_worthOf 5 = .ok (.iconst 5, 1) := by decide +kernel
theorem dX3_worthOf_6 : decode cX3_worthOf 6 = .ok (.if_icmp .ge 33, 3) := by decide +kernel
theorem dX3_worthOf_9 : decode cX3_worthOf 9 = .ok (.iload_n 2, 1) := by decide +kernel
theorem dX3_worthOf_10 : decode cX3_worthOf 10 = .ok (.aload_n 0, 1) := by decide +kernel
theorem dX3_worthOf_11 : decode cX3_worthOf 11 = .ok (.getfield 9, 3) := by decide +kernel
theorem dX3_worthOf_14 : decode cX3_worthOf 14 = .ok (.iload_n 3, 1) := by decide +kernel
theorem dX3_worthOf_15 : decode cX3_worthOf 15 = .ok (.iaload, 1) := by decide +kernel
theorem dX3_worthOf_16 : decode cX3_worthOf 16 = .ok (.iconst 0, 1) := by decide +kernel
theorem dX3_worthOf_17 : decode cX3_worthOf 17 = .ok (.aload_n 0, 1) := by decide +kernel
theorem dX3_worthOf_18 : decode cX3_worthOf 18 = .ok (.iload_n 1, 1) := by decide +kernel
theorem dX3_worthOf_19 : decode cX3_worthOf 19 = .ok (.iload_n 3, 1) := by decide +kernel
theorem dX3_worthOf_20 : decode cX3_worthOf 20 = .ok (.aload_n 0, 1) := by decide +kernel
theorem dX3_worthOf_21 : decode cX3_worthOf 21 = .ok (.getfield 37, 3) := by decide +kernel
theorem dX3_worthOf_24 : decode cX3_worthOf 24 = .ok (.invokevirtual 147, 3) := by decide +kernel
theorem dX3_worthOf_27 : decode cX3_worthOf 27 = .ok (.invokestatic 201, 3) := by decide +kernel
theorem dX3_worthOf_30 : decode cX3_worthOf 30 = .ok (.imul, 1) := by decide +kernel
theorem dX3_worthOf_31 : decode cX3_worthOf 31 = .ok (.iadd, 1) := by decide +kernel
theorem dX3_worthOf_32 : decode cX3_worthOf 32 = .ok (.istore_n 2, 1) := by decide +kernel
theorem dX3_worthOf_33 : decode cX3_worthOf 33 = .ok (.iinc 3 1, 3) := by decide +kernel
theorem dX3_worthOf_36 : decode cX3_worthOf 36 = .ok (.goto (-32), 3) := by decide +kernel
theorem dX3_worthOf_39 : decode cX3_worthOf 39 = .ok (.iload_n 2, 1) := by decide +kernel
theorem dX3_worthOf_40 : decode cX3_worthOf 40 = .ok (.ireturn, 1) := by decide +kernel
theorem dX3_urgencyOf_0 : decode cX3_urgencyOf 0 = .ok (.aload_n 0, 1) := by decide +kernel
theorem dX3_urgencyOf_1 : decode cX3_urgencyOf 1 = .ok (.getfield 26, 3) := by decide +kernel
theorem dX3_urgencyOf_4 : decode cX3_urgencyOf 4 = .ok (.iload_n 1, 1) := by decide +kernel
theorem dX3_urgencyOf_5 : decode cX3_urgencyOf 5 = .ok (.invokevirtual 204, 3) := by decide +kernel
theorem dX3_urgencyOf_8 : decode cX3_urgencyOf 8 = .ok (.istore_n 2, 1) := by decide +kernel
theorem dX3_urgencyOf_9 : decode cX3_urgencyOf 9 = .ok (.iload_n 2, 1) := by decide +kernel
theorem dX3_urgencyOf_10 : decode cX3_urgencyOf 10 = .ok (.iconst (-1), 1) := by decide +kernel
theorem dX3_urgencyOf_11 : decode cX3_urgencyOf 11 = .ok (.if_icmp .ne 13, 3) := by decide +kernel
theorem dX3_urgencyOf_14 : decode cX3_urgencyOf 14 = .ok (.aload_n 0, 1) := by decide +kernel
theorem dX3_urgencyOf_15 : decode cX3_urgencyOf 15 = .ok (.getfield 37, 3) := by decide +kernel
theorem dX3_urgencyOf_18 : decode cX3_urgencyOf 18 = .ok (.i2l, 1) := by decide +kernel
theorem dX3_urgencyOf_19 : decode cX3_urgencyOf 19 = .ok (.lconst 1, 1) := by decide +kernel
theorem dX3_urgencyOf_20 : decode cX3_urgencyOf 20 = .ok (.ladd, 1) := by decide +kernel
theorem dX3_urgencyOf_21 : decode cX3_urgencyOf 21 = .ok (.goto 18, 3) := by decide +kernel
theorem dX3_urgencyOf_24 : decode cX3_urgencyOf 24 = .ok (.aload_n 0, 1) := by decide +kernel
theorem dX3_urgencyOf_25 : decode cX3_urgencyOf 25 = .ok (.getfield 37, 3) := by decide +kernel
theorem dX3_urgencyOf_28 : decode cX3_urgencyOf 28 = .ok (.aload_n 0, 1) := by decide +kernel
theorem dX3_urgencyOf_29 : decode cX3_urgencyOf 29 = .ok (.getfield 26, 3) := by decide +kernel
theorem dX3_urgencyOf_32 : decode cX3_urgencyOf 32 = .ok (.getfield 158, 3) := by decide +kernel
theorem dX3_urgencyOf_35 : decode cX3_urgencyOf 35 = .ok (.iload_n 2, 1) := by decide +kernel
theorem dX3_urgencyOf_36 : decode cX3_urgencyOf 36 = .ok (.iaload, 1) := by decide +kernel
theorem dX3_urgencyOf_37 : decode cX3_urgencyOf 37 = .ok (.isub, 1) := by decide +kernel
theorem dX3_urgencyOf_38 : decode cX3_urgencyOf 38 = .ok (.i2l, 1) := by decide +kernel
theorem dX3_urgencyOf_39 : decode cX3_urgencyOf 39 = .ok (.lstore_n 3, 1) := by decide +kernel
theorem dX3_urgencyOf_40 : decode cX3_urgencyOf 40 = .ok (.aload_n 0, 1) := by decide +kernel
theorem dX3_urgencyOf_41 : decode cX3_urgencyOf 41 = .ok (.iload_n 1, 1) := by decide +kernel
theorem dX3_urgencyOf_42 : decode cX3_urgencyOf 42 = .ok (.invokevirtual 151, 3) := by decide +kernel
theorem dX3_urgencyOf_45 : decode cX3_urgencyOf 45 = .ok (.i2l, 1) := by decide +kernel
theorem dX3_urgencyOf_46 : decode cX3_urgencyOf 46 = .ok (.lconst 1, 1) := by decide +kernel
theorem dX3_urgencyOf_47 : decode cX3_urgencyOf 47 = .ok (.ladd, 1) := by decide +kernel
theorem dX3_urgencyOf_48 : decode cX3_urgencyOf 48 = .ok (.lload_n 3, 1) := by decide +kernel
theorem dX3_urgencyOf_49 : decode cX3_urgencyOf 49 = .ok (.lmul, 1) := by decide +kernel
theorem dX3_urgencyOf_50 : decode cX3_urgencyOf 50 = .ok (.lreturn, 1) := by decide +kernel
theorem dX3_gapOf_0 : decode cX3_gapOf 0 = .ok (.iload_n 1, 1) := by decide +kernel
theorem dX3_gapOf_1 : decode cX3_gapOf 1 = .ok (.iload_n 2, 1) := by decide +kernel
theorem dX3_gapOf_2 : decode cX3_gapOf 2 = .ok (.invokestatic 92, 3) := by decide +kernel
theorem dX3_gapOf_5 : decode cX3_gapOf 5 = .ok (.istore_n 3, 1) := by decide +kernel
theorem dX3_gapOf_6 : decode cX3_gapOf 6 = .ok (.aload_n 0, 1) := by decide +kernel
theorem dX3_gapOf_7 : decode cX3_gapOf 7 = .ok (.getfield 33, 3) := by decide +kernel
theorem dX3_gapOf_10 : decode cX3_gapOf 10 = .ok (.iload_n 3, 1) := by decide +kernel
theorem dX3_gapOf_11 : decode cX3_gapOf 11 = .ok (.invokevirtual 167, 3) := by decide +kernel
theorem dX3_gapOf_14 : decode cX3_gapOf 14 = .ok (.ifCond .eq 13, 3) := by decide +kernel
theorem dX3_gapOf_17 : decode cX3_gapOf 17 = .ok (.aload_n 0, 1) := by decide +kernel
theorem dX3_gapOf_18 : decode cX3_gapOf 18 = .ok (.getfield 33, 3) := by decide +kernel
theorem dX3_gapOf_21 : decode cX3_gapOf 21 = .ok (.getfield 173, 3) := by decide +kernel
theorem dX3_gapOf_24 : decode cX3_gapOf 24 = .ok (.iload_n 3, 1) := by decide +kernel
theorem dX3_gapOf_25 : decode cX3_gapOf 25 = .ok (.iaload, 1) := by decide +kernel
theorem dX3_gapOf_26 : decode cX3_gapOf 26 = .ok (.ireturn, 1) := by decide +kernel
theorem dX3_gapOf_27 : decode cX3_gapOf 27 = .ok (.aload_n 0, 1) := by decide +kernel
theorem dX3_gapOf_28 : decode cX3_gapOf 28 = .ok (.getfield 33, 3) := by decide +kernel
theorem dX3_gapOf_31 : decode cX3_gapOf 31 = .ok (.getfield 164, 3) := by decide +kernel
theorem dX3_gapOf_34 : decode cX3_gapOf 34 = .ok (.iload_n 3, 1) := by decide +kernel
theorem dX3_gapOf_35 : decode cX3_gapOf 35 = .ok (.iaload, 1) := by decide +kernel
theorem dX3_gapOf_36 : decode cX3_gapOf 36 = .ok (.aload_n 0, 1) := by decide +kernel
theorem dX3_gapOf_37 : decode cX3_gapOf 37 = .ok (.aload_n 0, 1) := by decide +kernel
theorem dX3_gapOf_38 : decode cX3_gapOf 38 = .ok (.getfield 26, 3) := by decide +kernel
theorem dX3_gapOf_41 : decode cX3_gapOf 41 = .ok (.getfield 170, 3) := by decide +kernel
theorem dX3_gapOf_44 : decode cX3_gapOf 44 = .ok (.iload_n 1, 1) := by decide +kernel
theorem dX3_gapOf_45 : decode cX3_gapOf 45 = .ok (.iaload, 1) := by decide +kernel
theorem dX3_gapOf_46 : decode cX3_gapOf 46 = .ok (.iload_n 2, 1) := by decide +kernel
theorem dX3_gapOf_47 : decode cX3_gapOf 47 = .ok (.aload_n 0, 1) := by decide +kernel
theorem dX3_gapOf_48 : decode cX3_gapOf 48 = .ok (.getfield 26, 3) := by decide +kernel
theorem dX3_gapOf_51 : decode cX3_gapOf 51 = .ok (.getfield 158, 3) := by decide +kernel
theorem dX3_gapOf_54 : decode cX3_gapOf 54 = .ok (.iload_n 1, 1) := by decide +kernel
theorem dX3_gapOf_55 : decode cX3_gapOf 55 = .ok (.iaload, 1) := by decide +kernel
theorem dX3_gapOf_56 : decode cX3_gapOf 56 = .ok (.invokevirtual 147, 3) := by decide +kernel
theorem dX3_gapOf_59 : decode cX3_gapOf 59 = .ok (.isub, 1) := by decide +kernel
theorem dX3_gapOf_60 : decode cX3_gapOf 60 = .ok (.ireturn, 1) := by decide +kernel
theorem dX3_isSignable_0 : decode cX3_isSignable 0 = .ok (.iload_n 1, 1) := by decide +kernel
theorem dX3_isSignable_1 : decode cX3_isSignable 1 = .ok (.iload_n 2, 1) := by decide +kernel
theorem dX3_isSignable_2 : decode cX3_isSignable 2 = .ok (.invokestatic 92, 3) := by decide +kernel
theorem dX3_isSignable_5 : decode cX3_isSignable 5 = .ok (.istore_n 3, 1) := by decide +kernel
theorem dX3_isSignable_6 : decode cX3_isSignable 6 = .ok (.aload_n 0, 1) := by decide +kernel
theorem dX3_isSignable_7 : decode cX3_isSignable 7 = .ok (.getfield 26, 3) := by decide +kernel
theorem dX3_isSignable_10 : decode cX3_isSignable 10 = .ok (.getfield 95, 3) := by decide +kernel
theorem dX3_isSignable_13 : decode cX3_isSignable 13 = .ok (.iload_n 1, 1) := by decide +kernel
theorem dX3_isSignable_14 : decode cX3_isSignable 14 = .ok (.baload, 1) := by decide +kernel
theorem dX3_isSignable_15 : decode cX3_isSignable 15 = .ok (.ifCond .eq 29, 3) := by decide +kernel
theorem dX3_isSignable_18 : decode cX3_isSignable 18 = .ok (.aload_n 0, 1) := by decide +kernel
theorem dX3_isSignable_19 : decode cX3_isSignable 19 = .ok (.getfield 33, 3) := by decide +kernel
theorem dX3_isSignable_22 : decode cX3_isSignable 22 = .ok (.iload_n 3, 1) := by decide +kernel
theorem dX3_isSignable_23 : decode cX3_isSignable 23 = .ok (.invokevirtual 101, 3) := by decide +kernel
theorem dX3_isSignable_26 : decode cX3_isSignable 26 = .ok (.ifCond .eq 18, 3) := by decide +kernel
theorem dX3_isSignable_29 : decode cX3_isSignable 29 = .ok (.aload_n 0, 1) := by decide +kernel
theorem dX3_isSignable_30 : decode cX3_isSignable 30 = .ok (.getfield 33, 3) := by decide +kernel
theorem dX3_isSignable_33 : decode cX3_isSignable 33 = .ok (.iload_n 3, 1) := by decide +kernel
theorem dX3_isSignable_34 : decode cX3_isSignable 34 = .ok (.invokevirtual 167, 3) := by decide +kernel
theorem dX3_isSignable_37 : decode cX3_isSignable 37 = .ok (.ifCond .ne 7, 3) := by decide +kernel
theorem dX3_isSignable_40 : decode cX3_isSignable 40 = .ok (.iconst 1, 1) := by decide +kernel
theorem dX3_isSignable_41 : decode cX3_isSignable 41 = .ok (.goto 4, 3) := by decide +kernel
theorem dX3_isSignable_44 : decode cX3_isSignable 44 = .ok (.iconst 0, 1) := by decide +kernel
theorem dX3_isSignable_45 : decode cX3_isSignable 45 = .ok (.ireturn, 1) := by decide +kernel
theorem dX3_canBeSettled_0 : decode cX3_canBeSettled 0 = .ok (.aload_n 0, 1) := by decide +kernel
theorem dX3_canBeSettled_1 : decode cX3_canBeSettled 1 = .ok (.getfield 26, 3) := by decide +kernel
theorem dX3_canBeSettled_4 : decode cX3_canBeSettled 4 = .ok (.getfield 170, 3) := by decide +kernel
theorem dX3_canBeSettled_7 : decode cX3_canBeSettled 7 = .ok (.iload_n 1, 1) := by decide +kernel
theorem dX3_canBeSettled_8 : decode cX3_canBeSettled 8 = .ok (.iaload, 1) := by decide +kernel
theorem dX3_canBeSettled_9 : decode cX3_canBeSettled 9 = .ok (.aload_n 0, 1) := by decide +kernel
theorem dX3_canBeSettled_10 : decode cX3_canBeSettled 10 = .ok (.getfield 26, 3) := by decide +kernel
theorem dX3_canBeSettled_13 : decode cX3_canBeSettled 13 = .ok (.getfield 170, 3) := by decide +kernel
theorem dX3_canBeSettled_16 : decode cX3_canBeSettled 16 = .ok (.iload_n 2, 1) := by decide +kernel
theorem dX3_canBeSettled_17 : decode cX3_canBeSettled 17 = .ok (.iaload, 1) := by decide +kernel
theorem dX3_canBeSettled_18 : decode cX3_canBeSettled 18 = .ok (.if_icmp .eq 21, 3) := by decide +kernel
theorem dX3_canBeSettled_21 : decode cX3_canBeSettled 21 = .ok (.aload_n 0, 1) := by decide +kernel
theorem dX3_canBeSettled_22 : decode cX3_canBeSettled 22 = .ok (.iload_n 1, 1) := by decide +kernel
theorem dX3_canBeSettled_23 : decode cX3_canBeSettled 23 = .ok (.iload_n 3, 1) := by decide +kernel
theorem dX3_canBeSettled_24 : decode cX3_canBeSettled 24 = .ok (.invokevirtual 123, 3) := by decide +kernel
theorem dX3_canBeSettled_27 : decode cX3_canBeSettled 27 = .ok (.ifCond .eq 12, 3) := by decide +kernel
theorem dX3_canBeSettled_30 : decode cX3_canBeSettled 30 = .ok (.aload_n 0, 1) := by decide +kernel
theorem dX3_canBeSettled_31 : decode cX3_canBeSettled 31 = .ok (.iload_n 2, 1) := by decide +kernel
theorem dX3_canBeSettled_32 : decode cX3_canBeSettled 32 = .ok (.iload_n 3, 1) := by decide +kernel
theorem dX3_canBeSettled_33 : decode cX3_canBeSettled 33 = .ok (.invokevirtual 123, 3) := by decide +kernel
theorem dX3_canBeSettled_36 : decode cX3_canBeSettled 36 = .ok (.ifCond .ne 5, 3) := by decide +kernel
theorem dX3_canBeSettled_39 : decode cX3_canBeSettled 39 = .ok (.iconst 0, 1) := by decide +kernel
theorem dX3_canBeSettled_40 : decode cX3_canBeSettled 40 = .ok (.ireturn, 1) := by decide +kernel
theorem dX3_canBeSettled_41 : decode cX3_canBeSettled 41 = .ok (.aload_n 0, 1) := by decide +kernel
theorem dX3_canBeSettled_42 : decode cX3_canBeSettled 42 = .ok (.iload_n 1, 1) := by decide +kernel
theorem dX3_canBeSettled_43 : decode cX3_canBeSettled 43 = .ok (.iload_n 3, 1) := by decide +kernel
theorem dX3_canBeSettled_44 : decode cX3_canBeSettled 44 = .ok (.invokevirtual 128, 3) := by decide +kernel
theorem dX3_canBeSettled_47 : decode cX3_canBeSettled 47 = .ok (.istore 4, 2) := by decide +kernel
theorem dX3_canBeSettled_49 : decode cX3_canBeSettled 49 = .ok (.iload 4, 2) := by decide +kernel
theorem dX3_canBeSettled_51 : decode cX3_canBeSettled 51 = .ok (.ifCond .eq 19, 3) := by decide +kernel
theorem dX3_canBeSettled_54 : decode cX3_canBeSettled 54 = .ok (.iload 4, 2) := by decide +kernel
theorem dX3_canBeSettled_56 : decode cX3_canBeSettled 56 = .ok (.aload_n 0, 1) := by decide +kernel
theorem dX3_canBeSettled_57 : decode cX3_canBeSettled 57 = .ok (.iload_n 2, 1) := by decide +kernel
theorem dX3_canBeSettled_58 : decode cX3_canBeSettled 58 = .ok (.iload_n 3, 1) := by decide +kernel
theorem dX3_canBeSettled_59 : decode cX3_canBeSettled 59 = .ok (.invokevirtual 128, 3) := by decide +kernel
theorem dX3_canBeSettled_62 : decode cX3_canBeSettled 62 = .ok (.iadd, 1) := by decide +kernel
theorem dX3_canBeSettled_63 : decode cX3_canBeSettled 63 = .ok (.ifCond .ne 7, 3) := by decide +kernel
theorem dX3_canBeSettled_66 : decode cX3_canBeSettled 66 = .ok (.iconst 1, 1) := by decide +kernel
theorem dX3_canBeSettled_67 : decode cX3_canBeSettled 67 = .ok (.goto 4, 3) := by decide +kernel
theorem dX3_canBeSettled_70 : decode cX3_canBeSettled 70 = .ok (.iconst 0, 1) := by decide +kernel
theorem dX3_canBeSettled_71 : decode cX3_canBeSettled 71 = .ok (.ireturn, 1) := by decide +kernel
theorem dJ6_bitCount_0f7a4_0 : decode cJ6_bitCount_0f7a4 0 = .ok (.iload_n 0, 1) := by decide +kernel
theorem dJ6_bitCount_0f7a4_1 : decode cJ6_bitCount_0f7a4 1 = .ok (.iload_n 0, 1) := by decide +kernel
theorem dJ6_bitCount_0f7a4_2 : decode cJ6_bitCount_0f7a4 2 = .ok (.iconst 1, 1) := by decide +kernel
theorem dJ6_bitCount_0f7a4_3 : decode cJ6_bitCount_0f7a4 3 = .ok (.iushr, 1) := by decide +kernel
theorem dJ6_bitCount_0f7a4_4 : decode cJ6_bitCount_0f7a4 4 = .ok (.ldc_w 265, 3) := by decide +kernel
theorem dJ6_bitCount_0f7a4_7 : decode cJ6_bitCount_0f7a4 7 = .ok (.iand, 1) := by decide +kernel
theorem dJ6_bitCount_0f7a4_8 : decode cJ6_bitCount_0f7a4 8 = .ok (.isub, 1) := by decide +kernel
theorem dJ6_bitCount_0f7a4_9 : decode cJ6_bitCount_0f7a4 9 = .ok (.istore_n 0, 1) := by decide +kernel
theorem dJ6_bitCount_0f7a4_10 : decode cJ6_bitCount_0f7a4 10 = .ok (.iload_n 0, 1) := by decide +kernel
theorem dJ6_bitCount_0f7a4_11 : decode cJ6_bitCount_0f7a4 11 = .ok (.ldc_w 266, 3) := by decide +kernel
theorem dJ6_bitCount_0f7a4_14 : decode cJ6_bitCount_0f7a4 14 = .ok (.iand, 1) := by decide +kernel
theorem dJ6_bitCount_0f7a4_15 : decode cJ6_bitCount_0f7a4 15 = .ok (.iload_n 0, 1) := by decide +kernel
theorem dJ6_bitCount_0f7a4_16 : decode cJ6_bitCount_0f7a4 16 = .ok (.iconst 2, 1) := by decide +kernel
theorem dJ6_bitCount_0f7a4_17 : decode cJ6_bitCount_0f7a4 17 = .ok (.iushr, 1) := by decide +kernel
theorem dJ6_bitCount_0f7a4_18 : decode cJ6_bitCount_0f7a4 18 = .ok (.ldc_w 266, 3) := by decide +kernel
theorem dJ6_bitCount_0f7a4_21 : decode cJ6_bitCount_0f7a4 21 = .ok (.iand, 1) := by decide +kernel
theorem dJ6_bitCount_0f7a4_22 : decode cJ6_bitCount_0f7a4 22 = .ok (.iadd, 1) := by decide +kernel
theorem dJ6_bitCount_0f7a4_23 : decode cJ6_bitCount_0f7a4 23 = .ok (.istore_n 0, 1) := by decide +kernel
theorem dJ6_bitCount_0f7a4_24 : decode cJ6_bitCount_0f7a4 24 = .ok (.iload_n 0, 1) := by decide +kernel
theorem dJ6_bitCount_0f7a4_25 : decode cJ6_bitCount_0f7a4 25 = .ok (.iload_n 0, 1) := by decide +kernel
theorem dJ6_bitCount_0f7a4_26 : decode cJ6_bitCount_0f7a4 26 = .ok (.iconst 4, 1) := by decide +kernel
theorem dJ6_bitCount_0f7a4_27 : decode cJ6_bitCount_0f7a4 27 = .ok (.iushr, 1) := by decide +kernel
theorem dJ6_bitCount_0f7a4_28 : decode cJ6_bitCount_0f7a4 28 = .ok (.iadd, 1) := by decide +kernel
theorem dJ6_bitCount_0f7a4_29 : decode cJ6_bitCount_0f7a4 29 = .ok (.ldc_w 267, 3) := by decide +kernel
theorem dJ6_bitCount_0f7a4_32 : decode cJ6_bitCount_0f7a4 32 = .ok (.iand, 1) := by decide +kernel
theorem dJ6_bitCount_0f7a4_33 : decode cJ6_bitCount_0f7a4 33 = .ok (.istore_n 0, 1) := by decide +kernel
theorem dJ6_bitCount_0f7a4_34 : decode cJ6_bitCount_0f7a4 34 = .ok (.iload_n 0, 1) := by decide +kernel
theorem dJ6_bitCount_0f7a4_35 : decode cJ6_bitCount_0f7a4 35 = .ok (.iload_n 0, 1) := by decide +kernel
theorem dJ6_bitCount_0f7a4_36 : decode cJ6_bitCount_0f7a4 36 = .ok (.bipush 8, 2) := by decide +kernel
theorem dJ6_bitCount_0f7a4_38 : decode cJ6_bitCount_0f7a4 38 = .ok (.iushr, 1) := by decide +kernel
theorem dJ6_bitCount_0f7a4_39 : decode cJ6_bitCount_0f7a4 39 = .ok (.iadd, 1) := by decide +kernel
theorem dJ6_bitCount_0f7a4_40 : decode cJ6_bitCount_0f7a4 40 = .ok (.istore_n 0, 1) := by decide +kernel
theorem dJ6_bitCount_0f7a4_41 : decode cJ6_bitCount_0f7a4 41 = .ok (.iload_n 0, 1) := by decide +kernel
theorem dJ6_bitCount_0f7a4_42 : decode cJ6_bitCount_0f7a4 42 = .ok (.iload_n 0, 1) := by decide +kernel
theorem dJ6_bitCount_0f7a4_43 : decode cJ6_bitCount_0f7a4 43 = .ok (.bipush 16, 2) := by decide +kernel
theorem dJ6_bitCount_0f7a4_45 : decode cJ6_bitCount_0f7a4 45 = .ok (.iushr, 1) := by decide +kernel
theorem dJ6_bitCount_0f7a4_46 : decode cJ6_bitCount_0f7a4 46 = .ok (.iadd, 1) := by decide +kernel
theorem dJ6_bitCount_0f7a4_47 : decode cJ6_bitCount_0f7a4 47 = .ok (.istore_n 0, 1) := by decide +kernel
theorem dJ6_bitCount_0f7a4_48 : decode cJ6_bitCount_0f7a4 48 = .ok (.iload_n 0, 1) := by decide +kernel
theorem dJ6_bitCount_0f7a4_49 : decode cJ6_bitCount_0f7a4 49 = .ok (.bipush 63, 2) := by decide +kernel
theorem dJ6_bitCount_0f7a4_51 : decode cJ6_bitCount_0f7a4 51 = .ok (.iand, 1) := by decide +kernel
theorem dJ6_bitCount_0f7a4_52 : decode cJ6_bitCount_0f7a4 52 = .ok (.ireturn, 1) := by decide +kernel
theorem dJ9_abs_0f7a4_0 : decode cJ9_abs_0f7a4 0 = .ok (.iload_n 0, 1) := by decide +kernel
theorem dJ9_abs_0f7a4_1 : decode cJ9_abs_0f7a4 1 = .ok (.ifCond .ge 8, 3) := by decide +kernel
theorem dJ9_abs_0f7a4_4 : decode cJ9_abs_0f7a4 4 = .ok (.iload_n 0, 1) := by decide +kernel
theorem dJ9_abs_0f7a4_5 : decode cJ9_abs_0f7a4 5 = .ok (.ineg, 1) := by decide +kernel
theorem dJ9_abs_0f7a4_6 : decode cJ9_abs_0f7a4 6 = .ok (.goto 4, 3) := by decide +kernel
theorem dJ9_abs_0f7a4_9 : decode cJ9_abs_0f7a4 9 = .ok (.iload_n 0, 1) := by decide +kernel
theorem dJ9_abs_0f7a4_10 : decode cJ9_abs_0f7a4 10 = .ok (.ireturn, 1) := by decide +kernel
theorem dJ9_max_7cf53_0 : decode cJ9_max_7cf53 0 = .ok (.iload_n 0, 1) := by decide +kernel
theorem dJ9_max_7cf53_1 : decode cJ9_max_7cf53 1 = .ok (.iload_n 1, 1) := by decide +kernel
theorem dJ9_max_7cf53_2 : decode cJ9_max_7cf53 2 = .ok (.if_icmp .lt 7, 3) := by decide +kernel
theorem dJ9_max_7cf53_5 : decode cJ9_max_7cf53 5 = .ok (.iload_n 0, 1) := by decide +kernel
theorem dJ9_max_7cf53_6 : decode cJ9_max_7cf53 6 = .ok (.goto 4, 3) := by decide +kernel
theorem dJ9_max_7cf53_9 : decode cJ9_max_7cf53 9 = .ok (.iload_n 1, 1) := by decide +kernel
theorem dJ9_max_7cf53_10 : decode cJ9_max_7cf53 10 = .ok (.ireturn, 1) := by decide +kernel
theorem dJ9_min_7cf53_0 : decode cJ9_min_7cf53 0 = .ok (.iload_n 0, 1) := by decide +kernel
theorem dJ9_min_7cf53_1 : decode cJ9_min_7cf53 1 = .ok (.iload_n 1, 1) := by decide +kernel
theorem dJ9_min_7cf53_2 : decode cJ9_min_7cf53 2 = .ok (.if_icmp .gt 7, 3) := by decide +kernel
theorem dJ9_min_7cf53_5 : decode cJ9_min_7cf53 5 = .ok (.iload_n 0, 1) := by decide +kernel
theorem dJ9_min_7cf53_6 : decode cJ9_min_7cf53 6 = .ok (.goto 4, 3) := by decide +kernel
theorem dJ9_min_7cf53_9 : decode cJ9_min_7cf53 9 = .ok (.iload_n 1, 1) := by decide +kernel
theorem dJ9_min_7cf53_10 : decode cJ9_min_7cf53 10 = .ok (.ireturn, 1) := by decide +kernel
theorem dJ7_fill_53178_0 : decode cJ7_fill_53178 0 = .ok (.iconst 0, 1) := by decide +kernel
theorem dJ7_fill_53178_1 : decode cJ7_fill_53178 1 = .ok (.istore_n 2, 1) := by decide +kernel
theorem dJ7_fill_53178_2 : decode cJ7_fill_53178 2 = .ok (.aload_n 0, 1) := by decide +kernel
theorem dJ7_fill_53178_3 : decode cJ7_fill_53178 3 = .ok (.arraylength, 1) := by decide +kernel
theorem dJ7_fill_53178_4 : decode cJ7_fill_53178 4 = .ok (.istore_n 3, 1) := by decide +kernel
theorem dJ7_fill_53178_5 : decode cJ7_fill_53178 5 = .ok (.iload_n 2, 1) := by decide +kernel
theorem dJ7_fill_53178_6 : decode cJ7_fill_53178 6 = .ok (.iload_n 3, 1) := by decide +kernel
theorem dJ7_fill_53178_7 : decode cJ7_fill_53178 7 = .ok (.if_icmp .ge 13, 3) := by decide +kernel
theorem dJ7_fill_53178_10 : decode cJ7_fill_53178 10 = .ok (.aload_n 0, 1) := by decide +kernel
theorem dJ7_fill_53178_11 : decode cJ7_fill_53178 11 = .ok (.iload_n 2, 1) := by decide +kernel
theorem dJ7_fill_53178_12 : decode cJ7_fill_53178 12 = .ok (.iload_n 1, 1) := by decide +kernel
theorem dJ7_fill_53178_13 : decode cJ7_fill_53178 13 = .ok (.iastore, 1) := by decide +kernel
theorem dJ7_fill_53178_14 : decode cJ7_fill_53178 14 = .ok (.iinc 2 1, 3) := by decide +kernel
theorem dJ7_fill_53178_17 : decode cJ7_fill_53178 17 = .ok (.goto (-12), 3) := by decide +kernel
theorem dJ7_fill_53178_20 : decode cJ7_fill_53178 20 = .ok (.return_, 1) := by decide +kernel
end
section
theorem dX4_init_0 : decode cX4_init 0 = .ok (.aload_n 0, 1) := by decide +kernel
theorem dX4_init_1 : decode cX4_init 1 = .ok (.invokespecial 1, 3) := by decide +kernel
theorem dX4_init_4 : decode cX4_init 4 = .ok (.aload_n 0, 1) := by decide +kernel
theorem dX4_init_5 : decode cX4_init 5 = .ok (.iconst 5, 1) := by decide +kernel
theorem dX4_init_6 : decode cX4_init 6 = .ok (.newarray .int, 2) := by decide +kernel
theorem dX4_init_8 : decode cX4_init 8 = .ok (.putfield 7, 3) := by decide +kernel
theorem dX4_init_11 : decode cX4_init 11 = .ok (.aload_n 0, 1) := by decide +kernel
theorem dX4_init_12 : decode cX4_init 12 = .ok (.bipush 6, 2) := by decide +kernel
theorem dX4_init_14 : decode cX4_init 14 = .ok (.newarray .int, 2) := by decide +kernel
theorem dX4_init_16 : decode cX4_init 16 = .ok (.putfield 13, 3) := by decide +kernel
theorem dX4_init_19 : decode cX4_init 19 = .ok (.aload_n 0, 1) := by decide +kernel
theorem dX4_init_20 : decode cX4_init 20 = .ok (.sipush 200, 3) := by decide +kernel
theorem dX4_init_23 : decode cX4_init 23 = .ok (.newarray .int, 2) := by decide +kernel
theorem dX4_init_25 : decode cX4_init 25 = .ok (.putfield 16, 3) := by decide +kernel
theorem dX4_init_28 : decode cX4_init 28 = .ok (.aload_n 0, 1) := by decide +kernel
theorem dX4_init_29 : decode cX4_init 29 = .ok (.sipush 200, 3) := by decide +kernel
theorem dX4_init_32 : decode cX4_init 32 = .ok (.newarray .int, 2) := by decide +kernel
theorem dX4_init_34 : decode cX4_init 34 = .ok (.putfield 19, 3) := by decide +kernel
theorem dX4_init_37 : decode cX4_init 37 = .ok (.aload_n 0, 1) := by decide +kernel
theorem dX4_init_38 : decode cX4_init 38 = .ok (.sipush 200, 3) := by decide +kernel
theorem dX4_init_41 : decode cX4_init 41 = .ok (.newarray .int, 2) := by decide +kernel
theorem dX4_init_43 : decode cX4_init 43 = .ok (.putfield 22, 3) := by decide +kernel
theorem dX4_init_46 : decode cX4_init 46 = .ok (.aload_n 0, 1) := by decide +kernel
theorem dX4_init_47 : decode cX4_init 47 = .ok (.sipush 200, 3) := by decide +kernel
theorem dX4_init_50 : decode cX4_init 50 = .ok (.newarray .int, 2) := by decide +kernel
theorem dX4_init_52 : decode cX4_init 52 = .ok (.putfield 25, 3) := by decide +kernel
theorem dX4_init_55 : decode cX4_init 55 = .ok (.aload_n 0, 1) := by decide +kernel
theorem dX4_init_56 : decode cX4_init 56 = .ok (.sipush 200, 3) := by decide +kernel
theorem dX4_init_59 : decode cX4_init 59 = .ok (.newarray .int, 2) := by decide +kernel
theorem dX4_init_61 : decode cX4_init 61 = .ok (.putfield 28, 3) := by decide +kernel
theorem dX4_init_64 : decode cX4_init 64 = .ok (.aload_n 0, 1) := by decide +kernel
theorem dX4_init_65 : decode cX4_init 65 = .ok (.bipush 40, 2) := by decide +kernel
theorem dX4_init_67 : decode cX4_init 67 = .ok (.newarray .int, 2) := by decide +kernel
theorem dX4_init_69 : decode cX4_init 69 = .ok (.putfield 31, 3) := by decide +kernel
theorem dX4_init_72 : decode cX4_init 72 = .ok (.aload_n 0, 1) := by decide +kernel
theorem dX4_init_73 : decode cX4_init 73 = .ok (.bipush 40, 2) := by decide +kernel
theorem dX4_init_75 : decode cX4_init 75 = .ok (.newarray .int, 2) := by decide +kernel
theorem dX4_init_77 : decode cX4_init 77 = .ok (.putfield 34, 3) := by decide +kernel
theorem dX4_init_80 : decode cX4_init 80 = .ok (.aload_n 0, 1) := by decide +kernel
theorem dX4_init_81 : decode cX4_init 81 = .ok (.bipush 40, 2) := by decide +kernel
theorem dX4_init_83 : decode cX4_init 83 = .ok (.newarray .int, 2) := by decide +kernel
theorem dX4_init_85 : decode cX4_init 85 = .ok (.putfield 37, 3) := by decide +kernel
theorem dX4_init_88 : decode cX4_init 88 = .ok (.aload_n 0, 1) := by decide +kernel
theorem dX4_init_89 : decode cX4_init 89 = .ok (.sipush 200, 3) := by decide +kernel
theorem dX4_init_92 : decode cX4_init 92 = .ok (.newarray .int, 2) := by decide +kernel
theorem dX4_init_94 : decode cX4_init 94 = .ok (.putfield 40, 3) := by decide +kernel
theorem dX4_init_97 : decode cX4_init 97 = .ok (.aload_n 0, 1) := by decide +kernel
theorem dX4_init_98 : decode cX4_init 98 = .ok (.sipush 200, 3) := by decide +kernel
theorem dX4_init_101 : decode cX4_init 101 = .ok (.newarray .int, 2) := by decide +kernel
theorem dX4_init_103 : decode cX4_init 103 = .ok (.putfield 43, 3) := by decide +kernel
theorem dX4_init_106 : decode cX4_init 106 = .ok (.aload_n 0, 1) := by decide +kernel
theorem dX4_init_107 : decode cX4_init 107 = .ok (.sipush 200, 3) := by decide +kernel
theorem dX4_init_110 : decode cX4_init 110 = .ok (.newarray .int, 2) := by decide +kernel
theorem dX4_init_112 : decode cX4_init 112 = .ok (.putfield 46, 3) := by decide +kernel
theorem dX4_init_115 : decode cX4_init 115 = .ok (.aload_n 0, 1) := by decide +kernel
theorem dX4_init_116 : decode cX4_init 116 = .ok (.sipush 600, 3) := by decide +kernel
theorem dX4_init_119 : decode cX4_init 119 = .ok (.newarray .int, 2) := by decide +kernel
theorem dX4_init_121 : decode cX4_init 121 = .ok (.putfield 49, 3) := by decide +kernel
theorem dX4_init_124 : decode cX4_init 124 = .ok (.aload_n 0, 1) := by decide +kernel
theorem dX4_init_125 : decode cX4_init 125 = .ok (.sipush 600, 3) := by decide +kernel
theorem dX4_init_128 : decode cX4_init 128 = .ok (.newarray .int, 2) := by decide +kernel
theorem dX4_init_130 : decode cX4_init 130 = .ok (.putfield 52, 3) := by decide +kernel
theorem dX4_init_133 : decode cX4_init 133 = .ok (.iconst 0, 1) := by decide +kernel
theorem dX4_init_134 : decode cX4_init 134 = .ok (.istore_n 1, 1) := by decide +kernel
theorem dX4_init_135 : decode cX4_init 135 = .ok (.iload_n 1, 1) := by decide +kernel
theorem dX4_init_136 : decode cX4_init 136 = .ok (.iconst 5, 1) := by decide +kernel
theorem dX4_init_137 : decode cX4_init 137 = .ok (.if_icmp .ge 16, 3) := by decide +kernel
theorem dX4_init_140 : decode cX4_init 140 = .ok (.aload_n 0, 1) := by decide +kernel
theorem dX4_init_141 : decode cX4_init 141 = .ok (.getfield 7, 3) := by decide +kernel
theorem dX4_init_144 : decode cX4_init 144 = .ok (.iload_n 1, 1) := by decide +kernel
theorem dX4_init_145 : decode cX4_init 145 = .ok (.iconst 1, 1) := by decide +kernel
theorem dX4_init_146 : decode cX4_init 146 = .ok (.iastore, 1) := by decide +kernel
theorem dX4_init_147 : decode cX4_init 147 = .ok (.iinc 1 1, 3) := by decide +kernel
theorem dX4_init_150 : decode cX4_init 150 = .ok (.goto (-15), 3) := by decide +kernel
theorem dX4_init_153 : decode cX4_init 153 = .ok (.iconst 0, 1) := by decide +kernel
theorem dX4_init_154 : decode cX4_init 154 = .ok (.istore_n 1, 1) := by decide +kernel
theorem dX4_init_155 : decode cX4_init 155 = .ok (.iload_n 1, 1) := by decide +kernel
theorem dX4_init_156 : decode cX4_init 156 = .ok (.bipush 6, 2) := by decide +kernel
theorem dX4_init_158 : decode cX4_init 158 = .ok (.if_icmp .ge 17, 3) := by decide +kernel
theorem dX4_init_161 : decode cX4_init 161 = .ok (.aload_n 0, 1) := by decide +kernel
theorem dX4_init_162 : decode cX4_init 162 = .ok (.getfield 13, 3) := by decide +kernel
theorem dX4_init_165 : decode cX4_init 165 = .ok (.iload_n 1, 1) := by decide +kernel
theorem dX4_init_166 : decode cX4_init 166 = .ok (.bipush 100, 2) := by decide +kernel
theorem dX4_init_168 : decode cX4_init 168 = .ok (.iastore, 1) := by decide +kernel
theorem dX4_init_169 : decode cX4_init 169 = .ok (.iinc 1 1, 3) := by decide +kernel
theorem dX4_init_172 : decode cX4_init 172 = .ok (.goto (-17), 3) := by decide +kernel
theorem dX4_init_175 : decode cX4_init 175 = .ok (.return_, 1) := by decide +kernel
theorem dX4_thrown_0 : decode cX4_thrown 0 = .ok (.aload_n 0, 1) := by decide +kernel
theorem dX4_thrown_1 : decode cX4_thrown 1 = .ok (.getfield 55, 3) := by decide +kernel
theorem dX4_thrown_4 : decode cX4_thrown 4 = .ok (.ireturn, 1) := by decide +kernel
theorem dX4_in_0 : decode cX4_in 0 = .ok (.iload_n 0, 1) := by decide +kernel
theorem dX4_in_1 : decode cX4_in 1 = .ok (.iload_n 1, 1) := by decide +kernel
theorem dX4_in_2 : decode cX4_in 2 = .ok (.if_icmp .lt 12, 3) := by decide +kernel
theorem dX4_in_5 : decode cX4_in 5 = .ok (.iload_n 0, 1) := by decide +kernel
theorem dX4_in_6 : decode cX4_in 6 = .ok (.iload_n 2, 1) := by decide +kernel
theorem dX4_in_7 : decode cX4_in 7 = .ok (.if_icmp .gt 7, 3) := by decide +kernel
theorem dX4_in_10 : decode cX4_in 10 = .ok (.iconst 1, 1) := by decide +kernel
theorem dX4_in_11 : decode cX4_in 11 = .ok (.goto 4, 3) := by decide +kernel
theorem dX4_in_14 : decode cX4_in 14 = .ok (.iconst 0, 1) := by decide +kernel
theorem dX4_in_15 : decode cX4_in 15 = .ok (.ireturn, 1) := by decide +kernel
theorem dX4_goes_0 : decode cX4_goes 0 = .ok (.aload_n 0, 1) := by decide +kernel
theorem dX4_goes_1 : decode cX4_goes 1 = .ok (.iload_n 1, 1) := by decide +kernel
theorem dX4_goes_2 : decode cX4_goes 2 = .ok (.ifCond .ne 7, 3) := by decide +kernel
theorem dX4_goes_5 : decode cX4_goes 5 = .ok (.iconst 1, 1) := by decide +kernel
theorem dX4_goes_6 : decode cX4_goes 6 = .ok (.goto 20, 3) := by decide +kernel
theorem dX4_goes_9 : decode cX4_goes 9 = .ok (.iload_n 2, 1) := by decide +kernel
theorem dX4_goes_10 : decode cX4_goes 10 = .ok (.ifCond .ne 7, 3) := by decide +kernel
theorem dX4_goes_13 : decode cX4_goes 13 = .ok (.iconst 2, 1) := by decide +kernel
theorem dX4_goes_14 : decode cX4_goes 14 = .ok (.goto 12, 3) := by decide +kernel
theorem dX4_goes_17 : decode cX4_goes 17 = .ok (.iload_n 3, 1) := by decide +kernel
theorem dX4_goes_18 : decode cX4_goes 18 = .ok (.ifCond .ne 7, 3) := by decide +kernel
theorem dX4_goes_21 : decode cX4_goes 21 = .ok (.iconst 3, 1) := by decide +kernel
theorem dX4_goes_22 : decode cX4_goes 22 = .ok (.goto 4, 3) := by decide +kernel
theorem dX4_goes_25 : decode cX4_goes 25 = .ok (.iconst 0, 1) := by decide +kernel
theorem dX4_goes_26 : decode cX4_goes 26 = .ok (.putfield 55, 3) := by decide +kernel
theorem dX4_goes_29 : decode cX4_goes 29 = .ok (.aload_n 0, 1) := by decide +kernel
theorem dX4_goes_30 : decode cX4_goes 30 = .ok (.getfield 55, 3) := by decide +kernel
theorem dX4_goes_33 : decode cX4_goes 33 = .ok (.ifCond .ne 7, 3) := by decide +kernel
theorem dX4_goes_36 : decode cX4_goes 36 = .ok (.iconst 1, 1) := by decide +kernel
theorem dX4_goes_37 : decode cX4_goes 37 = .ok (.goto 4, 3) := by decide +kernel
theorem dX4_goes_40 : decode cX4_goes 40 = .ok (.iconst 0, 1) := by decide +kernel
theorem dX4_goes_41 : decode cX4_goes 41 = .ok (.ireturn, 1) := by decide +kernel
theorem dX4_told_0 : decode cX4_told 0 = .ok (.aload_n 0, 1) := by decide +kernel
theorem dX4_told_1 : decode cX4_told 1 = .ok (.iconst 0, 1) := by decide +kernel
theorem dX4_told_2 : decode cX4_told 2 = .ok (.putfield 55, 3) := by decide +kernel
theorem dX4_told_5 : decode cX4_told 5 = .ok (.iload_n 1, 1) := by decide +kernel
theorem dX4_told_6 : decode cX4_told 6 = .ok (.ireturn, 1) := by decide +kernel
theorem dX4_isPlace_0 : decode cX4_isPlace 0 = .ok (.iload_n 0, 1) := by decide +kernel
theorem dX4_isPlace_1 : decode cX4_isPlace 1 = .ok (.iconst 0, 1) := by decide +kernel
theorem dX4_isPlace_2 : decode cX4_isPlace 2 = .ok (.bipush 11, 2) := by decide +kernel
theorem dX4_isPlace_4 : decode cX4_isPlace 4 = .ok (.invokestatic 59, 3) := by decide +kernel
theorem dX4_isPlace_7 : decode cX4_isPlace 7 = .ok (.ireturn, 1) := by decide +kernel
theorem dX4_isArticle_0 : decode cX4_isArticle 0 = .ok (.iload_n 0, 1) := by decide +kernel
theorem dX4_isArticle_1 : decode cX4_isArticle 1 = .ok (.iconst 0, 1) := by decide +kernel
theorem dX4_isArticle_2 : decode cX4_isArticle 2 = .ok (.iconst 4, 1) := by decide +kernel
theorem dX4_isArticle_3 : decode cX4_isArticle 3 = .ok (.invokestatic 59, 3) := by decide +kernel
theorem dX4_isArticle_6 : decode cX4_isArticle 6 = .ok (.ireturn, 1) := by decide +kernel
theorem dX4_isSheet_0 : decode cX4_isSheet 0 = .ok (.iload_n 1, 1) := by decide +kernel
theorem dX4_isSheet_1 : decode cX4_isSheet 1 = .ok (.iconst 0, 1) := by decide +kernel
theorem dX4_isSheet_2 : decode cX4_isSheet 2 = .ok (.aload_n 0, 1) := by decide +kernel
theorem dX4_isSheet_3 : decode cX4_isSheet 3 = .ok (.getfield 63, 3) := by decide +kernel
theorem dX4_isSheet_6 : decode cX4_isSheet 6 = .ok (.iconst 1, 1) := by decide +kernel
theorem dX4_isSheet_7 : decode cX4_isSheet 7 = .ok (.isub, 1) := by decide +kernel
theorem dX4_isSheet_8 : decode cX4_isSheet 8 = .ok (.invokestatic 59, 3) := by decide +kernel
theorem dX4_isSheet_11 : decode cX4_isSheet 11 = .ok (.ireturn, 1) := by decide +kernel
theorem dX4_setPrice_0 : decode cX4_setPrice 0 = .ok (.aload_n 0, 1) := by decide +kernel
theorem dX4_setPrice_1 : decode cX4_setPrice 1 = .ok (.iload_n 1, 1) := by decide +kernel
theorem dX4_setPrice_2 : decode cX4_setPrice 2 = .ok (.invokestatic 66, 3) := by decide +kernel
theorem dX4_setPrice_5 : decode cX4_setPrice 5 = .ok (.iload_n 2, 1) := by decide +kernel
theorem dX4_setPrice_6 : decode cX4_setPrice 6 = .ok (.iconst 0, 1) := by decide +kernel
theorem dX4_setPrice_7 : decode cX4_setPrice 7 = .ok (.sipush 1000, 3) := by decide +kernel
theorem dX4_setPrice_10 : decode cX4_setPrice 10 = .ok (.invokestatic 59, 3) := by decide +kernel
theorem dX4_setPrice_13 : decode cX4_setPrice 13 = .ok (.iconst 1, 1) := by decide +kernel
theorem dX4_setPrice_14 : decode cX4_setPrice 14 = .ok (.invokevirtual 70, 3) := by decide +kernel
theorem dX4_setPrice_17 : decode cX4_setPrice 17 = .ok (.ifCond .ne 5, 3) := by decide +kernel
theorem dX4_setPrice_20 : decode cX4_setPrice 20 = .ok (.iconst 0, 1) := by decide +kernel
theorem dX4_setPrice_21 : decode cX4_setPrice 21 = .ok (.ireturn, 1) := by decide +kernel
theorem dX4_setPrice_22 : decode cX4_setPrice 22 = .ok (.aload_n 0, 1) := by decide +kernel
theorem dX4_setPrice_23 : decode cX4_setPrice 23 = .ok (.getfield 7, 3) := by decide +kernel
theorem dX4_setPrice_26 : decode cX4_setPrice 26 = .ok (.iload_n 1, 1) := by decide +kernel
theorem dX4_setPrice_27 : decode cX4_setPrice 27 = .ok (.iaload, 1) := by decide +kernel
theorem dX4_setPrice_28 : decode cX4_setPrice 28 = .ok (.istore_n 3, 1) := by decide +kernel
theorem dX4_setPrice_29 : decode cX4_setPrice 29 = .ok (.aload_n 0, 1) := by decide +kernel
theorem dX4_setPrice_30 : decode cX4_setPrice 30 = .ok (.getfield 7, 3) := by decide +kernel
theorem dX4_setPrice_33 : decode cX4_setPrice 33 = .ok (.iload_n 1, 1) := by decide +kernel
theorem dX4_setPrice_34 : decode cX4_setPrice 34 = .ok (.iload_n 2, 1) := by decide +kernel
theorem dX4_setPrice_35 : decode cX4_setPrice 35 = .ok (.iastore, 1) := by decide +kernel
theorem dX4_setPrice_36 : decode cX4_setPrice 36 = .ok (.iload_n 3, 1) := by decide +kernel
theorem dX4_setPrice_37 : decode cX4_setPrice 37 = .ok (.ireturn, 1) := by decide +kernel
theorem dX4_setBound_0 : decode cX4_setBound 0 = .ok (.aload_n 0, 1) := by decide +kernel
theorem dX4_setBound_1 : decode cX4_setBound 1 = .ok (.iload_n 1, 1) := by decide +kernel
theorem dX4_setBound_2 : decode cX4_setBound 2 = .ok (.iconst 0, 1) := by decide +kernel
theorem dX4_setBound_3 : decode cX4_setBound 3 = .ok (.iconst 5, 1) := by decide +kernel
theorem dX4_setBound_4 : decode cX4_setBound 4 = .ok (.invokestatic 59, 3) := by decide +kernel
theorem dX4_setBound_7 : decode cX4_setBound 7 = .ok (.iload_n 2, 1) := by decide +kernel
theorem dX4_setBound_8 : decode cX4_setBound 8 = .ok (.iconst 0, 1) := by decide +kernel
theorem dX4_setBound_9 : decode cX4_setBound 9 = .ok (.ldc 74, 2) := by decide +kernel
theorem dX4_setBound_11 : decode cX4_setBound 11 = .ok (.invokestatic 59, 3) := by decide +kernel
theorem dX4_setBound_14 : decode cX4_setBound 14 = .ok (.iconst 1, 1) := by decide +kernel
theorem dX4_setBound_15 : decode cX4_setBound 15 = .ok (.invokevirtual 70, 3) := by decide +kernel
theorem dX4_setBound_18 : decode cX4_setBound 18 = .ok (.ifCond .ne 5, 3) := by decide +kernel
theorem dX4_setBound_21 : decode cX4_setBound 21 = .ok (.iconst 0, 1) := by decide +kernel
theorem dX4_setBound_22 : decode cX4_setBound 22 = .ok (.ireturn, 1) := by decide +kernel
theorem dX4_setBound_23 : decode cX4_setBound 23 = .ok (.aload_n 0, 1) := by decide +kernel
theorem dX4_setBound_24 : decode cX4_setBound 24 = .ok (.getfield 13, 3) := by decide +kernel
theorem dX4_setBound_27 : decode cX4_setBound 27 = .ok (.iload_n 1, 1) := by decide +kernel
theorem dX4_setBound_28 : decode cX4_setBound 28 = .ok (.iaload, 1) := by decide +kernel
theorem dX4_setBound_29 : decode cX4_setBound 29 = .ok (.istore_n 3, 1) := by decide +kernel
theorem dX4_setBound_30 : decode cX4_setBound 30 = .ok (.aload_n 0, 1) := by decide +kernel
theorem dX4_setBound_31 : decode cX4_setBound 31 = .ok (.getfield 13, 3) := by decide +kernel
theorem dX4_setBound_34 : decode cX4_setBound 34 = .ok (.iload_n 1, 1) := by decide +kernel
theorem dX4_setBound_35 : decode cX4_setBound 35 = .ok (.iload_n 2, 1) := by decide +kernel
theorem dX4_setBound_36 : decode cX4_setBound 36 = .ok (.iastore, 1) := by decide +kernel
theorem dX4_setBound_37 : decode cX4_setBound 37 = .ok (.iload_n 3, 1) := by decide +kernel
theorem dX4_setBound_38 : decode cX4_setBound 38 = .ok (.ireturn, 1) := by decide +kernel
theorem dX4_move_0 : decode cX4_move 0 = .ok (.iload_n 1, 1) := by decide +kernel
theorem dX4_move_1 : decode cX4_move 1 = .ok (.iconst (-1), 1) := by decide +kernel
theorem dX4_move_2 : decode cX4_move 2 = .ok (.bipush 11, 2) := by decide +kernel
theorem dX4_move_4 : decode cX4_move 4 = .ok (.invokestatic 59, 3) := by decide +kernel
theorem dX4_move_7 : decode cX4_move 7 = .ok (.ifCond .eq 24, 3) := by decide +kernel
theorem dX4_move_10 : decode cX4_move 10 = .ok (.iload_n 2, 1) := by decide +kernel
theorem dX4_move_11 : decode cX4_move 11 = .ok (.iconst (-1), 1) := by decide +kernel
theorem dX4_move_12 : decode cX4_move 12 = .ok (.bipush 11, 2) := by decide +kernel
theorem dX4_move_14 : decode cX4_move 14 = .ok (.invokestatic 59, 3) := by decide +kernel
theorem dX4_move_17 : decode cX4_move 17 = .ok (.ifCond .eq 14, 3) := by decide +kernel
theorem dX4_move_20 : decode cX4_move 20 = .ok (.iload_n 3, 1) := by decide +kernel
theorem dX4_move_21 : decode cX4_move 21 = .ok (.invokestatic 66, 3) := by decide +kernel
theorem dX4_move_24 : decode cX4_move 24 = .ok (.ifCond .eq 7, 3) := by decide +kernel
theorem dX4_move_27 : decode cX4_move 27 = .ok (.iconst 1, 1) := by decide +kernel
theorem dX4_move_28 : decode cX4_move 28 = .ok (.goto 4, 3) := by decide +kernel
theorem dX4_move_31 : decode cX4_move 31 = .ok (.iconst 0, 1) := by decide +kernel
theorem dX4_move_32 : decode cX4_move 32 = .ok (.istore 6, 2) := by decide +kernel
theorem dX4_move_34 : decode cX4_move 34 = .ok (.aload_n 0, 1) := by decide +kernel
theorem dX4_move_35 : decode cX4_move 35 = .ok (.iload 6, 2) := by decide +kernel
theorem dX4_move_37 : decode cX4_move 37 = .ok (.iload_n 1, 1) := by decide +kernel
theorem dX4_move_38 : decode cX4_move 38 = .ok (.iload_n 2, 1) := by decide +kernel
theorem dX4_move_39 : decode cX4_move 39 = .ok (.if_icmp .eq 32, 3) := by decide +kernel
theorem dX4_move_42 : decode cX4_move 42 = .ok (.iload 4, 2) := by decide +kernel
theorem dX4_move_44 : decode cX4_move 44 = .ok (.iconst 1, 1) := by decide +kernel
theorem dX4_move_45 : decode cX4_move 45 = .ok (.sipush 1000, 3) := by decide +kernel
theorem dX4_move_48 : decode cX4_move 48 = .ok (.invokestatic 59, 3) := by decide +kernel
theorem dX4_move_51 : decode cX4_move 51 = .ok (.ifCond .eq 20, 3) := by decide +kernel
theorem dX4_move_54 : decode cX4_move 54 = .ok (.iload 5, 2) := by decide +kernel
theorem dX4_move_56 : decode cX4_move 56 = .ok (.iconst 0, 1) := by decide +kernel
theorem dX4_move_57 : decode cX4_move 57 = .ok (.aload_n 0, 1) := by decide +kernel
theorem dX4_move_58 : decode cX4_move 58 = .ok (.getfield 75, 3) := by decide +kernel
theorem dX4_move_61 : decode cX4_move 61 = .ok (.invokestatic 59, 3) := by decide +kernel
theorem dX4_move_64 : decode cX4_move 64 = .ok (.ifCond .eq 7, 3) := by decide +kernel
theorem dX4_move_67 : decode cX4_move 67 = .ok (.iconst 1, 1) := by decide +kernel
theorem dX4_move_68 : decode cX4_move 68 = .ok (.goto 4, 3) := by decide +kernel
theorem dX4_move_71 : decode cX4_move 71 = .ok (.iconst 0, 1) := by decide +kernel
theorem dX4_move_72 : decode cX4_move 72 = .ok (.aload_n 0, 1) := by decide +kernel
theorem dX4_move_73 : decode cX4_move 73 = .ok (.getfield 78, 3) := by decide +kernel
theorem dX4_move_76 : decode cX4_move 76 = .ok (.sipush 200, 3) := by decide +kernel
theorem dX4_move_79 : decode cX4_move 79 = .ok (.if_icmp .ge 7, 3) := by decide +kernel
theorem dX4_move_82 : decode cX4_move 82 = .ok (.iconst 1, 1) := by decide +kernel
theorem dX4_move_83 : decode cX4_move 83 = .ok (.goto 4, 3) := by decide +kernel
theorem dX4_move_86 : decode cX4_move 86 = .ok (.iconst 0, 1) := by decide +kernel
theorem dX4_move_87 : decode cX4_move 87 = .ok (.invokevirtual 70, 3) := by decide +kernel
theorem dX4_move_90 : decode cX4_move 90 = .ok (.ifCond .ne 5, 3) := by decide +kernel
theorem dX4_move_93 : decode cX4_move 93 = .ok (.iconst 0, 1) := by decide +kernel
theorem dX4_move_94 : decode cX4_move 94 = .ok (.ireturn, 1) := by decide +kernel
theorem dX4_move_95 : decode cX4_move 95 = .ok (.aload_n 0, 1) := by decide +kernel
theorem dX4_move_96 : decode cX4_move 96 = .ok (.getfield 16, 3) := by decide +kernel
theorem dX4_move_99 : decode cX4_move 99 = .ok (.aload_n 0, 1) := by decide +kernel
theorem dX4_move_100 : decode cX4_move 100 = .ok (.getfield 78, 3) := by decide +kernel
theorem dX4_move_103 : decode cX4_move 103 = .ok (.iload_n 1, 1) := by decide +kernel
theorem dX4_move_104 : decode cX4_move 104 = .ok (.iastore, 1) := by decide +kernel
theorem dX4_move_105 : decode cX4_move 105 = .ok (.aload_n 0, 1) := by decide +kernel
theorem dX4_move_106 : decode cX4_move 106 = .ok (.getfield 19, 3) := by decide +kernel
theorem dX4_move_109 : decode cX4_move 109 = .ok (.aload_n 0, 1) := by decide +kernel
theorem dX4_move_110 : decode cX4_move 110 = .ok (.getfield 78, 3) := by decide +kernel
theorem dX4_move_113 : decode cX4_move 113 = .ok (.iload_n 2, 1) := by decide +kernel
theorem dX4_move_114 : decode cX4_move 114 = .ok (.iastore, 1) := by decide +kernel
theorem dX4_move_115 : decode cX4_move 115 = .ok (.aload_n 0, 1) := by decide +kernel
theorem dX4_move_116 : decode cX4_move 116 = .ok (.getfield 22, 3) := by decide +kernel
theorem dX4_move_119 : decode cX4_move 119 = .ok (.aload_n 0, 1) := by decide +kernel
theorem dX4_move_120 : decode cX4_move 120 = .ok (.getfield 78, 3) := by decide +kernel
theorem dX4_move_123 : decode cX4_move 123 = .ok (.iload_n 3, 1) := by decide +kernel
theorem dX4_move_124 : decode cX4_move 124 = .ok (.iastore, 1) := by decide +kernel
theorem dX4_move_125 : decode cX4_move 125 = .ok (.aload_n 0, 1) := by decide +kernel
theorem dX4_move_126 : decode cX4_move 126 = .ok (.getfield 25, 3) := by decide +kernel
theorem dX4_move_129 : decode cX4_move 129 = .ok (.aload_n 0, 1) := by decide +kernel
theorem dX4_move_130 : decode cX4_move 130 = .ok (.getfield 78, 3) := by decide +kernel
theorem dX4_move_133 : decode cX4_move 133 = .ok (.iload 4, 2) := by decide +kernel
theorem dX4_move_135 : decode cX4_move 135 = .ok (.iastore, 1) := by decide +kernel
theorem dX4_move_136 : decode cX4_move 136 = .ok (.aload_n 0, 1) := by decide +kernel
theorem dX4_move_137 : decode cX4_move 137 = .ok (.getfield 28, 3) := by decide +kernel
theorem dX4_move_140 : decode cX4_move 140 = .ok (.aload_n 0, 1) := by decide +kernel
theorem dX4_move_141 : decode cX4_move 141 = .ok (.getfield 78, 3) := by decide +kernel
theorem dX4_move_144 : decode cX4_move 144 = .ok (.iload 5, 2) := by decide +kernel
theorem dX4_move_146 : decode cX4_move 146 = .ok (.iastore, 1) := by decide +kernel
theorem dX4_move_147 : decode cX4_move 147 = .ok (.aload_n 0, 1) := by decide +kernel
theorem dX4_move_148 : decode cX4_move 148 = .ok (.dup, 1) := by decide +kernel
theorem dX4_move_149 : decode cX4_move 149 = .ok (.getfield 78, 3) := by decide +kernel
theorem dX4_move_152 : decode cX4_move 152 = .ok (.iconst 1, 1) := by decide +kernel
theorem dX4_move_153 : decode cX4_move 153 = .ok (.iadd, 1) := by decide +kernel
theorem dX4_move_154 : decode cX4_move 154 = .ok (.putfield 78, 3) := by decide +kernel
theorem dX4_move_157 : decode cX4_move 157 = .ok (.aload_n 0, 1) := by decide +kernel
theorem dX4_move_158 : decode cX4_move 158 = .ok (.getfield 78, 3) := by decide +kernel
theorem dX4_move_161 : decode cX4_move 161 = .ok (.iconst 1, 1) := by decide +kernel
theorem dX4_move_162 : decode cX4_move 162 = .ok (.isub, 1) := by decide +kernel
theorem dX4_move_163 : decode cX4_move 163 = .ok (.ireturn, 1) := by decide +kernel
theorem dX4_pass_0 : decode cX4_pass 0 = .ok (.aload_n 0, 1) := by decide +kernel
theorem dX4_pass_1 : decode cX4_pass 1 = .ok (.iload_n 1, 1) := by decide +kernel
theorem dX4_pass_2 : decode cX4_pass 2 = .ok (.iconst 1, 1) := by decide +kernel
theorem dX4_pass_3 : decode cX4_pass 3 = .ok (.sipush 1000, 3) := by decide +kernel
theorem dX4_pass_6 : decode cX4_pass 6 = .ok (.invokestatic 59, 3) := by decide +kernel
theorem dX4_pass_9 : decode cX4_pass 9 = .ok (.iconst 1, 1) := by decide +kernel
theorem dX4_pass_10 : decode cX4_pass 10 = .ok (.iconst 1, 1) := by decide +kernel
theorem dX4_pass_11 : decode cX4_pass 11 = .ok (.invokevirtual 70, 3) := by decide +kernel
theorem dX4_pass_14 : decode cX4_pass 14 = .ok (.ifCond .ne 5, 3) := by decide +kernel
theorem dX4_pass_17 : decode cX4_pass 17 = .ok (.iconst 0, 1) := by decide +kernel
theorem dX4_pass_18 : decode cX4_pass 18 = .ok (.ireturn, 1) := by decide +kernel
theorem dX4_pass_19 : decode cX4_pass 19 = .ok (.aload_n 0, 1) := by decide +kernel
theorem dX4_pass_20 : decode cX4_pass 20 = .ok (.dup, 1) := by decide +kernel
theorem dX4_pass_21 : decode cX4_pass 21 = .ok (.getfield 75, 3) := by decide +kernel
theorem dX4_pass_24 : decode cX4_pass 24 = .ok (.iload_n 1, 1) := by decide +kernel
theorem dX4_pass_25 : decode cX4_pass 25 = .ok (.iadd, 1) := by decide +kernel
theorem dX4_pass_26 : decode cX4_pass 26 = .ok (.putfield 75, 3) := by decide +kernel
theorem dX4_pass_29 : decode cX4_pass 29 = .ok (.aload_n 0, 1) := by decide +kernel
theorem dX4_pass_30 : decode cX4_pass 30 = .ok (.getfield 75, 3) := by decide +kernel
theorem dX4_pass_33 : decode cX4_pass 33 = .ok (.ireturn, 1) := by decide +kernel
theorem dX4_at_0 : decode cX4_at 0 = .ok (.iconst 5, 1) := by decide +kernel
theorem dX4_at_1 : decode cX4_at 1 = .ok (.iload_n 0, 1) := by decide +kernel
theorem dX4_at_2 : decode cX4_at 2 = .ok (.imul, 1) := by decide +kernel
theorem dX4_at_3 : decode cX4_at 3 = .ok (.iload_n 1, 1) := by decide +kernel
theorem dX4_at_4 : decode cX4_at 4 = .ok (.iadd, 1) := by decide +kernel
theorem dX4_at_5 : decode cX4_at 5 = .ok (.ireturn, 1) := by decide +kernel
theorem dX4_agree_0 : decode cX4_agree 0 = .ok (.aload_n 0, 1) := by decide +kernel
theorem dX4_agree_1 : decode cX4_agree 1 = .ok (.getfield 52, 3) := by decide +kernel
theorem dX4_agree_4 : decode cX4_agree 4 = .ok (.iconst 3, 1) := by decide +kernel
theorem dX4_agree_5 : decode cX4_agree 5 = .ok (.iload_n 1, 1) := by decide +kernel
theorem dX4_agree_6 : decode cX4_agree 6 = .ok (.imul, 1) := by decide +kernel
theorem dX4_agree_7 : decode cX4_agree 7 = .ok (.iaload, 1) := by decide +kernel
theorem dX4_agree_8 : decode cX4_agree 8 = .ok (.istore_n 2, 1) := by decide +kernel
theorem dX4_agree_9 : decode cX4_agree 9 = .ok (.aload_n 0, 1) := by decide +kernel
theorem dX4_agree_10 : decode cX4_agree 10 = .ok (.getfield 52, 3) := by decide +kernel
theorem dX4_agree_13 : decode cX4_agree 13 = .ok (.iconst 3, 1) := by decide +kernel
theorem dX4_agree_14 : decode cX4_agree 14 = .ok (.iload_n 1, 1) := by decide +kernel
theorem dX4_agree_15 : decode cX4_agree 15 = .ok (.imul, 1) := by decide +kernel
theorem dX4_agree_16 : decode cX4_agree 16 = .ok (.iconst 1, 1) := by decide +kernel
theorem dX4_agree_17 : decode cX4_agree 17 = .ok (.iadd, 1) := by decide +kernel
theorem dX4_agree_18 : decode cX4_agree 18 = .ok (.iaload, 1) := by decide +kernel
theorem dX4_agree_19 : decode cX4_agree 19 = .ok (.istore_n 3, 1) := by decide +kernel
theorem dX4_agree_20 : decode cX4_agree 20 = .ok (.aload_n 0, 1) := by decide +kernel
theorem dX4_agree_21 : decode cX4_agree 21 = .ok (.getfield 52, 3) := by decide +kernel
theorem dX4_agree_24 : decode cX4_agree 24 = .ok (.iconst 3, 1) := by decide +kernel
theorem dX4_agree_25 : decode cX4_agree 25 = .ok (.iload_n 1, 1) := by decide +kernel
theorem dX4_agree_26 : decode cX4_agree 26 = .ok (.imul, 1) := by decide +kernel
theorem dX4_agree_27 : decode cX4_agree 27 = .ok (.iconst 2, 1) := by decide +kernel
theorem dX4_agree_28 : decode cX4_agree 28 = .ok (.iadd, 1) := by decide +kernel
theorem dX4_agree_29 : decode cX4_agree 29 = .ok (.iaload, 1) := by decide +kernel
theorem dX4_agree_30 : decode cX4_agree 30 = .ok (.istore 4, 2) := by decide +kernel
theorem dX4_agree_32 : decode cX4_agree 32 = .ok (.aload_n 0, 1) := by decide +kernel
theorem dX4_agree_33 : decode cX4_agree 33 = .ok (.getfield 40, 3) := by decide +kernel
theorem dX4_agree_36 : decode cX4_agree 36 = .ok (.iload_n 1, 1) := by decide +kernel
theorem dX4_agree_37 : decode cX4_agree 37 = .ok (.iaload, 1) := by decide +kernel
theorem dX4_agree_38 : decode cX4_agree 38 = .ok (.iconst 2, 1) := by decide +kernel
theorem dX4_agree_39 : decode cX4_agree 39 = .ok (.if_icmp .lt 18, 3) := by decide +kernel
theorem dX4_agree_42 : decode cX4_agree 42 = .ok (.aload_n 0, 1) := by decide +kernel
theorem dX4_agree_43 : decode cX4_agree 43 = .ok (.getfield 40, 3) := by decide +kernel
theorem dX4_agree_46 : decode cX4_agree 46 = .ok (.iload_n 1, 1) := by decide +kernel
theorem dX4_agree_47 : decode cX4_agree 47 = .ok (.iaload, 1) := by decide +kernel
theorem dX4_agree_48 : decode cX4_agree 48 = .ok (.iconst 2, 1) := by decide +kernel
theorem dX4_agree_49 : decode cX4_agree 49 = .ok (.if_icmp .ne 10, 3) := by decide +kernel
theorem dX4_agree_52 : decode cX4_agree 52 = .ok (.iload_n 2, 1) := by decide +kernel
theorem dX4_agree_53 : decode cX4_agree 53 = .ok (.iload_n 3, 1) := by decide +kernel
theorem dX4_agree_54 : decode cX4_agree 54 = .ok (.if_icmp .eq 5, 3) := by decide +kernel
theorem dX4_agree_57 : decode cX4_agree 57 = .ok (.iconst (-1), 1) := by decide +kernel
theorem dX4_agree_58 : decode cX4_agree 58 = .ok (.ireturn, 1) := by decide +kernel
theorem dX4_agree_59 : decode cX4_agree 59 = .ok (.aload_n 0, 1) := by decide +kernel
theorem dX4_agree_60 : decode cX4_agree 60 = .ok (.getfield 40, 3) := by decide +kernel
theorem dX4_agree_63 : decode cX4_agree 63 = .ok (.iload_n 1, 1) := by decide +kernel
theorem dX4_agree_64 : decode cX4_agree 64 = .ok (.iaload, 1) := by decide +kernel
theorem dX4_agree_65 : decode cX4_agree 65 = .ok (.iconst 2, 1) := by decide +kernel
theorem dX4_agree_66 : decode cX4_agree 66 = .ok (.if_icmp .eq 14, 3) := by decide +kernel
theorem dX4_agree_69 : decode cX4_agree 69 = .ok (.iload_n 2, 1) := by decide +kernel
theorem dX4_agree_70 : decode cX4_agree 70 = .ok (.iload_n 3, 1) := by decide +kernel
theorem dX4_agree_71 : decode cX4_agree 71 = .ok (.if_icmp .eq 9, 3) := by decide +kernel
theorem dX4_agree_74 : decode cX4_agree 74 = .ok (.iload_n 2, 1) := by decide +kernel
theorem dX4_agree_75 : decode cX4_agree 75 = .ok (.iload 4, 2) := by decide +kernel
theorem dX4_agree_77 : decode cX4_agree 77 = .ok (.if_icmp .ne 5, 3) := by decide +kernel
theorem dX4_agree_80 : decode cX4_agree 80 = .ok (.iload_n 2, 1) := by decide +kernel
theorem dX4_agree_81 : decode cX4_agree 81 = .ok (.ireturn, 1) := by decide +kernel
theorem dX4_agree_82 : decode cX4_agree 82 = .ok (.iload_n 2, 1) := by decide +kernel
theorem dX4_agree_83 : decode cX4_agree 83 = .ok (.iload_n 3, 1) := by decide +kernel
theorem dX4_agree_84 : decode cX4_agree 84 = .ok (.if_icmp .le 7, 3) := by decide +kernel
theorem dX4_agree_87 : decode cX4_agree 87 = .ok (.iconst 1, 1) := by decide +kernel
theorem dX4_agree_88 : decode cX4_agree 88 = .ok (.goto 4, 3) := by decide +kernel
theorem dX4_agree_91 : decode cX4_agree 91 = .ok (.iconst 0, 1) := by decide +kernel
theorem dX4_agree_92 : decode cX4_agree 92 = .ok (.iload 4, 2) := by decide +kernel
theorem dX4_agree_94 : decode cX4_agree 94 = .ok (.iload_n 2, 1) := by decide +kernel
theorem dX4_agree_95 : decode cX4_agree 95 = .ok (.if_icmp .le 7, 3) := by decide +kernel
theorem dX4_agree_98 : decode cX4_agree 98 = .ok (.iconst 1, 1) := by decide +kernel
theorem dX4_agree_99 : decode cX4_agree 99 = .ok (.goto 4, 3) := by decide +kernel
theorem dX4_agree_102 : decode cX4_agree 102 = .ok (.iconst 0, 1) := by decide +kernel
theorem dX4_agree_103 : decode cX4_agree 103 = .ok (.if_icmp .ne 7, 3) := by decide +kernel
theorem dX4_agree_106 : decode cX4_agree 106 = .ok (.iconst 1, 1) := by decide +kernel
theorem dX4_agree_107 : decode cX4_agree 107 = .ok (.goto 4, 3) := by decide +kernel
theorem dX4_agree_110 : decode cX4_agree 110 = .ok (.iconst 0, 1) := by decide +kernel
theorem dX4_agree_111 : decode cX4_agree 111 = .ok (.istore 5, 2) := by decide +kernel
theorem dX4_agree_113 : decode cX4_agree 113 = .ok (.iload_n 3, 1) := by decide +kernel
theorem dX4_agree_114 : decode cX4_agree 114 = .ok (.iload_n 2, 1) := by decide +kernel
theorem dX4_agree_115 : decode cX4_agree 115 = .ok (.if_icmp .le 7, 3) := by decide +kernel
theorem dX4_agree_118 : decode cX4_agree 118 = .ok (.iconst 1, 1) := by decide +kernel
theorem dX4_agree_119 : decode cX4_agree 119 = .ok (.goto 4, 3) := by decide +kernel
theorem dX4_agree_122 : decode cX4_agree 122 = .ok (.iconst 0, 1) := by decide +kernel
theorem dX4_agree_123 : decode cX4_agree 123 = .ok (.iload 4, 2) := by decide +kernel
theorem dX4_agree_125 : decode cX4_agree 125 = .ok (.iload_n 3, 1) := by decide +kernel
theorem dX4_agree_126 : decode cX4_agree 126 = .ok (.if_icmp .le 7, 3) := by decide +kernel
theorem dX4_agree_129 : decode cX4_agree 129 = .ok (.iconst 1, 1) := by decide +kernel
theorem dX4_agree_130 : decode cX4_agree 130 = .ok (.goto 4, 3) := by decide +kernel
theorem dX4_agree_133 : decode cX4_agree 133 = .ok (.iconst 0, 1) := by decide +kernel
theorem dX4_agree_134 : decode cX4_agree 134 = .ok (.if_icmp .ne 7, 3) := by decide +kernel
theorem dX4_agree_137 : decode cX4_agree 137 = .ok (.iconst 1, 1) := by decide +kernel
theorem dX4_agree_138 : decode cX4_agree 138 = .ok (.goto 4, 3) := by decide +kernel
theorem dX4_agree_141 : decode cX4_agree 141 = .ok (.iconst 0, 1) := by decide +kernel
theorem dX4_agree_142 : decode cX4_agree 142 = .ok (.istore 6, 2) := by decide +kernel
theorem dX4_agree_144 : decode cX4_agree 144 = .ok (.iload_n 3, 1) := by decide +kernel
theorem dX4_agree_145 : decode cX4_agree 145 = .ok (.iload 4, 2) := by decide +kernel
theorem dX4_agree_147 : decode cX4_agree 147 = .ok (.if_icmp .eq 8, 3) := by decide +kernel
theorem dX4_agree_150 : decode cX4_agree 150 = .ok (.iload 6, 2) := by decide +kernel
theorem dX4_agree_152 : decode cX4_agree 152 = .ok (.ifCond .eq 7, 3) := by decide +kernel
theorem dX4_agree_155 : decode cX4_agree 155 = .ok (.iload_n 3, 1) := by decide +kernel
theorem dX4_agree_156 : decode cX4_agree 156 = .ok (.goto 14, 3) := by decide +kernel
theorem dX4_agree_159 : decode cX4_agree 159 = .ok (.iload 5, 2) := by decide +kernel
theorem dX4_agree_161 : decode cX4_agree 161 = .ok (.ifCond .eq 7, 3) := by decide +kernel
theorem dX4_agree_164 : decode cX4_agree 164 = .ok (.iload_n 2, 1) := by decide +kernel
theorem dX4_agree_165 : decode cX4_agree 165 = .ok (.goto 5, 3) := by decide +kernel
theorem dX4_agree_168 : decode cX4_agree 168 = .ok (.iload 4, 2) := by decide +kernel
theorem dX4_agree_170 : decode cX4_agree 170 = .ok (.ireturn, 1) := by decide +kernel
theorem dX4_bookOf_0 : decode cX4_bookOf 0 = .ok (.iconst (-1), 1) := by decide +kernel
theorem dX4_bookOf_1 : decode cX4_bookOf 1 = .ok (.istore 4, 2) := by decide +kernel
theorem dX4_bookOf_3 : decode cX4_bookOf 3 = .ok (.iconst 0, 1) := by decide +kernel
theorem dX4_bookOf_4 : decode cX4_bookOf 4 = .ok (.istore 5, 2) := by decide +kernel
theorem dX4_bookOf_6 : decode cX4_bookOf 6 = .ok (.iload 5, 2) := by decide +kernel
theorem dX4_bookOf_8 : decode cX4_bookOf 8 = .ok (.aload_n 0, 1) := by decide +kernel
theorem dX4_bookOf_9 : decode cX4_bookOf 9 = .ok (.getfield 63, 3) := by decide +kernel
theorem dX4_bookOf_12 : decode cX4_bookOf 12 = .ok (.if_icmp .ge 143, 3) := by decide +kernel
theorem dX4_bookOf_15 : decode cX4_bookOf 15 = .ok (.aload_n 0, 1) := by decide +kernel
theorem dX4_bookOf_16 : decode cX4_bookOf 16 = .ok (.getfield 31, 3) := by decide +kernel
theorem dX4_bookOf_19 : decode cX4_bookOf 19 = .ok (.iload 5, 2) := by decide +kernel
theorem dX4_bookOf_21 : decode cX4_bookOf 21 = .ok (.iaload, 1) := by decide +kernel
theorem dX4_bookOf_22 : decode cX4_bookOf 22 = .ok (.iload_n 1, 1) := by decide +kernel
theorem dX4_bookOf_23 : decode cX4_bookOf 23 = .ok (.if_icmp .ne 32, 3) := by decide +kernel
theorem dX4_bookOf_26 : decode cX4_bookOf 26 = .ok (.aload_n 0, 1) := by decide +kernel
theorem dX4_bookOf_27 : decode cX4_bookOf 27 = .ok (.getfield 43, 3) := by decide +kernel
theorem dX4_bookOf_30 : decode cX4_bookOf 30 = .ok (.iload 5, 2) := by decide +kernel
theorem dX4_bookOf_32 : decode cX4_bookOf 32 = .ok (.iload_n 2, 1) := by decide +kernel
theorem dX4_bookOf_33 : decode cX4_bookOf 33 = .ok (.invokestatic 81, 3) := by decide +kernel
theorem dX4_bookOf_36 : decode cX4_bookOf 36 = .ok (.iaload, 1) := by decide +kernel
theorem dX4_bookOf_37 : decode cX4_bookOf 37 = .ok (.ifCond .le 18, 3) := by decide +kernel
theorem dX4_bookOf_40 : decode cX4_bookOf 40 = .ok (.aload_n 0, 1) := by decide +kernel
theorem dX4_bookOf_41 : decode cX4_bookOf 41 = .ok (.getfield 34, 3) := by decide +kernel
theorem dX4_bookOf_44 : decode cX4_bookOf 44 = .ok (.iload 5, 2) := by decide +kernel
theorem dX4_bookOf_46 : decode cX4_bookOf 46 = .ok (.iaload, 1) := by decide +kernel
theorem dX4_bookOf_47 : decode cX4_bookOf 47 = .ok (.iload_n 3, 1) := by decide +kernel
theorem dX4_bookOf_48 : decode cX4_bookOf 48 = .ok (.if_icmp .gt 7, 3) := by decide +kernel
theorem dX4_bookOf_51 : decode cX4_bookOf 51 = .ok (.iconst 1, 1) := by decide +kernel
theorem dX4_bookOf_52 : decode cX4_bookOf 52 = .ok (.goto 4, 3) := by decide +kernel
theorem dX4_bookOf_55 : decode cX4_bookOf 55 = .ok (.iconst 0, 1) := by decide +kernel
theorem dX4_bookOf_56 : decode cX4_bookOf 56 = .ok (.istore 6, 2) := by decide +kernel
theorem dX4_bookOf_58 : decode cX4_bookOf 58 = .ok (.iload 4, 2) := by decide +kernel
theorem dX4_bookOf_60 : decode cX4_bookOf 60 = .ok (.iconst (-1), 1) := by decide +kernel
theorem dX4_bookOf_61 : decode cX4_bookOf 61 = .ok (.if_icmp .eq 62, 3) := by decide +kernel
theorem dX4_bookOf_64 : decode cX4_bookOf 64 = .ok (.aload_n 0, 1) := by decide +kernel
theorem dX4_bookOf_65 : decode cX4_bookOf 65 = .ok (.getfield 34, 3) := by decide +kernel
theorem dX4_bookOf_68 : decode cX4_bookOf 68 = .ok (.iload 5, 2) := by decide +kernel
theorem dX4_bookOf_70 : decode cX4_bookOf 70 = .ok (.iaload, 1) := by decide +kernel
theorem dX4_bookOf_71 : decode cX4_bookOf 71 = .ok (.aload_n 0, 1) := by decide +kernel
theorem dX4_bookOf_72 : decode cX4_bookOf 72 = .ok (.getfield 34, 3) := by decide +kernel
theorem dX4_bookOf_75 : decode cX4_bookOf 75 = .ok (.iload 4, 2) := by decide +kernel
theorem dX4_bookOf_77 : decode cX4_bookOf 77 = .ok (.iaload, 1) := by decide +kernel
theorem dX4_bookOf_78 : decode cX4_bookOf 78 = .ok (.if_icmp .gt 45, 3) := by decide +kernel
theorem dX4_bookOf_81 : decode cX4_bookOf 81 = .ok (.aload_n 0, 1) := by decide +kernel
theorem dX4_bookOf_82 : decode cX4_bookOf 82 = .ok (.getfield 34, 3) := by decide +kernel
theorem dX4_bookOf_85 : decode cX4_bookOf 85 = .ok (.iload 5, 2) := by decide +kernel
theorem dX4_bookOf_87 : decode cX4_bookOf 87 = .ok (.iaload, 1) := by decide +kernel
theorem dX4_bookOf_88 : decode cX4_bookOf 88 = .ok (.aload_n 0, 1) := by decide +kernel
theorem dX4_bookOf_89 : decode cX4_bookOf 89 = .ok (.getfield 34, 3) := by decide +kernel
theorem dX4_bookOf_92 : decode cX4_bookOf 92 = .ok (.iload 4, 2) := by decide +kernel
theorem dX4_bookOf_94 : decode cX4_bookOf 94 = .ok (.iaload, 1) := by decide +kernel
theorem dX4_bookOf_95 : decode cX4_bookOf 95 = .ok (.if_icmp .ne 32, 3) := by decide +kernel
theorem dX4_bookOf_98 : decode cX4_bookOf 98 = .ok (.aload_n 0, 1) := by decide +kernel
theorem dX4_bookOf_99 : decode cX4_bookOf 99 = .ok (.getfield 43, 3) := by decide +kernel
theorem dX4_bookOf_102 : decode cX4_bookOf 102 = .ok (.iload 5, 2) := by decide +kernel
theorem dX4_bookOf_104 : decode cX4_bookOf 104 = .ok (.iload_n 2, 1) := by decide +kernel
theorem dX4_bookOf_105 : decode cX4_bookOf 105 = .ok (.invokestatic 81, 3) := by decide +kernel
theorem dX4_bookOf_108 : decode cX4_bookOf 108 = .ok (.iaload, 1) := by decide +kernel
theorem dX4_bookOf_109 : decode cX4_bookOf 109 = .ok (.aload_n 0, 1) := by decide +kernel
theorem dX4_bookOf_110 : decode cX4_bookOf 110 = .ok (.getfield 43, 3) := by decide +kernel
theorem dX4_bookOf_113 : decode cX4_bookOf 113 = .ok (.iload 4, 2) := by decide +kernel
theorem dX4_bookOf_115 : decode cX4_bookOf 115 = .ok (.iload_n 2, 1) := by decide +kernel
theorem dX4_bookOf_116 : decode cX4_bookOf 116 = .ok (.invokestatic 81, 3) := by decide +kernel
theorem dX4_bookOf_119 : decode cX4_bookOf 119 = .ok (.iaload, 1) := by decide +kernel
theorem dX4_bookOf_120 : decode cX4_bookOf 120 = .ok (.if_icmp .le 7, 3) := by decide +kernel
theorem dX4_bookOf_123 : decode cX4_bookOf 123 = .ok (.iconst 1, 1) := by decide +kernel
theorem dX4_bookOf_124 : decode cX4_bookOf 124 = .ok (.goto 4, 3) := by decide +kernel
theorem dX4_bookOf_127 : decode cX4_bookOf 127 = .ok (.iconst 0, 1) := by decide +kernel
theorem dX4_bookOf_128 : decode cX4_bookOf 128 = .ok (.istore 7, 2) := by decide +kernel
theorem dX4_bookOf_130 : decode cX4_bookOf 130 = .ok (.iload 6, 2) := by decide +kernel
theorem dX4_bookOf_132 : decode cX4_bookOf 132 = .ok (.ifCond .eq 13, 3) := by decide +kernel
theorem dX4_bookOf_135 : decode cX4_bookOf 135 = .ok (.iload 7, 2) := by decide +kernel
theorem dX4_bookOf_137 : decode cX4_bookOf 137 = .ok (.ifCond .eq 8, 3) := by decide +kernel
theorem dX4_bookOf_140 : decode cX4_bookOf 140 = .ok (.iload 5, 2) := by decide +kernel
theorem dX4_bookOf_142 : decode cX4_bookOf 142 = .ok (.goto 5, 3) := by decide +kernel
theorem dX4_bookOf_145 : decode cX4_bookOf 145 = .ok (.iload 4, 2) := by decide +kernel
theorem dX4_bookOf_147 : decode cX4_bookOf 147 = .ok (.istore 4, 2) := by decide +kernel
theorem dX4_bookOf_149 : decode cX4_bookOf 149 = .ok (.iinc 5 1, 3) := by decide +kernel
theorem dX4_bookOf_152 : decode cX4_bookOf 152 = .ok (.goto (-146), 3) := by decide +kernel
theorem dX4_bookOf_155 : decode cX4_bookOf 155 = .ok (.iload 4, 2) := by decide +kernel
theorem dX4_bookOf_157 : decode cX4_bookOf 157 = .ok (.iconst (-1), 1) := by decide +kernel
theorem dX4_bookOf_158 : decode cX4_bookOf 158 = .ok (.if_icmp .ne 7, 3) := by decide +kernel
theorem dX4_bookOf_161 : decode cX4_bookOf 161 = .ok (.iconst (-1), 1) := by decide +kernel
theorem dX4_bookOf_162 : decode cX4_bookOf 162 = .ok (.goto 10, 3) := by decide +kernel
theorem dX4_bookOf_165 : decode cX4_bookOf 165 = .ok (.aload_n 0, 1) := by decide +kernel
theorem dX4_bookOf_166 : decode cX4_bookOf 166 = .ok (.getfield 34, 3) := by decide +kernel
theorem dX4_bookOf_169 : decode cX4_bookOf 169 = .ok (.iload 4, 2) := by decide +kernel
theorem dX4_bookOf_171 : decode cX4_bookOf 171 = .ok (.iaload, 1) := by decide +kernel
theorem dX4_bookOf_172 : decode cX4_bookOf 172 = .ok (.istore 5, 2) := by decide +kernel
theorem dX4_bookOf_174 : decode cX4_bookOf 174 = .ok (.iload 4, 2) := by decide +kernel
theorem dX4_bookOf_176 : decode cX4_bookOf 176 = .ok (.iconst (-1), 1) := by decide +kernel
theorem dX4_bookOf_177 : decode cX4_bookOf 177 = .ok (.if_icmp .ne 7, 3) := by decide +kernel
theorem dX4_bookOf_180 : decode cX4_bookOf 180 = .ok (.iconst 0, 1) := by decide +kernel
theorem dX4_bookOf_181 : decode cX4_bookOf 181 = .ok (.goto 13, 3) := by decide +kernel
theorem dX4_bookOf_184 : decode cX4_bookOf 184 = .ok (.aload_n 0, 1) := by decide +kernel
theorem dX4_bookOf_185 : decode cX4_bookOf 185 = .ok (.iload 4, 2) := by decide +kernel
theorem dX4_bookOf_187 : decode cX4_bookOf 187 = .ok (.iload_n 2, 1) := by decide +kernel
theorem dX4_bookOf_188 : decode cX4_bookOf 188 = .ok (.invokestatic 81, 3) := by decide +kernel
theorem dX4_bookOf_191 : decode cX4_bookOf 191 = .ok (.invokevirtual 85, 3) := by decide +kernel
theorem dX4_bookOf_194 : decode cX4_bookOf 194 = .ok (.istore 6, 2) := by decide +kernel
theorem dX4_bookOf_196 : decode cX4_bookOf 196 = .ok (.iconst 0, 1) := by decide +kernel
theorem dX4_bookOf_197 : decode cX4_bookOf 197 = .ok (.istore 7, 2) := by decide +kernel
theorem dX4_bookOf_199 : decode cX4_bookOf 199 = .ok (.iload 7, 2) := by decide +kernel
theorem dX4_bookOf_201 : decode cX4_bookOf 201 = .ok (.aload_n 0, 1) := by decide +kernel
theorem dX4_bookOf_202 : decode cX4_bookOf 202 = .ok (.getfield 78, 3) := by decide +kernel
theorem dX4_bookOf_205 : decode cX4_bookOf 205 = .ok (.if_icmp .ge 108, 3) := by decide +kernel
theorem dX4_bookOf_208 : decode cX4_bookOf 208 = .ok (.aload_n 0, 1) := by decide +kernel
theorem dX4_bookOf_209 : decode cX4_bookOf 209 = .ok (.getfield 22, 3) := by decide +kernel
theorem dX4_bookOf_212 : decode cX4_bookOf 212 = .ok (.iload 7, 2) := by decide +kernel
theorem dX4_bookOf_214 : decode cX4_bookOf 214 = .ok (.iaload, 1) := by decide +kernel
theorem dX4_bookOf_215 : decode cX4_bookOf 215 = .ok (.iload_n 2, 1) := by decide +kernel
theorem dX4_bookOf_216 : decode cX4_bookOf 216 = .ok (.if_icmp .ne 30, 3) := by decide +kernel
theorem dX4_bookOf_219 : decode cX4_bookOf 219 = .ok (.aload_n 0, 1) := by decide +kernel
theorem dX4_bookOf_220 : decode cX4_bookOf 220 = .ok (.getfield 28, 3) := by decide +kernel
theorem dX4_bookOf_223 : decode cX4_bookOf 223 = .ok (.iload 7, 2) := by decide +kernel
theorem dX4_bookOf_225 : decode cX4_bookOf 225 = .ok (.iaload, 1) := by decide +kernel
theorem dX4_bookOf_226 : decode cX4_bookOf 226 = .ok (.iload 5, 2) := by decide +kernel
theorem dX4_bookOf_228 : decode cX4_bookOf 228 = .ok (.if_icmp .le 18, 3) := by decide +kernel
theorem dX4_bookOf_231 : decode cX4_bookOf 231 = .ok (.aload_n 0, 1) := by decide +kernel
theorem dX4_bookOf_232 : decode cX4_bookOf 232 = .ok (.getfield 28, 3) := by decide +kernel
theorem dX4_bookOf_235 : decode cX4_bookOf 235 = .ok (.iload 7, 2) := by decide +kernel
theorem dX4_bookOf_237 : decode cX4_bookOf 237 = .ok (.iaload, 1) := by decide +kernel
theorem dX4_bookOf_238 : decode cX4_bookOf 238 = .ok (.iload_n 3, 1) := by decide +kernel
theorem dX4_bookOf_239 : decode cX4_bookOf 239 = .ok (.if_icmp .gt 7, 3) := by decide +kernel
theorem dX4_bookOf_242 : decode cX4_bookOf 242 = .ok (.iconst 1, 1) := by decide +kernel
theorem dX4_bookOf_243 : decode cX4_bookOf 243 = .ok (.goto 4, 3) := by decide +kernel
theorem dX4_bookOf_246 : decode cX4_bookOf 246 = .ok (.iconst 0, 1) := by decide +kernel
theorem dX4_bookOf_247 : decode cX4_bookOf 247 = .ok (.istore 8, 2) := by decide +kernel
theorem dX4_bookOf_249 : decode cX4_bookOf 249 = .ok (.iload 6, 2) := by decide +kernel
theorem dX4_bookOf_251 : decode cX4_bookOf 251 = .ok (.iload 8, 2) := by decide +kernel
theorem dX4_bookOf_253 : decode cX4_bookOf 253 = .ok (.ifCond .ne 7, 3) := by decide +kernel
theorem dX4_bookOf_256 : decode cX4_bookOf 256 = .ok (.iconst 0, 1) := by decide +kernel
theorem dX4_bookOf_257 : decode cX4_bookOf 257 = .ok (.goto 47, 3) := by decide +kernel
theorem dX4_bookOf_260 : decode cX4_bookOf 260 = .ok (.aload_n 0, 1) := by decide +kernel
theorem dX4_bookOf_261 : decode cX4_bookOf 261 = .ok (.getfield 19, 3) := by decide +kernel
theorem dX4_bookOf_264 : decode cX4_bookOf 264 = .ok (.iload 7, 2) := by decide +kernel
theorem dX4_bookOf_266 : decode cX4_bookOf 266 = .ok (.iaload, 1) := by decide +kernel
theorem dX4_bookOf_267 : decode cX4_bookOf 267 = .ok (.iload_n 1, 1) := by decide +kernel
theorem dX4_bookOf_268 : decode cX4_bookOf 268 = .ok (.if_icmp .ne 13, 3) := by decide +kernel
theorem dX4_bookOf_271 : decode cX4_bookOf 271 = .ok (.aload_n 0, 1) := by decide +kernel
theorem dX4_bookOf_272 : decode cX4_bookOf 272 = .ok (.getfield 25, 3) := by decide +kernel
theorem dX4_bookOf_275 : decode cX4_bookOf 275 = .ok (.iload 7, 2) := by decide +kernel
theorem dX4_bookOf_277 : decode cX4_bookOf 277 = .ok (.iaload, 1) := by decide +kernel
theorem dX4_bookOf_278 : decode cX4_bookOf 278 = .ok (.goto 26, 3) := by decide +kernel
theorem dX4_bookOf_281 : decode cX4_bookOf 281 = .ok (.aload_n 0, 1) := by decide +kernel
theorem dX4_bookOf_282 : decode cX4_bookOf 282 = .ok (.getfield 16, 3) := by decide +kernel
theorem dX4_bookOf_285 : decode cX4_bookOf 285 = .ok (.iload 7, 2) := by decide +kernel
theorem dX4_bookOf_287 : decode cX4_bookOf 287 = .ok (.iaload, 1) := by decide +kernel
theorem dX4_bookOf_288 : decode cX4_bookOf 288 = .ok (.iload_n 1, 1) := by decide +kernel
theorem dX4_bookOf_289 : decode cX4_bookOf 289 = .ok (.if_icmp .ne 14, 3) := by decide +kernel
theorem dX4_bookOf_292 : decode cX4_bookOf 292 = .ok (.aload_n 0, 1) := by decide +kernel
theorem dX4_bookOf_293 : decode cX4_bookOf 293 = .ok (.getfield 25, 3) := by decide +kernel
theorem dX4_bookOf_296 : decode cX4_bookOf 296 = .ok (.iload 7, 2) := by decide +kernel
theorem dX4_bookOf_298 : decode cX4_bookOf 298 = .ok (.iaload, 1) := by decide +kernel
theorem dX4_bookOf_299 : decode cX4_bookOf 299 = .ok (.ineg, 1) := by decide +kernel
theorem dX4_bookOf_300 : decode cX4_bookOf 300 = .ok (.goto 4, 3) := by decide +kernel
theorem dX4_bookOf_303 : decode cX4_bookOf 303 = .ok (.iconst 0, 1) := by decide +kernel
theorem dX4_bookOf_304 : decode cX4_bookOf 304 = .ok (.iadd, 1) := by decide +kernel
theorem dX4_bookOf_305 : decode cX4_bookOf 305 = .ok (.istore 6, 2) := by decide +kernel
theorem dX4_bookOf_307 : decode cX4_bookOf 307 = .ok (.iinc 7 1, 3) := by decide +kernel
theorem dX4_bookOf_310 : decode cX4_bookOf 310 = .ok (.goto (-111), 3) := by decide +kernel
theorem dX4_bookOf_313 : decode cX4_bookOf 313 = .ok (.iload 6, 2) := by decide +kernel
theorem dX4_bookOf_315 : decode cX4_bookOf 315 = .ok (.ireturn, 1) := by decide +kernel
theorem dX4_hasOpen_0 : decode cX4_hasOpen 0 = .ok (.iconst 0, 1) := by decide +kernel
theorem dX4_hasOpen_1 : decode cX4_hasOpen 1 = .ok (.istore_n 2, 1) := by decide +kernel
theorem dX4_hasOpen_2 : decode cX4_hasOpen 2 = .ok (.iconst 0, 1) := by decide +kernel
theorem dX4_hasOpen_3 : decode cX4_hasOpen 3 = .ok (.istore_n 3, 1) := by decide +kernel
theorem dX4_hasOpen_4 : decode cX4_hasOpen 4 = .ok (.iload_n 3, 1) := by decide +kernel
theorem dX4_hasOpen_5 : decode cX4_hasOpen 5 = .ok (.aload_n 0, 1) := by decide +kernel
theorem dX4_hasOpen_6 : decode cX4_hasOpen 6 = .ok (.getfield 63, 3) := by decide +kernel
theorem dX4_hasOpen_9 : decode cX4_hasOpen 9 = .ok (.if_icmp .ge 38, 3) := by decide +kernel
theorem dX4_hasOpen_12 : decode cX4_hasOpen 12 = .ok (.iload_n 2, 1) := by decide +kernel
theorem dX4_hasOpen_13 : decode cX4_hasOpen 13 = .ok (.ifCond .ne 22, 3) := by decide +kernel
theorem dX4_hasOpen_16 : decode cX4_hasOpen 16 = .ok (.aload_n 0, 1) := by decide +kernel
theorem dX4_hasOpen_17 : decode cX4_hasOpen 17 = .ok (.getfield 31, 3) := by decide +kernel
theorem dX4_hasOpen_20 : decode cX4_hasOpen 20 = .ok (.iload_n 3, 1) := by decide +kernel
theorem dX4_hasOpen_21 : decode cX4_hasOpen 21 = .ok (.iaload, 1) := by decide +kernel
theorem dX4_hasOpen_22 : decode cX4_hasOpen 22 = .ok (.iload_n 1, 1) := by decide +kernel
theorem dX4_hasOpen_23 : decode cX4_hasOpen 23 = .ok (.if_icmp .ne 16, 3) := by decide +kernel
theorem dX4_hasOpen_26 : decode cX4_hasOpen 26 = .ok (.aload_n 0, 1) := by decide +kernel
theorem dX4_hasOpen_27 : decode cX4_hasOpen 27 = .ok (.getfield 37, 3) := by decide +kernel
theorem dX4_hasOpen_30 : decode cX4_hasOpen 30 = .ok (.iload_n 3, 1) := by decide +kernel
theorem dX4_hasOpen_31 : decode cX4_hasOpen 31 = .ok (.iaload, 1) := by decide +kernel
theorem dX4_hasOpen_32 : decode cX4_hasOpen 32 = .ok (.ifCond .ne 7, 3) := by decide +kernel
theorem dX4_hasOpen_35 : decode cX4_hasOpen 35 = .ok (.iconst 1, 1) := by decide +kernel
theorem dX4_hasOpen_36 : decode cX4_hasOpen 36 = .ok (.goto 4, 3) := by decide +kernel
theorem dX4_hasOpen_39 : decode cX4_hasOpen 39 = .ok (.iconst 0, 1) := by decide +kernel
theorem dX4_hasOpen_40 : decode cX4_hasOpen 40 = .ok (.istore_n 2, 1) := by decide +kernel
theorem dX4_hasOpen_41 : decode cX4_hasOpen 41 = .ok (.iinc 3 1, 3) := by decide +kernel
theorem dX4_hasOpen_44 : decode cX4_hasOpen 44 = .ok (.goto (-40), 3) := by decide +kernel
theorem dX4_hasOpen_47 : decode cX4_hasOpen 47 = .ok (.iload_n 2, 1) := by decide +kernel
theorem dX4_hasOpen_48 : decode cX4_hasOpen 48 = .ok (.ireturn, 1) := by decide +kernel
theorem dX4_open_0 : decode cX4_open 0 = .ok (.aload_n 0, 1) := by decide +kernel
theorem dX4_open_1 : decode cX4_open 1 = .ok (.iload_n 1, 1) := by decide +kernel
theorem dX4_open_2 : decode cX4_open 2 = .ok (.invokestatic 89, 3) := by decide +kernel
theorem dX4_open_5 : decode cX4_open 5 = .ok (.aload_n 0, 1) := by decide +kernel
theorem dX4_open_6 : decode cX4_open 6 = .ok (.iload_n 1, 1) := by decide +kernel
theorem dX4_open_7 : decode cX4_open 7 = .ok (.invokevirtual 92, 3) := by decide +kernel
theorem dX4_open_10 : decode cX4_open 10 = .ok (.ifCond .ne 16, 3) := by decide +kernel
theorem dX4_open_13 : decode cX4_open 13 = .ok (.aload_n 0, 1) := by decide +kernel
theorem dX4_open_14 : decode cX4_open 14 = .ok (.getfield 63, 3) := by decide +kernel
theorem dX4_open_17 : decode cX4_open 17 = .ok (.bipush 40, 2) := by decide +kernel
theorem dX4_open_19 : decode cX4_open 19 = .ok (.if_icmp .ge 7, 3) := by decide +kernel
theorem dX4_open_22 : decode cX4_open 22 = .ok (.iconst 1, 1) := by decide +kernel
theorem dX4_open_23 : decode cX4_open 23 = .ok (.goto 4, 3) := by decide +kernel
theorem dX4_open_26 : decode cX4_open 26 = .ok (.iconst 0, 1) := by decide +kernel
theorem dX4_open_27 : decode cX4_open 27 = .ok (.iconst 1, 1) := by decide +kernel
theorem dX4_open_28 : decode cX4_open 28 = .ok (.invokevirtual 70, 3) := by decide +kernel
theorem dX4_open_31 : decode cX4_open 31 = .ok (.ifCond .ne 5, 3) := by decide +kernel
theorem dX4_open_34 : decode cX4_open 34 = .ok (.iconst 0, 1) := by decide +kernel
theorem dX4_open_35 : decode cX4_open 35 = .ok (.ireturn, 1) := by decide +kernel
theorem dX4_open_36 : decode cX4_open 36 = .ok (.aload_n 0, 1) := by decide +kernel
theorem dX4_open_37 : decode cX4_open 37 = .ok (.getfield 31, 3) := by decide +kernel
theorem dX4_open_40 : decode cX4_open 40 = .ok (.aload_n 0, 1) := by decide +kernel
theorem dX4_open_41 : decode cX4_open 41 = .ok (.getfield 63, 3) := by decide +kernel
theorem dX4_open_44 : decode cX4_open 44 = .ok (.iload_n 1, 1) := by decide +kernel
theorem dX4_open_45 : decode cX4_open 45 = .ok (.iastore, 1) := by decide +kernel
theorem dX4_open_46 : decode cX4_open 46 = .ok (.aload_n 0, 1) := by decide +kernel
theorem dX4_open_47 : decode cX4_open 47 = .ok (.getfield 34, 3) := by decide +kernel
theorem dX4_open_50 : decode cX4_open 50 = .ok (.aload_n 0, 1) := by decide +kernel
theorem dX4_open_51 : decode cX4_open 51 = .ok (.getfield 63, 3) := by decide +kernel
theorem dX4_open_54 : decode cX4_open 54 = .ok (.aload_n 0, 1) := by decide +kernel
theorem dX4_open_55 : decode cX4_open 55 = .ok (.getfield 75, 3) := by decide +kernel
theorem dX4_open_58 : decode cX4_open 58 = .ok (.iastore, 1) := by decide +kernel
theorem dX4_open_59 : decode cX4_open 59 = .ok (.aload_n 0, 1) := by decide +kernel
theorem dX4_open_60 : decode cX4_open 60 = .ok (.getfield 37, 3) := by decide +kernel
theorem dX4_open_63 : decode cX4_open 63 = .ok (.aload_n 0, 1) := by decide +kernel
theorem dX4_open_64 : decode cX4_open 64 = .ok (.getfield 63, 3) := by decide +kernel
theorem dX4_open_67 : decode cX4_open 67 = .ok (.iconst 0, 1) := by decide +kernel
theorem dX4_open_68 : decode cX4_open 68 = .ok (.iastore, 1) := by decide +kernel
theorem dX4_open_69 : decode cX4_open 69 = .ok (.aload_n 0, 1) := by decide +kernel
theorem dX4_open_70 : decode cX4_open 70 = .ok (.dup, 1) := by decide +kernel
theorem dX4_open_71 : decode cX4_open 71 = .ok (.getfield 63, 3) := by decide +kernel
theorem dX4_open_74 : decode cX4_open 74 = .ok (.iconst 1, 1) := by decide +kernel
theorem dX4_open_75 : decode cX4_open 75 = .ok (.iadd, 1) := by decide +kernel
theorem dX4_open_76 : decode cX4_open 76 = .ok (.putfield 63, 3) := by decide +kernel
theorem dX4_open_79 : decode cX4_open 79 = .ok (.aload_n 0, 1) := by decide +kernel
theorem dX4_open_80 : decode cX4_open 80 = .ok (.getfield 63, 3) := by decide +kernel
theorem dX4_open_83 : decode cX4_open 83 = .ok (.iconst 1, 1) := by decide +kernel
theorem dX4_open_84 : decode cX4_open 84 = .ok (.isub, 1) := by decide +kernel
theorem dX4_open_85 : decode cX4_open 85 = .ok (.ireturn, 1) := by decide +kernel
theorem dX4_hasCounted_0 : decode cX4_hasCounted 0 = .ok (.iconst 0, 1) := by decide +kernel
theorem dX4_hasCounted_1 : decode cX4_hasCounted 1 = .ok (.istore_n 3, 1) := by decide +kernel
theorem dX4_hasCounted_2 : decode cX4_hasCounted 2 = .ok (.iconst 0, 1) := by decide +kernel
theorem dX4_hasCounted_3 : decode cX4_hasCounted 3 = .ok (.istore 4, 2) := by decide +kernel
theorem dX4_hasCounted_5 : decode cX4_hasCounted 5 = .ok (.iload 4, 2) := by decide +kernel
theorem dX4_hasCounted_7 : decode cX4_hasCounted 7 = .ok (.aload_n 0, 1) := by decide +kernel
theorem dX4_hasCounted_8 : decode cX4_hasCounted 8 = .ok (.getfield 40, 3) := by decide +kernel
theorem dX4_hasCounted_11 : decode cX4_hasCounted 11 = .ok (.iload_n 1, 1) := by decide +kernel
theorem dX4_hasCounted_12 : decode cX4_hasCounted 12 = .ok (.iaload, 1) := by decide +kernel
theorem dX4_hasCounted_13 : decode cX4_hasCounted 13 = .ok (.if_icmp .ge 34, 3) := by decide +kernel
theorem dX4_hasCounted_16 : decode cX4_hasCounted 16 = .ok (.iload_n 3, 1) := by decide +kernel
theorem dX4_hasCounted_17 : decode cX4_hasCounted 17 = .ok (.ifCond .ne 18, 3) := by decide +kernel
theorem dX4_hasCounted_20 : decode cX4_hasCounted 20 = .ok (.aload_n 0, 1) := by decide +kernel
theorem dX4_hasCounted_21 : decode cX4_hasCounted 21 = .ok (.getfield 49, 3) := by decide +kernel
theorem dX4_hasCounted_24 : decode cX4_hasCounted 24 = .ok (.iconst 3, 1) := by decide +kernel
theorem dX4_hasCounted_25 : decode cX4_hasCounted 25 = .ok (.iload_n 1, 1) := by decide +kernel
theorem dX4_hasCounted_26 : decode cX4_hasCounted 26 = .ok (.imul, 1) := by decide +kernel
theorem dX4_hasCounted_27 : decode cX4_hasCounted 27 = .ok (.iload 4, 2) := by decide +kernel
theorem dX4_hasCounted_29 : decode cX4_hasCounted 29 = .ok (.iadd, 1) := by decide +kernel
theorem dX4_hasCounted_30 : decode cX4_hasCounted 30 = .ok (.iaload, 1) := by decide +kernel
theorem dX4_hasCounted_31 : decode cX4_hasCounted 31 = .ok (.iload_n 2, 1) := by decide +kernel
theorem dX4_hasCounted_32 : decode cX4_hasCounted 32 = .ok (.if_icmp .ne 7, 3) := by decide +kernel
theorem dX4_hasCounted_35 : decode cX4_hasCounted 35 = .ok (.iconst 1, 1) := by decide +kernel
theorem dX4_hasCounted_36 : decode cX4_hasCounted 36 = .ok (.goto 4, 3) := by decide +kernel
theorem dX4_hasCounted_39 : decode cX4_hasCounted 39 = .ok (.iconst 0, 1) := by decide +kernel
theorem dX4_hasCounted_40 : decode cX4_hasCounted 40 = .ok (.istore_n 3, 1) := by decide +kernel
theorem dX4_hasCounted_41 : decode cX4_hasCounted 41 = .ok (.iinc 4 1, 3) := by decide +kernel
theorem dX4_hasCounted_44 : decode cX4_hasCounted 44 = .ok (.goto (-39), 3) := by decide +kernel
theorem dX4_hasCounted_47 : decode cX4_hasCounted 47 = .ok (.iload_n 3, 1) := by decide +kernel
theorem dX4_hasCounted_48 : decode cX4_hasCounted 48 = .ok (.ireturn, 1) := by decide +kernel
theorem dX4_count_0 : decode cX4_count 0 = .ok (.aload_n 0, 1) := by decide +kernel
theorem dX4_count_1 : decode cX4_count 1 = .ok (.iload_n 1, 1) := by decide +kernel
theorem dX4_count_2 : decode cX4_count 2 = .ok (.invokevirtual 95, 3) := by decide +kernel
theorem dX4_count_5 : decode cX4_count 5 = .ok (.ifCond .eq 23, 3) := by decide +kernel
theorem dX4_count_8 : decode cX4_count 8 = .ok (.iload_n 2, 1) := by decide +kernel
theorem dX4_count_9 : decode cX4_count 9 = .ok (.iconst 0, 1) := by decide +kernel
theorem dX4_count_10 : decode cX4_count 10 = .ok (.iconst 5, 1) := by decide +kernel
theorem dX4_count_11 : decode cX4_count 11 = .ok (.invokestatic 59, 3) := by decide +kernel
theorem dX4_count_14 : decode cX4_count 14 = .ok (.ifCond .eq 14, 3) := by decide +kernel
theorem dX4_count_17 : decode cX4_count 17 = .ok (.iload_n 3, 1) := by decide +kernel
theorem dX4_count_18 : decode cX4_count 18 = .ok (.invokestatic 66, 3) := by decide +kernel
theorem dX4_count_21 : decode cX4_count 21 = .ok (.ifCond .eq 7, 3) := by decide +kernel
theorem dX4_count_24 : decode cX4_count 24 = .ok (.iconst 1, 1) := by decide +kernel
theorem dX4_count_25 : decode cX4_count 25 = .ok (.goto 4, 3) := by decide +kernel
theorem dX4_count_28 : decode cX4_count 28 = .ok (.iconst 0, 1) := by decide +kernel
theorem dX4_count_29 : decode cX4_count 29 = .ok (.istore 5, 2) := by decide +kernel
theorem dX4_count_31 : decode cX4_count 31 = .ok (.iload 5, 2) := by decide +kernel
theorem dX4_count_33 : decode cX4_count 33 = .ok (.ifCond .eq 11, 3) := by decide +kernel
theorem dX4_count_36 : decode cX4_count 36 = .ok (.iload_n 1, 1) := by decide +kernel
theorem dX4_count_37 : decode cX4_count 37 = .ok (.iload_n 3, 1) := by decide +kernel
theorem dX4_count_38 : decode cX4_count 38 = .ok (.invokestatic 81, 3) := by decide +kernel
theorem dX4_count_41 : decode cX4_count 41 = .ok (.goto 4, 3) := by decide +kernel
theorem dX4_count_44 : decode cX4_count 44 = .ok (.iconst 0, 1) := by decide +kernel
theorem dX4_count_45 : decode cX4_count 45 = .ok (.istore 6, 2) := by decide +kernel
theorem dX4_count_47 : decode cX4_count 47 = .ok (.iload 5, 2) := by decide +kernel
theorem dX4_count_49 : decode cX4_count 49 = .ok (.ifCond .eq 36, 3) := by decide +kernel
theorem dX4_count_52 : decode cX4_count 52 = .ok (.aload_n 0, 1) := by decide +kernel
theorem dX4_count_53 : decode cX4_count 53 = .ok (.getfield 37, 3) := by decide +kernel
theorem dX4_count_56 : decode cX4_count 56 = .ok (.iload_n 1, 1) := by decide +kernel
theorem dX4_count_57 : decode cX4_count 57 = .ok (.iaload, 1) := by decide +kernel
theorem dX4_count_58 : decode cX4_count 58 = .ok (.ifCond .ne 27, 3) := by decide +kernel
theorem dX4_count_61 : decode cX4_count 61 = .ok (.aload_n 0, 1) := by decide +kernel
theorem dX4_count_62 : decode cX4_count 62 = .ok (.iload 6, 2) := by decide +kernel
theorem dX4_count_64 : decode cX4_count 64 = .ok (.iload_n 2, 1) := by decide +kernel
theorem dX4_count_65 : decode cX4_count 65 = .ok (.invokevirtual 98, 3) := by decide +kernel
theorem dX4_count_68 : decode cX4_count 68 = .ok (.ifCond .ne 17, 3) := by decide +kernel
theorem dX4_count_71 : decode cX4_count 71 = .ok (.aload_n 0, 1) := by decide +kernel
theorem dX4_count_72 : decode cX4_count 72 = .ok (.iload 6, 2) := by decide +kernel
theorem dX4_count_74 : decode cX4_count 74 = .ok (.invokevirtual 85, 3) := by decide +kernel
theorem dX4_count_77 : decode cX4_count 77 = .ok (.iconst (-1), 1) := by decide +kernel
theorem dX4_count_78 : decode cX4_count 78 = .ok (.if_icmp .ne 7, 3) := by decide +kernel
theorem dX4_count_81 : decode cX4_count 81 = .ok (.iconst 1, 1) := by decide +kernel
theorem dX4_count_82 : decode cX4_count 82 = .ok (.goto 4, 3) := by decide +kernel
theorem dX4_count_85 : decode cX4_count 85 = .ok (.iconst 0, 1) := by decide +kernel
theorem dX4_count_86 : decode cX4_count 86 = .ok (.istore 7, 2) := by decide +kernel
theorem dX4_count_88 : decode cX4_count 88 = .ok (.aload_n 0, 1) := by decide +kernel
theorem dX4_count_89 : decode cX4_count 89 = .ok (.iload 5, 2) := by decide +kernel
theorem dX4_count_91 : decode cX4_count 91 = .ok (.iload 4, 2) := by decide +kernel
theorem dX4_count_93 : decode cX4_count 93 = .ok (.iconst 0, 1) := by decide +kernel
theorem dX4_count_94 : decode cX4_count 94 = .ok (.ldc 102, 2) := by decide +kernel
theorem dX4_count_96 : decode cX4_count 96 = .ok (.invokestatic 59, 3) := by decide +kernel
theorem dX4_count_99 : decode cX4_count 99 = .ok (.iload 7, 2) := by decide +kernel
theorem dX4_count_101 : decode cX4_count 101 = .ok (.invokevirtual 70, 3) := by decide +kernel
theorem dX4_count_104 : decode cX4_count 104 = .ok (.ifCond .ne 5, 3) := by decide +kernel
theorem dX4_count_107 : decode cX4_count 107 = .ok (.iconst 0, 1) := by decide +kernel
theorem dX4_count_108 : decode cX4_count 108 = .ok (.ireturn, 1) := by decide +kernel
theorem dX4_count_109 : decode cX4_count 109 = .ok (.aload_n 0, 1) := by decide +kernel
theorem dX4_count_110 : decode cX4_count 110 = .ok (.getfield 49, 3) := by decide +kernel
theorem dX4_count_113 : decode cX4_count 113 = .ok (.iconst 3, 1) := by decide +kernel
theorem dX4_count_114 : decode cX4_count 114 = .ok (.iload 6, 2) := by decide +kernel
theorem dX4_count_116 : decode cX4_count 116 = .ok (.imul, 1) := by decide +kernel
theorem dX4_count_117 : decode cX4_count 117 = .ok (.aload_n 0, 1) := by decide +kernel
theorem dX4_count_118 : decode cX4_count 118 = .ok (.getfield 40, 3) := by decide +kernel
theorem dX4_count_121 : decode cX4_count 121 = .ok (.iload 6, 2) := by decide +kernel
theorem dX4_count_123 : decode cX4_count 123 = .ok (.iaload, 1) := by decide +kernel
theorem dX4_count_124 : decode cX4_count 124 = .ok (.iadd, 1) := by decide +kernel
theorem dX4_count_125 : decode cX4_count 125 = .ok (.iload_n 2, 1) := by decide +kernel
theorem dX4_count_126 : decode cX4_count 126 = .ok (.iastore, 1) := by decide +kernel
theorem dX4_count_127 : decode cX4_count 127 = .ok (.aload_n 0, 1) := by decide +kernel
theorem dX4_count_128 : decode cX4_count 128 = .ok (.getfield 52, 3) := by decide +kernel
theorem dX4_count_131 : decode cX4_count 131 = .ok (.iconst 3, 1) := by decide +kernel
theorem dX4_count_132 : decode cX4_count 132 = .ok (.iload 6, 2) := by decide +kernel
theorem dX4_count_134 : decode cX4_count 134 = .ok (.imul, 1) := by decide +kernel
theorem dX4_count_135 : decode cX4_count 135 = .ok (.aload_n 0, 1) := by decide +kernel
theorem dX4_count_136 : decode cX4_count 136 = .ok (.getfield 40, 3) := by decide +kernel
theorem dX4_count_139 : decode cX4_count 139 = .ok (.iload 6, 2) := by decide +kernel
theorem dX4_count_141 : decode cX4_count 141 = .ok (.iaload, 1) := by decide +kernel
theorem dX4_count_142 : decode cX4_count 142 = .ok (.iadd, 1) := by decide +kernel
theorem dX4_count_143 : decode cX4_count 143 = .ok (.iload 4, 2) := by decide +kernel
theorem dX4_count_145 : decode cX4_count 145 = .ok (.iastore, 1) := by decide +kernel
theorem dX4_count_146 : decode cX4_count 146 = .ok (.aload_n 0, 1) := by decide +kernel
theorem dX4_count_147 : decode cX4_count 147 = .ok (.getfield 40, 3) := by decide +kernel
theorem dX4_count_150 : decode cX4_count 150 = .ok (.iload 6, 2) := by decide +kernel
theorem dX4_count_152 : decode cX4_count 152 = .ok (.dup2, 1) := by decide +kernel
theorem dX4_count_153 : decode cX4_count 153 = .ok (.iaload, 1) := by decide +kernel
theorem dX4_count_154 : decode cX4_count 154 = .ok (.iconst 1, 1) := by decide +kernel
theorem dX4_count_155 : decode cX4_count 155 = .ok (.iadd, 1) := by decide +kernel
theorem dX4_count_156 : decode cX4_count 156 = .ok (.iastore, 1) := by decide +kernel
theorem dX4_count_157 : decode cX4_count 157 = .ok (.aload_n 0, 1) := by decide +kernel
theorem dX4_count_158 : decode cX4_count 158 = .ok (.iload 6, 2) := by decide +kernel
theorem dX4_count_160 : decode cX4_count 160 = .ok (.invokevirtual 85, 3) := by decide +kernel
theorem dX4_count_163 : decode cX4_count 163 = .ok (.iconst (-1), 1) := by decide +kernel
theorem dX4_count_164 : decode cX4_count 164 = .ok (.if_icmp .eq 7, 3) := by decide +kernel
theorem dX4_count_167 : decode cX4_count 167 = .ok (.iconst 1, 1) := by decide +kernel
theorem dX4_count_168 : decode cX4_count 168 = .ok (.goto 4, 3) := by decide +kernel
theorem dX4_count_171 : decode cX4_count 171 = .ok (.iconst 0, 1) := by decide +kernel
theorem dX4_count_172 : decode cX4_count 172 = .ok (.ireturn, 1) := by decide +kernel
theorem dX4_close_0 : decode cX4_close 0 = .ok (.aload_n 0, 1) := by decide +kernel
theorem dX4_close_1 : decode cX4_close 1 = .ok (.iload_n 1, 1) := by decide +kernel
theorem dX4_close_2 : decode cX4_close 2 = .ok (.invokevirtual 95, 3) := by decide +kernel
theorem dX4_close_5 : decode cX4_close 5 = .ok (.istore_n 2, 1) := by decide +kernel
theorem dX4_close_6 : decode cX4_close 6 = .ok (.iconst 0, 1) := by decide +kernel
theorem dX4_close_7 : decode cX4_close 7 = .ok (.istore_n 3, 1) := by decide +kernel
theorem dX4_close_8 : decode cX4_close 8 = .ok (.iconst 1, 1) := by decide +kernel
theorem dX4_close_9 : decode cX4_close 9 = .ok (.istore 4, 2) := by decide +kernel
theorem dX4_close_11 : decode cX4_close 11 = .ok (.iconst 0, 1) := by decide +kernel
theorem dX4_close_12 : decode cX4_close 12 = .ok (.istore 5, 2) := by decide +kernel
theorem dX4_close_14 : decode cX4_close 14 = .ok (.iload 5, 2) := by decide +kernel
theorem dX4_close_16 : decode cX4_close 16 = .ok (.iconst 5, 1) := by decide +kernel
theorem dX4_close_17 : decode cX4_close 17 = .ok (.if_icmp .ge 78, 3) := by decide +kernel
theorem dX4_close_20 : decode cX4_close 20 = .ok (.iload_n 2, 1) := by decide +kernel
theorem dX4_close_21 : decode cX4_close 21 = .ok (.ifCond .eq 74, 3) := by decide +kernel
theorem dX4_close_24 : decode cX4_close 24 = .ok (.aload_n 0, 1) := by decide +kernel
theorem dX4_close_25 : decode cX4_close 25 = .ok (.iload_n 1, 1) := by decide +kernel
theorem dX4_close_26 : decode cX4_close 26 = .ok (.iload 5, 2) := by decide +kernel
theorem dX4_close_28 : decode cX4_close 28 = .ok (.invokestatic 81, 3) := by decide +kernel
theorem dX4_close_31 : decode cX4_close 31 = .ok (.invokevirtual 85, 3) := by decide +kernel
theorem dX4_close_34 : decode cX4_close 34 = .ok (.iconst (-1), 1) := by decide +kernel
theorem dX4_close_35 : decode cX4_close 35 = .ok (.if_icmp .eq 7, 3) := by decide +kernel
theorem dX4_close_38 : decode cX4_close 38 = .ok (.iconst 1, 1) := by decide +kernel
theorem dX4_close_39 : decode cX4_close 39 = .ok (.goto 4, 3) := by decide +kernel
theorem dX4_close_42 : decode cX4_close 42 = .ok (.iconst 0, 1) := by decide +kernel
theorem dX4_close_43 : decode cX4_close 43 = .ok (.istore 6, 2) := by decide +kernel
theorem dX4_close_45 : decode cX4_close 45 = .ok (.iload_n 3, 1) := by decide +kernel
theorem dX4_close_46 : decode cX4_close 46 = .ok (.iload 6, 2) := by decide +kernel
theorem dX4_close_48 : decode cX4_close 48 = .ok (.ifCond .eq 7, 3) := by decide +kernel
theorem dX4_close_51 : decode cX4_close 51 = .ok (.iconst 1, 1) := by decide +kernel
theorem dX4_close_52 : decode cX4_close 52 = .ok (.goto 4, 3) := by decide +kernel
theorem dX4_close_55 : decode cX4_close 55 = .ok (.iconst 0, 1) := by decide +kernel
theorem dX4_close_56 : decode cX4_close 56 = .ok (.iadd, 1) := by decide +kernel
theorem dX4_close_57 : decode cX4_close 57 = .ok (.istore_n 3, 1) := by decide +kernel
theorem dX4_close_58 : decode cX4_close 58 = .ok (.iload 4, 2) := by decide +kernel
theorem dX4_close_60 : decode cX4_close 60 = .ok (.ifCond .eq 26, 3) := by decide +kernel
theorem dX4_close_63 : decode cX4_close 63 = .ok (.iload 6, 2) := by decide +kernel
theorem dX4_close_65 : decode cX4_close 65 = .ok (.ifCond .ne 17, 3) := by decide +kernel
theorem dX4_close_68 : decode cX4_close 68 = .ok (.aload_n 0, 1) := by decide +kernel
theorem dX4_close_69 : decode cX4_close 69 = .ok (.getfield 40, 3) := by decide +kernel
theorem dX4_close_72 : decode cX4_close 72 = .ok (.iload_n 1, 1) := by decide +kernel
theorem dX4_close_73 : decode cX4_close 73 = .ok (.iload 5, 2) := by decide +kernel
theorem dX4_close_75 : decode cX4_close 75 = .ok (.invokestatic 81, 3) := by decide +kernel
theorem dX4_close_78 : decode cX4_close 78 = .ok (.iaload, 1) := by decide +kernel
theorem dX4_close_79 : decode cX4_close 79 = .ok (.ifCond .ne 7, 3) := by decide +kernel
theorem dX4_close_82 : decode cX4_close 82 = .ok (.iconst 1, 1) := by decide +kernel
theorem dX4_close_83 : decode cX4_close 83 = .ok (.goto 4, 3) := by decide +kernel
theorem dX4_close_86 : decode cX4_close 86 = .ok (.iconst 0, 1) := by decide +kernel
theorem dX4_close_87 : decode cX4_close 87 = .ok (.istore 4, 2) := by decide +kernel
theorem dX4_close_89 : decode cX4_close 89 = .ok (.iinc 5 1, 3) := by decide +kernel
theorem dX4_close_92 : decode cX4_close 92 = .ok (.goto (-78), 3) := by decide +kernel
theorem dX4_close_95 : decode cX4_close 95 = .ok (.aload_n 0, 1) := by decide +kernel
theorem dX4_close_96 : decode cX4_close 96 = .ok (.iload_n 2, 1) := by decide +kernel
theorem dX4_close_97 : decode cX4_close 97 = .ok (.iload_n 2, 1) := by decide +kernel
theorem dX4_close_98 : decode cX4_close 98 = .ok (.ifCond .eq 21, 3) := by decide +kernel
theorem dX4_close_101 : decode cX4_close 101 = .ok (.aload_n 0, 1) := by decide +kernel
theorem dX4_close_102 : decode cX4_close 102 = .ok (.getfield 37, 3) := by decide +kernel
theorem dX4_close_105 : decode cX4_close 105 = .ok (.iload_n 1, 1) := by decide +kernel
theorem dX4_close_106 : decode cX4_close 106 = .ok (.iaload, 1) := by decide +kernel
theorem dX4_close_107 : decode cX4_close 107 = .ok (.ifCond .ne 12, 3) := by decide +kernel
theorem dX4_close_110 : decode cX4_close 110 = .ok (.iload 4, 2) := by decide +kernel
theorem dX4_close_112 : decode cX4_close 112 = .ok (.ifCond .eq 7, 3) := by decide +kernel
theorem dX4_close_115 : decode cX4_close 115 = .ok (.iconst 1, 1) := by decide +kernel
theorem dX4_close_116 : decode cX4_close 116 = .ok (.goto 4, 3) := by decide +kernel
theorem dX4_close_119 : decode cX4_close 119 = .ok (.iconst 0, 1) := by decide +kernel
theorem dX4_close_120 : decode cX4_close 120 = .ok (.iconst 1, 1) := by decide +kernel
theorem dX4_close_121 : decode cX4_close 121 = .ok (.invokevirtual 70, 3) := by decide +kernel
theorem dX4_close_124 : decode cX4_close 124 = .ok (.ifCond .ne 5, 3) := by decide +kernel
theorem dX4_close_127 : decode cX4_close 127 = .ok (.iconst 0, 1) := by decide +kernel
theorem dX4_close_128 : decode cX4_close 128 = .ok (.ireturn, 1) := by decide +kernel
theorem dX4_close_129 : decode cX4_close 129 = .ok (.aload_n 0, 1) := by decide +kernel
theorem dX4_close_130 : decode cX4_close 130 = .ok (.getfield 37, 3) := by decide +kernel
theorem dX4_close_133 : decode cX4_close 133 = .ok (.iload_n 1, 1) := by decide +kernel
theorem dX4_close_134 : decode cX4_close 134 = .ok (.iconst 1, 1) := by decide +kernel
theorem dX4_close_135 : decode cX4_close 135 = .ok (.iastore, 1) := by decide +kernel
theorem dX4_close_136 : decode cX4_close 136 = .ok (.iload_n 3, 1) := by decide +kernel
theorem dX4_close_137 : decode cX4_close 137 = .ok (.ireturn, 1) := by decide +kernel
theorem dX4_agrees_0 : decode cX4_agrees 0 = .ok (.aload_n 0, 1) := by decide +kernel
theorem dX4_agrees_1 : decode cX4_agrees 1 = .ok (.iload_n 1, 1) := by decide +kernel
theorem dX4_agrees_2 : decode cX4_agrees 2 = .ok (.iload_n 2, 1) := by decide +kernel
theorem dX4_agrees_3 : decode cX4_agrees 3 = .ok (.invokestatic 81, 3) := by decide +kernel
theorem dX4_agrees_6 : decode cX4_agrees 6 = .ok (.invokevirtual 85, 3) := by decide +kernel
theorem dX4_agrees_9 : decode cX4_agrees 9 = .ok (.iconst (-1), 1) := by decide +kernel
theorem dX4_agrees_10 : decode cX4_agrees 10 = .ok (.if_icmp .eq 7, 3) := by decide +kernel
theorem dX4_agrees_13 : decode cX4_agrees 13 = .ok (.iconst 1, 1) := by decide +kernel
theorem dX4_agrees_14 : decode cX4_agrees 14 = .ok (.goto 4, 3) := by decide +kernel
theorem dX4_agrees_17 : decode cX4_agrees 17 = .ok (.iconst 0, 1) := by decide +kernel
theorem dX4_agrees_18 : decode cX4_agrees 18 = .ok (.ireturn, 1) := by decide +kernel
theorem dX4_gapOf_0 : decode cX4_gapOf 0 = .ok (.iload_n 1, 1) := by decide +kernel
theorem dX4_gapOf_1 : decode cX4_gapOf 1 = .ok (.iload_n 2, 1) := by decide +kernel
theorem dX4_gapOf_2 : decode cX4_gapOf 2 = .ok (.invokestatic 81, 3) := by decide +kernel
theorem dX4_gapOf_5 : decode cX4_gapOf 5 = .ok (.istore_n 3, 1) := by decide +kernel
theorem dX4_gapOf_6 : decode cX4_gapOf 6 = .ok (.aload_n 0, 1) := by decide +kernel
theorem dX4_gapOf_7 : decode cX4_gapOf 7 = .ok (.getfield 43, 3) := by decide +kernel
theorem dX4_gapOf_10 : decode cX4_gapOf 10 = .ok (.iload_n 3, 1) := by decide +kernel
theorem dX4_gapOf_11 : decode cX4_gapOf 11 = .ok (.iaload, 1) := by decide +kernel
theorem dX4_gapOf_12 : decode cX4_gapOf 12 = .ok (.ifCond .le 12, 3) := by decide +kernel
theorem dX4_gapOf_15 : decode cX4_gapOf 15 = .ok (.aload_n 0, 1) := by decide +kernel
theorem dX4_gapOf_16 : decode cX4_gapOf 16 = .ok (.getfield 46, 3) := by decide +kernel
theorem dX4_gapOf_19 : decode cX4_gapOf 19 = .ok (.iload_n 3, 1) := by decide +kernel
theorem dX4_gapOf_20 : decode cX4_gapOf 20 = .ok (.iaload, 1) := by decide +kernel
theorem dX4_gapOf_21 : decode cX4_gapOf 21 = .ok (.goto 26, 3) := by decide +kernel
theorem dX4_gapOf_24 : decode cX4_gapOf 24 = .ok (.aload_n 0, 1) := by decide +kernel
theorem dX4_gapOf_25 : decode cX4_gapOf 25 = .ok (.iload_n 3, 1) := by decide +kernel
theorem dX4_gapOf_26 : decode cX4_gapOf 26 = .ok (.invokevirtual 85, 3) := by decide +kernel
theorem dX4_gapOf_29 : decode cX4_gapOf 29 = .ok (.aload_n 0, 1) := by decide +kernel
theorem dX4_gapOf_30 : decode cX4_gapOf 30 = .ok (.aload_n 0, 1) := by decide +kernel
theorem dX4_gapOf_31 : decode cX4_gapOf 31 = .ok (.getfield 31, 3) := by decide +kernel
theorem dX4_gapOf_34 : decode cX4_gapOf 34 = .ok (.iload_n 1, 1) := by decide +kernel
theorem dX4_gapOf_35 : decode cX4_gapOf 35 = .ok (.iaload, 1) := by decide +kernel
theorem dX4_gapOf_36 : decode cX4_gapOf 36 = .ok (.iload_n 2, 1) := by decide +kernel
theorem dX4_gapOf_37 : decode cX4_gapOf 37 = .ok (.aload_n 0, 1) := by decide +kernel
theorem dX4_gapOf_38 : decode cX4_gapOf 38 = .ok (.getfield 34, 3) := by decide +kernel
theorem dX4_gapOf_41 : decode cX4_gapOf 41 = .ok (.iload_n 1, 1) := by decide +kernel
theorem dX4_gapOf_42 : decode cX4_gapOf 42 = .ok (.iaload, 1) := by decide +kernel
theorem dX4_gapOf_43 : decode cX4_gapOf 43 = .ok (.invokevirtual 103, 3) := by decide +kernel
theorem dX4_gapOf_46 : decode cX4_gapOf 46 = .ok (.isub, 1) := by decide +kernel
theorem dX4_gapOf_47 : decode cX4_gapOf 47 = .ok (.ireturn, 1) := by decide +kernel
theorem dX4_signs_0 : decode cX4_signs 0 = .ok (.aload_n 0, 1) := by decide +kernel
theorem dX4_signs_1 : decode cX4_signs 1 = .ok (.dup, 1) := by decide +kernel
theorem dX4_signs_2 : decode cX4_signs 2 = .ok (.getfield 107, 3) := by decide +kernel
theorem dX4_signs_5 : decode cX4_signs 5 = .ok (.iconst 1, 1) := by decide +kernel
theorem dX4_signs_6 : decode cX4_signs 6 = .ok (.iadd, 1) := by decide +kernel
theorem dX4_signs_7 : decode cX4_signs 7 = .ok (.putfield 107, 3) := by decide +kernel
theorem dX4_signs_10 : decode cX4_signs 10 = .ok (.aload_n 0, 1) := by decide +kernel
theorem dX4_signs_11 : decode cX4_signs 11 = .ok (.getfield 43, 3) := by decide +kernel
theorem dX4_signs_14 : decode cX4_signs 14 = .ok (.iload_n 1, 1) := by decide +kernel
theorem dX4_signs_15 : decode cX4_signs 15 = .ok (.iload_n 2, 1) := by decide +kernel
theorem dX4_signs_16 : decode cX4_signs 16 = .ok (.invokestatic 81, 3) := by decide +kernel
theorem dX4_signs_19 : decode cX4_signs 19 = .ok (.aload_n 0, 1) := by decide +kernel
theorem dX4_signs_20 : decode cX4_signs 20 = .ok (.getfield 107, 3) := by decide +kernel
theorem dX4_signs_23 : decode cX4_signs 23 = .ok (.iastore, 1) := by decide +kernel
theorem dX4_signs_24 : decode cX4_signs 24 = .ok (.aload_n 0, 1) := by decide +kernel
theorem dX4_signs_25 : decode cX4_signs 25 = .ok (.getfield 46, 3) := by decide +kernel
theorem dX4_signs_28 : decode cX4_signs 28 = .ok (.iload_n 1, 1) := by decide +kernel
theorem dX4_signs_29 : decode cX4_signs 29 = .ok (.iload_n 2, 1) := by decide +kernel
theorem dX4_signs_30 : decode cX4_signs 30 = .ok (.invokestatic 81, 3) := by decide +kernel
theorem dX4_signs_33 : decode cX4_signs 33 = .ok (.iload_n 3, 1) := by decide +kernel
theorem dX4_signs_34 : decode cX4_signs 34 = .ok (.iastore, 1) := by decide +kernel
theorem dX4_signs_35 : decode cX4_signs 35 = .ok (.return_, 1) := by decide +kernel
theorem dX4_sign_0 : decode cX4_sign 0 = .ok (.aload_n 0, 1) := by decide +kernel
theorem dX4_sign_1 : decode cX4_sign 1 = .ok (.iload_n 1, 1) := by decide +kernel
theorem dX4_sign_2 : decode cX4_sign 2 = .ok (.invokevirtual 95, 3) := by decide +kernel
theorem dX4_sign_5 : decode cX4_sign 5 = .ok (.ifCond .eq 23, 3) := by decide +kernel
theorem dX4_sign_8 : decode cX4_sign 8 = .ok (.iload_n 2, 1) := by decide +kernel
theorem dX4_sign_9 : decode cX4_sign 9 = .ok (.invokestatic 66, 3) := by decide +kernel
theorem dX4_sign_12 : decode cX4_sign 12 = .ok (.ifCond .eq 16, 3) := by decide +kernel
theorem dX4_sign_15 : decode cX4_sign 15 = .ok (.iload_n 3, 1) := by decide +kernel
theorem dX4_sign_16 : decode cX4_sign 16 = .ok (.iconst 0, 1) := by decide +kernel
theorem dX4_sign_17 : decode cX4_sign 17 = .ok (.iconst 5, 1) := by decide +kernel
theorem dX4_sign_18 : decode cX4_sign 18 = .ok (.invokestatic 59, 3) := by decide +kernel
theorem dX4_sign_21 : decode cX4_sign 21 = .ok (.ifCond .eq 7, 3) := by decide +kernel
theorem dX4_sign_24 : decode cX4_sign 24 = .ok (.iconst 1, 1) := by decide +kernel
theorem dX4_sign_25 : decode cX4_sign 25 = .ok (.goto 4, 3) := by decide +kernel
theorem dX4_sign_28 : decode cX4_sign 28 = .ok (.iconst 0, 1) := by decide +kernel
theorem dX4_sign_29 : decode cX4_sign 29 = .ok (.istore 4, 2) := by decide +kernel
theorem dX4_sign_31 : decode cX4_sign 31 = .ok (.iload 4, 2) := by decide +kernel
theorem dX4_sign_33 : decode cX4_sign 33 = .ok (.ifCond .eq 16, 3) := by decide +kernel
theorem dX4_sign_36 : decode cX4_sign 36 = .ok (.aload_n 0, 1) := by decide +kernel
theorem dX4_sign_37 : decode cX4_sign 37 = .ok (.iload_n 1, 1) := by decide +kernel
theorem dX4_sign_38 : decode cX4_sign 38 = .ok (.iload_n 2, 1) := by decide +kernel
theorem dX4_sign_39 : decode cX4_sign 39 = .ok (.invokevirtual 110, 3) := by decide +kernel
theorem dX4_sign_42 : decode cX4_sign 42 = .ok (.ifCond .eq 7, 3) := by decide +kernel
theorem dX4_sign_45 : decode cX4_sign 45 = .ok (.iconst 1, 1) := by decide +kernel
theorem dX4_sign_46 : decode cX4_sign 46 = .ok (.goto 4, 3) := by decide +kernel
theorem dX4_sign_49 : decode cX4_sign 49 = .ok (.iconst 0, 1) := by decide +kernel
theorem dX4_sign_50 : decode cX4_sign 50 = .ok (.istore 5, 2) := by decide +kernel
theorem dX4_sign_52 : decode cX4_sign 52 = .ok (.iload 5, 2) := by decide +kernel
theorem dX4_sign_54 : decode cX4_sign 54 = .ok (.ifCond .eq 12, 3) := by decide +kernel
theorem dX4_sign_57 : decode cX4_sign 57 = .ok (.aload_n 0, 1) := by decide +kernel
theorem dX4_sign_58 : decode cX4_sign 58 = .ok (.iload_n 1, 1) := by decide +kernel
theorem dX4_sign_59 : decode cX4_sign 59 = .ok (.iload_n 2, 1) := by decide +kernel
theorem dX4_sign_60 : decode cX4_sign 60 = .ok (.invokevirtual 113, 3) := by decide +kernel
theorem dX4_sign_63 : decode cX4_sign 63 = .ok (.goto 4, 3) := by decide +kernel
theorem dX4_sign_66 : decode cX4_sign 66 = .ok (.iconst 0, 1) := by decide +kernel
theorem dX4_sign_67 : decode cX4_sign 67 = .ok (.istore 6, 2) := by decide +kernel
theorem dX4_sign_69 : decode cX4_sign 69 = .ok (.iload 6, 2) := by decide +kernel
theorem dX4_sign_71 : decode cX4_sign 71 = .ok (.ifCond .ge 9, 3) := by decide +kernel
theorem dX4_sign_74 : decode cX4_sign 74 = .ok (.iload 6, 2) := by decide +kernel
theorem dX4_sign_76 : decode cX4_sign 76 = .ok (.ineg, 1) := by decide +kernel
theorem dX4_sign_77 : decode cX4_sign 77 = .ok (.goto 5, 3) := by decide +kernel
theorem dX4_sign_80 : decode cX4_sign 80 = .ok (.iload 6, 2) := by decide +kernel
theorem dX4_sign_82 : decode cX4_sign 82 = .ok (.istore 7, 2) := by decide +kernel
theorem dX4_sign_84 : decode cX4_sign 84 = .ok (.iload 5, 2) := by decide +kernel
theorem dX4_sign_86 : decode cX4_sign 86 = .ok (.ifCond .eq 48, 3) := by decide +kernel
theorem dX4_sign_89 : decode cX4_sign 89 = .ok (.aload_n 0, 1) := by decide +kernel
theorem dX4_sign_90 : decode cX4_sign 90 = .ok (.getfield 37, 3) := by decide +kernel
theorem dX4_sign_93 : decode cX4_sign 93 = .ok (.iload_n 1, 1) := by decide +kernel
theorem dX4_sign_94 : decode cX4_sign 94 = .ok (.iaload, 1) := by decide +kernel
theorem dX4_sign_95 : decode cX4_sign 95 = .ok (.iconst 1, 1) := by decide +kernel
theorem dX4_sign_96 : decode cX4_sign 96 = .ok (.if_icmp .ne 38, 3) := by decide +kernel
theorem dX4_sign_99 : decode cX4_sign 99 = .ok (.aload_n 0, 1) := by decide +kernel
theorem dX4_sign_100 : decode cX4_sign 100 = .ok (.getfield 43, 3) := by decide +kernel
theorem dX4_sign_103 : decode cX4_sign 103 = .ok (.iload_n 1, 1) := by decide +kernel
theorem dX4_sign_104 : decode cX4_sign 104 = .ok (.iload_n 2, 1) := by decide +kernel
theorem dX4_sign_105 : decode cX4_sign 105 = .ok (.invokestatic 81, 3) := by decide +kernel
theorem dX4_sign_108 : decode cX4_sign 108 = .ok (.iaload, 1) := by decide +kernel
theorem dX4_sign_109 : decode cX4_sign 109 = .ok (.ifCond .ne 25, 3) := by decide +kernel
theorem dX4_sign_112 : decode cX4_sign 112 = .ok (.aload_n 0, 1) := by decide +kernel
theorem dX4_sign_113 : decode cX4_sign 113 = .ok (.getfield 13, 3) := by decide +kernel
theorem dX4_sign_116 : decode cX4_sign 116 = .ok (.iload_n 3, 1) := by decide +kernel
theorem dX4_sign_117 : decode cX4_sign 117 = .ok (.iaload, 1) := by decide +kernel
theorem dX4_sign_118 : decode cX4_sign 118 = .ok (.aload_n 0, 1) := by decide +kernel
theorem dX4_sign_119 : decode cX4_sign 119 = .ok (.getfield 7, 3) := by decide +kernel
theorem dX4_sign_122 : decode cX4_sign 122 = .ok (.iload_n 2, 1) := by decide +kernel
theorem dX4_sign_123 : decode cX4_sign 123 = .ok (.iaload, 1) := by decide +kernel
theorem dX4_sign_124 : decode cX4_sign 124 = .ok (.iload 7, 2) := by decide +kernel
theorem dX4_sign_126 : decode cX4_sign 126 = .ok (.imul, 1) := by decide +kernel
theorem dX4_sign_127 : decode cX4_sign 127 = .ok (.if_icmp .lt 7, 3) := by decide +kernel
theorem dX4_sign_130 : decode cX4_sign 130 = .ok (.iconst 1, 1) := by decide +kernel
theorem dX4_sign_131 : decode cX4_sign 131 = .ok (.goto 4, 3) := by decide +kernel
theorem dX4_sign_134 : decode cX4_sign 134 = .ok (.iconst 0, 1) := by decide +kernel
theorem dX4_sign_135 : decode cX4_sign 135 = .ok (.istore 8, 2) := by decide +kernel
theorem dX4_sign_137 : decode cX4_sign 137 = .ok (.aload_n 0, 1) := by decide +kernel
theorem dX4_sign_138 : decode cX4_sign 138 = .ok (.iload 4, 2) := by decide +kernel
theorem dX4_sign_140 : decode cX4_sign 140 = .ok (.iload 5, 2) := by decide +kernel
theorem dX4_sign_142 : decode cX4_sign 142 = .ok (.iload 8, 2) := by decide +kernel
theorem dX4_sign_144 : decode cX4_sign 144 = .ok (.invokevirtual 70, 3) := by decide +kernel
theorem dX4_sign_147 : decode cX4_sign 147 = .ok (.ifCond .ne 5, 3) := by decide +kernel
theorem dX4_sign_150 : decode cX4_sign 150 = .ok (.iconst 0, 1) := by decide +kernel
theorem dX4_sign_151 : decode cX4_sign 151 = .ok (.ireturn, 1) := by decide +kernel
theorem dX4_sign_152 : decode cX4_sign 152 = .ok (.aload_n 0, 1) := by decide +kernel
theorem dX4_sign_153 : decode cX4_sign 153 = .ok (.iload_n 1, 1) := by decide +kernel
theorem dX4_sign_154 : decode cX4_sign 154 = .ok (.iload_n 2, 1) := by decide +kernel
theorem dX4_sign_155 : decode cX4_sign 155 = .ok (.iload 6, 2) := by decide +kernel
theorem dX4_sign_157 : decode cX4_sign 157 = .ok (.invokevirtual 116, 3) := by decide +kernel
theorem dX4_sign_160 : decode cX4_sign 160 = .ok (.iload 6, 2) := by decide +kernel
theorem dX4_sign_162 : decode cX4_sign 162 = .ok (.ireturn, 1) := by decide +kernel
theorem dX4_canSettle_0 : decode cX4_canSettle 0 = .ok (.aload_n 0, 1) := by decide +kernel
theorem dX4_canSettle_1 : decode cX4_canSettle 1 = .ok (.getfield 37, 3) := by decide +kernel
theorem dX4_canSettle_4 : decode cX4_canSettle 4 = .ok (.iload_n 1, 1) := by decide +kernel
theorem dX4_canSettle_5 : decode cX4_canSettle 5 = .ok (.iaload, 1) := by decide +kernel
theorem dX4_canSettle_6 : decode cX4_canSettle 6 = .ok (.iconst 1, 1) := by decide +kernel
theorem dX4_canSettle_7 : decode cX4_canSettle 7 = .ok (.if_icmp .ne 32, 3) := by decide +kernel
theorem dX4_canSettle_10 : decode cX4_canSettle 10 = .ok (.aload_n 0, 1) := by decide +kernel
theorem dX4_canSettle_11 : decode cX4_canSettle 11 = .ok (.getfield 37, 3) := by decide +kernel
theorem dX4_canSettle_14 : decode cX4_canSettle 14 = .ok (.iload_n 2, 1) := by decide +kernel
theorem dX4_canSettle_15 : decode cX4_canSettle 15 = .ok (.iaload, 1) := by decide +kernel
theorem dX4_canSettle_16 : decode cX4_canSettle 16 = .ok (.iconst 1, 1) := by decide +kernel
theorem dX4_canSettle_17 : decode cX4_canSettle 17 = .ok (.if_icmp .ne 22, 3) := by decide +kernel
theorem dX4_canSettle_20 : decode cX4_canSettle 20 = .ok (.aload_n 0, 1) := by decide +kernel
theorem dX4_canSettle_21 : decode cX4_canSettle 21 = .ok (.getfield 31, 3) := by decide +kernel
theorem dX4_canSettle_24 : decode cX4_canSettle 24 = .ok (.iload_n 1, 1) := by decide +kernel
theorem dX4_canSettle_25 : decode cX4_canSettle 25 = .ok (.iaload, 1) := by decide +kernel
theorem dX4_canSettle_26 : decode cX4_canSettle 26 = .ok (.aload_n 0, 1) := by decide +kernel
theorem dX4_canSettle_27 : decode cX4_canSettle 27 = .ok (.getfield 31, 3) := by decide +kernel
theorem dX4_canSettle_30 : decode cX4_canSettle 30 = .ok (.iload_n 2, 1) := by decide +kernel
theorem dX4_canSettle_31 : decode cX4_canSettle 31 = .ok (.iaload, 1) := by decide +kernel
theorem dX4_canSettle_32 : decode cX4_canSettle 32 = .ok (.if_icmp .eq 7, 3) := by decide +kernel
theorem dX4_canSettle_35 : decode cX4_canSettle 35 = .ok (.iconst 1, 1) := by decide +kernel
theorem dX4_canSettle_36 : decode cX4_canSettle 36 = .ok (.goto 4, 3) := by decide +kernel
theorem dX4_canSettle_39 : decode cX4_canSettle 39 = .ok (.iconst 0, 1) := by decide +kernel
theorem dX4_canSettle_40 : decode cX4_canSettle 40 = .ok (.istore 4, 2) := by decide +kernel
theorem dX4_canSettle_42 : decode cX4_canSettle 42 = .ok (.iload 4, 2) := by decide +kernel
theorem dX4_canSettle_44 : decode cX4_canSettle 44 = .ok (.ifCond .eq 33, 3) := by decide +kernel
theorem dX4_canSettle_47 : decode cX4_canSettle 47 = .ok (.aload_n 0, 1) := by decide +kernel
theorem dX4_canSettle_48 : decode cX4_canSettle 48 = .ok (.getfield 43, 3) := by decide +kernel
theorem dX4_canSettle_51 : decode cX4_canSettle 51 = .ok (.iload_n 1, 1) := by decide +kernel
theorem dX4_canSettle_52 : decode cX4_canSettle 52 = .ok (.iload_n 3, 1) := by decide +kernel
theorem dX4_canSettle_53 : decode cX4_canSettle 53 = .ok (.invokestatic 81, 3) := by decide +kernel
theorem dX4_canSettle_56 : decode cX4_canSettle 56 = .ok (.iaload, 1) := by decide +kernel
theorem dX4_canSettle_57 : decode cX4_canSettle 57 = .ok (.ifCond .ne 20, 3) := by decide +kernel
theorem dX4_canSettle_60 : decode cX4_canSettle 60 = .ok (.aload_n 0, 1) := by decide +kernel
theorem dX4_canSettle_61 : decode cX4_canSettle 61 = .ok (.getfield 43, 3) := by decide +kernel
theorem dX4_canSettle_64 : decode cX4_canSettle 64 = .ok (.iload_n 2, 1) := by decide +kernel
theorem dX4_canSettle_65 : decode cX4_canSettle 65 = .ok (.iload_n 3, 1) := by decide +kernel
theorem dX4_canSettle_66 : decode cX4_canSettle 66 = .ok (.invokestatic 81, 3) := by decide +kernel
theorem dX4_canSettle_69 : decode cX4_canSettle 69 = .ok (.iaload, 1) := by decide +kernel
theorem dX4_canSettle_70 : decode cX4_canSettle 70 = .ok (.ifCond .ne 7, 3) := by decide +kernel
theorem dX4_canSettle_73 : decode cX4_canSettle 73 = .ok (.iconst 1, 1) := by decide +kernel
theorem dX4_canSettle_74 : decode cX4_canSettle 74 = .ok (.goto 4, 3) := by decide +kernel
theorem dX4_canSettle_77 : decode cX4_canSettle 77 = .ok (.iconst 0, 1) := by decide +kernel
theorem dX4_canSettle_78 : decode cX4_canSettle 78 = .ok (.istore 4, 2) := by decide +kernel
theorem dX4_canSettle_80 : decode cX4_canSettle 80 = .ok (.iload 4, 2) := by decide +kernel
theorem dX4_canSettle_82 : decode cX4_canSettle 82 = .ok (.ifCond .eq 32, 3) := by decide +kernel
theorem dX4_canSettle_85 : decode cX4_canSettle 85 = .ok (.aload_n 0, 1) := by decide +kernel
theorem dX4_canSettle_86 : decode cX4_canSettle 86 = .ok (.iload_n 1, 1) := by decide +kernel
theorem dX4_canSettle_87 : decode cX4_canSettle 87 = .ok (.iload_n 3, 1) := by decide +kernel
theorem dX4_canSettle_88 : decode cX4_canSettle 88 = .ok (.invokevirtual 113, 3) := by decide +kernel
theorem dX4_canSettle_91 : decode cX4_canSettle 91 = .ok (.ifCond .eq 23, 3) := by decide +kernel
theorem dX4_canSettle_94 : decode cX4_canSettle 94 = .ok (.aload_n 0, 1) := by decide +kernel
theorem dX4_canSettle_95 : decode cX4_canSettle 95 = .ok (.iload_n 1, 1) := by decide +kernel
theorem dX4_canSettle_96 : decode cX4_canSettle 96 = .ok (.iload_n 3, 1) := by decide +kernel
theorem dX4_canSettle_97 : decode cX4_canSettle 97 = .ok (.invokevirtual 113, 3) := by decide +kernel
theorem dX4_canSettle_100 : decode cX4_canSettle 100 = .ok (.aload_n 0, 1) := by decide +kernel
theorem dX4_canSettle_101 : decode cX4_canSettle 101 = .ok (.iload_n 2, 1) := by decide +kernel
theorem dX4_canSettle_102 : decode cX4_canSettle 102 = .ok (.iload_n 3, 1) := by decide +kernel
theorem dX4_canSettle_103 : decode cX4_canSettle 103 = .ok (.invokevirtual 113, 3) := by decide +kernel
theorem dX4_canSettle_106 : decode cX4_canSettle 106 = .ok (.iadd, 1) := by decide +kernel
theorem dX4_canSettle_107 : decode cX4_canSettle 107 = .ok (.ifCond .ne 7, 3) := by decide +kernel
theorem dX4_canSettle_110 : decode cX4_canSettle 110 = .ok (.iconst 1, 1) := by decide +kernel
theorem dX4_canSettle_111 : decode cX4_canSettle 111 = .ok (.goto 4, 3) := by decide +kernel
theorem dX4_canSettle_114 : decode cX4_canSettle 114 = .ok (.iconst 0, 1) := by decide +kernel
theorem dX4_canSettle_115 : decode cX4_canSettle 115 = .ok (.ireturn, 1) := by decide +kernel
theorem dX4_settle_0 : decode cX4_settle 0 = .ok (.aload_n 0, 1) := by decide +kernel
theorem dX4_settle_1 : decode cX4_settle 1 = .ok (.iload_n 1, 1) := by decide +kernel
theorem dX4_settle_2 : decode cX4_settle 2 = .ok (.invokevirtual 95, 3) := by decide +kernel
theorem dX4_settle_5 : decode cX4_settle 5 = .ok (.ifCond .eq 22, 3) := by decide +kernel
theorem dX4_settle_8 : decode cX4_settle 8 = .ok (.aload_n 0, 1) := by decide +kernel
theorem dX4_settle_9 : decode cX4_settle 9 = .ok (.iload_n 2, 1) := by decide +kernel
theorem dX4_settle_10 : decode cX4_settle 10 = .ok (.invokevirtual 95, 3) := by decide +kernel
theorem dX4_settle_13 : decode cX4_settle 13 = .ok (.ifCond .eq 14, 3) := by decide +kernel
theorem dX4_settle_16 : decode cX4_settle 16 = .ok (.iload_n 3, 1) := by decide +kernel
theorem dX4_settle_17 : decode cX4_settle 17 = .ok (.invokestatic 66, 3) := by decide +kernel
theorem dX4_settle_20 : decode cX4_settle 20 = .ok (.ifCond .eq 7, 3) := by decide +kernel
theorem dX4_settle_23 : decode cX4_settle 23 = .ok (.iconst 1, 1) := by decide +kernel
theorem dX4_settle_24 : decode cX4_settle 24 = .ok (.goto 4, 3) := by decide +kernel
theorem dX4_settle_27 : decode cX4_settle 27 = .ok (.iconst 0, 1) := by decide +kernel
theorem dX4_settle_28 : decode cX4_settle 28 = .ok (.istore 4, 2) := by decide +kernel
theorem dX4_settle_30 : decode cX4_settle 30 = .ok (.iload 4, 2) := by decide +kernel
theorem dX4_settle_32 : decode cX4_settle 32 = .ok (.ifCond .eq 25, 3) := by decide +kernel
theorem dX4_settle_35 : decode cX4_settle 35 = .ok (.aload_n 0, 1) := by decide +kernel
theorem dX4_settle_36 : decode cX4_settle 36 = .ok (.iload_n 1, 1) := by decide +kernel
theorem dX4_settle_37 : decode cX4_settle 37 = .ok (.iload_n 3, 1) := by decide +kernel
theorem dX4_settle_38 : decode cX4_settle 38 = .ok (.invokevirtual 110, 3) := by decide +kernel
theorem dX4_settle_41 : decode cX4_settle 41 = .ok (.ifCond .eq 16, 3) := by decide +kernel
theorem dX4_settle_44 : decode cX4_settle 44 = .ok (.aload_n 0, 1) := by decide +kernel
theorem dX4_settle_45 : decode cX4_settle 45 = .ok (.iload_n 2, 1) := by decide +kernel
theorem dX4_settle_46 : decode cX4_settle 46 = .ok (.iload_n 3, 1) := by decide +kernel
theorem dX4_settle_47 : decode cX4_settle 47 = .ok (.invokevirtual 110, 3) := by decide +kernel
theorem dX4_settle_50 : decode cX4_settle 50 = .ok (.ifCond .eq 7, 3) := by decide +kernel
theorem dX4_settle_53 : decode cX4_settle 53 = .ok (.iconst 1, 1) := by decide +kernel
theorem dX4_settle_54 : decode cX4_settle 54 = .ok (.goto 4, 3) := by decide +kernel
theorem dX4_settle_57 : decode cX4_settle 57 = .ok (.iconst 0, 1) := by decide +kernel
theorem dX4_settle_58 : decode cX4_settle 58 = .ok (.istore 5, 2) := by decide +kernel
theorem dX4_settle_60 : decode cX4_settle 60 = .ok (.aload_n 0, 1) := by decide +kernel
theorem dX4_settle_61 : decode cX4_settle 61 = .ok (.iload 4, 2) := by decide +kernel
theorem dX4_settle_63 : decode cX4_settle 63 = .ok (.iload 5, 2) := by decide +kernel
theorem dX4_settle_65 : decode cX4_settle 65 = .ok (.iload 5, 2) := by decide +kernel
theorem dX4_settle_67 : decode cX4_settle 67 = .ok (.ifCond .eq 17, 3) := by decide +kernel
theorem dX4_settle_70 : decode cX4_settle 70 = .ok (.aload_n 0, 1) := by decide +kernel
theorem dX4_settle_71 : decode cX4_settle 71 = .ok (.iload_n 1, 1) := by decide +kernel
theorem dX4_settle_72 : decode cX4_settle 72 = .ok (.iload_n 2, 1) := by decide +kernel
theorem dX4_settle_73 : decode cX4_settle 73 = .ok (.iload_n 3, 1) := by decide +kernel
theorem dX4_settle_74 : decode cX4_settle 74 = .ok (.invokevirtual 120, 3) := by decide +kernel
theorem dX4_settle_77 : decode cX4_settle 77 = .ok (.ifCond .eq 7, 3) := by decide +kernel
theorem dX4_settle_80 : decode cX4_settle 80 = .ok (.iconst 1, 1) := by decide +kernel
theorem dX4_settle_81 : decode cX4_settle 81 = .ok (.goto 4, 3) := by decide +kernel
theorem dX4_settle_84 : decode cX4_settle 84 = .ok (.iconst 0, 1) := by decide +kernel
theorem dX4_settle_85 : decode cX4_settle 85 = .ok (.invokevirtual 70, 3) := by decide +kernel
theorem dX4_settle_88 : decode cX4_settle 88 = .ok (.ifCond .ne 5, 3) := by decide +kernel
theorem dX4_settle_91 : decode cX4_settle 91 = .ok (.iconst 0, 1) := by decide +kernel
theorem dX4_settle_92 : decode cX4_settle 92 = .ok (.ireturn, 1) := by decide +kernel
theorem dX4_settle_93 : decode cX4_settle 93 = .ok (.aload_n 0, 1) := by decide +kernel
theorem dX4_settle_94 : decode cX4_settle 94 = .ok (.iload_n 1, 1) := by decide +kernel
theorem dX4_settle_95 : decode cX4_settle 95 = .ok (.iload_n 3, 1) := by decide +kernel
theorem dX4_settle_96 : decode cX4_settle 96 = .ok (.invokevirtual 113, 3) := by decide +kernel
theorem dX4_settle_99 : decode cX4_settle 99 = .ok (.istore 6, 2) := by decide +kernel
theorem dX4_settle_101 : decode cX4_settle 101 = .ok (.aload_n 0, 1) := by decide +kernel
theorem dX4_settle_102 : decode cX4_settle 102 = .ok (.iload_n 1, 1) := by decide +kernel
theorem dX4_settle_103 : decode cX4_settle 103 = .ok (.iload_n 3, 1) := by decide +kernel
theorem dX4_settle_104 : decode cX4_settle 104 = .ok (.iload 6, 2) := by decide +kernel
theorem dX4_settle_106 : decode cX4_settle 106 = .ok (.invokevirtual 116, 3) := by decide +kernel
theorem dX4_settle_109 : decode cX4_settle 109 = .ok (.aload_n 0, 1) := by decide +kernel
theorem dX4_settle_110 : decode cX4_settle 110 = .ok (.iload_n 2, 1) := by decide +kernel
theorem dX4_settle_111 : decode cX4_settle 111 = .ok (.iload_n 3, 1) := by decide +kernel
theorem dX4_settle_112 : decode cX4_settle 112 = .ok (.iload 6, 2) := by decide +kernel
theorem dX4_settle_114 : decode cX4_settle 114 = .ok (.ineg, 1) := by decide +kernel
theorem dX4_settle_115 : decode cX4_settle 115 = .ok (.invokevirtual 116, 3) := by decide +kernel
theorem dX4_settle_118 : decode cX4_settle 118 = .ok (.iload 6, 2) := by decide +kernel
theorem dX4_settle_120 : decode cX4_settle 120 = .ok (.ifCond .le 8, 3) := by decide +kernel
theorem dX4_settle_123 : decode cX4_settle 123 = .ok (.iload 6, 2) := by decide +kernel
theorem dX4_settle_125 : decode cX4_settle 125 = .ok (.goto 6, 3) := by decide +kernel
theorem dX4_settle_128 : decode cX4_settle 128 = .ok (.iload 6, 2) := by decide +kernel
theorem dX4_settle_130 : decode cX4_settle 130 = .ok (.ineg, 1) := by decide +kernel
theorem dX4_settle_131 : decode cX4_settle 131 = .ok (.ireturn, 1) := by decide +kernel
theorem dX4_now_0 : decode cX4_now 0 = .ok (.aload_n 0, 1) := by decide +kernel
theorem dX4_now_1 : decode cX4_now 1 = .ok (.aload_n 0, 1) := by decide +kernel
theorem dX4_now_2 : decode cX4_now 2 = .ok (.getfield 75, 3) := by decide +kernel
theorem dX4_now_5 : decode cX4_now 5 = .ok (.invokevirtual 123, 3) := by decide +kernel
theorem dX4_now_8 : decode cX4_now 8 = .ok (.ireturn, 1) := by decide +kernel
theorem dX4_moves_0 : decode cX4_moves 0 = .ok (.aload_n 0, 1) := by decide +kernel
theorem dX4_moves_1 : decode cX4_moves 1 = .ok (.aload_n 0, 1) := by decide +kernel
theorem dX4_moves_2 : decode cX4_moves 2 = .ok (.getfield 78, 3) := by decide +kernel
theorem dX4_moves_5 : decode cX4_moves 5 = .ok (.invokevirtual 123, 3) := by decide +kernel
theorem dX4_moves_8 : decode cX4_moves 8 = .ok (.ireturn, 1) := by decide +kernel
theorem dX4_book_0 : decode cX4_book 0 = .ok (.aload_n 0, 1) := by decide +kernel
theorem dX4_book_1 : decode cX4_book 1 = .ok (.iload_n 1, 1) := by decide +kernel
theorem dX4_book_2 : decode cX4_book 2 = .ok (.invokestatic 89, 3) := by decide +kernel
theorem dX4_book_5 : decode cX4_book 5 = .ok (.ifCond .eq 14, 3) := by decide +kernel
theorem dX4_book_8 : decode cX4_book 8 = .ok (.iload_n 2, 1) := by decide +kernel
theorem dX4_book_9 : decode cX4_book 9 = .ok (.invokestatic 66, 3) := by decide +kernel
theorem dX4_book_12 : decode cX4_book 12 = .ok (.ifCond .eq 7, 3) := by decide +kernel
theorem dX4_book_15 : decode cX4_book 15 = .ok (.iconst 1, 1) := by decide +kernel
theorem dX4_book_16 : decode cX4_book 16 = .ok (.goto 4, 3) := by decide +kernel
theorem dX4_book_19 : decode cX4_book 19 = .ok (.iconst 0, 1) := by decide +kernel
theorem dX4_book_20 : decode cX4_book 20 = .ok (.iconst 1, 1) := by decide +kernel
theorem dX4_book_21 : decode cX4_book 21 = .ok (.iconst 1, 1) := by decide +kernel
theorem dX4_book_22 : decode cX4_book 22 = .ok (.invokevirtual 70, 3) := by decide +kernel
theorem dX4_book_25 : decode cX4_book 25 = .ok (.ifCond .eq 16, 3) := by decide +kernel
theorem dX4_book_28 : decode cX4_book 28 = .ok (.aload_n 0, 1) := by decide +kernel
theorem dX4_book_29 : decode cX4_book 29 = .ok (.iload_n 1, 1) := by decide +kernel
theorem dX4_book_30 : decode cX4_book 30 = .ok (.iload_n 2, 1) := by decide +kernel
theorem dX4_book_31 : decode cX4_book 31 = .ok (.aload_n 0, 1) := by decide +kernel
theorem dX4_book_32 : decode cX4_book 32 = .ok (.getfield 75, 3) := by decide +kernel
theorem dX4_book_35 : decode cX4_book 35 = .ok (.invokevirtual 103, 3) := by decide +kernel
theorem dX4_book_38 : decode cX4_book 38 = .ok (.goto 4, 3) := by decide +kernel
theorem dX4_book_41 : decode cX4_book 41 = .ok (.iconst 0, 1) := by decide +kernel
theorem dX4_book_42 : decode cX4_book 42 = .ok (.ireturn, 1) := by decide +kernel
theorem dX4_bookAt_0 : decode cX4_bookAt 0 = .ok (.aload_n 0, 1) := by decide +kernel
theorem dX4_bookAt_1 : decode cX4_bookAt 1 = .ok (.iload_n 1, 1) := by decide +kernel
theorem dX4_bookAt_2 : decode cX4_bookAt 2 = .ok (.invokestatic 89, 3) := by decide +kernel
theorem dX4_bookAt_5 : decode cX4_bookAt 5 = .ok (.ifCond .eq 14, 3) := by decide +kernel
theorem dX4_bookAt_8 : decode cX4_bookAt 8 = .ok (.iload_n 2, 1) := by decide +kernel
theorem dX4_bookAt_9 : decode cX4_bookAt 9 = .ok (.invokestatic 66, 3) := by decide +kernel
theorem dX4_bookAt_12 : decode cX4_bookAt 12 = .ok (.ifCond .eq 7, 3) := by decide +kernel
theorem dX4_bookAt_15 : decode cX4_bookAt 15 = .ok (.iconst 1, 1) := by decide +kernel
theorem dX4_bookAt_16 : decode cX4_bookAt 16 = .ok (.goto 4, 3) := by decide +kernel
theorem dX4_bookAt_19 : decode cX4_bookAt 19 = .ok (.iconst 0, 1) := by decide +kernel
theorem dX4_bookAt_20 : decode cX4_bookAt 20 = .ok (.iload_n 3, 1) := by decide +kernel
theorem dX4_bookAt_21 : decode cX4_bookAt 21 = .ok (.iconst 0, 1) := by decide +kernel
theorem dX4_bookAt_22 : decode cX4_bookAt 22 = .ok (.aload_n 0, 1) := by decide +kernel
theorem dX4_bookAt_23 : decode cX4_bookAt 23 = .ok (.getfield 75, 3) := by decide +kernel
theorem dX4_bookAt_26 : decode cX4_bookAt 26 = .ok (.invokestatic 59, 3) := by decide +kernel
theorem dX4_bookAt_29 : decode cX4_bookAt 29 = .ok (.iconst 1, 1) := by decide +kernel
theorem dX4_bookAt_30 : decode cX4_bookAt 30 = .ok (.invokevirtual 70, 3) := by decide +kernel
theorem dX4_bookAt_33 : decode cX4_bookAt 33 = .ok (.ifCond .eq 13, 3) := by decide +kernel
theorem dX4_bookAt_36 : decode cX4_bookAt 36 = .ok (.aload_n 0, 1) := by decide +kernel
theorem dX4_bookAt_37 : decode cX4_bookAt 37 = .ok (.iload_n 1, 1) := by decide +kernel
theorem dX4_bookAt_38 : decode cX4_bookAt 38 = .ok (.iload_n 2, 1) := by decide +kernel
theorem dX4_bookAt_39 : decode cX4_bookAt 39 = .ok (.iload_n 3, 1) := by decide +kernel
theorem dX4_bookAt_40 : decode cX4_bookAt 40 = .ok (.invokevirtual 103, 3) := by decide +kernel
theorem dX4_bookAt_43 : decode cX4_bookAt 43 = .ok (.goto 4, 3) := by decide +kernel
theorem dX4_bookAt_46 : decode cX4_bookAt 46 = .ok (.iconst 0, 1) := by decide +kernel
theorem dX4_bookAt_47 : decode cX4_bookAt 47 = .ok (.ireturn, 1) := by decide +kernel
theorem dX4_worthOf_0 : decode cX4_worthOf 0 = .ok (.iconst 0, 1) := by decide +kernel
theorem dX4_worthOf_1 : decode cX4_worthOf 1 = .ok (.istore_n 2, 1) := by decide +kernel
theorem dX4_worthOf_2 : decode cX4_worthOf 2 = .ok (.iconst 0, 1) := by decide +kernel
theorem dX4_worthOf_3 : decode cX4_worthOf 3 = .ok (.istore_n 3, 1) := by decide +kernel
theorem dX4_worthOf_4 : decode cX4_worthOf 4 = .ok (.iload_n 3, 1) := by decide +kernel
theorem dX4_worthOf_5 : decode cX4_worthOf 5 = .ok (.iconst 5, 1) := by decide +kernel
theorem dX4_worthOf_6 : decode cX4_worthOf 6 = .ok (.if_icmp .ge 42, 3) := by decide +kernel
theorem dX4_worthOf_9 : decode cX4_worthOf 9 = .ok (.aload_n 0, 1) := by decide +kernel
theorem dX4_worthOf_10 : decode cX4_worthOf 10 = .ok (.iload_n 1, 1) := by decide +kernel
theorem dX4_worthOf_11 : decode cX4_worthOf 11 = .ok (.iload_n 3, 1) := by decide +kernel
theorem dX4_worthOf_12 : decode cX4_worthOf 12 = .ok (.aload_n 0, 1) := by decide +kernel
theorem dX4_worthOf_13 : decode cX4_worthOf 13 = .ok (.getfield 75, 3) := by decide +kernel
theorem dX4_worthOf_16 : decode cX4_worthOf 16 = .ok (.invokevirtual 103, 3) := by decide +kernel
theorem dX4_worthOf_19 : decode cX4_worthOf 19 = .ok (.istore 4, 2) := by decide +kernel
theorem dX4_worthOf_21 : decode cX4_worthOf 21 = .ok (.iload_n 2, 1) := by decide +kernel
theorem dX4_worthOf_22 : decode cX4_worthOf 22 = .ok (.iload 4, 2) := by decide +kernel
theorem dX4_worthOf_24 : decode cX4_worthOf 24 = .ok (.ifCond .le 15, 3) := by decide +kernel
theorem dX4_worthOf_27 : decode cX4_worthOf 27 = .ok (.aload_n 0, 1) := by decide +kernel
theorem dX4_worthOf_28 : decode cX4_worthOf 28 = .ok (.getfield 7, 3) := by decide +kernel
theorem dX4_worthOf_31 : decode cX4_worthOf 31 = .ok (.iload_n 3, 1) := by decide +kernel
theorem dX4_worthOf_32 : decode cX4_worthOf 32 = .ok (.iaload, 1) := by decide +kernel
theorem dX4_worthOf_33 : decode cX4_worthOf 33 = .ok (.iload 4, 2) := by decide +kernel
theorem dX4_worthOf_35 : decode cX4_worthOf 35 = .ok (.imul, 1) := by decide +kernel
theorem dX4_worthOf_36 : decode cX4_worthOf 36 = .ok (.goto 4, 3) := by decide +kernel
theorem dX4_worthOf_39 : decode cX4_worthOf 39 = .ok (.iconst 0, 1) := by decide +kernel
theorem dX4_worthOf_40 : decode cX4_worthOf 40 = .ok (.iadd, 1) := by decide +kernel
theorem dX4_worthOf_41 : decode cX4_worthOf 41 = .ok (.istore_n 2, 1) := by decide +kernel
theorem dX4_worthOf_42 : decode cX4_worthOf 42 = .ok (.iinc 3 1, 3) := by decide +kernel
theorem dX4_worthOf_45 : decode cX4_worthOf 45 = .ok (.goto (-41), 3) := by decide +kernel
theorem dX4_worthOf_48 : decode cX4_worthOf 48 = .ok (.iload_n 2, 1) := by decide +kernel
theorem dX4_worthOf_49 : decode cX4_worthOf 49 = .ok (.ireturn, 1) := by decide +kernel
theorem dX4_worth_0 : decode cX4_worth 0 = .ok (.aload_n 0, 1) := by decide +kernel
theorem dX4_worth_1 : decode cX4_worth 1 = .ok (.iload_n 1, 1) := by decide +kernel
theorem dX4_worth_2 : decode cX4_worth 2 = .ok (.invokestatic 89, 3) := by decide +kernel
theorem dX4_worth_5 : decode cX4_worth 5 = .ok (.iconst 1, 1) := by decide +kernel
theorem dX4_worth_6 : decode cX4_worth 6 = .ok (.iconst 1, 1) := by decide +kernel
theorem dX4_worth_7 : decode cX4_worth 7 = .ok (.invokevirtual 70, 3) := by decide +kernel
theorem dX4_worth_10 : decode cX4_worth 10 = .ok (.ifCond .eq 11, 3) := by decide +kernel
theorem dX4_worth_13 : decode cX4_worth 13 = .ok (.aload_n 0, 1) := by decide +kernel
theorem dX4_worth_14 : decode cX4_worth 14 = .ok (.iload_n 1, 1) := by decide +kernel
theorem dX4_worth_15 : decode cX4_worth 15 = .ok (.invokevirtual 126, 3) := by decide +kernel
theorem dX4_worth_18 : decode cX4_worth 18 = .ok (.goto 4, 3) := by decide +kernel
theorem dX4_worth_21 : decode cX4_worth 21 = .ok (.iconst 0, 1) := by decide +kernel
theorem dX4_worth_22 : decode cX4_worth 22 = .ok (.ireturn, 1) := by decide +kernel
theorem dX4_suggested_0 : decode cX4_suggested 0 = .ok (.aload_n 0, 1) := by decide +kernel
theorem dX4_suggested_1 : decode cX4_suggested 1 = .ok (.iconst 0, 1) := by decide +kernel
theorem dX4_suggested_2 : decode cX4_suggested 2 = .ok (.putfield 55, 3) := by decide +kernel
theorem dX4_suggested_5 : decode cX4_suggested 5 = .ok (.iconst (-1), 1) := by decide +kernel
theorem dX4_suggested_6 : decode cX4_suggested 6 = .ok (.istore_n 1, 1) := by decide +kernel
theorem dX4_suggested_7 : decode cX4_suggested 7 = .ok (.ldc2_w 129, 3) := by decide +kernel
theorem dX4_suggested_10 : decode cX4_suggested 10 = .ok (.lstore_n 2, 1) := by decide +kernel
theorem dX4_suggested_11 : decode cX4_suggested 11 = .ok (.iconst 0, 1) := by decide +kernel
theorem dX4_suggested_12 : decode cX4_suggested 12 = .ok (.istore 4, 2) := by decide +kernel
theorem dX4_suggested_14 : decode cX4_suggested 14 = .ok (.iload 4, 2) := by decide +kernel
theorem dX4_suggested_16 : decode cX4_suggested 16 = .ok (.bipush 12, 2) := by decide +kernel
theorem dX4_suggested_18 : decode cX4_suggested 18 = .ok (.if_icmp .ge 123, 3) := by decide +kernel
theorem dX4_suggested_21 : decode cX4_suggested 21 = .ok (.iconst (-1), 1) := by decide +kernel
theorem dX4_suggested_22 : decode cX4_suggested 22 = .ok (.istore 5, 2) := by decide +kernel
theorem dX4_suggested_24 : decode cX4_suggested 24 = .ok (.iconst 0, 1) := by decide +kernel
theorem dX4_suggested_25 : decode cX4_suggested 25 = .ok (.istore 6, 2) := by decide +kernel
theorem dX4_suggested_27 : decode cX4_suggested 27 = .ok (.iload 6, 2) := by decide +kernel
theorem dX4_suggested_29 : decode cX4_suggested 29 = .ok (.aload_n 0, 1) := by decide +kernel
theorem dX4_suggested_30 : decode cX4_suggested 30 = .ok (.getfield 63, 3) := by decide +kernel
theorem dX4_suggested_33 : decode cX4_suggested 33 = .ok (.if_icmp .ge 35, 3) := by decide +kernel
theorem dX4_suggested_36 : decode cX4_suggested 36 = .ok (.aload_n 0, 1) := by decide +kernel
theorem dX4_suggested_37 : decode cX4_suggested 37 = .ok (.getfield 31, 3) := by decide +kernel
theorem dX4_suggested_40 : decode cX4_suggested 40 = .ok (.iload 6, 2) := by decide +kernel
theorem dX4_suggested_42 : decode cX4_suggested 42 = .ok (.iaload, 1) := by decide +kernel
theorem dX4_suggested_43 : decode cX4_suggested 43 = .ok (.iload 4, 2) := by decide +kernel
theorem dX4_suggested_45 : decode cX4_suggested 45 = .ok (.if_icmp .ne 13, 3) := by decide +kernel
theorem dX4_suggested_48 : decode cX4_suggested 48 = .ok (.aload_n 0, 1) := by decide +kernel
theorem dX4_suggested_49 : decode cX4_suggested 49 = .ok (.getfield 34, 3) := by decide +kernel
theorem dX4_suggested_52 : decode cX4_suggested 52 = .ok (.iload 6, 2) := by decide +kernel
theorem dX4_suggested_54 : decode cX4_suggested 54 = .ok (.iaload, 1) := by decide +kernel
theorem dX4_suggested_55 : decode cX4_suggested 55 = .ok (.goto 5, 3) := by decide +kernel
theorem dX4_suggested_58 : decode cX4_suggested 58 = .ok (.iload 5, 2) := by decide +kernel
theorem dX4_suggested_60 : decode cX4_suggested 60 = .ok (.istore 5, 2) := by decide +kernel
theorem dX4_suggested_62 : decode cX4_suggested 62 = .ok (.iinc 6 1, 3) := by decide +kernel
theorem dX4_suggested_65 : decode cX4_suggested 65 = .ok (.goto (-38), 3) := by decide +kernel
theorem dX4_suggested_68 : decode cX4_suggested 68 = .ok (.aload_n 0, 1) := by decide +kernel
theorem dX4_suggested_69 : decode cX4_suggested 69 = .ok (.iload 4, 2) := by decide +kernel
theorem dX4_suggested_71 : decode cX4_suggested 71 = .ok (.invokevirtual 126, 3) := by decide +kernel
theorem dX4_suggested_74 : decode cX4_suggested 74 = .ok (.i2l, 1) := by decide +kernel
theorem dX4_suggested_75 : decode cX4_suggested 75 = .ok (.lconst 1, 1) := by decide +kernel
theorem dX4_suggested_76 : decode cX4_suggested 76 = .ok (.ladd, 1) := by decide +kernel
theorem dX4_suggested_77 : decode cX4_suggested 77 = .ok (.aload_n 0, 1) := by decide +kernel
theorem dX4_suggested_78 : decode cX4_suggested 78 = .ok (.getfield 75, 3) := by decide +kernel
theorem dX4_suggested_81 : decode cX4_suggested 81 = .ok (.iload 5, 2) := by decide +kernel
theorem dX4_suggested_83 : decode cX4_suggested 83 = .ok (.isub, 1) := by decide +kernel
theorem dX4_suggested_84 : decode cX4_suggested 84 = .ok (.i2l, 1) := by decide +kernel
theorem dX4_suggested_85 : decode cX4_suggested 85 = .ok (.lmul, 1) := by decide +kernel
theorem dX4_suggested_86 : decode cX4_suggested 86 = .ok (.lstore 6, 2) := by decide +kernel
theorem dX4_suggested_88 : decode cX4_suggested 88 = .ok (.aload_n 0, 1) := by decide +kernel
theorem dX4_suggested_89 : decode cX4_suggested 89 = .ok (.iload 4, 2) := by decide +kernel
theorem dX4_suggested_91 : decode cX4_suggested 91 = .ok (.invokevirtual 92, 3) := by decide +kernel
theorem dX4_suggested_94 : decode cX4_suggested 94 = .ok (.ifCond .ne 14, 3) := by decide +kernel
theorem dX4_suggested_97 : decode cX4_suggested 97 = .ok (.lload 6, 2) := by decide +kernel
theorem dX4_suggested_99 : decode cX4_suggested 99 = .ok (.lload_n 2, 1) := by decide +kernel
theorem dX4_suggested_100 : decode cX4_suggested 100 = .ok (.lcmp, 1) := by decide +kernel
theorem dX4_suggested_101 : decode cX4_suggested 101 = .ok (.ifCond .le 7, 3) := by decide +kernel
theorem dX4_suggested_104 : decode cX4_suggested 104 = .ok (.iconst 1, 1) := by decide +kernel
theorem dX4_suggested_105 : decode cX4_suggested 105 = .ok (.goto 4, 3) := by decide +kernel
theorem dX4_suggested_108 : decode cX4_suggested 108 = .ok (.iconst 0, 1) := by decide +kernel
theorem dX4_suggested_109 : decode cX4_suggested 109 = .ok (.istore 8, 2) := by decide +kernel
theorem dX4_suggested_111 : decode cX4_suggested 111 = .ok (.iload 8, 2) := by decide +kernel
theorem dX4_suggested_113 : decode cX4_suggested 113 = .ok (.ifCond .eq 8, 3) := by decide +kernel
theorem dX4_suggested_116 : decode cX4_suggested 116 = .ok (.iload 4, 2) := by decide +kernel
theorem dX4_suggested_118 : decode cX4_suggested 118 = .ok (.goto 4, 3) := by decide +kernel
theorem dX4_suggested_121 : decode cX4_suggested 121 = .ok (.iload_n 1, 1) := by decide +kernel
theorem dX4_suggested_122 : decode cX4_suggested 122 = .ok (.istore_n 1, 1) := by decide +kernel
theorem dX4_suggested_123 : decode cX4_suggested 123 = .ok (.iload 8, 2) := by decide +kernel
theorem dX4_suggested_125 : decode cX4_suggested 125 = .ok (.ifCond .eq 8, 3) := by decide +kernel
theorem dX4_suggested_128 : decode cX4_suggested 128 = .ok (.lload 6, 2) := by decide +kernel
theorem dX4_suggested_130 : decode cX4_suggested 130 = .ok (.goto 4, 3) := by decide +kernel
theorem dX4_suggested_133 : decode cX4_suggested 133 = .ok (.lload_n 2, 1) := by decide +kernel
theorem dX4_suggested_134 : decode cX4_suggested 134 = .ok (.lstore_n 2, 1) := by decide +kernel
theorem dX4_suggested_135 : decode cX4_suggested 135 = .ok (.iinc 4 1, 3) := by decide +kernel
theorem dX4_suggested_138 : decode cX4_suggested 138 = .ok (.goto (-124), 3) := by decide +kernel
theorem dX4_suggested_141 : decode cX4_suggested 141 = .ok (.iload_n 1, 1) := by decide +kernel
theorem dX4_suggested_142 : decode cX4_suggested 142 = .ok (.ireturn, 1) := by decide +kernel
theorem dX4_sheets_0 : decode cX4_sheets 0 = .ok (.aload_n 0, 1) := by decide +kernel
theorem dX4_sheets_1 : decode cX4_sheets 1 = .ok (.aload_n 0, 1) := by decide +kernel
theorem dX4_sheets_2 : decode cX4_sheets 2 = .ok (.getfield 63, 3) := by decide +kernel
theorem dX4_sheets_5 : decode cX4_sheets 5 = .ok (.invokevirtual 123, 3) := by decide +kernel
theorem dX4_sheets_8 : decode cX4_sheets 8 = .ok (.ireturn, 1) := by decide +kernel
theorem dX4_stateOf_0 : decode cX4_stateOf 0 = .ok (.aload_n 0, 1) := by decide +kernel
theorem dX4_stateOf_1 : decode cX4_stateOf 1 = .ok (.aload_n 0, 1) := by decide +kernel
theorem dX4_stateOf_2 : decode cX4_stateOf 2 = .ok (.iload_n 1, 1) := by decide +kernel
theorem dX4_stateOf_3 : decode cX4_stateOf 3 = .ok (.invokevirtual 95, 3) := by decide +kernel
theorem dX4_stateOf_6 : decode cX4_stateOf 6 = .ok (.iconst 1, 1) := by decide +kernel
theorem dX4_stateOf_7 : decode cX4_stateOf 7 = .ok (.iconst 1, 1) := by decide +kernel
theorem dX4_stateOf_8 : decode cX4_stateOf 8 = .ok (.invokevirtual 70, 3) := by decide +kernel
theorem dX4_stateOf_11 : decode cX4_stateOf 11 = .ok (.ifCond .eq 12, 3) := by decide +kernel
theorem dX4_stateOf_14 : decode cX4_stateOf 14 = .ok (.aload_n 0, 1) := by decide +kernel
theorem dX4_stateOf_15 : decode cX4_stateOf 15 = .ok (.getfield 37, 3) := by decide +kernel
theorem dX4_stateOf_18 : decode cX4_stateOf 18 = .ok (.iload_n 1, 1) := by decide +kernel
theorem dX4_stateOf_19 : decode cX4_stateOf 19 = .ok (.iaload, 1) := by decide +kernel
theorem dX4_stateOf_20 : decode cX4_stateOf 20 = .ok (.goto 4, 3) := by decide +kernel
theorem dX4_stateOf_23 : decode cX4_stateOf 23 = .ok (.iconst 0, 1) := by decide +kernel
theorem dX4_stateOf_24 : decode cX4_stateOf 24 = .ok (.ireturn, 1) := by decide +kernel
theorem dX4_cutOf_0 : decode cX4_cutOf 0 = .ok (.aload_n 0, 1) := by decide +kernel
theorem dX4_cutOf_1 : decode cX4_cutOf 1 = .ok (.aload_n 0, 1) := by decide +kernel
theorem dX4_cutOf_2 : decode cX4_cutOf 2 = .ok (.iload_n 1, 1) := by decide +kernel
theorem dX4_cutOf_3 : decode cX4_cutOf 3 = .ok (.invokevirtual 95, 3) := by decide +kernel
theorem dX4_cutOf_6 : decode cX4_cutOf 6 = .ok (.iconst 1, 1) := by decide +kernel
theorem dX4_cutOf_7 : decode cX4_cutOf 7 = .ok (.iconst 1, 1) := by decide +kernel
theorem dX4_cutOf_8 : decode cX4_cutOf 8 = .ok (.invokevirtual 70, 3) := by decide +kernel
theorem dX4_cutOf_11 : decode cX4_cutOf 11 = .ok (.ifCond .eq 12, 3) := by decide +kernel
theorem dX4_cutOf_14 : decode cX4_cutOf 14 = .ok (.aload_n 0, 1) := by decide +kernel
theorem dX4_cutOf_15 : decode cX4_cutOf 15 = .ok (.getfield 34, 3) := by decide +kernel
theorem dX4_cutOf_18 : decode cX4_cutOf 18 = .ok (.iload_n 1, 1) := by decide +kernel
theorem dX4_cutOf_19 : decode cX4_cutOf 19 = .ok (.iaload, 1) := by decide +kernel
theorem dX4_cutOf_20 : decode cX4_cutOf 20 = .ok (.goto 4, 3) := by decide +kernel
theorem dX4_cutOf_23 : decode cX4_cutOf 23 = .ok (.iconst 0, 1) := by decide +kernel
theorem dX4_cutOf_24 : decode cX4_cutOf 24 = .ok (.ireturn, 1) := by decide +kernel
theorem dX4_counts_0 : decode cX4_counts 0 = .ok (.aload_n 0, 1) := by decide +kernel
theorem dX4_counts_1 : decode cX4_counts 1 = .ok (.aload_n 0, 1) := by decide +kernel
theorem dX4_counts_2 : decode cX4_counts 2 = .ok (.iload_n 1, 1) := by decide +kernel
theorem dX4_counts_3 : decode cX4_counts 3 = .ok (.invokevirtual 95, 3) := by decide +kernel
theorem dX4_counts_6 : decode cX4_counts 6 = .ok (.ifCond .eq 14, 3) := by decide +kernel
theorem dX4_counts_9 : decode cX4_counts 9 = .ok (.iload_n 2, 1) := by decide +kernel
theorem dX4_counts_10 : decode cX4_counts 10 = .ok (.invokestatic 66, 3) := by decide +kernel
theorem dX4_counts_13 : decode cX4_counts 13 = .ok (.ifCond .eq 7, 3) := by decide +kernel
theorem dX4_counts_16 : decode cX4_counts 16 = .ok (.iconst 1, 1) := by decide +kernel
theorem dX4_counts_17 : decode cX4_counts 17 = .ok (.goto 4, 3) := by decide +kernel
theorem dX4_counts_20 : decode cX4_counts 20 = .ok (.iconst 0, 1) := by decide +kernel
theorem dX4_counts_21 : decode cX4_counts 21 = .ok (.iconst 1, 1) := by decide +kernel
theorem dX4_counts_22 : decode cX4_counts 22 = .ok (.iconst 1, 1) := by decide +kernel
theorem dX4_counts_23 : decode cX4_counts 23 = .ok (.invokevirtual 70, 3) := by decide +kernel
theorem dX4_counts_26 : decode cX4_counts 26 = .ok (.ifCond .eq 16, 3) := by decide +kernel
theorem dX4_counts_29 : decode cX4_counts 29 = .ok (.aload_n 0, 1) := by decide +kernel
theorem dX4_counts_30 : decode cX4_counts 30 = .ok (.getfield 40, 3) := by decide +kernel
theorem dX4_counts_33 : decode cX4_counts 33 = .ok (.iload_n 1, 1) := by decide +kernel
theorem dX4_counts_34 : decode cX4_counts 34 = .ok (.iload_n 2, 1) := by decide +kernel
theorem dX4_counts_35 : decode cX4_counts 35 = .ok (.invokestatic 81, 3) := by decide +kernel
theorem dX4_counts_38 : decode cX4_counts 38 = .ok (.iaload, 1) := by decide +kernel
theorem dX4_counts_39 : decode cX4_counts 39 = .ok (.goto 4, 3) := by decide +kernel
theorem dX4_counts_42 : decode cX4_counts 42 = .ok (.iconst 0, 1) := by decide +kernel
theorem dX4_counts_43 : decode cX4_counts 43 = .ok (.ireturn, 1) := by decide +kernel
theorem dX4_agreed_0 : decode cX4_agreed 0 = .ok (.aload_n 0, 1) := by decide +kernel
theorem dX4_agreed_1 : decode cX4_agreed 1 = .ok (.aload_n 0, 1) := by decide +kernel
theorem dX4_agreed_2 : decode cX4_agreed 2 = .ok (.iload_n 1, 1) := by decide +kernel
theorem dX4_agreed_3 : decode cX4_agreed 3 = .ok (.invokevirtual 95, 3) := by decide +kernel
theorem dX4_agreed_6 : decode cX4_agreed 6 = .ok (.ifCond .eq 14, 3) := by decide +kernel
theorem dX4_agreed_9 : decode cX4_agreed 9 = .ok (.iload_n 2, 1) := by decide +kernel
theorem dX4_agreed_10 : decode cX4_agreed 10 = .ok (.invokestatic 66, 3) := by decide +kernel
theorem dX4_agreed_13 : decode cX4_agreed 13 = .ok (.ifCond .eq 7, 3) := by decide +kernel
theorem dX4_agreed_16 : decode cX4_agreed 16 = .ok (.iconst 1, 1) := by decide +kernel
theorem dX4_agreed_17 : decode cX4_agreed 17 = .ok (.goto 4, 3) := by decide +kernel
theorem dX4_agreed_20 : decode cX4_agreed 20 = .ok (.iconst 0, 1) := by decide +kernel
theorem dX4_agreed_21 : decode cX4_agreed 21 = .ok (.iconst 1, 1) := by decide +kernel
theorem dX4_agreed_22 : decode cX4_agreed 22 = .ok (.iconst 1, 1) := by decide +kernel
theorem dX4_agreed_23 : decode cX4_agreed 23 = .ok (.invokevirtual 70, 3) := by decide +kernel
theorem dX4_agreed_26 : decode cX4_agreed 26 = .ok (.ifCond .eq 15, 3) := by decide +kernel
theorem dX4_agreed_29 : decode cX4_agreed 29 = .ok (.aload_n 0, 1) := by decide +kernel
theorem dX4_agreed_30 : decode cX4_agreed 30 = .ok (.iload_n 1, 1) := by decide +kernel
theorem dX4_agreed_31 : decode cX4_agreed 31 = .ok (.iload_n 2, 1) := by decide +kernel
theorem dX4_agreed_32 : decode cX4_agreed 32 = .ok (.invokestatic 81, 3) := by decide +kernel
theorem dX4_agreed_35 : decode cX4_agreed 35 = .ok (.invokevirtual 85, 3) := by decide +kernel
theorem dX4_agreed_38 : decode cX4_agreed 38 = .ok (.goto 4, 3) := by decide +kernel
theorem dX4_agreed_41 : decode cX4_agreed 41 = .ok (.iconst 0, 1) := by decide +kernel
theorem dX4_agreed_42 : decode cX4_agreed 42 = .ok (.ireturn, 1) := by decide +kernel
theorem dX4_gap_0 : decode cX4_gap 0 = .ok (.aload_n 0, 1) := by decide +kernel
theorem dX4_gap_1 : decode cX4_gap 1 = .ok (.iload_n 1, 1) := by decide +kernel
theorem dX4_gap_2 : decode cX4_gap 2 = .ok (.invokevirtual 95, 3) := by decide +kernel
theorem dX4_gap_5 : decode cX4_gap 5 = .ok (.ifCond .eq 14, 3) := by decide +kernel
theorem dX4_gap_8 : decode cX4_gap 8 = .ok (.iload_n 2, 1) := by decide +kernel
theorem dX4_gap_9 : decode cX4_gap 9 = .ok (.invokestatic 66, 3) := by decide +kernel
theorem dX4_gap_12 : decode cX4_gap 12 = .ok (.ifCond .eq 7, 3) := by decide +kernel
theorem dX4_gap_15 : decode cX4_gap 15 = .ok (.iconst 1, 1) := by decide +kernel
theorem dX4_gap_16 : decode cX4_gap 16 = .ok (.goto 4, 3) := by decide +kernel
theorem dX4_gap_19 : decode cX4_gap 19 = .ok (.iconst 0, 1) := by decide +kernel
theorem dX4_gap_20 : decode cX4_gap 20 = .ok (.istore_n 3, 1) := by decide +kernel
theorem dX4_gap_21 : decode cX4_gap 21 = .ok (.aload_n 0, 1) := by decide +kernel
theorem dX4_gap_22 : decode cX4_gap 22 = .ok (.iload_n 3, 1) := by decide +kernel
theorem dX4_gap_23 : decode cX4_gap 23 = .ok (.iload_n 3, 1) := by decide +kernel
theorem dX4_gap_24 : decode cX4_gap 24 = .ok (.ifCond .eq 16, 3) := by decide +kernel
theorem dX4_gap_27 : decode cX4_gap 27 = .ok (.aload_n 0, 1) := by decide +kernel
theorem dX4_gap_28 : decode cX4_gap 28 = .ok (.iload_n 1, 1) := by decide +kernel
theorem dX4_gap_29 : decode cX4_gap 29 = .ok (.iload_n 2, 1) := by decide +kernel
theorem dX4_gap_30 : decode cX4_gap 30 = .ok (.invokevirtual 110, 3) := by decide +kernel
theorem dX4_gap_33 : decode cX4_gap 33 = .ok (.ifCond .eq 7, 3) := by decide +kernel
theorem dX4_gap_36 : decode cX4_gap 36 = .ok (.iconst 1, 1) := by decide +kernel
theorem dX4_gap_37 : decode cX4_gap 37 = .ok (.goto 4, 3) := by decide +kernel
theorem dX4_gap_40 : decode cX4_gap 40 = .ok (.iconst 0, 1) := by decide +kernel
theorem dX4_gap_41 : decode cX4_gap 41 = .ok (.iconst 1, 1) := by decide +kernel
theorem dX4_gap_42 : decode cX4_gap 42 = .ok (.invokevirtual 70, 3) := by decide +kernel
theorem dX4_gap_45 : decode cX4_gap 45 = .ok (.ifCond .eq 12, 3) := by decide +kernel
theorem dX4_gap_48 : decode cX4_gap 48 = .ok (.aload_n 0, 1) := by decide +kernel
theorem dX4_gap_49 : decode cX4_gap 49 = .ok (.iload_n 1, 1) := by decide +kernel
theorem dX4_gap_50 : decode cX4_gap 50 = .ok (.iload_n 2, 1) := by decide +kernel
theorem dX4_gap_51 : decode cX4_gap 51 = .ok (.invokevirtual 113, 3) := by decide +kernel
theorem dX4_gap_54 : decode cX4_gap 54 = .ok (.goto 4, 3) := by decide +kernel
theorem dX4_gap_57 : decode cX4_gap 57 = .ok (.iconst 0, 1) := by decide +kernel
theorem dX4_gap_58 : decode cX4_gap 58 = .ok (.ireturn, 1) := by decide +kernel
theorem dX4_isSigned_0 : decode cX4_isSigned 0 = .ok (.aload_n 0, 1) := by decide +kernel
theorem dX4_isSigned_1 : decode cX4_isSigned 1 = .ok (.aload_n 0, 1) := by decide +kernel
theorem dX4_isSigned_2 : decode cX4_isSigned 2 = .ok (.iload_n 1, 1) := by decide +kernel
theorem dX4_isSigned_3 : decode cX4_isSigned 3 = .ok (.invokevirtual 95, 3) := by decide +kernel
theorem dX4_isSigned_6 : decode cX4_isSigned 6 = .ok (.ifCond .eq 14, 3) := by decide +kernel
theorem dX4_isSigned_9 : decode cX4_isSigned 9 = .ok (.iload_n 2, 1) := by decide +kernel
theorem dX4_isSigned_10 : decode cX4_isSigned 10 = .ok (.invokestatic 66, 3) := by decide +kernel
theorem dX4_isSigned_13 : decode cX4_isSigned 13 = .ok (.ifCond .eq 7, 3) := by decide +kernel
theorem dX4_isSigned_16 : decode cX4_isSigned 16 = .ok (.iconst 1, 1) := by decide +kernel
theorem dX4_isSigned_17 : decode cX4_isSigned 17 = .ok (.goto 4, 3) := by decide +kernel
theorem dX4_isSigned_20 : decode cX4_isSigned 20 = .ok (.iconst 0, 1) := by decide +kernel
theorem dX4_isSigned_21 : decode cX4_isSigned 21 = .ok (.iconst 1, 1) := by decide +kernel
theorem dX4_isSigned_22 : decode cX4_isSigned 22 = .ok (.iconst 1, 1) := by decide +kernel
theorem dX4_isSigned_23 : decode cX4_isSigned 23 = .ok (.invokevirtual 70, 3) := by decide +kernel
theorem dX4_isSigned_26 : decode cX4_isSigned 26 = .ok (.ifCond .eq 20, 3) := by decide +kernel
theorem dX4_isSigned_29 : decode cX4_isSigned 29 = .ok (.aload_n 0, 1) := by decide +kernel
theorem dX4_isSigned_30 : decode cX4_isSigned 30 = .ok (.getfield 43, 3) := by decide +kernel
theorem dX4_isSigned_33 : decode cX4_isSigned 33 = .ok (.iload_n 1, 1) := by decide +kernel
theorem dX4_isSigned_34 : decode cX4_isSigned 34 = .ok (.iload_n 2, 1) := by decide +kernel
theorem dX4_isSigned_35 : decode cX4_isSigned 35 = .ok (.invokestatic 81, 3) := by decide +kernel
theorem dX4_isSigned_38 : decode cX4_isSigned 38 = .ok (.iaload, 1) := by decide +kernel
theorem dX4_isSigned_39 : decode cX4_isSigned 39 = .ok (.ifCond .le 7, 3) := by decide +kernel
theorem dX4_isSigned_42 : decode cX4_isSigned 42 = .ok (.iconst 1, 1) := by decide +kernel
theorem dX4_isSigned_43 : decode cX4_isSigned 43 = .ok (.goto 4, 3) := by decide +kernel
theorem dX4_isSigned_46 : decode cX4_isSigned 46 = .ok (.iconst 0, 1) := by decide +kernel
theorem dX4_isSigned_47 : decode cX4_isSigned 47 = .ok (.ireturn, 1) := by decide +kernel
theorem dX4_likely_0 : decode cX4_likely 0 = .ok (.aload_n 0, 1) := by decide +kernel
theorem dX4_likely_1 : decode cX4_likely 1 = .ok (.aload_n 0, 1) := by decide +kernel
theorem dX4_likely_2 : decode cX4_likely 2 = .ok (.iload_n 1, 1) := by decide +kernel
theorem dX4_likely_3 : decode cX4_likely 3 = .ok (.invokevirtual 95, 3) := by decide +kernel
theorem dX4_likely_6 : decode cX4_likely 6 = .ok (.ifCond .eq 14, 3) := by decide +kernel
theorem dX4_likely_9 : decode cX4_likely 9 = .ok (.iload_n 2, 1) := by decide +kernel
theorem dX4_likely_10 : decode cX4_likely 10 = .ok (.invokestatic 66, 3) := by decide +kernel
theorem dX4_likely_13 : decode cX4_likely 13 = .ok (.ifCond .eq 7, 3) := by decide +kernel
theorem dX4_likely_16 : decode cX4_likely 16 = .ok (.iconst 1, 1) := by decide +kernel
theorem dX4_likely_17 : decode cX4_likely 17 = .ok (.goto 4, 3) := by decide +kernel
theorem dX4_likely_20 : decode cX4_likely 20 = .ok (.iconst 0, 1) := by decide +kernel
theorem dX4_likely_21 : decode cX4_likely 21 = .ok (.iconst 1, 1) := by decide +kernel
theorem dX4_likely_22 : decode cX4_likely 22 = .ok (.iconst 1, 1) := by decide +kernel
theorem dX4_likely_23 : decode cX4_likely 23 = .ok (.invokevirtual 70, 3) := by decide +kernel
theorem dX4_likely_26 : decode cX4_likely 26 = .ok (.ifCond .ne 5, 3) := by decide +kernel
theorem dX4_likely_29 : decode cX4_likely 29 = .ok (.iconst 0, 1) := by decide +kernel
theorem dX4_likely_30 : decode cX4_likely 30 = .ok (.ireturn, 1) := by decide +kernel
theorem dX4_likely_31 : decode cX4_likely 31 = .ok (.iconst (-1), 1) := by decide +kernel
theorem dX4_likely_32 : decode cX4_likely 32 = .ok (.istore_n 3, 1) := by decide +kernel
theorem dX4_likely_33 : decode cX4_likely 33 = .ok (.aload_n 0, 1) := by decide +kernel
theorem dX4_likely_34 : decode cX4_likely 34 = .ok (.getfield 63, 3) := by decide +kernel
theorem dX4_likely_37 : decode cX4_likely 37 = .ok (.iconst 1, 1) := by decide +kernel
theorem dX4_likely_38 : decode cX4_likely 38 = .ok (.isub, 1) := by decide +kernel
theorem dX4_likely_39 : decode cX4_likely 39 = .ok (.istore 4, 2) := by decide +kernel
theorem dX4_likely_41 : decode cX4_likely 41 = .ok (.iload 4, 2) := by decide +kernel
theorem dX4_likely_43 : decode cX4_likely 43 = .ok (.ifCond .lt 58, 3) := by decide +kernel
theorem dX4_likely_46 : decode cX4_likely 46 = .ok (.aload_n 0, 1) := by decide +kernel
theorem dX4_likely_47 : decode cX4_likely 47 = .ok (.iload_n 1, 1) := by decide +kernel
theorem dX4_likely_48 : decode cX4_likely 48 = .ok (.iload_n 2, 1) := by decide +kernel
theorem dX4_likely_49 : decode cX4_likely 49 = .ok (.invokevirtual 110, 3) := by decide +kernel
theorem dX4_likely_52 : decode cX4_likely 52 = .ok (.ifCond .eq 28, 3) := by decide +kernel
theorem dX4_likely_55 : decode cX4_likely 55 = .ok (.aload_n 0, 1) := by decide +kernel
theorem dX4_likely_56 : decode cX4_likely 56 = .ok (.iload 4, 2) := by decide +kernel
theorem dX4_likely_58 : decode cX4_likely 58 = .ok (.iload_n 2, 1) := by decide +kernel
theorem dX4_likely_59 : decode cX4_likely 59 = .ok (.invokevirtual 110, 3) := by decide +kernel
theorem dX4_likely_62 : decode cX4_likely 62 = .ok (.ifCond .eq 18, 3) := by decide +kernel
theorem dX4_likely_65 : decode cX4_likely 65 = .ok (.aload_n 0, 1) := by decide +kernel
theorem dX4_likely_66 : decode cX4_likely 66 = .ok (.iload_n 1, 1) := by decide +kernel
theorem dX4_likely_67 : decode cX4_likely 67 = .ok (.iload 4, 2) := by decide +kernel
theorem dX4_likely_69 : decode cX4_likely 69 = .ok (.iload_n 2, 1) := by decide +kernel
theorem dX4_likely_70 : decode cX4_likely 70 = .ok (.invokevirtual 120, 3) := by decide +kernel
theorem dX4_likely_73 : decode cX4_likely 73 = .ok (.ifCond .eq 7, 3) := by decide +kernel
theorem dX4_likely_76 : decode cX4_likely 76 = .ok (.iconst 1, 1) := by decide +kernel
theorem dX4_likely_77 : decode cX4_likely 77 = .ok (.goto 4, 3) := by decide +kernel
theorem dX4_likely_80 : decode cX4_likely 80 = .ok (.iconst 0, 1) := by decide +kernel
theorem dX4_likely_81 : decode cX4_likely 81 = .ok (.istore 5, 2) := by decide +kernel
theorem dX4_likely_83 : decode cX4_likely 83 = .ok (.iload 5, 2) := by decide +kernel
theorem dX4_likely_85 : decode cX4_likely 85 = .ok (.ifCond .eq 8, 3) := by decide +kernel
theorem dX4_likely_88 : decode cX4_likely 88 = .ok (.iload 4, 2) := by decide +kernel
theorem dX4_likely_90 : decode cX4_likely 90 = .ok (.goto 4, 3) := by decide +kernel
theorem dX4_likely_93 : decode cX4_likely 93 = .ok (.iload_n 3, 1) := by decide +kernel
theorem dX4_likely_94 : decode cX4_likely 94 = .ok (.istore_n 3, 1) := by decide +kernel
theorem dX4_likely_95 : decode cX4_likely 95 = .ok (.iinc 4 (-1), 3) := by decide +kernel
theorem dX4_likely_98 : decode cX4_likely 98 = .ok (.goto (-57), 3) := by decide +kernel
theorem dX4_likely_101 : decode cX4_likely 101 = .ok (.iload_n 3, 1) := by decide +kernel
theorem dX4_likely_102 : decode cX4_likely 102 = .ok (.ireturn, 1) := by decide +kernel
theorem dX4_exact_0 : decode cX4_exact 0 = .ok (.aload_n 0, 1) := by decide +kernel
theorem dX4_exact_1 : decode cX4_exact 1 = .ok (.iload_n 1, 1) := by decide +kernel
theorem dX4_exact_2 : decode cX4_exact 2 = .ok (.iconst 0, 1) := by decide +kernel
theorem dX4_exact_3 : decode cX4_exact 3 = .ok (.iconst 2, 1) := by decide +kernel
theorem dX4_exact_4 : decode cX4_exact 4 = .ok (.invokestatic 59, 3) := by decide +kernel
theorem dX4_exact_7 : decode cX4_exact 7 = .ok (.iconst 1, 1) := by decide +kernel
theorem dX4_exact_8 : decode cX4_exact 8 = .ok (.iconst 1, 1) := by decide +kernel
theorem dX4_exact_9 : decode cX4_exact 9 = .ok (.invokevirtual 70, 3) := by decide +kernel
theorem dX4_exact_12 : decode cX4_exact 12 = .ok (.ifCond .ne 5, 3) := by decide +kernel
theorem dX4_exact_15 : decode cX4_exact 15 = .ok (.iconst 0, 1) := by decide +kernel
theorem dX4_exact_16 : decode cX4_exact 16 = .ok (.ireturn, 1) := by decide +kernel
theorem dX4_exact_17 : decode cX4_exact 17 = .ok (.iconst 0, 1) := by decide +kernel
theorem dX4_exact_18 : decode cX4_exact 18 = .ok (.istore_n 2, 1) := by decide +kernel
theorem dX4_exact_19 : decode cX4_exact 19 = .ok (.iconst 0, 1) := by decide +kernel
theorem dX4_exact_20 : decode cX4_exact 20 = .ok (.istore_n 3, 1) := by decide +kernel
theorem dX4_exact_21 : decode cX4_exact 21 = .ok (.iconst 0, 1) := by decide +kernel
theorem dX4_exact_22 : decode cX4_exact 22 = .ok (.istore 4, 2) := by decide +kernel
theorem dX4_exact_24 : decode cX4_exact 24 = .ok (.iload 4, 2) := by decide +kernel
theorem dX4_exact_26 : decode cX4_exact 26 = .ok (.iconst 5, 1) := by decide +kernel
theorem dX4_exact_27 : decode cX4_exact 27 = .ok (.aload_n 0, 1) := by decide +kernel
theorem dX4_exact_28 : decode cX4_exact 28 = .ok (.getfield 63, 3) := by decide +kernel
theorem dX4_exact_31 : decode cX4_exact 31 = .ok (.imul, 1) := by decide +kernel
theorem dX4_exact_32 : decode cX4_exact 32 = .ok (.if_icmp .ge 55, 3) := by decide +kernel
theorem dX4_exact_35 : decode cX4_exact 35 = .ok (.aload_n 0, 1) := by decide +kernel
theorem dX4_exact_36 : decode cX4_exact 36 = .ok (.getfield 43, 3) := by decide +kernel
theorem dX4_exact_39 : decode cX4_exact 39 = .ok (.iload 4, 2) := by decide +kernel
theorem dX4_exact_41 : decode cX4_exact 41 = .ok (.iaload, 1) := by decide +kernel
theorem dX4_exact_42 : decode cX4_exact 42 = .ok (.ifCond .le 39, 3) := by decide +kernel
theorem dX4_exact_45 : decode cX4_exact 45 = .ok (.aload_n 0, 1) := by decide +kernel
theorem dX4_exact_46 : decode cX4_exact 46 = .ok (.getfield 31, 3) := by decide +kernel
theorem dX4_exact_49 : decode cX4_exact 49 = .ok (.iload 4, 2) := by decide +kernel
theorem dX4_exact_51 : decode cX4_exact 51 = .ok (.iconst 5, 1) := by decide +kernel
theorem dX4_exact_52 : decode cX4_exact 52 = .ok (.idiv, 1) := by decide +kernel
theorem dX4_exact_53 : decode cX4_exact 53 = .ok (.iaload, 1) := by decide +kernel
theorem dX4_exact_54 : decode cX4_exact 54 = .ok (.iconst 4, 1) := by decide +kernel
theorem dX4_exact_55 : decode cX4_exact 55 = .ok (.idiv, 1) := by decide +kernel
theorem dX4_exact_56 : decode cX4_exact 56 = .ok (.iload_n 1, 1) := by decide +kernel
theorem dX4_exact_57 : decode cX4_exact 57 = .ok (.if_icmp .ne 24, 3) := by decide +kernel
theorem dX4_exact_60 : decode cX4_exact 60 = .ok (.iinc 2 1, 3) := by decide +kernel
theorem dX4_exact_63 : decode cX4_exact 63 = .ok (.iload_n 3, 1) := by decide +kernel
theorem dX4_exact_64 : decode cX4_exact 64 = .ok (.aload_n 0, 1) := by decide +kernel
theorem dX4_exact_65 : decode cX4_exact 65 = .ok (.getfield 46, 3) := by decide +kernel
theorem dX4_exact_68 : decode cX4_exact 68 = .ok (.iload 4, 2) := by decide +kernel
theorem dX4_exact_70 : decode cX4_exact 70 = .ok (.iaload, 1) := by decide +kernel
theorem dX4_exact_71 : decode cX4_exact 71 = .ok (.ifCond .ne 7, 3) := by decide +kernel
theorem dX4_exact_74 : decode cX4_exact 74 = .ok (.iconst 1, 1) := by decide +kernel
theorem dX4_exact_75 : decode cX4_exact 75 = .ok (.goto 4, 3) := by decide +kernel
theorem dX4_exact_78 : decode cX4_exact 78 = .ok (.iconst 0, 1) := by decide +kernel
theorem dX4_exact_79 : decode cX4_exact 79 = .ok (.iadd, 1) := by decide +kernel
theorem dX4_exact_80 : decode cX4_exact 80 = .ok (.istore_n 3, 1) := by decide +kernel
theorem dX4_exact_81 : decode cX4_exact 81 = .ok (.iinc 4 1, 3) := by decide +kernel
theorem dX4_exact_84 : decode cX4_exact 84 = .ok (.goto (-60), 3) := by decide +kernel
theorem dX4_exact_87 : decode cX4_exact 87 = .ok (.iload_n 2, 1) := by decide +kernel
theorem dX4_exact_88 : decode cX4_exact 88 = .ok (.ifCond .ne 7, 3) := by decide +kernel
theorem dX4_exact_91 : decode cX4_exact 91 = .ok (.iconst (-1), 1) := by decide +kernel
theorem dX4_exact_92 : decode cX4_exact 92 = .ok (.goto 10, 3) := by decide +kernel
theorem dX4_exact_95 : decode cX4_exact 95 = .ok (.sipush 1000, 3) := by decide +kernel
theorem dX4_exact_98 : decode cX4_exact 98 = .ok (.iload_n 3, 1) := by decide +kernel
theorem dX4_exact_99 : decode cX4_exact 99 = .ok (.imul, 1) := by decide +kernel
theorem dX4_exact_100 : decode cX4_exact 100 = .ok (.iload_n 2, 1) := by decide +kernel
theorem dX4_exact_101 : decode cX4_exact 101 = .ok (.idiv, 1) := by decide +kernel
theorem dX4_exact_102 : decode cX4_exact 102 = .ok (.ireturn, 1) := by decide +kernel
end
section
/-! THE GROUND: the good words of the tables, what holds of a state's tables, pictures of the class and of the model, rows -/
def big : List Cond := lw_tbl.filter goodWord
theorem big_i {w : Cond} (i : Nat) (h : lw_tbl[i]? = some w) (hg : goodWord w = true) : w ∈ big := List.mem_filter.mpr ⟨List.mem_of_getElem? h, hg⟩
theorem big_good {w : Cond} (h : w ∈ big) : w ∈ big ∧ ((w.onTables && w.keeps) = true ∨ ∃ ty, w = .arrayClass ty) := ⟨h, good_of_word (List.mem_filter.mp h).2⟩
/-- the tables are the law's start's, but for what has been resolved since -/
def GL (U : State) : Prop := ∃ (s0 : State) (a0 : Array Value), (∀ w ∈ lw_tbl, w.before a0 s0 = true) ∧ (Jvm.Cond.and given_1 narrow_1).before a0 s0 = true ∧ s0.WarmedH U.vm
theorem GL.warm {s U : State} (h : GL s) (hW : s.WarmedH U.vm) : GL U := by
  obtain ⟨s0, a0, h1, h2, h3⟩ := h
  exact ⟨s0, a0, h1, h2, State.WarmedH.trans h3 hW⟩
theorem GL.words {U : State} {a : Array Value} (h : GL U) : ∀ w ∈ big, w.before a U = true := by
  obtain ⟨s0, a0, h1, h2, h3⟩ := h
  intro w hw
  obtain ⟨hm, hg⟩ := List.mem_filter.mp hw
  exact word_at h3 (good_of_word hg) (h1 w hm)
theorem GL.face {U : State} {a : Array Value} {w : Cond} (h : GL U) (hm : w ∈ lw_tbl) (hk : (w.onTables && w.keepsFace) = true) : w.before a U = true := by
  obtain ⟨s0, a0, h1, h2, h3⟩ := h
  simp only [Bool.and_eq_true] at hk
  have h4 := Cond.before_shiftedFace (State.Shifted.of_warmed h3) w hk.2 (h1 w hm)
  exact va_tabs hk.1 (u := s0.setVm U.vm) rfl h4
theorem GL.nestM {U : State} {a : String} {i : Nat} {x : MethodName} {h : String} (hG : GL U) (hm : Cond.methodLinkNest a i x h ∈ lw_tbl) : va_Nw (.methodLinkNest a i x h) U := by
  obtain ⟨s0, a0, h1, h2, h3⟩ := hG
  exact va_Nw.warmM h3 (va_Nw.of rfl (h1 _ hm))
theorem GL.nestF {U : State} {a : String} {i : Nat} {b n d h : String} (hG : GL U) (hm : Cond.fieldLinkNest a i b n d h ∈ lw_tbl) : va_Nw (.fieldLinkNest a i b n d h) U := by
  obtain ⟨s0, a0, h1, h2, h3⟩ := hG
  exact va_Nw.warmF h3 (va_Nw.of rfl (h1 _ hm))
theorem GL.str {U : State} {own tx : String} {k : Nat} {c : ClassId} (hG : GL U) (hown : U.vm.findClass own = some c) (hm : Cond.stringRef own k tx ∈ lw_tbl) : ∃ sa, vk_R own k tx sa U := by
  obtain ⟨s0, a0, h1, h2, h3⟩ := hG
  have hs := h1 _ hm
  have hown0 : s0.vm.findClass own = some c := by rw [← h3.alike.findClass]; exact hown
  obtain ⟨k', cf, i, sa, -, -, -, -, -, hev⟩ := Cond.stringRef_spec hown0 hs
  exact ⟨sa, (vk_R.of (A := a0) hs hev).warm h3⟩
theorem GL.nc {U : State} {C T : String} (hG : GL U) (hm : Cond.not (.castable C T) ∈ flatC (Jvm.Cond.and given_1 narrow_1)) : va_Nc C T U := by
  obtain ⟨s0, a0, h1, h2, h3⟩ := hG
  exact (va_Nc.of (flat_of_before _ h2 _ hm)).moved h3.alike
abbrev vwCl : List vw_C := [(RX0, TX0, 7), (RX1, TX1, 6), (RX2, TX2, 4), (RX3, TX3, 6), (RX4, TX4, 20)]
/-- class numbers and slots of objects; the classes int[], boolean[], long[] -/
abbrev kG : Type := va_G × ClassId × ClassId × ClassId
def kTys (G : kG) : List (ClassId × FieldType) := [(G.2.1, .int), (G.2.2.1, .boolean), (G.2.2.2, .long)]
def KK (G : kG) (U : State) : Prop := va_K G.1 vwCl (kTys G) U ∧ GL U
theorem KK.warm {G : kG} {s U : State} (h : KK G s) (hW : s.WarmedH U.vm) : KK G U := ⟨h.1.moved hW.alike, h.2.warm hW⟩
/-- the class's cells: at a 0 the object, at a 1, a 2 prices and bounds, at a 3, a 4, a 5 the three row objects, then their arrays -/
def wX (G : kG) (a : Nat → Nat) (S : Nat → Nat → Int32) : va_W :=
  [(a 0, .inr (3, [.ref (a 1), .ref (a 2), .ref (a 3), .ref (a 4), .ref (a 5), .int (S 16 0)])),
   (a 1, .inl (G.2.1, 5, .inl (S 0))), (a 2, .inl (G.2.1, 6, .inl (S 1))),
   (a 3, .inr (1, [.ref (a 6), .ref (a 7), .ref (a 8), .ref (a 9), .ref (a 10), .int (S 17 0)])),
   (a 4, .inr (2, [.ref (a 11), .ref (a 12), .ref (a 13), .int (S 18 0)])),
   (a 5, .inr (0, [.ref (a 14), .ref (a 15), .ref (a 16), .ref (a 17), .ref (a 18), .ref (a 19), .int (S 19 0)])),
   (a 6, .inl (G.2.1, 200, .inl (S 2))), (a 7, .inl (G.2.1, 200, .inl (S 3))), (a 8, .inl (G.2.1, 200, .inl (S 4))), (a 9, .inl (G.2.1, 200, .inl (S 5))), (a 10, .inl (G.2.1, 200, .inl (S 6))),
   (a 11, .inl (G.2.1, 40, .inl (S 7))), (a 12, .inl (G.2.1, 40, .inl (S 8))), (a 13, .inl (G.2.2.1, 40, .inl (S 9))),
   (a 14, .inl (G.2.1, 200, .inl (S 10))), (a 15, .inl (G.2.1, 200, .inl (S 11))), (a 16, .inl (G.2.1, 200, .inl (S 12))), (a 17, .inl (G.2.1, 200, .inl (S 13))), (a 18, .inl (G.2.1, 200, .inl (S 14))), (a 19, .inl (G.2.1, 200, .inl (S 15)))]
/-- the model's cells: at a 0 the object, then its arrays -/
def wM (G : kG) (a : Nat → Nat) (S : Nat → Nat → Int32) : va_W :=
  [(a 0, .inr (4, [.int (S 16 0), .ref (a 1), .ref (a 2), .int (S 17 0), .ref (a 3), .ref (a 4), .ref (a 5), .ref (a 6), .ref (a 7), .int (S 18 0), .ref (a 8), .ref (a 9), .ref (a 10), .ref (a 11), .ref (a 12), .ref (a 13), .int (S 19 0), .ref (a 14), .ref (a 15), .int (S 23 0)])),
   (a 1, .inl (G.2.1, 5, .inl (S 0))), (a 2, .inl (G.2.1, 6, .inl (S 1))),
   (a 3, .inl (G.2.1, 200, .inl (S 2))), (a 4, .inl (G.2.1, 200, .inl (S 3))), (a 5, .inl (G.2.1, 200, .inl (S 4))), (a 6, .inl (G.2.1, 200, .inl (S 5))), (a 7, .inl (G.2.1, 200, .inl (S 6))),
   (a 8, .inl (G.2.1, 40, .inl (S 7))), (a 9, .inl (G.2.1, 40, .inl (S 8))), (a 10, .inl (G.2.1, 40, .inl (S 9))),
   (a 11, .inl (G.2.1, 200, .inl (S 20))), (a 12, .inl (G.2.1, 200, .inl (S 14))), (a 13, .inl (G.2.1, 200, .inl (S 15))),
   (a 14, .inl (G.2.1, 600, .inl (S 21))), (a 15, .inl (G.2.1, 600, .inl (S 22)))]
/-- place i of row k holds x now -/
def su (S : Nat → Nat → Int32) (k i : Nat) (x : Int32) : Nat → Nat → Int32 := fun k' => bif k'.beq k then upd (S k) i x else S k'
def PX (G : kG) (a : Nat → Nat) (S : Nat → Nat → Int32) (U : State) (H : Heap) : Prop := va_P G.1 vwCl (wX G a S) H ∧ KK G U
def PM (G : kG) (a : Nat → Nat) (S : Nat → Nat → Int32) (U : State) (H : Heap) : Prop := va_P G.1 vwCl (wM G a S) H ∧ KK G U
/-- n addresses, apart, all of a kind -/
def DD (n : Nat) (A : Nat → Prop) (a : Nat → Nat) : Prop := (∀ i j, i < n → j < n → a i = a j → i = j) ∧ ∀ i, i < n → A (a i)
theorem DD.w {n : Nat} {A : Nat → Prop} {a : Nat → Nat} {ws : va_W} (h : DD n A a) (hw : ws.map (fun q => q.1) = (List.range n).map a) : va_D A ws := by
  have key : ∀ (k : Nat) (q : Nat × va_E), ws[k]? = some q → k < n ∧ q.1 = a k := by
    intro k q hk
    have h1 : (ws.map (fun q => q.1))[k]? = some q.1 := by rw [List.getElem?_map, hk]; rfl
    rw [hw, List.getElem?_map] at h1
    by_cases hn : k < n
    · rw [List.getElem?_range hn] at h1
      exact ⟨hn, (Option.some.inj h1).symm⟩
    · rw [List.getElem?_eq_none (by simp; omega)] at h1
      cases h1
  refine ⟨fun i j x y hi hj hxy => ?_, fun k q hk => ?_⟩
  · obtain ⟨h1, h2⟩ := key i x hi
    obtain ⟨h3, h4⟩ := key j y hj
    exact h.1 i j h1 h3 (by rw [← h2, ← h4]; exact hxy)
  · obtain ⟨h1, h2⟩ := key k q hk
    rw [h2]; exact h.2 k h1
theorem wX_fst (G : kG) (a : Nat → Nat) (S : Nat → Nat → Int32) : (wX G a S).map (fun q => q.1) = (List.range 20).map a := rfl
theorem wM_fst (G : kG) (a : Nat → Nat) (S : Nat → Nat → Int32) : (wM G a S).map (fun q => q.1) = (List.range 16).map a := rfl
theorem PX.warm {G : kG} {a : Nat → Nat} {S : Nat → Nat → Int32} {s U : State} {H : Heap} (h : PX G a S s H) (hW : s.WarmedH U.vm) : PX G a S U H := ⟨h.1, h.2.warm hW⟩
theorem PM.warm {G : kG} {a : Nat → Nat} {S : Nat → Nat → Int32} {s U : State} {H : Heap} (h : PM G a S s H) (hW : s.WarmedH U.vm) : PM G a S U H := ⟨h.1, h.2.warm hW⟩
/-- what a throw reads of the class Throwable -/
def ZS (U : State) (H : Heap) : Prop := vx_Zq Bundle.tN "UNASSIGNED_STACK" Bundle.steD (fun _ => False) U H ∧ vx_Zq Bundle.tN "SUPPRESSED_SENTINEL" Bundle.listD (fun _ => False) U H
theorem ZS.warm {s U : State} {H : Heap} (h : ZS s H) (hW : s.WarmedH U.vm) : ZS U H := ⟨vx_Zq.moved hW.alike h.1, vx_Zq.moved hW.alike h.2⟩
/-- a start's words that only the heap and the tables decide -/
def kBl (B : State → Prop) : Prop := ∀ U U' : State, U'.heap = U.heap → U'.vm = U.vm → B U → B U'
theorem kBl.blind {av : List Value} {B : State → Prop} (h : kBl B) : FrameBlind (va_Pc av B) := fun _ U _ _ q => ⟨q.1, h U _ rfl rfl q.2⟩
theorem warm_vm {U U' : State} (h : U'.vm = U.vm) : U.WarmedH U'.vm := by rw [h]; exact State.WarmedH.refl U
theorem bl_PX {G : kG} {a : Nat → Nat} {S : Nat → Nat → Int32} : kBl (fun U => PX G a S U U.heap) := fun U U' h1 h2 h => by
  show PX G a S U' U'.heap
  rw [h1]; exact PX.warm h (warm_vm h2)
theorem bl_PXZ {G : kG} {a : Nat → Nat} {S : Nat → Nat → Int32} : kBl (fun U => PX G a S U U.heap ∧ ZS U U.heap) := fun U U' h1 h2 h => by
  show PX G a S U' U'.heap ∧ ZS U' U'.heap
  rw [h1]; exact ⟨PX.warm h.1 (warm_vm h2), ZS.warm h.2 (warm_vm h2)⟩
theorem bl_PM {G : kG} {a : Nat → Nat} {S : Nat → Nat → Int32} : kBl (fun U => PM G a S U U.heap) := fun U U' h1 h2 h => by
  show PM G a S U' U'.heap
  rw [h1]; exact PM.warm h (warm_vm h2)
theorem bl_GL : kBl GL := fun U U' _ h2 h => h.warm (warm_vm h2)
theorem bl_GZ : kBl (fun U => GL U ∧ ZS U U.heap) := fun U U' h1 h2 h => by
  show GL U' ∧ ZS U' U'.heap
  rw [h1]; exact ⟨GL.warm h.1 (warm_vm h2), ZS.warm h.2 (warm_vm h2)⟩
theorem inb {C : String} {T : u_T} {N : Nat} (h1 : ∀ w ∈ u_ws C T N, w ∈ lw_tbl) (h2 : ∀ w ∈ u_ws C T N, goodWord w = true) : ∀ w ∈ u_ws C T N, w ∈ big := fun w h => List.mem_filter.mpr ⟨h1 w h, h2 w h⟩
theorem inX0 : ∀ w ∈ u_ws RX0 TX0 7, w ∈ big := inb (by decide +kernel) (by decide +kernel)
theorem inX1 : ∀ w ∈ u_ws RX1 TX1 6, w ∈ big := inb (by decide +kernel) (by decide +kernel)
theorem inX2 : ∀ w ∈ u_ws RX2 TX2 4, w ∈ big := inb (by decide +kernel) (by decide +kernel)
theorem inX3 : ∀ w ∈ u_ws RX3 TX3 6, w ∈ big := inb (by decide +kernel) (by decide +kernel)
theorem inX4 : ∀ w ∈ u_ws RX4 TX4 20, w ∈ big := inb (by decide +kernel) (by decide +kernel)
/-- a truth as Java's int -/
def bI (b : Bool) : Int32 := if b then 1 else 0
theorem bI_t : bI true = 1 := rfl
theorem bI_f : bI false = 0 := rfl
theorem bI_0 {b : Bool} (h : bI b = 0) : b = false := by cases b; rfl; exact absurd h (by decide)
theorem bI_n {b : Bool} (h : ¬ bI b = 0) : b = true := by cases b; exact absurd rfl h; rfl
theorem bI_nar (b : Bool) : narrow .boolean (.int (bI b)) = .int (bI b) := by cases b <;> rfl
theorem dt {c : Prop} [Decidable c] (h : c) : decide c = true := decide_eq_true h
theorem df {c : Prop} [Decidable c] (h : ¬ c) : decide c = false := decide_eq_false h
section KR
variable {p : Program} {l : Launch} {e : Env} {R : Room} {s : State} {m : MethodId} {args : Array Value} {below : List Frame} {meth : Method} {c : Code} {H H0 : Heap} {locs : List Loc} {cells slots : Nat} {Q : State → Prop}
variable {cc : ByteArray} {pc nL : Nat} {ls : Array Slot} {rest : List Value} {G : kG} {A : Nat → Prop} {ad : Nat} {ws : va_W} {own : String}
theorem k_get (S : CallFix p m c cc nL s args big own) (hK : KK G s) (hP : va_P G.1 vwCl ws H) (q0 : Nat) {ci : Nat} {fs : List Value} (he : ws[q0]? = some (ad, .inr (ci, fs))) {C : String} {T : u_T} {N index : Nat} (hc : vwCl[ci]? = some (C, T, N)) (k : Nat) (hk : k < N) (hin : ∀ w ∈ u_ws C T N, w ∈ big)
    (hl : Cond.fieldLink own index (T k).1 (T k).2.1 (T k).2.2.1 ∈ big) {v : Value} (hv : fs[k]? = some v) (hdg : decode cc pc = .ok (.getfield index, 3))
    (kk : W p l e R s m args below meth c H locs cells slots Q (F0 m (pc + 3) ls (v :: rest))) : W p l e R s m args below meth c H locs cells slots Q (F0 m pc ls (.ref ad :: rest)) :=
  va_get (D := G.1) (ci := ci) (C := C) (T := T) (N := N) S.1 S.2.1 S.2.2.2.2 hin S.2.2.2.1 hK.1 hP q0 he hc k hk (S.2.2.2.2 _ hl) (fun _ h => h) hv hdg kk
theorem k_getN (S : CallFix p m c cc nL s args big own) (hK : KK G s) (hP : va_P G.1 vwCl ws H) (q0 : Nat) {ci : Nat} {fs : List Value} (he : ws[q0]? = some (ad, .inr (ci, fs))) {C host : String} {T : u_T} {N index : Nat} (hc : vwCl[ci]? = some (C, T, N)) (k : Nat) (hk : k < N) (hin : ∀ w ∈ u_ws C T N, w ∈ big)
    (hl : Cond.fieldLinkNest own index (T k).1 (T k).2.1 (T k).2.2.1 host ∈ lw_tbl) {v : Value} (hv : fs[k]? = some v) (hdg : decode cc pc = .ok (.getfield index, 3))
    (kk : W p l e R s m args below meth c H locs cells slots Q (F0 m (pc + 3) ls (v :: rest))) : W p l e R s m args below meth c H locs cells slots Q (F0 m pc ls (.ref ad :: rest)) :=
  va_getN (D := G.1) (ci := ci) (C := C) (T := T) (N := N) S.1 S.2.1 S.2.2.2.2 hin S.2.2.2.1 hK.1 hP q0 he hc k hk (va_Nw.use rfl (hK.2.nestF hl)) (fun _ h => h) hv hdg kk
theorem k_put (S : CallFix p m c cc nL s args big own) (hK : KK G s) (hP : va_P G.1 vwCl ws H) (hD : va_D A ws) (hS : va_S A H0 H locs) (q0 : Nat) {ci : Nat} {fs : List Value} (he : ws[q0]? = some (ad, .inr (ci, fs))) {C : String} {T : u_T} {N index : Nat} (hc : vwCl[ci]? = some (C, T, N)) (k : Nat) (hk : k < N) (hin : ∀ w ∈ u_ws C T N, w ∈ big)
    (ty0 : Nat → FieldType) (hty : ∀ k, k < N → parseFieldDescriptor (T k).2.2.1 = some (ty0 k)) (hnm : ∀ a, a < N → ∀ b, b < N → a ≠ b → (T a).2.1 ≠ (T b).2.1) (hfin : (T k).2.2.2 = false) (hit : ty0 k = .int)
    (hl : Cond.fieldLink own index (T k).1 (T k).2.1 (T k).2.2.1 ∈ big) {v : Int32} (hlen : k < fs.length) (hdg : decode cc pc = .ok (.putfield index, 3))
    (kk : ∀ (H1 : Heap) (locs1 : List Loc), va_P G.1 vwCl (ws.set q0 (ad, .inr (ci, fs.set k (.int v)))) H1 → va_S A H0 H1 locs1 → W p l e R s m args below meth c H1 locs1 cells slots Q (F0 m (pc + 3) ls rest)) : W p l e R s m args below meth c H locs cells slots Q (F0 m pc ls (.int v :: .ref ad :: rest)) :=
  va_put (D := G.1) (ci := ci) (C := C) (T := T) (N := N) (ty := .int) S.1 S.2.1 S.2.2.2.2 hin ty0 hty hnm S.2.2.2.1 hK.1 hP hD hS q0 he hc k hk (S.2.2.2.2 _ hl) (fun _ h => h) hfin (by rw [hty k hk, hit]) rfl rfl hlen hdg (fun H1 locs1 h1 _ h3 => kk H1 locs1 h1 h3)
theorem k_ild (S : CallFix p m c cc nL s args big own) (hK : KK G s) (hP : va_P G.1 vwCl ws H) (q0 : Nat) {n : Nat} {f : Nat → Int32} (he : ws[q0]? = some (ad, .inl (G.2.1, n, .inl f))) {i : Nat} (hi : i < n) (hn : n < 2 ^ 31) (hdg : decode cc pc = .ok (.iaload, 1))
    (kk : W p l e R s m args below meth c H locs cells slots Q (F0 m (pc + 1) ls (.int (f i) :: rest))) : W p l e R s m args below meth c H locs cells slots Q (F0 m pc ls (.int (nI i) :: .ref ad :: rest)) := by
  refine va_iald (D := G.1) S.1 S.2.1 hK.1 hP q0 0 he rfl (vp_in_nI hi hn) hdg ?_
  rw [nI_clamp (Nat.lt_trans hi hn)]
  exact kk
theorem k_zld (S : CallFix p m c cc nL s args big own) (hK : KK G s) (hP : va_P G.1 vwCl ws H) (q0 : Nat) {n : Nat} {f : Nat → Int32} (he : ws[q0]? = some (ad, .inl (G.2.2.1, n, .inl f))) {i : Nat} (hi : i < n) (hn : n < 2 ^ 31) (hdg : decode cc pc = .ok (.baload, 1))
    (kk : W p l e R s m args below meth c H locs cells slots Q (F0 m (pc + 1) ls (.int (f i) :: rest))) : W p l e R s m args below meth c H locs cells slots Q (F0 m pc ls (.int (nI i) :: .ref ad :: rest)) := by
  refine va_zald (D := G.1) S.1 S.2.1 hK.1 hP q0 1 he rfl (vp_in_nI hi hn) hdg ?_
  rw [nI_clamp (Nat.lt_trans hi hn)]
  exact kk
theorem k_ist (S : CallFix p m c cc nL s args big own) (hK : KK G s) (hP : va_P G.1 vwCl ws H) (hD : va_D A ws) (hS : va_S A H0 H locs) (q0 : Nat) {n : Nat} {f : Nat → Int32} (he : ws[q0]? = some (ad, .inl (G.2.1, n, .inl f))) {i : Nat} {x : Int32} (hi : i < n) (hn : n < 2 ^ 31) (hdg : decode cc pc = .ok (.iastore, 1))
    (kk : ∀ (H1 : Heap) (locs1 : List Loc), va_P G.1 vwCl (ws.set q0 (ad, .inl (G.2.1, n, .inl (upd f i x)))) H1 → va_S A H0 H1 locs1 → W p l e R s m args below meth c H1 locs1 cells slots Q (F0 m (pc + 1) ls rest)) : W p l e R s m args below meth c H locs cells slots Q (F0 m pc ls (.int x :: .int (nI i) :: .ref ad :: rest)) := by
  refine va_iast (D := G.1) S.1 S.2.1 hK.1 hP hD hS q0 0 he rfl (vp_in_nI hi hn) hdg (fun H1 locs1 h1 _ h3 => ?_)
  rw [nI_clamp (Nat.lt_trans hi hn)] at h1
  exact kk H1 locs1 h1 h3
theorem k_zst (S : CallFix p m c cc nL s args big own) (hK : KK G s) (hP : va_P G.1 vwCl ws H) (hD : va_D A ws) (hS : va_S A H0 H locs) (q0 : Nat) {n : Nat} {f : Nat → Int32} (he : ws[q0]? = some (ad, .inl (G.2.2.1, n, .inl f))) {i : Nat} {x : Int32} (hi : i < n) (hn : n < 2 ^ 31) (hx : vp_nar .boolean x = x) (hdg : decode cc pc = .ok (.bastore, 1))
    (kk : ∀ (H1 : Heap) (locs1 : List Loc), va_P G.1 vwCl (ws.set q0 (ad, .inl (G.2.2.1, n, .inl (upd f i x)))) H1 → va_S A H0 H1 locs1 → W p l e R s m args below meth c H1 locs1 cells slots Q (F0 m (pc + 1) ls rest)) : W p l e R s m args below meth c H locs cells slots Q (F0 m pc ls (.int x :: .int (nI i) :: .ref ad :: rest)) := by
  refine va_zast (D := G.1) S.1 S.2.1 hK.1 hP hD hS q0 1 he rfl (vp_in_nI hi hn) hdg (fun H1 locs1 h1 _ h3 => ?_)
  rw [nI_clamp (Nat.lt_trans hi hn), hx] at h1
  exact kk H1 locs1 h1 h3
theorem k_alen (S : CallFix p m c cc nL s args big own) (hK : KK G s) (hP : va_P G.1 vwCl ws H) (q0 : Nat) {n : Nat} {f : Nat → Int32} (he : ws[q0]? = some (ad, .inl (G.2.1, n, .inl f))) (hdg : decode cc pc = .ok (.arraylength, 1))
    (kk : W p l e R s m args below meth c H locs cells slots Q (F0 m (pc + 1) ls (.int (nI n) :: rest))) : W p l e R s m args below meth c H locs cells slots Q (F0 m pc ls (.ref ad :: rest)) :=
  va_alen (D := G.1) S.1 S.2.1 hK.1 hP q0 0 he rfl (v := nI n) rfl hdg kk
/-- the value on top under another name -/
theorem k_eq {x y : Int32} (h : x = y) (kk : W p l e R s m args below meth c H locs cells slots Q (F0 m pc ls (.int y :: rest))) : W p l e R s m args below meth c H locs cells slots Q (F0 m pc ls (.int x :: rest)) := by rw [h]; exact kk
theorem k_eq2 {x y : Int32} {v : Value} (h : x = y) (kk : W p l e R s m args below meth c H locs cells slots Q (F0 m pc ls (v :: .int y :: rest))) : W p l e R s m args below meth c H locs cells slots Q (F0 m pc ls (v :: .int x :: rest)) := by rw [h]; exact kk
theorem k_cat {st : List Value} (h : (st.map fun v => v.category).sum ≤ 8) : 2 * (F0 m pc ls rest).monitorRoom + (st.map fun v => v.category).sum ≤ 8 := lv_room h
end KR
end
section
/-! CONTRACTS' FORMS AND RULES FOR CALLS -/
abbrev NF : Addr → Prop := fun _ => False
/-- returns nothing, the heap as it was -/
def rV (P : Prop) : Array Value → State → Outcome → State → Prop := fun _ st o t => o = .returned none ∧ P ∧ t.heap = st.heap
/-- throws: the heap has grown, no more -/
def tX (E : String → Prop) : String → State → State → Prop := fun x st t => E x ∧ st.heap.size ≤ t.heap.size ∧ ∀ q : Nat, q < st.heap.size → t.heap[q]? = st.heap[q]?
/-- returns an int, with another world -/
def oW (A : Nat → Prop) (P : Int32 → Prop) (B : Heap → Prop) : Array Value → State → Outcome → State → Prop := fun _ st o t => (∃ r : Int32, o = .returned (some (.int r)) ∧ P r) ∧ B t.heap ∧ va_F A st t
def oV (A : Nat → Prop) (P : Prop) (B : Heap → Prop) : Array Value → State → Outcome → State → Prop := fun _ st o t => o = .returned none ∧ P ∧ B t.heap ∧ va_F A st t
abbrev names2 : List String := ["java/lang/RuntimeException", "java/lang/Exception"]
def exN (k : Nat) : String := match k with
  | 1 => "java/lang/IndexOutOfBoundsException"
  | 2 => "java/lang/IllegalArgumentException"
  | 3 => "java/lang/IllegalStateException"
  | _ => "java/util/NoSuchElementException"
section KC
variable {p : Program} {l : Launch} {e : Env} {R : Room} {s : State} {m : MethodId} {args : Array Value} {below : List Frame} {meth : Method} {c : Code} {H : Heap} {locs : List Loc} {cells slots : Nat} {Q : State → Prop}
variable {y : MethodName} {bytes cc : ByteArray} {maxL nL mc ms n index pc : Nat} {ret : Option FieldType} {rm : Room} {Pc : Array Value → State → Prop} {Qc : Array Value → State → Outcome → State → Prop} {XC : String → State → State → Prop} {free : Addr → Prop} {own C host : String} {b : Addr} {As rest st0 : List Value} {ls : Array Slot} {a : Array Value} {A A1 : Nat → Prop}
/-- the words of a call, by kind -/
abbrev wdV (own : String) (index : Nat) (C : String) (y : MethodName) (cw : Cond) : Prop := Cond.methodLink own index y ∈ big ∧ Cond.instanceMethod y ∈ big ∧ Cond.selects C y y ∈ big ∧ Cond.initialized C ∈ big ∧ cw ∈ big
abbrev wdS (own : String) (index : Nat) (y : MethodName) (cw : Cond) : Prop := Cond.methodLink own index y ∈ big ∧ Cond.static y ∈ big ∧ Cond.initialized y.cls ∈ big ∧ cw ∈ big
abbrev wdVN (own : String) (index : Nat) (C : String) (y : MethodName) (host : String) (cw : Cond) : Prop := Cond.methodLinkNest own index y host ∈ lw_tbl ∧ Cond.instanceMethod y ∈ big ∧ Cond.selects C y y ∈ big ∧ Cond.initialized C ∈ big ∧ cw ∈ big
abbrev ydV (C : String) (y : MethodName) (n : Nat) : Prop := y.cls = C ∧ y.cls ≠ "java/lang/invoke/MethodHandle" ∧ y.cls ≠ "java/lang/invoke/VarHandle" ∧ (parseMethodDescriptor y.desc).map (fun d => d.parameters.length) = some n
abbrev rmD (rm R : Room) (maxL mc ms : Nat) : Prop := rm.cells = mc ∧ rm.slots = ms ∧ rm.frames + 1 ≤ R.frames ∧ 8 + (maxL + 11) + rm.locals ≤ R.locals
theorem gd_V {cw : Cond} (h : wdV own index C y cw) : GoodIn big (wsV own index C y [cw]) := by
  intro w hw
  simp only [wsV, List.cons_append, List.nil_append, List.mem_cons, List.not_mem_nil, or_false] at hw
  rcases hw with rfl | rfl | rfl | rfl | rfl
  · exact big_good h.1
  · exact big_good h.2.1
  · exact big_good h.2.2.1
  · exact big_good h.2.2.2.1
  · exact big_good h.2.2.2.2
theorem gd_1 {cw : Cond} (h : cw ∈ big) : GoodIn big [cw] := by
  intro w hw
  rw [List.mem_singleton.mp hw]
  exact big_good h
theorem gd_S {cw : Cond} (h : wdS own index y cw) : GoodIn big (va_wsS own index y [cw]) := by
  intro w hw
  simp only [va_wsS, List.cons_append, List.nil_append, List.mem_cons, List.not_mem_nil, or_false] at hw
  rcases hw with rfl | rfl | rfl | rfl
  · exact big_good h.1
  · exact big_good h.2.1
  · exact big_good h.2.2.1
  · exact big_good h.2.2.2
theorem cb_S (S : CallFix p m c cc nL s args big own) (hw : wdS own index y (.code y bytes maxL ret)) (hd : ydV y.cls y n) (hR : rmD rm R maxL mc ms) : CallB R s args own index y bytes maxL ret [.code y bytes maxL ret] rm mc ms n ∧ (Cond.static y).before args s = true :=
  ⟨callB_of n S.2.2.2.2 (gd_1 hw.2.2.2) rfl hR.1 hR.2.1 (S.2.2.2.2 _ hw.2.2.1) (S.2.2.2.2 _ hw.1) hd.2 hR.2.2, S.2.2.2.2 _ hw.2.1⟩
theorem r_V (S : CallFix p m c cc nL s args big own) (hw : wdV own index C y (.code y bytes maxL ret)) (hd : ydV C y n) (hM : Met l y [.code y bytes maxL ret] rm Pc Qc mc ms free) (hR : rmD rm R maxL mc ms) (hp : PreV s H C b Pc As)
    (hn : As.length = n) (hsize : ls.size = nL) (hstack : st0 = As.reverse ++ .ref b :: rest) (hW : (rest.map fun v => v.category).sum ≤ 8) (hf : cells + mc ≤ R.cells ∧ slots + ms ≤ R.slots) (hdg : decode cc pc = .ok (.invokevirtual index, 3)) :
    va_Run p l e R s m args below meth c H locs cells slots mc ms (F0 m pc ls st0) rest (Qc (Value.ref b :: As).toArray) free :=
  va_runV S hM (cwV n S.2.2.2.2 (gd_V hw) rfl hR.1 hR.2.1 hd hR.2.2) hp rfl hn hsize hstack (lv_room hW) hdg hf
theorem r_VN (S : CallFix p m c cc nL s args big own) (hG : GL s) (hw : wdVN own index C y host (.code y bytes maxL ret)) (hd : ydV C y n) (hM : Met l y [.code y bytes maxL ret] rm Pc Qc mc ms free) (hR : rmD rm R maxL mc ms) (hp : PreV s H C b Pc As)
    (hn : As.length = n) (hsize : ls.size = nL) (hstack : st0 = As.reverse ++ .ref b :: rest) (hW : (rest.map fun v => v.category).sum ≤ 8) (hf : cells + mc ≤ R.cells ∧ slots + ms ≤ R.slots) (hdg : decode cc pc = .ok (.invokevirtual index, 3)) :
    va_Run p l e R s m args below meth c H locs cells slots mc ms (F0 m pc ls st0) rest (Qc (Value.ref b :: As).toArray) free :=
  va_runVN S hM ⟨va_cnB n S.2.2.2.2 (gd_1 hw.2.2.2.2) rfl hR.1 hR.2.1 (hG.nestM hw.1) (by rw [hd.1]; exact S.2.2.2.2 _ hw.2.2.2.1) hd.2 hR.2.2, S.2.2.2.2 _ hw.2.1, S.2.2.2.2 _ hw.2.2.1⟩ hp rfl hn hsize hstack (lv_room hW) hdg hf
theorem r_S (S : CallFix p m c cc nL s args big own) (hw : wdS own index y (.code y bytes maxL ret)) (hd : ydV y.cls y n) (hM : Met l y [.code y bytes maxL ret] rm Pc Qc mc ms free) (hR : rmD rm R maxL mc ms) (hp : PreS s H Pc As)
    (hn : As.length = n) (hsize : ls.size = nL) (hstack : st0 = As.reverse ++ rest) (hW : (rest.map fun v => v.category).sum ≤ 8) (hf : cells + mc ≤ R.cells ∧ slots + ms ≤ R.slots) (hdg : decode cc pc = .ok (.invokestatic index, 3)) :
    va_Run p l e R s m args below meth c H locs cells slots mc ms (F0 m pc ls st0) rest (Qc As.toArray) free :=
  va_runS S hM (cb_S S hw hd hR) hp rfl hn hsize hstack (lv_room hW) hdg hf
theorem rx_V (S : CallFix p m c cc nL s args big own) (hw : wdV own index C y (.code y bytes maxL ret)) (hd : ydV C y n) (hM : vx_Met l y [.code y bytes maxL ret] rm Pc Qc XC mc ms free) (hR : rmD rm R maxL mc ms) (hp : PreV s H C b Pc As)
    (hn : As.length = n) (hsize : ls.size = nL) (hstack : st0 = As.reverse ++ .ref b :: rest) (hW : (rest.map fun v => v.category).sum ≤ 8) (hf : cells + mc ≤ R.cells ∧ slots + ms ≤ R.slots) (hdg : decode cc pc = .ok (.invokevirtual index, 3)) :
    vx_Run p l e R s m args below meth c H locs cells slots mc ms (F0 m pc ls st0) rest (Qc (Value.ref b :: As).toArray) XC free :=
  vx_runV S hM (cwV n S.2.2.2.2 (gd_V hw) rfl hR.1 hR.2.1 hd hR.2.2) hp rfl hn hsize hstack (lv_room hW) hdg hf
theorem rx_S (S : CallFix p m c cc nL s args big own) (hw : wdS own index y (.code y bytes maxL ret)) (hd : ydV y.cls y n) (hM : vx_Met l y [.code y bytes maxL ret] rm Pc Qc XC mc ms free) (hR : rmD rm R maxL mc ms) (hp : PreS s H Pc As)
    (hn : As.length = n) (hsize : ls.size = nL) (hstack : st0 = As.reverse ++ rest) (hW : (rest.map fun v => v.category).sum ≤ 8) (hf : cells + mc ≤ R.cells ∧ slots + ms ≤ R.slots) (hdg : decode cc pc = .ok (.invokestatic index, 3)) :
    vx_Run p l e R s m args below meth c H locs cells slots mc ms (F0 m pc ls st0) rest (Qc As.toArray) XC free :=
  vx_runS S hM (cb_S S hw hd hR) hp rfl hn hsize hstack (lv_room hW) hdg hf
theorem rx_SX {hh : List (Nat × Nat × Nat × Nat)} (S : CallFix p m c cc nL s args big own) (hw : wdS own index y (.codeWith y bytes maxL ret hh)) (hd : ydV y.cls y n) (hM : vx_Met l y [.codeWith y bytes maxL ret hh] rm Pc Qc XC mc ms free) (hR : rmD rm R maxL mc ms) (hp : PreS s H Pc As)
    (hn : As.length = n) (hsize : ls.size = nL) (hstack : st0 = As.reverse ++ rest) (hW : (rest.map fun v => v.category).sum ≤ 8) (hf : cells + mc ≤ R.cells ∧ slots + ms ≤ R.slots) (hdg : decode cc pc = .ok (.invokestatic index, 3)) :
    vx_Run p l e R s m args below meth c H locs cells slots mc ms (F0 m pc ls st0) rest (Qc As.toArray) XC free :=
  vx_runSX S hM (vx_cwSW n S.2.2.2.2 (gd_S hw) rfl hR.1 hR.2.1 hd.2 hR.2.2) hp rfl hn hsize hstack (lv_room hW) hdg hf
-- what comes behind a call
theorem q_i {P : Int32 → Prop} (hr : va_Run p l e R s m args below meth c H locs cells slots 0 0 (F0 m pc ls st0) rest (vp_Si P a) NF)
    (kk : ∀ r : Int32, P r → W p l e R s m args below meth c H locs cells slots Q (F0 m (pc + 3) ls (.int r :: rest))) : W p l e R s m args below meth c H locs cells slots Q (F0 m pc ls st0) := by
  intro T hT X
  obtain ⟨v, st₀, t, T', L, h0, X', hL, e1, -, ⟨r, hv, hp, hh⟩, st⟩ := hr T hT X
  cases hv
  obtain ⟨t2, a1, b1⟩ := kk r hp T' (by rw [e1, hh, h0]) (Stand.forget X' (fun q h => (hL q h).elim))
  exact ⟨t2, st t2 a1, b1⟩
theorem q_l {P : Int64 → Prop} (hr : va_Run p l e R s m args below meth c H locs cells slots 0 0 (F0 m pc ls st0) rest (vp_Sl P a) NF)
    (kk : ∀ r : Int64, P r → W p l e R s m args below meth c H locs cells slots Q (F0 m (pc + 3) ls (.long r :: rest))) : W p l e R s m args below meth c H locs cells slots Q (F0 m pc ls st0) := by
  intro T hT X
  obtain ⟨v, st₀, t, T', L, h0, X', hL, e1, -, ⟨r, hv, hp, hh⟩, st⟩ := hr T hT X
  cases hv
  obtain ⟨t2, a1, b1⟩ := kk r hp T' (by rw [e1, hh, h0]) (Stand.forget X' (fun q h => (hL q h).elim))
  exact ⟨t2, st t2 a1, b1⟩
theorem s_call {st₀ t T' : State} {L : List Loc} {H0 : Heap} (h0 : st₀.heap = H) (e1 : T'.heap = t.heap) (hS : va_S A H0 H locs) (hA : ∀ q, A1 q → A q) (hL : ∀ q ∈ L, A1 q.base) (hF : va_F A1 st₀ t) :
    H.size ≤ T'.heap.size ∧ (∀ q : Nat, q < H.size → ¬ A1 q → T'.heap[q]? = H[q]?) ∧ va_S A H0 T'.heap (locs ++ L) := by
  obtain ⟨hz, hk⟩ := hF
  rw [h0] at hz hk
  exact ⟨by rw [e1]; exact hz, fun q h1 h2 => by rw [e1]; exact hk q h1 h2,
    ⟨Nat.le_trans hS.1 (by rw [e1]; exact hz), fun q h1 h2 => by rw [e1, hk q (Nat.lt_of_lt_of_le h1 hS.1) (fun z => h2 (hA q z))]; exact hS.2.1 q h1 h2, fun q hq => by
      rcases List.mem_append.mp hq with h | h
      · exact hS.2.2 q h
      · exact hA _ (hL q h)⟩⟩
theorem q_w {P : Int32 → Prop} {B : Heap → Prop} {H0 : Heap} (hr : va_Run p l e R s m args below meth c H locs cells slots mc ms (F0 m pc ls st0) rest (oW A1 P B a) A1) (hS : va_S A H0 H locs) (hA : ∀ q, A1 q → A q)
    (kk : ∀ (r : Int32) (H1 : Heap) (locs1 : List Loc), P r → B H1 → H.size ≤ H1.size → (∀ q : Nat, q < H.size → ¬ A1 q → H1[q]? = H[q]?) → va_S A H0 H1 locs1 → W p l e R s m args below meth c H1 locs1 (cells + mc) (slots + ms) Q (F0 m (pc + 3) ls (.int r :: rest))) : W p l e R s m args below meth c H locs cells slots Q (F0 m pc ls st0) := by
  intro T hT X
  obtain ⟨v, st₀, t, T', L, h0, X', hL, e1, -, ⟨⟨r, hv, hp⟩, hb, hF⟩, st⟩ := hr T hT X
  cases hv
  obtain ⟨k1, k2, k3⟩ := s_call h0 e1 hS hA hL hF
  obtain ⟨t2, a1, b1⟩ := kk r T'.heap (locs ++ L) hp (by rw [e1]; exact hb) k1 k2 k3 T' rfl X'
  exact ⟨t2, st t2 a1, b1⟩
theorem q_wv {P : Prop} {B : Heap → Prop} {H0 : Heap} (hr : va_Run p l e R s m args below meth c H locs cells slots mc ms (F0 m pc ls st0) rest (oV A1 P B a) A1) (hS : va_S A H0 H locs) (hA : ∀ q, A1 q → A q)
    (kk : ∀ (H1 : Heap) (locs1 : List Loc), P → B H1 → H.size ≤ H1.size → (∀ q : Nat, q < H.size → ¬ A1 q → H1[q]? = H[q]?) → va_S A H0 H1 locs1 → W p l e R s m args below meth c H1 locs1 (cells + mc) (slots + ms) Q (F0 m (pc + 3) ls rest)) : W p l e R s m args below meth c H locs cells slots Q (F0 m pc ls st0) := by
  intro T hT X
  obtain ⟨v, st₀, t, T', L, h0, X', hL, e1, -, ⟨hv, hp, hb, hF⟩, st⟩ := hr T hT X
  cases hv
  obtain ⟨k1, k2, k3⟩ := s_call h0 e1 hS hA hL hF
  obtain ⟨t2, a1, b1⟩ := kk T'.heap (locs ++ L) hp (by rw [e1]; exact hb) k1 k2 k3 T' rfl X'
  exact ⟨t2, st t2 a1, b1⟩
/-- a callee that may throw, read only: its exception goes through this method, which has written nothing -/
theorem q_xv {P : Prop} {E1 E2 : String → Prop} {mc2 ms2 : Nat} {free : Addr → Prop} (hr : vx_Run p l e R s m args below meth c s.heap [] cells slots mc ms (F0 m pc ls st0) rest (rV P a) (tX E1) NF)
    (ht : ∀ x ∈ c.exceptionTable.toList, False) (hlocks : meth.locks = false) (hE : ∀ x, E1 x → E2 x) (hc : cells + mc ≤ mc2) (hs : slots + ms ≤ ms2)
    (kk : P → W p l e R s m args below meth c s.heap [] (cells + mc) (slots + ms) (vx_MQ below Qc (tX E2) args s mc2 ms2 free) (F0 m (pc + 3) ls rest)) : W p l e R s m args below meth c s.heap [] cells slots (vx_MQ below Qc (tX E2) args s mc2 ms2 free) (F0 m pc ls st0) := by
  intro T hT X
  rcases hr T hT X with ⟨v, st₀, t, T', L, h0, X', hL, e1, -, ⟨hv, hp, hh⟩, st⟩ | ⟨q, st₀, t, T', L, E, ce, h0, X', hL, e1, e2, ⟨h1, h2, h3⟩, hce, hcv, hcl, st⟩
  · cases hv
    obtain ⟨t2, a1, b1⟩ := kk hp T' (by rw [e1, hh, h0]) (Stand.forget X' (fun q h => (hL q h).elim))
    exact ⟨t2, st t2 a1, b1⟩
  · rw [h0] at h2 h3
    obtain ⟨t2, a1, b1⟩ := vx_out (Qc := Qc) (XC := tX E2) (free := free) (pc := pc) (ls := ls) (rest := rest) (E := E) (ce := ce) (q := q) (H := T'.heap) (locs := []) (fun x hx => (ht x hx).elim) hlocks (by rw [e1]; exact hce) hcv hcl
      (fun t9 ht9 _ => ⟨hE _ h1, by rw [ht9, e1]; exact h2, fun q hq => by rw [ht9, e1]; exact h3 q hq⟩) (fun z h => by cases h) hc hs T' rfl (Stand.forget X' (fun q h => (hL q h).elim))
    exact ⟨t2, st.trans a1, b1⟩
theorem q_xi {P : Int32 → Prop} {E1 E2 : String → Prop} {mc2 ms2 : Nat} {free : Addr → Prop} (hr : vx_Run p l e R s m args below meth c s.heap [] cells slots mc ms (F0 m pc ls st0) rest (vp_Si P a) (tX E1) NF)
    (ht : ∀ x ∈ c.exceptionTable.toList, False) (hlocks : meth.locks = false) (hE : ∀ x, E1 x → E2 x) (hc : cells + mc ≤ mc2) (hs : slots + ms ≤ ms2)
    (kk : ∀ r : Int32, P r → W p l e R s m args below meth c s.heap [] (cells + mc) (slots + ms) (vx_MQ below Qc (tX E2) args s mc2 ms2 free) (F0 m (pc + 3) ls (.int r :: rest))) : W p l e R s m args below meth c s.heap [] cells slots (vx_MQ below Qc (tX E2) args s mc2 ms2 free) (F0 m pc ls st0) := by
  intro T hT X
  rcases hr T hT X with ⟨v, st₀, t, T', L, h0, X', hL, e1, -, ⟨r, hv, hp, hh⟩, st⟩ | ⟨q, st₀, t, T', L, E, ce, h0, X', hL, e1, e2, ⟨h1, h2, h3⟩, hce, hcv, hcl, st⟩
  · cases hv
    obtain ⟨t2, a1, b1⟩ := kk r hp T' (by rw [e1, hh, h0]) (Stand.forget X' (fun q h => (hL q h).elim))
    exact ⟨t2, st t2 a1, b1⟩
  · rw [h0] at h2 h3
    obtain ⟨t2, a1, b1⟩ := vx_out (Qc := Qc) (XC := tX E2) (free := free) (pc := pc) (ls := ls) (rest := rest) (E := E) (ce := ce) (q := q) (H := T'.heap) (locs := []) (fun x hx => (ht x hx).elim) hlocks (by rw [e1]; exact hce) hcv hcl
      (fun t9 ht9 _ => ⟨hE _ h1, by rw [ht9, e1]; exact h2, fun q hq => by rw [ht9, e1]; exact h3 q hq⟩) (fun z h => by cases h) hc hs T' rfl (Stand.forget X' (fun q h => (hL q h).elim))
    exact ⟨t2, st.trans a1, b1⟩
/-- throw new E("text") in the class, which has written nothing -/
theorem k_thr {E2 : String → Prop} {mc2 ms2 ik is ic : Nat} {cls text : String} {free : Addr → Prop} (S : CallFix p m c cc nL s args big RX3) (hG : GL s) (hZ : ZS s s.heap) (hl : l.stackTraces = false)
    (hat : ∀ w ∈ vx_atS RX3 ic cls names2, w ∈ lw_tbl ∧ (w.onTables && w.keepsFace) = true) (hk : Cond.classLink RX3 ik cls ∈ big) (hini : Cond.initialized cls ∈ big) (hfit : Bundle.fit cls = true)
    (hstr : Cond.stringRef RX3 is text ∈ lw_tbl) (hsize : ls.size = nL) (ht : ∀ x ∈ c.exceptionTable.toList, False) (hlocks : meth.locks = false)
    (hR : 6 ≤ R.frames ∧ 90 ≤ R.locals) (hRc : cells + 1 ≤ R.cells ∧ slots + 6 ≤ R.slots) (hc : cells + 1 ≤ mc2 ∧ slots + 6 ≤ ms2) (hW : (rest.map fun v => v.category).sum ≤ 8) (hE : E2 cls)
    (d0 : decode cc pc = .ok (.new ik, 3)) (d3 : decode cc (pc + 3) = .ok (.dup, 1)) (d4 : decode cc (pc + 4) = .ok (.ldc is, 2)) (d6 : decode cc (pc + 6) = .ok (.invokespecial ic, 3)) (d9 : decode cc (pc + 9) = .ok (.athrow, 1)) :
    W p l e R s m args below meth c s.heap [] cells slots (vx_MQ below Qc (tX E2) args s mc2 ms2 free) (F0 m pc ls rest) := by
  obtain ⟨sa, hsa⟩ := hG.str S.2.2.2.1 hstr
  have hlen : names2.length = 2 := rfl
  refine vx_throwS (cls := cls) (names := names2) (A := fun _ => False) S.1 S.2.1 hl S.2.2.2.1 hfit (by decide +kernel) (S.2.2.2.2 _ hk) (S.2.2.2.2 _ hini) hsa (fun w hw => hG.face (hat w hw).1 (hat w hw).2) ?_ hZ.1 hZ.2 va_S.rf (by rw [hsize]; exact S.2.2.1.symm) d0 d3 d4 d6 d9 (fun x hx => (ht x hx).elim) (by rw [hlen]; omega) (by rw [hlen]; omega) hRc.1 hRc.2 hlocks (fun t _ h2 h3 => ⟨hE, h2, h3⟩) (fun z h => by cases h) hc.1 hc.2
  intro w hw
  rcases List.mem_cons.mp hw with rfl | hw
  · rfl
  · rcases List.mem_cons.mp hw with rfl | hw
    · rfl
    · have h1 := (hat w hw).2
      simp only [Bool.and_eq_true] at h1
      unfold vx_ot
      rw [h1.1]; rfl
-- a body's beginning
theorem k_of {av : List Value} {B : State → Prop} (hy : plainName y.cls = true) (hlen : (lg_sl av).length ≤ maxL) (hB : ∀ U, B U → GL U)
    (body : ∀ (p : Program) (e : Env) (s : State) (m : MethodId) (below : List Frame) (meth : Method) (c : Code) (ls : Array Slot), CallFix p m c cc maxL s av.toArray big y.cls → meth.sig.returnType = ret → meth.locks = false → meth.name = y.name → B s → lv_has ls maxL (lv_args 0 av) →
      W p l e rm s m av.toArray below meth c s.heap [] 0 0 (MQ below Qc av.toArray s mc ms free) (F0 m 0 ls [])) : Met l y [.code y cc maxL ret] rm (va_Pc av B) Qc mc ms free := by
  refine Met.ofW (cc := cc) (maxL := maxL) (ret := ret) hy rfl ?_
  intro p e s m args below meth c s₁ BB hml hv
  obtain ⟨rfl, hb⟩ := hv
  rw [lg_entry_eq]
  exact body p e s m below meth c _ ⟨BB.exec, BB.bytes, hml, findClass_of_methodNamed BB.named, (hB s hb).words⟩ BB.returns BB.notSynchronized (name_of_methodNamed BB.named BB.method).1 hb (lv_entry av hlen)
theorem kx_of {av : List Value} {B : State → Prop} (hy : plainName y.cls = true) (hlen : (lg_sl av).length ≤ maxL) (hB : ∀ U, B U → GL U)
    (body : ∀ (p : Program) (e : Env) (s : State) (m : MethodId) (below : List Frame) (meth : Method) (c : Code) (ls : Array Slot), CallFix p m c cc maxL s av.toArray big y.cls → meth.sig.returnType = ret → meth.locks = false → (∀ x ∈ c.exceptionTable.toList, False) → B s → lv_has ls maxL (lv_args 0 av) →
      W p l e rm s m av.toArray below meth c s.heap [] 0 0 (vx_MQ below Qc XC av.toArray s mc ms free) (F0 m 0 ls [])) : vx_Met l y [.code y cc maxL ret] rm (va_Pc av B) Qc XC mc ms free := by
  refine vx_ofW (cc := cc) (maxL := maxL) (ret := ret) hy rfl ?_
  intro p e s m args below meth c s₁ BB hml ht hv
  obtain ⟨rfl, hb⟩ := hv
  rw [lg_entry_eq]
  exact body p e s m below meth c _ ⟨BB.exec, BB.bytes, hml, findClass_of_methodNamed BB.named, (hB s hb).words⟩ BB.returns BB.notSynchronized ht hb (lv_entry av hlen)
theorem kh_of {av : List Value} {B : State → Prop} {hh : List (Nat × Nat × Nat × Nat)} (hy : plainName y.cls = true) (hlen : (lg_sl av).length ≤ maxL) (hB : ∀ U, B U → GL U)
    (body : ∀ (p : Program) (e : Env) (s : State) (m : MethodId) (below : List Frame) (meth : Method) (c : Code) (ls : Array Slot), CallFix p m c cc maxL s av.toArray big y.cls → meth.sig.returnType = ret → meth.locks = false → c.exceptionTable.toList = tableOf hh → B s → lv_has ls maxL (lv_args 0 av) →
      W p l e rm s m av.toArray below meth c s.heap [] 0 0 (vx_MQ below Qc XC av.toArray s mc ms free) (F0 m 0 ls [])) : vx_Met l y [.codeWith y cc maxL ret hh] rm (va_Pc av B) Qc XC mc ms free := by
  refine vx_ofWH (cc := cc) (maxL := maxL) (ret := ret) (hh := hh) hy rfl ?_
  intro p e s m args below meth c s₁ BB hml hv
  obtain ⟨rfl, hb⟩ := hv
  rw [lg_entry_eq]
  exact body p e s m below meth c _ ⟨BB.exec, BB.bytes, hml, findClass_of_methodNamed BB.named, (hB s hb).words⟩ BB.returns BB.notSynchronized (vx_table (x := y) BB (atoms_spec (ws := [.codeWith y cc maxL ret hh]) BB.pre _ List.mem_cons_self)) hb (lv_entry av hlen)
-- receivers
theorem pv_X {G : kG} {ad : Nat → Nat} {σ : Nat → Nat → Int32} {B : State → Prop} (hX : PX G ad σ s H) (i : Nat) {ci : Nat} {q : vw_C} {fs : List Value} (hc : vwCl[ci]? = some q) (he : (wX G ad σ)[i]? = some (b, .inr (ci, fs))) (hbl : kBl B) (hB : ∀ U : State, U.heap = H → s.WarmedH U.vm → B U) : PreV s H q.1 b (va_Pc (.ref b :: As) B) As :=
  ⟨hbl.blind, va_recv hX.2.1 hX.1 hc he, fun U hU hW => ⟨rfl, hB U hU hW⟩⟩
theorem pv_M {G : kG} {ad : Nat → Nat} {σ : Nat → Nat → Int32} {B : State → Prop} (hX : PM G ad σ s H) (hbl : kBl B) (hB : ∀ U : State, U.heap = H → s.WarmedH U.vm → B U) : PreV s H RX4 (ad 0) (va_Pc (.ref (ad 0) :: As) B) As :=
  ⟨hbl.blind, va_recv (q := (RX4, TX4, 20)) (q0 := 0) (ci := 4) hX.2.1 hX.1 rfl rfl, fun U hU hW => ⟨rfl, hB U hU hW⟩⟩
theorem ps {B : State → Prop} (hbl : kBl B) (hB : ∀ U : State, U.heap = H → s.WarmedH U.vm → B U) : PreS s H (va_Pc As B) As := ⟨hbl.blind, fun U hU hW => ⟨rfl, hB U hU hW⟩⟩
theorem bX {G : kG} {ad : Nat → Nat} {σ : Nat → Nat → Int32} (hX : PX G ad σ s H) : ∀ U : State, U.heap = H → s.WarmedH U.vm → PX G ad σ U U.heap := fun U hU hW => by rw [hU]; exact hX.warm hW
theorem bXZ {G : kG} {ad : Nat → Nat} {σ : Nat → Nat → Int32} (hX : PX G ad σ s H) (hZ : ZS s H) : ∀ U : State, U.heap = H → s.WarmedH U.vm → PX G ad σ U U.heap ∧ ZS U U.heap := fun U hU hW => by rw [hU]; exact ⟨hX.warm hW, hZ.warm hW⟩
theorem bM {G : kG} {ad : Nat → Nat} {σ : Nat → Nat → Int32} (hX : PM G ad σ s H) : ∀ U : State, U.heap = H → s.WarmedH U.vm → PM G ad σ U U.heap := fun U hU hW => by rw [hU]; exact hX.warm hW
theorem bG (hG : GL s) : ∀ U : State, U.heap = H → s.WarmedH U.vm → GL U := fun U _ hW => hG.warm hW
theorem bGZ (hG : GL s) (hZ : ZS s H) : ∀ U : State, U.heap = H → s.WarmedH U.vm → GL U ∧ ZS U U.heap := fun U hU hW => by rw [hU]; exact ⟨hG.warm hW, hZ.warm hW⟩
end KC
end
section
/-! the words of the tables, by their places -/
theorem m_0 : Cond.selects RX2 yX2_isOpenFor yX2_isOpenFor ∈ big := big_i 0 (by decide +kernel) rfl
theorem m_1 : Cond.selects RX2 yX2_latestFor yX2_latestFor ∈ big := big_i 1 (by decide +kernel) rfl
theorem m_2 : Cond.selects RX3 yX3_urgencyOf yX3_urgencyOf ∈ big := big_i 2 (by decide +kernel) rfl
theorem m_3 : Cond.selects RX3 yX3_worthOf yX3_worthOf ∈ big := big_i 3 (by decide +kernel) rfl
theorem m_4 : Cond.selects RX3 yX3_bookOf yX3_bookOf ∈ big := big_i 4 (by decide +kernel) rfl
theorem m_5 : Cond.selects RX3 yX3_signedSheetFor yX3_signedSheetFor ∈ big := big_i 5 (by decide +kernel) rfl
theorem m_6 : Cond.selects RX0 yX0_hasSign yX0_hasSign ∈ big := big_i 6 (by decide +kernel) rfl
theorem m_7 : Cond.selects RX3 yX3_isStronger yX3_isStronger ∈ big := big_i 7 (by decide +kernel) rfl
theorem m_8 : Cond.selects RX1 yX1_brought yX1_brought ∈ big := big_i 8 (by decide +kernel) rfl
theorem m_10 : Cond.selects RX1 yX1_add yX1_add ∈ big := big_i 10 (by decide +kernel) rfl
theorem m_11 : Cond.selects RX2 yX2_add yX2_add ∈ big := big_i 11 (by decide +kernel) rfl
theorem m_12 : Cond.selects RX0 yX0_agrees yX0_agrees ∈ big := big_i 12 (by decide +kernel) rfl
theorem m_13 : Cond.selects RX0 yX0_isCountedBy yX0_isCountedBy ∈ big := big_i 13 (by decide +kernel) rfl
theorem m_14 : Cond.selects RX0 yX0_add yX0_add ∈ big := big_i 14 (by decide +kernel) rfl
theorem m_15 : Cond.selects RX0 yX0_countsOn yX0_countsOn ∈ big := big_i 15 (by decide +kernel) rfl
theorem m_16 : Cond.selects RX3 yX3_checkAgrees yX3_checkAgrees ∈ big := big_i 16 (by decide +kernel) rfl
theorem m_17 : Cond.selects RX3 yX3_isSignable yX3_isSignable ∈ big := big_i 17 (by decide +kernel) rfl
theorem m_18 : Cond.selects RX3 yX3_gapOf yX3_gapOf ∈ big := big_i 18 (by decide +kernel) rfl
theorem m_19 : Cond.selects RX0 yX0_write yX0_write ∈ big := big_i 19 (by decide +kernel) rfl
theorem m_20 : Cond.selects RX3 yX3_canBeSettled yX3_canBeSettled ∈ big := big_i 20 (by decide +kernel) rfl
theorem m_21 : Cond.selects RX3 yX3_checkLine yX3_checkLine ∈ big := big_i 21 (by decide +kernel) rfl
theorem m_22 : Cond.selects RX4 yX4_goes yX4_goes ∈ big := big_i 22 (by decide +kernel) rfl
theorem m_23 : Cond.selects RX4 yX4_hasOpen yX4_hasOpen ∈ big := big_i 23 (by decide +kernel) rfl
theorem m_24 : Cond.selects RX4 yX4_isSheet yX4_isSheet ∈ big := big_i 24 (by decide +kernel) rfl
theorem m_25 : Cond.selects RX4 yX4_hasCounted yX4_hasCounted ∈ big := big_i 25 (by decide +kernel) rfl
theorem m_26 : Cond.selects RX4 yX4_agree yX4_agree ∈ big := big_i 26 (by decide +kernel) rfl
theorem m_27 : Cond.selects RX4 yX4_agrees yX4_agrees ∈ big := big_i 27 (by decide +kernel) rfl
theorem m_28 : Cond.selects RX4 yX4_gapOf yX4_gapOf ∈ big := big_i 28 (by decide +kernel) rfl
theorem m_29 : Cond.selects RX4 yX4_bookOf yX4_bookOf ∈ big := big_i 29 (by decide +kernel) rfl
theorem m_30 : Cond.selects RX4 yX4_signs yX4_signs ∈ big := big_i 30 (by decide +kernel) rfl
theorem m_31 : Cond.selects RX4 yX4_canSettle yX4_canSettle ∈ big := big_i 31 (by decide +kernel) rfl
theorem m_32 : Cond.selects RX4 yX4_told yX4_told ∈ big := big_i 32 (by decide +kernel) rfl
theorem m_33 : Cond.selects RX4 yX4_worthOf yX4_worthOf ∈ big := big_i 33 (by decide +kernel) rfl
theorem m_34 : Cond.initialized RL ∈ big := big_i 34 (by decide +kernel) rfl
theorem m_35 : Cond.initialized RX3 ∈ big := big_i 35 (by decide +kernel) rfl
theorem m_36 : Cond.initialized RX1 ∈ big := big_i 36 (by decide +kernel) rfl
theorem m_37 : Cond.initialized RX2 ∈ big := big_i 37 (by decide +kernel) rfl
theorem m_38 : Cond.initialized RX0 ∈ big := big_i 38 (by decide +kernel) rfl
theorem m_39 : Cond.initialized "java/util/Arrays" ∈ big := big_i 39 (by decide +kernel) rfl
theorem m_40 : Cond.initialized RX4 ∈ big := big_i 40 (by decide +kernel) rfl
theorem m_41 : Cond.initialized "java/lang/Throwable" ∈ big := big_i 41 (by decide +kernel) rfl
theorem m_42 : Cond.initialized "java/lang/Exception" ∈ big := big_i 42 (by decide +kernel) rfl
theorem m_43 : Cond.initialized "java/lang/RuntimeException" ∈ big := big_i 43 (by decide +kernel) rfl
theorem m_44 : Cond.initialized "java/lang/IndexOutOfBoundsException" ∈ big := big_i 44 (by decide +kernel) rfl
theorem m_45 : Cond.initialized "java/lang/IllegalArgumentException" ∈ big := big_i 45 (by decide +kernel) rfl
theorem m_46 : Cond.initialized "java/lang/IllegalStateException" ∈ big := big_i 46 (by decide +kernel) rfl
theorem m_47 : Cond.initialized "java/lang/Integer" ∈ big := big_i 47 (by decide +kernel) rfl
theorem m_48 : Cond.initialized "java/lang/Math" ∈ big := big_i 48 (by decide +kernel) rfl
theorem m_49 : Cond.initialized "java/util/NoSuchElementException" ∈ big := big_i 49 (by decide +kernel) rfl
theorem m_50 : Cond.classLink RL 8 RX3 ∈ big := big_i 50 (by decide +kernel) rfl
theorem m_51 : Cond.instantiable RX3 6 ∈ big := big_i 51 (by decide +kernel) rfl
theorem m_52 : Cond.methodLink RL 83 yX3_init ∈ big := big_i 52 (by decide +kernel) rfl
theorem m_53 : Cond.instanceMethod yX3_init ∈ big := big_i 53 (by decide +kernel) rfl
theorem m_54 : Cond.code yX3_init cX3_init 1 none ∈ big := big_i 54 (by decide +kernel) rfl
theorem m_55 : Cond.methodLink RX3 3 objectInit ∈ big := big_i 55 (by decide +kernel) rfl
theorem m_56 : Cond.instanceMethod objectInit ∈ big := big_i 56 (by decide +kernel) rfl
theorem m_57 : Cond.code objectInit ⟨#[0xb1]⟩ 1 none ∈ big := big_i 57 (by decide +kernel) rfl
theorem m_58 : Cond.classLink RX3 16 RX1 ∈ big := big_i 58 (by decide +kernel) rfl
theorem m_59 : Cond.instantiable RX1 6 ∈ big := big_i 59 (by decide +kernel) rfl
theorem n_60 : Cond.methodLinkNest RX3 18 yX1_init "CountSheets" ∈ lw_tbl := List.mem_of_getElem? (i := 60) (by decide +kernel)
theorem m_61 : Cond.instanceMethod yX1_init ∈ big := big_i 61 (by decide +kernel) rfl
theorem m_62 : Cond.code yX1_init cX1_init 1 none ∈ big := big_i 62 (by decide +kernel) rfl
theorem m_63 : Cond.methodLink RX1 3 objectInit ∈ big := big_i 63 (by decide +kernel) rfl
theorem m_64 : Cond.fieldLink RX1 9 "CountSheets$MoveRows" "from" "[I" ∈ big := big_i 64 (by decide +kernel) rfl
theorem m_65 : Cond.fieldLink RX1 15 "CountSheets$MoveRows" "to" "[I" ∈ big := big_i 65 (by decide +kernel) rfl
theorem m_66 : Cond.fieldLink RX1 18 "CountSheets$MoveRows" "article" "[I" ∈ big := big_i 66 (by decide +kernel) rfl
theorem m_67 : Cond.fieldLink RX1 21 "CountSheets$MoveRows" "quantity" "[I" ∈ big := big_i 67 (by decide +kernel) rfl
theorem m_68 : Cond.fieldLink RX1 24 "CountSheets$MoveRows" "minute" "[I" ∈ big := big_i 68 (by decide +kernel) rfl
theorem m_69 : Cond.fieldLink RX1 27 "CountSheets$MoveRows" "size" "I" ∈ big := big_i 69 (by decide +kernel) rfl
theorem n_70 : Cond.fieldLinkNest RX3 67 "CountSheets$MoveRows" "size" "I" "CountSheets" ∈ lw_tbl := List.mem_of_getElem? (i := 70) (by decide +kernel)
theorem m_84 : Cond.arrayClass .int ∈ big := big_i 84 (by decide +kernel) rfl
theorem m_85 : Cond.classLink RX3 23 RX2 ∈ big := big_i 85 (by decide +kernel) rfl
theorem m_86 : Cond.instantiable RX2 4 ∈ big := big_i 86 (by decide +kernel) rfl
theorem n_87 : Cond.methodLinkNest RX3 25 yX2_init "CountSheets" ∈ lw_tbl := List.mem_of_getElem? (i := 87) (by decide +kernel)
theorem m_88 : Cond.instanceMethod yX2_init ∈ big := big_i 88 (by decide +kernel) rfl
theorem m_89 : Cond.code yX2_init cX2_init 1 none ∈ big := big_i 89 (by decide +kernel) rfl
theorem m_90 : Cond.methodLink RX2 3 objectInit ∈ big := big_i 90 (by decide +kernel) rfl
theorem m_91 : Cond.fieldLink RX2 9 "CountSheets$SheetRows" "place" "[I" ∈ big := big_i 91 (by decide +kernel) rfl
theorem n_92 : Cond.fieldLinkNest RX3 170 "CountSheets$SheetRows" "place" "[I" "CountSheets" ∈ lw_tbl := List.mem_of_getElem? (i := 92) (by decide +kernel)
theorem m_93 : Cond.fieldLink RX2 15 "CountSheets$SheetRows" "cut" "[I" ∈ big := big_i 93 (by decide +kernel) rfl
theorem n_94 : Cond.fieldLinkNest RX3 158 "CountSheets$SheetRows" "cut" "[I" "CountSheets" ∈ lw_tbl := List.mem_of_getElem? (i := 94) (by decide +kernel)
theorem m_95 : Cond.fieldLink RX2 18 "CountSheets$SheetRows" "closed" "[Z" ∈ big := big_i 95 (by decide +kernel) rfl
theorem n_96 : Cond.fieldLinkNest RX3 95 "CountSheets$SheetRows" "closed" "[Z" "CountSheets" ∈ lw_tbl := List.mem_of_getElem? (i := 96) (by decide +kernel)
theorem m_97 : Cond.fieldLink RX2 22 "CountSheets$SheetRows" "size" "I" ∈ big := big_i 97 (by decide +kernel) rfl
theorem n_98 : Cond.fieldLinkNest RX3 85 "CountSheets$SheetRows" "size" "I" "CountSheets" ∈ lw_tbl := List.mem_of_getElem? (i := 98) (by decide +kernel)
theorem m_108 : Cond.arrayClass .boolean ∈ big := big_i 108 (by decide +kernel) rfl
theorem m_109 : Cond.classLink RX3 30 RX0 ∈ big := big_i 109 (by decide +kernel) rfl
theorem m_110 : Cond.instantiable RX0 7 ∈ big := big_i 110 (by decide +kernel) rfl
theorem n_111 : Cond.methodLinkNest RX3 32 yX0_init "CountSheets" ∈ lw_tbl := List.mem_of_getElem? (i := 111) (by decide +kernel)
theorem m_112 : Cond.instanceMethod yX0_init ∈ big := big_i 112 (by decide +kernel) rfl
theorem m_113 : Cond.code yX0_init cX0_init 1 none ∈ big := big_i 113 (by decide +kernel) rfl
theorem m_114 : Cond.methodLink RX0 3 objectInit ∈ big := big_i 114 (by decide +kernel) rfl
theorem m_115 : Cond.methodLink RX0 34 yJ7_fill_53178 ∈ big := big_i 115 (by decide +kernel) rfl
theorem m_116 : Cond.static yJ7_fill_53178 ∈ big := big_i 116 (by decide +kernel) rfl
theorem m_117 : Cond.code yJ7_fill_53178 cJ7_fill_53178 4 none ∈ big := big_i 117 (by decide +kernel) rfl
theorem m_118 : Cond.fieldLink RX0 11 "CountSheets$LineRows" "persons" "[I" ∈ big := big_i 118 (by decide +kernel) rfl
theorem m_119 : Cond.fieldLink RX0 15 "CountSheets$LineRows" "first" "[I" ∈ big := big_i 119 (by decide +kernel) rfl
theorem m_120 : Cond.fieldLink RX0 18 "CountSheets$LineRows" "second" "[I" ∈ big := big_i 120 (by decide +kernel) rfl
theorem m_121 : Cond.fieldLink RX0 21 "CountSheets$LineRows" "agreement" "[I" ∈ big := big_i 121 (by decide +kernel) rfl
theorem n_122 : Cond.fieldLinkNest RX3 164 "CountSheets$LineRows" "agreement" "[I" "CountSheets" ∈ lw_tbl := List.mem_of_getElem? (i := 122) (by decide +kernel)
theorem m_123 : Cond.fieldLink RX0 24 "CountSheets$LineRows" "signature" "[I" ∈ big := big_i 123 (by decide +kernel) rfl
theorem n_124 : Cond.fieldLinkNest RX3 198 "CountSheets$LineRows" "signature" "[I" "CountSheets" ∈ lw_tbl := List.mem_of_getElem? (i := 124) (by decide +kernel)
theorem m_125 : Cond.fieldLink RX0 27 "CountSheets$LineRows" "signedGap" "[I" ∈ big := big_i 125 (by decide +kernel) rfl
theorem n_126 : Cond.fieldLinkNest RX3 173 "CountSheets$LineRows" "signedGap" "[I" "CountSheets" ∈ lw_tbl := List.mem_of_getElem? (i := 126) (by decide +kernel)
theorem m_127 : Cond.fieldLink RX0 30 "CountSheets$LineRows" "signatures" "I" ∈ big := big_i 127 (by decide +kernel) rfl
theorem m_143 : Cond.methodLink RX3 41 yJ7_fill_53178 ∈ big := big_i 143 (by decide +kernel) rfl
theorem m_144 : Cond.fieldLink RX3 9 "CountSheets" "prices" "[I" ∈ big := big_i 144 (by decide +kernel) rfl
theorem m_145 : Cond.fieldLink RX3 13 "CountSheets" "bounds" "[I" ∈ big := big_i 145 (by decide +kernel) rfl
theorem m_146 : Cond.fieldLink RX3 19 "CountSheets" "moveRows" "LCountSheets$MoveRows;" ∈ big := big_i 146 (by decide +kernel) rfl
theorem m_147 : Cond.fieldLink RX3 26 "CountSheets" "sheetRows" "LCountSheets$SheetRows;" ∈ big := big_i 147 (by decide +kernel) rfl
theorem m_148 : Cond.fieldLink RX3 33 "CountSheets" "lineRows" "LCountSheets$LineRows;" ∈ big := big_i 148 (by decide +kernel) rfl
theorem m_149 : Cond.fieldLink RX3 37 "CountSheets" "minuteNow" "I" ∈ big := big_i 149 (by decide +kernel) rfl
theorem m_163 : Cond.methodLink RL 125 yX3_now ∈ big := big_i 163 (by decide +kernel) rfl
theorem m_164 : Cond.instanceMethod yX3_now ∈ big := big_i 164 (by decide +kernel) rfl
theorem m_165 : Cond.selects RX3 yX3_now yX3_now ∈ big := big_i 165 (by decide +kernel) rfl
theorem m_166 : Cond.code yX3_now cX3_now 1 (some .int) ∈ big := big_i 166 (by decide +kernel) rfl
theorem m_167 : Cond.methodLink RL 129 yX3_moves ∈ big := big_i 167 (by decide +kernel) rfl
theorem m_168 : Cond.instanceMethod yX3_moves ∈ big := big_i 168 (by decide +kernel) rfl
theorem m_169 : Cond.selects RX3 yX3_moves yX3_moves ∈ big := big_i 169 (by decide +kernel) rfl
theorem m_170 : Cond.code yX3_moves cX3_moves 1 (some .int) ∈ big := big_i 170 (by decide +kernel) rfl
theorem m_171 : Cond.methodLink RL 142 yX3_suggested ∈ big := big_i 171 (by decide +kernel) rfl
theorem m_172 : Cond.instanceMethod yX3_suggested ∈ big := big_i 172 (by decide +kernel) rfl
theorem m_173 : Cond.selects RX3 yX3_suggested yX3_suggested ∈ big := big_i 173 (by decide +kernel) rfl
theorem m_174 : Cond.code yX3_suggested cX3_suggested 7 (some .int) ∈ big := big_i 174 (by decide +kernel) rfl
theorem n_175 : Cond.methodLinkNest RX3 79 yX2_isOpenFor "CountSheets" ∈ lw_tbl := List.mem_of_getElem? (i := 175) (by decide +kernel)
theorem m_177 : Cond.instanceMethod yX2_isOpenFor ∈ big := big_i 177 (by decide +kernel) rfl
theorem m_178 : Cond.code yX2_isOpenFor cX2_isOpenFor 3 (some .boolean) ∈ big := big_i 178 (by decide +kernel) rfl
theorem m_179 : Cond.methodLink RX2 26 yX2_latestFor ∈ big := big_i 179 (by decide +kernel) rfl
theorem m_181 : Cond.instanceMethod yX2_latestFor ∈ big := big_i 181 (by decide +kernel) rfl
theorem m_182 : Cond.code yX2_latestFor cX2_latestFor 3 (some .int) ∈ big := big_i 182 (by decide +kernel) rfl
theorem m_183 : Cond.methodLink RX3 154 yX3_urgencyOf ∈ big := big_i 183 (by decide +kernel) rfl
theorem m_185 : Cond.instanceMethod yX3_urgencyOf ∈ big := big_i 185 (by decide +kernel) rfl
theorem m_186 : Cond.code yX3_urgencyOf cX3_urgencyOf 5 (some .long) ∈ big := big_i 186 (by decide +kernel) rfl
theorem n_187 : Cond.methodLinkNest RX3 204 yX2_latestFor "CountSheets" ∈ lw_tbl := List.mem_of_getElem? (i := 187) (by decide +kernel)
theorem m_188 : Cond.methodLink RX3 151 yX3_worthOf ∈ big := big_i 188 (by decide +kernel) rfl
theorem m_190 : Cond.instanceMethod yX3_worthOf ∈ big := big_i 190 (by decide +kernel) rfl
theorem m_191 : Cond.code yX3_worthOf cX3_worthOf 4 (some .int) ∈ big := big_i 191 (by decide +kernel) rfl
theorem m_192 : Cond.methodLink RX3 147 yX3_bookOf ∈ big := big_i 192 (by decide +kernel) rfl
theorem m_194 : Cond.instanceMethod yX3_bookOf ∈ big := big_i 194 (by decide +kernel) rfl
theorem m_195 : Cond.code yX3_bookOf cX3_bookOf 6 (some .int) ∈ big := big_i 195 (by decide +kernel) rfl
theorem m_196 : Cond.methodLink RX3 188 yX3_signedSheetFor ∈ big := big_i 196 (by decide +kernel) rfl
theorem m_198 : Cond.instanceMethod yX3_signedSheetFor ∈ big := big_i 198 (by decide +kernel) rfl
theorem m_199 : Cond.code yX3_signedSheetFor cX3_signedSheetFor 6 (some .int) ∈ big := big_i 199 (by decide +kernel) rfl
theorem m_200 : Cond.methodLink RX3 92 yX3_lineOf ∈ big := big_i 200 (by decide +kernel) rfl
theorem m_201 : Cond.static yX3_lineOf ∈ big := big_i 201 (by decide +kernel) rfl
theorem m_202 : Cond.code yX3_lineOf cX3_lineOf 2 (some .int) ∈ big := big_i 202 (by decide +kernel) rfl
theorem n_203 : Cond.methodLinkNest RX3 167 yX0_hasSign "CountSheets" ∈ lw_tbl := List.mem_of_getElem? (i := 203) (by decide +kernel)
theorem m_205 : Cond.instanceMethod yX0_hasSign ∈ big := big_i 205 (by decide +kernel) rfl
theorem m_206 : Cond.code yX0_hasSign cX0_hasSign 2 (some .boolean) ∈ big := big_i 206 (by decide +kernel) rfl
theorem m_207 : Cond.methodLink RX3 195 yX3_isStronger ∈ big := big_i 207 (by decide +kernel) rfl
theorem m_209 : Cond.instanceMethod yX3_isStronger ∈ big := big_i 209 (by decide +kernel) rfl
theorem m_210 : Cond.code yX3_isStronger cX3_isStronger 4 (some .boolean) ∈ big := big_i 210 (by decide +kernel) rfl
theorem n_211 : Cond.methodLinkNest RX3 191 yX1_brought "CountSheets" ∈ lw_tbl := List.mem_of_getElem? (i := 211) (by decide +kernel)
theorem m_213 : Cond.instanceMethod yX1_brought ∈ big := big_i 213 (by decide +kernel) rfl
theorem m_214 : Cond.code yX1_brought cX1_brought 7 (some .int) ∈ big := big_i 214 (by decide +kernel) rfl
theorem m_215 : Cond.methodLink RX3 201 yJ9_max_7cf53 ∈ big := big_i 215 (by decide +kernel) rfl
theorem m_216 : Cond.static yJ9_max_7cf53 ∈ big := big_i 216 (by decide +kernel) rfl
theorem m_217 : Cond.code yJ9_max_7cf53 cJ9_max_7cf53 2 (some .int) ∈ big := big_i 217 (by decide +kernel) rfl
theorem m_218 : Cond.methodLink RL 146 yX3_sheets ∈ big := big_i 218 (by decide +kernel) rfl
theorem m_219 : Cond.instanceMethod yX3_sheets ∈ big := big_i 219 (by decide +kernel) rfl
theorem m_220 : Cond.selects RX3 yX3_sheets yX3_sheets ∈ big := big_i 220 (by decide +kernel) rfl
theorem m_221 : Cond.code yX3_sheets cX3_sheets 1 (some .int) ∈ big := big_i 221 (by decide +kernel) rfl
theorem m_222 : Cond.methodLink RL 87 yL_setPrice ∈ big := big_i 222 (by decide +kernel) rfl
theorem m_223 : Cond.static yL_setPrice ∈ big := big_i 223 (by decide +kernel) rfl
theorem m_224 : Cond.codeWith yL_setPrice cL_setPrice 5 (some .int) [(0, 10, 13, 13), (0, 10, 17, 15)] ∈ big := big_i 224 (by decide +kernel) rfl
theorem m_225 : Cond.classLink RL 13 "java/lang/IndexOutOfBoundsException" ∈ big := big_i 225 (by decide +kernel) rfl
theorem m_226 : Cond.classLink RL 15 "java/lang/IllegalArgumentException" ∈ big := big_i 226 (by decide +kernel) rfl
theorem m_227 : Cond.methodLink RL 7 yX3_setPrice ∈ big := big_i 227 (by decide +kernel) rfl
theorem m_228 : Cond.instanceMethod yX3_setPrice ∈ big := big_i 228 (by decide +kernel) rfl
theorem m_229 : Cond.selects RX3 yX3_setPrice yX3_setPrice ∈ big := big_i 229 (by decide +kernel) rfl
theorem m_230 : Cond.code yX3_setPrice cX3_setPrice 4 (some .int) ∈ big := big_i 230 (by decide +kernel) rfl
theorem m_231 : Cond.methodLink RX3 47 yX3_checkIndex ∈ big := big_i 231 (by decide +kernel) rfl
theorem m_232 : Cond.static yX3_checkIndex ∈ big := big_i 232 (by decide +kernel) rfl
theorem m_233 : Cond.code yX3_checkIndex cX3_checkIndex 2 none ∈ big := big_i 233 (by decide +kernel) rfl
theorem m_234 : Cond.classLink RX3 176 "java/lang/IndexOutOfBoundsException" ∈ big := big_i 234 (by decide +kernel) rfl
theorem m_235 : Cond.instantiable "java/lang/IndexOutOfBoundsException" 6 ∈ big := big_i 235 (by decide +kernel) rfl
theorem n_236 : Cond.castable "java/lang/IndexOutOfBoundsException" "java/lang/IndexOutOfBoundsException" ∈ lw_tbl := List.mem_of_getElem? (i := 236) (by decide +kernel)
theorem m_255 : Cond.fieldLink "java/lang/Throwable" 198 "java/lang/Throwable" "backtrace" "Ljava/lang/Object;" ∈ big := big_i 255 (by decide +kernel) rfl
theorem m_259 : Cond.methodLink "java/lang/Throwable" 1 objectInit ∈ big := big_i 259 (by decide +kernel) rfl
theorem m_260 : Cond.fieldLink "java/lang/Throwable" 13 "java/lang/Throwable" "UNASSIGNED_STACK" "[Ljava/lang/StackTraceElement;" ∈ big := big_i 260 (by decide +kernel) rfl
theorem m_262 : Cond.fieldLink "java/lang/Throwable" 20 "java/lang/Throwable" "SUPPRESSED_SENTINEL" "Ljava/util/List;" ∈ big := big_i 262 (by decide +kernel) rfl
theorem m_274 : Cond.instantiable "java/lang/Throwable" 6 ∈ big := big_i 274 (by decide +kernel) rfl
theorem n_276 : Cond.stringRef RX3 178 "there is no such place, zone, article, person or sheet" ∈ lw_tbl := List.mem_of_getElem? (i := 276) (by decide +kernel)
theorem m_289 : Cond.fieldLink "java/lang/Throwable" 198 "java/lang/Throwable" "backtrace" "Ljava/lang/Object;" ∈ big := big_i 289 (by decide +kernel) rfl
theorem m_290 : Cond.fieldLink "java/lang/Throwable" 31 "java/lang/Throwable" "detailMessage" "Ljava/lang/String;" ∈ big := big_i 290 (by decide +kernel) rfl
theorem m_291 : Cond.fieldLink "java/lang/Throwable" 7 "java/lang/Throwable" "cause" "Ljava/lang/Throwable;" ∈ big := big_i 291 (by decide +kernel) rfl
theorem m_292 : Cond.fieldLink "java/lang/Throwable" 17 "java/lang/Throwable" "stackTrace" "[Ljava/lang/StackTraceElement;" ∈ big := big_i 292 (by decide +kernel) rfl
theorem m_293 : Cond.fieldLink "java/lang/Throwable" 24 "java/lang/Throwable" "suppressedExceptions" "Ljava/util/List;" ∈ big := big_i 293 (by decide +kernel) rfl
theorem m_303 : Cond.methodLink RX3 51 yX3_checkRange ∈ big := big_i 303 (by decide +kernel) rfl
theorem m_304 : Cond.static yX3_checkRange ∈ big := big_i 304 (by decide +kernel) rfl
theorem m_305 : Cond.code yX3_checkRange cX3_checkRange 3 none ∈ big := big_i 305 (by decide +kernel) rfl
theorem m_306 : Cond.classLink RX3 60 "java/lang/IllegalArgumentException" ∈ big := big_i 306 (by decide +kernel) rfl
theorem m_307 : Cond.instantiable "java/lang/IllegalArgumentException" 6 ∈ big := big_i 307 (by decide +kernel) rfl
theorem n_308 : Cond.castable "java/lang/IllegalArgumentException" "java/lang/IllegalArgumentException" ∈ lw_tbl := List.mem_of_getElem? (i := 308) (by decide +kernel)
theorem n_315 : Cond.stringRef RX3 181 "an argument is out of its range" ∈ lw_tbl := List.mem_of_getElem? (i := 315) (by decide +kernel)
theorem m_322 : Cond.methodLink RL 97 yL_setBound ∈ big := big_i 322 (by decide +kernel) rfl
theorem m_323 : Cond.static yL_setBound ∈ big := big_i 323 (by decide +kernel) rfl
theorem m_324 : Cond.codeWith yL_setBound cL_setBound 5 (some .int) [(0, 10, 13, 13), (0, 10, 17, 15)] ∈ big := big_i 324 (by decide +kernel) rfl
theorem m_325 : Cond.methodLink RL 17 yX3_setBound ∈ big := big_i 325 (by decide +kernel) rfl
theorem m_326 : Cond.instanceMethod yX3_setBound ∈ big := big_i 326 (by decide +kernel) rfl
theorem m_327 : Cond.selects RX3 yX3_setBound yX3_setBound ∈ big := big_i 327 (by decide +kernel) rfl
theorem m_328 : Cond.code yX3_setBound cX3_setBound 4 (some .int) ∈ big := big_i 328 (by decide +kernel) rfl
theorem m_329 : Cond.constant RX3 55 (1000000) ∈ big := big_i 329 (by decide +kernel) rfl
theorem m_330 : Cond.methodLink RL 100 yL_move ∈ big := big_i 330 (by decide +kernel) rfl
theorem m_331 : Cond.static yL_move ∈ big := big_i 331 (by decide +kernel) rfl
theorem m_332 : Cond.codeWith yL_move cL_move 8 (some .int) [(0, 16, 19, 13), (0, 16, 23, 15), (0, 16, 27, 24)] ∈ big := big_i 332 (by decide +kernel) rfl
theorem m_333 : Cond.classLink RL 24 "java/lang/IllegalStateException" ∈ big := big_i 333 (by decide +kernel) rfl
theorem m_334 : Cond.methodLink RL 20 yX3_move ∈ big := big_i 334 (by decide +kernel) rfl
theorem m_335 : Cond.instanceMethod yX3_move ∈ big := big_i 335 (by decide +kernel) rfl
theorem m_336 : Cond.selects RX3 yX3_move yX3_move ∈ big := big_i 336 (by decide +kernel) rfl
theorem m_337 : Cond.code yX3_move cX3_move 6 (some .int) ∈ big := big_i 337 (by decide +kernel) rfl
theorem m_338 : Cond.methodLink RX3 56 yX3_checkPlaceOrOutside ∈ big := big_i 338 (by decide +kernel) rfl
theorem m_339 : Cond.static yX3_checkPlaceOrOutside ∈ big := big_i 339 (by decide +kernel) rfl
theorem m_340 : Cond.code yX3_checkPlaceOrOutside cX3_checkPlaceOrOutside 1 none ∈ big := big_i 340 (by decide +kernel) rfl
theorem n_341 : Cond.stringRef RX3 62 "from and to are the same" ∈ lw_tbl := List.mem_of_getElem? (i := 341) (by decide +kernel)
theorem m_342 : Cond.classLink RX3 70 "java/lang/IllegalStateException" ∈ big := big_i 342 (by decide +kernel) rfl
theorem m_343 : Cond.instantiable "java/lang/IllegalStateException" 6 ∈ big := big_i 343 (by decide +kernel) rfl
theorem n_344 : Cond.castable "java/lang/IllegalStateException" "java/lang/IllegalStateException" ∈ lw_tbl := List.mem_of_getElem? (i := 344) (by decide +kernel)
theorem n_351 : Cond.stringRef RX3 72 "there are 200 moves" ∈ lw_tbl := List.mem_of_getElem? (i := 351) (by decide +kernel)
theorem n_358 : Cond.methodLinkNest RX3 75 yX1_add "CountSheets" ∈ lw_tbl := List.mem_of_getElem? (i := 358) (by decide +kernel)
theorem m_360 : Cond.instanceMethod yX1_add ∈ big := big_i 360 (by decide +kernel) rfl
theorem m_361 : Cond.code yX1_add cX1_add 7 (some .int) ∈ big := big_i 361 (by decide +kernel) rfl
theorem m_362 : Cond.methodLink RL 104 yL_pass ∈ big := big_i 362 (by decide +kernel) rfl
theorem m_363 : Cond.static yL_pass ∈ big := big_i 363 (by decide +kernel) rfl
theorem m_364 : Cond.codeWith yL_pass cL_pass 4 (some .int) [(0, 9, 12, 15)] ∈ big := big_i 364 (by decide +kernel) rfl
theorem m_365 : Cond.methodLink RL 26 yX3_pass ∈ big := big_i 365 (by decide +kernel) rfl
theorem m_366 : Cond.instanceMethod yX3_pass ∈ big := big_i 366 (by decide +kernel) rfl
theorem m_367 : Cond.selects RX3 yX3_pass yX3_pass ∈ big := big_i 367 (by decide +kernel) rfl
theorem m_368 : Cond.code yX3_pass cX3_pass 2 (some .int) ∈ big := big_i 368 (by decide +kernel) rfl
theorem m_369 : Cond.methodLink RL 108 yL_open ∈ big := big_i 369 (by decide +kernel) rfl
theorem m_370 : Cond.static yL_open ∈ big := big_i 370 (by decide +kernel) rfl
theorem m_371 : Cond.codeWith yL_open cL_open 4 (some .int) [(0, 9, 12, 13), (0, 9, 15, 24)] ∈ big := big_i 371 (by decide +kernel) rfl
theorem m_372 : Cond.methodLink RL 30 yX3_open ∈ big := big_i 372 (by decide +kernel) rfl
theorem m_373 : Cond.instanceMethod yX3_open ∈ big := big_i 373 (by decide +kernel) rfl
theorem m_374 : Cond.selects RX3 yX3_open yX3_open ∈ big := big_i 374 (by decide +kernel) rfl
theorem m_375 : Cond.code yX3_open cX3_open 2 (some .int) ∈ big := big_i 375 (by decide +kernel) rfl
theorem n_376 : Cond.stringRef RX3 83 "there is an OPEN sheet for the place" ∈ lw_tbl := List.mem_of_getElem? (i := 376) (by decide +kernel)
theorem n_377 : Cond.stringRef RX3 86 "there are 40 sheets" ∈ lw_tbl := List.mem_of_getElem? (i := 377) (by decide +kernel)
theorem n_378 : Cond.methodLinkNest RX3 88 yX2_add "CountSheets" ∈ lw_tbl := List.mem_of_getElem? (i := 378) (by decide +kernel)
theorem m_380 : Cond.instanceMethod yX2_add ∈ big := big_i 380 (by decide +kernel) rfl
theorem m_381 : Cond.code yX2_add cX2_add 4 (some .int) ∈ big := big_i 381 (by decide +kernel) rfl
theorem m_382 : Cond.methodLink RL 111 yL_count ∈ big := big_i 382 (by decide +kernel) rfl
theorem m_383 : Cond.static yL_count ∈ big := big_i 383 (by decide +kernel) rfl
theorem m_384 : Cond.codeWith yL_count cL_count 7 (some .int) [(0, 21, 24, 13), (0, 21, 28, 15), (0, 21, 32, 24)] ∈ big := big_i 384 (by decide +kernel) rfl
theorem m_385 : Cond.methodLink RL 33 yX3_count ∈ big := big_i 385 (by decide +kernel) rfl
theorem m_386 : Cond.instanceMethod yX3_count ∈ big := big_i 386 (by decide +kernel) rfl
theorem m_387 : Cond.selects RX3 yX3_count yX3_count ∈ big := big_i 387 (by decide +kernel) rfl
theorem m_388 : Cond.code yX3_count cX3_count 6 (some .boolean) ∈ big := big_i 388 (by decide +kernel) rfl
theorem m_389 : Cond.constant RX3 91 (100000) ∈ big := big_i 389 (by decide +kernel) rfl
theorem n_390 : Cond.stringRef RX3 99 "the sheet is not OPEN" ∈ lw_tbl := List.mem_of_getElem? (i := 390) (by decide +kernel)
theorem n_391 : Cond.methodLinkNest RX3 101 yX0_agrees "CountSheets" ∈ lw_tbl := List.mem_of_getElem? (i := 391) (by decide +kernel)
theorem m_393 : Cond.instanceMethod yX0_agrees ∈ big := big_i 393 (by decide +kernel) rfl
theorem m_394 : Cond.code yX0_agrees cX0_agrees 2 (some .boolean) ∈ big := big_i 394 (by decide +kernel) rfl
theorem n_395 : Cond.stringRef RX3 104 "the counts agree already" ∈ lw_tbl := List.mem_of_getElem? (i := 395) (by decide +kernel)
theorem n_396 : Cond.methodLinkNest RX3 106 yX0_isCountedBy "CountSheets" ∈ lw_tbl := List.mem_of_getElem? (i := 396) (by decide +kernel)
theorem m_398 : Cond.instanceMethod yX0_isCountedBy ∈ big := big_i 398 (by decide +kernel) rfl
theorem m_399 : Cond.code yX0_isCountedBy cX0_isCountedBy 3 (some .boolean) ∈ big := big_i 399 (by decide +kernel) rfl
theorem n_400 : Cond.stringRef RX3 110 "the person has counted the article on the sheet" ∈ lw_tbl := List.mem_of_getElem? (i := 400) (by decide +kernel)
theorem n_401 : Cond.methodLinkNest RX3 112 yX0_add "CountSheets" ∈ lw_tbl := List.mem_of_getElem? (i := 401) (by decide +kernel)
theorem m_403 : Cond.instanceMethod yX0_add ∈ big := big_i 403 (by decide +kernel) rfl
theorem m_404 : Cond.code yX0_add cX0_add 5 none ∈ big := big_i 404 (by decide +kernel) rfl
theorem m_405 : Cond.methodLink RX0 46 yX0_countsOn ∈ big := big_i 405 (by decide +kernel) rfl
theorem m_407 : Cond.instanceMethod yX0_countsOn ∈ big := big_i 407 (by decide +kernel) rfl
theorem m_408 : Cond.code yX0_countsOn cX0_countsOn 2 (some .int) ∈ big := big_i 408 (by decide +kernel) rfl
theorem m_409 : Cond.methodLink RX0 40 yJ6_bitCount_0f7a4 ∈ big := big_i 409 (by decide +kernel) rfl
theorem m_410 : Cond.static yJ6_bitCount_0f7a4 ∈ big := big_i 410 (by decide +kernel) rfl
theorem m_411 : Cond.code yJ6_bitCount_0f7a4 cJ6_bitCount_0f7a4 1 (some .int) ∈ big := big_i 411 (by decide +kernel) rfl
theorem m_412 : Cond.constant "java/lang/Integer" 265 (1431655765) ∈ big := big_i 412 (by decide +kernel) rfl
theorem m_413 : Cond.constant "java/lang/Integer" 266 (858993459) ∈ big := big_i 413 (by decide +kernel) rfl
theorem m_414 : Cond.constant "java/lang/Integer" 267 (252645135) ∈ big := big_i 414 (by decide +kernel) rfl
theorem m_415 : Cond.methodLink RX0 49 yX0_middleOf ∈ big := big_i 415 (by decide +kernel) rfl
theorem m_416 : Cond.static yX0_middleOf ∈ big := big_i 416 (by decide +kernel) rfl
theorem m_417 : Cond.code yX0_middleOf cX0_middleOf 3 (some .int) ∈ big := big_i 417 (by decide +kernel) rfl
theorem m_418 : Cond.methodLink RX0 53 yJ9_min_7cf53 ∈ big := big_i 418 (by decide +kernel) rfl
theorem m_419 : Cond.static yJ9_min_7cf53 ∈ big := big_i 419 (by decide +kernel) rfl
theorem m_420 : Cond.code yJ9_min_7cf53 cJ9_min_7cf53 2 (some .int) ∈ big := big_i 420 (by decide +kernel) rfl
theorem m_421 : Cond.methodLink RX0 59 yJ9_max_7cf53 ∈ big := big_i 421 (by decide +kernel) rfl
theorem m_422 : Cond.methodLink RL 115 yL_close ∈ big := big_i 422 (by decide +kernel) rfl
theorem m_423 : Cond.static yL_close ∈ big := big_i 423 (by decide +kernel) rfl
theorem m_424 : Cond.codeWith yL_close cL_close 4 (some .int) [(0, 9, 12, 13), (0, 9, 15, 24)] ∈ big := big_i 424 (by decide +kernel) rfl
theorem m_425 : Cond.methodLink RL 37 yX3_close ∈ big := big_i 425 (by decide +kernel) rfl
theorem m_426 : Cond.instanceMethod yX3_close ∈ big := big_i 426 (by decide +kernel) rfl
theorem m_427 : Cond.selects RX3 yX3_close yX3_close ∈ big := big_i 427 (by decide +kernel) rfl
theorem m_428 : Cond.code yX3_close cX3_close 5 (some .int) ∈ big := big_i 428 (by decide +kernel) rfl
theorem n_429 : Cond.methodLinkNest RX3 114 yX0_countsOn "CountSheets" ∈ lw_tbl := List.mem_of_getElem? (i := 429) (by decide +kernel)
theorem n_430 : Cond.stringRef RX3 118 "an article was counted on the sheet without agreement" ∈ lw_tbl := List.mem_of_getElem? (i := 430) (by decide +kernel)
theorem m_431 : Cond.methodLink RL 118 yL_sign ∈ big := big_i 431 (by decide +kernel) rfl
theorem m_432 : Cond.static yL_sign ∈ big := big_i 432 (by decide +kernel) rfl
theorem m_433 : Cond.codeWith yL_sign cL_sign 6 (some .int) [(0, 12, 15, 13), (0, 12, 19, 44), (0, 12, 23, 24)] ∈ big := big_i 433 (by decide +kernel) rfl
theorem m_434 : Cond.classLink RL 44 "java/util/NoSuchElementException" ∈ big := big_i 434 (by decide +kernel) rfl
theorem m_435 : Cond.methodLink RL 40 yX3_sign ∈ big := big_i 435 (by decide +kernel) rfl
theorem m_436 : Cond.instanceMethod yX3_sign ∈ big := big_i 436 (by decide +kernel) rfl
theorem m_437 : Cond.selects RX3 yX3_sign yX3_sign ∈ big := big_i 437 (by decide +kernel) rfl
theorem m_438 : Cond.code yX3_sign cX3_sign 5 (some .int) ∈ big := big_i 438 (by decide +kernel) rfl
theorem m_439 : Cond.methodLink RX3 120 yX3_checkAgrees ∈ big := big_i 439 (by decide +kernel) rfl
theorem m_441 : Cond.instanceMethod yX3_checkAgrees ∈ big := big_i 441 (by decide +kernel) rfl
theorem m_442 : Cond.code yX3_checkAgrees cX3_checkAgrees 3 none ∈ big := big_i 442 (by decide +kernel) rfl
theorem m_443 : Cond.classLink RX3 183 "java/util/NoSuchElementException" ∈ big := big_i 443 (by decide +kernel) rfl
theorem m_444 : Cond.instantiable "java/util/NoSuchElementException" 6 ∈ big := big_i 444 (by decide +kernel) rfl
theorem n_445 : Cond.castable "java/util/NoSuchElementException" "java/util/NoSuchElementException" ∈ lw_tbl := List.mem_of_getElem? (i := 445) (by decide +kernel)
theorem n_452 : Cond.stringRef RX3 185 "the counts do not agree, or there are none" ∈ lw_tbl := List.mem_of_getElem? (i := 452) (by decide +kernel)
theorem m_459 : Cond.methodLink RX3 123 yX3_isSignable ∈ big := big_i 459 (by decide +kernel) rfl
theorem m_461 : Cond.instanceMethod yX3_isSignable ∈ big := big_i 461 (by decide +kernel) rfl
theorem m_462 : Cond.code yX3_isSignable cX3_isSignable 4 (some .boolean) ∈ big := big_i 462 (by decide +kernel) rfl
theorem n_463 : Cond.stringRef RX3 126 "the sheet is not CLOSED, or the article is signed on it" ∈ lw_tbl := List.mem_of_getElem? (i := 463) (by decide +kernel)
theorem m_464 : Cond.methodLink RX3 128 yX3_gapOf ∈ big := big_i 464 (by decide +kernel) rfl
theorem m_466 : Cond.instanceMethod yX3_gapOf ∈ big := big_i 466 (by decide +kernel) rfl
theorem m_467 : Cond.code yX3_gapOf cX3_gapOf 4 (some .int) ∈ big := big_i 467 (by decide +kernel) rfl
theorem m_468 : Cond.methodLink RX3 131 yJ9_abs_0f7a4 ∈ big := big_i 468 (by decide +kernel) rfl
theorem m_469 : Cond.static yJ9_abs_0f7a4 ∈ big := big_i 469 (by decide +kernel) rfl
theorem m_470 : Cond.code yJ9_abs_0f7a4 cJ9_abs_0f7a4 1 (some .int) ∈ big := big_i 470 (by decide +kernel) rfl
theorem n_471 : Cond.stringRef RX3 136 "the person's bound is too low" ∈ lw_tbl := List.mem_of_getElem? (i := 471) (by decide +kernel)
theorem n_472 : Cond.methodLinkNest RX3 138 yX0_write "CountSheets" ∈ lw_tbl := List.mem_of_getElem? (i := 472) (by decide +kernel)
theorem m_474 : Cond.instanceMethod yX0_write ∈ big := big_i 474 (by decide +kernel) rfl
theorem m_475 : Cond.code yX0_write cX0_write 3 none ∈ big := big_i 475 (by decide +kernel) rfl
theorem m_476 : Cond.methodLink RL 122 yL_settle ∈ big := big_i 476 (by decide +kernel) rfl
theorem m_477 : Cond.static yL_settle ∈ big := big_i 477 (by decide +kernel) rfl
theorem m_478 : Cond.codeWith yL_settle cL_settle 6 (some .int) [(0, 12, 15, 13), (0, 12, 19, 44), (0, 12, 23, 24)] ∈ big := big_i 478 (by decide +kernel) rfl
theorem m_479 : Cond.methodLink RL 46 yX3_settle ∈ big := big_i 479 (by decide +kernel) rfl
theorem m_480 : Cond.instanceMethod yX3_settle ∈ big := big_i 480 (by decide +kernel) rfl
theorem m_481 : Cond.selects RX3 yX3_settle yX3_settle ∈ big := big_i 481 (by decide +kernel) rfl
theorem m_482 : Cond.code yX3_settle cX3_settle 5 (some .int) ∈ big := big_i 482 (by decide +kernel) rfl
theorem m_483 : Cond.methodLink RX3 141 yX3_canBeSettled ∈ big := big_i 483 (by decide +kernel) rfl
theorem m_485 : Cond.instanceMethod yX3_canBeSettled ∈ big := big_i 485 (by decide +kernel) rfl
theorem m_486 : Cond.code yX3_canBeSettled cX3_canBeSettled 5 (some .boolean) ∈ big := big_i 486 (by decide +kernel) rfl
theorem n_487 : Cond.stringRef RX3 145 "the gaps cannot be settled" ∈ lw_tbl := List.mem_of_getElem? (i := 487) (by decide +kernel)
theorem m_488 : Cond.methodLink RL 133 yL_book ∈ big := big_i 488 (by decide +kernel) rfl
theorem m_489 : Cond.static yL_book ∈ big := big_i 489 (by decide +kernel) rfl
theorem m_490 : Cond.codeWith yL_book cL_book 5 (some .int) [(0, 10, 13, 13)] ∈ big := big_i 490 (by decide +kernel) rfl
theorem m_491 : Cond.methodLink RL 49 yX3_book ∈ big := big_i 491 (by decide +kernel) rfl
theorem m_492 : Cond.instanceMethod yX3_book ∈ big := big_i 492 (by decide +kernel) rfl
theorem m_493 : Cond.selects RX3 yX3_book yX3_book ∈ big := big_i 493 (by decide +kernel) rfl
theorem m_494 : Cond.code yX3_book cX3_book 3 (some .int) ∈ big := big_i 494 (by decide +kernel) rfl
theorem m_495 : Cond.methodLink RL 136 yL_bookAt ∈ big := big_i 495 (by decide +kernel) rfl
theorem m_496 : Cond.static yL_bookAt ∈ big := big_i 496 (by decide +kernel) rfl
theorem m_497 : Cond.codeWith yL_bookAt cL_bookAt 6 (some .int) [(0, 12, 15, 13), (0, 12, 19, 15)] ∈ big := big_i 497 (by decide +kernel) rfl
theorem m_498 : Cond.methodLink RL 52 yX3_bookAt ∈ big := big_i 498 (by decide +kernel) rfl
theorem m_499 : Cond.instanceMethod yX3_bookAt ∈ big := big_i 499 (by decide +kernel) rfl
theorem m_500 : Cond.selects RX3 yX3_bookAt yX3_bookAt ∈ big := big_i 500 (by decide +kernel) rfl
theorem m_501 : Cond.code yX3_bookAt cX3_bookAt 4 (some .int) ∈ big := big_i 501 (by decide +kernel) rfl
theorem m_502 : Cond.methodLink RL 139 yL_worth ∈ big := big_i 502 (by decide +kernel) rfl
theorem m_503 : Cond.static yL_worth ∈ big := big_i 503 (by decide +kernel) rfl
theorem m_504 : Cond.codeWith yL_worth cL_worth 4 (some .int) [(0, 9, 12, 13)] ∈ big := big_i 504 (by decide +kernel) rfl
theorem m_505 : Cond.methodLink RL 55 yX3_worth ∈ big := big_i 505 (by decide +kernel) rfl
theorem m_506 : Cond.instanceMethod yX3_worth ∈ big := big_i 506 (by decide +kernel) rfl
theorem m_507 : Cond.selects RX3 yX3_worth yX3_worth ∈ big := big_i 507 (by decide +kernel) rfl
theorem m_508 : Cond.code yX3_worth cX3_worth 2 (some .int) ∈ big := big_i 508 (by decide +kernel) rfl
theorem m_509 : Cond.methodLink RL 150 yL_stateOf ∈ big := big_i 509 (by decide +kernel) rfl
theorem m_510 : Cond.static yL_stateOf ∈ big := big_i 510 (by decide +kernel) rfl
theorem m_511 : Cond.codeWith yL_stateOf cL_stateOf 4 (some .int) [(0, 9, 12, 13)] ∈ big := big_i 511 (by decide +kernel) rfl
theorem m_512 : Cond.methodLink RL 58 yX3_stateOf ∈ big := big_i 512 (by decide +kernel) rfl
theorem m_513 : Cond.instanceMethod yX3_stateOf ∈ big := big_i 513 (by decide +kernel) rfl
theorem m_514 : Cond.selects RX3 yX3_stateOf yX3_stateOf ∈ big := big_i 514 (by decide +kernel) rfl
theorem m_515 : Cond.code yX3_stateOf cX3_stateOf 2 (some .int) ∈ big := big_i 515 (by decide +kernel) rfl
theorem m_516 : Cond.methodLink RL 153 yL_cutOf ∈ big := big_i 516 (by decide +kernel) rfl
theorem m_517 : Cond.static yL_cutOf ∈ big := big_i 517 (by decide +kernel) rfl
theorem m_518 : Cond.codeWith yL_cutOf cL_cutOf 4 (some .int) [(0, 9, 12, 13)] ∈ big := big_i 518 (by decide +kernel) rfl
theorem m_519 : Cond.methodLink RL 61 yX3_cutOf ∈ big := big_i 519 (by decide +kernel) rfl
theorem m_520 : Cond.instanceMethod yX3_cutOf ∈ big := big_i 520 (by decide +kernel) rfl
theorem m_521 : Cond.selects RX3 yX3_cutOf yX3_cutOf ∈ big := big_i 521 (by decide +kernel) rfl
theorem m_522 : Cond.code yX3_cutOf cX3_cutOf 2 (some .int) ∈ big := big_i 522 (by decide +kernel) rfl
theorem m_523 : Cond.methodLink RL 156 yL_counts ∈ big := big_i 523 (by decide +kernel) rfl
theorem m_524 : Cond.static yL_counts ∈ big := big_i 524 (by decide +kernel) rfl
theorem m_525 : Cond.codeWith yL_counts cL_counts 5 (some .int) [(0, 10, 13, 13)] ∈ big := big_i 525 (by decide +kernel) rfl
theorem m_526 : Cond.methodLink RL 64 yX3_counts ∈ big := big_i 526 (by decide +kernel) rfl
theorem m_527 : Cond.instanceMethod yX3_counts ∈ big := big_i 527 (by decide +kernel) rfl
theorem m_528 : Cond.selects RX3 yX3_counts yX3_counts ∈ big := big_i 528 (by decide +kernel) rfl
theorem m_529 : Cond.code yX3_counts cX3_counts 3 (some .int) ∈ big := big_i 529 (by decide +kernel) rfl
theorem m_530 : Cond.methodLink RX3 161 yX3_checkLine ∈ big := big_i 530 (by decide +kernel) rfl
theorem m_532 : Cond.instanceMethod yX3_checkLine ∈ big := big_i 532 (by decide +kernel) rfl
theorem m_533 : Cond.code yX3_checkLine cX3_checkLine 3 none ∈ big := big_i 533 (by decide +kernel) rfl
theorem m_534 : Cond.methodLink RL 159 yL_agreed ∈ big := big_i 534 (by decide +kernel) rfl
theorem m_535 : Cond.static yL_agreed ∈ big := big_i 535 (by decide +kernel) rfl
theorem m_536 : Cond.codeWith yL_agreed cL_agreed 5 (some .int) [(0, 10, 13, 13)] ∈ big := big_i 536 (by decide +kernel) rfl
theorem m_537 : Cond.methodLink RL 67 yX3_agreed ∈ big := big_i 537 (by decide +kernel) rfl
theorem m_538 : Cond.instanceMethod yX3_agreed ∈ big := big_i 538 (by decide +kernel) rfl
theorem m_539 : Cond.selects RX3 yX3_agreed yX3_agreed ∈ big := big_i 539 (by decide +kernel) rfl
theorem m_540 : Cond.code yX3_agreed cX3_agreed 3 (some .int) ∈ big := big_i 540 (by decide +kernel) rfl
theorem m_541 : Cond.methodLink RL 162 yL_gap ∈ big := big_i 541 (by decide +kernel) rfl
theorem m_542 : Cond.static yL_gap ∈ big := big_i 542 (by decide +kernel) rfl
theorem m_543 : Cond.codeWith yL_gap cL_gap 5 (some .int) [(0, 10, 13, 13), (0, 10, 17, 44)] ∈ big := big_i 543 (by decide +kernel) rfl
theorem m_544 : Cond.methodLink RL 70 yX3_gap ∈ big := big_i 544 (by decide +kernel) rfl
theorem m_545 : Cond.instanceMethod yX3_gap ∈ big := big_i 545 (by decide +kernel) rfl
theorem m_546 : Cond.selects RX3 yX3_gap yX3_gap ∈ big := big_i 546 (by decide +kernel) rfl
theorem m_547 : Cond.code yX3_gap cX3_gap 3 (some .int) ∈ big := big_i 547 (by decide +kernel) rfl
theorem m_548 : Cond.methodLink RL 165 yL_isSigned ∈ big := big_i 548 (by decide +kernel) rfl
theorem m_549 : Cond.static yL_isSigned ∈ big := big_i 549 (by decide +kernel) rfl
theorem m_550 : Cond.codeWith yL_isSigned cL_isSigned 5 (some .int) [(0, 17, 20, 13)] ∈ big := big_i 550 (by decide +kernel) rfl
theorem m_551 : Cond.methodLink RL 73 yX3_isSigned ∈ big := big_i 551 (by decide +kernel) rfl
theorem m_552 : Cond.instanceMethod yX3_isSigned ∈ big := big_i 552 (by decide +kernel) rfl
theorem m_553 : Cond.selects RX3 yX3_isSigned yX3_isSigned ∈ big := big_i 553 (by decide +kernel) rfl
theorem m_554 : Cond.code yX3_isSigned cX3_isSigned 3 (some .boolean) ∈ big := big_i 554 (by decide +kernel) rfl
theorem m_555 : Cond.methodLink RL 168 yL_likely ∈ big := big_i 555 (by decide +kernel) rfl
theorem m_556 : Cond.static yL_likely ∈ big := big_i 556 (by decide +kernel) rfl
theorem m_557 : Cond.codeWith yL_likely cL_likely 5 (some .int) [(0, 10, 13, 13)] ∈ big := big_i 557 (by decide +kernel) rfl
theorem m_558 : Cond.methodLink RL 77 yX3_likely ∈ big := big_i 558 (by decide +kernel) rfl
theorem m_559 : Cond.instanceMethod yX3_likely ∈ big := big_i 559 (by decide +kernel) rfl
theorem m_560 : Cond.selects RX3 yX3_likely yX3_likely ∈ big := big_i 560 (by decide +kernel) rfl
theorem m_561 : Cond.code yX3_likely cX3_likely 4 (some .int) ∈ big := big_i 561 (by decide +kernel) rfl
theorem m_562 : Cond.methodLink RL 171 yL_exact ∈ big := big_i 562 (by decide +kernel) rfl
theorem m_563 : Cond.static yL_exact ∈ big := big_i 563 (by decide +kernel) rfl
theorem m_564 : Cond.codeWith yL_exact cL_exact 4 (some .int) [(0, 9, 12, 13)] ∈ big := big_i 564 (by decide +kernel) rfl
theorem m_565 : Cond.methodLink RL 80 yX3_exact ∈ big := big_i 565 (by decide +kernel) rfl
theorem m_566 : Cond.instanceMethod yX3_exact ∈ big := big_i 566 (by decide +kernel) rfl
theorem m_567 : Cond.selects RX3 yX3_exact yX3_exact ∈ big := big_i 567 (by decide +kernel) rfl
theorem m_568 : Cond.code yX3_exact cX3_exact 7 (some .int) ∈ big := big_i 568 (by decide +kernel) rfl
theorem m_569 : Cond.classLink RL 84 RX4 ∈ big := big_i 569 (by decide +kernel) rfl
theorem m_570 : Cond.instantiable RX4 20 ∈ big := big_i 570 (by decide +kernel) rfl
theorem m_571 : Cond.methodLink RL 86 yX4_init ∈ big := big_i 571 (by decide +kernel) rfl
theorem m_572 : Cond.instanceMethod yX4_init ∈ big := big_i 572 (by decide +kernel) rfl
theorem m_573 : Cond.code yX4_init cX4_init 2 none ∈ big := big_i 573 (by decide +kernel) rfl
theorem m_574 : Cond.methodLink RX4 1 objectInit ∈ big := big_i 574 (by decide +kernel) rfl
theorem m_575 : Cond.fieldLink RX4 75 "CountSheetsModel" "now" "I" ∈ big := big_i 575 (by decide +kernel) rfl
theorem m_576 : Cond.fieldLink RX4 7 "CountSheetsModel" "price" "[I" ∈ big := big_i 576 (by decide +kernel) rfl
theorem m_577 : Cond.fieldLink RX4 13 "CountSheetsModel" "bound" "[I" ∈ big := big_i 577 (by decide +kernel) rfl
theorem m_578 : Cond.fieldLink RX4 78 "CountSheetsModel" "moves" "I" ∈ big := big_i 578 (by decide +kernel) rfl
theorem m_579 : Cond.fieldLink RX4 16 "CountSheetsModel" "from" "[I" ∈ big := big_i 579 (by decide +kernel) rfl
theorem m_580 : Cond.fieldLink RX4 19 "CountSheetsModel" "to" "[I" ∈ big := big_i 580 (by decide +kernel) rfl
theorem m_581 : Cond.fieldLink RX4 22 "CountSheetsModel" "what" "[I" ∈ big := big_i 581 (by decide +kernel) rfl
theorem m_582 : Cond.fieldLink RX4 25 "CountSheetsModel" "many" "[I" ∈ big := big_i 582 (by decide +kernel) rfl
theorem m_583 : Cond.fieldLink RX4 28 "CountSheetsModel" "when" "[I" ∈ big := big_i 583 (by decide +kernel) rfl
theorem m_584 : Cond.fieldLink RX4 63 "CountSheetsModel" "sheets" "I" ∈ big := big_i 584 (by decide +kernel) rfl
theorem m_585 : Cond.fieldLink RX4 31 "CountSheetsModel" "place" "[I" ∈ big := big_i 585 (by decide +kernel) rfl
theorem m_586 : Cond.fieldLink RX4 34 "CountSheetsModel" "cut" "[I" ∈ big := big_i 586 (by decide +kernel) rfl
theorem m_587 : Cond.fieldLink RX4 37 "CountSheetsModel" "state" "[I" ∈ big := big_i 587 (by decide +kernel) rfl
theorem m_588 : Cond.fieldLink RX4 40 "CountSheetsModel" "counted" "[I" ∈ big := big_i 588 (by decide +kernel) rfl
theorem m_589 : Cond.fieldLink RX4 43 "CountSheetsModel" "signed" "[I" ∈ big := big_i 589 (by decide +kernel) rfl
theorem m_590 : Cond.fieldLink RX4 46 "CountSheetsModel" "gaps" "[I" ∈ big := big_i 590 (by decide +kernel) rfl
theorem m_591 : Cond.fieldLink RX4 107 "CountSheetsModel" "signings" "I" ∈ big := big_i 591 (by decide +kernel) rfl
theorem m_592 : Cond.fieldLink RX4 49 "CountSheetsModel" "person" "[I" ∈ big := big_i 592 (by decide +kernel) rfl
theorem m_593 : Cond.fieldLink RX4 52 "CountSheetsModel" "quantity" "[I" ∈ big := big_i 593 (by decide +kernel) rfl
theorem m_594 : Cond.fieldLink RX4 55 "CountSheetsModel" "thrown" "I" ∈ big := big_i 594 (by decide +kernel) rfl
theorem m_636 : Cond.methodLink RL 93 yX4_thrown ∈ big := big_i 636 (by decide +kernel) rfl
theorem m_637 : Cond.instanceMethod yX4_thrown ∈ big := big_i 637 (by decide +kernel) rfl
theorem m_638 : Cond.selects RX4 yX4_thrown yX4_thrown ∈ big := big_i 638 (by decide +kernel) rfl
theorem m_639 : Cond.code yX4_thrown cX4_thrown 1 (some .int) ∈ big := big_i 639 (by decide +kernel) rfl
theorem m_640 : Cond.methodLink RL 92 yX4_setPrice ∈ big := big_i 640 (by decide +kernel) rfl
theorem m_641 : Cond.instanceMethod yX4_setPrice ∈ big := big_i 641 (by decide +kernel) rfl
theorem m_642 : Cond.selects RX4 yX4_setPrice yX4_setPrice ∈ big := big_i 642 (by decide +kernel) rfl
theorem m_643 : Cond.code yX4_setPrice cX4_setPrice 4 (some .int) ∈ big := big_i 643 (by decide +kernel) rfl
theorem m_644 : Cond.methodLink RX4 66 yX4_isArticle ∈ big := big_i 644 (by decide +kernel) rfl
theorem m_645 : Cond.static yX4_isArticle ∈ big := big_i 645 (by decide +kernel) rfl
theorem m_646 : Cond.code yX4_isArticle cX4_isArticle 1 (some .boolean) ∈ big := big_i 646 (by decide +kernel) rfl
theorem m_647 : Cond.methodLink RX4 59 yX4_in ∈ big := big_i 647 (by decide +kernel) rfl
theorem m_648 : Cond.static yX4_in ∈ big := big_i 648 (by decide +kernel) rfl
theorem m_649 : Cond.code yX4_in cX4_in 3 (some .boolean) ∈ big := big_i 649 (by decide +kernel) rfl
theorem m_650 : Cond.methodLink RX4 70 yX4_goes ∈ big := big_i 650 (by decide +kernel) rfl
theorem m_652 : Cond.instanceMethod yX4_goes ∈ big := big_i 652 (by decide +kernel) rfl
theorem m_653 : Cond.code yX4_goes cX4_goes 4 (some .boolean) ∈ big := big_i 653 (by decide +kernel) rfl
theorem m_654 : Cond.methodLink RL 99 yX4_setBound ∈ big := big_i 654 (by decide +kernel) rfl
theorem m_655 : Cond.instanceMethod yX4_setBound ∈ big := big_i 655 (by decide +kernel) rfl
theorem m_656 : Cond.selects RX4 yX4_setBound yX4_setBound ∈ big := big_i 656 (by decide +kernel) rfl
theorem m_657 : Cond.code yX4_setBound cX4_setBound 4 (some .int) ∈ big := big_i 657 (by decide +kernel) rfl
theorem m_658 : Cond.constant RX4 74 (1000000) ∈ big := big_i 658 (by decide +kernel) rfl
theorem m_659 : Cond.methodLink RL 103 yX4_move ∈ big := big_i 659 (by decide +kernel) rfl
theorem m_660 : Cond.instanceMethod yX4_move ∈ big := big_i 660 (by decide +kernel) rfl
theorem m_661 : Cond.selects RX4 yX4_move yX4_move ∈ big := big_i 661 (by decide +kernel) rfl
theorem m_662 : Cond.code yX4_move cX4_move 7 (some .int) ∈ big := big_i 662 (by decide +kernel) rfl
theorem m_663 : Cond.methodLink RL 107 yX4_pass ∈ big := big_i 663 (by decide +kernel) rfl
theorem m_664 : Cond.instanceMethod yX4_pass ∈ big := big_i 664 (by decide +kernel) rfl
theorem m_665 : Cond.selects RX4 yX4_pass yX4_pass ∈ big := big_i 665 (by decide +kernel) rfl
theorem m_666 : Cond.code yX4_pass cX4_pass 2 (some .int) ∈ big := big_i 666 (by decide +kernel) rfl
theorem m_667 : Cond.methodLink RL 110 yX4_open ∈ big := big_i 667 (by decide +kernel) rfl
theorem m_668 : Cond.instanceMethod yX4_open ∈ big := big_i 668 (by decide +kernel) rfl
theorem m_669 : Cond.selects RX4 yX4_open yX4_open ∈ big := big_i 669 (by decide +kernel) rfl
theorem m_670 : Cond.code yX4_open cX4_open 2 (some .int) ∈ big := big_i 670 (by decide +kernel) rfl
theorem m_671 : Cond.methodLink RX4 89 yX4_isPlace ∈ big := big_i 671 (by decide +kernel) rfl
theorem m_672 : Cond.static yX4_isPlace ∈ big := big_i 672 (by decide +kernel) rfl
theorem m_673 : Cond.code yX4_isPlace cX4_isPlace 1 (some .boolean) ∈ big := big_i 673 (by decide +kernel) rfl
theorem m_674 : Cond.methodLink RX4 92 yX4_hasOpen ∈ big := big_i 674 (by decide +kernel) rfl
theorem m_676 : Cond.instanceMethod yX4_hasOpen ∈ big := big_i 676 (by decide +kernel) rfl
theorem m_677 : Cond.code yX4_hasOpen cX4_hasOpen 4 (some .boolean) ∈ big := big_i 677 (by decide +kernel) rfl
theorem m_678 : Cond.methodLink RL 114 yX4_count ∈ big := big_i 678 (by decide +kernel) rfl
theorem m_679 : Cond.instanceMethod yX4_count ∈ big := big_i 679 (by decide +kernel) rfl
theorem m_680 : Cond.selects RX4 yX4_count yX4_count ∈ big := big_i 680 (by decide +kernel) rfl
theorem m_681 : Cond.code yX4_count cX4_count 8 (some .boolean) ∈ big := big_i 681 (by decide +kernel) rfl
theorem m_682 : Cond.methodLink RX4 95 yX4_isSheet ∈ big := big_i 682 (by decide +kernel) rfl
theorem m_684 : Cond.instanceMethod yX4_isSheet ∈ big := big_i 684 (by decide +kernel) rfl
theorem m_685 : Cond.code yX4_isSheet cX4_isSheet 2 (some .boolean) ∈ big := big_i 685 (by decide +kernel) rfl
theorem m_686 : Cond.methodLink RX4 81 yX4_at ∈ big := big_i 686 (by decide +kernel) rfl
theorem m_687 : Cond.static yX4_at ∈ big := big_i 687 (by decide +kernel) rfl
theorem m_688 : Cond.code yX4_at cX4_at 2 (some .int) ∈ big := big_i 688 (by decide +kernel) rfl
theorem m_689 : Cond.methodLink RX4 98 yX4_hasCounted ∈ big := big_i 689 (by decide +kernel) rfl
theorem m_691 : Cond.instanceMethod yX4_hasCounted ∈ big := big_i 691 (by decide +kernel) rfl
theorem m_692 : Cond.code yX4_hasCounted cX4_hasCounted 5 (some .boolean) ∈ big := big_i 692 (by decide +kernel) rfl
theorem m_693 : Cond.methodLink RX4 85 yX4_agree ∈ big := big_i 693 (by decide +kernel) rfl
theorem m_695 : Cond.instanceMethod yX4_agree ∈ big := big_i 695 (by decide +kernel) rfl
theorem m_696 : Cond.code yX4_agree cX4_agree 7 (some .int) ∈ big := big_i 696 (by decide +kernel) rfl
theorem m_697 : Cond.constant RX4 102 (100000) ∈ big := big_i 697 (by decide +kernel) rfl
theorem m_698 : Cond.methodLink RL 117 yX4_close ∈ big := big_i 698 (by decide +kernel) rfl
theorem m_699 : Cond.instanceMethod yX4_close ∈ big := big_i 699 (by decide +kernel) rfl
theorem m_700 : Cond.selects RX4 yX4_close yX4_close ∈ big := big_i 700 (by decide +kernel) rfl
theorem m_701 : Cond.code yX4_close cX4_close 7 (some .int) ∈ big := big_i 701 (by decide +kernel) rfl
theorem m_702 : Cond.methodLink RL 121 yX4_sign ∈ big := big_i 702 (by decide +kernel) rfl
theorem m_703 : Cond.instanceMethod yX4_sign ∈ big := big_i 703 (by decide +kernel) rfl
theorem m_704 : Cond.selects RX4 yX4_sign yX4_sign ∈ big := big_i 704 (by decide +kernel) rfl
theorem m_705 : Cond.code yX4_sign cX4_sign 9 (some .int) ∈ big := big_i 705 (by decide +kernel) rfl
theorem m_706 : Cond.methodLink RX4 110 yX4_agrees ∈ big := big_i 706 (by decide +kernel) rfl
theorem m_708 : Cond.instanceMethod yX4_agrees ∈ big := big_i 708 (by decide +kernel) rfl
theorem m_709 : Cond.code yX4_agrees cX4_agrees 3 (some .boolean) ∈ big := big_i 709 (by decide +kernel) rfl
theorem m_710 : Cond.methodLink RX4 113 yX4_gapOf ∈ big := big_i 710 (by decide +kernel) rfl
theorem m_712 : Cond.instanceMethod yX4_gapOf ∈ big := big_i 712 (by decide +kernel) rfl
theorem m_713 : Cond.code yX4_gapOf cX4_gapOf 4 (some .int) ∈ big := big_i 713 (by decide +kernel) rfl
theorem m_714 : Cond.methodLink RX4 103 yX4_bookOf ∈ big := big_i 714 (by decide +kernel) rfl
theorem m_716 : Cond.instanceMethod yX4_bookOf ∈ big := big_i 716 (by decide +kernel) rfl
theorem m_717 : Cond.code yX4_bookOf cX4_bookOf 9 (some .int) ∈ big := big_i 717 (by decide +kernel) rfl
theorem m_718 : Cond.methodLink RX4 116 yX4_signs ∈ big := big_i 718 (by decide +kernel) rfl
theorem m_720 : Cond.instanceMethod yX4_signs ∈ big := big_i 720 (by decide +kernel) rfl
theorem m_721 : Cond.code yX4_signs cX4_signs 4 none ∈ big := big_i 721 (by decide +kernel) rfl
theorem m_722 : Cond.methodLink RL 124 yX4_settle ∈ big := big_i 722 (by decide +kernel) rfl
theorem m_723 : Cond.instanceMethod yX4_settle ∈ big := big_i 723 (by decide +kernel) rfl
theorem m_724 : Cond.selects RX4 yX4_settle yX4_settle ∈ big := big_i 724 (by decide +kernel) rfl
theorem m_725 : Cond.code yX4_settle cX4_settle 7 (some .int) ∈ big := big_i 725 (by decide +kernel) rfl
theorem m_726 : Cond.methodLink RX4 120 yX4_canSettle ∈ big := big_i 726 (by decide +kernel) rfl
theorem m_728 : Cond.instanceMethod yX4_canSettle ∈ big := big_i 728 (by decide +kernel) rfl
theorem m_729 : Cond.code yX4_canSettle cX4_canSettle 5 (some .boolean) ∈ big := big_i 729 (by decide +kernel) rfl
theorem m_730 : Cond.methodLink RL 128 yX4_now ∈ big := big_i 730 (by decide +kernel) rfl
theorem m_731 : Cond.instanceMethod yX4_now ∈ big := big_i 731 (by decide +kernel) rfl
theorem m_732 : Cond.selects RX4 yX4_now yX4_now ∈ big := big_i 732 (by decide +kernel) rfl
theorem m_733 : Cond.code yX4_now cX4_now 1 (some .int) ∈ big := big_i 733 (by decide +kernel) rfl
theorem m_734 : Cond.methodLink RX4 123 yX4_told ∈ big := big_i 734 (by decide +kernel) rfl
theorem m_736 : Cond.instanceMethod yX4_told ∈ big := big_i 736 (by decide +kernel) rfl
theorem m_737 : Cond.code yX4_told cX4_told 2 (some .int) ∈ big := big_i 737 (by decide +kernel) rfl
theorem m_738 : Cond.methodLink RL 132 yX4_moves ∈ big := big_i 738 (by decide +kernel) rfl
theorem m_739 : Cond.instanceMethod yX4_moves ∈ big := big_i 739 (by decide +kernel) rfl
theorem m_740 : Cond.selects RX4 yX4_moves yX4_moves ∈ big := big_i 740 (by decide +kernel) rfl
theorem m_741 : Cond.code yX4_moves cX4_moves 1 (some .int) ∈ big := big_i 741 (by decide +kernel) rfl
theorem m_742 : Cond.methodLink RL 135 yX4_book ∈ big := big_i 742 (by decide +kernel) rfl
theorem m_743 : Cond.instanceMethod yX4_book ∈ big := big_i 743 (by decide +kernel) rfl
theorem m_744 : Cond.selects RX4 yX4_book yX4_book ∈ big := big_i 744 (by decide +kernel) rfl
theorem m_745 : Cond.code yX4_book cX4_book 3 (some .int) ∈ big := big_i 745 (by decide +kernel) rfl
theorem m_746 : Cond.methodLink RL 138 yX4_bookAt ∈ big := big_i 746 (by decide +kernel) rfl
theorem m_747 : Cond.instanceMethod yX4_bookAt ∈ big := big_i 747 (by decide +kernel) rfl
theorem m_748 : Cond.selects RX4 yX4_bookAt yX4_bookAt ∈ big := big_i 748 (by decide +kernel) rfl
theorem m_749 : Cond.code yX4_bookAt cX4_bookAt 4 (some .int) ∈ big := big_i 749 (by decide +kernel) rfl
theorem m_750 : Cond.methodLink RL 141 yX4_worth ∈ big := big_i 750 (by decide +kernel) rfl
theorem m_751 : Cond.instanceMethod yX4_worth ∈ big := big_i 751 (by decide +kernel) rfl
theorem m_752 : Cond.selects RX4 yX4_worth yX4_worth ∈ big := big_i 752 (by decide +kernel) rfl
theorem m_753 : Cond.code yX4_worth cX4_worth 2 (some .int) ∈ big := big_i 753 (by decide +kernel) rfl
theorem m_754 : Cond.methodLink RX4 126 yX4_worthOf ∈ big := big_i 754 (by decide +kernel) rfl
theorem m_756 : Cond.instanceMethod yX4_worthOf ∈ big := big_i 756 (by decide +kernel) rfl
theorem m_757 : Cond.code yX4_worthOf cX4_worthOf 5 (some .int) ∈ big := big_i 757 (by decide +kernel) rfl
theorem m_758 : Cond.methodLink RL 145 yX4_suggested ∈ big := big_i 758 (by decide +kernel) rfl
theorem m_759 : Cond.instanceMethod yX4_suggested ∈ big := big_i 759 (by decide +kernel) rfl
theorem m_760 : Cond.selects RX4 yX4_suggested yX4_suggested ∈ big := big_i 760 (by decide +kernel) rfl
theorem m_761 : Cond.code yX4_suggested cX4_suggested 9 (some .int) ∈ big := big_i 761 (by decide +kernel) rfl
theorem m_762 : Cond.constantLong RX4 129 (-1) ∈ big := big_i 762 (by decide +kernel) rfl
theorem m_763 : Cond.methodLink RL 149 yX4_sheets ∈ big := big_i 763 (by decide +kernel) rfl
theorem m_764 : Cond.instanceMethod yX4_sheets ∈ big := big_i 764 (by decide +kernel) rfl
theorem m_765 : Cond.selects RX4 yX4_sheets yX4_sheets ∈ big := big_i 765 (by decide +kernel) rfl
theorem m_766 : Cond.code yX4_sheets cX4_sheets 1 (some .int) ∈ big := big_i 766 (by decide +kernel) rfl
theorem m_767 : Cond.methodLink RL 152 yX4_stateOf ∈ big := big_i 767 (by decide +kernel) rfl
theorem m_768 : Cond.instanceMethod yX4_stateOf ∈ big := big_i 768 (by decide +kernel) rfl
theorem m_769 : Cond.selects RX4 yX4_stateOf yX4_stateOf ∈ big := big_i 769 (by decide +kernel) rfl
theorem m_770 : Cond.code yX4_stateOf cX4_stateOf 2 (some .int) ∈ big := big_i 770 (by decide +kernel) rfl
theorem m_771 : Cond.methodLink RL 155 yX4_cutOf ∈ big := big_i 771 (by decide +kernel) rfl
theorem m_772 : Cond.instanceMethod yX4_cutOf ∈ big := big_i 772 (by decide +kernel) rfl
theorem m_773 : Cond.selects RX4 yX4_cutOf yX4_cutOf ∈ big := big_i 773 (by decide +kernel) rfl
theorem m_774 : Cond.code yX4_cutOf cX4_cutOf 2 (some .int) ∈ big := big_i 774 (by decide +kernel) rfl
theorem m_775 : Cond.methodLink RL 158 yX4_counts ∈ big := big_i 775 (by decide +kernel) rfl
theorem m_776 : Cond.instanceMethod yX4_counts ∈ big := big_i 776 (by decide +kernel) rfl
theorem m_777 : Cond.selects RX4 yX4_counts yX4_counts ∈ big := big_i 777 (by decide +kernel) rfl
theorem m_778 : Cond.code yX4_counts cX4_counts 3 (some .int) ∈ big := big_i 778 (by decide +kernel) rfl
theorem m_779 : Cond.methodLink RL 161 yX4_agreed ∈ big := big_i 779 (by decide +kernel) rfl
theorem m_780 : Cond.instanceMethod yX4_agreed ∈ big := big_i 780 (by decide +kernel) rfl
theorem m_781 : Cond.selects RX4 yX4_agreed yX4_agreed ∈ big := big_i 781 (by decide +kernel) rfl
theorem m_782 : Cond.code yX4_agreed cX4_agreed 3 (some .int) ∈ big := big_i 782 (by decide +kernel) rfl
theorem m_783 : Cond.methodLink RL 164 yX4_gap ∈ big := big_i 783 (by decide +kernel) rfl
theorem m_784 : Cond.instanceMethod yX4_gap ∈ big := big_i 784 (by decide +kernel) rfl
theorem m_785 : Cond.selects RX4 yX4_gap yX4_gap ∈ big := big_i 785 (by decide +kernel) rfl
theorem m_786 : Cond.code yX4_gap cX4_gap 4 (some .int) ∈ big := big_i 786 (by decide +kernel) rfl
theorem m_787 : Cond.methodLink RL 167 yX4_isSigned ∈ big := big_i 787 (by decide +kernel) rfl
theorem m_788 : Cond.instanceMethod yX4_isSigned ∈ big := big_i 788 (by decide +kernel) rfl
theorem m_789 : Cond.selects RX4 yX4_isSigned yX4_isSigned ∈ big := big_i 789 (by decide +kernel) rfl
theorem m_790 : Cond.code yX4_isSigned cX4_isSigned 3 (some .boolean) ∈ big := big_i 790 (by decide +kernel) rfl
theorem m_791 : Cond.methodLink RL 170 yX4_likely ∈ big := big_i 791 (by decide +kernel) rfl
theorem m_792 : Cond.instanceMethod yX4_likely ∈ big := big_i 792 (by decide +kernel) rfl
theorem m_793 : Cond.selects RX4 yX4_likely yX4_likely ∈ big := big_i 793 (by decide +kernel) rfl
theorem m_794 : Cond.code yX4_likely cX4_likely 6 (some .int) ∈ big := big_i 794 (by decide +kernel) rfl
theorem m_795 : Cond.methodLink RL 173 yX4_exact ∈ big := big_i 795 (by decide +kernel) rfl
theorem m_796 : Cond.instanceMethod yX4_exact ∈ big := big_i 796 (by decide +kernel) rfl
theorem m_797 : Cond.selects RX4 yX4_exact yX4_exact ∈ big := big_i 797 (by decide +kernel) rfl
theorem m_798 : Cond.code yX4_exact cX4_exact 5 (some .int) ∈ big := big_i 798 (by decide +kernel) rfl
theorem m_799 : Cond.arrayClass .long ∈ big := big_i 799 (by decide +kernel) rfl
theorem n_801 : Cond.castable "CountSheets" "java/lang/Object" ∈ lw_tbl := List.mem_of_getElem? (i := 801) (by decide +kernel)
theorem n_802 : Cond.castable "CountSheets$MoveRows" "java/lang/Object" ∈ lw_tbl := List.mem_of_getElem? (i := 802) (by decide +kernel)
theorem n_803 : Cond.castable "CountSheets$SheetRows" "java/lang/Object" ∈ lw_tbl := List.mem_of_getElem? (i := 803) (by decide +kernel)
theorem n_804 : Cond.castable "CountSheets$LineRows" "java/lang/Object" ∈ lw_tbl := List.mem_of_getElem? (i := 804) (by decide +kernel)
theorem n_805 : Cond.castable "CountSheetsModel" "java/lang/Object" ∈ lw_tbl := List.mem_of_getElem? (i := 805) (by decide +kernel)
theorem n_806 : Cond.castable "java/lang/IndexOutOfBoundsException" "java/lang/Object" ∈ lw_tbl := List.mem_of_getElem? (i := 806) (by decide +kernel)
theorem n_807 : Cond.castable "java/lang/IllegalArgumentException" "java/lang/Object" ∈ lw_tbl := List.mem_of_getElem? (i := 807) (by decide +kernel)
theorem n_808 : Cond.castable "java/lang/IllegalStateException" "java/lang/Object" ∈ lw_tbl := List.mem_of_getElem? (i := 808) (by decide +kernel)
theorem n_809 : Cond.castable "java/util/NoSuchElementException" "java/lang/Object" ∈ lw_tbl := List.mem_of_getElem? (i := 809) (by decide +kernel)
theorem n_810 : Cond.castable "java/lang/Throwable" "java/lang/Object" ∈ lw_tbl := List.mem_of_getElem? (i := 810) (by decide +kernel)
theorem n_811 : Cond.castable "java/lang/String" "java/lang/Object" ∈ lw_tbl := List.mem_of_getElem? (i := 811) (by decide +kernel)
theorem at_IO : ∀ w ∈ vx_atS RX3 180 "java/lang/IndexOutOfBoundsException" names2, w ∈ lw_tbl ∧ (w.onTables && w.keepsFace) = true := fun w h => by
  have h1 : (vx_atS RX3 180 "java/lang/IndexOutOfBoundsException" names2).all (fun w => decide (w ∈ lw_tbl) && (w.onTables && w.keepsFace)) = true := by decide +kernel
  have h2 := List.all_eq_true.mp h1 w h
  rw [Bool.and_eq_true, decide_eq_true_eq] at h2
  exact h2
theorem at_IA : ∀ w ∈ vx_atS RX3 64 "java/lang/IllegalArgumentException" names2, w ∈ lw_tbl ∧ (w.onTables && w.keepsFace) = true := fun w h => by
  have h1 : (vx_atS RX3 64 "java/lang/IllegalArgumentException" names2).all (fun w => decide (w ∈ lw_tbl) && (w.onTables && w.keepsFace)) = true := by decide +kernel
  have h2 := List.all_eq_true.mp h1 w h
  rw [Bool.and_eq_true, decide_eq_true_eq] at h2
  exact h2
theorem at_IS : ∀ w ∈ vx_atS RX3 74 "java/lang/IllegalStateException" names2, w ∈ lw_tbl ∧ (w.onTables && w.keepsFace) = true := fun w h => by
  have h1 : (vx_atS RX3 74 "java/lang/IllegalStateException" names2).all (fun w => decide (w ∈ lw_tbl) && (w.onTables && w.keepsFace)) = true := by decide +kernel
  have h2 := List.all_eq_true.mp h1 w h
  rw [Bool.and_eq_true, decide_eq_true_eq] at h2
  exact h2
end
section
/-! AN EXCEPTION OF THE JDK's WHOSE CONSTRUCTOR's LINK HAS ANOTHER PLACE THAN 7 (NoSuchElementException: 13), thrown with a text, no traces kept. The two proofs follow the library's BundleOwnThrow (ctorThrowS) and the kit's vx_throwS, with the first link's place and bytes as variables. -/
def kAtoms (own : String) (ic : Nat) (X : String) (ix : Nat) (rx : ByteArray) (Y : String) (r : List String) : List Cond :=
  Bundle.throwableAtoms ++ Bundle.throwableSAtoms ++ (Bundle.passSAtoms X Y ix rx ++ Bundle.chainSAtoms Y r) ++
  [.methodLink own ic (Bundle.initS X), .instantiable X 6, .castable X X, .selects X Bundle.tFill0 Bundle.tFill0, .selects X Bundle.tFill Bundle.tFill,
   .lays X Bundle.tN "cause" "Ljava/lang/Throwable;", .lays X Bundle.tN "stackTrace" Bundle.steD, .lays X Bundle.tN "suppressedExceptions" Bundle.listD, .lays X Bundle.tN "detailMessage" "Ljava/lang/String;",
   .isRef (.static Bundle.tN "UNASSIGNED_STACK" Bundle.steD), .isRef (.static Bundle.tN "SUPPRESSED_SENTINEL" Bundle.listD),
   .fieldLink Bundle.tN 198 Bundle.tN "backtrace" "Ljava/lang/Object;", .lays Bundle.tN Bundle.tN "backtrace" "Ljava/lang/Object;", .lays X Bundle.tN "backtrace" "Ljava/lang/Object;"]
section KNS
variable {p : Program} {l : Launch} {e : Env} {R : Room} {s : State} {m₀ : MethodId} {args : Array Value} {below : List Frame} {meth : Method} {c : Code} {V : State} {locs : List Loc} {cells slots : Nat}
set_option maxHeartbeats 1000000 in
theorem kCtorThrow (X : Stand p l e R s m₀ args below meth c V locs cells slots) (hexec : p.tables.exec = Jvm.exec) (htr : e.platform.stackTraces = false) {own cls Y : String} {names : List String} {ic ix : Nat} {rx : ByteArray}
    (x0 : decode rx 0 = .ok (.aload_n 0, 1)) (x1 : decode rx 1 = .ok (.aload_n 1, 1)) (x2 : decode rx 2 = .ok (.invokespecial ix, 3)) (x5 : decode rx 5 = .ok (.return_, 1))
    (hown : s.vm.findClass own = some m₀.cls) (hcls : Bundle.fit cls = true) (hY : Bundle.fit Y = true) (hnames : ∀ n ∈ names, Bundle.fit n = true)
    (h : ∀ a ∈ kAtoms own ic cls ix rx Y names, a.before args s = true)
    (hlocs : ∀ x ∈ locs, ∀ cell, s.heap[x.base]? = some cell → cell.vm.isStatics = false)
    {a : Addr} {cX : ClassId} {kX : Class} (hfoundX : s.vm.findClass cls = some cX) (hkX : s.vm.classes[cX]? = some kX) (hcell : V.heap[a]? = some (freshCell cX kX)) (hnew : s.heap.size ≤ a)
    {msg : Value} (hmsg : msg.isRef = true)
    {g : JFrame} (hg : g.method = m₀) (hsize : g.locals.size = c.maxLocals) (hlocked : g.locked = none) (hentered : g.entered = []) {rest : List Value} (hstack : g.stack = msg :: .ref a :: .ref a :: rest)
    (hd6 : decode c.code g.pc = .ok (.invokespecial ic, 3)) (hd9 : decode c.code (g.pc + 3) = .ok (.athrow, 1)) (hout : ∀ x ∈ c.exceptionTable.toList, covers x (g.pc + 3) = false)
    (hRframes : names.length + 4 < R.frames) (hRlocals : 2 * g.monitorRoom + ((Value.ref a :: rest).map fun v => v.category).sum + (13 * (names.length + 2) + 42) ≤ R.locals) (hlocks : meth.locks = false) :
    ∃ U : State, Steps p.tables e below (V.setTop g) U ∧ U.status = .running ∧ Ended U below (.threw a) ∧ s.WarmedH U.vm ∧ s.sameButNew ({ U with vm := s.vm } : State) locs cells slots ∧
      ∃ ce, U.heap[a]? = some ce ∧ ce.cls = cX ∧ ce.vm = .none := by
  have howns : e.platform.frameOwnsMonitors = true := by rw [X.admits.platform]
  have hfin : e.platform.finalization = false := by rw [X.admits.platform]
  have hpl : e.platform.magicAccessors = ({} : Platform).magicAccessors := by rw [X.admits.platform]
  have a' : ∀ x, x ∈ kAtoms own ic cls ix rx Y names → x.holds args s none s [] = true := fun x hx => h x hx
  obtain ⟨T, Z0, L, -, Yt⟩ := ThrowableC.of_atoms (args := args) howns hfin hpl (fun x hx => h x (by simp [kAtoms, hx]))
  obtain ⟨Z, M, LZ, LM, hnZ⟩ := Init0T.ofS_atoms (args := args) hpl L Yt (fun x hx => h x (by simp [kAtoms, hx]))
  obtain ⟨P1, L1, hP1m, hs1⟩ := PassC.ofS_atoms (args := args) (s := s) hpl (X := cls) (Y := Y) (Bundle.fit_spec hcls).1 (Bundle.fit_spec hY).2 x0 x1 x2 x5 (fun x hx => h x (by simp [kAtoms, hx]))
  obtain ⟨P2, Ps2, hlen2, L2, hL2, hP2m, hlink2a, hlink2⟩ := Bundle.chainS (args := args) hpl hnZ names Y hY hnames (fun x hx => h x (by simp [kAtoms, hx]))
  have hlink1 : P1.sup = P2.m := Option.some.inj (hs1.symm.trans hP2m)
  have hfound : s.vm.findClass cls = some P1.m.cls := findClass_of_methodNamed hP1m
  cases Option.some.inj (hfoundX.symm.trans hfound)
  obtain ⟨c1, kX', hc1, hk, hord, -, -, hn6⟩ := Cond.instantiable_spec (a' (.instantiable cls 6) (by simp [kAtoms]))
  cases Option.some.inj (hc1.symm.trans hfound)
  cases Option.some.inj (hkX.symm.trans hk)
  have hsel0 : selectMethod e.platform s.vm P1.m.cls T.fill0 = .method T.fill0 := by
    obtain ⟨c2, r2, m2, q1, q2, q3, q4, -⟩ := Cond.selects_spec (a' (.selects cls Bundle.tFill0 Bundle.tFill0) (by simp [kAtoms]))
    cases Option.some.inj (q1.symm.trans hfound)
    cases Option.some.inj (q2.symm.trans (State.methodFound?_of_named Yt.fill0 (by decide)))
    cases Option.some.inj (q3.symm.trans Yt.fill0)
    rw [Launch.admits_selectMethod X.admits]; exact q4
  have hselF : selectMethod e.platform s.vm P1.m.cls T.fill = .method T.fill := by
    obtain ⟨c2, r2, m2, q1, q2, q3, q4, -⟩ := Cond.selects_spec (a' (.selects cls Bundle.tFill Bundle.tFill) (by simp [kAtoms]))
    cases Option.some.inj (q1.symm.trans hfound)
    cases Option.some.inj (q2.symm.trans (State.methodFound?_of_named Yt.fill (by decide)))
    cases Option.some.inj (q3.symm.trans Yt.fill)
    rw [Launch.admits_selectMethod X.admits]; exact q4
  obtain ⟨cellS0, hcS0, hiss⟩ := Yt.statics
  obtain ⟨u0, hu0⟩ := Cond.staticRefV Yt.unassigned L.unassignedStatic L.statics hcS0 hiss (a' (.isRef (.static Bundle.tN "UNASSIGNED_STACK" Bundle.steD)) (by simp [kAtoms]))
  obtain ⟨sen, hsen⟩ := Cond.staticRefV Yt.sentinel L.sentinelStatic L.statics hcS0 hiss (a' (.isRef (.static Bundle.tN "SUPPRESSED_SENTINEL" Bundle.listD)) (by simp [kAtoms]))
  obtain ⟨ci198, i198, fB, hk198, hg198, ha198, hsB, -, hnB, htB, hffB⟩ := Cond.ownField (t := .object "java/lang/Object") Yt.found L.cls (by decide +kernel) (a' (.fieldLink Bundle.tN 198 Bundle.tN "backtrace" "Ljava/lang/Object;") (by simp [kAtoms])) (a' (.lays Bundle.tN Bundle.tN "backtrace" "Ljava/lang/Object;") (by simp [kAtoms])) e.platform hpl
  obtain ⟨cellS, hcS', heS, -, hkeep⟩ := X.same.2.2.2.2.2 T.aS cellS0 hcS0
  have hcellS : V.heap[T.aS]? = some cellS := hcS'
  have hout' : ∀ i, (⟨T.aS, i⟩ : Loc) ∉ locs := fun i hmem => by
    have := hlocs _ hmem cellS0 hcS0
    rw [hiss] at this; cases this
  have hknownS : cellS.vm ≠ .unknown := by
    rw [heS]; intro hu
    rw [show cellS0.vm = .unknown from hu] at hiss
    cases hiss
  have hneS : T.aS ≠ a := Nat.ne_of_lt (Nat.lt_of_lt_of_le (Array.getElem?_eq_some_iff.mp hcS0).1 hnew)
  obtain ⟨iM, hffM⟩ := Yt.msg
  obtain ⟨tyC, dC, hdC, hdnC⟩ := Cond.laysAt hfound hk Yt.cause (a' (.lays cls Bundle.tN "cause" "Ljava/lang/Throwable;") (by simp [kAtoms]))
  obtain ⟨tyS, dS, hdS, hdnS⟩ := Cond.laysAt hfound hk Yt.stack (a' (.lays cls Bundle.tN "stackTrace" Bundle.steD) (by simp [kAtoms]))
  obtain ⟨tyP, dP, hdP, hdnP⟩ := Cond.laysAt hfound hk Yt.supp (a' (.lays cls Bundle.tN "suppressedExceptions" Bundle.listD) (by simp [kAtoms]))
  obtain ⟨tyM, dM, hdM, hdnM⟩ := Cond.laysAt hfound hk hffM (a' (.lays cls Bundle.tN "detailMessage" "Ljava/lang/String;") (by simp [kAtoms]))
  obtain ⟨tyB, dB, hdB, hdnB⟩ := Cond.laysAt hfound hk hffB (a' (.lays cls Bundle.tN "backtrace" "Ljava/lang/Object;") (by simp [kAtoms]))
  have bC := Cond.laysApart hdB hdC hdnB hdnC (by rw [hnB, Yt.causeName]; decide)
  have bS := Cond.laysApart hdB hdS hdnB hdnS (by rw [hnB, Yt.stackName]; decide)
  have bP := Cond.laysApart hdB hdP hdnB hdnP (by rw [hnB, Yt.suppName]; decide)
  have hskip : SkipFacts T e.platform s (fun u => u) u0 ((preparedCellV T.toThrowableT (freshCell P1.m.cls kX) a u0 sen).withEntry V.cur) :=
    ⟨{ ci198 := ci198, i198 := i198, fBack := fB }, ⟨hk198, hg198, ha198, hsB⟩, by
      have := fresh_default (c := P1.m.cls) tyB
      rw [htB] at this
      simpa [preparedCellV, Cell.setSlot, Cell.withEntry, Array.getElem?_setIfInBounds, bC, bS, bP, bC.symm, bS.symm, bP.symm, defaultValue] using this, fun _ _ => rfl⟩
  obtain ⟨tm, methC, cdC, kC, vm₁, hnC, -, -, -, -, -, -, -, hW₁, st1⟩ := Steps.initColdS (tb := p.tables) (e := e) (below := below) (s := s) (U := V) X.here hexec X.warmed hpl hown (t := Bundle.initS cls) rfl rfl (Bundle.fit_spec hcls).2
    (a' (.methodLink own ic (Bundle.initS cls)) (by simp [kAtoms])) (h (.instanceMethod (Bundle.initS cls)) (by simp [kAtoms, Bundle.passSAtoms])) (bytes := rx) (maxL := 2) (h (.code (Bundle.initS cls) rx 2 none) (by simp [kAtoms, Bundle.passSAtoms]))
    (f := g) hg (a := a) (msg := msg) (rest := .ref a :: rest) hstack hd6
  cases Option.some.inj (hnC.symm.trans hP1m)
  have X₁ := X.noted hW₁
  obtain ⟨vm₂, X₂, st2⟩ := X₁.ctorMessageOffV hexec (g := { g with stack := .ref a :: rest }) hg hsize T L Z LZ M LM (P1 :: P2 :: Ps2)
    (fun P hP => by
      rcases List.mem_cons.mp hP with rfl | hP
      · exact L1
      · rcases List.mem_cons.mp hP with rfl | hP
        · exact L2
        · exact hL2 P hP) ⟨hlink1, hlink2a, hlink2⟩ (u0 := u0) (sen := sen) (self := a) hmsg (cell := freshCell P1.m.cls kX) (cellS := cellS)
    hcell (fun _ => by simp) (by simp) rfl rfl hsel0 hselF hcellS hneS hknownS (by rw [hkeep _ (hout' _)]; exact hu0) (by rw [hkeep _ (hout' _)]; exact hsen)
    (Takes.of_laid hk hord tyC (by rw [Yt.causeType]; rfl)) (Takes.of_laid hk hord tyS (by rw [Yt.stackType]; exact fits_refV_array _ u0)) (Takes.of_laid hk hord tyP (by rw [Yt.suppType]; exact fits_refV_object _ sen))
    (Takes.of_laid hk hord tyM (by rw [Yt.msgType]; exact fits_refV_object _ ⟨msg, hmsg⟩)) Yt.objLocals hskip htr [] hd6
    (by simp only [List.length_cons, hlen2]; omega) (by simp only [List.length_cons, hlen2]; exact hRlocals)
  obtain ⟨hwalk, hrun, hended, hWU, hsame⟩ := X₂.athrowLeaves hexec (g := { g with stack := .ref a :: rest, pc := g.pc + 3 }) hg hlocked hentered hout (a := a) (rest := rest) rfl hd9
  have hlt : a < ((V.setVm vm₁).setVm vm₂).heap.size := (Array.getElem?_eq_some_iff.mp hcell).1
  have hU := heapAt_setCell_self (s := (V.setVm vm₁).setVm vm₂) (plainBareV T.toThrowableT (freshCell P1.m.cls kX) a u0 sen msg) hlt
  refine ⟨_, st1 _ (fun acts => ?_), hrun, hended, hWU, hsame.weaken (fun y hy hlt' => ?_) (Nat.le_refl _) (Nat.le_refl _), _, hU, rfl, rfl⟩
  · rw [doInvoke_state]
    exact st2 _ hwalk
  · rcases List.mem_append.mp hy with h1 | h1
    · exact h1
    · exfalso
      have hb : y.base = a := by
        simp only [List.mem_cons, List.not_mem_nil, or_false] at h1
        rcases h1 with rfl | rfl | rfl | rfl | rfl <;> rfl
      rw [hb] at hlt'
      exact Nat.not_lt.mpr hnew hlt'
end KNS
section KNT
variable {p : Program} {l : Launch} {e : Env} {R : Room} {s : State} {m : MethodId} {args : Array Value} {below : List Frame} {meth : Method} {c : Code} {H : Heap} {locs : List Loc} {cells slots : Nat} {Q : State → Prop}
variable {cc : ByteArray} {nL pc : Nat} {Qc : Array Value → State → Outcome → State → Prop} {rest : List Value} {ls : Array Slot}
abbrev nsC : String := "java/util/NoSuchElementException"
def nsB : ByteArray := ⟨#[0x2a, 0x2b, 0xb7, 0x00, 0x0d, 0xb1]⟩
/-- the atoms of its throw but the four that speak of the heap -/
def nsAt (ic : Nat) : List Cond := (kAtoms RX3 ic nsC 13 nsB "java/lang/RuntimeException" ["java/lang/Exception"]).filter vx_no
theorem at_NS : ∀ w ∈ nsAt 187, w ∈ lw_tbl ∧ (w.onTables && w.keepsFace) = true := fun w h => by
  have h1 : (nsAt 187).all (fun w => decide (w ∈ lw_tbl) && (w.onTables && w.keepsFace)) = true := by decide +kernel
  have h2 := List.all_eq_true.mp h1 w h
  rw [Bool.and_eq_true, decide_eq_true_eq] at h2
  exact h2
theorem k_thrN {E2 : String → Prop} {mc2 ms2 ik is ic : Nat} {text : String} {free : Addr → Prop} (S : CallFix p m c cc nL s args big RX3) (hG : GL s) (hZ : ZS s s.heap) (hl : l.stackTraces = false)
    (hat : ∀ w ∈ nsAt ic, w ∈ lw_tbl ∧ (w.onTables && w.keepsFace) = true) (hk : Cond.classLink RX3 ik nsC ∈ big) (hini : Cond.initialized nsC ∈ big) (hfit : Bundle.fit nsC = true)
    (hstr : Cond.stringRef RX3 is text ∈ lw_tbl) (hsize : ls.size = nL) (ht : ∀ x ∈ c.exceptionTable.toList, False) (hlocks : meth.locks = false)
    (hR : 6 ≤ R.frames ∧ 90 ≤ R.locals) (hRc : cells + 1 ≤ R.cells ∧ slots + 6 ≤ R.slots) (hc : cells + 1 ≤ mc2 ∧ slots + 6 ≤ ms2) (hW : (rest.map fun v => v.category).sum ≤ 8) (hE : E2 nsC)
    (d0 : decode cc pc = .ok (.new ik, 3)) (d3 : decode cc (pc + 3) = .ok (.dup, 1)) (d4 : decode cc (pc + 4) = .ok (.ldc is, 2)) (d6 : decode cc (pc + 6) = .ok (.invokespecial ic, 3)) (d9 : decode cc (pc + 9) = .ok (.athrow, 1)) :
    W p l e R s m args below meth c s.heap [] cells slots (vx_MQ below Qc (tX E2) args s mc2 ms2 free) (F0 m pc ls rest) := by
  obtain ⟨sa, hsa⟩ := hG.str S.2.2.2.1 hstr
  intro T hT X
  have htr : e.platform.stackTraces = false := (show e.platform.stackTraces = l.stackTraces by rw [X.admits.platform]).trans hl
  have Y := vx_rebase X (R' := { frames := R.frames, locals := R.locals, cells := 1, slots := 6 }) (Nat.le_refl _) (Nat.le_refl _) hRc.1 hRc.2
  obtain ⟨s', hA⟩ : ∃ z, z = (T.setVm s.vm).setFrames (.invoking m args :: below) := ⟨_, rfl⟩
  rw [← hA] at Y
  have hvm : s'.vm = s.vm := by rw [hA]; rfl
  have hhp : s'.heap = s.heap := by rw [hA]; exact hT
  have hW0 : s.WarmedH s'.vm := by rw [hvm]; exact State.WarmedH.refl s
  have hG' : GL s' := hG.warm hW0
  have hU' : vx_Zq Bundle.tN "UNASSIGNED_STACK" Bundle.steD (fun _ => False) s' s'.heap := by rw [hhp]; exact vx_Zq.moved hW0.alike hZ.1
  have hN' : vx_Zq Bundle.tN "SUPPRESSED_SENTINEL" Bundle.listD (fun _ => False) s' s'.heap := by rw [hhp]; exact vx_Zq.moved hW0.alike hZ.2
  have h : ∀ w ∈ kAtoms RX3 ic nsC 13 nsB "java/lang/RuntimeException" ["java/lang/Exception"], w.before args s' = true := vx_own (fun w hw => hG'.face (hat w hw).1 (hat w hw).2) (vx_isRefq hU'.1) (vx_isRefq hN'.1) hU'.2.word hN'.2.word
  have hown' : s'.vm.findClass RX3 = some m.cls := by rw [hvm]; exact S.2.2.2.1
  have hins : (Cond.instantiable nsC 6).before args s' = true := h _ (by simp [kAtoms])
  obtain ⟨vm₁, cX, kX, hfX, hkX, -, -, X₁, st1⟩ := Y.newCold S.1 (own := RX3) (C := nsC) (index := ik) (n := 6) hown' (hG'.words _ hk) hins (hG'.words _ hini)
    (g := F0 m pc ls rest) rfl (by rw [S.2.1]; exact d0) (Nat.le_refl _) (Nat.le_refl _)
  generalize hT1 : (T.setVm vm₁).pushCell { cls := cX, slots := kX.instanceTypes.map defaultValue, vm := .none } = T1 at X₁ st1
  have hcat : (Value.ref T.heap.size).category = 1 := rfl
  have hcellA : T1.heap[T.heap.size]? = some (freshCell cX kX) := by rw [← hT1]; exact State.heap_pushCell_size _ _
  have d3' : decode c.code (pc + 3) = .ok (.dup, 1) := by rw [S.2.1]; exact d3
  have d4' : decode c.code (pc + 4) = .ok (.ldc is, 2) := by rw [S.2.1]; exact d4
  have hstr' : vk_R RX3 is text sa s' := vk_R.warm hW0 hsa
  obtain ⟨U, hsteps, hrun, hend, hWU, hsame, ce, hce, hcc, hcv⟩ := kCtorThrow X₁ S.1 htr (own := RX3) (cls := nsC) (Y := "java/lang/RuntimeException") (names := ["java/lang/Exception"]) (ic := ic) (ix := 13) (rx := nsB) (by decide +kernel) (by decide +kernel) (by decide +kernel) (by decide +kernel) hown' hfit (by decide +kernel) (by decide +kernel) h (fun x hx => nomatch hx) hfX hkX hcellA (by rw [hhp, hT]; exact Nat.le_refl _) (msg := .ref sa) rfl
    (g := { method := m, pc := pc + 6, locals := ls, stack := .ref sa :: .ref T.heap.size :: .ref T.heap.size :: rest, locked := none }) rfl (by rw [S.2.2.1]; exact hsize) rfl rfl (rest := rest) rfl
    (by rw [S.2.1]; exact d6) (by rw [S.2.1]; exact d9) (fun x hx => (ht x hx).elim) (by show 1 + 4 < R.frames; omega) (by simp only [List.map_cons, List.sum_cons, hcat, List.length_cons, List.length_nil]; have h8 : 2 * (F0 m (pc + 6) ls (.ref sa :: .ref T.heap.size :: .ref T.heap.size :: rest)).monitorRoom = 0 := rfl; show 0 + _ + _ ≤ _; omega) hlocks
  obtain ⟨f1, f2⟩ := vx_frame hsame
  rw [hhp] at f1 f2
  have hWs : s.WarmedH U.vm := State.WarmedH.trans hW0 hWU
  have hcl : s.vm.findClass nsC = some ce.cls := by
    have h9 := hfX
    rw [hvm] at h9
    rw [hcc]; exact h9
  have hall : s.sameButNew ({ U with vm := s.vm } : State) [] mc2 ms2 := by
    subst hA
    obtain ⟨e1, e2⟩ := hsame
    rw [State.setFrames_setFrames] at e1
    have h2 : (T.setVm s.vm).sameButNew ({ U with vm := s.vm } : State) [] (0 + 1) (0 + 6) := ⟨e1, e2⟩
    have h3 := X.same.trans h2
    rw [List.append_nil] at h3
    exact h3.mono hc.1 hc.2
  refine ⟨U, ?_, .threw T.heap.size, hrun, hend, Or.inr ⟨T.heap.size, rfl, nsC, ce, [], ⟨hE, f1, fun q hq => f2 q hq (fun z hz => nomatch hz)⟩, hce, hcv, hcl, hWs, hall, fun z hz => nomatch hz⟩⟩
  refine st1 _ ?_
  show Steps p.tables e below (T1.setTop { method := m, pc := pc + 3, locals := ls, stack := .ref T.heap.size :: rest, locked := none }) _
  jvm_step X₁.here [X₁.here.top, S.1, d3', Value.category]
  exact X₁.ldcString S.1 (own := RX3) (text := text) (index := is) (a := sa) hown' hstr'.1 hstr'.2
    (g := { method := m, pc := pc + 4, locals := ls, stack := .ref T.heap.size :: .ref T.heap.size :: rest, locked := none }) rfl d4' _ hsteps
end KNT
end
section
/-! WHAT THE CLASS's METHODS ANSWER, over its rows: a row's number and a place give an int. 0 prices, 1 bounds, 2 from, 3 to, 4 article, 5 quantity, 6 minute, 7 place, 8 cut, 9 closed, 10 persons, 11 first, 12 second, 13 agreement, 14 signature, 15 signedGap; 16 to 19, each at 0: now, moves, sheets, signatures -/
abbrev kS : Type := Nat → Nat → Int32
def oI (o : Option Nat) : Int32 := match o with
  | none => -1
  | some k => nI k
def ckI (i n : Int32) : Bool := if i < 0 then false else if n ≤ i then false else true
def ckP (i : Int32) : Bool := if i = -1 then true else ckI i 12
def ckR (v a b : Int32) : Bool := if v < a then false else if b < v then false else true
def agB (σ : kS) (k : Nat) : Bool := if σ 13 k = -1 then false else true
def hsB (σ : kS) (k : Nat) : Bool := if σ 14 k = 0 then false else true
/-- Integer.bitCount, its own steps -/
def bc (x : Int32) : Int32 :=
  let sh (a n : Int32) : Int32 := (a.toUInt32 >>> (n.toUInt32 &&& Int32.toUInt32 31)).toInt32
  let a := x - (sh x 1 &&& 1431655765)
  let b := (a &&& 858993459) + (sh a 2 &&& 858993459)
  let d := (b + sh b 4) &&& 252645135
  let f := d + sh d 8
  (f + sh f 16) &&& 63
def cbB (σ : kS) (k : Nat) (pe : Int32) : Bool := if σ 10 k &&& ((1 : Int32) <<< (pe &&& 31)) = 0 then false else true
def latO (σ : kS) (pl : Int32) : Nat → Option Nat
  | 0 => none
  | n + 1 => if σ 7 n = pl then some n else latO σ pl n
def opB (σ : kS) (pl : Int32) (ns : Nat) : Bool := match latO σ pl ns with
  | none => false
  | some k => if σ 9 k = 0 then true else false
def brT (σ : kS) (pl ar af un : Int32) (i : Nat) (z : Int32) : Int32 := if σ 4 i = ar then if af < σ 6 i then if σ 6 i ≤ un then if σ 3 i = pl then z + σ 5 i else if σ 2 i = pl then z - σ 5 i else z else z else z else z
def brF (σ : kS) (pl ar af un : Int32) : Nat → Int32
  | 0 => 0
  | n + 1 => brT σ pl ar af un n (brF σ pl ar af un n)
def strB (σ : kS) (a b ar : Nat) : Bool := if σ 8 a = σ 8 b then if σ 14 (b * 5 + ar) < σ 14 (a * 5 + ar) then true else false else if σ 8 b < σ 8 a then true else false
def ssT (σ : kS) (pl : Int32) (ar : Nat) (mi : Int32) (k : Nat) (o : Option Nat) : Option Nat :=
  if σ 7 k = pl then if σ 8 k ≤ mi then if hsB σ (k * 5 + ar) = true then match o with
    | none => some k
    | some b => if strB σ k b ar = true then some k else some b
  else o else o else o
def ssO (σ : kS) (pl : Int32) (ar : Nat) (mi : Int32) : Nat → Option Nat
  | 0 => none
  | n + 1 => ssT σ pl ar mi n (ssO σ pl ar mi n)
def boV (σ : kS) (nm ns : Nat) (pl : Int32) (ar : Nat) (mi : Int32) : Int32 := match ssO σ pl ar mi ns with
  | none => brF σ pl (nI ar) (-1) mi nm
  | some k => σ 13 (k * 5 + ar) + brF σ pl (nI ar) (σ 8 k) mi nm
def gpV (σ : kS) (nm ns sh ar : Nat) : Int32 := if hsB σ (sh * 5 + ar) = true then σ 15 (sh * 5 + ar) else σ 13 (sh * 5 + ar) - boV σ nm ns (σ 7 sh) ar (σ 8 sh)
def sgB (σ : kS) (sh ar : Nat) : Bool := if σ 9 sh = 0 then false else if agB σ (sh * 5 + ar) = true then if hsB σ (sh * 5 + ar) = true then false else true else false
def csB (σ : kS) (nm ns sh ot ar : Nat) : Bool := if σ 7 sh = σ 7 ot then false else if sgB σ sh ar = true then if sgB σ ot ar = true then if gpV σ nm ns sh ar = 0 then false else if gpV σ nm ns sh ar + gpV σ nm ns ot ar = 0 then true else false else false else false
def woF (σ : kS) (nm ns : Nat) (pl : Int32) : Nat → Int32
  | 0 => 0
  | n + 1 => woF σ nm ns pl n + σ 0 n * (if 0 < boV σ nm ns pl n (σ 16 0) then boV σ nm ns pl n (σ 16 0) else 0)
def urV (σ : kS) (nm ns : Nat) (pl : Int32) : Int64 := ((woF σ nm ns pl 5).toInt64 + 1) * (match latO σ pl ns with
  | none => (σ 16 0).toInt64 + 1
  | some k => (σ 16 0 - σ 8 k).toInt64)
def suT (σ : kS) (nm ns : Nat) (k : Nat) (z : Int32 × Int64) : Int32 × Int64 := if opB σ (nI k) ns = true then z else if z.1 = -1 then (nI k, urV σ nm ns (nI k)) else if lg_cmp (urV σ nm ns (nI k)) z.2 ≤ 0 then z else (nI k, urV σ nm ns (nI k))
def suF (σ : kS) (nm ns : Nat) : Nat → Int32 × Int64
  | 0 => (-1, 0)
  | n + 1 => suT σ nm ns n (suF σ nm ns n)
/-- the first below n for which it holds -/
def flO (p : Nat → Bool) : Nat → Option Nat
  | 0 => none
  | n + 1 => match flO p n with
    | some k => some k
    | none => if p n = true then some n else none
def exI (σ : kS) (sh : Nat) : Nat → Int32 × Int32 → Int32 × Int32
  | 0, z => z
  | n + 1, z => if hsB σ (sh * 5 + n) = true then ((exI σ sh n z).1 + 1, (exI σ sh n z).2 + (if σ 15 (sh * 5 + n) = 0 then 1 else 0)) else exI σ sh n z
def exF (σ : kS) (z : Int32) : Nat → Int32 × Int32
  | 0 => (0, 0)
  | n + 1 => if σ 7 n / 4 = z then exI σ n 5 (exF σ z n) else exF σ z n
def exV (σ : kS) (ns : Nat) (z : Int32) : Int32 := if (exF σ z ns).1 = 0 then -1 else 1000 * (exF σ z ns).2 / (exF σ z ns).1
def clA (σ : kS) (sh : Nat) : Nat → Int32
  | 0 => 0
  | n + 1 => if agB σ (sh * 5 + n) = true then clA σ sh n + 1 else clA σ sh n
def clB (σ : kS) (sh : Nat) : Nat → Bool
  | 0 => true
  | n + 1 => if clB σ sh n = true then if agB σ (sh * 5 + n) = true then true else if bc (σ 10 (sh * 5 + n)) ≤ 0 then true else false else false
def abV (x : Int32) : Int32 := if 0 ≤ x then x else 0 - x
def midV (a b c : Int32) : Int32 :=
  let x := if b < a then b else a
  let y := if a < b then b else a
  let z := if c < y then c else y
  if x < z then z else x
theorem ln_eq (sh ar : Nat) : nI sh * 5 + nI ar = nI (sh * 5 + ar) := by rw [show (5 : Int32) = nI 5 from rfl, pk_mul, nI_add]
-- which exception: 0 none, 1 IndexOutOfBounds, 2 IllegalArgument, 3 IllegalState, 4 NoSuchElement
def eX_setPrice (ar pr : Int32) : Nat := if ckI ar 5 = true then if ckR pr 0 1000 = true then 0 else 2 else 1
def eX_setBound (pe bo : Int32) : Nat := if ckI pe 6 = true then if ckR bo 0 1000000 = true then 0 else 2 else 1
def eX_move (σ : kS) (f t a q mi : Int32) : Nat := if ckP f = true then if ckP t = true then if ckI a 5 = true then if f = t then 2 else if ckR q 1 1000 = true then if ckR mi 0 (σ 16 0) = true then if σ 17 0 < 200 then 0 else 3 else 2 else 2 else 1 else 1 else 1
def eX_pass (mi : Int32) : Nat := if ckR mi 1 1000 = true then 0 else 2
def eX_open (σ : kS) (ns : Nat) (pl : Int32) : Nat := if ckI pl 12 = true then if opB σ pl ns = true then 3 else if σ 18 0 < 40 then 0 else 3 else 1
def ixN (x : Int32) : Nat := x.toNatClampNeg
def lnN (sh ar : Int32) : Nat := ixN sh * 5 + ixN ar
def eX_count (σ : kS) (sh pe ar q : Int32) : Nat := if ckI sh (σ 18 0) = true then if ckI pe 6 = true then if ckI ar 5 = true then if ckR q 0 100000 = true then if σ 9 (ixN sh) = 0 then if agB σ (lnN sh ar) = true then 3 else if cbB σ (lnN sh ar) pe = true then 3 else 0 else 3 else 2 else 1 else 1 else 1
def eX_close (σ : kS) (sh : Int32) : Nat := if ckI sh (σ 18 0) = true then if σ 9 (ixN sh) = 0 then if clB σ (ixN sh) 5 = true then 0 else 3 else 3 else 1
def eX_sign (σ : kS) (nm ns : Nat) (sh ar pe : Int32) : Nat := if ckI sh (σ 18 0) = true then if ckI ar 5 = true then if ckI pe 6 = true then if agB σ (lnN sh ar) = true then if sgB σ (ixN sh) (ixN ar) = true then if σ 0 (ixN ar) * abV (gpV σ nm ns (ixN sh) (ixN ar)) ≤ σ 1 (ixN pe) then 0 else 3 else 3 else 4 else 1 else 1 else 1
def eX_settle (σ : kS) (nm ns : Nat) (sh ot ar : Int32) : Nat := if ckI sh (σ 18 0) = true then if ckI ot (σ 18 0) = true then if ckI ar 5 = true then if agB σ (lnN sh ar) = true then if agB σ (lnN ot ar) = true then if csB σ nm ns (ixN sh) (ixN ot) (ixN ar) = true then 0 else 3 else 4 else 4 else 1 else 1 else 1
def eX_two (a n b k : Int32) : Nat := if (ckI a n && ckI b k) = true then 0 else 1
def eX_bookAt (σ : kS) (pl ar mi : Int32) : Nat := if ckI pl 12 = true then if ckI ar 5 = true then if ckR mi 0 (σ 16 0) = true then 0 else 2 else 1 else 1
def eX_one (a n : Int32) : Nat := if ckI a n = true then 0 else 1
def eX_gap (σ : kS) (sh ar : Int32) : Nat := if (ckI sh (σ 18 0) && ckI ar 5) = true then if agB σ (lnN sh ar) = true then 0 else 4 else 1
theorem ckI_nI {x : Int32} {n : Nat} (h : ckI x (nI n) = true) (hn : n < 2 ^ 31) : ∃ j, j < n ∧ x = nI j := by
  unfold ckI at h
  by_cases h1 : x < 0
  · simp [h1] at h
  · by_cases h2 : nI n ≤ x
    · simp [h1, h2] at h
    · obtain ⟨j, hj, rfl⟩ := nI_of h1
      refine ⟨j, ?_, rfl⟩
      rw [nI_leI hn hj] at h2
      omega
theorem ixN_nI {n : Nat} (h : n < 2 ^ 31) : ixN (nI n) = n := nI_clamp h
theorem flO_none {p : Nat → Bool} : ∀ {n : Nat}, (∀ j, j < n → p j = false) → flO p n = none
  | 0, _ => rfl
  | n + 1, h => by
    rw [flO, flO_none (fun j hj => h j (by omega))]
    simp [h n (by omega)]
theorem flO_at {p : Nat → Bool} {k : Nat} (hk : p k = true) (h : ∀ j, j < k → p j = false) : ∀ {n : Nat}, k < n → flO p n = some k
  | 0, hn => by omega
  | n + 1, hn => by
    rw [flO]
    by_cases q : k = n
    · subst q
      rw [flO_none h]
      simp [hk]
    · rw [flO_at hk h (by omega)]
theorem clB_no {σ : kS} {sh : Nat} : ∀ {n k : Nat}, n ≤ k → clB σ sh n = false → clB σ sh k = false := by
  intro n k h hn
  induction k with
  | zero => have : n = 0 := by omega
            subst this; exact hn
  | succ k ih =>
    by_cases q : n = k + 1
    · subst q; exact hn
    · have := ih (by omega)
      simp [clB, this]
theorem le_nlt {x y : Int32} (h : x ≤ y) : ¬ y < x := Int32.not_lt.mpr h
theorem nle_lt {x y : Int32} (h : ¬ x ≤ y) : y < x := Int32.not_le.mp h
theorem lt_nle {x y : Int32} (h : x < y) : ¬ y ≤ x := Int32.not_le.mpr h
theorem nlt_le {x y : Int32} (h : ¬ x < y) : y ≤ x := Int32.not_lt.mp h
theorem m1_eq (x : Int32) : x + Int32.ofInt (-1) = x - 1 := by rw [show Int32.ofInt (-1) = -1 from rfl, ← Int32.sub_eq_add_neg]
theorem latO_lt {σ : kS} {pl : Int32} : ∀ {n k : Nat}, latO σ pl n = some k → k < n ∧ σ 7 k = pl
  | 0, k, h => by simp [latO] at h
  | n + 1, k, h => by
    by_cases q : σ 7 n = pl
    · simp [latO, q] at h; subst h; exact ⟨by omega, q⟩
    · simp [latO, q] at h
      have := latO_lt h
      exact ⟨by omega, this.2⟩
theorem ssO_lt {σ : kS} {pl : Int32} {ar : Nat} {mi : Int32} : ∀ {n k : Nat}, ssO σ pl ar mi n = some k → k < n
  | 0, k, h => by simp [ssO] at h
  | n + 1, k, h => by
    have ih := fun {k : Nat} => @ssO_lt σ pl ar mi n k
    rw [ssO] at h
    generalize ho : ssO σ pl ar mi n = o at h ih
    unfold ssT at h
    cases o with
    | none =>
      simp only at h
      split at h
      · split at h
        · split at h
          · cases h; omega
          · cases h
        · cases h
      · cases h
    | some b =>
      have hb := ih rfl
      simp only at h
      split at h
      · split at h
        · split at h
          · split at h
            · cases h; omega
            · cases h; omega
          · cases h; omega
        · cases h; omega
      · cases h; omega
theorem nI_m1 {k : Nat} (h : k < 2 ^ 31) : ¬ nI k = -1 := fun q => nI_pos h (by rw [q]; decide)
end
section
set_option maxHeartbeats 4000000 in
set_option maxRecDepth 100000 in
theorem c_lineOf (l : Launch) (sh ar : Nat)  : Met l yX3_lineOf [.code yX3_lineOf cX3_lineOf 2 (some .int)] ({ frames := 1, cells := 0, slots := 0, locals := 40 }) (va_Pc [.int (nI sh), .int (nI ar)] (fun U => GL U)) (vp_Si (fun r => r = nI (sh * 5 + ar))) 0 0 NF := by
  refine k_of (by decide) (Nat.le_of_ble_eq_true rfl) (fun U h => h) ?_
  intro p e s m below meth c ls S hr hlocks hmn hB hl
  have hx := S.1
  have hb := S.2.1
  have hG : GL s := hB
  have hl : lv_has ls 2 [(0, .int (nI sh)), (1, .int (nI ar))] := hl
  refine lv_iload_n hx hb dX3_lineOf_0 rfl (lv_at hl 0 rfl) ?_
  refine lv_iconst (v := 5) hx hb dX3_lineOf_1 (by decide) ?_
  refine lv_imul hx hb dX3_lineOf_2 ?_
  refine lv_iload_n hx hb dX3_lineOf_3 rfl (lv_at hl 1 rfl) ?_
  refine lv_iadd hx hb dX3_lineOf_4 ?_
  exact W.iret (v := ((nI sh) * 5) + (nI ar)) hx hb hr (fun t ht hW => ⟨_, rfl, ln_eq sh ar, ht⟩) (fun q h => by cases h) dX3_lineOf_5

set_option maxHeartbeats 4000000 in
set_option maxRecDepth 100000 in
theorem c_bitCount (l : Launch) (x : Int32)  : Met l yJ6_bitCount_0f7a4 [.code yJ6_bitCount_0f7a4 cJ6_bitCount_0f7a4 1 (some .int)] ({ frames := 1, cells := 0, slots := 0, locals := 40 }) (va_Pc [.int x] (fun U => GL U)) (vp_Si (fun r => r = bc x)) 0 0 NF := by
  refine k_of (by decide) (Nat.le_of_ble_eq_true rfl) (fun U h => h) ?_
  intro p e s m below meth c ls S hr hlocks hmn hB hl
  have hx := S.1
  have hb := S.2.1
  have hG : GL s := hB
  have hl : lv_has ls 1 [(0, .int x)] := hl
  refine lv_iload_n hx hb dJ6_bitCount_0f7a4_0 rfl (lv_at hl 0 rfl) ?_
  refine lv_iload_n hx hb dJ6_bitCount_0f7a4_1 rfl (lv_at hl 0 rfl) ?_
  refine lv_iconst (v := 1) hx hb dJ6_bitCount_0f7a4_2 (by decide) ?_
  refine lv_iushr (v := (x.toUInt32 >>> (Int32.toUInt32 1 &&& Int32.toUInt32 31)).toInt32) hx hb dJ6_bitCount_0f7a4_3 rfl ?_
  refine lv_ldcw (v := 1431655765) hx hb S.2.2.2.1 (S.2.2.2.2 _ m_412) dJ6_bitCount_0f7a4_4 ?_
  refine lv_iand hx hb dJ6_bitCount_0f7a4_7 ?_
  refine lv_isub hx hb dJ6_bitCount_0f7a4_8 ?_
  refine lv_topi (fun x1 ex1 => ?_)
  refine lv_istore_n (lv' := [(0, .int x1)]) hx hb dJ6_bitCount_0f7a4_9 rfl hl (by decide) rfl (fun ls hl => ?_)
  refine lv_iload_n hx hb dJ6_bitCount_0f7a4_10 rfl (lv_at hl 0 rfl) ?_
  refine lv_ldcw (v := 858993459) hx hb S.2.2.2.1 (S.2.2.2.2 _ m_413) dJ6_bitCount_0f7a4_11 ?_
  refine lv_iand hx hb dJ6_bitCount_0f7a4_14 ?_
  refine lv_iload_n hx hb dJ6_bitCount_0f7a4_15 rfl (lv_at hl 0 rfl) ?_
  refine lv_iconst (v := 2) hx hb dJ6_bitCount_0f7a4_16 (by decide) ?_
  refine lv_iushr (v := (x1.toUInt32 >>> (Int32.toUInt32 2 &&& Int32.toUInt32 31)).toInt32) hx hb dJ6_bitCount_0f7a4_17 rfl ?_
  refine lv_ldcw (v := 858993459) hx hb S.2.2.2.1 (S.2.2.2.2 _ m_413) dJ6_bitCount_0f7a4_18 ?_
  refine lv_iand hx hb dJ6_bitCount_0f7a4_21 ?_
  refine lv_iadd hx hb dJ6_bitCount_0f7a4_22 ?_
  refine lv_topi (fun x2 ex2 => ?_)
  refine lv_istore_n (lv' := [(0, .int x2)]) hx hb dJ6_bitCount_0f7a4_23 rfl hl (by decide) rfl (fun ls hl => ?_)
  refine lv_iload_n hx hb dJ6_bitCount_0f7a4_24 rfl (lv_at hl 0 rfl) ?_
  refine lv_iload_n hx hb dJ6_bitCount_0f7a4_25 rfl (lv_at hl 0 rfl) ?_
  refine lv_iconst (v := 4) hx hb dJ6_bitCount_0f7a4_26 (by decide) ?_
  refine lv_iushr (v := (x2.toUInt32 >>> (Int32.toUInt32 4 &&& Int32.toUInt32 31)).toInt32) hx hb dJ6_bitCount_0f7a4_27 rfl ?_
  refine lv_iadd hx hb dJ6_bitCount_0f7a4_28 ?_
  refine lv_ldcw (v := 252645135) hx hb S.2.2.2.1 (S.2.2.2.2 _ m_414) dJ6_bitCount_0f7a4_29 ?_
  refine lv_iand hx hb dJ6_bitCount_0f7a4_32 ?_
  refine lv_topi (fun x3 ex3 => ?_)
  refine lv_istore_n (lv' := [(0, .int x3)]) hx hb dJ6_bitCount_0f7a4_33 rfl hl (by decide) rfl (fun ls hl => ?_)
  refine lv_iload_n hx hb dJ6_bitCount_0f7a4_34 rfl (lv_at hl 0 rfl) ?_
  refine lv_iload_n hx hb dJ6_bitCount_0f7a4_35 rfl (lv_at hl 0 rfl) ?_
  refine lv_bipush (v := 8) hx hb dJ6_bitCount_0f7a4_36 (by decide) ?_
  refine lv_iushr (v := (x3.toUInt32 >>> (Int32.toUInt32 8 &&& Int32.toUInt32 31)).toInt32) hx hb dJ6_bitCount_0f7a4_38 rfl ?_
  refine lv_iadd hx hb dJ6_bitCount_0f7a4_39 ?_
  refine lv_topi (fun x4 ex4 => ?_)
  refine lv_istore_n (lv' := [(0, .int x4)]) hx hb dJ6_bitCount_0f7a4_40 rfl hl (by decide) rfl (fun ls hl => ?_)
  refine lv_iload_n hx hb dJ6_bitCount_0f7a4_41 rfl (lv_at hl 0 rfl) ?_
  refine lv_iload_n hx hb dJ6_bitCount_0f7a4_42 rfl (lv_at hl 0 rfl) ?_
  refine lv_bipush (v := 16) hx hb dJ6_bitCount_0f7a4_43 (by decide) ?_
  refine lv_iushr (v := (x4.toUInt32 >>> (Int32.toUInt32 16 &&& Int32.toUInt32 31)).toInt32) hx hb dJ6_bitCount_0f7a4_45 rfl ?_
  refine lv_iadd hx hb dJ6_bitCount_0f7a4_46 ?_
  refine lv_topi (fun x5 ex5 => ?_)
  refine lv_istore_n (lv' := [(0, .int x5)]) hx hb dJ6_bitCount_0f7a4_47 rfl hl (by decide) rfl (fun ls hl => ?_)
  refine lv_iload_n hx hb dJ6_bitCount_0f7a4_48 rfl (lv_at hl 0 rfl) ?_
  refine lv_bipush (v := 63) hx hb dJ6_bitCount_0f7a4_49 (by decide) ?_
  refine lv_iand hx hb dJ6_bitCount_0f7a4_51 ?_
  exact W.iret (v := x5 &&& 63) hx hb hr (fun t ht hW => ⟨_, rfl, (by subst ex5; subst ex4; subst ex3; subst ex2; subst ex1; rfl), ht⟩) (fun q h => by cases h) dJ6_bitCount_0f7a4_52

set_option maxHeartbeats 4000000 in
set_option maxRecDepth 100000 in
theorem c_agrees (l : Launch) (G : kG) (ad : Nat → Nat) (σ : kS) (k : Nat) (hk : k < 200) : Met l yX0_agrees [.code yX0_agrees cX0_agrees 2 (some .boolean)] ({ frames := 1, cells := 0, slots := 0, locals := 40 }) (va_Pc [.ref (ad 5), .int (nI k)] (fun U => PX G ad σ U U.heap)) (vp_Si (fun r => r = bI (agB σ k))) 0 0 NF := by
  refine k_of (by decide) (Nat.le_of_ble_eq_true rfl) (fun U h => h.2.2) ?_
  intro p e s m below meth c ls S hr hlocks hmn hB hl
  have hx := S.1
  have hb := S.2.1
  have hX : PX G ad σ s s.heap := hB
  have hl : lv_has ls 2 [(0, .ref (ad 5)), (1, .int (nI k))] := hl
  refine lv_aload_n hx hb dX0_agrees_0 rfl (lv_at hl 0 rfl) ?_
  refine k_get S hX.2 hX.1 5 (C := RX0) (T := TX0) (N := 7) rfl rfl 3 (by decide) inX0 m_121 rfl dX0_agrees_1 ?_
  refine lv_iload_n hx hb dX0_agrees_4 rfl (lv_at hl 1 rfl) ?_
  refine k_ild S hX.2 hX.1 17 (i := k) rfl (by omega) (by decide) dX0_agrees_5 ?_
  refine lv_iconst (v := (-1)) hx hb dX0_agrees_6 (by decide) ?_
  refine lv_icmp_eq (tgt := 14) hx hb dX0_agrees_7 (by decide) (fun c7_1 => ?_) (fun c7_1 => ?_)
  · have bc7_1 := c7_1
    refine lv_iconst (v := 0) hx hb dX0_agrees_14 (by decide) ?_
    exact W.zret (v := 0) (ty := .boolean) hx hb hr (by first | rfl | exact bI_nar _) (fun t ht hW => ⟨_, rfl, (by simp [agB, bI, c7_1]), ht⟩) (fun q h => by cases h) dX0_agrees_15
  · have bc7_1 := c7_1
    refine lv_iconst (v := 1) hx hb dX0_agrees_10 (by decide) ?_
    refine lv_goto (tgt := 15) hx hb dX0_agrees_11 (by decide) ?_
    exact W.zret (v := 1) (ty := .boolean) hx hb hr (by first | rfl | exact bI_nar _) (fun t ht hW => ⟨_, rfl, (by simp [agB, bI, c7_1]), ht⟩) (fun q h => by cases h) dX0_agrees_15

set_option maxHeartbeats 4000000 in
set_option maxRecDepth 100000 in
theorem c_hasSign (l : Launch) (G : kG) (ad : Nat → Nat) (σ : kS) (k : Nat) (hk : k < 200) : Met l yX0_hasSign [.code yX0_hasSign cX0_hasSign 2 (some .boolean)] ({ frames := 1, cells := 0, slots := 0, locals := 40 }) (va_Pc [.ref (ad 5), .int (nI k)] (fun U => PX G ad σ U U.heap)) (vp_Si (fun r => r = bI (hsB σ k))) 0 0 NF := by
  refine k_of (by decide) (Nat.le_of_ble_eq_true rfl) (fun U h => h.2.2) ?_
  intro p e s m below meth c ls S hr hlocks hmn hB hl
  have hx := S.1
  have hb := S.2.1
  have hX : PX G ad σ s s.heap := hB
  have hl : lv_has ls 2 [(0, .ref (ad 5)), (1, .int (nI k))] := hl
  refine lv_aload_n hx hb dX0_hasSign_0 rfl (lv_at hl 0 rfl) ?_
  refine k_get S hX.2 hX.1 5 (C := RX0) (T := TX0) (N := 7) rfl rfl 4 (by decide) inX0 m_123 rfl dX0_hasSign_1 ?_
  refine lv_iload_n hx hb dX0_hasSign_4 rfl (lv_at hl 1 rfl) ?_
  refine k_ild S hX.2 hX.1 18 (i := k) rfl (by omega) (by decide) dX0_hasSign_5 ?_
  refine lv_if_eq (tgt := 13) hx hb dX0_hasSign_6 (by decide) (fun c6_1 => ?_) (fun c6_1 => ?_)
  · have bc6_1 := c6_1
    refine lv_iconst (v := 0) hx hb dX0_hasSign_13 (by decide) ?_
    exact W.zret (v := 0) (ty := .boolean) hx hb hr (by first | rfl | exact bI_nar _) (fun t ht hW => ⟨_, rfl, (by simp [hsB, bI, c6_1]), ht⟩) (fun q h => by cases h) dX0_hasSign_14
  · have bc6_1 := c6_1
    refine lv_iconst (v := 1) hx hb dX0_hasSign_9 (by decide) ?_
    refine lv_goto (tgt := 14) hx hb dX0_hasSign_10 (by decide) ?_
    exact W.zret (v := 1) (ty := .boolean) hx hb hr (by first | rfl | exact bI_nar _) (fun t ht hW => ⟨_, rfl, (by simp [hsB, bI, c6_1]), ht⟩) (fun q h => by cases h) dX0_hasSign_14

set_option maxHeartbeats 4000000 in
set_option maxRecDepth 100000 in
theorem c_countsOn (l : Launch) (G : kG) (ad : Nat → Nat) (σ : kS) (k : Nat) (hk : k < 200) : Met l yX0_countsOn [.code yX0_countsOn cX0_countsOn 2 (some .int)] ({ frames := 2, cells := 0, slots := 0, locals := 60 }) (va_Pc [.ref (ad 5), .int (nI k)] (fun U => PX G ad σ U U.heap)) (vp_Si (fun r => r = bc (σ 10 k))) 0 0 NF := by
  refine k_of (by decide) (Nat.le_of_ble_eq_true rfl) (fun U h => h.2.2) ?_
  intro p e s m below meth c ls S hr hlocks hmn hB hl
  have hx := S.1
  have hb := S.2.1
  have hX : PX G ad σ s s.heap := hB
  have hl : lv_has ls 2 [(0, .ref (ad 5)), (1, .int (nI k))] := hl
  refine lv_aload_n hx hb dX0_countsOn_0 rfl (lv_at hl 0 rfl) ?_
  refine k_get S hX.2 hX.1 5 (C := RX0) (T := TX0) (N := 7) rfl rfl 0 (by decide) inX0 m_118 rfl dX0_countsOn_1 ?_
  refine lv_iload_n hx hb dX0_countsOn_4 rfl (lv_at hl 1 rfl) ?_
  refine k_ild S hX.2 hX.1 14 (i := k) rfl (by omega) (by decide) dX0_countsOn_5 ?_
  refine q_i (r_S S ⟨m_409, m_410, m_47, m_411⟩ ⟨rfl, by decide, by decide, by decide +kernel⟩ (c_bitCount l (σ 10 k)) ⟨rfl, rfl, Nat.le_of_ble_eq_true rfl, Nat.le_of_ble_eq_true rfl⟩ (ps bl_GL (bG hX.2.2)) (n := 1) (As := [.int (σ 10 k)]) (rest := []) rfl hl.1 rfl (Nat.le_of_ble_eq_true rfl) ⟨Nat.le_of_ble_eq_true rfl, Nat.le_of_ble_eq_true rfl⟩ dX0_countsOn_6) (fun r1 (e1 : r1 = bc (σ 10 k)) => ?_)
  subst e1
  exact W.iret (v := bc (σ 10 k)) hx hb hr (fun t ht hW => ⟨_, rfl, rfl, ht⟩) (fun q h => by cases h) dX0_countsOn_9

set_option maxHeartbeats 4000000 in
set_option maxRecDepth 100000 in
theorem c_isCountedBy (l : Launch) (G : kG) (ad : Nat → Nat) (σ : kS) (k : Nat) (pe : Int32) (hk : k < 200) : Met l yX0_isCountedBy [.code yX0_isCountedBy cX0_isCountedBy 3 (some .boolean)] ({ frames := 1, cells := 0, slots := 0, locals := 40 }) (va_Pc [.ref (ad 5), .int (nI k), .int pe] (fun U => PX G ad σ U U.heap)) (vp_Si (fun r => r = bI (cbB σ k pe))) 0 0 NF := by
  refine k_of (by decide) (Nat.le_of_ble_eq_true rfl) (fun U h => h.2.2) ?_
  intro p e s m below meth c ls S hr hlocks hmn hB hl
  have hx := S.1
  have hb := S.2.1
  have hX : PX G ad σ s s.heap := hB
  have hl : lv_has ls 3 [(0, .ref (ad 5)), (1, .int (nI k)), (2, .int pe)] := hl
  refine lv_aload_n hx hb dX0_isCountedBy_0 rfl (lv_at hl 0 rfl) ?_
  refine k_get S hX.2 hX.1 5 (C := RX0) (T := TX0) (N := 7) rfl rfl 0 (by decide) inX0 m_118 rfl dX0_isCountedBy_1 ?_
  refine lv_iload_n hx hb dX0_isCountedBy_4 rfl (lv_at hl 1 rfl) ?_
  refine k_ild S hX.2 hX.1 14 (i := k) rfl (by omega) (by decide) dX0_isCountedBy_5 ?_
  refine lv_iconst (v := 1) hx hb dX0_isCountedBy_6 (by decide) ?_
  refine lv_iload_n hx hb dX0_isCountedBy_7 rfl (lv_at hl 2 rfl) ?_
  refine lv_ishl hx hb dX0_isCountedBy_8 ?_
  refine lv_iand hx hb dX0_isCountedBy_9 ?_
  refine lv_if_eq (tgt := 17) hx hb dX0_isCountedBy_10 (by decide) (fun c10_1 => ?_) (fun c10_1 => ?_)
  · have bc10_1 := c10_1
    refine lv_iconst (v := 0) hx hb dX0_isCountedBy_17 (by decide) ?_
    exact W.zret (v := 0) (ty := .boolean) hx hb hr (by first | rfl | exact bI_nar _) (fun t ht hW => ⟨_, rfl, (by simp [cbB, bI, c10_1]), ht⟩) (fun q h => by cases h) dX0_isCountedBy_18
  · have bc10_1 := c10_1
    refine lv_iconst (v := 1) hx hb dX0_isCountedBy_13 (by decide) ?_
    refine lv_goto (tgt := 18) hx hb dX0_isCountedBy_14 (by decide) ?_
    exact W.zret (v := 1) (ty := .boolean) hx hb hr (by first | rfl | exact bI_nar _) (fun t ht hW => ⟨_, rfl, (by simp [cbB, bI, c10_1]), ht⟩) (fun q h => by cases h) dX0_isCountedBy_18

set_option maxHeartbeats 4000000 in
set_option maxRecDepth 100000 in
theorem c_middleOf (l : Launch) (a b c9 : Int32)  : Met l yX0_middleOf [.code yX0_middleOf cX0_middleOf 3 (some .int)] ({ frames := 2, cells := 0, slots := 0, locals := 61 }) (va_Pc [.int a, .int b, .int c9] (fun U => GL U)) (vp_Si (fun r => r = midV a b c9)) 0 0 NF := by
  refine k_of (by decide) (Nat.le_of_ble_eq_true rfl) (fun U h => h) ?_
  intro p e s m below meth c ls S hr hlocks hmn hB hl
  have hx := S.1
  have hb := S.2.1
  have hG : GL s := hB
  have hl : lv_has ls 3 [(0, .int a), (1, .int b), (2, .int c9)] := hl
  refine lv_iload_n hx hb dX0_middleOf_0 rfl (lv_at hl 0 rfl) ?_
  refine lv_iload_n hx hb dX0_middleOf_1 rfl (lv_at hl 1 rfl) ?_
  refine va_mmin hx hb (S.2.2.1.trans hl.1.symm) S.2.2.2.1 (S.2.2.2.2 _ m_418) (S.2.2.2.2 _ m_419) (S.2.2.2.2 _ m_48) (S.2.2.2.2 _ m_420) (Nat.le_of_ble_eq_true rfl) (Nat.le_of_ble_eq_true rfl) (Nat.le_of_ble_eq_true rfl) (Nat.le_of_ble_eq_true rfl) dX0_middleOf_2 ?_
  refine lv_iload_n hx hb dX0_middleOf_5 rfl (lv_at hl 0 rfl) ?_
  refine lv_iload_n hx hb dX0_middleOf_6 rfl (lv_at hl 1 rfl) ?_
  refine va_mmax hx hb (S.2.2.1.trans hl.1.symm) S.2.2.2.1 (S.2.2.2.2 _ m_421) (S.2.2.2.2 _ m_216) (S.2.2.2.2 _ m_48) (S.2.2.2.2 _ m_217) (Nat.le_of_ble_eq_true rfl) (Nat.le_of_ble_eq_true rfl) (Nat.le_of_ble_eq_true rfl) (Nat.le_of_ble_eq_true rfl) dX0_middleOf_7 ?_
  refine lv_iload_n hx hb dX0_middleOf_10 rfl (lv_at hl 2 rfl) ?_
  refine va_mmin hx hb (S.2.2.1.trans hl.1.symm) S.2.2.2.1 (S.2.2.2.2 _ m_418) (S.2.2.2.2 _ m_419) (S.2.2.2.2 _ m_48) (S.2.2.2.2 _ m_420) (Nat.le_of_ble_eq_true rfl) (Nat.le_of_ble_eq_true rfl) (Nat.le_of_ble_eq_true rfl) (Nat.le_of_ble_eq_true rfl) dX0_middleOf_11 ?_
  refine va_mmax hx hb (S.2.2.1.trans hl.1.symm) S.2.2.2.1 (S.2.2.2.2 _ m_421) (S.2.2.2.2 _ m_216) (S.2.2.2.2 _ m_48) (S.2.2.2.2 _ m_217) (Nat.le_of_ble_eq_true rfl) (Nat.le_of_ble_eq_true rfl) (Nat.le_of_ble_eq_true rfl) (Nat.le_of_ble_eq_true rfl) dX0_middleOf_14 ?_
  exact W.iret (v := (if (if b < a then b else a) < (if c9 < (if a < b then b else a) then c9 else (if a < b then b else a)) then (if c9 < (if a < b then b else a) then c9 else (if a < b then b else a)) else (if b < a then b else a))) hx hb hr (fun t ht hW => ⟨_, rfl, rfl, ht⟩) (fun q h => by cases h) dX0_middleOf_17

set_option maxHeartbeats 4000000 in
set_option maxRecDepth 100000 in
theorem c_latestFor (l : Launch) (G : kG) (ad : Nat → Nat) (σ : kS) (ns : Nat) (pl : Int32) (hns : σ 18 0 = nI ns) (hns4 : ns ≤ 40) : Met l yX2_latestFor [.code yX2_latestFor cX2_latestFor 3 (some .int)] ({ frames := 1, cells := 0, slots := 0, locals := 40 }) (va_Pc [.ref (ad 4), .int pl] (fun U => PX G ad σ U U.heap)) (vp_Si (fun r => r = oI (latO σ pl ns))) 0 0 NF := by
  refine k_of (by decide) (Nat.le_of_ble_eq_true rfl) (fun U h => h.2.2) ?_
  intro p e s m below meth c ls S hr hlocks hmn hB hl
  have hx := S.1
  have hb := S.2.1
  have hX : PX G ad σ s s.heap := hB
  have hl : lv_has ls 3 [(0, .ref (ad 4)), (1, .int pl)] := hl
  have L7 : ∀ (k : Nat), k ≤ ns → latO σ pl k = latO σ pl ns → ∀ ls, lv_has ls 3 [(0, .ref (ad 4)), (1, .int pl), (2, .int (nI k - 1))] → W p l e ({ frames := 1, cells := 0, slots := 0, locals := 40 } : Room) s m [.ref (ad 4), .int pl].toArray below meth c s.heap [] 0 0 (MQ below (vp_Si (fun r => r = oI (latO σ pl ns))) [.ref (ad 4), .int pl].toArray s 0 0 NF) (F0 m 7 ls []) := by
    intro k
    induction k with
    | zero =>
      intro hk hlo ls hl
      refine lv_iload_n hx hb dX2_latestFor_7 rfl (lv_at hl 2 rfl) ?_
      refine lv_if_lt (tgt := 29) hx hb dX2_latestFor_8 (by decide) (fun c8_1 => ?_) (fun c8_1 => ?_)
      · have bc8_1 := lt_nle c8_1
        refine lv_iconst (v := (-1)) hx hb dX2_latestFor_29 (by decide) ?_
        exact W.iret (v := (-1)) hx hb hr (fun t ht hW => ⟨_, rfl, (by rw [← hlo]; rfl), ht⟩) (fun q h => by cases h) dX2_latestFor_30
      · have bc8_1 := nlt_le c8_1
        exact absurd (by decide) c8_1
    | succ j ih =>
      intro hk hlo ls hl
      rw [nI_pred] at hl
      refine lv_iload_n hx hb dX2_latestFor_7 rfl (lv_at hl 2 rfl) ?_
      refine lv_if_lt (tgt := 29) hx hb dX2_latestFor_8 (by decide) (fun c8_2 => ?_) (fun c8_2 => ?_)
      · have bc8_2 := lt_nle c8_2
        exact absurd c8_2 (nI_pos (by omega))
      · have bc8_2 := nlt_le c8_2
        refine lv_aload_n hx hb dX2_latestFor_11 rfl (lv_at hl 0 rfl) ?_
        refine k_get S hX.2 hX.1 4 (C := RX2) (T := TX2) (N := 4) rfl rfl 0 (by decide) inX2 m_91 rfl dX2_latestFor_12 ?_
        refine lv_iload_n hx hb dX2_latestFor_15 rfl (lv_at hl 2 rfl) ?_
        refine k_ild S hX.2 hX.1 11 (i := j) rfl (by omega) (by decide) dX2_latestFor_16 ?_
        refine lv_iload_n hx hb dX2_latestFor_17 rfl (lv_at hl 1 rfl) ?_
        refine lv_icmp_ne (tgt := 23) hx hb dX2_latestFor_18 (by decide) (fun c18_3 => ?_) (fun c18_3 => ?_)
        · have bc18_3 := c18_3
          refine lv_iinc (v := nI j - 1) (lv' := [(2, .int (nI j - 1)), (0, .ref (ad 4)), (1, .int pl)]) hx hb dX2_latestFor_23 hl (k := 2) rfl (m1_eq _) (by decide) rfl (fun ls hl => ?_)
          refine lv_goto (tgt := 7) hx hb dX2_latestFor_26 (by decide) ?_
          exact ih (by omega) (by rw [← hlo]; simp [latO, c18_3]) ls (lv_sub hl [1, 2, 0] rfl)
        · have bc18_3 := c18_3
          refine lv_iload_n hx hb dX2_latestFor_21 rfl (lv_at hl 2 rfl) ?_
          exact W.iret (v := nI j) hx hb hr (fun t ht hW => ⟨_, rfl, (by rw [← hlo]; simp [latO, c18_3, oI]), ht⟩) (fun q h => by cases h) dX2_latestFor_22
  refine lv_aload_n hx hb dX2_latestFor_0 rfl (lv_at hl 0 rfl) ?_
  refine k_get S hX.2 hX.1 4 (C := RX2) (T := TX2) (N := 4) rfl rfl 3 (by decide) inX2 m_97 rfl dX2_latestFor_1 ?_
  refine k_eq (y := nI ns) (hns) ?_
  refine lv_iconst (v := 1) hx hb dX2_latestFor_4 (by decide) ?_
  refine lv_isub hx hb dX2_latestFor_5 ?_
  refine lv_istore_n (lv' := [(2, .int ((nI ns) - 1)), (0, .ref (ad 4)), (1, .int pl)]) hx hb dX2_latestFor_6 rfl hl (by decide) rfl (fun ls hl => ?_)
  exact L7 ns (Nat.le_refl _) rfl ls (lv_sub hl [1, 2, 0] rfl)

set_option maxHeartbeats 4000000 in
set_option maxRecDepth 100000 in
theorem c_isOpenFor (l : Launch) (G : kG) (ad : Nat → Nat) (σ : kS) (ns : Nat) (pl : Int32) (hns : σ 18 0 = nI ns) (hns4 : ns ≤ 40) : Met l yX2_isOpenFor [.code yX2_isOpenFor cX2_isOpenFor 3 (some .boolean)] ({ frames := 2, cells := 0, slots := 0, locals := 62 }) (va_Pc [.ref (ad 4), .int pl] (fun U => PX G ad σ U U.heap)) (vp_Si (fun r => r = bI (opB σ pl ns))) 0 0 NF := by
  refine k_of (by decide) (Nat.le_of_ble_eq_true rfl) (fun U h => h.2.2) ?_
  intro p e s m below meth c ls S hr hlocks hmn hB hl
  have hx := S.1
  have hb := S.2.1
  have hX : PX G ad σ s s.heap := hB
  have hl : lv_has ls 3 [(0, .ref (ad 4)), (1, .int pl)] := hl
  refine lv_aload_n hx hb dX2_isOpenFor_0 rfl (lv_at hl 0 rfl) ?_
  refine lv_iload_n hx hb dX2_isOpenFor_1 rfl (lv_at hl 1 rfl) ?_
  refine q_i (r_V S ⟨m_179, m_181, m_1, m_37, m_182⟩ ⟨rfl, by decide, by decide, by decide +kernel⟩ (c_latestFor l G ad σ ns pl hns hns4) ⟨rfl, rfl, Nat.le_of_ble_eq_true rfl, Nat.le_of_ble_eq_true rfl⟩ (pv_X hX 4 rfl rfl bl_PX (bX hX)) (n := 1) (As := [.int pl]) (rest := []) rfl hl.1 rfl (Nat.le_of_ble_eq_true rfl) ⟨Nat.le_of_ble_eq_true rfl, Nat.le_of_ble_eq_true rfl⟩ dX2_isOpenFor_2) (fun r1 (e1 : r1 = oI (latO σ pl ns)) => ?_)
  subst e1
  rcases hla : latO σ pl ns with _ | k
  · show W _ _ _ _ _ _ _ _ _ _ _ _ _ _ _ (F0 m 5 ls [.int (-1)])
    refine lv_istore_n (lv' := [(2, .int (-1)), (0, .ref (ad 4)), (1, .int pl)]) hx hb dX2_isOpenFor_5 rfl hl (by decide) rfl (fun ls hl => ?_)
    refine lv_iload_n hx hb dX2_isOpenFor_6 rfl (lv_at hl 0 rfl) ?_
    refine lv_iconst (v := (-1)) hx hb dX2_isOpenFor_7 (by decide) ?_
    refine lv_icmp_eq (tgt := 24) hx hb dX2_isOpenFor_8 (by decide) (fun c8_2 => ?_) (fun c8_2 => ?_)
    · have bc8_2 := c8_2
      refine lv_iconst (v := 0) hx hb dX2_isOpenFor_24 (by decide) ?_
      exact W.zret (v := 0) (ty := .boolean) hx hb hr (by first | rfl | exact bI_nar _) (fun t ht hW => ⟨_, rfl, (by simp [opB, bI, hla, c8_2]), ht⟩) (fun q h => by cases h) dX2_isOpenFor_25
    · have bc8_2 := c8_2
      exact absurd rfl c8_2
  · show W _ _ _ _ _ _ _ _ _ _ _ _ _ _ _ (F0 m 5 ls [.int (nI k)])
    have hkn := (latO_lt hla).1
    refine lv_istore_n (lv' := [(2, .int (nI k)), (0, .ref (ad 4)), (1, .int pl)]) hx hb dX2_isOpenFor_5 rfl hl (by decide) rfl (fun ls hl => ?_)
    refine lv_iload_n hx hb dX2_isOpenFor_6 rfl (lv_at hl 0 rfl) ?_
    refine lv_iconst (v := (-1)) hx hb dX2_isOpenFor_7 (by decide) ?_
    refine lv_icmp_eq (tgt := 24) hx hb dX2_isOpenFor_8 (by decide) (fun c8_3 => ?_) (fun c8_3 => ?_)
    · have bc8_3 := c8_3
      exact absurd c8_3 (nI_m1 (by omega))
    · have bc8_3 := c8_3
      refine lv_aload_n hx hb dX2_isOpenFor_11 rfl (lv_at hl 1 rfl) ?_
      refine k_get S hX.2 hX.1 4 (C := RX2) (T := TX2) (N := 4) rfl rfl 2 (by decide) inX2 m_95 rfl dX2_isOpenFor_12 ?_
      refine lv_iload_n hx hb dX2_isOpenFor_15 rfl (lv_at hl 0 rfl) ?_
      refine k_zld S hX.2 hX.1 13 (i := k) rfl (by omega) (by decide) dX2_isOpenFor_16 ?_
      refine lv_if_ne (tgt := 24) hx hb dX2_isOpenFor_17 (by decide) (fun c17_4 => ?_) (fun c17_4 => ?_)
      · have bc17_4 := c17_4
        refine lv_iconst (v := 0) hx hb dX2_isOpenFor_24 (by decide) ?_
        exact W.zret (v := 0) (ty := .boolean) hx hb hr (by first | rfl | exact bI_nar _) (fun t ht hW => ⟨_, rfl, (by simp [opB, bI, hla, c8_3, c17_4]), ht⟩) (fun q h => by cases h) dX2_isOpenFor_25
      · have bc17_4 := c17_4
        refine lv_iconst (v := 1) hx hb dX2_isOpenFor_20 (by decide) ?_
        refine lv_goto (tgt := 25) hx hb dX2_isOpenFor_21 (by decide) ?_
        exact W.zret (v := 1) (ty := .boolean) hx hb hr (by first | rfl | exact bI_nar _) (fun t ht hW => ⟨_, rfl, (by simp [opB, bI, hla, c8_3, c17_4]), ht⟩) (fun q h => by cases h) dX2_isOpenFor_25

set_option maxHeartbeats 4000000 in
set_option maxRecDepth 100000 in
theorem c_brought (l : Launch) (G : kG) (ad : Nat → Nat) (σ : kS) (nm : Nat) (pl ar af un : Int32) (hnm : σ 17 0 = nI nm) (hnm2 : nm ≤ 200) : Met l yX1_brought [.code yX1_brought cX1_brought 7 (some .int)] ({ frames := 1, cells := 0, slots := 0, locals := 40 }) (va_Pc [.ref (ad 3), .int pl, .int ar, .int af, .int un] (fun U => PX G ad σ U U.heap)) (vp_Si (fun r => r = brF σ pl ar af un nm)) 0 0 NF := by
  refine k_of (by decide) (Nat.le_of_ble_eq_true rfl) (fun U h => h.2.2) ?_
  intro p e s m below meth c ls S hr hlocks hmn hB hl
  have hx := S.1
  have hb := S.2.1
  have hX : PX G ad σ s s.heap := hB
  have hl : lv_has ls 7 [(0, .ref (ad 3)), (1, .int pl), (2, .int ar), (3, .int af), (4, .int un)] := hl
  have L6 : ∀ (n i : Nat), i ≤ nm → nm + 1 ≤ i + n → ∀ ls, lv_has ls 7 [(0, .ref (ad 3)), (1, .int pl), (2, .int ar), (3, .int af), (4, .int un), (5, .int (brF σ pl ar af un i)), (6, .int (nI i))] → W p l e ({ frames := 1, cells := 0, slots := 0, locals := 40 } : Room) s m [.ref (ad 3), .int pl, .int ar, .int af, .int un].toArray below meth c s.heap [] 0 0 (MQ below (vp_Si (fun r => r = brF σ pl ar af un nm)) [.ref (ad 3), .int pl, .int ar, .int af, .int un].toArray s 0 0 NF) (F0 m 6 ls []) := by
    intro n
    induction n with
    | zero =>
      intro i h1 h2
      omega
    | succ n ih =>
      intro i hi hin ls hl
      refine lv_iload hx hb dX1_brought_6 (lv_at hl 6 rfl) ?_
      refine lv_aload_n hx hb dX1_brought_8 rfl (lv_at hl 0 rfl) ?_
      refine k_get S hX.2 hX.1 3 (C := RX1) (T := TX1) (N := 6) rfl rfl 5 (by decide) inX1 m_69 rfl dX1_brought_9 ?_
      refine k_eq (y := nI nm) (hnm) ?_
      refine lv_icmp_ge (tgt := 104) hx hb dX1_brought_12 (by decide) (fun c12_1 => ?_) (fun c12_1 => ?_)
      · have bc12_1 := le_nlt c12_1
        have hge : i = nm := by
          have h9 := c12_1
          rw [nI_leI (by omega) (by omega)] at h9
          omega
        subst hge
        refine lv_iload hx hb dX1_brought_104 (lv_at hl 5 rfl) ?_
        exact W.iret (v := brF σ pl ar af un i) hx hb hr (fun t ht hW => ⟨_, rfl, rfl, ht⟩) (fun q h => by cases h) dX1_brought_106
      · have bc12_1 := nle_lt c12_1
        have hlt : i < nm := by
          have h9 := nle_lt c12_1
          rw [nI_ltI (by omega) (by omega)] at h9
          exact h9
        refine lv_aload_n hx hb dX1_brought_15 rfl (lv_at hl 0 rfl) ?_
        refine k_get S hX.2 hX.1 3 (C := RX1) (T := TX1) (N := 6) rfl rfl 2 (by decide) inX1 m_66 rfl dX1_brought_16 ?_
        refine lv_iload hx hb dX1_brought_19 (lv_at hl 6 rfl) ?_
        refine k_ild S hX.2 hX.1 8 (i := i) rfl (by omega) (by decide) dX1_brought_21 ?_
        refine lv_iload_n hx hb dX1_brought_22 rfl (lv_at hl 2 rfl) ?_
        refine lv_icmp_ne (tgt := 98) hx hb dX1_brought_23 (by decide) (fun c23_2 => ?_) (fun c23_2 => ?_)
        · have bc23_2 := c23_2
          refine lv_iinc (v := nI (i + 1)) (lv' := [(6, .int (nI (i + 1))), (0, .ref (ad 3)), (1, .int pl), (2, .int ar), (3, .int af), (4, .int un), (5, .int (brF σ pl ar af un i))]) hx hb dX1_brought_98 hl (k := 6) rfl (nI_1 i) (by decide) rfl (fun ls hl => ?_)
          refine lv_goto (tgt := 6) hx hb dX1_brought_101 (by decide) ?_
          have ev3 : brF σ pl ar af un i = brF σ pl ar af un (i + 1) := by simp [brF, brT, c12_1, bc12_1, c23_2]
          rw [ev3] at hl
          exact ih (i + 1) hlt (by omega) ls (lv_sub hl [1, 2, 3, 4, 5, 6, 0] rfl)
        · have bc23_2 := c23_2
          refine lv_aload_n hx hb dX1_brought_26 rfl (lv_at hl 0 rfl) ?_
          refine k_get S hX.2 hX.1 3 (C := RX1) (T := TX1) (N := 6) rfl rfl 4 (by decide) inX1 m_68 rfl dX1_brought_27 ?_
          refine lv_iload hx hb dX1_brought_30 (lv_at hl 6 rfl) ?_
          refine k_ild S hX.2 hX.1 10 (i := i) rfl (by omega) (by decide) dX1_brought_32 ?_
          refine lv_iload_n hx hb dX1_brought_33 rfl (lv_at hl 3 rfl) ?_
          refine lv_icmp_le (tgt := 98) hx hb dX1_brought_34 (by decide) (fun c34_4 => ?_) (fun c34_4 => ?_)
          · have bc34_4 := le_nlt c34_4
            refine lv_iinc (v := nI (i + 1)) (lv' := [(6, .int (nI (i + 1))), (0, .ref (ad 3)), (1, .int pl), (2, .int ar), (3, .int af), (4, .int un), (5, .int (brF σ pl ar af un i))]) hx hb dX1_brought_98 hl (k := 6) rfl (nI_1 i) (by decide) rfl (fun ls hl => ?_)
            refine lv_goto (tgt := 6) hx hb dX1_brought_101 (by decide) ?_
            have ev5 : brF σ pl ar af un i = brF σ pl ar af un (i + 1) := by simp [brF, brT, c12_1, bc12_1, c23_2, c34_4, bc34_4]
            rw [ev5] at hl
            exact ih (i + 1) hlt (by omega) ls (lv_sub hl [1, 2, 3, 4, 5, 6, 0] rfl)
          · have bc34_4 := nle_lt c34_4
            refine lv_aload_n hx hb dX1_brought_37 rfl (lv_at hl 0 rfl) ?_
            refine k_get S hX.2 hX.1 3 (C := RX1) (T := TX1) (N := 6) rfl rfl 4 (by decide) inX1 m_68 rfl dX1_brought_38 ?_
            refine lv_iload hx hb dX1_brought_41 (lv_at hl 6 rfl) ?_
            refine k_ild S hX.2 hX.1 10 (i := i) rfl (by omega) (by decide) dX1_brought_43 ?_
            refine lv_iload hx hb dX1_brought_44 (lv_at hl 4 rfl) ?_
            refine lv_icmp_gt (tgt := 98) hx hb dX1_brought_46 (by decide) (fun c46_6 => ?_) (fun c46_6 => ?_)
            · have bc46_6 := lt_nle c46_6
              refine lv_iinc (v := nI (i + 1)) (lv' := [(6, .int (nI (i + 1))), (0, .ref (ad 3)), (1, .int pl), (2, .int ar), (3, .int af), (4, .int un), (5, .int (brF σ pl ar af un i))]) hx hb dX1_brought_98 hl (k := 6) rfl (nI_1 i) (by decide) rfl (fun ls hl => ?_)
              refine lv_goto (tgt := 6) hx hb dX1_brought_101 (by decide) ?_
              have ev7 : brF σ pl ar af un i = brF σ pl ar af un (i + 1) := by simp [brF, brT, c12_1, bc12_1, c23_2, c34_4, bc34_4, c46_6, bc46_6]
              rw [ev7] at hl
              exact ih (i + 1) hlt (by omega) ls (lv_sub hl [1, 2, 3, 4, 5, 6, 0] rfl)
            · have bc46_6 := nlt_le c46_6
              refine lv_aload_n hx hb dX1_brought_49 rfl (lv_at hl 0 rfl) ?_
              refine k_get S hX.2 hX.1 3 (C := RX1) (T := TX1) (N := 6) rfl rfl 1 (by decide) inX1 m_65 rfl dX1_brought_50 ?_
              refine lv_iload hx hb dX1_brought_53 (lv_at hl 6 rfl) ?_
              refine k_ild S hX.2 hX.1 7 (i := i) rfl (by omega) (by decide) dX1_brought_55 ?_
              refine lv_iload_n hx hb dX1_brought_56 rfl (lv_at hl 1 rfl) ?_
              refine lv_icmp_ne (tgt := 75) hx hb dX1_brought_57 (by decide) (fun c57_8 => ?_) (fun c57_8 => ?_)
              · have bc57_8 := c57_8
                refine lv_aload_n hx hb dX1_brought_75 rfl (lv_at hl 0 rfl) ?_
                refine k_get S hX.2 hX.1 3 (C := RX1) (T := TX1) (N := 6) rfl rfl 0 (by decide) inX1 m_64 rfl dX1_brought_76 ?_
                refine lv_iload hx hb dX1_brought_79 (lv_at hl 6 rfl) ?_
                refine k_ild S hX.2 hX.1 6 (i := i) rfl (by omega) (by decide) dX1_brought_81 ?_
                refine lv_iload_n hx hb dX1_brought_82 rfl (lv_at hl 1 rfl) ?_
                refine lv_icmp_ne (tgt := 98) hx hb dX1_brought_83 (by decide) (fun c83_9 => ?_) (fun c83_9 => ?_)
                · have bc83_9 := c83_9
                  refine lv_iinc (v := nI (i + 1)) (lv' := [(6, .int (nI (i + 1))), (0, .ref (ad 3)), (1, .int pl), (2, .int ar), (3, .int af), (4, .int un), (5, .int (brF σ pl ar af un i))]) hx hb dX1_brought_98 hl (k := 6) rfl (nI_1 i) (by decide) rfl (fun ls hl => ?_)
                  refine lv_goto (tgt := 6) hx hb dX1_brought_101 (by decide) ?_
                  have ev10 : brF σ pl ar af un i = brF σ pl ar af un (i + 1) := by simp [brF, brT, c12_1, bc12_1, c23_2, c34_4, bc34_4, c46_6, bc46_6, c57_8, c83_9]
                  rw [ev10] at hl
                  exact ih (i + 1) hlt (by omega) ls (lv_sub hl [1, 2, 3, 4, 5, 6, 0] rfl)
                · have bc83_9 := c83_9
                  refine lv_iload hx hb dX1_brought_86 (lv_at hl 5 rfl) ?_
                  refine lv_aload_n hx hb dX1_brought_88 rfl (lv_at hl 0 rfl) ?_
                  refine k_get S hX.2 hX.1 3 (C := RX1) (T := TX1) (N := 6) rfl rfl 3 (by decide) inX1 m_67 rfl dX1_brought_89 ?_
                  refine lv_iload hx hb dX1_brought_92 (lv_at hl 6 rfl) ?_
                  refine k_ild S hX.2 hX.1 9 (i := i) rfl (by omega) (by decide) dX1_brought_94 ?_
                  refine lv_isub hx hb dX1_brought_95 ?_
                  refine lv_istore (lv' := [(5, .int ((brF σ pl ar af un i) - (σ 5 i))), (0, .ref (ad 3)), (1, .int pl), (2, .int ar), (3, .int af), (4, .int un), (6, .int (nI i))]) hx hb dX1_brought_96 hl (by decide) rfl (fun ls hl => ?_)
                  refine lv_iinc (v := nI (i + 1)) (lv' := [(6, .int (nI (i + 1))), (5, .int ((brF σ pl ar af un i) - (σ 5 i))), (0, .ref (ad 3)), (1, .int pl), (2, .int ar), (3, .int af), (4, .int un)]) hx hb dX1_brought_98 hl (k := 6) rfl (nI_1 i) (by decide) rfl (fun ls hl => ?_)
                  refine lv_goto (tgt := 6) hx hb dX1_brought_101 (by decide) ?_
                  have ev11 : (brF σ pl ar af un i) - (σ 5 i) = brF σ pl ar af un (i + 1) := by simp [brF, brT, c12_1, bc12_1, c23_2, c34_4, bc34_4, c46_6, bc46_6, c57_8, c83_9]
                  rw [ev11] at hl
                  exact ih (i + 1) hlt (by omega) ls (lv_sub hl [2, 3, 4, 5, 6, 1, 0] rfl)
              · have bc57_8 := c57_8
                refine lv_iload hx hb dX1_brought_60 (lv_at hl 5 rfl) ?_
                refine lv_aload_n hx hb dX1_brought_62 rfl (lv_at hl 0 rfl) ?_
                refine k_get S hX.2 hX.1 3 (C := RX1) (T := TX1) (N := 6) rfl rfl 3 (by decide) inX1 m_67 rfl dX1_brought_63 ?_
                refine lv_iload hx hb dX1_brought_66 (lv_at hl 6 rfl) ?_
                refine k_ild S hX.2 hX.1 9 (i := i) rfl (by omega) (by decide) dX1_brought_68 ?_
                refine lv_iadd hx hb dX1_brought_69 ?_
                refine lv_istore (lv' := [(5, .int ((brF σ pl ar af un i) + (σ 5 i))), (0, .ref (ad 3)), (1, .int pl), (2, .int ar), (3, .int af), (4, .int un), (6, .int (nI i))]) hx hb dX1_brought_70 hl (by decide) rfl (fun ls hl => ?_)
                refine lv_goto (tgt := 98) hx hb dX1_brought_72 (by decide) ?_
                refine lv_iinc (v := nI (i + 1)) (lv' := [(6, .int (nI (i + 1))), (5, .int ((brF σ pl ar af un i) + (σ 5 i))), (0, .ref (ad 3)), (1, .int pl), (2, .int ar), (3, .int af), (4, .int un)]) hx hb dX1_brought_98 hl (k := 6) rfl (nI_1 i) (by decide) rfl (fun ls hl => ?_)
                refine lv_goto (tgt := 6) hx hb dX1_brought_101 (by decide) ?_
                have ev12 : (brF σ pl ar af un i) + (σ 5 i) = brF σ pl ar af un (i + 1) := by simp [brF, brT, c12_1, bc12_1, c23_2, c34_4, bc34_4, c46_6, bc46_6, c57_8]
                rw [ev12] at hl
                exact ih (i + 1) hlt (by omega) ls (lv_sub hl [2, 3, 4, 5, 6, 1, 0] rfl)
  refine lv_iconst (v := 0) hx hb dX1_brought_0 (by decide) ?_
  refine lv_istore (lv' := [(5, .int 0), (0, .ref (ad 3)), (1, .int pl), (2, .int ar), (3, .int af), (4, .int un)]) hx hb dX1_brought_1 hl (by decide) rfl (fun ls hl => ?_)
  refine lv_iconst (v := 0) hx hb dX1_brought_3 (by decide) ?_
  refine lv_istore (lv' := [(6, .int 0), (5, .int 0), (0, .ref (ad 3)), (1, .int pl), (2, .int ar), (3, .int af), (4, .int un)]) hx hb dX1_brought_4 hl (by decide) rfl (fun ls hl => ?_)
  exact L6 (nm + 1) 0 (Nat.zero_le _) (by omega) ls (lv_sub hl [2, 3, 4, 5, 6, 1, 0] rfl)
end
section
set_option maxHeartbeats 4000000 in
set_option maxRecDepth 100000 in
theorem c_isStronger (l : Launch) (G : kG) (ad : Nat → Nat) (σ : kS) (a b ar : Nat) (ha : a < 40) (hb4 : b < 40) (har : ar < 5) : Met l yX3_isStronger [.code yX3_isStronger cX3_isStronger 4 (some .boolean)] ({ frames := 2, cells := 0, slots := 0, locals := 61 }) (va_Pc [.ref (ad 0), .int (nI a), .int (nI b), .int (nI ar)] (fun U => PX G ad σ U U.heap)) (vp_Si (fun r => r = bI (strB σ a b ar))) 0 0 NF := by
  refine k_of (by decide) (Nat.le_of_ble_eq_true rfl) (fun U h => h.2.2) ?_
  intro p e s m below meth c ls S hr hlocks hmn hB hl
  have hx := S.1
  have hb := S.2.1
  have hX : PX G ad σ s s.heap := hB
  have hl : lv_has ls 4 [(0, .ref (ad 0)), (1, .int (nI a)), (2, .int (nI b)), (3, .int (nI ar))] := hl
  refine lv_aload_n hx hb dX3_isStronger_0 rfl (lv_at hl 0 rfl) ?_
  refine k_get S hX.2 hX.1 0 (C := RX3) (T := TX3) (N := 6) rfl rfl 3 (by decide) inX3 m_147 rfl dX3_isStronger_1 ?_
  refine k_getN S hX.2 hX.1 4 (C := RX2) (T := TX2) (N := 4) rfl rfl 1 (by decide) inX2 n_94 rfl dX3_isStronger_4 ?_
  refine lv_iload_n hx hb dX3_isStronger_7 rfl (lv_at hl 1 rfl) ?_
  refine k_ild S hX.2 hX.1 12 (i := a) rfl (by omega) (by decide) dX3_isStronger_8 ?_
  refine lv_aload_n hx hb dX3_isStronger_9 rfl (lv_at hl 0 rfl) ?_
  refine k_get S hX.2 hX.1 0 (C := RX3) (T := TX3) (N := 6) rfl rfl 3 (by decide) inX3 m_147 rfl dX3_isStronger_10 ?_
  refine k_getN S hX.2 hX.1 4 (C := RX2) (T := TX2) (N := 4) rfl rfl 1 (by decide) inX2 n_94 rfl dX3_isStronger_13 ?_
  refine lv_iload_n hx hb dX3_isStronger_16 rfl (lv_at hl 2 rfl) ?_
  refine k_ild S hX.2 hX.1 12 (i := b) rfl (by omega) (by decide) dX3_isStronger_17 ?_
  refine lv_icmp_eq (tgt := 48) hx hb dX3_isStronger_18 (by decide) (fun c18_1 => ?_) (fun c18_1 => ?_)
  · have bc18_1 := c18_1
    refine lv_aload_n hx hb dX3_isStronger_48 rfl (lv_at hl 0 rfl) ?_
    refine k_get S hX.2 hX.1 0 (C := RX3) (T := TX3) (N := 6) rfl rfl 4 (by decide) inX3 m_148 rfl dX3_isStronger_49 ?_
    refine k_getN S hX.2 hX.1 5 (C := RX0) (T := TX0) (N := 7) rfl rfl 4 (by decide) inX0 n_124 rfl dX3_isStronger_52 ?_
    refine lv_iload_n hx hb dX3_isStronger_55 rfl (lv_at hl 1 rfl) ?_
    refine lv_iload_n hx hb dX3_isStronger_56 rfl (lv_at hl 3 rfl) ?_
    refine q_i (r_S S ⟨m_200, m_201, m_35, m_202⟩ ⟨rfl, by decide, by decide, by decide +kernel⟩ (c_lineOf l a ar) ⟨rfl, rfl, Nat.le_of_ble_eq_true rfl, Nat.le_of_ble_eq_true rfl⟩ (ps bl_GL (bG hX.2.2)) (n := 2) (As := [.int (nI a), .int (nI ar)]) (rest := [.ref (ad 18)]) rfl hl.1 rfl (Nat.le_of_ble_eq_true rfl) ⟨Nat.le_of_ble_eq_true rfl, Nat.le_of_ble_eq_true rfl⟩ dX3_isStronger_57) (fun r2 (e2 : r2 = nI (a * 5 + ar)) => ?_)
    subst e2
    refine k_ild S hX.2 hX.1 18 (i := (a * 5 + ar)) rfl (by omega) (by decide) dX3_isStronger_60 ?_
    refine lv_aload_n hx hb dX3_isStronger_61 rfl (lv_at hl 0 rfl) ?_
    refine k_get S hX.2 hX.1 0 (C := RX3) (T := TX3) (N := 6) rfl rfl 4 (by decide) inX3 m_148 rfl dX3_isStronger_62 ?_
    refine k_getN S hX.2 hX.1 5 (C := RX0) (T := TX0) (N := 7) rfl rfl 4 (by decide) inX0 n_124 rfl dX3_isStronger_65 ?_
    refine lv_iload_n hx hb dX3_isStronger_68 rfl (lv_at hl 2 rfl) ?_
    refine lv_iload_n hx hb dX3_isStronger_69 rfl (lv_at hl 3 rfl) ?_
    refine q_i (r_S S ⟨m_200, m_201, m_35, m_202⟩ ⟨rfl, by decide, by decide, by decide +kernel⟩ (c_lineOf l b ar) ⟨rfl, rfl, Nat.le_of_ble_eq_true rfl, Nat.le_of_ble_eq_true rfl⟩ (ps bl_GL (bG hX.2.2)) (n := 2) (As := [.int (nI b), .int (nI ar)]) (rest := [.ref (ad 18), .int (σ 14 (a * 5 + ar))]) rfl hl.1 rfl (Nat.le_of_ble_eq_true rfl) ⟨Nat.le_of_ble_eq_true rfl, Nat.le_of_ble_eq_true rfl⟩ dX3_isStronger_70) (fun r3 (e3 : r3 = nI (b * 5 + ar)) => ?_)
    subst e3
    refine k_ild S hX.2 hX.1 18 (i := (b * 5 + ar)) rfl (by omega) (by decide) dX3_isStronger_73 ?_
    refine lv_icmp_le (tgt := 81) hx hb dX3_isStronger_74 (by decide) (fun c74_4 => ?_) (fun c74_4 => ?_)
    · have bc74_4 := le_nlt c74_4
      refine lv_iconst (v := 0) hx hb dX3_isStronger_81 (by decide) ?_
      exact W.zret (v := 0) (ty := .boolean) hx hb hr (by first | rfl | exact bI_nar _) (fun t ht hW => ⟨_, rfl, (by simp [strB, bI, c18_1, c74_4, bc74_4]), ht⟩) (fun q h => by cases h) dX3_isStronger_82
    · have bc74_4 := nle_lt c74_4
      refine lv_iconst (v := 1) hx hb dX3_isStronger_77 (by decide) ?_
      refine lv_goto (tgt := 82) hx hb dX3_isStronger_78 (by decide) ?_
      exact W.zret (v := 1) (ty := .boolean) hx hb hr (by first | rfl | exact bI_nar _) (fun t ht hW => ⟨_, rfl, (by simp [strB, bI, c18_1, c74_4, bc74_4]), ht⟩) (fun q h => by cases h) dX3_isStronger_82
  · have bc18_1 := c18_1
    refine lv_aload_n hx hb dX3_isStronger_21 rfl (lv_at hl 0 rfl) ?_
    refine k_get S hX.2 hX.1 0 (C := RX3) (T := TX3) (N := 6) rfl rfl 3 (by decide) inX3 m_147 rfl dX3_isStronger_22 ?_
    refine k_getN S hX.2 hX.1 4 (C := RX2) (T := TX2) (N := 4) rfl rfl 1 (by decide) inX2 n_94 rfl dX3_isStronger_25 ?_
    refine lv_iload_n hx hb dX3_isStronger_28 rfl (lv_at hl 1 rfl) ?_
    refine k_ild S hX.2 hX.1 12 (i := a) rfl (by omega) (by decide) dX3_isStronger_29 ?_
    refine lv_aload_n hx hb dX3_isStronger_30 rfl (lv_at hl 0 rfl) ?_
    refine k_get S hX.2 hX.1 0 (C := RX3) (T := TX3) (N := 6) rfl rfl 3 (by decide) inX3 m_147 rfl dX3_isStronger_31 ?_
    refine k_getN S hX.2 hX.1 4 (C := RX2) (T := TX2) (N := 4) rfl rfl 1 (by decide) inX2 n_94 rfl dX3_isStronger_34 ?_
    refine lv_iload_n hx hb dX3_isStronger_37 rfl (lv_at hl 2 rfl) ?_
    refine k_ild S hX.2 hX.1 12 (i := b) rfl (by omega) (by decide) dX3_isStronger_38 ?_
    refine lv_icmp_le (tgt := 46) hx hb dX3_isStronger_39 (by decide) (fun c39_5 => ?_) (fun c39_5 => ?_)
    · have bc39_5 := le_nlt c39_5
      refine lv_iconst (v := 0) hx hb dX3_isStronger_46 (by decide) ?_
      exact W.zret (v := 0) (ty := .boolean) hx hb hr (by first | rfl | exact bI_nar _) (fun t ht hW => ⟨_, rfl, (by simp [strB, bI, c18_1, c39_5, bc39_5]), ht⟩) (fun q h => by cases h) dX3_isStronger_47
    · have bc39_5 := nle_lt c39_5
      refine lv_iconst (v := 1) hx hb dX3_isStronger_42 (by decide) ?_
      refine lv_goto (tgt := 47) hx hb dX3_isStronger_43 (by decide) ?_
      exact W.zret (v := 1) (ty := .boolean) hx hb hr (by first | rfl | exact bI_nar _) (fun t ht hW => ⟨_, rfl, (by simp [strB, bI, c18_1, c39_5, bc39_5]), ht⟩) (fun q h => by cases h) dX3_isStronger_47

set_option maxHeartbeats 4000000 in
set_option maxRecDepth 100000 in
theorem c_signedSheetFor (l : Launch) (G : kG) (ad : Nat → Nat) (σ : kS) (ns : Nat) (pl : Int32) (ar : Nat) (mi : Int32) (hns : σ 18 0 = nI ns) (hns4 : ns ≤ 40) (har : ar < 5) : Met l yX3_signedSheetFor [.code yX3_signedSheetFor cX3_signedSheetFor 6 (some .int)] ({ frames := 3, cells := 0, slots := 0, locals := 84 }) (va_Pc [.ref (ad 0), .int pl, .int (nI ar), .int mi] (fun U => PX G ad σ U U.heap)) (vp_Si (fun r => r = oI (ssO σ pl ar mi ns))) 0 0 NF := by
  refine k_of (by decide) (Nat.le_of_ble_eq_true rfl) (fun U h => h.2.2) ?_
  intro p e s m below meth c ls S hr hlocks hmn hB hl
  have hx := S.1
  have hb := S.2.1
  have hX : PX G ad σ s s.heap := hB
  have hl : lv_has ls 6 [(0, .ref (ad 0)), (1, .int pl), (2, .int (nI ar)), (3, .int mi)] := hl
  have L6 : ∀ (n i : Nat), i ≤ ns → ns + 1 ≤ i + n → ∀ ls, lv_has ls 6 [(0, .ref (ad 0)), (1, .int pl), (2, .int (nI ar)), (3, .int mi), (4, .int (oI (ssO σ pl ar mi i))), (5, .int (nI i))] → W p l e ({ frames := 3, cells := 0, slots := 0, locals := 84 } : Room) s m [.ref (ad 0), .int pl, .int (nI ar), .int mi].toArray below meth c s.heap [] 0 0 (MQ below (vp_Si (fun r => r = oI (ssO σ pl ar mi ns))) [.ref (ad 0), .int pl, .int (nI ar), .int mi].toArray s 0 0 NF) (F0 m 6 ls []) := by
    intro n
    induction n with
    | zero =>
      intro i h1 h2
      omega
    | succ n ih =>
      intro i hi hin ls hl
      obtain ⟨o, ho⟩ : ∃ o, o = ssO σ pl ar mi i := ⟨_, rfl⟩
      rw [← ho] at hl
      rcases o with _ | b
      · have hl : lv_has ls 6 [(0, .ref (ad 0)), (1, .int pl), (2, .int (nI ar)), (3, .int mi), (4, .int (-1)), (5, .int (nI i))] := hl
        refine lv_iload hx hb dX3_signedSheetFor_6 (lv_at hl 5 rfl) ?_
        refine lv_aload_n hx hb dX3_signedSheetFor_8 rfl (lv_at hl 0 rfl) ?_
        refine k_get S hX.2 hX.1 0 (C := RX3) (T := TX3) (N := 6) rfl rfl 3 (by decide) inX3 m_147 rfl dX3_signedSheetFor_9 ?_
        refine k_getN S hX.2 hX.1 4 (C := RX2) (T := TX2) (N := 4) rfl rfl 3 (by decide) inX2 n_98 rfl dX3_signedSheetFor_12 ?_
        refine k_eq (y := nI ns) (hns) ?_
        refine lv_icmp_ge (tgt := 90) hx hb dX3_signedSheetFor_15 (by decide) (fun c15_1 => ?_) (fun c15_1 => ?_)
        · have bc15_1 := le_nlt c15_1
          have hge : i = ns := by
            have h9 := c15_1
            rw [nI_leI (by omega) (by omega)] at h9
            omega
          subst hge
          refine lv_iload hx hb dX3_signedSheetFor_90 (lv_at hl 4 rfl) ?_
          exact W.iret (v := (-1)) hx hb hr (fun t ht hW => ⟨_, rfl, (by rw [← ho]; rfl), ht⟩) (fun q h => by cases h) dX3_signedSheetFor_92
        · have bc15_1 := nle_lt c15_1
          have hlt : i < ns := by
            have h9 := nle_lt c15_1
            rw [nI_ltI (by omega) (by omega)] at h9
            exact h9
          refine lv_aload_n hx hb dX3_signedSheetFor_18 rfl (lv_at hl 0 rfl) ?_
          refine k_get S hX.2 hX.1 0 (C := RX3) (T := TX3) (N := 6) rfl rfl 3 (by decide) inX3 m_147 rfl dX3_signedSheetFor_19 ?_
          refine k_getN S hX.2 hX.1 4 (C := RX2) (T := TX2) (N := 4) rfl rfl 0 (by decide) inX2 n_92 rfl dX3_signedSheetFor_22 ?_
          refine lv_iload hx hb dX3_signedSheetFor_25 (lv_at hl 5 rfl) ?_
          refine k_ild S hX.2 hX.1 11 (i := i) rfl (by omega) (by decide) dX3_signedSheetFor_27 ?_
          refine lv_iload_n hx hb dX3_signedSheetFor_28 rfl (lv_at hl 1 rfl) ?_
          refine lv_icmp_ne (tgt := 84) hx hb dX3_signedSheetFor_29 (by decide) (fun c29_2 => ?_) (fun c29_2 => ?_)
          · have bc29_2 := c29_2
            refine lv_iinc (v := nI (i + 1)) (lv' := [(5, .int (nI (i + 1))), (0, .ref (ad 0)), (1, .int pl), (2, .int (nI ar)), (3, .int mi), (4, .int (-1))]) hx hb dX3_signedSheetFor_84 hl (k := 5) rfl (nI_1 i) (by decide) rfl (fun ls hl => ?_)
            refine lv_goto (tgt := 6) hx hb dX3_signedSheetFor_87 (by decide) ?_
            have ev3 : (-1) = oI (ssO σ pl ar mi (i + 1)) := by simp [ssO, ssT, ← ho, oI, c15_1, bc15_1, c29_2]
            rw [ev3] at hl
            exact ih (i + 1) hlt (by omega) ls (lv_sub hl [1, 2, 3, 4, 5, 0] rfl)
          · have bc29_2 := c29_2
            refine lv_aload_n hx hb dX3_signedSheetFor_32 rfl (lv_at hl 0 rfl) ?_
            refine k_get S hX.2 hX.1 0 (C := RX3) (T := TX3) (N := 6) rfl rfl 3 (by decide) inX3 m_147 rfl dX3_signedSheetFor_33 ?_
            refine k_getN S hX.2 hX.1 4 (C := RX2) (T := TX2) (N := 4) rfl rfl 1 (by decide) inX2 n_94 rfl dX3_signedSheetFor_36 ?_
            refine lv_iload hx hb dX3_signedSheetFor_39 (lv_at hl 5 rfl) ?_
            refine k_ild S hX.2 hX.1 12 (i := i) rfl (by omega) (by decide) dX3_signedSheetFor_41 ?_
            refine lv_iload_n hx hb dX3_signedSheetFor_42 rfl (lv_at hl 3 rfl) ?_
            refine lv_icmp_gt (tgt := 84) hx hb dX3_signedSheetFor_43 (by decide) (fun c43_4 => ?_) (fun c43_4 => ?_)
            · have bc43_4 := lt_nle c43_4
              refine lv_iinc (v := nI (i + 1)) (lv' := [(5, .int (nI (i + 1))), (0, .ref (ad 0)), (1, .int pl), (2, .int (nI ar)), (3, .int mi), (4, .int (-1))]) hx hb dX3_signedSheetFor_84 hl (k := 5) rfl (nI_1 i) (by decide) rfl (fun ls hl => ?_)
              refine lv_goto (tgt := 6) hx hb dX3_signedSheetFor_87 (by decide) ?_
              have ev5 : (-1) = oI (ssO σ pl ar mi (i + 1)) := by simp [ssO, ssT, ← ho, oI, c15_1, bc15_1, c29_2, c43_4, bc43_4]
              rw [ev5] at hl
              exact ih (i + 1) hlt (by omega) ls (lv_sub hl [1, 2, 3, 4, 5, 0] rfl)
            · have bc43_4 := nlt_le c43_4
              refine lv_aload_n hx hb dX3_signedSheetFor_46 rfl (lv_at hl 0 rfl) ?_
              refine k_get S hX.2 hX.1 0 (C := RX3) (T := TX3) (N := 6) rfl rfl 4 (by decide) inX3 m_148 rfl dX3_signedSheetFor_47 ?_
              refine lv_iload hx hb dX3_signedSheetFor_50 (lv_at hl 5 rfl) ?_
              refine lv_iload_n hx hb dX3_signedSheetFor_52 rfl (lv_at hl 2 rfl) ?_
              refine q_i (r_S S ⟨m_200, m_201, m_35, m_202⟩ ⟨rfl, by decide, by decide, by decide +kernel⟩ (c_lineOf l i ar) ⟨rfl, rfl, Nat.le_of_ble_eq_true rfl, Nat.le_of_ble_eq_true rfl⟩ (ps bl_GL (bG hX.2.2)) (n := 2) (As := [.int (nI i), .int (nI ar)]) (rest := [.ref (ad 5)]) rfl hl.1 rfl (Nat.le_of_ble_eq_true rfl) ⟨Nat.le_of_ble_eq_true rfl, Nat.le_of_ble_eq_true rfl⟩ dX3_signedSheetFor_53) (fun r6 (e6 : r6 = nI (i * 5 + ar)) => ?_)
              subst e6
              refine q_i (r_VN S hX.2.2 ⟨n_203, m_205, m_6, m_38, m_206⟩ ⟨rfl, by decide, by decide, by decide +kernel⟩ (c_hasSign l G ad σ (i * 5 + ar) (by omega)) ⟨rfl, rfl, Nat.le_of_ble_eq_true rfl, Nat.le_of_ble_eq_true rfl⟩ (pv_X hX 5 rfl rfl bl_PX (bX hX)) (n := 1) (As := [.int (nI (i * 5 + ar))]) (rest := []) rfl hl.1 rfl (Nat.le_of_ble_eq_true rfl) ⟨Nat.le_of_ble_eq_true rfl, Nat.le_of_ble_eq_true rfl⟩ dX3_signedSheetFor_56) (fun r7 (e7 : r7 = bI (hsB σ (i * 5 + ar))) => ?_)
              subst e7
              refine lv_if_eq (tgt := 84) hx hb dX3_signedSheetFor_59 (by decide) (fun c59_8 => ?_) (fun c59_8 => ?_)
              · have bc59_8 := bI_0 c59_8
                refine lv_iinc (v := nI (i + 1)) (lv' := [(5, .int (nI (i + 1))), (0, .ref (ad 0)), (1, .int pl), (2, .int (nI ar)), (3, .int mi), (4, .int (-1))]) hx hb dX3_signedSheetFor_84 hl (k := 5) rfl (nI_1 i) (by decide) rfl (fun ls hl => ?_)
                refine lv_goto (tgt := 6) hx hb dX3_signedSheetFor_87 (by decide) ?_
                have ev9 : (-1) = oI (ssO σ pl ar mi (i + 1)) := by simp [ssO, ssT, ← ho, oI, c15_1, bc15_1, c29_2, c43_4, bc43_4, bc59_8]
                rw [ev9] at hl
                exact ih (i + 1) hlt (by omega) ls (lv_sub hl [1, 2, 3, 4, 5, 0] rfl)
              · have bc59_8 := bI_n c59_8
                refine lv_iload hx hb dX3_signedSheetFor_62 (lv_at hl 4 rfl) ?_
                refine lv_iconst (v := (-1)) hx hb dX3_signedSheetFor_64 (by decide) ?_
                refine lv_icmp_eq (tgt := 80) hx hb dX3_signedSheetFor_65 (by decide) (fun c65_10 => ?_) (fun c65_10 => ?_)
                · have bc65_10 := c65_10
                  refine lv_iload hx hb dX3_signedSheetFor_80 (lv_at hl 5 rfl) ?_
                  refine lv_istore (lv' := [(4, .int (nI i)), (0, .ref (ad 0)), (1, .int pl), (2, .int (nI ar)), (3, .int mi), (5, .int (nI i))]) hx hb dX3_signedSheetFor_82 hl (by decide) rfl (fun ls hl => ?_)
                  refine lv_iinc (v := nI (i + 1)) (lv' := [(5, .int (nI (i + 1))), (4, .int (nI i)), (0, .ref (ad 0)), (1, .int pl), (2, .int (nI ar)), (3, .int mi)]) hx hb dX3_signedSheetFor_84 hl (k := 5) rfl (nI_1 i) (by decide) rfl (fun ls hl => ?_)
                  refine lv_goto (tgt := 6) hx hb dX3_signedSheetFor_87 (by decide) ?_
                  have ev11 : nI i = oI (ssO σ pl ar mi (i + 1)) := by simp [ssO, ssT, ← ho, oI, c15_1, bc15_1, c29_2, c43_4, bc43_4, bc59_8, c65_10]
                  rw [ev11] at hl
                  exact ih (i + 1) hlt (by omega) ls (lv_sub hl [2, 3, 4, 5, 1, 0] rfl)
                · have bc65_10 := c65_10
                  exact absurd rfl c65_10
      · have hl : lv_has ls 6 [(0, .ref (ad 0)), (1, .int pl), (2, .int (nI ar)), (3, .int mi), (4, .int (nI b)), (5, .int (nI i))] := hl
        have hbi := ssO_lt ho.symm
        refine lv_iload hx hb dX3_signedSheetFor_6 (lv_at hl 5 rfl) ?_
        refine lv_aload_n hx hb dX3_signedSheetFor_8 rfl (lv_at hl 0 rfl) ?_
        refine k_get S hX.2 hX.1 0 (C := RX3) (T := TX3) (N := 6) rfl rfl 3 (by decide) inX3 m_147 rfl dX3_signedSheetFor_9 ?_
        refine k_getN S hX.2 hX.1 4 (C := RX2) (T := TX2) (N := 4) rfl rfl 3 (by decide) inX2 n_98 rfl dX3_signedSheetFor_12 ?_
        refine k_eq (y := nI ns) (hns) ?_
        refine lv_icmp_ge (tgt := 90) hx hb dX3_signedSheetFor_15 (by decide) (fun c15_12 => ?_) (fun c15_12 => ?_)
        · have bc15_12 := le_nlt c15_12
          have hge : i = ns := by
            have h9 := c15_12
            rw [nI_leI (by omega) (by omega)] at h9
            omega
          subst hge
          refine lv_iload hx hb dX3_signedSheetFor_90 (lv_at hl 4 rfl) ?_
          exact W.iret (v := nI b) hx hb hr (fun t ht hW => ⟨_, rfl, (by rw [← ho]; rfl), ht⟩) (fun q h => by cases h) dX3_signedSheetFor_92
        · have bc15_12 := nle_lt c15_12
          have hlt : i < ns := by
            have h9 := nle_lt c15_12
            rw [nI_ltI (by omega) (by omega)] at h9
            exact h9
          refine lv_aload_n hx hb dX3_signedSheetFor_18 rfl (lv_at hl 0 rfl) ?_
          refine k_get S hX.2 hX.1 0 (C := RX3) (T := TX3) (N := 6) rfl rfl 3 (by decide) inX3 m_147 rfl dX3_signedSheetFor_19 ?_
          refine k_getN S hX.2 hX.1 4 (C := RX2) (T := TX2) (N := 4) rfl rfl 0 (by decide) inX2 n_92 rfl dX3_signedSheetFor_22 ?_
          refine lv_iload hx hb dX3_signedSheetFor_25 (lv_at hl 5 rfl) ?_
          refine k_ild S hX.2 hX.1 11 (i := i) rfl (by omega) (by decide) dX3_signedSheetFor_27 ?_
          refine lv_iload_n hx hb dX3_signedSheetFor_28 rfl (lv_at hl 1 rfl) ?_
          refine lv_icmp_ne (tgt := 84) hx hb dX3_signedSheetFor_29 (by decide) (fun c29_13 => ?_) (fun c29_13 => ?_)
          · have bc29_13 := c29_13
            refine lv_iinc (v := nI (i + 1)) (lv' := [(5, .int (nI (i + 1))), (0, .ref (ad 0)), (1, .int pl), (2, .int (nI ar)), (3, .int mi), (4, .int (nI b))]) hx hb dX3_signedSheetFor_84 hl (k := 5) rfl (nI_1 i) (by decide) rfl (fun ls hl => ?_)
            refine lv_goto (tgt := 6) hx hb dX3_signedSheetFor_87 (by decide) ?_
            have ev14 : nI b = oI (ssO σ pl ar mi (i + 1)) := by simp [ssO, ssT, ← ho, oI, c15_12, bc15_12, c29_13]
            rw [ev14] at hl
            exact ih (i + 1) hlt (by omega) ls (lv_sub hl [1, 2, 3, 4, 5, 0] rfl)
          · have bc29_13 := c29_13
            refine lv_aload_n hx hb dX3_signedSheetFor_32 rfl (lv_at hl 0 rfl) ?_
            refine k_get S hX.2 hX.1 0 (C := RX3) (T := TX3) (N := 6) rfl rfl 3 (by decide) inX3 m_147 rfl dX3_signedSheetFor_33 ?_
            refine k_getN S hX.2 hX.1 4 (C := RX2) (T := TX2) (N := 4) rfl rfl 1 (by decide) inX2 n_94 rfl dX3_signedSheetFor_36 ?_
            refine lv_iload hx hb dX3_signedSheetFor_39 (lv_at hl 5 rfl) ?_
            refine k_ild S hX.2 hX.1 12 (i := i) rfl (by omega) (by decide) dX3_signedSheetFor_41 ?_
            refine lv_iload_n hx hb dX3_signedSheetFor_42 rfl (lv_at hl 3 rfl) ?_
            refine lv_icmp_gt (tgt := 84) hx hb dX3_signedSheetFor_43 (by decide) (fun c43_15 => ?_) (fun c43_15 => ?_)
            · have bc43_15 := lt_nle c43_15
              refine lv_iinc (v := nI (i + 1)) (lv' := [(5, .int (nI (i + 1))), (0, .ref (ad 0)), (1, .int pl), (2, .int (nI ar)), (3, .int mi), (4, .int (nI b))]) hx hb dX3_signedSheetFor_84 hl (k := 5) rfl (nI_1 i) (by decide) rfl (fun ls hl => ?_)
              refine lv_goto (tgt := 6) hx hb dX3_signedSheetFor_87 (by decide) ?_
              have ev16 : nI b = oI (ssO σ pl ar mi (i + 1)) := by simp [ssO, ssT, ← ho, oI, c15_12, bc15_12, c29_13, c43_15, bc43_15]
              rw [ev16] at hl
              exact ih (i + 1) hlt (by omega) ls (lv_sub hl [1, 2, 3, 4, 5, 0] rfl)
            · have bc43_15 := nlt_le c43_15
              refine lv_aload_n hx hb dX3_signedSheetFor_46 rfl (lv_at hl 0 rfl) ?_
              refine k_get S hX.2 hX.1 0 (C := RX3) (T := TX3) (N := 6) rfl rfl 4 (by decide) inX3 m_148 rfl dX3_signedSheetFor_47 ?_
              refine lv_iload hx hb dX3_signedSheetFor_50 (lv_at hl 5 rfl) ?_
              refine lv_iload_n hx hb dX3_signedSheetFor_52 rfl (lv_at hl 2 rfl) ?_
              refine q_i (r_S S ⟨m_200, m_201, m_35, m_202⟩ ⟨rfl, by decide, by decide, by decide +kernel⟩ (c_lineOf l i ar) ⟨rfl, rfl, Nat.le_of_ble_eq_true rfl, Nat.le_of_ble_eq_true rfl⟩ (ps bl_GL (bG hX.2.2)) (n := 2) (As := [.int (nI i), .int (nI ar)]) (rest := [.ref (ad 5)]) rfl hl.1 rfl (Nat.le_of_ble_eq_true rfl) ⟨Nat.le_of_ble_eq_true rfl, Nat.le_of_ble_eq_true rfl⟩ dX3_signedSheetFor_53) (fun r17 (e17 : r17 = nI (i * 5 + ar)) => ?_)
              subst e17
              refine q_i (r_VN S hX.2.2 ⟨n_203, m_205, m_6, m_38, m_206⟩ ⟨rfl, by decide, by decide, by decide +kernel⟩ (c_hasSign l G ad σ (i * 5 + ar) (by omega)) ⟨rfl, rfl, Nat.le_of_ble_eq_true rfl, Nat.le_of_ble_eq_true rfl⟩ (pv_X hX 5 rfl rfl bl_PX (bX hX)) (n := 1) (As := [.int (nI (i * 5 + ar))]) (rest := []) rfl hl.1 rfl (Nat.le_of_ble_eq_true rfl) ⟨Nat.le_of_ble_eq_true rfl, Nat.le_of_ble_eq_true rfl⟩ dX3_signedSheetFor_56) (fun r18 (e18 : r18 = bI (hsB σ (i * 5 + ar))) => ?_)
              subst e18
              refine lv_if_eq (tgt := 84) hx hb dX3_signedSheetFor_59 (by decide) (fun c59_19 => ?_) (fun c59_19 => ?_)
              · have bc59_19 := bI_0 c59_19
                refine lv_iinc (v := nI (i + 1)) (lv' := [(5, .int (nI (i + 1))), (0, .ref (ad 0)), (1, .int pl), (2, .int (nI ar)), (3, .int mi), (4, .int (nI b))]) hx hb dX3_signedSheetFor_84 hl (k := 5) rfl (nI_1 i) (by decide) rfl (fun ls hl => ?_)
                refine lv_goto (tgt := 6) hx hb dX3_signedSheetFor_87 (by decide) ?_
                have ev20 : nI b = oI (ssO σ pl ar mi (i + 1)) := by simp [ssO, ssT, ← ho, oI, c15_12, bc15_12, c29_13, c43_15, bc43_15, bc59_19]
                rw [ev20] at hl
                exact ih (i + 1) hlt (by omega) ls (lv_sub hl [1, 2, 3, 4, 5, 0] rfl)
              · have bc59_19 := bI_n c59_19
                refine lv_iload hx hb dX3_signedSheetFor_62 (lv_at hl 4 rfl) ?_
                refine lv_iconst (v := (-1)) hx hb dX3_signedSheetFor_64 (by decide) ?_
                refine lv_icmp_eq (tgt := 80) hx hb dX3_signedSheetFor_65 (by decide) (fun c65_21 => ?_) (fun c65_21 => ?_)
                · have bc65_21 := c65_21
                  exact absurd c65_21 (nI_m1 (by omega))
                · have bc65_21 := c65_21
                  refine lv_aload_n hx hb dX3_signedSheetFor_68 rfl (lv_at hl 0 rfl) ?_
                  refine lv_iload hx hb dX3_signedSheetFor_69 (lv_at hl 5 rfl) ?_
                  refine lv_iload hx hb dX3_signedSheetFor_71 (lv_at hl 4 rfl) ?_
                  refine lv_iload_n hx hb dX3_signedSheetFor_73 rfl (lv_at hl 2 rfl) ?_
                  refine q_i (r_V S ⟨m_207, m_209, m_7, m_35, m_210⟩ ⟨rfl, by decide, by decide, by decide +kernel⟩ (c_isStronger l G ad σ i b ar (by omega) (by omega) (by omega)) ⟨rfl, rfl, Nat.le_of_ble_eq_true rfl, Nat.le_of_ble_eq_true rfl⟩ (pv_X hX 0 rfl rfl bl_PX (bX hX)) (n := 3) (As := [.int (nI i), .int (nI b), .int (nI ar)]) (rest := []) rfl hl.1 rfl (Nat.le_of_ble_eq_true rfl) ⟨Nat.le_of_ble_eq_true rfl, Nat.le_of_ble_eq_true rfl⟩ dX3_signedSheetFor_74) (fun r22 (e22 : r22 = bI (strB σ i b ar)) => ?_)
                  subst e22
                  refine lv_if_eq (tgt := 84) hx hb dX3_signedSheetFor_77 (by decide) (fun c77_23 => ?_) (fun c77_23 => ?_)
                  · have bc77_23 := bI_0 c77_23
                    refine lv_iinc (v := nI (i + 1)) (lv' := [(5, .int (nI (i + 1))), (0, .ref (ad 0)), (1, .int pl), (2, .int (nI ar)), (3, .int mi), (4, .int (nI b))]) hx hb dX3_signedSheetFor_84 hl (k := 5) rfl (nI_1 i) (by decide) rfl (fun ls hl => ?_)
                    refine lv_goto (tgt := 6) hx hb dX3_signedSheetFor_87 (by decide) ?_
                    have ev24 : nI b = oI (ssO σ pl ar mi (i + 1)) := by simp [ssO, ssT, ← ho, oI, c15_12, bc15_12, c29_13, c43_15, bc43_15, bc59_19, c65_21, bc77_23]
                    rw [ev24] at hl
                    exact ih (i + 1) hlt (by omega) ls (lv_sub hl [1, 2, 3, 4, 5, 0] rfl)
                  · have bc77_23 := bI_n c77_23
                    refine lv_iload hx hb dX3_signedSheetFor_80 (lv_at hl 5 rfl) ?_
                    refine lv_istore (lv' := [(4, .int (nI i)), (0, .ref (ad 0)), (1, .int pl), (2, .int (nI ar)), (3, .int mi), (5, .int (nI i))]) hx hb dX3_signedSheetFor_82 hl (by decide) rfl (fun ls hl => ?_)
                    refine lv_iinc (v := nI (i + 1)) (lv' := [(5, .int (nI (i + 1))), (4, .int (nI i)), (0, .ref (ad 0)), (1, .int pl), (2, .int (nI ar)), (3, .int mi)]) hx hb dX3_signedSheetFor_84 hl (k := 5) rfl (nI_1 i) (by decide) rfl (fun ls hl => ?_)
                    refine lv_goto (tgt := 6) hx hb dX3_signedSheetFor_87 (by decide) ?_
                    have ev25 : nI i = oI (ssO σ pl ar mi (i + 1)) := by simp [ssO, ssT, ← ho, oI, c15_12, bc15_12, c29_13, c43_15, bc43_15, bc59_19, c65_21, bc77_23]
                    rw [ev25] at hl
                    exact ih (i + 1) hlt (by omega) ls (lv_sub hl [2, 3, 4, 5, 1, 0] rfl)
  refine lv_iconst (v := (-1)) hx hb dX3_signedSheetFor_0 (by decide) ?_
  refine lv_istore (lv' := [(4, .int (-1)), (0, .ref (ad 0)), (1, .int pl), (2, .int (nI ar)), (3, .int mi)]) hx hb dX3_signedSheetFor_1 hl (by decide) rfl (fun ls hl => ?_)
  refine lv_iconst (v := 0) hx hb dX3_signedSheetFor_3 (by decide) ?_
  refine lv_istore (lv' := [(5, .int 0), (4, .int (-1)), (0, .ref (ad 0)), (1, .int pl), (2, .int (nI ar)), (3, .int mi)]) hx hb dX3_signedSheetFor_4 hl (by decide) rfl (fun ls hl => ?_)
  exact L6 (ns + 1) 0 (Nat.zero_le _) (by omega) ls (lv_sub hl [2, 3, 4, 5, 1, 0] rfl)

set_option maxHeartbeats 4000000 in
set_option maxRecDepth 100000 in
theorem c_bookOf (l : Launch) (G : kG) (ad : Nat → Nat) (σ : kS) (nm ns : Nat) (pl : Int32) (ar : Nat) (mi : Int32) (hns : σ 18 0 = nI ns) (hns4 : ns ≤ 40) (hnm : σ 17 0 = nI nm) (hnm2 : nm ≤ 200) (har : ar < 5) : Met l yX3_bookOf [.code yX3_bookOf cX3_bookOf 6 (some .int)] ({ frames := 4, cells := 0, slots := 0, locals := 109 }) (va_Pc [.ref (ad 0), .int pl, .int (nI ar), .int mi] (fun U => PX G ad σ U U.heap)) (vp_Si (fun r => r = boV σ nm ns pl ar mi)) 0 0 NF := by
  refine k_of (by decide) (Nat.le_of_ble_eq_true rfl) (fun U h => h.2.2) ?_
  intro p e s m below meth c ls S hr hlocks hmn hB hl
  have hx := S.1
  have hb := S.2.1
  have hX : PX G ad σ s s.heap := hB
  have hl : lv_has ls 6 [(0, .ref (ad 0)), (1, .int pl), (2, .int (nI ar)), (3, .int mi)] := hl
  refine lv_aload_n hx hb dX3_bookOf_0 rfl (lv_at hl 0 rfl) ?_
  refine lv_iload_n hx hb dX3_bookOf_1 rfl (lv_at hl 1 rfl) ?_
  refine lv_iload_n hx hb dX3_bookOf_2 rfl (lv_at hl 2 rfl) ?_
  refine lv_iload_n hx hb dX3_bookOf_3 rfl (lv_at hl 3 rfl) ?_
  refine q_i (r_V S ⟨m_196, m_198, m_5, m_35, m_199⟩ ⟨rfl, by decide, by decide, by decide +kernel⟩ (c_signedSheetFor l G ad σ ns pl ar mi hns hns4 (by omega)) ⟨rfl, rfl, Nat.le_of_ble_eq_true rfl, Nat.le_of_ble_eq_true rfl⟩ (pv_X hX 0 rfl rfl bl_PX (bX hX)) (n := 3) (As := [.int pl, .int (nI ar), .int mi]) (rest := []) rfl hl.1 rfl (Nat.le_of_ble_eq_true rfl) ⟨Nat.le_of_ble_eq_true rfl, Nat.le_of_ble_eq_true rfl⟩ dX3_bookOf_4) (fun r1 (e1 : r1 = oI (ssO σ pl ar mi ns)) => ?_)
  subst e1
  rcases hss : ssO σ pl ar mi ns with _ | k
  · show W _ _ _ _ _ _ _ _ _ _ _ _ _ _ _ (F0 m 7 ls [.int (-1)])
    refine lv_istore (lv' := [(4, .int (-1)), (0, .ref (ad 0)), (1, .int pl), (2, .int (nI ar)), (3, .int mi)]) hx hb dX3_bookOf_7 hl (by decide) rfl (fun ls hl => ?_)
    refine lv_iload hx hb dX3_bookOf_9 (lv_at hl 0 rfl) ?_
    refine lv_iconst (v := (-1)) hx hb dX3_bookOf_11 (by decide) ?_
    refine lv_icmp_ne (tgt := 27) hx hb dX3_bookOf_12 (by decide) (fun c12_2 => ?_) (fun c12_2 => ?_)
    · have bc12_2 := c12_2
      exact absurd rfl c12_2
    · have bc12_2 := c12_2
      refine lv_aload_n hx hb dX3_bookOf_15 rfl (lv_at hl 1 rfl) ?_
      refine k_get S hX.2 hX.1 0 (C := RX3) (T := TX3) (N := 6) rfl rfl 2 (by decide) inX3 m_146 rfl dX3_bookOf_16 ?_
      refine lv_iload_n hx hb dX3_bookOf_19 rfl (lv_at hl 2 rfl) ?_
      refine lv_iload_n hx hb dX3_bookOf_20 rfl (lv_at hl 3 rfl) ?_
      refine lv_iconst (v := (-1)) hx hb dX3_bookOf_21 (by decide) ?_
      refine lv_iload_n hx hb dX3_bookOf_22 rfl (lv_at hl 4 rfl) ?_
      refine q_i (r_VN S hX.2.2 ⟨n_211, m_213, m_8, m_36, m_214⟩ ⟨rfl, by decide, by decide, by decide +kernel⟩ (c_brought l G ad σ nm pl (nI ar) (-1) mi hnm hnm2) ⟨rfl, rfl, Nat.le_of_ble_eq_true rfl, Nat.le_of_ble_eq_true rfl⟩ (pv_X hX 3 rfl rfl bl_PX (bX hX)) (n := 4) (As := [.int pl, .int (nI ar), .int (-1), .int mi]) (rest := []) rfl hl.1 rfl (Nat.le_of_ble_eq_true rfl) ⟨Nat.le_of_ble_eq_true rfl, Nat.le_of_ble_eq_true rfl⟩ dX3_bookOf_23) (fun r3 (e3 : r3 = brF σ pl (nI ar) (-1) mi nm) => ?_)
      subst e3
      exact W.iret (v := brF σ pl (nI ar) (-1) mi nm) hx hb hr (fun t ht hW => ⟨_, rfl, (by simp [boV, hss, c12_2]), ht⟩) (fun q h => by cases h) dX3_bookOf_26
  · show W _ _ _ _ _ _ _ _ _ _ _ _ _ _ _ (F0 m 7 ls [.int (nI k)])
    have hkn := ssO_lt hss
    refine lv_istore (lv' := [(4, .int (nI k)), (0, .ref (ad 0)), (1, .int pl), (2, .int (nI ar)), (3, .int mi)]) hx hb dX3_bookOf_7 hl (by decide) rfl (fun ls hl => ?_)
    refine lv_iload hx hb dX3_bookOf_9 (lv_at hl 0 rfl) ?_
    refine lv_iconst (v := (-1)) hx hb dX3_bookOf_11 (by decide) ?_
    refine lv_icmp_ne (tgt := 27) hx hb dX3_bookOf_12 (by decide) (fun c12_4 => ?_) (fun c12_4 => ?_)
    · have bc12_4 := c12_4
      refine lv_aload_n hx hb dX3_bookOf_27 rfl (lv_at hl 1 rfl) ?_
      refine k_get S hX.2 hX.1 0 (C := RX3) (T := TX3) (N := 6) rfl rfl 4 (by decide) inX3 m_148 rfl dX3_bookOf_28 ?_
      refine k_getN S hX.2 hX.1 5 (C := RX0) (T := TX0) (N := 7) rfl rfl 3 (by decide) inX0 n_122 rfl dX3_bookOf_31 ?_
      refine lv_iload hx hb dX3_bookOf_34 (lv_at hl 0 rfl) ?_
      refine lv_iload_n hx hb dX3_bookOf_36 rfl (lv_at hl 3 rfl) ?_
      refine q_i (r_S S ⟨m_200, m_201, m_35, m_202⟩ ⟨rfl, by decide, by decide, by decide +kernel⟩ (c_lineOf l k ar) ⟨rfl, rfl, Nat.le_of_ble_eq_true rfl, Nat.le_of_ble_eq_true rfl⟩ (ps bl_GL (bG hX.2.2)) (n := 2) (As := [.int (nI k), .int (nI ar)]) (rest := [.ref (ad 17)]) rfl hl.1 rfl (Nat.le_of_ble_eq_true rfl) ⟨Nat.le_of_ble_eq_true rfl, Nat.le_of_ble_eq_true rfl⟩ dX3_bookOf_37) (fun r5 (e5 : r5 = nI (k * 5 + ar)) => ?_)
      subst e5
      refine k_ild S hX.2 hX.1 17 (i := (k * 5 + ar)) rfl (by omega) (by decide) dX3_bookOf_40 ?_
      refine lv_istore (lv' := [(5, .int (σ 13 (k * 5 + ar))), (4, .int (nI k)), (0, .ref (ad 0)), (1, .int pl), (2, .int (nI ar)), (3, .int mi)]) hx hb dX3_bookOf_41 hl (by decide) rfl (fun ls hl => ?_)
      refine lv_iload hx hb dX3_bookOf_43 (lv_at hl 0 rfl) ?_
      refine lv_aload_n hx hb dX3_bookOf_45 rfl (lv_at hl 2 rfl) ?_
      refine k_get S hX.2 hX.1 0 (C := RX3) (T := TX3) (N := 6) rfl rfl 2 (by decide) inX3 m_146 rfl dX3_bookOf_46 ?_
      refine lv_iload_n hx hb dX3_bookOf_49 rfl (lv_at hl 3 rfl) ?_
      refine lv_iload_n hx hb dX3_bookOf_50 rfl (lv_at hl 4 rfl) ?_
      refine lv_aload_n hx hb dX3_bookOf_51 rfl (lv_at hl 2 rfl) ?_
      refine k_get S hX.2 hX.1 0 (C := RX3) (T := TX3) (N := 6) rfl rfl 3 (by decide) inX3 m_147 rfl dX3_bookOf_52 ?_
      refine k_getN S hX.2 hX.1 4 (C := RX2) (T := TX2) (N := 4) rfl rfl 1 (by decide) inX2 n_94 rfl dX3_bookOf_55 ?_
      refine lv_iload hx hb dX3_bookOf_58 (lv_at hl 1 rfl) ?_
      refine k_ild S hX.2 hX.1 12 (i := k) rfl (by omega) (by decide) dX3_bookOf_60 ?_
      refine lv_iload_n hx hb dX3_bookOf_61 rfl (lv_at hl 5 rfl) ?_
      refine q_i (r_VN S hX.2.2 ⟨n_211, m_213, m_8, m_36, m_214⟩ ⟨rfl, by decide, by decide, by decide +kernel⟩ (c_brought l G ad σ nm pl (nI ar) (σ 8 k) mi hnm hnm2) ⟨rfl, rfl, Nat.le_of_ble_eq_true rfl, Nat.le_of_ble_eq_true rfl⟩ (pv_X hX 3 rfl rfl bl_PX (bX hX)) (n := 4) (As := [.int pl, .int (nI ar), .int (σ 8 k), .int mi]) (rest := [.int (σ 13 (k * 5 + ar))]) rfl hl.1 rfl (Nat.le_of_ble_eq_true rfl) ⟨Nat.le_of_ble_eq_true rfl, Nat.le_of_ble_eq_true rfl⟩ dX3_bookOf_62) (fun r6 (e6 : r6 = brF σ pl (nI ar) (σ 8 k) mi nm) => ?_)
      subst e6
      refine lv_iadd hx hb dX3_bookOf_65 ?_
      exact W.iret (v := (σ 13 (k * 5 + ar)) + (brF σ pl (nI ar) (σ 8 k) mi nm)) hx hb hr (fun t ht hW => ⟨_, rfl, (by simp [boV, hss, c12_4]), ht⟩) (fun q h => by cases h) dX3_bookOf_66
    · have bc12_4 := c12_4
      exact absurd c12_4 (nI_m1 (by omega))

set_option maxHeartbeats 4000000 in
set_option maxRecDepth 100000 in
theorem c_gapOf (l : Launch) (G : kG) (ad : Nat → Nat) (σ : kS) (nm ns : Nat) (sh ar : Nat) (hns : σ 18 0 = nI ns) (hns4 : ns ≤ 40) (hnm : σ 17 0 = nI nm) (hnm2 : nm ≤ 200) (hsh : sh < ns) (har : ar < 5) : Met l yX3_gapOf [.code yX3_gapOf cX3_gapOf 4 (some .int)] ({ frames := 5, cells := 0, slots := 0, locals := 134 }) (va_Pc [.ref (ad 0), .int (nI sh), .int (nI ar)] (fun U => PX G ad σ U U.heap)) (vp_Si (fun r => r = gpV σ nm ns sh ar)) 0 0 NF := by
  refine k_of (by decide) (Nat.le_of_ble_eq_true rfl) (fun U h => h.2.2) ?_
  intro p e s m below meth c ls S hr hlocks hmn hB hl
  have hx := S.1
  have hb := S.2.1
  have hX : PX G ad σ s s.heap := hB
  have hl : lv_has ls 4 [(0, .ref (ad 0)), (1, .int (nI sh)), (2, .int (nI ar))] := hl
  refine lv_iload_n hx hb dX3_gapOf_0 rfl (lv_at hl 1 rfl) ?_
  refine lv_iload_n hx hb dX3_gapOf_1 rfl (lv_at hl 2 rfl) ?_
  refine q_i (r_S S ⟨m_200, m_201, m_35, m_202⟩ ⟨rfl, by decide, by decide, by decide +kernel⟩ (c_lineOf l sh ar) ⟨rfl, rfl, Nat.le_of_ble_eq_true rfl, Nat.le_of_ble_eq_true rfl⟩ (ps bl_GL (bG hX.2.2)) (n := 2) (As := [.int (nI sh), .int (nI ar)]) (rest := []) rfl hl.1 rfl (Nat.le_of_ble_eq_true rfl) ⟨Nat.le_of_ble_eq_true rfl, Nat.le_of_ble_eq_true rfl⟩ dX3_gapOf_2) (fun r1 (e1 : r1 = nI (sh * 5 + ar)) => ?_)
  subst e1
  refine lv_istore_n (lv' := [(3, .int (nI (sh * 5 + ar))), (0, .ref (ad 0)), (1, .int (nI sh)), (2, .int (nI ar))]) hx hb dX3_gapOf_5 rfl hl (by decide) rfl (fun ls hl => ?_)
  refine lv_aload_n hx hb dX3_gapOf_6 rfl (lv_at hl 1 rfl) ?_
  refine k_get S hX.2 hX.1 0 (C := RX3) (T := TX3) (N := 6) rfl rfl 4 (by decide) inX3 m_148 rfl dX3_gapOf_7 ?_
  refine lv_iload_n hx hb dX3_gapOf_10 rfl (lv_at hl 0 rfl) ?_
  refine q_i (r_VN S hX.2.2 ⟨n_203, m_205, m_6, m_38, m_206⟩ ⟨rfl, by decide, by decide, by decide +kernel⟩ (c_hasSign l G ad σ (sh * 5 + ar) (by omega)) ⟨rfl, rfl, Nat.le_of_ble_eq_true rfl, Nat.le_of_ble_eq_true rfl⟩ (pv_X hX 5 rfl rfl bl_PX (bX hX)) (n := 1) (As := [.int (nI (sh * 5 + ar))]) (rest := []) rfl hl.1 rfl (Nat.le_of_ble_eq_true rfl) ⟨Nat.le_of_ble_eq_true rfl, Nat.le_of_ble_eq_true rfl⟩ dX3_gapOf_11) (fun r2 (e2 : r2 = bI (hsB σ (sh * 5 + ar))) => ?_)
  subst e2
  refine lv_if_eq (tgt := 27) hx hb dX3_gapOf_14 (by decide) (fun c14_3 => ?_) (fun c14_3 => ?_)
  · have bc14_3 := bI_0 c14_3
    refine lv_aload_n hx hb dX3_gapOf_27 rfl (lv_at hl 1 rfl) ?_
    refine k_get S hX.2 hX.1 0 (C := RX3) (T := TX3) (N := 6) rfl rfl 4 (by decide) inX3 m_148 rfl dX3_gapOf_28 ?_
    refine k_getN S hX.2 hX.1 5 (C := RX0) (T := TX0) (N := 7) rfl rfl 3 (by decide) inX0 n_122 rfl dX3_gapOf_31 ?_
    refine lv_iload_n hx hb dX3_gapOf_34 rfl (lv_at hl 0 rfl) ?_
    refine k_ild S hX.2 hX.1 17 (i := (sh * 5 + ar)) rfl (by omega) (by decide) dX3_gapOf_35 ?_
    refine lv_aload_n hx hb dX3_gapOf_36 rfl (lv_at hl 1 rfl) ?_
    refine lv_aload_n hx hb dX3_gapOf_37 rfl (lv_at hl 1 rfl) ?_
    refine k_get S hX.2 hX.1 0 (C := RX3) (T := TX3) (N := 6) rfl rfl 3 (by decide) inX3 m_147 rfl dX3_gapOf_38 ?_
    refine k_getN S hX.2 hX.1 4 (C := RX2) (T := TX2) (N := 4) rfl rfl 0 (by decide) inX2 n_92 rfl dX3_gapOf_41 ?_
    refine lv_iload_n hx hb dX3_gapOf_44 rfl (lv_at hl 2 rfl) ?_
    refine k_ild S hX.2 hX.1 11 (i := sh) rfl (by omega) (by decide) dX3_gapOf_45 ?_
    refine lv_iload_n hx hb dX3_gapOf_46 rfl (lv_at hl 3 rfl) ?_
    refine lv_aload_n hx hb dX3_gapOf_47 rfl (lv_at hl 1 rfl) ?_
    refine k_get S hX.2 hX.1 0 (C := RX3) (T := TX3) (N := 6) rfl rfl 3 (by decide) inX3 m_147 rfl dX3_gapOf_48 ?_
    refine k_getN S hX.2 hX.1 4 (C := RX2) (T := TX2) (N := 4) rfl rfl 1 (by decide) inX2 n_94 rfl dX3_gapOf_51 ?_
    refine lv_iload_n hx hb dX3_gapOf_54 rfl (lv_at hl 2 rfl) ?_
    refine k_ild S hX.2 hX.1 12 (i := sh) rfl (by omega) (by decide) dX3_gapOf_55 ?_
    refine q_i (r_V S ⟨m_192, m_194, m_4, m_35, m_195⟩ ⟨rfl, by decide, by decide, by decide +kernel⟩ (c_bookOf l G ad σ nm ns (σ 7 sh) ar (σ 8 sh) hns hns4 hnm hnm2 (by omega)) ⟨rfl, rfl, Nat.le_of_ble_eq_true rfl, Nat.le_of_ble_eq_true rfl⟩ (pv_X hX 0 rfl rfl bl_PX (bX hX)) (n := 3) (As := [.int (σ 7 sh), .int (nI ar), .int (σ 8 sh)]) (rest := [.int (σ 13 (sh * 5 + ar))]) rfl hl.1 rfl (Nat.le_of_ble_eq_true rfl) ⟨Nat.le_of_ble_eq_true rfl, Nat.le_of_ble_eq_true rfl⟩ dX3_gapOf_56) (fun r4 (e4 : r4 = boV σ nm ns (σ 7 sh) ar (σ 8 sh)) => ?_)
    subst e4
    refine lv_isub hx hb dX3_gapOf_59 ?_
    exact W.iret (v := (σ 13 (sh * 5 + ar)) - (boV σ nm ns (σ 7 sh) ar (σ 8 sh))) hx hb hr (fun t ht hW => ⟨_, rfl, (by simp [gpV, bc14_3]), ht⟩) (fun q h => by cases h) dX3_gapOf_60
  · have bc14_3 := bI_n c14_3
    refine lv_aload_n hx hb dX3_gapOf_17 rfl (lv_at hl 1 rfl) ?_
    refine k_get S hX.2 hX.1 0 (C := RX3) (T := TX3) (N := 6) rfl rfl 4 (by decide) inX3 m_148 rfl dX3_gapOf_18 ?_
    refine k_getN S hX.2 hX.1 5 (C := RX0) (T := TX0) (N := 7) rfl rfl 5 (by decide) inX0 n_126 rfl dX3_gapOf_21 ?_
    refine lv_iload_n hx hb dX3_gapOf_24 rfl (lv_at hl 0 rfl) ?_
    refine k_ild S hX.2 hX.1 19 (i := (sh * 5 + ar)) rfl (by omega) (by decide) dX3_gapOf_25 ?_
    exact W.iret (v := σ 15 (sh * 5 + ar)) hx hb hr (fun t ht hW => ⟨_, rfl, (by simp [gpV, bc14_3]), ht⟩) (fun q h => by cases h) dX3_gapOf_26

set_option maxHeartbeats 4000000 in
set_option maxRecDepth 100000 in
theorem c_isSignable (l : Launch) (G : kG) (ad : Nat → Nat) (σ : kS) (sh ar : Nat) (hsh : sh < 40) (har : ar < 5) : Met l yX3_isSignable [.code yX3_isSignable cX3_isSignable 4 (some .boolean)] ({ frames := 2, cells := 0, slots := 0, locals := 61 }) (va_Pc [.ref (ad 0), .int (nI sh), .int (nI ar)] (fun U => PX G ad σ U U.heap)) (vp_Si (fun r => r = bI (sgB σ sh ar))) 0 0 NF := by
  refine k_of (by decide) (Nat.le_of_ble_eq_true rfl) (fun U h => h.2.2) ?_
  intro p e s m below meth c ls S hr hlocks hmn hB hl
  have hx := S.1
  have hb := S.2.1
  have hX : PX G ad σ s s.heap := hB
  have hl : lv_has ls 4 [(0, .ref (ad 0)), (1, .int (nI sh)), (2, .int (nI ar))] := hl
  refine lv_iload_n hx hb dX3_isSignable_0 rfl (lv_at hl 1 rfl) ?_
  refine lv_iload_n hx hb dX3_isSignable_1 rfl (lv_at hl 2 rfl) ?_
  refine q_i (r_S S ⟨m_200, m_201, m_35, m_202⟩ ⟨rfl, by decide, by decide, by decide +kernel⟩ (c_lineOf l sh ar) ⟨rfl, rfl, Nat.le_of_ble_eq_true rfl, Nat.le_of_ble_eq_true rfl⟩ (ps bl_GL (bG hX.2.2)) (n := 2) (As := [.int (nI sh), .int (nI ar)]) (rest := []) rfl hl.1 rfl (Nat.le_of_ble_eq_true rfl) ⟨Nat.le_of_ble_eq_true rfl, Nat.le_of_ble_eq_true rfl⟩ dX3_isSignable_2) (fun r1 (e1 : r1 = nI (sh * 5 + ar)) => ?_)
  subst e1
  refine lv_istore_n (lv' := [(3, .int (nI (sh * 5 + ar))), (0, .ref (ad 0)), (1, .int (nI sh)), (2, .int (nI ar))]) hx hb dX3_isSignable_5 rfl hl (by decide) rfl (fun ls hl => ?_)
  refine lv_aload_n hx hb dX3_isSignable_6 rfl (lv_at hl 1 rfl) ?_
  refine k_get S hX.2 hX.1 0 (C := RX3) (T := TX3) (N := 6) rfl rfl 3 (by decide) inX3 m_147 rfl dX3_isSignable_7 ?_
  refine k_getN S hX.2 hX.1 4 (C := RX2) (T := TX2) (N := 4) rfl rfl 2 (by decide) inX2 n_96 rfl dX3_isSignable_10 ?_
  refine lv_iload_n hx hb dX3_isSignable_13 rfl (lv_at hl 2 rfl) ?_
  refine k_zld S hX.2 hX.1 13 (i := sh) rfl (by omega) (by decide) dX3_isSignable_14 ?_
  refine lv_if_eq (tgt := 44) hx hb dX3_isSignable_15 (by decide) (fun c15_2 => ?_) (fun c15_2 => ?_)
  · have bc15_2 := c15_2
    refine lv_iconst (v := 0) hx hb dX3_isSignable_44 (by decide) ?_
    exact W.zret (v := 0) (ty := .boolean) hx hb hr (by first | rfl | exact bI_nar _) (fun t ht hW => ⟨_, rfl, (by simp [sgB, bI, c15_2]), ht⟩) (fun q h => by cases h) dX3_isSignable_45
  · have bc15_2 := c15_2
    refine lv_aload_n hx hb dX3_isSignable_18 rfl (lv_at hl 1 rfl) ?_
    refine k_get S hX.2 hX.1 0 (C := RX3) (T := TX3) (N := 6) rfl rfl 4 (by decide) inX3 m_148 rfl dX3_isSignable_19 ?_
    refine lv_iload_n hx hb dX3_isSignable_22 rfl (lv_at hl 0 rfl) ?_
    refine q_i (r_VN S hX.2.2 ⟨n_391, m_393, m_12, m_38, m_394⟩ ⟨rfl, by decide, by decide, by decide +kernel⟩ (c_agrees l G ad σ (sh * 5 + ar) (by omega)) ⟨rfl, rfl, Nat.le_of_ble_eq_true rfl, Nat.le_of_ble_eq_true rfl⟩ (pv_X hX 5 rfl rfl bl_PX (bX hX)) (n := 1) (As := [.int (nI (sh * 5 + ar))]) (rest := []) rfl hl.1 rfl (Nat.le_of_ble_eq_true rfl) ⟨Nat.le_of_ble_eq_true rfl, Nat.le_of_ble_eq_true rfl⟩ dX3_isSignable_23) (fun r3 (e3 : r3 = bI (agB σ (sh * 5 + ar))) => ?_)
    subst e3
    refine lv_if_eq (tgt := 44) hx hb dX3_isSignable_26 (by decide) (fun c26_4 => ?_) (fun c26_4 => ?_)
    · have bc26_4 := bI_0 c26_4
      refine lv_iconst (v := 0) hx hb dX3_isSignable_44 (by decide) ?_
      exact W.zret (v := 0) (ty := .boolean) hx hb hr (by first | rfl | exact bI_nar _) (fun t ht hW => ⟨_, rfl, (by simp [sgB, bI, c15_2, bc26_4]), ht⟩) (fun q h => by cases h) dX3_isSignable_45
    · have bc26_4 := bI_n c26_4
      refine lv_aload_n hx hb dX3_isSignable_29 rfl (lv_at hl 1 rfl) ?_
      refine k_get S hX.2 hX.1 0 (C := RX3) (T := TX3) (N := 6) rfl rfl 4 (by decide) inX3 m_148 rfl dX3_isSignable_30 ?_
      refine lv_iload_n hx hb dX3_isSignable_33 rfl (lv_at hl 0 rfl) ?_
      refine q_i (r_VN S hX.2.2 ⟨n_203, m_205, m_6, m_38, m_206⟩ ⟨rfl, by decide, by decide, by decide +kernel⟩ (c_hasSign l G ad σ (sh * 5 + ar) (by omega)) ⟨rfl, rfl, Nat.le_of_ble_eq_true rfl, Nat.le_of_ble_eq_true rfl⟩ (pv_X hX 5 rfl rfl bl_PX (bX hX)) (n := 1) (As := [.int (nI (sh * 5 + ar))]) (rest := []) rfl hl.1 rfl (Nat.le_of_ble_eq_true rfl) ⟨Nat.le_of_ble_eq_true rfl, Nat.le_of_ble_eq_true rfl⟩ dX3_isSignable_34) (fun r5 (e5 : r5 = bI (hsB σ (sh * 5 + ar))) => ?_)
      subst e5
      refine lv_if_ne (tgt := 44) hx hb dX3_isSignable_37 (by decide) (fun c37_6 => ?_) (fun c37_6 => ?_)
      · have bc37_6 := bI_n c37_6
        refine lv_iconst (v := 0) hx hb dX3_isSignable_44 (by decide) ?_
        exact W.zret (v := 0) (ty := .boolean) hx hb hr (by first | rfl | exact bI_nar _) (fun t ht hW => ⟨_, rfl, (by simp [sgB, bI, c15_2, bc26_4, bc37_6]), ht⟩) (fun q h => by cases h) dX3_isSignable_45
      · have bc37_6 := bI_0 c37_6
        refine lv_iconst (v := 1) hx hb dX3_isSignable_40 (by decide) ?_
        refine lv_goto (tgt := 45) hx hb dX3_isSignable_41 (by decide) ?_
        exact W.zret (v := 1) (ty := .boolean) hx hb hr (by first | rfl | exact bI_nar _) (fun t ht hW => ⟨_, rfl, (by simp [sgB, bI, c15_2, bc26_4, bc37_6]), ht⟩) (fun q h => by cases h) dX3_isSignable_45

set_option maxHeartbeats 4000000 in
set_option maxRecDepth 100000 in
theorem c_canBeSettled (l : Launch) (G : kG) (ad : Nat → Nat) (σ : kS) (nm ns : Nat) (sh ot ar : Nat) (hns : σ 18 0 = nI ns) (hns4 : ns ≤ 40) (hnm : σ 17 0 = nI nm) (hnm2 : nm ≤ 200) (hsh : sh < ns) (hot : ot < ns) (har : ar < 5) : Met l yX3_canBeSettled [.code yX3_canBeSettled cX3_canBeSettled 5 (some .boolean)] ({ frames := 6, cells := 0, slots := 0, locals := 157 }) (va_Pc [.ref (ad 0), .int (nI sh), .int (nI ot), .int (nI ar)] (fun U => PX G ad σ U U.heap)) (vp_Si (fun r => r = bI (csB σ nm ns sh ot ar))) 0 0 NF := by
  refine k_of (by decide) (Nat.le_of_ble_eq_true rfl) (fun U h => h.2.2) ?_
  intro p e s m below meth c ls S hr hlocks hmn hB hl
  have hx := S.1
  have hb := S.2.1
  have hX : PX G ad σ s s.heap := hB
  have hl : lv_has ls 5 [(0, .ref (ad 0)), (1, .int (nI sh)), (2, .int (nI ot)), (3, .int (nI ar))] := hl
  refine lv_aload_n hx hb dX3_canBeSettled_0 rfl (lv_at hl 0 rfl) ?_
  refine k_get S hX.2 hX.1 0 (C := RX3) (T := TX3) (N := 6) rfl rfl 3 (by decide) inX3 m_147 rfl dX3_canBeSettled_1 ?_
  refine k_getN S hX.2 hX.1 4 (C := RX2) (T := TX2) (N := 4) rfl rfl 0 (by decide) inX2 n_92 rfl dX3_canBeSettled_4 ?_
  refine lv_iload_n hx hb dX3_canBeSettled_7 rfl (lv_at hl 1 rfl) ?_
  refine k_ild S hX.2 hX.1 11 (i := sh) rfl (by omega) (by decide) dX3_canBeSettled_8 ?_
  refine lv_aload_n hx hb dX3_canBeSettled_9 rfl (lv_at hl 0 rfl) ?_
  refine k_get S hX.2 hX.1 0 (C := RX3) (T := TX3) (N := 6) rfl rfl 3 (by decide) inX3 m_147 rfl dX3_canBeSettled_10 ?_
  refine k_getN S hX.2 hX.1 4 (C := RX2) (T := TX2) (N := 4) rfl rfl 0 (by decide) inX2 n_92 rfl dX3_canBeSettled_13 ?_
  refine lv_iload_n hx hb dX3_canBeSettled_16 rfl (lv_at hl 2 rfl) ?_
  refine k_ild S hX.2 hX.1 11 (i := ot) rfl (by omega) (by decide) dX3_canBeSettled_17 ?_
  refine lv_icmp_eq (tgt := 39) hx hb dX3_canBeSettled_18 (by decide) (fun c18_1 => ?_) (fun c18_1 => ?_)
  · have bc18_1 := c18_1
    refine lv_iconst (v := 0) hx hb dX3_canBeSettled_39 (by decide) ?_
    exact W.zret (v := 0) (ty := .boolean) hx hb hr (by first | rfl | exact bI_nar _) (fun t ht hW => ⟨_, rfl, (by simp [csB, bI, c18_1]), ht⟩) (fun q h => by cases h) dX3_canBeSettled_40
  · have bc18_1 := c18_1
    refine lv_aload_n hx hb dX3_canBeSettled_21 rfl (lv_at hl 0 rfl) ?_
    refine lv_iload_n hx hb dX3_canBeSettled_22 rfl (lv_at hl 1 rfl) ?_
    refine lv_iload_n hx hb dX3_canBeSettled_23 rfl (lv_at hl 3 rfl) ?_
    refine q_i (r_V S ⟨m_459, m_461, m_17, m_35, m_462⟩ ⟨rfl, by decide, by decide, by decide +kernel⟩ (c_isSignable l G ad σ sh ar (by omega) (by omega)) ⟨rfl, rfl, Nat.le_of_ble_eq_true rfl, Nat.le_of_ble_eq_true rfl⟩ (pv_X hX 0 rfl rfl bl_PX (bX hX)) (n := 2) (As := [.int (nI sh), .int (nI ar)]) (rest := []) rfl hl.1 rfl (Nat.le_of_ble_eq_true rfl) ⟨Nat.le_of_ble_eq_true rfl, Nat.le_of_ble_eq_true rfl⟩ dX3_canBeSettled_24) (fun r2 (e2 : r2 = bI (sgB σ sh ar)) => ?_)
    subst e2
    refine lv_if_eq (tgt := 39) hx hb dX3_canBeSettled_27 (by decide) (fun c27_3 => ?_) (fun c27_3 => ?_)
    · have bc27_3 := bI_0 c27_3
      refine lv_iconst (v := 0) hx hb dX3_canBeSettled_39 (by decide) ?_
      exact W.zret (v := 0) (ty := .boolean) hx hb hr (by first | rfl | exact bI_nar _) (fun t ht hW => ⟨_, rfl, (by simp [csB, bI, c18_1, bc27_3]), ht⟩) (fun q h => by cases h) dX3_canBeSettled_40
    · have bc27_3 := bI_n c27_3
      refine lv_aload_n hx hb dX3_canBeSettled_30 rfl (lv_at hl 0 rfl) ?_
      refine lv_iload_n hx hb dX3_canBeSettled_31 rfl (lv_at hl 2 rfl) ?_
      refine lv_iload_n hx hb dX3_canBeSettled_32 rfl (lv_at hl 3 rfl) ?_
      refine q_i (r_V S ⟨m_459, m_461, m_17, m_35, m_462⟩ ⟨rfl, by decide, by decide, by decide +kernel⟩ (c_isSignable l G ad σ ot ar (by omega) (by omega)) ⟨rfl, rfl, Nat.le_of_ble_eq_true rfl, Nat.le_of_ble_eq_true rfl⟩ (pv_X hX 0 rfl rfl bl_PX (bX hX)) (n := 2) (As := [.int (nI ot), .int (nI ar)]) (rest := []) rfl hl.1 rfl (Nat.le_of_ble_eq_true rfl) ⟨Nat.le_of_ble_eq_true rfl, Nat.le_of_ble_eq_true rfl⟩ dX3_canBeSettled_33) (fun r4 (e4 : r4 = bI (sgB σ ot ar)) => ?_)
      subst e4
      refine lv_if_ne (tgt := 41) hx hb dX3_canBeSettled_36 (by decide) (fun c36_5 => ?_) (fun c36_5 => ?_)
      · have bc36_5 := bI_n c36_5
        refine lv_aload_n hx hb dX3_canBeSettled_41 rfl (lv_at hl 0 rfl) ?_
        refine lv_iload_n hx hb dX3_canBeSettled_42 rfl (lv_at hl 1 rfl) ?_
        refine lv_iload_n hx hb dX3_canBeSettled_43 rfl (lv_at hl 3 rfl) ?_
        refine q_i (r_V S ⟨m_464, m_466, m_18, m_35, m_467⟩ ⟨rfl, by decide, by decide, by decide +kernel⟩ (c_gapOf l G ad σ nm ns sh ar hns hns4 hnm hnm2 (by omega) (by omega)) ⟨rfl, rfl, Nat.le_of_ble_eq_true rfl, Nat.le_of_ble_eq_true rfl⟩ (pv_X hX 0 rfl rfl bl_PX (bX hX)) (n := 2) (As := [.int (nI sh), .int (nI ar)]) (rest := []) rfl hl.1 rfl (Nat.le_of_ble_eq_true rfl) ⟨Nat.le_of_ble_eq_true rfl, Nat.le_of_ble_eq_true rfl⟩ dX3_canBeSettled_44) (fun r6 (e6 : r6 = gpV σ nm ns sh ar) => ?_)
        subst e6
        refine lv_istore (lv' := [(4, .int (gpV σ nm ns sh ar)), (0, .ref (ad 0)), (1, .int (nI sh)), (2, .int (nI ot)), (3, .int (nI ar))]) hx hb dX3_canBeSettled_47 hl (by decide) rfl (fun ls hl => ?_)
        refine lv_iload hx hb dX3_canBeSettled_49 (lv_at hl 0 rfl) ?_
        refine lv_if_eq (tgt := 70) hx hb dX3_canBeSettled_51 (by decide) (fun c51_7 => ?_) (fun c51_7 => ?_)
        · have bc51_7 := c51_7
          refine lv_iconst (v := 0) hx hb dX3_canBeSettled_70 (by decide) ?_
          exact W.zret (v := 0) (ty := .boolean) hx hb hr (by first | rfl | exact bI_nar _) (fun t ht hW => ⟨_, rfl, (by simp [csB, bI, c18_1, bc27_3, bc36_5, c51_7]), ht⟩) (fun q h => by cases h) dX3_canBeSettled_71
        · have bc51_7 := c51_7
          refine lv_iload hx hb dX3_canBeSettled_54 (lv_at hl 0 rfl) ?_
          refine lv_aload_n hx hb dX3_canBeSettled_56 rfl (lv_at hl 1 rfl) ?_
          refine lv_iload_n hx hb dX3_canBeSettled_57 rfl (lv_at hl 3 rfl) ?_
          refine lv_iload_n hx hb dX3_canBeSettled_58 rfl (lv_at hl 4 rfl) ?_
          refine q_i (r_V S ⟨m_464, m_466, m_18, m_35, m_467⟩ ⟨rfl, by decide, by decide, by decide +kernel⟩ (c_gapOf l G ad σ nm ns ot ar hns hns4 hnm hnm2 (by omega) (by omega)) ⟨rfl, rfl, Nat.le_of_ble_eq_true rfl, Nat.le_of_ble_eq_true rfl⟩ (pv_X hX 0 rfl rfl bl_PX (bX hX)) (n := 2) (As := [.int (nI ot), .int (nI ar)]) (rest := [.int (gpV σ nm ns sh ar)]) rfl hl.1 rfl (Nat.le_of_ble_eq_true rfl) ⟨Nat.le_of_ble_eq_true rfl, Nat.le_of_ble_eq_true rfl⟩ dX3_canBeSettled_59) (fun r8 (e8 : r8 = gpV σ nm ns ot ar) => ?_)
          subst e8
          refine lv_iadd hx hb dX3_canBeSettled_62 ?_
          refine lv_if_ne (tgt := 70) hx hb dX3_canBeSettled_63 (by decide) (fun c63_9 => ?_) (fun c63_9 => ?_)
          · have bc63_9 := c63_9
            refine lv_iconst (v := 0) hx hb dX3_canBeSettled_70 (by decide) ?_
            exact W.zret (v := 0) (ty := .boolean) hx hb hr (by first | rfl | exact bI_nar _) (fun t ht hW => ⟨_, rfl, (by simp [csB, bI, c18_1, bc27_3, bc36_5, c51_7, c63_9]), ht⟩) (fun q h => by cases h) dX3_canBeSettled_71
          · have bc63_9 := c63_9
            refine lv_iconst (v := 1) hx hb dX3_canBeSettled_66 (by decide) ?_
            refine lv_goto (tgt := 71) hx hb dX3_canBeSettled_67 (by decide) ?_
            exact W.zret (v := 1) (ty := .boolean) hx hb hr (by first | rfl | exact bI_nar _) (fun t ht hW => ⟨_, rfl, (by simp [csB, bI, c18_1, bc27_3, bc36_5, c51_7, c63_9]), ht⟩) (fun q h => by cases h) dX3_canBeSettled_71
      · have bc36_5 := bI_0 c36_5
        refine lv_iconst (v := 0) hx hb dX3_canBeSettled_39 (by decide) ?_
        exact W.zret (v := 0) (ty := .boolean) hx hb hr (by first | rfl | exact bI_nar _) (fun t ht hW => ⟨_, rfl, (by simp [csB, bI, c18_1, bc27_3, bc36_5]), ht⟩) (fun q h => by cases h) dX3_canBeSettled_40

set_option maxHeartbeats 4000000 in
set_option maxRecDepth 100000 in
theorem c_worthOf (l : Launch) (G : kG) (ad : Nat → Nat) (σ : kS) (nm ns : Nat) (pl : Int32) (hns : σ 18 0 = nI ns) (hns4 : ns ≤ 40) (hnm : σ 17 0 = nI nm) (hnm2 : nm ≤ 200) : Met l yX3_worthOf [.code yX3_worthOf cX3_worthOf 4 (some .int)] ({ frames := 5, cells := 0, slots := 0, locals := 134 }) (va_Pc [.ref (ad 0), .int pl] (fun U => PX G ad σ U U.heap)) (vp_Si (fun r => r = woF σ nm ns pl 5)) 0 0 NF := by
  refine k_of (by decide) (Nat.le_of_ble_eq_true rfl) (fun U h => h.2.2) ?_
  intro p e s m below meth c ls S hr hlocks hmn hB hl
  have hx := S.1
  have hb := S.2.1
  have hX : PX G ad σ s s.heap := hB
  have hl : lv_has ls 4 [(0, .ref (ad 0)), (1, .int pl)] := hl
  have L4 : ∀ (n i : Nat), i ≤ 5 → 5 + 1 ≤ i + n → ∀ ls, lv_has ls 4 [(0, .ref (ad 0)), (1, .int pl), (2, .int (woF σ nm ns pl i)), (3, .int (nI i))] → W p l e ({ frames := 5, cells := 0, slots := 0, locals := 134 } : Room) s m [.ref (ad 0), .int pl].toArray below meth c s.heap [] 0 0 (MQ below (vp_Si (fun r => r = woF σ nm ns pl 5)) [.ref (ad 0), .int pl].toArray s 0 0 NF) (F0 m 4 ls []) := by
    intro n
    induction n with
    | zero =>
      intro i h1 h2
      omega
    | succ n ih =>
      intro i hi hin ls hl
      refine lv_iload_n hx hb dX3_worthOf_4 rfl (lv_at hl 3 rfl) ?_
      refine lv_iconst (v := 5) hx hb dX3_worthOf_5 (by decide) ?_
      refine lv_icmp_ge (tgt := 39) hx hb dX3_worthOf_6 (by decide) (fun c6_1 => ?_) (fun c6_1 => ?_)
      · have bc6_1 := le_nlt c6_1
        have hge : i = 5 := by
          have h9 := c6_1
          rw [show (5 : Int32) = nI 5 from rfl, nI_leI (by omega) (by omega)] at h9
          omega
        refine lv_iload_n hx hb dX3_worthOf_39 rfl (lv_at hl 2 rfl) ?_
        exact W.iret (v := woF σ nm ns pl i) hx hb hr (fun t ht hW => ⟨_, rfl, (by rw [hge]), ht⟩) (fun q h => by cases h) dX3_worthOf_40
      · have bc6_1 := nle_lt c6_1
        have hlt : i < 5 := by
          have h9 := nle_lt c6_1
          rw [show (5 : Int32) = nI 5 from rfl, nI_ltI (by omega) (by omega)] at h9
          exact h9
        refine lv_iload_n hx hb dX3_worthOf_9 rfl (lv_at hl 2 rfl) ?_
        refine lv_aload_n hx hb dX3_worthOf_10 rfl (lv_at hl 0 rfl) ?_
        refine k_get S hX.2 hX.1 0 (C := RX3) (T := TX3) (N := 6) rfl rfl 0 (by decide) inX3 m_144 rfl dX3_worthOf_11 ?_
        refine lv_iload_n hx hb dX3_worthOf_14 rfl (lv_at hl 3 rfl) ?_
        refine k_ild S hX.2 hX.1 1 (i := i) rfl (by omega) (by decide) dX3_worthOf_15 ?_
        refine lv_iconst (v := 0) hx hb dX3_worthOf_16 (by decide) ?_
        refine lv_aload_n hx hb dX3_worthOf_17 rfl (lv_at hl 0 rfl) ?_
        refine lv_iload_n hx hb dX3_worthOf_18 rfl (lv_at hl 1 rfl) ?_
        refine lv_iload_n hx hb dX3_worthOf_19 rfl (lv_at hl 3 rfl) ?_
        refine lv_aload_n hx hb dX3_worthOf_20 rfl (lv_at hl 0 rfl) ?_
        refine k_get S hX.2 hX.1 0 (C := RX3) (T := TX3) (N := 6) rfl rfl 5 (by decide) inX3 m_149 rfl dX3_worthOf_21 ?_
        refine q_i (r_V S ⟨m_192, m_194, m_4, m_35, m_195⟩ ⟨rfl, by decide, by decide, by decide +kernel⟩ (c_bookOf l G ad σ nm ns pl i (σ 16 0) hns hns4 hnm hnm2 (by omega)) ⟨rfl, rfl, Nat.le_of_ble_eq_true rfl, Nat.le_of_ble_eq_true rfl⟩ (pv_X hX 0 rfl rfl bl_PX (bX hX)) (n := 3) (As := [.int pl, .int (nI i), .int (σ 16 0)]) (rest := [.int 0, .int (σ 0 i), .int (woF σ nm ns pl i)]) rfl hl.1 rfl (Nat.le_of_ble_eq_true rfl) ⟨Nat.le_of_ble_eq_true rfl, Nat.le_of_ble_eq_true rfl⟩ dX3_worthOf_24) (fun r2 (e2 : r2 = boV σ nm ns pl i (σ 16 0)) => ?_)
        subst e2
        refine va_mmax hx hb (S.2.2.1.trans hl.1.symm) S.2.2.2.1 (S.2.2.2.2 _ m_215) (S.2.2.2.2 _ m_216) (S.2.2.2.2 _ m_48) (S.2.2.2.2 _ m_217) (Nat.le_of_ble_eq_true rfl) (Nat.le_of_ble_eq_true rfl) (Nat.le_of_ble_eq_true rfl) (Nat.le_of_ble_eq_true rfl) dX3_worthOf_27 ?_
        refine lv_imul hx hb dX3_worthOf_30 ?_
        refine lv_iadd hx hb dX3_worthOf_31 ?_
        refine lv_istore_n (lv' := [(2, .int ((woF σ nm ns pl i) + ((σ 0 i) * (if 0 < boV σ nm ns pl i (σ 16 0) then boV σ nm ns pl i (σ 16 0) else 0)))), (0, .ref (ad 0)), (1, .int pl), (3, .int (nI i))]) hx hb dX3_worthOf_32 rfl hl (by decide) rfl (fun ls hl => ?_)
        refine lv_iinc (v := nI (i + 1)) (lv' := [(3, .int (nI (i + 1))), (2, .int ((woF σ nm ns pl i) + ((σ 0 i) * (if 0 < boV σ nm ns pl i (σ 16 0) then boV σ nm ns pl i (σ 16 0) else 0)))), (0, .ref (ad 0)), (1, .int pl)]) hx hb dX3_worthOf_33 hl (k := 3) rfl (nI_1 i) (by decide) rfl (fun ls hl => ?_)
        refine lv_goto (tgt := 4) hx hb dX3_worthOf_36 (by decide) ?_
        have ev3 : (woF σ nm ns pl i) + ((σ 0 i) * (if 0 < boV σ nm ns pl i (σ 16 0) then boV σ nm ns pl i (σ 16 0) else 0)) = woF σ nm ns pl (i + 1) := by simp [woF, c6_1, bc6_1]
        rw [ev3] at hl
        exact ih (i + 1) hlt (by omega) ls (lv_sub hl [2, 3, 1, 0] rfl)
  refine lv_iconst (v := 0) hx hb dX3_worthOf_0 (by decide) ?_
  refine lv_istore_n (lv' := [(2, .int 0), (0, .ref (ad 0)), (1, .int pl)]) hx hb dX3_worthOf_1 rfl hl (by decide) rfl (fun ls hl => ?_)
  refine lv_iconst (v := 0) hx hb dX3_worthOf_2 (by decide) ?_
  refine lv_istore_n (lv' := [(3, .int 0), (2, .int 0), (0, .ref (ad 0)), (1, .int pl)]) hx hb dX3_worthOf_3 rfl hl (by decide) rfl (fun ls hl => ?_)
  exact L4 6 0 (Nat.zero_le _) (by omega) ls (lv_sub hl [2, 3, 1, 0] rfl)

set_option maxHeartbeats 4000000 in
set_option maxRecDepth 100000 in
theorem c_urgencyOf (l : Launch) (G : kG) (ad : Nat → Nat) (σ : kS) (nm ns : Nat) (pl : Int32) (hns : σ 18 0 = nI ns) (hns4 : ns ≤ 40) (hnm : σ 17 0 = nI nm) (hnm2 : nm ≤ 200) : Met l yX3_urgencyOf [.code yX3_urgencyOf cX3_urgencyOf 5 (some .long)] ({ frames := 6, cells := 0, slots := 0, locals := 157 }) (va_Pc [.ref (ad 0), .int pl] (fun U => PX G ad σ U U.heap)) (vp_Sl (fun r => r = urV σ nm ns pl)) 0 0 NF := by
  refine k_of (by decide) (Nat.le_of_ble_eq_true rfl) (fun U h => h.2.2) ?_
  intro p e s m below meth c ls S hr hlocks hmn hB hl
  have hx := S.1
  have hb := S.2.1
  have hX : PX G ad σ s s.heap := hB
  have hl : lv_has ls 5 [(0, .ref (ad 0)), (1, .int pl)] := hl
  refine lv_aload_n hx hb dX3_urgencyOf_0 rfl (lv_at hl 0 rfl) ?_
  refine k_get S hX.2 hX.1 0 (C := RX3) (T := TX3) (N := 6) rfl rfl 3 (by decide) inX3 m_147 rfl dX3_urgencyOf_1 ?_
  refine lv_iload_n hx hb dX3_urgencyOf_4 rfl (lv_at hl 1 rfl) ?_
  refine q_i (r_VN S hX.2.2 ⟨n_187, m_181, m_1, m_37, m_182⟩ ⟨rfl, by decide, by decide, by decide +kernel⟩ (c_latestFor l G ad σ ns pl hns hns4) ⟨rfl, rfl, Nat.le_of_ble_eq_true rfl, Nat.le_of_ble_eq_true rfl⟩ (pv_X hX 4 rfl rfl bl_PX (bX hX)) (n := 1) (As := [.int pl]) (rest := []) rfl hl.1 rfl (Nat.le_of_ble_eq_true rfl) ⟨Nat.le_of_ble_eq_true rfl, Nat.le_of_ble_eq_true rfl⟩ dX3_urgencyOf_5) (fun r1 (e1 : r1 = oI (latO σ pl ns)) => ?_)
  subst e1
  rcases hla : latO σ pl ns with _ | k
  · show W _ _ _ _ _ _ _ _ _ _ _ _ _ _ _ (F0 m 8 ls [.int (-1)])
    refine lv_istore_n (lv' := [(2, .int (-1)), (0, .ref (ad 0)), (1, .int pl)]) hx hb dX3_urgencyOf_8 rfl hl (by decide) rfl (fun ls hl => ?_)
    refine lv_iload_n hx hb dX3_urgencyOf_9 rfl (lv_at hl 0 rfl) ?_
    refine lv_iconst (v := (-1)) hx hb dX3_urgencyOf_10 (by decide) ?_
    refine lv_icmp_ne (tgt := 24) hx hb dX3_urgencyOf_11 (by decide) (fun c11_2 => ?_) (fun c11_2 => ?_)
    · have bc11_2 := c11_2
      exact absurd rfl c11_2
    · have bc11_2 := c11_2
      refine lv_aload_n hx hb dX3_urgencyOf_14 rfl (lv_at hl 1 rfl) ?_
      refine k_get S hX.2 hX.1 0 (C := RX3) (T := TX3) (N := 6) rfl rfl 5 (by decide) inX3 m_149 rfl dX3_urgencyOf_15 ?_
      refine lv_i2l (v := ((σ 16 0)).toInt64) hx hb dX3_urgencyOf_18 rfl ?_
      refine lv_lconst (v := 1) hx hb dX3_urgencyOf_19 (by decide) ?_
      refine lv_ladd hx hb dX3_urgencyOf_20 ?_
      refine lv_goto (tgt := 39) hx hb dX3_urgencyOf_21 (by decide) ?_
      refine lv_lstore_n (lv' := [(3, .long ((((σ 16 0)).toInt64) + 1)), (2, .int (-1)), (0, .ref (ad 0)), (1, .int pl)]) hx hb dX3_urgencyOf_39 rfl hl (by decide) rfl (fun ls hl => ?_)
      refine lv_aload_n hx hb dX3_urgencyOf_40 rfl (lv_at hl 2 rfl) ?_
      refine lv_iload_n hx hb dX3_urgencyOf_41 rfl (lv_at hl 3 rfl) ?_
      refine q_i (r_V S ⟨m_188, m_190, m_3, m_35, m_191⟩ ⟨rfl, by decide, by decide, by decide +kernel⟩ (c_worthOf l G ad σ nm ns pl hns hns4 hnm hnm2) ⟨rfl, rfl, Nat.le_of_ble_eq_true rfl, Nat.le_of_ble_eq_true rfl⟩ (pv_X hX 0 rfl rfl bl_PX (bX hX)) (n := 1) (As := [.int pl]) (rest := []) rfl hl.1 rfl (Nat.le_of_ble_eq_true rfl) ⟨Nat.le_of_ble_eq_true rfl, Nat.le_of_ble_eq_true rfl⟩ dX3_urgencyOf_42) (fun r3 (e3 : r3 = woF σ nm ns pl 5) => ?_)
      subst e3
      refine lv_i2l (v := ((woF σ nm ns pl 5)).toInt64) hx hb dX3_urgencyOf_45 rfl ?_
      refine lv_lconst (v := 1) hx hb dX3_urgencyOf_46 (by decide) ?_
      refine lv_ladd hx hb dX3_urgencyOf_47 ?_
      refine lv_lload_n hx hb dX3_urgencyOf_48 rfl (lv_at hl 0 rfl) ?_
      refine lv_lmul hx hb dX3_urgencyOf_49 ?_
      exact W.lret (v := ((((woF σ nm ns pl 5)).toInt64) + 1) * ((((σ 16 0)).toInt64) + 1)) hx hb hr (fun t ht hW => ⟨_, rfl, (by simp [urV, hla, c11_2]), ht⟩) (fun q h => by cases h) dX3_urgencyOf_50
  · show W _ _ _ _ _ _ _ _ _ _ _ _ _ _ _ (F0 m 8 ls [.int (nI k)])
    have hkn := (latO_lt hla).1
    refine lv_istore_n (lv' := [(2, .int (nI k)), (0, .ref (ad 0)), (1, .int pl)]) hx hb dX3_urgencyOf_8 rfl hl (by decide) rfl (fun ls hl => ?_)
    refine lv_iload_n hx hb dX3_urgencyOf_9 rfl (lv_at hl 0 rfl) ?_
    refine lv_iconst (v := (-1)) hx hb dX3_urgencyOf_10 (by decide) ?_
    refine lv_icmp_ne (tgt := 24) hx hb dX3_urgencyOf_11 (by decide) (fun c11_4 => ?_) (fun c11_4 => ?_)
    · have bc11_4 := c11_4
      refine lv_aload_n hx hb dX3_urgencyOf_24 rfl (lv_at hl 1 rfl) ?_
      refine k_get S hX.2 hX.1 0 (C := RX3) (T := TX3) (N := 6) rfl rfl 5 (by decide) inX3 m_149 rfl dX3_urgencyOf_25 ?_
      refine lv_aload_n hx hb dX3_urgencyOf_28 rfl (lv_at hl 1 rfl) ?_
      refine k_get S hX.2 hX.1 0 (C := RX3) (T := TX3) (N := 6) rfl rfl 3 (by decide) inX3 m_147 rfl dX3_urgencyOf_29 ?_
      refine k_getN S hX.2 hX.1 4 (C := RX2) (T := TX2) (N := 4) rfl rfl 1 (by decide) inX2 n_94 rfl dX3_urgencyOf_32 ?_
      refine lv_iload_n hx hb dX3_urgencyOf_35 rfl (lv_at hl 0 rfl) ?_
      refine k_ild S hX.2 hX.1 12 (i := k) rfl (by omega) (by decide) dX3_urgencyOf_36 ?_
      refine lv_isub hx hb dX3_urgencyOf_37 ?_
      refine lv_i2l (v := (((σ 16 0) - (σ 8 k))).toInt64) hx hb dX3_urgencyOf_38 rfl ?_
      refine lv_lstore_n (lv' := [(3, .long ((((σ 16 0) - (σ 8 k))).toInt64)), (2, .int (nI k)), (0, .ref (ad 0)), (1, .int pl)]) hx hb dX3_urgencyOf_39 rfl hl (by decide) rfl (fun ls hl => ?_)
      refine lv_aload_n hx hb dX3_urgencyOf_40 rfl (lv_at hl 2 rfl) ?_
      refine lv_iload_n hx hb dX3_urgencyOf_41 rfl (lv_at hl 3 rfl) ?_
      refine q_i (r_V S ⟨m_188, m_190, m_3, m_35, m_191⟩ ⟨rfl, by decide, by decide, by decide +kernel⟩ (c_worthOf l G ad σ nm ns pl hns hns4 hnm hnm2) ⟨rfl, rfl, Nat.le_of_ble_eq_true rfl, Nat.le_of_ble_eq_true rfl⟩ (pv_X hX 0 rfl rfl bl_PX (bX hX)) (n := 1) (As := [.int pl]) (rest := []) rfl hl.1 rfl (Nat.le_of_ble_eq_true rfl) ⟨Nat.le_of_ble_eq_true rfl, Nat.le_of_ble_eq_true rfl⟩ dX3_urgencyOf_42) (fun r5 (e5 : r5 = woF σ nm ns pl 5) => ?_)
      subst e5
      refine lv_i2l (v := ((woF σ nm ns pl 5)).toInt64) hx hb dX3_urgencyOf_45 rfl ?_
      refine lv_lconst (v := 1) hx hb dX3_urgencyOf_46 (by decide) ?_
      refine lv_ladd hx hb dX3_urgencyOf_47 ?_
      refine lv_lload_n hx hb dX3_urgencyOf_48 rfl (lv_at hl 0 rfl) ?_
      refine lv_lmul hx hb dX3_urgencyOf_49 ?_
      exact W.lret (v := ((((woF σ nm ns pl 5)).toInt64) + 1) * ((((σ 16 0) - (σ 8 k))).toInt64)) hx hb hr (fun t ht hW => ⟨_, rfl, (by simp [urV, hla, c11_4]), ht⟩) (fun q h => by cases h) dX3_urgencyOf_50
    · have bc11_4 := c11_4
      exact absurd c11_4 (nI_m1 (by omega))
end
section
/-! THE CLASS's WRITERS: the rows behind them -/
def wrS (σ : kS) (k : Nat) (g : Int32) : kS := su (su (su σ 19 0 (σ 19 0 + 1)) 14 k (σ 19 0 + 1)) 15 k g
def adS (σ : kS) (k : Nat) (pe q9 : Int32) : kS := if bc (σ 10 k) = 0 then su (su σ 11 k q9) 10 k (σ 10 k ||| 1 <<< (pe &&& 31)) else if bc (σ 10 k) = 1 then (if σ 11 k = q9 then su (su (su σ 12 k q9) 13 k q9) 10 k (σ 10 k ||| 1 <<< (pe &&& 31)) else su (su (su σ 12 k q9) 13 k (-1)) 10 k (σ 10 k ||| 1 <<< (pe &&& 31))) else su (su σ 13 k (midV (σ 11 k) (σ 12 k) q9)) 10 k (σ 10 k ||| 1 <<< (pe &&& 31))
def mvS (σ : kS) (nm : Nat) (f9 t9 a9 q9 i9 : Int32) : kS := su (su (su (su (su (su σ 2 nm f9) 3 nm t9) 4 nm a9) 5 nm q9) 6 nm i9) 17 0 (σ 17 0 + 1)
def shS (σ : kS) (ns : Nat) (pl i9 : Int32) : kS := su (su (su σ 7 ns pl) 8 ns i9) 18 0 (σ 18 0 + 1)
set_option maxHeartbeats 4000000 in
set_option maxRecDepth 100000 in
theorem c_checkIndex (l : Launch) (i n : Int32) (hst : l.stackTraces = false) : vx_Met l yX3_checkIndex [.code yX3_checkIndex cX3_checkIndex 2 none] ({ frames := 6, cells := 1, slots := 6, locals := 92 }) (va_Pc [.int i, .int n] (fun U => GL U ∧ ZS U U.heap)) (rV (ckI i n = true)) (tX (fun x => x = exN 1 ∧ ckI i n = false)) 1 6 NF := by
  refine kx_of (by decide) (Nat.le_of_ble_eq_true rfl) (fun U h => h.1) ?_
  intro p e s m below meth c ls S hr hlocks ht hB hl
  have hx := S.1
  have hb := S.2.1
  have hG : GL s := hB.1
  have hZ : ZS s s.heap := hB.2
  have hl : lv_has ls 2 [(0, .int i), (1, .int n)] := hl
  refine lv_iload_n hx hb dX3_checkIndex_0 rfl (lv_at hl 0 rfl) ?_
  refine lv_if_lt (tgt := 9) hx hb dX3_checkIndex_1 (by decide) (fun c1_1 => ?_) (fun c1_1 => ?_)
  · have bc1_1 := lt_nle c1_1
    exact k_thr S hG hZ hst at_IO m_234 m_44 (by decide +kernel) n_276 hl.1 ht hlocks ⟨Nat.le_of_ble_eq_true rfl, Nat.le_of_ble_eq_true rfl⟩ ⟨Nat.le_of_ble_eq_true rfl, Nat.le_of_ble_eq_true rfl⟩ ⟨Nat.le_of_ble_eq_true rfl, Nat.le_of_ble_eq_true rfl⟩ (Nat.le_of_ble_eq_true rfl) (by simp [ckI, c1_1, bc1_1, exN]) dX3_checkIndex_9 dX3_checkIndex_12 dX3_checkIndex_13 dX3_checkIndex_15 dX3_checkIndex_18
  · have bc1_1 := nlt_le c1_1
    refine lv_iload_n hx hb dX3_checkIndex_4 rfl (lv_at hl 0 rfl) ?_
    refine lv_iload_n hx hb dX3_checkIndex_5 rfl (lv_at hl 1 rfl) ?_
    refine lv_icmp_lt (tgt := 19) hx hb dX3_checkIndex_6 (by decide) (fun c6_2 => ?_) (fun c6_2 => ?_)
    · have bc6_2 := lt_nle c6_2
      refine W.widen (k := 1) (n := 6) (Nat.le_of_ble_eq_true rfl) (Nat.le_of_ble_eq_true rfl) ?_
      refine vx_ret ?_
      exact W.vret hx hb hr (fun t ht hW => ⟨rfl, (by simp [ckI, c1_1, bc1_1, c6_2, bc6_2]), ht⟩) (fun q h => by cases h) dX3_checkIndex_19
    · have bc6_2 := nlt_le c6_2
      exact k_thr S hG hZ hst at_IO m_234 m_44 (by decide +kernel) n_276 hl.1 ht hlocks ⟨Nat.le_of_ble_eq_true rfl, Nat.le_of_ble_eq_true rfl⟩ ⟨Nat.le_of_ble_eq_true rfl, Nat.le_of_ble_eq_true rfl⟩ ⟨Nat.le_of_ble_eq_true rfl, Nat.le_of_ble_eq_true rfl⟩ (Nat.le_of_ble_eq_true rfl) (by simp [ckI, c1_1, bc1_1, c6_2, bc6_2, exN]) dX3_checkIndex_9 dX3_checkIndex_12 dX3_checkIndex_13 dX3_checkIndex_15 dX3_checkIndex_18

set_option maxHeartbeats 4000000 in
set_option maxRecDepth 100000 in
theorem c_checkRange (l : Launch) (v a b : Int32) (hst : l.stackTraces = false) : vx_Met l yX3_checkRange [.code yX3_checkRange cX3_checkRange 3 none] ({ frames := 6, cells := 1, slots := 6, locals := 92 }) (va_Pc [.int v, .int a, .int b] (fun U => GL U ∧ ZS U U.heap)) (rV (ckR v a b = true)) (tX (fun x => x = exN 2 ∧ ckR v a b = false)) 1 6 NF := by
  refine kx_of (by decide) (Nat.le_of_ble_eq_true rfl) (fun U h => h.1) ?_
  intro p e s m below meth c ls S hr hlocks ht hB hl
  have hx := S.1
  have hb := S.2.1
  have hG : GL s := hB.1
  have hZ : ZS s s.heap := hB.2
  have hl : lv_has ls 3 [(0, .int v), (1, .int a), (2, .int b)] := hl
  refine lv_iload_n hx hb dX3_checkRange_0 rfl (lv_at hl 0 rfl) ?_
  refine lv_iload_n hx hb dX3_checkRange_1 rfl (lv_at hl 1 rfl) ?_
  refine lv_icmp_lt (tgt := 10) hx hb dX3_checkRange_2 (by decide) (fun c2_1 => ?_) (fun c2_1 => ?_)
  · have bc2_1 := lt_nle c2_1
    exact k_thr S hG hZ hst at_IA m_306 m_45 (by decide +kernel) n_315 hl.1 ht hlocks ⟨Nat.le_of_ble_eq_true rfl, Nat.le_of_ble_eq_true rfl⟩ ⟨Nat.le_of_ble_eq_true rfl, Nat.le_of_ble_eq_true rfl⟩ ⟨Nat.le_of_ble_eq_true rfl, Nat.le_of_ble_eq_true rfl⟩ (Nat.le_of_ble_eq_true rfl) (by simp [ckR, c2_1, bc2_1, exN]) dX3_checkRange_10 dX3_checkRange_13 dX3_checkRange_14 dX3_checkRange_16 dX3_checkRange_19
  · have bc2_1 := nlt_le c2_1
    refine lv_iload_n hx hb dX3_checkRange_5 rfl (lv_at hl 0 rfl) ?_
    refine lv_iload_n hx hb dX3_checkRange_6 rfl (lv_at hl 2 rfl) ?_
    refine lv_icmp_le (tgt := 20) hx hb dX3_checkRange_7 (by decide) (fun c7_2 => ?_) (fun c7_2 => ?_)
    · have bc7_2 := le_nlt c7_2
      refine W.widen (k := 1) (n := 6) (Nat.le_of_ble_eq_true rfl) (Nat.le_of_ble_eq_true rfl) ?_
      refine vx_ret ?_
      exact W.vret hx hb hr (fun t ht hW => ⟨rfl, (by simp [ckR, c2_1, bc2_1, c7_2, bc7_2]), ht⟩) (fun q h => by cases h) dX3_checkRange_20
    · have bc7_2 := nle_lt c7_2
      exact k_thr S hG hZ hst at_IA m_306 m_45 (by decide +kernel) n_315 hl.1 ht hlocks ⟨Nat.le_of_ble_eq_true rfl, Nat.le_of_ble_eq_true rfl⟩ ⟨Nat.le_of_ble_eq_true rfl, Nat.le_of_ble_eq_true rfl⟩ ⟨Nat.le_of_ble_eq_true rfl, Nat.le_of_ble_eq_true rfl⟩ (Nat.le_of_ble_eq_true rfl) (by simp [ckR, c2_1, bc2_1, c7_2, bc7_2, exN]) dX3_checkRange_10 dX3_checkRange_13 dX3_checkRange_14 dX3_checkRange_16 dX3_checkRange_19

set_option maxHeartbeats 4000000 in
set_option maxRecDepth 100000 in
theorem c_checkPlace (l : Launch) (i : Int32) (hst : l.stackTraces = false) : vx_Met l yX3_checkPlaceOrOutside [.code yX3_checkPlaceOrOutside cX3_checkPlaceOrOutside 1 none] ({ frames := 7, cells := 1, slots := 6, locals := 113 }) (va_Pc [.int i] (fun U => GL U ∧ ZS U U.heap)) (rV (ckP i = true)) (tX (fun x => x = exN 1 ∧ ckP i = false)) 1 6 NF := by
  refine kx_of (by decide) (Nat.le_of_ble_eq_true rfl) (fun U h => h.1) ?_
  intro p e s m below meth c ls S hr hlocks ht hB hl
  have hx := S.1
  have hb := S.2.1
  have hG : GL s := hB.1
  have hZ : ZS s s.heap := hB.2
  have hl : lv_has ls 1 [(0, .int i)] := hl
  refine lv_iload_n hx hb dX3_checkPlaceOrOutside_0 rfl (lv_at hl 0 rfl) ?_
  refine lv_iconst (v := (-1)) hx hb dX3_checkPlaceOrOutside_1 (by decide) ?_
  refine lv_icmp_eq (tgt := 11) hx hb dX3_checkPlaceOrOutside_2 (by decide) (fun c2_1 => ?_) (fun c2_1 => ?_)
  · have bc2_1 := c2_1
    refine W.widen (k := 1) (n := 6) (Nat.le_of_ble_eq_true rfl) (Nat.le_of_ble_eq_true rfl) ?_
    refine vx_ret ?_
    exact W.vret hx hb hr (fun t ht hW => ⟨rfl, (by simp [ckP, c2_1]), ht⟩) (fun q h => by cases h) dX3_checkPlaceOrOutside_11
  · have bc2_1 := c2_1
    refine lv_iload_n hx hb dX3_checkPlaceOrOutside_5 rfl (lv_at hl 0 rfl) ?_
    refine lv_bipush (v := 12) hx hb dX3_checkPlaceOrOutside_6 (by decide) ?_
    refine q_xv (rx_S S ⟨m_231, m_232, m_35, m_233⟩ ⟨rfl, by decide, by decide, by decide +kernel⟩ (c_checkIndex l i 12 hst) ⟨rfl, rfl, Nat.le_of_ble_eq_true rfl, Nat.le_of_ble_eq_true rfl⟩ (ps bl_GZ (bGZ hG hZ)) (n := 2) (As := [.int i, .int 12]) (rest := []) rfl hl.1 rfl (Nat.le_of_ble_eq_true rfl) ⟨Nat.le_of_ble_eq_true rfl, Nat.le_of_ble_eq_true rfl⟩ dX3_checkPlaceOrOutside_8) ht hlocks (by rintro x ⟨rfl, hf2⟩; simp [ckP, hf2, c2_1]) (Nat.le_of_ble_eq_true rfl) (Nat.le_of_ble_eq_true rfl) (fun (p2 : ckI i 12 = true) => ?_)
    refine vx_ret ?_
    exact W.vret hx hb hr (fun t ht hW => ⟨rfl, (by simp [ckP, c2_1, p2]), ht⟩) (fun q h => by cases h) dX3_checkPlaceOrOutside_11

set_option maxHeartbeats 4000000 in
set_option maxRecDepth 100000 in
theorem c_checkLine (l : Launch) (G : kG) (ad : Nat → Nat) (σ : kS) (sh ar : Int32) (hst : l.stackTraces = false) : vx_Met l yX3_checkLine [.code yX3_checkLine cX3_checkLine 3 none] ({ frames := 7, cells := 2, slots := 12, locals := 113 }) (va_Pc [.ref (ad 0), .int sh, .int ar] (fun U => PX G ad σ U U.heap ∧ ZS U U.heap)) (rV ((ckI sh (σ 18 0) && ckI ar 5) = true)) (tX (fun x => x = exN 1 ∧ (ckI sh (σ 18 0) && ckI ar 5) = false)) 2 12 NF := by
  refine kx_of (by decide) (Nat.le_of_ble_eq_true rfl) (fun U h => h.1.2.2) ?_
  intro p e s m below meth c ls S hr hlocks ht hB hl
  have hx := S.1
  have hb := S.2.1
  have hX : PX G ad σ s s.heap := hB.1
  have hG : GL s := hX.2.2
  have hZ : ZS s s.heap := hB.2
  have hl : lv_has ls 3 [(0, .ref (ad 0)), (1, .int sh), (2, .int ar)] := hl
  refine lv_iload_n hx hb dX3_checkLine_0 rfl (lv_at hl 1 rfl) ?_
  refine lv_aload_n hx hb dX3_checkLine_1 rfl (lv_at hl 0 rfl) ?_
  refine k_get S hX.2 hX.1 0 (C := RX3) (T := TX3) (N := 6) rfl rfl 3 (by decide) inX3 m_147 rfl dX3_checkLine_2 ?_
  refine k_getN S hX.2 hX.1 4 (C := RX2) (T := TX2) (N := 4) rfl rfl 3 (by decide) inX2 n_98 rfl dX3_checkLine_5 ?_
  refine q_xv (rx_S S ⟨m_231, m_232, m_35, m_233⟩ ⟨rfl, by decide, by decide, by decide +kernel⟩ (c_checkIndex l sh (σ 18 0) hst) ⟨rfl, rfl, Nat.le_of_ble_eq_true rfl, Nat.le_of_ble_eq_true rfl⟩ (ps bl_GZ (bGZ hX.2.2 hZ)) (n := 2) (As := [.int sh, .int (σ 18 0)]) (rest := []) rfl hl.1 rfl (Nat.le_of_ble_eq_true rfl) ⟨Nat.le_of_ble_eq_true rfl, Nat.le_of_ble_eq_true rfl⟩ dX3_checkLine_8) ht hlocks (by rintro x ⟨rfl, hf1⟩; simp [exN, hf1, exN]) (Nat.le_of_ble_eq_true rfl) (Nat.le_of_ble_eq_true rfl) (fun (p1 : ckI sh (σ 18 0) = true) => ?_)
  refine lv_iload_n hx hb dX3_checkLine_11 rfl (lv_at hl 2 rfl) ?_
  refine lv_iconst (v := 5) hx hb dX3_checkLine_12 (by decide) ?_
  refine q_xv (rx_S S ⟨m_231, m_232, m_35, m_233⟩ ⟨rfl, by decide, by decide, by decide +kernel⟩ (c_checkIndex l ar 5 hst) ⟨rfl, rfl, Nat.le_of_ble_eq_true rfl, Nat.le_of_ble_eq_true rfl⟩ (ps bl_GZ (bGZ hX.2.2 hZ)) (n := 2) (As := [.int ar, .int 5]) (rest := []) rfl hl.1 rfl (Nat.le_of_ble_eq_true rfl) ⟨Nat.le_of_ble_eq_true rfl, Nat.le_of_ble_eq_true rfl⟩ dX3_checkLine_13) ht hlocks (by rintro x ⟨rfl, hf2⟩; simp [exN, p1, hf2, exN]) (Nat.le_of_ble_eq_true rfl) (Nat.le_of_ble_eq_true rfl) (fun (p2 : ckI ar 5 = true) => ?_)
  refine vx_ret ?_
  exact W.vret hx hb hr (fun t ht hW => ⟨rfl, (by simp [exN, p1, p2]), ht⟩) (fun q h => by cases h) dX3_checkLine_16

set_option maxHeartbeats 4000000 in
set_option maxRecDepth 100000 in
theorem c_checkAgrees (l : Launch) (G : kG) (ad : Nat → Nat) (σ : kS) (sh ar : Nat) (hst : l.stackTraces = false) (hsh : sh < 40) (har : ar < 5) : vx_Met l yX3_checkAgrees [.code yX3_checkAgrees cX3_checkAgrees 3 none] ({ frames := 6, cells := 1, slots := 6, locals := 92 }) (va_Pc [.ref (ad 0), .int (nI sh), .int (nI ar)] (fun U => PX G ad σ U U.heap ∧ ZS U U.heap)) (rV (agB σ (sh * 5 + ar) = true)) (tX (fun x => x = exN 4 ∧ agB σ (sh * 5 + ar) = false)) 1 6 NF := by
  refine kx_of (by decide) (Nat.le_of_ble_eq_true rfl) (fun U h => h.1.2.2) ?_
  intro p e s m below meth c ls S hr hlocks ht hB hl
  have hx := S.1
  have hb := S.2.1
  have hX : PX G ad σ s s.heap := hB.1
  have hG : GL s := hX.2.2
  have hZ : ZS s s.heap := hB.2
  have hl : lv_has ls 3 [(0, .ref (ad 0)), (1, .int (nI sh)), (2, .int (nI ar))] := hl
  refine lv_aload_n hx hb dX3_checkAgrees_0 rfl (lv_at hl 0 rfl) ?_
  refine k_get S hX.2 hX.1 0 (C := RX3) (T := TX3) (N := 6) rfl rfl 4 (by decide) inX3 m_148 rfl dX3_checkAgrees_1 ?_
  refine lv_iload_n hx hb dX3_checkAgrees_4 rfl (lv_at hl 1 rfl) ?_
  refine lv_iload_n hx hb dX3_checkAgrees_5 rfl (lv_at hl 2 rfl) ?_
  refine q_i (r_S S ⟨m_200, m_201, m_35, m_202⟩ ⟨rfl, by decide, by decide, by decide +kernel⟩ (c_lineOf l sh ar) ⟨rfl, rfl, Nat.le_of_ble_eq_true rfl, Nat.le_of_ble_eq_true rfl⟩ (ps bl_GL (bG hX.2.2)) (n := 2) (As := [.int (nI sh), .int (nI ar)]) (rest := [.ref (ad 5)]) rfl hl.1 rfl (Nat.le_of_ble_eq_true rfl) ⟨Nat.le_of_ble_eq_true rfl, Nat.le_of_ble_eq_true rfl⟩ dX3_checkAgrees_6) (fun r1 (e1 : r1 = nI (sh * 5 + ar)) => ?_)
  subst e1
  refine q_i (r_VN S hX.2.2 ⟨n_391, m_393, m_12, m_38, m_394⟩ ⟨rfl, by decide, by decide, by decide +kernel⟩ (c_agrees l G ad σ (sh * 5 + ar) (by omega)) ⟨rfl, rfl, Nat.le_of_ble_eq_true rfl, Nat.le_of_ble_eq_true rfl⟩ (pv_X hX 5 rfl rfl bl_PX (bX hX)) (n := 1) (As := [.int (nI (sh * 5 + ar))]) (rest := []) rfl hl.1 rfl (Nat.le_of_ble_eq_true rfl) ⟨Nat.le_of_ble_eq_true rfl, Nat.le_of_ble_eq_true rfl⟩ dX3_checkAgrees_9) (fun r2 (e2 : r2 = bI (agB σ (sh * 5 + ar))) => ?_)
  subst e2
  refine lv_if_ne (tgt := 25) hx hb dX3_checkAgrees_12 (by decide) (fun c12_3 => ?_) (fun c12_3 => ?_)
  · have bc12_3 := bI_n c12_3
    refine W.widen (k := 1) (n := 6) (Nat.le_of_ble_eq_true rfl) (Nat.le_of_ble_eq_true rfl) ?_
    refine vx_ret ?_
    exact W.vret hx hb hr (fun t ht hW => ⟨rfl, bc12_3, ht⟩) (fun q h => by cases h) dX3_checkAgrees_25
  · have bc12_3 := bI_0 c12_3
    exact k_thrN S hG hZ hst at_NS m_443 m_49 (by decide +kernel) n_452 hl.1 ht hlocks ⟨Nat.le_of_ble_eq_true rfl, Nat.le_of_ble_eq_true rfl⟩ ⟨Nat.le_of_ble_eq_true rfl, Nat.le_of_ble_eq_true rfl⟩ ⟨Nat.le_of_ble_eq_true rfl, Nat.le_of_ble_eq_true rfl⟩ (Nat.le_of_ble_eq_true rfl) ⟨rfl, bc12_3⟩ dX3_checkAgrees_15 dX3_checkAgrees_18 dX3_checkAgrees_19 dX3_checkAgrees_21 dX3_checkAgrees_24

set_option maxHeartbeats 4000000 in
set_option maxRecDepth 100000 in
theorem c_write (l : Launch) (G : kG) (ad : Nat → Nat) (σ : kS) (k : Nat) (g : Int32) (hk : k < 200) (A : Nat → Prop) (hD : DD 20 A ad) : Met l yX0_write [.code yX0_write cX0_write 3 none] ({ frames := 1, cells := 0, slots := 0, locals := 40 }) (va_Pc [.ref (ad 5), .int (nI k), .int g] (fun U => PX G ad σ U U.heap)) (oV A True (fun H9 => va_P G.1 vwCl (wX G ad (wrS σ k g)) H9)) 0 0 A := by
  refine k_of (by decide) (Nat.le_of_ble_eq_true rfl) (fun U h => h.2.2) ?_
  intro p e s m below meth c ls S hr hlocks hmn hB hl
  have hx := S.1
  have hb := S.2.1
  have hX : PX G ad σ s s.heap := hB
  have hS0 : va_S A s.heap s.heap [] := va_S.rf
  have hl : lv_has ls 3 [(0, .ref (ad 5)), (1, .int (nI k)), (2, .int g)] := hl
  refine lv_aload_n hx hb dX0_write_0 rfl (lv_at hl 0 rfl) ?_
  refine lv_dup hx hb dX0_write_1 rfl ?_
  refine k_get S hX.2 hX.1 5 (C := RX0) (T := TX0) (N := 7) rfl rfl 6 (by decide) inX0 m_127 rfl dX0_write_2 ?_
  refine lv_iconst (v := 1) hx hb dX0_write_5 (by decide) ?_
  refine lv_iadd hx hb dX0_write_6 ?_
  refine k_put S hX.2 hX.1 (hD.w (wX_fst _ _ _)) hS0 5 (C := RX0) (T := TX0) (N := 7) rfl rfl 6 (by decide) inX0 tyX0 tyX0_ok nmX0 rfl rfl m_127 (Nat.le_of_ble_eq_true rfl) dX0_write_7 (fun H1 L1 h1 hS1 => ?_)
  have hX1 : PX G ad (su σ 19 0 ((σ 19 0) + 1)) s H1 := ⟨h1, hX.2⟩
  refine lv_aload_n hx hb dX0_write_10 rfl (lv_at hl 0 rfl) ?_
  refine k_get S hX1.2 hX1.1 5 (C := RX0) (T := TX0) (N := 7) rfl rfl 4 (by decide) inX0 m_123 rfl dX0_write_11 ?_
  refine lv_iload_n hx hb dX0_write_14 rfl (lv_at hl 1 rfl) ?_
  refine lv_aload_n hx hb dX0_write_15 rfl (lv_at hl 0 rfl) ?_
  refine k_get S hX1.2 hX1.1 5 (C := RX0) (T := TX0) (N := 7) rfl rfl 6 (by decide) inX0 m_127 rfl dX0_write_16 ?_
  refine k_eq (y := (σ 19 0) + 1) (by rfl) ?_
  refine k_ist S hX1.2 hX1.1 (hD.w (wX_fst _ _ _)) hS1 18 (i := k) rfl (by omega) (by decide) dX0_write_19 (fun H2 L2 h2 hS2 => ?_)
  have hX2 : PX G ad (su (su σ 19 0 ((σ 19 0) + 1)) 14 k ((σ 19 0) + 1)) s H2 := ⟨h2, hX1.2⟩
  refine lv_aload_n hx hb dX0_write_20 rfl (lv_at hl 0 rfl) ?_
  refine k_get S hX2.2 hX2.1 5 (C := RX0) (T := TX0) (N := 7) rfl rfl 5 (by decide) inX0 m_125 rfl dX0_write_21 ?_
  refine lv_iload_n hx hb dX0_write_24 rfl (lv_at hl 1 rfl) ?_
  refine lv_iload_n hx hb dX0_write_25 rfl (lv_at hl 2 rfl) ?_
  refine k_ist S hX2.2 hX2.1 (hD.w (wX_fst _ _ _)) hS2 19 (i := k) rfl (by omega) (by decide) dX0_write_26 (fun H3 L3 h3 hS3 => ?_)
  have hX3 : PX G ad (su (su (su σ 19 0 ((σ 19 0) + 1)) 14 k ((σ 19 0) + 1)) 15 k g) s H3 := ⟨h3, hX2.2⟩
  exact W.vret hx hb hr (fun t ht hW => ⟨rfl, trivial, (by have e9 : wrS σ k g = su (su (su σ 19 0 ((σ 19 0) + 1)) 14 k ((σ 19 0) + 1)) 15 k g := (by first | rfl | simp [wrS]); show va_P G.1 vwCl (wX G ad (wrS σ k g)) t.heap; rw [e9, ht]; exact hX3.1), hS3.F ht⟩) hS3.2.2 dX0_write_27

set_option maxHeartbeats 4000000 in
set_option maxRecDepth 100000 in
theorem c_lineAdd (l : Launch) (G : kG) (ad : Nat → Nat) (σ : kS) (k : Nat) (pe q9 : Int32) (hk : k < 200) (A : Nat → Prop) (hD : DD 20 A ad) : Met l yX0_add [.code yX0_add cX0_add 5 none] ({ frames := 3, cells := 0, slots := 0, locals := 83 }) (va_Pc [.ref (ad 5), .int (nI k), .int pe, .int q9] (fun U => PX G ad σ U U.heap)) (oV A True (fun H9 => va_P G.1 vwCl (wX G ad (adS σ k pe q9)) H9)) 0 0 A := by
  refine k_of (by decide) (Nat.le_of_ble_eq_true rfl) (fun U h => h.2.2) ?_
  intro p e s m below meth c ls S hr hlocks hmn hB hl
  have hx := S.1
  have hb := S.2.1
  have hX : PX G ad σ s s.heap := hB
  have hS0 : va_S A s.heap s.heap [] := va_S.rf
  have hl : lv_has ls 5 [(0, .ref (ad 5)), (1, .int (nI k)), (2, .int pe), (3, .int q9)] := hl
  refine lv_aload_n hx hb dX0_add_0 rfl (lv_at hl 0 rfl) ?_
  refine lv_iload_n hx hb dX0_add_1 rfl (lv_at hl 1 rfl) ?_
  refine q_i (r_V S ⟨m_405, m_407, m_15, m_38, m_408⟩ ⟨rfl, by decide, by decide, by decide +kernel⟩ (c_countsOn l G ad σ k (by omega)) ⟨rfl, rfl, Nat.le_of_ble_eq_true rfl, Nat.le_of_ble_eq_true rfl⟩ (pv_X hX 5 rfl rfl bl_PX (bX hX)) (n := 1) (As := [.int (nI k)]) (rest := []) rfl hl.1 rfl (Nat.le_of_ble_eq_true rfl) ⟨Nat.le_of_ble_eq_true rfl, Nat.le_of_ble_eq_true rfl⟩ dX0_add_2) (fun r1 (e1 : r1 = bc (σ 10 k)) => ?_)
  subst e1
  refine lv_istore (lv' := [(4, .int (bc (σ 10 k))), (0, .ref (ad 5)), (1, .int (nI k)), (2, .int pe), (3, .int q9)]) hx hb dX0_add_5 hl (by decide) rfl (fun ls hl => ?_)
  refine lv_iload hx hb dX0_add_7 (lv_at hl 0 rfl) ?_
  refine lv_if_ne (tgt := 22) hx hb dX0_add_9 (by decide) (fun c9_2 => ?_) (fun c9_2 => ?_)
  · have bc9_2 := c9_2
    refine lv_iload hx hb dX0_add_22 (lv_at hl 0 rfl) ?_
    refine lv_iconst (v := 1) hx hb dX0_add_24 (by decide) ?_
    refine lv_icmp_ne (tgt := 59) hx hb dX0_add_25 (by decide) (fun c25_3 => ?_) (fun c25_3 => ?_)
    · have bc25_3 := c25_3
      refine lv_aload_n hx hb dX0_add_59 rfl (lv_at hl 1 rfl) ?_
      refine k_get S hX.2 hX.1 5 (C := RX0) (T := TX0) (N := 7) rfl rfl 3 (by decide) inX0 m_121 rfl dX0_add_60 ?_
      refine lv_iload_n hx hb dX0_add_63 rfl (lv_at hl 2 rfl) ?_
      refine lv_aload_n hx hb dX0_add_64 rfl (lv_at hl 1 rfl) ?_
      refine k_get S hX.2 hX.1 5 (C := RX0) (T := TX0) (N := 7) rfl rfl 1 (by decide) inX0 m_119 rfl dX0_add_65 ?_
      refine lv_iload_n hx hb dX0_add_68 rfl (lv_at hl 2 rfl) ?_
      refine k_ild S hX.2 hX.1 15 (i := k) rfl (by omega) (by decide) dX0_add_69 ?_
      refine lv_aload_n hx hb dX0_add_70 rfl (lv_at hl 1 rfl) ?_
      refine k_get S hX.2 hX.1 5 (C := RX0) (T := TX0) (N := 7) rfl rfl 2 (by decide) inX0 m_120 rfl dX0_add_71 ?_
      refine lv_iload_n hx hb dX0_add_74 rfl (lv_at hl 2 rfl) ?_
      refine k_ild S hX.2 hX.1 16 (i := k) rfl (by omega) (by decide) dX0_add_75 ?_
      refine lv_iload_n hx hb dX0_add_76 rfl (lv_at hl 4 rfl) ?_
      refine q_i (r_S S ⟨m_415, m_416, m_38, m_417⟩ ⟨rfl, by decide, by decide, by decide +kernel⟩ (c_middleOf l (σ 11 k) (σ 12 k) q9) ⟨rfl, rfl, Nat.le_of_ble_eq_true rfl, Nat.le_of_ble_eq_true rfl⟩ (ps bl_GL (bG hX.2.2)) (n := 3) (As := [.int (σ 11 k), .int (σ 12 k), .int q9]) (rest := [.int (nI k), .ref (ad 17)]) rfl hl.1 rfl (Nat.le_of_ble_eq_true rfl) ⟨Nat.le_of_ble_eq_true rfl, Nat.le_of_ble_eq_true rfl⟩ dX0_add_77) (fun r4 (e4 : r4 = midV (σ 11 k) (σ 12 k) q9) => ?_)
      subst e4
      refine k_ist S hX.2 hX.1 (hD.w (wX_fst _ _ _)) hS0 17 (i := k) rfl (by omega) (by decide) dX0_add_80 (fun H5 L5 h5 hS5 => ?_)
      have hX5 : PX G ad (su σ 13 k (midV (σ 11 k) (σ 12 k) q9)) s H5 := ⟨h5, hX.2⟩
      refine lv_aload_n hx hb dX0_add_81 rfl (lv_at hl 1 rfl) ?_
      refine k_get S hX5.2 hX5.1 5 (C := RX0) (T := TX0) (N := 7) rfl rfl 0 (by decide) inX0 m_118 rfl dX0_add_82 ?_
      refine lv_iload_n hx hb dX0_add_85 rfl (lv_at hl 2 rfl) ?_
      refine lv_dup2_11 hx hb dX0_add_86 rfl rfl ?_
      refine k_ild S hX5.2 hX5.1 14 (i := k) rfl (by omega) (by decide) dX0_add_87 ?_
      refine k_eq (y := σ 10 k) (by rfl) ?_
      refine k_eq (y := σ 10 k) (rfl) ?_
      refine lv_iconst (v := 1) hx hb dX0_add_88 (by decide) ?_
      refine lv_iload_n hx hb dX0_add_89 rfl (lv_at hl 3 rfl) ?_
      refine lv_ishl hx hb dX0_add_90 ?_
      refine lv_ior hx hb dX0_add_91 ?_
      refine k_ist S hX5.2 hX5.1 (hD.w (wX_fst _ _ _)) hS5 14 (i := k) rfl (by omega) (by decide) dX0_add_92 (fun H6 L6 h6 hS6 => ?_)
      have hX6 : PX G ad (su (su σ 13 k (midV (σ 11 k) (σ 12 k) q9)) 10 k ((σ 10 k) ||| (1 <<< (pe &&& 31)))) s H6 := ⟨h6, hX5.2⟩
      exact W.vret hx hb hr (fun t ht hW => ⟨rfl, trivial, (by have e9 : adS σ k pe q9 = su (su σ 13 k (midV (σ 11 k) (σ 12 k) q9)) 10 k ((σ 10 k) ||| (1 <<< (pe &&& 31))) := (by first | rfl | simp [adS, c9_2, c25_3]); show va_P G.1 vwCl (wX G ad (adS σ k pe q9)) t.heap; rw [e9, ht]; exact hX6.1), hS6.F ht⟩) hS6.2.2 dX0_add_93
    · have bc25_3 := c25_3
      refine lv_aload_n hx hb dX0_add_28 rfl (lv_at hl 1 rfl) ?_
      refine k_get S hX.2 hX.1 5 (C := RX0) (T := TX0) (N := 7) rfl rfl 2 (by decide) inX0 m_120 rfl dX0_add_29 ?_
      refine lv_iload_n hx hb dX0_add_32 rfl (lv_at hl 2 rfl) ?_
      refine lv_iload_n hx hb dX0_add_33 rfl (lv_at hl 4 rfl) ?_
      refine k_ist S hX.2 hX.1 (hD.w (wX_fst _ _ _)) hS0 16 (i := k) rfl (by omega) (by decide) dX0_add_34 (fun H7 L7 h7 hS7 => ?_)
      have hX7 : PX G ad (su σ 12 k q9) s H7 := ⟨h7, hX.2⟩
      refine lv_aload_n hx hb dX0_add_35 rfl (lv_at hl 1 rfl) ?_
      refine k_get S hX7.2 hX7.1 5 (C := RX0) (T := TX0) (N := 7) rfl rfl 3 (by decide) inX0 m_121 rfl dX0_add_36 ?_
      refine lv_iload_n hx hb dX0_add_39 rfl (lv_at hl 2 rfl) ?_
      refine lv_aload_n hx hb dX0_add_40 rfl (lv_at hl 1 rfl) ?_
      refine k_get S hX7.2 hX7.1 5 (C := RX0) (T := TX0) (N := 7) rfl rfl 1 (by decide) inX0 m_119 rfl dX0_add_41 ?_
      refine lv_iload_n hx hb dX0_add_44 rfl (lv_at hl 2 rfl) ?_
      refine k_ild S hX7.2 hX7.1 15 (i := k) rfl (by omega) (by decide) dX0_add_45 ?_
      refine k_eq (y := σ 11 k) (by rfl) ?_
      refine k_eq (y := σ 11 k) (rfl) ?_
      refine lv_iload_n hx hb dX0_add_46 rfl (lv_at hl 4 rfl) ?_
      refine lv_icmp_ne (tgt := 54) hx hb dX0_add_47 (by decide) (fun c47_8 => ?_) (fun c47_8 => ?_)
      · have bc47_8 := c47_8
        refine lv_iconst (v := (-1)) hx hb dX0_add_54 (by decide) ?_
        refine k_ist S hX7.2 hX7.1 (hD.w (wX_fst _ _ _)) hS7 17 (i := k) rfl (by omega) (by decide) dX0_add_55 (fun H9 L9 h9 hS9 => ?_)
        have hX9 : PX G ad (su (su σ 12 k q9) 13 k (-1)) s H9 := ⟨h9, hX7.2⟩
        refine lv_goto (tgt := 81) hx hb dX0_add_56 (by decide) ?_
        refine lv_aload_n hx hb dX0_add_81 rfl (lv_at hl 1 rfl) ?_
        refine k_get S hX9.2 hX9.1 5 (C := RX0) (T := TX0) (N := 7) rfl rfl 0 (by decide) inX0 m_118 rfl dX0_add_82 ?_
        refine lv_iload_n hx hb dX0_add_85 rfl (lv_at hl 2 rfl) ?_
        refine lv_dup2_11 hx hb dX0_add_86 rfl rfl ?_
        refine k_ild S hX9.2 hX9.1 14 (i := k) rfl (by omega) (by decide) dX0_add_87 ?_
        refine k_eq (y := σ 10 k) (by rfl) ?_
        refine k_eq (y := σ 10 k) (rfl) ?_
        refine lv_iconst (v := 1) hx hb dX0_add_88 (by decide) ?_
        refine lv_iload_n hx hb dX0_add_89 rfl (lv_at hl 3 rfl) ?_
        refine lv_ishl hx hb dX0_add_90 ?_
        refine lv_ior hx hb dX0_add_91 ?_
        refine k_ist S hX9.2 hX9.1 (hD.w (wX_fst _ _ _)) hS9 14 (i := k) rfl (by omega) (by decide) dX0_add_92 (fun H10 L10 h10 hS10 => ?_)
        have hX10 : PX G ad (su (su (su σ 12 k q9) 13 k (-1)) 10 k ((σ 10 k) ||| (1 <<< (pe &&& 31)))) s H10 := ⟨h10, hX9.2⟩
        exact W.vret hx hb hr (fun t ht hW => ⟨rfl, trivial, (by have e9 : adS σ k pe q9 = su (su (su σ 12 k q9) 13 k (-1)) 10 k ((σ 10 k) ||| (1 <<< (pe &&& 31))) := (by first | rfl | simp [adS, c9_2, c25_3, c47_8]); show va_P G.1 vwCl (wX G ad (adS σ k pe q9)) t.heap; rw [e9, ht]; exact hX10.1), hS10.F ht⟩) hS10.2.2 dX0_add_93
      · have bc47_8 := c47_8
        refine lv_iload_n hx hb dX0_add_50 rfl (lv_at hl 4 rfl) ?_
        refine lv_goto (tgt := 55) hx hb dX0_add_51 (by decide) ?_
        refine k_ist S hX7.2 hX7.1 (hD.w (wX_fst _ _ _)) hS7 17 (i := k) rfl (by omega) (by decide) dX0_add_55 (fun H11 L11 h11 hS11 => ?_)
        have hX11 : PX G ad (su (su σ 12 k q9) 13 k q9) s H11 := ⟨h11, hX7.2⟩
        refine lv_goto (tgt := 81) hx hb dX0_add_56 (by decide) ?_
        refine lv_aload_n hx hb dX0_add_81 rfl (lv_at hl 1 rfl) ?_
        refine k_get S hX11.2 hX11.1 5 (C := RX0) (T := TX0) (N := 7) rfl rfl 0 (by decide) inX0 m_118 rfl dX0_add_82 ?_
        refine lv_iload_n hx hb dX0_add_85 rfl (lv_at hl 2 rfl) ?_
        refine lv_dup2_11 hx hb dX0_add_86 rfl rfl ?_
        refine k_ild S hX11.2 hX11.1 14 (i := k) rfl (by omega) (by decide) dX0_add_87 ?_
        refine k_eq (y := σ 10 k) (by rfl) ?_
        refine k_eq (y := σ 10 k) (rfl) ?_
        refine lv_iconst (v := 1) hx hb dX0_add_88 (by decide) ?_
        refine lv_iload_n hx hb dX0_add_89 rfl (lv_at hl 3 rfl) ?_
        refine lv_ishl hx hb dX0_add_90 ?_
        refine lv_ior hx hb dX0_add_91 ?_
        refine k_ist S hX11.2 hX11.1 (hD.w (wX_fst _ _ _)) hS11 14 (i := k) rfl (by omega) (by decide) dX0_add_92 (fun H12 L12 h12 hS12 => ?_)
        have hX12 : PX G ad (su (su (su σ 12 k q9) 13 k q9) 10 k ((σ 10 k) ||| (1 <<< (pe &&& 31)))) s H12 := ⟨h12, hX11.2⟩
        exact W.vret hx hb hr (fun t ht hW => ⟨rfl, trivial, (by have e9 : adS σ k pe q9 = su (su (su σ 12 k q9) 13 k q9) 10 k ((σ 10 k) ||| (1 <<< (pe &&& 31))) := (by first | rfl | simp [adS, c9_2, c25_3, c47_8]); show va_P G.1 vwCl (wX G ad (adS σ k pe q9)) t.heap; rw [e9, ht]; exact hX12.1), hS12.F ht⟩) hS12.2.2 dX0_add_93
  · have bc9_2 := c9_2
    refine lv_aload_n hx hb dX0_add_12 rfl (lv_at hl 1 rfl) ?_
    refine k_get S hX.2 hX.1 5 (C := RX0) (T := TX0) (N := 7) rfl rfl 1 (by decide) inX0 m_119 rfl dX0_add_13 ?_
    refine lv_iload_n hx hb dX0_add_16 rfl (lv_at hl 2 rfl) ?_
    refine lv_iload_n hx hb dX0_add_17 rfl (lv_at hl 4 rfl) ?_
    refine k_ist S hX.2 hX.1 (hD.w (wX_fst _ _ _)) hS0 15 (i := k) rfl (by omega) (by decide) dX0_add_18 (fun H13 L13 h13 hS13 => ?_)
    have hX13 : PX G ad (su σ 11 k q9) s H13 := ⟨h13, hX.2⟩
    refine lv_goto (tgt := 81) hx hb dX0_add_19 (by decide) ?_
    refine lv_aload_n hx hb dX0_add_81 rfl (lv_at hl 1 rfl) ?_
    refine k_get S hX13.2 hX13.1 5 (C := RX0) (T := TX0) (N := 7) rfl rfl 0 (by decide) inX0 m_118 rfl dX0_add_82 ?_
    refine lv_iload_n hx hb dX0_add_85 rfl (lv_at hl 2 rfl) ?_
    refine lv_dup2_11 hx hb dX0_add_86 rfl rfl ?_
    refine k_ild S hX13.2 hX13.1 14 (i := k) rfl (by omega) (by decide) dX0_add_87 ?_
    refine k_eq (y := σ 10 k) (by rfl) ?_
    refine k_eq (y := σ 10 k) (rfl) ?_
    refine lv_iconst (v := 1) hx hb dX0_add_88 (by decide) ?_
    refine lv_iload_n hx hb dX0_add_89 rfl (lv_at hl 3 rfl) ?_
    refine lv_ishl hx hb dX0_add_90 ?_
    refine lv_ior hx hb dX0_add_91 ?_
    refine k_ist S hX13.2 hX13.1 (hD.w (wX_fst _ _ _)) hS13 14 (i := k) rfl (by omega) (by decide) dX0_add_92 (fun H14 L14 h14 hS14 => ?_)
    have hX14 : PX G ad (su (su σ 11 k q9) 10 k ((σ 10 k) ||| (1 <<< (pe &&& 31)))) s H14 := ⟨h14, hX13.2⟩
    exact W.vret hx hb hr (fun t ht hW => ⟨rfl, trivial, (by have e9 : adS σ k pe q9 = su (su σ 11 k q9) 10 k ((σ 10 k) ||| (1 <<< (pe &&& 31))) := (by first | rfl | simp [adS, c9_2]); show va_P G.1 vwCl (wX G ad (adS σ k pe q9)) t.heap; rw [e9, ht]; exact hX14.1), hS14.F ht⟩) hS14.2.2 dX0_add_93

set_option maxHeartbeats 4000000 in
set_option maxRecDepth 100000 in
theorem c_moveAdd (l : Launch) (G : kG) (ad : Nat → Nat) (σ : kS) (nm : Nat) (f9 t9 a9 q9 i9 : Int32) (hnm : σ 17 0 = nI nm) (hnm2 : nm < 200) (A : Nat → Prop) (hD : DD 20 A ad) : Met l yX1_add [.code yX1_add cX1_add 7 (some .int)] ({ frames := 1, cells := 0, slots := 0, locals := 40 }) (va_Pc [.ref (ad 3), .int f9, .int t9, .int a9, .int q9, .int i9] (fun U => PX G ad σ U U.heap)) (oW A (fun r => r = nI nm) (fun H9 => va_P G.1 vwCl (wX G ad (mvS σ nm f9 t9 a9 q9 i9)) H9)) 0 0 A := by
  refine k_of (by decide) (Nat.le_of_ble_eq_true rfl) (fun U h => h.2.2) ?_
  intro p e s m below meth c ls S hr hlocks hmn hB hl
  have hx := S.1
  have hb := S.2.1
  have hX : PX G ad σ s s.heap := hB
  have hS0 : va_S A s.heap s.heap [] := va_S.rf
  have hl : lv_has ls 7 [(0, .ref (ad 3)), (1, .int f9), (2, .int t9), (3, .int a9), (4, .int q9), (5, .int i9)] := hl
  refine lv_aload_n hx hb dX1_add_0 rfl (lv_at hl 0 rfl) ?_
  refine k_get S hX.2 hX.1 3 (C := RX1) (T := TX1) (N := 6) rfl rfl 5 (by decide) inX1 m_69 rfl dX1_add_1 ?_
  refine k_eq hnm ?_
  refine lv_istore (lv' := [(6, .int (nI nm)), (0, .ref (ad 3)), (1, .int f9), (2, .int t9), (3, .int a9), (4, .int q9), (5, .int i9)]) hx hb dX1_add_4 hl (by decide) rfl (fun ls hl => ?_)
  refine lv_aload_n hx hb dX1_add_6 rfl (lv_at hl 1 rfl) ?_
  refine k_get S hX.2 hX.1 3 (C := RX1) (T := TX1) (N := 6) rfl rfl 0 (by decide) inX1 m_64 rfl dX1_add_7 ?_
  refine lv_iload hx hb dX1_add_10 (lv_at hl 0 rfl) ?_
  refine lv_iload_n hx hb dX1_add_12 rfl (lv_at hl 2 rfl) ?_
  refine k_ist S hX.2 hX.1 (hD.w (wX_fst _ _ _)) hS0 6 (i := nm) rfl (by omega) (by decide) dX1_add_13 (fun H1 L1 h1 hS1 => ?_)
  have hX1 : PX G ad (su σ 2 nm f9) s H1 := ⟨h1, hX.2⟩
  refine lv_aload_n hx hb dX1_add_14 rfl (lv_at hl 1 rfl) ?_
  refine k_get S hX1.2 hX1.1 3 (C := RX1) (T := TX1) (N := 6) rfl rfl 1 (by decide) inX1 m_65 rfl dX1_add_15 ?_
  refine lv_iload hx hb dX1_add_18 (lv_at hl 0 rfl) ?_
  refine lv_iload_n hx hb dX1_add_20 rfl (lv_at hl 3 rfl) ?_
  refine k_ist S hX1.2 hX1.1 (hD.w (wX_fst _ _ _)) hS1 7 (i := nm) rfl (by omega) (by decide) dX1_add_21 (fun H2 L2 h2 hS2 => ?_)
  have hX2 : PX G ad (su (su σ 2 nm f9) 3 nm t9) s H2 := ⟨h2, hX1.2⟩
  refine lv_aload_n hx hb dX1_add_22 rfl (lv_at hl 1 rfl) ?_
  refine k_get S hX2.2 hX2.1 3 (C := RX1) (T := TX1) (N := 6) rfl rfl 2 (by decide) inX1 m_66 rfl dX1_add_23 ?_
  refine lv_iload hx hb dX1_add_26 (lv_at hl 0 rfl) ?_
  refine lv_iload_n hx hb dX1_add_28 rfl (lv_at hl 4 rfl) ?_
  refine k_ist S hX2.2 hX2.1 (hD.w (wX_fst _ _ _)) hS2 8 (i := nm) rfl (by omega) (by decide) dX1_add_29 (fun H3 L3 h3 hS3 => ?_)
  have hX3 : PX G ad (su (su (su σ 2 nm f9) 3 nm t9) 4 nm a9) s H3 := ⟨h3, hX2.2⟩
  refine lv_aload_n hx hb dX1_add_30 rfl (lv_at hl 1 rfl) ?_
  refine k_get S hX3.2 hX3.1 3 (C := RX1) (T := TX1) (N := 6) rfl rfl 3 (by decide) inX1 m_67 rfl dX1_add_31 ?_
  refine lv_iload hx hb dX1_add_34 (lv_at hl 0 rfl) ?_
  refine lv_iload hx hb dX1_add_36 (lv_at hl 5 rfl) ?_
  refine k_ist S hX3.2 hX3.1 (hD.w (wX_fst _ _ _)) hS3 9 (i := nm) rfl (by omega) (by decide) dX1_add_38 (fun H4 L4 h4 hS4 => ?_)
  have hX4 : PX G ad (su (su (su (su σ 2 nm f9) 3 nm t9) 4 nm a9) 5 nm q9) s H4 := ⟨h4, hX3.2⟩
  refine lv_aload_n hx hb dX1_add_39 rfl (lv_at hl 1 rfl) ?_
  refine k_get S hX4.2 hX4.1 3 (C := RX1) (T := TX1) (N := 6) rfl rfl 4 (by decide) inX1 m_68 rfl dX1_add_40 ?_
  refine lv_iload hx hb dX1_add_43 (lv_at hl 0 rfl) ?_
  refine lv_iload hx hb dX1_add_45 (lv_at hl 6 rfl) ?_
  refine k_ist S hX4.2 hX4.1 (hD.w (wX_fst _ _ _)) hS4 10 (i := nm) rfl (by omega) (by decide) dX1_add_47 (fun H5 L5 h5 hS5 => ?_)
  have hX5 : PX G ad (su (su (su (su (su σ 2 nm f9) 3 nm t9) 4 nm a9) 5 nm q9) 6 nm i9) s H5 := ⟨h5, hX4.2⟩
  refine lv_aload_n hx hb dX1_add_48 rfl (lv_at hl 1 rfl) ?_
  refine lv_dup hx hb dX1_add_49 rfl ?_
  refine k_get S hX5.2 hX5.1 3 (C := RX1) (T := TX1) (N := 6) rfl rfl 5 (by decide) inX1 m_69 rfl dX1_add_50 ?_
  refine k_eq (y := σ 17 0) (by rfl) ?_
  refine k_eq (y := σ 17 0) rfl ?_
  refine lv_iconst (v := 1) hx hb dX1_add_53 (by decide) ?_
  refine lv_iadd hx hb dX1_add_54 ?_
  refine k_put S hX5.2 hX5.1 (hD.w (wX_fst _ _ _)) hS5 3 (C := RX1) (T := TX1) (N := 6) rfl rfl 5 (by decide) inX1 tyX1 tyX1_ok nmX1 rfl rfl m_69 (Nat.le_of_ble_eq_true rfl) dX1_add_55 (fun H6 L6 h6 hS6 => ?_)
  have hX6 : PX G ad (su (su (su (su (su (su σ 2 nm f9) 3 nm t9) 4 nm a9) 5 nm q9) 6 nm i9) 17 0 ((σ 17 0) + 1)) s H6 := ⟨h6, hX5.2⟩
  refine lv_iload hx hb dX1_add_58 (lv_at hl 0 rfl) ?_
  exact W.iret (v := nI nm) hx hb hr (fun t ht hW => ⟨⟨_, rfl, rfl⟩, (by have e9 : mvS σ nm f9 t9 a9 q9 i9 = su (su (su (su (su (su σ 2 nm f9) 3 nm t9) 4 nm a9) 5 nm q9) 6 nm i9) 17 0 ((σ 17 0) + 1) := (by first | rfl | simp [mvS]); show va_P G.1 vwCl (wX G ad (mvS σ nm f9 t9 a9 q9 i9)) t.heap; rw [e9, ht]; exact hX6.1), hS6.F ht⟩) hS6.2.2 dX1_add_60

set_option maxHeartbeats 4000000 in
set_option maxRecDepth 100000 in
theorem c_sheetAdd (l : Launch) (G : kG) (ad : Nat → Nat) (σ : kS) (ns : Nat) (pl i9 : Int32) (hns : σ 18 0 = nI ns) (hns4 : ns < 40) (A : Nat → Prop) (hD : DD 20 A ad) : Met l yX2_add [.code yX2_add cX2_add 4 (some .int)] ({ frames := 1, cells := 0, slots := 0, locals := 40 }) (va_Pc [.ref (ad 4), .int pl, .int i9] (fun U => PX G ad σ U U.heap)) (oW A (fun r => r = nI ns) (fun H9 => va_P G.1 vwCl (wX G ad (shS σ ns pl i9)) H9)) 0 0 A := by
  refine k_of (by decide) (Nat.le_of_ble_eq_true rfl) (fun U h => h.2.2) ?_
  intro p e s m below meth c ls S hr hlocks hmn hB hl
  have hx := S.1
  have hb := S.2.1
  have hX : PX G ad σ s s.heap := hB
  have hS0 : va_S A s.heap s.heap [] := va_S.rf
  have hl : lv_has ls 4 [(0, .ref (ad 4)), (1, .int pl), (2, .int i9)] := hl
  refine lv_aload_n hx hb dX2_add_0 rfl (lv_at hl 0 rfl) ?_
  refine k_get S hX.2 hX.1 4 (C := RX2) (T := TX2) (N := 4) rfl rfl 3 (by decide) inX2 m_97 rfl dX2_add_1 ?_
  refine k_eq hns ?_
  refine lv_istore_n (lv' := [(3, .int (nI ns)), (0, .ref (ad 4)), (1, .int pl), (2, .int i9)]) hx hb dX2_add_4 rfl hl (by decide) rfl (fun ls hl => ?_)
  refine lv_aload_n hx hb dX2_add_5 rfl (lv_at hl 1 rfl) ?_
  refine k_get S hX.2 hX.1 4 (C := RX2) (T := TX2) (N := 4) rfl rfl 0 (by decide) inX2 m_91 rfl dX2_add_6 ?_
  refine lv_iload_n hx hb dX2_add_9 rfl (lv_at hl 0 rfl) ?_
  refine lv_iload_n hx hb dX2_add_10 rfl (lv_at hl 2 rfl) ?_
  refine k_ist S hX.2 hX.1 (hD.w (wX_fst _ _ _)) hS0 11 (i := ns) rfl (by omega) (by decide) dX2_add_11 (fun H1 L1 h1 hS1 => ?_)
  have hX1 : PX G ad (su σ 7 ns pl) s H1 := ⟨h1, hX.2⟩
  refine lv_aload_n hx hb dX2_add_12 rfl (lv_at hl 1 rfl) ?_
  refine k_get S hX1.2 hX1.1 4 (C := RX2) (T := TX2) (N := 4) rfl rfl 1 (by decide) inX2 m_93 rfl dX2_add_13 ?_
  refine lv_iload_n hx hb dX2_add_16 rfl (lv_at hl 0 rfl) ?_
  refine lv_iload_n hx hb dX2_add_17 rfl (lv_at hl 3 rfl) ?_
  refine k_ist S hX1.2 hX1.1 (hD.w (wX_fst _ _ _)) hS1 12 (i := ns) rfl (by omega) (by decide) dX2_add_18 (fun H2 L2 h2 hS2 => ?_)
  have hX2 : PX G ad (su (su σ 7 ns pl) 8 ns i9) s H2 := ⟨h2, hX1.2⟩
  refine lv_aload_n hx hb dX2_add_19 rfl (lv_at hl 1 rfl) ?_
  refine lv_dup hx hb dX2_add_20 rfl ?_
  refine k_get S hX2.2 hX2.1 4 (C := RX2) (T := TX2) (N := 4) rfl rfl 3 (by decide) inX2 m_97 rfl dX2_add_21 ?_
  refine k_eq (y := σ 18 0) (by rfl) ?_
  refine k_eq (y := σ 18 0) rfl ?_
  refine lv_iconst (v := 1) hx hb dX2_add_24 (by decide) ?_
  refine lv_iadd hx hb dX2_add_25 ?_
  refine k_put S hX2.2 hX2.1 (hD.w (wX_fst _ _ _)) hS2 4 (C := RX2) (T := TX2) (N := 4) rfl rfl 3 (by decide) inX2 tyX2 tyX2_ok nmX2 rfl rfl m_97 (Nat.le_of_ble_eq_true rfl) dX2_add_26 (fun H3 L3 h3 hS3 => ?_)
  have hX3 : PX G ad (su (su (su σ 7 ns pl) 8 ns i9) 18 0 ((σ 18 0) + 1)) s H3 := ⟨h3, hX2.2⟩
  refine lv_iload_n hx hb dX2_add_29 rfl (lv_at hl 0 rfl) ?_
  exact W.iret (v := nI ns) hx hb hr (fun t ht hW => ⟨⟨_, rfl, rfl⟩, (by have e9 : shS σ ns pl i9 = su (su (su σ 7 ns pl) 8 ns i9) 18 0 ((σ 18 0) + 1) := (by first | rfl | simp [shS]); show va_P G.1 vwCl (wX G ad (shS σ ns pl i9)) t.heap; rw [e9, ht]; exact hX3.1), hS3.F ht⟩) hS3.2.2 dX2_add_30
end
section
set_option maxHeartbeats 4000000 in
set_option maxRecDepth 100000 in
theorem c_setPrice (l : Launch) (G : kG) (ad : Nat → Nat) (σ : kS) (nm ns : Nat) (a0 b0 : Int32) (hst : l.stackTraces = false) (hns : σ 18 0 = nI ns) (hns4 : ns ≤ 40) (hnm : σ 17 0 = nI nm) (hnm2 : nm ≤ 200) (A : Nat → Prop) (hD : DD 20 A ad)  : vx_Met l yX3_setPrice [.code yX3_setPrice cX3_setPrice 4 (some .int)] ({ frames := 7, cells := 2, slots := 12, locals := 114 }) (va_Pc [.ref (ad 0), .int a0, .int b0] (fun U => PX G ad σ U U.heap ∧ ZS U U.heap)) (oW A (fun r => eX_setPrice a0 b0 = 0 ∧ r = σ 0 (ixN a0)) (fun H9 => va_P G.1 vwCl (wX G ad (su σ 0 (ixN a0) b0)) H9)) (tX (fun x => eX_setPrice a0 b0 ≠ 0 ∧ x = exN (eX_setPrice a0 b0))) 2 12 A := by
  refine kx_of (by decide) (Nat.le_of_ble_eq_true rfl) (fun U h => h.1.2.2) ?_
  intro p e s m below meth c ls S hr hlocks ht hB hl
  have hx := S.1
  have hb := S.2.1
  have hX : PX G ad σ s s.heap := hB.1
  have hG : GL s := hX.2.2
  have hZ : ZS s s.heap := hB.2
  have hl : lv_has ls 4 [(0, .ref (ad 0)), (1, .int a0), (2, .int b0)] := hl
  have hS0 : va_S A s.heap s.heap [] := va_S.rf
  refine lv_iload_n hx hb dX3_setPrice_0 rfl (lv_at hl 1 rfl) ?_
  refine lv_iconst (v := 5) hx hb dX3_setPrice_1 (by decide) ?_
  refine q_xv (rx_S S ⟨m_231, m_232, m_35, m_233⟩ ⟨rfl, by decide, by decide, by decide +kernel⟩ (c_checkIndex l a0 5 hst) ⟨rfl, rfl, Nat.le_of_ble_eq_true rfl, Nat.le_of_ble_eq_true rfl⟩ (ps bl_GZ (bGZ hX.2.2 hZ)) (n := 2) (As := [.int a0, .int 5]) (rest := []) rfl hl.1 rfl (Nat.le_of_ble_eq_true rfl) ⟨Nat.le_of_ble_eq_true rfl, Nat.le_of_ble_eq_true rfl⟩ dX3_setPrice_2) ht hlocks (by rintro x ⟨rfl, hf1⟩; simp [eX_setPrice, hf1, exN]) (Nat.le_of_ble_eq_true rfl) (Nat.le_of_ble_eq_true rfl) (fun (p1 : ckI a0 5 = true) => ?_)
  obtain ⟨ar, har, rfl⟩ := ckI_nI (n := 5) p1 (by decide)
  have h31ar : ar < 2 ^ 31 := by omega
  refine lv_iload_n hx hb dX3_setPrice_5 rfl (lv_at hl 2 rfl) ?_
  refine lv_iconst (v := 0) hx hb dX3_setPrice_6 (by decide) ?_
  refine lv_sipush (v := 1000) hx hb dX3_setPrice_7 (by decide) ?_
  refine q_xv (rx_S S ⟨m_303, m_304, m_35, m_305⟩ ⟨rfl, by decide, by decide, by decide +kernel⟩ (c_checkRange l b0 0 1000 hst) ⟨rfl, rfl, Nat.le_of_ble_eq_true rfl, Nat.le_of_ble_eq_true rfl⟩ (ps bl_GZ (bGZ hX.2.2 hZ)) (n := 3) (As := [.int b0, .int 0, .int 1000]) (rest := []) rfl hl.1 rfl (Nat.le_of_ble_eq_true rfl) ⟨Nat.le_of_ble_eq_true rfl, Nat.le_of_ble_eq_true rfl⟩ dX3_setPrice_10) ht hlocks (by rintro x ⟨rfl, hf2⟩; simp [eX_setPrice, ixN_nI h31ar, p1, hf2, exN]) (Nat.le_of_ble_eq_true rfl) (Nat.le_of_ble_eq_true rfl) (fun (p2 : ckR b0 0 1000 = true) => ?_)
  refine lv_aload_n hx hb dX3_setPrice_13 rfl (lv_at hl 0 rfl) ?_
  refine k_get S hX.2 hX.1 0 (C := RX3) (T := TX3) (N := 6) rfl rfl 0 (by decide) inX3 m_144 rfl dX3_setPrice_14 ?_
  refine lv_iload_n hx hb dX3_setPrice_17 rfl (lv_at hl 1 rfl) ?_
  refine k_ild S hX.2 hX.1 1 (i := ar) rfl (by omega) (by decide) dX3_setPrice_18 ?_
  refine lv_istore_n (lv' := [(3, .int (σ 0 ar)), (0, .ref (ad 0)), (1, .int (nI ar)), (2, .int b0)]) hx hb dX3_setPrice_19 rfl hl (by decide) rfl (fun ls hl => ?_)
  refine lv_aload_n hx hb dX3_setPrice_20 rfl (lv_at hl 1 rfl) ?_
  refine k_get S hX.2 hX.1 0 (C := RX3) (T := TX3) (N := 6) rfl rfl 0 (by decide) inX3 m_144 rfl dX3_setPrice_21 ?_
  refine lv_iload_n hx hb dX3_setPrice_24 rfl (lv_at hl 2 rfl) ?_
  refine lv_iload_n hx hb dX3_setPrice_25 rfl (lv_at hl 3 rfl) ?_
  refine k_ist S hX.2 hX.1 (hD.w (wX_fst _ _ _)) hS0 1 (i := ar) rfl (by omega) (by decide) dX3_setPrice_26 (fun H3 L3 h3 hS3 => ?_)
  have hX3 : PX G ad (su σ 0 ar b0) s H3 := ⟨h3, hX.2⟩
  refine lv_iload_n hx hb dX3_setPrice_27 rfl (lv_at hl 0 rfl) ?_
  refine vx_ret ?_
  exact W.iret (v := σ 0 ar) hx hb hr (fun t ht hW => ⟨⟨_, rfl, (by simp [eX_setPrice, ixN_nI h31ar, p1, p2])⟩, (by have e9 : su σ 0 (ixN (nI ar)) b0 = su σ 0 ar b0 := (by first | rfl | simp [eX_setPrice, ixN_nI h31ar]); show va_P G.1 vwCl (wX G ad (su σ 0 (ixN (nI ar)) b0)) t.heap; rw [e9, ht]; exact hX3.1), hS3.F ht⟩) hS3.2.2 dX3_setPrice_28

set_option maxHeartbeats 4000000 in
set_option maxRecDepth 100000 in
theorem c_setBound (l : Launch) (G : kG) (ad : Nat → Nat) (σ : kS) (nm ns : Nat) (a0 b0 : Int32) (hst : l.stackTraces = false) (hns : σ 18 0 = nI ns) (hns4 : ns ≤ 40) (hnm : σ 17 0 = nI nm) (hnm2 : nm ≤ 200) (A : Nat → Prop) (hD : DD 20 A ad)  : vx_Met l yX3_setBound [.code yX3_setBound cX3_setBound 4 (some .int)] ({ frames := 7, cells := 2, slots := 12, locals := 114 }) (va_Pc [.ref (ad 0), .int a0, .int b0] (fun U => PX G ad σ U U.heap ∧ ZS U U.heap)) (oW A (fun r => eX_setBound a0 b0 = 0 ∧ r = σ 1 (ixN a0)) (fun H9 => va_P G.1 vwCl (wX G ad (su σ 1 (ixN a0) b0)) H9)) (tX (fun x => eX_setBound a0 b0 ≠ 0 ∧ x = exN (eX_setBound a0 b0))) 2 12 A := by
  refine kx_of (by decide) (Nat.le_of_ble_eq_true rfl) (fun U h => h.1.2.2) ?_
  intro p e s m below meth c ls S hr hlocks ht hB hl
  have hx := S.1
  have hb := S.2.1
  have hX : PX G ad σ s s.heap := hB.1
  have hG : GL s := hX.2.2
  have hZ : ZS s s.heap := hB.2
  have hl : lv_has ls 4 [(0, .ref (ad 0)), (1, .int a0), (2, .int b0)] := hl
  have hS0 : va_S A s.heap s.heap [] := va_S.rf
  refine lv_iload_n hx hb dX3_setBound_0 rfl (lv_at hl 1 rfl) ?_
  refine lv_bipush (v := 6) hx hb dX3_setBound_1 (by decide) ?_
  refine q_xv (rx_S S ⟨m_231, m_232, m_35, m_233⟩ ⟨rfl, by decide, by decide, by decide +kernel⟩ (c_checkIndex l a0 6 hst) ⟨rfl, rfl, Nat.le_of_ble_eq_true rfl, Nat.le_of_ble_eq_true rfl⟩ (ps bl_GZ (bGZ hX.2.2 hZ)) (n := 2) (As := [.int a0, .int 6]) (rest := []) rfl hl.1 rfl (Nat.le_of_ble_eq_true rfl) ⟨Nat.le_of_ble_eq_true rfl, Nat.le_of_ble_eq_true rfl⟩ dX3_setBound_3) ht hlocks (by rintro x ⟨rfl, hf1⟩; simp [eX_setBound, hf1, exN]) (Nat.le_of_ble_eq_true rfl) (Nat.le_of_ble_eq_true rfl) (fun (p1 : ckI a0 6 = true) => ?_)
  obtain ⟨pe, hpe, rfl⟩ := ckI_nI (n := 6) p1 (by decide)
  have h31pe : pe < 2 ^ 31 := by omega
  refine lv_iload_n hx hb dX3_setBound_6 rfl (lv_at hl 2 rfl) ?_
  refine lv_iconst (v := 0) hx hb dX3_setBound_7 (by decide) ?_
  refine lv_ldc (v := 1000000) hx hb S.2.2.2.1 (S.2.2.2.2 _ m_329) dX3_setBound_8 ?_
  refine q_xv (rx_S S ⟨m_303, m_304, m_35, m_305⟩ ⟨rfl, by decide, by decide, by decide +kernel⟩ (c_checkRange l b0 0 1000000 hst) ⟨rfl, rfl, Nat.le_of_ble_eq_true rfl, Nat.le_of_ble_eq_true rfl⟩ (ps bl_GZ (bGZ hX.2.2 hZ)) (n := 3) (As := [.int b0, .int 0, .int 1000000]) (rest := []) rfl hl.1 rfl (Nat.le_of_ble_eq_true rfl) ⟨Nat.le_of_ble_eq_true rfl, Nat.le_of_ble_eq_true rfl⟩ dX3_setBound_10) ht hlocks (by rintro x ⟨rfl, hf2⟩; simp [eX_setBound, ixN_nI h31pe, p1, hf2, exN]) (Nat.le_of_ble_eq_true rfl) (Nat.le_of_ble_eq_true rfl) (fun (p2 : ckR b0 0 1000000 = true) => ?_)
  refine lv_aload_n hx hb dX3_setBound_13 rfl (lv_at hl 0 rfl) ?_
  refine k_get S hX.2 hX.1 0 (C := RX3) (T := TX3) (N := 6) rfl rfl 1 (by decide) inX3 m_145 rfl dX3_setBound_14 ?_
  refine lv_iload_n hx hb dX3_setBound_17 rfl (lv_at hl 1 rfl) ?_
  refine k_ild S hX.2 hX.1 2 (i := pe) rfl (by omega) (by decide) dX3_setBound_18 ?_
  refine lv_istore_n (lv' := [(3, .int (σ 1 pe)), (0, .ref (ad 0)), (1, .int (nI pe)), (2, .int b0)]) hx hb dX3_setBound_19 rfl hl (by decide) rfl (fun ls hl => ?_)
  refine lv_aload_n hx hb dX3_setBound_20 rfl (lv_at hl 1 rfl) ?_
  refine k_get S hX.2 hX.1 0 (C := RX3) (T := TX3) (N := 6) rfl rfl 1 (by decide) inX3 m_145 rfl dX3_setBound_21 ?_
  refine lv_iload_n hx hb dX3_setBound_24 rfl (lv_at hl 2 rfl) ?_
  refine lv_iload_n hx hb dX3_setBound_25 rfl (lv_at hl 3 rfl) ?_
  refine k_ist S hX.2 hX.1 (hD.w (wX_fst _ _ _)) hS0 2 (i := pe) rfl (by omega) (by decide) dX3_setBound_26 (fun H3 L3 h3 hS3 => ?_)
  have hX3 : PX G ad (su σ 1 pe b0) s H3 := ⟨h3, hX.2⟩
  refine lv_iload_n hx hb dX3_setBound_27 rfl (lv_at hl 0 rfl) ?_
  refine vx_ret ?_
  exact W.iret (v := σ 1 pe) hx hb hr (fun t ht hW => ⟨⟨_, rfl, (by simp [eX_setBound, ixN_nI h31pe, p1, p2])⟩, (by have e9 : su σ 1 (ixN (nI pe)) b0 = su σ 1 pe b0 := (by first | rfl | simp [eX_setBound, ixN_nI h31pe]); show va_P G.1 vwCl (wX G ad (su σ 1 (ixN (nI pe)) b0)) t.heap; rw [e9, ht]; exact hX3.1), hS3.F ht⟩) hS3.2.2 dX3_setBound_28

set_option maxHeartbeats 4000000 in
set_option maxRecDepth 100000 in
theorem c_move (l : Launch) (G : kG) (ad : Nat → Nat) (σ : kS) (nm ns : Nat) (a0 b0 c0 d0 e0 : Int32) (hst : l.stackTraces = false) (hns : σ 18 0 = nI ns) (hns4 : ns ≤ 40) (hnm : σ 17 0 = nI nm) (hnm2 : nm ≤ 200) (A : Nat → Prop) (hD : DD 20 A ad)  : vx_Met l yX3_move [.code yX3_move cX3_move 6 (some .int)] ({ frames := 8, cells := 6, slots := 36, locals := 133 }) (va_Pc [.ref (ad 0), .int a0, .int b0, .int c0, .int d0, .int e0] (fun U => PX G ad σ U U.heap ∧ ZS U U.heap)) (oW A (fun r => eX_move σ a0 b0 c0 d0 e0 = 0 ∧ r = nI nm) (fun H9 => va_P G.1 vwCl (wX G ad (mvS σ nm a0 b0 c0 d0 e0)) H9)) (tX (fun x => eX_move σ a0 b0 c0 d0 e0 ≠ 0 ∧ x = exN (eX_move σ a0 b0 c0 d0 e0))) 6 36 A := by
  refine kx_of (by decide) (Nat.le_of_ble_eq_true rfl) (fun U h => h.1.2.2) ?_
  intro p e s m below meth c ls S hr hlocks ht hB hl
  have hx := S.1
  have hb := S.2.1
  have hX : PX G ad σ s s.heap := hB.1
  have hG : GL s := hX.2.2
  have hZ : ZS s s.heap := hB.2
  have hl : lv_has ls 6 [(0, .ref (ad 0)), (1, .int a0), (2, .int b0), (3, .int c0), (4, .int d0), (5, .int e0)] := hl
  have hS0 : va_S A s.heap s.heap [] := va_S.rf
  refine lv_iload_n hx hb dX3_move_0 rfl (lv_at hl 1 rfl) ?_
  refine q_xv (rx_S S ⟨m_338, m_339, m_35, m_340⟩ ⟨rfl, by decide, by decide, by decide +kernel⟩ (c_checkPlace l a0 hst) ⟨rfl, rfl, Nat.le_of_ble_eq_true rfl, Nat.le_of_ble_eq_true rfl⟩ (ps bl_GZ (bGZ hX.2.2 hZ)) (n := 1) (As := [.int a0]) (rest := []) rfl hl.1 rfl (Nat.le_of_ble_eq_true rfl) ⟨Nat.le_of_ble_eq_true rfl, Nat.le_of_ble_eq_true rfl⟩ dX3_move_1) ht hlocks (by rintro x ⟨rfl, hf1⟩; simp [eX_move, hf1, exN]) (Nat.le_of_ble_eq_true rfl) (Nat.le_of_ble_eq_true rfl) (fun (p1 : ckP a0 = true) => ?_)
  refine lv_iload_n hx hb dX3_move_4 rfl (lv_at hl 2 rfl) ?_
  refine q_xv (rx_S S ⟨m_338, m_339, m_35, m_340⟩ ⟨rfl, by decide, by decide, by decide +kernel⟩ (c_checkPlace l b0 hst) ⟨rfl, rfl, Nat.le_of_ble_eq_true rfl, Nat.le_of_ble_eq_true rfl⟩ (ps bl_GZ (bGZ hX.2.2 hZ)) (n := 1) (As := [.int b0]) (rest := []) rfl hl.1 rfl (Nat.le_of_ble_eq_true rfl) ⟨Nat.le_of_ble_eq_true rfl, Nat.le_of_ble_eq_true rfl⟩ dX3_move_5) ht hlocks (by rintro x ⟨rfl, hf2⟩; simp [eX_move, p1, hf2, exN]) (Nat.le_of_ble_eq_true rfl) (Nat.le_of_ble_eq_true rfl) (fun (p2 : ckP b0 = true) => ?_)
  refine lv_iload_n hx hb dX3_move_8 rfl (lv_at hl 3 rfl) ?_
  refine lv_iconst (v := 5) hx hb dX3_move_9 (by decide) ?_
  refine q_xv (rx_S S ⟨m_231, m_232, m_35, m_233⟩ ⟨rfl, by decide, by decide, by decide +kernel⟩ (c_checkIndex l c0 5 hst) ⟨rfl, rfl, Nat.le_of_ble_eq_true rfl, Nat.le_of_ble_eq_true rfl⟩ (ps bl_GZ (bGZ hX.2.2 hZ)) (n := 2) (As := [.int c0, .int 5]) (rest := []) rfl hl.1 rfl (Nat.le_of_ble_eq_true rfl) ⟨Nat.le_of_ble_eq_true rfl, Nat.le_of_ble_eq_true rfl⟩ dX3_move_10) ht hlocks (by rintro x ⟨rfl, hf3⟩; simp [eX_move, p1, p2, hf3, exN]) (Nat.le_of_ble_eq_true rfl) (Nat.le_of_ble_eq_true rfl) (fun (p3 : ckI c0 5 = true) => ?_)
  refine lv_iload_n hx hb dX3_move_13 rfl (lv_at hl 1 rfl) ?_
  refine lv_iload_n hx hb dX3_move_14 rfl (lv_at hl 2 rfl) ?_
  refine lv_icmp_ne (tgt := 28) hx hb dX3_move_15 (by decide) (fun c15_4 => ?_) (fun c15_4 => ?_)
  · have bc15_4 := c15_4
    refine lv_iload hx hb dX3_move_28 (lv_at hl 4 rfl) ?_
    refine lv_iconst (v := 1) hx hb dX3_move_30 (by decide) ?_
    refine lv_sipush (v := 1000) hx hb dX3_move_31 (by decide) ?_
    refine q_xv (rx_S S ⟨m_303, m_304, m_35, m_305⟩ ⟨rfl, by decide, by decide, by decide +kernel⟩ (c_checkRange l d0 1 1000 hst) ⟨rfl, rfl, Nat.le_of_ble_eq_true rfl, Nat.le_of_ble_eq_true rfl⟩ (ps bl_GZ (bGZ hX.2.2 hZ)) (n := 3) (As := [.int d0, .int 1, .int 1000]) (rest := []) rfl hl.1 rfl (Nat.le_of_ble_eq_true rfl) ⟨Nat.le_of_ble_eq_true rfl, Nat.le_of_ble_eq_true rfl⟩ dX3_move_34) ht hlocks (by rintro x ⟨rfl, hf5⟩; simp [eX_move, p1, p2, p3, c15_4, hf5, exN]) (Nat.le_of_ble_eq_true rfl) (Nat.le_of_ble_eq_true rfl) (fun (p5 : ckR d0 1 1000 = true) => ?_)
    refine lv_iload hx hb dX3_move_37 (lv_at hl 5 rfl) ?_
    refine lv_iconst (v := 0) hx hb dX3_move_39 (by decide) ?_
    refine lv_aload_n hx hb dX3_move_40 rfl (lv_at hl 0 rfl) ?_
    refine k_get S hX.2 hX.1 0 (C := RX3) (T := TX3) (N := 6) rfl rfl 5 (by decide) inX3 m_149 rfl dX3_move_41 ?_
    refine q_xv (rx_S S ⟨m_303, m_304, m_35, m_305⟩ ⟨rfl, by decide, by decide, by decide +kernel⟩ (c_checkRange l e0 0 (σ 16 0) hst) ⟨rfl, rfl, Nat.le_of_ble_eq_true rfl, Nat.le_of_ble_eq_true rfl⟩ (ps bl_GZ (bGZ hX.2.2 hZ)) (n := 3) (As := [.int e0, .int 0, .int (σ 16 0)]) (rest := []) rfl hl.1 rfl (Nat.le_of_ble_eq_true rfl) ⟨Nat.le_of_ble_eq_true rfl, Nat.le_of_ble_eq_true rfl⟩ dX3_move_44) ht hlocks (by rintro x ⟨rfl, hf6⟩; simp [eX_move, p1, p2, p3, c15_4, p5, hf6, exN]) (Nat.le_of_ble_eq_true rfl) (Nat.le_of_ble_eq_true rfl) (fun (p6 : ckR e0 0 (σ 16 0) = true) => ?_)
    refine lv_aload_n hx hb dX3_move_47 rfl (lv_at hl 0 rfl) ?_
    refine k_get S hX.2 hX.1 0 (C := RX3) (T := TX3) (N := 6) rfl rfl 2 (by decide) inX3 m_146 rfl dX3_move_48 ?_
    refine k_getN S hX.2 hX.1 3 (C := RX1) (T := TX1) (N := 6) rfl rfl 5 (by decide) inX1 n_70 rfl dX3_move_51 ?_
    refine lv_sipush (v := 200) hx hb dX3_move_54 (by decide) ?_
    refine lv_icmp_lt (tgt := 70) hx hb dX3_move_57 (by decide) (fun c57_7 => ?_) (fun c57_7 => ?_)
    · have bc57_7 := lt_nle c57_7
      have hnm3 : nm < 200 := by
        have h9 := c57_7
        rw [hnm, show (200 : Int32) = nI 200 from rfl, nI_ltI (by omega) (by omega)] at h9
        exact h9
      refine lv_aload_n hx hb dX3_move_70 rfl (lv_at hl 0 rfl) ?_
      refine k_get S hX.2 hX.1 0 (C := RX3) (T := TX3) (N := 6) rfl rfl 2 (by decide) inX3 m_146 rfl dX3_move_71 ?_
      refine lv_iload_n hx hb dX3_move_74 rfl (lv_at hl 1 rfl) ?_
      refine lv_iload_n hx hb dX3_move_75 rfl (lv_at hl 2 rfl) ?_
      refine lv_iload_n hx hb dX3_move_76 rfl (lv_at hl 3 rfl) ?_
      refine lv_iload hx hb dX3_move_77 (lv_at hl 4 rfl) ?_
      refine lv_iload hx hb dX3_move_79 (lv_at hl 5 rfl) ?_
      refine q_w (r_VN S hX.2.2 ⟨n_358, m_360, m_10, m_36, m_361⟩ ⟨rfl, by decide, by decide, by decide +kernel⟩ (c_moveAdd l G ad σ nm a0 b0 c0 d0 e0 hnm hnm3 A hD) ⟨rfl, rfl, Nat.le_of_ble_eq_true rfl, Nat.le_of_ble_eq_true rfl⟩ (pv_X hX 3 rfl rfl bl_PX (bX hX)) (n := 5) (As := [.int a0, .int b0, .int c0, .int d0, .int e0]) (rest := []) rfl hl.1 rfl (Nat.le_of_ble_eq_true rfl) ⟨Nat.le_of_ble_eq_true rfl, Nat.le_of_ble_eq_true rfl⟩ dX3_move_81) hS0 (fun _ h => h) (fun r8 H8 L8 (e8 : r8 = nI nm) h8 _ _ hS8 => ?_)
      subst e8
      have hX8 : PX G ad (mvS σ nm a0 b0 c0 d0 e0) s H8 := ⟨h8, hX.2⟩
      refine W.widen (k := 6) (n := 36) (Nat.le_of_ble_eq_true rfl) (Nat.le_of_ble_eq_true rfl) ?_
      refine vx_ret ?_
      exact W.iret (v := nI nm) hx hb hr (fun t ht hW => ⟨⟨_, rfl, (by simp [eX_move, p1, p2, p3, c15_4, p5, p6, c57_7, bc57_7])⟩, (by have e9 : mvS σ nm a0 b0 c0 d0 e0 = mvS σ nm a0 b0 c0 d0 e0 := (by first | rfl | simp [eX_move]); show va_P G.1 vwCl (wX G ad (mvS σ nm a0 b0 c0 d0 e0)) t.heap; rw [e9, ht]; exact hX8.1), hS8.F ht⟩) hS8.2.2 dX3_move_84
    · have bc57_7 := nlt_le c57_7
      exact k_thr S hG hZ hst at_IS m_342 m_46 (by decide +kernel) n_351 hl.1 ht hlocks ⟨Nat.le_of_ble_eq_true rfl, Nat.le_of_ble_eq_true rfl⟩ ⟨Nat.le_of_ble_eq_true rfl, Nat.le_of_ble_eq_true rfl⟩ ⟨Nat.le_of_ble_eq_true rfl, Nat.le_of_ble_eq_true rfl⟩ (Nat.le_of_ble_eq_true rfl) (by simp [eX_move, p1, p2, p3, c15_4, p5, p6, c57_7, bc57_7, exN]) dX3_move_60 dX3_move_63 dX3_move_64 dX3_move_66 dX3_move_69
  · have bc15_4 := c15_4
    exact k_thr S hG hZ hst at_IA m_306 m_45 (by decide +kernel) n_341 hl.1 ht hlocks ⟨Nat.le_of_ble_eq_true rfl, Nat.le_of_ble_eq_true rfl⟩ ⟨Nat.le_of_ble_eq_true rfl, Nat.le_of_ble_eq_true rfl⟩ ⟨Nat.le_of_ble_eq_true rfl, Nat.le_of_ble_eq_true rfl⟩ (Nat.le_of_ble_eq_true rfl) (by simp [eX_move, p1, p2, p3, c15_4, exN]) dX3_move_18 dX3_move_21 dX3_move_22 dX3_move_24 dX3_move_27

set_option maxHeartbeats 4000000 in
set_option maxRecDepth 100000 in
theorem c_pass (l : Launch) (G : kG) (ad : Nat → Nat) (σ : kS) (nm ns : Nat) (a0 : Int32) (hst : l.stackTraces = false) (hns : σ 18 0 = nI ns) (hns4 : ns ≤ 40) (hnm : σ 17 0 = nI nm) (hnm2 : nm ≤ 200) (A : Nat → Prop) (hD : DD 20 A ad)  : vx_Met l yX3_pass [.code yX3_pass cX3_pass 2 (some .int)] ({ frames := 7, cells := 1, slots := 6, locals := 114 }) (va_Pc [.ref (ad 0), .int a0] (fun U => PX G ad σ U U.heap ∧ ZS U U.heap)) (oW A (fun r => eX_pass a0 = 0 ∧ r = σ 16 0 + a0) (fun H9 => va_P G.1 vwCl (wX G ad (su σ 16 0 (σ 16 0 + a0))) H9)) (tX (fun x => eX_pass a0 ≠ 0 ∧ x = exN (eX_pass a0))) 1 6 A := by
  refine kx_of (by decide) (Nat.le_of_ble_eq_true rfl) (fun U h => h.1.2.2) ?_
  intro p e s m below meth c ls S hr hlocks ht hB hl
  have hx := S.1
  have hb := S.2.1
  have hX : PX G ad σ s s.heap := hB.1
  have hG : GL s := hX.2.2
  have hZ : ZS s s.heap := hB.2
  have hl : lv_has ls 2 [(0, .ref (ad 0)), (1, .int a0)] := hl
  have hS0 : va_S A s.heap s.heap [] := va_S.rf
  refine lv_iload_n hx hb dX3_pass_0 rfl (lv_at hl 1 rfl) ?_
  refine lv_iconst (v := 1) hx hb dX3_pass_1 (by decide) ?_
  refine lv_sipush (v := 1000) hx hb dX3_pass_2 (by decide) ?_
  refine q_xv (rx_S S ⟨m_303, m_304, m_35, m_305⟩ ⟨rfl, by decide, by decide, by decide +kernel⟩ (c_checkRange l a0 1 1000 hst) ⟨rfl, rfl, Nat.le_of_ble_eq_true rfl, Nat.le_of_ble_eq_true rfl⟩ (ps bl_GZ (bGZ hX.2.2 hZ)) (n := 3) (As := [.int a0, .int 1, .int 1000]) (rest := []) rfl hl.1 rfl (Nat.le_of_ble_eq_true rfl) ⟨Nat.le_of_ble_eq_true rfl, Nat.le_of_ble_eq_true rfl⟩ dX3_pass_5) ht hlocks (by rintro x ⟨rfl, hf1⟩; simp [eX_pass, hf1, exN]) (Nat.le_of_ble_eq_true rfl) (Nat.le_of_ble_eq_true rfl) (fun (p1 : ckR a0 1 1000 = true) => ?_)
  refine lv_aload_n hx hb dX3_pass_8 rfl (lv_at hl 0 rfl) ?_
  refine lv_dup hx hb dX3_pass_9 rfl ?_
  refine k_get S hX.2 hX.1 0 (C := RX3) (T := TX3) (N := 6) rfl rfl 5 (by decide) inX3 m_149 rfl dX3_pass_10 ?_
  refine lv_iload_n hx hb dX3_pass_13 rfl (lv_at hl 1 rfl) ?_
  refine lv_iadd hx hb dX3_pass_14 ?_
  refine k_put S hX.2 hX.1 (hD.w (wX_fst _ _ _)) hS0 0 (C := RX3) (T := TX3) (N := 6) rfl rfl 5 (by decide) inX3 tyX3 tyX3_ok nmX3 rfl rfl m_149 (Nat.le_of_ble_eq_true rfl) dX3_pass_15 (fun H2 L2 h2 hS2 => ?_)
  have hX2 : PX G ad (su σ 16 0 ((σ 16 0) + a0)) s H2 := ⟨h2, hX.2⟩
  refine lv_aload_n hx hb dX3_pass_18 rfl (lv_at hl 0 rfl) ?_
  refine k_get S hX2.2 hX2.1 0 (C := RX3) (T := TX3) (N := 6) rfl rfl 5 (by decide) inX3 m_149 rfl dX3_pass_19 ?_
  refine k_eq (y := (σ 16 0) + a0) (by rfl) ?_
  refine k_eq (y := σ 16 0 + a0) (rfl) ?_
  refine vx_ret ?_
  exact W.iret (v := σ 16 0 + a0) hx hb hr (fun t ht hW => ⟨⟨_, rfl, (by simp [eX_pass, p1])⟩, (by have e9 : su σ 16 0 (σ 16 0 + a0) = su σ 16 0 ((σ 16 0) + a0) := (by first | rfl | simp [eX_pass]); show va_P G.1 vwCl (wX G ad (su σ 16 0 (σ 16 0 + a0))) t.heap; rw [e9, ht]; exact hX2.1), hS2.F ht⟩) hS2.2.2 dX3_pass_22

set_option maxHeartbeats 4000000 in
set_option maxRecDepth 100000 in
theorem c_open (l : Launch) (G : kG) (ad : Nat → Nat) (σ : kS) (nm ns : Nat) (a0 : Int32) (hst : l.stackTraces = false) (hns : σ 18 0 = nI ns) (hns4 : ns ≤ 40) (hnm : σ 17 0 = nI nm) (hnm2 : nm ≤ 200) (A : Nat → Prop) (hD : DD 20 A ad)  : vx_Met l yX3_open [.code yX3_open cX3_open 2 (some .int)] ({ frames := 7, cells := 2, slots := 12, locals := 113 }) (va_Pc [.ref (ad 0), .int a0] (fun U => PX G ad σ U U.heap ∧ ZS U U.heap)) (oW A (fun r => eX_open σ ns a0 = 0 ∧ r = nI ns) (fun H9 => va_P G.1 vwCl (wX G ad (shS σ ns a0 (σ 16 0))) H9)) (tX (fun x => eX_open σ ns a0 ≠ 0 ∧ x = exN (eX_open σ ns a0))) 2 12 A := by
  refine kx_of (by decide) (Nat.le_of_ble_eq_true rfl) (fun U h => h.1.2.2) ?_
  intro p e s m below meth c ls S hr hlocks ht hB hl
  have hx := S.1
  have hb := S.2.1
  have hX : PX G ad σ s s.heap := hB.1
  have hG : GL s := hX.2.2
  have hZ : ZS s s.heap := hB.2
  have hl : lv_has ls 2 [(0, .ref (ad 0)), (1, .int a0)] := hl
  have hS0 : va_S A s.heap s.heap [] := va_S.rf
  refine lv_iload_n hx hb dX3_open_0 rfl (lv_at hl 1 rfl) ?_
  refine lv_bipush (v := 12) hx hb dX3_open_1 (by decide) ?_
  refine q_xv (rx_S S ⟨m_231, m_232, m_35, m_233⟩ ⟨rfl, by decide, by decide, by decide +kernel⟩ (c_checkIndex l a0 12 hst) ⟨rfl, rfl, Nat.le_of_ble_eq_true rfl, Nat.le_of_ble_eq_true rfl⟩ (ps bl_GZ (bGZ hX.2.2 hZ)) (n := 2) (As := [.int a0, .int 12]) (rest := []) rfl hl.1 rfl (Nat.le_of_ble_eq_true rfl) ⟨Nat.le_of_ble_eq_true rfl, Nat.le_of_ble_eq_true rfl⟩ dX3_open_3) ht hlocks (by rintro x ⟨rfl, hf1⟩; simp [eX_open, hf1, exN]) (Nat.le_of_ble_eq_true rfl) (Nat.le_of_ble_eq_true rfl) (fun (p1 : ckI a0 12 = true) => ?_)
  refine lv_aload_n hx hb dX3_open_6 rfl (lv_at hl 0 rfl) ?_
  refine k_get S hX.2 hX.1 0 (C := RX3) (T := TX3) (N := 6) rfl rfl 3 (by decide) inX3 m_147 rfl dX3_open_7 ?_
  refine lv_iload_n hx hb dX3_open_10 rfl (lv_at hl 1 rfl) ?_
  refine q_i (r_VN S hX.2.2 ⟨n_175, m_177, m_0, m_37, m_178⟩ ⟨rfl, by decide, by decide, by decide +kernel⟩ (c_isOpenFor l G ad σ ns a0 hns hns4) ⟨rfl, rfl, Nat.le_of_ble_eq_true rfl, Nat.le_of_ble_eq_true rfl⟩ (pv_X hX 4 rfl rfl bl_PX (bX hX)) (n := 1) (As := [.int a0]) (rest := []) rfl hl.1 rfl (Nat.le_of_ble_eq_true rfl) ⟨Nat.le_of_ble_eq_true rfl, Nat.le_of_ble_eq_true rfl⟩ dX3_open_11) (fun r2 (e2 : r2 = bI (opB σ a0 ns)) => ?_)
  subst e2
  refine lv_if_eq (tgt := 27) hx hb dX3_open_14 (by decide) (fun c14_3 => ?_) (fun c14_3 => ?_)
  · have bc14_3 := bI_0 c14_3
    refine lv_aload_n hx hb dX3_open_27 rfl (lv_at hl 0 rfl) ?_
    refine k_get S hX.2 hX.1 0 (C := RX3) (T := TX3) (N := 6) rfl rfl 3 (by decide) inX3 m_147 rfl dX3_open_28 ?_
    refine k_getN S hX.2 hX.1 4 (C := RX2) (T := TX2) (N := 4) rfl rfl 3 (by decide) inX2 n_98 rfl dX3_open_31 ?_
    refine lv_bipush (v := 40) hx hb dX3_open_34 (by decide) ?_
    refine lv_icmp_lt (tgt := 49) hx hb dX3_open_36 (by decide) (fun c36_4 => ?_) (fun c36_4 => ?_)
    · have bc36_4 := lt_nle c36_4
      have hns5 : ns < 40 := by
        have h9 := c36_4
        rw [hns, show (40 : Int32) = nI 40 from rfl, nI_ltI (by omega) (by omega)] at h9
        exact h9
      refine lv_aload_n hx hb dX3_open_49 rfl (lv_at hl 0 rfl) ?_
      refine k_get S hX.2 hX.1 0 (C := RX3) (T := TX3) (N := 6) rfl rfl 3 (by decide) inX3 m_147 rfl dX3_open_50 ?_
      refine lv_iload_n hx hb dX3_open_53 rfl (lv_at hl 1 rfl) ?_
      refine lv_aload_n hx hb dX3_open_54 rfl (lv_at hl 0 rfl) ?_
      refine k_get S hX.2 hX.1 0 (C := RX3) (T := TX3) (N := 6) rfl rfl 5 (by decide) inX3 m_149 rfl dX3_open_55 ?_
      refine q_w (r_VN S hX.2.2 ⟨n_378, m_380, m_11, m_37, m_381⟩ ⟨rfl, by decide, by decide, by decide +kernel⟩ (c_sheetAdd l G ad σ ns a0 (σ 16 0) hns hns5 A hD) ⟨rfl, rfl, Nat.le_of_ble_eq_true rfl, Nat.le_of_ble_eq_true rfl⟩ (pv_X hX 4 rfl rfl bl_PX (bX hX)) (n := 2) (As := [.int a0, .int (σ 16 0)]) (rest := []) rfl hl.1 rfl (Nat.le_of_ble_eq_true rfl) ⟨Nat.le_of_ble_eq_true rfl, Nat.le_of_ble_eq_true rfl⟩ dX3_open_58) hS0 (fun _ h => h) (fun r5 H5 L5 (e5 : r5 = nI ns) h5 _ _ hS5 => ?_)
      subst e5
      have hX5 : PX G ad (shS σ ns a0 (σ 16 0)) s H5 := ⟨h5, hX.2⟩
      refine W.widen (k := 2) (n := 12) (Nat.le_of_ble_eq_true rfl) (Nat.le_of_ble_eq_true rfl) ?_
      refine vx_ret ?_
      exact W.iret (v := nI ns) hx hb hr (fun t ht hW => ⟨⟨_, rfl, (by simp [eX_open, p1, bc14_3, c36_4, bc36_4])⟩, (by have e9 : shS σ ns a0 (σ 16 0) = shS σ ns a0 (σ 16 0) := (by first | rfl | simp [eX_open]); show va_P G.1 vwCl (wX G ad (shS σ ns a0 (σ 16 0))) t.heap; rw [e9, ht]; exact hX5.1), hS5.F ht⟩) hS5.2.2 dX3_open_61
    · have bc36_4 := nlt_le c36_4
      exact k_thr S hG hZ hst at_IS m_342 m_46 (by decide +kernel) n_377 hl.1 ht hlocks ⟨Nat.le_of_ble_eq_true rfl, Nat.le_of_ble_eq_true rfl⟩ ⟨Nat.le_of_ble_eq_true rfl, Nat.le_of_ble_eq_true rfl⟩ ⟨Nat.le_of_ble_eq_true rfl, Nat.le_of_ble_eq_true rfl⟩ (Nat.le_of_ble_eq_true rfl) (by simp [eX_open, p1, bc14_3, c36_4, bc36_4, exN]) dX3_open_39 dX3_open_42 dX3_open_43 dX3_open_45 dX3_open_48
  · have bc14_3 := bI_n c14_3
    exact k_thr S hG hZ hst at_IS m_342 m_46 (by decide +kernel) n_376 hl.1 ht hlocks ⟨Nat.le_of_ble_eq_true rfl, Nat.le_of_ble_eq_true rfl⟩ ⟨Nat.le_of_ble_eq_true rfl, Nat.le_of_ble_eq_true rfl⟩ ⟨Nat.le_of_ble_eq_true rfl, Nat.le_of_ble_eq_true rfl⟩ (Nat.le_of_ble_eq_true rfl) (by simp [eX_open, p1, bc14_3, exN]) dX3_open_17 dX3_open_20 dX3_open_21 dX3_open_23 dX3_open_26

set_option maxHeartbeats 4000000 in
set_option maxRecDepth 100000 in
theorem c_count (l : Launch) (G : kG) (ad : Nat → Nat) (σ : kS) (nm ns : Nat) (a0 b0 c0 d0 : Int32) (hst : l.stackTraces = false) (hns : σ 18 0 = nI ns) (hns4 : ns ≤ 40) (hnm : σ 17 0 = nI nm) (hnm2 : nm ≤ 200) (A : Nat → Prop) (hD : DD 20 A ad)  : vx_Met l yX3_count [.code yX3_count cX3_count 6 (some .boolean)] ({ frames := 7, cells := 5, slots := 30, locals := 114 }) (va_Pc [.ref (ad 0), .int a0, .int b0, .int c0, .int d0] (fun U => PX G ad σ U U.heap ∧ ZS U U.heap)) (oW A (fun r => eX_count σ a0 b0 c0 d0 = 0 ∧ r = bI (agB (adS σ (lnN a0 c0) b0 d0) (lnN a0 c0))) (fun H9 => va_P G.1 vwCl (wX G ad (adS σ (lnN a0 c0) b0 d0)) H9)) (tX (fun x => eX_count σ a0 b0 c0 d0 ≠ 0 ∧ x = exN (eX_count σ a0 b0 c0 d0))) 5 30 A := by
  refine kx_of (by decide) (Nat.le_of_ble_eq_true rfl) (fun U h => h.1.2.2) ?_
  intro p e s m below meth c ls S hr hlocks ht hB hl
  have hx := S.1
  have hb := S.2.1
  have hX : PX G ad σ s s.heap := hB.1
  have hG : GL s := hX.2.2
  have hZ : ZS s s.heap := hB.2
  have hl : lv_has ls 6 [(0, .ref (ad 0)), (1, .int a0), (2, .int b0), (3, .int c0), (4, .int d0)] := hl
  have hS0 : va_S A s.heap s.heap [] := va_S.rf
  refine lv_iload_n hx hb dX3_count_0 rfl (lv_at hl 1 rfl) ?_
  refine lv_aload_n hx hb dX3_count_1 rfl (lv_at hl 0 rfl) ?_
  refine k_get S hX.2 hX.1 0 (C := RX3) (T := TX3) (N := 6) rfl rfl 3 (by decide) inX3 m_147 rfl dX3_count_2 ?_
  refine k_getN S hX.2 hX.1 4 (C := RX2) (T := TX2) (N := 4) rfl rfl 3 (by decide) inX2 n_98 rfl dX3_count_5 ?_
  refine q_xv (rx_S S ⟨m_231, m_232, m_35, m_233⟩ ⟨rfl, by decide, by decide, by decide +kernel⟩ (c_checkIndex l a0 (σ 18 0) hst) ⟨rfl, rfl, Nat.le_of_ble_eq_true rfl, Nat.le_of_ble_eq_true rfl⟩ (ps bl_GZ (bGZ hX.2.2 hZ)) (n := 2) (As := [.int a0, .int (σ 18 0)]) (rest := []) rfl hl.1 rfl (Nat.le_of_ble_eq_true rfl) ⟨Nat.le_of_ble_eq_true rfl, Nat.le_of_ble_eq_true rfl⟩ dX3_count_8) ht hlocks (by rintro x ⟨rfl, hf1⟩; simp [eX_count, lnN, hf1, exN]) (Nat.le_of_ble_eq_true rfl) (Nat.le_of_ble_eq_true rfl) (fun (p1 : ckI a0 (σ 18 0) = true) => ?_)
  obtain ⟨sh, hsh, rfl⟩ := ckI_nI (n := ns) (by rw [← hns]; exact p1) (by omega)
  have h31sh : sh < 2 ^ 31 := by omega
  refine lv_iload_n hx hb dX3_count_11 rfl (lv_at hl 2 rfl) ?_
  refine lv_bipush (v := 6) hx hb dX3_count_12 (by decide) ?_
  refine q_xv (rx_S S ⟨m_231, m_232, m_35, m_233⟩ ⟨rfl, by decide, by decide, by decide +kernel⟩ (c_checkIndex l b0 6 hst) ⟨rfl, rfl, Nat.le_of_ble_eq_true rfl, Nat.le_of_ble_eq_true rfl⟩ (ps bl_GZ (bGZ hX.2.2 hZ)) (n := 2) (As := [.int b0, .int 6]) (rest := []) rfl hl.1 rfl (Nat.le_of_ble_eq_true rfl) ⟨Nat.le_of_ble_eq_true rfl, Nat.le_of_ble_eq_true rfl⟩ dX3_count_14) ht hlocks (by rintro x ⟨rfl, hf2⟩; simp [eX_count, lnN, ixN_nI h31sh, p1, hf2, exN]) (Nat.le_of_ble_eq_true rfl) (Nat.le_of_ble_eq_true rfl) (fun (p2 : ckI b0 6 = true) => ?_)
  refine lv_iload_n hx hb dX3_count_17 rfl (lv_at hl 3 rfl) ?_
  refine lv_iconst (v := 5) hx hb dX3_count_18 (by decide) ?_
  refine q_xv (rx_S S ⟨m_231, m_232, m_35, m_233⟩ ⟨rfl, by decide, by decide, by decide +kernel⟩ (c_checkIndex l c0 5 hst) ⟨rfl, rfl, Nat.le_of_ble_eq_true rfl, Nat.le_of_ble_eq_true rfl⟩ (ps bl_GZ (bGZ hX.2.2 hZ)) (n := 2) (As := [.int c0, .int 5]) (rest := []) rfl hl.1 rfl (Nat.le_of_ble_eq_true rfl) ⟨Nat.le_of_ble_eq_true rfl, Nat.le_of_ble_eq_true rfl⟩ dX3_count_19) ht hlocks (by rintro x ⟨rfl, hf3⟩; simp [eX_count, lnN, ixN_nI h31sh, p1, p2, hf3, exN]) (Nat.le_of_ble_eq_true rfl) (Nat.le_of_ble_eq_true rfl) (fun (p3 : ckI c0 5 = true) => ?_)
  obtain ⟨ar, har, rfl⟩ := ckI_nI (n := 5) p3 (by decide)
  have h31ar : ar < 2 ^ 31 := by omega
  refine lv_iload hx hb dX3_count_22 (lv_at hl 4 rfl) ?_
  refine lv_iconst (v := 0) hx hb dX3_count_24 (by decide) ?_
  refine lv_ldc (v := 100000) hx hb S.2.2.2.1 (S.2.2.2.2 _ m_389) dX3_count_25 ?_
  refine q_xv (rx_S S ⟨m_303, m_304, m_35, m_305⟩ ⟨rfl, by decide, by decide, by decide +kernel⟩ (c_checkRange l d0 0 100000 hst) ⟨rfl, rfl, Nat.le_of_ble_eq_true rfl, Nat.le_of_ble_eq_true rfl⟩ (ps bl_GZ (bGZ hX.2.2 hZ)) (n := 3) (As := [.int d0, .int 0, .int 100000]) (rest := []) rfl hl.1 rfl (Nat.le_of_ble_eq_true rfl) ⟨Nat.le_of_ble_eq_true rfl, Nat.le_of_ble_eq_true rfl⟩ dX3_count_27) ht hlocks (by rintro x ⟨rfl, hf4⟩; simp [eX_count, lnN, ixN_nI h31sh, ixN_nI h31ar, p1, p2, p3, hf4, exN]) (Nat.le_of_ble_eq_true rfl) (Nat.le_of_ble_eq_true rfl) (fun (p4 : ckR d0 0 100000 = true) => ?_)
  refine lv_iload_n hx hb dX3_count_30 rfl (lv_at hl 1 rfl) ?_
  refine lv_iload_n hx hb dX3_count_31 rfl (lv_at hl 3 rfl) ?_
  refine q_i (r_S S ⟨m_200, m_201, m_35, m_202⟩ ⟨rfl, by decide, by decide, by decide +kernel⟩ (c_lineOf l sh ar) ⟨rfl, rfl, Nat.le_of_ble_eq_true rfl, Nat.le_of_ble_eq_true rfl⟩ (ps bl_GL (bG hX.2.2)) (n := 2) (As := [.int (nI sh), .int (nI ar)]) (rest := []) rfl hl.1 rfl (Nat.le_of_ble_eq_true rfl) ⟨Nat.le_of_ble_eq_true rfl, Nat.le_of_ble_eq_true rfl⟩ dX3_count_32) (fun r5 (e5 : r5 = nI (sh * 5 + ar)) => ?_)
  subst e5
  refine lv_istore (lv' := [(5, .int (nI (sh * 5 + ar))), (0, .ref (ad 0)), (1, .int (nI sh)), (2, .int b0), (3, .int (nI ar)), (4, .int d0)]) hx hb dX3_count_35 hl (by decide) rfl (fun ls hl => ?_)
  refine lv_aload_n hx hb dX3_count_37 rfl (lv_at hl 1 rfl) ?_
  refine k_get S hX.2 hX.1 0 (C := RX3) (T := TX3) (N := 6) rfl rfl 3 (by decide) inX3 m_147 rfl dX3_count_38 ?_
  refine k_getN S hX.2 hX.1 4 (C := RX2) (T := TX2) (N := 4) rfl rfl 2 (by decide) inX2 n_96 rfl dX3_count_41 ?_
  refine lv_iload_n hx hb dX3_count_44 rfl (lv_at hl 2 rfl) ?_
  refine k_zld S hX.2 hX.1 13 (i := sh) rfl (by omega) (by decide) dX3_count_45 ?_
  refine lv_if_eq (tgt := 59) hx hb dX3_count_46 (by decide) (fun c46_6 => ?_) (fun c46_6 => ?_)
  · have bc46_6 := c46_6
    refine lv_aload_n hx hb dX3_count_59 rfl (lv_at hl 1 rfl) ?_
    refine k_get S hX.2 hX.1 0 (C := RX3) (T := TX3) (N := 6) rfl rfl 4 (by decide) inX3 m_148 rfl dX3_count_60 ?_
    refine lv_iload hx hb dX3_count_63 (lv_at hl 0 rfl) ?_
    refine q_i (r_VN S hX.2.2 ⟨n_391, m_393, m_12, m_38, m_394⟩ ⟨rfl, by decide, by decide, by decide +kernel⟩ (c_agrees l G ad σ (sh * 5 + ar) (by omega)) ⟨rfl, rfl, Nat.le_of_ble_eq_true rfl, Nat.le_of_ble_eq_true rfl⟩ (pv_X hX 5 rfl rfl bl_PX (bX hX)) (n := 1) (As := [.int (nI (sh * 5 + ar))]) (rest := []) rfl hl.1 rfl (Nat.le_of_ble_eq_true rfl) ⟨Nat.le_of_ble_eq_true rfl, Nat.le_of_ble_eq_true rfl⟩ dX3_count_65) (fun r7 (e7 : r7 = bI (agB σ (sh * 5 + ar))) => ?_)
    subst e7
    refine lv_if_eq (tgt := 81) hx hb dX3_count_68 (by decide) (fun c68_8 => ?_) (fun c68_8 => ?_)
    · have bc68_8 := bI_0 c68_8
      refine lv_aload_n hx hb dX3_count_81 rfl (lv_at hl 1 rfl) ?_
      refine k_get S hX.2 hX.1 0 (C := RX3) (T := TX3) (N := 6) rfl rfl 4 (by decide) inX3 m_148 rfl dX3_count_82 ?_
      refine lv_iload hx hb dX3_count_85 (lv_at hl 0 rfl) ?_
      refine lv_iload_n hx hb dX3_count_87 rfl (lv_at hl 3 rfl) ?_
      refine q_i (r_VN S hX.2.2 ⟨n_396, m_398, m_13, m_38, m_399⟩ ⟨rfl, by decide, by decide, by decide +kernel⟩ (c_isCountedBy l G ad σ (sh * 5 + ar) b0 (by omega)) ⟨rfl, rfl, Nat.le_of_ble_eq_true rfl, Nat.le_of_ble_eq_true rfl⟩ (pv_X hX 5 rfl rfl bl_PX (bX hX)) (n := 2) (As := [.int (nI (sh * 5 + ar)), .int b0]) (rest := []) rfl hl.1 rfl (Nat.le_of_ble_eq_true rfl) ⟨Nat.le_of_ble_eq_true rfl, Nat.le_of_ble_eq_true rfl⟩ dX3_count_88) (fun r9 (e9 : r9 = bI (cbB σ (sh * 5 + ar) b0)) => ?_)
      subst e9
      refine lv_if_eq (tgt := 104) hx hb dX3_count_91 (by decide) (fun c91_10 => ?_) (fun c91_10 => ?_)
      · have bc91_10 := bI_0 c91_10
        refine lv_aload_n hx hb dX3_count_104 rfl (lv_at hl 1 rfl) ?_
        refine k_get S hX.2 hX.1 0 (C := RX3) (T := TX3) (N := 6) rfl rfl 4 (by decide) inX3 m_148 rfl dX3_count_105 ?_
        refine lv_iload hx hb dX3_count_108 (lv_at hl 0 rfl) ?_
        refine lv_iload_n hx hb dX3_count_110 rfl (lv_at hl 3 rfl) ?_
        refine lv_iload hx hb dX3_count_111 (lv_at hl 5 rfl) ?_
        refine q_wv (r_VN S hX.2.2 ⟨n_401, m_403, m_14, m_38, m_404⟩ ⟨rfl, by decide, by decide, by decide +kernel⟩ (c_lineAdd l G ad σ (sh * 5 + ar) b0 d0 (by omega) A hD) ⟨rfl, rfl, Nat.le_of_ble_eq_true rfl, Nat.le_of_ble_eq_true rfl⟩ (pv_X hX 5 rfl rfl bl_PX (bX hX)) (n := 3) (As := [.int (nI (sh * 5 + ar)), .int b0, .int d0]) (rest := []) rfl hl.1 rfl (Nat.le_of_ble_eq_true rfl) ⟨Nat.le_of_ble_eq_true rfl, Nat.le_of_ble_eq_true rfl⟩ dX3_count_113) hS0 (fun _ h => h) (fun H11 L11 _ h11 _ _ hS11 => ?_)
        have hX11 : PX G ad (adS σ (sh * 5 + ar) b0 d0) s H11 := ⟨h11, hX.2⟩
        refine lv_aload_n hx hb dX3_count_116 rfl (lv_at hl 1 rfl) ?_
        refine k_get S hX11.2 hX11.1 0 (C := RX3) (T := TX3) (N := 6) rfl rfl 4 (by decide) inX3 m_148 rfl dX3_count_117 ?_
        refine lv_iload hx hb dX3_count_120 (lv_at hl 0 rfl) ?_
        refine q_i (r_VN S hX11.2.2 ⟨n_391, m_393, m_12, m_38, m_394⟩ ⟨rfl, by decide, by decide, by decide +kernel⟩ (c_agrees l G ad (adS σ (sh * 5 + ar) b0 d0) (sh * 5 + ar) (by omega)) ⟨rfl, rfl, Nat.le_of_ble_eq_true rfl, Nat.le_of_ble_eq_true rfl⟩ (pv_X hX11 5 rfl rfl bl_PX (bX hX11)) (n := 1) (As := [.int (nI (sh * 5 + ar))]) (rest := []) rfl hl.1 rfl (Nat.le_of_ble_eq_true rfl) ⟨Nat.le_of_ble_eq_true rfl, Nat.le_of_ble_eq_true rfl⟩ dX3_count_122) (fun r12 (e12 : r12 = bI (agB (adS σ (sh * 5 + ar) b0 d0) (sh * 5 + ar))) => ?_)
        subst e12
        refine W.widen (k := 5) (n := 30) (Nat.le_of_ble_eq_true rfl) (Nat.le_of_ble_eq_true rfl) ?_
        refine vx_ret ?_
        exact W.zret (v := bI (agB (adS σ (sh * 5 + ar) b0 d0) (sh * 5 + ar))) (ty := .boolean) hx hb hr (by first | rfl | exact bI_nar _) (fun t ht hW => ⟨⟨_, rfl, (by simp [eX_count, lnN, ixN_nI h31sh, ixN_nI h31ar, p1, p2, p3, p4, c46_6, bc68_8, bc91_10])⟩, (by have e9 : adS σ (lnN (nI sh) (nI ar)) b0 d0 = adS σ (sh * 5 + ar) b0 d0 := (by first | rfl | simp [eX_count, lnN, ixN_nI h31sh, ixN_nI h31ar]); show va_P G.1 vwCl (wX G ad (adS σ (lnN (nI sh) (nI ar)) b0 d0)) t.heap; rw [e9, ht]; exact hX11.1), hS11.F ht⟩) hS11.2.2 dX3_count_125
      · have bc91_10 := bI_n c91_10
        exact k_thr S hG hZ hst at_IS m_342 m_46 (by decide +kernel) n_400 hl.1 ht hlocks ⟨Nat.le_of_ble_eq_true rfl, Nat.le_of_ble_eq_true rfl⟩ ⟨Nat.le_of_ble_eq_true rfl, Nat.le_of_ble_eq_true rfl⟩ ⟨Nat.le_of_ble_eq_true rfl, Nat.le_of_ble_eq_true rfl⟩ (Nat.le_of_ble_eq_true rfl) (by simp [eX_count, lnN, ixN_nI h31sh, ixN_nI h31ar, p1, p2, p3, p4, c46_6, bc68_8, bc91_10, exN]) dX3_count_94 dX3_count_97 dX3_count_98 dX3_count_100 dX3_count_103
    · have bc68_8 := bI_n c68_8
      exact k_thr S hG hZ hst at_IS m_342 m_46 (by decide +kernel) n_395 hl.1 ht hlocks ⟨Nat.le_of_ble_eq_true rfl, Nat.le_of_ble_eq_true rfl⟩ ⟨Nat.le_of_ble_eq_true rfl, Nat.le_of_ble_eq_true rfl⟩ ⟨Nat.le_of_ble_eq_true rfl, Nat.le_of_ble_eq_true rfl⟩ (Nat.le_of_ble_eq_true rfl) (by simp [eX_count, lnN, ixN_nI h31sh, ixN_nI h31ar, p1, p2, p3, p4, c46_6, bc68_8, exN]) dX3_count_71 dX3_count_74 dX3_count_75 dX3_count_77 dX3_count_80
  · have bc46_6 := c46_6
    exact k_thr S hG hZ hst at_IS m_342 m_46 (by decide +kernel) n_390 hl.1 ht hlocks ⟨Nat.le_of_ble_eq_true rfl, Nat.le_of_ble_eq_true rfl⟩ ⟨Nat.le_of_ble_eq_true rfl, Nat.le_of_ble_eq_true rfl⟩ ⟨Nat.le_of_ble_eq_true rfl, Nat.le_of_ble_eq_true rfl⟩ (Nat.le_of_ble_eq_true rfl) (by simp [eX_count, lnN, ixN_nI h31sh, ixN_nI h31ar, p1, p2, p3, p4, c46_6, exN]) dX3_count_49 dX3_count_52 dX3_count_53 dX3_count_55 dX3_count_58

set_option maxHeartbeats 4000000 in
set_option maxRecDepth 100000 in
theorem c_close (l : Launch) (G : kG) (ad : Nat → Nat) (σ : kS) (nm ns : Nat) (a0 : Int32) (hst : l.stackTraces = false) (hns : σ 18 0 = nI ns) (hns4 : ns ≤ 40) (hnm : σ 17 0 = nI nm) (hnm2 : nm ≤ 200) (A : Nat → Prop) (hD : DD 20 A ad)  : vx_Met l yX3_close [.code yX3_close cX3_close 5 (some .int)] ({ frames := 7, cells := 2, slots := 12, locals := 113 }) (va_Pc [.ref (ad 0), .int a0] (fun U => PX G ad σ U U.heap ∧ ZS U U.heap)) (oW A (fun r => eX_close σ a0 = 0 ∧ r = clA σ (ixN a0) 5) (fun H9 => va_P G.1 vwCl (wX G ad (su σ 9 (ixN a0) 1)) H9)) (tX (fun x => eX_close σ a0 ≠ 0 ∧ x = exN (eX_close σ a0))) 2 12 A := by
  refine kx_of (by decide) (Nat.le_of_ble_eq_true rfl) (fun U h => h.1.2.2) ?_
  intro p e s m below meth c ls S hr hlocks ht hB hl
  have hx := S.1
  have hb := S.2.1
  have hX : PX G ad σ s s.heap := hB.1
  have hG : GL s := hX.2.2
  have hZ : ZS s s.heap := hB.2
  have hl : lv_has ls 5 [(0, .ref (ad 0)), (1, .int a0)] := hl
  have hS0 : va_S A s.heap s.heap [] := va_S.rf
  refine lv_iload_n hx hb dX3_close_0 rfl (lv_at hl 1 rfl) ?_
  refine lv_aload_n hx hb dX3_close_1 rfl (lv_at hl 0 rfl) ?_
  refine k_get S hX.2 hX.1 0 (C := RX3) (T := TX3) (N := 6) rfl rfl 3 (by decide) inX3 m_147 rfl dX3_close_2 ?_
  refine k_getN S hX.2 hX.1 4 (C := RX2) (T := TX2) (N := 4) rfl rfl 3 (by decide) inX2 n_98 rfl dX3_close_5 ?_
  refine q_xv (rx_S S ⟨m_231, m_232, m_35, m_233⟩ ⟨rfl, by decide, by decide, by decide +kernel⟩ (c_checkIndex l a0 (σ 18 0) hst) ⟨rfl, rfl, Nat.le_of_ble_eq_true rfl, Nat.le_of_ble_eq_true rfl⟩ (ps bl_GZ (bGZ hX.2.2 hZ)) (n := 2) (As := [.int a0, .int (σ 18 0)]) (rest := []) rfl hl.1 rfl (Nat.le_of_ble_eq_true rfl) ⟨Nat.le_of_ble_eq_true rfl, Nat.le_of_ble_eq_true rfl⟩ dX3_close_8) ht hlocks (by rintro x ⟨rfl, hf1⟩; simp [eX_close, hf1, exN]) (Nat.le_of_ble_eq_true rfl) (Nat.le_of_ble_eq_true rfl) (fun (p1 : ckI a0 (σ 18 0) = true) => ?_)
  obtain ⟨sh, hsh, rfl⟩ := ckI_nI (n := ns) (by rw [← hns]; exact p1) (by omega)
  have h31sh : sh < 2 ^ 31 := by omega
  refine lv_aload_n hx hb dX3_close_11 rfl (lv_at hl 0 rfl) ?_
  refine k_get S hX.2 hX.1 0 (C := RX3) (T := TX3) (N := 6) rfl rfl 3 (by decide) inX3 m_147 rfl dX3_close_12 ?_
  refine k_getN S hX.2 hX.1 4 (C := RX2) (T := TX2) (N := 4) rfl rfl 2 (by decide) inX2 n_96 rfl dX3_close_15 ?_
  refine lv_iload_n hx hb dX3_close_18 rfl (lv_at hl 1 rfl) ?_
  refine k_zld S hX.2 hX.1 13 (i := sh) rfl (by omega) (by decide) dX3_close_19 ?_
  refine lv_if_eq (tgt := 33) hx hb dX3_close_20 (by decide) (fun c20_2 => ?_) (fun c20_2 => ?_)
  · have bc20_2 := c20_2
    have L37 : ∀ (n i : Nat), i ≤ 5 → 5 + 1 ≤ i + n → clB σ sh i = true → ∀ ls, lv_has ls 5 [(0, .ref (ad 0)), (1, .int (nI sh)), (2, .int (clA σ sh i)), (3, .int (nI i))] → W p l e ({ frames := 7, cells := 2, slots := 12, locals := 113 } : Room) s m [.ref (ad 0), .int (nI sh)].toArray below meth c s.heap [] 1 6 (vx_MQ below (oW A (fun r => eX_close σ (nI sh) = 0 ∧ r = clA σ (ixN (nI sh)) 5) (fun H9 => va_P G.1 vwCl (wX G ad (su σ 9 (ixN (nI sh)) 1)) H9)) (tX (fun x => eX_close σ (nI sh) ≠ 0 ∧ x = exN (eX_close σ (nI sh)))) [.ref (ad 0), .int (nI sh)].toArray s 2 12 A) (F0 m 37 ls []) := by
      intro n
      induction n with
      | zero =>
        intro i h1 h2
        omega
      | succ n ihn =>
        intro i hii hini hcb ls hl
        refine lv_iload_n hx hb dX3_close_37 rfl (lv_at hl 3 rfl) ?_
        refine lv_iconst (v := 5) hx hb dX3_close_38 (by decide) ?_
        refine lv_icmp_ge (tgt := 95) hx hb dX3_close_39 (by decide) (fun c39_3 => ?_) (fun c39_3 => ?_)
        · have bc39_3 := le_nlt c39_3
          have hgei : i = 5 := by
            have h9 := c39_3
            rw [show (5 : Int32) = nI 5 from rfl, nI_leI (by omega) (by omega)] at h9
            omega
          refine lv_aload_n hx hb dX3_close_95 rfl (lv_at hl 0 rfl) ?_
          refine k_get S hX.2 hX.1 0 (C := RX3) (T := TX3) (N := 6) rfl rfl 3 (by decide) inX3 m_147 rfl dX3_close_96 ?_
          refine k_getN S hX.2 hX.1 4 (C := RX2) (T := TX2) (N := 4) rfl rfl 2 (by decide) inX2 n_96 rfl dX3_close_99 ?_
          refine lv_iload_n hx hb dX3_close_102 rfl (lv_at hl 1 rfl) ?_
          refine lv_iconst (v := 1) hx hb dX3_close_103 (by decide) ?_
          refine k_zst S hX.2 hX.1 (hD.w (wX_fst _ _ _)) hS0 13 (i := sh) rfl (by omega) (by decide) rfl dX3_close_104 (fun H4 L4 h4 hS4 => ?_)
          have hX4 : PX G ad (su σ 9 sh 1) s H4 := ⟨h4, hX.2⟩
          refine lv_iload_n hx hb dX3_close_105 rfl (lv_at hl 2 rfl) ?_
          refine W.widen (k := 2) (n := 12) (Nat.le_of_ble_eq_true rfl) (Nat.le_of_ble_eq_true rfl) ?_
          refine vx_ret ?_
          exact W.iret (v := clA σ sh i) hx hb hr (fun t ht hW => ⟨⟨_, rfl, (by subst hgei; simp [eX_close, ixN_nI h31sh, p1, c20_2, c39_3, bc39_3, hcb])⟩, (by have e9 : su σ 9 (ixN (nI sh)) 1 = su σ 9 sh 1 := (by first | rfl | simp [eX_close, ixN_nI h31sh]); show va_P G.1 vwCl (wX G ad (su σ 9 (ixN (nI sh)) 1)) t.heap; rw [e9, ht]; exact hX4.1), hS4.F ht⟩) hS4.2.2 dX3_close_106
        · have bc39_3 := nle_lt c39_3
          have hlti : i < 5 := by
            have h9 := nle_lt c39_3
            rw [show (5 : Int32) = nI 5 from rfl, nI_ltI (by omega) (by omega)] at h9
            exact h9
          refine lv_iload_n hx hb dX3_close_42 rfl (lv_at hl 1 rfl) ?_
          refine lv_iload_n hx hb dX3_close_43 rfl (lv_at hl 3 rfl) ?_
          refine q_i (r_S S ⟨m_200, m_201, m_35, m_202⟩ ⟨rfl, by decide, by decide, by decide +kernel⟩ (c_lineOf l sh i) ⟨rfl, rfl, Nat.le_of_ble_eq_true rfl, Nat.le_of_ble_eq_true rfl⟩ (ps bl_GL (bG hX.2.2)) (n := 2) (As := [.int (nI sh), .int (nI i)]) (rest := []) rfl hl.1 rfl (Nat.le_of_ble_eq_true rfl) ⟨Nat.le_of_ble_eq_true rfl, Nat.le_of_ble_eq_true rfl⟩ dX3_close_44) (fun r5 (e5 : r5 = nI (sh * 5 + i)) => ?_)
          subst e5
          refine lv_istore (lv' := [(4, .int (nI (sh * 5 + i))), (0, .ref (ad 0)), (1, .int (nI sh)), (2, .int (clA σ sh i)), (3, .int (nI i))]) hx hb dX3_close_47 hl (by decide) rfl (fun ls hl => ?_)
          refine lv_aload_n hx hb dX3_close_49 rfl (lv_at hl 1 rfl) ?_
          refine k_get S hX.2 hX.1 0 (C := RX3) (T := TX3) (N := 6) rfl rfl 4 (by decide) inX3 m_148 rfl dX3_close_50 ?_
          refine lv_iload hx hb dX3_close_53 (lv_at hl 0 rfl) ?_
          refine q_i (r_VN S hX.2.2 ⟨n_391, m_393, m_12, m_38, m_394⟩ ⟨rfl, by decide, by decide, by decide +kernel⟩ (c_agrees l G ad σ (sh * 5 + i) (by omega)) ⟨rfl, rfl, Nat.le_of_ble_eq_true rfl, Nat.le_of_ble_eq_true rfl⟩ (pv_X hX 5 rfl rfl bl_PX (bX hX)) (n := 1) (As := [.int (nI (sh * 5 + i))]) (rest := []) rfl hl.1 rfl (Nat.le_of_ble_eq_true rfl) ⟨Nat.le_of_ble_eq_true rfl, Nat.le_of_ble_eq_true rfl⟩ dX3_close_55) (fun r6 (e6 : r6 = bI (agB σ (sh * 5 + i))) => ?_)
          subst e6
          refine lv_if_eq (tgt := 67) hx hb dX3_close_58 (by decide) (fun c58_7 => ?_) (fun c58_7 => ?_)
          · have bc58_7 := bI_0 c58_7
            refine lv_aload_n hx hb dX3_close_67 rfl (lv_at hl 1 rfl) ?_
            refine k_get S hX.2 hX.1 0 (C := RX3) (T := TX3) (N := 6) rfl rfl 4 (by decide) inX3 m_148 rfl dX3_close_68 ?_
            refine lv_iload hx hb dX3_close_71 (lv_at hl 0 rfl) ?_
            refine q_i (r_VN S hX.2.2 ⟨n_429, m_407, m_15, m_38, m_408⟩ ⟨rfl, by decide, by decide, by decide +kernel⟩ (c_countsOn l G ad σ (sh * 5 + i) (by omega)) ⟨rfl, rfl, Nat.le_of_ble_eq_true rfl, Nat.le_of_ble_eq_true rfl⟩ (pv_X hX 5 rfl rfl bl_PX (bX hX)) (n := 1) (As := [.int (nI (sh * 5 + i))]) (rest := []) rfl hl.1 rfl (Nat.le_of_ble_eq_true rfl) ⟨Nat.le_of_ble_eq_true rfl, Nat.le_of_ble_eq_true rfl⟩ dX3_close_73) (fun r8 (e8 : r8 = bc (σ 10 (sh * 5 + i))) => ?_)
            subst e8
            refine lv_if_le (tgt := 89) hx hb dX3_close_76 (by decide) (fun c76_9 => ?_) (fun c76_9 => ?_)
            · have bc76_9 := le_nlt c76_9
              refine lv_iinc (v := nI (i + 1)) (lv' := [(3, .int (nI (i + 1))), (4, .int (nI (sh * 5 + i))), (0, .ref (ad 0)), (1, .int (nI sh)), (2, .int (clA σ sh i))]) hx hb dX3_close_89 hl (k := 4) rfl (nI_1 i) (by decide) rfl (fun ls hl => ?_)
              refine lv_goto (tgt := 37) hx hb dX3_close_92 (by decide) ?_
              have ev10 : clA σ sh i = clA σ sh (i + 1) := by simp [clA, p1, c20_2, c39_3, bc39_3, bc58_7, c76_9, bc76_9]
              rw [ev10] at hl
              exact ihn (i + 1) hlti (by omega) (by simp [clB, hcb, p1, c20_2, c39_3, bc39_3, bc58_7, c76_9, bc76_9]) ls (lv_sub hl [2, 3, 4, 0] rfl)
            · have bc76_9 := nle_lt c76_9
              exact k_thr S hG hZ hst at_IS m_342 m_46 (by decide +kernel) n_430 hl.1 ht hlocks ⟨Nat.le_of_ble_eq_true rfl, Nat.le_of_ble_eq_true rfl⟩ ⟨Nat.le_of_ble_eq_true rfl, Nat.le_of_ble_eq_true rfl⟩ ⟨Nat.le_of_ble_eq_true rfl, Nat.le_of_ble_eq_true rfl⟩ (Nat.le_of_ble_eq_true rfl) (by have h9 : clB σ sh (i + 1) = false := (by simp [clB, hcb, p1, c20_2, c39_3, bc39_3, bc58_7, c76_9, bc76_9]); have h8 := clB_no (by omega : i + 1 ≤ 5) h9; simp [eX_close, ixN_nI h31sh, p1, c20_2, c39_3, bc39_3, bc58_7, c76_9, bc76_9, h8, exN]) dX3_close_79 dX3_close_82 dX3_close_83 dX3_close_85 dX3_close_88
          · have bc58_7 := bI_n c58_7
            refine lv_iinc (v := clA σ sh i + 1) (lv' := [(2, .int (clA σ sh i + 1)), (4, .int (nI (sh * 5 + i))), (0, .ref (ad 0)), (1, .int (nI sh)), (3, .int (nI i))]) hx hb dX3_close_61 hl (k := 3) rfl rfl (by decide) rfl (fun ls hl => ?_)
            refine lv_goto (tgt := 89) hx hb dX3_close_64 (by decide) ?_
            refine lv_iinc (v := nI (i + 1)) (lv' := [(3, .int (nI (i + 1))), (2, .int (clA σ sh i + 1)), (4, .int (nI (sh * 5 + i))), (0, .ref (ad 0)), (1, .int (nI sh))]) hx hb dX3_close_89 hl (k := 4) rfl (nI_1 i) (by decide) rfl (fun ls hl => ?_)
            refine lv_goto (tgt := 37) hx hb dX3_close_92 (by decide) ?_
            have ev11 : clA σ sh i + 1 = clA σ sh (i + 1) := by simp [clA, p1, c20_2, c39_3, bc39_3, bc58_7]
            rw [ev11] at hl
            exact ihn (i + 1) hlti (by omega) (by simp [clB, hcb, p1, c20_2, c39_3, bc39_3, bc58_7]) ls (lv_sub hl [3, 4, 1, 0] rfl)
    refine lv_iconst (v := 0) hx hb dX3_close_33 (by decide) ?_
    refine lv_istore_n (lv' := [(2, .int 0), (0, .ref (ad 0)), (1, .int (nI sh))]) hx hb dX3_close_34 rfl hl (by decide) rfl (fun ls hl => ?_)
    refine lv_iconst (v := 0) hx hb dX3_close_35 (by decide) ?_
    refine lv_istore_n (lv' := [(3, .int 0), (2, .int 0), (0, .ref (ad 0)), (1, .int (nI sh))]) hx hb dX3_close_36 rfl hl (by decide) rfl (fun ls hl => ?_)
    exact L37 6 0 (Nat.zero_le _) (by omega) rfl ls (lv_sub hl [2, 3, 1, 0] rfl)
  · have bc20_2 := c20_2
    exact k_thr S hG hZ hst at_IS m_342 m_46 (by decide +kernel) n_390 hl.1 ht hlocks ⟨Nat.le_of_ble_eq_true rfl, Nat.le_of_ble_eq_true rfl⟩ ⟨Nat.le_of_ble_eq_true rfl, Nat.le_of_ble_eq_true rfl⟩ ⟨Nat.le_of_ble_eq_true rfl, Nat.le_of_ble_eq_true rfl⟩ (Nat.le_of_ble_eq_true rfl) (by simp [eX_close, ixN_nI h31sh, p1, c20_2, exN]) dX3_close_23 dX3_close_26 dX3_close_27 dX3_close_29 dX3_close_32

set_option maxHeartbeats 4000000 in
set_option maxRecDepth 100000 in
theorem c_sign (l : Launch) (G : kG) (ad : Nat → Nat) (σ : kS) (nm ns : Nat) (a0 b0 c0 : Int32) (hst : l.stackTraces = false) (hns : σ 18 0 = nI ns) (hns4 : ns ≤ 40) (hnm : σ 17 0 = nI nm) (hnm2 : nm ≤ 200) (A : Nat → Prop) (hD : DD 20 A ad)  : vx_Met l yX3_sign [.code yX3_sign cX3_sign 5 (some .int)] ({ frames := 7, cells := 5, slots := 30, locals := 157 }) (va_Pc [.ref (ad 0), .int a0, .int b0, .int c0] (fun U => PX G ad σ U U.heap ∧ ZS U U.heap)) (oW A (fun r => eX_sign σ nm ns a0 b0 c0 = 0 ∧ r = gpV σ nm ns (ixN a0) (ixN b0)) (fun H9 => va_P G.1 vwCl (wX G ad (wrS σ (lnN a0 b0) (gpV σ nm ns (ixN a0) (ixN b0)))) H9)) (tX (fun x => eX_sign σ nm ns a0 b0 c0 ≠ 0 ∧ x = exN (eX_sign σ nm ns a0 b0 c0))) 5 30 A := by
  refine kx_of (by decide) (Nat.le_of_ble_eq_true rfl) (fun U h => h.1.2.2) ?_
  intro p e s m below meth c ls S hr hlocks ht hB hl
  have hx := S.1
  have hb := S.2.1
  have hX : PX G ad σ s s.heap := hB.1
  have hG : GL s := hX.2.2
  have hZ : ZS s s.heap := hB.2
  have hl : lv_has ls 5 [(0, .ref (ad 0)), (1, .int a0), (2, .int b0), (3, .int c0)] := hl
  have hS0 : va_S A s.heap s.heap [] := va_S.rf
  refine lv_iload_n hx hb dX3_sign_0 rfl (lv_at hl 1 rfl) ?_
  refine lv_aload_n hx hb dX3_sign_1 rfl (lv_at hl 0 rfl) ?_
  refine k_get S hX.2 hX.1 0 (C := RX3) (T := TX3) (N := 6) rfl rfl 3 (by decide) inX3 m_147 rfl dX3_sign_2 ?_
  refine k_getN S hX.2 hX.1 4 (C := RX2) (T := TX2) (N := 4) rfl rfl 3 (by decide) inX2 n_98 rfl dX3_sign_5 ?_
  refine q_xv (rx_S S ⟨m_231, m_232, m_35, m_233⟩ ⟨rfl, by decide, by decide, by decide +kernel⟩ (c_checkIndex l a0 (σ 18 0) hst) ⟨rfl, rfl, Nat.le_of_ble_eq_true rfl, Nat.le_of_ble_eq_true rfl⟩ (ps bl_GZ (bGZ hX.2.2 hZ)) (n := 2) (As := [.int a0, .int (σ 18 0)]) (rest := []) rfl hl.1 rfl (Nat.le_of_ble_eq_true rfl) ⟨Nat.le_of_ble_eq_true rfl, Nat.le_of_ble_eq_true rfl⟩ dX3_sign_8) ht hlocks (by rintro x ⟨rfl, hf1⟩; simp [eX_sign, lnN, hf1, exN]) (Nat.le_of_ble_eq_true rfl) (Nat.le_of_ble_eq_true rfl) (fun (p1 : ckI a0 (σ 18 0) = true) => ?_)
  obtain ⟨sh, hsh, rfl⟩ := ckI_nI (n := ns) (by rw [← hns]; exact p1) (by omega)
  have h31sh : sh < 2 ^ 31 := by omega
  refine lv_iload_n hx hb dX3_sign_11 rfl (lv_at hl 2 rfl) ?_
  refine lv_iconst (v := 5) hx hb dX3_sign_12 (by decide) ?_
  refine q_xv (rx_S S ⟨m_231, m_232, m_35, m_233⟩ ⟨rfl, by decide, by decide, by decide +kernel⟩ (c_checkIndex l b0 5 hst) ⟨rfl, rfl, Nat.le_of_ble_eq_true rfl, Nat.le_of_ble_eq_true rfl⟩ (ps bl_GZ (bGZ hX.2.2 hZ)) (n := 2) (As := [.int b0, .int 5]) (rest := []) rfl hl.1 rfl (Nat.le_of_ble_eq_true rfl) ⟨Nat.le_of_ble_eq_true rfl, Nat.le_of_ble_eq_true rfl⟩ dX3_sign_13) ht hlocks (by rintro x ⟨rfl, hf2⟩; simp [eX_sign, lnN, ixN_nI h31sh, p1, hf2, exN]) (Nat.le_of_ble_eq_true rfl) (Nat.le_of_ble_eq_true rfl) (fun (p2 : ckI b0 5 = true) => ?_)
  obtain ⟨ar, har, rfl⟩ := ckI_nI (n := 5) p2 (by decide)
  have h31ar : ar < 2 ^ 31 := by omega
  refine lv_iload_n hx hb dX3_sign_16 rfl (lv_at hl 3 rfl) ?_
  refine lv_bipush (v := 6) hx hb dX3_sign_17 (by decide) ?_
  refine q_xv (rx_S S ⟨m_231, m_232, m_35, m_233⟩ ⟨rfl, by decide, by decide, by decide +kernel⟩ (c_checkIndex l c0 6 hst) ⟨rfl, rfl, Nat.le_of_ble_eq_true rfl, Nat.le_of_ble_eq_true rfl⟩ (ps bl_GZ (bGZ hX.2.2 hZ)) (n := 2) (As := [.int c0, .int 6]) (rest := []) rfl hl.1 rfl (Nat.le_of_ble_eq_true rfl) ⟨Nat.le_of_ble_eq_true rfl, Nat.le_of_ble_eq_true rfl⟩ dX3_sign_19) ht hlocks (by rintro x ⟨rfl, hf3⟩; simp [eX_sign, lnN, ixN_nI h31sh, ixN_nI h31ar, p1, p2, hf3, exN]) (Nat.le_of_ble_eq_true rfl) (Nat.le_of_ble_eq_true rfl) (fun (p3 : ckI c0 6 = true) => ?_)
  obtain ⟨pe, hpe, rfl⟩ := ckI_nI (n := 6) p3 (by decide)
  have h31pe : pe < 2 ^ 31 := by omega
  refine lv_aload_n hx hb dX3_sign_22 rfl (lv_at hl 0 rfl) ?_
  refine lv_iload_n hx hb dX3_sign_23 rfl (lv_at hl 1 rfl) ?_
  refine lv_iload_n hx hb dX3_sign_24 rfl (lv_at hl 2 rfl) ?_
  refine q_xv (rx_V S ⟨m_439, m_441, m_16, m_35, m_442⟩ ⟨rfl, by decide, by decide, by decide +kernel⟩ (c_checkAgrees l G ad σ sh ar hst (by omega) (by omega)) ⟨rfl, rfl, Nat.le_of_ble_eq_true rfl, Nat.le_of_ble_eq_true rfl⟩ (pv_X hX 0 rfl rfl bl_PXZ (bXZ hX hZ)) (n := 2) (As := [.int (nI sh), .int (nI ar)]) (rest := []) rfl hl.1 rfl (Nat.le_of_ble_eq_true rfl) ⟨Nat.le_of_ble_eq_true rfl, Nat.le_of_ble_eq_true rfl⟩ dX3_sign_25) ht hlocks (by rintro x ⟨rfl, hf4⟩; simp [eX_sign, lnN, ixN_nI h31sh, ixN_nI h31ar, ixN_nI h31pe, p1, p2, p3, hf4, exN]) (Nat.le_of_ble_eq_true rfl) (Nat.le_of_ble_eq_true rfl) (fun (p4 : agB σ (sh * 5 + ar) = true) => ?_)
  refine lv_aload_n hx hb dX3_sign_28 rfl (lv_at hl 0 rfl) ?_
  refine lv_iload_n hx hb dX3_sign_29 rfl (lv_at hl 1 rfl) ?_
  refine lv_iload_n hx hb dX3_sign_30 rfl (lv_at hl 2 rfl) ?_
  refine q_i (r_V S ⟨m_459, m_461, m_17, m_35, m_462⟩ ⟨rfl, by decide, by decide, by decide +kernel⟩ (c_isSignable l G ad σ sh ar (by omega) (by omega)) ⟨rfl, rfl, Nat.le_of_ble_eq_true rfl, Nat.le_of_ble_eq_true rfl⟩ (pv_X hX 0 rfl rfl bl_PX (bX hX)) (n := 2) (As := [.int (nI sh), .int (nI ar)]) (rest := []) rfl hl.1 rfl (Nat.le_of_ble_eq_true rfl) ⟨Nat.le_of_ble_eq_true rfl, Nat.le_of_ble_eq_true rfl⟩ dX3_sign_31) (fun r5 (e5 : r5 = bI (sgB σ sh ar)) => ?_)
  subst e5
  refine lv_if_ne (tgt := 47) hx hb dX3_sign_34 (by decide) (fun c34_6 => ?_) (fun c34_6 => ?_)
  · have bc34_6 := bI_n c34_6
    refine lv_aload_n hx hb dX3_sign_47 rfl (lv_at hl 0 rfl) ?_
    refine lv_iload_n hx hb dX3_sign_48 rfl (lv_at hl 1 rfl) ?_
    refine lv_iload_n hx hb dX3_sign_49 rfl (lv_at hl 2 rfl) ?_
    refine q_i (r_V S ⟨m_464, m_466, m_18, m_35, m_467⟩ ⟨rfl, by decide, by decide, by decide +kernel⟩ (c_gapOf l G ad σ nm ns sh ar hns hns4 hnm hnm2 (by omega) (by omega)) ⟨rfl, rfl, Nat.le_of_ble_eq_true rfl, Nat.le_of_ble_eq_true rfl⟩ (pv_X hX 0 rfl rfl bl_PX (bX hX)) (n := 2) (As := [.int (nI sh), .int (nI ar)]) (rest := []) rfl hl.1 rfl (Nat.le_of_ble_eq_true rfl) ⟨Nat.le_of_ble_eq_true rfl, Nat.le_of_ble_eq_true rfl⟩ dX3_sign_50) (fun r7 (e7 : r7 = gpV σ nm ns sh ar) => ?_)
    subst e7
    refine lv_istore (lv' := [(4, .int (gpV σ nm ns sh ar)), (0, .ref (ad 0)), (1, .int (nI sh)), (2, .int (nI ar)), (3, .int (nI pe))]) hx hb dX3_sign_53 hl (by decide) rfl (fun ls hl => ?_)
    refine lv_aload_n hx hb dX3_sign_55 rfl (lv_at hl 1 rfl) ?_
    refine k_get S hX.2 hX.1 0 (C := RX3) (T := TX3) (N := 6) rfl rfl 1 (by decide) inX3 m_145 rfl dX3_sign_56 ?_
    refine lv_iload_n hx hb dX3_sign_59 rfl (lv_at hl 4 rfl) ?_
    refine k_ild S hX.2 hX.1 2 (i := pe) rfl (by omega) (by decide) dX3_sign_60 ?_
    refine lv_aload_n hx hb dX3_sign_61 rfl (lv_at hl 1 rfl) ?_
    refine k_get S hX.2 hX.1 0 (C := RX3) (T := TX3) (N := 6) rfl rfl 0 (by decide) inX3 m_144 rfl dX3_sign_62 ?_
    refine lv_iload_n hx hb dX3_sign_65 rfl (lv_at hl 3 rfl) ?_
    refine k_ild S hX.2 hX.1 1 (i := ar) rfl (by omega) (by decide) dX3_sign_66 ?_
    refine lv_iload hx hb dX3_sign_67 (lv_at hl 0 rfl) ?_
    refine va_mabs hx hb (S.2.2.1.trans hl.1.symm) S.2.2.2.1 (S.2.2.2.2 _ m_468) (S.2.2.2.2 _ m_469) (S.2.2.2.2 _ m_48) (S.2.2.2.2 _ m_470) (Nat.le_of_ble_eq_true rfl) (Nat.le_of_ble_eq_true rfl) (Nat.le_of_ble_eq_true rfl) (Nat.le_of_ble_eq_true rfl) dX3_sign_69 ?_
    refine k_eq (y := abV (gpV σ nm ns sh ar)) rfl ?_
    refine lv_imul hx hb dX3_sign_72 ?_
    refine lv_icmp_ge (tgt := 86) hx hb dX3_sign_73 (by decide) (fun c73_8 => ?_) (fun c73_8 => ?_)
    · have bc73_8 := le_nlt c73_8
      refine lv_aload_n hx hb dX3_sign_86 rfl (lv_at hl 1 rfl) ?_
      refine k_get S hX.2 hX.1 0 (C := RX3) (T := TX3) (N := 6) rfl rfl 4 (by decide) inX3 m_148 rfl dX3_sign_87 ?_
      refine lv_iload_n hx hb dX3_sign_90 rfl (lv_at hl 2 rfl) ?_
      refine lv_iload_n hx hb dX3_sign_91 rfl (lv_at hl 3 rfl) ?_
      refine q_i (r_S S ⟨m_200, m_201, m_35, m_202⟩ ⟨rfl, by decide, by decide, by decide +kernel⟩ (c_lineOf l sh ar) ⟨rfl, rfl, Nat.le_of_ble_eq_true rfl, Nat.le_of_ble_eq_true rfl⟩ (ps bl_GL (bG hX.2.2)) (n := 2) (As := [.int (nI sh), .int (nI ar)]) (rest := [.ref (ad 5)]) rfl hl.1 rfl (Nat.le_of_ble_eq_true rfl) ⟨Nat.le_of_ble_eq_true rfl, Nat.le_of_ble_eq_true rfl⟩ dX3_sign_92) (fun r9 (e9 : r9 = nI (sh * 5 + ar)) => ?_)
      subst e9
      refine lv_iload hx hb dX3_sign_95 (lv_at hl 0 rfl) ?_
      refine q_wv (r_VN S hX.2.2 ⟨n_472, m_474, m_19, m_38, m_475⟩ ⟨rfl, by decide, by decide, by decide +kernel⟩ (c_write l G ad σ (sh * 5 + ar) (gpV σ nm ns sh ar) (by omega) A hD) ⟨rfl, rfl, Nat.le_of_ble_eq_true rfl, Nat.le_of_ble_eq_true rfl⟩ (pv_X hX 5 rfl rfl bl_PX (bX hX)) (n := 2) (As := [.int (nI (sh * 5 + ar)), .int (gpV σ nm ns sh ar)]) (rest := []) rfl hl.1 rfl (Nat.le_of_ble_eq_true rfl) ⟨Nat.le_of_ble_eq_true rfl, Nat.le_of_ble_eq_true rfl⟩ dX3_sign_97) hS0 (fun _ h => h) (fun H10 L10 _ h10 _ _ hS10 => ?_)
      have hX10 : PX G ad (wrS σ (sh * 5 + ar) (gpV σ nm ns sh ar)) s H10 := ⟨h10, hX.2⟩
      refine lv_iload hx hb dX3_sign_100 (lv_at hl 0 rfl) ?_
      refine W.widen (k := 5) (n := 30) (Nat.le_of_ble_eq_true rfl) (Nat.le_of_ble_eq_true rfl) ?_
      refine vx_ret ?_
      exact W.iret (v := gpV σ nm ns sh ar) hx hb hr (fun t ht hW => ⟨⟨_, rfl, (by simp [eX_sign, lnN, ixN_nI h31sh, ixN_nI h31ar, ixN_nI h31pe, p1, p2, p3, p4, bc34_6, c73_8, bc73_8])⟩, (by have e9 : wrS σ (lnN (nI sh) (nI ar)) (gpV σ nm ns (ixN (nI sh)) (ixN (nI ar))) = wrS σ (sh * 5 + ar) (gpV σ nm ns sh ar) := (by first | rfl | simp [eX_sign, lnN, ixN_nI h31sh, ixN_nI h31ar, ixN_nI h31pe]); show va_P G.1 vwCl (wX G ad (wrS σ (lnN (nI sh) (nI ar)) (gpV σ nm ns (ixN (nI sh)) (ixN (nI ar))))) t.heap; rw [e9, ht]; exact hX10.1), hS10.F ht⟩) hS10.2.2 dX3_sign_102
    · have bc73_8 := nle_lt c73_8
      exact k_thr S hG hZ hst at_IS m_342 m_46 (by decide +kernel) n_471 hl.1 ht hlocks ⟨Nat.le_of_ble_eq_true rfl, Nat.le_of_ble_eq_true rfl⟩ ⟨Nat.le_of_ble_eq_true rfl, Nat.le_of_ble_eq_true rfl⟩ ⟨Nat.le_of_ble_eq_true rfl, Nat.le_of_ble_eq_true rfl⟩ (Nat.le_of_ble_eq_true rfl) (by simp [eX_sign, lnN, ixN_nI h31sh, ixN_nI h31ar, ixN_nI h31pe, p1, p2, p3, p4, bc34_6, c73_8, bc73_8, exN]) dX3_sign_76 dX3_sign_79 dX3_sign_80 dX3_sign_82 dX3_sign_85
  · have bc34_6 := bI_0 c34_6
    exact k_thr S hG hZ hst at_IS m_342 m_46 (by decide +kernel) n_463 hl.1 ht hlocks ⟨Nat.le_of_ble_eq_true rfl, Nat.le_of_ble_eq_true rfl⟩ ⟨Nat.le_of_ble_eq_true rfl, Nat.le_of_ble_eq_true rfl⟩ ⟨Nat.le_of_ble_eq_true rfl, Nat.le_of_ble_eq_true rfl⟩ (Nat.le_of_ble_eq_true rfl) (by simp [eX_sign, lnN, ixN_nI h31sh, ixN_nI h31ar, ixN_nI h31pe, p1, p2, p3, p4, bc34_6, exN]) dX3_sign_37 dX3_sign_40 dX3_sign_41 dX3_sign_43 dX3_sign_46

set_option maxHeartbeats 4000000 in
set_option maxRecDepth 100000 in
theorem c_settle (l : Launch) (G : kG) (ad : Nat → Nat) (σ : kS) (nm ns : Nat) (a0 b0 c0 : Int32) (hst : l.stackTraces = false) (hns : σ 18 0 = nI ns) (hns4 : ns ≤ 40) (hnm : σ 17 0 = nI nm) (hnm2 : nm ≤ 200) (A : Nat → Prop) (hD : DD 20 A ad)  : vx_Met l yX3_settle [.code yX3_settle cX3_settle 5 (some .int)] ({ frames := 7, cells := 6, slots := 36, locals := 181 }) (va_Pc [.ref (ad 0), .int a0, .int b0, .int c0] (fun U => PX G ad σ U U.heap ∧ ZS U U.heap)) (oW A (fun r => eX_settle σ nm ns a0 b0 c0 = 0 ∧ r = abV (gpV σ nm ns (ixN a0) (ixN c0))) (fun H9 => va_P G.1 vwCl (wX G ad (wrS (wrS σ (lnN a0 c0) (gpV σ nm ns (ixN a0) (ixN c0))) (lnN b0 c0) (-(gpV σ nm ns (ixN a0) (ixN c0))))) H9)) (tX (fun x => eX_settle σ nm ns a0 b0 c0 ≠ 0 ∧ x = exN (eX_settle σ nm ns a0 b0 c0))) 6 36 A := by
  refine kx_of (by decide) (Nat.le_of_ble_eq_true rfl) (fun U h => h.1.2.2) ?_
  intro p e s m below meth c ls S hr hlocks ht hB hl
  have hx := S.1
  have hb := S.2.1
  have hX : PX G ad σ s s.heap := hB.1
  have hG : GL s := hX.2.2
  have hZ : ZS s s.heap := hB.2
  have hl : lv_has ls 5 [(0, .ref (ad 0)), (1, .int a0), (2, .int b0), (3, .int c0)] := hl
  have hS0 : va_S A s.heap s.heap [] := va_S.rf
  refine lv_iload_n hx hb dX3_settle_0 rfl (lv_at hl 1 rfl) ?_
  refine lv_aload_n hx hb dX3_settle_1 rfl (lv_at hl 0 rfl) ?_
  refine k_get S hX.2 hX.1 0 (C := RX3) (T := TX3) (N := 6) rfl rfl 3 (by decide) inX3 m_147 rfl dX3_settle_2 ?_
  refine k_getN S hX.2 hX.1 4 (C := RX2) (T := TX2) (N := 4) rfl rfl 3 (by decide) inX2 n_98 rfl dX3_settle_5 ?_
  refine q_xv (rx_S S ⟨m_231, m_232, m_35, m_233⟩ ⟨rfl, by decide, by decide, by decide +kernel⟩ (c_checkIndex l a0 (σ 18 0) hst) ⟨rfl, rfl, Nat.le_of_ble_eq_true rfl, Nat.le_of_ble_eq_true rfl⟩ (ps bl_GZ (bGZ hX.2.2 hZ)) (n := 2) (As := [.int a0, .int (σ 18 0)]) (rest := []) rfl hl.1 rfl (Nat.le_of_ble_eq_true rfl) ⟨Nat.le_of_ble_eq_true rfl, Nat.le_of_ble_eq_true rfl⟩ dX3_settle_8) ht hlocks (by rintro x ⟨rfl, hf1⟩; simp [eX_settle, lnN, hf1, exN]) (Nat.le_of_ble_eq_true rfl) (Nat.le_of_ble_eq_true rfl) (fun (p1 : ckI a0 (σ 18 0) = true) => ?_)
  obtain ⟨sh, hsh, rfl⟩ := ckI_nI (n := ns) (by rw [← hns]; exact p1) (by omega)
  have h31sh : sh < 2 ^ 31 := by omega
  refine lv_iload_n hx hb dX3_settle_11 rfl (lv_at hl 2 rfl) ?_
  refine lv_aload_n hx hb dX3_settle_12 rfl (lv_at hl 0 rfl) ?_
  refine k_get S hX.2 hX.1 0 (C := RX3) (T := TX3) (N := 6) rfl rfl 3 (by decide) inX3 m_147 rfl dX3_settle_13 ?_
  refine k_getN S hX.2 hX.1 4 (C := RX2) (T := TX2) (N := 4) rfl rfl 3 (by decide) inX2 n_98 rfl dX3_settle_16 ?_
  refine q_xv (rx_S S ⟨m_231, m_232, m_35, m_233⟩ ⟨rfl, by decide, by decide, by decide +kernel⟩ (c_checkIndex l b0 (σ 18 0) hst) ⟨rfl, rfl, Nat.le_of_ble_eq_true rfl, Nat.le_of_ble_eq_true rfl⟩ (ps bl_GZ (bGZ hX.2.2 hZ)) (n := 2) (As := [.int b0, .int (σ 18 0)]) (rest := []) rfl hl.1 rfl (Nat.le_of_ble_eq_true rfl) ⟨Nat.le_of_ble_eq_true rfl, Nat.le_of_ble_eq_true rfl⟩ dX3_settle_19) ht hlocks (by rintro x ⟨rfl, hf2⟩; simp [eX_settle, lnN, ixN_nI h31sh, p1, hf2, exN]) (Nat.le_of_ble_eq_true rfl) (Nat.le_of_ble_eq_true rfl) (fun (p2 : ckI b0 (σ 18 0) = true) => ?_)
  obtain ⟨ot, hot, rfl⟩ := ckI_nI (n := ns) (by rw [← hns]; exact p2) (by omega)
  have h31ot : ot < 2 ^ 31 := by omega
  refine lv_iload_n hx hb dX3_settle_22 rfl (lv_at hl 3 rfl) ?_
  refine lv_iconst (v := 5) hx hb dX3_settle_23 (by decide) ?_
  refine q_xv (rx_S S ⟨m_231, m_232, m_35, m_233⟩ ⟨rfl, by decide, by decide, by decide +kernel⟩ (c_checkIndex l c0 5 hst) ⟨rfl, rfl, Nat.le_of_ble_eq_true rfl, Nat.le_of_ble_eq_true rfl⟩ (ps bl_GZ (bGZ hX.2.2 hZ)) (n := 2) (As := [.int c0, .int 5]) (rest := []) rfl hl.1 rfl (Nat.le_of_ble_eq_true rfl) ⟨Nat.le_of_ble_eq_true rfl, Nat.le_of_ble_eq_true rfl⟩ dX3_settle_24) ht hlocks (by rintro x ⟨rfl, hf3⟩; simp [eX_settle, lnN, ixN_nI h31sh, ixN_nI h31ot, p1, p2, hf3, exN]) (Nat.le_of_ble_eq_true rfl) (Nat.le_of_ble_eq_true rfl) (fun (p3 : ckI c0 5 = true) => ?_)
  obtain ⟨ar, har, rfl⟩ := ckI_nI (n := 5) p3 (by decide)
  have h31ar : ar < 2 ^ 31 := by omega
  refine lv_aload_n hx hb dX3_settle_27 rfl (lv_at hl 0 rfl) ?_
  refine lv_iload_n hx hb dX3_settle_28 rfl (lv_at hl 1 rfl) ?_
  refine lv_iload_n hx hb dX3_settle_29 rfl (lv_at hl 3 rfl) ?_
  refine q_xv (rx_V S ⟨m_439, m_441, m_16, m_35, m_442⟩ ⟨rfl, by decide, by decide, by decide +kernel⟩ (c_checkAgrees l G ad σ sh ar hst (by omega) (by omega)) ⟨rfl, rfl, Nat.le_of_ble_eq_true rfl, Nat.le_of_ble_eq_true rfl⟩ (pv_X hX 0 rfl rfl bl_PXZ (bXZ hX hZ)) (n := 2) (As := [.int (nI sh), .int (nI ar)]) (rest := []) rfl hl.1 rfl (Nat.le_of_ble_eq_true rfl) ⟨Nat.le_of_ble_eq_true rfl, Nat.le_of_ble_eq_true rfl⟩ dX3_settle_30) ht hlocks (by rintro x ⟨rfl, hf4⟩; simp [eX_settle, lnN, ixN_nI h31sh, ixN_nI h31ot, ixN_nI h31ar, p1, p2, p3, hf4, exN]) (Nat.le_of_ble_eq_true rfl) (Nat.le_of_ble_eq_true rfl) (fun (p4 : agB σ (sh * 5 + ar) = true) => ?_)
  refine lv_aload_n hx hb dX3_settle_33 rfl (lv_at hl 0 rfl) ?_
  refine lv_iload_n hx hb dX3_settle_34 rfl (lv_at hl 2 rfl) ?_
  refine lv_iload_n hx hb dX3_settle_35 rfl (lv_at hl 3 rfl) ?_
  refine q_xv (rx_V S ⟨m_439, m_441, m_16, m_35, m_442⟩ ⟨rfl, by decide, by decide, by decide +kernel⟩ (c_checkAgrees l G ad σ ot ar hst (by omega) (by omega)) ⟨rfl, rfl, Nat.le_of_ble_eq_true rfl, Nat.le_of_ble_eq_true rfl⟩ (pv_X hX 0 rfl rfl bl_PXZ (bXZ hX hZ)) (n := 2) (As := [.int (nI ot), .int (nI ar)]) (rest := []) rfl hl.1 rfl (Nat.le_of_ble_eq_true rfl) ⟨Nat.le_of_ble_eq_true rfl, Nat.le_of_ble_eq_true rfl⟩ dX3_settle_36) ht hlocks (by rintro x ⟨rfl, hf5⟩; simp [eX_settle, lnN, ixN_nI h31sh, ixN_nI h31ot, ixN_nI h31ar, p1, p2, p3, p4, hf5, exN]) (Nat.le_of_ble_eq_true rfl) (Nat.le_of_ble_eq_true rfl) (fun (p5 : agB σ (ot * 5 + ar) = true) => ?_)
  refine lv_aload_n hx hb dX3_settle_39 rfl (lv_at hl 0 rfl) ?_
  refine lv_iload_n hx hb dX3_settle_40 rfl (lv_at hl 1 rfl) ?_
  refine lv_iload_n hx hb dX3_settle_41 rfl (lv_at hl 2 rfl) ?_
  refine lv_iload_n hx hb dX3_settle_42 rfl (lv_at hl 3 rfl) ?_
  refine q_i (r_V S ⟨m_483, m_485, m_20, m_35, m_486⟩ ⟨rfl, by decide, by decide, by decide +kernel⟩ (c_canBeSettled l G ad σ nm ns sh ot ar hns hns4 hnm hnm2 (by omega) (by omega) (by omega)) ⟨rfl, rfl, Nat.le_of_ble_eq_true rfl, Nat.le_of_ble_eq_true rfl⟩ (pv_X hX 0 rfl rfl bl_PX (bX hX)) (n := 3) (As := [.int (nI sh), .int (nI ot), .int (nI ar)]) (rest := []) rfl hl.1 rfl (Nat.le_of_ble_eq_true rfl) ⟨Nat.le_of_ble_eq_true rfl, Nat.le_of_ble_eq_true rfl⟩ dX3_settle_43) (fun r6 (e6 : r6 = bI (csB σ nm ns sh ot ar)) => ?_)
  subst e6
  refine lv_if_ne (tgt := 59) hx hb dX3_settle_46 (by decide) (fun c46_7 => ?_) (fun c46_7 => ?_)
  · have bc46_7 := bI_n c46_7
    refine lv_aload_n hx hb dX3_settle_59 rfl (lv_at hl 0 rfl) ?_
    refine lv_iload_n hx hb dX3_settle_60 rfl (lv_at hl 1 rfl) ?_
    refine lv_iload_n hx hb dX3_settle_61 rfl (lv_at hl 3 rfl) ?_
    refine q_i (r_V S ⟨m_464, m_466, m_18, m_35, m_467⟩ ⟨rfl, by decide, by decide, by decide +kernel⟩ (c_gapOf l G ad σ nm ns sh ar hns hns4 hnm hnm2 (by omega) (by omega)) ⟨rfl, rfl, Nat.le_of_ble_eq_true rfl, Nat.le_of_ble_eq_true rfl⟩ (pv_X hX 0 rfl rfl bl_PX (bX hX)) (n := 2) (As := [.int (nI sh), .int (nI ar)]) (rest := []) rfl hl.1 rfl (Nat.le_of_ble_eq_true rfl) ⟨Nat.le_of_ble_eq_true rfl, Nat.le_of_ble_eq_true rfl⟩ dX3_settle_62) (fun r8 (e8 : r8 = gpV σ nm ns sh ar) => ?_)
    subst e8
    refine lv_istore (lv' := [(4, .int (gpV σ nm ns sh ar)), (0, .ref (ad 0)), (1, .int (nI sh)), (2, .int (nI ot)), (3, .int (nI ar))]) hx hb dX3_settle_65 hl (by decide) rfl (fun ls hl => ?_)
    refine lv_aload_n hx hb dX3_settle_67 rfl (lv_at hl 1 rfl) ?_
    refine k_get S hX.2 hX.1 0 (C := RX3) (T := TX3) (N := 6) rfl rfl 4 (by decide) inX3 m_148 rfl dX3_settle_68 ?_
    refine lv_iload_n hx hb dX3_settle_71 rfl (lv_at hl 2 rfl) ?_
    refine lv_iload_n hx hb dX3_settle_72 rfl (lv_at hl 4 rfl) ?_
    refine q_i (r_S S ⟨m_200, m_201, m_35, m_202⟩ ⟨rfl, by decide, by decide, by decide +kernel⟩ (c_lineOf l sh ar) ⟨rfl, rfl, Nat.le_of_ble_eq_true rfl, Nat.le_of_ble_eq_true rfl⟩ (ps bl_GL (bG hX.2.2)) (n := 2) (As := [.int (nI sh), .int (nI ar)]) (rest := [.ref (ad 5)]) rfl hl.1 rfl (Nat.le_of_ble_eq_true rfl) ⟨Nat.le_of_ble_eq_true rfl, Nat.le_of_ble_eq_true rfl⟩ dX3_settle_73) (fun r9 (e9 : r9 = nI (sh * 5 + ar)) => ?_)
    subst e9
    refine lv_iload hx hb dX3_settle_76 (lv_at hl 0 rfl) ?_
    refine q_wv (r_VN S hX.2.2 ⟨n_472, m_474, m_19, m_38, m_475⟩ ⟨rfl, by decide, by decide, by decide +kernel⟩ (c_write l G ad σ (sh * 5 + ar) (gpV σ nm ns sh ar) (by omega) A hD) ⟨rfl, rfl, Nat.le_of_ble_eq_true rfl, Nat.le_of_ble_eq_true rfl⟩ (pv_X hX 5 rfl rfl bl_PX (bX hX)) (n := 2) (As := [.int (nI (sh * 5 + ar)), .int (gpV σ nm ns sh ar)]) (rest := []) rfl hl.1 rfl (Nat.le_of_ble_eq_true rfl) ⟨Nat.le_of_ble_eq_true rfl, Nat.le_of_ble_eq_true rfl⟩ dX3_settle_78) hS0 (fun _ h => h) (fun H10 L10 _ h10 _ _ hS10 => ?_)
    have hX10 : PX G ad (wrS σ (sh * 5 + ar) (gpV σ nm ns sh ar)) s H10 := ⟨h10, hX.2⟩
    refine lv_aload_n hx hb dX3_settle_81 rfl (lv_at hl 1 rfl) ?_
    refine k_get S hX10.2 hX10.1 0 (C := RX3) (T := TX3) (N := 6) rfl rfl 4 (by decide) inX3 m_148 rfl dX3_settle_82 ?_
    refine lv_iload_n hx hb dX3_settle_85 rfl (lv_at hl 3 rfl) ?_
    refine lv_iload_n hx hb dX3_settle_86 rfl (lv_at hl 4 rfl) ?_
    refine q_i (r_S S ⟨m_200, m_201, m_35, m_202⟩ ⟨rfl, by decide, by decide, by decide +kernel⟩ (c_lineOf l ot ar) ⟨rfl, rfl, Nat.le_of_ble_eq_true rfl, Nat.le_of_ble_eq_true rfl⟩ (ps bl_GL (bG hX10.2.2)) (n := 2) (As := [.int (nI ot), .int (nI ar)]) (rest := [.ref (ad 5)]) rfl hl.1 rfl (Nat.le_of_ble_eq_true rfl) ⟨Nat.le_of_ble_eq_true rfl, Nat.le_of_ble_eq_true rfl⟩ dX3_settle_87) (fun r11 (e11 : r11 = nI (ot * 5 + ar)) => ?_)
    subst e11
    refine lv_iload hx hb dX3_settle_90 (lv_at hl 0 rfl) ?_
    refine lv_ineg hx hb dX3_settle_92 ?_
    refine q_wv (r_VN S hX10.2.2 ⟨n_472, m_474, m_19, m_38, m_475⟩ ⟨rfl, by decide, by decide, by decide +kernel⟩ (c_write l G ad (wrS σ (sh * 5 + ar) (gpV σ nm ns sh ar)) (ot * 5 + ar) (-(gpV σ nm ns sh ar)) (by omega) A hD) ⟨rfl, rfl, Nat.le_of_ble_eq_true rfl, Nat.le_of_ble_eq_true rfl⟩ (pv_X hX10 5 rfl rfl bl_PX (bX hX10)) (n := 2) (As := [.int (nI (ot * 5 + ar)), .int (-(gpV σ nm ns sh ar))]) (rest := []) rfl hl.1 rfl (Nat.le_of_ble_eq_true rfl) ⟨Nat.le_of_ble_eq_true rfl, Nat.le_of_ble_eq_true rfl⟩ dX3_settle_93) hS10 (fun _ h => h) (fun H12 L12 _ h12 _ _ hS12 => ?_)
    have hX12 : PX G ad (wrS (wrS σ (sh * 5 + ar) (gpV σ nm ns sh ar)) (ot * 5 + ar) (-(gpV σ nm ns sh ar))) s H12 := ⟨h12, hX10.2⟩
    refine lv_iload hx hb dX3_settle_96 (lv_at hl 0 rfl) ?_
    refine va_mabs hx hb (S.2.2.1.trans hl.1.symm) S.2.2.2.1 (S.2.2.2.2 _ m_468) (S.2.2.2.2 _ m_469) (S.2.2.2.2 _ m_48) (S.2.2.2.2 _ m_470) (Nat.le_of_ble_eq_true rfl) (Nat.le_of_ble_eq_true rfl) (Nat.le_of_ble_eq_true rfl) (Nat.le_of_ble_eq_true rfl) dX3_settle_98 ?_
    refine k_eq (y := abV (gpV σ nm ns sh ar)) rfl ?_
    refine W.widen (k := 6) (n := 36) (Nat.le_of_ble_eq_true rfl) (Nat.le_of_ble_eq_true rfl) ?_
    refine vx_ret ?_
    exact W.iret (v := abV (gpV σ nm ns sh ar)) hx hb hr (fun t ht hW => ⟨⟨_, rfl, (by simp [eX_settle, lnN, ixN_nI h31sh, ixN_nI h31ot, ixN_nI h31ar, p1, p2, p3, p4, p5, bc46_7])⟩, (by have e9 : wrS (wrS σ (lnN (nI sh) (nI ar)) (gpV σ nm ns (ixN (nI sh)) (ixN (nI ar)))) (lnN (nI ot) (nI ar)) (-(gpV σ nm ns (ixN (nI sh)) (ixN (nI ar)))) = wrS (wrS σ (sh * 5 + ar) (gpV σ nm ns sh ar)) (ot * 5 + ar) (-(gpV σ nm ns sh ar)) := (by first | rfl | simp [eX_settle, lnN, ixN_nI h31sh, ixN_nI h31ot, ixN_nI h31ar]); show va_P G.1 vwCl (wX G ad (wrS (wrS σ (lnN (nI sh) (nI ar)) (gpV σ nm ns (ixN (nI sh)) (ixN (nI ar)))) (lnN (nI ot) (nI ar)) (-(gpV σ nm ns (ixN (nI sh)) (ixN (nI ar)))))) t.heap; rw [e9, ht]; exact hX12.1), hS12.F ht⟩) hS12.2.2 dX3_settle_101
  · have bc46_7 := bI_0 c46_7
    exact k_thr S hG hZ hst at_IS m_342 m_46 (by decide +kernel) n_487 hl.1 ht hlocks ⟨Nat.le_of_ble_eq_true rfl, Nat.le_of_ble_eq_true rfl⟩ ⟨Nat.le_of_ble_eq_true rfl, Nat.le_of_ble_eq_true rfl⟩ ⟨Nat.le_of_ble_eq_true rfl, Nat.le_of_ble_eq_true rfl⟩ (Nat.le_of_ble_eq_true rfl) (by simp [eX_settle, lnN, ixN_nI h31sh, ixN_nI h31ot, ixN_nI h31ar, p1, p2, p3, p4, p5, bc46_7, exN]) dX3_settle_49 dX3_settle_52 dX3_settle_53 dX3_settle_55 dX3_settle_58

set_option maxHeartbeats 4000000 in
set_option maxRecDepth 100000 in
theorem c_now (l : Launch) (G : kG) (ad : Nat → Nat) (σ : kS)  : Met l yX3_now [.code yX3_now cX3_now 1 (some .int)] ({ frames := 1, cells := 0, slots := 0, locals := 40 }) (va_Pc [.ref (ad 0)] (fun U => PX G ad σ U U.heap)) (vp_Si (fun r => r = σ 16 0)) 0 0 NF := by
  refine k_of (by decide) (Nat.le_of_ble_eq_true rfl) (fun U h => h.2.2) ?_
  intro p e s m below meth c ls S hr hlocks hmn hB hl
  have hx := S.1
  have hb := S.2.1
  have hX : PX G ad σ s s.heap := hB
  have hl : lv_has ls 1 [(0, .ref (ad 0))] := hl
  refine lv_aload_n hx hb dX3_now_0 rfl (lv_at hl 0 rfl) ?_
  refine k_get S hX.2 hX.1 0 (C := RX3) (T := TX3) (N := 6) rfl rfl 5 (by decide) inX3 m_149 rfl dX3_now_1 ?_
  exact W.iret (v := σ 16 0) hx hb hr (fun t ht hW => ⟨_, rfl, rfl, ht⟩) (fun q h => by cases h) dX3_now_4

set_option maxHeartbeats 4000000 in
set_option maxRecDepth 100000 in
theorem c_moves (l : Launch) (G : kG) (ad : Nat → Nat) (σ : kS)  : Met l yX3_moves [.code yX3_moves cX3_moves 1 (some .int)] ({ frames := 1, cells := 0, slots := 0, locals := 40 }) (va_Pc [.ref (ad 0)] (fun U => PX G ad σ U U.heap)) (vp_Si (fun r => r = σ 17 0)) 0 0 NF := by
  refine k_of (by decide) (Nat.le_of_ble_eq_true rfl) (fun U h => h.2.2) ?_
  intro p e s m below meth c ls S hr hlocks hmn hB hl
  have hx := S.1
  have hb := S.2.1
  have hX : PX G ad σ s s.heap := hB
  have hl : lv_has ls 1 [(0, .ref (ad 0))] := hl
  refine lv_aload_n hx hb dX3_moves_0 rfl (lv_at hl 0 rfl) ?_
  refine k_get S hX.2 hX.1 0 (C := RX3) (T := TX3) (N := 6) rfl rfl 2 (by decide) inX3 m_146 rfl dX3_moves_1 ?_
  refine k_getN S hX.2 hX.1 3 (C := RX1) (T := TX1) (N := 6) rfl rfl 5 (by decide) inX1 n_70 rfl dX3_moves_4 ?_
  exact W.iret (v := σ 17 0) hx hb hr (fun t ht hW => ⟨_, rfl, rfl, ht⟩) (fun q h => by cases h) dX3_moves_7

set_option maxHeartbeats 4000000 in
set_option maxRecDepth 100000 in
theorem c_sheets (l : Launch) (G : kG) (ad : Nat → Nat) (σ : kS)  : Met l yX3_sheets [.code yX3_sheets cX3_sheets 1 (some .int)] ({ frames := 1, cells := 0, slots := 0, locals := 40 }) (va_Pc [.ref (ad 0)] (fun U => PX G ad σ U U.heap)) (vp_Si (fun r => r = σ 18 0)) 0 0 NF := by
  refine k_of (by decide) (Nat.le_of_ble_eq_true rfl) (fun U h => h.2.2) ?_
  intro p e s m below meth c ls S hr hlocks hmn hB hl
  have hx := S.1
  have hb := S.2.1
  have hX : PX G ad σ s s.heap := hB
  have hl : lv_has ls 1 [(0, .ref (ad 0))] := hl
  refine lv_aload_n hx hb dX3_sheets_0 rfl (lv_at hl 0 rfl) ?_
  refine k_get S hX.2 hX.1 0 (C := RX3) (T := TX3) (N := 6) rfl rfl 3 (by decide) inX3 m_147 rfl dX3_sheets_1 ?_
  refine k_getN S hX.2 hX.1 4 (C := RX2) (T := TX2) (N := 4) rfl rfl 3 (by decide) inX2 n_98 rfl dX3_sheets_4 ?_
  exact W.iret (v := σ 18 0) hx hb hr (fun t ht hW => ⟨_, rfl, rfl, ht⟩) (fun q h => by cases h) dX3_sheets_7

set_option maxHeartbeats 4000000 in
set_option maxRecDepth 100000 in
theorem c_book (l : Launch) (G : kG) (ad : Nat → Nat) (σ : kS) (nm ns : Nat) (a0 b0 : Int32) (hst : l.stackTraces = false) (hns : σ 18 0 = nI ns) (hns4 : ns ≤ 40) (hnm : σ 17 0 = nI nm) (hnm2 : nm ≤ 200)  : vx_Met l yX3_book [.code yX3_book cX3_book 3 (some .int)] ({ frames := 7, cells := 2, slots := 12, locals := 134 }) (va_Pc [.ref (ad 0), .int a0, .int b0] (fun U => PX G ad σ U U.heap ∧ ZS U U.heap)) (vp_Si (fun r => eX_two a0 12 b0 5 = 0 ∧ r = boV σ nm ns a0 (ixN b0) (σ 16 0))) (tX (fun x => eX_two a0 12 b0 5 ≠ 0 ∧ x = exN (eX_two a0 12 b0 5))) 2 12 NF := by
  refine kx_of (by decide) (Nat.le_of_ble_eq_true rfl) (fun U h => h.1.2.2) ?_
  intro p e s m below meth c ls S hr hlocks ht hB hl
  have hx := S.1
  have hb := S.2.1
  have hX : PX G ad σ s s.heap := hB.1
  have hG : GL s := hX.2.2
  have hZ : ZS s s.heap := hB.2
  have hl : lv_has ls 3 [(0, .ref (ad 0)), (1, .int a0), (2, .int b0)] := hl
  refine lv_iload_n hx hb dX3_book_0 rfl (lv_at hl 1 rfl) ?_
  refine lv_bipush (v := 12) hx hb dX3_book_1 (by decide) ?_
  refine q_xv (rx_S S ⟨m_231, m_232, m_35, m_233⟩ ⟨rfl, by decide, by decide, by decide +kernel⟩ (c_checkIndex l a0 12 hst) ⟨rfl, rfl, Nat.le_of_ble_eq_true rfl, Nat.le_of_ble_eq_true rfl⟩ (ps bl_GZ (bGZ hX.2.2 hZ)) (n := 2) (As := [.int a0, .int 12]) (rest := []) rfl hl.1 rfl (Nat.le_of_ble_eq_true rfl) ⟨Nat.le_of_ble_eq_true rfl, Nat.le_of_ble_eq_true rfl⟩ dX3_book_3) ht hlocks (by rintro x ⟨rfl, hf1⟩; simp [eX_two, hf1, exN]) (Nat.le_of_ble_eq_true rfl) (Nat.le_of_ble_eq_true rfl) (fun (p1 : ckI a0 12 = true) => ?_)
  refine lv_iload_n hx hb dX3_book_6 rfl (lv_at hl 2 rfl) ?_
  refine lv_iconst (v := 5) hx hb dX3_book_7 (by decide) ?_
  refine q_xv (rx_S S ⟨m_231, m_232, m_35, m_233⟩ ⟨rfl, by decide, by decide, by decide +kernel⟩ (c_checkIndex l b0 5 hst) ⟨rfl, rfl, Nat.le_of_ble_eq_true rfl, Nat.le_of_ble_eq_true rfl⟩ (ps bl_GZ (bGZ hX.2.2 hZ)) (n := 2) (As := [.int b0, .int 5]) (rest := []) rfl hl.1 rfl (Nat.le_of_ble_eq_true rfl) ⟨Nat.le_of_ble_eq_true rfl, Nat.le_of_ble_eq_true rfl⟩ dX3_book_8) ht hlocks (by rintro x ⟨rfl, hf2⟩; simp [eX_two, p1, hf2, exN]) (Nat.le_of_ble_eq_true rfl) (Nat.le_of_ble_eq_true rfl) (fun (p2 : ckI b0 5 = true) => ?_)
  obtain ⟨ar, har, rfl⟩ := ckI_nI (n := 5) p2 (by decide)
  have h31ar : ar < 2 ^ 31 := by omega
  refine lv_aload_n hx hb dX3_book_11 rfl (lv_at hl 0 rfl) ?_
  refine lv_iload_n hx hb dX3_book_12 rfl (lv_at hl 1 rfl) ?_
  refine lv_iload_n hx hb dX3_book_13 rfl (lv_at hl 2 rfl) ?_
  refine lv_aload_n hx hb dX3_book_14 rfl (lv_at hl 0 rfl) ?_
  refine k_get S hX.2 hX.1 0 (C := RX3) (T := TX3) (N := 6) rfl rfl 5 (by decide) inX3 m_149 rfl dX3_book_15 ?_
  refine q_i (r_V S ⟨m_192, m_194, m_4, m_35, m_195⟩ ⟨rfl, by decide, by decide, by decide +kernel⟩ (c_bookOf l G ad σ nm ns a0 ar (σ 16 0) hns hns4 hnm hnm2 (by omega)) ⟨rfl, rfl, Nat.le_of_ble_eq_true rfl, Nat.le_of_ble_eq_true rfl⟩ (pv_X hX 0 rfl rfl bl_PX (bX hX)) (n := 3) (As := [.int a0, .int (nI ar), .int (σ 16 0)]) (rest := []) rfl hl.1 rfl (Nat.le_of_ble_eq_true rfl) ⟨Nat.le_of_ble_eq_true rfl, Nat.le_of_ble_eq_true rfl⟩ dX3_book_18) (fun r3 (e3 : r3 = boV σ nm ns a0 ar (σ 16 0)) => ?_)
  subst e3
  refine vx_ret ?_
  exact W.iret (v := boV σ nm ns a0 ar (σ 16 0)) hx hb hr (fun t ht hW => ⟨_, rfl, (by simp [eX_two, ixN_nI h31ar, p1, p2]), ht⟩) (fun q h => by cases h) dX3_book_21

set_option maxHeartbeats 4000000 in
set_option maxRecDepth 100000 in
theorem c_bookAt (l : Launch) (G : kG) (ad : Nat → Nat) (σ : kS) (nm ns : Nat) (a0 b0 c0 : Int32) (hst : l.stackTraces = false) (hns : σ 18 0 = nI ns) (hns4 : ns ≤ 40) (hnm : σ 17 0 = nI nm) (hnm2 : nm ≤ 200)  : vx_Met l yX3_bookAt [.code yX3_bookAt cX3_bookAt 4 (some .int)] ({ frames := 7, cells := 3, slots := 18, locals := 134 }) (va_Pc [.ref (ad 0), .int a0, .int b0, .int c0] (fun U => PX G ad σ U U.heap ∧ ZS U U.heap)) (vp_Si (fun r => eX_bookAt σ a0 b0 c0 = 0 ∧ r = boV σ nm ns a0 (ixN b0) c0)) (tX (fun x => eX_bookAt σ a0 b0 c0 ≠ 0 ∧ x = exN (eX_bookAt σ a0 b0 c0))) 3 18 NF := by
  refine kx_of (by decide) (Nat.le_of_ble_eq_true rfl) (fun U h => h.1.2.2) ?_
  intro p e s m below meth c ls S hr hlocks ht hB hl
  have hx := S.1
  have hb := S.2.1
  have hX : PX G ad σ s s.heap := hB.1
  have hG : GL s := hX.2.2
  have hZ : ZS s s.heap := hB.2
  have hl : lv_has ls 4 [(0, .ref (ad 0)), (1, .int a0), (2, .int b0), (3, .int c0)] := hl
  refine lv_iload_n hx hb dX3_bookAt_0 rfl (lv_at hl 1 rfl) ?_
  refine lv_bipush (v := 12) hx hb dX3_bookAt_1 (by decide) ?_
  refine q_xv (rx_S S ⟨m_231, m_232, m_35, m_233⟩ ⟨rfl, by decide, by decide, by decide +kernel⟩ (c_checkIndex l a0 12 hst) ⟨rfl, rfl, Nat.le_of_ble_eq_true rfl, Nat.le_of_ble_eq_true rfl⟩ (ps bl_GZ (bGZ hX.2.2 hZ)) (n := 2) (As := [.int a0, .int 12]) (rest := []) rfl hl.1 rfl (Nat.le_of_ble_eq_true rfl) ⟨Nat.le_of_ble_eq_true rfl, Nat.le_of_ble_eq_true rfl⟩ dX3_bookAt_3) ht hlocks (by rintro x ⟨rfl, hf1⟩; simp [eX_bookAt, hf1, exN]) (Nat.le_of_ble_eq_true rfl) (Nat.le_of_ble_eq_true rfl) (fun (p1 : ckI a0 12 = true) => ?_)
  refine lv_iload_n hx hb dX3_bookAt_6 rfl (lv_at hl 2 rfl) ?_
  refine lv_iconst (v := 5) hx hb dX3_bookAt_7 (by decide) ?_
  refine q_xv (rx_S S ⟨m_231, m_232, m_35, m_233⟩ ⟨rfl, by decide, by decide, by decide +kernel⟩ (c_checkIndex l b0 5 hst) ⟨rfl, rfl, Nat.le_of_ble_eq_true rfl, Nat.le_of_ble_eq_true rfl⟩ (ps bl_GZ (bGZ hX.2.2 hZ)) (n := 2) (As := [.int b0, .int 5]) (rest := []) rfl hl.1 rfl (Nat.le_of_ble_eq_true rfl) ⟨Nat.le_of_ble_eq_true rfl, Nat.le_of_ble_eq_true rfl⟩ dX3_bookAt_8) ht hlocks (by rintro x ⟨rfl, hf2⟩; simp [eX_bookAt, p1, hf2, exN]) (Nat.le_of_ble_eq_true rfl) (Nat.le_of_ble_eq_true rfl) (fun (p2 : ckI b0 5 = true) => ?_)
  obtain ⟨ar, har, rfl⟩ := ckI_nI (n := 5) p2 (by decide)
  have h31ar : ar < 2 ^ 31 := by omega
  refine lv_iload_n hx hb dX3_bookAt_11 rfl (lv_at hl 3 rfl) ?_
  refine lv_iconst (v := 0) hx hb dX3_bookAt_12 (by decide) ?_
  refine lv_aload_n hx hb dX3_bookAt_13 rfl (lv_at hl 0 rfl) ?_
  refine k_get S hX.2 hX.1 0 (C := RX3) (T := TX3) (N := 6) rfl rfl 5 (by decide) inX3 m_149 rfl dX3_bookAt_14 ?_
  refine q_xv (rx_S S ⟨m_303, m_304, m_35, m_305⟩ ⟨rfl, by decide, by decide, by decide +kernel⟩ (c_checkRange l c0 0 (σ 16 0) hst) ⟨rfl, rfl, Nat.le_of_ble_eq_true rfl, Nat.le_of_ble_eq_true rfl⟩ (ps bl_GZ (bGZ hX.2.2 hZ)) (n := 3) (As := [.int c0, .int 0, .int (σ 16 0)]) (rest := []) rfl hl.1 rfl (Nat.le_of_ble_eq_true rfl) ⟨Nat.le_of_ble_eq_true rfl, Nat.le_of_ble_eq_true rfl⟩ dX3_bookAt_17) ht hlocks (by rintro x ⟨rfl, hf3⟩; simp [eX_bookAt, ixN_nI h31ar, p1, p2, hf3, exN]) (Nat.le_of_ble_eq_true rfl) (Nat.le_of_ble_eq_true rfl) (fun (p3 : ckR c0 0 (σ 16 0) = true) => ?_)
  refine lv_aload_n hx hb dX3_bookAt_20 rfl (lv_at hl 0 rfl) ?_
  refine lv_iload_n hx hb dX3_bookAt_21 rfl (lv_at hl 1 rfl) ?_
  refine lv_iload_n hx hb dX3_bookAt_22 rfl (lv_at hl 2 rfl) ?_
  refine lv_iload_n hx hb dX3_bookAt_23 rfl (lv_at hl 3 rfl) ?_
  refine q_i (r_V S ⟨m_192, m_194, m_4, m_35, m_195⟩ ⟨rfl, by decide, by decide, by decide +kernel⟩ (c_bookOf l G ad σ nm ns a0 ar c0 hns hns4 hnm hnm2 (by omega)) ⟨rfl, rfl, Nat.le_of_ble_eq_true rfl, Nat.le_of_ble_eq_true rfl⟩ (pv_X hX 0 rfl rfl bl_PX (bX hX)) (n := 3) (As := [.int a0, .int (nI ar), .int c0]) (rest := []) rfl hl.1 rfl (Nat.le_of_ble_eq_true rfl) ⟨Nat.le_of_ble_eq_true rfl, Nat.le_of_ble_eq_true rfl⟩ dX3_bookAt_24) (fun r4 (e4 : r4 = boV σ nm ns a0 ar c0) => ?_)
  subst e4
  refine vx_ret ?_
  exact W.iret (v := boV σ nm ns a0 ar c0) hx hb hr (fun t ht hW => ⟨_, rfl, (by simp [eX_bookAt, ixN_nI h31ar, p1, p2, p3]), ht⟩) (fun q h => by cases h) dX3_bookAt_27

set_option maxHeartbeats 4000000 in
set_option maxRecDepth 100000 in
theorem c_worth (l : Launch) (G : kG) (ad : Nat → Nat) (σ : kS) (nm ns : Nat) (a0 : Int32) (hst : l.stackTraces = false) (hns : σ 18 0 = nI ns) (hns4 : ns ≤ 40) (hnm : σ 17 0 = nI nm) (hnm2 : nm ≤ 200)  : vx_Met l yX3_worth [.code yX3_worth cX3_worth 2 (some .int)] ({ frames := 7, cells := 1, slots := 6, locals := 157 }) (va_Pc [.ref (ad 0), .int a0] (fun U => PX G ad σ U U.heap ∧ ZS U U.heap)) (vp_Si (fun r => eX_one a0 12 = 0 ∧ r = woF σ nm ns a0 5)) (tX (fun x => eX_one a0 12 ≠ 0 ∧ x = exN (eX_one a0 12))) 1 6 NF := by
  refine kx_of (by decide) (Nat.le_of_ble_eq_true rfl) (fun U h => h.1.2.2) ?_
  intro p e s m below meth c ls S hr hlocks ht hB hl
  have hx := S.1
  have hb := S.2.1
  have hX : PX G ad σ s s.heap := hB.1
  have hG : GL s := hX.2.2
  have hZ : ZS s s.heap := hB.2
  have hl : lv_has ls 2 [(0, .ref (ad 0)), (1, .int a0)] := hl
  refine lv_iload_n hx hb dX3_worth_0 rfl (lv_at hl 1 rfl) ?_
  refine lv_bipush (v := 12) hx hb dX3_worth_1 (by decide) ?_
  refine q_xv (rx_S S ⟨m_231, m_232, m_35, m_233⟩ ⟨rfl, by decide, by decide, by decide +kernel⟩ (c_checkIndex l a0 12 hst) ⟨rfl, rfl, Nat.le_of_ble_eq_true rfl, Nat.le_of_ble_eq_true rfl⟩ (ps bl_GZ (bGZ hX.2.2 hZ)) (n := 2) (As := [.int a0, .int 12]) (rest := []) rfl hl.1 rfl (Nat.le_of_ble_eq_true rfl) ⟨Nat.le_of_ble_eq_true rfl, Nat.le_of_ble_eq_true rfl⟩ dX3_worth_3) ht hlocks (by rintro x ⟨rfl, hf1⟩; simp [eX_one, hf1, exN]) (Nat.le_of_ble_eq_true rfl) (Nat.le_of_ble_eq_true rfl) (fun (p1 : ckI a0 12 = true) => ?_)
  refine lv_aload_n hx hb dX3_worth_6 rfl (lv_at hl 0 rfl) ?_
  refine lv_iload_n hx hb dX3_worth_7 rfl (lv_at hl 1 rfl) ?_
  refine q_i (r_V S ⟨m_188, m_190, m_3, m_35, m_191⟩ ⟨rfl, by decide, by decide, by decide +kernel⟩ (c_worthOf l G ad σ nm ns a0 hns hns4 hnm hnm2) ⟨rfl, rfl, Nat.le_of_ble_eq_true rfl, Nat.le_of_ble_eq_true rfl⟩ (pv_X hX 0 rfl rfl bl_PX (bX hX)) (n := 1) (As := [.int a0]) (rest := []) rfl hl.1 rfl (Nat.le_of_ble_eq_true rfl) ⟨Nat.le_of_ble_eq_true rfl, Nat.le_of_ble_eq_true rfl⟩ dX3_worth_8) (fun r2 (e2 : r2 = woF σ nm ns a0 5) => ?_)
  subst e2
  refine vx_ret ?_
  exact W.iret (v := woF σ nm ns a0 5) hx hb hr (fun t ht hW => ⟨_, rfl, (by simp [eX_one, p1]), ht⟩) (fun q h => by cases h) dX3_worth_11

set_option maxHeartbeats 4000000 in
set_option maxRecDepth 100000 in
theorem c_stateOf (l : Launch) (G : kG) (ad : Nat → Nat) (σ : kS) (nm ns : Nat) (a0 : Int32) (hst : l.stackTraces = false) (hns : σ 18 0 = nI ns) (hns4 : ns ≤ 40) (hnm : σ 17 0 = nI nm) (hnm2 : nm ≤ 200)  : vx_Met l yX3_stateOf [.code yX3_stateOf cX3_stateOf 2 (some .int)] ({ frames := 7, cells := 1, slots := 6, locals := 113 }) (va_Pc [.ref (ad 0), .int a0] (fun U => PX G ad σ U U.heap ∧ ZS U U.heap)) (vp_Si (fun r => eX_one a0 (σ 18 0) = 0 ∧ r = (if σ 9 (ixN a0) = 0 then 0 else 1))) (tX (fun x => eX_one a0 (σ 18 0) ≠ 0 ∧ x = exN (eX_one a0 (σ 18 0)))) 1 6 NF := by
  refine kx_of (by decide) (Nat.le_of_ble_eq_true rfl) (fun U h => h.1.2.2) ?_
  intro p e s m below meth c ls S hr hlocks ht hB hl
  have hx := S.1
  have hb := S.2.1
  have hX : PX G ad σ s s.heap := hB.1
  have hG : GL s := hX.2.2
  have hZ : ZS s s.heap := hB.2
  have hl : lv_has ls 2 [(0, .ref (ad 0)), (1, .int a0)] := hl
  refine lv_iload_n hx hb dX3_stateOf_0 rfl (lv_at hl 1 rfl) ?_
  refine lv_aload_n hx hb dX3_stateOf_1 rfl (lv_at hl 0 rfl) ?_
  refine k_get S hX.2 hX.1 0 (C := RX3) (T := TX3) (N := 6) rfl rfl 3 (by decide) inX3 m_147 rfl dX3_stateOf_2 ?_
  refine k_getN S hX.2 hX.1 4 (C := RX2) (T := TX2) (N := 4) rfl rfl 3 (by decide) inX2 n_98 rfl dX3_stateOf_5 ?_
  refine q_xv (rx_S S ⟨m_231, m_232, m_35, m_233⟩ ⟨rfl, by decide, by decide, by decide +kernel⟩ (c_checkIndex l a0 (σ 18 0) hst) ⟨rfl, rfl, Nat.le_of_ble_eq_true rfl, Nat.le_of_ble_eq_true rfl⟩ (ps bl_GZ (bGZ hX.2.2 hZ)) (n := 2) (As := [.int a0, .int (σ 18 0)]) (rest := []) rfl hl.1 rfl (Nat.le_of_ble_eq_true rfl) ⟨Nat.le_of_ble_eq_true rfl, Nat.le_of_ble_eq_true rfl⟩ dX3_stateOf_8) ht hlocks (by rintro x ⟨rfl, hf1⟩; simp [eX_one, hf1, exN]) (Nat.le_of_ble_eq_true rfl) (Nat.le_of_ble_eq_true rfl) (fun (p1 : ckI a0 (σ 18 0) = true) => ?_)
  obtain ⟨sh, hsh, rfl⟩ := ckI_nI (n := ns) (by rw [← hns]; exact p1) (by omega)
  have h31sh : sh < 2 ^ 31 := by omega
  refine lv_aload_n hx hb dX3_stateOf_11 rfl (lv_at hl 0 rfl) ?_
  refine k_get S hX.2 hX.1 0 (C := RX3) (T := TX3) (N := 6) rfl rfl 3 (by decide) inX3 m_147 rfl dX3_stateOf_12 ?_
  refine k_getN S hX.2 hX.1 4 (C := RX2) (T := TX2) (N := 4) rfl rfl 2 (by decide) inX2 n_96 rfl dX3_stateOf_15 ?_
  refine lv_iload_n hx hb dX3_stateOf_18 rfl (lv_at hl 1 rfl) ?_
  refine k_zld S hX.2 hX.1 13 (i := sh) rfl (by omega) (by decide) dX3_stateOf_19 ?_
  refine lv_if_eq (tgt := 27) hx hb dX3_stateOf_20 (by decide) (fun c20_2 => ?_) (fun c20_2 => ?_)
  · have bc20_2 := c20_2
    refine lv_iconst (v := 0) hx hb dX3_stateOf_27 (by decide) ?_
    refine vx_ret ?_
    exact W.iret (v := 0) hx hb hr (fun t ht hW => ⟨_, rfl, (by simp [eX_one, ixN_nI h31sh, p1, c20_2]), ht⟩) (fun q h => by cases h) dX3_stateOf_28
  · have bc20_2 := c20_2
    refine lv_iconst (v := 1) hx hb dX3_stateOf_23 (by decide) ?_
    refine lv_goto (tgt := 28) hx hb dX3_stateOf_24 (by decide) ?_
    refine vx_ret ?_
    exact W.iret (v := 1) hx hb hr (fun t ht hW => ⟨_, rfl, (by simp [eX_one, ixN_nI h31sh, p1, c20_2]), ht⟩) (fun q h => by cases h) dX3_stateOf_28

set_option maxHeartbeats 4000000 in
set_option maxRecDepth 100000 in
theorem c_cutOf (l : Launch) (G : kG) (ad : Nat → Nat) (σ : kS) (nm ns : Nat) (a0 : Int32) (hst : l.stackTraces = false) (hns : σ 18 0 = nI ns) (hns4 : ns ≤ 40) (hnm : σ 17 0 = nI nm) (hnm2 : nm ≤ 200)  : vx_Met l yX3_cutOf [.code yX3_cutOf cX3_cutOf 2 (some .int)] ({ frames := 7, cells := 1, slots := 6, locals := 113 }) (va_Pc [.ref (ad 0), .int a0] (fun U => PX G ad σ U U.heap ∧ ZS U U.heap)) (vp_Si (fun r => eX_one a0 (σ 18 0) = 0 ∧ r = σ 8 (ixN a0))) (tX (fun x => eX_one a0 (σ 18 0) ≠ 0 ∧ x = exN (eX_one a0 (σ 18 0)))) 1 6 NF := by
  refine kx_of (by decide) (Nat.le_of_ble_eq_true rfl) (fun U h => h.1.2.2) ?_
  intro p e s m below meth c ls S hr hlocks ht hB hl
  have hx := S.1
  have hb := S.2.1
  have hX : PX G ad σ s s.heap := hB.1
  have hG : GL s := hX.2.2
  have hZ : ZS s s.heap := hB.2
  have hl : lv_has ls 2 [(0, .ref (ad 0)), (1, .int a0)] := hl
  refine lv_iload_n hx hb dX3_cutOf_0 rfl (lv_at hl 1 rfl) ?_
  refine lv_aload_n hx hb dX3_cutOf_1 rfl (lv_at hl 0 rfl) ?_
  refine k_get S hX.2 hX.1 0 (C := RX3) (T := TX3) (N := 6) rfl rfl 3 (by decide) inX3 m_147 rfl dX3_cutOf_2 ?_
  refine k_getN S hX.2 hX.1 4 (C := RX2) (T := TX2) (N := 4) rfl rfl 3 (by decide) inX2 n_98 rfl dX3_cutOf_5 ?_
  refine q_xv (rx_S S ⟨m_231, m_232, m_35, m_233⟩ ⟨rfl, by decide, by decide, by decide +kernel⟩ (c_checkIndex l a0 (σ 18 0) hst) ⟨rfl, rfl, Nat.le_of_ble_eq_true rfl, Nat.le_of_ble_eq_true rfl⟩ (ps bl_GZ (bGZ hX.2.2 hZ)) (n := 2) (As := [.int a0, .int (σ 18 0)]) (rest := []) rfl hl.1 rfl (Nat.le_of_ble_eq_true rfl) ⟨Nat.le_of_ble_eq_true rfl, Nat.le_of_ble_eq_true rfl⟩ dX3_cutOf_8) ht hlocks (by rintro x ⟨rfl, hf1⟩; simp [eX_one, hf1, exN]) (Nat.le_of_ble_eq_true rfl) (Nat.le_of_ble_eq_true rfl) (fun (p1 : ckI a0 (σ 18 0) = true) => ?_)
  obtain ⟨sh, hsh, rfl⟩ := ckI_nI (n := ns) (by rw [← hns]; exact p1) (by omega)
  have h31sh : sh < 2 ^ 31 := by omega
  refine lv_aload_n hx hb dX3_cutOf_11 rfl (lv_at hl 0 rfl) ?_
  refine k_get S hX.2 hX.1 0 (C := RX3) (T := TX3) (N := 6) rfl rfl 3 (by decide) inX3 m_147 rfl dX3_cutOf_12 ?_
  refine k_getN S hX.2 hX.1 4 (C := RX2) (T := TX2) (N := 4) rfl rfl 1 (by decide) inX2 n_94 rfl dX3_cutOf_15 ?_
  refine lv_iload_n hx hb dX3_cutOf_18 rfl (lv_at hl 1 rfl) ?_
  refine k_ild S hX.2 hX.1 12 (i := sh) rfl (by omega) (by decide) dX3_cutOf_19 ?_
  refine vx_ret ?_
  exact W.iret (v := σ 8 sh) hx hb hr (fun t ht hW => ⟨_, rfl, (by simp [eX_one, ixN_nI h31sh, p1]), ht⟩) (fun q h => by cases h) dX3_cutOf_20

set_option maxHeartbeats 4000000 in
set_option maxRecDepth 100000 in
theorem c_counts (l : Launch) (G : kG) (ad : Nat → Nat) (σ : kS) (nm ns : Nat) (a0 b0 : Int32) (hst : l.stackTraces = false) (hns : σ 18 0 = nI ns) (hns4 : ns ≤ 40) (hnm : σ 17 0 = nI nm) (hnm2 : nm ≤ 200)  : vx_Met l yX3_counts [.code yX3_counts cX3_counts 3 (some .int)] ({ frames := 8, cells := 2, slots := 12, locals := 135 }) (va_Pc [.ref (ad 0), .int a0, .int b0] (fun U => PX G ad σ U U.heap ∧ ZS U U.heap)) (vp_Si (fun r => eX_two a0 (σ 18 0) b0 5 = 0 ∧ r = bc (σ 10 (lnN a0 b0)))) (tX (fun x => eX_two a0 (σ 18 0) b0 5 ≠ 0 ∧ x = exN (eX_two a0 (σ 18 0) b0 5))) 2 12 NF := by
  refine kx_of (by decide) (Nat.le_of_ble_eq_true rfl) (fun U h => h.1.2.2) ?_
  intro p e s m below meth c ls S hr hlocks ht hB hl
  have hx := S.1
  have hb := S.2.1
  have hX : PX G ad σ s s.heap := hB.1
  have hG : GL s := hX.2.2
  have hZ : ZS s s.heap := hB.2
  have hl : lv_has ls 3 [(0, .ref (ad 0)), (1, .int a0), (2, .int b0)] := hl
  refine lv_aload_n hx hb dX3_counts_0 rfl (lv_at hl 0 rfl) ?_
  refine lv_iload_n hx hb dX3_counts_1 rfl (lv_at hl 1 rfl) ?_
  refine lv_iload_n hx hb dX3_counts_2 rfl (lv_at hl 2 rfl) ?_
  refine q_xv (rx_V S ⟨m_530, m_532, m_21, m_35, m_533⟩ ⟨rfl, by decide, by decide, by decide +kernel⟩ (c_checkLine l G ad σ a0 b0 hst) ⟨rfl, rfl, Nat.le_of_ble_eq_true rfl, Nat.le_of_ble_eq_true rfl⟩ (pv_X hX 0 rfl rfl bl_PXZ (bXZ hX hZ)) (n := 2) (As := [.int a0, .int b0]) (rest := []) rfl hl.1 rfl (Nat.le_of_ble_eq_true rfl) ⟨Nat.le_of_ble_eq_true rfl, Nat.le_of_ble_eq_true rfl⟩ dX3_counts_3) ht hlocks (by rintro x ⟨rfl, hf1⟩; simp only [eX_two, hf1]; exact ⟨by simp, rfl⟩) (Nat.le_of_ble_eq_true rfl) (Nat.le_of_ble_eq_true rfl) (fun (p1 : (ckI a0 (σ 18 0) && ckI b0 5) = true) => ?_)
  obtain ⟨hpa, hpb⟩ := Bool.and_eq_true_iff.mp p1
  obtain ⟨sh, hsh, rfl⟩ := ckI_nI (n := ns) (by rw [← hns]; exact hpa) (by omega)
  obtain ⟨ar, har, rfl⟩ := ckI_nI (n := 5) hpb (by decide)
  have h31sh : sh < 2 ^ 31 := by omega
  have h31ar : ar < 2 ^ 31 := by omega
  refine lv_aload_n hx hb dX3_counts_6 rfl (lv_at hl 0 rfl) ?_
  refine k_get S hX.2 hX.1 0 (C := RX3) (T := TX3) (N := 6) rfl rfl 4 (by decide) inX3 m_148 rfl dX3_counts_7 ?_
  refine lv_iload_n hx hb dX3_counts_10 rfl (lv_at hl 1 rfl) ?_
  refine lv_iload_n hx hb dX3_counts_11 rfl (lv_at hl 2 rfl) ?_
  refine q_i (r_S S ⟨m_200, m_201, m_35, m_202⟩ ⟨rfl, by decide, by decide, by decide +kernel⟩ (c_lineOf l sh ar) ⟨rfl, rfl, Nat.le_of_ble_eq_true rfl, Nat.le_of_ble_eq_true rfl⟩ (ps bl_GL (bG hX.2.2)) (n := 2) (As := [.int (nI sh), .int (nI ar)]) (rest := [.ref (ad 5)]) rfl hl.1 rfl (Nat.le_of_ble_eq_true rfl) ⟨Nat.le_of_ble_eq_true rfl, Nat.le_of_ble_eq_true rfl⟩ dX3_counts_12) (fun r2 (e2 : r2 = nI (sh * 5 + ar)) => ?_)
  subst e2
  refine q_i (r_VN S hX.2.2 ⟨n_429, m_407, m_15, m_38, m_408⟩ ⟨rfl, by decide, by decide, by decide +kernel⟩ (c_countsOn l G ad σ (sh * 5 + ar) (by omega)) ⟨rfl, rfl, Nat.le_of_ble_eq_true rfl, Nat.le_of_ble_eq_true rfl⟩ (pv_X hX 5 rfl rfl bl_PX (bX hX)) (n := 1) (As := [.int (nI (sh * 5 + ar))]) (rest := []) rfl hl.1 rfl (Nat.le_of_ble_eq_true rfl) ⟨Nat.le_of_ble_eq_true rfl, Nat.le_of_ble_eq_true rfl⟩ dX3_counts_15) (fun r3 (e3 : r3 = bc (σ 10 (sh * 5 + ar))) => ?_)
  subst e3
  refine vx_ret ?_
  exact W.iret (v := bc (σ 10 (sh * 5 + ar))) hx hb hr (fun t ht hW => ⟨_, rfl, (by simp only [eX_two, p1]; simp [lnN, ixN_nI h31sh, ixN_nI h31ar]), ht⟩) (fun q h => by cases h) dX3_counts_18

set_option maxHeartbeats 4000000 in
set_option maxRecDepth 100000 in
theorem c_agreed (l : Launch) (G : kG) (ad : Nat → Nat) (σ : kS) (nm ns : Nat) (a0 b0 : Int32) (hst : l.stackTraces = false) (hns : σ 18 0 = nI ns) (hns4 : ns ≤ 40) (hnm : σ 17 0 = nI nm) (hnm2 : nm ≤ 200)  : vx_Met l yX3_agreed [.code yX3_agreed cX3_agreed 3 (some .int)] ({ frames := 8, cells := 2, slots := 12, locals := 135 }) (va_Pc [.ref (ad 0), .int a0, .int b0] (fun U => PX G ad σ U U.heap ∧ ZS U U.heap)) (vp_Si (fun r => eX_two a0 (σ 18 0) b0 5 = 0 ∧ r = σ 13 (lnN a0 b0))) (tX (fun x => eX_two a0 (σ 18 0) b0 5 ≠ 0 ∧ x = exN (eX_two a0 (σ 18 0) b0 5))) 2 12 NF := by
  refine kx_of (by decide) (Nat.le_of_ble_eq_true rfl) (fun U h => h.1.2.2) ?_
  intro p e s m below meth c ls S hr hlocks ht hB hl
  have hx := S.1
  have hb := S.2.1
  have hX : PX G ad σ s s.heap := hB.1
  have hG : GL s := hX.2.2
  have hZ : ZS s s.heap := hB.2
  have hl : lv_has ls 3 [(0, .ref (ad 0)), (1, .int a0), (2, .int b0)] := hl
  refine lv_aload_n hx hb dX3_agreed_0 rfl (lv_at hl 0 rfl) ?_
  refine lv_iload_n hx hb dX3_agreed_1 rfl (lv_at hl 1 rfl) ?_
  refine lv_iload_n hx hb dX3_agreed_2 rfl (lv_at hl 2 rfl) ?_
  refine q_xv (rx_V S ⟨m_530, m_532, m_21, m_35, m_533⟩ ⟨rfl, by decide, by decide, by decide +kernel⟩ (c_checkLine l G ad σ a0 b0 hst) ⟨rfl, rfl, Nat.le_of_ble_eq_true rfl, Nat.le_of_ble_eq_true rfl⟩ (pv_X hX 0 rfl rfl bl_PXZ (bXZ hX hZ)) (n := 2) (As := [.int a0, .int b0]) (rest := []) rfl hl.1 rfl (Nat.le_of_ble_eq_true rfl) ⟨Nat.le_of_ble_eq_true rfl, Nat.le_of_ble_eq_true rfl⟩ dX3_agreed_3) ht hlocks (by rintro x ⟨rfl, hf1⟩; simp only [eX_two, hf1]; exact ⟨by simp, rfl⟩) (Nat.le_of_ble_eq_true rfl) (Nat.le_of_ble_eq_true rfl) (fun (p1 : (ckI a0 (σ 18 0) && ckI b0 5) = true) => ?_)
  obtain ⟨hpa, hpb⟩ := Bool.and_eq_true_iff.mp p1
  obtain ⟨sh, hsh, rfl⟩ := ckI_nI (n := ns) (by rw [← hns]; exact hpa) (by omega)
  obtain ⟨ar, har, rfl⟩ := ckI_nI (n := 5) hpb (by decide)
  have h31sh : sh < 2 ^ 31 := by omega
  have h31ar : ar < 2 ^ 31 := by omega
  refine lv_aload_n hx hb dX3_agreed_6 rfl (lv_at hl 0 rfl) ?_
  refine k_get S hX.2 hX.1 0 (C := RX3) (T := TX3) (N := 6) rfl rfl 4 (by decide) inX3 m_148 rfl dX3_agreed_7 ?_
  refine k_getN S hX.2 hX.1 5 (C := RX0) (T := TX0) (N := 7) rfl rfl 3 (by decide) inX0 n_122 rfl dX3_agreed_10 ?_
  refine lv_iload_n hx hb dX3_agreed_13 rfl (lv_at hl 1 rfl) ?_
  refine lv_iload_n hx hb dX3_agreed_14 rfl (lv_at hl 2 rfl) ?_
  refine q_i (r_S S ⟨m_200, m_201, m_35, m_202⟩ ⟨rfl, by decide, by decide, by decide +kernel⟩ (c_lineOf l sh ar) ⟨rfl, rfl, Nat.le_of_ble_eq_true rfl, Nat.le_of_ble_eq_true rfl⟩ (ps bl_GL (bG hX.2.2)) (n := 2) (As := [.int (nI sh), .int (nI ar)]) (rest := [.ref (ad 17)]) rfl hl.1 rfl (Nat.le_of_ble_eq_true rfl) ⟨Nat.le_of_ble_eq_true rfl, Nat.le_of_ble_eq_true rfl⟩ dX3_agreed_15) (fun r2 (e2 : r2 = nI (sh * 5 + ar)) => ?_)
  subst e2
  refine k_ild S hX.2 hX.1 17 (i := (sh * 5 + ar)) rfl (by omega) (by decide) dX3_agreed_18 ?_
  refine vx_ret ?_
  exact W.iret (v := σ 13 (sh * 5 + ar)) hx hb hr (fun t ht hW => ⟨_, rfl, (by simp only [eX_two, p1]; simp [lnN, ixN_nI h31sh, ixN_nI h31ar]), ht⟩) (fun q h => by cases h) dX3_agreed_19

set_option maxHeartbeats 4000000 in
set_option maxRecDepth 100000 in
theorem c_isSigned (l : Launch) (G : kG) (ad : Nat → Nat) (σ : kS) (nm ns : Nat) (a0 b0 : Int32) (hst : l.stackTraces = false) (hns : σ 18 0 = nI ns) (hns4 : ns ≤ 40) (hnm : σ 17 0 = nI nm) (hnm2 : nm ≤ 200)  : vx_Met l yX3_isSigned [.code yX3_isSigned cX3_isSigned 3 (some .boolean)] ({ frames := 8, cells := 2, slots := 12, locals := 135 }) (va_Pc [.ref (ad 0), .int a0, .int b0] (fun U => PX G ad σ U U.heap ∧ ZS U U.heap)) (vp_Si (fun r => eX_two a0 (σ 18 0) b0 5 = 0 ∧ r = bI (hsB σ (lnN a0 b0)))) (tX (fun x => eX_two a0 (σ 18 0) b0 5 ≠ 0 ∧ x = exN (eX_two a0 (σ 18 0) b0 5))) 2 12 NF := by
  refine kx_of (by decide) (Nat.le_of_ble_eq_true rfl) (fun U h => h.1.2.2) ?_
  intro p e s m below meth c ls S hr hlocks ht hB hl
  have hx := S.1
  have hb := S.2.1
  have hX : PX G ad σ s s.heap := hB.1
  have hG : GL s := hX.2.2
  have hZ : ZS s s.heap := hB.2
  have hl : lv_has ls 3 [(0, .ref (ad 0)), (1, .int a0), (2, .int b0)] := hl
  refine lv_aload_n hx hb dX3_isSigned_0 rfl (lv_at hl 0 rfl) ?_
  refine lv_iload_n hx hb dX3_isSigned_1 rfl (lv_at hl 1 rfl) ?_
  refine lv_iload_n hx hb dX3_isSigned_2 rfl (lv_at hl 2 rfl) ?_
  refine q_xv (rx_V S ⟨m_530, m_532, m_21, m_35, m_533⟩ ⟨rfl, by decide, by decide, by decide +kernel⟩ (c_checkLine l G ad σ a0 b0 hst) ⟨rfl, rfl, Nat.le_of_ble_eq_true rfl, Nat.le_of_ble_eq_true rfl⟩ (pv_X hX 0 rfl rfl bl_PXZ (bXZ hX hZ)) (n := 2) (As := [.int a0, .int b0]) (rest := []) rfl hl.1 rfl (Nat.le_of_ble_eq_true rfl) ⟨Nat.le_of_ble_eq_true rfl, Nat.le_of_ble_eq_true rfl⟩ dX3_isSigned_3) ht hlocks (by rintro x ⟨rfl, hf1⟩; simp only [eX_two, hf1]; exact ⟨by simp, rfl⟩) (Nat.le_of_ble_eq_true rfl) (Nat.le_of_ble_eq_true rfl) (fun (p1 : (ckI a0 (σ 18 0) && ckI b0 5) = true) => ?_)
  obtain ⟨hpa, hpb⟩ := Bool.and_eq_true_iff.mp p1
  obtain ⟨sh, hsh, rfl⟩ := ckI_nI (n := ns) (by rw [← hns]; exact hpa) (by omega)
  obtain ⟨ar, har, rfl⟩ := ckI_nI (n := 5) hpb (by decide)
  have h31sh : sh < 2 ^ 31 := by omega
  have h31ar : ar < 2 ^ 31 := by omega
  refine lv_aload_n hx hb dX3_isSigned_6 rfl (lv_at hl 0 rfl) ?_
  refine k_get S hX.2 hX.1 0 (C := RX3) (T := TX3) (N := 6) rfl rfl 4 (by decide) inX3 m_148 rfl dX3_isSigned_7 ?_
  refine lv_iload_n hx hb dX3_isSigned_10 rfl (lv_at hl 1 rfl) ?_
  refine lv_iload_n hx hb dX3_isSigned_11 rfl (lv_at hl 2 rfl) ?_
  refine q_i (r_S S ⟨m_200, m_201, m_35, m_202⟩ ⟨rfl, by decide, by decide, by decide +kernel⟩ (c_lineOf l sh ar) ⟨rfl, rfl, Nat.le_of_ble_eq_true rfl, Nat.le_of_ble_eq_true rfl⟩ (ps bl_GL (bG hX.2.2)) (n := 2) (As := [.int (nI sh), .int (nI ar)]) (rest := [.ref (ad 5)]) rfl hl.1 rfl (Nat.le_of_ble_eq_true rfl) ⟨Nat.le_of_ble_eq_true rfl, Nat.le_of_ble_eq_true rfl⟩ dX3_isSigned_12) (fun r2 (e2 : r2 = nI (sh * 5 + ar)) => ?_)
  subst e2
  refine q_i (r_VN S hX.2.2 ⟨n_203, m_205, m_6, m_38, m_206⟩ ⟨rfl, by decide, by decide, by decide +kernel⟩ (c_hasSign l G ad σ (sh * 5 + ar) (by omega)) ⟨rfl, rfl, Nat.le_of_ble_eq_true rfl, Nat.le_of_ble_eq_true rfl⟩ (pv_X hX 5 rfl rfl bl_PX (bX hX)) (n := 1) (As := [.int (nI (sh * 5 + ar))]) (rest := []) rfl hl.1 rfl (Nat.le_of_ble_eq_true rfl) ⟨Nat.le_of_ble_eq_true rfl, Nat.le_of_ble_eq_true rfl⟩ dX3_isSigned_15) (fun r3 (e3 : r3 = bI (hsB σ (sh * 5 + ar))) => ?_)
  subst e3
  refine vx_ret ?_
  exact W.zret (v := bI (hsB σ (sh * 5 + ar))) (ty := .boolean) hx hb hr (by first | rfl | exact bI_nar _) (fun t ht hW => ⟨_, rfl, (by simp only [eX_two, p1]; simp [lnN, ixN_nI h31sh, ixN_nI h31ar]), ht⟩) (fun q h => by cases h) dX3_isSigned_18

set_option maxHeartbeats 4000000 in
set_option maxRecDepth 100000 in
theorem c_gap (l : Launch) (G : kG) (ad : Nat → Nat) (σ : kS) (nm ns : Nat) (a0 b0 : Int32) (hst : l.stackTraces = false) (hns : σ 18 0 = nI ns) (hns4 : ns ≤ 40) (hnm : σ 17 0 = nI nm) (hnm2 : nm ≤ 200)  : vx_Met l yX3_gap [.code yX3_gap cX3_gap 3 (some .int)] ({ frames := 8, cells := 3, slots := 18, locals := 157 }) (va_Pc [.ref (ad 0), .int a0, .int b0] (fun U => PX G ad σ U U.heap ∧ ZS U U.heap)) (vp_Si (fun r => eX_gap σ a0 b0 = 0 ∧ r = gpV σ nm ns (ixN a0) (ixN b0))) (tX (fun x => eX_gap σ a0 b0 ≠ 0 ∧ x = exN (eX_gap σ a0 b0))) 3 18 NF := by
  refine kx_of (by decide) (Nat.le_of_ble_eq_true rfl) (fun U h => h.1.2.2) ?_
  intro p e s m below meth c ls S hr hlocks ht hB hl
  have hx := S.1
  have hb := S.2.1
  have hX : PX G ad σ s s.heap := hB.1
  have hG : GL s := hX.2.2
  have hZ : ZS s s.heap := hB.2
  have hl : lv_has ls 3 [(0, .ref (ad 0)), (1, .int a0), (2, .int b0)] := hl
  refine lv_aload_n hx hb dX3_gap_0 rfl (lv_at hl 0 rfl) ?_
  refine lv_iload_n hx hb dX3_gap_1 rfl (lv_at hl 1 rfl) ?_
  refine lv_iload_n hx hb dX3_gap_2 rfl (lv_at hl 2 rfl) ?_
  refine q_xv (rx_V S ⟨m_530, m_532, m_21, m_35, m_533⟩ ⟨rfl, by decide, by decide, by decide +kernel⟩ (c_checkLine l G ad σ a0 b0 hst) ⟨rfl, rfl, Nat.le_of_ble_eq_true rfl, Nat.le_of_ble_eq_true rfl⟩ (pv_X hX 0 rfl rfl bl_PXZ (bXZ hX hZ)) (n := 2) (As := [.int a0, .int b0]) (rest := []) rfl hl.1 rfl (Nat.le_of_ble_eq_true rfl) ⟨Nat.le_of_ble_eq_true rfl, Nat.le_of_ble_eq_true rfl⟩ dX3_gap_3) ht hlocks (by rintro x ⟨rfl, hf1⟩; simp only [eX_gap, hf1]; exact ⟨by simp, rfl⟩) (Nat.le_of_ble_eq_true rfl) (Nat.le_of_ble_eq_true rfl) (fun (p1 : (ckI a0 (σ 18 0) && ckI b0 5) = true) => ?_)
  obtain ⟨hpa, hpb⟩ := Bool.and_eq_true_iff.mp p1
  obtain ⟨sh, hsh, rfl⟩ := ckI_nI (n := ns) (by rw [← hns]; exact hpa) (by omega)
  obtain ⟨ar, har, rfl⟩ := ckI_nI (n := 5) hpb (by decide)
  have h31sh : sh < 2 ^ 31 := by omega
  have h31ar : ar < 2 ^ 31 := by omega
  refine lv_aload_n hx hb dX3_gap_6 rfl (lv_at hl 0 rfl) ?_
  refine lv_iload_n hx hb dX3_gap_7 rfl (lv_at hl 1 rfl) ?_
  refine lv_iload_n hx hb dX3_gap_8 rfl (lv_at hl 2 rfl) ?_
  refine q_xv (rx_V S ⟨m_439, m_441, m_16, m_35, m_442⟩ ⟨rfl, by decide, by decide, by decide +kernel⟩ (c_checkAgrees l G ad σ sh ar hst (by omega) (by omega)) ⟨rfl, rfl, Nat.le_of_ble_eq_true rfl, Nat.le_of_ble_eq_true rfl⟩ (pv_X hX 0 rfl rfl bl_PXZ (bXZ hX hZ)) (n := 2) (As := [.int (nI sh), .int (nI ar)]) (rest := []) rfl hl.1 rfl (Nat.le_of_ble_eq_true rfl) ⟨Nat.le_of_ble_eq_true rfl, Nat.le_of_ble_eq_true rfl⟩ dX3_gap_9) ht hlocks (by rintro x ⟨rfl, hf2⟩; simp only [eX_gap, p1]; simp [lnN, ixN_nI h31sh, ixN_nI h31ar, hf2]) (Nat.le_of_ble_eq_true rfl) (Nat.le_of_ble_eq_true rfl) (fun (p2 : agB σ (sh * 5 + ar) = true) => ?_)
  refine lv_aload_n hx hb dX3_gap_12 rfl (lv_at hl 0 rfl) ?_
  refine lv_iload_n hx hb dX3_gap_13 rfl (lv_at hl 1 rfl) ?_
  refine lv_iload_n hx hb dX3_gap_14 rfl (lv_at hl 2 rfl) ?_
  refine q_i (r_V S ⟨m_464, m_466, m_18, m_35, m_467⟩ ⟨rfl, by decide, by decide, by decide +kernel⟩ (c_gapOf l G ad σ nm ns sh ar hns hns4 hnm hnm2 (by omega) (by omega)) ⟨rfl, rfl, Nat.le_of_ble_eq_true rfl, Nat.le_of_ble_eq_true rfl⟩ (pv_X hX 0 rfl rfl bl_PX (bX hX)) (n := 2) (As := [.int (nI sh), .int (nI ar)]) (rest := []) rfl hl.1 rfl (Nat.le_of_ble_eq_true rfl) ⟨Nat.le_of_ble_eq_true rfl, Nat.le_of_ble_eq_true rfl⟩ dX3_gap_15) (fun r3 (e3 : r3 = gpV σ nm ns sh ar) => ?_)
  subst e3
  refine vx_ret ?_
  exact W.iret (v := gpV σ nm ns sh ar) hx hb hr (fun t ht hW => ⟨_, rfl, (by simp only [eX_gap, p1]; simp [lnN, ixN_nI h31sh, ixN_nI h31ar, p2]), ht⟩) (fun q h => by cases h) dX3_gap_18

set_option maxHeartbeats 4000000 in
set_option maxRecDepth 100000 in
theorem c_likely (l : Launch) (G : kG) (ad : Nat → Nat) (σ : kS) (nm ns : Nat) (a0 b0 : Int32) (hst : l.stackTraces = false) (hns : σ 18 0 = nI ns) (hns4 : ns ≤ 40) (hnm : σ 17 0 = nI nm) (hnm2 : nm ≤ 200)  : vx_Met l yX3_likely [.code yX3_likely cX3_likely 4 (some .int)] ({ frames := 8, cells := 2, slots := 12, locals := 181 }) (va_Pc [.ref (ad 0), .int a0, .int b0] (fun U => PX G ad σ U U.heap ∧ ZS U U.heap)) (vp_Si (fun r => eX_two a0 (σ 18 0) b0 5 = 0 ∧ r = oI (flO (fun k => csB σ nm ns (ixN a0) k (ixN b0)) ns))) (tX (fun x => eX_two a0 (σ 18 0) b0 5 ≠ 0 ∧ x = exN (eX_two a0 (σ 18 0) b0 5))) 2 12 NF := by
  refine kx_of (by decide) (Nat.le_of_ble_eq_true rfl) (fun U h => h.1.2.2) ?_
  intro p e s m below meth c ls S hr hlocks ht hB hl
  have hx := S.1
  have hb := S.2.1
  have hX : PX G ad σ s s.heap := hB.1
  have hG : GL s := hX.2.2
  have hZ : ZS s s.heap := hB.2
  have hl : lv_has ls 4 [(0, .ref (ad 0)), (1, .int a0), (2, .int b0)] := hl
  refine lv_aload_n hx hb dX3_likely_0 rfl (lv_at hl 0 rfl) ?_
  refine lv_iload_n hx hb dX3_likely_1 rfl (lv_at hl 1 rfl) ?_
  refine lv_iload_n hx hb dX3_likely_2 rfl (lv_at hl 2 rfl) ?_
  refine q_xv (rx_V S ⟨m_530, m_532, m_21, m_35, m_533⟩ ⟨rfl, by decide, by decide, by decide +kernel⟩ (c_checkLine l G ad σ a0 b0 hst) ⟨rfl, rfl, Nat.le_of_ble_eq_true rfl, Nat.le_of_ble_eq_true rfl⟩ (pv_X hX 0 rfl rfl bl_PXZ (bXZ hX hZ)) (n := 2) (As := [.int a0, .int b0]) (rest := []) rfl hl.1 rfl (Nat.le_of_ble_eq_true rfl) ⟨Nat.le_of_ble_eq_true rfl, Nat.le_of_ble_eq_true rfl⟩ dX3_likely_3) ht hlocks (by rintro x ⟨rfl, hf1⟩; simp only [eX_two, hf1]; exact ⟨by simp, rfl⟩) (Nat.le_of_ble_eq_true rfl) (Nat.le_of_ble_eq_true rfl) (fun (p1 : (ckI a0 (σ 18 0) && ckI b0 5) = true) => ?_)
  obtain ⟨hpa, hpb⟩ := Bool.and_eq_true_iff.mp p1
  obtain ⟨sh, hsh, rfl⟩ := ckI_nI (n := ns) (by rw [← hns]; exact hpa) (by omega)
  obtain ⟨ar, har, rfl⟩ := ckI_nI (n := 5) hpb (by decide)
  have h31sh : sh < 2 ^ 31 := by omega
  have h31ar : ar < 2 ^ 31 := by omega
  have L8 : ∀ (n i : Nat), i ≤ ns → ns + 1 ≤ i + n → (∀ j, j < i → csB σ nm ns sh j ar = false) → ∀ ls, lv_has ls 4 [(0, .ref (ad 0)), (1, .int (nI sh)), (2, .int (nI ar)), (3, .int (nI i))] → W p l e ({ frames := 8, cells := 2, slots := 12, locals := 181 } : Room) s m [.ref (ad 0), .int (nI sh), .int (nI ar)].toArray below meth c s.heap [] 2 12 (vx_MQ below (vp_Si (fun r => eX_two (nI sh) (σ 18 0) (nI ar) 5 = 0 ∧ r = oI (flO (fun k => csB σ nm ns (ixN (nI sh)) k (ixN (nI ar))) ns))) (tX (fun x => eX_two (nI sh) (σ 18 0) (nI ar) 5 ≠ 0 ∧ x = exN (eX_two (nI sh) (σ 18 0) (nI ar) 5))) [.ref (ad 0), .int (nI sh), .int (nI ar)].toArray s 2 12 NF) (F0 m 8 ls []) := by
    intro n
    induction n with
    | zero =>
      intro i h1 h2
      omega
    | succ n ihn =>
      intro i hii hini hno ls hl
      refine lv_iload_n hx hb dX3_likely_8 rfl (lv_at hl 3 rfl) ?_
      refine lv_aload_n hx hb dX3_likely_9 rfl (lv_at hl 0 rfl) ?_
      refine k_get S hX.2 hX.1 0 (C := RX3) (T := TX3) (N := 6) rfl rfl 3 (by decide) inX3 m_147 rfl dX3_likely_10 ?_
      refine k_getN S hX.2 hX.1 4 (C := RX2) (T := TX2) (N := 4) rfl rfl 3 (by decide) inX2 n_98 rfl dX3_likely_13 ?_
      refine k_eq (y := nI ns) (hns) ?_
      refine lv_icmp_ge (tgt := 37) hx hb dX3_likely_16 (by decide) (fun c16_2 => ?_) (fun c16_2 => ?_)
      · have bc16_2 := le_nlt c16_2
        have hgei : i = ns := by
          have h9 := c16_2
          rw [nI_leI (by omega) (by omega)] at h9
          omega
        refine lv_iconst (v := (-1)) hx hb dX3_likely_37 (by decide) ?_
        refine vx_ret ?_
        exact W.iret (v := (-1)) hx hb hr (fun t ht hW => ⟨_, rfl, (by simp only [eX_two, p1, ixN_nI h31sh, ixN_nI h31ar]; exact ⟨rfl, by rw [flO_none (p := fun k => csB σ nm ns sh k ar) (fun j hj => hno j (by omega))]; rfl⟩), ht⟩) (fun q h => by cases h) dX3_likely_38
      · have bc16_2 := nle_lt c16_2
        have hlti : i < ns := by
          have h9 := nle_lt c16_2
          rw [nI_ltI (by omega) (by omega)] at h9
          exact h9
        refine lv_aload_n hx hb dX3_likely_19 rfl (lv_at hl 0 rfl) ?_
        refine lv_iload_n hx hb dX3_likely_20 rfl (lv_at hl 1 rfl) ?_
        refine lv_iload_n hx hb dX3_likely_21 rfl (lv_at hl 3 rfl) ?_
        refine lv_iload_n hx hb dX3_likely_22 rfl (lv_at hl 2 rfl) ?_
        refine q_i (r_V S ⟨m_483, m_485, m_20, m_35, m_486⟩ ⟨rfl, by decide, by decide, by decide +kernel⟩ (c_canBeSettled l G ad σ nm ns sh i ar hns hns4 hnm hnm2 (by omega) (by omega) (by omega)) ⟨rfl, rfl, Nat.le_of_ble_eq_true rfl, Nat.le_of_ble_eq_true rfl⟩ (pv_X hX 0 rfl rfl bl_PX (bX hX)) (n := 3) (As := [.int (nI sh), .int (nI i), .int (nI ar)]) (rest := []) rfl hl.1 rfl (Nat.le_of_ble_eq_true rfl) ⟨Nat.le_of_ble_eq_true rfl, Nat.le_of_ble_eq_true rfl⟩ dX3_likely_23) (fun r3 (e3 : r3 = bI (csB σ nm ns sh i ar)) => ?_)
        subst e3
        refine lv_if_eq (tgt := 31) hx hb dX3_likely_26 (by decide) (fun c26_4 => ?_) (fun c26_4 => ?_)
        · have bc26_4 := bI_0 c26_4
          refine lv_iinc (v := nI (i + 1)) (lv' := [(3, .int (nI (i + 1))), (0, .ref (ad 0)), (1, .int (nI sh)), (2, .int (nI ar))]) hx hb dX3_likely_31 hl (k := 3) rfl (nI_1 i) (by decide) rfl (fun ls hl => ?_)
          refine lv_goto (tgt := 8) hx hb dX3_likely_34 (by decide) ?_
          exact ihn (i + 1) hlti (by omega) (lt_s hno bc26_4) ls (lv_sub hl [1, 2, 3, 0] rfl)
        · have bc26_4 := bI_n c26_4
          refine lv_iload_n hx hb dX3_likely_29 rfl (lv_at hl 3 rfl) ?_
          refine vx_ret ?_
          exact W.iret (v := nI i) hx hb hr (fun t ht hW => ⟨_, rfl, (by simp only [eX_two, p1, ixN_nI h31sh, ixN_nI h31ar]; exact ⟨rfl, by rw [flO_at (p := fun k => csB σ nm ns sh k ar) bc26_4 hno hlti]; rfl⟩), ht⟩) (fun q h => by cases h) dX3_likely_30
  refine lv_iconst (v := 0) hx hb dX3_likely_6 (by decide) ?_
  refine lv_istore_n (lv' := [(3, .int 0), (0, .ref (ad 0)), (1, .int (nI sh)), (2, .int (nI ar))]) hx hb dX3_likely_7 rfl hl (by decide) rfl (fun ls hl => ?_)
  exact L8 (ns + 1) 0 (Nat.zero_le _) (by omega) lt_0 ls (lv_sub hl [1, 2, 3, 0] rfl)

set_option maxHeartbeats 4000000 in
set_option maxRecDepth 100000 in
theorem c_exact (l : Launch) (G : kG) (ad : Nat → Nat) (σ : kS) (nm ns : Nat) (a0 : Int32) (hst : l.stackTraces = false) (hns : σ 18 0 = nI ns) (hns4 : ns ≤ 40) (hnm : σ 17 0 = nI nm) (hnm2 : nm ≤ 200)  : vx_Met l yX3_exact [.code yX3_exact cX3_exact 7 (some .int)] ({ frames := 7, cells := 1, slots := 6, locals := 113 }) (va_Pc [.ref (ad 0), .int a0] (fun U => PX G ad σ U U.heap ∧ ZS U U.heap)) (vp_Si (fun r => eX_one a0 3 = 0 ∧ r = exV σ ns a0)) (tX (fun x => eX_one a0 3 ≠ 0 ∧ x = exN (eX_one a0 3))) 1 6 NF := by
  refine kx_of (by decide) (Nat.le_of_ble_eq_true rfl) (fun U h => h.1.2.2) ?_
  intro p e s m below meth c ls S hr hlocks ht hB hl
  have hx := S.1
  have hb := S.2.1
  have hX : PX G ad σ s s.heap := hB.1
  have hG : GL s := hX.2.2
  have hZ : ZS s s.heap := hB.2
  have hl : lv_has ls 7 [(0, .ref (ad 0)), (1, .int a0)] := hl
  refine lv_iload_n hx hb dX3_exact_0 rfl (lv_at hl 1 rfl) ?_
  refine lv_iconst (v := 3) hx hb dX3_exact_1 (by decide) ?_
  refine q_xv (rx_S S ⟨m_231, m_232, m_35, m_233⟩ ⟨rfl, by decide, by decide, by decide +kernel⟩ (c_checkIndex l a0 3 hst) ⟨rfl, rfl, Nat.le_of_ble_eq_true rfl, Nat.le_of_ble_eq_true rfl⟩ (ps bl_GZ (bGZ hX.2.2 hZ)) (n := 2) (As := [.int a0, .int 3]) (rest := []) rfl hl.1 rfl (Nat.le_of_ble_eq_true rfl) ⟨Nat.le_of_ble_eq_true rfl, Nat.le_of_ble_eq_true rfl⟩ dX3_exact_2) ht hlocks (by rintro x ⟨rfl, hf1⟩; simp [eX_one, exV, hf1, exN]) (Nat.le_of_ble_eq_true rfl) (Nat.le_of_ble_eq_true rfl) (fun (p1 : ckI a0 3 = true) => ?_)
  have L12 : ∀ (n i : Nat), i ≤ ns → ns + 1 ≤ i + n → ∀ ls, lv_has ls 7 [(0, .ref (ad 0)), (1, .int a0), (2, .int ((exF σ a0 i).1)), (3, .int ((exF σ a0 i).2)), (4, .int (nI i))] → W p l e ({ frames := 7, cells := 1, slots := 6, locals := 113 } : Room) s m [.ref (ad 0), .int a0].toArray below meth c s.heap [] 1 6 (vx_MQ below (vp_Si (fun r => eX_one a0 3 = 0 ∧ r = exV σ ns a0)) (tX (fun x => eX_one a0 3 ≠ 0 ∧ x = exN (eX_one a0 3))) [.ref (ad 0), .int a0].toArray s 1 6 NF) (F0 m 12 ls []) := by
    intro n
    induction n with
    | zero =>
      intro i h1 h2
      omega
    | succ n ihn =>
      intro i hii hini ls hl
      refine lv_iload hx hb dX3_exact_12 (lv_at hl 4 rfl) ?_
      refine lv_aload_n hx hb dX3_exact_14 rfl (lv_at hl 0 rfl) ?_
      refine k_get S hX.2 hX.1 0 (C := RX3) (T := TX3) (N := 6) rfl rfl 3 (by decide) inX3 m_147 rfl dX3_exact_15 ?_
      refine k_getN S hX.2 hX.1 4 (C := RX2) (T := TX2) (N := 4) rfl rfl 3 (by decide) inX2 n_98 rfl dX3_exact_18 ?_
      refine k_eq (y := nI ns) (hns) ?_
      refine lv_icmp_ge (tgt := 106) hx hb dX3_exact_21 (by decide) (fun c21_2 => ?_) (fun c21_2 => ?_)
      · have bc21_2 := le_nlt c21_2
        have hgei : i = ns := by
          have h9 := c21_2
          rw [nI_leI (by omega) (by omega)] at h9
          omega
        refine lv_iload_n hx hb dX3_exact_106 rfl (lv_at hl 2 rfl) ?_
        refine lv_if_ne (tgt := 114) hx hb dX3_exact_107 (by decide) (fun c107_3 => ?_) (fun c107_3 => ?_)
        · have bc107_3 := c107_3
          have hdz := c107_3
          refine lv_sipush (v := 1000) hx hb dX3_exact_114 (by decide) ?_
          refine lv_iload_n hx hb dX3_exact_117 rfl (lv_at hl 3 rfl) ?_
          refine lv_imul hx hb dX3_exact_118 ?_
          refine lv_iload_n hx hb dX3_exact_119 rfl (lv_at hl 2 rfl) ?_
          refine lv_idiv hx hb dX3_exact_120 hdz ?_
          refine vx_ret ?_
          exact W.iret (v := (1000 * ((exF σ a0 i).2)) / ((exF σ a0 i).1)) hx hb hr (fun t ht hW => ⟨_, rfl, (by subst hgei; simp [eX_one, exV, p1, c21_2, bc21_2, c107_3]), ht⟩) (fun q h => by cases h) dX3_exact_121
        · have bc107_3 := c107_3
          refine lv_iconst (v := (-1)) hx hb dX3_exact_110 (by decide) ?_
          refine lv_goto (tgt := 121) hx hb dX3_exact_111 (by decide) ?_
          refine vx_ret ?_
          exact W.iret (v := (-1)) hx hb hr (fun t ht hW => ⟨_, rfl, (by subst hgei; simp [eX_one, exV, p1, c21_2, bc21_2, c107_3]), ht⟩) (fun q h => by cases h) dX3_exact_121
      · have bc21_2 := nle_lt c21_2
        have hlti : i < ns := by
          have h9 := nle_lt c21_2
          rw [nI_ltI (by omega) (by omega)] at h9
          exact h9
        refine lv_aload_n hx hb dX3_exact_24 rfl (lv_at hl 0 rfl) ?_
        refine k_get S hX.2 hX.1 0 (C := RX3) (T := TX3) (N := 6) rfl rfl 3 (by decide) inX3 m_147 rfl dX3_exact_25 ?_
        refine k_getN S hX.2 hX.1 4 (C := RX2) (T := TX2) (N := 4) rfl rfl 0 (by decide) inX2 n_92 rfl dX3_exact_28 ?_
        refine lv_iload hx hb dX3_exact_31 (lv_at hl 4 rfl) ?_
        refine k_ild S hX.2 hX.1 11 (i := i) rfl (by omega) (by decide) dX3_exact_33 ?_
        refine lv_iconst (v := 4) hx hb dX3_exact_34 (by decide) ?_
        refine lv_idiv hx hb dX3_exact_35 (by decide) ?_
        refine lv_iload_n hx hb dX3_exact_36 rfl (lv_at hl 1 rfl) ?_
        refine lv_icmp_ne (tgt := 100) hx hb dX3_exact_37 (by decide) (fun c37_4 => ?_) (fun c37_4 => ?_)
        · have bc37_4 := c37_4
          refine lv_iinc (v := nI (i + 1)) (lv' := [(4, .int (nI (i + 1))), (0, .ref (ad 0)), (1, .int a0), (2, .int ((exF σ a0 i).1)), (3, .int ((exF σ a0 i).2))]) hx hb dX3_exact_100 hl (k := 4) rfl (nI_1 i) (by decide) rfl (fun ls hl => ?_)
          refine lv_goto (tgt := 12) hx hb dX3_exact_103 (by decide) ?_
          have ev5 : (exF σ a0 i).1 = (exF σ a0 (i + 1)).1 := by simp [exF, p1, c21_2, bc21_2, c37_4]
          rw [ev5] at hl
          have ev6 : (exF σ a0 i).2 = (exF σ a0 (i + 1)).2 := by simp [exF, p1, c21_2, bc21_2, c37_4]
          rw [ev6] at hl
          exact ihn (i + 1) hlti (by omega) ls (lv_sub hl [1, 2, 3, 4, 0] rfl)
        · have bc37_4 := c37_4
          have L43 : ∀ (n2 j : Nat), j ≤ 5 → 5 + 1 ≤ j + n2 → ∀ ls, lv_has ls 7 [(0, .ref (ad 0)), (1, .int a0), (2, .int ((exI σ i j (exF σ a0 i)).1)), (3, .int ((exI σ i j (exF σ a0 i)).2)), (4, .int (nI i)), (5, .int (nI j))] → W p l e ({ frames := 7, cells := 1, slots := 6, locals := 113 } : Room) s m [.ref (ad 0), .int a0].toArray below meth c s.heap [] 1 6 (vx_MQ below (vp_Si (fun r => eX_one a0 3 = 0 ∧ r = exV σ ns a0)) (tX (fun x => eX_one a0 3 ≠ 0 ∧ x = exN (eX_one a0 3))) [.ref (ad 0), .int a0].toArray s 1 6 NF) (F0 m 43 ls []) := by
            intro n2
            induction n2 with
            | zero =>
              intro j h1 h2
              omega
            | succ n2 ihn2 =>
              intro j hij hinj ls hl
              refine lv_iload hx hb dX3_exact_43 (lv_at hl 5 rfl) ?_
              refine lv_iconst (v := 5) hx hb dX3_exact_45 (by decide) ?_
              refine lv_icmp_ge (tgt := 100) hx hb dX3_exact_46 (by decide) (fun c46_7 => ?_) (fun c46_7 => ?_)
              · have bc46_7 := le_nlt c46_7
                have hgej : j = 5 := by
                  have h9 := c46_7
                  rw [show (5 : Int32) = nI 5 from rfl, nI_leI (by omega) (by omega)] at h9
                  omega
                refine lv_iinc (v := nI (i + 1)) (lv' := [(4, .int (nI (i + 1))), (0, .ref (ad 0)), (1, .int a0), (2, .int ((exI σ i j (exF σ a0 i)).1)), (3, .int ((exI σ i j (exF σ a0 i)).2)), (5, .int (nI j))]) hx hb dX3_exact_100 hl (k := 4) rfl (nI_1 i) (by decide) rfl (fun ls hl => ?_)
                refine lv_goto (tgt := 12) hx hb dX3_exact_103 (by decide) ?_
                subst hgej
                have ev8 : (exI σ i 5 (exF σ a0 i)).1 = (exF σ a0 (i + 1)).1 := by simp [exF, p1, c21_2, bc21_2, c37_4]
                rw [ev8] at hl
                have ev9 : (exI σ i 5 (exF σ a0 i)).2 = (exF σ a0 (i + 1)).2 := by simp [exF, p1, c21_2, bc21_2, c37_4]
                rw [ev9] at hl
                exact ihn (i + 1) hlti (by omega) ls (lv_sub hl [1, 2, 3, 4, 0] rfl)
              · have bc46_7 := nle_lt c46_7
                have hltj : j < 5 := by
                  have h9 := nle_lt c46_7
                  rw [show (5 : Int32) = nI 5 from rfl, nI_ltI (by omega) (by omega)] at h9
                  exact h9
                refine lv_iload hx hb dX3_exact_49 (lv_at hl 4 rfl) ?_
                refine lv_iload hx hb dX3_exact_51 (lv_at hl 5 rfl) ?_
                refine q_i (r_S S ⟨m_200, m_201, m_35, m_202⟩ ⟨rfl, by decide, by decide, by decide +kernel⟩ (c_lineOf l i j) ⟨rfl, rfl, Nat.le_of_ble_eq_true rfl, Nat.le_of_ble_eq_true rfl⟩ (ps bl_GL (bG hX.2.2)) (n := 2) (As := [.int (nI i), .int (nI j)]) (rest := []) rfl hl.1 rfl (Nat.le_of_ble_eq_true rfl) ⟨Nat.le_of_ble_eq_true rfl, Nat.le_of_ble_eq_true rfl⟩ dX3_exact_53) (fun r10 (e10 : r10 = nI (i * 5 + j)) => ?_)
                subst e10
                refine lv_istore (lv' := [(6, .int (nI (i * 5 + j))), (0, .ref (ad 0)), (1, .int a0), (2, .int ((exI σ i j (exF σ a0 i)).1)), (3, .int ((exI σ i j (exF σ a0 i)).2)), (4, .int (nI i)), (5, .int (nI j))]) hx hb dX3_exact_56 hl (by decide) rfl (fun ls hl => ?_)
                refine lv_aload_n hx hb dX3_exact_58 rfl (lv_at hl 1 rfl) ?_
                refine k_get S hX.2 hX.1 0 (C := RX3) (T := TX3) (N := 6) rfl rfl 4 (by decide) inX3 m_148 rfl dX3_exact_59 ?_
                refine lv_iload hx hb dX3_exact_62 (lv_at hl 0 rfl) ?_
                refine q_i (r_VN S hX.2.2 ⟨n_203, m_205, m_6, m_38, m_206⟩ ⟨rfl, by decide, by decide, by decide +kernel⟩ (c_hasSign l G ad σ (i * 5 + j) (by omega)) ⟨rfl, rfl, Nat.le_of_ble_eq_true rfl, Nat.le_of_ble_eq_true rfl⟩ (pv_X hX 5 rfl rfl bl_PX (bX hX)) (n := 1) (As := [.int (nI (i * 5 + j))]) (rest := []) rfl hl.1 rfl (Nat.le_of_ble_eq_true rfl) ⟨Nat.le_of_ble_eq_true rfl, Nat.le_of_ble_eq_true rfl⟩ dX3_exact_64) (fun r11 (e11 : r11 = bI (hsB σ (i * 5 + j))) => ?_)
                subst e11
                refine lv_if_eq (tgt := 94) hx hb dX3_exact_67 (by decide) (fun c67_12 => ?_) (fun c67_12 => ?_)
                · have bc67_12 := bI_0 c67_12
                  refine lv_iinc (v := nI (j + 1)) (lv' := [(5, .int (nI (j + 1))), (6, .int (nI (i * 5 + j))), (0, .ref (ad 0)), (1, .int a0), (2, .int ((exI σ i j (exF σ a0 i)).1)), (3, .int ((exI σ i j (exF σ a0 i)).2)), (4, .int (nI i))]) hx hb dX3_exact_94 hl (k := 6) rfl (nI_1 j) (by decide) rfl (fun ls hl => ?_)
                  refine lv_goto (tgt := 43) hx hb dX3_exact_97 (by decide) ?_
                  have ev13 : (exI σ i j (exF σ a0 i)).1 = (exI σ i (j + 1) (exF σ a0 i)).1 := by simp [exI, p1, c21_2, bc21_2, c37_4, c46_7, bc46_7, bc67_12]
                  rw [ev13] at hl
                  have ev14 : (exI σ i j (exF σ a0 i)).2 = (exI σ i (j + 1) (exF σ a0 i)).2 := by simp [exI, p1, c21_2, bc21_2, c37_4, c46_7, bc46_7, bc67_12]
                  rw [ev14] at hl
                  exact ihn2 (j + 1) hltj (by omega) ls (lv_sub hl [2, 3, 4, 5, 6, 0] rfl)
                · have bc67_12 := bI_n c67_12
                  refine lv_iinc (v := (exI σ i j (exF σ a0 i)).1 + 1) (lv' := [(2, .int ((exI σ i j (exF σ a0 i)).1 + 1)), (6, .int (nI (i * 5 + j))), (0, .ref (ad 0)), (1, .int a0), (3, .int ((exI σ i j (exF σ a0 i)).2)), (4, .int (nI i)), (5, .int (nI j))]) hx hb dX3_exact_70 hl (k := 3) rfl rfl (by decide) rfl (fun ls hl => ?_)
                  refine lv_iload_n hx hb dX3_exact_73 rfl (lv_at hl 4 rfl) ?_
                  refine lv_aload_n hx hb dX3_exact_74 rfl (lv_at hl 2 rfl) ?_
                  refine k_get S hX.2 hX.1 0 (C := RX3) (T := TX3) (N := 6) rfl rfl 4 (by decide) inX3 m_148 rfl dX3_exact_75 ?_
                  refine k_getN S hX.2 hX.1 5 (C := RX0) (T := TX0) (N := 7) rfl rfl 5 (by decide) inX0 n_126 rfl dX3_exact_78 ?_
                  refine lv_iload hx hb dX3_exact_81 (lv_at hl 1 rfl) ?_
                  refine k_ild S hX.2 hX.1 19 (i := (i * 5 + j)) rfl (by omega) (by decide) dX3_exact_83 ?_
                  refine lv_if_ne (tgt := 91) hx hb dX3_exact_84 (by decide) (fun c84_15 => ?_) (fun c84_15 => ?_)
                  · have bc84_15 := c84_15
                    refine lv_iconst (v := 0) hx hb dX3_exact_91 (by decide) ?_
                    refine lv_iadd hx hb dX3_exact_92 ?_
                    refine lv_istore_n (lv' := [(3, .int (((exI σ i j (exF σ a0 i)).2) + 0)), (2, .int ((exI σ i j (exF σ a0 i)).1 + 1)), (6, .int (nI (i * 5 + j))), (0, .ref (ad 0)), (1, .int a0), (4, .int (nI i)), (5, .int (nI j))]) hx hb dX3_exact_93 rfl hl (by decide) rfl (fun ls hl => ?_)
                    refine lv_iinc (v := nI (j + 1)) (lv' := [(5, .int (nI (j + 1))), (3, .int (((exI σ i j (exF σ a0 i)).2) + 0)), (2, .int ((exI σ i j (exF σ a0 i)).1 + 1)), (6, .int (nI (i * 5 + j))), (0, .ref (ad 0)), (1, .int a0), (4, .int (nI i))]) hx hb dX3_exact_94 hl (k := 6) rfl (nI_1 j) (by decide) rfl (fun ls hl => ?_)
                    refine lv_goto (tgt := 43) hx hb dX3_exact_97 (by decide) ?_
                    have ev16 : (exI σ i j (exF σ a0 i)).1 + 1 = (exI σ i (j + 1) (exF σ a0 i)).1 := by simp [exI, p1, c21_2, bc21_2, c37_4, c46_7, bc46_7, bc67_12, c84_15]
                    rw [ev16] at hl
                    have ev17 : ((exI σ i j (exF σ a0 i)).2) + 0 = (exI σ i (j + 1) (exF σ a0 i)).2 := by simp [exI, p1, c21_2, bc21_2, c37_4, c46_7, bc46_7, bc67_12, c84_15]
                    rw [ev17] at hl
                    exact ihn2 (j + 1) hltj (by omega) ls (lv_sub hl [4, 5, 2, 1, 6, 0] rfl)
                  · have bc84_15 := c84_15
                    refine lv_iconst (v := 1) hx hb dX3_exact_87 (by decide) ?_
                    refine lv_goto (tgt := 92) hx hb dX3_exact_88 (by decide) ?_
                    refine lv_iadd hx hb dX3_exact_92 ?_
                    refine lv_istore_n (lv' := [(3, .int (((exI σ i j (exF σ a0 i)).2) + 1)), (2, .int ((exI σ i j (exF σ a0 i)).1 + 1)), (6, .int (nI (i * 5 + j))), (0, .ref (ad 0)), (1, .int a0), (4, .int (nI i)), (5, .int (nI j))]) hx hb dX3_exact_93 rfl hl (by decide) rfl (fun ls hl => ?_)
                    refine lv_iinc (v := nI (j + 1)) (lv' := [(5, .int (nI (j + 1))), (3, .int (((exI σ i j (exF σ a0 i)).2) + 1)), (2, .int ((exI σ i j (exF σ a0 i)).1 + 1)), (6, .int (nI (i * 5 + j))), (0, .ref (ad 0)), (1, .int a0), (4, .int (nI i))]) hx hb dX3_exact_94 hl (k := 6) rfl (nI_1 j) (by decide) rfl (fun ls hl => ?_)
                    refine lv_goto (tgt := 43) hx hb dX3_exact_97 (by decide) ?_
                    have ev18 : (exI σ i j (exF σ a0 i)).1 + 1 = (exI σ i (j + 1) (exF σ a0 i)).1 := by simp [exI, p1, c21_2, bc21_2, c37_4, c46_7, bc46_7, bc67_12, c84_15]
                    rw [ev18] at hl
                    have ev19 : ((exI σ i j (exF σ a0 i)).2) + 1 = (exI σ i (j + 1) (exF σ a0 i)).2 := by simp [exI, p1, c21_2, bc21_2, c37_4, c46_7, bc46_7, bc67_12, c84_15]
                    rw [ev19] at hl
                    exact ihn2 (j + 1) hltj (by omega) ls (lv_sub hl [4, 5, 2, 1, 6, 0] rfl)
          refine lv_iconst (v := 0) hx hb dX3_exact_40 (by decide) ?_
          refine lv_istore (lv' := [(5, .int 0), (0, .ref (ad 0)), (1, .int a0), (2, .int ((exF σ a0 i).1)), (3, .int ((exF σ a0 i).2)), (4, .int (nI i))]) hx hb dX3_exact_41 hl (by decide) rfl (fun ls hl => ?_)
          exact L43 6 0 (Nat.zero_le _) (by omega) ls (lv_sub hl [1, 2, 3, 4, 5, 0] rfl)
  refine lv_iconst (v := 0) hx hb dX3_exact_5 (by decide) ?_
  refine lv_istore_n (lv' := [(2, .int 0), (0, .ref (ad 0)), (1, .int a0)]) hx hb dX3_exact_6 rfl hl (by decide) rfl (fun ls hl => ?_)
  refine lv_iconst (v := 0) hx hb dX3_exact_7 (by decide) ?_
  refine lv_istore_n (lv' := [(3, .int 0), (2, .int 0), (0, .ref (ad 0)), (1, .int a0)]) hx hb dX3_exact_8 rfl hl (by decide) rfl (fun ls hl => ?_)
  refine lv_iconst (v := 0) hx hb dX3_exact_9 (by decide) ?_
  refine lv_istore (lv' := [(4, .int 0), (3, .int 0), (2, .int 0), (0, .ref (ad 0)), (1, .int a0)]) hx hb dX3_exact_10 hl (by decide) rfl (fun ls hl => ?_)
  exact L12 (ns + 1) 0 (Nat.zero_le _) (by omega) ls (lv_sub hl [3, 4, 2, 1, 0] rfl)

set_option maxHeartbeats 4000000 in
set_option maxRecDepth 100000 in
theorem c_suggested (l : Launch) (G : kG) (ad : Nat → Nat) (σ : kS) (nm ns : Nat) (hns : σ 18 0 = nI ns) (hns4 : ns ≤ 40) (hnm : σ 17 0 = nI nm) (hnm2 : nm ≤ 200) : Met l yX3_suggested [.code yX3_suggested cX3_suggested 7 (some .int)] ({ frames := 7, cells := 0, slots := 0, locals := 181 }) (va_Pc [.ref (ad 0)] (fun U => PX G ad σ U U.heap)) (vp_Si (fun r => r = (suF σ nm ns 12).1)) 0 0 NF := by
  refine k_of (by decide) (Nat.le_of_ble_eq_true rfl) (fun U h => h.2.2) ?_
  intro p e s m below meth c ls S hr hlocks hmn hB hl
  have hx := S.1
  have hb := S.2.1
  have hX : PX G ad σ s s.heap := hB
  have hl : lv_has ls 7 [(0, .ref (ad 0))] := hl
  have L7 : ∀ (n i : Nat), i ≤ 12 → 12 + 1 ≤ i + n → ∀ ls, lv_has ls 7 [(0, .ref (ad 0)), (1, .int ((suF σ nm ns i).1)), (2, .long ((suF σ nm ns i).2)), (4, .int (nI i))] → W p l e ({ frames := 7, cells := 0, slots := 0, locals := 181 } : Room) s m [.ref (ad 0)].toArray below meth c s.heap [] 0 0 (MQ below (vp_Si (fun r => r = (suF σ nm ns 12).1)) [.ref (ad 0)].toArray s 0 0 NF) (F0 m 7 ls []) := by
    intro n
    induction n with
    | zero =>
      intro i h1 h2
      omega
    | succ n ihn =>
      intro i hii hini ls hl
      refine lv_iload hx hb dX3_suggested_7 (lv_at hl 3 rfl) ?_
      refine lv_bipush (v := 12) hx hb dX3_suggested_9 (by decide) ?_
      refine lv_icmp_ge (tgt := 58) hx hb dX3_suggested_11 (by decide) (fun c11_1 => ?_) (fun c11_1 => ?_)
      · have bc11_1 := le_nlt c11_1
        have hgei : i = 12 := by
          have h9 := c11_1
          rw [show (12 : Int32) = nI 12 from rfl, nI_leI (by omega) (by omega)] at h9
          omega
        refine lv_iload_n hx hb dX3_suggested_58 rfl (lv_at hl 1 rfl) ?_
        exact W.iret (v := (suF σ nm ns i).1) hx hb hr (fun t ht hW => ⟨_, rfl, (by subst hgei; rfl), ht⟩) (fun q h => by cases h) dX3_suggested_59
      · have bc11_1 := nle_lt c11_1
        have hlti : i < 12 := by
          have h9 := nle_lt c11_1
          rw [show (12 : Int32) = nI 12 from rfl, nI_ltI (by omega) (by omega)] at h9
          exact h9
        refine lv_aload_n hx hb dX3_suggested_14 rfl (lv_at hl 0 rfl) ?_
        refine k_get S hX.2 hX.1 0 (C := RX3) (T := TX3) (N := 6) rfl rfl 3 (by decide) inX3 m_147 rfl dX3_suggested_15 ?_
        refine lv_iload hx hb dX3_suggested_18 (lv_at hl 3 rfl) ?_
        refine q_i (r_VN S hX.2.2 ⟨n_175, m_177, m_0, m_37, m_178⟩ ⟨rfl, by decide, by decide, by decide +kernel⟩ (c_isOpenFor l G ad σ ns (nI i) hns hns4) ⟨rfl, rfl, Nat.le_of_ble_eq_true rfl, Nat.le_of_ble_eq_true rfl⟩ (pv_X hX 4 rfl rfl bl_PX (bX hX)) (n := 1) (As := [.int (nI i)]) (rest := []) rfl hl.1 rfl (Nat.le_of_ble_eq_true rfl) ⟨Nat.le_of_ble_eq_true rfl, Nat.le_of_ble_eq_true rfl⟩ dX3_suggested_20) (fun r2 (e2 : r2 = bI (opB σ (nI i) ns)) => ?_)
        subst e2
        refine lv_if_ne (tgt := 52) hx hb dX3_suggested_23 (by decide) (fun c23_3 => ?_) (fun c23_3 => ?_)
        · have bc23_3 := bI_n c23_3
          refine lv_iinc (v := nI (i + 1)) (lv' := [(4, .int (nI (i + 1))), (0, .ref (ad 0)), (1, .int ((suF σ nm ns i).1)), (2, .long ((suF σ nm ns i).2))]) hx hb dX3_suggested_52 hl (k := 3) rfl (nI_1 i) (by decide) rfl (fun ls hl => ?_)
          refine lv_goto (tgt := 7) hx hb dX3_suggested_55 (by decide) ?_
          have ev4 : (suF σ nm ns i).2 = (suF σ nm ns (i + 1)).2 := by simp [suF, suT, c11_1, bc11_1, bc23_3]
          rw [ev4] at hl
          have ev5 : (suF σ nm ns i).1 = (suF σ nm ns (i + 1)).1 := by simp [suF, suT, c11_1, bc11_1, bc23_3]
          rw [ev5] at hl
          exact ihn (i + 1) hlti (by omega) ls (lv_sub hl [1, 2, 3, 0] rfl)
        · have bc23_3 := bI_0 c23_3
          refine lv_aload_n hx hb dX3_suggested_26 rfl (lv_at hl 0 rfl) ?_
          refine lv_iload hx hb dX3_suggested_27 (lv_at hl 3 rfl) ?_
          refine q_l (r_V S ⟨m_183, m_185, m_2, m_35, m_186⟩ ⟨rfl, by decide, by decide, by decide +kernel⟩ (c_urgencyOf l G ad σ nm ns (nI i) hns hns4 hnm hnm2) ⟨rfl, rfl, Nat.le_of_ble_eq_true rfl, Nat.le_of_ble_eq_true rfl⟩ (pv_X hX 0 rfl rfl bl_PX (bX hX)) (n := 1) (As := [.int (nI i)]) (rest := []) rfl hl.1 rfl (Nat.le_of_ble_eq_true rfl) ⟨Nat.le_of_ble_eq_true rfl, Nat.le_of_ble_eq_true rfl⟩ dX3_suggested_29) (fun r6 (e6 : r6 = urV σ nm ns (nI i)) => ?_)
          subst e6
          refine lv_lstore (lv' := [(5, .long (urV σ nm ns (nI i))), (0, .ref (ad 0)), (1, .int ((suF σ nm ns i).1)), (2, .long ((suF σ nm ns i).2)), (4, .int (nI i))]) hx hb dX3_suggested_32 hl (by decide) rfl (fun ls hl => ?_)
          refine lv_iload_n hx hb dX3_suggested_34 rfl (lv_at hl 2 rfl) ?_
          refine lv_iconst (v := (-1)) hx hb dX3_suggested_35 (by decide) ?_
          refine lv_icmp_eq (tgt := 46) hx hb dX3_suggested_36 (by decide) (fun c36_7 => ?_) (fun c36_7 => ?_)
          · have bc36_7 := c36_7
            refine lv_iload hx hb dX3_suggested_46 (lv_at hl 4 rfl) ?_
            refine lv_istore_n (lv' := [(1, .int (nI i)), (5, .long (urV σ nm ns (nI i))), (0, .ref (ad 0)), (2, .long ((suF σ nm ns i).2)), (4, .int (nI i))]) hx hb dX3_suggested_48 rfl hl (by decide) rfl (fun ls hl => ?_)
            refine lv_lload hx hb dX3_suggested_49 (lv_at hl 1 rfl) ?_
            refine lv_lstore_n (lv' := [(2, .long (urV σ nm ns (nI i))), (1, .int (nI i)), (5, .long (urV σ nm ns (nI i))), (0, .ref (ad 0)), (4, .int (nI i))]) hx hb dX3_suggested_51 rfl hl (by decide) rfl (fun ls hl => ?_)
            refine lv_iinc (v := nI (i + 1)) (lv' := [(4, .int (nI (i + 1))), (2, .long (urV σ nm ns (nI i))), (1, .int (nI i)), (5, .long (urV σ nm ns (nI i))), (0, .ref (ad 0))]) hx hb dX3_suggested_52 hl (k := 4) rfl (nI_1 i) (by decide) rfl (fun ls hl => ?_)
            refine lv_goto (tgt := 7) hx hb dX3_suggested_55 (by decide) ?_
            have ev8 : urV σ nm ns (nI i) = (suF σ nm ns (i + 1)).2 := by simp [suF, suT, c11_1, bc11_1, bc23_3, c36_7]
            rw [ev8] at hl
            have ev9 : nI i = (suF σ nm ns (i + 1)).1 := by simp [suF, suT, c11_1, bc11_1, bc23_3, c36_7]
            rw [ev9] at hl
            exact ihn (i + 1) hlti (by omega) ls (lv_sub hl [4, 2, 1, 0] rfl)
          · have bc36_7 := c36_7
            refine lv_lload hx hb dX3_suggested_39 (lv_at hl 0 rfl) ?_
            refine lv_lload_n hx hb dX3_suggested_41 rfl (lv_at hl 3 rfl) ?_
            refine W.lcmp hx hb dX3_suggested_42 ?_
            refine lv_if_le (tgt := 52) hx hb dX3_suggested_43 (by decide) (fun c43_10 => ?_) (fun c43_10 => ?_)
            · have bc43_10 := le_nlt c43_10
              refine lv_iinc (v := nI (i + 1)) (lv' := [(4, .int (nI (i + 1))), (5, .long (urV σ nm ns (nI i))), (0, .ref (ad 0)), (1, .int ((suF σ nm ns i).1)), (2, .long ((suF σ nm ns i).2))]) hx hb dX3_suggested_52 hl (k := 4) rfl (nI_1 i) (by decide) rfl (fun ls hl => ?_)
              refine lv_goto (tgt := 7) hx hb dX3_suggested_55 (by decide) ?_
              have ev11 : (suF σ nm ns i).2 = (suF σ nm ns (i + 1)).2 := by simp [suF, suT, c11_1, bc11_1, bc23_3, c36_7, c43_10, bc43_10]
              rw [ev11] at hl
              have ev12 : (suF σ nm ns i).1 = (suF σ nm ns (i + 1)).1 := by simp [suF, suT, c11_1, bc11_1, bc23_3, c36_7, c43_10, bc43_10]
              rw [ev12] at hl
              exact ihn (i + 1) hlti (by omega) ls (lv_sub hl [2, 3, 4, 0] rfl)
            · have bc43_10 := nle_lt c43_10
              refine lv_iload hx hb dX3_suggested_46 (lv_at hl 4 rfl) ?_
              refine lv_istore_n (lv' := [(1, .int (nI i)), (5, .long (urV σ nm ns (nI i))), (0, .ref (ad 0)), (2, .long ((suF σ nm ns i).2)), (4, .int (nI i))]) hx hb dX3_suggested_48 rfl hl (by decide) rfl (fun ls hl => ?_)
              refine lv_lload hx hb dX3_suggested_49 (lv_at hl 1 rfl) ?_
              refine lv_lstore_n (lv' := [(2, .long (urV σ nm ns (nI i))), (1, .int (nI i)), (5, .long (urV σ nm ns (nI i))), (0, .ref (ad 0)), (4, .int (nI i))]) hx hb dX3_suggested_51 rfl hl (by decide) rfl (fun ls hl => ?_)
              refine lv_iinc (v := nI (i + 1)) (lv' := [(4, .int (nI (i + 1))), (2, .long (urV σ nm ns (nI i))), (1, .int (nI i)), (5, .long (urV σ nm ns (nI i))), (0, .ref (ad 0))]) hx hb dX3_suggested_52 hl (k := 4) rfl (nI_1 i) (by decide) rfl (fun ls hl => ?_)
              refine lv_goto (tgt := 7) hx hb dX3_suggested_55 (by decide) ?_
              have ev13 : urV σ nm ns (nI i) = (suF σ nm ns (i + 1)).2 := by simp [suF, suT, c11_1, bc11_1, bc23_3, c36_7, c43_10, bc43_10]
              rw [ev13] at hl
              have ev14 : nI i = (suF σ nm ns (i + 1)).1 := by simp [suF, suT, c11_1, bc11_1, bc23_3, c36_7, c43_10, bc43_10]
              rw [ev14] at hl
              exact ihn (i + 1) hlti (by omega) ls (lv_sub hl [4, 2, 1, 0] rfl)
  refine lv_iconst (v := (-1)) hx hb dX3_suggested_0 (by decide) ?_
  refine lv_istore_n (lv' := [(1, .int (-1)), (0, .ref (ad 0))]) hx hb dX3_suggested_1 rfl hl (by decide) rfl (fun ls hl => ?_)
  refine lv_lconst (v := 0) hx hb dX3_suggested_2 (by decide) ?_
  refine lv_lstore_n (lv' := [(2, .long 0), (1, .int (-1)), (0, .ref (ad 0))]) hx hb dX3_suggested_3 rfl hl (by decide) rfl (fun ls hl => ?_)
  refine lv_iconst (v := 0) hx hb dX3_suggested_4 (by decide) ?_
  refine lv_istore (lv' := [(4, .int 0), (2, .long 0), (1, .int (-1)), (0, .ref (ad 0))]) hx hb dX3_suggested_5 hl (by decide) rfl (fun ls hl => ?_)
  exact L7 13 0 (Nat.zero_le _) (by omega) ls (lv_sub hl [3, 2, 1, 0] rfl)
end
section
/-! WHAT THE MODEL's METHODS ANSWER, over its rows: 0 to 8 and 14 to 19 as the class's; 9 state, 15 gaps; 20 counted, 21 person, 22 quantity, 23 thrown -/
def go3 (p : Bool × Bool × Bool) : Bool := p.1 && p.2.1 && p.2.2
def goV (p : Bool × Bool × Bool) : Int32 := if p.1 = true then if p.2.1 = true then if p.2.2 = true then 0 else 3 else 2 else 1
theorem go3_t {p : Bool × Bool × Bool} (h : go3 p = true) : p.1 = true ∧ p.2.1 = true ∧ p.2.2 = true := by
  simp only [go3, Bool.and_eq_true] at h
  exact ⟨h.1.1, h.1.2, h.2⟩
theorem goV_0 {p : Bool × Bool × Bool} (h : go3 p = true) : goV p = 0 := by
  obtain ⟨h1, h2, h3⟩ := go3_t h
  simp [goV, h1, h2, h3]
/-- the answer where the three conditions hold, else 0 -/
def vM (p : Bool × Bool × Bool) (v : Int32) : Int32 := if go3 p = true then v else 0
/-- the rows behind: what is thrown is noted; where nothing is, f's -/
def sM (p : Bool × Bool × Bool) (μ : kS) (f : kS → kS) : kS := if go3 p = true then f (su μ 23 0 0) else su μ 23 0 (goV p)
theorem vM_t {p : Bool × Bool × Bool} {v : Int32} (h : go3 p = true) : vM p v = v := if_pos h
theorem vM_f {p : Bool × Bool × Bool} {v : Int32} (h : go3 p = false) : vM p v = 0 := if_neg (by rw [h]; decide)
theorem sM_t {p : Bool × Bool × Bool} {μ : kS} {f : kS → kS} (h : go3 p = true) : sM p μ f = f (su μ 23 0 0) := if_pos h
theorem sM_f {p : Bool × Bool × Bool} {μ : kS} {f : kS → kS} (h : go3 p = false) : sM p μ f = su μ 23 0 (goV p) := if_neg (by rw [h]; decide)
def agM (μ : kS) (k : Nat) : Int32 :=
  if μ 20 k < 2 then -1 else if μ 20 k = 2 then (if μ 22 (3 * k) = μ 22 (3 * k + 1) then μ 22 (3 * k) else -1)
  else if μ 22 (3 * k) = μ 22 (3 * k + 1) then μ 22 (3 * k) else if μ 22 (3 * k) = μ 22 (3 * k + 2) then μ 22 (3 * k)
  else if μ 22 (3 * k + 1) = μ 22 (3 * k + 2) then μ 22 (3 * k + 1)
  else if (decide (μ 22 (3 * k) < μ 22 (3 * k + 1)) == decide (μ 22 (3 * k + 1) < μ 22 (3 * k + 2))) = true then μ 22 (3 * k + 1)
  else if (decide (μ 22 (3 * k + 1) < μ 22 (3 * k)) == decide (μ 22 (3 * k) < μ 22 (3 * k + 2))) = true then μ 22 (3 * k) else μ 22 (3 * k + 2)
def isM (μ : kS) (pl : Int32) (ar : Nat) (mi : Int32) (k : Nat) : Bool := if μ 7 k = pl then if μ 14 (k * 5 + ar) ≤ 0 then false else if μ 8 k ≤ mi then true else false else false
def ltM (μ : kS) (ar k b : Nat) : Bool := if μ 8 k ≤ μ 8 b then if μ 8 k = μ 8 b then if μ 14 (k * 5 + ar) ≤ μ 14 (b * 5 + ar) then false else true else false else true
def fdT (μ : kS) (pl : Int32) (ar : Nat) (mi : Int32) (k : Nat) (o : Option Nat) : Option Nat := if isM μ pl ar mi k = true then match o with
  | none => some k
  | some b => if ltM μ ar k b = true then some k else some b
  else o
def fdM (μ : kS) (pl : Int32) (ar : Nat) (mi : Int32) : Nat → Option Nat
  | 0 => none
  | n + 1 => fdT μ pl ar mi n (fdM μ pl ar mi n)
theorem fdM_lt {μ : kS} {pl : Int32} {ar : Nat} {mi : Int32} : ∀ {n k : Nat}, fdM μ pl ar mi n = some k → k < n
  | 0, k, h => by simp [fdM] at h
  | n + 1, k, h => by
    have ih := fun {k : Nat} => @fdM_lt μ pl ar mi n k
    rw [fdM] at h
    generalize ho : fdM μ pl ar mi n = o at h ih
    unfold fdT at h
    cases o with
    | none =>
      simp only at h
      split at h
      · cases h; omega
      · cases h
    | some b =>
      have hb := ih rfl
      simp only at h
      split at h
      · split at h
        · cases h; omega
        · cases h; omega
      · cases h; omega
def tmB (μ : kS) (ar af un : Int32) (k : Nat) : Bool := if μ 4 k = ar then if μ 6 k ≤ af then false else if μ 6 k ≤ un then true else false else false
def tmM (μ : kS) (pl ar af un : Int32) (k : Nat) : Int32 := if tmB μ ar af un k = true then if μ 3 k = pl then μ 5 k else if μ 2 k = pl then -(μ 5 k) else 0 else 0
def smM (μ : kS) (pl ar af un z : Int32) : Nat → Int32
  | 0 => z
  | n + 1 => smM μ pl ar af un z n + tmM μ pl ar af un n
def boM (μ : kS) (nm ns : Nat) (pl : Int32) (ar : Nat) (mi : Int32) : Int32 := match fdM μ pl ar mi ns with
  | none => smM μ pl (nI ar) (-1) mi 0 nm
  | some k => smM μ pl (nI ar) (μ 8 k) mi (agM μ (k * 5 + ar)) nm
def hoM (μ : kS) (pl : Int32) : Nat → Bool
  | 0 => false
  | n + 1 => if hoM μ pl n = true then true else if μ 7 n = pl then if μ 9 n = 0 then true else false else false
def hcM (μ : kS) (k : Nat) (who : Int32) : Nat → Bool
  | 0 => false
  | n + 1 => if hcM μ k who n = true then true else if μ 21 (3 * k + n) = who then true else false
def grM (μ : kS) (k : Nat) : Bool := if agM μ k = -1 then false else true
def gpM (μ : kS) (nm ns sh ar : Nat) : Int32 := if μ 14 (sh * 5 + ar) ≤ 0 then agM μ (sh * 5 + ar) - boM μ nm ns (μ 7 sh) ar (μ 8 sh) else μ 15 (sh * 5 + ar)
def sgM (μ : kS) (k : Nat) (g : Int32) : kS := su (su (su μ 19 0 (μ 19 0 + 1)) 14 k (μ 19 0 + 1)) 15 k g
def ctM (μ : kS) (nm ns sh ot ar : Nat) : Bool := if μ 9 sh = 1 then if μ 9 ot = 1 then if μ 7 sh = μ 7 ot then false else if μ 14 (sh * 5 + ar) = 0 then if μ 14 (ot * 5 + ar) = 0 then if gpM μ nm ns sh ar = 0 then false else if gpM μ nm ns sh ar + gpM μ nm ns ot ar = 0 then true else false else false else false else false else false
def woM (μ : kS) (nm ns : Nat) (pl : Int32) : Nat → Int32
  | 0 => 0
  | n + 1 => woM μ nm ns pl n + (if boM μ nm ns pl n (μ 16 0) ≤ 0 then 0 else μ 0 n * boM μ nm ns pl n (μ 16 0))
def ldM (μ : kS) (pl : Int32) : Nat → Int32
  | 0 => -1
  | n + 1 => if μ 7 n = pl then μ 8 n else ldM μ pl n
def raM (μ : kS) (nm ns : Nat) (pl : Int32) : Int64 := ((woM μ nm ns pl 5).toInt64 + 1) * (μ 16 0 - ldM μ pl ns).toInt64
def suB (μ : kS) (nm ns k : Nat) (z : Int64) : Bool := if hoM μ (nI k) ns = true then false else if lg_cmp (raM μ nm ns (nI k)) z ≤ 0 then false else true
def suM (μ : kS) (nm ns : Nat) : Nat → Int32 × Int64
  | 0 => (-1, -1)
  | n + 1 => if suB μ nm ns n (suM μ nm ns n).2 = true then (nI n, raM μ nm ns (nI n)) else suM μ nm ns n
def clM (μ : kS) (sh : Nat) : Nat → Int32
  | 0 => 0
  | n + 1 => clM μ sh n + (if agM μ (sh * 5 + n) = -1 then 0 else 1)
def alM (μ : kS) (sh : Nat) : Nat → Bool
  | 0 => true
  | n + 1 => if alM μ sh n = true then if agM μ (sh * 5 + n) = -1 then if μ 20 (sh * 5 + n) = 0 then true else false else true else false
def abM (g : Int32) : Int32 := if 0 ≤ g then g else -g
def lkB (μ : kS) (nm ns sh ar k : Nat) : Bool := if grM μ (sh * 5 + ar) = true then if grM μ (k * 5 + ar) = true then ctM μ nm ns sh k ar else false else false
/-- the first place from k on, d places looked at -/
def fdn (p : Nat → Bool) (k : Nat) : Nat → Option Nat
  | 0 => none
  | d + 1 => if p k = true then some k else fdn p (k + 1) d
def exM (μ : kS) (z : Int32) : Nat → Int32 × Int32
  | 0 => (0, 0)
  | n + 1 => if μ 14 n ≤ 0 then exM μ z n else if μ 7 (n / 5) / 4 = z then ((exM μ z n).1 + 1, (exM μ z n).2 + (if μ 15 n = 0 then 1 else 0)) else exM μ z n
def xvM (μ : kS) (ns : Nat) (z : Int32) : Int32 := if (exM μ z (5 * ns)).1 = 0 then -1 else 1000 * (exM μ z (5 * ns)).2 / (exM μ z (5 * ns)).1
theorem at_eq (sh ar : Nat) : 5 * nI sh + nI ar = nI (sh * 5 + ar) := by rw [show (5 : Int32) = nI 5 from rfl, pk_mul, nI_add, Nat.mul_comm]
theorem ckR_nI {x : Int32} {n : Nat} (h : ckR x 0 (nI n - 1) = true) (hn : n < 2 ^ 30) : ∃ j, j < n ∧ x = nI j := by
  unfold ckR at h
  by_cases h1 : x < 0
  · simp [h1] at h
  · by_cases h2 : nI n - 1 < x
    · simp [h1, h2] at h
    · obtain ⟨j, hj, rfl⟩ := nI_of h1
      cases n with
      | zero => exact absurd h2 (Classical.not_not.mpr (by
          rw [show nI 0 - 1 = -1 from rfl]
          exact Int32.lt_of_lt_of_le (by decide : (-1 : Int32) < 0) (nI_pos' hj)))
      | succ n =>
        rw [nI_pred, nI_ltI (by omega) hj] at h2
        exact ⟨j, by omega, rfl⟩
theorem ckR_lit {x : Int32} {n : Nat} (h : ckR x 0 (nI n) = true) (hn : n < 1000) : ∃ j, j < n + 1 ∧ x = nI j := ckR_nI (n := n + 1) (by rw [nI_pred]; exact h) (by omega)
end
section
set_option maxHeartbeats 4000000 in
set_option maxRecDepth 100000 in
theorem c4_in (l : Launch) (v a b : Int32)  : Met l yX4_in [.code yX4_in cX4_in 3 (some .boolean)] ({ frames := 1, cells := 0, slots := 0, locals := 40 }) (va_Pc [.int v, .int a, .int b] (fun U => GL U)) (vp_Si (fun r => r = bI (ckR v a b))) 0 0 NF := by
  refine k_of (by decide) (Nat.le_of_ble_eq_true rfl) (fun U h => h) ?_
  intro p e s m below meth c ls S hr hlocks hmn hB hl
  have hx := S.1
  have hb := S.2.1
  have hG : GL s := hB
  have hl : lv_has ls 3 [(0, .int v), (1, .int a), (2, .int b)] := hl
  refine lv_iload_n hx hb dX4_in_0 rfl (lv_at hl 0 rfl) ?_
  refine lv_iload_n hx hb dX4_in_1 rfl (lv_at hl 1 rfl) ?_
  refine lv_icmp_lt (tgt := 14) hx hb dX4_in_2 (by decide) (fun c2_1 => ?_) (fun c2_1 => ?_)
  · have bc2_1 := lt_nle c2_1
    refine lv_iconst (v := 0) hx hb dX4_in_14 (by decide) ?_
    exact W.zret (v := 0) (ty := .boolean) hx hb hr (by first | rfl | exact bI_nar _) (fun t ht hW => ⟨_, rfl, (by simp [ckR, bI, c2_1, bc2_1]), ht⟩) (fun q h => by cases h) dX4_in_15
  · have bc2_1 := nlt_le c2_1
    refine lv_iload_n hx hb dX4_in_5 rfl (lv_at hl 0 rfl) ?_
    refine lv_iload_n hx hb dX4_in_6 rfl (lv_at hl 2 rfl) ?_
    refine lv_icmp_gt (tgt := 14) hx hb dX4_in_7 (by decide) (fun c7_2 => ?_) (fun c7_2 => ?_)
    · have bc7_2 := lt_nle c7_2
      refine lv_iconst (v := 0) hx hb dX4_in_14 (by decide) ?_
      exact W.zret (v := 0) (ty := .boolean) hx hb hr (by first | rfl | exact bI_nar _) (fun t ht hW => ⟨_, rfl, (by simp [ckR, bI, c2_1, bc2_1, c7_2, bc7_2]), ht⟩) (fun q h => by cases h) dX4_in_15
    · have bc7_2 := nlt_le c7_2
      refine lv_iconst (v := 1) hx hb dX4_in_10 (by decide) ?_
      refine lv_goto (tgt := 15) hx hb dX4_in_11 (by decide) ?_
      exact W.zret (v := 1) (ty := .boolean) hx hb hr (by first | rfl | exact bI_nar _) (fun t ht hW => ⟨_, rfl, (by simp [ckR, bI, c2_1, bc2_1, c7_2, bc7_2]), ht⟩) (fun q h => by cases h) dX4_in_15

set_option maxHeartbeats 4000000 in
set_option maxRecDepth 100000 in
theorem c4_isPlace (l : Launch) (v : Int32)  : Met l yX4_isPlace [.code yX4_isPlace cX4_isPlace 1 (some .boolean)] ({ frames := 2, cells := 0, slots := 0, locals := 62 }) (va_Pc [.int v] (fun U => GL U)) (vp_Si (fun r => r = bI (ckR v 0 11))) 0 0 NF := by
  refine k_of (by decide) (Nat.le_of_ble_eq_true rfl) (fun U h => h) ?_
  intro p e s m below meth c ls S hr hlocks hmn hB hl
  have hx := S.1
  have hb := S.2.1
  have hG : GL s := hB
  have hl : lv_has ls 1 [(0, .int v)] := hl
  refine lv_iload_n hx hb dX4_isPlace_0 rfl (lv_at hl 0 rfl) ?_
  refine lv_iconst (v := 0) hx hb dX4_isPlace_1 (by decide) ?_
  refine lv_bipush (v := 11) hx hb dX4_isPlace_2 (by decide) ?_
  refine q_i (r_S S ⟨m_647, m_648, m_40, m_649⟩ ⟨rfl, by decide, by decide, by decide +kernel⟩ (c4_in l v 0 11) ⟨rfl, rfl, Nat.le_of_ble_eq_true rfl, Nat.le_of_ble_eq_true rfl⟩ (ps bl_GL (bG hG)) (n := 3) (As := [.int v, .int 0, .int 11]) (rest := []) rfl hl.1 rfl (Nat.le_of_ble_eq_true rfl) ⟨Nat.le_of_ble_eq_true rfl, Nat.le_of_ble_eq_true rfl⟩ dX4_isPlace_4) (fun r1 (e1 : r1 = bI (ckR v 0 11)) => ?_)
  subst e1
  exact W.zret (v := bI (ckR v 0 11)) (ty := .boolean) hx hb hr (by first | rfl | exact bI_nar _) (fun t ht hW => ⟨_, rfl, rfl, ht⟩) (fun q h => by cases h) dX4_isPlace_7

set_option maxHeartbeats 4000000 in
set_option maxRecDepth 100000 in
theorem c4_isArticle (l : Launch) (v : Int32)  : Met l yX4_isArticle [.code yX4_isArticle cX4_isArticle 1 (some .boolean)] ({ frames := 2, cells := 0, slots := 0, locals := 62 }) (va_Pc [.int v] (fun U => GL U)) (vp_Si (fun r => r = bI (ckR v 0 4))) 0 0 NF := by
  refine k_of (by decide) (Nat.le_of_ble_eq_true rfl) (fun U h => h) ?_
  intro p e s m below meth c ls S hr hlocks hmn hB hl
  have hx := S.1
  have hb := S.2.1
  have hG : GL s := hB
  have hl : lv_has ls 1 [(0, .int v)] := hl
  refine lv_iload_n hx hb dX4_isArticle_0 rfl (lv_at hl 0 rfl) ?_
  refine lv_iconst (v := 0) hx hb dX4_isArticle_1 (by decide) ?_
  refine lv_iconst (v := 4) hx hb dX4_isArticle_2 (by decide) ?_
  refine q_i (r_S S ⟨m_647, m_648, m_40, m_649⟩ ⟨rfl, by decide, by decide, by decide +kernel⟩ (c4_in l v 0 4) ⟨rfl, rfl, Nat.le_of_ble_eq_true rfl, Nat.le_of_ble_eq_true rfl⟩ (ps bl_GL (bG hG)) (n := 3) (As := [.int v, .int 0, .int 4]) (rest := []) rfl hl.1 rfl (Nat.le_of_ble_eq_true rfl) ⟨Nat.le_of_ble_eq_true rfl, Nat.le_of_ble_eq_true rfl⟩ dX4_isArticle_3) (fun r1 (e1 : r1 = bI (ckR v 0 4)) => ?_)
  subst e1
  exact W.zret (v := bI (ckR v 0 4)) (ty := .boolean) hx hb hr (by first | rfl | exact bI_nar _) (fun t ht hW => ⟨_, rfl, rfl, ht⟩) (fun q h => by cases h) dX4_isArticle_6

set_option maxHeartbeats 4000000 in
set_option maxRecDepth 100000 in
theorem c4_isSheet (l : Launch) (G : kG) (ad : Nat → Nat) (σ : kS) (v : Int32)  : Met l yX4_isSheet [.code yX4_isSheet cX4_isSheet 2 (some .boolean)] ({ frames := 2, cells := 0, slots := 0, locals := 62 }) (va_Pc [.ref (ad 0), .int v] (fun U => PM G ad σ U U.heap)) (vp_Si (fun r => r = bI (ckR v 0 (σ 18 0 - 1)))) 0 0 NF := by
  refine k_of (by decide) (Nat.le_of_ble_eq_true rfl) (fun U h => h.2.2) ?_
  intro p e s m below meth c ls S hr hlocks hmn hB hl
  have hx := S.1
  have hb := S.2.1
  have hX : PM G ad σ s s.heap := hB
  have hl : lv_has ls 2 [(0, .ref (ad 0)), (1, .int v)] := hl
  refine lv_iload_n hx hb dX4_isSheet_0 rfl (lv_at hl 1 rfl) ?_
  refine lv_iconst (v := 0) hx hb dX4_isSheet_1 (by decide) ?_
  refine lv_aload_n hx hb dX4_isSheet_2 rfl (lv_at hl 0 rfl) ?_
  refine k_get S hX.2 hX.1 0 (C := RX4) (T := TX4) (N := 20) rfl rfl 9 (by decide) inX4 m_584 rfl dX4_isSheet_3 ?_
  refine lv_iconst (v := 1) hx hb dX4_isSheet_6 (by decide) ?_
  refine lv_isub hx hb dX4_isSheet_7 ?_
  refine q_i (r_S S ⟨m_647, m_648, m_40, m_649⟩ ⟨rfl, by decide, by decide, by decide +kernel⟩ (c4_in l v 0 ((σ 18 0) - 1)) ⟨rfl, rfl, Nat.le_of_ble_eq_true rfl, Nat.le_of_ble_eq_true rfl⟩ (ps bl_GL (bG hX.2.2)) (n := 3) (As := [.int v, .int 0, .int ((σ 18 0) - 1)]) (rest := []) rfl hl.1 rfl (Nat.le_of_ble_eq_true rfl) ⟨Nat.le_of_ble_eq_true rfl, Nat.le_of_ble_eq_true rfl⟩ dX4_isSheet_8) (fun r1 (e1 : r1 = bI (ckR v 0 ((σ 18 0) - 1))) => ?_)
  subst e1
  exact W.zret (v := bI (ckR v 0 ((σ 18 0) - 1))) (ty := .boolean) hx hb hr (by first | rfl | exact bI_nar _) (fun t ht hW => ⟨_, rfl, rfl, ht⟩) (fun q h => by cases h) dX4_isSheet_11

set_option maxHeartbeats 4000000 in
set_option maxRecDepth 100000 in
theorem c4_at (l : Launch) (sh ar : Nat)  : Met l yX4_at [.code yX4_at cX4_at 2 (some .int)] ({ frames := 1, cells := 0, slots := 0, locals := 40 }) (va_Pc [.int (nI sh), .int (nI ar)] (fun U => GL U)) (vp_Si (fun r => r = nI (sh * 5 + ar))) 0 0 NF := by
  refine k_of (by decide) (Nat.le_of_ble_eq_true rfl) (fun U h => h) ?_
  intro p e s m below meth c ls S hr hlocks hmn hB hl
  have hx := S.1
  have hb := S.2.1
  have hG : GL s := hB
  have hl : lv_has ls 2 [(0, .int (nI sh)), (1, .int (nI ar))] := hl
  refine lv_iconst (v := 5) hx hb dX4_at_0 (by decide) ?_
  refine lv_iload_n hx hb dX4_at_1 rfl (lv_at hl 0 rfl) ?_
  refine lv_imul hx hb dX4_at_2 ?_
  refine lv_iload_n hx hb dX4_at_3 rfl (lv_at hl 1 rfl) ?_
  refine lv_iadd hx hb dX4_at_4 ?_
  exact W.iret (v := (5 * (nI sh)) + (nI ar)) hx hb hr (fun t ht hW => ⟨_, rfl, at_eq sh ar, ht⟩) (fun q h => by cases h) dX4_at_5

set_option maxHeartbeats 4000000 in
set_option maxRecDepth 100000 in
theorem c4_thrown (l : Launch) (G : kG) (ad : Nat → Nat) (σ : kS)  : Met l yX4_thrown [.code yX4_thrown cX4_thrown 1 (some .int)] ({ frames := 1, cells := 0, slots := 0, locals := 40 }) (va_Pc [.ref (ad 0)] (fun U => PM G ad σ U U.heap)) (vp_Si (fun r => r = σ 23 0)) 0 0 NF := by
  refine k_of (by decide) (Nat.le_of_ble_eq_true rfl) (fun U h => h.2.2) ?_
  intro p e s m below meth c ls S hr hlocks hmn hB hl
  have hx := S.1
  have hb := S.2.1
  have hX : PM G ad σ s s.heap := hB
  have hl : lv_has ls 1 [(0, .ref (ad 0))] := hl
  refine lv_aload_n hx hb dX4_thrown_0 rfl (lv_at hl 0 rfl) ?_
  refine k_get S hX.2 hX.1 0 (C := RX4) (T := TX4) (N := 20) rfl rfl 19 (by decide) inX4 m_594 rfl dX4_thrown_1 ?_
  exact W.iret (v := σ 23 0) hx hb hr (fun t ht hW => ⟨_, rfl, rfl, ht⟩) (fun q h => by cases h) dX4_thrown_4

set_option maxHeartbeats 4000000 in
set_option maxRecDepth 100000 in
theorem c4_agree (l : Launch) (G : kG) (ad : Nat → Nat) (σ : kS) (k : Nat) (hk : k < 200) : Met l yX4_agree [.code yX4_agree cX4_agree 7 (some .int)] ({ frames := 1, cells := 0, slots := 0, locals := 40 }) (va_Pc [.ref (ad 0), .int (nI k)] (fun U => PM G ad σ U U.heap)) (vp_Si (fun r => r = agM σ k)) 0 0 NF := by
  refine k_of (by decide) (Nat.le_of_ble_eq_true rfl) (fun U h => h.2.2) ?_
  intro p e s m below meth c ls S hr hlocks hmn hB hl
  have hx := S.1
  have hb := S.2.1
  have hX : PM G ad σ s s.heap := hB
  have hl : lv_has ls 7 [(0, .ref (ad 0)), (1, .int (nI k))] := hl
  refine lv_aload_n hx hb dX4_agree_0 rfl (lv_at hl 0 rfl) ?_
  refine k_get S hX.2 hX.1 0 (C := RX4) (T := TX4) (N := 20) rfl rfl 18 (by decide) inX4 m_593 rfl dX4_agree_1 ?_
  refine lv_iconst (v := 3) hx hb dX4_agree_4 (by decide) ?_
  refine lv_iload_n hx hb dX4_agree_5 rfl (lv_at hl 1 rfl) ?_
  refine lv_imul hx hb dX4_agree_6 ?_
  refine k_eq (y := nI (3 * k)) (pk_mul 3 k) ?_
  refine k_ild S hX.2 hX.1 15 (i := (3 * k)) rfl (by omega) (by decide) dX4_agree_7 ?_
  refine lv_istore_n (lv' := [(2, .int (σ 22 (3 * k))), (0, .ref (ad 0)), (1, .int (nI k))]) hx hb dX4_agree_8 rfl hl (by decide) rfl (fun ls hl => ?_)
  refine lv_aload_n hx hb dX4_agree_9 rfl (lv_at hl 1 rfl) ?_
  refine k_get S hX.2 hX.1 0 (C := RX4) (T := TX4) (N := 20) rfl rfl 18 (by decide) inX4 m_593 rfl dX4_agree_10 ?_
  refine lv_iconst (v := 3) hx hb dX4_agree_13 (by decide) ?_
  refine lv_iload_n hx hb dX4_agree_14 rfl (lv_at hl 2 rfl) ?_
  refine lv_imul hx hb dX4_agree_15 ?_
  refine k_eq (y := nI (3 * k)) (pk_mul 3 k) ?_
  refine lv_iconst (v := 1) hx hb dX4_agree_16 (by decide) ?_
  refine lv_iadd hx hb dX4_agree_17 ?_
  refine k_eq (y := nI ((3 * k) + 1)) (nI_add (3 * k) 1) ?_
  refine k_ild S hX.2 hX.1 15 (i := ((3 * k) + 1)) rfl (by omega) (by decide) dX4_agree_18 ?_
  refine lv_istore_n (lv' := [(3, .int (σ 22 ((3 * k) + 1))), (2, .int (σ 22 (3 * k))), (0, .ref (ad 0)), (1, .int (nI k))]) hx hb dX4_agree_19 rfl hl (by decide) rfl (fun ls hl => ?_)
  refine lv_aload_n hx hb dX4_agree_20 rfl (lv_at hl 2 rfl) ?_
  refine k_get S hX.2 hX.1 0 (C := RX4) (T := TX4) (N := 20) rfl rfl 18 (by decide) inX4 m_593 rfl dX4_agree_21 ?_
  refine lv_iconst (v := 3) hx hb dX4_agree_24 (by decide) ?_
  refine lv_iload_n hx hb dX4_agree_25 rfl (lv_at hl 3 rfl) ?_
  refine lv_imul hx hb dX4_agree_26 ?_
  refine k_eq (y := nI (3 * k)) (pk_mul 3 k) ?_
  refine lv_iconst (v := 2) hx hb dX4_agree_27 (by decide) ?_
  refine lv_iadd hx hb dX4_agree_28 ?_
  refine k_eq (y := nI ((3 * k) + 2)) (nI_add (3 * k) 2) ?_
  refine k_ild S hX.2 hX.1 15 (i := ((3 * k) + 2)) rfl (by omega) (by decide) dX4_agree_29 ?_
  refine lv_istore (lv' := [(4, .int (σ 22 ((3 * k) + 2))), (3, .int (σ 22 ((3 * k) + 1))), (2, .int (σ 22 (3 * k))), (0, .ref (ad 0)), (1, .int (nI k))]) hx hb dX4_agree_30 hl (by decide) rfl (fun ls hl => ?_)
  refine lv_aload_n hx hb dX4_agree_32 rfl (lv_at hl 3 rfl) ?_
  refine k_get S hX.2 hX.1 0 (C := RX4) (T := TX4) (N := 20) rfl rfl 13 (by decide) inX4 m_588 rfl dX4_agree_33 ?_
  refine lv_iload_n hx hb dX4_agree_36 rfl (lv_at hl 4 rfl) ?_
  refine k_ild S hX.2 hX.1 11 (i := k) rfl (by omega) (by decide) dX4_agree_37 ?_
  refine lv_iconst (v := 2) hx hb dX4_agree_38 (by decide) ?_
  refine lv_icmp_lt (tgt := 57) hx hb dX4_agree_39 (by decide) (fun c39_1 => ?_) (fun c39_1 => ?_)
  · have bc39_1 := lt_nle c39_1
    refine lv_iconst (v := (-1)) hx hb dX4_agree_57 (by decide) ?_
    exact W.iret (v := (-1)) hx hb hr (fun t ht hW => ⟨_, rfl, (by simp [agM, c39_1, bc39_1]), ht⟩) (fun q h => by cases h) dX4_agree_58
  · have bc39_1 := nlt_le c39_1
    refine lv_aload_n hx hb dX4_agree_42 rfl (lv_at hl 3 rfl) ?_
    refine k_get S hX.2 hX.1 0 (C := RX4) (T := TX4) (N := 20) rfl rfl 13 (by decide) inX4 m_588 rfl dX4_agree_43 ?_
    refine lv_iload_n hx hb dX4_agree_46 rfl (lv_at hl 4 rfl) ?_
    refine k_ild S hX.2 hX.1 11 (i := k) rfl (by omega) (by decide) dX4_agree_47 ?_
    refine lv_iconst (v := 2) hx hb dX4_agree_48 (by decide) ?_
    refine lv_icmp_ne (tgt := 59) hx hb dX4_agree_49 (by decide) (fun c49_2 => ?_) (fun c49_2 => ?_)
    · have bc49_2 := c49_2
      refine lv_aload_n hx hb dX4_agree_59 rfl (lv_at hl 3 rfl) ?_
      refine k_get S hX.2 hX.1 0 (C := RX4) (T := TX4) (N := 20) rfl rfl 13 (by decide) inX4 m_588 rfl dX4_agree_60 ?_
      refine lv_iload_n hx hb dX4_agree_63 rfl (lv_at hl 4 rfl) ?_
      refine k_ild S hX.2 hX.1 11 (i := k) rfl (by omega) (by decide) dX4_agree_64 ?_
      refine lv_iconst (v := 2) hx hb dX4_agree_65 (by decide) ?_
      refine lv_icmp_eq (tgt := 80) hx hb dX4_agree_66 (by decide) (fun c66_3 => ?_) (fun c66_3 => ?_)
      · exact absurd c66_3 c49_2
      · have bc66_3 := c66_3
        refine lv_iload_n hx hb dX4_agree_69 rfl (lv_at hl 2 rfl) ?_
        refine lv_iload_n hx hb dX4_agree_70 rfl (lv_at hl 1 rfl) ?_
        refine lv_icmp_eq (tgt := 80) hx hb dX4_agree_71 (by decide) (fun c71_4 => ?_) (fun c71_4 => ?_)
        · have bc71_4 := c71_4
          refine lv_iload_n hx hb dX4_agree_80 rfl (lv_at hl 2 rfl) ?_
          exact W.iret (v := σ 22 (3 * k)) hx hb hr (fun t ht hW => ⟨_, rfl, (by simp [agM, c39_1, bc39_1, c49_2, c66_3, c71_4]), ht⟩) (fun q h => by cases h) dX4_agree_81
        · have bc71_4 := c71_4
          refine lv_iload_n hx hb dX4_agree_74 rfl (lv_at hl 2 rfl) ?_
          refine lv_iload hx hb dX4_agree_75 (lv_at hl 0 rfl) ?_
          refine lv_icmp_ne (tgt := 82) hx hb dX4_agree_77 (by decide) (fun c77_5 => ?_) (fun c77_5 => ?_)
          · have bc77_5 := c77_5
            have J111 : ∀ ls, lv_has ls 7 [(4, .int (σ 22 ((3 * k) + 2))), (3, .int (σ 22 ((3 * k) + 1))), (2, .int (σ 22 (3 * k))), (0, .ref (ad 0)), (1, .int (nI k))] → W p l e ({ frames := 1, cells := 0, slots := 0, locals := 40 } : Room) s m [.ref (ad 0), .int (nI k)].toArray below meth c s.heap [] 0 0 (MQ below (vp_Si (fun r => r = agM σ k)) [.ref (ad 0), .int (nI k)].toArray s 0 0 NF) (F0 m 111 ls [.int (bI (decide (σ 22 (3 * k + 1) < σ 22 (3 * k)) == decide (σ 22 (3 * k) < σ 22 (3 * k + 2))))]) := by
              intro ls hl
              refine lv_istore (lv' := [(5, .int (bI (decide (σ 22 (3 * k + 1) < σ 22 (3 * k)) == decide (σ 22 (3 * k) < σ 22 (3 * k + 2))))), (4, .int (σ 22 ((3 * k) + 2))), (3, .int (σ 22 ((3 * k) + 1))), (2, .int (σ 22 (3 * k))), (0, .ref (ad 0)), (1, .int (nI k))]) hx hb dX4_agree_111 hl (by decide) rfl (fun ls hl => ?_)
              have J142 : ∀ ls, lv_has ls 7 [(5, .int (bI (decide (σ 22 (3 * k + 1) < σ 22 (3 * k)) == decide (σ 22 (3 * k) < σ 22 (3 * k + 2))))), (4, .int (σ 22 ((3 * k) + 2))), (3, .int (σ 22 ((3 * k) + 1))), (2, .int (σ 22 (3 * k))), (0, .ref (ad 0)), (1, .int (nI k))] → W p l e ({ frames := 1, cells := 0, slots := 0, locals := 40 } : Room) s m [.ref (ad 0), .int (nI k)].toArray below meth c s.heap [] 0 0 (MQ below (vp_Si (fun r => r = agM σ k)) [.ref (ad 0), .int (nI k)].toArray s 0 0 NF) (F0 m 142 ls [.int (bI (decide (σ 22 (3 * k) < σ 22 (3 * k + 1)) == decide (σ 22 (3 * k + 1) < σ 22 (3 * k + 2))))]) := by
                intro ls hl
                refine lv_istore (lv' := [(6, .int (bI (decide (σ 22 (3 * k) < σ 22 (3 * k + 1)) == decide (σ 22 (3 * k + 1) < σ 22 (3 * k + 2))))), (5, .int (bI (decide (σ 22 (3 * k + 1) < σ 22 (3 * k)) == decide (σ 22 (3 * k) < σ 22 (3 * k + 2))))), (4, .int (σ 22 ((3 * k) + 2))), (3, .int (σ 22 ((3 * k) + 1))), (2, .int (σ 22 (3 * k))), (0, .ref (ad 0)), (1, .int (nI k))]) hx hb dX4_agree_142 hl (by decide) rfl (fun ls hl => ?_)
                refine lv_iload_n hx hb dX4_agree_144 rfl (lv_at hl 3 rfl) ?_
                refine lv_iload hx hb dX4_agree_145 (lv_at hl 2 rfl) ?_
                refine lv_icmp_eq (tgt := 155) hx hb dX4_agree_147 (by decide) (fun c147_6 => ?_) (fun c147_6 => ?_)
                · have bc147_6 := c147_6
                  refine lv_iload_n hx hb dX4_agree_155 rfl (lv_at hl 3 rfl) ?_
                  refine lv_goto (tgt := 170) hx hb dX4_agree_156 (by decide) ?_
                  exact W.iret (v := σ 22 ((3 * k) + 1)) hx hb hr (fun t ht hW => ⟨_, rfl, (by simp [agM, c39_1, bc39_1, c49_2, c66_3, c71_4, c77_5, c147_6]), ht⟩) (fun q h => by cases h) dX4_agree_170
                · have bc147_6 := c147_6
                  refine lv_iload hx hb dX4_agree_150 (lv_at hl 0 rfl) ?_
                  refine lv_if_eq (tgt := 159) hx hb dX4_agree_152 (by decide) (fun c152_7 => ?_) (fun c152_7 => ?_)
                  · have bc152_7 := bI_0 c152_7
                    refine lv_iload hx hb dX4_agree_159 (lv_at hl 1 rfl) ?_
                    refine lv_if_eq (tgt := 168) hx hb dX4_agree_161 (by decide) (fun c161_8 => ?_) (fun c161_8 => ?_)
                    · have bc161_8 := bI_0 c161_8
                      refine lv_iload hx hb dX4_agree_168 (lv_at hl 2 rfl) ?_
                      exact W.iret (v := σ 22 ((3 * k) + 2)) hx hb hr (fun t ht hW => ⟨_, rfl, (by simp [agM, c39_1, bc39_1, c49_2, c66_3, c71_4, c77_5, c147_6, bc152_7, bc161_8]), ht⟩) (fun q h => by cases h) dX4_agree_170
                    · have bc161_8 := bI_n c161_8
                      refine lv_iload_n hx hb dX4_agree_164 rfl (lv_at hl 4 rfl) ?_
                      refine lv_goto (tgt := 170) hx hb dX4_agree_165 (by decide) ?_
                      exact W.iret (v := σ 22 (3 * k)) hx hb hr (fun t ht hW => ⟨_, rfl, (by simp [agM, c39_1, bc39_1, c49_2, c66_3, c71_4, c77_5, c147_6, bc152_7, bc161_8]), ht⟩) (fun q h => by cases h) dX4_agree_170
                  · have bc152_7 := bI_n c152_7
                    refine lv_iload_n hx hb dX4_agree_155 rfl (lv_at hl 3 rfl) ?_
                    refine lv_goto (tgt := 170) hx hb dX4_agree_156 (by decide) ?_
                    exact W.iret (v := σ 22 ((3 * k) + 1)) hx hb hr (fun t ht hW => ⟨_, rfl, (by simp [agM, c39_1, bc39_1, c49_2, c66_3, c71_4, c77_5, c147_6, bc152_7]), ht⟩) (fun q h => by cases h) dX4_agree_170
              refine lv_iload_n hx hb dX4_agree_113 rfl (lv_at hl 2 rfl) ?_
              refine lv_iload_n hx hb dX4_agree_114 rfl (lv_at hl 3 rfl) ?_
              refine lv_icmp_le (tgt := 122) hx hb dX4_agree_115 (by decide) (fun c115_9 => ?_) (fun c115_9 => ?_)
              · have bc115_9 := le_nlt c115_9
                refine lv_iconst (v := 0) hx hb dX4_agree_122 (by decide) ?_
                refine lv_iload hx hb dX4_agree_123 (lv_at hl 1 rfl) ?_
                refine lv_iload_n hx hb dX4_agree_125 rfl (lv_at hl 2 rfl) ?_
                refine lv_icmp_le (tgt := 133) hx hb dX4_agree_126 (by decide) (fun c126_10 => ?_) (fun c126_10 => ?_)
                · have bc126_10 := le_nlt c126_10
                  refine lv_iconst (v := 0) hx hb dX4_agree_133 (by decide) ?_
                  refine lv_icmp_ne (tgt := 141) hx hb dX4_agree_134 (by decide) (fun c134_11 => ?_) (fun c134_11 => ?_)
                  · exact absurd c134_11 (by decide)
                  · have bc134_11 := c134_11
                    refine lv_iconst (v := 1) hx hb dX4_agree_137 (by decide) ?_
                    refine lv_goto (tgt := 142) hx hb dX4_agree_138 (by decide) ?_
                    refine k_eq (y := bI (decide (σ 22 (3 * k) < σ 22 (3 * k + 1)) == decide (σ 22 (3 * k + 1) < σ 22 (3 * k + 2)))) (by simp [bI, c39_1, bc39_1, c49_2, c66_3, c71_4, c77_5, c115_9, bc115_9, c126_10, bc126_10]) ?_
                    exact J142 ls (lv_sub hl [0, 1, 2, 3, 4, 5] rfl)
                · have bc126_10 := nle_lt c126_10
                  refine lv_iconst (v := 1) hx hb dX4_agree_129 (by decide) ?_
                  refine lv_goto (tgt := 134) hx hb dX4_agree_130 (by decide) ?_
                  refine lv_icmp_ne (tgt := 141) hx hb dX4_agree_134 (by decide) (fun c134_12 => ?_) (fun c134_12 => ?_)
                  · have bc134_12 := c134_12
                    refine lv_iconst (v := 0) hx hb dX4_agree_141 (by decide) ?_
                    refine k_eq (y := bI (decide (σ 22 (3 * k) < σ 22 (3 * k + 1)) == decide (σ 22 (3 * k + 1) < σ 22 (3 * k + 2)))) (by simp [bI, c39_1, bc39_1, c49_2, c66_3, c71_4, c77_5, c115_9, bc115_9, c126_10, bc126_10]) ?_
                    exact J142 ls (lv_sub hl [0, 1, 2, 3, 4, 5] rfl)
                  · exact absurd c134_12 (by decide)
              · have bc115_9 := nle_lt c115_9
                refine lv_iconst (v := 1) hx hb dX4_agree_118 (by decide) ?_
                refine lv_goto (tgt := 123) hx hb dX4_agree_119 (by decide) ?_
                refine lv_iload hx hb dX4_agree_123 (lv_at hl 1 rfl) ?_
                refine lv_iload_n hx hb dX4_agree_125 rfl (lv_at hl 2 rfl) ?_
                refine lv_icmp_le (tgt := 133) hx hb dX4_agree_126 (by decide) (fun c126_13 => ?_) (fun c126_13 => ?_)
                · have bc126_13 := le_nlt c126_13
                  refine lv_iconst (v := 0) hx hb dX4_agree_133 (by decide) ?_
                  refine lv_icmp_ne (tgt := 141) hx hb dX4_agree_134 (by decide) (fun c134_14 => ?_) (fun c134_14 => ?_)
                  · have bc134_14 := c134_14
                    refine lv_iconst (v := 0) hx hb dX4_agree_141 (by decide) ?_
                    refine k_eq (y := bI (decide (σ 22 (3 * k) < σ 22 (3 * k + 1)) == decide (σ 22 (3 * k + 1) < σ 22 (3 * k + 2)))) (by simp [bI, c39_1, bc39_1, c49_2, c66_3, c71_4, c77_5, c115_9, bc115_9, c126_13, bc126_13]) ?_
                    exact J142 ls (lv_sub hl [0, 1, 2, 3, 4, 5] rfl)
                  · exact absurd c134_14 (by decide)
                · have bc126_13 := nle_lt c126_13
                  refine lv_iconst (v := 1) hx hb dX4_agree_129 (by decide) ?_
                  refine lv_goto (tgt := 134) hx hb dX4_agree_130 (by decide) ?_
                  refine lv_icmp_ne (tgt := 141) hx hb dX4_agree_134 (by decide) (fun c134_15 => ?_) (fun c134_15 => ?_)
                  · exact absurd c134_15 (by decide)
                  · have bc134_15 := c134_15
                    refine lv_iconst (v := 1) hx hb dX4_agree_137 (by decide) ?_
                    refine lv_goto (tgt := 142) hx hb dX4_agree_138 (by decide) ?_
                    refine k_eq (y := bI (decide (σ 22 (3 * k) < σ 22 (3 * k + 1)) == decide (σ 22 (3 * k + 1) < σ 22 (3 * k + 2)))) (by simp [bI, c39_1, bc39_1, c49_2, c66_3, c71_4, c77_5, c115_9, bc115_9, c126_13, bc126_13]) ?_
                    exact J142 ls (lv_sub hl [0, 1, 2, 3, 4, 5] rfl)
            refine lv_iload_n hx hb dX4_agree_82 rfl (lv_at hl 2 rfl) ?_
            refine lv_iload_n hx hb dX4_agree_83 rfl (lv_at hl 1 rfl) ?_
            refine lv_icmp_le (tgt := 91) hx hb dX4_agree_84 (by decide) (fun c84_16 => ?_) (fun c84_16 => ?_)
            · have bc84_16 := le_nlt c84_16
              refine lv_iconst (v := 0) hx hb dX4_agree_91 (by decide) ?_
              refine lv_iload hx hb dX4_agree_92 (lv_at hl 0 rfl) ?_
              refine lv_iload_n hx hb dX4_agree_94 rfl (lv_at hl 2 rfl) ?_
              refine lv_icmp_le (tgt := 102) hx hb dX4_agree_95 (by decide) (fun c95_17 => ?_) (fun c95_17 => ?_)
              · have bc95_17 := le_nlt c95_17
                refine lv_iconst (v := 0) hx hb dX4_agree_102 (by decide) ?_
                refine lv_icmp_ne (tgt := 110) hx hb dX4_agree_103 (by decide) (fun c103_18 => ?_) (fun c103_18 => ?_)
                · exact absurd c103_18 (by decide)
                · have bc103_18 := c103_18
                  refine lv_iconst (v := 1) hx hb dX4_agree_106 (by decide) ?_
                  refine lv_goto (tgt := 111) hx hb dX4_agree_107 (by decide) ?_
                  refine k_eq (y := bI (decide (σ 22 (3 * k + 1) < σ 22 (3 * k)) == decide (σ 22 (3 * k) < σ 22 (3 * k + 2)))) (by simp [bI, c39_1, bc39_1, c49_2, c66_3, c71_4, c77_5, c84_16, bc84_16, c95_17, bc95_17]) ?_
                  exact J111 ls (lv_sub hl [0, 1, 2, 3, 4] rfl)
              · have bc95_17 := nle_lt c95_17
                refine lv_iconst (v := 1) hx hb dX4_agree_98 (by decide) ?_
                refine lv_goto (tgt := 103) hx hb dX4_agree_99 (by decide) ?_
                refine lv_icmp_ne (tgt := 110) hx hb dX4_agree_103 (by decide) (fun c103_19 => ?_) (fun c103_19 => ?_)
                · have bc103_19 := c103_19
                  refine lv_iconst (v := 0) hx hb dX4_agree_110 (by decide) ?_
                  refine k_eq (y := bI (decide (σ 22 (3 * k + 1) < σ 22 (3 * k)) == decide (σ 22 (3 * k) < σ 22 (3 * k + 2)))) (by simp [bI, c39_1, bc39_1, c49_2, c66_3, c71_4, c77_5, c84_16, bc84_16, c95_17, bc95_17]) ?_
                  exact J111 ls (lv_sub hl [0, 1, 2, 3, 4] rfl)
                · exact absurd c103_19 (by decide)
            · have bc84_16 := nle_lt c84_16
              refine lv_iconst (v := 1) hx hb dX4_agree_87 (by decide) ?_
              refine lv_goto (tgt := 92) hx hb dX4_agree_88 (by decide) ?_
              refine lv_iload hx hb dX4_agree_92 (lv_at hl 0 rfl) ?_
              refine lv_iload_n hx hb dX4_agree_94 rfl (lv_at hl 2 rfl) ?_
              refine lv_icmp_le (tgt := 102) hx hb dX4_agree_95 (by decide) (fun c95_20 => ?_) (fun c95_20 => ?_)
              · have bc95_20 := le_nlt c95_20
                refine lv_iconst (v := 0) hx hb dX4_agree_102 (by decide) ?_
                refine lv_icmp_ne (tgt := 110) hx hb dX4_agree_103 (by decide) (fun c103_21 => ?_) (fun c103_21 => ?_)
                · have bc103_21 := c103_21
                  refine lv_iconst (v := 0) hx hb dX4_agree_110 (by decide) ?_
                  refine k_eq (y := bI (decide (σ 22 (3 * k + 1) < σ 22 (3 * k)) == decide (σ 22 (3 * k) < σ 22 (3 * k + 2)))) (by simp [bI, c39_1, bc39_1, c49_2, c66_3, c71_4, c77_5, c84_16, bc84_16, c95_20, bc95_20]) ?_
                  exact J111 ls (lv_sub hl [0, 1, 2, 3, 4] rfl)
                · exact absurd c103_21 (by decide)
              · have bc95_20 := nle_lt c95_20
                refine lv_iconst (v := 1) hx hb dX4_agree_98 (by decide) ?_
                refine lv_goto (tgt := 103) hx hb dX4_agree_99 (by decide) ?_
                refine lv_icmp_ne (tgt := 110) hx hb dX4_agree_103 (by decide) (fun c103_22 => ?_) (fun c103_22 => ?_)
                · exact absurd c103_22 (by decide)
                · have bc103_22 := c103_22
                  refine lv_iconst (v := 1) hx hb dX4_agree_106 (by decide) ?_
                  refine lv_goto (tgt := 111) hx hb dX4_agree_107 (by decide) ?_
                  refine k_eq (y := bI (decide (σ 22 (3 * k + 1) < σ 22 (3 * k)) == decide (σ 22 (3 * k) < σ 22 (3 * k + 2)))) (by simp [bI, c39_1, bc39_1, c49_2, c66_3, c71_4, c77_5, c84_16, bc84_16, c95_20, bc95_20]) ?_
                  exact J111 ls (lv_sub hl [0, 1, 2, 3, 4] rfl)
          · have bc77_5 := c77_5
            refine lv_iload_n hx hb dX4_agree_80 rfl (lv_at hl 2 rfl) ?_
            exact W.iret (v := σ 22 (3 * k)) hx hb hr (fun t ht hW => ⟨_, rfl, (by simp [agM, c39_1, bc39_1, c49_2, c66_3, c71_4, c77_5]), ht⟩) (fun q h => by cases h) dX4_agree_81
    · have bc49_2 := c49_2
      refine lv_iload_n hx hb dX4_agree_52 rfl (lv_at hl 2 rfl) ?_
      refine lv_iload_n hx hb dX4_agree_53 rfl (lv_at hl 1 rfl) ?_
      refine lv_icmp_eq (tgt := 59) hx hb dX4_agree_54 (by decide) (fun c54_23 => ?_) (fun c54_23 => ?_)
      · have bc54_23 := c54_23
        refine lv_aload_n hx hb dX4_agree_59 rfl (lv_at hl 3 rfl) ?_
        refine k_get S hX.2 hX.1 0 (C := RX4) (T := TX4) (N := 20) rfl rfl 13 (by decide) inX4 m_588 rfl dX4_agree_60 ?_
        refine lv_iload_n hx hb dX4_agree_63 rfl (lv_at hl 4 rfl) ?_
        refine k_ild S hX.2 hX.1 11 (i := k) rfl (by omega) (by decide) dX4_agree_64 ?_
        refine lv_iconst (v := 2) hx hb dX4_agree_65 (by decide) ?_
        refine lv_icmp_eq (tgt := 80) hx hb dX4_agree_66 (by decide) (fun c66_24 => ?_) (fun c66_24 => ?_)
        · have bc66_24 := c66_24
          refine lv_iload_n hx hb dX4_agree_80 rfl (lv_at hl 2 rfl) ?_
          exact W.iret (v := σ 22 (3 * k)) hx hb hr (fun t ht hW => ⟨_, rfl, (by simp [agM, c39_1, bc39_1, c49_2, c54_23, c66_24]), ht⟩) (fun q h => by cases h) dX4_agree_81
        · exact absurd c49_2 c66_24
      · have bc54_23 := c54_23
        refine lv_iconst (v := (-1)) hx hb dX4_agree_57 (by decide) ?_
        exact W.iret (v := (-1)) hx hb hr (fun t ht hW => ⟨_, rfl, (by simp [agM, c39_1, bc39_1, c49_2, c54_23]), ht⟩) (fun q h => by cases h) dX4_agree_58

set_option maxHeartbeats 4000000 in
set_option maxRecDepth 100000 in
theorem c4_hasOpen (l : Launch) (G : kG) (ad : Nat → Nat) (σ : kS) (ns : Nat) (pl : Int32) (hns : σ 18 0 = nI ns) (hns4 : ns ≤ 40) : Met l yX4_hasOpen [.code yX4_hasOpen cX4_hasOpen 4 (some .boolean)] ({ frames := 1, cells := 0, slots := 0, locals := 40 }) (va_Pc [.ref (ad 0), .int pl] (fun U => PM G ad σ U U.heap)) (vp_Si (fun r => r = bI (hoM σ pl ns))) 0 0 NF := by
  refine k_of (by decide) (Nat.le_of_ble_eq_true rfl) (fun U h => h.2.2) ?_
  intro p e s m below meth c ls S hr hlocks hmn hB hl
  have hx := S.1
  have hb := S.2.1
  have hX : PM G ad σ s s.heap := hB
  have hl : lv_has ls 4 [(0, .ref (ad 0)), (1, .int pl)] := hl
  have L4 : ∀ (n i : Nat), i ≤ ns → ns + 1 ≤ i + n → ∀ ls, lv_has ls 4 [(0, .ref (ad 0)), (1, .int pl), (2, .int (bI (hoM σ pl i))), (3, .int (nI i))] → W p l e ({ frames := 1, cells := 0, slots := 0, locals := 40 } : Room) s m [.ref (ad 0), .int pl].toArray below meth c s.heap [] 0 0 (MQ below (vp_Si (fun r => r = bI (hoM σ pl ns))) [.ref (ad 0), .int pl].toArray s 0 0 NF) (F0 m 4 ls []) := by
    intro n
    induction n with
    | zero =>
      intro i h1 h2
      omega
    | succ n ihn =>
      intro i hii hini ls hl
      refine lv_iload_n hx hb dX4_hasOpen_4 rfl (lv_at hl 3 rfl) ?_
      refine lv_aload_n hx hb dX4_hasOpen_5 rfl (lv_at hl 0 rfl) ?_
      refine k_get S hX.2 hX.1 0 (C := RX4) (T := TX4) (N := 20) rfl rfl 9 (by decide) inX4 m_584 rfl dX4_hasOpen_6 ?_
      refine k_eq (y := nI ns) (hns) ?_
      refine lv_icmp_ge (tgt := 47) hx hb dX4_hasOpen_9 (by decide) (fun c9_1 => ?_) (fun c9_1 => ?_)
      · have bc9_1 := le_nlt c9_1
        have hgei : i = ns := by
          have h9 := c9_1
          rw [nI_leI (by omega) (by omega)] at h9
          omega
        refine lv_iload_n hx hb dX4_hasOpen_47 rfl (lv_at hl 2 rfl) ?_
        exact W.zret (v := bI (hoM σ pl i)) (ty := .boolean) hx hb hr (by first | rfl | exact bI_nar _) (fun t ht hW => ⟨_, rfl, (by rw [hgei]), ht⟩) (fun q h => by cases h) dX4_hasOpen_48
      · have bc9_1 := nle_lt c9_1
        have hlti : i < ns := by
          have h9 := nle_lt c9_1
          rw [nI_ltI (by omega) (by omega)] at h9
          exact h9
        refine lv_iload_n hx hb dX4_hasOpen_12 rfl (lv_at hl 2 rfl) ?_
        refine lv_if_ne (tgt := 35) hx hb dX4_hasOpen_13 (by decide) (fun c13_2 => ?_) (fun c13_2 => ?_)
        · have bc13_2 := bI_n c13_2
          refine lv_iconst (v := 1) hx hb dX4_hasOpen_35 (by decide) ?_
          refine lv_goto (tgt := 40) hx hb dX4_hasOpen_36 (by decide) ?_
          refine lv_istore_n (lv' := [(2, .int 1), (0, .ref (ad 0)), (1, .int pl), (3, .int (nI i))]) hx hb dX4_hasOpen_40 rfl hl (by decide) rfl (fun ls hl => ?_)
          refine lv_iinc (v := nI (i + 1)) (lv' := [(3, .int (nI (i + 1))), (2, .int 1), (0, .ref (ad 0)), (1, .int pl)]) hx hb dX4_hasOpen_41 hl (k := 3) rfl (nI_1 i) (by decide) rfl (fun ls hl => ?_)
          refine lv_goto (tgt := 4) hx hb dX4_hasOpen_44 (by decide) ?_
          have ev3 : 1 = bI (hoM σ pl (i + 1)) := by simp [hoM, bI, c9_1, bc9_1, bc13_2]
          have hl : lv_has ls 4 [(3, .int (nI (i + 1))), (2, .int (bI (hoM σ pl (i + 1)))), (0, .ref (ad 0)), (1, .int pl)] := by rw [← ev3]; exact hl
          exact ihn (i + 1) hlti (by omega) ls (lv_sub hl [2, 3, 1, 0] rfl)
        · have bc13_2 := bI_0 c13_2
          refine lv_aload_n hx hb dX4_hasOpen_16 rfl (lv_at hl 0 rfl) ?_
          refine k_get S hX.2 hX.1 0 (C := RX4) (T := TX4) (N := 20) rfl rfl 10 (by decide) inX4 m_585 rfl dX4_hasOpen_17 ?_
          refine lv_iload_n hx hb dX4_hasOpen_20 rfl (lv_at hl 3 rfl) ?_
          refine k_ild S hX.2 hX.1 8 (i := i) rfl (by omega) (by decide) dX4_hasOpen_21 ?_
          refine lv_iload_n hx hb dX4_hasOpen_22 rfl (lv_at hl 1 rfl) ?_
          refine lv_icmp_ne (tgt := 39) hx hb dX4_hasOpen_23 (by decide) (fun c23_4 => ?_) (fun c23_4 => ?_)
          · have bc23_4 := c23_4
            refine lv_iconst (v := 0) hx hb dX4_hasOpen_39 (by decide) ?_
            refine lv_istore_n (lv' := [(2, .int 0), (0, .ref (ad 0)), (1, .int pl), (3, .int (nI i))]) hx hb dX4_hasOpen_40 rfl hl (by decide) rfl (fun ls hl => ?_)
            refine lv_iinc (v := nI (i + 1)) (lv' := [(3, .int (nI (i + 1))), (2, .int 0), (0, .ref (ad 0)), (1, .int pl)]) hx hb dX4_hasOpen_41 hl (k := 3) rfl (nI_1 i) (by decide) rfl (fun ls hl => ?_)
            refine lv_goto (tgt := 4) hx hb dX4_hasOpen_44 (by decide) ?_
            have ev5 : 0 = bI (hoM σ pl (i + 1)) := by simp [hoM, bI, c9_1, bc9_1, bc13_2, c23_4]
            have hl : lv_has ls 4 [(3, .int (nI (i + 1))), (2, .int (bI (hoM σ pl (i + 1)))), (0, .ref (ad 0)), (1, .int pl)] := by rw [← ev5]; exact hl
            exact ihn (i + 1) hlti (by omega) ls (lv_sub hl [2, 3, 1, 0] rfl)
          · have bc23_4 := c23_4
            refine lv_aload_n hx hb dX4_hasOpen_26 rfl (lv_at hl 0 rfl) ?_
            refine k_get S hX.2 hX.1 0 (C := RX4) (T := TX4) (N := 20) rfl rfl 12 (by decide) inX4 m_587 rfl dX4_hasOpen_27 ?_
            refine lv_iload_n hx hb dX4_hasOpen_30 rfl (lv_at hl 3 rfl) ?_
            refine k_ild S hX.2 hX.1 10 (i := i) rfl (by omega) (by decide) dX4_hasOpen_31 ?_
            refine lv_if_ne (tgt := 39) hx hb dX4_hasOpen_32 (by decide) (fun c32_6 => ?_) (fun c32_6 => ?_)
            · have bc32_6 := c32_6
              refine lv_iconst (v := 0) hx hb dX4_hasOpen_39 (by decide) ?_
              refine lv_istore_n (lv' := [(2, .int 0), (0, .ref (ad 0)), (1, .int pl), (3, .int (nI i))]) hx hb dX4_hasOpen_40 rfl hl (by decide) rfl (fun ls hl => ?_)
              refine lv_iinc (v := nI (i + 1)) (lv' := [(3, .int (nI (i + 1))), (2, .int 0), (0, .ref (ad 0)), (1, .int pl)]) hx hb dX4_hasOpen_41 hl (k := 3) rfl (nI_1 i) (by decide) rfl (fun ls hl => ?_)
              refine lv_goto (tgt := 4) hx hb dX4_hasOpen_44 (by decide) ?_
              have ev7 : 0 = bI (hoM σ pl (i + 1)) := by simp [hoM, bI, c9_1, bc9_1, bc13_2, c23_4, c32_6]
              have hl : lv_has ls 4 [(3, .int (nI (i + 1))), (2, .int (bI (hoM σ pl (i + 1)))), (0, .ref (ad 0)), (1, .int pl)] := by rw [← ev7]; exact hl
              exact ihn (i + 1) hlti (by omega) ls (lv_sub hl [2, 3, 1, 0] rfl)
            · have bc32_6 := c32_6
              refine lv_iconst (v := 1) hx hb dX4_hasOpen_35 (by decide) ?_
              refine lv_goto (tgt := 40) hx hb dX4_hasOpen_36 (by decide) ?_
              refine lv_istore_n (lv' := [(2, .int 1), (0, .ref (ad 0)), (1, .int pl), (3, .int (nI i))]) hx hb dX4_hasOpen_40 rfl hl (by decide) rfl (fun ls hl => ?_)
              refine lv_iinc (v := nI (i + 1)) (lv' := [(3, .int (nI (i + 1))), (2, .int 1), (0, .ref (ad 0)), (1, .int pl)]) hx hb dX4_hasOpen_41 hl (k := 3) rfl (nI_1 i) (by decide) rfl (fun ls hl => ?_)
              refine lv_goto (tgt := 4) hx hb dX4_hasOpen_44 (by decide) ?_
              have ev8 : 1 = bI (hoM σ pl (i + 1)) := by simp [hoM, bI, c9_1, bc9_1, bc13_2, c23_4, c32_6]
              have hl : lv_has ls 4 [(3, .int (nI (i + 1))), (2, .int (bI (hoM σ pl (i + 1)))), (0, .ref (ad 0)), (1, .int pl)] := by rw [← ev8]; exact hl
              exact ihn (i + 1) hlti (by omega) ls (lv_sub hl [2, 3, 1, 0] rfl)
  refine lv_iconst (v := 0) hx hb dX4_hasOpen_0 (by decide) ?_
  refine lv_istore_n (lv' := [(2, .int 0), (0, .ref (ad 0)), (1, .int pl)]) hx hb dX4_hasOpen_1 rfl hl (by decide) rfl (fun ls hl => ?_)
  refine lv_iconst (v := 0) hx hb dX4_hasOpen_2 (by decide) ?_
  refine lv_istore_n (lv' := [(3, .int 0), (2, .int 0), (0, .ref (ad 0)), (1, .int pl)]) hx hb dX4_hasOpen_3 rfl hl (by decide) rfl (fun ls hl => ?_)
  exact L4 (ns + 1) 0 (Nat.zero_le _) (by omega) ls (lv_sub hl [2, 3, 1, 0] rfl)

set_option maxHeartbeats 4000000 in
set_option maxRecDepth 100000 in
theorem c4_hasCounted (l : Launch) (G : kG) (ad : Nat → Nat) (σ : kS) (k cn : Nat) (who : Int32) (hk : k < 200) (hcn : σ 20 k = nI cn) (hcn3 : cn ≤ 3) : Met l yX4_hasCounted [.code yX4_hasCounted cX4_hasCounted 5 (some .boolean)] ({ frames := 1, cells := 0, slots := 0, locals := 40 }) (va_Pc [.ref (ad 0), .int (nI k), .int who] (fun U => PM G ad σ U U.heap)) (vp_Si (fun r => r = bI (hcM σ k who cn))) 0 0 NF := by
  refine k_of (by decide) (Nat.le_of_ble_eq_true rfl) (fun U h => h.2.2) ?_
  intro p e s m below meth c ls S hr hlocks hmn hB hl
  have hx := S.1
  have hb := S.2.1
  have hX : PM G ad σ s s.heap := hB
  have hl : lv_has ls 5 [(0, .ref (ad 0)), (1, .int (nI k)), (2, .int who)] := hl
  have L5 : ∀ (n i : Nat), i ≤ cn → cn + 1 ≤ i + n → ∀ ls, lv_has ls 5 [(0, .ref (ad 0)), (1, .int (nI k)), (2, .int who), (3, .int (bI (hcM σ k who i))), (4, .int (nI i))] → W p l e ({ frames := 1, cells := 0, slots := 0, locals := 40 } : Room) s m [.ref (ad 0), .int (nI k), .int who].toArray below meth c s.heap [] 0 0 (MQ below (vp_Si (fun r => r = bI (hcM σ k who cn))) [.ref (ad 0), .int (nI k), .int who].toArray s 0 0 NF) (F0 m 5 ls []) := by
    intro n
    induction n with
    | zero =>
      intro i h1 h2
      omega
    | succ n ihn =>
      intro i hii hini ls hl
      refine lv_iload hx hb dX4_hasCounted_5 (lv_at hl 4 rfl) ?_
      refine lv_aload_n hx hb dX4_hasCounted_7 rfl (lv_at hl 0 rfl) ?_
      refine k_get S hX.2 hX.1 0 (C := RX4) (T := TX4) (N := 20) rfl rfl 13 (by decide) inX4 m_588 rfl dX4_hasCounted_8 ?_
      refine lv_iload_n hx hb dX4_hasCounted_11 rfl (lv_at hl 1 rfl) ?_
      refine k_ild S hX.2 hX.1 11 (i := k) rfl (by omega) (by decide) dX4_hasCounted_12 ?_
      refine k_eq (y := nI cn) (hcn) ?_
      refine lv_icmp_ge (tgt := 47) hx hb dX4_hasCounted_13 (by decide) (fun c13_1 => ?_) (fun c13_1 => ?_)
      · have bc13_1 := le_nlt c13_1
        have hgei : i = cn := by
          have h9 := c13_1
          rw [nI_leI (by omega) (by omega)] at h9
          omega
        refine lv_iload_n hx hb dX4_hasCounted_47 rfl (lv_at hl 3 rfl) ?_
        exact W.zret (v := bI (hcM σ k who i)) (ty := .boolean) hx hb hr (by first | rfl | exact bI_nar _) (fun t ht hW => ⟨_, rfl, (by rw [hgei]), ht⟩) (fun q h => by cases h) dX4_hasCounted_48
      · have bc13_1 := nle_lt c13_1
        have hlti : i < cn := by
          have h9 := nle_lt c13_1
          rw [nI_ltI (by omega) (by omega)] at h9
          exact h9
        refine lv_iload_n hx hb dX4_hasCounted_16 rfl (lv_at hl 3 rfl) ?_
        refine lv_if_ne (tgt := 35) hx hb dX4_hasCounted_17 (by decide) (fun c17_2 => ?_) (fun c17_2 => ?_)
        · have bc17_2 := bI_n c17_2
          refine lv_iconst (v := 1) hx hb dX4_hasCounted_35 (by decide) ?_
          refine lv_goto (tgt := 40) hx hb dX4_hasCounted_36 (by decide) ?_
          refine lv_istore_n (lv' := [(3, .int 1), (0, .ref (ad 0)), (1, .int (nI k)), (2, .int who), (4, .int (nI i))]) hx hb dX4_hasCounted_40 rfl hl (by decide) rfl (fun ls hl => ?_)
          refine lv_iinc (v := nI (i + 1)) (lv' := [(4, .int (nI (i + 1))), (3, .int 1), (0, .ref (ad 0)), (1, .int (nI k)), (2, .int who)]) hx hb dX4_hasCounted_41 hl (k := 4) rfl (nI_1 i) (by decide) rfl (fun ls hl => ?_)
          refine lv_goto (tgt := 5) hx hb dX4_hasCounted_44 (by decide) ?_
          have ev3 : 1 = bI (hcM σ k who (i + 1)) := by simp [hcM, bI, c13_1, bc13_1, bc17_2]
          have hl : lv_has ls 5 [(4, .int (nI (i + 1))), (3, .int (bI (hcM σ k who (i + 1)))), (0, .ref (ad 0)), (1, .int (nI k)), (2, .int who)] := by rw [← ev3]; exact hl
          exact ihn (i + 1) hlti (by omega) ls (lv_sub hl [2, 3, 4, 1, 0] rfl)
        · have bc17_2 := bI_0 c17_2
          refine lv_aload_n hx hb dX4_hasCounted_20 rfl (lv_at hl 0 rfl) ?_
          refine k_get S hX.2 hX.1 0 (C := RX4) (T := TX4) (N := 20) rfl rfl 17 (by decide) inX4 m_592 rfl dX4_hasCounted_21 ?_
          refine lv_iconst (v := 3) hx hb dX4_hasCounted_24 (by decide) ?_
          refine lv_iload_n hx hb dX4_hasCounted_25 rfl (lv_at hl 1 rfl) ?_
          refine lv_imul hx hb dX4_hasCounted_26 ?_
          refine k_eq (y := nI (3 * k)) (pk_mul 3 k) ?_
          refine lv_iload hx hb dX4_hasCounted_27 (lv_at hl 4 rfl) ?_
          refine lv_iadd hx hb dX4_hasCounted_29 ?_
          refine k_eq (y := nI ((3 * k) + i)) (nI_add (3 * k) i) ?_
          refine k_ild S hX.2 hX.1 14 (i := ((3 * k) + i)) rfl (by omega) (by decide) dX4_hasCounted_30 ?_
          refine lv_iload_n hx hb dX4_hasCounted_31 rfl (lv_at hl 2 rfl) ?_
          refine lv_icmp_ne (tgt := 39) hx hb dX4_hasCounted_32 (by decide) (fun c32_4 => ?_) (fun c32_4 => ?_)
          · have bc32_4 := c32_4
            refine lv_iconst (v := 0) hx hb dX4_hasCounted_39 (by decide) ?_
            refine lv_istore_n (lv' := [(3, .int 0), (0, .ref (ad 0)), (1, .int (nI k)), (2, .int who), (4, .int (nI i))]) hx hb dX4_hasCounted_40 rfl hl (by decide) rfl (fun ls hl => ?_)
            refine lv_iinc (v := nI (i + 1)) (lv' := [(4, .int (nI (i + 1))), (3, .int 0), (0, .ref (ad 0)), (1, .int (nI k)), (2, .int who)]) hx hb dX4_hasCounted_41 hl (k := 4) rfl (nI_1 i) (by decide) rfl (fun ls hl => ?_)
            refine lv_goto (tgt := 5) hx hb dX4_hasCounted_44 (by decide) ?_
            have ev5 : 0 = bI (hcM σ k who (i + 1)) := by simp [hcM, bI, c13_1, bc13_1, bc17_2, c32_4]
            have hl : lv_has ls 5 [(4, .int (nI (i + 1))), (3, .int (bI (hcM σ k who (i + 1)))), (0, .ref (ad 0)), (1, .int (nI k)), (2, .int who)] := by rw [← ev5]; exact hl
            exact ihn (i + 1) hlti (by omega) ls (lv_sub hl [2, 3, 4, 1, 0] rfl)
          · have bc32_4 := c32_4
            refine lv_iconst (v := 1) hx hb dX4_hasCounted_35 (by decide) ?_
            refine lv_goto (tgt := 40) hx hb dX4_hasCounted_36 (by decide) ?_
            refine lv_istore_n (lv' := [(3, .int 1), (0, .ref (ad 0)), (1, .int (nI k)), (2, .int who), (4, .int (nI i))]) hx hb dX4_hasCounted_40 rfl hl (by decide) rfl (fun ls hl => ?_)
            refine lv_iinc (v := nI (i + 1)) (lv' := [(4, .int (nI (i + 1))), (3, .int 1), (0, .ref (ad 0)), (1, .int (nI k)), (2, .int who)]) hx hb dX4_hasCounted_41 hl (k := 4) rfl (nI_1 i) (by decide) rfl (fun ls hl => ?_)
            refine lv_goto (tgt := 5) hx hb dX4_hasCounted_44 (by decide) ?_
            have ev6 : 1 = bI (hcM σ k who (i + 1)) := by simp [hcM, bI, c13_1, bc13_1, bc17_2, c32_4]
            have hl : lv_has ls 5 [(4, .int (nI (i + 1))), (3, .int (bI (hcM σ k who (i + 1)))), (0, .ref (ad 0)), (1, .int (nI k)), (2, .int who)] := by rw [← ev6]; exact hl
            exact ihn (i + 1) hlti (by omega) ls (lv_sub hl [2, 3, 4, 1, 0] rfl)
  refine lv_iconst (v := 0) hx hb dX4_hasCounted_0 (by decide) ?_
  refine lv_istore_n (lv' := [(3, .int 0), (0, .ref (ad 0)), (1, .int (nI k)), (2, .int who)]) hx hb dX4_hasCounted_1 rfl hl (by decide) rfl (fun ls hl => ?_)
  refine lv_iconst (v := 0) hx hb dX4_hasCounted_2 (by decide) ?_
  refine lv_istore (lv' := [(4, .int 0), (3, .int 0), (0, .ref (ad 0)), (1, .int (nI k)), (2, .int who)]) hx hb dX4_hasCounted_3 hl (by decide) rfl (fun ls hl => ?_)
  exact L5 (cn + 1) 0 (Nat.zero_le _) (by omega) ls (lv_sub hl [2, 3, 4, 1, 0] rfl)

set_option maxHeartbeats 4000000 in
set_option maxRecDepth 100000 in
theorem c4_bookOf (l : Launch) (G : kG) (ad : Nat → Nat) (σ : kS) (nm ns : Nat) (pl : Int32) (ar : Nat) (mi : Int32) (hns : σ 18 0 = nI ns) (hns4 : ns ≤ 40) (hnm : σ 17 0 = nI nm) (hnm2 : nm ≤ 200) (har : ar < 5) : Met l yX4_bookOf [.code yX4_bookOf cX4_bookOf 9 (some .int)] ({ frames := 2, cells := 0, slots := 0, locals := 66 }) (va_Pc [.ref (ad 0), .int pl, .int (nI ar), .int mi] (fun U => PM G ad σ U U.heap)) (vp_Si (fun r => r = boM σ nm ns pl ar mi)) 0 0 NF := by
  refine k_of (by decide) (Nat.le_of_ble_eq_true rfl) (fun U h => h.2.2) ?_
  intro p e s m below meth c ls S hr hlocks hmn hB hl
  have hx := S.1
  have hb := S.2.1
  have hX : PM G ad σ s s.heap := hB
  have hl : lv_has ls 9 [(0, .ref (ad 0)), (1, .int pl), (2, .int (nI ar)), (3, .int mi)] := hl
  have L199 : ∀ (af z9 : Int32), boM σ nm ns pl ar mi = smM σ pl (nI ar) af mi z9 nm → ∀ (n i : Nat), i ≤ nm → nm + 1 ≤ i + n → ∀ ls, lv_has ls 9 [(0, .ref (ad 0)), (1, .int pl), (2, .int (nI ar)), (3, .int mi), (5, .int af), (6, .int (smM σ pl (nI ar) af mi z9 i)), (7, .int (nI i))] → W p l e ({ frames := 2, cells := 0, slots := 0, locals := 66 } : Room) s m [.ref (ad 0), .int pl, .int (nI ar), .int mi].toArray below meth c s.heap [] 0 0 (MQ below (vp_Si (fun r => r = boM σ nm ns pl ar mi)) [.ref (ad 0), .int pl, .int (nI ar), .int mi].toArray s 0 0 NF) (F0 m 199 ls []) := by
    intro af z9 hbo n
    induction n with
    | zero =>
      intro i h1 h2
      omega
    | succ n ihn =>
      intro i hii hini ls hl
      refine lv_iload hx hb dX4_bookOf_199 (lv_at hl 6 rfl) ?_
      refine lv_aload_n hx hb dX4_bookOf_201 rfl (lv_at hl 0 rfl) ?_
      refine k_get S hX.2 hX.1 0 (C := RX4) (T := TX4) (N := 20) rfl rfl 3 (by decide) inX4 m_578 rfl dX4_bookOf_202 ?_
      refine k_eq (y := nI nm) (hnm) ?_
      refine lv_icmp_ge (tgt := 313) hx hb dX4_bookOf_205 (by decide) (fun c205_1 => ?_) (fun c205_1 => ?_)
      · have bc205_1 := le_nlt c205_1
        have hgei : i = nm := by
          have h9 := c205_1
          rw [nI_leI (by omega) (by omega)] at h9
          omega
        refine lv_iload hx hb dX4_bookOf_313 (lv_at hl 5 rfl) ?_
        exact W.iret (v := smM σ pl (nI ar) af mi z9 i) hx hb hr (fun t ht hW => ⟨_, rfl, (by rw [hbo, hgei]), ht⟩) (fun q h => by cases h) dX4_bookOf_315
      · have bc205_1 := nle_lt c205_1
        have hlti : i < nm := by
          have h9 := nle_lt c205_1
          rw [nI_ltI (by omega) (by omega)] at h9
          exact h9
        have J247 : ∀ ls, lv_has ls 9 [(0, .ref (ad 0)), (1, .int pl), (2, .int (nI ar)), (3, .int mi), (5, .int af), (6, .int (smM σ pl (nI ar) af mi z9 i)), (7, .int (nI i))] → W p l e ({ frames := 2, cells := 0, slots := 0, locals := 66 } : Room) s m [.ref (ad 0), .int pl, .int (nI ar), .int mi].toArray below meth c s.heap [] 0 0 (MQ below (vp_Si (fun r => r = boM σ nm ns pl ar mi)) [.ref (ad 0), .int pl, .int (nI ar), .int mi].toArray s 0 0 NF) (F0 m 247 ls [.int (bI (tmB σ (nI ar) af mi i))]) := by
          intro ls hl
          refine lv_istore (lv' := [(8, .int (bI (tmB σ (nI ar) af mi i))), (0, .ref (ad 0)), (1, .int pl), (2, .int (nI ar)), (3, .int mi), (5, .int af), (6, .int (smM σ pl (nI ar) af mi z9 i)), (7, .int (nI i))]) hx hb dX4_bookOf_247 hl (by decide) rfl (fun ls hl => ?_)
          refine lv_iload hx hb dX4_bookOf_249 (lv_at hl 6 rfl) ?_
          refine lv_iload hx hb dX4_bookOf_251 (lv_at hl 0 rfl) ?_
          refine lv_if_ne (tgt := 260) hx hb dX4_bookOf_253 (by decide) (fun c253_2 => ?_) (fun c253_2 => ?_)
          · have bc253_2 := bI_n c253_2
            refine lv_aload_n hx hb dX4_bookOf_260 rfl (lv_at hl 1 rfl) ?_
            refine k_get S hX.2 hX.1 0 (C := RX4) (T := TX4) (N := 20) rfl rfl 5 (by decide) inX4 m_580 rfl dX4_bookOf_261 ?_
            refine lv_iload hx hb dX4_bookOf_264 (lv_at hl 7 rfl) ?_
            refine k_ild S hX.2 hX.1 4 (i := i) rfl (by omega) (by decide) dX4_bookOf_266 ?_
            refine lv_iload_n hx hb dX4_bookOf_267 rfl (lv_at hl 2 rfl) ?_
            refine lv_icmp_ne (tgt := 281) hx hb dX4_bookOf_268 (by decide) (fun c268_3 => ?_) (fun c268_3 => ?_)
            · have bc268_3 := c268_3
              refine lv_aload_n hx hb dX4_bookOf_281 rfl (lv_at hl 1 rfl) ?_
              refine k_get S hX.2 hX.1 0 (C := RX4) (T := TX4) (N := 20) rfl rfl 4 (by decide) inX4 m_579 rfl dX4_bookOf_282 ?_
              refine lv_iload hx hb dX4_bookOf_285 (lv_at hl 7 rfl) ?_
              refine k_ild S hX.2 hX.1 3 (i := i) rfl (by omega) (by decide) dX4_bookOf_287 ?_
              refine lv_iload_n hx hb dX4_bookOf_288 rfl (lv_at hl 2 rfl) ?_
              refine lv_icmp_ne (tgt := 303) hx hb dX4_bookOf_289 (by decide) (fun c289_4 => ?_) (fun c289_4 => ?_)
              · have bc289_4 := c289_4
                refine lv_iconst (v := 0) hx hb dX4_bookOf_303 (by decide) ?_
                refine lv_iadd hx hb dX4_bookOf_304 ?_
                refine lv_istore (lv' := [(6, .int ((smM σ pl (nI ar) af mi z9 i) + 0)), (8, .int (bI (tmB σ (nI ar) af mi i))), (0, .ref (ad 0)), (1, .int pl), (2, .int (nI ar)), (3, .int mi), (5, .int af), (7, .int (nI i))]) hx hb dX4_bookOf_305 hl (by decide) rfl (fun ls hl => ?_)
                refine lv_iinc (v := nI (i + 1)) (lv' := [(7, .int (nI (i + 1))), (6, .int ((smM σ pl (nI ar) af mi z9 i) + 0)), (8, .int (bI (tmB σ (nI ar) af mi i))), (0, .ref (ad 0)), (1, .int pl), (2, .int (nI ar)), (3, .int mi), (5, .int af)]) hx hb dX4_bookOf_307 hl (k := 7) rfl (nI_1 i) (by decide) rfl (fun ls hl => ?_)
                refine lv_goto (tgt := 199) hx hb dX4_bookOf_310 (by decide) ?_
                have ev5 : (smM σ pl (nI ar) af mi z9 i) + 0 = smM σ pl (nI ar) af mi z9 (i + 1) := by simp [smM, tmM, c205_1, bc205_1, bc253_2, c268_3, c289_4]
                have hl : lv_has ls 9 [(7, .int (nI (i + 1))), (6, .int (smM σ pl (nI ar) af mi z9 (i + 1))), (8, .int (bI (tmB σ (nI ar) af mi i))), (0, .ref (ad 0)), (1, .int pl), (2, .int (nI ar)), (3, .int mi), (5, .int af)] := by rw [← ev5]; exact hl
                exact ihn (i + 1) hlti (by omega) ls (lv_sub hl [3, 4, 5, 6, 7, 1, 0] rfl)
              · have bc289_4 := c289_4
                refine lv_aload_n hx hb dX4_bookOf_292 rfl (lv_at hl 1 rfl) ?_
                refine k_get S hX.2 hX.1 0 (C := RX4) (T := TX4) (N := 20) rfl rfl 7 (by decide) inX4 m_582 rfl dX4_bookOf_293 ?_
                refine lv_iload hx hb dX4_bookOf_296 (lv_at hl 7 rfl) ?_
                refine k_ild S hX.2 hX.1 6 (i := i) rfl (by omega) (by decide) dX4_bookOf_298 ?_
                refine lv_ineg hx hb dX4_bookOf_299 ?_
                refine lv_goto (tgt := 304) hx hb dX4_bookOf_300 (by decide) ?_
                refine lv_iadd hx hb dX4_bookOf_304 ?_
                refine lv_istore (lv' := [(6, .int ((smM σ pl (nI ar) af mi z9 i) + (-(σ 5 i)))), (8, .int (bI (tmB σ (nI ar) af mi i))), (0, .ref (ad 0)), (1, .int pl), (2, .int (nI ar)), (3, .int mi), (5, .int af), (7, .int (nI i))]) hx hb dX4_bookOf_305 hl (by decide) rfl (fun ls hl => ?_)
                refine lv_iinc (v := nI (i + 1)) (lv' := [(7, .int (nI (i + 1))), (6, .int ((smM σ pl (nI ar) af mi z9 i) + (-(σ 5 i)))), (8, .int (bI (tmB σ (nI ar) af mi i))), (0, .ref (ad 0)), (1, .int pl), (2, .int (nI ar)), (3, .int mi), (5, .int af)]) hx hb dX4_bookOf_307 hl (k := 7) rfl (nI_1 i) (by decide) rfl (fun ls hl => ?_)
                refine lv_goto (tgt := 199) hx hb dX4_bookOf_310 (by decide) ?_
                have ev6 : (smM σ pl (nI ar) af mi z9 i) + (-(σ 5 i)) = smM σ pl (nI ar) af mi z9 (i + 1) := by simp [smM, tmM, c205_1, bc205_1, bc253_2, c268_3, c289_4]
                have hl : lv_has ls 9 [(7, .int (nI (i + 1))), (6, .int (smM σ pl (nI ar) af mi z9 (i + 1))), (8, .int (bI (tmB σ (nI ar) af mi i))), (0, .ref (ad 0)), (1, .int pl), (2, .int (nI ar)), (3, .int mi), (5, .int af)] := by rw [← ev6]; exact hl
                exact ihn (i + 1) hlti (by omega) ls (lv_sub hl [3, 4, 5, 6, 7, 1, 0] rfl)
            · have bc268_3 := c268_3
              refine lv_aload_n hx hb dX4_bookOf_271 rfl (lv_at hl 1 rfl) ?_
              refine k_get S hX.2 hX.1 0 (C := RX4) (T := TX4) (N := 20) rfl rfl 7 (by decide) inX4 m_582 rfl dX4_bookOf_272 ?_
              refine lv_iload hx hb dX4_bookOf_275 (lv_at hl 7 rfl) ?_
              refine k_ild S hX.2 hX.1 6 (i := i) rfl (by omega) (by decide) dX4_bookOf_277 ?_
              refine lv_goto (tgt := 304) hx hb dX4_bookOf_278 (by decide) ?_
              refine lv_iadd hx hb dX4_bookOf_304 ?_
              refine lv_istore (lv' := [(6, .int ((smM σ pl (nI ar) af mi z9 i) + (σ 5 i))), (8, .int (bI (tmB σ (nI ar) af mi i))), (0, .ref (ad 0)), (1, .int pl), (2, .int (nI ar)), (3, .int mi), (5, .int af), (7, .int (nI i))]) hx hb dX4_bookOf_305 hl (by decide) rfl (fun ls hl => ?_)
              refine lv_iinc (v := nI (i + 1)) (lv' := [(7, .int (nI (i + 1))), (6, .int ((smM σ pl (nI ar) af mi z9 i) + (σ 5 i))), (8, .int (bI (tmB σ (nI ar) af mi i))), (0, .ref (ad 0)), (1, .int pl), (2, .int (nI ar)), (3, .int mi), (5, .int af)]) hx hb dX4_bookOf_307 hl (k := 7) rfl (nI_1 i) (by decide) rfl (fun ls hl => ?_)
              refine lv_goto (tgt := 199) hx hb dX4_bookOf_310 (by decide) ?_
              have ev7 : (smM σ pl (nI ar) af mi z9 i) + (σ 5 i) = smM σ pl (nI ar) af mi z9 (i + 1) := by simp [smM, tmM, c205_1, bc205_1, bc253_2, c268_3]
              have hl : lv_has ls 9 [(7, .int (nI (i + 1))), (6, .int (smM σ pl (nI ar) af mi z9 (i + 1))), (8, .int (bI (tmB σ (nI ar) af mi i))), (0, .ref (ad 0)), (1, .int pl), (2, .int (nI ar)), (3, .int mi), (5, .int af)] := by rw [← ev7]; exact hl
              exact ihn (i + 1) hlti (by omega) ls (lv_sub hl [3, 4, 5, 6, 7, 1, 0] rfl)
          · have bc253_2 := bI_0 c253_2
            refine lv_iconst (v := 0) hx hb dX4_bookOf_256 (by decide) ?_
            refine lv_goto (tgt := 304) hx hb dX4_bookOf_257 (by decide) ?_
            refine lv_iadd hx hb dX4_bookOf_304 ?_
            refine lv_istore (lv' := [(6, .int ((smM σ pl (nI ar) af mi z9 i) + 0)), (8, .int (bI (tmB σ (nI ar) af mi i))), (0, .ref (ad 0)), (1, .int pl), (2, .int (nI ar)), (3, .int mi), (5, .int af), (7, .int (nI i))]) hx hb dX4_bookOf_305 hl (by decide) rfl (fun ls hl => ?_)
            refine lv_iinc (v := nI (i + 1)) (lv' := [(7, .int (nI (i + 1))), (6, .int ((smM σ pl (nI ar) af mi z9 i) + 0)), (8, .int (bI (tmB σ (nI ar) af mi i))), (0, .ref (ad 0)), (1, .int pl), (2, .int (nI ar)), (3, .int mi), (5, .int af)]) hx hb dX4_bookOf_307 hl (k := 7) rfl (nI_1 i) (by decide) rfl (fun ls hl => ?_)
            refine lv_goto (tgt := 199) hx hb dX4_bookOf_310 (by decide) ?_
            have ev8 : (smM σ pl (nI ar) af mi z9 i) + 0 = smM σ pl (nI ar) af mi z9 (i + 1) := by simp [smM, tmM, c205_1, bc205_1, bc253_2]
            have hl : lv_has ls 9 [(7, .int (nI (i + 1))), (6, .int (smM σ pl (nI ar) af mi z9 (i + 1))), (8, .int (bI (tmB σ (nI ar) af mi i))), (0, .ref (ad 0)), (1, .int pl), (2, .int (nI ar)), (3, .int mi), (5, .int af)] := by rw [← ev8]; exact hl
            exact ihn (i + 1) hlti (by omega) ls (lv_sub hl [3, 4, 5, 6, 7, 1, 0] rfl)
        refine lv_aload_n hx hb dX4_bookOf_208 rfl (lv_at hl 0 rfl) ?_
        refine k_get S hX.2 hX.1 0 (C := RX4) (T := TX4) (N := 20) rfl rfl 6 (by decide) inX4 m_581 rfl dX4_bookOf_209 ?_
        refine lv_iload hx hb dX4_bookOf_212 (lv_at hl 6 rfl) ?_
        refine k_ild S hX.2 hX.1 5 (i := i) rfl (by omega) (by decide) dX4_bookOf_214 ?_
        refine lv_iload_n hx hb dX4_bookOf_215 rfl (lv_at hl 2 rfl) ?_
        refine lv_icmp_ne (tgt := 246) hx hb dX4_bookOf_216 (by decide) (fun c216_9 => ?_) (fun c216_9 => ?_)
        · have bc216_9 := c216_9
          refine lv_iconst (v := 0) hx hb dX4_bookOf_246 (by decide) ?_
          refine k_eq (y := bI (tmB σ (nI ar) af mi i)) (by simp [bI, c205_1, bc205_1, c216_9, tmB]) ?_
          exact J247 ls (lv_sub hl [0, 1, 2, 3, 4, 5, 6] rfl)
        · have bc216_9 := c216_9
          refine lv_aload_n hx hb dX4_bookOf_219 rfl (lv_at hl 0 rfl) ?_
          refine k_get S hX.2 hX.1 0 (C := RX4) (T := TX4) (N := 20) rfl rfl 8 (by decide) inX4 m_583 rfl dX4_bookOf_220 ?_
          refine lv_iload hx hb dX4_bookOf_223 (lv_at hl 6 rfl) ?_
          refine k_ild S hX.2 hX.1 7 (i := i) rfl (by omega) (by decide) dX4_bookOf_225 ?_
          refine lv_iload hx hb dX4_bookOf_226 (lv_at hl 4 rfl) ?_
          refine lv_icmp_le (tgt := 246) hx hb dX4_bookOf_228 (by decide) (fun c228_10 => ?_) (fun c228_10 => ?_)
          · have bc228_10 := le_nlt c228_10
            refine lv_iconst (v := 0) hx hb dX4_bookOf_246 (by decide) ?_
            refine k_eq (y := bI (tmB σ (nI ar) af mi i)) (by simp [bI, c205_1, bc205_1, c216_9, c228_10, bc228_10, tmB]) ?_
            exact J247 ls (lv_sub hl [0, 1, 2, 3, 4, 5, 6] rfl)
          · have bc228_10 := nle_lt c228_10
            refine lv_aload_n hx hb dX4_bookOf_231 rfl (lv_at hl 0 rfl) ?_
            refine k_get S hX.2 hX.1 0 (C := RX4) (T := TX4) (N := 20) rfl rfl 8 (by decide) inX4 m_583 rfl dX4_bookOf_232 ?_
            refine lv_iload hx hb dX4_bookOf_235 (lv_at hl 6 rfl) ?_
            refine k_ild S hX.2 hX.1 7 (i := i) rfl (by omega) (by decide) dX4_bookOf_237 ?_
            refine lv_iload_n hx hb dX4_bookOf_238 rfl (lv_at hl 3 rfl) ?_
            refine lv_icmp_gt (tgt := 246) hx hb dX4_bookOf_239 (by decide) (fun c239_11 => ?_) (fun c239_11 => ?_)
            · have bc239_11 := lt_nle c239_11
              refine lv_iconst (v := 0) hx hb dX4_bookOf_246 (by decide) ?_
              refine k_eq (y := bI (tmB σ (nI ar) af mi i)) (by simp [bI, c205_1, bc205_1, c216_9, c228_10, bc228_10, c239_11, bc239_11, tmB]) ?_
              exact J247 ls (lv_sub hl [0, 1, 2, 3, 4, 5, 6] rfl)
            · have bc239_11 := nlt_le c239_11
              refine lv_iconst (v := 1) hx hb dX4_bookOf_242 (by decide) ?_
              refine lv_goto (tgt := 247) hx hb dX4_bookOf_243 (by decide) ?_
              refine k_eq (y := bI (tmB σ (nI ar) af mi i)) (by simp [bI, c205_1, bc205_1, c216_9, c228_10, bc228_10, c239_11, bc239_11, tmB]) ?_
              exact J247 ls (lv_sub hl [0, 1, 2, 3, 4, 5, 6] rfl)
  have L6 : ∀ (n i : Nat), i ≤ ns → ns + 1 ≤ i + n → ∀ ls, lv_has ls 9 [(0, .ref (ad 0)), (1, .int pl), (2, .int (nI ar)), (3, .int mi), (4, .int (oI (fdM σ pl ar mi i))), (5, .int (nI i))] → W p l e ({ frames := 2, cells := 0, slots := 0, locals := 66 } : Room) s m [.ref (ad 0), .int pl, .int (nI ar), .int mi].toArray below meth c s.heap [] 0 0 (MQ below (vp_Si (fun r => r = boM σ nm ns pl ar mi)) [.ref (ad 0), .int pl, .int (nI ar), .int mi].toArray s 0 0 NF) (F0 m 6 ls []) := by
    intro n
    induction n with
    | zero =>
      intro i h1 h2
      omega
    | succ n ihn =>
      intro i hii hini ls hl
      obtain ⟨o, ho⟩ : ∃ o, o = fdM σ pl ar mi i := ⟨_, rfl⟩
      rw [← ho] at hl
      rcases o with _ | b
      · have hl : lv_has ls 9 [(0, .ref (ad 0)), (1, .int pl), (2, .int (nI ar)), (3, .int mi), (4, .int (-1)), (5, .int (nI i))] := hl
        refine lv_iload hx hb dX4_bookOf_6 (lv_at hl 5 rfl) ?_
        refine lv_aload_n hx hb dX4_bookOf_8 rfl (lv_at hl 0 rfl) ?_
        refine k_get S hX.2 hX.1 0 (C := RX4) (T := TX4) (N := 20) rfl rfl 9 (by decide) inX4 m_584 rfl dX4_bookOf_9 ?_
        refine k_eq (y := nI ns) (hns) ?_
        refine lv_icmp_ge (tgt := 155) hx hb dX4_bookOf_12 (by decide) (fun c12_12 => ?_) (fun c12_12 => ?_)
        · have bc12_12 := le_nlt c12_12
          have hgei : i = ns := by
            have h9 := c12_12
            rw [nI_leI (by omega) (by omega)] at h9
            omega
          refine lv_iload hx hb dX4_bookOf_155 (lv_at hl 4 rfl) ?_
          refine lv_iconst (v := (-1)) hx hb dX4_bookOf_157 (by decide) ?_
          refine lv_icmp_ne (tgt := 165) hx hb dX4_bookOf_158 (by decide) (fun c158_13 => ?_) (fun c158_13 => ?_)
          · exact absurd c158_13 (by decide)
          · have bc158_13 := c158_13
            refine lv_iconst (v := (-1)) hx hb dX4_bookOf_161 (by decide) ?_
            refine lv_goto (tgt := 172) hx hb dX4_bookOf_162 (by decide) ?_
            refine lv_istore (lv' := [(5, .int (-1)), (0, .ref (ad 0)), (1, .int pl), (2, .int (nI ar)), (3, .int mi), (4, .int (-1))]) hx hb dX4_bookOf_172 hl (by decide) rfl (fun ls hl => ?_)
            refine lv_iload hx hb dX4_bookOf_174 (lv_at hl 5 rfl) ?_
            refine lv_iconst (v := (-1)) hx hb dX4_bookOf_176 (by decide) ?_
            refine lv_icmp_ne (tgt := 184) hx hb dX4_bookOf_177 (by decide) (fun c177_14 => ?_) (fun c177_14 => ?_)
            · exact absurd c177_14 (by decide)
            · have bc177_14 := c177_14
              refine lv_iconst (v := 0) hx hb dX4_bookOf_180 (by decide) ?_
              refine lv_goto (tgt := 194) hx hb dX4_bookOf_181 (by decide) ?_
              refine lv_istore (lv' := [(6, .int 0), (5, .int (-1)), (0, .ref (ad 0)), (1, .int pl), (2, .int (nI ar)), (3, .int mi), (4, .int (-1))]) hx hb dX4_bookOf_194 hl (by decide) rfl (fun ls hl => ?_)
              refine lv_iconst (v := 0) hx hb dX4_bookOf_196 (by decide) ?_
              refine lv_istore (lv' := [(7, .int 0), (6, .int 0), (5, .int (-1)), (0, .ref (ad 0)), (1, .int pl), (2, .int (nI ar)), (3, .int mi), (4, .int (-1))]) hx hb dX4_bookOf_197 hl (by decide) rfl (fun ls hl => ?_)
              exact L199 (-1) 0 (by simp [boM, ← hgei, ← ho]) (nm + 1) 0 (Nat.zero_le _) (by omega) ls (lv_sub hl [3, 4, 5, 6, 2, 1, 0] rfl)
        · have bc12_12 := nle_lt c12_12
          have hlti : i < ns := by
            have h9 := nle_lt c12_12
            rw [nI_ltI (by omega) (by omega)] at h9
            exact h9
          have J56 : ∀ ls, lv_has ls 9 [(0, .ref (ad 0)), (1, .int pl), (2, .int (nI ar)), (3, .int mi), (4, .int (-1)), (5, .int (nI i))] → W p l e ({ frames := 2, cells := 0, slots := 0, locals := 66 } : Room) s m [.ref (ad 0), .int pl, .int (nI ar), .int mi].toArray below meth c s.heap [] 0 0 (MQ below (vp_Si (fun r => r = boM σ nm ns pl ar mi)) [.ref (ad 0), .int pl, .int (nI ar), .int mi].toArray s 0 0 NF) (F0 m 56 ls [.int (bI (isM σ pl ar mi i))]) := by
            intro ls hl
            refine lv_istore (lv' := [(6, .int (bI (isM σ pl ar mi i))), (0, .ref (ad 0)), (1, .int pl), (2, .int (nI ar)), (3, .int mi), (4, .int (-1)), (5, .int (nI i))]) hx hb dX4_bookOf_56 hl (by decide) rfl (fun ls hl => ?_)
            refine lv_iload hx hb dX4_bookOf_58 (lv_at hl 5 rfl) ?_
            refine lv_iconst (v := (-1)) hx hb dX4_bookOf_60 (by decide) ?_
            refine lv_icmp_eq (tgt := 123) hx hb dX4_bookOf_61 (by decide) (fun c61_15 => ?_) (fun c61_15 => ?_)
            · have bc61_15 := c61_15
              refine lv_iconst (v := 1) hx hb dX4_bookOf_123 (by decide) ?_
              refine lv_goto (tgt := 128) hx hb dX4_bookOf_124 (by decide) ?_
              refine lv_istore (lv' := [(7, .int 1), (6, .int (bI (isM σ pl ar mi i))), (0, .ref (ad 0)), (1, .int pl), (2, .int (nI ar)), (3, .int mi), (4, .int (-1)), (5, .int (nI i))]) hx hb dX4_bookOf_128 hl (by decide) rfl (fun ls hl => ?_)
              refine lv_iload hx hb dX4_bookOf_130 (lv_at hl 1 rfl) ?_
              refine lv_if_eq (tgt := 145) hx hb dX4_bookOf_132 (by decide) (fun c132_16 => ?_) (fun c132_16 => ?_)
              · have bc132_16 := bI_0 c132_16
                refine lv_iload hx hb dX4_bookOf_145 (lv_at hl 6 rfl) ?_
                refine lv_istore (lv' := [(4, .int (-1)), (7, .int 1), (6, .int (bI (isM σ pl ar mi i))), (0, .ref (ad 0)), (1, .int pl), (2, .int (nI ar)), (3, .int mi), (5, .int (nI i))]) hx hb dX4_bookOf_147 hl (by decide) rfl (fun ls hl => ?_)
                refine lv_iinc (v := nI (i + 1)) (lv' := [(5, .int (nI (i + 1))), (4, .int (-1)), (7, .int 1), (6, .int (bI (isM σ pl ar mi i))), (0, .ref (ad 0)), (1, .int pl), (2, .int (nI ar)), (3, .int mi)]) hx hb dX4_bookOf_149 hl (k := 7) rfl (nI_1 i) (by decide) rfl (fun ls hl => ?_)
                refine lv_goto (tgt := 6) hx hb dX4_bookOf_152 (by decide) ?_
                have ev17 : (-1) = oI (fdM σ pl ar mi (i + 1)) := by simp [fdM, fdT, ← ho, oI, c12_12, bc12_12, bc132_16]
                have hl : lv_has ls 9 [(5, .int (nI (i + 1))), (4, .int (oI (fdM σ pl ar mi (i + 1)))), (7, .int 1), (6, .int (bI (isM σ pl ar mi i))), (0, .ref (ad 0)), (1, .int pl), (2, .int (nI ar)), (3, .int mi)] := by rw [← ev17]; exact hl
                exact ihn (i + 1) hlti (by omega) ls (lv_sub hl [4, 5, 6, 7, 1, 0] rfl)
              · have bc132_16 := bI_n c132_16
                refine lv_iload hx hb dX4_bookOf_135 (lv_at hl 0 rfl) ?_
                refine lv_if_eq (tgt := 145) hx hb dX4_bookOf_137 (by decide) (fun c137_18 => ?_) (fun c137_18 => ?_)
                · exact absurd c137_18 (by decide)
                · have bc137_18 := c137_18
                  refine lv_iload hx hb dX4_bookOf_140 (lv_at hl 7 rfl) ?_
                  refine lv_goto (tgt := 147) hx hb dX4_bookOf_142 (by decide) ?_
                  refine lv_istore (lv' := [(4, .int (nI i)), (7, .int 1), (6, .int (bI (isM σ pl ar mi i))), (0, .ref (ad 0)), (1, .int pl), (2, .int (nI ar)), (3, .int mi), (5, .int (nI i))]) hx hb dX4_bookOf_147 hl (by decide) rfl (fun ls hl => ?_)
                  refine lv_iinc (v := nI (i + 1)) (lv' := [(5, .int (nI (i + 1))), (4, .int (nI i)), (7, .int 1), (6, .int (bI (isM σ pl ar mi i))), (0, .ref (ad 0)), (1, .int pl), (2, .int (nI ar)), (3, .int mi)]) hx hb dX4_bookOf_149 hl (k := 7) rfl (nI_1 i) (by decide) rfl (fun ls hl => ?_)
                  refine lv_goto (tgt := 6) hx hb dX4_bookOf_152 (by decide) ?_
                  have ev19 : nI i = oI (fdM σ pl ar mi (i + 1)) := by simp [fdM, fdT, ← ho, oI, c12_12, bc12_12, bc132_16]
                  have hl : lv_has ls 9 [(5, .int (nI (i + 1))), (4, .int (oI (fdM σ pl ar mi (i + 1)))), (7, .int 1), (6, .int (bI (isM σ pl ar mi i))), (0, .ref (ad 0)), (1, .int pl), (2, .int (nI ar)), (3, .int mi)] := by rw [← ev19]; exact hl
                  exact ihn (i + 1) hlti (by omega) ls (lv_sub hl [4, 5, 6, 7, 1, 0] rfl)
            · exact absurd c61_15 (by decide)
          refine lv_aload_n hx hb dX4_bookOf_15 rfl (lv_at hl 0 rfl) ?_
          refine k_get S hX.2 hX.1 0 (C := RX4) (T := TX4) (N := 20) rfl rfl 10 (by decide) inX4 m_585 rfl dX4_bookOf_16 ?_
          refine lv_iload hx hb dX4_bookOf_19 (lv_at hl 5 rfl) ?_
          refine k_ild S hX.2 hX.1 8 (i := i) rfl (by omega) (by decide) dX4_bookOf_21 ?_
          refine lv_iload_n hx hb dX4_bookOf_22 rfl (lv_at hl 1 rfl) ?_
          refine lv_icmp_ne (tgt := 55) hx hb dX4_bookOf_23 (by decide) (fun c23_20 => ?_) (fun c23_20 => ?_)
          · have bc23_20 := c23_20
            refine lv_iconst (v := 0) hx hb dX4_bookOf_55 (by decide) ?_
            refine k_eq (y := bI (isM σ pl ar mi i)) (by simp [bI, c12_12, bc12_12, c23_20, isM]) ?_
            exact J56 ls (lv_sub hl [0, 1, 2, 3, 4, 5] rfl)
          · have bc23_20 := c23_20
            refine lv_aload_n hx hb dX4_bookOf_26 rfl (lv_at hl 0 rfl) ?_
            refine k_get S hX.2 hX.1 0 (C := RX4) (T := TX4) (N := 20) rfl rfl 14 (by decide) inX4 m_589 rfl dX4_bookOf_27 ?_
            refine lv_iload hx hb dX4_bookOf_30 (lv_at hl 5 rfl) ?_
            refine lv_iload_n hx hb dX4_bookOf_32 rfl (lv_at hl 2 rfl) ?_
            refine q_i (r_S S ⟨m_686, m_687, m_40, m_688⟩ ⟨rfl, by decide, by decide, by decide +kernel⟩ (c4_at l i ar) ⟨rfl, rfl, Nat.le_of_ble_eq_true rfl, Nat.le_of_ble_eq_true rfl⟩ (ps bl_GL (bG hX.2.2)) (n := 2) (As := [.int (nI i), .int (nI ar)]) (rest := [.ref (ad 12)]) rfl hl.1 rfl (Nat.le_of_ble_eq_true rfl) ⟨Nat.le_of_ble_eq_true rfl, Nat.le_of_ble_eq_true rfl⟩ dX4_bookOf_33) (fun r21 (e21 : r21 = nI (i * 5 + ar)) => ?_)
            subst e21
            refine k_ild S hX.2 hX.1 12 (i := (i * 5 + ar)) rfl (by omega) (by decide) dX4_bookOf_36 ?_
            refine lv_if_le (tgt := 55) hx hb dX4_bookOf_37 (by decide) (fun c37_22 => ?_) (fun c37_22 => ?_)
            · have bc37_22 := le_nlt c37_22
              refine lv_iconst (v := 0) hx hb dX4_bookOf_55 (by decide) ?_
              refine k_eq (y := bI (isM σ pl ar mi i)) (by simp [bI, c12_12, bc12_12, c23_20, c37_22, bc37_22, isM]) ?_
              exact J56 ls (lv_sub hl [0, 1, 2, 3, 4, 5] rfl)
            · have bc37_22 := nle_lt c37_22
              refine lv_aload_n hx hb dX4_bookOf_40 rfl (lv_at hl 0 rfl) ?_
              refine k_get S hX.2 hX.1 0 (C := RX4) (T := TX4) (N := 20) rfl rfl 11 (by decide) inX4 m_586 rfl dX4_bookOf_41 ?_
              refine lv_iload hx hb dX4_bookOf_44 (lv_at hl 5 rfl) ?_
              refine k_ild S hX.2 hX.1 9 (i := i) rfl (by omega) (by decide) dX4_bookOf_46 ?_
              refine lv_iload_n hx hb dX4_bookOf_47 rfl (lv_at hl 3 rfl) ?_
              refine lv_icmp_gt (tgt := 55) hx hb dX4_bookOf_48 (by decide) (fun c48_23 => ?_) (fun c48_23 => ?_)
              · have bc48_23 := lt_nle c48_23
                refine lv_iconst (v := 0) hx hb dX4_bookOf_55 (by decide) ?_
                refine k_eq (y := bI (isM σ pl ar mi i)) (by simp [bI, c12_12, bc12_12, c23_20, c37_22, bc37_22, c48_23, bc48_23, isM]) ?_
                exact J56 ls (lv_sub hl [0, 1, 2, 3, 4, 5] rfl)
              · have bc48_23 := nlt_le c48_23
                refine lv_iconst (v := 1) hx hb dX4_bookOf_51 (by decide) ?_
                refine lv_goto (tgt := 56) hx hb dX4_bookOf_52 (by decide) ?_
                refine k_eq (y := bI (isM σ pl ar mi i)) (by simp [bI, c12_12, bc12_12, c23_20, c37_22, bc37_22, c48_23, bc48_23, isM]) ?_
                exact J56 ls (lv_sub hl [0, 1, 2, 3, 4, 5] rfl)
      · have hl : lv_has ls 9 [(0, .ref (ad 0)), (1, .int pl), (2, .int (nI ar)), (3, .int mi), (4, .int (nI b)), (5, .int (nI i))] := hl
        have hbi := fdM_lt ho.symm
        refine lv_iload hx hb dX4_bookOf_6 (lv_at hl 5 rfl) ?_
        refine lv_aload_n hx hb dX4_bookOf_8 rfl (lv_at hl 0 rfl) ?_
        refine k_get S hX.2 hX.1 0 (C := RX4) (T := TX4) (N := 20) rfl rfl 9 (by decide) inX4 m_584 rfl dX4_bookOf_9 ?_
        refine k_eq (y := nI ns) (hns) ?_
        refine lv_icmp_ge (tgt := 155) hx hb dX4_bookOf_12 (by decide) (fun c12_24 => ?_) (fun c12_24 => ?_)
        · have bc12_24 := le_nlt c12_24
          have hgei : i = ns := by
            have h9 := c12_24
            rw [nI_leI (by omega) (by omega)] at h9
            omega
          refine lv_iload hx hb dX4_bookOf_155 (lv_at hl 4 rfl) ?_
          refine lv_iconst (v := (-1)) hx hb dX4_bookOf_157 (by decide) ?_
          refine lv_icmp_ne (tgt := 165) hx hb dX4_bookOf_158 (by decide) (fun c158_25 => ?_) (fun c158_25 => ?_)
          · have bc158_25 := c158_25
            refine lv_aload_n hx hb dX4_bookOf_165 rfl (lv_at hl 0 rfl) ?_
            refine k_get S hX.2 hX.1 0 (C := RX4) (T := TX4) (N := 20) rfl rfl 11 (by decide) inX4 m_586 rfl dX4_bookOf_166 ?_
            refine lv_iload hx hb dX4_bookOf_169 (lv_at hl 4 rfl) ?_
            refine k_ild S hX.2 hX.1 9 (i := b) rfl (by omega) (by decide) dX4_bookOf_171 ?_
            refine lv_istore (lv' := [(5, .int (σ 8 b)), (0, .ref (ad 0)), (1, .int pl), (2, .int (nI ar)), (3, .int mi), (4, .int (nI b))]) hx hb dX4_bookOf_172 hl (by decide) rfl (fun ls hl => ?_)
            refine lv_iload hx hb dX4_bookOf_174 (lv_at hl 5 rfl) ?_
            refine lv_iconst (v := (-1)) hx hb dX4_bookOf_176 (by decide) ?_
            refine lv_icmp_ne (tgt := 184) hx hb dX4_bookOf_177 (by decide) (fun c177_26 => ?_) (fun c177_26 => ?_)
            · have bc177_26 := c177_26
              refine lv_aload_n hx hb dX4_bookOf_184 rfl (lv_at hl 1 rfl) ?_
              refine lv_iload hx hb dX4_bookOf_185 (lv_at hl 5 rfl) ?_
              refine lv_iload_n hx hb dX4_bookOf_187 rfl (lv_at hl 3 rfl) ?_
              refine q_i (r_S S ⟨m_686, m_687, m_40, m_688⟩ ⟨rfl, by decide, by decide, by decide +kernel⟩ (c4_at l b ar) ⟨rfl, rfl, Nat.le_of_ble_eq_true rfl, Nat.le_of_ble_eq_true rfl⟩ (ps bl_GL (bG hX.2.2)) (n := 2) (As := [.int (nI b), .int (nI ar)]) (rest := [.ref (ad 0)]) rfl hl.1 rfl (Nat.le_of_ble_eq_true rfl) ⟨Nat.le_of_ble_eq_true rfl, Nat.le_of_ble_eq_true rfl⟩ dX4_bookOf_188) (fun r27 (e27 : r27 = nI (b * 5 + ar)) => ?_)
              subst e27
              refine q_i (r_V S ⟨m_693, m_695, m_26, m_40, m_696⟩ ⟨rfl, by decide, by decide, by decide +kernel⟩ (c4_agree l G ad σ (b * 5 + ar) (by omega)) ⟨rfl, rfl, Nat.le_of_ble_eq_true rfl, Nat.le_of_ble_eq_true rfl⟩ (pv_M hX bl_PM (bM hX)) (n := 1) (As := [.int (nI (b * 5 + ar))]) (rest := []) rfl hl.1 rfl (Nat.le_of_ble_eq_true rfl) ⟨Nat.le_of_ble_eq_true rfl, Nat.le_of_ble_eq_true rfl⟩ dX4_bookOf_191) (fun r28 (e28 : r28 = agM σ (b * 5 + ar)) => ?_)
              subst e28
              refine lv_istore (lv' := [(6, .int (agM σ (b * 5 + ar))), (5, .int (σ 8 b)), (0, .ref (ad 0)), (1, .int pl), (2, .int (nI ar)), (3, .int mi), (4, .int (nI b))]) hx hb dX4_bookOf_194 hl (by decide) rfl (fun ls hl => ?_)
              refine lv_iconst (v := 0) hx hb dX4_bookOf_196 (by decide) ?_
              refine lv_istore (lv' := [(7, .int 0), (6, .int (agM σ (b * 5 + ar))), (5, .int (σ 8 b)), (0, .ref (ad 0)), (1, .int pl), (2, .int (nI ar)), (3, .int mi), (4, .int (nI b))]) hx hb dX4_bookOf_197 hl (by decide) rfl (fun ls hl => ?_)
              exact L199 (σ 8 b) (agM σ (b * 5 + ar)) (by simp [boM, ← hgei, ← ho]) (nm + 1) 0 (Nat.zero_le _) (by omega) ls (lv_sub hl [3, 4, 5, 6, 2, 1, 0] rfl)
            · exact absurd c177_26 c158_25
          · have bc158_25 := c158_25
            exact absurd c158_25 (nI_m1 (by omega))
        · have bc12_24 := nle_lt c12_24
          have hlti : i < ns := by
            have h9 := nle_lt c12_24
            rw [nI_ltI (by omega) (by omega)] at h9
            exact h9
          have J56 : ∀ ls, lv_has ls 9 [(0, .ref (ad 0)), (1, .int pl), (2, .int (nI ar)), (3, .int mi), (4, .int (nI b)), (5, .int (nI i))] → W p l e ({ frames := 2, cells := 0, slots := 0, locals := 66 } : Room) s m [.ref (ad 0), .int pl, .int (nI ar), .int mi].toArray below meth c s.heap [] 0 0 (MQ below (vp_Si (fun r => r = boM σ nm ns pl ar mi)) [.ref (ad 0), .int pl, .int (nI ar), .int mi].toArray s 0 0 NF) (F0 m 56 ls [.int (bI (isM σ pl ar mi i))]) := by
            intro ls hl
            refine lv_istore (lv' := [(6, .int (bI (isM σ pl ar mi i))), (0, .ref (ad 0)), (1, .int pl), (2, .int (nI ar)), (3, .int mi), (4, .int (nI b)), (5, .int (nI i))]) hx hb dX4_bookOf_56 hl (by decide) rfl (fun ls hl => ?_)
            have J128 : ∀ ls, lv_has ls 9 [(6, .int (bI (isM σ pl ar mi i))), (0, .ref (ad 0)), (1, .int pl), (2, .int (nI ar)), (3, .int mi), (4, .int (nI b)), (5, .int (nI i))] → W p l e ({ frames := 2, cells := 0, slots := 0, locals := 66 } : Room) s m [.ref (ad 0), .int pl, .int (nI ar), .int mi].toArray below meth c s.heap [] 0 0 (MQ below (vp_Si (fun r => r = boM σ nm ns pl ar mi)) [.ref (ad 0), .int pl, .int (nI ar), .int mi].toArray s 0 0 NF) (F0 m 128 ls [.int (bI (ltM σ ar i b))]) := by
              intro ls hl
              refine lv_istore (lv' := [(7, .int (bI (ltM σ ar i b))), (6, .int (bI (isM σ pl ar mi i))), (0, .ref (ad 0)), (1, .int pl), (2, .int (nI ar)), (3, .int mi), (4, .int (nI b)), (5, .int (nI i))]) hx hb dX4_bookOf_128 hl (by decide) rfl (fun ls hl => ?_)
              refine lv_iload hx hb dX4_bookOf_130 (lv_at hl 1 rfl) ?_
              refine lv_if_eq (tgt := 145) hx hb dX4_bookOf_132 (by decide) (fun c132_29 => ?_) (fun c132_29 => ?_)
              · have bc132_29 := bI_0 c132_29
                refine lv_iload hx hb dX4_bookOf_145 (lv_at hl 6 rfl) ?_
                refine lv_istore (lv' := [(4, .int (nI b)), (7, .int (bI (ltM σ ar i b))), (6, .int (bI (isM σ pl ar mi i))), (0, .ref (ad 0)), (1, .int pl), (2, .int (nI ar)), (3, .int mi), (5, .int (nI i))]) hx hb dX4_bookOf_147 hl (by decide) rfl (fun ls hl => ?_)
                refine lv_iinc (v := nI (i + 1)) (lv' := [(5, .int (nI (i + 1))), (4, .int (nI b)), (7, .int (bI (ltM σ ar i b))), (6, .int (bI (isM σ pl ar mi i))), (0, .ref (ad 0)), (1, .int pl), (2, .int (nI ar)), (3, .int mi)]) hx hb dX4_bookOf_149 hl (k := 7) rfl (nI_1 i) (by decide) rfl (fun ls hl => ?_)
                refine lv_goto (tgt := 6) hx hb dX4_bookOf_152 (by decide) ?_
                have ev30 : nI b = oI (fdM σ pl ar mi (i + 1)) := by simp [fdM, fdT, ← ho, oI, c12_24, bc12_24, bc132_29]
                have hl : lv_has ls 9 [(5, .int (nI (i + 1))), (4, .int (oI (fdM σ pl ar mi (i + 1)))), (7, .int (bI (ltM σ ar i b))), (6, .int (bI (isM σ pl ar mi i))), (0, .ref (ad 0)), (1, .int pl), (2, .int (nI ar)), (3, .int mi)] := by rw [← ev30]; exact hl
                exact ihn (i + 1) hlti (by omega) ls (lv_sub hl [4, 5, 6, 7, 1, 0] rfl)
              · have bc132_29 := bI_n c132_29
                refine lv_iload hx hb dX4_bookOf_135 (lv_at hl 0 rfl) ?_
                refine lv_if_eq (tgt := 145) hx hb dX4_bookOf_137 (by decide) (fun c137_31 => ?_) (fun c137_31 => ?_)
                · have bc137_31 := bI_0 c137_31
                  refine lv_iload hx hb dX4_bookOf_145 (lv_at hl 6 rfl) ?_
                  refine lv_istore (lv' := [(4, .int (nI b)), (7, .int (bI (ltM σ ar i b))), (6, .int (bI (isM σ pl ar mi i))), (0, .ref (ad 0)), (1, .int pl), (2, .int (nI ar)), (3, .int mi), (5, .int (nI i))]) hx hb dX4_bookOf_147 hl (by decide) rfl (fun ls hl => ?_)
                  refine lv_iinc (v := nI (i + 1)) (lv' := [(5, .int (nI (i + 1))), (4, .int (nI b)), (7, .int (bI (ltM σ ar i b))), (6, .int (bI (isM σ pl ar mi i))), (0, .ref (ad 0)), (1, .int pl), (2, .int (nI ar)), (3, .int mi)]) hx hb dX4_bookOf_149 hl (k := 7) rfl (nI_1 i) (by decide) rfl (fun ls hl => ?_)
                  refine lv_goto (tgt := 6) hx hb dX4_bookOf_152 (by decide) ?_
                  have ev32 : nI b = oI (fdM σ pl ar mi (i + 1)) := by simp [fdM, fdT, ← ho, oI, c12_24, bc12_24, bc132_29, bc137_31]
                  have hl : lv_has ls 9 [(5, .int (nI (i + 1))), (4, .int (oI (fdM σ pl ar mi (i + 1)))), (7, .int (bI (ltM σ ar i b))), (6, .int (bI (isM σ pl ar mi i))), (0, .ref (ad 0)), (1, .int pl), (2, .int (nI ar)), (3, .int mi)] := by rw [← ev32]; exact hl
                  exact ihn (i + 1) hlti (by omega) ls (lv_sub hl [4, 5, 6, 7, 1, 0] rfl)
                · have bc137_31 := bI_n c137_31
                  refine lv_iload hx hb dX4_bookOf_140 (lv_at hl 7 rfl) ?_
                  refine lv_goto (tgt := 147) hx hb dX4_bookOf_142 (by decide) ?_
                  refine lv_istore (lv' := [(4, .int (nI i)), (7, .int (bI (ltM σ ar i b))), (6, .int (bI (isM σ pl ar mi i))), (0, .ref (ad 0)), (1, .int pl), (2, .int (nI ar)), (3, .int mi), (5, .int (nI i))]) hx hb dX4_bookOf_147 hl (by decide) rfl (fun ls hl => ?_)
                  refine lv_iinc (v := nI (i + 1)) (lv' := [(5, .int (nI (i + 1))), (4, .int (nI i)), (7, .int (bI (ltM σ ar i b))), (6, .int (bI (isM σ pl ar mi i))), (0, .ref (ad 0)), (1, .int pl), (2, .int (nI ar)), (3, .int mi)]) hx hb dX4_bookOf_149 hl (k := 7) rfl (nI_1 i) (by decide) rfl (fun ls hl => ?_)
                  refine lv_goto (tgt := 6) hx hb dX4_bookOf_152 (by decide) ?_
                  have ev33 : nI i = oI (fdM σ pl ar mi (i + 1)) := by simp [fdM, fdT, ← ho, oI, c12_24, bc12_24, bc132_29, bc137_31]
                  have hl : lv_has ls 9 [(5, .int (nI (i + 1))), (4, .int (oI (fdM σ pl ar mi (i + 1)))), (7, .int (bI (ltM σ ar i b))), (6, .int (bI (isM σ pl ar mi i))), (0, .ref (ad 0)), (1, .int pl), (2, .int (nI ar)), (3, .int mi)] := by rw [← ev33]; exact hl
                  exact ihn (i + 1) hlti (by omega) ls (lv_sub hl [4, 5, 6, 7, 1, 0] rfl)
            refine lv_iload hx hb dX4_bookOf_58 (lv_at hl 5 rfl) ?_
            refine lv_iconst (v := (-1)) hx hb dX4_bookOf_60 (by decide) ?_
            refine lv_icmp_eq (tgt := 123) hx hb dX4_bookOf_61 (by decide) (fun c61_34 => ?_) (fun c61_34 => ?_)
            · have bc61_34 := c61_34
              exact absurd c61_34 (nI_m1 (by omega))
            · have bc61_34 := c61_34
              refine lv_aload_n hx hb dX4_bookOf_64 rfl (lv_at hl 1 rfl) ?_
              refine k_get S hX.2 hX.1 0 (C := RX4) (T := TX4) (N := 20) rfl rfl 11 (by decide) inX4 m_586 rfl dX4_bookOf_65 ?_
              refine lv_iload hx hb dX4_bookOf_68 (lv_at hl 6 rfl) ?_
              refine k_ild S hX.2 hX.1 9 (i := i) rfl (by omega) (by decide) dX4_bookOf_70 ?_
              refine lv_aload_n hx hb dX4_bookOf_71 rfl (lv_at hl 1 rfl) ?_
              refine k_get S hX.2 hX.1 0 (C := RX4) (T := TX4) (N := 20) rfl rfl 11 (by decide) inX4 m_586 rfl dX4_bookOf_72 ?_
              refine lv_iload hx hb dX4_bookOf_75 (lv_at hl 5 rfl) ?_
              refine k_ild S hX.2 hX.1 9 (i := b) rfl (by omega) (by decide) dX4_bookOf_77 ?_
              refine lv_icmp_gt (tgt := 123) hx hb dX4_bookOf_78 (by decide) (fun c78_35 => ?_) (fun c78_35 => ?_)
              · have bc78_35 := lt_nle c78_35
                refine lv_iconst (v := 1) hx hb dX4_bookOf_123 (by decide) ?_
                refine lv_goto (tgt := 128) hx hb dX4_bookOf_124 (by decide) ?_
                refine k_eq (y := bI (ltM σ ar i b)) (by simp [bI, c12_24, bc12_24, c61_34, c78_35, bc78_35, ltM]) ?_
                exact J128 ls (lv_sub hl [0, 1, 2, 3, 4, 5, 6] rfl)
              · have bc78_35 := nlt_le c78_35
                refine lv_aload_n hx hb dX4_bookOf_81 rfl (lv_at hl 1 rfl) ?_
                refine k_get S hX.2 hX.1 0 (C := RX4) (T := TX4) (N := 20) rfl rfl 11 (by decide) inX4 m_586 rfl dX4_bookOf_82 ?_
                refine lv_iload hx hb dX4_bookOf_85 (lv_at hl 6 rfl) ?_
                refine k_ild S hX.2 hX.1 9 (i := i) rfl (by omega) (by decide) dX4_bookOf_87 ?_
                refine lv_aload_n hx hb dX4_bookOf_88 rfl (lv_at hl 1 rfl) ?_
                refine k_get S hX.2 hX.1 0 (C := RX4) (T := TX4) (N := 20) rfl rfl 11 (by decide) inX4 m_586 rfl dX4_bookOf_89 ?_
                refine lv_iload hx hb dX4_bookOf_92 (lv_at hl 5 rfl) ?_
                refine k_ild S hX.2 hX.1 9 (i := b) rfl (by omega) (by decide) dX4_bookOf_94 ?_
                refine lv_icmp_ne (tgt := 127) hx hb dX4_bookOf_95 (by decide) (fun c95_36 => ?_) (fun c95_36 => ?_)
                · have bc95_36 := c95_36
                  refine lv_iconst (v := 0) hx hb dX4_bookOf_127 (by decide) ?_
                  refine k_eq (y := bI (ltM σ ar i b)) (by simp [bI, c12_24, bc12_24, c61_34, c78_35, bc78_35, c95_36, ltM]) ?_
                  exact J128 ls (lv_sub hl [0, 1, 2, 3, 4, 5, 6] rfl)
                · have bc95_36 := c95_36
                  refine lv_aload_n hx hb dX4_bookOf_98 rfl (lv_at hl 1 rfl) ?_
                  refine k_get S hX.2 hX.1 0 (C := RX4) (T := TX4) (N := 20) rfl rfl 14 (by decide) inX4 m_589 rfl dX4_bookOf_99 ?_
                  refine lv_iload hx hb dX4_bookOf_102 (lv_at hl 6 rfl) ?_
                  refine lv_iload_n hx hb dX4_bookOf_104 rfl (lv_at hl 3 rfl) ?_
                  refine q_i (r_S S ⟨m_686, m_687, m_40, m_688⟩ ⟨rfl, by decide, by decide, by decide +kernel⟩ (c4_at l i ar) ⟨rfl, rfl, Nat.le_of_ble_eq_true rfl, Nat.le_of_ble_eq_true rfl⟩ (ps bl_GL (bG hX.2.2)) (n := 2) (As := [.int (nI i), .int (nI ar)]) (rest := [.ref (ad 12)]) rfl hl.1 rfl (Nat.le_of_ble_eq_true rfl) ⟨Nat.le_of_ble_eq_true rfl, Nat.le_of_ble_eq_true rfl⟩ dX4_bookOf_105) (fun r37 (e37 : r37 = nI (i * 5 + ar)) => ?_)
                  subst e37
                  refine k_ild S hX.2 hX.1 12 (i := (i * 5 + ar)) rfl (by omega) (by decide) dX4_bookOf_108 ?_
                  refine lv_aload_n hx hb dX4_bookOf_109 rfl (lv_at hl 1 rfl) ?_
                  refine k_get S hX.2 hX.1 0 (C := RX4) (T := TX4) (N := 20) rfl rfl 14 (by decide) inX4 m_589 rfl dX4_bookOf_110 ?_
                  refine lv_iload hx hb dX4_bookOf_113 (lv_at hl 5 rfl) ?_
                  refine lv_iload_n hx hb dX4_bookOf_115 rfl (lv_at hl 3 rfl) ?_
                  refine q_i (r_S S ⟨m_686, m_687, m_40, m_688⟩ ⟨rfl, by decide, by decide, by decide +kernel⟩ (c4_at l b ar) ⟨rfl, rfl, Nat.le_of_ble_eq_true rfl, Nat.le_of_ble_eq_true rfl⟩ (ps bl_GL (bG hX.2.2)) (n := 2) (As := [.int (nI b), .int (nI ar)]) (rest := [.ref (ad 12), .int (σ 14 (i * 5 + ar))]) rfl hl.1 rfl (Nat.le_of_ble_eq_true rfl) ⟨Nat.le_of_ble_eq_true rfl, Nat.le_of_ble_eq_true rfl⟩ dX4_bookOf_116) (fun r38 (e38 : r38 = nI (b * 5 + ar)) => ?_)
                  subst e38
                  refine k_ild S hX.2 hX.1 12 (i := (b * 5 + ar)) rfl (by omega) (by decide) dX4_bookOf_119 ?_
                  refine lv_icmp_le (tgt := 127) hx hb dX4_bookOf_120 (by decide) (fun c120_39 => ?_) (fun c120_39 => ?_)
                  · have bc120_39 := le_nlt c120_39
                    refine lv_iconst (v := 0) hx hb dX4_bookOf_127 (by decide) ?_
                    refine k_eq (y := bI (ltM σ ar i b)) (by simp [bI, c12_24, bc12_24, c61_34, c78_35, bc78_35, c95_36, c120_39, bc120_39, ltM]) ?_
                    exact J128 ls (lv_sub hl [0, 1, 2, 3, 4, 5, 6] rfl)
                  · have bc120_39 := nle_lt c120_39
                    refine lv_iconst (v := 1) hx hb dX4_bookOf_123 (by decide) ?_
                    refine lv_goto (tgt := 128) hx hb dX4_bookOf_124 (by decide) ?_
                    refine k_eq (y := bI (ltM σ ar i b)) (by simp [bI, c12_24, bc12_24, c61_34, c78_35, bc78_35, c95_36, c120_39, bc120_39, ltM]) ?_
                    exact J128 ls (lv_sub hl [0, 1, 2, 3, 4, 5, 6] rfl)
          refine lv_aload_n hx hb dX4_bookOf_15 rfl (lv_at hl 0 rfl) ?_
          refine k_get S hX.2 hX.1 0 (C := RX4) (T := TX4) (N := 20) rfl rfl 10 (by decide) inX4 m_585 rfl dX4_bookOf_16 ?_
          refine lv_iload hx hb dX4_bookOf_19 (lv_at hl 5 rfl) ?_
          refine k_ild S hX.2 hX.1 8 (i := i) rfl (by omega) (by decide) dX4_bookOf_21 ?_
          refine lv_iload_n hx hb dX4_bookOf_22 rfl (lv_at hl 1 rfl) ?_
          refine lv_icmp_ne (tgt := 55) hx hb dX4_bookOf_23 (by decide) (fun c23_40 => ?_) (fun c23_40 => ?_)
          · have bc23_40 := c23_40
            refine lv_iconst (v := 0) hx hb dX4_bookOf_55 (by decide) ?_
            refine k_eq (y := bI (isM σ pl ar mi i)) (by simp [bI, c12_24, bc12_24, c23_40, isM]) ?_
            exact J56 ls (lv_sub hl [0, 1, 2, 3, 4, 5] rfl)
          · have bc23_40 := c23_40
            refine lv_aload_n hx hb dX4_bookOf_26 rfl (lv_at hl 0 rfl) ?_
            refine k_get S hX.2 hX.1 0 (C := RX4) (T := TX4) (N := 20) rfl rfl 14 (by decide) inX4 m_589 rfl dX4_bookOf_27 ?_
            refine lv_iload hx hb dX4_bookOf_30 (lv_at hl 5 rfl) ?_
            refine lv_iload_n hx hb dX4_bookOf_32 rfl (lv_at hl 2 rfl) ?_
            refine q_i (r_S S ⟨m_686, m_687, m_40, m_688⟩ ⟨rfl, by decide, by decide, by decide +kernel⟩ (c4_at l i ar) ⟨rfl, rfl, Nat.le_of_ble_eq_true rfl, Nat.le_of_ble_eq_true rfl⟩ (ps bl_GL (bG hX.2.2)) (n := 2) (As := [.int (nI i), .int (nI ar)]) (rest := [.ref (ad 12)]) rfl hl.1 rfl (Nat.le_of_ble_eq_true rfl) ⟨Nat.le_of_ble_eq_true rfl, Nat.le_of_ble_eq_true rfl⟩ dX4_bookOf_33) (fun r41 (e41 : r41 = nI (i * 5 + ar)) => ?_)
            subst e41
            refine k_ild S hX.2 hX.1 12 (i := (i * 5 + ar)) rfl (by omega) (by decide) dX4_bookOf_36 ?_
            refine lv_if_le (tgt := 55) hx hb dX4_bookOf_37 (by decide) (fun c37_42 => ?_) (fun c37_42 => ?_)
            · have bc37_42 := le_nlt c37_42
              refine lv_iconst (v := 0) hx hb dX4_bookOf_55 (by decide) ?_
              refine k_eq (y := bI (isM σ pl ar mi i)) (by simp [bI, c12_24, bc12_24, c23_40, c37_42, bc37_42, isM]) ?_
              exact J56 ls (lv_sub hl [0, 1, 2, 3, 4, 5] rfl)
            · have bc37_42 := nle_lt c37_42
              refine lv_aload_n hx hb dX4_bookOf_40 rfl (lv_at hl 0 rfl) ?_
              refine k_get S hX.2 hX.1 0 (C := RX4) (T := TX4) (N := 20) rfl rfl 11 (by decide) inX4 m_586 rfl dX4_bookOf_41 ?_
              refine lv_iload hx hb dX4_bookOf_44 (lv_at hl 5 rfl) ?_
              refine k_ild S hX.2 hX.1 9 (i := i) rfl (by omega) (by decide) dX4_bookOf_46 ?_
              refine lv_iload_n hx hb dX4_bookOf_47 rfl (lv_at hl 3 rfl) ?_
              refine lv_icmp_gt (tgt := 55) hx hb dX4_bookOf_48 (by decide) (fun c48_43 => ?_) (fun c48_43 => ?_)
              · have bc48_43 := lt_nle c48_43
                refine lv_iconst (v := 0) hx hb dX4_bookOf_55 (by decide) ?_
                refine k_eq (y := bI (isM σ pl ar mi i)) (by simp [bI, c12_24, bc12_24, c23_40, c37_42, bc37_42, c48_43, bc48_43, isM]) ?_
                exact J56 ls (lv_sub hl [0, 1, 2, 3, 4, 5] rfl)
              · have bc48_43 := nlt_le c48_43
                refine lv_iconst (v := 1) hx hb dX4_bookOf_51 (by decide) ?_
                refine lv_goto (tgt := 56) hx hb dX4_bookOf_52 (by decide) ?_
                refine k_eq (y := bI (isM σ pl ar mi i)) (by simp [bI, c12_24, bc12_24, c23_40, c37_42, bc37_42, c48_43, bc48_43, isM]) ?_
                exact J56 ls (lv_sub hl [0, 1, 2, 3, 4, 5] rfl)
  refine lv_iconst (v := (-1)) hx hb dX4_bookOf_0 (by decide) ?_
  refine lv_istore (lv' := [(4, .int (-1)), (0, .ref (ad 0)), (1, .int pl), (2, .int (nI ar)), (3, .int mi)]) hx hb dX4_bookOf_1 hl (by decide) rfl (fun ls hl => ?_)
  refine lv_iconst (v := 0) hx hb dX4_bookOf_3 (by decide) ?_
  refine lv_istore (lv' := [(5, .int 0), (4, .int (-1)), (0, .ref (ad 0)), (1, .int pl), (2, .int (nI ar)), (3, .int mi)]) hx hb dX4_bookOf_4 hl (by decide) rfl (fun ls hl => ?_)
  exact L6 (ns + 1) 0 (Nat.zero_le _) (by omega) ls (lv_sub hl [2, 3, 4, 5, 1, 0] rfl)

set_option maxHeartbeats 4000000 in
set_option maxRecDepth 100000 in
theorem c4_agrees (l : Launch) (G : kG) (ad : Nat → Nat) (σ : kS) (sh ar : Nat) (hsh : sh < 40) (har : ar < 5) : Met l yX4_agrees [.code yX4_agrees cX4_agrees 3 (some .boolean)] ({ frames := 2, cells := 0, slots := 0, locals := 66 }) (va_Pc [.ref (ad 0), .int (nI sh), .int (nI ar)] (fun U => PM G ad σ U U.heap)) (vp_Si (fun r => r = bI (grM σ (sh * 5 + ar)))) 0 0 NF := by
  refine k_of (by decide) (Nat.le_of_ble_eq_true rfl) (fun U h => h.2.2) ?_
  intro p e s m below meth c ls S hr hlocks hmn hB hl
  have hx := S.1
  have hb := S.2.1
  have hX : PM G ad σ s s.heap := hB
  have hl : lv_has ls 3 [(0, .ref (ad 0)), (1, .int (nI sh)), (2, .int (nI ar))] := hl
  refine lv_aload_n hx hb dX4_agrees_0 rfl (lv_at hl 0 rfl) ?_
  refine lv_iload_n hx hb dX4_agrees_1 rfl (lv_at hl 1 rfl) ?_
  refine lv_iload_n hx hb dX4_agrees_2 rfl (lv_at hl 2 rfl) ?_
  refine q_i (r_S S ⟨m_686, m_687, m_40, m_688⟩ ⟨rfl, by decide, by decide, by decide +kernel⟩ (c4_at l sh ar) ⟨rfl, rfl, Nat.le_of_ble_eq_true rfl, Nat.le_of_ble_eq_true rfl⟩ (ps bl_GL (bG hX.2.2)) (n := 2) (As := [.int (nI sh), .int (nI ar)]) (rest := [.ref (ad 0)]) rfl hl.1 rfl (Nat.le_of_ble_eq_true rfl) ⟨Nat.le_of_ble_eq_true rfl, Nat.le_of_ble_eq_true rfl⟩ dX4_agrees_3) (fun r1 (e1 : r1 = nI (sh * 5 + ar)) => ?_)
  subst e1
  refine q_i (r_V S ⟨m_693, m_695, m_26, m_40, m_696⟩ ⟨rfl, by decide, by decide, by decide +kernel⟩ (c4_agree l G ad σ (sh * 5 + ar) (by omega)) ⟨rfl, rfl, Nat.le_of_ble_eq_true rfl, Nat.le_of_ble_eq_true rfl⟩ (pv_M hX bl_PM (bM hX)) (n := 1) (As := [.int (nI (sh * 5 + ar))]) (rest := []) rfl hl.1 rfl (Nat.le_of_ble_eq_true rfl) ⟨Nat.le_of_ble_eq_true rfl, Nat.le_of_ble_eq_true rfl⟩ dX4_agrees_6) (fun r2 (e2 : r2 = agM σ (sh * 5 + ar)) => ?_)
  subst e2
  refine lv_iconst (v := (-1)) hx hb dX4_agrees_9 (by decide) ?_
  refine lv_icmp_eq (tgt := 17) hx hb dX4_agrees_10 (by decide) (fun c10_3 => ?_) (fun c10_3 => ?_)
  · have bc10_3 := c10_3
    refine lv_iconst (v := 0) hx hb dX4_agrees_17 (by decide) ?_
    exact W.zret (v := 0) (ty := .boolean) hx hb hr (by first | rfl | exact bI_nar _) (fun t ht hW => ⟨_, rfl, (by simp [grM, bI, c10_3]), ht⟩) (fun q h => by cases h) dX4_agrees_18
  · have bc10_3 := c10_3
    refine lv_iconst (v := 1) hx hb dX4_agrees_13 (by decide) ?_
    refine lv_goto (tgt := 18) hx hb dX4_agrees_14 (by decide) ?_
    exact W.zret (v := 1) (ty := .boolean) hx hb hr (by first | rfl | exact bI_nar _) (fun t ht hW => ⟨_, rfl, (by simp [grM, bI, c10_3]), ht⟩) (fun q h => by cases h) dX4_agrees_18

set_option maxHeartbeats 4000000 in
set_option maxRecDepth 100000 in
theorem c4_gapOf (l : Launch) (G : kG) (ad : Nat → Nat) (σ : kS) (nm ns : Nat) (sh ar : Nat) (hns : σ 18 0 = nI ns) (hns4 : ns ≤ 40) (hnm : σ 17 0 = nI nm) (hnm2 : nm ≤ 200) (hsh : sh < ns) (har : ar < 5) : Met l yX4_gapOf [.code yX4_gapOf cX4_gapOf 4 (some .int)] ({ frames := 3, cells := 0, slots := 0, locals := 94 }) (va_Pc [.ref (ad 0), .int (nI sh), .int (nI ar)] (fun U => PM G ad σ U U.heap)) (vp_Si (fun r => r = gpM σ nm ns sh ar)) 0 0 NF := by
  refine k_of (by decide) (Nat.le_of_ble_eq_true rfl) (fun U h => h.2.2) ?_
  intro p e s m below meth c ls S hr hlocks hmn hB hl
  have hx := S.1
  have hb := S.2.1
  have hX : PM G ad σ s s.heap := hB
  have hl : lv_has ls 4 [(0, .ref (ad 0)), (1, .int (nI sh)), (2, .int (nI ar))] := hl
  refine lv_iload_n hx hb dX4_gapOf_0 rfl (lv_at hl 1 rfl) ?_
  refine lv_iload_n hx hb dX4_gapOf_1 rfl (lv_at hl 2 rfl) ?_
  refine q_i (r_S S ⟨m_686, m_687, m_40, m_688⟩ ⟨rfl, by decide, by decide, by decide +kernel⟩ (c4_at l sh ar) ⟨rfl, rfl, Nat.le_of_ble_eq_true rfl, Nat.le_of_ble_eq_true rfl⟩ (ps bl_GL (bG hX.2.2)) (n := 2) (As := [.int (nI sh), .int (nI ar)]) (rest := []) rfl hl.1 rfl (Nat.le_of_ble_eq_true rfl) ⟨Nat.le_of_ble_eq_true rfl, Nat.le_of_ble_eq_true rfl⟩ dX4_gapOf_2) (fun r1 (e1 : r1 = nI (sh * 5 + ar)) => ?_)
  subst e1
  refine lv_istore_n (lv' := [(3, .int (nI (sh * 5 + ar))), (0, .ref (ad 0)), (1, .int (nI sh)), (2, .int (nI ar))]) hx hb dX4_gapOf_5 rfl hl (by decide) rfl (fun ls hl => ?_)
  refine lv_aload_n hx hb dX4_gapOf_6 rfl (lv_at hl 1 rfl) ?_
  refine k_get S hX.2 hX.1 0 (C := RX4) (T := TX4) (N := 20) rfl rfl 14 (by decide) inX4 m_589 rfl dX4_gapOf_7 ?_
  refine lv_iload_n hx hb dX4_gapOf_10 rfl (lv_at hl 0 rfl) ?_
  refine k_ild S hX.2 hX.1 12 (i := (sh * 5 + ar)) rfl (by omega) (by decide) dX4_gapOf_11 ?_
  refine lv_if_le (tgt := 24) hx hb dX4_gapOf_12 (by decide) (fun c12_2 => ?_) (fun c12_2 => ?_)
  · have bc12_2 := le_nlt c12_2
    refine lv_aload_n hx hb dX4_gapOf_24 rfl (lv_at hl 1 rfl) ?_
    refine lv_iload_n hx hb dX4_gapOf_25 rfl (lv_at hl 0 rfl) ?_
    refine q_i (r_V S ⟨m_693, m_695, m_26, m_40, m_696⟩ ⟨rfl, by decide, by decide, by decide +kernel⟩ (c4_agree l G ad σ (sh * 5 + ar) (by omega)) ⟨rfl, rfl, Nat.le_of_ble_eq_true rfl, Nat.le_of_ble_eq_true rfl⟩ (pv_M hX bl_PM (bM hX)) (n := 1) (As := [.int (nI (sh * 5 + ar))]) (rest := []) rfl hl.1 rfl (Nat.le_of_ble_eq_true rfl) ⟨Nat.le_of_ble_eq_true rfl, Nat.le_of_ble_eq_true rfl⟩ dX4_gapOf_26) (fun r3 (e3 : r3 = agM σ (sh * 5 + ar)) => ?_)
    subst e3
    refine lv_aload_n hx hb dX4_gapOf_29 rfl (lv_at hl 1 rfl) ?_
    refine lv_aload_n hx hb dX4_gapOf_30 rfl (lv_at hl 1 rfl) ?_
    refine k_get S hX.2 hX.1 0 (C := RX4) (T := TX4) (N := 20) rfl rfl 10 (by decide) inX4 m_585 rfl dX4_gapOf_31 ?_
    refine lv_iload_n hx hb dX4_gapOf_34 rfl (lv_at hl 2 rfl) ?_
    refine k_ild S hX.2 hX.1 8 (i := sh) rfl (by omega) (by decide) dX4_gapOf_35 ?_
    refine lv_iload_n hx hb dX4_gapOf_36 rfl (lv_at hl 3 rfl) ?_
    refine lv_aload_n hx hb dX4_gapOf_37 rfl (lv_at hl 1 rfl) ?_
    refine k_get S hX.2 hX.1 0 (C := RX4) (T := TX4) (N := 20) rfl rfl 11 (by decide) inX4 m_586 rfl dX4_gapOf_38 ?_
    refine lv_iload_n hx hb dX4_gapOf_41 rfl (lv_at hl 2 rfl) ?_
    refine k_ild S hX.2 hX.1 9 (i := sh) rfl (by omega) (by decide) dX4_gapOf_42 ?_
    refine q_i (r_V S ⟨m_714, m_716, m_29, m_40, m_717⟩ ⟨rfl, by decide, by decide, by decide +kernel⟩ (c4_bookOf l G ad σ nm ns (σ 7 sh) ar (σ 8 sh) hns hns4 hnm hnm2 (by omega)) ⟨rfl, rfl, Nat.le_of_ble_eq_true rfl, Nat.le_of_ble_eq_true rfl⟩ (pv_M hX bl_PM (bM hX)) (n := 3) (As := [.int (σ 7 sh), .int (nI ar), .int (σ 8 sh)]) (rest := [.int (agM σ (sh * 5 + ar))]) rfl hl.1 rfl (Nat.le_of_ble_eq_true rfl) ⟨Nat.le_of_ble_eq_true rfl, Nat.le_of_ble_eq_true rfl⟩ dX4_gapOf_43) (fun r4 (e4 : r4 = boM σ nm ns (σ 7 sh) ar (σ 8 sh)) => ?_)
    subst e4
    refine lv_isub hx hb dX4_gapOf_46 ?_
    exact W.iret (v := (agM σ (sh * 5 + ar)) - (boM σ nm ns (σ 7 sh) ar (σ 8 sh))) hx hb hr (fun t ht hW => ⟨_, rfl, (by simp [gpM, c12_2, bc12_2]), ht⟩) (fun q h => by cases h) dX4_gapOf_47
  · have bc12_2 := nle_lt c12_2
    refine lv_aload_n hx hb dX4_gapOf_15 rfl (lv_at hl 1 rfl) ?_
    refine k_get S hX.2 hX.1 0 (C := RX4) (T := TX4) (N := 20) rfl rfl 15 (by decide) inX4 m_590 rfl dX4_gapOf_16 ?_
    refine lv_iload_n hx hb dX4_gapOf_19 rfl (lv_at hl 0 rfl) ?_
    refine k_ild S hX.2 hX.1 13 (i := (sh * 5 + ar)) rfl (by omega) (by decide) dX4_gapOf_20 ?_
    refine lv_goto (tgt := 47) hx hb dX4_gapOf_21 (by decide) ?_
    exact W.iret (v := σ 15 (sh * 5 + ar)) hx hb hr (fun t ht hW => ⟨_, rfl, (by simp [gpM, c12_2, bc12_2]), ht⟩) (fun q h => by cases h) dX4_gapOf_47

set_option maxHeartbeats 4000000 in
set_option maxRecDepth 100000 in
theorem c4_canSettle (l : Launch) (G : kG) (ad : Nat → Nat) (σ : kS) (nm ns : Nat) (sh ot ar : Nat) (hns : σ 18 0 = nI ns) (hns4 : ns ≤ 40) (hnm : σ 17 0 = nI nm) (hnm2 : nm ≤ 200) (hsh : sh < ns) (hot : ot < ns) (har : ar < 5) : Met l yX4_canSettle [.code yX4_canSettle cX4_canSettle 5 (some .boolean)] ({ frames := 4, cells := 0, slots := 0, locals := 117 }) (va_Pc [.ref (ad 0), .int (nI sh), .int (nI ot), .int (nI ar)] (fun U => PM G ad σ U U.heap)) (vp_Si (fun r => r = bI (ctM σ nm ns sh ot ar))) 0 0 NF := by
  refine k_of (by decide) (Nat.le_of_ble_eq_true rfl) (fun U h => h.2.2) ?_
  intro p e s m below meth c ls S hr hlocks hmn hB hl
  have hx := S.1
  have hb := S.2.1
  have hX : PM G ad σ s s.heap := hB
  have hl : lv_has ls 5 [(0, .ref (ad 0)), (1, .int (nI sh)), (2, .int (nI ot)), (3, .int (nI ar))] := hl
  refine lv_aload_n hx hb dX4_canSettle_0 rfl (lv_at hl 0 rfl) ?_
  refine k_get S hX.2 hX.1 0 (C := RX4) (T := TX4) (N := 20) rfl rfl 12 (by decide) inX4 m_587 rfl dX4_canSettle_1 ?_
  refine lv_iload_n hx hb dX4_canSettle_4 rfl (lv_at hl 1 rfl) ?_
  refine k_ild S hX.2 hX.1 10 (i := sh) rfl (by omega) (by decide) dX4_canSettle_5 ?_
  refine lv_iconst (v := 1) hx hb dX4_canSettle_6 (by decide) ?_
  refine lv_icmp_ne (tgt := 39) hx hb dX4_canSettle_7 (by decide) (fun c7_1 => ?_) (fun c7_1 => ?_)
  · have bc7_1 := c7_1
    refine lv_iconst (v := 0) hx hb dX4_canSettle_39 (by decide) ?_
    refine lv_istore (lv' := [(4, .int 0), (0, .ref (ad 0)), (1, .int (nI sh)), (2, .int (nI ot)), (3, .int (nI ar))]) hx hb dX4_canSettle_40 hl (by decide) rfl (fun ls hl => ?_)
    refine lv_iload hx hb dX4_canSettle_42 (lv_at hl 0 rfl) ?_
    refine lv_if_eq (tgt := 77) hx hb dX4_canSettle_44 (by decide) (fun c44_2 => ?_) (fun c44_2 => ?_)
    · have bc44_2 := c44_2
      refine lv_iconst (v := 0) hx hb dX4_canSettle_77 (by decide) ?_
      refine lv_istore (lv' := [(4, .int 0), (0, .ref (ad 0)), (1, .int (nI sh)), (2, .int (nI ot)), (3, .int (nI ar))]) hx hb dX4_canSettle_78 hl (by decide) rfl (fun ls hl => ?_)
      refine lv_iload hx hb dX4_canSettle_80 (lv_at hl 0 rfl) ?_
      refine lv_if_eq (tgt := 114) hx hb dX4_canSettle_82 (by decide) (fun c82_3 => ?_) (fun c82_3 => ?_)
      · have bc82_3 := c82_3
        refine lv_iconst (v := 0) hx hb dX4_canSettle_114 (by decide) ?_
        exact W.zret (v := 0) (ty := .boolean) hx hb hr (by first | rfl | exact bI_nar _) (fun t ht hW => ⟨_, rfl, (by simp [ctM, bI, c7_1]), ht⟩) (fun q h => by cases h) dX4_canSettle_115
      · exact absurd c82_3 (by decide)
    · exact absurd c44_2 (by decide)
  · have bc7_1 := c7_1
    refine lv_aload_n hx hb dX4_canSettle_10 rfl (lv_at hl 0 rfl) ?_
    refine k_get S hX.2 hX.1 0 (C := RX4) (T := TX4) (N := 20) rfl rfl 12 (by decide) inX4 m_587 rfl dX4_canSettle_11 ?_
    refine lv_iload_n hx hb dX4_canSettle_14 rfl (lv_at hl 2 rfl) ?_
    refine k_ild S hX.2 hX.1 10 (i := ot) rfl (by omega) (by decide) dX4_canSettle_15 ?_
    refine lv_iconst (v := 1) hx hb dX4_canSettle_16 (by decide) ?_
    refine lv_icmp_ne (tgt := 39) hx hb dX4_canSettle_17 (by decide) (fun c17_4 => ?_) (fun c17_4 => ?_)
    · have bc17_4 := c17_4
      refine lv_iconst (v := 0) hx hb dX4_canSettle_39 (by decide) ?_
      refine lv_istore (lv' := [(4, .int 0), (0, .ref (ad 0)), (1, .int (nI sh)), (2, .int (nI ot)), (3, .int (nI ar))]) hx hb dX4_canSettle_40 hl (by decide) rfl (fun ls hl => ?_)
      refine lv_iload hx hb dX4_canSettle_42 (lv_at hl 0 rfl) ?_
      refine lv_if_eq (tgt := 77) hx hb dX4_canSettle_44 (by decide) (fun c44_5 => ?_) (fun c44_5 => ?_)
      · have bc44_5 := c44_5
        refine lv_iconst (v := 0) hx hb dX4_canSettle_77 (by decide) ?_
        refine lv_istore (lv' := [(4, .int 0), (0, .ref (ad 0)), (1, .int (nI sh)), (2, .int (nI ot)), (3, .int (nI ar))]) hx hb dX4_canSettle_78 hl (by decide) rfl (fun ls hl => ?_)
        refine lv_iload hx hb dX4_canSettle_80 (lv_at hl 0 rfl) ?_
        refine lv_if_eq (tgt := 114) hx hb dX4_canSettle_82 (by decide) (fun c82_6 => ?_) (fun c82_6 => ?_)
        · have bc82_6 := c82_6
          refine lv_iconst (v := 0) hx hb dX4_canSettle_114 (by decide) ?_
          exact W.zret (v := 0) (ty := .boolean) hx hb hr (by first | rfl | exact bI_nar _) (fun t ht hW => ⟨_, rfl, (by simp [ctM, bI, c7_1, c17_4]), ht⟩) (fun q h => by cases h) dX4_canSettle_115
        · exact absurd c82_6 (by decide)
      · exact absurd c44_5 (by decide)
    · have bc17_4 := c17_4
      refine lv_aload_n hx hb dX4_canSettle_20 rfl (lv_at hl 0 rfl) ?_
      refine k_get S hX.2 hX.1 0 (C := RX4) (T := TX4) (N := 20) rfl rfl 10 (by decide) inX4 m_585 rfl dX4_canSettle_21 ?_
      refine lv_iload_n hx hb dX4_canSettle_24 rfl (lv_at hl 1 rfl) ?_
      refine k_ild S hX.2 hX.1 8 (i := sh) rfl (by omega) (by decide) dX4_canSettle_25 ?_
      refine lv_aload_n hx hb dX4_canSettle_26 rfl (lv_at hl 0 rfl) ?_
      refine k_get S hX.2 hX.1 0 (C := RX4) (T := TX4) (N := 20) rfl rfl 10 (by decide) inX4 m_585 rfl dX4_canSettle_27 ?_
      refine lv_iload_n hx hb dX4_canSettle_30 rfl (lv_at hl 2 rfl) ?_
      refine k_ild S hX.2 hX.1 8 (i := ot) rfl (by omega) (by decide) dX4_canSettle_31 ?_
      refine lv_icmp_eq (tgt := 39) hx hb dX4_canSettle_32 (by decide) (fun c32_7 => ?_) (fun c32_7 => ?_)
      · have bc32_7 := c32_7
        refine lv_iconst (v := 0) hx hb dX4_canSettle_39 (by decide) ?_
        refine lv_istore (lv' := [(4, .int 0), (0, .ref (ad 0)), (1, .int (nI sh)), (2, .int (nI ot)), (3, .int (nI ar))]) hx hb dX4_canSettle_40 hl (by decide) rfl (fun ls hl => ?_)
        refine lv_iload hx hb dX4_canSettle_42 (lv_at hl 0 rfl) ?_
        refine lv_if_eq (tgt := 77) hx hb dX4_canSettle_44 (by decide) (fun c44_8 => ?_) (fun c44_8 => ?_)
        · have bc44_8 := c44_8
          refine lv_iconst (v := 0) hx hb dX4_canSettle_77 (by decide) ?_
          refine lv_istore (lv' := [(4, .int 0), (0, .ref (ad 0)), (1, .int (nI sh)), (2, .int (nI ot)), (3, .int (nI ar))]) hx hb dX4_canSettle_78 hl (by decide) rfl (fun ls hl => ?_)
          refine lv_iload hx hb dX4_canSettle_80 (lv_at hl 0 rfl) ?_
          refine lv_if_eq (tgt := 114) hx hb dX4_canSettle_82 (by decide) (fun c82_9 => ?_) (fun c82_9 => ?_)
          · have bc82_9 := c82_9
            refine lv_iconst (v := 0) hx hb dX4_canSettle_114 (by decide) ?_
            exact W.zret (v := 0) (ty := .boolean) hx hb hr (by first | rfl | exact bI_nar _) (fun t ht hW => ⟨_, rfl, (by simp [ctM, bI, c7_1, c17_4, c32_7]), ht⟩) (fun q h => by cases h) dX4_canSettle_115
          · exact absurd c82_9 (by decide)
        · exact absurd c44_8 (by decide)
      · have bc32_7 := c32_7
        refine lv_iconst (v := 1) hx hb dX4_canSettle_35 (by decide) ?_
        refine lv_goto (tgt := 40) hx hb dX4_canSettle_36 (by decide) ?_
        refine lv_istore (lv' := [(4, .int 1), (0, .ref (ad 0)), (1, .int (nI sh)), (2, .int (nI ot)), (3, .int (nI ar))]) hx hb dX4_canSettle_40 hl (by decide) rfl (fun ls hl => ?_)
        refine lv_iload hx hb dX4_canSettle_42 (lv_at hl 0 rfl) ?_
        refine lv_if_eq (tgt := 77) hx hb dX4_canSettle_44 (by decide) (fun c44_10 => ?_) (fun c44_10 => ?_)
        · exact absurd c44_10 (by decide)
        · have bc44_10 := c44_10
          refine lv_aload_n hx hb dX4_canSettle_47 rfl (lv_at hl 1 rfl) ?_
          refine k_get S hX.2 hX.1 0 (C := RX4) (T := TX4) (N := 20) rfl rfl 14 (by decide) inX4 m_589 rfl dX4_canSettle_48 ?_
          refine lv_iload_n hx hb dX4_canSettle_51 rfl (lv_at hl 2 rfl) ?_
          refine lv_iload_n hx hb dX4_canSettle_52 rfl (lv_at hl 4 rfl) ?_
          refine q_i (r_S S ⟨m_686, m_687, m_40, m_688⟩ ⟨rfl, by decide, by decide, by decide +kernel⟩ (c4_at l sh ar) ⟨rfl, rfl, Nat.le_of_ble_eq_true rfl, Nat.le_of_ble_eq_true rfl⟩ (ps bl_GL (bG hX.2.2)) (n := 2) (As := [.int (nI sh), .int (nI ar)]) (rest := [.ref (ad 12)]) rfl hl.1 rfl (Nat.le_of_ble_eq_true rfl) ⟨Nat.le_of_ble_eq_true rfl, Nat.le_of_ble_eq_true rfl⟩ dX4_canSettle_53) (fun r11 (e11 : r11 = nI (sh * 5 + ar)) => ?_)
          subst e11
          refine k_ild S hX.2 hX.1 12 (i := (sh * 5 + ar)) rfl (by omega) (by decide) dX4_canSettle_56 ?_
          refine lv_if_ne (tgt := 77) hx hb dX4_canSettle_57 (by decide) (fun c57_12 => ?_) (fun c57_12 => ?_)
          · have bc57_12 := c57_12
            refine lv_iconst (v := 0) hx hb dX4_canSettle_77 (by decide) ?_
            refine lv_istore (lv' := [(4, .int 0), (0, .ref (ad 0)), (1, .int (nI sh)), (2, .int (nI ot)), (3, .int (nI ar))]) hx hb dX4_canSettle_78 hl (by decide) rfl (fun ls hl => ?_)
            refine lv_iload hx hb dX4_canSettle_80 (lv_at hl 0 rfl) ?_
            refine lv_if_eq (tgt := 114) hx hb dX4_canSettle_82 (by decide) (fun c82_13 => ?_) (fun c82_13 => ?_)
            · have bc82_13 := c82_13
              refine lv_iconst (v := 0) hx hb dX4_canSettle_114 (by decide) ?_
              exact W.zret (v := 0) (ty := .boolean) hx hb hr (by first | rfl | exact bI_nar _) (fun t ht hW => ⟨_, rfl, (by simp [ctM, bI, c7_1, c17_4, c32_7, c57_12]), ht⟩) (fun q h => by cases h) dX4_canSettle_115
            · exact absurd c82_13 (by decide)
          · have bc57_12 := c57_12
            refine lv_aload_n hx hb dX4_canSettle_60 rfl (lv_at hl 1 rfl) ?_
            refine k_get S hX.2 hX.1 0 (C := RX4) (T := TX4) (N := 20) rfl rfl 14 (by decide) inX4 m_589 rfl dX4_canSettle_61 ?_
            refine lv_iload_n hx hb dX4_canSettle_64 rfl (lv_at hl 3 rfl) ?_
            refine lv_iload_n hx hb dX4_canSettle_65 rfl (lv_at hl 4 rfl) ?_
            refine q_i (r_S S ⟨m_686, m_687, m_40, m_688⟩ ⟨rfl, by decide, by decide, by decide +kernel⟩ (c4_at l ot ar) ⟨rfl, rfl, Nat.le_of_ble_eq_true rfl, Nat.le_of_ble_eq_true rfl⟩ (ps bl_GL (bG hX.2.2)) (n := 2) (As := [.int (nI ot), .int (nI ar)]) (rest := [.ref (ad 12)]) rfl hl.1 rfl (Nat.le_of_ble_eq_true rfl) ⟨Nat.le_of_ble_eq_true rfl, Nat.le_of_ble_eq_true rfl⟩ dX4_canSettle_66) (fun r14 (e14 : r14 = nI (ot * 5 + ar)) => ?_)
            subst e14
            refine k_ild S hX.2 hX.1 12 (i := (ot * 5 + ar)) rfl (by omega) (by decide) dX4_canSettle_69 ?_
            refine lv_if_ne (tgt := 77) hx hb dX4_canSettle_70 (by decide) (fun c70_15 => ?_) (fun c70_15 => ?_)
            · have bc70_15 := c70_15
              refine lv_iconst (v := 0) hx hb dX4_canSettle_77 (by decide) ?_
              refine lv_istore (lv' := [(4, .int 0), (0, .ref (ad 0)), (1, .int (nI sh)), (2, .int (nI ot)), (3, .int (nI ar))]) hx hb dX4_canSettle_78 hl (by decide) rfl (fun ls hl => ?_)
              refine lv_iload hx hb dX4_canSettle_80 (lv_at hl 0 rfl) ?_
              refine lv_if_eq (tgt := 114) hx hb dX4_canSettle_82 (by decide) (fun c82_16 => ?_) (fun c82_16 => ?_)
              · have bc82_16 := c82_16
                refine lv_iconst (v := 0) hx hb dX4_canSettle_114 (by decide) ?_
                exact W.zret (v := 0) (ty := .boolean) hx hb hr (by first | rfl | exact bI_nar _) (fun t ht hW => ⟨_, rfl, (by simp [ctM, bI, c7_1, c17_4, c32_7, c57_12, c70_15]), ht⟩) (fun q h => by cases h) dX4_canSettle_115
              · exact absurd c82_16 (by decide)
            · have bc70_15 := c70_15
              refine lv_iconst (v := 1) hx hb dX4_canSettle_73 (by decide) ?_
              refine lv_goto (tgt := 78) hx hb dX4_canSettle_74 (by decide) ?_
              refine lv_istore (lv' := [(4, .int 1), (0, .ref (ad 0)), (1, .int (nI sh)), (2, .int (nI ot)), (3, .int (nI ar))]) hx hb dX4_canSettle_78 hl (by decide) rfl (fun ls hl => ?_)
              refine lv_iload hx hb dX4_canSettle_80 (lv_at hl 0 rfl) ?_
              refine lv_if_eq (tgt := 114) hx hb dX4_canSettle_82 (by decide) (fun c82_17 => ?_) (fun c82_17 => ?_)
              · exact absurd c82_17 (by decide)
              · have bc82_17 := c82_17
                refine lv_aload_n hx hb dX4_canSettle_85 rfl (lv_at hl 1 rfl) ?_
                refine lv_iload_n hx hb dX4_canSettle_86 rfl (lv_at hl 2 rfl) ?_
                refine lv_iload_n hx hb dX4_canSettle_87 rfl (lv_at hl 4 rfl) ?_
                refine q_i (r_V S ⟨m_710, m_712, m_28, m_40, m_713⟩ ⟨rfl, by decide, by decide, by decide +kernel⟩ (c4_gapOf l G ad σ nm ns sh ar hns hns4 hnm hnm2 (by omega) (by omega)) ⟨rfl, rfl, Nat.le_of_ble_eq_true rfl, Nat.le_of_ble_eq_true rfl⟩ (pv_M hX bl_PM (bM hX)) (n := 2) (As := [.int (nI sh), .int (nI ar)]) (rest := []) rfl hl.1 rfl (Nat.le_of_ble_eq_true rfl) ⟨Nat.le_of_ble_eq_true rfl, Nat.le_of_ble_eq_true rfl⟩ dX4_canSettle_88) (fun r18 (e18 : r18 = gpM σ nm ns sh ar) => ?_)
                subst e18
                refine lv_if_eq (tgt := 114) hx hb dX4_canSettle_91 (by decide) (fun c91_19 => ?_) (fun c91_19 => ?_)
                · have bc91_19 := c91_19
                  refine lv_iconst (v := 0) hx hb dX4_canSettle_114 (by decide) ?_
                  exact W.zret (v := 0) (ty := .boolean) hx hb hr (by first | rfl | exact bI_nar _) (fun t ht hW => ⟨_, rfl, (by simp [ctM, bI, c7_1, c17_4, c32_7, c57_12, c70_15, c91_19]), ht⟩) (fun q h => by cases h) dX4_canSettle_115
                · have bc91_19 := c91_19
                  refine lv_aload_n hx hb dX4_canSettle_94 rfl (lv_at hl 1 rfl) ?_
                  refine lv_iload_n hx hb dX4_canSettle_95 rfl (lv_at hl 2 rfl) ?_
                  refine lv_iload_n hx hb dX4_canSettle_96 rfl (lv_at hl 4 rfl) ?_
                  refine q_i (r_V S ⟨m_710, m_712, m_28, m_40, m_713⟩ ⟨rfl, by decide, by decide, by decide +kernel⟩ (c4_gapOf l G ad σ nm ns sh ar hns hns4 hnm hnm2 (by omega) (by omega)) ⟨rfl, rfl, Nat.le_of_ble_eq_true rfl, Nat.le_of_ble_eq_true rfl⟩ (pv_M hX bl_PM (bM hX)) (n := 2) (As := [.int (nI sh), .int (nI ar)]) (rest := []) rfl hl.1 rfl (Nat.le_of_ble_eq_true rfl) ⟨Nat.le_of_ble_eq_true rfl, Nat.le_of_ble_eq_true rfl⟩ dX4_canSettle_97) (fun r20 (e20 : r20 = gpM σ nm ns sh ar) => ?_)
                  subst e20
                  refine lv_aload_n hx hb dX4_canSettle_100 rfl (lv_at hl 1 rfl) ?_
                  refine lv_iload_n hx hb dX4_canSettle_101 rfl (lv_at hl 3 rfl) ?_
                  refine lv_iload_n hx hb dX4_canSettle_102 rfl (lv_at hl 4 rfl) ?_
                  refine q_i (r_V S ⟨m_710, m_712, m_28, m_40, m_713⟩ ⟨rfl, by decide, by decide, by decide +kernel⟩ (c4_gapOf l G ad σ nm ns ot ar hns hns4 hnm hnm2 (by omega) (by omega)) ⟨rfl, rfl, Nat.le_of_ble_eq_true rfl, Nat.le_of_ble_eq_true rfl⟩ (pv_M hX bl_PM (bM hX)) (n := 2) (As := [.int (nI ot), .int (nI ar)]) (rest := [.int (gpM σ nm ns sh ar)]) rfl hl.1 rfl (Nat.le_of_ble_eq_true rfl) ⟨Nat.le_of_ble_eq_true rfl, Nat.le_of_ble_eq_true rfl⟩ dX4_canSettle_103) (fun r21 (e21 : r21 = gpM σ nm ns ot ar) => ?_)
                  subst e21
                  refine lv_iadd hx hb dX4_canSettle_106 ?_
                  refine lv_if_ne (tgt := 114) hx hb dX4_canSettle_107 (by decide) (fun c107_22 => ?_) (fun c107_22 => ?_)
                  · have bc107_22 := c107_22
                    refine lv_iconst (v := 0) hx hb dX4_canSettle_114 (by decide) ?_
                    exact W.zret (v := 0) (ty := .boolean) hx hb hr (by first | rfl | exact bI_nar _) (fun t ht hW => ⟨_, rfl, (by simp [ctM, bI, c7_1, c17_4, c32_7, c57_12, c70_15, c91_19, c107_22]), ht⟩) (fun q h => by cases h) dX4_canSettle_115
                  · have bc107_22 := c107_22
                    refine lv_iconst (v := 1) hx hb dX4_canSettle_110 (by decide) ?_
                    refine lv_goto (tgt := 115) hx hb dX4_canSettle_111 (by decide) ?_
                    exact W.zret (v := 1) (ty := .boolean) hx hb hr (by first | rfl | exact bI_nar _) (fun t ht hW => ⟨_, rfl, (by simp [ctM, bI, c7_1, c17_4, c32_7, c57_12, c70_15, c91_19, c107_22]), ht⟩) (fun q h => by cases h) dX4_canSettle_115

set_option maxHeartbeats 4000000 in
set_option maxRecDepth 100000 in
theorem c4_worthOf (l : Launch) (G : kG) (ad : Nat → Nat) (σ : kS) (nm ns : Nat) (pl : Int32) (hns : σ 18 0 = nI ns) (hns4 : ns ≤ 40) (hnm : σ 17 0 = nI nm) (hnm2 : nm ≤ 200) : Met l yX4_worthOf [.code yX4_worthOf cX4_worthOf 5 (some .int)] ({ frames := 3, cells := 0, slots := 0, locals := 94 }) (va_Pc [.ref (ad 0), .int pl] (fun U => PM G ad σ U U.heap)) (vp_Si (fun r => r = woM σ nm ns pl 5)) 0 0 NF := by
  refine k_of (by decide) (Nat.le_of_ble_eq_true rfl) (fun U h => h.2.2) ?_
  intro p e s m below meth c ls S hr hlocks hmn hB hl
  have hx := S.1
  have hb := S.2.1
  have hX : PM G ad σ s s.heap := hB
  have hl : lv_has ls 5 [(0, .ref (ad 0)), (1, .int pl)] := hl
  have L4 : ∀ (n i : Nat), i ≤ 5 → 5 + 1 ≤ i + n → ∀ ls, lv_has ls 5 [(0, .ref (ad 0)), (1, .int pl), (2, .int (woM σ nm ns pl i)), (3, .int (nI i))] → W p l e ({ frames := 3, cells := 0, slots := 0, locals := 94 } : Room) s m [.ref (ad 0), .int pl].toArray below meth c s.heap [] 0 0 (MQ below (vp_Si (fun r => r = woM σ nm ns pl 5)) [.ref (ad 0), .int pl].toArray s 0 0 NF) (F0 m 4 ls []) := by
    intro n
    induction n with
    | zero =>
      intro i h1 h2
      omega
    | succ n ihn =>
      intro i hii hini ls hl
      refine lv_iload_n hx hb dX4_worthOf_4 rfl (lv_at hl 3 rfl) ?_
      refine lv_iconst (v := 5) hx hb dX4_worthOf_5 (by decide) ?_
      refine lv_icmp_ge (tgt := 48) hx hb dX4_worthOf_6 (by decide) (fun c6_1 => ?_) (fun c6_1 => ?_)
      · have bc6_1 := le_nlt c6_1
        have hgei : i = 5 := by
          have h9 := c6_1
          rw [show (5 : Int32) = nI 5 from rfl, nI_leI (by omega) (by omega)] at h9
          omega
        refine lv_iload_n hx hb dX4_worthOf_48 rfl (lv_at hl 2 rfl) ?_
        exact W.iret (v := woM σ nm ns pl i) hx hb hr (fun t ht hW => ⟨_, rfl, (by rw [hgei]), ht⟩) (fun q h => by cases h) dX4_worthOf_49
      · have bc6_1 := nle_lt c6_1
        have hlti : i < 5 := by
          have h9 := nle_lt c6_1
          rw [show (5 : Int32) = nI 5 from rfl, nI_ltI (by omega) (by omega)] at h9
          exact h9
        refine lv_aload_n hx hb dX4_worthOf_9 rfl (lv_at hl 0 rfl) ?_
        refine lv_iload_n hx hb dX4_worthOf_10 rfl (lv_at hl 1 rfl) ?_
        refine lv_iload_n hx hb dX4_worthOf_11 rfl (lv_at hl 3 rfl) ?_
        refine lv_aload_n hx hb dX4_worthOf_12 rfl (lv_at hl 0 rfl) ?_
        refine k_get S hX.2 hX.1 0 (C := RX4) (T := TX4) (N := 20) rfl rfl 0 (by decide) inX4 m_575 rfl dX4_worthOf_13 ?_
        refine q_i (r_V S ⟨m_714, m_716, m_29, m_40, m_717⟩ ⟨rfl, by decide, by decide, by decide +kernel⟩ (c4_bookOf l G ad σ nm ns pl i (σ 16 0) hns hns4 hnm hnm2 (by omega)) ⟨rfl, rfl, Nat.le_of_ble_eq_true rfl, Nat.le_of_ble_eq_true rfl⟩ (pv_M hX bl_PM (bM hX)) (n := 3) (As := [.int pl, .int (nI i), .int (σ 16 0)]) (rest := []) rfl hl.1 rfl (Nat.le_of_ble_eq_true rfl) ⟨Nat.le_of_ble_eq_true rfl, Nat.le_of_ble_eq_true rfl⟩ dX4_worthOf_16) (fun r2 (e2 : r2 = boM σ nm ns pl i (σ 16 0)) => ?_)
        subst e2
        refine lv_istore (lv' := [(4, .int (boM σ nm ns pl i (σ 16 0))), (0, .ref (ad 0)), (1, .int pl), (2, .int (woM σ nm ns pl i)), (3, .int (nI i))]) hx hb dX4_worthOf_19 hl (by decide) rfl (fun ls hl => ?_)
        refine lv_iload_n hx hb dX4_worthOf_21 rfl (lv_at hl 3 rfl) ?_
        refine lv_iload hx hb dX4_worthOf_22 (lv_at hl 0 rfl) ?_
        refine lv_if_le (tgt := 39) hx hb dX4_worthOf_24 (by decide) (fun c24_3 => ?_) (fun c24_3 => ?_)
        · have bc24_3 := le_nlt c24_3
          refine lv_iconst (v := 0) hx hb dX4_worthOf_39 (by decide) ?_
          refine lv_iadd hx hb dX4_worthOf_40 ?_
          refine lv_istore_n (lv' := [(2, .int ((woM σ nm ns pl i) + 0)), (4, .int (boM σ nm ns pl i (σ 16 0))), (0, .ref (ad 0)), (1, .int pl), (3, .int (nI i))]) hx hb dX4_worthOf_41 rfl hl (by decide) rfl (fun ls hl => ?_)
          refine lv_iinc (v := nI (i + 1)) (lv' := [(3, .int (nI (i + 1))), (2, .int ((woM σ nm ns pl i) + 0)), (4, .int (boM σ nm ns pl i (σ 16 0))), (0, .ref (ad 0)), (1, .int pl)]) hx hb dX4_worthOf_42 hl (k := 4) rfl (nI_1 i) (by decide) rfl (fun ls hl => ?_)
          refine lv_goto (tgt := 4) hx hb dX4_worthOf_45 (by decide) ?_
          have ev4 : (woM σ nm ns pl i) + 0 = woM σ nm ns pl (i + 1) := by simp [woM, c6_1, bc6_1, c24_3, bc24_3]
          have hl : lv_has ls 5 [(3, .int (nI (i + 1))), (2, .int (woM σ nm ns pl (i + 1))), (4, .int (boM σ nm ns pl i (σ 16 0))), (0, .ref (ad 0)), (1, .int pl)] := by rw [← ev4]; exact hl
          exact ihn (i + 1) hlti (by omega) ls (lv_sub hl [3, 4, 1, 0] rfl)
        · have bc24_3 := nle_lt c24_3
          refine lv_aload_n hx hb dX4_worthOf_27 rfl (lv_at hl 1 rfl) ?_
          refine k_get S hX.2 hX.1 0 (C := RX4) (T := TX4) (N := 20) rfl rfl 1 (by decide) inX4 m_576 rfl dX4_worthOf_28 ?_
          refine lv_iload_n hx hb dX4_worthOf_31 rfl (lv_at hl 4 rfl) ?_
          refine k_ild S hX.2 hX.1 1 (i := i) rfl (by omega) (by decide) dX4_worthOf_32 ?_
          refine lv_iload hx hb dX4_worthOf_33 (lv_at hl 0 rfl) ?_
          refine lv_imul hx hb dX4_worthOf_35 ?_
          refine lv_goto (tgt := 40) hx hb dX4_worthOf_36 (by decide) ?_
          refine lv_iadd hx hb dX4_worthOf_40 ?_
          refine lv_istore_n (lv' := [(2, .int ((woM σ nm ns pl i) + ((σ 0 i) * (boM σ nm ns pl i (σ 16 0))))), (4, .int (boM σ nm ns pl i (σ 16 0))), (0, .ref (ad 0)), (1, .int pl), (3, .int (nI i))]) hx hb dX4_worthOf_41 rfl hl (by decide) rfl (fun ls hl => ?_)
          refine lv_iinc (v := nI (i + 1)) (lv' := [(3, .int (nI (i + 1))), (2, .int ((woM σ nm ns pl i) + ((σ 0 i) * (boM σ nm ns pl i (σ 16 0))))), (4, .int (boM σ nm ns pl i (σ 16 0))), (0, .ref (ad 0)), (1, .int pl)]) hx hb dX4_worthOf_42 hl (k := 4) rfl (nI_1 i) (by decide) rfl (fun ls hl => ?_)
          refine lv_goto (tgt := 4) hx hb dX4_worthOf_45 (by decide) ?_
          have ev5 : (woM σ nm ns pl i) + ((σ 0 i) * (boM σ nm ns pl i (σ 16 0))) = woM σ nm ns pl (i + 1) := by simp [woM, c6_1, bc6_1, c24_3, bc24_3]
          have hl : lv_has ls 5 [(3, .int (nI (i + 1))), (2, .int (woM σ nm ns pl (i + 1))), (4, .int (boM σ nm ns pl i (σ 16 0))), (0, .ref (ad 0)), (1, .int pl)] := by rw [← ev5]; exact hl
          exact ihn (i + 1) hlti (by omega) ls (lv_sub hl [3, 4, 1, 0] rfl)
  refine lv_iconst (v := 0) hx hb dX4_worthOf_0 (by decide) ?_
  refine lv_istore_n (lv' := [(2, .int 0), (0, .ref (ad 0)), (1, .int pl)]) hx hb dX4_worthOf_1 rfl hl (by decide) rfl (fun ls hl => ?_)
  refine lv_iconst (v := 0) hx hb dX4_worthOf_2 (by decide) ?_
  refine lv_istore_n (lv' := [(3, .int 0), (2, .int 0), (0, .ref (ad 0)), (1, .int pl)]) hx hb dX4_worthOf_3 rfl hl (by decide) rfl (fun ls hl => ?_)
  exact L4 (5 + 1) 0 (Nat.zero_le _) (by omega) ls (lv_sub hl [2, 3, 1, 0] rfl)
end
section
theorem zz_end : True := trivial
end
