/-! NEW OBJECTS: rows, the form of a constructor's end -/
/-- a row whose first n places hold x, and f's behind them -/
def fil (n : Nat) (x : Int32) (f : Nat → Int32) : Nat → Int32 := fun i => if i < n then x else f i
theorem fil_0 (x : Int32) (f : Nat → Int32) : fil 0 x f = f := by
  funext i; exact if_neg (Nat.not_lt_zero i)
theorem fil_s (k : Nat) (x : Int32) (f : Nat → Int32) : upd (fil k x f) k x = fil (k + 1) x f := by
  funext i
  unfold upd fil
  by_cases h1 : i = k
  · subst h1; simp
  · by_cases h2 : i < k
    · have h3 : i < k + 1 := by omega
      simp [h1, h2, h3]
    · have h3 : ¬ i < k + 1 := by omega
      simp [h1, h2, h3]
theorem DD.of {n : Nat} {A : Nat → Prop} {a : Nat → Nat} {ws : va_W} (h : va_D A ws) (hw : ws.map (fun q => q.1) = (List.range n).map a) : DD n A a := by
  have key : ∀ i, i < n → ∃ q, ws[i]? = some q ∧ q.1 = a i := by
    intro i hi
    have h1 : (ws.map (fun q => q.1))[i]? = some (a i) := by
      rw [hw, List.getElem?_map, List.getElem?_range hi]; rfl
    rw [List.getElem?_map] at h1
    cases hq : ws[i]? with
    | none => rw [hq] at h1; cases h1
    | some q => rw [hq] at h1; exact ⟨q, rfl, Option.some.inj h1⟩
  refine ⟨fun i j hi hj hij => ?_, fun i hi => ?_⟩
  · obtain ⟨x, h1, h2⟩ := key i hi
    obtain ⟨y, h3, h4⟩ := key j hj
    exact h.1 i j x y h1 h3 (by rw [h2, h4]; exact hij)
  · obtain ⟨x, h1, h2⟩ := key i hi
    rw [← h2]; exact h.2 i x h1
/-- how a constructor ends: its object and the cells that it has made, the rest as it was -/
def oC (G : kG) (b : Nat) (w : (Nat → Nat) → va_W) (A : Nat → Prop) : Array Value → State → Outcome → State → Prop := fun _ st o t => o = .returned none ∧ (∃ c : Nat → Nat, va_P G.1 vwCl (w c) t.heap ∧ va_D A (w c)) ∧ va_F A st t
section KN
variable {p : Program} {l : Launch} {e : Env} {R : Room} {s : State} {m : MethodId} {args : Array Value} {below : List Frame} {meth : Method} {c : Code} {H H0 : Heap} {locs : List Loc} {cells slots : Nat} {Q : State → Prop}
variable {cc : ByteArray} {pc nL : Nat} {ls : Array Slot} {rest : List Value} {G : kG} {A : Nat → Prop} {ad : Nat} {ws : va_W} {own : String}
theorem k_newi (S : CallFix p m c cc nL s args big own) (hK : KK G s) (hP : va_P G.1 vwCl ws H) (hD : va_D A ws) (hS : va_S A H0 H locs) (hA : ∀ q, H0.size ≤ q → A q) {n : Int32} (N : Nat) (hn : ¬ n < 0) (hN : n.toNatClampNeg = N) (hbytes : N * componentBytes .int ≤ 536870912) (hcells : cells + 1 ≤ R.cells) (hslots : slots + N ≤ R.slots) (hdg : decode cc pc = .ok (.newarray .int, 2))
    (kk : ∀ (q : Nat) (H1 : Heap), va_P G.1 vwCl (ws ++ [(q, .inl (G.2.1, N, .inl (fun _ => 0)))]) H1 → va_D A (ws ++ [(q, .inl (G.2.1, N, .inl (fun _ => 0)))]) → va_S A H0 H1 locs → W p l e R s m args below meth c H1 locs (cells + 1) (slots + N) Q (F0 m (pc + 2) ls (.ref q :: rest))) : W p l e R s m args below meth c H locs cells slots Q (F0 m pc ls (.int n :: rest)) := by
  refine va_newa (D := G.1) (atype := .int) S.1 S.2.1 (S.2.2.2.2 (Cond.arrayClass .int) m_71) rfl hK.1 hP hD hS hA (a0 := (N, .inl (fun _ => 0))) (fun cA => rfl) hn hN hbytes hcells hslots hdg (fun q cA H1 h1 h2 h3 h4 => ?_)
  have e1 : s.vm.findClass ("[" ++ FieldType.int.toString) = some cA := (h1.2 2 (cA, .int) rfl).2
  have e2 : s.vm.findClass ("[" ++ FieldType.int.toString) = some G.2.1 := (hK.1.2 0 (G.2.1, .int) rfl).2
  have e3 : cA = G.2.1 := Option.some.inj (e1.symm.trans e2)
  rw [e3] at h2 h3
  exact kk q H1 h2 h3 h4
theorem k_newz (S : CallFix p m c cc nL s args big own) (hK : KK G s) (hP : va_P G.1 vwCl ws H) (hD : va_D A ws) (hS : va_S A H0 H locs) (hA : ∀ q, H0.size ≤ q → A q) {n : Int32} (N : Nat) (hn : ¬ n < 0) (hN : n.toNatClampNeg = N) (hbytes : N * componentBytes .boolean ≤ 536870912) (hcells : cells + 1 ≤ R.cells) (hslots : slots + N ≤ R.slots) (hdg : decode cc pc = .ok (.newarray .boolean, 2))
    (kk : ∀ (q : Nat) (H1 : Heap), va_P G.1 vwCl (ws ++ [(q, .inl (G.2.2.1, N, .inl (fun _ => 0)))]) H1 → va_D A (ws ++ [(q, .inl (G.2.2.1, N, .inl (fun _ => 0)))]) → va_S A H0 H1 locs → W p l e R s m args below meth c H1 locs (cells + 1) (slots + N) Q (F0 m (pc + 2) ls (.ref q :: rest))) : W p l e R s m args below meth c H locs cells slots Q (F0 m pc ls (.int n :: rest)) := by
  refine va_newa (D := G.1) (atype := .boolean) S.1 S.2.1 (S.2.2.2.2 (Cond.arrayClass .boolean) m_95) rfl hK.1 hP hD hS hA (a0 := (N, .inl (fun _ => 0))) (fun cA => rfl) hn hN hbytes hcells hslots hdg (fun q cA H1 h1 h2 h3 h4 => ?_)
  have e1 : s.vm.findClass ("[" ++ FieldType.boolean.toString) = some cA := (h1.2 2 (cA, .boolean) rfl).2
  have e2 : s.vm.findClass ("[" ++ FieldType.boolean.toString) = some G.2.2.1 := (hK.1.2 1 (G.2.2.1, .boolean) rfl).2
  have e3 : cA = G.2.2.1 := Option.some.inj (e1.symm.trans e2)
  rw [e3] at h2 h3
  exact kk q H1 h2 h3 h4
/-- a final field, in its class's constructor -/
theorem k_putF (S : CallFix p m c cc nL s args big own) (hK : KK G s) (hP : va_P G.1 vwCl ws H) (hD : va_D A ws) (hS : va_S A H0 H locs) (q0 : Nat) {ci : Nat} {fs : List Value} (he : ws[q0]? = some (ad, .inr (ci, fs))) {C : String} {T : u_T} {N index : Nat} (hc : vwCl[ci]? = some (C, T, N)) (k : Nat) (hk : k < N) (hin : ∀ w ∈ u_ws C T N, w ∈ big)
    (ty0 : Nat → FieldType) (hty : ∀ k, k < N → parseFieldDescriptor (T k).2.2.1 = some (ty0 k)) (hnm : ∀ a, a < N → ∀ b, b < N → a ≠ b → (T a).2.1 ≠ (T b).2.1) (hfin : (T k).2.2.2 = true) (hin2 : meth.name = "<init>") (hdecl : (T k).1 = own)
    (hl : Cond.fieldLink own index (T k).1 (T k).2.1 (T k).2.2.1 ∈ big) {v : Value} (hn : narrow (ty0 k) v = v) (hfit : fits (ty0 k) v = true) (hlen : k < fs.length) (hdg : decode cc pc = .ok (.putfield index, 3))
    (kk : ∀ (H1 : Heap) (locs1 : List Loc), va_P G.1 vwCl (ws.set q0 (ad, .inr (ci, fs.set k v))) H1 → va_D A (ws.set q0 (ad, .inr (ci, fs.set k v))) → va_S A H0 H1 locs1 → W p l e R s m args below meth c H1 locs1 cells slots Q (F0 m (pc + 3) ls rest)) : W p l e R s m args below meth c H locs cells slots Q (F0 m pc ls (v :: .ref ad :: rest)) :=
  va_putF (D := G.1) (ci := ci) (C := C) (T := T) (N := N) (ty := ty0 k) S.1 S.2.1 S.2.2.2.2 hin ty0 hty hnm S.2.2.2.1 hK.1 hP hD hS q0 he hc k hk (S.2.2.2.2 _ hl) (fun _ h => h) hfin hin2 hdecl (hty k hk) hn hfit hlen hdg kk
theorem k_putI (S : CallFix p m c cc nL s args big own) (hK : KK G s) (hP : va_P G.1 vwCl ws H) (hD : va_D A ws) (hS : va_S A H0 H locs) (q0 : Nat) {ci : Nat} {fs : List Value} (he : ws[q0]? = some (ad, .inr (ci, fs))) {C : String} {T : u_T} {N index : Nat} (hc : vwCl[ci]? = some (C, T, N)) (k : Nat) (hk : k < N) (hin : ∀ w ∈ u_ws C T N, w ∈ big)
    (ty0 : Nat → FieldType) (hty : ∀ k, k < N → parseFieldDescriptor (T k).2.2.1 = some (ty0 k)) (hnm : ∀ a, a < N → ∀ b, b < N → a ≠ b → (T a).2.1 ≠ (T b).2.1) (hfin : (T k).2.2.2 = false) (hit : ty0 k = .int)
    (hl : Cond.fieldLink own index (T k).1 (T k).2.1 (T k).2.2.1 ∈ big) {v : Int32} (hlen : k < fs.length) (hdg : decode cc pc = .ok (.putfield index, 3))
    (kk : ∀ (H1 : Heap) (locs1 : List Loc), va_P G.1 vwCl (ws.set q0 (ad, .inr (ci, fs.set k (.int v)))) H1 → va_D A (ws.set q0 (ad, .inr (ci, fs.set k (.int v)))) → va_S A H0 H1 locs1 → W p l e R s m args below meth c H1 locs1 cells slots Q (F0 m (pc + 3) ls rest)) : W p l e R s m args below meth c H locs cells slots Q (F0 m pc ls (.int v :: .ref ad :: rest)) :=
  k_put S hK hP hD hS q0 he hc k hk hin ty0 hty hnm hfin hit hl hlen hdg (fun H1 locs1 h1 h3 => kk H1 locs1 h1 (hD.set he) h3)
/-- one cell of the picture has changed, and no other below the size -/
theorem k_set {H1 : Heap} {q0 : Nat} {e0 e1 : va_E} (hP : va_P G.1 vwCl ws H) (hD : va_D A ws) (he : ws[q0]? = some (ad, e0)) (h1 : va_P G.1 vwCl [(ad, e1)] H1) (hk : ∀ q : Nat, q < H.size → ¬ q = ad → H1[q]? = H[q]?) : va_P G.1 vwCl (ws.set q0 (ad, e1)) H1 := by
  intro k q hq
  by_cases hkq : k = q0
  · subst hkq
    have hl : k < ws.length := (List.getElem?_eq_some_iff.mp he).1
    rw [List.getElem?_set_self hl] at hq
    cases hq
    exact h1 0 _ rfl
  · rw [List.getElem?_set_ne (fun h => hkq h.symm)] at hq
    have h2 := hP k q hq
    exact h2.kept (hk q.1 h2.lt (fun h => hkq (hD.1 k q0 q (ad, e0) hq he h)))
variable {y : MethodName} {bytes : ByteArray} {maxL mc ms index : Nat} {rm : Room} {Pc : Array Value → State → Prop} {Qc : Array Value → State → Outcome → State → Prop} {free : Addr → Prop} {host : String} {b : Addr} {st0 : List Value}
theorem r_IN (S : CallFix p m c cc nL s args big own) (hG : GL s) (hw : Cond.methodLinkNest own index y host ∈ lw_tbl ∧ Cond.instanceMethod y ∈ big ∧ Cond.initialized y.cls ∈ big ∧ Cond.code y bytes maxL none ∈ big) (hyn : y.name = "<init>") (hd : y.cls ≠ "java/lang/invoke/MethodHandle" ∧ y.cls ≠ "java/lang/invoke/VarHandle" ∧ (parseMethodDescriptor y.desc).map (fun d => d.parameters.length) = some 0)
    (hM : Met l y [.code y bytes maxL none] rm Pc Qc mc ms free) (hR : rmD rm R maxL mc ms) (hp : PreS s H Pc [.ref b])
    (hsize : ls.size = nL) (hstack : st0 = .ref b :: rest) (hW : (rest.map fun v => v.category).sum ≤ 8) (hf : cells + mc ≤ R.cells ∧ slots + ms ≤ R.slots) (hdg : decode cc pc = .ok (.invokespecial index, 3)) :
    va_Run p l e R s m args below meth c H locs cells slots mc ms (F0 m pc ls st0) rest (Qc [Value.ref b].toArray) free :=
  va_runIN (As := []) S hM ⟨va_cnB 0 S.2.2.2.2 (gd_1 hw.2.2.2) rfl hR.1 hR.2.1 (hG.nestM hw.1) (S.2.2.2.2 _ hw.2.2.1) hd hR.2.2, hyn, S.2.2.2.2 _ hw.2.1⟩ hp rfl rfl hsize hstack (lv_room hW) hdg hf
theorem r_I (S : CallFix p m c cc nL s args big own) (hw : Cond.methodLink own index y ∈ big ∧ Cond.instanceMethod y ∈ big ∧ Cond.initialized y.cls ∈ big ∧ Cond.code y bytes maxL none ∈ big) (hyn : y.name = "<init>") (hd : y.cls ≠ "java/lang/invoke/MethodHandle" ∧ y.cls ≠ "java/lang/invoke/VarHandle" ∧ (parseMethodDescriptor y.desc).map (fun d => d.parameters.length) = some 0)
    (hM : Met l y [.code y bytes maxL none] rm Pc Qc mc ms free) (hR : rmD rm R maxL mc ms) (hp : PreS s H Pc [.ref b])
    (hsize : ls.size = nL) (hstack : st0 = .ref b :: rest) (hW : (rest.map fun v => v.category).sum ≤ 8) (hf : cells + mc ≤ R.cells ∧ slots + ms ≤ R.slots) (hdg : decode cc pc = .ok (.invokespecial index, 3)) :
    va_Run p l e R s m args below meth c H locs cells slots mc ms (F0 m pc ls st0) rest (Qc [Value.ref b].toArray) free :=
  va_runI (As := []) S hM ⟨callB_of 0 S.2.2.2.2 (gd_1 hw.2.2.2) rfl hR.1 hR.2.1 (S.2.2.2.2 _ hw.2.2.1) (S.2.2.2.2 _ hw.1) hd hR.2.2, hyn, S.2.2.2.2 _ hw.2.1⟩ hp rfl rfl hsize hstack (lv_room hW) hdg hf
theorem k_obj (S : CallFix p m c cc nL s args big own) (hlk : Cond.methodLink own index Lib.objectInit ∈ big) (hsize : ls.size = nL) (hW : (rest.map fun v => v.category).sum ≤ 8) (hdg : decode cc pc = .ok (.invokespecial index, 3)) (hR : 1 ≤ R.frames ∧ 20 ≤ R.locals)
    (kk : W p l e R s m args below meth c H locs cells slots Q (F0 m (pc + 3) ls rest)) : W p l e R s m args below meth c H locs cells slots Q (F0 m pc ls (.ref b :: rest)) :=
  W.objInit S.1 S.2.1 S.2.2.2.1 (S.2.2.2.2 _ hlk) (S.2.2.2.2 _ m_43) (S.2.2.2.2 _ m_44) rfl (hsize.trans S.2.2.1.symm) rfl hdg hR.1 (by have h2 := hR.2; show 2 * 0 + (rest.map fun v => v.category).sum + 12 ≤ R.locals; omega) kk
/-- behind a constructor's call -/
theorem q_c {w : (Nat → Nat) → va_W} {A1 : Nat → Prop} {a : Array Value} (hr : va_Run p l e R s m args below meth c H locs cells slots mc ms (F0 m pc ls st0) rest (oC G b w A1 a) A1) (hS : va_S A H0 H locs) (hA : ∀ q, A1 q → A q)
    (kk : ∀ (cc9 : Nat → Nat) (H1 : Heap) (locs1 : List Loc), va_P G.1 vwCl (w cc9) H1 → va_D A1 (w cc9) → (∀ q : Nat, q < H.size → ¬ A1 q → H1[q]? = H[q]?) → va_S A H0 H1 locs1 → W p l e R s m args below meth c H1 locs1 (cells + mc) (slots + ms) Q (F0 m (pc + 3) ls rest)) : W p l e R s m args below meth c H locs cells slots Q (F0 m pc ls st0) := by
  intro T hT X
  obtain ⟨v, st₀, t, T', L, h0, X', hL, e1, -, ⟨hv, ⟨cc9, hp, hd⟩, hF⟩, st⟩ := hr T hT X
  cases hv
  obtain ⟨k1, k2, k3⟩ := s_call h0 e1 hS hA hL hF
  obtain ⟨t2, a1, b1⟩ := kk cc9 T'.heap (locs ++ L) (by rw [e1]; exact hp) hd k2 k3 T' rfl X'
  exact ⟨t2, st t2 a1, b1⟩
end KN
theorem bl_C {G : kG} {ws : va_W} {n : Nat} : kBl (fun U => va_P G.1 vwCl ws U.heap ∧ KK G U ∧ U.heap.size = n) := fun U U' h1 h2 h => by
  show va_P G.1 vwCl ws U'.heap ∧ KK G U' ∧ U'.heap.size = n
  rw [h1]; exact ⟨h.1, h.2.1.warm (warm_vm h2), h.2.2⟩
theorem bl_1 {G : kG} {ws : va_W} : kBl (fun U => va_P G.1 vwCl ws U.heap ∧ KK G U) := fun U U' h1 h2 h => by
  show va_P G.1 vwCl ws U'.heap ∧ KK G U'
  rw [h1]; exact ⟨h.1, h.2.warm (warm_vm h2)⟩
set_option maxHeartbeats 4000000 in
set_option maxRecDepth 100000 in
theorem c_fill (l : Launch) (G : kG) (b N : Nat) (x : Int32) (f : Nat → Int32) (hN : N < 2 ^ 31) : Met l yJ7_fill_53178 [.code yJ7_fill_53178 cJ7_fill_53178 4 none] ({ frames := 1, cells := 0, slots := 0, locals := 40 }) (va_Pc [.ref b, .int x] (fun U => va_P G.1 vwCl [(b, .inl (G.2.1, N, .inl f))] U.heap ∧ KK G U)) (oV (fun q => q = b) True (fun H9 => va_P G.1 vwCl [(b, .inl (G.2.1, N, .inl (fil N x f)))] H9)) 0 0 (fun q => q = b) := by
  refine k_of (by decide) (Nat.le_of_ble_eq_true rfl) (fun U h => h.2.2) ?_
  intro p e s m below meth c ls S hr hlocks hmn hB hl
  have hx := S.1
  have hb := S.2.1
  have hl : lv_has ls 4 [(0, .ref b), (1, .int x)] := hl
  have hD : ∀ (g : Nat → Int32), va_D (fun q => q = b) [(b, .inl (G.2.1, N, .inl g))] := by
    intro g
    refine ⟨fun i j x9 y9 hi hj _ => ?_, fun k q hk => ?_⟩
    · have h1 : i < 1 := (List.getElem?_eq_some_iff.mp hi).1
      have h2 : j < 1 := (List.getElem?_eq_some_iff.mp hj).1
      omega
    · have h1 : k < 1 := (List.getElem?_eq_some_iff.mp hk).1
      have h2 : k = 0 := by omega
      subst h2
      cases hk; rfl
  refine lv_iconst (v := 0) hx hb dJ7_fill_53178_0 (by decide) ?_
  refine lv_istore_n (lv' := [(2, .int 0), (0, .ref b), (1, .int x)]) hx hb dJ7_fill_53178_1 rfl hl (by decide) rfl (fun ls hl => ?_)
  refine lv_aload_n hx hb dJ7_fill_53178_2 rfl (lv_at hl 1 rfl) ?_
  refine k_alen S hB.2 hB.1 0 rfl dJ7_fill_53178_3 ?_
  refine lv_istore_n (lv' := [(3, .int (nI N)), (2, .int 0), (0, .ref b), (1, .int x)]) hx hb dJ7_fill_53178_4 rfl hl (by decide) rfl (fun ls hl => ?_)
  have L5 : ∀ (n : Nat) (i : Nat), i ≤ N → N + 1 ≤ i + n → ∀ (H : Heap) (L : List Loc), va_P G.1 vwCl [(b, .inl (G.2.1, N, .inl (fil i x f)))] H → va_S (fun q => q = b) s.heap H L → ∀ ls, lv_has ls 4 [(0, .ref b), (1, .int x), (2, .int (nI i)), (3, .int (nI N))] → W p l e ({ frames := 1, cells := 0, slots := 0, locals := 40 } : Room) s m [.ref b, .int x].toArray below meth c H L 0 0 (MQ below (oV (fun q => q = b) True (fun H9 => va_P G.1 vwCl [(b, .inl (G.2.1, N, .inl (fil N x f)))] H9)) [.ref b, .int x].toArray s 0 0 (fun q => q = b)) (F0 m 5 ls []) := by
    intro n
    induction n with
    | zero => intro i h1 h2; omega
    | succ n ihn =>
      intro i h1 h2 H L hP hS ls hl
      refine lv_iload_n hx hb dJ7_fill_53178_5 rfl (lv_at hl 2 rfl) ?_
      refine lv_iload_n hx hb dJ7_fill_53178_6 rfl (lv_at hl 3 rfl) ?_
      refine lv_icmp_ge (tgt := 20) hx hb dJ7_fill_53178_7 (by decide) (fun c7 => ?_) (fun c7 => ?_)
      · have hge : i = N := by
          rcases Nat.lt_or_ge i N with h | h
          · exact absurd ((nI_ltI (by omega) hN).mpr h) (by have := c7; exact fun z => absurd z (Int32.not_lt.mpr this))
          · omega
        subst hge
        exact W.vret hx hb hr (fun t ht hW => ⟨rfl, trivial, by rw [ht]; exact hP, hS.F ht⟩) hS.2.2 dJ7_fill_53178_20
      · have hlt : i < N := by
          rcases Nat.lt_or_ge i N with h | h
          · exact h
          · have e5 : i = N := by omega
            subst e5
            exact absurd (Int32.le_refl _) c7
        refine lv_aload_n hx hb dJ7_fill_53178_10 rfl (lv_at hl 0 rfl) ?_
        refine lv_iload_n hx hb dJ7_fill_53178_11 rfl (lv_at hl 2 rfl) ?_
        refine lv_iload_n hx hb dJ7_fill_53178_12 rfl (lv_at hl 1 rfl) ?_
        refine k_ist S hB.2 hP (hD _) hS 0 (i := i) rfl hlt hN dJ7_fill_53178_13 (fun H1 L1 h3 hS1 => ?_)
        have h3 : va_P G.1 vwCl [(b, .inl (G.2.1, N, .inl (upd (fil i x f) i x)))] H1 := h3
        rw [fil_s] at h3
        refine lv_iinc (v := nI (i + 1)) (lv' := [(2, .int (nI (i + 1))), (0, .ref b), (1, .int x), (3, .int (nI N))]) hx hb dJ7_fill_53178_14 hl (k := 2) rfl (nI_1 i) (by decide) rfl (fun ls hl => ?_)
        refine lv_goto (tgt := 5) hx hb dJ7_fill_53178_17 (by decide) ?_
        exact ihn (i + 1) hlt (by omega) H1 L1 h3 hS1 ls (lv_sub hl [1, 2, 0, 3] rfl)
  exact L5 (N + 1) 0 (Nat.zero_le _) (by omega) s.heap [] (by rw [fil_0]; exact hB.1) va_S.rf ls (lv_sub hl [2, 3, 1, 0] rfl)
