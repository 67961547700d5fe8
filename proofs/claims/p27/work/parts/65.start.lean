theorem sx9lu : Cond.laysStatic Bundle.tN "UNASSIGNED_STACK" Bundle.steD ∈ lw_tbl := by decide +kernel
theorem sx9ls : Cond.laysStatic Bundle.tN "SUPPRESSED_SENTINEL" Bundle.listD ∈ lw_tbl := by decide +kernel
theorem sx9in : Cond.initialized Bundle.tN ∈ lw_tbl := by decide +kernel
theorem sx9ru : Cond.isRef (.static Bundle.tN "UNASSIGNED_STACK" Bundle.steD) ∈ flatC (Jvm.Cond.and given_1 narrow_1) := by decide +kernel
theorem sx9rs : Cond.isRef (.static Bundle.tN "SUPPRESSED_SENTINEL" Bundle.listD) ∈ flatC (Jvm.Cond.and given_1 narrow_1) := by decide +kernel
set_option maxHeartbeats 4000000 in
set_option maxRecDepth 100000 in
theorem whole_start {p : Program} {e : Env} {s : State} {m : MethodId} {below : List Frame} {meth : Method} {c : Code} (l : Launch) (hflags : l.flags = flags0) {b L : Nat} {xs : Nat → Int32} (hL : L ≤ 260) (C0 : lw_At p s m meth c b L xs) : W p l e room_1 s m #[Value.ref b] below meth c s.heap [] 0 0 (lw_Z below #[Value.ref b] s) (entryFrame m ([Value.ref b] : List Value).toArray 10) := by
  obtain ⟨hx, hb, hr, hml, hown, hts, hX, hbl, hlocks, hgv⟩ := id C0
  have hA : ∀ q : Nat, s.heap.size ≤ q → AL s q := fun _ h => h
  have hbig : ∀ w ∈ big, w.before #[Value.ref b] s = true := fun w hw => hts w (List.mem_filter.mp hw).1
  have hGL : GL s := ⟨s, #[Value.ref b], hts, hgv, State.WarmedH.refl s⟩
  obtain ⟨cI, kI, pI, hI1, hI2, hI3⟩ := Cond.arrayClass_spec (hbig _ m_71)
  obtain ⟨cB, kB, pB, hB1, hB2, hB3⟩ := Cond.arrayClass_spec (hbig _ m_95)
  obtain ⟨c0, i0, K0⟩ := u_known (C := RX0) (T := TX0) (N := 7) (n := 7) hbig inX0 (hbig _ m_97)
  obtain ⟨c1, i1, K1⟩ := u_known (C := RX1) (T := TX1) (N := 6) (n := 6) hbig inX1 (hbig _ m_46)
  obtain ⟨c2, i2, K2⟩ := u_known (C := RX2) (T := TX2) (N := 4) (n := 4) hbig inX2 (hbig _ m_73)
  obtain ⟨c3, i3, K3⟩ := u_known (C := RX3) (T := TX3) (N := 6) (n := 6) hbig inX3 (hbig _ m_38)
  obtain ⟨dC, dI, hKc⟩ : ∃ (dC : Nat → ClassId) (dI : Nat → Nat → Nat), ∀ (k : Nat) (q : vw_C), vwCl[k]? = some q → u_Kn s q.1 q.2.1 q.2.2 (dC k) (dI k) := by
    refine ⟨fun k => match k with | 0 => c0 | 1 => c1 | 2 => c2 | _ => c3, fun k => match k with | 0 => i0 | 1 => i1 | 2 => i2 | _ => i3, ?_⟩
    intro k q hq
    match k, hq with
    | 0, hq => cases hq; exact K0
    | 1, hq => cases hq; exact K1
    | 2, hq => cases hq; exact K2
    | 3, hq => cases hq; exact K3
    | k + 4, hq => cases hq
  obtain ⟨G, hG⟩ : ∃ G : kG, G = ((dC, dI), cI, cB, cI) := ⟨_, rfl⟩
  have hK : KK G s := by
    subst hG
    refine ⟨⟨hKc, fun k q h => ?_⟩, hGL⟩
    match k, h with
    | 0, h => cases h; exact ⟨fun n z => ⟨fun k h => (by cases h), kI, hI2, pI, hI3⟩, hI1⟩
    | 1, h => cases h; exact ⟨fun n z => ⟨fun k h => (by cases h), kB, hB2, pB, hB3⟩, hB1⟩
    | k + 2, h => cases h
  have S : CallFix p m c cL_law 10 s #[Value.ref b] big RL := ⟨hx, hb, hml, hown, hbig⟩
  have hst : l.stackTraces = false := by
    unfold Launch.stackTraces
    rw [hflags]
    decide
  have hS0 : va_S (AL s) s.heap s.heap [] := va_S.rf
  have hP0 : va_P G.1 vwCl [] s.heap := fun k q h => by cases h
  have hD0 : va_D (AL s) [] := ⟨fun i j p q h => (by cases h), fun k q h => (by cases h)⟩
  have hl := lv_entry ([.ref b]) (n := 10) (Nat.le_of_ble_eq_true rfl)
  rw [lg_entry_eq]
  generalize (lg_sl ([.ref b]) ++ List.replicate (10 - (lg_sl ([.ref b])).length) Slot.unset).toArray = ls at hl ⊢
  have hl : lv_has ls 10 [(0, .ref b)] := hl
  refine va_new (D := G.1) (ci := 3) (C := RX3) (T := TX3) (N := 6) (fs := [.null, .null, .null, .null, .null, .int 0]) hx hb hbig inX3 tyX3 tyX3_ok S.2.2.2.1 (hbig _ m_37) (hbig _ m_38) (hbig _ m_23) hK.1 hP0 hD0 hS0 hA rfl (by decide) (Nat.le_of_ble_eq_true rfl) (Nat.le_of_ble_eq_true rfl) dL_law_0 (fun q0 H1 hP1 hD1 hS1 => ?_)
  have hP1 : va_P G.1 vwCl [(q0, .inr (3, [.null, .null, .null, .null, .null, .int 0]))] H1 := hP1
  have hD1 : va_D (AL s) [(q0, .inr (3, [.null, .null, .null, .null, .null, .int 0]))] := hD1
  refine lv_dup hx hb dL_law_3 rfl ?_
  refine q_c (A1 := va_A [(q0, .inr (3, [.null, .null, .null, .null, .null, .int 0]))] H1.size) (r_I S ⟨m_39, m_40, m_23, m_41⟩ rfl ⟨by decide, by decide, by decide +kernel⟩ (c_initX l G q0 H1.size) ⟨rfl, rfl, Nat.le_of_ble_eq_true rfl, Nat.le_of_ble_eq_true rfl⟩ (ps bl_C (fun U hU hW => ⟨by rw [hU]; exact hP1.sub [0] rfl, hK.warm hW, by rw [hU]⟩)) (rest := [.ref q0]) hl.1 rfl (Nat.le_of_ble_eq_true rfl) ⟨Nat.le_of_ble_eq_true rfl, Nat.le_of_ble_eq_true rfl⟩ dL_law_4) hS1 (va_free hD1 hS1 hA [0] rfl) (fun c2 H2 L2 gP2 gD2 f2 hS2 => ?_)
  obtain ⟨jP2, jD2⟩ := va_join (wc := [(q0, .inr (3, [.null, .null, .null, .null, .null, .int 0]))]) (wr := []) hP1 hD1 [0] [] rfl rfl rfl (by decide) f2 (va_free hD1 hS1 hA [0] rfl) gP2 gD2
  obtain ⟨ao, hao⟩ : ∃ ao : Nat → Nat, ao = adC q0 c2 := ⟨_, rfl⟩
  have hP2 : va_P G.1 vwCl (wX G ao S0) H2 := by rw [hao]; exact jP2
  have hD2 : va_D (AL s) (wX G ao S0) := by rw [hao]; exact jD2
  have hq0 : q0 = ao 0 := by rw [hao]; rfl
  clear hao gP2 gD2 f2 hP1 hD1 jP2 jD2
  subst hq0
  refine lv_astore_n (lv' := [(1, .ref (ao 0)), (0, .ref b)]) hx hb dL_law_7 rfl hl (by decide) rfl (fun ls hl => ?_)
  refine va_new (D := G.1) (ci := 3) (C := RX3) (T := TX3) (N := 6) (fs := [.null, .null, .null, .null, .null, .int 0]) hx hb hbig inX3 tyX3 tyX3_ok S.2.2.2.1 (hbig _ m_37) (hbig _ m_38) (hbig _ m_23) hK.1 hP2 hD2 hS2 hA rfl (by decide) (Nat.le_of_ble_eq_true rfl) (Nat.le_of_ble_eq_true rfl) dL_law_8 (fun q1 H3 hP3 hD3 hS3 => ?_)
  refine lv_dup hx hb dL_law_11 rfl ?_
  refine q_c (A1 := va_A [(q1, .inr (3, [.null, .null, .null, .null, .null, .int 0]))] H3.size) (r_I S ⟨m_39, m_40, m_23, m_41⟩ rfl ⟨by decide, by decide, by decide +kernel⟩ (c_initX l G q1 H3.size) ⟨rfl, rfl, Nat.le_of_ble_eq_true rfl, Nat.le_of_ble_eq_true rfl⟩ (ps bl_C (fun U hU hW => ⟨by rw [hU]; exact hP3.sub [20] rfl, hK.warm hW, by rw [hU]⟩)) (rest := [.ref q1]) hl.1 rfl (Nat.le_of_ble_eq_true rfl) ⟨Nat.le_of_ble_eq_true rfl, Nat.le_of_ble_eq_true rfl⟩ dL_law_12) hS3 (va_free hD3 hS3 hA [20] rfl) (fun c4 H4 L4 gP4 gD4 f4 hS4 => ?_)
  obtain ⟨jP4, jD4⟩ := va_join (wc := [(q1, .inr (3, [.null, .null, .null, .null, .null, .int 0]))]) (wr := wX G ao S0) hP3 hD3 [20] [0, 1, 2, 3, 4, 5, 6, 7, 8, 9, 10, 11, 12, 13, 14, 15, 16, 17, 18, 19] rfl rfl (by decide) (by decide) f4 (va_free hD3 hS3 hA [20] rfl) gP4 gD4
  obtain ⟨at9, hat⟩ : ∃ at9 : Nat → Nat, at9 = adC q1 c4 := ⟨_, rfl⟩
  have hP4 : va_P G.1 vwCl (wX G ao S0 ++ wX G at9 S0) H4 := by rw [hat]; exact jP4
  have hD4 : va_D (AL s) (wX G ao S0 ++ wX G at9 S0) := by rw [hat]; exact jD4
  have hq1 : q1 = at9 0 := by rw [hat]; rfl
  clear hat gP4 gD4 f4 hP3 hD3 jP4 jD4
  subst hq1
  refine lv_astore_n (lv' := [(2, .ref (at9 0)), (1, .ref (ao 0)), (0, .ref b)]) hx hb dL_law_15 rfl hl (by decide) rfl (fun ls hl => ?_)
  refine lv_bipush (v := 11) hx hb dL_law_16 (by decide) ?_
  refine k_newi S hK hP4 hD4 hS4 hA 11 (by decide) (by decide) (Nat.le_of_ble_eq_true rfl) (Nat.le_of_ble_eq_true rfl) (Nat.le_of_ble_eq_true rfl) dL_law_18 (fun qe H5 hP5 hD5 hS5 => ?_)
  refine lv_astore_n (lv' := [(3, .ref qe), (2, .ref (at9 0)), (1, .ref (ao 0)), (0, .ref b)]) hx hb dL_law_20 rfl hl (by decide) rfl (fun ls hl => ?_)
  refine lv_bipush (v := 12) hx hb dL_law_21 (by decide) ?_
  refine k_newi S hK hP5 hD5 hS5 hA 12 (by decide) (by decide) (Nat.le_of_ble_eq_true rfl) (Nat.le_of_ble_eq_true rfl) (Nat.le_of_ble_eq_true rfl) dL_law_23 (fun qp H6 hP6 hD6 hS6 => ?_)
  refine lv_astore (lv' := [(4, .ref qp), (3, .ref qe), (2, .ref (at9 0)), (1, .ref (ao 0)), (0, .ref b)]) hx hb dL_law_25 hl (by decide) rfl (fun ls hl => ?_)
  refine lv_bipush (v := 60) hx hb dL_law_27 (by decide) ?_
  refine k_newi S hK hP6 hD6 hS6 hA 60 (by decide) (by decide) (Nat.le_of_ble_eq_true rfl) (Nat.le_of_ble_eq_true rfl) (Nat.le_of_ble_eq_true rfl) dL_law_29 (fun qc H7 hP7 hD7 hS7 => ?_)
  refine lv_astore (lv' := [(5, .ref qc), (4, .ref qp), (3, .ref qe), (2, .ref (at9 0)), (1, .ref (ao 0)), (0, .ref b)]) hx hb dL_law_31 hl (by decide) rfl (fun ls hl => ?_)
  refine lv_bipush (v := 6) hx hb dL_law_33 (by decide) ?_
  refine k_newi S hK hP7 hD7 hS7 hA 6 (by decide) (by decide) (Nat.le_of_ble_eq_true rfl) (Nat.le_of_ble_eq_true rfl) (Nat.le_of_ble_eq_true rfl) dL_law_35 (fun qz H8 hP8 hD8 hS8 => ?_)
  refine lv_astore (lv' := [(6, .ref qz), (5, .ref qc), (4, .ref qp), (3, .ref qe), (2, .ref (at9 0)), (1, .ref (ao 0)), (0, .ref b)]) hx hb dL_law_37 hl (by decide) rfl (fun ls hl => ?_)
  refine lv_iconst (v := 3) hx hb dL_law_39 (by decide) ?_
  refine k_newi S hK hP8 hD8 hS8 hA 3 (by decide) (by decide) (Nat.le_of_ble_eq_true rfl) (Nat.le_of_ble_eq_true rfl) (Nat.le_of_ble_eq_true rfl) dL_law_40 (fun qg H9 hP9 hD9 hS9 => ?_)
  refine lv_astore (lv' := [(7, .ref qg), (6, .ref qz), (5, .ref qc), (4, .ref qp), (3, .ref qe), (2, .ref (at9 0)), (1, .ref (ao 0)), (0, .ref b)]) hx hb dL_law_42 hl (by decide) rfl (fun ls hl => ?_)
  obtain ⟨aa, haa⟩ : ∃ aa : Nat → Nat, aa = (fun i => match i with | 0 => qe | 1 => qp | 2 => qc | 3 => qz | _ => qg) := ⟨_, rfl⟩
  have hqe : qe = aa 0 := by rw [haa]; rfl
  have hqp : qp = aa 1 := by rw [haa]; rfl
  have hqc : qc = aa 2 := by rw [haa]; rfl
  have hqz : qz = aa 3 := by rw [haa]; rfl
  have hqg : qg = aa 4 := by rw [haa]; rfl
  clear haa
  subst hqe hqp hqc hqz hqg
  have hDD : DD 45 (AL s) (adQ ao at9 aa) := DD.of hD9 rfl
  exact K_law S hr hlocks hst hK hX hbl hL ⟨vx_Zqof (hts _ sx9lu) (hts _ sx9in) (flat_of_before _ hgv _ sx9ru) (fun a ha h => absurd ha (Nat.not_lt.mpr h)), vx_Zqof (hts _ sx9ls) (hts _ sx9in) (flat_of_before _ hgv _ sx9rs) (fun a ha h => absurd ha (Nat.not_lt.mpr h))⟩ hDD.1 (fun q h => by obtain ⟨i, hi, e⟩ := h; rw [e]; exact hDD.2 i hi) ⟨hP9.sub [0, 1, 2, 3, 4, 5, 6, 7, 8, 9, 10, 11, 12, 13, 14, 15, 16, 17, 18, 19] rfl, hP9.sub [20, 21, 22, 23, 24, 25, 26, 27, 28, 29, 30, 31, 32, 33, 34, 35, 36, 37, 38, 39] rfl, hP9.sub [40, 41, 42, 43, 44] rfl⟩ hS9 (lv_sub hl [7, 6, 5, 4, 3, 2, 1, 0] rfl)
