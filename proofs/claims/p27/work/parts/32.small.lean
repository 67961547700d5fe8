set_option maxHeartbeats 4000000 in
set_option maxRecDepth 100000 in
theorem kL_low (l : Launch) (v : Int32) (k : Nat) (h0 : 0 < k) (hk : k < 2 ^ 31) : Met l yL_low [.code yL_low cL_low 2 (some .int)] ({ frames := 1, cells := 0, slots := 0, locals := 40 }) (va_Pc [.int v, .int (nI k)] (fun U => GL U)) (vp_Si (fun r => ∃ j, j < k ∧ r = nI j)) 0 0 NF := by
  refine k_of (by decide) (Nat.le_of_ble_eq_true rfl) (fun U h => h) ?_
  intro p e s m below meth c ls S hr hlocks hmn hB hl
  have hx := S.1
  have hb := S.2.1
  have hS : va_S NF s.heap s.heap [] := va_S.rf
  have hG : GL s := hB
  have hl : lv_has ls 2 [(0, .int v), (1, .int (nI k))] := hl
  refine lv_iload_n hx hb dL_low_0 rfl (lv_at hl 0 rfl) ?_
  refine lv_ldc (v := 2147483647) hx hb S.2.2.2.1 (S.2.2.2.2 _ m_490) dL_low_1 ?_
  refine lv_iand hx hb dL_low_3 ?_
  refine lv_iload_n hx hb dL_low_4 rfl (lv_at hl 1 rfl) ?_
  refine lv_irem hx hb dL_low_5 (nI_nz h0 hk) ?_
  exact W.iret (v := (v &&& 2147483647) - (v &&& 2147483647) / (nI k) * (nI k)) hx hb hr (fun t9 ht hWz => ⟨_, rfl, low_V v h0 hk, ht⟩) hS.2.2 dL_low_6

set_option maxHeartbeats 4000000 in
set_option maxRecDepth 100000 in
theorem kL_size (l : Launch) (v : Int32) : Met l yL_size [.code yL_size cL_size 1 (some .int)] ({ frames := 1, cells := 0, slots := 0, locals := 40 }) (va_Pc [.int v] (fun U => GL U)) (vp_Si (fun r => r = szV v)) 0 0 NF := by
  refine k_of (by decide) (Nat.le_of_ble_eq_true rfl) (fun U h => h) ?_
  intro p e s m below meth c ls S hr hlocks hmn hB hl
  have hx := S.1
  have hb := S.2.1
  have hS : va_S NF s.heap s.heap [] := va_S.rf
  have hG : GL s := hB
  have hl : lv_has ls 1 [(0, .int v)] := hl
  refine lv_iload_n hx hb dL_size_0 rfl (lv_at hl 0 rfl) ?_
  refine lv_if_ge (tgt := 9) hx hb dL_size_1 (by decide) (fun cz => ?_) (fun cz => ?_)
  · skip
    refine lv_iload_n hx hb dL_size_9 rfl (lv_at hl 0 rfl) ?_
    exact W.iret (v := v) hx hb hr (fun t9 ht hWz => ⟨_, rfl, by unfold szV; rw [if_pos cz], ht⟩) hS.2.2 dL_size_10
  · skip
    refine lv_iload_n hx hb dL_size_4 rfl (lv_at hl 0 rfl) ?_
    refine lv_ineg hx hb dL_size_5 ?_
    refine lv_goto (tgt := 10) hx hb dL_size_6 (by decide) ?_
    exact W.iret (v := -v) hx hb hr (fun t9 ht hWz => ⟨_, rfl, by unfold szV; rw [if_neg cz], ht⟩) hS.2.2 dL_size_10

set_option maxHeartbeats 4000000 in
set_option maxRecDepth 100000 in
theorem kL_at (l : Launch) (b L : Nat) (xs : Nat → Int32) (k : Nat) (hk : k < 2 ^ 31) (hL : L < 2 ^ 31) : Met l yL_at [.code yL_at cL_at 2 (some .int)] ({ frames := 1, cells := 0, slots := 0, locals := 40 }) (va_Pc [.ref b, .int (nI k)] (fun U => va_X b L xs U U.heap ∧ b < U.heap.size ∧ GL U)) (vp_Si (fun r => True)) 0 0 NF := by
  refine k_of (by decide) (Nat.le_of_ble_eq_true rfl) (fun U h => h.2.2) ?_
  intro p e s m below meth c ls S hr hlocks hmn hB hl
  have hx := S.1
  have hb := S.2.1
  have hS : va_S NF s.heap s.heap [] := va_S.rf
  obtain ⟨hX, hbl, hG⟩ := hB
  have hl : lv_has ls 2 [(0, .ref b), (1, .int (nI k))] := hl
  refine lv_iload_n hx hb dL_at_0 rfl (lv_at hl 1 rfl) ?_
  refine lv_aload_n hx hb dL_at_1 rfl (lv_at hl 0 rfl) ?_
  refine va_slen hx hb hX hbl (fun z => z) hS dL_at_2 ?_
  refine lv_icmp_ge (tgt := 12) hx hb dL_at_3 (by decide) (fun cz => ?_) (fun cz => ?_)
  · skip
    refine lv_ldc (v := 1907616213) hx hb S.2.2.2.1 (S.2.2.2.2 _ m_208) dL_at_12 ?_
    refine lv_iload_n hx hb dL_at_14 rfl (lv_at hl 1 rfl) ?_
    refine lv_iconst (v := 1) hx hb dL_at_15 (by decide) ?_
    refine lv_iadd hx hb dL_at_16 ?_
    refine lv_imul hx hb dL_at_17 ?_
    refine lv_ldc (v := 801482823) hx hb S.2.2.2.1 (S.2.2.2.2 _ m_209) dL_at_18 ?_
    refine lv_iadd hx hb dL_at_20 ?_
    exact W.iret (v := (1907616213 * ((nI k) + 1)) + 801482823) hx hb hr (fun t9 ht hWz => ⟨_, rfl, trivial, ht⟩) hS.2.2 dL_at_21
  · skip
    refine lv_aload_n hx hb dL_at_6 rfl (lv_at hl 0 rfl) ?_
    refine lv_iload_n hx hb dL_at_7 rfl (lv_at hl 1 rfl) ?_
    have hkl : k < L := by
      rcases Nat.lt_or_ge k L with h9 | h9
      · exact h9
      · exact absurd (nI_le h9 hk) cz
    refine va_sld hx hb hX hbl (fun z => z) hS (vp_in_nI hkl hL) dL_at_8 ?_
    refine lv_goto (tgt := 21) hx hb dL_at_9 (by decide) ?_
    exact W.iret (v := xs ((nI k).toNatClampNeg)) hx hb hr (fun t9 ht hWz => ⟨_, rfl, trivial, ht⟩) hS.2.2 dL_at_21

set_option maxHeartbeats 4000000 in
set_option maxRecDepth 100000 in
theorem kL_print (l : Launch) (G : kG) (ad : Nat → Nat) (σ : kS) (nm ns : Nat) (hst : l.stackTraces = false) (hns : σ 18 0 = nI ns) (hns4 : ns ≤ 40) (hnm : σ 17 0 = nI nm) (hnm2 : nm ≤ 200) : Met l yL_print [.code yL_print cL_print 4 (some .long)] ({ frames := 9, cells := 120, slots := 720, locals := 190 }) (va_Pc [.ref (ad 0)] (fun U => PX G ad σ U U.heap ∧ ZS U U.heap)) (oWl NF (fun r => r = prV σ nm ns 60)) 120 720 NF := by
  refine k_of (by decide) (Nat.le_of_ble_eq_true rfl) (fun U h => h.1.2.2) ?_
  intro p e s m below meth c ls S hr hlocks hmn hB hl
  have hx := S.1
  have hb := S.2.1
  obtain ⟨hX, hZ⟩ := hB
  have hS : va_S NF s.heap s.heap [] := va_S.rf
  have hl : lv_has ls 4 [(0, .ref (ad 0))] := hl
  have L8 : ∀ (n9 i : Nat), i ≤ 60 → 60 + 1 ≤ i + n9 → ∀ (H9 : Heap) (L9 : List Loc), PX G ad σ s H9 → ZS s H9 → va_S (NF) s.heap H9 L9 → ∀ ls, lv_has ls 4 [(0, .ref (ad 0)), (1, .long (prV σ nm ns i)), (3, .int (nI i))] → W p l e (({ frames := 9, cells := 120, slots := 720, locals := 190 }) : Room) s m [.ref (ad 0)].toArray below meth c H9 L9 (0 + 2 * i) (0 + 12 * i) (MQ below (oWl NF (fun r => r = prV σ nm ns 60)) [.ref (ad 0)].toArray s 120 720 NF) (F0 m 8 ls []) := by
    intro n9
    induction n9 with
    | zero =>
      intro i h1 h2
      omega
    | succ n9 ihL8 =>
      intro i hii hini  H9 L9 hX hZ hS ls hl
      refine lv_iload_n hx hb dL_print_8 rfl (lv_at hl 2 rfl) ?_
      refine lv_bipush (v := 60) hx hb dL_print_9 (by decide) ?_
      refine lv_icmp_ge (tgt := 38) hx hb dL_print_11 (by decide) (fun cz => ?_) (fun cz => ?_)
      · skip
        have hge : i = 60 := by
          have h9 := cz
          rw [show (60 : Int32) = nI 60 from rfl, nI_leI (by decide) (by omega)] at h9
          omega
        refine lv_lload_n hx hb dL_print_38 rfl (lv_at hl 1 rfl) ?_
        refine W.widen (k := 120) (n := 720) (by first | omega | exact Nat.le_of_ble_eq_true rfl) (by first | omega | exact Nat.le_of_ble_eq_true rfl) ?_
        exact W.lret (v := prV σ nm ns i) hx hb hr (fun t9 ht hWz => ⟨⟨_, rfl, by rw [hge]⟩, hS.F ht⟩) hS.2.2 dL_print_39
      · skip
        have hlt : i < 60 := by
          rcases Nat.lt_or_ge i 60 with h9 | h9
          · exact h9
          · exact absurd (nI_le (a := 60) h9 (by omega)) cz
        refine lv_ldc2 (v := 1000003) hx hb S.2.2.2.1 (S.2.2.2.2 _ m_305) dL_print_14 ?_
        refine lv_lload_n hx hb dL_print_17 rfl (lv_at hl 1 rfl) ?_
        refine lv_lmul hx hb dL_print_18 ?_
        refine lv_aload_n hx hb dL_print_19 rfl (lv_at hl 0 rfl) ?_
        refine lv_iload_n hx hb dL_print_20 rfl (lv_at hl 2 rfl) ?_
        refine lv_iconst (v := 5) hx hb dL_print_21 (by decide) ?_
        refine lv_idiv hx hb dL_print_22 (by decide) ?_
        refine k_eq (y := nI (i / 5)) (pk_div (a := i) (d := 5) (by omega) (by decide) (by decide)) ?_
        refine lv_iload_n hx hb dL_print_23 rfl (lv_at hl 2 rfl) ?_
        refine lv_iconst (v := 5) hx hb dL_print_24 (by decide) ?_
        refine lv_irem hx hb dL_print_25 (by decide) ?_
        refine k_eq (y := nI (i % 5)) (pk_rem (a := i) (d := 5) (by omega) (by decide) (by decide)) ?_
        refine q_wx (rx_SX S ⟨m_306, m_307, m_22, m_308⟩ ⟨rfl, by decide, by decide, by decide +kernel⟩ (kL_book l G ad σ nm ns (nI (i / 5)) (nI (i % 5)) hst hns hns4 hnm hnm2) ⟨rfl, rfl, Nat.le_of_ble_eq_true rfl, Nat.le_of_ble_eq_true rfl⟩ (ps bl_PXZ (bXZ hX hZ)) (n := 3) (As := [.ref (ad 0), .int (nI (i / 5)), .int (nI (i % 5))]) (rest := [.long (1000003 * (prV σ nm ns i))]) rfl hl.1 rfl (Nat.le_of_ble_eq_true rfl) ⟨by show _ ≤ (120 : Nat); omega, by show _ ≤ (720 : Nat); omega⟩ dL_print_26) hS (fun _ h => h.elim) (fun rq2 Hq2 Lq2 eq2 gq2 fq2 hSq2 => ?_)
        subst eq2
        have hXq2 : PX G ad σ s Hq2 := ⟨kp hX.1 (fun q z => fq2 q z (fun y => y)), hX.2⟩
        have hZq2 : ZS s Hq2 := ⟨hZ.1.kept fq2, hZ.2.kept fq2⟩
        refine k_eq (y := boV σ nm ns (nI (i / 5)) (i % 5) (σ 16 0)) (tV_book (by omega) (by omega)) ?_
        refine lv_i2l (v := ((boV σ nm ns (nI (i / 5)) (i % 5) (σ 16 0)) : Int32).toInt64) hx hb dL_print_29 rfl ?_
        refine lv_ladd hx hb dL_print_30 ?_
        refine k_eql (y := prV σ nm ns (i + 1)) (rfl) ?_
        refine lv_lstore_n (lv' := [(1, .long (prV σ nm ns (i + 1))), (0, .ref (ad 0)), (3, .int (nI i))]) hx hb dL_print_31 rfl hl (by decide) rfl (fun ls hl => ?_)
        refine lv_iinc (v := nI (i + 1)) (lv' := [(3, .int (nI (i + 1))), (1, .long (prV σ nm ns (i + 1))), (0, .ref (ad 0))]) hx hb dL_print_32 hl (k := 2) rfl (nI_1 i) (by decide) rfl (fun ls hl => ?_)
        refine lv_goto (tgt := 8) hx hb dL_print_35 (by decide) ?_
        refine W.widen (k := 0 + 2 * (i + 1)) (n := 0 + 12 * (i + 1)) (by omega) (by omega) ?_
        exact ihL8 (i + 1) hlt (by omega) Hq2 Lq2 hXq2 hZq2 hSq2 ls (lv_sub hl [2, 1, 0] rfl)
  refine lv_aload_n hx hb dL_print_0 rfl (lv_at hl 0 rfl) ?_
  refine q_i (r_V S ⟨m_150, m_151, m_152, m_23, m_153⟩ ⟨rfl, by decide, by decide, by decide +kernel⟩ (c_now l G ad σ) ⟨rfl, rfl, Nat.le_of_ble_eq_true rfl, Nat.le_of_ble_eq_true rfl⟩ (pv_X hX 0 rfl rfl bl_PX (bX hX)) (n := 0) (As := []) (rest := []) rfl hl.1 rfl (Nat.le_of_ble_eq_true rfl) ⟨Nat.le_of_ble_eq_true rfl, Nat.le_of_ble_eq_true rfl⟩ dL_print_1) (fun rq3 eq3 => ?_)
  subst eq3
  refine lv_i2l (v := ((σ 16 0) : Int32).toInt64) hx hb dL_print_4 rfl ?_
  refine lv_lstore_n (lv' := [(1, .long (((σ 16 0) : Int32).toInt64)), (0, .ref (ad 0))]) hx hb dL_print_5 rfl hl (by decide) rfl (fun ls hl => ?_)
  refine lv_iconst (v := 0) hx hb dL_print_6 (by decide) ?_
  refine lv_istore_n (lv' := [(3, .int 0), (1, .long (((σ 16 0) : Int32).toInt64)), (0, .ref (ad 0))]) hx hb dL_print_7 rfl hl (by decide) rfl (fun ls hl => ?_)
  exact L8 61 0 (Nat.zero_le _) (by omega) s.heap _ hX hZ hS ls (lv_sub hl [2, 1, 0] rfl)
