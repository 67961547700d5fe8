set_option maxHeartbeats 4000000 in
set_option maxRecDepth 100000 in
theorem kL_signs (l : Launch) (G : kG) (o t a : Nat → Nat) (σ α : kS) (nm ns n N S9 k i pe : Nat) (hst : l.stackTraces = false) (hJ : JQ o t a) (hI : Inv σ α nm ns n N S9) (hn : n ≤ 110) (hk : k < ns) (hi : i < 5) (hpe : pe < 6) : Met l yL_signs [.code yL_signs cL_signs 13 (some .boolean)] ({ frames := 10, cells := 36, slots := 216, locals := 215 }) (va_Pc [.ref (o 0), .ref (t 0), .ref (a 0), .ref (a 1), .ref (a 2), .ref (a 3), .int (nI k), .int (nI i), .int (nI pe)] (PQ G o t a σ σ α)) (oW (AQ o t a) (fun r => r = 1) (fun H9 => WI G o t a (n + 1) H9)) 36 216 (AQ o t a) := by
  refine k_of (by decide) (Nat.le_of_ble_eq_true rfl) (fun U h => h.2.1.2) ?_
  intro p e s m below meth c ls S hr hlocks hmn hB hl
  have hx := S.1
  have hb := S.2.1
  obtain ⟨hW, hK, hZ0⟩ := hB
  have hS : va_S (AQ o t a) s.heap s.heap [] := va_S.rf
  have hC := hI.1
  have hA := hI.2
  have hns := hC.hns
  have hns4 : ns ≤ 40 := by have := hC.ns12; omega
  have hnm := hC.hnm
  have hnm2 : nm ≤ 200 := by have := hC.nmn; omega
  have hN31 : N < 2 ^ 31 := by have := hC.Nn; omega
  have hns12 := hC.ns12
  obtain ⟨pl, hpl, hpl2⟩ := hC.pls k
  obtain ⟨cu, hcu, hcu2⟩ := hC.cut k
  have hl : lv_has ls 13 [(0, .ref (o 0)), (1, .ref (t 0)), (2, .ref (a 0)), (3, .ref (a 1)), (4, .ref (a 2)), (5, .ref (a 3)), (6, .int (nI k)), (7, .int (nI i)), (8, .int (nI pe))] := hl
  rcases hC.ag2 (k := k * 5 + i) (by omega) with ⟨g1, g2⟩ | ⟨q9, hq9, g1, g2⟩
  · skip
    refine lv_aload_n hx hb dL_signs_0 rfl (lv_at hl 0 rfl) ?_
    refine lv_iload hx hb dL_signs_1 (lv_at hl 6 rfl) ?_
    refine lv_iload hx hb dL_signs_3 (lv_at hl 7 rfl) ?_
    refine q_wx (rx_SX S ⟨m_366, m_367, m_22, m_368⟩ ⟨rfl, by decide, by decide, by decide +kernel⟩ (kL_gap l G o σ nm ns (nI k) (nI i) hst hns hns4 hnm hnm2) ⟨rfl, rfl, Nat.le_of_ble_eq_true rfl, Nat.le_of_ble_eq_true rfl⟩ (ps bl_PXZ (bXZ (hW.xo hK) ((hZ0.at hS (fun _ h => h)).zs))) (n := 3) (As := [.ref (o 0), .int (nI k), .int (nI i)]) (rest := []) rfl hl.1 rfl (Nat.le_of_ble_eq_true rfl) ⟨Nat.le_of_ble_eq_true rfl, Nat.le_of_ble_eq_true rfl⟩ dL_signs_5) hS (fun _ h => h.elim) (fun rq1 Hq1 Lq1 eq1 gq1 fq1 hSq1 => ?_)
    subst eq1
    have hWq1 := hW.rd fq1
    refine k_eq (y := (-1000002)) (hcV_4 (eN_gap hns hns4 hk hi g2)) ?_
    refine lv_istore (lv' := [(9, .int (-1000002)), (0, .ref (o 0)), (1, .ref (t 0)), (2, .ref (a 0)), (3, .ref (a 1)), (4, .ref (a 2)), (5, .ref (a 3)), (6, .int (nI k)), (7, .int (nI i)), (8, .int (nI pe))]) hx hb dL_signs_8 hl (by decide) rfl (fun ls hl => ?_)
    refine lv_aload hx hb dL_signs_10 (lv_at hl 5 rfl) ?_
    refine lv_iconst (v := 5) hx hb dL_signs_12 (by decide) ?_
    refine lv_iload hx hb dL_signs_13 (lv_at hl 7 rfl) ?_
    refine lv_imul hx hb dL_signs_15 ?_
    refine k_eq (y := nI (5 * k)) (pk_mul 5 k) ?_
    refine lv_iload hx hb dL_signs_16 (lv_at hl 8 rfl) ?_
    refine lv_iadd hx hb dL_signs_18 ?_
    refine k_eq (y := nI (5 * k + i)) (nI_add (5 * k) i) ?_
    refine k_ldQ S hK hWq1 2 (by decide) (i := (5 * k + i)) (show (5 * k + i) < 60 by omega) dL_signs_19 ?_
    refine k_eq (y := σ 13 (k * 5 + i)) ((by rw [hA.ac (5 * k + i) (by omega), Nat.mul_comm 5 k])) ?_
    refine lv_if_lt (tgt := 71) hx hb dL_signs_20 (by decide) (fun c20_2 => ?_) (fun c20_2 => absurd (by rw [g1]; decide) c20_2)
    refine lv_iconst (v := 0) hx hb dL_signs_71 (by decide) ?_
    refine lv_istore (lv' := [(10, .int 0), (9, .int (-1000002)), (0, .ref (o 0)), (1, .ref (t 0)), (2, .ref (a 0)), (3, .ref (a 1)), (4, .ref (a 2)), (5, .ref (a 3)), (6, .int (nI k)), (7, .int (nI i)), (8, .int (nI pe))]) hx hb dL_signs_72 hl (by decide) rfl (fun ls hl => ?_)
    refine lv_aload hx hb dL_signs_74 (lv_at hl 6 rfl) ?_
    refine lv_iconst (v := 5) hx hb dL_signs_76 (by decide) ?_
    refine lv_iload hx hb dL_signs_77 (lv_at hl 8 rfl) ?_
    refine lv_imul hx hb dL_signs_79 ?_
    refine k_eq (y := nI (5 * k)) (pk_mul 5 k) ?_
    refine lv_iload hx hb dL_signs_80 (lv_at hl 9 rfl) ?_
    refine lv_iadd hx hb dL_signs_82 ?_
    refine k_eq (y := nI (5 * k + i)) (nI_add (5 * k) i) ?_
    refine k_ldQ S hK hWq1 2 (by decide) (i := (5 * k + i)) (show (5 * k + i) < 60 by omega) dL_signs_83 ?_
    refine k_eq (y := σ 13 (k * 5 + i)) ((by rw [hA.ac (5 * k + i) (by omega), Nat.mul_comm 5 k])) ?_
    refine lv_if_ge (tgt := 92) hx hb dL_signs_84 (by decide) (fun c84_3 => absurd c84_3 (by rw [g1]; decide)) (fun c84_3 => ?_)
    refine lv_ldc (v := (-1000002)) hx hb S.2.2.2.1 (S.2.2.2.2 _ m_394) dL_signs_87 ?_
    refine lv_goto (tgt := 104) hx hb dL_signs_89 (by decide) ?_
    refine lv_istore (lv' := [(11, .int (-1000002)), (10, .int 0), (9, .int (-1000002)), (0, .ref (o 0)), (1, .ref (t 0)), (2, .ref (a 0)), (3, .ref (a 1)), (4, .ref (a 2)), (5, .ref (a 3)), (6, .int (nI k)), (7, .int (nI i)), (8, .int (nI pe))]) hx hb dL_signs_104 hl (by decide) rfl (fun ls hl => ?_)
    refine lv_aload_n hx hb dL_signs_106 rfl (lv_at hl 3 rfl) ?_
    refine lv_iload hx hb dL_signs_107 (lv_at hl 9 rfl) ?_
    refine lv_iload hx hb dL_signs_109 (lv_at hl 10 rfl) ?_
    refine lv_iload hx hb dL_signs_111 (lv_at hl 11 rfl) ?_
    refine q_wx (rx_SX S ⟨m_395, m_396, m_22, m_397⟩ ⟨rfl, by decide, by decide, by decide +kernel⟩ (kL_sign l G o σ nm ns (nI k) (nI i) (nI pe) hst hns hns4 hnm hnm2 (AO o) hJ.dO) ⟨rfl, rfl, Nat.le_of_ble_eq_true rfl, Nat.le_of_ble_eq_true rfl⟩ (ps bl_PXZ (bXZ (hWq1.xo hK) ((hZ0.at hSq1 (fun _ h => h)).zs))) (n := 4) (As := [.ref (o 0), .int (nI k), .int (nI i), .int (nI pe)]) (rest := []) rfl hl.1 rfl (Nat.le_of_ble_eq_true rfl) ⟨Nat.le_of_ble_eq_true rfl, Nat.le_of_ble_eq_true rfl⟩ dL_signs_113) hSq1 (fun _ h => h.inO) (fun rq4 Hq4 Lq4 eq4 gq4 fq4 hSq4 => ?_)
    subst eq4
    rw [show (if eX_sign σ nm ns (nI k) (nI i) (nI pe) = 0 then (wrS σ (lnN (nI k) (nI i)) (gpV σ nm ns (ixN (nI k)) (ixN (nI i)))) else σ) = σ from if_neg (ne0 (k := 3) (eS_4 hns hns4 hk hi hpe g2))] at gq4
    have hWq4 := hWq1.wo hJ gq4 fq4
    refine k_eq (y := (-1000002)) (hcV_4 (eS_4 hns hns4 hk hi hpe g2)) ?_
    refine lv_iload hx hb dL_signs_116 (lv_at hl 0 rfl) ?_
    refine lv_icmp_ne (tgt := 155) hx hb dL_signs_118 (by decide) (fun c118_5 => absurd (by decide) c118_5) (fun c118_5 => ?_)
    refine lv_aload_n hx hb dL_signs_121 rfl (lv_at hl 4 rfl) ?_
    refine lv_iload hx hb dL_signs_122 (lv_at hl 9 rfl) ?_
    refine lv_iload hx hb dL_signs_124 (lv_at hl 10 rfl) ?_
    refine lv_iload hx hb dL_signs_126 (lv_at hl 11 rfl) ?_
    refine q_wx (rx_SX S ⟨m_395, m_396, m_22, m_397⟩ ⟨rfl, by decide, by decide, by decide +kernel⟩ (kL_sign l G t σ nm ns (nI k) (nI i) (nI pe) hst hns hns4 hnm hnm2 (AO t) hJ.dT) ⟨rfl, rfl, Nat.le_of_ble_eq_true rfl, Nat.le_of_ble_eq_true rfl⟩ (ps bl_PXZ (bXZ (hWq4.xt hK) ((hZ0.at hSq4 (fun _ h => h)).zs))) (n := 4) (As := [.ref (t 0), .int (nI k), .int (nI i), .int (nI pe)]) (rest := []) rfl hl.1 rfl (Nat.le_of_ble_eq_true rfl) ⟨Nat.le_of_ble_eq_true rfl, Nat.le_of_ble_eq_true rfl⟩ dL_signs_128) hSq4 (fun _ h => h.inT) (fun rq6 Hq6 Lq6 eq6 gq6 fq6 hSq6 => ?_)
    subst eq6
    rw [show (if eX_sign σ nm ns (nI k) (nI i) (nI pe) = 0 then (wrS σ (lnN (nI k) (nI i)) (gpV σ nm ns (ixN (nI k)) (ixN (nI i)))) else σ) = σ from if_neg (ne0 (k := 3) (eS_4 hns hns4 hk hi hpe g2))] at gq6
    have hWq6 := hWq4.wt hJ gq6 fq6
    refine k_eq (y := (-1000002)) (hcV_4 (eS_4 hns hns4 hk hi hpe g2)) ?_
    refine lv_iload hx hb dL_signs_131 (lv_at hl 0 rfl) ?_
    refine lv_icmp_ne (tgt := 155) hx hb dL_signs_133 (by decide) (fun c133_7 => absurd (by decide) c133_7) (fun c133_7 => ?_)
    refine lv_aload_n hx hb dL_signs_136 rfl (lv_at hl 3 rfl) ?_
    refine lv_iload hx hb dL_signs_137 (lv_at hl 9 rfl) ?_
    refine lv_iload hx hb dL_signs_139 (lv_at hl 10 rfl) ?_
    refine lv_bipush (v := 6) hx hb dL_signs_141 (by decide) ?_
    refine q_wx (rx_SX S ⟨m_395, m_396, m_22, m_397⟩ ⟨rfl, by decide, by decide, by decide +kernel⟩ (kL_sign l G o σ nm ns (nI k) (nI i) 6 hst hns hns4 hnm hnm2 (AO o) hJ.dO) ⟨rfl, rfl, Nat.le_of_ble_eq_true rfl, Nat.le_of_ble_eq_true rfl⟩ (ps bl_PXZ (bXZ (hWq6.xo hK) ((hZ0.at hSq6 (fun _ h => h)).zs))) (n := 4) (As := [.ref (o 0), .int (nI k), .int (nI i), .int 6]) (rest := []) rfl hl.1 rfl (Nat.le_of_ble_eq_true rfl) ⟨Nat.le_of_ble_eq_true rfl, Nat.le_of_ble_eq_true rfl⟩ dL_signs_143) hSq6 (fun _ h => h.inO) (fun rq8 Hq8 Lq8 eq8 gq8 fq8 hSq8 => ?_)
    subst eq8
    rw [show (if eX_sign σ nm ns (nI k) (nI i) 6 = 0 then (wrS σ (lnN (nI k) (nI i)) (gpV σ nm ns (ixN (nI k)) (ixN (nI i)))) else σ) = σ from if_neg (ne0 (k := 0) (eS_6 hns hns4 hk hi))] at gq8
    have hWq8 := hWq6.wo hJ gq8 fq8
    refine k_eq (y := (-1000001)) (hcV_1 (eS_6 hns hns4 hk hi)) ?_
    refine lv_ldc (v := (-1000001)) hx hb S.2.2.2.1 (S.2.2.2.2 _ m_294) dL_signs_146 ?_
    refine lv_icmp_ne (tgt := 155) hx hb dL_signs_148 (by decide) (fun c148_9 => absurd (by decide) c148_9) (fun c148_9 => ?_)
    refine lv_iconst (v := 1) hx hb dL_signs_151 (by decide) ?_
    refine lv_goto (tgt := 156) hx hb dL_signs_152 (by decide) ?_
    refine lv_istore (lv' := [(12, .int 1), (11, .int (-1000002)), (10, .int 0), (9, .int (-1000002)), (0, .ref (o 0)), (1, .ref (t 0)), (2, .ref (a 0)), (3, .ref (a 1)), (4, .ref (a 2)), (5, .ref (a 3)), (6, .int (nI k)), (7, .int (nI i)), (8, .int (nI pe))]) hx hb dL_signs_156 hl (by decide) rfl (fun ls hl => ?_)
    refine lv_iload hx hb dL_signs_158 (lv_at hl 2 rfl) ?_
    refine lv_if_ne (tgt := 166) hx hb dL_signs_160 (by decide) (fun c160_10 => absurd (by decide) c160_10) (fun c160_10 => ?_)
    refine lv_iload hx hb dL_signs_163 (lv_at hl 0 rfl) ?_
    refine W.widen (k := 36) (n := 216) (by first | omega | exact Nat.le_of_ble_eq_true rfl) (by first | omega | exact Nat.le_of_ble_eq_true rfl) ?_
    exact W.zret (v := 1) (ty := .boolean) hx hb hr (by first | rfl | exact bI_nar _) (fun t9 ht hWz => ⟨⟨_, rfl, rfl⟩, by rw [ht]; exact ⟨σ, α, hI.up.ri, hWq8⟩, hSq8.F ht⟩) hSq8.2.2 dL_signs_165
  · skip
    rcases (hC.st k).1 with e9 | e9
    · skip
      refine lv_aload_n hx hb dL_signs_0 rfl (lv_at hl 0 rfl) ?_
      refine lv_iload hx hb dL_signs_1 (lv_at hl 6 rfl) ?_
      refine lv_iload hx hb dL_signs_3 (lv_at hl 7 rfl) ?_
      refine q_wx (rx_SX S ⟨m_366, m_367, m_22, m_368⟩ ⟨rfl, by decide, by decide, by decide +kernel⟩ (kL_gap l G o σ nm ns (nI k) (nI i) hst hns hns4 hnm hnm2) ⟨rfl, rfl, Nat.le_of_ble_eq_true rfl, Nat.le_of_ble_eq_true rfl⟩ (ps bl_PXZ (bXZ (hW.xo hK) ((hZ0.at hS (fun _ h => h)).zs))) (n := 3) (As := [.ref (o 0), .int (nI k), .int (nI i)]) (rest := []) rfl hl.1 rfl (Nat.le_of_ble_eq_true rfl) ⟨Nat.le_of_ble_eq_true rfl, Nat.le_of_ble_eq_true rfl⟩ dL_signs_5) hS (fun _ h => h.elim) (fun rq11 Hq11 Lq11 eq11 gq11 fq11 hSq11 => ?_)
      subst eq11
      have hWq11 := hW.rd fq11
      refine k_eq (y := gpV σ nm ns k i) (tV_gap hns hns4 hk hi g2) ?_
      refine lv_istore (lv' := [(9, .int (gpV σ nm ns k i)), (0, .ref (o 0)), (1, .ref (t 0)), (2, .ref (a 0)), (3, .ref (a 1)), (4, .ref (a 2)), (5, .ref (a 3)), (6, .int (nI k)), (7, .int (nI i)), (8, .int (nI pe))]) hx hb dL_signs_8 hl (by decide) rfl (fun ls hl => ?_)
      refine lv_aload hx hb dL_signs_10 (lv_at hl 5 rfl) ?_
      refine lv_iconst (v := 5) hx hb dL_signs_12 (by decide) ?_
      refine lv_iload hx hb dL_signs_13 (lv_at hl 7 rfl) ?_
      refine lv_imul hx hb dL_signs_15 ?_
      refine k_eq (y := nI (5 * k)) (pk_mul 5 k) ?_
      refine lv_iload hx hb dL_signs_16 (lv_at hl 8 rfl) ?_
      refine lv_iadd hx hb dL_signs_18 ?_
      refine k_eq (y := nI (5 * k + i)) (nI_add (5 * k) i) ?_
      refine k_ldQ S hK hWq11 2 (by decide) (i := (5 * k + i)) (show (5 * k + i) < 60 by omega) dL_signs_19 ?_
      refine k_eq (y := σ 13 (k * 5 + i)) ((by rw [hA.ac (5 * k + i) (by omega), Nat.mul_comm 5 k])) ?_
      refine lv_if_lt (tgt := 71) hx hb dL_signs_20 (by decide) (fun c20_12 => absurd c20_12 (by rw [g1]; exact nI_pos (by omega))) (fun c20_12 => ?_)
      refine lv_aload_n hx hb dL_signs_23 rfl (lv_at hl 1 rfl) ?_
      refine lv_iload hx hb dL_signs_24 (lv_at hl 7 rfl) ?_
      refine q_wx (rx_SX S ⟨m_462, m_463, m_22, m_464⟩ ⟨rfl, by decide, by decide, by decide +kernel⟩ (kL_stateOf l G o σ nm ns (nI k) hst hns hns4 hnm hnm2) ⟨rfl, rfl, Nat.le_of_ble_eq_true rfl, Nat.le_of_ble_eq_true rfl⟩ (ps bl_PXZ (bXZ (hWq11.xo hK) ((hZ0.at hSq11 (fun _ h => h)).zs))) (n := 2) (As := [.ref (o 0), .int (nI k)]) (rest := []) rfl hl.1 rfl (Nat.le_of_ble_eq_true rfl) ⟨Nat.le_of_ble_eq_true rfl, Nat.le_of_ble_eq_true rfl⟩ dL_signs_26) hSq11 (fun _ h => h.elim) (fun rq13 Hq13 Lq13 eq13 gq13 fq13 hSq13 => ?_)
      subst eq13
      have hWq13 := hWq11.rd fq13
      refine k_eq (y := 0) (tV_st0 hns hns4 hk e9) ?_
      refine lv_iconst (v := 1) hx hb dL_signs_29 (by decide) ?_
      refine lv_icmp_ne (tgt := 71) hx hb dL_signs_30 (by decide) (fun c30_14 => ?_) (fun c30_14 => absurd c30_14 (by decide))
      refine lv_iconst (v := 0) hx hb dL_signs_71 (by decide) ?_
      refine lv_istore (lv' := [(10, .int 0), (9, .int (gpV σ nm ns k i)), (0, .ref (o 0)), (1, .ref (t 0)), (2, .ref (a 0)), (3, .ref (a 1)), (4, .ref (a 2)), (5, .ref (a 3)), (6, .int (nI k)), (7, .int (nI i)), (8, .int (nI pe))]) hx hb dL_signs_72 hl (by decide) rfl (fun ls hl => ?_)
      refine lv_aload hx hb dL_signs_74 (lv_at hl 6 rfl) ?_
      refine lv_iconst (v := 5) hx hb dL_signs_76 (by decide) ?_
      refine lv_iload hx hb dL_signs_77 (lv_at hl 8 rfl) ?_
      refine lv_imul hx hb dL_signs_79 ?_
      refine k_eq (y := nI (5 * k)) (pk_mul 5 k) ?_
      refine lv_iload hx hb dL_signs_80 (lv_at hl 9 rfl) ?_
      refine lv_iadd hx hb dL_signs_82 ?_
      refine k_eq (y := nI (5 * k + i)) (nI_add (5 * k) i) ?_
      refine k_ldQ S hK hWq13 2 (by decide) (i := (5 * k + i)) (show (5 * k + i) < 60 by omega) dL_signs_83 ?_
      refine k_eq (y := σ 13 (k * 5 + i)) ((by rw [hA.ac (5 * k + i) (by omega), Nat.mul_comm 5 k])) ?_
      refine lv_if_ge (tgt := 92) hx hb dL_signs_84 (by decide) (fun c84_15 => ?_) (fun c84_15 => absurd (by rw [g1]; exact nI_pos' (by omega)) c84_15)
      refine lv_iload hx hb dL_signs_92 (lv_at hl 0 rfl) ?_
      refine lv_if_eq (tgt := 102) hx hb dL_signs_94 (by decide) (fun c94_16 => ?_) (fun c94_16 => absurd (by decide) c94_16)
      refine lv_ldc (v := (-1000003)) hx hb S.2.2.2.1 (S.2.2.2.2 _ m_427) dL_signs_102 ?_
      refine lv_istore (lv' := [(11, .int (-1000003)), (10, .int 0), (9, .int (gpV σ nm ns k i)), (0, .ref (o 0)), (1, .ref (t 0)), (2, .ref (a 0)), (3, .ref (a 1)), (4, .ref (a 2)), (5, .ref (a 3)), (6, .int (nI k)), (7, .int (nI i)), (8, .int (nI pe))]) hx hb dL_signs_104 hl (by decide) rfl (fun ls hl => ?_)
      refine lv_aload_n hx hb dL_signs_106 rfl (lv_at hl 3 rfl) ?_
      refine lv_iload hx hb dL_signs_107 (lv_at hl 9 rfl) ?_
      refine lv_iload hx hb dL_signs_109 (lv_at hl 10 rfl) ?_
      refine lv_iload hx hb dL_signs_111 (lv_at hl 11 rfl) ?_
      refine q_wx (rx_SX S ⟨m_395, m_396, m_22, m_397⟩ ⟨rfl, by decide, by decide, by decide +kernel⟩ (kL_sign l G o σ nm ns (nI k) (nI i) (nI pe) hst hns hns4 hnm hnm2 (AO o) hJ.dO) ⟨rfl, rfl, Nat.le_of_ble_eq_true rfl, Nat.le_of_ble_eq_true rfl⟩ (ps bl_PXZ (bXZ (hWq13.xo hK) ((hZ0.at hSq13 (fun _ h => h)).zs))) (n := 4) (As := [.ref (o 0), .int (nI k), .int (nI i), .int (nI pe)]) (rest := []) rfl hl.1 rfl (Nat.le_of_ble_eq_true rfl) ⟨Nat.le_of_ble_eq_true rfl, Nat.le_of_ble_eq_true rfl⟩ dL_signs_113) hSq13 (fun _ h => h.inO) (fun rq17 Hq17 Lq17 eq17 gq17 fq17 hSq17 => ?_)
      subst eq17
      rw [show (if eX_sign σ nm ns (nI k) (nI i) (nI pe) = 0 then (wrS σ (lnN (nI k) (nI i)) (gpV σ nm ns (ixN (nI k)) (ixN (nI i)))) else σ) = σ from if_neg (ne0 (k := 2) (eS_3 hns hns4 hk hi hpe g2 (sg_st e9)))] at gq17
      have hWq17 := hWq13.wo hJ gq17 fq17
      refine k_eq (y := (-1000003)) (hcV_3 (eS_3 hns hns4 hk hi hpe g2 (sg_st e9))) ?_
      refine lv_iload hx hb dL_signs_116 (lv_at hl 0 rfl) ?_
      refine lv_icmp_ne (tgt := 155) hx hb dL_signs_118 (by decide) (fun c118_18 => absurd (by decide) c118_18) (fun c118_18 => ?_)
      refine lv_aload_n hx hb dL_signs_121 rfl (lv_at hl 4 rfl) ?_
      refine lv_iload hx hb dL_signs_122 (lv_at hl 9 rfl) ?_
      refine lv_iload hx hb dL_signs_124 (lv_at hl 10 rfl) ?_
      refine lv_iload hx hb dL_signs_126 (lv_at hl 11 rfl) ?_
      refine q_wx (rx_SX S ⟨m_395, m_396, m_22, m_397⟩ ⟨rfl, by decide, by decide, by decide +kernel⟩ (kL_sign l G t σ nm ns (nI k) (nI i) (nI pe) hst hns hns4 hnm hnm2 (AO t) hJ.dT) ⟨rfl, rfl, Nat.le_of_ble_eq_true rfl, Nat.le_of_ble_eq_true rfl⟩ (ps bl_PXZ (bXZ (hWq17.xt hK) ((hZ0.at hSq17 (fun _ h => h)).zs))) (n := 4) (As := [.ref (t 0), .int (nI k), .int (nI i), .int (nI pe)]) (rest := []) rfl hl.1 rfl (Nat.le_of_ble_eq_true rfl) ⟨Nat.le_of_ble_eq_true rfl, Nat.le_of_ble_eq_true rfl⟩ dL_signs_128) hSq17 (fun _ h => h.inT) (fun rq19 Hq19 Lq19 eq19 gq19 fq19 hSq19 => ?_)
      subst eq19
      rw [show (if eX_sign σ nm ns (nI k) (nI i) (nI pe) = 0 then (wrS σ (lnN (nI k) (nI i)) (gpV σ nm ns (ixN (nI k)) (ixN (nI i)))) else σ) = σ from if_neg (ne0 (k := 2) (eS_3 hns hns4 hk hi hpe g2 (sg_st e9)))] at gq19
      have hWq19 := hWq17.wt hJ gq19 fq19
      refine k_eq (y := (-1000003)) (hcV_3 (eS_3 hns hns4 hk hi hpe g2 (sg_st e9))) ?_
      refine lv_iload hx hb dL_signs_131 (lv_at hl 0 rfl) ?_
      refine lv_icmp_ne (tgt := 155) hx hb dL_signs_133 (by decide) (fun c133_20 => absurd (by decide) c133_20) (fun c133_20 => ?_)
      refine lv_aload_n hx hb dL_signs_136 rfl (lv_at hl 3 rfl) ?_
      refine lv_iload hx hb dL_signs_137 (lv_at hl 9 rfl) ?_
      refine lv_iload hx hb dL_signs_139 (lv_at hl 10 rfl) ?_
      refine lv_bipush (v := 6) hx hb dL_signs_141 (by decide) ?_
      refine q_wx (rx_SX S ⟨m_395, m_396, m_22, m_397⟩ ⟨rfl, by decide, by decide, by decide +kernel⟩ (kL_sign l G o σ nm ns (nI k) (nI i) 6 hst hns hns4 hnm hnm2 (AO o) hJ.dO) ⟨rfl, rfl, Nat.le_of_ble_eq_true rfl, Nat.le_of_ble_eq_true rfl⟩ (ps bl_PXZ (bXZ (hWq19.xo hK) ((hZ0.at hSq19 (fun _ h => h)).zs))) (n := 4) (As := [.ref (o 0), .int (nI k), .int (nI i), .int 6]) (rest := []) rfl hl.1 rfl (Nat.le_of_ble_eq_true rfl) ⟨Nat.le_of_ble_eq_true rfl, Nat.le_of_ble_eq_true rfl⟩ dL_signs_143) hSq19 (fun _ h => h.inO) (fun rq21 Hq21 Lq21 eq21 gq21 fq21 hSq21 => ?_)
      subst eq21
      rw [show (if eX_sign σ nm ns (nI k) (nI i) 6 = 0 then (wrS σ (lnN (nI k) (nI i)) (gpV σ nm ns (ixN (nI k)) (ixN (nI i)))) else σ) = σ from if_neg (ne0 (k := 0) (eS_6 hns hns4 hk hi))] at gq21
      have hWq21 := hWq19.wo hJ gq21 fq21
      refine k_eq (y := (-1000001)) (hcV_1 (eS_6 hns hns4 hk hi)) ?_
      refine lv_ldc (v := (-1000001)) hx hb S.2.2.2.1 (S.2.2.2.2 _ m_294) dL_signs_146 ?_
      refine lv_icmp_ne (tgt := 155) hx hb dL_signs_148 (by decide) (fun c148_22 => absurd (by decide) c148_22) (fun c148_22 => ?_)
      refine lv_iconst (v := 1) hx hb dL_signs_151 (by decide) ?_
      refine lv_goto (tgt := 156) hx hb dL_signs_152 (by decide) ?_
      refine lv_istore (lv' := [(12, .int 1), (11, .int (-1000003)), (10, .int 0), (9, .int (gpV σ nm ns k i)), (0, .ref (o 0)), (1, .ref (t 0)), (2, .ref (a 0)), (3, .ref (a 1)), (4, .ref (a 2)), (5, .ref (a 3)), (6, .int (nI k)), (7, .int (nI i)), (8, .int (nI pe))]) hx hb dL_signs_156 hl (by decide) rfl (fun ls hl => ?_)
      refine lv_iload hx hb dL_signs_158 (lv_at hl 2 rfl) ?_
      refine lv_if_ne (tgt := 166) hx hb dL_signs_160 (by decide) (fun c160_23 => absurd (by decide) c160_23) (fun c160_23 => ?_)
      refine lv_iload hx hb dL_signs_163 (lv_at hl 0 rfl) ?_
      refine W.widen (k := 36) (n := 216) (by first | omega | exact Nat.le_of_ble_eq_true rfl) (by first | omega | exact Nat.le_of_ble_eq_true rfl) ?_
      exact W.zret (v := 1) (ty := .boolean) hx hb hr (by first | rfl | exact bI_nar _) (fun t9 ht hWz => ⟨⟨_, rfl, rfl⟩, by rw [ht]; exact ⟨σ, α, hI.up.ri, hWq21⟩, hSq21.F ht⟩) hSq21.2.2 dL_signs_165
    · skip
      have e8 : ¬ σ 9 k = 0 := by rw [e9]; decide
      rcases bft (hsB σ (k * 5 + i)) with e | e
      · skip
        have hsg := sg_mk e8 g2 e
        refine lv_aload_n hx hb dL_signs_0 rfl (lv_at hl 0 rfl) ?_
        refine lv_iload hx hb dL_signs_1 (lv_at hl 6 rfl) ?_
        refine lv_iload hx hb dL_signs_3 (lv_at hl 7 rfl) ?_
        refine q_wx (rx_SX S ⟨m_366, m_367, m_22, m_368⟩ ⟨rfl, by decide, by decide, by decide +kernel⟩ (kL_gap l G o σ nm ns (nI k) (nI i) hst hns hns4 hnm hnm2) ⟨rfl, rfl, Nat.le_of_ble_eq_true rfl, Nat.le_of_ble_eq_true rfl⟩ (ps bl_PXZ (bXZ (hW.xo hK) ((hZ0.at hS (fun _ h => h)).zs))) (n := 3) (As := [.ref (o 0), .int (nI k), .int (nI i)]) (rest := []) rfl hl.1 rfl (Nat.le_of_ble_eq_true rfl) ⟨Nat.le_of_ble_eq_true rfl, Nat.le_of_ble_eq_true rfl⟩ dL_signs_5) hS (fun _ h => h.elim) (fun rq24 Hq24 Lq24 eq24 gq24 fq24 hSq24 => ?_)
        subst eq24
        have hWq24 := hW.rd fq24
        refine k_eq (y := gpV σ nm ns k i) (tV_gap hns hns4 hk hi g2) ?_
        refine lv_istore (lv' := [(9, .int (gpV σ nm ns k i)), (0, .ref (o 0)), (1, .ref (t 0)), (2, .ref (a 0)), (3, .ref (a 1)), (4, .ref (a 2)), (5, .ref (a 3)), (6, .int (nI k)), (7, .int (nI i)), (8, .int (nI pe))]) hx hb dL_signs_8 hl (by decide) rfl (fun ls hl => ?_)
        refine lv_aload hx hb dL_signs_10 (lv_at hl 5 rfl) ?_
        refine lv_iconst (v := 5) hx hb dL_signs_12 (by decide) ?_
        refine lv_iload hx hb dL_signs_13 (lv_at hl 7 rfl) ?_
        refine lv_imul hx hb dL_signs_15 ?_
        refine k_eq (y := nI (5 * k)) (pk_mul 5 k) ?_
        refine lv_iload hx hb dL_signs_16 (lv_at hl 8 rfl) ?_
        refine lv_iadd hx hb dL_signs_18 ?_
        refine k_eq (y := nI (5 * k + i)) (nI_add (5 * k) i) ?_
        refine k_ldQ S hK hWq24 2 (by decide) (i := (5 * k + i)) (show (5 * k + i) < 60 by omega) dL_signs_19 ?_
        refine k_eq (y := σ 13 (k * 5 + i)) ((by rw [hA.ac (5 * k + i) (by omega), Nat.mul_comm 5 k])) ?_
        refine lv_if_lt (tgt := 71) hx hb dL_signs_20 (by decide) (fun c20_25 => absurd c20_25 (by rw [g1]; exact nI_pos (by omega))) (fun c20_25 => ?_)
        refine lv_aload_n hx hb dL_signs_23 rfl (lv_at hl 1 rfl) ?_
        refine lv_iload hx hb dL_signs_24 (lv_at hl 7 rfl) ?_
        refine q_wx (rx_SX S ⟨m_462, m_463, m_22, m_464⟩ ⟨rfl, by decide, by decide, by decide +kernel⟩ (kL_stateOf l G o σ nm ns (nI k) hst hns hns4 hnm hnm2) ⟨rfl, rfl, Nat.le_of_ble_eq_true rfl, Nat.le_of_ble_eq_true rfl⟩ (ps bl_PXZ (bXZ (hWq24.xo hK) ((hZ0.at hSq24 (fun _ h => h)).zs))) (n := 2) (As := [.ref (o 0), .int (nI k)]) (rest := []) rfl hl.1 rfl (Nat.le_of_ble_eq_true rfl) ⟨Nat.le_of_ble_eq_true rfl, Nat.le_of_ble_eq_true rfl⟩ dL_signs_26) hSq24 (fun _ h => h.elim) (fun rq26 Hq26 Lq26 eq26 gq26 fq26 hSq26 => ?_)
        subst eq26
        have hWq26 := hWq24.rd fq26
        refine k_eq (y := 1) (tV_st1 hns hns4 hk e8) ?_
        refine lv_iconst (v := 1) hx hb dL_signs_29 (by decide) ?_
        refine lv_icmp_ne (tgt := 71) hx hb dL_signs_30 (by decide) (fun c30_27 => absurd (by decide) c30_27) (fun c30_27 => ?_)
        refine lv_aload_n hx hb dL_signs_33 rfl (lv_at hl 1 rfl) ?_
        refine lv_iload hx hb dL_signs_34 (lv_at hl 7 rfl) ?_
        refine lv_iload hx hb dL_signs_36 (lv_at hl 8 rfl) ?_
        refine q_wx (rx_SX S ⟨m_336, m_337, m_22, m_338⟩ ⟨rfl, by decide, by decide, by decide +kernel⟩ (kL_isSigned l G o σ nm ns (nI k) (nI i) hst hns hns4 hnm hnm2) ⟨rfl, rfl, Nat.le_of_ble_eq_true rfl, Nat.le_of_ble_eq_true rfl⟩ (ps bl_PXZ (bXZ (hWq26.xo hK) ((hZ0.at hSq26 (fun _ h => h)).zs))) (n := 3) (As := [.ref (o 0), .int (nI k), .int (nI i)]) (rest := []) rfl hl.1 rfl (Nat.le_of_ble_eq_true rfl) ⟨Nat.le_of_ble_eq_true rfl, Nat.le_of_ble_eq_true rfl⟩ dL_signs_38) hSq26 (fun _ h => h.elim) (fun rq28 Hq28 Lq28 eq28 gq28 fq28 hSq28 => ?_)
        subst eq28
        have hWq28 := hWq26.rd fq28
        refine k_eq (y := 0) ((tV_line hns hns4 hk hi (fun z => bI (hsB σ z))).trans (by rw [e]; rfl)) ?_
        refine lv_if_ne (tgt := 71) hx hb dL_signs_41 (by decide) (fun c41_29 => absurd (by decide) c41_29) (fun c41_29 => ?_)
        refine lv_aload_n hx hb dL_signs_44 rfl (lv_at hl 3 rfl) ?_
        refine lv_iload hx hb dL_signs_45 (lv_at hl 8 rfl) ?_
        refine k_ldQ S hK hWq28 0 (by decide) (i := i) (show i < 11 by omega) dL_signs_47 ?_
        refine k_eq (y := σ 0 i) (hA.ae i hi) ?_
        refine lv_i2l (v := ((σ 0 i) : Int32).toInt64) hx hb dL_signs_48 rfl ?_
        refine lv_iload hx hb dL_signs_49 (lv_at hl 0 rfl) ?_
        refine q_i (r_S S ⟨m_581, m_582, m_22, m_583⟩ ⟨rfl, by decide, by decide, by decide +kernel⟩ (kL_size l (gpV σ nm ns k i)) ⟨rfl, rfl, Nat.le_of_ble_eq_true rfl, Nat.le_of_ble_eq_true rfl⟩ (ps bl_GL (bG hK.2)) (n := 1) (As := [.int (gpV σ nm ns k i)]) (rest := [.long (((σ 0 i) : Int32).toInt64)]) rfl hl.1 rfl (Nat.le_of_ble_eq_true rfl) ⟨Nat.le_of_ble_eq_true rfl, Nat.le_of_ble_eq_true rfl⟩ dL_signs_51) (fun rq30 eq30 => ?_)
        subst eq30
        refine lv_i2l (v := ((szV (gpV σ nm ns k i)) : Int32).toInt64) hx hb dL_signs_54 rfl ?_
        refine lv_lmul hx hb dL_signs_55 ?_
        refine lv_aload_n hx hb dL_signs_56 rfl (lv_at hl 3 rfl) ?_
        refine lv_iconst (v := 5) hx hb dL_signs_57 (by decide) ?_
        refine lv_iload hx hb dL_signs_58 (lv_at hl 9 rfl) ?_
        refine lv_iadd hx hb dL_signs_60 ?_
        refine k_eq (y := nI (5 + pe)) (nI_add 5 pe) ?_
        refine k_ldQ S hK hWq28 0 (by decide) (i := (5 + pe)) (show (5 + pe) < 11 by omega) dL_signs_61 ?_
        refine k_eq (y := σ 1 pe) (hA.ab pe hpe) ?_
        refine lv_i2l (v := ((σ 1 pe) : Int32).toInt64) hx hb dL_signs_62 rfl ?_
        refine W.lcmp hx hb dL_signs_63 ?_
        refine lv_if_gt (tgt := 71) hx hb dL_signs_64 (by decide) (fun cg => ?_) (fun cg => ?_)
        · skip
          have hle := (hC.le_sg hn hk hi e pe).mp cg
          refine lv_iconst (v := 0) hx hb dL_signs_71 (by decide) ?_
          refine lv_istore (lv' := [(10, .int 0), (9, .int (gpV σ nm ns k i)), (0, .ref (o 0)), (1, .ref (t 0)), (2, .ref (a 0)), (3, .ref (a 1)), (4, .ref (a 2)), (5, .ref (a 3)), (6, .int (nI k)), (7, .int (nI i)), (8, .int (nI pe))]) hx hb dL_signs_72 hl (by decide) rfl (fun ls hl => ?_)
          refine lv_aload hx hb dL_signs_74 (lv_at hl 6 rfl) ?_
          refine lv_iconst (v := 5) hx hb dL_signs_76 (by decide) ?_
          refine lv_iload hx hb dL_signs_77 (lv_at hl 8 rfl) ?_
          refine lv_imul hx hb dL_signs_79 ?_
          refine k_eq (y := nI (5 * k)) (pk_mul 5 k) ?_
          refine lv_iload hx hb dL_signs_80 (lv_at hl 9 rfl) ?_
          refine lv_iadd hx hb dL_signs_82 ?_
          refine k_eq (y := nI (5 * k + i)) (nI_add (5 * k) i) ?_
          refine k_ldQ S hK hWq28 2 (by decide) (i := (5 * k + i)) (show (5 * k + i) < 60 by omega) dL_signs_83 ?_
          refine k_eq (y := σ 13 (k * 5 + i)) ((by rw [hA.ac (5 * k + i) (by omega), Nat.mul_comm 5 k])) ?_
          refine lv_if_ge (tgt := 92) hx hb dL_signs_84 (by decide) (fun c84_32 => ?_) (fun c84_32 => absurd (by rw [g1]; exact nI_pos' (by omega)) c84_32)
          refine lv_iload hx hb dL_signs_92 (lv_at hl 0 rfl) ?_
          refine lv_if_eq (tgt := 102) hx hb dL_signs_94 (by decide) (fun c94_33 => ?_) (fun c94_33 => absurd (by decide) c94_33)
          refine lv_ldc (v := (-1000003)) hx hb S.2.2.2.1 (S.2.2.2.2 _ m_427) dL_signs_102 ?_
          refine lv_istore (lv' := [(11, .int (-1000003)), (10, .int 0), (9, .int (gpV σ nm ns k i)), (0, .ref (o 0)), (1, .ref (t 0)), (2, .ref (a 0)), (3, .ref (a 1)), (4, .ref (a 2)), (5, .ref (a 3)), (6, .int (nI k)), (7, .int (nI i)), (8, .int (nI pe))]) hx hb dL_signs_104 hl (by decide) rfl (fun ls hl => ?_)
          refine lv_aload_n hx hb dL_signs_106 rfl (lv_at hl 3 rfl) ?_
          refine lv_iload hx hb dL_signs_107 (lv_at hl 9 rfl) ?_
          refine lv_iload hx hb dL_signs_109 (lv_at hl 10 rfl) ?_
          refine lv_iload hx hb dL_signs_111 (lv_at hl 11 rfl) ?_
          refine q_wx (rx_SX S ⟨m_395, m_396, m_22, m_397⟩ ⟨rfl, by decide, by decide, by decide +kernel⟩ (kL_sign l G o σ nm ns (nI k) (nI i) (nI pe) hst hns hns4 hnm hnm2 (AO o) hJ.dO) ⟨rfl, rfl, Nat.le_of_ble_eq_true rfl, Nat.le_of_ble_eq_true rfl⟩ (ps bl_PXZ (bXZ (hWq28.xo hK) ((hZ0.at hSq28 (fun _ h => h)).zs))) (n := 4) (As := [.ref (o 0), .int (nI k), .int (nI i), .int (nI pe)]) (rest := []) rfl hl.1 rfl (Nat.le_of_ble_eq_true rfl) ⟨Nat.le_of_ble_eq_true rfl, Nat.le_of_ble_eq_true rfl⟩ dL_signs_113) hSq28 (fun _ h => h.inO) (fun rq34 Hq34 Lq34 eq34 gq34 fq34 hSq34 => ?_)
          subst eq34
          rw [show (if eX_sign σ nm ns (nI k) (nI i) (nI pe) = 0 then (wrS σ (lnN (nI k) (nI i)) (gpV σ nm ns (ixN (nI k)) (ixN (nI i)))) else σ) = σ from if_neg (ne0 (k := 2) (eS_3b hns hns4 hk hi hpe hsg hle))] at gq34
          have hWq34 := hWq28.wo hJ gq34 fq34
          refine k_eq (y := (-1000003)) (hcV_3 (eS_3b hns hns4 hk hi hpe hsg hle)) ?_
          refine lv_iload hx hb dL_signs_116 (lv_at hl 0 rfl) ?_
          refine lv_icmp_ne (tgt := 155) hx hb dL_signs_118 (by decide) (fun c118_35 => absurd (by decide) c118_35) (fun c118_35 => ?_)
          refine lv_aload_n hx hb dL_signs_121 rfl (lv_at hl 4 rfl) ?_
          refine lv_iload hx hb dL_signs_122 (lv_at hl 9 rfl) ?_
          refine lv_iload hx hb dL_signs_124 (lv_at hl 10 rfl) ?_
          refine lv_iload hx hb dL_signs_126 (lv_at hl 11 rfl) ?_
          refine q_wx (rx_SX S ⟨m_395, m_396, m_22, m_397⟩ ⟨rfl, by decide, by decide, by decide +kernel⟩ (kL_sign l G t σ nm ns (nI k) (nI i) (nI pe) hst hns hns4 hnm hnm2 (AO t) hJ.dT) ⟨rfl, rfl, Nat.le_of_ble_eq_true rfl, Nat.le_of_ble_eq_true rfl⟩ (ps bl_PXZ (bXZ (hWq34.xt hK) ((hZ0.at hSq34 (fun _ h => h)).zs))) (n := 4) (As := [.ref (t 0), .int (nI k), .int (nI i), .int (nI pe)]) (rest := []) rfl hl.1 rfl (Nat.le_of_ble_eq_true rfl) ⟨Nat.le_of_ble_eq_true rfl, Nat.le_of_ble_eq_true rfl⟩ dL_signs_128) hSq34 (fun _ h => h.inT) (fun rq36 Hq36 Lq36 eq36 gq36 fq36 hSq36 => ?_)
          subst eq36
          rw [show (if eX_sign σ nm ns (nI k) (nI i) (nI pe) = 0 then (wrS σ (lnN (nI k) (nI i)) (gpV σ nm ns (ixN (nI k)) (ixN (nI i)))) else σ) = σ from if_neg (ne0 (k := 2) (eS_3b hns hns4 hk hi hpe hsg hle))] at gq36
          have hWq36 := hWq34.wt hJ gq36 fq36
          refine k_eq (y := (-1000003)) (hcV_3 (eS_3b hns hns4 hk hi hpe hsg hle)) ?_
          refine lv_iload hx hb dL_signs_131 (lv_at hl 0 rfl) ?_
          refine lv_icmp_ne (tgt := 155) hx hb dL_signs_133 (by decide) (fun c133_37 => absurd (by decide) c133_37) (fun c133_37 => ?_)
          refine lv_aload_n hx hb dL_signs_136 rfl (lv_at hl 3 rfl) ?_
          refine lv_iload hx hb dL_signs_137 (lv_at hl 9 rfl) ?_
          refine lv_iload hx hb dL_signs_139 (lv_at hl 10 rfl) ?_
          refine lv_bipush (v := 6) hx hb dL_signs_141 (by decide) ?_
          refine q_wx (rx_SX S ⟨m_395, m_396, m_22, m_397⟩ ⟨rfl, by decide, by decide, by decide +kernel⟩ (kL_sign l G o σ nm ns (nI k) (nI i) 6 hst hns hns4 hnm hnm2 (AO o) hJ.dO) ⟨rfl, rfl, Nat.le_of_ble_eq_true rfl, Nat.le_of_ble_eq_true rfl⟩ (ps bl_PXZ (bXZ (hWq36.xo hK) ((hZ0.at hSq36 (fun _ h => h)).zs))) (n := 4) (As := [.ref (o 0), .int (nI k), .int (nI i), .int 6]) (rest := []) rfl hl.1 rfl (Nat.le_of_ble_eq_true rfl) ⟨Nat.le_of_ble_eq_true rfl, Nat.le_of_ble_eq_true rfl⟩ dL_signs_143) hSq36 (fun _ h => h.inO) (fun rq38 Hq38 Lq38 eq38 gq38 fq38 hSq38 => ?_)
          subst eq38
          rw [show (if eX_sign σ nm ns (nI k) (nI i) 6 = 0 then (wrS σ (lnN (nI k) (nI i)) (gpV σ nm ns (ixN (nI k)) (ixN (nI i)))) else σ) = σ from if_neg (ne0 (k := 0) (eS_6 hns hns4 hk hi))] at gq38
          have hWq38 := hWq36.wo hJ gq38 fq38
          refine k_eq (y := (-1000001)) (hcV_1 (eS_6 hns hns4 hk hi)) ?_
          refine lv_ldc (v := (-1000001)) hx hb S.2.2.2.1 (S.2.2.2.2 _ m_294) dL_signs_146 ?_
          refine lv_icmp_ne (tgt := 155) hx hb dL_signs_148 (by decide) (fun c148_39 => absurd (by decide) c148_39) (fun c148_39 => ?_)
          refine lv_iconst (v := 1) hx hb dL_signs_151 (by decide) ?_
          refine lv_goto (tgt := 156) hx hb dL_signs_152 (by decide) ?_
          refine lv_istore (lv' := [(12, .int 1), (11, .int (-1000003)), (10, .int 0), (9, .int (gpV σ nm ns k i)), (0, .ref (o 0)), (1, .ref (t 0)), (2, .ref (a 0)), (3, .ref (a 1)), (4, .ref (a 2)), (5, .ref (a 3)), (6, .int (nI k)), (7, .int (nI i)), (8, .int (nI pe))]) hx hb dL_signs_156 hl (by decide) rfl (fun ls hl => ?_)
          refine lv_iload hx hb dL_signs_158 (lv_at hl 2 rfl) ?_
          refine lv_if_ne (tgt := 166) hx hb dL_signs_160 (by decide) (fun c160_40 => absurd (by decide) c160_40) (fun c160_40 => ?_)
          refine lv_iload hx hb dL_signs_163 (lv_at hl 0 rfl) ?_
          refine W.widen (k := 36) (n := 216) (by first | omega | exact Nat.le_of_ble_eq_true rfl) (by first | omega | exact Nat.le_of_ble_eq_true rfl) ?_
          exact W.zret (v := 1) (ty := .boolean) hx hb hr (by first | rfl | exact bI_nar _) (fun t9 ht hWz => ⟨⟨_, rfl, rfl⟩, by rw [ht]; exact ⟨σ, α, hI.up.ri, hWq38⟩, hSq38.F ht⟩) hSq38.2.2 dL_signs_165
        · skip
          have hle : σ 0 i * abV (gpV σ nm ns k i) ≤ σ 1 pe := Decidable.byContradiction (fun q => cg ((hC.le_sg hn hk hi e pe).mpr q))
          obtain ⟨σ1, hσ1⟩ : ∃ z, z = wrS σ (k * 5 + i) (gpV σ nm ns k i) := ⟨_, rfl⟩
          have hI1 := hI.sgn hn hk hi g2 e hpl hpl2 (gpV σ nm ns k i)
          rw [← hσ1] at hI1
          refine lv_iconst (v := 1) hx hb dL_signs_67 (by decide) ?_
          refine lv_goto (tgt := 72) hx hb dL_signs_68 (by decide) ?_
          refine lv_istore (lv' := [(10, .int 1), (9, .int (gpV σ nm ns k i)), (0, .ref (o 0)), (1, .ref (t 0)), (2, .ref (a 0)), (3, .ref (a 1)), (4, .ref (a 2)), (5, .ref (a 3)), (6, .int (nI k)), (7, .int (nI i)), (8, .int (nI pe))]) hx hb dL_signs_72 hl (by decide) rfl (fun ls hl => ?_)
          refine lv_aload hx hb dL_signs_74 (lv_at hl 6 rfl) ?_
          refine lv_iconst (v := 5) hx hb dL_signs_76 (by decide) ?_
          refine lv_iload hx hb dL_signs_77 (lv_at hl 8 rfl) ?_
          refine lv_imul hx hb dL_signs_79 ?_
          refine k_eq (y := nI (5 * k)) (pk_mul 5 k) ?_
          refine lv_iload hx hb dL_signs_80 (lv_at hl 9 rfl) ?_
          refine lv_iadd hx hb dL_signs_82 ?_
          refine k_eq (y := nI (5 * k + i)) (nI_add (5 * k) i) ?_
          refine k_ldQ S hK hWq28 2 (by decide) (i := (5 * k + i)) (show (5 * k + i) < 60 by omega) dL_signs_83 ?_
          refine k_eq (y := σ 13 (k * 5 + i)) ((by rw [hA.ac (5 * k + i) (by omega), Nat.mul_comm 5 k])) ?_
          refine lv_if_ge (tgt := 92) hx hb dL_signs_84 (by decide) (fun c84_41 => ?_) (fun c84_41 => absurd (by rw [g1]; exact nI_pos' (by omega)) c84_41)
          refine lv_iload hx hb dL_signs_92 (lv_at hl 0 rfl) ?_
          refine lv_if_eq (tgt := 102) hx hb dL_signs_94 (by decide) (fun c94_42 => absurd c94_42 (by decide)) (fun c94_42 => ?_)
          refine lv_iload hx hb dL_signs_97 (lv_at hl 1 rfl) ?_
          refine lv_goto (tgt := 104) hx hb dL_signs_99 (by decide) ?_
          refine lv_istore (lv' := [(11, .int (gpV σ nm ns k i)), (10, .int 1), (9, .int (gpV σ nm ns k i)), (0, .ref (o 0)), (1, .ref (t 0)), (2, .ref (a 0)), (3, .ref (a 1)), (4, .ref (a 2)), (5, .ref (a 3)), (6, .int (nI k)), (7, .int (nI i)), (8, .int (nI pe))]) hx hb dL_signs_104 hl (by decide) rfl (fun ls hl => ?_)
          refine lv_aload_n hx hb dL_signs_106 rfl (lv_at hl 3 rfl) ?_
          refine lv_iload hx hb dL_signs_107 (lv_at hl 9 rfl) ?_
          refine lv_iload hx hb dL_signs_109 (lv_at hl 10 rfl) ?_
          refine lv_iload hx hb dL_signs_111 (lv_at hl 11 rfl) ?_
          refine q_wx (rx_SX S ⟨m_395, m_396, m_22, m_397⟩ ⟨rfl, by decide, by decide, by decide +kernel⟩ (kL_sign l G o σ nm ns (nI k) (nI i) (nI pe) hst hns hns4 hnm hnm2 (AO o) hJ.dO) ⟨rfl, rfl, Nat.le_of_ble_eq_true rfl, Nat.le_of_ble_eq_true rfl⟩ (ps bl_PXZ (bXZ (hWq28.xo hK) ((hZ0.at hSq28 (fun _ h => h)).zs))) (n := 4) (As := [.ref (o 0), .int (nI k), .int (nI i), .int (nI pe)]) (rest := []) rfl hl.1 rfl (Nat.le_of_ble_eq_true rfl) ⟨Nat.le_of_ble_eq_true rfl, Nat.le_of_ble_eq_true rfl⟩ dL_signs_113) hSq28 (fun _ h => h.inO) (fun rq43 Hq43 Lq43 eq43 gq43 fq43 hSq43 => ?_)
          subst eq43
          rw [show (if eX_sign σ nm ns (nI k) (nI i) (nI pe) = 0 then (wrS σ (lnN (nI k) (nI i)) (gpV σ nm ns (ixN (nI k)) (ixN (nI i)))) else σ) = σ1 from (if_pos (eS_0 hns hns4 hk hi hpe hsg hle)).trans ((wr_ix (by omega) hi).trans hσ1.symm)] at gq43
          have hWq43 := hWq28.wo hJ gq43 fq43
          refine k_eq (y := gpV σ nm ns k i) (tV_sign (eS_0 hns hns4 hk hi hpe hsg hle) (by omega) hi) ?_
          refine lv_iload hx hb dL_signs_116 (lv_at hl 0 rfl) ?_
          refine lv_icmp_ne (tgt := 155) hx hb dL_signs_118 (by decide) (fun c118_44 => absurd rfl c118_44) (fun c118_44 => ?_)
          refine lv_aload_n hx hb dL_signs_121 rfl (lv_at hl 4 rfl) ?_
          refine lv_iload hx hb dL_signs_122 (lv_at hl 9 rfl) ?_
          refine lv_iload hx hb dL_signs_124 (lv_at hl 10 rfl) ?_
          refine lv_iload hx hb dL_signs_126 (lv_at hl 11 rfl) ?_
          refine q_wx (rx_SX S ⟨m_395, m_396, m_22, m_397⟩ ⟨rfl, by decide, by decide, by decide +kernel⟩ (kL_sign l G t σ nm ns (nI k) (nI i) (nI pe) hst hns hns4 hnm hnm2 (AO t) hJ.dT) ⟨rfl, rfl, Nat.le_of_ble_eq_true rfl, Nat.le_of_ble_eq_true rfl⟩ (ps bl_PXZ (bXZ (hWq43.xt hK) ((hZ0.at hSq43 (fun _ h => h)).zs))) (n := 4) (As := [.ref (t 0), .int (nI k), .int (nI i), .int (nI pe)]) (rest := []) rfl hl.1 rfl (Nat.le_of_ble_eq_true rfl) ⟨Nat.le_of_ble_eq_true rfl, Nat.le_of_ble_eq_true rfl⟩ dL_signs_128) hSq43 (fun _ h => h.inT) (fun rq45 Hq45 Lq45 eq45 gq45 fq45 hSq45 => ?_)
          subst eq45
          rw [show (if eX_sign σ nm ns (nI k) (nI i) (nI pe) = 0 then (wrS σ (lnN (nI k) (nI i)) (gpV σ nm ns (ixN (nI k)) (ixN (nI i)))) else σ) = σ1 from (if_pos (eS_0 hns hns4 hk hi hpe hsg hle)).trans ((wr_ix (by omega) hi).trans hσ1.symm)] at gq45
          have hWq45 := hWq43.wt hJ gq45 fq45
          refine k_eq (y := gpV σ nm ns k i) (tV_sign (eS_0 hns hns4 hk hi hpe hsg hle) (by omega) hi) ?_
          refine lv_iload hx hb dL_signs_131 (lv_at hl 0 rfl) ?_
          refine lv_icmp_ne (tgt := 155) hx hb dL_signs_133 (by decide) (fun c133_46 => absurd rfl c133_46) (fun c133_46 => ?_)
          refine lv_aload_n hx hb dL_signs_136 rfl (lv_at hl 3 rfl) ?_
          refine lv_iload hx hb dL_signs_137 (lv_at hl 9 rfl) ?_
          refine lv_iload hx hb dL_signs_139 (lv_at hl 10 rfl) ?_
          refine lv_bipush (v := 6) hx hb dL_signs_141 (by decide) ?_
          refine q_wx (rx_SX S ⟨m_395, m_396, m_22, m_397⟩ ⟨rfl, by decide, by decide, by decide +kernel⟩ (kL_sign l G o σ1 nm ns (nI k) (nI i) 6 hst hI1.1.hns hns4 hI1.1.hnm hnm2 (AO o) hJ.dO) ⟨rfl, rfl, Nat.le_of_ble_eq_true rfl, Nat.le_of_ble_eq_true rfl⟩ (ps bl_PXZ (bXZ (hWq45.xo hK) ((hZ0.at hSq45 (fun _ h => h)).zs))) (n := 4) (As := [.ref (o 0), .int (nI k), .int (nI i), .int 6]) (rest := []) rfl hl.1 rfl (Nat.le_of_ble_eq_true rfl) ⟨Nat.le_of_ble_eq_true rfl, Nat.le_of_ble_eq_true rfl⟩ dL_signs_143) hSq45 (fun _ h => h.inO) (fun rq47 Hq47 Lq47 eq47 gq47 fq47 hSq47 => ?_)
          subst eq47
          rw [show (if eX_sign σ1 nm ns (nI k) (nI i) 6 = 0 then (wrS σ1 (lnN (nI k) (nI i)) (gpV σ1 nm ns (ixN (nI k)) (ixN (nI i)))) else σ1) = σ1 from if_neg (ne0 (k := 0) (eS_6 hI1.1.hns hns4 hk hi))] at gq47
          have hWq47 := hWq45.wo hJ gq47 fq47
          refine k_eq (y := (-1000001)) (hcV_1 (eS_6 hI1.1.hns hns4 hk hi)) ?_
          refine lv_ldc (v := (-1000001)) hx hb S.2.2.2.1 (S.2.2.2.2 _ m_294) dL_signs_146 ?_
          refine lv_icmp_ne (tgt := 155) hx hb dL_signs_148 (by decide) (fun c148_48 => absurd (by decide) c148_48) (fun c148_48 => ?_)
          refine lv_iconst (v := 1) hx hb dL_signs_151 (by decide) ?_
          refine lv_goto (tgt := 156) hx hb dL_signs_152 (by decide) ?_
          refine lv_istore (lv' := [(12, .int 1), (11, .int (gpV σ nm ns k i)), (10, .int 1), (9, .int (gpV σ nm ns k i)), (0, .ref (o 0)), (1, .ref (t 0)), (2, .ref (a 0)), (3, .ref (a 1)), (4, .ref (a 2)), (5, .ref (a 3)), (6, .int (nI k)), (7, .int (nI i)), (8, .int (nI pe))]) hx hb dL_signs_156 hl (by decide) rfl (fun ls hl => ?_)
          refine lv_iload hx hb dL_signs_158 (lv_at hl 2 rfl) ?_
          refine lv_if_ne (tgt := 166) hx hb dL_signs_160 (by decide) (fun c160_49 => ?_) (fun c160_49 => absurd c160_49 (by decide))
          refine lv_aload hx hb dL_signs_166 (lv_at hl 9 rfl) ?_
          refine lv_iconst (v := 2) hx hb dL_signs_168 (by decide) ?_
          refine lv_aload_n hx hb dL_signs_169 rfl (lv_at hl 7 rfl) ?_
          refine lv_iload hx hb dL_signs_170 (lv_at hl 10 rfl) ?_
          refine k_ldQ S hK hWq47 1 (by decide) (i := k) (show k < 12 by omega) dL_signs_172 ?_
          refine k_eq (y := nI pl) ((by rw [hA.ap k hk]; exact hpl)) ?_
          refine lv_iconst (v := 4) hx hb dL_signs_173 (by decide) ?_
          refine lv_idiv hx hb dL_signs_174 (by decide) ?_
          refine k_eq (y := nI (pl / 4)) (pk_div (a := pl) (d := 4) (by omega) (by decide) (by decide)) ?_
          refine lv_imul hx hb dL_signs_175 ?_
          refine k_eq (y := nI (2 * (pl / 4))) (pk_mul 2 (pl / 4)) ?_
          refine lv_dup2_11 hx hb dL_signs_176 rfl rfl ?_
          refine k_ldQ S hK hWq47 3 (by decide) (i := (2 * (pl / 4))) (show (2 * (pl / 4)) < 6 by omega) dL_signs_177 ?_
          refine k_eq (y := (exF σ (nI (pl / 4)) ns).1) ((hA.az (pl / 4) (by omega)).1) ?_
          refine lv_iconst (v := 1) hx hb dL_signs_178 (by decide) ?_
          refine lv_iadd hx hb dL_signs_179 ?_
          refine k_stQ S hK hJ hWq47 hSq47 (fun _ h => h) 3 (by decide) (i := (2 * (pl / 4))) (show (2 * (pl / 4)) < 6 by omega) dL_signs_180 (fun Hq50 Lq50 hWq50 hSq50 => ?_)
          refine lv_aload hx hb dL_signs_181 (lv_at hl 9 rfl) ?_
          refine lv_iconst (v := 2) hx hb dL_signs_183 (by decide) ?_
          refine lv_aload_n hx hb dL_signs_184 rfl (lv_at hl 7 rfl) ?_
          refine lv_iload hx hb dL_signs_185 (lv_at hl 10 rfl) ?_
          refine k_ldQ S hK hWq50 1 (by decide) (i := k) (show k < 12 by omega) dL_signs_187 ?_
          refine k_eq (y := nI pl) ((by rw [su_ne (by decide), hA.ap k hk]; exact hpl)) ?_
          refine lv_iconst (v := 4) hx hb dL_signs_188 (by decide) ?_
          refine lv_idiv hx hb dL_signs_189 (by decide) ?_
          refine k_eq (y := nI (pl / 4)) (pk_div (a := pl) (d := 4) (by omega) (by decide) (by decide)) ?_
          refine lv_imul hx hb dL_signs_190 ?_
          refine k_eq (y := nI (2 * (pl / 4))) (pk_mul 2 (pl / 4)) ?_
          refine lv_iconst (v := 1) hx hb dL_signs_191 (by decide) ?_
          refine lv_iadd hx hb dL_signs_192 ?_
          refine k_eq (y := nI (2 * (pl / 4) + 1)) (nI_add (2 * (pl / 4)) 1) ?_
          refine lv_dup2_11 hx hb dL_signs_193 rfl rfl ?_
          refine k_ldQ S hK hWq50 3 (by decide) (i := (2 * (pl / 4) + 1)) (show (2 * (pl / 4) + 1) < 6 by omega) dL_signs_194 ?_
          refine k_eq (y := (exF σ (nI (pl / 4)) ns).2) ((by rw [su_nat (by omega)]; exact (hA.az (pl / 4) (by omega)).2)) ?_
          refine lv_iload hx hb dL_signs_195 (lv_at hl 3 rfl) ?_
          refine lv_if_ne (tgt := 204) hx hb dL_signs_197 (by decide) (fun c0 => ?_) (fun c0 => ?_)
          · skip
            refine lv_iconst (v := 0) hx hb dL_signs_204 (by decide) ?_
            refine lv_iadd hx hb dL_signs_205 ?_
            refine k_eq (y := (exF σ (nI (pl / 4)) ns).2 + (if gpV σ nm ns k i = 0 then 1 else 0)) ((by rw [if_neg c0])) ?_
            refine k_stQ S hK hJ hWq50 hSq50 (fun _ h => h) 3 (by decide) (i := (2 * (pl / 4) + 1)) (show (2 * (pl / 4) + 1) < 6 by omega) dL_signs_206 (fun Hq52 Lq52 hWq52 hSq52 => ?_)
            refine lv_iload hx hb dL_signs_207 (lv_at hl 0 rfl) ?_
            refine lv_if_eq (tgt := 270) hx hb dL_signs_209 (by decide) (fun c209_53 => absurd c209_53 (by decide)) (fun c209_53 => ?_)
            refine lv_aload_n hx hb dL_signs_212 rfl (lv_at hl 4 rfl) ?_
            refine lv_iload hx hb dL_signs_213 (lv_at hl 10 rfl) ?_
            refine lv_iload hx hb dL_signs_215 (lv_at hl 11 rfl) ?_
            refine q_wx (rx_SX S ⟨m_336, m_337, m_22, m_338⟩ ⟨rfl, by decide, by decide, by decide +kernel⟩ (kL_isSigned l G o σ1 nm ns (nI k) (nI i) hst hI1.1.hns hns4 hI1.1.hnm hnm2) ⟨rfl, rfl, Nat.le_of_ble_eq_true rfl, Nat.le_of_ble_eq_true rfl⟩ (ps bl_PXZ (bXZ (hWq52.xo hK) ((hZ0.at hSq52 (fun _ h => h)).zs))) (n := 3) (As := [.ref (o 0), .int (nI k), .int (nI i)]) (rest := []) rfl hl.1 rfl (Nat.le_of_ble_eq_true rfl) ⟨Nat.le_of_ble_eq_true rfl, Nat.le_of_ble_eq_true rfl⟩ dL_signs_217) hSq52 (fun _ h => h.elim) (fun rq54 Hq54 Lq54 eq54 gq54 fq54 hSq54 => ?_)
            subst eq54
            have hWq54 := hWq52.rd fq54
            refine k_eq (y := 1) ((tV_line hI1.1.hns hns4 hk hi (fun z => bI (hsB σ1 z))).trans (by rw [hσ1, hsB_t (by rw [wr_14]; exact hC.s19 (by omega))]; rfl)) ?_
            refine lv_iconst (v := 1) hx hb dL_signs_220 (by decide) ?_
            refine lv_icmp_ne (tgt := 270) hx hb dL_signs_221 (by decide) (fun c221_55 => absurd (by decide) c221_55) (fun c221_55 => ?_)
            refine lv_aload_n hx hb dL_signs_224 rfl (lv_at hl 4 rfl) ?_
            refine lv_iload hx hb dL_signs_225 (lv_at hl 10 rfl) ?_
            refine lv_iload hx hb dL_signs_227 (lv_at hl 11 rfl) ?_
            have ga : agB σ1 (k * 5 + i) = true := by rw [hσ1]; unfold agB; rw [wr_o (Or.inl (by decide))]; exact g2
            refine q_wx (rx_SX S ⟨m_366, m_367, m_22, m_368⟩ ⟨rfl, by decide, by decide, by decide +kernel⟩ (kL_gap l G o σ1 nm ns (nI k) (nI i) hst hI1.1.hns hns4 hI1.1.hnm hnm2) ⟨rfl, rfl, Nat.le_of_ble_eq_true rfl, Nat.le_of_ble_eq_true rfl⟩ (ps bl_PXZ (bXZ (hWq54.xo hK) ((hZ0.at hSq54 (fun _ h => h)).zs))) (n := 3) (As := [.ref (o 0), .int (nI k), .int (nI i)]) (rest := []) rfl hl.1 rfl (Nat.le_of_ble_eq_true rfl) ⟨Nat.le_of_ble_eq_true rfl, Nat.le_of_ble_eq_true rfl⟩ dL_signs_229) hSq54 (fun _ h => h.elim) (fun rq56 Hq56 Lq56 eq56 gq56 fq56 hSq56 => ?_)
            subst eq56
            have hWq56 := hWq54.rd fq56
            refine k_eq (y := gpV σ nm ns k i) ((tV_gap hI1.1.hns hns4 hk hi ga).trans (by rw [hσ1]; unfold gpV; rw [if_pos (hsB_t (by rw [wr_14]; exact hC.s19 (by omega))), wr_15])) ?_
            refine lv_iload hx hb dL_signs_232 (lv_at hl 3 rfl) ?_
            refine lv_icmp_ne (tgt := 270) hx hb dL_signs_234 (by decide) (fun c234_57 => absurd rfl c234_57) (fun c234_57 => ?_)
            refine lv_aload_n hx hb dL_signs_237 rfl (lv_at hl 4 rfl) ?_
            refine lv_aload_n hx hb dL_signs_238 rfl (lv_at hl 7 rfl) ?_
            refine lv_iload hx hb dL_signs_239 (lv_at hl 10 rfl) ?_
            refine k_ldQ S hK hWq56 1 (by decide) (i := k) (show k < 12 by omega) dL_signs_241 ?_
            refine k_eq (y := nI pl) ((by rw [su_ne (by decide), su_ne (by decide), hA.ap k hk]; exact hpl)) ?_
            refine lv_iload hx hb dL_signs_242 (lv_at hl 11 rfl) ?_
            refine lv_aload_n hx hb dL_signs_244 rfl (lv_at hl 4 rfl) ?_
            refine lv_iload hx hb dL_signs_245 (lv_at hl 10 rfl) ?_
            refine q_wx (rx_SX S ⟨m_428, m_429, m_22, m_430⟩ ⟨rfl, by decide, by decide, by decide +kernel⟩ (kL_cutOf l G o σ1 nm ns (nI k) hst hI1.1.hns hns4 hI1.1.hnm hnm2) ⟨rfl, rfl, Nat.le_of_ble_eq_true rfl, Nat.le_of_ble_eq_true rfl⟩ (ps bl_PXZ (bXZ (hWq56.xo hK) ((hZ0.at hSq56 (fun _ h => h)).zs))) (n := 2) (As := [.ref (o 0), .int (nI k)]) (rest := [.int (nI i), .int (nI pl), .ref (o 0)]) rfl hl.1 rfl (Nat.le_of_ble_eq_true rfl) ⟨Nat.le_of_ble_eq_true rfl, Nat.le_of_ble_eq_true rfl⟩ dL_signs_247) hSq56 (fun _ h => h.elim) (fun rq58 Hq58 Lq58 eq58 gq58 fq58 hSq58 => ?_)
            subst eq58
            have hWq58 := hWq56.rd fq58
            refine k_eq (y := nI cu) ((tV_cut hI1.1.hns hns4 hk).trans (by rw [hσ1, wr_o (Or.inl (by decide))]; exact hcu)) ?_
            refine q_wx (rx_SX S ⟨m_435, m_436, m_22, m_437⟩ ⟨rfl, by decide, by decide, by decide +kernel⟩ (kL_bookAt l G o σ1 nm ns (nI pl) (nI i) (nI cu) hst hI1.1.hns hns4 hI1.1.hnm hnm2) ⟨rfl, rfl, Nat.le_of_ble_eq_true rfl, Nat.le_of_ble_eq_true rfl⟩ (ps bl_PXZ (bXZ (hWq58.xo hK) ((hZ0.at hSq58 (fun _ h => h)).zs))) (n := 4) (As := [.ref (o 0), .int (nI pl), .int (nI i), .int (nI cu)]) (rest := []) rfl hl.1 rfl (Nat.le_of_ble_eq_true rfl) ⟨Nat.le_of_ble_eq_true rfl, Nat.le_of_ble_eq_true rfl⟩ dL_signs_250) hSq58 (fun _ h => h.elim) (fun rq59 Hq59 Lq59 eq59 gq59 fq59 hSq59 => ?_)
            subst eq59
            have hWq59 := hWq58.rd fq59
            refine k_eq (y := σ 13 (k * 5 + i)) ((tV_bookAt hpl2 hi hI1.1.now hcu2 hN31).trans (by rw [hσ1]; exact hC.bo_sg (by omega) hk hi hpl hcu)) ?_
            refine lv_aload hx hb dL_signs_253 (lv_at hl 8 rfl) ?_
            refine lv_iconst (v := 5) hx hb dL_signs_255 (by decide) ?_
            refine lv_iload hx hb dL_signs_256 (lv_at hl 10 rfl) ?_
            refine lv_imul hx hb dL_signs_258 ?_
            refine k_eq (y := nI (5 * k)) (pk_mul 5 k) ?_
            refine lv_iload hx hb dL_signs_259 (lv_at hl 11 rfl) ?_
            refine lv_iadd hx hb dL_signs_261 ?_
            refine k_eq (y := nI (5 * k + i)) (nI_add (5 * k) i) ?_
            refine k_ldQ S hK hWq59 2 (by decide) (i := (5 * k + i)) (show (5 * k + i) < 60 by omega) dL_signs_262 ?_
            refine k_eq (y := σ 13 (k * 5 + i)) ((by rw [su_ne (by decide), su_ne (by decide), hA.ac (5 * k + i) (by omega), Nat.mul_comm 5 k])) ?_
            refine lv_icmp_ne (tgt := 270) hx hb dL_signs_263 (by decide) (fun c263_60 => absurd rfl c263_60) (fun c263_60 => ?_)
            refine lv_iconst (v := 1) hx hb dL_signs_266 (by decide) ?_
            refine lv_goto (tgt := 271) hx hb dL_signs_267 (by decide) ?_
            refine W.widen (k := 36) (n := 216) (by first | omega | exact Nat.le_of_ble_eq_true rfl) (by first | omega | exact Nat.le_of_ble_eq_true rfl) ?_
            exact W.zret (v := 1) (ty := .boolean) hx hb hr (by first | rfl | exact bI_nar _) (fun t9 ht hWz => ⟨⟨_, rfl, rfl⟩, by rw [ht]; exact ⟨σ1, su (su α 3 (2 * (pl / 4)) (((exF σ (nI (pl / 4)) ns).1) + 1)) 3 (2 * (pl / 4) + 1) ((exF σ (nI (pl / 4)) ns).2 + (if gpV σ nm ns k i = 0 then 1 else 0)), hI1.ri, hWq59⟩, hSq59.F ht⟩) hSq59.2.2 dL_signs_271
          · skip
            refine lv_iconst (v := 1) hx hb dL_signs_200 (by decide) ?_
            refine lv_goto (tgt := 205) hx hb dL_signs_201 (by decide) ?_
            refine lv_iadd hx hb dL_signs_205 ?_
            refine k_eq (y := (exF σ (nI (pl / 4)) ns).2 + (if gpV σ nm ns k i = 0 then 1 else 0)) ((by rw [if_pos c0])) ?_
            refine k_stQ S hK hJ hWq50 hSq50 (fun _ h => h) 3 (by decide) (i := (2 * (pl / 4) + 1)) (show (2 * (pl / 4) + 1) < 6 by omega) dL_signs_206 (fun Hq61 Lq61 hWq61 hSq61 => ?_)
            refine lv_iload hx hb dL_signs_207 (lv_at hl 0 rfl) ?_
            refine lv_if_eq (tgt := 270) hx hb dL_signs_209 (by decide) (fun c209_62 => absurd c209_62 (by decide)) (fun c209_62 => ?_)
            refine lv_aload_n hx hb dL_signs_212 rfl (lv_at hl 4 rfl) ?_
            refine lv_iload hx hb dL_signs_213 (lv_at hl 10 rfl) ?_
            refine lv_iload hx hb dL_signs_215 (lv_at hl 11 rfl) ?_
            refine q_wx (rx_SX S ⟨m_336, m_337, m_22, m_338⟩ ⟨rfl, by decide, by decide, by decide +kernel⟩ (kL_isSigned l G o σ1 nm ns (nI k) (nI i) hst hI1.1.hns hns4 hI1.1.hnm hnm2) ⟨rfl, rfl, Nat.le_of_ble_eq_true rfl, Nat.le_of_ble_eq_true rfl⟩ (ps bl_PXZ (bXZ (hWq61.xo hK) ((hZ0.at hSq61 (fun _ h => h)).zs))) (n := 3) (As := [.ref (o 0), .int (nI k), .int (nI i)]) (rest := []) rfl hl.1 rfl (Nat.le_of_ble_eq_true rfl) ⟨Nat.le_of_ble_eq_true rfl, Nat.le_of_ble_eq_true rfl⟩ dL_signs_217) hSq61 (fun _ h => h.elim) (fun rq63 Hq63 Lq63 eq63 gq63 fq63 hSq63 => ?_)
            subst eq63
            have hWq63 := hWq61.rd fq63
            refine k_eq (y := 1) ((tV_line hI1.1.hns hns4 hk hi (fun z => bI (hsB σ1 z))).trans (by rw [hσ1, hsB_t (by rw [wr_14]; exact hC.s19 (by omega))]; rfl)) ?_
            refine lv_iconst (v := 1) hx hb dL_signs_220 (by decide) ?_
            refine lv_icmp_ne (tgt := 270) hx hb dL_signs_221 (by decide) (fun c221_64 => absurd (by decide) c221_64) (fun c221_64 => ?_)
            refine lv_aload_n hx hb dL_signs_224 rfl (lv_at hl 4 rfl) ?_
            refine lv_iload hx hb dL_signs_225 (lv_at hl 10 rfl) ?_
            refine lv_iload hx hb dL_signs_227 (lv_at hl 11 rfl) ?_
            have ga : agB σ1 (k * 5 + i) = true := by rw [hσ1]; unfold agB; rw [wr_o (Or.inl (by decide))]; exact g2
            refine q_wx (rx_SX S ⟨m_366, m_367, m_22, m_368⟩ ⟨rfl, by decide, by decide, by decide +kernel⟩ (kL_gap l G o σ1 nm ns (nI k) (nI i) hst hI1.1.hns hns4 hI1.1.hnm hnm2) ⟨rfl, rfl, Nat.le_of_ble_eq_true rfl, Nat.le_of_ble_eq_true rfl⟩ (ps bl_PXZ (bXZ (hWq63.xo hK) ((hZ0.at hSq63 (fun _ h => h)).zs))) (n := 3) (As := [.ref (o 0), .int (nI k), .int (nI i)]) (rest := []) rfl hl.1 rfl (Nat.le_of_ble_eq_true rfl) ⟨Nat.le_of_ble_eq_true rfl, Nat.le_of_ble_eq_true rfl⟩ dL_signs_229) hSq63 (fun _ h => h.elim) (fun rq65 Hq65 Lq65 eq65 gq65 fq65 hSq65 => ?_)
            subst eq65
            have hWq65 := hWq63.rd fq65
            refine k_eq (y := gpV σ nm ns k i) ((tV_gap hI1.1.hns hns4 hk hi ga).trans (by rw [hσ1]; unfold gpV; rw [if_pos (hsB_t (by rw [wr_14]; exact hC.s19 (by omega))), wr_15])) ?_
            refine lv_iload hx hb dL_signs_232 (lv_at hl 3 rfl) ?_
            refine lv_icmp_ne (tgt := 270) hx hb dL_signs_234 (by decide) (fun c234_66 => absurd rfl c234_66) (fun c234_66 => ?_)
            refine lv_aload_n hx hb dL_signs_237 rfl (lv_at hl 4 rfl) ?_
            refine lv_aload_n hx hb dL_signs_238 rfl (lv_at hl 7 rfl) ?_
            refine lv_iload hx hb dL_signs_239 (lv_at hl 10 rfl) ?_
            refine k_ldQ S hK hWq65 1 (by decide) (i := k) (show k < 12 by omega) dL_signs_241 ?_
            refine k_eq (y := nI pl) ((by rw [su_ne (by decide), su_ne (by decide), hA.ap k hk]; exact hpl)) ?_
            refine lv_iload hx hb dL_signs_242 (lv_at hl 11 rfl) ?_
            refine lv_aload_n hx hb dL_signs_244 rfl (lv_at hl 4 rfl) ?_
            refine lv_iload hx hb dL_signs_245 (lv_at hl 10 rfl) ?_
            refine q_wx (rx_SX S ⟨m_428, m_429, m_22, m_430⟩ ⟨rfl, by decide, by decide, by decide +kernel⟩ (kL_cutOf l G o σ1 nm ns (nI k) hst hI1.1.hns hns4 hI1.1.hnm hnm2) ⟨rfl, rfl, Nat.le_of_ble_eq_true rfl, Nat.le_of_ble_eq_true rfl⟩ (ps bl_PXZ (bXZ (hWq65.xo hK) ((hZ0.at hSq65 (fun _ h => h)).zs))) (n := 2) (As := [.ref (o 0), .int (nI k)]) (rest := [.int (nI i), .int (nI pl), .ref (o 0)]) rfl hl.1 rfl (Nat.le_of_ble_eq_true rfl) ⟨Nat.le_of_ble_eq_true rfl, Nat.le_of_ble_eq_true rfl⟩ dL_signs_247) hSq65 (fun _ h => h.elim) (fun rq67 Hq67 Lq67 eq67 gq67 fq67 hSq67 => ?_)
            subst eq67
            have hWq67 := hWq65.rd fq67
            refine k_eq (y := nI cu) ((tV_cut hI1.1.hns hns4 hk).trans (by rw [hσ1, wr_o (Or.inl (by decide))]; exact hcu)) ?_
            refine q_wx (rx_SX S ⟨m_435, m_436, m_22, m_437⟩ ⟨rfl, by decide, by decide, by decide +kernel⟩ (kL_bookAt l G o σ1 nm ns (nI pl) (nI i) (nI cu) hst hI1.1.hns hns4 hI1.1.hnm hnm2) ⟨rfl, rfl, Nat.le_of_ble_eq_true rfl, Nat.le_of_ble_eq_true rfl⟩ (ps bl_PXZ (bXZ (hWq67.xo hK) ((hZ0.at hSq67 (fun _ h => h)).zs))) (n := 4) (As := [.ref (o 0), .int (nI pl), .int (nI i), .int (nI cu)]) (rest := []) rfl hl.1 rfl (Nat.le_of_ble_eq_true rfl) ⟨Nat.le_of_ble_eq_true rfl, Nat.le_of_ble_eq_true rfl⟩ dL_signs_250) hSq67 (fun _ h => h.elim) (fun rq68 Hq68 Lq68 eq68 gq68 fq68 hSq68 => ?_)
            subst eq68
            have hWq68 := hWq67.rd fq68
            refine k_eq (y := σ 13 (k * 5 + i)) ((tV_bookAt hpl2 hi hI1.1.now hcu2 hN31).trans (by rw [hσ1]; exact hC.bo_sg (by omega) hk hi hpl hcu)) ?_
            refine lv_aload hx hb dL_signs_253 (lv_at hl 8 rfl) ?_
            refine lv_iconst (v := 5) hx hb dL_signs_255 (by decide) ?_
            refine lv_iload hx hb dL_signs_256 (lv_at hl 10 rfl) ?_
            refine lv_imul hx hb dL_signs_258 ?_
            refine k_eq (y := nI (5 * k)) (pk_mul 5 k) ?_
            refine lv_iload hx hb dL_signs_259 (lv_at hl 11 rfl) ?_
            refine lv_iadd hx hb dL_signs_261 ?_
            refine k_eq (y := nI (5 * k + i)) (nI_add (5 * k) i) ?_
            refine k_ldQ S hK hWq68 2 (by decide) (i := (5 * k + i)) (show (5 * k + i) < 60 by omega) dL_signs_262 ?_
            refine k_eq (y := σ 13 (k * 5 + i)) ((by rw [su_ne (by decide), su_ne (by decide), hA.ac (5 * k + i) (by omega), Nat.mul_comm 5 k])) ?_
            refine lv_icmp_ne (tgt := 270) hx hb dL_signs_263 (by decide) (fun c263_69 => absurd rfl c263_69) (fun c263_69 => ?_)
            refine lv_iconst (v := 1) hx hb dL_signs_266 (by decide) ?_
            refine lv_goto (tgt := 271) hx hb dL_signs_267 (by decide) ?_
            refine W.widen (k := 36) (n := 216) (by first | omega | exact Nat.le_of_ble_eq_true rfl) (by first | omega | exact Nat.le_of_ble_eq_true rfl) ?_
            exact W.zret (v := 1) (ty := .boolean) hx hb hr (by first | rfl | exact bI_nar _) (fun t9 ht hWz => ⟨⟨_, rfl, rfl⟩, by rw [ht]; exact ⟨σ1, su (su α 3 (2 * (pl / 4)) (((exF σ (nI (pl / 4)) ns).1) + 1)) 3 (2 * (pl / 4) + 1) ((exF σ (nI (pl / 4)) ns).2 + (if gpV σ nm ns k i = 0 then 1 else 0)), hI1.ri, hWq68⟩, hSq68.F ht⟩) hSq68.2.2 dL_signs_271
      · skip
        refine lv_aload_n hx hb dL_signs_0 rfl (lv_at hl 0 rfl) ?_
        refine lv_iload hx hb dL_signs_1 (lv_at hl 6 rfl) ?_
        refine lv_iload hx hb dL_signs_3 (lv_at hl 7 rfl) ?_
        refine q_wx (rx_SX S ⟨m_366, m_367, m_22, m_368⟩ ⟨rfl, by decide, by decide, by decide +kernel⟩ (kL_gap l G o σ nm ns (nI k) (nI i) hst hns hns4 hnm hnm2) ⟨rfl, rfl, Nat.le_of_ble_eq_true rfl, Nat.le_of_ble_eq_true rfl⟩ (ps bl_PXZ (bXZ (hW.xo hK) ((hZ0.at hS (fun _ h => h)).zs))) (n := 3) (As := [.ref (o 0), .int (nI k), .int (nI i)]) (rest := []) rfl hl.1 rfl (Nat.le_of_ble_eq_true rfl) ⟨Nat.le_of_ble_eq_true rfl, Nat.le_of_ble_eq_true rfl⟩ dL_signs_5) hS (fun _ h => h.elim) (fun rq70 Hq70 Lq70 eq70 gq70 fq70 hSq70 => ?_)
        subst eq70
        have hWq70 := hW.rd fq70
        refine k_eq (y := gpV σ nm ns k i) (tV_gap hns hns4 hk hi g2) ?_
        refine lv_istore (lv' := [(9, .int (gpV σ nm ns k i)), (0, .ref (o 0)), (1, .ref (t 0)), (2, .ref (a 0)), (3, .ref (a 1)), (4, .ref (a 2)), (5, .ref (a 3)), (6, .int (nI k)), (7, .int (nI i)), (8, .int (nI pe))]) hx hb dL_signs_8 hl (by decide) rfl (fun ls hl => ?_)
        refine lv_aload hx hb dL_signs_10 (lv_at hl 5 rfl) ?_
        refine lv_iconst (v := 5) hx hb dL_signs_12 (by decide) ?_
        refine lv_iload hx hb dL_signs_13 (lv_at hl 7 rfl) ?_
        refine lv_imul hx hb dL_signs_15 ?_
        refine k_eq (y := nI (5 * k)) (pk_mul 5 k) ?_
        refine lv_iload hx hb dL_signs_16 (lv_at hl 8 rfl) ?_
        refine lv_iadd hx hb dL_signs_18 ?_
        refine k_eq (y := nI (5 * k + i)) (nI_add (5 * k) i) ?_
        refine k_ldQ S hK hWq70 2 (by decide) (i := (5 * k + i)) (show (5 * k + i) < 60 by omega) dL_signs_19 ?_
        refine k_eq (y := σ 13 (k * 5 + i)) ((by rw [hA.ac (5 * k + i) (by omega), Nat.mul_comm 5 k])) ?_
        refine lv_if_lt (tgt := 71) hx hb dL_signs_20 (by decide) (fun c20_71 => absurd c20_71 (by rw [g1]; exact nI_pos (by omega))) (fun c20_71 => ?_)
        refine lv_aload_n hx hb dL_signs_23 rfl (lv_at hl 1 rfl) ?_
        refine lv_iload hx hb dL_signs_24 (lv_at hl 7 rfl) ?_
        refine q_wx (rx_SX S ⟨m_462, m_463, m_22, m_464⟩ ⟨rfl, by decide, by decide, by decide +kernel⟩ (kL_stateOf l G o σ nm ns (nI k) hst hns hns4 hnm hnm2) ⟨rfl, rfl, Nat.le_of_ble_eq_true rfl, Nat.le_of_ble_eq_true rfl⟩ (ps bl_PXZ (bXZ (hWq70.xo hK) ((hZ0.at hSq70 (fun _ h => h)).zs))) (n := 2) (As := [.ref (o 0), .int (nI k)]) (rest := []) rfl hl.1 rfl (Nat.le_of_ble_eq_true rfl) ⟨Nat.le_of_ble_eq_true rfl, Nat.le_of_ble_eq_true rfl⟩ dL_signs_26) hSq70 (fun _ h => h.elim) (fun rq72 Hq72 Lq72 eq72 gq72 fq72 hSq72 => ?_)
        subst eq72
        have hWq72 := hWq70.rd fq72
        refine k_eq (y := 1) (tV_st1 hns hns4 hk e8) ?_
        refine lv_iconst (v := 1) hx hb dL_signs_29 (by decide) ?_
        refine lv_icmp_ne (tgt := 71) hx hb dL_signs_30 (by decide) (fun c30_73 => absurd (by decide) c30_73) (fun c30_73 => ?_)
        refine lv_aload_n hx hb dL_signs_33 rfl (lv_at hl 1 rfl) ?_
        refine lv_iload hx hb dL_signs_34 (lv_at hl 7 rfl) ?_
        refine lv_iload hx hb dL_signs_36 (lv_at hl 8 rfl) ?_
        refine q_wx (rx_SX S ⟨m_336, m_337, m_22, m_338⟩ ⟨rfl, by decide, by decide, by decide +kernel⟩ (kL_isSigned l G o σ nm ns (nI k) (nI i) hst hns hns4 hnm hnm2) ⟨rfl, rfl, Nat.le_of_ble_eq_true rfl, Nat.le_of_ble_eq_true rfl⟩ (ps bl_PXZ (bXZ (hWq72.xo hK) ((hZ0.at hSq72 (fun _ h => h)).zs))) (n := 3) (As := [.ref (o 0), .int (nI k), .int (nI i)]) (rest := []) rfl hl.1 rfl (Nat.le_of_ble_eq_true rfl) ⟨Nat.le_of_ble_eq_true rfl, Nat.le_of_ble_eq_true rfl⟩ dL_signs_38) hSq72 (fun _ h => h.elim) (fun rq74 Hq74 Lq74 eq74 gq74 fq74 hSq74 => ?_)
        subst eq74
        have hWq74 := hWq72.rd fq74
        refine k_eq (y := 1) ((tV_line hns hns4 hk hi (fun z => bI (hsB σ z))).trans (by rw [e]; rfl)) ?_
        refine lv_if_ne (tgt := 71) hx hb dL_signs_41 (by decide) (fun c41_75 => ?_) (fun c41_75 => absurd c41_75 (by decide))
        refine lv_iconst (v := 0) hx hb dL_signs_71 (by decide) ?_
        refine lv_istore (lv' := [(10, .int 0), (9, .int (gpV σ nm ns k i)), (0, .ref (o 0)), (1, .ref (t 0)), (2, .ref (a 0)), (3, .ref (a 1)), (4, .ref (a 2)), (5, .ref (a 3)), (6, .int (nI k)), (7, .int (nI i)), (8, .int (nI pe))]) hx hb dL_signs_72 hl (by decide) rfl (fun ls hl => ?_)
        refine lv_aload hx hb dL_signs_74 (lv_at hl 6 rfl) ?_
        refine lv_iconst (v := 5) hx hb dL_signs_76 (by decide) ?_
        refine lv_iload hx hb dL_signs_77 (lv_at hl 8 rfl) ?_
        refine lv_imul hx hb dL_signs_79 ?_
        refine k_eq (y := nI (5 * k)) (pk_mul 5 k) ?_
        refine lv_iload hx hb dL_signs_80 (lv_at hl 9 rfl) ?_
        refine lv_iadd hx hb dL_signs_82 ?_
        refine k_eq (y := nI (5 * k + i)) (nI_add (5 * k) i) ?_
        refine k_ldQ S hK hWq74 2 (by decide) (i := (5 * k + i)) (show (5 * k + i) < 60 by omega) dL_signs_83 ?_
        refine k_eq (y := σ 13 (k * 5 + i)) ((by rw [hA.ac (5 * k + i) (by omega), Nat.mul_comm 5 k])) ?_
        refine lv_if_ge (tgt := 92) hx hb dL_signs_84 (by decide) (fun c84_76 => ?_) (fun c84_76 => absurd (by rw [g1]; exact nI_pos' (by omega)) c84_76)
        refine lv_iload hx hb dL_signs_92 (lv_at hl 0 rfl) ?_
        refine lv_if_eq (tgt := 102) hx hb dL_signs_94 (by decide) (fun c94_77 => ?_) (fun c94_77 => absurd (by decide) c94_77)
        refine lv_ldc (v := (-1000003)) hx hb S.2.2.2.1 (S.2.2.2.2 _ m_427) dL_signs_102 ?_
        refine lv_istore (lv' := [(11, .int (-1000003)), (10, .int 0), (9, .int (gpV σ nm ns k i)), (0, .ref (o 0)), (1, .ref (t 0)), (2, .ref (a 0)), (3, .ref (a 1)), (4, .ref (a 2)), (5, .ref (a 3)), (6, .int (nI k)), (7, .int (nI i)), (8, .int (nI pe))]) hx hb dL_signs_104 hl (by decide) rfl (fun ls hl => ?_)
        refine lv_aload_n hx hb dL_signs_106 rfl (lv_at hl 3 rfl) ?_
        refine lv_iload hx hb dL_signs_107 (lv_at hl 9 rfl) ?_
        refine lv_iload hx hb dL_signs_109 (lv_at hl 10 rfl) ?_
        refine lv_iload hx hb dL_signs_111 (lv_at hl 11 rfl) ?_
        refine q_wx (rx_SX S ⟨m_395, m_396, m_22, m_397⟩ ⟨rfl, by decide, by decide, by decide +kernel⟩ (kL_sign l G o σ nm ns (nI k) (nI i) (nI pe) hst hns hns4 hnm hnm2 (AO o) hJ.dO) ⟨rfl, rfl, Nat.le_of_ble_eq_true rfl, Nat.le_of_ble_eq_true rfl⟩ (ps bl_PXZ (bXZ (hWq74.xo hK) ((hZ0.at hSq74 (fun _ h => h)).zs))) (n := 4) (As := [.ref (o 0), .int (nI k), .int (nI i), .int (nI pe)]) (rest := []) rfl hl.1 rfl (Nat.le_of_ble_eq_true rfl) ⟨Nat.le_of_ble_eq_true rfl, Nat.le_of_ble_eq_true rfl⟩ dL_signs_113) hSq74 (fun _ h => h.inO) (fun rq78 Hq78 Lq78 eq78 gq78 fq78 hSq78 => ?_)
        subst eq78
        rw [show (if eX_sign σ nm ns (nI k) (nI i) (nI pe) = 0 then (wrS σ (lnN (nI k) (nI i)) (gpV σ nm ns (ixN (nI k)) (ixN (nI i)))) else σ) = σ from if_neg (ne0 (k := 2) (eS_3 hns hns4 hk hi hpe g2 (sg_hs e)))] at gq78
        have hWq78 := hWq74.wo hJ gq78 fq78
        refine k_eq (y := (-1000003)) (hcV_3 (eS_3 hns hns4 hk hi hpe g2 (sg_hs e))) ?_
        refine lv_iload hx hb dL_signs_116 (lv_at hl 0 rfl) ?_
        refine lv_icmp_ne (tgt := 155) hx hb dL_signs_118 (by decide) (fun c118_79 => absurd (by decide) c118_79) (fun c118_79 => ?_)
        refine lv_aload_n hx hb dL_signs_121 rfl (lv_at hl 4 rfl) ?_
        refine lv_iload hx hb dL_signs_122 (lv_at hl 9 rfl) ?_
        refine lv_iload hx hb dL_signs_124 (lv_at hl 10 rfl) ?_
        refine lv_iload hx hb dL_signs_126 (lv_at hl 11 rfl) ?_
        refine q_wx (rx_SX S ⟨m_395, m_396, m_22, m_397⟩ ⟨rfl, by decide, by decide, by decide +kernel⟩ (kL_sign l G t σ nm ns (nI k) (nI i) (nI pe) hst hns hns4 hnm hnm2 (AO t) hJ.dT) ⟨rfl, rfl, Nat.le_of_ble_eq_true rfl, Nat.le_of_ble_eq_true rfl⟩ (ps bl_PXZ (bXZ (hWq78.xt hK) ((hZ0.at hSq78 (fun _ h => h)).zs))) (n := 4) (As := [.ref (t 0), .int (nI k), .int (nI i), .int (nI pe)]) (rest := []) rfl hl.1 rfl (Nat.le_of_ble_eq_true rfl) ⟨Nat.le_of_ble_eq_true rfl, Nat.le_of_ble_eq_true rfl⟩ dL_signs_128) hSq78 (fun _ h => h.inT) (fun rq80 Hq80 Lq80 eq80 gq80 fq80 hSq80 => ?_)
        subst eq80
        rw [show (if eX_sign σ nm ns (nI k) (nI i) (nI pe) = 0 then (wrS σ (lnN (nI k) (nI i)) (gpV σ nm ns (ixN (nI k)) (ixN (nI i)))) else σ) = σ from if_neg (ne0 (k := 2) (eS_3 hns hns4 hk hi hpe g2 (sg_hs e)))] at gq80
        have hWq80 := hWq78.wt hJ gq80 fq80
        refine k_eq (y := (-1000003)) (hcV_3 (eS_3 hns hns4 hk hi hpe g2 (sg_hs e))) ?_
        refine lv_iload hx hb dL_signs_131 (lv_at hl 0 rfl) ?_
        refine lv_icmp_ne (tgt := 155) hx hb dL_signs_133 (by decide) (fun c133_81 => absurd (by decide) c133_81) (fun c133_81 => ?_)
        refine lv_aload_n hx hb dL_signs_136 rfl (lv_at hl 3 rfl) ?_
        refine lv_iload hx hb dL_signs_137 (lv_at hl 9 rfl) ?_
        refine lv_iload hx hb dL_signs_139 (lv_at hl 10 rfl) ?_
        refine lv_bipush (v := 6) hx hb dL_signs_141 (by decide) ?_
        refine q_wx (rx_SX S ⟨m_395, m_396, m_22, m_397⟩ ⟨rfl, by decide, by decide, by decide +kernel⟩ (kL_sign l G o σ nm ns (nI k) (nI i) 6 hst hns hns4 hnm hnm2 (AO o) hJ.dO) ⟨rfl, rfl, Nat.le_of_ble_eq_true rfl, Nat.le_of_ble_eq_true rfl⟩ (ps bl_PXZ (bXZ (hWq80.xo hK) ((hZ0.at hSq80 (fun _ h => h)).zs))) (n := 4) (As := [.ref (o 0), .int (nI k), .int (nI i), .int 6]) (rest := []) rfl hl.1 rfl (Nat.le_of_ble_eq_true rfl) ⟨Nat.le_of_ble_eq_true rfl, Nat.le_of_ble_eq_true rfl⟩ dL_signs_143) hSq80 (fun _ h => h.inO) (fun rq82 Hq82 Lq82 eq82 gq82 fq82 hSq82 => ?_)
        subst eq82
        rw [show (if eX_sign σ nm ns (nI k) (nI i) 6 = 0 then (wrS σ (lnN (nI k) (nI i)) (gpV σ nm ns (ixN (nI k)) (ixN (nI i)))) else σ) = σ from if_neg (ne0 (k := 0) (eS_6 hns hns4 hk hi))] at gq82
        have hWq82 := hWq80.wo hJ gq82 fq82
        refine k_eq (y := (-1000001)) (hcV_1 (eS_6 hns hns4 hk hi)) ?_
        refine lv_ldc (v := (-1000001)) hx hb S.2.2.2.1 (S.2.2.2.2 _ m_294) dL_signs_146 ?_
        refine lv_icmp_ne (tgt := 155) hx hb dL_signs_148 (by decide) (fun c148_83 => absurd (by decide) c148_83) (fun c148_83 => ?_)
        refine lv_iconst (v := 1) hx hb dL_signs_151 (by decide) ?_
        refine lv_goto (tgt := 156) hx hb dL_signs_152 (by decide) ?_
        refine lv_istore (lv' := [(12, .int 1), (11, .int (-1000003)), (10, .int 0), (9, .int (gpV σ nm ns k i)), (0, .ref (o 0)), (1, .ref (t 0)), (2, .ref (a 0)), (3, .ref (a 1)), (4, .ref (a 2)), (5, .ref (a 3)), (6, .int (nI k)), (7, .int (nI i)), (8, .int (nI pe))]) hx hb dL_signs_156 hl (by decide) rfl (fun ls hl => ?_)
        refine lv_iload hx hb dL_signs_158 (lv_at hl 2 rfl) ?_
        refine lv_if_ne (tgt := 166) hx hb dL_signs_160 (by decide) (fun c160_84 => absurd (by decide) c160_84) (fun c160_84 => ?_)
        refine lv_iload hx hb dL_signs_163 (lv_at hl 0 rfl) ?_
        refine W.widen (k := 36) (n := 216) (by first | omega | exact Nat.le_of_ble_eq_true rfl) (by first | omega | exact Nat.le_of_ble_eq_true rfl) ?_
        exact W.zret (v := 1) (ty := .boolean) hx hb hr (by first | rfl | exact bI_nar _) (fun t9 ht hWz => ⟨⟨_, rfl, rfl⟩, by rw [ht]; exact ⟨σ, α, hI.up.ri, hWq82⟩, hSq82.F ht⟩) hSq82.2.2 dL_signs_165

set_option maxHeartbeats 4000000 in
set_option maxRecDepth 100000 in
theorem kL_settles (l : Launch) (G : kG) (o t a : Nat → Nat) (σ α : kS) (nm ns n N S9 k i : Nat) (y : Int32) (hst : l.stackTraces = false) (hJ : JQ o t a) (hI : Inv σ α nm ns n N S9) (hn : n ≤ 110) (hk : k < ns) (hi : i < 5) : Met l yL_settles [.code yL_settles cL_settles 12 (some .boolean)] ({ frames := 10, cells := 40, slots := 240, locals := 239 }) (va_Pc [.ref (o 0), .ref (t 0), .ref (a 1), .ref (a 2), .ref (a 3), .ref (a 4), .int (nI k), .int (nI i), .int y] (PQ G o t a σ σ α)) (oW (AQ o t a) (fun r => r = 1) (fun H9 => WI G o t a (n + 1) H9)) 40 240 (AQ o t a) := by
  refine k_of (by decide) (Nat.le_of_ble_eq_true rfl) (fun U h => h.2.1.2) ?_
  intro p e s m below meth c ls S hr hlocks hmn hB hl
  have hx := S.1
  have hb := S.2.1
  obtain ⟨hW, hK, hZ0⟩ := hB
  have hS : va_S (AQ o t a) s.heap s.heap [] := va_S.rf
  have hC := hI.1
  have hA := hI.2
  have hns := hC.hns
  have hns4 : ns ≤ 40 := by have := hC.ns12; omega
  have hnm := hC.hnm
  have hnm2 : nm ≤ 200 := by have := hC.nmn; omega
  have hN31 : N < 2 ^ 31 := by have := hC.Nn; omega
  have hns12 := hC.ns12
  obtain ⟨pl, hpl, hpl2⟩ := hC.pls k
  obtain ⟨cu, hcu, hcu2⟩ := hC.cut k
  have hl : lv_has ls 12 [(0, .ref (o 0)), (1, .ref (t 0)), (2, .ref (a 1)), (3, .ref (a 2)), (4, .ref (a 3)), (5, .ref (a 4)), (6, .int (nI k)), (7, .int (nI i)), (8, .int y)] := hl
  rcases hlk : flO (fun j => csB σ nm ns k j i) ns with _ | j
  · skip
    refine lv_aload_n hx hb dL_settles_0 rfl (lv_at hl 0 rfl) ?_
    refine lv_iload hx hb dL_settles_1 (lv_at hl 6 rfl) ?_
    refine lv_iload hx hb dL_settles_3 (lv_at hl 7 rfl) ?_
    refine q_wx (rx_SX S ⟨m_343, m_344, m_22, m_345⟩ ⟨rfl, by decide, by decide, by decide +kernel⟩ (kL_likely l G o σ nm ns (nI k) (nI i) hst hns hns4 hnm hnm2) ⟨rfl, rfl, Nat.le_of_ble_eq_true rfl, Nat.le_of_ble_eq_true rfl⟩ (ps bl_PXZ (bXZ (hW.xo hK) ((hZ0.at hS (fun _ h => h)).zs))) (n := 3) (As := [.ref (o 0), .int (nI k), .int (nI i)]) (rest := []) rfl hl.1 rfl (Nat.le_of_ble_eq_true rfl) ⟨Nat.le_of_ble_eq_true rfl, Nat.le_of_ble_eq_true rfl⟩ dL_settles_5) hS (fun _ h => h.elim) (fun rq1 Hq1 Lq1 eq1 gq1 fq1 hSq1 => ?_)
    subst eq1
    have hWq1 := hW.rd fq1
    refine k_eq (y := (-1)) ((tV_lik hns hns4 hk hi).trans (by rw [hlk]; rfl)) ?_
    refine lv_istore (lv' := [(9, .int (-1)), (0, .ref (o 0)), (1, .ref (t 0)), (2, .ref (a 1)), (3, .ref (a 2)), (4, .ref (a 3)), (5, .ref (a 4)), (6, .int (nI k)), (7, .int (nI i)), (8, .int y)]) hx hb dL_settles_8 hl (by decide) rfl (fun ls hl => ?_)
    refine lv_iload hx hb dL_settles_10 (lv_at hl 0 rfl) ?_
    refine lv_if_ge (tgt := 112) hx hb dL_settles_12 (by decide) (fun c12_2 => absurd c12_2 (by decide)) (fun c12_2 => ?_)
    refine lv_iload hx hb dL_settles_15 (lv_at hl 9 rfl) ?_
    refine lv_aload hx hb dL_settles_17 (lv_at hl 6 rfl) ?_
    refine lv_iconst (v := 2) hx hb dL_settles_19 (by decide) ?_
    refine k_ldQ S hK hWq1 4 (by decide) (i := 2) (show 2 < 3 by omega) dL_settles_20 ?_
    refine k_eq (y := nI ns) (hA.g2) ?_
    refine q_i (r_S S ⟨m_487, m_488, m_22, m_489⟩ ⟨rfl, by decide, by decide, by decide +kernel⟩ (kL_low l y ns (by first | decide | omega) (by first | decide | omega)) ⟨rfl, rfl, Nat.le_of_ble_eq_true rfl, Nat.le_of_ble_eq_true rfl⟩ (ps bl_GL (bG hK.2)) (n := 2) (As := [.int y, .int (nI ns)]) (rest := []) rfl hl.1 rfl (Nat.le_of_ble_eq_true rfl) ⟨Nat.le_of_ble_eq_true rfl, Nat.le_of_ble_eq_true rfl⟩ dL_settles_21) (fun rq3 ⟨j, hj, eq3⟩ => ?_)
    subst eq3
    refine lv_istore (lv' := [(9, .int (nI j)), (0, .ref (o 0)), (1, .ref (t 0)), (2, .ref (a 1)), (3, .ref (a 2)), (4, .ref (a 3)), (5, .ref (a 4)), (6, .int (nI k)), (7, .int (nI i)), (8, .int y)]) hx hb dL_settles_24 hl (by decide) rfl (fun ls hl => ?_)
    rcases hC.ag2 (k := k * 5 + i) (by omega) with ⟨g1, g2⟩ | ⟨q9, hq9, g1, g2⟩
    · skip
      refine lv_aload_n hx hb dL_settles_26 rfl (lv_at hl 4 rfl) ?_
      refine lv_iconst (v := 5) hx hb dL_settles_27 (by decide) ?_
      refine lv_iload hx hb dL_settles_28 (lv_at hl 7 rfl) ?_
      refine lv_imul hx hb dL_settles_30 ?_
      refine k_eq (y := nI (5 * k)) (pk_mul 5 k) ?_
      refine lv_iload hx hb dL_settles_31 (lv_at hl 8 rfl) ?_
      refine lv_iadd hx hb dL_settles_33 ?_
      refine k_eq (y := nI (5 * k + i)) (nI_add (5 * k) i) ?_
      refine k_ldQ S hK hWq1 2 (by decide) (i := (5 * k + i)) (show (5 * k + i) < 60 by omega) dL_settles_34 ?_
      refine k_eq (y := σ 13 (k * 5 + i)) ((by rw [hA.ac (5 * k + i) (by omega), Nat.mul_comm 5 k])) ?_
      refine lv_if_lt (tgt := 50) hx hb dL_settles_35 (by decide) (fun c35_4 => ?_) (fun c35_4 => absurd (by rw [g1]; decide) c35_4)
      refine lv_ldc (v := (-1000002)) hx hb S.2.2.2.1 (S.2.2.2.2 _ m_394) dL_settles_50 ?_
      refine lv_goto (tgt := 57) hx hb dL_settles_52 (by decide) ?_
      refine lv_istore (lv' := [(10, .int (-1000002)), (9, .int (nI j)), (0, .ref (o 0)), (1, .ref (t 0)), (2, .ref (a 1)), (3, .ref (a 2)), (4, .ref (a 3)), (5, .ref (a 4)), (6, .int (nI k)), (7, .int (nI i)), (8, .int y)]) hx hb dL_settles_57 hl (by decide) rfl (fun ls hl => ?_)
      refine lv_aload_n hx hb dL_settles_59 rfl (lv_at hl 2 rfl) ?_
      refine lv_iload hx hb dL_settles_60 (lv_at hl 8 rfl) ?_
      refine lv_iload hx hb dL_settles_62 (lv_at hl 1 rfl) ?_
      refine lv_iload hx hb dL_settles_64 (lv_at hl 9 rfl) ?_
      refine q_wx (rx_SX S ⟨m_592, m_593, m_22, m_594⟩ ⟨rfl, by decide, by decide, by decide +kernel⟩ (kL_settle l G o σ nm ns (nI k) (nI j) (nI i) hst hns hns4 hnm hnm2 (AO o) hJ.dO) ⟨rfl, rfl, Nat.le_of_ble_eq_true rfl, Nat.le_of_ble_eq_true rfl⟩ (ps bl_PXZ (bXZ (hWq1.xo hK) ((hZ0.at hSq1 (fun _ h => h)).zs))) (n := 4) (As := [.ref (o 0), .int (nI k), .int (nI j), .int (nI i)]) (rest := []) rfl hl.1 rfl (Nat.le_of_ble_eq_true rfl) ⟨Nat.le_of_ble_eq_true rfl, Nat.le_of_ble_eq_true rfl⟩ dL_settles_66) hSq1 (fun _ h => h.inO) (fun rq5 Hq5 Lq5 eq5 gq5 fq5 hSq5 => ?_)
      subst eq5
      rw [show (if eX_settle σ nm ns (nI k) (nI j) (nI i) = 0 then (wrS (wrS σ (lnN (nI k) (nI i)) (gpV σ nm ns (ixN (nI k)) (ixN (nI i)))) (lnN (nI j) (nI i)) (-(gpV σ nm ns (ixN (nI k)) (ixN (nI i))))) else σ) = σ from if_neg (ne0 (k := 3) (eT_4a hns hns4 hk hj hi g2))] at gq5
      have hWq5 := hWq1.wo hJ gq5 fq5
      refine k_eq (y := (-1000002)) (hcV_4 (eT_4a hns hns4 hk hj hi g2)) ?_
      refine lv_iload hx hb dL_settles_69 (lv_at hl 0 rfl) ?_
      refine lv_icmp_ne (tgt := 110) hx hb dL_settles_71 (by decide) (fun c71_6 => absurd (by decide) c71_6) (fun c71_6 => ?_)
      refine lv_aload_n hx hb dL_settles_74 rfl (lv_at hl 3 rfl) ?_
      refine lv_iload hx hb dL_settles_75 (lv_at hl 8 rfl) ?_
      refine lv_iload hx hb dL_settles_77 (lv_at hl 1 rfl) ?_
      refine lv_iload hx hb dL_settles_79 (lv_at hl 9 rfl) ?_
      refine q_wx (rx_SX S ⟨m_592, m_593, m_22, m_594⟩ ⟨rfl, by decide, by decide, by decide +kernel⟩ (kL_settle l G t σ nm ns (nI k) (nI j) (nI i) hst hns hns4 hnm hnm2 (AO t) hJ.dT) ⟨rfl, rfl, Nat.le_of_ble_eq_true rfl, Nat.le_of_ble_eq_true rfl⟩ (ps bl_PXZ (bXZ (hWq5.xt hK) ((hZ0.at hSq5 (fun _ h => h)).zs))) (n := 4) (As := [.ref (t 0), .int (nI k), .int (nI j), .int (nI i)]) (rest := []) rfl hl.1 rfl (Nat.le_of_ble_eq_true rfl) ⟨Nat.le_of_ble_eq_true rfl, Nat.le_of_ble_eq_true rfl⟩ dL_settles_81) hSq5 (fun _ h => h.inT) (fun rq7 Hq7 Lq7 eq7 gq7 fq7 hSq7 => ?_)
      subst eq7
      rw [show (if eX_settle σ nm ns (nI k) (nI j) (nI i) = 0 then (wrS (wrS σ (lnN (nI k) (nI i)) (gpV σ nm ns (ixN (nI k)) (ixN (nI i)))) (lnN (nI j) (nI i)) (-(gpV σ nm ns (ixN (nI k)) (ixN (nI i))))) else σ) = σ from if_neg (ne0 (k := 3) (eT_4a hns hns4 hk hj hi g2))] at gq7
      have hWq7 := hWq5.wt hJ gq7 fq7
      refine k_eq (y := (-1000002)) (hcV_4 (eT_4a hns hns4 hk hj hi g2)) ?_
      refine lv_iload hx hb dL_settles_84 (lv_at hl 0 rfl) ?_
      refine lv_icmp_ne (tgt := 110) hx hb dL_settles_86 (by decide) (fun c86_8 => absurd (by decide) c86_8) (fun c86_8 => ?_)
      refine lv_aload_n hx hb dL_settles_89 rfl (lv_at hl 2 rfl) ?_
      refine lv_iload hx hb dL_settles_90 (lv_at hl 8 rfl) ?_
      refine lv_aload hx hb dL_settles_92 (lv_at hl 7 rfl) ?_
      refine lv_iconst (v := 2) hx hb dL_settles_94 (by decide) ?_
      refine k_ldQ S hK hWq7 4 (by decide) (i := 2) (show 2 < 3 by omega) dL_settles_95 ?_
      refine k_eq (y := nI ns) (hA.g2) ?_
      refine lv_iload hx hb dL_settles_96 (lv_at hl 9 rfl) ?_
      refine q_wx (rx_SX S ⟨m_592, m_593, m_22, m_594⟩ ⟨rfl, by decide, by decide, by decide +kernel⟩ (kL_settle l G o σ nm ns (nI k) (nI ns) (nI i) hst hns hns4 hnm hnm2 (AO o) hJ.dO) ⟨rfl, rfl, Nat.le_of_ble_eq_true rfl, Nat.le_of_ble_eq_true rfl⟩ (ps bl_PXZ (bXZ (hWq7.xo hK) ((hZ0.at hSq7 (fun _ h => h)).zs))) (n := 4) (As := [.ref (o 0), .int (nI k), .int (nI ns), .int (nI i)]) (rest := []) rfl hl.1 rfl (Nat.le_of_ble_eq_true rfl) ⟨Nat.le_of_ble_eq_true rfl, Nat.le_of_ble_eq_true rfl⟩ dL_settles_98) hSq7 (fun _ h => h.inO) (fun rq9 Hq9 Lq9 eq9 gq9 fq9 hSq9 => ?_)
      subst eq9
      rw [show (if eX_settle σ nm ns (nI k) (nI ns) (nI i) = 0 then (wrS (wrS σ (lnN (nI k) (nI i)) (gpV σ nm ns (ixN (nI k)) (ixN (nI i)))) (lnN (nI ns) (nI i)) (-(gpV σ nm ns (ixN (nI k)) (ixN (nI i))))) else σ) = σ from if_neg (ne0 (k := 0) (eT_1 hns hns4 hk))] at gq9
      have hWq9 := hWq7.wo hJ gq9 fq9
      refine k_eq (y := (-1000001)) (hcV_1 (eT_1 hns hns4 hk)) ?_
      refine lv_ldc (v := (-1000001)) hx hb S.2.2.2.1 (S.2.2.2.2 _ m_294) dL_settles_101 ?_
      refine lv_icmp_ne (tgt := 110) hx hb dL_settles_103 (by decide) (fun c103_10 => absurd (by decide) c103_10) (fun c103_10 => ?_)
      refine lv_iconst (v := 1) hx hb dL_settles_106 (by decide) ?_
      refine lv_goto (tgt := 111) hx hb dL_settles_107 (by decide) ?_
      refine W.widen (k := 40) (n := 240) (by first | omega | exact Nat.le_of_ble_eq_true rfl) (by first | omega | exact Nat.le_of_ble_eq_true rfl) ?_
      exact W.zret (v := 1) (ty := .boolean) hx hb hr (by first | rfl | exact bI_nar _) (fun t9 ht hWz => ⟨⟨_, rfl, rfl⟩, by rw [ht]; exact ⟨σ, α, hI.up.ri, hWq9⟩, hSq9.F ht⟩) hSq9.2.2 dL_settles_111
    · skip
      rcases hC.ag2 (k := j * 5 + i) (by omega) with ⟨v1, v2⟩ | ⟨w9, hw9, v1, v2⟩
      · skip
        refine lv_aload_n hx hb dL_settles_26 rfl (lv_at hl 4 rfl) ?_
        refine lv_iconst (v := 5) hx hb dL_settles_27 (by decide) ?_
        refine lv_iload hx hb dL_settles_28 (lv_at hl 7 rfl) ?_
        refine lv_imul hx hb dL_settles_30 ?_
        refine k_eq (y := nI (5 * k)) (pk_mul 5 k) ?_
        refine lv_iload hx hb dL_settles_31 (lv_at hl 8 rfl) ?_
        refine lv_iadd hx hb dL_settles_33 ?_
        refine k_eq (y := nI (5 * k + i)) (nI_add (5 * k) i) ?_
        refine k_ldQ S hK hWq1 2 (by decide) (i := (5 * k + i)) (show (5 * k + i) < 60 by omega) dL_settles_34 ?_
        refine k_eq (y := σ 13 (k * 5 + i)) ((by rw [hA.ac (5 * k + i) (by omega), Nat.mul_comm 5 k])) ?_
        refine lv_if_lt (tgt := 50) hx hb dL_settles_35 (by decide) (fun c35_11 => absurd c35_11 (by rw [g1]; exact nI_pos (by omega))) (fun c35_11 => ?_)
        refine lv_aload_n hx hb dL_settles_38 rfl (lv_at hl 4 rfl) ?_
        refine lv_iconst (v := 5) hx hb dL_settles_39 (by decide) ?_
        refine lv_iload hx hb dL_settles_40 (lv_at hl 0 rfl) ?_
        refine lv_imul hx hb dL_settles_42 ?_
        refine k_eq (y := nI (5 * j)) (pk_mul 5 j) ?_
        refine lv_iload hx hb dL_settles_43 (lv_at hl 8 rfl) ?_
        refine lv_iadd hx hb dL_settles_45 ?_
        refine k_eq (y := nI (5 * j + i)) (nI_add (5 * j) i) ?_
        refine k_ldQ S hK hWq1 2 (by decide) (i := (5 * j + i)) (show (5 * j + i) < 60 by omega) dL_settles_46 ?_
        refine k_eq (y := σ 13 (j * 5 + i)) ((by rw [hA.ac (5 * j + i) (by omega), Nat.mul_comm 5 j])) ?_
        refine lv_if_ge (tgt := 55) hx hb dL_settles_47 (by decide) (fun c47_12 => absurd c47_12 (by rw [v1]; decide)) (fun c47_12 => ?_)
        refine lv_ldc (v := (-1000002)) hx hb S.2.2.2.1 (S.2.2.2.2 _ m_394) dL_settles_50 ?_
        refine lv_goto (tgt := 57) hx hb dL_settles_52 (by decide) ?_
        refine lv_istore (lv' := [(10, .int (-1000002)), (9, .int (nI j)), (0, .ref (o 0)), (1, .ref (t 0)), (2, .ref (a 1)), (3, .ref (a 2)), (4, .ref (a 3)), (5, .ref (a 4)), (6, .int (nI k)), (7, .int (nI i)), (8, .int y)]) hx hb dL_settles_57 hl (by decide) rfl (fun ls hl => ?_)
        refine lv_aload_n hx hb dL_settles_59 rfl (lv_at hl 2 rfl) ?_
        refine lv_iload hx hb dL_settles_60 (lv_at hl 8 rfl) ?_
        refine lv_iload hx hb dL_settles_62 (lv_at hl 1 rfl) ?_
        refine lv_iload hx hb dL_settles_64 (lv_at hl 9 rfl) ?_
        refine q_wx (rx_SX S ⟨m_592, m_593, m_22, m_594⟩ ⟨rfl, by decide, by decide, by decide +kernel⟩ (kL_settle l G o σ nm ns (nI k) (nI j) (nI i) hst hns hns4 hnm hnm2 (AO o) hJ.dO) ⟨rfl, rfl, Nat.le_of_ble_eq_true rfl, Nat.le_of_ble_eq_true rfl⟩ (ps bl_PXZ (bXZ (hWq1.xo hK) ((hZ0.at hSq1 (fun _ h => h)).zs))) (n := 4) (As := [.ref (o 0), .int (nI k), .int (nI j), .int (nI i)]) (rest := []) rfl hl.1 rfl (Nat.le_of_ble_eq_true rfl) ⟨Nat.le_of_ble_eq_true rfl, Nat.le_of_ble_eq_true rfl⟩ dL_settles_66) hSq1 (fun _ h => h.inO) (fun rq13 Hq13 Lq13 eq13 gq13 fq13 hSq13 => ?_)
        subst eq13
        rw [show (if eX_settle σ nm ns (nI k) (nI j) (nI i) = 0 then (wrS (wrS σ (lnN (nI k) (nI i)) (gpV σ nm ns (ixN (nI k)) (ixN (nI i)))) (lnN (nI j) (nI i)) (-(gpV σ nm ns (ixN (nI k)) (ixN (nI i))))) else σ) = σ from if_neg (ne0 (k := 3) (eT_4b hns hns4 hk hj hi g2 v2))] at gq13
        have hWq13 := hWq1.wo hJ gq13 fq13
        refine k_eq (y := (-1000002)) (hcV_4 (eT_4b hns hns4 hk hj hi g2 v2)) ?_
        refine lv_iload hx hb dL_settles_69 (lv_at hl 0 rfl) ?_
        refine lv_icmp_ne (tgt := 110) hx hb dL_settles_71 (by decide) (fun c71_14 => absurd (by decide) c71_14) (fun c71_14 => ?_)
        refine lv_aload_n hx hb dL_settles_74 rfl (lv_at hl 3 rfl) ?_
        refine lv_iload hx hb dL_settles_75 (lv_at hl 8 rfl) ?_
        refine lv_iload hx hb dL_settles_77 (lv_at hl 1 rfl) ?_
        refine lv_iload hx hb dL_settles_79 (lv_at hl 9 rfl) ?_
        refine q_wx (rx_SX S ⟨m_592, m_593, m_22, m_594⟩ ⟨rfl, by decide, by decide, by decide +kernel⟩ (kL_settle l G t σ nm ns (nI k) (nI j) (nI i) hst hns hns4 hnm hnm2 (AO t) hJ.dT) ⟨rfl, rfl, Nat.le_of_ble_eq_true rfl, Nat.le_of_ble_eq_true rfl⟩ (ps bl_PXZ (bXZ (hWq13.xt hK) ((hZ0.at hSq13 (fun _ h => h)).zs))) (n := 4) (As := [.ref (t 0), .int (nI k), .int (nI j), .int (nI i)]) (rest := []) rfl hl.1 rfl (Nat.le_of_ble_eq_true rfl) ⟨Nat.le_of_ble_eq_true rfl, Nat.le_of_ble_eq_true rfl⟩ dL_settles_81) hSq13 (fun _ h => h.inT) (fun rq15 Hq15 Lq15 eq15 gq15 fq15 hSq15 => ?_)
        subst eq15
        rw [show (if eX_settle σ nm ns (nI k) (nI j) (nI i) = 0 then (wrS (wrS σ (lnN (nI k) (nI i)) (gpV σ nm ns (ixN (nI k)) (ixN (nI i)))) (lnN (nI j) (nI i)) (-(gpV σ nm ns (ixN (nI k)) (ixN (nI i))))) else σ) = σ from if_neg (ne0 (k := 3) (eT_4b hns hns4 hk hj hi g2 v2))] at gq15
        have hWq15 := hWq13.wt hJ gq15 fq15
        refine k_eq (y := (-1000002)) (hcV_4 (eT_4b hns hns4 hk hj hi g2 v2)) ?_
        refine lv_iload hx hb dL_settles_84 (lv_at hl 0 rfl) ?_
        refine lv_icmp_ne (tgt := 110) hx hb dL_settles_86 (by decide) (fun c86_16 => absurd (by decide) c86_16) (fun c86_16 => ?_)
        refine lv_aload_n hx hb dL_settles_89 rfl (lv_at hl 2 rfl) ?_
        refine lv_iload hx hb dL_settles_90 (lv_at hl 8 rfl) ?_
        refine lv_aload hx hb dL_settles_92 (lv_at hl 7 rfl) ?_
        refine lv_iconst (v := 2) hx hb dL_settles_94 (by decide) ?_
        refine k_ldQ S hK hWq15 4 (by decide) (i := 2) (show 2 < 3 by omega) dL_settles_95 ?_
        refine k_eq (y := nI ns) (hA.g2) ?_
        refine lv_iload hx hb dL_settles_96 (lv_at hl 9 rfl) ?_
        refine q_wx (rx_SX S ⟨m_592, m_593, m_22, m_594⟩ ⟨rfl, by decide, by decide, by decide +kernel⟩ (kL_settle l G o σ nm ns (nI k) (nI ns) (nI i) hst hns hns4 hnm hnm2 (AO o) hJ.dO) ⟨rfl, rfl, Nat.le_of_ble_eq_true rfl, Nat.le_of_ble_eq_true rfl⟩ (ps bl_PXZ (bXZ (hWq15.xo hK) ((hZ0.at hSq15 (fun _ h => h)).zs))) (n := 4) (As := [.ref (o 0), .int (nI k), .int (nI ns), .int (nI i)]) (rest := []) rfl hl.1 rfl (Nat.le_of_ble_eq_true rfl) ⟨Nat.le_of_ble_eq_true rfl, Nat.le_of_ble_eq_true rfl⟩ dL_settles_98) hSq15 (fun _ h => h.inO) (fun rq17 Hq17 Lq17 eq17 gq17 fq17 hSq17 => ?_)
        subst eq17
        rw [show (if eX_settle σ nm ns (nI k) (nI ns) (nI i) = 0 then (wrS (wrS σ (lnN (nI k) (nI i)) (gpV σ nm ns (ixN (nI k)) (ixN (nI i)))) (lnN (nI ns) (nI i)) (-(gpV σ nm ns (ixN (nI k)) (ixN (nI i))))) else σ) = σ from if_neg (ne0 (k := 0) (eT_1 hns hns4 hk))] at gq17
        have hWq17 := hWq15.wo hJ gq17 fq17
        refine k_eq (y := (-1000001)) (hcV_1 (eT_1 hns hns4 hk)) ?_
        refine lv_ldc (v := (-1000001)) hx hb S.2.2.2.1 (S.2.2.2.2 _ m_294) dL_settles_101 ?_
        refine lv_icmp_ne (tgt := 110) hx hb dL_settles_103 (by decide) (fun c103_18 => absurd (by decide) c103_18) (fun c103_18 => ?_)
        refine lv_iconst (v := 1) hx hb dL_settles_106 (by decide) ?_
        refine lv_goto (tgt := 111) hx hb dL_settles_107 (by decide) ?_
        refine W.widen (k := 40) (n := 240) (by first | omega | exact Nat.le_of_ble_eq_true rfl) (by first | omega | exact Nat.le_of_ble_eq_true rfl) ?_
        exact W.zret (v := 1) (ty := .boolean) hx hb hr (by first | rfl | exact bI_nar _) (fun t9 ht hWz => ⟨⟨_, rfl, rfl⟩, by rw [ht]; exact ⟨σ, α, hI.up.ri, hWq17⟩, hSq17.F ht⟩) hSq17.2.2 dL_settles_111
      · skip
        refine lv_aload_n hx hb dL_settles_26 rfl (lv_at hl 4 rfl) ?_
        refine lv_iconst (v := 5) hx hb dL_settles_27 (by decide) ?_
        refine lv_iload hx hb dL_settles_28 (lv_at hl 7 rfl) ?_
        refine lv_imul hx hb dL_settles_30 ?_
        refine k_eq (y := nI (5 * k)) (pk_mul 5 k) ?_
        refine lv_iload hx hb dL_settles_31 (lv_at hl 8 rfl) ?_
        refine lv_iadd hx hb dL_settles_33 ?_
        refine k_eq (y := nI (5 * k + i)) (nI_add (5 * k) i) ?_
        refine k_ldQ S hK hWq1 2 (by decide) (i := (5 * k + i)) (show (5 * k + i) < 60 by omega) dL_settles_34 ?_
        refine k_eq (y := σ 13 (k * 5 + i)) ((by rw [hA.ac (5 * k + i) (by omega), Nat.mul_comm 5 k])) ?_
        refine lv_if_lt (tgt := 50) hx hb dL_settles_35 (by decide) (fun c35_19 => absurd c35_19 (by rw [g1]; exact nI_pos (by omega))) (fun c35_19 => ?_)
        refine lv_aload_n hx hb dL_settles_38 rfl (lv_at hl 4 rfl) ?_
        refine lv_iconst (v := 5) hx hb dL_settles_39 (by decide) ?_
        refine lv_iload hx hb dL_settles_40 (lv_at hl 0 rfl) ?_
        refine lv_imul hx hb dL_settles_42 ?_
        refine k_eq (y := nI (5 * j)) (pk_mul 5 j) ?_
        refine lv_iload hx hb dL_settles_43 (lv_at hl 8 rfl) ?_
        refine lv_iadd hx hb dL_settles_45 ?_
        refine k_eq (y := nI (5 * j + i)) (nI_add (5 * j) i) ?_
        refine k_ldQ S hK hWq1 2 (by decide) (i := (5 * j + i)) (show (5 * j + i) < 60 by omega) dL_settles_46 ?_
        refine k_eq (y := σ 13 (j * 5 + i)) ((by rw [hA.ac (5 * j + i) (by omega), Nat.mul_comm 5 j])) ?_
        refine lv_if_ge (tgt := 55) hx hb dL_settles_47 (by decide) (fun c47_20 => ?_) (fun c47_20 => absurd (by rw [v1]; exact nI_pos' (by omega)) c47_20)
        refine lv_ldc (v := (-1000003)) hx hb S.2.2.2.1 (S.2.2.2.2 _ m_427) dL_settles_55 ?_
        refine lv_istore (lv' := [(10, .int (-1000003)), (9, .int (nI j)), (0, .ref (o 0)), (1, .ref (t 0)), (2, .ref (a 1)), (3, .ref (a 2)), (4, .ref (a 3)), (5, .ref (a 4)), (6, .int (nI k)), (7, .int (nI i)), (8, .int y)]) hx hb dL_settles_57 hl (by decide) rfl (fun ls hl => ?_)
        refine lv_aload_n hx hb dL_settles_59 rfl (lv_at hl 2 rfl) ?_
        refine lv_iload hx hb dL_settles_60 (lv_at hl 8 rfl) ?_
        refine lv_iload hx hb dL_settles_62 (lv_at hl 1 rfl) ?_
        refine lv_iload hx hb dL_settles_64 (lv_at hl 9 rfl) ?_
        refine q_wx (rx_SX S ⟨m_592, m_593, m_22, m_594⟩ ⟨rfl, by decide, by decide, by decide +kernel⟩ (kL_settle l G o σ nm ns (nI k) (nI j) (nI i) hst hns hns4 hnm hnm2 (AO o) hJ.dO) ⟨rfl, rfl, Nat.le_of_ble_eq_true rfl, Nat.le_of_ble_eq_true rfl⟩ (ps bl_PXZ (bXZ (hWq1.xo hK) ((hZ0.at hSq1 (fun _ h => h)).zs))) (n := 4) (As := [.ref (o 0), .int (nI k), .int (nI j), .int (nI i)]) (rest := []) rfl hl.1 rfl (Nat.le_of_ble_eq_true rfl) ⟨Nat.le_of_ble_eq_true rfl, Nat.le_of_ble_eq_true rfl⟩ dL_settles_66) hSq1 (fun _ h => h.inO) (fun rq21 Hq21 Lq21 eq21 gq21 fq21 hSq21 => ?_)
        subst eq21
        rw [show (if eX_settle σ nm ns (nI k) (nI j) (nI i) = 0 then (wrS (wrS σ (lnN (nI k) (nI i)) (gpV σ nm ns (ixN (nI k)) (ixN (nI i)))) (lnN (nI j) (nI i)) (-(gpV σ nm ns (ixN (nI k)) (ixN (nI i))))) else σ) = σ from if_neg (ne0 (k := 2) (eT_3 hns hns4 hk hj hi g2 v2 (flO_no hlk j hj)))] at gq21
        have hWq21 := hWq1.wo hJ gq21 fq21
        refine k_eq (y := (-1000003)) (hcV_3 (eT_3 hns hns4 hk hj hi g2 v2 (flO_no hlk j hj))) ?_
        refine lv_iload hx hb dL_settles_69 (lv_at hl 0 rfl) ?_
        refine lv_icmp_ne (tgt := 110) hx hb dL_settles_71 (by decide) (fun c71_22 => absurd (by decide) c71_22) (fun c71_22 => ?_)
        refine lv_aload_n hx hb dL_settles_74 rfl (lv_at hl 3 rfl) ?_
        refine lv_iload hx hb dL_settles_75 (lv_at hl 8 rfl) ?_
        refine lv_iload hx hb dL_settles_77 (lv_at hl 1 rfl) ?_
        refine lv_iload hx hb dL_settles_79 (lv_at hl 9 rfl) ?_
        refine q_wx (rx_SX S ⟨m_592, m_593, m_22, m_594⟩ ⟨rfl, by decide, by decide, by decide +kernel⟩ (kL_settle l G t σ nm ns (nI k) (nI j) (nI i) hst hns hns4 hnm hnm2 (AO t) hJ.dT) ⟨rfl, rfl, Nat.le_of_ble_eq_true rfl, Nat.le_of_ble_eq_true rfl⟩ (ps bl_PXZ (bXZ (hWq21.xt hK) ((hZ0.at hSq21 (fun _ h => h)).zs))) (n := 4) (As := [.ref (t 0), .int (nI k), .int (nI j), .int (nI i)]) (rest := []) rfl hl.1 rfl (Nat.le_of_ble_eq_true rfl) ⟨Nat.le_of_ble_eq_true rfl, Nat.le_of_ble_eq_true rfl⟩ dL_settles_81) hSq21 (fun _ h => h.inT) (fun rq23 Hq23 Lq23 eq23 gq23 fq23 hSq23 => ?_)
        subst eq23
        rw [show (if eX_settle σ nm ns (nI k) (nI j) (nI i) = 0 then (wrS (wrS σ (lnN (nI k) (nI i)) (gpV σ nm ns (ixN (nI k)) (ixN (nI i)))) (lnN (nI j) (nI i)) (-(gpV σ nm ns (ixN (nI k)) (ixN (nI i))))) else σ) = σ from if_neg (ne0 (k := 2) (eT_3 hns hns4 hk hj hi g2 v2 (flO_no hlk j hj)))] at gq23
        have hWq23 := hWq21.wt hJ gq23 fq23
        refine k_eq (y := (-1000003)) (hcV_3 (eT_3 hns hns4 hk hj hi g2 v2 (flO_no hlk j hj))) ?_
        refine lv_iload hx hb dL_settles_84 (lv_at hl 0 rfl) ?_
        refine lv_icmp_ne (tgt := 110) hx hb dL_settles_86 (by decide) (fun c86_24 => absurd (by decide) c86_24) (fun c86_24 => ?_)
        refine lv_aload_n hx hb dL_settles_89 rfl (lv_at hl 2 rfl) ?_
        refine lv_iload hx hb dL_settles_90 (lv_at hl 8 rfl) ?_
        refine lv_aload hx hb dL_settles_92 (lv_at hl 7 rfl) ?_
        refine lv_iconst (v := 2) hx hb dL_settles_94 (by decide) ?_
        refine k_ldQ S hK hWq23 4 (by decide) (i := 2) (show 2 < 3 by omega) dL_settles_95 ?_
        refine k_eq (y := nI ns) (hA.g2) ?_
        refine lv_iload hx hb dL_settles_96 (lv_at hl 9 rfl) ?_
        refine q_wx (rx_SX S ⟨m_592, m_593, m_22, m_594⟩ ⟨rfl, by decide, by decide, by decide +kernel⟩ (kL_settle l G o σ nm ns (nI k) (nI ns) (nI i) hst hns hns4 hnm hnm2 (AO o) hJ.dO) ⟨rfl, rfl, Nat.le_of_ble_eq_true rfl, Nat.le_of_ble_eq_true rfl⟩ (ps bl_PXZ (bXZ (hWq23.xo hK) ((hZ0.at hSq23 (fun _ h => h)).zs))) (n := 4) (As := [.ref (o 0), .int (nI k), .int (nI ns), .int (nI i)]) (rest := []) rfl hl.1 rfl (Nat.le_of_ble_eq_true rfl) ⟨Nat.le_of_ble_eq_true rfl, Nat.le_of_ble_eq_true rfl⟩ dL_settles_98) hSq23 (fun _ h => h.inO) (fun rq25 Hq25 Lq25 eq25 gq25 fq25 hSq25 => ?_)
        subst eq25
        rw [show (if eX_settle σ nm ns (nI k) (nI ns) (nI i) = 0 then (wrS (wrS σ (lnN (nI k) (nI i)) (gpV σ nm ns (ixN (nI k)) (ixN (nI i)))) (lnN (nI ns) (nI i)) (-(gpV σ nm ns (ixN (nI k)) (ixN (nI i))))) else σ) = σ from if_neg (ne0 (k := 0) (eT_1 hns hns4 hk))] at gq25
        have hWq25 := hWq23.wo hJ gq25 fq25
        refine k_eq (y := (-1000001)) (hcV_1 (eT_1 hns hns4 hk)) ?_
        refine lv_ldc (v := (-1000001)) hx hb S.2.2.2.1 (S.2.2.2.2 _ m_294) dL_settles_101 ?_
        refine lv_icmp_ne (tgt := 110) hx hb dL_settles_103 (by decide) (fun c103_26 => absurd (by decide) c103_26) (fun c103_26 => ?_)
        refine lv_iconst (v := 1) hx hb dL_settles_106 (by decide) ?_
        refine lv_goto (tgt := 111) hx hb dL_settles_107 (by decide) ?_
        refine W.widen (k := 40) (n := 240) (by first | omega | exact Nat.le_of_ble_eq_true rfl) (by first | omega | exact Nat.le_of_ble_eq_true rfl) ?_
        exact W.zret (v := 1) (ty := .boolean) hx hb hr (by first | rfl | exact bI_nar _) (fun t9 ht hWz => ⟨⟨_, rfl, rfl⟩, by rw [ht]; exact ⟨σ, α, hI.up.ri, hWq25⟩, hSq25.F ht⟩) hSq25.2.2 dL_settles_111
  · skip
    obtain ⟨hj, hcs⟩ := flO_s hlk
    obtain ⟨t1, t2, t3, t4, t5⟩ := cs_t hcs
    obtain ⟨u1, u2, u3⟩ := sg_t t2
    obtain ⟨v1, v2, v3⟩ := sg_t t3
    have hjk : j ≠ k := fun q => t1 (by rw [q])
    obtain ⟨pj, hpj, hpj2⟩ := hC.pls j
    obtain ⟨cj, hcj, hcj2⟩ := hC.cut j
    obtain ⟨σ1, hσ1⟩ : ∃ z, z = wrS (wrS σ (k * 5 + i) (gpV σ nm ns k i)) (j * 5 + i) (-(gpV σ nm ns k i)) := ⟨_, rfl⟩
    have hI1 := hI.stl hn hk hj hi t1 u2 u3 v2 v3 hpl hpl2 hpj hpj2 (gpV σ nm ns k i) t4
    rw [← hσ1] at hI1
    have o1 : ∀ r z, r ≠ 14 ∧ r ≠ 15 ∧ r ≠ 19 → σ1 r z = σ r z := fun r z hr => by rw [hσ1, wr_o (Or.inl hr), wr_o (Or.inl hr)]
    have hsk : hsB σ1 (k * 5 + i) = true := hsB_t (by rw [hσ1, wr_o (Or.inr ⟨by omega, by decide⟩), wr_14]; exact hC.s19 (by omega))
    have hsj : hsB σ1 (j * 5 + i) = true := hsB_t (by rw [hσ1, wr_14, wr_19, hC.sgs, ← nI_succ, ← nI_succ]; have := hC.Sn; exact nI_ne0 (by omega) (by omega))
    have gk : agB σ1 (k * 5 + i) = true := by unfold agB; rw [o1 13 _ (by decide)]; exact u2
    have gj : agB σ1 (j * 5 + i) = true := by unfold agB; rw [o1 13 _ (by decide)]; exact v2
    refine lv_aload_n hx hb dL_settles_0 rfl (lv_at hl 0 rfl) ?_
    refine lv_iload hx hb dL_settles_1 (lv_at hl 6 rfl) ?_
    refine lv_iload hx hb dL_settles_3 (lv_at hl 7 rfl) ?_
    refine q_wx (rx_SX S ⟨m_343, m_344, m_22, m_345⟩ ⟨rfl, by decide, by decide, by decide +kernel⟩ (kL_likely l G o σ nm ns (nI k) (nI i) hst hns hns4 hnm hnm2) ⟨rfl, rfl, Nat.le_of_ble_eq_true rfl, Nat.le_of_ble_eq_true rfl⟩ (ps bl_PXZ (bXZ (hW.xo hK) ((hZ0.at hS (fun _ h => h)).zs))) (n := 3) (As := [.ref (o 0), .int (nI k), .int (nI i)]) (rest := []) rfl hl.1 rfl (Nat.le_of_ble_eq_true rfl) ⟨Nat.le_of_ble_eq_true rfl, Nat.le_of_ble_eq_true rfl⟩ dL_settles_5) hS (fun _ h => h.elim) (fun rq27 Hq27 Lq27 eq27 gq27 fq27 hSq27 => ?_)
    subst eq27
    have hWq27 := hW.rd fq27
    refine k_eq (y := nI j) ((tV_lik hns hns4 hk hi).trans (by rw [hlk]; rfl)) ?_
    refine lv_istore (lv' := [(9, .int (nI j)), (0, .ref (o 0)), (1, .ref (t 0)), (2, .ref (a 1)), (3, .ref (a 2)), (4, .ref (a 3)), (5, .ref (a 4)), (6, .int (nI k)), (7, .int (nI i)), (8, .int y)]) hx hb dL_settles_8 hl (by decide) rfl (fun ls hl => ?_)
    refine lv_iload hx hb dL_settles_10 (lv_at hl 0 rfl) ?_
    refine lv_if_ge (tgt := 112) hx hb dL_settles_12 (by decide) (fun c12_28 => ?_) (fun c12_28 => absurd (nI_pos' (by omega)) c12_28)
    refine lv_aload_n hx hb dL_settles_112 rfl (lv_at hl 1 rfl) ?_
    refine lv_iload hx hb dL_settles_113 (lv_at hl 7 rfl) ?_
    refine lv_iload hx hb dL_settles_115 (lv_at hl 8 rfl) ?_
    refine q_wx (rx_SX S ⟨m_366, m_367, m_22, m_368⟩ ⟨rfl, by decide, by decide, by decide +kernel⟩ (kL_gap l G o σ nm ns (nI k) (nI i) hst hns hns4 hnm hnm2) ⟨rfl, rfl, Nat.le_of_ble_eq_true rfl, Nat.le_of_ble_eq_true rfl⟩ (ps bl_PXZ (bXZ (hWq27.xo hK) ((hZ0.at hSq27 (fun _ h => h)).zs))) (n := 3) (As := [.ref (o 0), .int (nI k), .int (nI i)]) (rest := []) rfl hl.1 rfl (Nat.le_of_ble_eq_true rfl) ⟨Nat.le_of_ble_eq_true rfl, Nat.le_of_ble_eq_true rfl⟩ dL_settles_117) hSq27 (fun _ h => h.elim) (fun rq29 Hq29 Lq29 eq29 gq29 fq29 hSq29 => ?_)
    subst eq29
    have hWq29 := hWq27.rd fq29
    refine k_eq (y := gpV σ nm ns k i) (tV_gap hns hns4 hk hi u2) ?_
    refine q_i (r_S S ⟨m_581, m_582, m_22, m_583⟩ ⟨rfl, by decide, by decide, by decide +kernel⟩ (kL_size l (gpV σ nm ns k i)) ⟨rfl, rfl, Nat.le_of_ble_eq_true rfl, Nat.le_of_ble_eq_true rfl⟩ (ps bl_GL (bG hK.2)) (n := 1) (As := [.int (gpV σ nm ns k i)]) (rest := []) rfl hl.1 rfl (Nat.le_of_ble_eq_true rfl) ⟨Nat.le_of_ble_eq_true rfl, Nat.le_of_ble_eq_true rfl⟩ dL_settles_120) (fun rq30 eq30 => ?_)
    subst eq30
    refine lv_istore (lv' := [(10, .int (szV (gpV σ nm ns k i))), (9, .int (nI j)), (0, .ref (o 0)), (1, .ref (t 0)), (2, .ref (a 1)), (3, .ref (a 2)), (4, .ref (a 3)), (5, .ref (a 4)), (6, .int (nI k)), (7, .int (nI i)), (8, .int y)]) hx hb dL_settles_123 hl (by decide) rfl (fun ls hl => ?_)
    refine lv_aload_n hx hb dL_settles_125 rfl (lv_at hl 2 rfl) ?_
    refine lv_iload hx hb dL_settles_126 (lv_at hl 8 rfl) ?_
    refine lv_iload hx hb dL_settles_128 (lv_at hl 1 rfl) ?_
    refine lv_iload hx hb dL_settles_130 (lv_at hl 9 rfl) ?_
    refine q_wx (rx_SX S ⟨m_592, m_593, m_22, m_594⟩ ⟨rfl, by decide, by decide, by decide +kernel⟩ (kL_settle l G o σ nm ns (nI k) (nI j) (nI i) hst hns hns4 hnm hnm2 (AO o) hJ.dO) ⟨rfl, rfl, Nat.le_of_ble_eq_true rfl, Nat.le_of_ble_eq_true rfl⟩ (ps bl_PXZ (bXZ (hWq29.xo hK) ((hZ0.at hSq29 (fun _ h => h)).zs))) (n := 4) (As := [.ref (o 0), .int (nI k), .int (nI j), .int (nI i)]) (rest := []) rfl hl.1 rfl (Nat.le_of_ble_eq_true rfl) ⟨Nat.le_of_ble_eq_true rfl, Nat.le_of_ble_eq_true rfl⟩ dL_settles_132) hSq29 (fun _ h => h.inO) (fun rq31 Hq31 Lq31 eq31 gq31 fq31 hSq31 => ?_)
    subst eq31
    rw [show (if eX_settle σ nm ns (nI k) (nI j) (nI i) = 0 then (wrS (wrS σ (lnN (nI k) (nI i)) (gpV σ nm ns (ixN (nI k)) (ixN (nI i)))) (lnN (nI j) (nI i)) (-(gpV σ nm ns (ixN (nI k)) (ixN (nI i))))) else σ) = σ1 from (if_pos (eT_0 hns hns4 hk hj hi u2 v2 hcs)).trans ((st_ix (by omega) (by omega) hi).trans hσ1.symm)] at gq31
    have hWq31 := hWq29.wo hJ gq31 fq31
    refine k_eq (y := szV (gpV σ nm ns k i)) (tV_settle (eT_0 hns hns4 hk hj hi u2 v2 hcs) (by omega) hi) ?_
    refine lv_iload hx hb dL_settles_135 (lv_at hl 0 rfl) ?_
    refine lv_icmp_ne (tgt := 203) hx hb dL_settles_137 (by decide) (fun c137_32 => absurd rfl c137_32) (fun c137_32 => ?_)
    refine lv_aload_n hx hb dL_settles_140 rfl (lv_at hl 3 rfl) ?_
    refine lv_iload hx hb dL_settles_141 (lv_at hl 8 rfl) ?_
    refine lv_iload hx hb dL_settles_143 (lv_at hl 1 rfl) ?_
    refine lv_iload hx hb dL_settles_145 (lv_at hl 9 rfl) ?_
    refine q_wx (rx_SX S ⟨m_592, m_593, m_22, m_594⟩ ⟨rfl, by decide, by decide, by decide +kernel⟩ (kL_settle l G t σ nm ns (nI k) (nI j) (nI i) hst hns hns4 hnm hnm2 (AO t) hJ.dT) ⟨rfl, rfl, Nat.le_of_ble_eq_true rfl, Nat.le_of_ble_eq_true rfl⟩ (ps bl_PXZ (bXZ (hWq31.xt hK) ((hZ0.at hSq31 (fun _ h => h)).zs))) (n := 4) (As := [.ref (t 0), .int (nI k), .int (nI j), .int (nI i)]) (rest := []) rfl hl.1 rfl (Nat.le_of_ble_eq_true rfl) ⟨Nat.le_of_ble_eq_true rfl, Nat.le_of_ble_eq_true rfl⟩ dL_settles_147) hSq31 (fun _ h => h.inT) (fun rq33 Hq33 Lq33 eq33 gq33 fq33 hSq33 => ?_)
    subst eq33
    rw [show (if eX_settle σ nm ns (nI k) (nI j) (nI i) = 0 then (wrS (wrS σ (lnN (nI k) (nI i)) (gpV σ nm ns (ixN (nI k)) (ixN (nI i)))) (lnN (nI j) (nI i)) (-(gpV σ nm ns (ixN (nI k)) (ixN (nI i))))) else σ) = σ1 from (if_pos (eT_0 hns hns4 hk hj hi u2 v2 hcs)).trans ((st_ix (by omega) (by omega) hi).trans hσ1.symm)] at gq33
    have hWq33 := hWq31.wt hJ gq33 fq33
    refine k_eq (y := szV (gpV σ nm ns k i)) (tV_settle (eT_0 hns hns4 hk hj hi u2 v2 hcs) (by omega) hi) ?_
    refine lv_iload hx hb dL_settles_150 (lv_at hl 0 rfl) ?_
    refine lv_icmp_ne (tgt := 203) hx hb dL_settles_152 (by decide) (fun c152_34 => absurd rfl c152_34) (fun c152_34 => ?_)
    refine lv_iload hx hb dL_settles_155 (lv_at hl 0 rfl) ?_
    refine lv_if_le (tgt := 203) hx hb dL_settles_157 (by decide) (fun c157_35 => absurd c157_35 (hC.sz_pos hn hk hi u3 t4)) (fun c157_35 => ?_)
    refine lv_aload_n hx hb dL_settles_160 rfl (lv_at hl 2 rfl) ?_
    refine lv_iload hx hb dL_settles_161 (lv_at hl 8 rfl) ?_
    refine lv_iload hx hb dL_settles_163 (lv_at hl 9 rfl) ?_
    refine q_wx (rx_SX S ⟨m_336, m_337, m_22, m_338⟩ ⟨rfl, by decide, by decide, by decide +kernel⟩ (kL_isSigned l G o σ1 nm ns (nI k) (nI i) hst hI1.1.hns hns4 hI1.1.hnm hnm2) ⟨rfl, rfl, Nat.le_of_ble_eq_true rfl, Nat.le_of_ble_eq_true rfl⟩ (ps bl_PXZ (bXZ (hWq33.xo hK) ((hZ0.at hSq33 (fun _ h => h)).zs))) (n := 3) (As := [.ref (o 0), .int (nI k), .int (nI i)]) (rest := []) rfl hl.1 rfl (Nat.le_of_ble_eq_true rfl) ⟨Nat.le_of_ble_eq_true rfl, Nat.le_of_ble_eq_true rfl⟩ dL_settles_165) hSq33 (fun _ h => h.elim) (fun rq36 Hq36 Lq36 eq36 gq36 fq36 hSq36 => ?_)
    subst eq36
    have hWq36 := hWq33.rd fq36
    refine k_eq (y := 1) ((tV_line hI1.1.hns hns4 hk hi (fun z => bI (hsB σ1 z))).trans (by rw [hsk]; rfl)) ?_
    refine lv_iconst (v := 1) hx hb dL_settles_168 (by decide) ?_
    refine lv_icmp_ne (tgt := 203) hx hb dL_settles_169 (by decide) (fun c169_37 => absurd (by decide) c169_37) (fun c169_37 => ?_)
    refine lv_aload_n hx hb dL_settles_172 rfl (lv_at hl 2 rfl) ?_
    refine lv_iload hx hb dL_settles_173 (lv_at hl 1 rfl) ?_
    refine lv_iload hx hb dL_settles_175 (lv_at hl 9 rfl) ?_
    refine q_wx (rx_SX S ⟨m_336, m_337, m_22, m_338⟩ ⟨rfl, by decide, by decide, by decide +kernel⟩ (kL_isSigned l G o σ1 nm ns (nI j) (nI i) hst hI1.1.hns hns4 hI1.1.hnm hnm2) ⟨rfl, rfl, Nat.le_of_ble_eq_true rfl, Nat.le_of_ble_eq_true rfl⟩ (ps bl_PXZ (bXZ (hWq36.xo hK) ((hZ0.at hSq36 (fun _ h => h)).zs))) (n := 3) (As := [.ref (o 0), .int (nI j), .int (nI i)]) (rest := []) rfl hl.1 rfl (Nat.le_of_ble_eq_true rfl) ⟨Nat.le_of_ble_eq_true rfl, Nat.le_of_ble_eq_true rfl⟩ dL_settles_177) hSq36 (fun _ h => h.elim) (fun rq38 Hq38 Lq38 eq38 gq38 fq38 hSq38 => ?_)
    subst eq38
    have hWq38 := hWq36.rd fq38
    refine k_eq (y := 1) ((tV_line hI1.1.hns hns4 hj hi (fun z => bI (hsB σ1 z))).trans (by rw [hsj]; rfl)) ?_
    refine lv_iconst (v := 1) hx hb dL_settles_180 (by decide) ?_
    refine lv_icmp_ne (tgt := 203) hx hb dL_settles_181 (by decide) (fun c181_39 => absurd (by decide) c181_39) (fun c181_39 => ?_)
    refine lv_aload_n hx hb dL_settles_184 rfl (lv_at hl 2 rfl) ?_
    refine lv_iload hx hb dL_settles_185 (lv_at hl 1 rfl) ?_
    refine lv_iload hx hb dL_settles_187 (lv_at hl 8 rfl) ?_
    refine lv_iload hx hb dL_settles_189 (lv_at hl 9 rfl) ?_
    refine q_wx (rx_SX S ⟨m_592, m_593, m_22, m_594⟩ ⟨rfl, by decide, by decide, by decide +kernel⟩ (kL_settle l G o σ1 nm ns (nI j) (nI k) (nI i) hst hI1.1.hns hns4 hI1.1.hnm hnm2 (AO o) hJ.dO) ⟨rfl, rfl, Nat.le_of_ble_eq_true rfl, Nat.le_of_ble_eq_true rfl⟩ (ps bl_PXZ (bXZ (hWq38.xo hK) ((hZ0.at hSq38 (fun _ h => h)).zs))) (n := 4) (As := [.ref (o 0), .int (nI j), .int (nI k), .int (nI i)]) (rest := []) rfl hl.1 rfl (Nat.le_of_ble_eq_true rfl) ⟨Nat.le_of_ble_eq_true rfl, Nat.le_of_ble_eq_true rfl⟩ dL_settles_191) hSq38 (fun _ h => h.inO) (fun rq40 Hq40 Lq40 eq40 gq40 fq40 hSq40 => ?_)
    subst eq40
    rw [show (if eX_settle σ1 nm ns (nI j) (nI k) (nI i) = 0 then (wrS (wrS σ1 (lnN (nI j) (nI i)) (gpV σ1 nm ns (ixN (nI j)) (ixN (nI i)))) (lnN (nI k) (nI i)) (-(gpV σ1 nm ns (ixN (nI j)) (ixN (nI i))))) else σ1) = σ1 from if_neg (ne0 (k := 2) (eT_3 hI1.1.hns hns4 hj hk hi gj gk (cs_f (sg_hs hsj))))] at gq40
    have hWq40 := hWq38.wo hJ gq40 fq40
    refine k_eq (y := (-1000003)) (hcV_3 (eT_3 hI1.1.hns hns4 hj hk hi gj gk (cs_f (sg_hs hsj)))) ?_
    refine lv_ldc (v := (-1000003)) hx hb S.2.2.2.1 (S.2.2.2.2 _ m_427) dL_settles_194 ?_
    refine lv_icmp_ne (tgt := 203) hx hb dL_settles_196 (by decide) (fun c196_41 => absurd (by decide) c196_41) (fun c196_41 => ?_)
    refine lv_iconst (v := 1) hx hb dL_settles_199 (by decide) ?_
    refine lv_goto (tgt := 204) hx hb dL_settles_200 (by decide) ?_
    refine lv_istore (lv' := [(11, .int 1), (10, .int (szV (gpV σ nm ns k i))), (9, .int (nI j)), (0, .ref (o 0)), (1, .ref (t 0)), (2, .ref (a 1)), (3, .ref (a 2)), (4, .ref (a 3)), (5, .ref (a 4)), (6, .int (nI k)), (7, .int (nI i)), (8, .int y)]) hx hb dL_settles_204 hl (by decide) rfl (fun ls hl => ?_)
    refine lv_aload hx hb dL_settles_206 (lv_at hl 7 rfl) ?_
    refine lv_iconst (v := 2) hx hb dL_settles_208 (by decide) ?_
    refine lv_aload_n hx hb dL_settles_209 rfl (lv_at hl 5 rfl) ?_
    refine lv_iload hx hb dL_settles_210 (lv_at hl 9 rfl) ?_
    refine k_ldQ S hK hWq40 1 (by decide) (i := k) (show k < 12 by omega) dL_settles_212 ?_
    refine k_eq (y := nI pl) ((by rw [hA.ap k hk]; exact hpl)) ?_
    refine lv_iconst (v := 4) hx hb dL_settles_213 (by decide) ?_
    refine lv_idiv hx hb dL_settles_214 (by decide) ?_
    refine k_eq (y := nI (pl / 4)) (pk_div (a := pl) (d := 4) (by omega) (by decide) (by decide)) ?_
    refine lv_imul hx hb dL_settles_215 ?_
    refine k_eq (y := nI (2 * (pl / 4))) (pk_mul 2 (pl / 4)) ?_
    refine lv_dup2_11 hx hb dL_settles_216 rfl rfl ?_
    refine k_ldQ S hK hWq40 3 (by decide) (i := (2 * (pl / 4))) (show (2 * (pl / 4)) < 6 by omega) dL_settles_217 ?_
    refine k_eq (y := (exF σ (nI (pl / 4)) ns).1) ((hA.az (pl / 4) (by omega)).1) ?_
    refine lv_iconst (v := 1) hx hb dL_settles_218 (by decide) ?_
    refine lv_iadd hx hb dL_settles_219 ?_
    refine k_stQ S hK hJ hWq40 hSq40 (fun _ h => h) 3 (by decide) (i := (2 * (pl / 4))) (show (2 * (pl / 4)) < 6 by omega) dL_settles_220 (fun Hq42 Lq42 hWq42 hSq42 => ?_)
    refine lv_aload hx hb dL_settles_221 (lv_at hl 7 rfl) ?_
    refine lv_iconst (v := 2) hx hb dL_settles_223 (by decide) ?_
    refine lv_aload_n hx hb dL_settles_224 rfl (lv_at hl 5 rfl) ?_
    refine lv_iload hx hb dL_settles_225 (lv_at hl 2 rfl) ?_
    refine k_ldQ S hK hWq42 1 (by decide) (i := j) (show j < 12 by omega) dL_settles_227 ?_
    refine k_eq (y := nI pj) ((by rw [su_ne (by decide), hA.ap j hj]; exact hpj)) ?_
    refine lv_iconst (v := 4) hx hb dL_settles_228 (by decide) ?_
    refine lv_idiv hx hb dL_settles_229 (by decide) ?_
    refine k_eq (y := nI (pj / 4)) (pk_div (a := pj) (d := 4) (by omega) (by decide) (by decide)) ?_
    refine lv_imul hx hb dL_settles_230 ?_
    refine k_eq (y := nI (2 * (pj / 4))) (pk_mul 2 (pj / 4)) ?_
    refine lv_dup2_11 hx hb dL_settles_231 rfl rfl ?_
    refine k_ldQ S hK hWq42 3 (by decide) (i := (2 * (pj / 4))) (show (2 * (pj / 4)) < 6 by omega) dL_settles_232 ?_
    refine lv_iconst (v := 1) hx hb dL_settles_233 (by decide) ?_
    refine lv_iadd hx hb dL_settles_234 ?_
    refine k_stQ S hK hJ hWq42 hSq42 (fun _ h => h) 3 (by decide) (i := (2 * (pj / 4))) (show (2 * (pj / 4)) < 6 by omega) dL_settles_235 (fun Hq43 Lq43 hWq43 hSq43 => ?_)
    refine lv_iload hx hb dL_settles_236 (lv_at hl 0 rfl) ?_
    refine lv_if_eq (tgt := 301) hx hb dL_settles_238 (by decide) (fun c238_44 => absurd c238_44 (by decide)) (fun c238_44 => ?_)
    refine lv_aload_n hx hb dL_settles_241 rfl (lv_at hl 3 rfl) ?_
    refine lv_aload_n hx hb dL_settles_242 rfl (lv_at hl 5 rfl) ?_
    refine lv_iload hx hb dL_settles_243 (lv_at hl 9 rfl) ?_
    refine k_ldQ S hK hWq43 1 (by decide) (i := k) (show k < 12 by omega) dL_settles_245 ?_
    refine k_eq (y := nI pl) ((by rw [su_ne (by decide), su_ne (by decide), hA.ap k hk]; exact hpl)) ?_
    refine lv_iload hx hb dL_settles_246 (lv_at hl 10 rfl) ?_
    refine lv_aload_n hx hb dL_settles_248 rfl (lv_at hl 3 rfl) ?_
    refine lv_iload hx hb dL_settles_249 (lv_at hl 9 rfl) ?_
    refine q_wx (rx_SX S ⟨m_428, m_429, m_22, m_430⟩ ⟨rfl, by decide, by decide, by decide +kernel⟩ (kL_cutOf l G o σ1 nm ns (nI k) hst hI1.1.hns hns4 hI1.1.hnm hnm2) ⟨rfl, rfl, Nat.le_of_ble_eq_true rfl, Nat.le_of_ble_eq_true rfl⟩ (ps bl_PXZ (bXZ (hWq43.xo hK) ((hZ0.at hSq43 (fun _ h => h)).zs))) (n := 2) (As := [.ref (o 0), .int (nI k)]) (rest := [.int (nI i), .int (nI pl), .ref (o 0)]) rfl hl.1 rfl (Nat.le_of_ble_eq_true rfl) ⟨Nat.le_of_ble_eq_true rfl, Nat.le_of_ble_eq_true rfl⟩ dL_settles_251) hSq43 (fun _ h => h.elim) (fun rq45 Hq45 Lq45 eq45 gq45 fq45 hSq45 => ?_)
    subst eq45
    have hWq45 := hWq43.rd fq45
    refine k_eq (y := nI cu) ((tV_cut hI1.1.hns hns4 hk).trans (by rw [o1 8 k (by decide)]; exact hcu)) ?_
    refine q_wx (rx_SX S ⟨m_435, m_436, m_22, m_437⟩ ⟨rfl, by decide, by decide, by decide +kernel⟩ (kL_bookAt l G o σ1 nm ns (nI pl) (nI i) (nI cu) hst hI1.1.hns hns4 hI1.1.hnm hnm2) ⟨rfl, rfl, Nat.le_of_ble_eq_true rfl, Nat.le_of_ble_eq_true rfl⟩ (ps bl_PXZ (bXZ (hWq45.xo hK) ((hZ0.at hSq45 (fun _ h => h)).zs))) (n := 4) (As := [.ref (o 0), .int (nI pl), .int (nI i), .int (nI cu)]) (rest := []) rfl hl.1 rfl (Nat.le_of_ble_eq_true rfl) ⟨Nat.le_of_ble_eq_true rfl, Nat.le_of_ble_eq_true rfl⟩ dL_settles_254) hSq45 (fun _ h => h.elim) (fun rq46 Hq46 Lq46 eq46 gq46 fq46 hSq46 => ?_)
    subst eq46
    have hWq46 := hWq45.rd fq46
    refine k_eq (y := σ 13 (k * 5 + i)) ((tV_bookAt hpl2 hi hI1.1.now hcu2 hN31).trans (by rw [hσ1]; exact hC.bo_s1 hn hk hj hi t1 hpl hcu)) ?_
    refine lv_aload_n hx hb dL_settles_257 rfl (lv_at hl 6 rfl) ?_
    refine lv_iconst (v := 5) hx hb dL_settles_258 (by decide) ?_
    refine lv_iload hx hb dL_settles_259 (lv_at hl 9 rfl) ?_
    refine lv_imul hx hb dL_settles_261 ?_
    refine k_eq (y := nI (5 * k)) (pk_mul 5 k) ?_
    refine lv_iload hx hb dL_settles_262 (lv_at hl 10 rfl) ?_
    refine lv_iadd hx hb dL_settles_264 ?_
    refine k_eq (y := nI (5 * k + i)) (nI_add (5 * k) i) ?_
    refine k_ldQ S hK hWq46 2 (by decide) (i := (5 * k + i)) (show (5 * k + i) < 60 by omega) dL_settles_265 ?_
    refine k_eq (y := σ 13 (k * 5 + i)) ((by rw [su_ne (by decide), su_ne (by decide), hA.ac (5 * k + i) (by omega), Nat.mul_comm 5 k])) ?_
    refine lv_icmp_ne (tgt := 301) hx hb dL_settles_266 (by decide) (fun c266_47 => absurd rfl c266_47) (fun c266_47 => ?_)
    refine lv_aload_n hx hb dL_settles_269 rfl (lv_at hl 3 rfl) ?_
    refine lv_aload_n hx hb dL_settles_270 rfl (lv_at hl 5 rfl) ?_
    refine lv_iload hx hb dL_settles_271 (lv_at hl 2 rfl) ?_
    refine k_ldQ S hK hWq46 1 (by decide) (i := j) (show j < 12 by omega) dL_settles_273 ?_
    refine k_eq (y := nI pj) ((by rw [su_ne (by decide), su_ne (by decide), hA.ap j hj]; exact hpj)) ?_
    refine lv_iload hx hb dL_settles_274 (lv_at hl 10 rfl) ?_
    refine lv_aload_n hx hb dL_settles_276 rfl (lv_at hl 3 rfl) ?_
    refine lv_iload hx hb dL_settles_277 (lv_at hl 2 rfl) ?_
    refine q_wx (rx_SX S ⟨m_428, m_429, m_22, m_430⟩ ⟨rfl, by decide, by decide, by decide +kernel⟩ (kL_cutOf l G o σ1 nm ns (nI j) hst hI1.1.hns hns4 hI1.1.hnm hnm2) ⟨rfl, rfl, Nat.le_of_ble_eq_true rfl, Nat.le_of_ble_eq_true rfl⟩ (ps bl_PXZ (bXZ (hWq46.xo hK) ((hZ0.at hSq46 (fun _ h => h)).zs))) (n := 2) (As := [.ref (o 0), .int (nI j)]) (rest := [.int (nI i), .int (nI pj), .ref (o 0)]) rfl hl.1 rfl (Nat.le_of_ble_eq_true rfl) ⟨Nat.le_of_ble_eq_true rfl, Nat.le_of_ble_eq_true rfl⟩ dL_settles_279) hSq46 (fun _ h => h.elim) (fun rq48 Hq48 Lq48 eq48 gq48 fq48 hSq48 => ?_)
    subst eq48
    have hWq48 := hWq46.rd fq48
    refine k_eq (y := nI cj) ((tV_cut hI1.1.hns hns4 hj).trans (by rw [o1 8 j (by decide)]; exact hcj)) ?_
    refine q_wx (rx_SX S ⟨m_435, m_436, m_22, m_437⟩ ⟨rfl, by decide, by decide, by decide +kernel⟩ (kL_bookAt l G o σ1 nm ns (nI pj) (nI i) (nI cj) hst hI1.1.hns hns4 hI1.1.hnm hnm2) ⟨rfl, rfl, Nat.le_of_ble_eq_true rfl, Nat.le_of_ble_eq_true rfl⟩ (ps bl_PXZ (bXZ (hWq48.xo hK) ((hZ0.at hSq48 (fun _ h => h)).zs))) (n := 4) (As := [.ref (o 0), .int (nI pj), .int (nI i), .int (nI cj)]) (rest := []) rfl hl.1 rfl (Nat.le_of_ble_eq_true rfl) ⟨Nat.le_of_ble_eq_true rfl, Nat.le_of_ble_eq_true rfl⟩ dL_settles_282) hSq48 (fun _ h => h.elim) (fun rq49 Hq49 Lq49 eq49 gq49 fq49 hSq49 => ?_)
    subst eq49
    have hWq49 := hWq48.rd fq49
    refine k_eq (y := σ 13 (j * 5 + i)) ((tV_bookAt hpj2 hi hI1.1.now hcj2 hN31).trans (by rw [hσ1]; exact hC.bo_s2 hn hk hj hi u2 hpj hcj)) ?_
    refine lv_aload_n hx hb dL_settles_285 rfl (lv_at hl 6 rfl) ?_
    refine lv_iconst (v := 5) hx hb dL_settles_286 (by decide) ?_
    refine lv_iload hx hb dL_settles_287 (lv_at hl 2 rfl) ?_
    refine lv_imul hx hb dL_settles_289 ?_
    refine k_eq (y := nI (5 * j)) (pk_mul 5 j) ?_
    refine lv_iload hx hb dL_settles_290 (lv_at hl 10 rfl) ?_
    refine lv_iadd hx hb dL_settles_292 ?_
    refine k_eq (y := nI (5 * j + i)) (nI_add (5 * j) i) ?_
    refine k_ldQ S hK hWq49 2 (by decide) (i := (5 * j + i)) (show (5 * j + i) < 60 by omega) dL_settles_293 ?_
    refine k_eq (y := σ 13 (j * 5 + i)) ((by rw [su_ne (by decide), su_ne (by decide), hA.ac (5 * j + i) (by omega), Nat.mul_comm 5 j])) ?_
    refine lv_icmp_ne (tgt := 301) hx hb dL_settles_294 (by decide) (fun c294_50 => absurd rfl c294_50) (fun c294_50 => ?_)
    refine lv_iconst (v := 1) hx hb dL_settles_297 (by decide) ?_
    refine lv_goto (tgt := 302) hx hb dL_settles_298 (by decide) ?_
    refine W.widen (k := 40) (n := 240) (by first | omega | exact Nat.le_of_ble_eq_true rfl) (by first | omega | exact Nat.le_of_ble_eq_true rfl) ?_
    exact W.zret (v := 1) (ty := .boolean) hx hb hr (by first | rfl | exact bI_nar _) (fun t9 ht hWz => ⟨⟨_, rfl, rfl⟩, by rw [ht]; exact ⟨σ1, su (su α 3 (2 * (pl / 4)) (((exF σ (nI (pl / 4)) ns).1) + 1)) 3 (2 * (pj / 4)) (((su α 3 (2 * (pl / 4)) (((exF σ (nI (pl / 4)) ns).1) + 1)) 3 (2 * (pj / 4))) + 1), hI1.ri, hWq49⟩, hSq49.F ht⟩) hSq49.2.2 dL_settles_302
