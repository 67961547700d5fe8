set_option maxHeartbeats 4000000 in
set_option maxRecDepth 100000 in
theorem kL_acts (l : Launch) (G : kG) (o t a : Nat → Nat) (σ α : kS) (nm ns n N S9 : Nat) (x y : Int32) (hst : l.stackTraces = false) (hJ : JQ o t a) (hI : Inv σ α nm ns n N S9) (hn : n ≤ 110) : Met l yL_acts [.code yL_acts cL_acts 17 (some .boolean)] ({ frames := 11, cells := 70, slots := 420, locals := 270 }) (va_Pc [.ref (o 0), .ref (t 0), .ref (a 0), .ref (a 1), .ref (a 2), .ref (a 3), .ref (a 4), .int x, .int y] (PQ G o t a σ σ α)) (oW (AQ o t a) (fun r => r = 1) (fun H9 => WI G o t a (n + 1) H9)) 70 420 (AQ o t a) := by
  refine k_of (by decide) (Nat.le_of_ble_eq_true rfl) (fun U h => h.2.1.2) ?_
  intro p e s m below meth c ls S hr hlocks hmn hB hl
  have hx := S.1
  have hb := S.2.1
  obtain ⟨hW, hK, hZ0⟩ := hB
  have hS : va_S (AQ o t a) s.heap s.heap [] := va_S.rf
  have hC := hI.1
  have hA := hI.2
  have hns := hC.hns
  have hns4 : ns ≤ 40 := by have := hC.ns12; omega
  have hnm := hC.hnm
  have hnm2 : nm ≤ 200 := by have := hC.nmn; omega
  have hN31 : N < 2 ^ 31 := by have := hC.Nn; omega
  have hns12 := hC.ns12
  have hN4 := hC.Nn
  have hnmn := hC.nmn
  have hl : lv_has ls 17 [(0, .ref (o 0)), (1, .ref (t 0)), (2, .ref (a 0)), (3, .ref (a 1)), (4, .ref (a 2)), (5, .ref (a 3)), (6, .ref (a 4)), (7, .int x), (8, .int y)] := hl
  refine lv_iload hx hb dL_acts_0 (lv_at hl 7 rfl) ?_
  refine lv_bipush (v := 26) hx hb dL_acts_2 (by decide) ?_
  refine q_i (r_S S ⟨m_487, m_488, m_22, m_489⟩ ⟨rfl, by decide, by decide, by decide +kernel⟩ (kL_low l x 26 (by first | decide | omega) (by first | decide | omega)) ⟨rfl, rfl, Nat.le_of_ble_eq_true rfl, Nat.le_of_ble_eq_true rfl⟩ (ps bl_GL (bG hK.2)) (n := 2) (As := [.int x, .int 26]) (rest := []) rfl hl.1 rfl (Nat.le_of_ble_eq_true rfl) ⟨Nat.le_of_ble_eq_true rfl, Nat.le_of_ble_eq_true rfl⟩ dL_acts_4) (fun rq1 ⟨kd, hkd, eq1⟩ => ?_)
  subst eq1
  refine lv_istore (lv' := [(9, .int (nI kd)), (0, .ref (o 0)), (1, .ref (t 0)), (2, .ref (a 0)), (3, .ref (a 1)), (4, .ref (a 2)), (5, .ref (a 3)), (6, .ref (a 4)), (7, .int x), (8, .int y)]) hx hb dL_acts_7 hl (by decide) rfl (fun ls hl => ?_)
  refine lv_iload hx hb dL_acts_9 (lv_at hl 8 rfl) ?_
  refine lv_iconst (v := 5) hx hb dL_acts_11 (by decide) ?_
  refine lv_ishr hx hb dL_acts_12 ?_
  refine lv_iconst (v := 5) hx hb dL_acts_13 (by decide) ?_
  refine q_i (r_S S ⟨m_487, m_488, m_22, m_489⟩ ⟨rfl, by decide, by decide, by decide +kernel⟩ (kL_low l (x >>> (5 &&& 31)) 5 (by first | decide | omega) (by first | decide | omega)) ⟨rfl, rfl, Nat.le_of_ble_eq_true rfl, Nat.le_of_ble_eq_true rfl⟩ (ps bl_GL (bG hK.2)) (n := 2) (As := [.int (x >>> (5 &&& 31)), .int 5]) (rest := []) rfl hl.1 rfl (Nat.le_of_ble_eq_true rfl) ⟨Nat.le_of_ble_eq_true rfl, Nat.le_of_ble_eq_true rfl⟩ dL_acts_14) (fun rq2 ⟨i, hi, eq2⟩ => ?_)
  subst eq2
  refine lv_istore (lv' := [(10, .int (nI i)), (9, .int (nI kd)), (0, .ref (o 0)), (1, .ref (t 0)), (2, .ref (a 0)), (3, .ref (a 1)), (4, .ref (a 2)), (5, .ref (a 3)), (6, .ref (a 4)), (7, .int x), (8, .int y)]) hx hb dL_acts_17 hl (by decide) rfl (fun ls hl => ?_)
  refine lv_iload hx hb dL_acts_19 (lv_at hl 10 rfl) ?_
  refine lv_iconst (v := 3) hx hb dL_acts_21 (by decide) ?_
  refine lv_ishr hx hb dL_acts_22 ?_
  refine lv_bipush (v := 6) hx hb dL_acts_23 (by decide) ?_
  refine q_i (r_S S ⟨m_487, m_488, m_22, m_489⟩ ⟨rfl, by decide, by decide, by decide +kernel⟩ (kL_low l (y >>> (3 &&& 31)) 6 (by first | decide | omega) (by first | decide | omega)) ⟨rfl, rfl, Nat.le_of_ble_eq_true rfl, Nat.le_of_ble_eq_true rfl⟩ (ps bl_GL (bG hK.2)) (n := 2) (As := [.int (y >>> (3 &&& 31)), .int 6]) (rest := []) rfl hl.1 rfl (Nat.le_of_ble_eq_true rfl) ⟨Nat.le_of_ble_eq_true rfl, Nat.le_of_ble_eq_true rfl⟩ dL_acts_25) (fun rq3 ⟨pe, hpe, eq3⟩ => ?_)
  subst eq3
  refine lv_istore (lv' := [(11, .int (nI pe)), (10, .int (nI i)), (9, .int (nI kd)), (0, .ref (o 0)), (1, .ref (t 0)), (2, .ref (a 0)), (3, .ref (a 1)), (4, .ref (a 2)), (5, .ref (a 3)), (6, .ref (a 4)), (7, .int x), (8, .int y)]) hx hb dL_acts_28 hl (by decide) rfl (fun ls hl => ?_)
  refine lv_iload hx hb dL_acts_30 (lv_at hl 2 rfl) ?_
  refine lv_bipush (v := 7) hx hb dL_acts_32 (by decide) ?_
  refine lv_icmp_ge (tgt := 49) hx hb dL_acts_34 (by decide) (fun ck7 => ?_) (fun ck7 => ?_)
  · skip
    refine lv_iload hx hb dL_acts_49 (lv_at hl 2 rfl) ?_
    refine lv_bipush (v := 9) hx hb dL_acts_51 (by decide) ?_
    refine lv_icmp_ge (tgt := 130) hx hb dL_acts_53 (by decide) (fun ck9 => ?_) (fun ck9 => ?_)
    · skip
      refine lv_iload hx hb dL_acts_130 (lv_at hl 2 rfl) ?_
      refine lv_bipush (v := 9) hx hb dL_acts_132 (by decide) ?_
      refine lv_icmp_ne (tgt := 299) hx hb dL_acts_134 (by decide) (fun ck10 => ?_) (fun ck10 => ?_)
      · skip
        have J539 : ∀  (H9 : Heap) (L9 : List Loc), WQ G o t a σ σ α H9 → va_S ((AQ o t a)) s.heap H9 L9 → ∀ ls, lv_has ls 17 [(11, .int (nI pe)), (10, .int (nI i)), (9, .int (nI kd)), (0, .ref (o 0)), (1, .ref (t 0)), (2, .ref (a 0)), (3, .ref (a 1)), (4, .ref (a 2)), (5, .ref (a 3)), (6, .ref (a 4)), (7, .int x), (8, .int y)] → W p l e (({ frames := 11, cells := 70, slots := 420, locals := 270 }) : Room) s m [.ref (o 0), .ref (t 0), .ref (a 0), .ref (a 1), .ref (a 2), .ref (a 3), .ref (a 4), .int x, .int y].toArray below meth c H9 L9 (0) (0) (MQ below (oW (AQ o t a) (fun r => r = 1) (fun H9 => WI G o t a (n + 1) H9)) [.ref (o 0), .ref (t 0), .ref (a 0), .ref (a 1), .ref (a 2), .ref (a 3), .ref (a 4), .int x, .int y].toArray s 70 420 (AQ o t a)) (F0 m 539 ls []) := by
          intro  H9 L9 hW hS ls hl
          refine lv_aload hx hb dL_acts_539 (lv_at hl 9 rfl) ?_
          refine lv_iconst (v := 2) hx hb dL_acts_541 (by decide) ?_
          refine k_ldQ S hK hW 4 (by decide) (i := 2) (show 2 < 3 by omega) dL_acts_542 ?_
          refine k_eq (y := nI ns) (hA.g2) ?_
          refine lv_if_ne (tgt := 587) hx hb dL_acts_543 (by decide) (fun c0 => ?_) (fun c0 => ?_)
          · skip
            have hns0 : 0 < ns := by
              rcases Nat.eq_zero_or_pos ns with h9 | h9
              · exact absurd (by rw [h9]; rfl) c0
              · exact h9
            have J647 : ∀ (k : Nat) (hk : k < ns) (H9 : Heap) (L9 : List Loc), WQ G o t a σ σ α H9 → va_S ((AQ o t a)) s.heap H9 L9 → ∀ ls, lv_has ls 17 [(11, .int (nI pe)), (10, .int (nI i)), (9, .int (nI kd)), (0, .ref (o 0)), (1, .ref (t 0)), (2, .ref (a 0)), (3, .ref (a 1)), (4, .ref (a 2)), (5, .ref (a 3)), (6, .ref (a 4)), (7, .int x), (8, .int y), (12, .int (nI k))] → W p l e (({ frames := 11, cells := 70, slots := 420, locals := 270 }) : Room) s m [.ref (o 0), .ref (t 0), .ref (a 0), .ref (a 1), .ref (a 2), .ref (a 3), .ref (a 4), .int x, .int y].toArray below meth c H9 L9 (0) (0) (MQ below (oW (AQ o t a) (fun r => r = 1) (fun H9 => WI G o t a (n + 1) H9)) [.ref (o 0), .ref (t 0), .ref (a 0), .ref (a 1), .ref (a 2), .ref (a 3), .ref (a 4), .int x, .int y].toArray s 70 420 (AQ o t a)) (F0 m 647 ls []) := by
              intro k hk H9 L9 hW hS ls hl
              refine lv_iload hx hb dL_acts_647 (lv_at hl 2 rfl) ?_
              refine lv_bipush (v := 19) hx hb dL_acts_649 (by decide) ?_
              refine lv_icmp_ge (tgt := 1021) hx hb dL_acts_651 (by decide) (fun ck19 => ?_) (fun ck19 => ?_)
              · skip
                refine lv_iload hx hb dL_acts_1021 (lv_at hl 2 rfl) ?_
                refine lv_bipush (v := 21) hx hb dL_acts_1023 (by decide) ?_
                refine lv_icmp_ge (tgt := 1191) hx hb dL_acts_1025 (by decide) (fun ck21 => ?_) (fun ck21 => ?_)
                · skip
                  refine lv_iload hx hb dL_acts_1191 (lv_at hl 2 rfl) ?_
                  refine lv_bipush (v := 24) hx hb dL_acts_1193 (by decide) ?_
                  refine lv_icmp_ge (tgt := 1218) hx hb dL_acts_1195 (by decide) (fun ck24 => ?_) (fun ck24 => ?_)
                  · skip
                    refine lv_aload_n hx hb dL_acts_1218 rfl (lv_at hl 3 rfl) ?_
                    refine lv_aload_n hx hb dL_acts_1219 rfl (lv_at hl 4 rfl) ?_
                    refine lv_aload_n hx hb dL_acts_1220 rfl (lv_at hl 6 rfl) ?_
                    refine lv_aload hx hb dL_acts_1221 (lv_at hl 7 rfl) ?_
                    refine lv_aload hx hb dL_acts_1223 (lv_at hl 8 rfl) ?_
                    refine lv_aload hx hb dL_acts_1225 (lv_at hl 9 rfl) ?_
                    refine lv_iload hx hb dL_acts_1227 (lv_at hl 12 rfl) ?_
                    refine lv_iload hx hb dL_acts_1229 (lv_at hl 1 rfl) ?_
                    refine lv_iload hx hb dL_acts_1231 (lv_at hl 11 rfl) ?_
                    refine lv_iconst (v := 5) hx hb dL_acts_1233 (by decide) ?_
                    refine lv_ishr hx hb dL_acts_1234 ?_
                    refine q_w (r_S S ⟨m_589, m_590, m_22, m_591⟩ ⟨rfl, by decide, by decide, by decide +kernel⟩ (kL_settles l G o t a σ α nm ns n N S9 k i (y >>> (5 &&& 31)) hst hJ hI hn hk hi) ⟨rfl, rfl, Nat.le_of_ble_eq_true rfl, Nat.le_of_ble_eq_true rfl⟩ (ps bl_PQ (hW.bq hK (hZ0.at hS (fun _ h => h)))) (n := 9) (As := [.ref (o 0), .ref (t 0), .ref (a 1), .ref (a 2), .ref (a 3), .ref (a 4), .int (nI k), .int (nI i), .int (y >>> (5 &&& 31))]) (rest := []) rfl hl.1 rfl (Nat.le_of_ble_eq_true rfl) ⟨Nat.le_of_ble_eq_true rfl, Nat.le_of_ble_eq_true rfl⟩ dL_acts_1235) hS (fun _ h => h) (fun rq11 Hq11 Lq11 eq11 hWq11 _ fq11 hSq11 => ?_)
                    subst eq11
                    refine W.widen (k := 70) (n := 420) (by first | omega | exact Nat.le_of_ble_eq_true rfl) (by first | omega | exact Nat.le_of_ble_eq_true rfl) ?_
                    exact W.zret (v := 1) (ty := .boolean) hx hb hr (by first | rfl | exact bI_nar _) (fun t9 ht hWz => ⟨⟨_, rfl, rfl⟩, by rw [ht]; exact hWq11, hSq11.F ht⟩) hSq11.2.2 dL_acts_1238
                  · skip
                    refine lv_aload_n hx hb dL_acts_1198 rfl (lv_at hl 3 rfl) ?_
                    refine lv_aload_n hx hb dL_acts_1199 rfl (lv_at hl 4 rfl) ?_
                    refine lv_aload_n hx hb dL_acts_1200 rfl (lv_at hl 5 rfl) ?_
                    refine lv_aload_n hx hb dL_acts_1201 rfl (lv_at hl 6 rfl) ?_
                    refine lv_aload hx hb dL_acts_1202 (lv_at hl 7 rfl) ?_
                    refine lv_aload hx hb dL_acts_1204 (lv_at hl 8 rfl) ?_
                    refine lv_iload hx hb dL_acts_1206 (lv_at hl 12 rfl) ?_
                    refine lv_iload hx hb dL_acts_1208 (lv_at hl 1 rfl) ?_
                    refine lv_iload hx hb dL_acts_1210 (lv_at hl 0 rfl) ?_
                    refine q_w (r_S S ⟨m_586, m_587, m_22, m_588⟩ ⟨rfl, by decide, by decide, by decide +kernel⟩ (kL_signs l G o t a σ α nm ns n N S9 k i pe hst hJ hI hn hk hi hpe) ⟨rfl, rfl, Nat.le_of_ble_eq_true rfl, Nat.le_of_ble_eq_true rfl⟩ (ps bl_PQ (hW.bq hK (hZ0.at hS (fun _ h => h)))) (n := 9) (As := [.ref (o 0), .ref (t 0), .ref (a 0), .ref (a 1), .ref (a 2), .ref (a 3), .int (nI k), .int (nI i), .int (nI pe)]) (rest := []) rfl hl.1 rfl (Nat.le_of_ble_eq_true rfl) ⟨Nat.le_of_ble_eq_true rfl, Nat.le_of_ble_eq_true rfl⟩ dL_acts_1212) hS (fun _ h => h) (fun rq12 Hq12 Lq12 eq12 hWq12 _ fq12 hSq12 => ?_)
                    subst eq12
                    refine lv_goto (tgt := 1238) hx hb dL_acts_1215 (by decide) ?_
                    refine W.widen (k := 70) (n := 420) (by first | omega | exact Nat.le_of_ble_eq_true rfl) (by first | omega | exact Nat.le_of_ble_eq_true rfl) ?_
                    exact W.zret (v := 1) (ty := .boolean) hx hb hr (by first | rfl | exact bI_nar _) (fun t9 ht hWz => ⟨⟨_, rfl, rfl⟩, by rw [ht]; exact hWq12, hSq12.F ht⟩) hSq12.2.2 dL_acts_1238
                · skip
                  rcases (hC.st k).1 with e9 | e9
                  · skip
                    refine lv_aload_n hx hb dL_acts_1028 rfl (lv_at hl 3 rfl) ?_
                    refine lv_iload hx hb dL_acts_1029 (lv_at hl 12 rfl) ?_
                    refine q_wx (rx_SX S ⟨m_462, m_463, m_22, m_464⟩ ⟨rfl, by decide, by decide, by decide +kernel⟩ (kL_stateOf l G o σ nm ns (nI k) hst hns hns4 hnm hnm2) ⟨rfl, rfl, Nat.le_of_ble_eq_true rfl, Nat.le_of_ble_eq_true rfl⟩ (ps bl_PXZ (bXZ (hW.xo hK) ((hZ0.at hS (fun _ h => h)).zs))) (n := 2) (As := [.ref (o 0), .int (nI k)]) (rest := []) rfl hl.1 rfl (Nat.le_of_ble_eq_true rfl) ⟨Nat.le_of_ble_eq_true rfl, Nat.le_of_ble_eq_true rfl⟩ dL_acts_1031) hS (fun _ h => h.elim) (fun rq13 Hq13 Lq13 eq13 gq13 fq13 hSq13 => ?_)
                    subst eq13
                    have hWq13 := hW.rd fq13
                    refine k_eq (y := 0) (tV_st0 hns hns4 hk e9) ?_
                    refine lv_if_ne (tgt := 1041) hx hb dL_acts_1034 (by decide) (fun c1034_14 => absurd (by decide) c1034_14) (fun c1034_14 => ?_)
                    refine lv_iconst (v := 1) hx hb dL_acts_1037 (by decide) ?_
                    refine lv_goto (tgt := 1042) hx hb dL_acts_1038 (by decide) ?_
                    refine lv_istore (lv' := [(13, .int 1), (11, .int (nI pe)), (10, .int (nI i)), (9, .int (nI kd)), (0, .ref (o 0)), (1, .ref (t 0)), (2, .ref (a 0)), (3, .ref (a 1)), (4, .ref (a 2)), (5, .ref (a 3)), (6, .ref (a 4)), (7, .int x), (8, .int y), (12, .int (nI k))]) hx hb dL_acts_1042 hl (by decide) rfl (fun ls hl => ?_)
                    refine lv_iconst (v := 0) hx hb dL_acts_1044 (by decide) ?_
                    refine lv_istore (lv' := [(14, .int 0), (13, .int 1), (11, .int (nI pe)), (10, .int (nI i)), (9, .int (nI kd)), (0, .ref (o 0)), (1, .ref (t 0)), (2, .ref (a 0)), (3, .ref (a 1)), (4, .ref (a 2)), (5, .ref (a 3)), (6, .ref (a 4)), (7, .int x), (8, .int y), (12, .int (nI k))]) hx hb dL_acts_1045 hl (by decide) rfl (fun ls hl => ?_)
                    refine lv_iconst (v := 0) hx hb dL_acts_1047 (by decide) ?_
                    refine lv_istore (lv' := [(15, .int 0), (14, .int 0), (13, .int 1), (11, .int (nI pe)), (10, .int (nI i)), (9, .int (nI kd)), (0, .ref (o 0)), (1, .ref (t 0)), (2, .ref (a 0)), (3, .ref (a 1)), (4, .ref (a 2)), (5, .ref (a 3)), (6, .ref (a 4)), (7, .int x), (8, .int y), (12, .int (nI k))]) hx hb dL_acts_1048 hl (by decide) rfl (fun ls hl => ?_)
                    have L1050 : ∀ (n9 q : Nat), q ≤ 5 → 5 + 1 ≤ q + n9 → ∀ (H9 : Heap) (L9 : List Loc), WQ G o t a σ σ α H9 → va_S ((AQ o t a)) s.heap H9 L9 → ∀ ls, lv_has ls 17 [(11, .int (nI pe)), (10, .int (nI i)), (9, .int (nI kd)), (0, .ref (o 0)), (1, .ref (t 0)), (2, .ref (a 0)), (3, .ref (a 1)), (4, .ref (a 2)), (5, .ref (a 3)), (6, .ref (a 4)), (7, .int x), (8, .int y), (12, .int (nI k)), (13, .int (bI (clB σ k q))), (14, .int (clA σ k q)), (15, .int (nI q))] → W p l e (({ frames := 11, cells := 70, slots := 420, locals := 270 }) : Room) s m [.ref (o 0), .ref (t 0), .ref (a 0), .ref (a 1), .ref (a 2), .ref (a 3), .ref (a 4), .int x, .int y].toArray below meth c H9 L9 (1 + 2 * q) (6 + 12 * q) (MQ below (oW (AQ o t a) (fun r => r = 1) (fun H9 => WI G o t a (n + 1) H9)) [.ref (o 0), .ref (t 0), .ref (a 0), .ref (a 1), .ref (a 2), .ref (a 3), .ref (a 4), .int x, .int y].toArray s 70 420 (AQ o t a)) (F0 m 1050 ls []) := by
                      intro n9
                      induction n9 with
                      | zero =>
                        intro q h1 h2
                        omega
                      | succ n9 ihL1050 =>
                        intro q hiq hinq  H9 L9 hW hS ls hl
                        refine lv_iload hx hb dL_acts_1050 (lv_at hl 15 rfl) ?_
                        refine lv_iconst (v := 5) hx hb dL_acts_1052 (by decide) ?_
                        refine lv_icmp_ge (tgt := 1121) hx hb dL_acts_1053 (by decide) (fun cq5 => ?_) (fun cq5 => ?_)
                        · skip
                          have hgeq : q = 5 := by
                            have h9 := cq5
                            rw [show (5 : Int32) = nI 5 from rfl, nI_leI (by omega) (by omega)] at h9
                            omega
                          subst hgeq
                          refine W.widen (k := 11) (n := 66) (by omega) (by omega) ?_
                          rcases bft (clB σ k 5) with e | e
                          · skip
                            refine lv_iload hx hb dL_acts_1121 (lv_at hl 13 rfl) ?_
                            refine lv_if_eq (tgt := 1131) hx hb dL_acts_1123 (by decide) (fun c1123_16 => ?_) (fun c1123_16 => absurd (by rw [e]; rfl) c1123_16)
                            refine lv_ldc (v := (-1000003)) hx hb S.2.2.2.1 (S.2.2.2.2 _ m_427) dL_acts_1131 ?_
                            refine lv_istore (lv' := [(15, .int (-1000003)), (11, .int (nI pe)), (10, .int (nI i)), (9, .int (nI kd)), (0, .ref (o 0)), (1, .ref (t 0)), (2, .ref (a 0)), (3, .ref (a 1)), (4, .ref (a 2)), (5, .ref (a 3)), (6, .ref (a 4)), (7, .int x), (8, .int y), (12, .int (nI k)), (13, .int (bI (clB σ k 5))), (14, .int (clA σ k 5))]) hx hb dL_acts_1133 hl (by decide) rfl (fun ls hl => ?_)
                            refine lv_aload_n hx hb dL_acts_1135 rfl (lv_at hl 4 rfl) ?_
                            refine lv_iload hx hb dL_acts_1136 (lv_at hl 13 rfl) ?_
                            refine q_wx (rx_SX S ⟨m_573, m_574, m_22, m_575⟩ ⟨rfl, by decide, by decide, by decide +kernel⟩ (kL_close l G o σ nm ns (nI k) hst hns hns4 hnm hnm2 (AO o) hJ.dO) ⟨rfl, rfl, Nat.le_of_ble_eq_true rfl, Nat.le_of_ble_eq_true rfl⟩ (ps bl_PXZ (bXZ (hW.xo hK) ((hZ0.at hS (fun _ h => h)).zs))) (n := 2) (As := [.ref (o 0), .int (nI k)]) (rest := []) rfl hl.1 rfl (Nat.le_of_ble_eq_true rfl) ⟨Nat.le_of_ble_eq_true rfl, Nat.le_of_ble_eq_true rfl⟩ dL_acts_1138) hS (fun _ h => h.inO) (fun rq17 Hq17 Lq17 eq17 gq17 fq17 hSq17 => ?_)
                            subst eq17
                            rw [show (if eX_close σ (nI k) = 0 then (su σ 9 (ixN (nI k)) 1) else σ) = σ from if_neg (ne0 (k := 2) (eL_3 hns hns4 hk (by rw [e, Bool.and_false])))] at gq17
                            have hWq17 := hW.wo hJ gq17 fq17
                            refine k_eq (y := (-1000003)) (hcV_3 (eL_3 hns hns4 hk (by rw [e, Bool.and_false]))) ?_
                            refine lv_iload hx hb dL_acts_1141 (lv_at hl 0 rfl) ?_
                            refine lv_icmp_ne (tgt := 1189) hx hb dL_acts_1143 (by decide) (fun c1143_18 => absurd (by decide) c1143_18) (fun c1143_18 => ?_)
                            refine lv_aload_n hx hb dL_acts_1146 rfl (lv_at hl 5 rfl) ?_
                            refine lv_iload hx hb dL_acts_1147 (lv_at hl 13 rfl) ?_
                            refine q_wx (rx_SX S ⟨m_573, m_574, m_22, m_575⟩ ⟨rfl, by decide, by decide, by decide +kernel⟩ (kL_close l G t σ nm ns (nI k) hst hns hns4 hnm hnm2 (AO t) hJ.dT) ⟨rfl, rfl, Nat.le_of_ble_eq_true rfl, Nat.le_of_ble_eq_true rfl⟩ (ps bl_PXZ (bXZ (hWq17.xt hK) ((hZ0.at hSq17 (fun _ h => h)).zs))) (n := 2) (As := [.ref (t 0), .int (nI k)]) (rest := []) rfl hl.1 rfl (Nat.le_of_ble_eq_true rfl) ⟨Nat.le_of_ble_eq_true rfl, Nat.le_of_ble_eq_true rfl⟩ dL_acts_1149) hSq17 (fun _ h => h.inT) (fun rq19 Hq19 Lq19 eq19 gq19 fq19 hSq19 => ?_)
                            subst eq19
                            rw [show (if eX_close σ (nI k) = 0 then (su σ 9 (ixN (nI k)) 1) else σ) = σ from if_neg (ne0 (k := 2) (eL_3 hns hns4 hk (by rw [e, Bool.and_false])))] at gq19
                            have hWq19 := hWq17.wt hJ gq19 fq19
                            refine k_eq (y := (-1000003)) (hcV_3 (eL_3 hns hns4 hk (by rw [e, Bool.and_false]))) ?_
                            refine lv_iload hx hb dL_acts_1152 (lv_at hl 0 rfl) ?_
                            refine lv_icmp_ne (tgt := 1189) hx hb dL_acts_1154 (by decide) (fun c1154_20 => absurd (by decide) c1154_20) (fun c1154_20 => ?_)
                            refine lv_aload_n hx hb dL_acts_1157 rfl (lv_at hl 4 rfl) ?_
                            refine lv_aload hx hb dL_acts_1158 (lv_at hl 10 rfl) ?_
                            refine lv_iconst (v := 2) hx hb dL_acts_1160 (by decide) ?_
                            refine k_ldQ S hK hWq19 4 (by decide) (i := 2) (show 2 < 3 by omega) dL_acts_1161 ?_
                            refine k_eq (y := nI ns) (hA.g2) ?_
                            refine q_wx (rx_SX S ⟨m_573, m_574, m_22, m_575⟩ ⟨rfl, by decide, by decide, by decide +kernel⟩ (kL_close l G o σ nm ns (nI ns) hst hns hns4 hnm hnm2 (AO o) hJ.dO) ⟨rfl, rfl, Nat.le_of_ble_eq_true rfl, Nat.le_of_ble_eq_true rfl⟩ (ps bl_PXZ (bXZ (hWq19.xo hK) ((hZ0.at hSq19 (fun _ h => h)).zs))) (n := 2) (As := [.ref (o 0), .int (nI ns)]) (rest := []) rfl hl.1 rfl (Nat.le_of_ble_eq_true rfl) ⟨Nat.le_of_ble_eq_true rfl, Nat.le_of_ble_eq_true rfl⟩ dL_acts_1162) hSq19 (fun _ h => h.inO) (fun rq21 Hq21 Lq21 eq21 gq21 fq21 hSq21 => ?_)
                            subst eq21
                            rw [show (if eX_close σ (nI ns) = 0 then (su σ 9 (ixN (nI ns)) 1) else σ) = σ from if_neg (ne0 (k := 0) (eL_n hns hns4))] at gq21
                            have hWq21 := hWq19.wo hJ gq21 fq21
                            refine k_eq (y := (-1000001)) (hcV_1 (eL_n hns hns4)) ?_
                            refine lv_ldc (v := (-1000001)) hx hb S.2.2.2.1 (S.2.2.2.2 _ m_294) dL_acts_1165 ?_
                            refine lv_icmp_ne (tgt := 1189) hx hb dL_acts_1167 (by decide) (fun c1167_22 => absurd (by decide) c1167_22) (fun c1167_22 => ?_)
                            refine lv_iload hx hb dL_acts_1170 (lv_at hl 0 rfl) ?_
                            refine lv_if_lt (tgt := 1185) hx hb dL_acts_1172 (by decide) (fun c1172_23 => ?_) (fun c1172_23 => absurd (by decide) c1172_23)
                            refine lv_iconst (v := 1) hx hb dL_acts_1185 (by decide) ?_
                            refine lv_goto (tgt := 1190) hx hb dL_acts_1186 (by decide) ?_
                            refine W.widen (k := 70) (n := 420) (by first | omega | exact Nat.le_of_ble_eq_true rfl) (by first | omega | exact Nat.le_of_ble_eq_true rfl) ?_
                            exact W.zret (v := 1) (ty := .boolean) hx hb hr (by first | rfl | exact bI_nar _) (fun t9 ht hWz => ⟨⟨_, rfl, rfl⟩, by rw [ht]; exact ⟨σ, α, hI.up.ri, hWq21⟩, hSq21.F ht⟩) hSq21.2.2 dL_acts_1190
                          · skip
                            refine lv_iload hx hb dL_acts_1121 (lv_at hl 13 rfl) ?_
                            refine lv_if_eq (tgt := 1131) hx hb dL_acts_1123 (by decide) (fun c1123_24 => absurd c1123_24 (by rw [e]; decide)) (fun c1123_24 => ?_)
                            refine lv_iload hx hb dL_acts_1126 (lv_at hl 14 rfl) ?_
                            refine lv_goto (tgt := 1133) hx hb dL_acts_1128 (by decide) ?_
                            refine lv_istore (lv' := [(15, .int (clA σ k 5)), (11, .int (nI pe)), (10, .int (nI i)), (9, .int (nI kd)), (0, .ref (o 0)), (1, .ref (t 0)), (2, .ref (a 0)), (3, .ref (a 1)), (4, .ref (a 2)), (5, .ref (a 3)), (6, .ref (a 4)), (7, .int x), (8, .int y), (12, .int (nI k)), (13, .int (bI (clB σ k 5))), (14, .int (clA σ k 5))]) hx hb dL_acts_1133 hl (by decide) rfl (fun ls hl => ?_)
                            refine lv_aload_n hx hb dL_acts_1135 rfl (lv_at hl 4 rfl) ?_
                            refine lv_iload hx hb dL_acts_1136 (lv_at hl 13 rfl) ?_
                            obtain ⟨σ1, hσ1⟩ : ∃ z, z = su σ 9 k 1 := ⟨_, rfl⟩
                            have hI1 : Inv σ1 α nm ns (n + 1) N S9 := by rw [hσ1]; exact hI.cl hk
                            refine q_wx (rx_SX S ⟨m_573, m_574, m_22, m_575⟩ ⟨rfl, by decide, by decide, by decide +kernel⟩ (kL_close l G o σ nm ns (nI k) hst hns hns4 hnm hnm2 (AO o) hJ.dO) ⟨rfl, rfl, Nat.le_of_ble_eq_true rfl, Nat.le_of_ble_eq_true rfl⟩ (ps bl_PXZ (bXZ (hW.xo hK) ((hZ0.at hS (fun _ h => h)).zs))) (n := 2) (As := [.ref (o 0), .int (nI k)]) (rest := []) rfl hl.1 rfl (Nat.le_of_ble_eq_true rfl) ⟨Nat.le_of_ble_eq_true rfl, Nat.le_of_ble_eq_true rfl⟩ dL_acts_1138) hS (fun _ h => h.inO) (fun rq25 Hq25 Lq25 eq25 gq25 fq25 hSq25 => ?_)
                            subst eq25
                            rw [show (if eX_close σ (nI k) = 0 then (su σ 9 (ixN (nI k)) 1) else σ) = σ1 from (if_pos (eL_0 hns hns4 hk e9 e)).trans (by rw [hσ1, ixN_nI (by omega)])] at gq25
                            have hWq25 := hW.wo hJ gq25 fq25
                            refine k_eq (y := clA σ k 5) (tV_two (v := fun z => clA σ z 5) (eL_0 hns hns4 hk e9 e) (by omega)) ?_
                            refine lv_iload hx hb dL_acts_1141 (lv_at hl 0 rfl) ?_
                            refine lv_icmp_ne (tgt := 1189) hx hb dL_acts_1143 (by decide) (fun c1143_26 => absurd rfl c1143_26) (fun c1143_26 => ?_)
                            refine lv_aload_n hx hb dL_acts_1146 rfl (lv_at hl 5 rfl) ?_
                            refine lv_iload hx hb dL_acts_1147 (lv_at hl 13 rfl) ?_
                            refine q_wx (rx_SX S ⟨m_573, m_574, m_22, m_575⟩ ⟨rfl, by decide, by decide, by decide +kernel⟩ (kL_close l G t σ nm ns (nI k) hst hns hns4 hnm hnm2 (AO t) hJ.dT) ⟨rfl, rfl, Nat.le_of_ble_eq_true rfl, Nat.le_of_ble_eq_true rfl⟩ (ps bl_PXZ (bXZ (hWq25.xt hK) ((hZ0.at hSq25 (fun _ h => h)).zs))) (n := 2) (As := [.ref (t 0), .int (nI k)]) (rest := []) rfl hl.1 rfl (Nat.le_of_ble_eq_true rfl) ⟨Nat.le_of_ble_eq_true rfl, Nat.le_of_ble_eq_true rfl⟩ dL_acts_1149) hSq25 (fun _ h => h.inT) (fun rq27 Hq27 Lq27 eq27 gq27 fq27 hSq27 => ?_)
                            subst eq27
                            rw [show (if eX_close σ (nI k) = 0 then (su σ 9 (ixN (nI k)) 1) else σ) = σ1 from (if_pos (eL_0 hns hns4 hk e9 e)).trans (by rw [hσ1, ixN_nI (by omega)])] at gq27
                            have hWq27 := hWq25.wt hJ gq27 fq27
                            refine k_eq (y := clA σ k 5) (tV_two (v := fun z => clA σ z 5) (eL_0 hns hns4 hk e9 e) (by omega)) ?_
                            refine lv_iload hx hb dL_acts_1152 (lv_at hl 0 rfl) ?_
                            refine lv_icmp_ne (tgt := 1189) hx hb dL_acts_1154 (by decide) (fun c1154_28 => absurd rfl c1154_28) (fun c1154_28 => ?_)
                            refine lv_aload_n hx hb dL_acts_1157 rfl (lv_at hl 4 rfl) ?_
                            refine lv_aload hx hb dL_acts_1158 (lv_at hl 10 rfl) ?_
                            refine lv_iconst (v := 2) hx hb dL_acts_1160 (by decide) ?_
                            refine k_ldQ S hK hWq27 4 (by decide) (i := 2) (show 2 < 3 by omega) dL_acts_1161 ?_
                            refine k_eq (y := nI ns) (hA.g2) ?_
                            refine q_wx (rx_SX S ⟨m_573, m_574, m_22, m_575⟩ ⟨rfl, by decide, by decide, by decide +kernel⟩ (kL_close l G o σ1 nm ns (nI ns) hst hI1.1.hns hns4 hI1.1.hnm hnm2 (AO o) hJ.dO) ⟨rfl, rfl, Nat.le_of_ble_eq_true rfl, Nat.le_of_ble_eq_true rfl⟩ (ps bl_PXZ (bXZ (hWq27.xo hK) ((hZ0.at hSq27 (fun _ h => h)).zs))) (n := 2) (As := [.ref (o 0), .int (nI ns)]) (rest := []) rfl hl.1 rfl (Nat.le_of_ble_eq_true rfl) ⟨Nat.le_of_ble_eq_true rfl, Nat.le_of_ble_eq_true rfl⟩ dL_acts_1162) hSq27 (fun _ h => h.inO) (fun rq29 Hq29 Lq29 eq29 gq29 fq29 hSq29 => ?_)
                            subst eq29
                            rw [show (if eX_close σ1 (nI ns) = 0 then (su σ1 9 (ixN (nI ns)) 1) else σ1) = σ1 from if_neg (ne0 (k := 0) (eL_n hI1.1.hns hns4))] at gq29
                            have hWq29 := hWq27.wo hJ gq29 fq29
                            refine k_eq (y := (-1000001)) (hcV_1 (eL_n hI1.1.hns hns4)) ?_
                            refine lv_ldc (v := (-1000001)) hx hb S.2.2.2.1 (S.2.2.2.2 _ m_294) dL_acts_1165 ?_
                            refine lv_icmp_ne (tgt := 1189) hx hb dL_acts_1167 (by decide) (fun c1167_30 => absurd (by decide) c1167_30) (fun c1167_30 => ?_)
                            refine lv_iload hx hb dL_acts_1170 (lv_at hl 0 rfl) ?_
                            refine lv_if_lt (tgt := 1185) hx hb dL_acts_1172 (by decide) (fun c1172_31 => absurd c1172_31 (by obtain ⟨z, h1, h2⟩ := clA_u (σ := σ) (k := k) 5 (Nat.le_refl 5); rw [h2]; exact nI_pos (by omega))) (fun c1172_31 => ?_)
                            refine lv_aload_n hx hb dL_acts_1175 rfl (lv_at hl 4 rfl) ?_
                            refine lv_iload hx hb dL_acts_1176 (lv_at hl 13 rfl) ?_
                            refine q_wx (rx_SX S ⟨m_462, m_463, m_22, m_464⟩ ⟨rfl, by decide, by decide, by decide +kernel⟩ (kL_stateOf l G o σ1 nm ns (nI k) hst hI1.1.hns hns4 hI1.1.hnm hnm2) ⟨rfl, rfl, Nat.le_of_ble_eq_true rfl, Nat.le_of_ble_eq_true rfl⟩ (ps bl_PXZ (bXZ (hWq29.xo hK) ((hZ0.at hSq29 (fun _ h => h)).zs))) (n := 2) (As := [.ref (o 0), .int (nI k)]) (rest := []) rfl hl.1 rfl (Nat.le_of_ble_eq_true rfl) ⟨Nat.le_of_ble_eq_true rfl, Nat.le_of_ble_eq_true rfl⟩ dL_acts_1178) hSq29 (fun _ h => h.elim) (fun rq32 Hq32 Lq32 eq32 gq32 fq32 hSq32 => ?_)
                            subst eq32
                            have hWq32 := hWq29.rd fq32
                            refine k_eq (y := 1) (tV_st1 hI1.1.hns hns4 hk (by rw [hσ1, su_at]; decide)) ?_
                            refine lv_iconst (v := 1) hx hb dL_acts_1181 (by decide) ?_
                            refine lv_icmp_ne (tgt := 1189) hx hb dL_acts_1182 (by decide) (fun c1182_33 => absurd (by decide) c1182_33) (fun c1182_33 => ?_)
                            refine lv_iconst (v := 1) hx hb dL_acts_1185 (by decide) ?_
                            refine lv_goto (tgt := 1190) hx hb dL_acts_1186 (by decide) ?_
                            refine W.widen (k := 70) (n := 420) (by first | omega | exact Nat.le_of_ble_eq_true rfl) (by first | omega | exact Nat.le_of_ble_eq_true rfl) ?_
                            exact W.zret (v := 1) (ty := .boolean) hx hb hr (by first | rfl | exact bI_nar _) (fun t9 ht hWz => ⟨⟨_, rfl, rfl⟩, by rw [ht]; exact ⟨σ1, α, hI1.ri, hWq32⟩, hSq32.F ht⟩) hSq32.2.2 dL_acts_1190
                        · skip
                          have hltq : q < 5 := by
                            rcases Nat.lt_or_ge q 5 with h9 | h9
                            · exact h9
                            · exact absurd (nI_le (a := 5) h9 (by omega)) cq5
                          rcases hC.ag2 (k := k * 5 + q) (by omega) with ⟨g1, g2⟩ | ⟨q9, hq9, g1, g2⟩
                          · skip
                            rcases bft (clB σ k q) with e | e
                            · skip
                              refine lv_iload hx hb dL_acts_1056 (lv_at hl 13 rfl) ?_
                              refine lv_if_eq (tgt := 1089) hx hb dL_acts_1058 (by decide) (fun c1058_34 => ?_) (fun c1058_34 => absurd (by rw [e]; rfl) c1058_34)
                              refine lv_iconst (v := 0) hx hb dL_acts_1089 (by decide) ?_
                              refine k_eq (y := bI (clB σ k (q + 1))) ((by rw [clB_f e]; rfl)) ?_
                              refine lv_istore (lv' := [(13, .int (bI (clB σ k (q + 1)))), (11, .int (nI pe)), (10, .int (nI i)), (9, .int (nI kd)), (0, .ref (o 0)), (1, .ref (t 0)), (2, .ref (a 0)), (3, .ref (a 1)), (4, .ref (a 2)), (5, .ref (a 3)), (6, .ref (a 4)), (7, .int x), (8, .int y), (12, .int (nI k)), (14, .int (clA σ k q)), (15, .int (nI q))]) hx hb dL_acts_1090 hl (by decide) rfl (fun ls hl => ?_)
                              refine lv_iload hx hb dL_acts_1092 (lv_at hl 14 rfl) ?_
                              refine lv_aload hx hb dL_acts_1094 (lv_at hl 8 rfl) ?_
                              refine lv_iconst (v := 5) hx hb dL_acts_1096 (by decide) ?_
                              refine lv_iload hx hb dL_acts_1097 (lv_at hl 13 rfl) ?_
                              refine lv_imul hx hb dL_acts_1099 ?_
                              refine k_eq (y := nI (5 * k)) (pk_mul 5 k) ?_
                              refine lv_iload hx hb dL_acts_1100 (lv_at hl 15 rfl) ?_
                              refine lv_iadd hx hb dL_acts_1102 ?_
                              refine k_eq (y := nI (5 * k + q)) (nI_add (5 * k) q) ?_
                              refine k_ldQ S hK hW 2 (by decide) (i := (5 * k + q)) (show (5 * k + q) < 60 by omega) dL_acts_1103 ?_
                              refine k_eq (y := σ 13 (k * 5 + q)) ((by rw [hA.ac (5 * k + q) (by omega), Nat.mul_comm 5 k])) ?_
                              refine lv_if_lt (tgt := 1111) hx hb dL_acts_1104 (by decide) (fun c1104_35 => ?_) (fun c1104_35 => absurd (by rw [g1]; decide) c1104_35)
                              refine lv_iconst (v := 0) hx hb dL_acts_1111 (by decide) ?_
                              refine lv_iadd hx hb dL_acts_1112 ?_
                              refine k_eq (y := clA σ k (q + 1)) (clA_n g2) ?_
                              refine lv_istore (lv' := [(14, .int (clA σ k (q + 1))), (13, .int (bI (clB σ k (q + 1)))), (11, .int (nI pe)), (10, .int (nI i)), (9, .int (nI kd)), (0, .ref (o 0)), (1, .ref (t 0)), (2, .ref (a 0)), (3, .ref (a 1)), (4, .ref (a 2)), (5, .ref (a 3)), (6, .ref (a 4)), (7, .int x), (8, .int y), (12, .int (nI k)), (15, .int (nI q))]) hx hb dL_acts_1113 hl (by decide) rfl (fun ls hl => ?_)
                              refine lv_iinc (v := nI (q + 1)) (lv' := [(15, .int (nI (q + 1))), (14, .int (clA σ k (q + 1))), (13, .int (bI (clB σ k (q + 1)))), (11, .int (nI pe)), (10, .int (nI i)), (9, .int (nI kd)), (0, .ref (o 0)), (1, .ref (t 0)), (2, .ref (a 0)), (3, .ref (a 1)), (4, .ref (a 2)), (5, .ref (a 3)), (6, .ref (a 4)), (7, .int x), (8, .int y), (12, .int (nI k))]) hx hb dL_acts_1115 hl (k := 15) rfl (nI_1 q) (by decide) rfl (fun ls hl => ?_)
                              refine lv_goto (tgt := 1050) hx hb dL_acts_1118 (by decide) ?_
                              refine W.widen (k := 1 + 2 * (q + 1)) (n := 6 + 12 * (q + 1)) (by omega) (by omega) ?_
                              exact ihL1050 (q + 1) hltq (by omega) H9 L9 hW hS ls (lv_sub hl [3, 4, 5, 6, 7, 8, 9, 10, 11, 12, 13, 14, 15, 2, 1, 0] rfl)
                            · skip
                              refine lv_iload hx hb dL_acts_1056 (lv_at hl 13 rfl) ?_
                              refine lv_if_eq (tgt := 1089) hx hb dL_acts_1058 (by decide) (fun c1058_36 => absurd c1058_36 (by rw [e]; decide)) (fun c1058_36 => ?_)
                              refine lv_aload_n hx hb dL_acts_1061 rfl (lv_at hl 3 rfl) ?_
                              refine lv_iload hx hb dL_acts_1062 (lv_at hl 12 rfl) ?_
                              refine lv_iload hx hb dL_acts_1064 (lv_at hl 15 rfl) ?_
                              obtain ⟨c9, hc9, hc10, hc11, hc12⟩ := hC.cn (k := k * 5 + q) (by omega)
                              refine q_wx (rx_SX S ⟨m_319, m_320, m_22, m_321⟩ ⟨rfl, by decide, by decide, by decide +kernel⟩ (kL_counts l G o σ nm ns (nI k) (nI q) hst hns hns4 hnm hnm2) ⟨rfl, rfl, Nat.le_of_ble_eq_true rfl, Nat.le_of_ble_eq_true rfl⟩ (ps bl_PXZ (bXZ (hW.xo hK) ((hZ0.at hS (fun _ h => h)).zs))) (n := 3) (As := [.ref (o 0), .int (nI k), .int (nI q)]) (rest := []) rfl hl.1 rfl (Nat.le_of_ble_eq_true rfl) ⟨by show _ ≤ (70 : Nat); omega, by show _ ≤ (420 : Nat); omega⟩ dL_acts_1066) hS (fun _ h => h.elim) (fun rq37 Hq37 Lq37 eq37 gq37 fq37 hSq37 => ?_)
                              subst eq37
                              have hWq37 := hW.rd fq37
                              refine k_eq (y := nI c9) ((tV_line hns hns4 hk hltq (fun z => bc (σ 10 z))).trans hc10) ?_
                              refine lv_if_eq (tgt := 1085) hx hb dL_acts_1069 (by decide) (fun c0 => ?_) (fun c0 => ?_)
                              · skip
                                refine lv_iconst (v := 1) hx hb dL_acts_1085 (by decide) ?_
                                refine k_eq (y := bI (clB σ k (q + 1))) ((by rw [clB_z e (hc10.trans c0)]; rfl)) ?_
                                refine lv_goto (tgt := 1090) hx hb dL_acts_1086 (by decide) ?_
                                refine lv_istore (lv' := [(13, .int (bI (clB σ k (q + 1)))), (11, .int (nI pe)), (10, .int (nI i)), (9, .int (nI kd)), (0, .ref (o 0)), (1, .ref (t 0)), (2, .ref (a 0)), (3, .ref (a 1)), (4, .ref (a 2)), (5, .ref (a 3)), (6, .ref (a 4)), (7, .int x), (8, .int y), (12, .int (nI k)), (14, .int (clA σ k q)), (15, .int (nI q))]) hx hb dL_acts_1090 hl (by decide) rfl (fun ls hl => ?_)
                                refine lv_iload hx hb dL_acts_1092 (lv_at hl 14 rfl) ?_
                                refine lv_aload hx hb dL_acts_1094 (lv_at hl 8 rfl) ?_
                                refine lv_iconst (v := 5) hx hb dL_acts_1096 (by decide) ?_
                                refine lv_iload hx hb dL_acts_1097 (lv_at hl 13 rfl) ?_
                                refine lv_imul hx hb dL_acts_1099 ?_
                                refine k_eq (y := nI (5 * k)) (pk_mul 5 k) ?_
                                refine lv_iload hx hb dL_acts_1100 (lv_at hl 15 rfl) ?_
                                refine lv_iadd hx hb dL_acts_1102 ?_
                                refine k_eq (y := nI (5 * k + q)) (nI_add (5 * k) q) ?_
                                refine k_ldQ S hK hWq37 2 (by decide) (i := (5 * k + q)) (show (5 * k + q) < 60 by omega) dL_acts_1103 ?_
                                refine k_eq (y := σ 13 (k * 5 + q)) ((by rw [hA.ac (5 * k + q) (by omega), Nat.mul_comm 5 k])) ?_
                                refine lv_if_lt (tgt := 1111) hx hb dL_acts_1104 (by decide) (fun c1104_39 => ?_) (fun c1104_39 => absurd (by rw [g1]; decide) c1104_39)
                                refine lv_iconst (v := 0) hx hb dL_acts_1111 (by decide) ?_
                                refine lv_iadd hx hb dL_acts_1112 ?_
                                refine k_eq (y := clA σ k (q + 1)) (clA_n g2) ?_
                                refine lv_istore (lv' := [(14, .int (clA σ k (q + 1))), (13, .int (bI (clB σ k (q + 1)))), (11, .int (nI pe)), (10, .int (nI i)), (9, .int (nI kd)), (0, .ref (o 0)), (1, .ref (t 0)), (2, .ref (a 0)), (3, .ref (a 1)), (4, .ref (a 2)), (5, .ref (a 3)), (6, .ref (a 4)), (7, .int x), (8, .int y), (12, .int (nI k)), (15, .int (nI q))]) hx hb dL_acts_1113 hl (by decide) rfl (fun ls hl => ?_)
                                refine lv_iinc (v := nI (q + 1)) (lv' := [(15, .int (nI (q + 1))), (14, .int (clA σ k (q + 1))), (13, .int (bI (clB σ k (q + 1)))), (11, .int (nI pe)), (10, .int (nI i)), (9, .int (nI kd)), (0, .ref (o 0)), (1, .ref (t 0)), (2, .ref (a 0)), (3, .ref (a 1)), (4, .ref (a 2)), (5, .ref (a 3)), (6, .ref (a 4)), (7, .int x), (8, .int y), (12, .int (nI k))]) hx hb dL_acts_1115 hl (k := 15) rfl (nI_1 q) (by decide) rfl (fun ls hl => ?_)
                                refine lv_goto (tgt := 1050) hx hb dL_acts_1118 (by decide) ?_
                                refine W.widen (k := 1 + 2 * (q + 1)) (n := 6 + 12 * (q + 1)) (by omega) (by omega) ?_
                                exact ihL1050 (q + 1) hltq (by omega) Hq37 Lq37 hWq37 hSq37 ls (lv_sub hl [3, 4, 5, 6, 7, 8, 9, 10, 11, 12, 13, 14, 15, 2, 1, 0] rfl)
                              · skip
                                have hcp : 0 < c9 := by
                                  rcases Nat.eq_zero_or_pos c9 with h9 | h9
                                  · exact absurd (by rw [h9]; rfl) c0
                                  · exact h9
                                refine lv_aload hx hb dL_acts_1072 (lv_at hl 7 rfl) ?_
                                refine lv_iconst (v := 5) hx hb dL_acts_1074 (by decide) ?_
                                refine lv_iload hx hb dL_acts_1075 (lv_at hl 12 rfl) ?_
                                refine lv_imul hx hb dL_acts_1077 ?_
                                refine k_eq (y := nI (5 * k)) (pk_mul 5 k) ?_
                                refine lv_iload hx hb dL_acts_1078 (lv_at hl 15 rfl) ?_
                                refine lv_iadd hx hb dL_acts_1080 ?_
                                refine k_eq (y := nI (5 * k + q)) (nI_add (5 * k) q) ?_
                                refine k_ldQ S hK hWq37 2 (by decide) (i := (5 * k + q)) (show (5 * k + q) < 60 by omega) dL_acts_1081 ?_
                                refine k_eq (y := σ 13 (k * 5 + q)) ((by rw [hA.ac (5 * k + q) (by omega), Nat.mul_comm 5 k])) ?_
                                refine lv_if_lt (tgt := 1089) hx hb dL_acts_1082 (by decide) (fun c1082_40 => ?_) (fun c1082_40 => absurd (by rw [g1]; decide) c1082_40)
                                refine lv_iconst (v := 0) hx hb dL_acts_1089 (by decide) ?_
                                refine k_eq (y := bI (clB σ k (q + 1))) ((by rw [clB_x g2 hc10 hcp hc9]; rfl)) ?_
                                refine lv_istore (lv' := [(13, .int (bI (clB σ k (q + 1)))), (11, .int (nI pe)), (10, .int (nI i)), (9, .int (nI kd)), (0, .ref (o 0)), (1, .ref (t 0)), (2, .ref (a 0)), (3, .ref (a 1)), (4, .ref (a 2)), (5, .ref (a 3)), (6, .ref (a 4)), (7, .int x), (8, .int y), (12, .int (nI k)), (14, .int (clA σ k q)), (15, .int (nI q))]) hx hb dL_acts_1090 hl (by decide) rfl (fun ls hl => ?_)
                                refine lv_iload hx hb dL_acts_1092 (lv_at hl 14 rfl) ?_
                                refine lv_aload hx hb dL_acts_1094 (lv_at hl 8 rfl) ?_
                                refine lv_iconst (v := 5) hx hb dL_acts_1096 (by decide) ?_
                                refine lv_iload hx hb dL_acts_1097 (lv_at hl 13 rfl) ?_
                                refine lv_imul hx hb dL_acts_1099 ?_
                                refine k_eq (y := nI (5 * k)) (pk_mul 5 k) ?_
                                refine lv_iload hx hb dL_acts_1100 (lv_at hl 15 rfl) ?_
                                refine lv_iadd hx hb dL_acts_1102 ?_
                                refine k_eq (y := nI (5 * k + q)) (nI_add (5 * k) q) ?_
                                refine k_ldQ S hK hWq37 2 (by decide) (i := (5 * k + q)) (show (5 * k + q) < 60 by omega) dL_acts_1103 ?_
                                refine k_eq (y := σ 13 (k * 5 + q)) ((by rw [hA.ac (5 * k + q) (by omega), Nat.mul_comm 5 k])) ?_
                                refine lv_if_lt (tgt := 1111) hx hb dL_acts_1104 (by decide) (fun c1104_41 => ?_) (fun c1104_41 => absurd (by rw [g1]; decide) c1104_41)
                                refine lv_iconst (v := 0) hx hb dL_acts_1111 (by decide) ?_
                                refine lv_iadd hx hb dL_acts_1112 ?_
                                refine k_eq (y := clA σ k (q + 1)) (clA_n g2) ?_
                                refine lv_istore (lv' := [(14, .int (clA σ k (q + 1))), (13, .int (bI (clB σ k (q + 1)))), (11, .int (nI pe)), (10, .int (nI i)), (9, .int (nI kd)), (0, .ref (o 0)), (1, .ref (t 0)), (2, .ref (a 0)), (3, .ref (a 1)), (4, .ref (a 2)), (5, .ref (a 3)), (6, .ref (a 4)), (7, .int x), (8, .int y), (12, .int (nI k)), (15, .int (nI q))]) hx hb dL_acts_1113 hl (by decide) rfl (fun ls hl => ?_)
                                refine lv_iinc (v := nI (q + 1)) (lv' := [(15, .int (nI (q + 1))), (14, .int (clA σ k (q + 1))), (13, .int (bI (clB σ k (q + 1)))), (11, .int (nI pe)), (10, .int (nI i)), (9, .int (nI kd)), (0, .ref (o 0)), (1, .ref (t 0)), (2, .ref (a 0)), (3, .ref (a 1)), (4, .ref (a 2)), (5, .ref (a 3)), (6, .ref (a 4)), (7, .int x), (8, .int y), (12, .int (nI k))]) hx hb dL_acts_1115 hl (k := 15) rfl (nI_1 q) (by decide) rfl (fun ls hl => ?_)
                                refine lv_goto (tgt := 1050) hx hb dL_acts_1118 (by decide) ?_
                                refine W.widen (k := 1 + 2 * (q + 1)) (n := 6 + 12 * (q + 1)) (by omega) (by omega) ?_
                                exact ihL1050 (q + 1) hltq (by omega) Hq37 Lq37 hWq37 hSq37 ls (lv_sub hl [3, 4, 5, 6, 7, 8, 9, 10, 11, 12, 13, 14, 15, 2, 1, 0] rfl)
                          · skip
                            rcases bft (clB σ k q) with e | e
                            · skip
                              refine lv_iload hx hb dL_acts_1056 (lv_at hl 13 rfl) ?_
                              refine lv_if_eq (tgt := 1089) hx hb dL_acts_1058 (by decide) (fun c1058_42 => ?_) (fun c1058_42 => absurd (by rw [e]; rfl) c1058_42)
                              refine lv_iconst (v := 0) hx hb dL_acts_1089 (by decide) ?_
                              refine k_eq (y := bI (clB σ k (q + 1))) ((by rw [clB_f e]; rfl)) ?_
                              refine lv_istore (lv' := [(13, .int (bI (clB σ k (q + 1)))), (11, .int (nI pe)), (10, .int (nI i)), (9, .int (nI kd)), (0, .ref (o 0)), (1, .ref (t 0)), (2, .ref (a 0)), (3, .ref (a 1)), (4, .ref (a 2)), (5, .ref (a 3)), (6, .ref (a 4)), (7, .int x), (8, .int y), (12, .int (nI k)), (14, .int (clA σ k q)), (15, .int (nI q))]) hx hb dL_acts_1090 hl (by decide) rfl (fun ls hl => ?_)
                              refine lv_iload hx hb dL_acts_1092 (lv_at hl 14 rfl) ?_
                              refine lv_aload hx hb dL_acts_1094 (lv_at hl 8 rfl) ?_
                              refine lv_iconst (v := 5) hx hb dL_acts_1096 (by decide) ?_
                              refine lv_iload hx hb dL_acts_1097 (lv_at hl 13 rfl) ?_
                              refine lv_imul hx hb dL_acts_1099 ?_
                              refine k_eq (y := nI (5 * k)) (pk_mul 5 k) ?_
                              refine lv_iload hx hb dL_acts_1100 (lv_at hl 15 rfl) ?_
                              refine lv_iadd hx hb dL_acts_1102 ?_
                              refine k_eq (y := nI (5 * k + q)) (nI_add (5 * k) q) ?_
                              refine k_ldQ S hK hW 2 (by decide) (i := (5 * k + q)) (show (5 * k + q) < 60 by omega) dL_acts_1103 ?_
                              refine k_eq (y := σ 13 (k * 5 + q)) ((by rw [hA.ac (5 * k + q) (by omega), Nat.mul_comm 5 k])) ?_
                              refine lv_if_lt (tgt := 1111) hx hb dL_acts_1104 (by decide) (fun c1104_43 => absurd c1104_43 (by rw [g1]; exact nI_pos (by omega))) (fun c1104_43 => ?_)
                              refine lv_iconst (v := 1) hx hb dL_acts_1107 (by decide) ?_
                              refine lv_goto (tgt := 1112) hx hb dL_acts_1108 (by decide) ?_
                              refine lv_iadd hx hb dL_acts_1112 ?_
                              refine k_eq (y := clA σ k (q + 1)) (clA_p g2) ?_
                              refine lv_istore (lv' := [(14, .int (clA σ k (q + 1))), (13, .int (bI (clB σ k (q + 1)))), (11, .int (nI pe)), (10, .int (nI i)), (9, .int (nI kd)), (0, .ref (o 0)), (1, .ref (t 0)), (2, .ref (a 0)), (3, .ref (a 1)), (4, .ref (a 2)), (5, .ref (a 3)), (6, .ref (a 4)), (7, .int x), (8, .int y), (12, .int (nI k)), (15, .int (nI q))]) hx hb dL_acts_1113 hl (by decide) rfl (fun ls hl => ?_)
                              refine lv_iinc (v := nI (q + 1)) (lv' := [(15, .int (nI (q + 1))), (14, .int (clA σ k (q + 1))), (13, .int (bI (clB σ k (q + 1)))), (11, .int (nI pe)), (10, .int (nI i)), (9, .int (nI kd)), (0, .ref (o 0)), (1, .ref (t 0)), (2, .ref (a 0)), (3, .ref (a 1)), (4, .ref (a 2)), (5, .ref (a 3)), (6, .ref (a 4)), (7, .int x), (8, .int y), (12, .int (nI k))]) hx hb dL_acts_1115 hl (k := 15) rfl (nI_1 q) (by decide) rfl (fun ls hl => ?_)
                              refine lv_goto (tgt := 1050) hx hb dL_acts_1118 (by decide) ?_
                              refine W.widen (k := 1 + 2 * (q + 1)) (n := 6 + 12 * (q + 1)) (by omega) (by omega) ?_
                              exact ihL1050 (q + 1) hltq (by omega) H9 L9 hW hS ls (lv_sub hl [3, 4, 5, 6, 7, 8, 9, 10, 11, 12, 13, 14, 15, 2, 1, 0] rfl)
                            · skip
                              refine lv_iload hx hb dL_acts_1056 (lv_at hl 13 rfl) ?_
                              refine lv_if_eq (tgt := 1089) hx hb dL_acts_1058 (by decide) (fun c1058_44 => absurd c1058_44 (by rw [e]; decide)) (fun c1058_44 => ?_)
                              refine lv_aload_n hx hb dL_acts_1061 rfl (lv_at hl 3 rfl) ?_
                              refine lv_iload hx hb dL_acts_1062 (lv_at hl 12 rfl) ?_
                              refine lv_iload hx hb dL_acts_1064 (lv_at hl 15 rfl) ?_
                              obtain ⟨c9, hc9, hc10, hc11, hc12⟩ := hC.cn (k := k * 5 + q) (by omega)
                              refine q_wx (rx_SX S ⟨m_319, m_320, m_22, m_321⟩ ⟨rfl, by decide, by decide, by decide +kernel⟩ (kL_counts l G o σ nm ns (nI k) (nI q) hst hns hns4 hnm hnm2) ⟨rfl, rfl, Nat.le_of_ble_eq_true rfl, Nat.le_of_ble_eq_true rfl⟩ (ps bl_PXZ (bXZ (hW.xo hK) ((hZ0.at hS (fun _ h => h)).zs))) (n := 3) (As := [.ref (o 0), .int (nI k), .int (nI q)]) (rest := []) rfl hl.1 rfl (Nat.le_of_ble_eq_true rfl) ⟨by show _ ≤ (70 : Nat); omega, by show _ ≤ (420 : Nat); omega⟩ dL_acts_1066) hS (fun _ h => h.elim) (fun rq45 Hq45 Lq45 eq45 gq45 fq45 hSq45 => ?_)
                              subst eq45
                              have hWq45 := hW.rd fq45
                              refine k_eq (y := nI c9) ((tV_line hns hns4 hk hltq (fun z => bc (σ 10 z))).trans hc10) ?_
                              refine lv_if_eq (tgt := 1085) hx hb dL_acts_1069 (by decide) (fun c0 => ?_) (fun c0 => ?_)
                              · skip
                                refine lv_iconst (v := 1) hx hb dL_acts_1085 (by decide) ?_
                                refine k_eq (y := bI (clB σ k (q + 1))) ((by rw [clB_z e (hc10.trans c0)]; rfl)) ?_
                                refine lv_goto (tgt := 1090) hx hb dL_acts_1086 (by decide) ?_
                                refine lv_istore (lv' := [(13, .int (bI (clB σ k (q + 1)))), (11, .int (nI pe)), (10, .int (nI i)), (9, .int (nI kd)), (0, .ref (o 0)), (1, .ref (t 0)), (2, .ref (a 0)), (3, .ref (a 1)), (4, .ref (a 2)), (5, .ref (a 3)), (6, .ref (a 4)), (7, .int x), (8, .int y), (12, .int (nI k)), (14, .int (clA σ k q)), (15, .int (nI q))]) hx hb dL_acts_1090 hl (by decide) rfl (fun ls hl => ?_)
                                refine lv_iload hx hb dL_acts_1092 (lv_at hl 14 rfl) ?_
                                refine lv_aload hx hb dL_acts_1094 (lv_at hl 8 rfl) ?_
                                refine lv_iconst (v := 5) hx hb dL_acts_1096 (by decide) ?_
                                refine lv_iload hx hb dL_acts_1097 (lv_at hl 13 rfl) ?_
                                refine lv_imul hx hb dL_acts_1099 ?_
                                refine k_eq (y := nI (5 * k)) (pk_mul 5 k) ?_
                                refine lv_iload hx hb dL_acts_1100 (lv_at hl 15 rfl) ?_
                                refine lv_iadd hx hb dL_acts_1102 ?_
                                refine k_eq (y := nI (5 * k + q)) (nI_add (5 * k) q) ?_
                                refine k_ldQ S hK hWq45 2 (by decide) (i := (5 * k + q)) (show (5 * k + q) < 60 by omega) dL_acts_1103 ?_
                                refine k_eq (y := σ 13 (k * 5 + q)) ((by rw [hA.ac (5 * k + q) (by omega), Nat.mul_comm 5 k])) ?_
                                refine lv_if_lt (tgt := 1111) hx hb dL_acts_1104 (by decide) (fun c1104_47 => absurd c1104_47 (by rw [g1]; exact nI_pos (by omega))) (fun c1104_47 => ?_)
                                refine lv_iconst (v := 1) hx hb dL_acts_1107 (by decide) ?_
                                refine lv_goto (tgt := 1112) hx hb dL_acts_1108 (by decide) ?_
                                refine lv_iadd hx hb dL_acts_1112 ?_
                                refine k_eq (y := clA σ k (q + 1)) (clA_p g2) ?_
                                refine lv_istore (lv' := [(14, .int (clA σ k (q + 1))), (13, .int (bI (clB σ k (q + 1)))), (11, .int (nI pe)), (10, .int (nI i)), (9, .int (nI kd)), (0, .ref (o 0)), (1, .ref (t 0)), (2, .ref (a 0)), (3, .ref (a 1)), (4, .ref (a 2)), (5, .ref (a 3)), (6, .ref (a 4)), (7, .int x), (8, .int y), (12, .int (nI k)), (15, .int (nI q))]) hx hb dL_acts_1113 hl (by decide) rfl (fun ls hl => ?_)
                                refine lv_iinc (v := nI (q + 1)) (lv' := [(15, .int (nI (q + 1))), (14, .int (clA σ k (q + 1))), (13, .int (bI (clB σ k (q + 1)))), (11, .int (nI pe)), (10, .int (nI i)), (9, .int (nI kd)), (0, .ref (o 0)), (1, .ref (t 0)), (2, .ref (a 0)), (3, .ref (a 1)), (4, .ref (a 2)), (5, .ref (a 3)), (6, .ref (a 4)), (7, .int x), (8, .int y), (12, .int (nI k))]) hx hb dL_acts_1115 hl (k := 15) rfl (nI_1 q) (by decide) rfl (fun ls hl => ?_)
                                refine lv_goto (tgt := 1050) hx hb dL_acts_1118 (by decide) ?_
                                refine W.widen (k := 1 + 2 * (q + 1)) (n := 6 + 12 * (q + 1)) (by omega) (by omega) ?_
                                exact ihL1050 (q + 1) hltq (by omega) Hq45 Lq45 hWq45 hSq45 ls (lv_sub hl [3, 4, 5, 6, 7, 8, 9, 10, 11, 12, 13, 14, 15, 2, 1, 0] rfl)
                              · skip
                                refine lv_aload hx hb dL_acts_1072 (lv_at hl 7 rfl) ?_
                                refine lv_iconst (v := 5) hx hb dL_acts_1074 (by decide) ?_
                                refine lv_iload hx hb dL_acts_1075 (lv_at hl 12 rfl) ?_
                                refine lv_imul hx hb dL_acts_1077 ?_
                                refine k_eq (y := nI (5 * k)) (pk_mul 5 k) ?_
                                refine lv_iload hx hb dL_acts_1078 (lv_at hl 15 rfl) ?_
                                refine lv_iadd hx hb dL_acts_1080 ?_
                                refine k_eq (y := nI (5 * k + q)) (nI_add (5 * k) q) ?_
                                refine k_ldQ S hK hWq45 2 (by decide) (i := (5 * k + q)) (show (5 * k + q) < 60 by omega) dL_acts_1081 ?_
                                refine k_eq (y := σ 13 (k * 5 + q)) ((by rw [hA.ac (5 * k + q) (by omega), Nat.mul_comm 5 k])) ?_
                                refine lv_if_lt (tgt := 1089) hx hb dL_acts_1082 (by decide) (fun c1082_48 => absurd c1082_48 (by rw [g1]; exact nI_pos (by omega))) (fun c1082_48 => ?_)
                                refine lv_iconst (v := 1) hx hb dL_acts_1085 (by decide) ?_
                                refine k_eq (y := bI (clB σ k (q + 1))) ((by rw [clB_a e g2]; rfl)) ?_
                                refine lv_goto (tgt := 1090) hx hb dL_acts_1086 (by decide) ?_
                                refine lv_istore (lv' := [(13, .int (bI (clB σ k (q + 1)))), (11, .int (nI pe)), (10, .int (nI i)), (9, .int (nI kd)), (0, .ref (o 0)), (1, .ref (t 0)), (2, .ref (a 0)), (3, .ref (a 1)), (4, .ref (a 2)), (5, .ref (a 3)), (6, .ref (a 4)), (7, .int x), (8, .int y), (12, .int (nI k)), (14, .int (clA σ k q)), (15, .int (nI q))]) hx hb dL_acts_1090 hl (by decide) rfl (fun ls hl => ?_)
                                refine lv_iload hx hb dL_acts_1092 (lv_at hl 14 rfl) ?_
                                refine lv_aload hx hb dL_acts_1094 (lv_at hl 8 rfl) ?_
                                refine lv_iconst (v := 5) hx hb dL_acts_1096 (by decide) ?_
                                refine lv_iload hx hb dL_acts_1097 (lv_at hl 13 rfl) ?_
                                refine lv_imul hx hb dL_acts_1099 ?_
                                refine k_eq (y := nI (5 * k)) (pk_mul 5 k) ?_
                                refine lv_iload hx hb dL_acts_1100 (lv_at hl 15 rfl) ?_
                                refine lv_iadd hx hb dL_acts_1102 ?_
                                refine k_eq (y := nI (5 * k + q)) (nI_add (5 * k) q) ?_
                                refine k_ldQ S hK hWq45 2 (by decide) (i := (5 * k + q)) (show (5 * k + q) < 60 by omega) dL_acts_1103 ?_
                                refine k_eq (y := σ 13 (k * 5 + q)) ((by rw [hA.ac (5 * k + q) (by omega), Nat.mul_comm 5 k])) ?_
                                refine lv_if_lt (tgt := 1111) hx hb dL_acts_1104 (by decide) (fun c1104_49 => absurd c1104_49 (by rw [g1]; exact nI_pos (by omega))) (fun c1104_49 => ?_)
                                refine lv_iconst (v := 1) hx hb dL_acts_1107 (by decide) ?_
                                refine lv_goto (tgt := 1112) hx hb dL_acts_1108 (by decide) ?_
                                refine lv_iadd hx hb dL_acts_1112 ?_
                                refine k_eq (y := clA σ k (q + 1)) (clA_p g2) ?_
                                refine lv_istore (lv' := [(14, .int (clA σ k (q + 1))), (13, .int (bI (clB σ k (q + 1)))), (11, .int (nI pe)), (10, .int (nI i)), (9, .int (nI kd)), (0, .ref (o 0)), (1, .ref (t 0)), (2, .ref (a 0)), (3, .ref (a 1)), (4, .ref (a 2)), (5, .ref (a 3)), (6, .ref (a 4)), (7, .int x), (8, .int y), (12, .int (nI k)), (15, .int (nI q))]) hx hb dL_acts_1113 hl (by decide) rfl (fun ls hl => ?_)
                                refine lv_iinc (v := nI (q + 1)) (lv' := [(15, .int (nI (q + 1))), (14, .int (clA σ k (q + 1))), (13, .int (bI (clB σ k (q + 1)))), (11, .int (nI pe)), (10, .int (nI i)), (9, .int (nI kd)), (0, .ref (o 0)), (1, .ref (t 0)), (2, .ref (a 0)), (3, .ref (a 1)), (4, .ref (a 2)), (5, .ref (a 3)), (6, .ref (a 4)), (7, .int x), (8, .int y), (12, .int (nI k))]) hx hb dL_acts_1115 hl (k := 15) rfl (nI_1 q) (by decide) rfl (fun ls hl => ?_)
                                refine lv_goto (tgt := 1050) hx hb dL_acts_1118 (by decide) ?_
                                refine W.widen (k := 1 + 2 * (q + 1)) (n := 6 + 12 * (q + 1)) (by omega) (by omega) ?_
                                exact ihL1050 (q + 1) hltq (by omega) Hq45 Lq45 hWq45 hSq45 ls (lv_sub hl [3, 4, 5, 6, 7, 8, 9, 10, 11, 12, 13, 14, 15, 2, 1, 0] rfl)
                    have hl : lv_has ls 17 [(15, .int (nI 0)), (14, .int (clA σ k 0)), (13, .int (bI (clB σ k 0))), (11, .int (nI pe)), (10, .int (nI i)), (9, .int (nI kd)), (0, .ref (o 0)), (1, .ref (t 0)), (2, .ref (a 0)), (3, .ref (a 1)), (4, .ref (a 2)), (5, .ref (a 3)), (6, .ref (a 4)), (7, .int x), (8, .int y), (12, .int (nI k))] := hl
                    refine W.widen (k := 1) (n := 6) (by omega) (by omega) ?_
                    exact L1050 6 0 (Nat.zero_le _) (by omega) Hq13 Lq13 hWq13 hSq13 ls (lv_sub hl [3, 4, 5, 6, 7, 8, 9, 10, 11, 12, 13, 14, 15, 2, 1, 0] rfl)
                  · skip
                    refine lv_aload_n hx hb dL_acts_1028 rfl (lv_at hl 3 rfl) ?_
                    refine lv_iload hx hb dL_acts_1029 (lv_at hl 12 rfl) ?_
                    refine q_wx (rx_SX S ⟨m_462, m_463, m_22, m_464⟩ ⟨rfl, by decide, by decide, by decide +kernel⟩ (kL_stateOf l G o σ nm ns (nI k) hst hns hns4 hnm hnm2) ⟨rfl, rfl, Nat.le_of_ble_eq_true rfl, Nat.le_of_ble_eq_true rfl⟩ (ps bl_PXZ (bXZ (hW.xo hK) ((hZ0.at hS (fun _ h => h)).zs))) (n := 2) (As := [.ref (o 0), .int (nI k)]) (rest := []) rfl hl.1 rfl (Nat.le_of_ble_eq_true rfl) ⟨Nat.le_of_ble_eq_true rfl, Nat.le_of_ble_eq_true rfl⟩ dL_acts_1031) hS (fun _ h => h.elim) (fun rq50 Hq50 Lq50 eq50 gq50 fq50 hSq50 => ?_)
                    subst eq50
                    have hWq50 := hW.rd fq50
                    refine k_eq (y := 1) (tV_st1 hns hns4 hk (by rw [e9]; decide)) ?_
                    refine lv_if_ne (tgt := 1041) hx hb dL_acts_1034 (by decide) (fun c1034_51 => ?_) (fun c1034_51 => absurd c1034_51 (by decide))
                    refine lv_iconst (v := 0) hx hb dL_acts_1041 (by decide) ?_
                    refine lv_istore (lv' := [(13, .int 0), (11, .int (nI pe)), (10, .int (nI i)), (9, .int (nI kd)), (0, .ref (o 0)), (1, .ref (t 0)), (2, .ref (a 0)), (3, .ref (a 1)), (4, .ref (a 2)), (5, .ref (a 3)), (6, .ref (a 4)), (7, .int x), (8, .int y), (12, .int (nI k))]) hx hb dL_acts_1042 hl (by decide) rfl (fun ls hl => ?_)
                    refine lv_iconst (v := 0) hx hb dL_acts_1044 (by decide) ?_
                    refine lv_istore (lv' := [(14, .int 0), (13, .int 0), (11, .int (nI pe)), (10, .int (nI i)), (9, .int (nI kd)), (0, .ref (o 0)), (1, .ref (t 0)), (2, .ref (a 0)), (3, .ref (a 1)), (4, .ref (a 2)), (5, .ref (a 3)), (6, .ref (a 4)), (7, .int x), (8, .int y), (12, .int (nI k))]) hx hb dL_acts_1045 hl (by decide) rfl (fun ls hl => ?_)
                    refine lv_iconst (v := 0) hx hb dL_acts_1047 (by decide) ?_
                    refine lv_istore (lv' := [(15, .int 0), (14, .int 0), (13, .int 0), (11, .int (nI pe)), (10, .int (nI i)), (9, .int (nI kd)), (0, .ref (o 0)), (1, .ref (t 0)), (2, .ref (a 0)), (3, .ref (a 1)), (4, .ref (a 2)), (5, .ref (a 3)), (6, .ref (a 4)), (7, .int x), (8, .int y), (12, .int (nI k))]) hx hb dL_acts_1048 hl (by decide) rfl (fun ls hl => ?_)
                    have L1050 : ∀ (n9 q : Nat), q ≤ 5 → 5 + 1 ≤ q + n9 → ∀ (H9 : Heap) (L9 : List Loc), WQ G o t a σ σ α H9 → va_S ((AQ o t a)) s.heap H9 L9 → ∀ ls, lv_has ls 17 [(11, .int (nI pe)), (10, .int (nI i)), (9, .int (nI kd)), (0, .ref (o 0)), (1, .ref (t 0)), (2, .ref (a 0)), (3, .ref (a 1)), (4, .ref (a 2)), (5, .ref (a 3)), (6, .ref (a 4)), (7, .int x), (8, .int y), (12, .int (nI k)), (13, .int 0), (14, .int (clA σ k q)), (15, .int (nI q))] → W p l e (({ frames := 11, cells := 70, slots := 420, locals := 270 }) : Room) s m [.ref (o 0), .ref (t 0), .ref (a 0), .ref (a 1), .ref (a 2), .ref (a 3), .ref (a 4), .int x, .int y].toArray below meth c H9 L9 (1 + 2 * q) (6 + 12 * q) (MQ below (oW (AQ o t a) (fun r => r = 1) (fun H9 => WI G o t a (n + 1) H9)) [.ref (o 0), .ref (t 0), .ref (a 0), .ref (a 1), .ref (a 2), .ref (a 3), .ref (a 4), .int x, .int y].toArray s 70 420 (AQ o t a)) (F0 m 1050 ls []) := by
                      intro n9
                      induction n9 with
                      | zero =>
                        intro q h1 h2
                        omega
                      | succ n9 ihL1050 =>
                        intro q hiq hinq  H9 L9 hW hS ls hl
                        refine lv_iload hx hb dL_acts_1050 (lv_at hl 15 rfl) ?_
                        refine lv_iconst (v := 5) hx hb dL_acts_1052 (by decide) ?_
                        refine lv_icmp_ge (tgt := 1121) hx hb dL_acts_1053 (by decide) (fun cq5 => ?_) (fun cq5 => ?_)
                        · skip
                          have hgeq : q = 5 := by
                            have h9 := cq5
                            rw [show (5 : Int32) = nI 5 from rfl, nI_leI (by omega) (by omega)] at h9
                            omega
                          subst hgeq
                          refine W.widen (k := 11) (n := 66) (by omega) (by omega) ?_
                          refine lv_iload hx hb dL_acts_1121 (lv_at hl 13 rfl) ?_
                          refine lv_if_eq (tgt := 1131) hx hb dL_acts_1123 (by decide) (fun c1123_53 => ?_) (fun c1123_53 => absurd (by decide) c1123_53)
                          refine lv_ldc (v := (-1000003)) hx hb S.2.2.2.1 (S.2.2.2.2 _ m_427) dL_acts_1131 ?_
                          refine lv_istore (lv' := [(15, .int (-1000003)), (11, .int (nI pe)), (10, .int (nI i)), (9, .int (nI kd)), (0, .ref (o 0)), (1, .ref (t 0)), (2, .ref (a 0)), (3, .ref (a 1)), (4, .ref (a 2)), (5, .ref (a 3)), (6, .ref (a 4)), (7, .int x), (8, .int y), (12, .int (nI k)), (13, .int 0), (14, .int (clA σ k 5))]) hx hb dL_acts_1133 hl (by decide) rfl (fun ls hl => ?_)
                          refine lv_aload_n hx hb dL_acts_1135 rfl (lv_at hl 4 rfl) ?_
                          refine lv_iload hx hb dL_acts_1136 (lv_at hl 13 rfl) ?_
                          refine q_wx (rx_SX S ⟨m_573, m_574, m_22, m_575⟩ ⟨rfl, by decide, by decide, by decide +kernel⟩ (kL_close l G o σ nm ns (nI k) hst hns hns4 hnm hnm2 (AO o) hJ.dO) ⟨rfl, rfl, Nat.le_of_ble_eq_true rfl, Nat.le_of_ble_eq_true rfl⟩ (ps bl_PXZ (bXZ (hW.xo hK) ((hZ0.at hS (fun _ h => h)).zs))) (n := 2) (As := [.ref (o 0), .int (nI k)]) (rest := []) rfl hl.1 rfl (Nat.le_of_ble_eq_true rfl) ⟨Nat.le_of_ble_eq_true rfl, Nat.le_of_ble_eq_true rfl⟩ dL_acts_1138) hS (fun _ h => h.inO) (fun rq54 Hq54 Lq54 eq54 gq54 fq54 hSq54 => ?_)
                          subst eq54
                          rw [show (if eX_close σ (nI k) = 0 then (su σ 9 (ixN (nI k)) 1) else σ) = σ from if_neg (ne0 (k := 2) (eL_3 hns hns4 hk (by rw [decide_eq_false (by rw [e9]; decide), Bool.false_and])))] at gq54
                          have hWq54 := hW.wo hJ gq54 fq54
                          refine k_eq (y := (-1000003)) (hcV_3 (eL_3 hns hns4 hk (by rw [decide_eq_false (by rw [e9]; decide), Bool.false_and]))) ?_
                          refine lv_iload hx hb dL_acts_1141 (lv_at hl 0 rfl) ?_
                          refine lv_icmp_ne (tgt := 1189) hx hb dL_acts_1143 (by decide) (fun c1143_55 => absurd (by decide) c1143_55) (fun c1143_55 => ?_)
                          refine lv_aload_n hx hb dL_acts_1146 rfl (lv_at hl 5 rfl) ?_
                          refine lv_iload hx hb dL_acts_1147 (lv_at hl 13 rfl) ?_
                          refine q_wx (rx_SX S ⟨m_573, m_574, m_22, m_575⟩ ⟨rfl, by decide, by decide, by decide +kernel⟩ (kL_close l G t σ nm ns (nI k) hst hns hns4 hnm hnm2 (AO t) hJ.dT) ⟨rfl, rfl, Nat.le_of_ble_eq_true rfl, Nat.le_of_ble_eq_true rfl⟩ (ps bl_PXZ (bXZ (hWq54.xt hK) ((hZ0.at hSq54 (fun _ h => h)).zs))) (n := 2) (As := [.ref (t 0), .int (nI k)]) (rest := []) rfl hl.1 rfl (Nat.le_of_ble_eq_true rfl) ⟨Nat.le_of_ble_eq_true rfl, Nat.le_of_ble_eq_true rfl⟩ dL_acts_1149) hSq54 (fun _ h => h.inT) (fun rq56 Hq56 Lq56 eq56 gq56 fq56 hSq56 => ?_)
                          subst eq56
                          rw [show (if eX_close σ (nI k) = 0 then (su σ 9 (ixN (nI k)) 1) else σ) = σ from if_neg (ne0 (k := 2) (eL_3 hns hns4 hk (by rw [decide_eq_false (by rw [e9]; decide), Bool.false_and])))] at gq56
                          have hWq56 := hWq54.wt hJ gq56 fq56
                          refine k_eq (y := (-1000003)) (hcV_3 (eL_3 hns hns4 hk (by rw [decide_eq_false (by rw [e9]; decide), Bool.false_and]))) ?_
                          refine lv_iload hx hb dL_acts_1152 (lv_at hl 0 rfl) ?_
                          refine lv_icmp_ne (tgt := 1189) hx hb dL_acts_1154 (by decide) (fun c1154_57 => absurd (by decide) c1154_57) (fun c1154_57 => ?_)
                          refine lv_aload_n hx hb dL_acts_1157 rfl (lv_at hl 4 rfl) ?_
                          refine lv_aload hx hb dL_acts_1158 (lv_at hl 10 rfl) ?_
                          refine lv_iconst (v := 2) hx hb dL_acts_1160 (by decide) ?_
                          refine k_ldQ S hK hWq56 4 (by decide) (i := 2) (show 2 < 3 by omega) dL_acts_1161 ?_
                          refine k_eq (y := nI ns) (hA.g2) ?_
                          refine q_wx (rx_SX S ⟨m_573, m_574, m_22, m_575⟩ ⟨rfl, by decide, by decide, by decide +kernel⟩ (kL_close l G o σ nm ns (nI ns) hst hns hns4 hnm hnm2 (AO o) hJ.dO) ⟨rfl, rfl, Nat.le_of_ble_eq_true rfl, Nat.le_of_ble_eq_true rfl⟩ (ps bl_PXZ (bXZ (hWq56.xo hK) ((hZ0.at hSq56 (fun _ h => h)).zs))) (n := 2) (As := [.ref (o 0), .int (nI ns)]) (rest := []) rfl hl.1 rfl (Nat.le_of_ble_eq_true rfl) ⟨Nat.le_of_ble_eq_true rfl, Nat.le_of_ble_eq_true rfl⟩ dL_acts_1162) hSq56 (fun _ h => h.inO) (fun rq58 Hq58 Lq58 eq58 gq58 fq58 hSq58 => ?_)
                          subst eq58
                          rw [show (if eX_close σ (nI ns) = 0 then (su σ 9 (ixN (nI ns)) 1) else σ) = σ from if_neg (ne0 (k := 0) (eL_n hns hns4))] at gq58
                          have hWq58 := hWq56.wo hJ gq58 fq58
                          refine k_eq (y := (-1000001)) (hcV_1 (eL_n hns hns4)) ?_
                          refine lv_ldc (v := (-1000001)) hx hb S.2.2.2.1 (S.2.2.2.2 _ m_294) dL_acts_1165 ?_
                          refine lv_icmp_ne (tgt := 1189) hx hb dL_acts_1167 (by decide) (fun c1167_59 => absurd (by decide) c1167_59) (fun c1167_59 => ?_)
                          refine lv_iload hx hb dL_acts_1170 (lv_at hl 0 rfl) ?_
                          refine lv_if_lt (tgt := 1185) hx hb dL_acts_1172 (by decide) (fun c1172_60 => ?_) (fun c1172_60 => absurd (by decide) c1172_60)
                          refine lv_iconst (v := 1) hx hb dL_acts_1185 (by decide) ?_
                          refine lv_goto (tgt := 1190) hx hb dL_acts_1186 (by decide) ?_
                          refine W.widen (k := 70) (n := 420) (by first | omega | exact Nat.le_of_ble_eq_true rfl) (by first | omega | exact Nat.le_of_ble_eq_true rfl) ?_
                          exact W.zret (v := 1) (ty := .boolean) hx hb hr (by first | rfl | exact bI_nar _) (fun t9 ht hWz => ⟨⟨_, rfl, rfl⟩, by rw [ht]; exact ⟨σ, α, hI.up.ri, hWq58⟩, hSq58.F ht⟩) hSq58.2.2 dL_acts_1190
                        · skip
                          have hltq : q < 5 := by
                            rcases Nat.lt_or_ge q 5 with h9 | h9
                            · exact h9
                            · exact absurd (nI_le (a := 5) h9 (by omega)) cq5
                          rcases hC.ag2 (k := k * 5 + q) (by omega) with ⟨g1, g2⟩ | ⟨q9, hq9, g1, g2⟩
                          · skip
                            refine lv_iload hx hb dL_acts_1056 (lv_at hl 13 rfl) ?_
                            refine lv_if_eq (tgt := 1089) hx hb dL_acts_1058 (by decide) (fun c1058_61 => ?_) (fun c1058_61 => absurd (by decide) c1058_61)
                            refine lv_iconst (v := 0) hx hb dL_acts_1089 (by decide) ?_
                            refine lv_istore (lv' := [(13, .int 0), (11, .int (nI pe)), (10, .int (nI i)), (9, .int (nI kd)), (0, .ref (o 0)), (1, .ref (t 0)), (2, .ref (a 0)), (3, .ref (a 1)), (4, .ref (a 2)), (5, .ref (a 3)), (6, .ref (a 4)), (7, .int x), (8, .int y), (12, .int (nI k)), (14, .int (clA σ k q)), (15, .int (nI q))]) hx hb dL_acts_1090 hl (by decide) rfl (fun ls hl => ?_)
                            refine lv_iload hx hb dL_acts_1092 (lv_at hl 14 rfl) ?_
                            refine lv_aload hx hb dL_acts_1094 (lv_at hl 8 rfl) ?_
                            refine lv_iconst (v := 5) hx hb dL_acts_1096 (by decide) ?_
                            refine lv_iload hx hb dL_acts_1097 (lv_at hl 13 rfl) ?_
                            refine lv_imul hx hb dL_acts_1099 ?_
                            refine k_eq (y := nI (5 * k)) (pk_mul 5 k) ?_
                            refine lv_iload hx hb dL_acts_1100 (lv_at hl 15 rfl) ?_
                            refine lv_iadd hx hb dL_acts_1102 ?_
                            refine k_eq (y := nI (5 * k + q)) (nI_add (5 * k) q) ?_
                            refine k_ldQ S hK hW 2 (by decide) (i := (5 * k + q)) (show (5 * k + q) < 60 by omega) dL_acts_1103 ?_
                            refine k_eq (y := σ 13 (k * 5 + q)) ((by rw [hA.ac (5 * k + q) (by omega), Nat.mul_comm 5 k])) ?_
                            refine lv_if_lt (tgt := 1111) hx hb dL_acts_1104 (by decide) (fun c1104_62 => ?_) (fun c1104_62 => absurd (by rw [g1]; decide) c1104_62)
                            refine lv_iconst (v := 0) hx hb dL_acts_1111 (by decide) ?_
                            refine lv_iadd hx hb dL_acts_1112 ?_
                            refine k_eq (y := clA σ k (q + 1)) (clA_n g2) ?_
                            refine lv_istore (lv' := [(14, .int (clA σ k (q + 1))), (13, .int 0), (11, .int (nI pe)), (10, .int (nI i)), (9, .int (nI kd)), (0, .ref (o 0)), (1, .ref (t 0)), (2, .ref (a 0)), (3, .ref (a 1)), (4, .ref (a 2)), (5, .ref (a 3)), (6, .ref (a 4)), (7, .int x), (8, .int y), (12, .int (nI k)), (15, .int (nI q))]) hx hb dL_acts_1113 hl (by decide) rfl (fun ls hl => ?_)
                            refine lv_iinc (v := nI (q + 1)) (lv' := [(15, .int (nI (q + 1))), (14, .int (clA σ k (q + 1))), (13, .int 0), (11, .int (nI pe)), (10, .int (nI i)), (9, .int (nI kd)), (0, .ref (o 0)), (1, .ref (t 0)), (2, .ref (a 0)), (3, .ref (a 1)), (4, .ref (a 2)), (5, .ref (a 3)), (6, .ref (a 4)), (7, .int x), (8, .int y), (12, .int (nI k))]) hx hb dL_acts_1115 hl (k := 15) rfl (nI_1 q) (by decide) rfl (fun ls hl => ?_)
                            refine lv_goto (tgt := 1050) hx hb dL_acts_1118 (by decide) ?_
                            refine W.widen (k := 1 + 2 * (q + 1)) (n := 6 + 12 * (q + 1)) (by omega) (by omega) ?_
                            exact ihL1050 (q + 1) hltq (by omega) H9 L9 hW hS ls (lv_sub hl [3, 4, 5, 6, 7, 8, 9, 10, 11, 12, 13, 14, 15, 2, 1, 0] rfl)
                          · skip
                            refine lv_iload hx hb dL_acts_1056 (lv_at hl 13 rfl) ?_
                            refine lv_if_eq (tgt := 1089) hx hb dL_acts_1058 (by decide) (fun c1058_63 => ?_) (fun c1058_63 => absurd (by decide) c1058_63)
                            refine lv_iconst (v := 0) hx hb dL_acts_1089 (by decide) ?_
                            refine lv_istore (lv' := [(13, .int 0), (11, .int (nI pe)), (10, .int (nI i)), (9, .int (nI kd)), (0, .ref (o 0)), (1, .ref (t 0)), (2, .ref (a 0)), (3, .ref (a 1)), (4, .ref (a 2)), (5, .ref (a 3)), (6, .ref (a 4)), (7, .int x), (8, .int y), (12, .int (nI k)), (14, .int (clA σ k q)), (15, .int (nI q))]) hx hb dL_acts_1090 hl (by decide) rfl (fun ls hl => ?_)
                            refine lv_iload hx hb dL_acts_1092 (lv_at hl 14 rfl) ?_
                            refine lv_aload hx hb dL_acts_1094 (lv_at hl 8 rfl) ?_
                            refine lv_iconst (v := 5) hx hb dL_acts_1096 (by decide) ?_
                            refine lv_iload hx hb dL_acts_1097 (lv_at hl 13 rfl) ?_
                            refine lv_imul hx hb dL_acts_1099 ?_
                            refine k_eq (y := nI (5 * k)) (pk_mul 5 k) ?_
                            refine lv_iload hx hb dL_acts_1100 (lv_at hl 15 rfl) ?_
                            refine lv_iadd hx hb dL_acts_1102 ?_
                            refine k_eq (y := nI (5 * k + q)) (nI_add (5 * k) q) ?_
                            refine k_ldQ S hK hW 2 (by decide) (i := (5 * k + q)) (show (5 * k + q) < 60 by omega) dL_acts_1103 ?_
                            refine k_eq (y := σ 13 (k * 5 + q)) ((by rw [hA.ac (5 * k + q) (by omega), Nat.mul_comm 5 k])) ?_
                            refine lv_if_lt (tgt := 1111) hx hb dL_acts_1104 (by decide) (fun c1104_64 => absurd c1104_64 (by rw [g1]; exact nI_pos (by omega))) (fun c1104_64 => ?_)
                            refine lv_iconst (v := 1) hx hb dL_acts_1107 (by decide) ?_
                            refine lv_goto (tgt := 1112) hx hb dL_acts_1108 (by decide) ?_
                            refine lv_iadd hx hb dL_acts_1112 ?_
                            refine k_eq (y := clA σ k (q + 1)) (clA_p g2) ?_
                            refine lv_istore (lv' := [(14, .int (clA σ k (q + 1))), (13, .int 0), (11, .int (nI pe)), (10, .int (nI i)), (9, .int (nI kd)), (0, .ref (o 0)), (1, .ref (t 0)), (2, .ref (a 0)), (3, .ref (a 1)), (4, .ref (a 2)), (5, .ref (a 3)), (6, .ref (a 4)), (7, .int x), (8, .int y), (12, .int (nI k)), (15, .int (nI q))]) hx hb dL_acts_1113 hl (by decide) rfl (fun ls hl => ?_)
                            refine lv_iinc (v := nI (q + 1)) (lv' := [(15, .int (nI (q + 1))), (14, .int (clA σ k (q + 1))), (13, .int 0), (11, .int (nI pe)), (10, .int (nI i)), (9, .int (nI kd)), (0, .ref (o 0)), (1, .ref (t 0)), (2, .ref (a 0)), (3, .ref (a 1)), (4, .ref (a 2)), (5, .ref (a 3)), (6, .ref (a 4)), (7, .int x), (8, .int y), (12, .int (nI k))]) hx hb dL_acts_1115 hl (k := 15) rfl (nI_1 q) (by decide) rfl (fun ls hl => ?_)
                            refine lv_goto (tgt := 1050) hx hb dL_acts_1118 (by decide) ?_
                            refine W.widen (k := 1 + 2 * (q + 1)) (n := 6 + 12 * (q + 1)) (by omega) (by omega) ?_
                            exact ihL1050 (q + 1) hltq (by omega) H9 L9 hW hS ls (lv_sub hl [3, 4, 5, 6, 7, 8, 9, 10, 11, 12, 13, 14, 15, 2, 1, 0] rfl)
                    have hl : lv_has ls 17 [(15, .int (nI 0)), (14, .int (clA σ k 0)), (13, .int 0), (11, .int (nI pe)), (10, .int (nI i)), (9, .int (nI kd)), (0, .ref (o 0)), (1, .ref (t 0)), (2, .ref (a 0)), (3, .ref (a 1)), (4, .ref (a 2)), (5, .ref (a 3)), (6, .ref (a 4)), (7, .int x), (8, .int y), (12, .int (nI k))] := hl
                    refine W.widen (k := 1) (n := 6) (by omega) (by omega) ?_
                    exact L1050 6 0 (Nat.zero_le _) (by omega) Hq50 Lq50 hWq50 hSq50 ls (lv_sub hl [3, 4, 5, 6, 7, 8, 9, 10, 11, 12, 13, 14, 15, 2, 1, 0] rfl)
              · skip
                refine lv_aload_n hx hb dL_acts_654 rfl (lv_at hl 3 rfl) ?_
                refine lv_iload hx hb dL_acts_655 (lv_at hl 12 rfl) ?_
                refine lv_iload hx hb dL_acts_657 (lv_at hl 1 rfl) ?_
                obtain ⟨c9, hc9, hc10, hc11, hc12⟩ := hC.cn (k := k * 5 + i) (by omega)
                refine q_wx (rx_SX S ⟨m_319, m_320, m_22, m_321⟩ ⟨rfl, by decide, by decide, by decide +kernel⟩ (kL_counts l G o σ nm ns (nI k) (nI i) hst hns hns4 hnm hnm2) ⟨rfl, rfl, Nat.le_of_ble_eq_true rfl, Nat.le_of_ble_eq_true rfl⟩ (ps bl_PXZ (bXZ (hW.xo hK) ((hZ0.at hS (fun _ h => h)).zs))) (n := 3) (As := [.ref (o 0), .int (nI k), .int (nI i)]) (rest := []) rfl hl.1 rfl (Nat.le_of_ble_eq_true rfl) ⟨Nat.le_of_ble_eq_true rfl, Nat.le_of_ble_eq_true rfl⟩ dL_acts_659) hS (fun _ h => h.elim) (fun rq65 Hq65 Lq65 eq65 gq65 fq65 hSq65 => ?_)
                subst eq65
                have hWq65 := hW.rd fq65
                refine k_eq (y := nI c9) ((tV_line hns hns4 hk hi (fun z => bc (σ 10 z))).trans hc10) ?_
                refine lv_istore (lv' := [(13, .int (nI c9)), (11, .int (nI pe)), (10, .int (nI i)), (9, .int (nI kd)), (0, .ref (o 0)), (1, .ref (t 0)), (2, .ref (a 0)), (3, .ref (a 1)), (4, .ref (a 2)), (5, .ref (a 3)), (6, .ref (a 4)), (7, .int x), (8, .int y), (12, .int (nI k))]) hx hb dL_acts_662 hl (by decide) rfl (fun ls hl => ?_)
                obtain ⟨pl, hpl, hpl2⟩ := hC.pls k
                have J730 : ∀ (q : Nat) (hq : q ≤ 100000) (H9 : Heap) (L9 : List Loc), WQ G o t a σ σ α H9 → va_S ((AQ o t a)) s.heap H9 L9 → ∀ ls, lv_has ls 17 [(13, .int (nI c9)), (11, .int (nI pe)), (10, .int (nI i)), (9, .int (nI kd)), (0, .ref (o 0)), (1, .ref (t 0)), (2, .ref (a 0)), (3, .ref (a 1)), (4, .ref (a 2)), (5, .ref (a 3)), (6, .ref (a 4)), (7, .int x), (8, .int y), (12, .int (nI k)), (14, .int (nI q))] → W p l e (({ frames := 11, cells := 70, slots := 420, locals := 270 }) : Room) s m [.ref (o 0), .ref (t 0), .ref (a 0), .ref (a 1), .ref (a 2), .ref (a 3), .ref (a 4), .int x, .int y].toArray below meth c H9 L9 (4) (24) (MQ below (oW (AQ o t a) (fun r => r = 1) (fun H9 => WI G o t a (n + 1) H9)) [.ref (o 0), .ref (t 0), .ref (a 0), .ref (a 1), .ref (a 2), .ref (a 3), .ref (a 4), .int x, .int y].toArray s 70 420 (AQ o t a)) (F0 m 730 ls []) := by
                  intro q hq H9 L9 hW hS ls hl
                  rcases (hC.st k).1 with e9 | e9
                  · skip
                    rcases hC.ag2 (k := k * 5 + i) (by omega) with ⟨g1, g2⟩ | ⟨q9, hq9, g1, g2⟩
                    · skip
                      rcases bft (cbB σ (k * 5 + i) (nI pe)) with e | e
                      · skip
                        obtain ⟨c8, hd1, hd2, hd3, hd4, hd5, hd6⟩ := ct_ln (hC.ln (k * 5 + i) (by omega)) g1 hpe hq e
                        have hd7 : c9 = c8 := nI9 (hc10.symm.trans hd2) (by omega) (by omega)
                        subst hd7
                        obtain ⟨σ1, hσ1⟩ : ∃ z, z = adS σ (k * 5 + i) (nI pe) (nI q) := ⟨_, rfl⟩
                        have hI1 : Inv σ1 (su α 2 (5 * k + i) (σ1 13 (k * 5 + i))) nm ns (n + 1) N S9 := by rw [hσ1]; exact hI.ct hk hi g1 hpe hq e
                        rw [← hσ1] at hd3 hd4 hd5 hd6
                        have o9 : σ1 9 k = 0 := by rw [hσ1, ad_o (Or.inl (by decide))]; exact e9
                        rcases hd6 with ⟨rfl, w1⟩ | ⟨rfl, w1 | w1⟩ | ⟨rfl, w, hw, w1⟩
                        · skip
                          refine lv_aload_n hx hb dL_acts_730 rfl (lv_at hl 4 rfl) ?_
                          refine lv_iload hx hb dL_acts_731 (lv_at hl 13 rfl) ?_
                          refine lv_iload hx hb dL_acts_733 (lv_at hl 1 rfl) ?_
                          refine lv_iload hx hb dL_acts_735 (lv_at hl 2 rfl) ?_
                          refine lv_iload hx hb dL_acts_737 (lv_at hl 14 rfl) ?_
                          refine q_wx (rx_SX S ⟨m_546, m_547, m_22, m_548⟩ ⟨rfl, by decide, by decide, by decide +kernel⟩ (kL_count l G o σ nm ns (nI k) (nI pe) (nI i) (nI q) hst hns hns4 hnm hnm2 (AO o) hJ.dO) ⟨rfl, rfl, Nat.le_of_ble_eq_true rfl, Nat.le_of_ble_eq_true rfl⟩ (ps bl_PXZ (bXZ (hW.xo hK) ((hZ0.at hS (fun _ h => h)).zs))) (n := 5) (As := [.ref (o 0), .int (nI k), .int (nI pe), .int (nI i), .int (nI q)]) (rest := []) rfl hl.1 rfl (Nat.le_of_ble_eq_true rfl) ⟨Nat.le_of_ble_eq_true rfl, Nat.le_of_ble_eq_true rfl⟩ dL_acts_739) hS (fun _ h => h.inO) (fun rq66 Hq66 Lq66 eq66 gq66 fq66 hSq66 => ?_)
                          subst eq66
                          rw [show (if eX_count σ (nI k) (nI pe) (nI i) (nI q) = 0 then (adS σ (lnN (nI k) (nI i)) (nI pe) (nI q)) else σ) = σ1 from (if_pos (eC_0 hns hns4 hk hi hpe hq e9 g2 e)).trans ((ct_ix (by omega) hi).trans hσ1.symm)] at gq66
                          have hWq66 := hW.wo hJ gq66 fq66
                          refine k_eq (y := 0) (tV_cnt (eC_0 hns hns4 hk hi hpe hq e9 g2 e) (by omega) hi (by rw [← hσ1]; exact bI_ag0 w1)) ?_
                          refine lv_istore (lv' := [(15, .int 0), (13, .int (nI 0)), (11, .int (nI pe)), (10, .int (nI i)), (9, .int (nI kd)), (0, .ref (o 0)), (1, .ref (t 0)), (2, .ref (a 0)), (3, .ref (a 1)), (4, .ref (a 2)), (5, .ref (a 3)), (6, .ref (a 4)), (7, .int x), (8, .int y), (12, .int (nI k)), (14, .int (nI q))]) hx hb dL_acts_742 hl (by decide) rfl (fun ls hl => ?_)
                          refine lv_aload_n hx hb dL_acts_744 rfl (lv_at hl 6 rfl) ?_
                          refine lv_iload hx hb dL_acts_745 (lv_at hl 14 rfl) ?_
                          refine lv_iload hx hb dL_acts_747 (lv_at hl 2 rfl) ?_
                          refine lv_iload hx hb dL_acts_749 (lv_at hl 3 rfl) ?_
                          refine lv_iload hx hb dL_acts_751 (lv_at hl 15 rfl) ?_
                          refine q_wx (rx_SX S ⟨m_546, m_547, m_22, m_548⟩ ⟨rfl, by decide, by decide, by decide +kernel⟩ (kL_count l G t σ nm ns (nI k) (nI pe) (nI i) (nI q) hst hns hns4 hnm hnm2 (AO t) hJ.dT) ⟨rfl, rfl, Nat.le_of_ble_eq_true rfl, Nat.le_of_ble_eq_true rfl⟩ (ps bl_PXZ (bXZ (hWq66.xt hK) ((hZ0.at hSq66 (fun _ h => h)).zs))) (n := 5) (As := [.ref (t 0), .int (nI k), .int (nI pe), .int (nI i), .int (nI q)]) (rest := []) rfl hl.1 rfl (Nat.le_of_ble_eq_true rfl) ⟨Nat.le_of_ble_eq_true rfl, Nat.le_of_ble_eq_true rfl⟩ dL_acts_753) hSq66 (fun _ h => h.inT) (fun rq67 Hq67 Lq67 eq67 gq67 fq67 hSq67 => ?_)
                          subst eq67
                          rw [show (if eX_count σ (nI k) (nI pe) (nI i) (nI q) = 0 then (adS σ (lnN (nI k) (nI i)) (nI pe) (nI q)) else σ) = σ1 from (if_pos (eC_0 hns hns4 hk hi hpe hq e9 g2 e)).trans ((ct_ix (by omega) hi).trans hσ1.symm)] at gq67
                          have hWq67 := hWq66.wt hJ gq67 fq67
                          refine k_eq (y := 0) (tV_cnt (eC_0 hns hns4 hk hi hpe hq e9 g2 e) (by omega) hi (by rw [← hσ1]; exact bI_ag0 w1)) ?_
                          refine lv_iload hx hb dL_acts_756 (lv_at hl 0 rfl) ?_
                          refine lv_icmp_ne (tgt := 836) hx hb dL_acts_758 (by decide) (fun c758_68 => absurd (by decide) c758_68) (fun c758_68 => ?_)
                          refine lv_aload_n hx hb dL_acts_761 rfl (lv_at hl 5 rfl) ?_
                          refine lv_iload hx hb dL_acts_762 (lv_at hl 14 rfl) ?_
                          refine q_wx (rx_SX S ⟨m_462, m_463, m_22, m_464⟩ ⟨rfl, by decide, by decide, by decide +kernel⟩ (kL_stateOf l G o σ1 nm ns (nI k) hst hI1.1.hns hns4 hI1.1.hnm hnm2) ⟨rfl, rfl, Nat.le_of_ble_eq_true rfl, Nat.le_of_ble_eq_true rfl⟩ (ps bl_PXZ (bXZ (hWq67.xo hK) ((hZ0.at hSq67 (fun _ h => h)).zs))) (n := 2) (As := [.ref (o 0), .int (nI k)]) (rest := []) rfl hl.1 rfl (Nat.le_of_ble_eq_true rfl) ⟨Nat.le_of_ble_eq_true rfl, Nat.le_of_ble_eq_true rfl⟩ dL_acts_764) hSq67 (fun _ h => h.elim) (fun rq69 Hq69 Lq69 eq69 gq69 fq69 hSq69 => ?_)
                          subst eq69
                          have hWq69 := hWq67.rd fq69
                          refine k_eq (y := 0) (tV_st0 hI1.1.hns hns4 hk o9) ?_
                          refine lv_iconst (v := 1) hx hb dL_acts_767 (by decide) ?_
                          refine lv_icmp_eq (tgt := 784) hx hb dL_acts_768 (by decide) (fun c768_70 => absurd c768_70 (by decide)) (fun c768_70 => ?_)
                          refine lv_aload hx hb dL_acts_771 (lv_at hl 9 rfl) ?_
                          refine lv_iconst (v := 5) hx hb dL_acts_773 (by decide) ?_
                          refine lv_iload hx hb dL_acts_774 (lv_at hl 14 rfl) ?_
                          refine lv_imul hx hb dL_acts_776 ?_
                          refine k_eq (y := nI (5 * k)) (pk_mul 5 k) ?_
                          refine lv_iload hx hb dL_acts_777 (lv_at hl 3 rfl) ?_
                          refine lv_iadd hx hb dL_acts_779 ?_
                          refine k_eq (y := nI (5 * k + i)) (nI_add (5 * k) i) ?_
                          refine k_ldQ S hK hWq69 2 (by decide) (i := (5 * k + i)) (show (5 * k + i) < 60 by omega) dL_acts_780 ?_
                          refine k_eq (y := σ 13 (k * 5 + i)) ((by rw [hA.ac (5 * k + i) (by omega), Nat.mul_comm 5 k])) ?_
                          refine lv_if_lt (tgt := 794) hx hb dL_acts_781 (by decide) (fun c781_71 => ?_) (fun c781_71 => absurd (by rw [g1]; decide) c781_71)
                          refine lv_iload hx hb dL_acts_794 (lv_at hl 0 rfl) ?_
                          refine lv_ldc (v := (-1000003)) hx hb S.2.2.2.1 (S.2.2.2.2 _ m_427) dL_acts_796 ?_
                          refine lv_icmp_ne (tgt := 806) hx hb dL_acts_798 (by decide) (fun c798_72 => ?_) (fun c798_72 => absurd c798_72 (by decide))
                          refine lv_iload hx hb dL_acts_806 (lv_at hl 0 rfl) ?_
                          refine lv_if_eq (tgt := 817) hx hb dL_acts_808 (by decide) (fun c808_73 => ?_) (fun c808_73 => absurd (by decide) c808_73)
                          refine lv_aload_n hx hb dL_acts_817 rfl (lv_at hl 5 rfl) ?_
                          refine lv_iload hx hb dL_acts_818 (lv_at hl 14 rfl) ?_
                          refine lv_iload hx hb dL_acts_820 (lv_at hl 3 rfl) ?_
                          refine q_wx (rx_SX S ⟨m_319, m_320, m_22, m_321⟩ ⟨rfl, by decide, by decide, by decide +kernel⟩ (kL_counts l G o σ1 nm ns (nI k) (nI i) hst hI1.1.hns hns4 hI1.1.hnm hnm2) ⟨rfl, rfl, Nat.le_of_ble_eq_true rfl, Nat.le_of_ble_eq_true rfl⟩ (ps bl_PXZ (bXZ (hWq69.xo hK) ((hZ0.at hSq69 (fun _ h => h)).zs))) (n := 3) (As := [.ref (o 0), .int (nI k), .int (nI i)]) (rest := []) rfl hl.1 rfl (Nat.le_of_ble_eq_true rfl) ⟨Nat.le_of_ble_eq_true rfl, Nat.le_of_ble_eq_true rfl⟩ dL_acts_822) hSq69 (fun _ h => h.elim) (fun rq74 Hq74 Lq74 eq74 gq74 fq74 hSq74 => ?_)
                          subst eq74
                          have hWq74 := hWq69.rd fq74
                          refine k_eq (y := nI (0 + 1)) ((tV_line hI1.1.hns hns4 hk hi (fun z => bc (σ1 10 z))).trans hd3) ?_
                          refine lv_iload hx hb dL_acts_825 (lv_at hl 1 rfl) ?_
                          refine lv_iconst (v := 1) hx hb dL_acts_827 (by decide) ?_
                          refine lv_iadd hx hb dL_acts_828 ?_
                          refine k_eq (y := nI (0 + 1)) (nI_1 0) ?_
                          refine lv_icmp_ne (tgt := 836) hx hb dL_acts_829 (by decide) (fun c829_75 => absurd rfl c829_75) (fun c829_75 => ?_)
                          refine lv_iconst (v := 1) hx hb dL_acts_832 (by decide) ?_
                          refine lv_goto (tgt := 837) hx hb dL_acts_833 (by decide) ?_
                          refine lv_istore (lv' := [(16, .int 1), (15, .int 0), (13, .int (nI 0)), (11, .int (nI pe)), (10, .int (nI i)), (9, .int (nI kd)), (0, .ref (o 0)), (1, .ref (t 0)), (2, .ref (a 0)), (3, .ref (a 1)), (4, .ref (a 2)), (5, .ref (a 3)), (6, .ref (a 4)), (7, .int x), (8, .int y), (12, .int (nI k)), (14, .int (nI q))]) hx hb dL_acts_837 hl (by decide) rfl (fun ls hl => ?_)
                          refine lv_iload hx hb dL_acts_839 (lv_at hl 0 rfl) ?_
                          refine lv_if_eq (tgt := 878) hx hb dL_acts_841 (by decide) (fun c841_76 => absurd c841_76 (by decide)) (fun c841_76 => ?_)
                          refine lv_iload hx hb dL_acts_844 (lv_at hl 1 rfl) ?_
                          refine lv_if_lt (tgt := 874) hx hb dL_acts_846 (by decide) (fun c846_77 => absurd c846_77 (by decide)) (fun c846_77 => ?_)
                          refine lv_iload hx hb dL_acts_849 (lv_at hl 2 rfl) ?_
                          refine lv_if_ne (tgt := 862) hx hb dL_acts_851 (by decide) (fun c851_78 => absurd (by decide) c851_78) (fun c851_78 => ?_)
                          refine lv_iload hx hb dL_acts_854 (lv_at hl 1 rfl) ?_
                          refine lv_if_ne (tgt := 878) hx hb dL_acts_856 (by decide) (fun c856_79 => absurd (by decide) c856_79) (fun c856_79 => ?_)
                          refine lv_goto (tgt := 874) hx hb dL_acts_859 (by decide) ?_
                          refine lv_iconst (v := 1) hx hb dL_acts_874 (by decide) ?_
                          refine lv_goto (tgt := 879) hx hb dL_acts_875 (by decide) ?_
                          refine lv_istore (lv' := [(16, .int 1), (15, .int 0), (13, .int (nI 0)), (11, .int (nI pe)), (10, .int (nI i)), (9, .int (nI kd)), (0, .ref (o 0)), (1, .ref (t 0)), (2, .ref (a 0)), (3, .ref (a 1)), (4, .ref (a 2)), (5, .ref (a 3)), (6, .ref (a 4)), (7, .int x), (8, .int y), (12, .int (nI k)), (14, .int (nI q))]) hx hb dL_acts_879 hl (by decide) rfl (fun ls hl => ?_)
                          refine lv_aload hx hb dL_acts_881 (lv_at hl 10 rfl) ?_
                          refine lv_iconst (v := 5) hx hb dL_acts_883 (by decide) ?_
                          refine lv_iload hx hb dL_acts_884 (lv_at hl 15 rfl) ?_
                          refine lv_imul hx hb dL_acts_886 ?_
                          refine k_eq (y := nI (5 * k)) (pk_mul 5 k) ?_
                          refine lv_iload hx hb dL_acts_887 (lv_at hl 4 rfl) ?_
                          refine lv_iadd hx hb dL_acts_889 ?_
                          refine k_eq (y := nI (5 * k + i)) (nI_add (5 * k) i) ?_
                          refine lv_iload hx hb dL_acts_890 (lv_at hl 1 rfl) ?_
                          refine lv_iconst (v := 1) hx hb dL_acts_892 (by decide) ?_
                          refine lv_icmp_ne (tgt := 907) hx hb dL_acts_893 (by decide) (fun c893_80 => ?_) (fun c893_80 => absurd c893_80 (by decide))
                          refine lv_aload hx hb dL_acts_907 (lv_at hl 10 rfl) ?_
                          refine lv_iconst (v := 5) hx hb dL_acts_909 (by decide) ?_
                          refine lv_iload hx hb dL_acts_910 (lv_at hl 15 rfl) ?_
                          refine lv_imul hx hb dL_acts_912 ?_
                          refine k_eq (y := nI (5 * k)) (pk_mul 5 k) ?_
                          refine lv_iload hx hb dL_acts_913 (lv_at hl 4 rfl) ?_
                          refine lv_iadd hx hb dL_acts_915 ?_
                          refine k_eq (y := nI (5 * k + i)) (nI_add (5 * k) i) ?_
                          refine k_ldQ S hK hWq74 2 (by decide) (i := (5 * k + i)) (show (5 * k + i) < 60 by omega) dL_acts_916 ?_
                          refine k_eq (y := σ1 13 (k * 5 + i)) ((by rw [w1, hA.ac (5 * k + i) (by omega), Nat.mul_comm 5 k, g1])) ?_
                          refine k_stQ S hK hJ hWq74 hSq74 (fun _ h => h) 2 (by decide) (i := (5 * k + i)) (show (5 * k + i) < 60 by omega) dL_acts_917 (fun Hq81 Lq81 hWq81 hSq81 => ?_)
                          refine lv_iload hx hb dL_acts_918 (lv_at hl 0 rfl) ?_
                          refine lv_if_eq (tgt := 974) hx hb dL_acts_920 (by decide) (fun c920_82 => absurd c920_82 (by decide)) (fun c920_82 => ?_)
                          refine lv_iload hx hb dL_acts_923 (lv_at hl 1 rfl) ?_
                          refine lv_iconst (v := 1) hx hb dL_acts_925 (by decide) ?_
                          refine lv_icmp_ne (tgt := 948) hx hb dL_acts_926 (by decide) (fun c926_83 => ?_) (fun c926_83 => absurd c926_83 (by decide))
                          refine lv_iload hx hb dL_acts_948 (lv_at hl 1 rfl) ?_
                          refine lv_if_lt (tgt := 970) hx hb dL_acts_950 (by decide) (fun c950_84 => absurd c950_84 (by decide)) (fun c950_84 => ?_)
                          refine lv_aload_n hx hb dL_acts_953 rfl (lv_at hl 6 rfl) ?_
                          refine lv_iload hx hb dL_acts_954 (lv_at hl 15 rfl) ?_
                          refine lv_iload hx hb dL_acts_956 (lv_at hl 3 rfl) ?_
                          refine lv_iload hx hb dL_acts_958 (lv_at hl 4 rfl) ?_
                          refine lv_iload hx hb dL_acts_960 (lv_at hl 16 rfl) ?_
                          refine q_wx (rx_SX S ⟨m_546, m_547, m_22, m_548⟩ ⟨rfl, by decide, by decide, by decide +kernel⟩ (kL_count l G o σ1 nm ns (nI k) (nI pe) (nI i) (nI q) hst hI1.1.hns hns4 hI1.1.hnm hnm2 (AO o) hJ.dO) ⟨rfl, rfl, Nat.le_of_ble_eq_true rfl, Nat.le_of_ble_eq_true rfl⟩ (ps bl_PXZ (bXZ (hWq81.xo hK) ((hZ0.at hSq81 (fun _ h => h)).zs))) (n := 5) (As := [.ref (o 0), .int (nI k), .int (nI pe), .int (nI i), .int (nI q)]) (rest := []) rfl hl.1 rfl (Nat.le_of_ble_eq_true rfl) ⟨Nat.le_of_ble_eq_true rfl, Nat.le_of_ble_eq_true rfl⟩ dL_acts_962) hSq81 (fun _ h => h.inO) (fun rq85 Hq85 Lq85 eq85 gq85 fq85 hSq85 => ?_)
                          subst eq85
                          rw [show (if eX_count σ1 (nI k) (nI pe) (nI i) (nI q) = 0 then (adS σ1 (lnN (nI k) (nI i)) (nI pe) (nI q)) else σ1) = σ1 from if_neg (ne0 (k := 2) (eC_c hI1.1.hns hns4 hk hi hpe hq o9 hd5))] at gq85
                          have hWq85 := hWq81.wo hJ gq85 fq85
                          refine k_eq (y := (-1000003)) (hcV_3 (eC_c hI1.1.hns hns4 hk hi hpe hq o9 hd5)) ?_
                          refine lv_ldc (v := (-1000003)) hx hb S.2.2.2.1 (S.2.2.2.2 _ m_427) dL_acts_965 ?_
                          refine lv_icmp_ne (tgt := 974) hx hb dL_acts_967 (by decide) (fun c967_86 => absurd (by decide) c967_86) (fun c967_86 => ?_)
                          refine lv_iconst (v := 1) hx hb dL_acts_970 (by decide) ?_
                          refine lv_goto (tgt := 975) hx hb dL_acts_971 (by decide) ?_
                          refine lv_istore (lv' := [(16, .int 1), (15, .int 0), (13, .int (nI 0)), (11, .int (nI pe)), (10, .int (nI i)), (9, .int (nI kd)), (0, .ref (o 0)), (1, .ref (t 0)), (2, .ref (a 0)), (3, .ref (a 1)), (4, .ref (a 2)), (5, .ref (a 3)), (6, .ref (a 4)), (7, .int x), (8, .int y), (12, .int (nI k)), (14, .int (nI q))]) hx hb dL_acts_975 hl (by decide) rfl (fun ls hl => ?_)
                          refine lv_iload hx hb dL_acts_977 (lv_at hl 0 rfl) ?_
                          refine lv_if_eq (tgt := 1019) hx hb dL_acts_979 (by decide) (fun c979_87 => absurd c979_87 (by decide)) (fun c979_87 => ?_)
                          refine lv_aload_n hx hb dL_acts_982 rfl (lv_at hl 6 rfl) ?_
                          refine lv_iload hx hb dL_acts_983 (lv_at hl 15 rfl) ?_
                          refine lv_iload hx hb dL_acts_985 (lv_at hl 3 rfl) ?_
                          refine lv_iload hx hb dL_acts_987 (lv_at hl 4 rfl) ?_
                          refine lv_ldc (v := 100001) hx hb S.2.2.2.1 (S.2.2.2.2 _ m_584) dL_acts_989 ?_
                          refine q_wx (rx_SX S ⟨m_546, m_547, m_22, m_548⟩ ⟨rfl, by decide, by decide, by decide +kernel⟩ (kL_count l G o σ1 nm ns (nI k) (nI pe) (nI i) 100001 hst hI1.1.hns hns4 hI1.1.hnm hnm2 (AO o) hJ.dO) ⟨rfl, rfl, Nat.le_of_ble_eq_true rfl, Nat.le_of_ble_eq_true rfl⟩ (ps bl_PXZ (bXZ (hWq85.xo hK) ((hZ0.at hSq85 (fun _ h => h)).zs))) (n := 5) (As := [.ref (o 0), .int (nI k), .int (nI pe), .int (nI i), .int 100001]) (rest := []) rfl hl.1 rfl (Nat.le_of_ble_eq_true rfl) ⟨Nat.le_of_ble_eq_true rfl, Nat.le_of_ble_eq_true rfl⟩ dL_acts_991) hSq85 (fun _ h => h.inO) (fun rq88 Hq88 Lq88 eq88 gq88 fq88 hSq88 => ?_)
                          subst eq88
                          rw [show (if eX_count σ1 (nI k) (nI pe) (nI i) 100001 = 0 then (adS σ1 (lnN (nI k) (nI i)) (nI pe) 100001) else σ1) = σ1 from if_neg (ne0 (k := 1) (eC_2 hI1.1.hns hns4 hk hi hpe))] at gq88
                          have hWq88 := hWq85.wo hJ gq88 fq88
                          refine k_eq (y := (-1000002)) (hcV_2 (eC_2 hI1.1.hns hns4 hk hi hpe)) ?_
                          refine lv_ldc (v := (-1000002)) hx hb S.2.2.2.1 (S.2.2.2.2 _ m_394) dL_acts_994 ?_
                          refine lv_icmp_ne (tgt := 1019) hx hb dL_acts_996 (by decide) (fun c996_89 => absurd (by decide) c996_89) (fun c996_89 => ?_)
                          refine lv_aload_n hx hb dL_acts_999 rfl (lv_at hl 6 rfl) ?_
                          refine lv_iload hx hb dL_acts_1000 (lv_at hl 15 rfl) ?_
                          refine lv_bipush (v := 6) hx hb dL_acts_1002 (by decide) ?_
                          refine lv_iload hx hb dL_acts_1004 (lv_at hl 4 rfl) ?_
                          refine lv_iconst (v := (-1)) hx hb dL_acts_1006 (by decide) ?_
                          refine q_wx (rx_SX S ⟨m_546, m_547, m_22, m_548⟩ ⟨rfl, by decide, by decide, by decide +kernel⟩ (kL_count l G o σ1 nm ns (nI k) 6 (nI i) (-1) hst hI1.1.hns hns4 hI1.1.hnm hnm2 (AO o) hJ.dO) ⟨rfl, rfl, Nat.le_of_ble_eq_true rfl, Nat.le_of_ble_eq_true rfl⟩ (ps bl_PXZ (bXZ (hWq88.xo hK) ((hZ0.at hSq88 (fun _ h => h)).zs))) (n := 5) (As := [.ref (o 0), .int (nI k), .int 6, .int (nI i), .int (-1)]) (rest := []) rfl hl.1 rfl (Nat.le_of_ble_eq_true rfl) ⟨Nat.le_of_ble_eq_true rfl, Nat.le_of_ble_eq_true rfl⟩ dL_acts_1007) hSq88 (fun _ h => h.inO) (fun rq90 Hq90 Lq90 eq90 gq90 fq90 hSq90 => ?_)
                          subst eq90
                          rw [show (if eX_count σ1 (nI k) 6 (nI i) (-1) = 0 then (adS σ1 (lnN (nI k) (nI i)) 6 (-1)) else σ1) = σ1 from if_neg (ne0 (k := 0) (eC_6 hI1.1.hns hns4 hk))] at gq90
                          have hWq90 := hWq88.wo hJ gq90 fq90
                          refine k_eq (y := (-1000001)) (hcV_1 (eC_6 hI1.1.hns hns4 hk)) ?_
                          refine lv_ldc (v := (-1000001)) hx hb S.2.2.2.1 (S.2.2.2.2 _ m_294) dL_acts_1010 ?_
                          refine lv_icmp_ne (tgt := 1019) hx hb dL_acts_1012 (by decide) (fun c1012_91 => absurd (by decide) c1012_91) (fun c1012_91 => ?_)
                          refine lv_iconst (v := 1) hx hb dL_acts_1015 (by decide) ?_
                          refine lv_goto (tgt := 1020) hx hb dL_acts_1016 (by decide) ?_
                          refine W.widen (k := 70) (n := 420) (by first | omega | exact Nat.le_of_ble_eq_true rfl) (by first | omega | exact Nat.le_of_ble_eq_true rfl) ?_
                          exact W.zret (v := 1) (ty := .boolean) hx hb hr (by first | rfl | exact bI_nar _) (fun t9 ht hWz => ⟨⟨_, rfl, rfl⟩, by rw [ht]; exact ⟨σ1, su α 2 (5 * k + i) (σ1 13 (k * 5 + i)), hI1.ri, hWq90⟩, hSq90.F ht⟩) hSq90.2.2 dL_acts_1020
                        · skip
                          refine lv_aload_n hx hb dL_acts_730 rfl (lv_at hl 4 rfl) ?_
                          refine lv_iload hx hb dL_acts_731 (lv_at hl 13 rfl) ?_
                          refine lv_iload hx hb dL_acts_733 (lv_at hl 1 rfl) ?_
                          refine lv_iload hx hb dL_acts_735 (lv_at hl 2 rfl) ?_
                          refine lv_iload hx hb dL_acts_737 (lv_at hl 14 rfl) ?_
                          refine q_wx (rx_SX S ⟨m_546, m_547, m_22, m_548⟩ ⟨rfl, by decide, by decide, by decide +kernel⟩ (kL_count l G o σ nm ns (nI k) (nI pe) (nI i) (nI q) hst hns hns4 hnm hnm2 (AO o) hJ.dO) ⟨rfl, rfl, Nat.le_of_ble_eq_true rfl, Nat.le_of_ble_eq_true rfl⟩ (ps bl_PXZ (bXZ (hW.xo hK) ((hZ0.at hS (fun _ h => h)).zs))) (n := 5) (As := [.ref (o 0), .int (nI k), .int (nI pe), .int (nI i), .int (nI q)]) (rest := []) rfl hl.1 rfl (Nat.le_of_ble_eq_true rfl) ⟨Nat.le_of_ble_eq_true rfl, Nat.le_of_ble_eq_true rfl⟩ dL_acts_739) hS (fun _ h => h.inO) (fun rq92 Hq92 Lq92 eq92 gq92 fq92 hSq92 => ?_)
                          subst eq92
                          rw [show (if eX_count σ (nI k) (nI pe) (nI i) (nI q) = 0 then (adS σ (lnN (nI k) (nI i)) (nI pe) (nI q)) else σ) = σ1 from (if_pos (eC_0 hns hns4 hk hi hpe hq e9 g2 e)).trans ((ct_ix (by omega) hi).trans hσ1.symm)] at gq92
                          have hWq92 := hW.wo hJ gq92 fq92
                          refine k_eq (y := 0) (tV_cnt (eC_0 hns hns4 hk hi hpe hq e9 g2 e) (by omega) hi (by rw [← hσ1]; exact bI_ag0 w1)) ?_
                          refine lv_istore (lv' := [(15, .int 0), (13, .int (nI 1)), (11, .int (nI pe)), (10, .int (nI i)), (9, .int (nI kd)), (0, .ref (o 0)), (1, .ref (t 0)), (2, .ref (a 0)), (3, .ref (a 1)), (4, .ref (a 2)), (5, .ref (a 3)), (6, .ref (a 4)), (7, .int x), (8, .int y), (12, .int (nI k)), (14, .int (nI q))]) hx hb dL_acts_742 hl (by decide) rfl (fun ls hl => ?_)
                          refine lv_aload_n hx hb dL_acts_744 rfl (lv_at hl 6 rfl) ?_
                          refine lv_iload hx hb dL_acts_745 (lv_at hl 14 rfl) ?_
                          refine lv_iload hx hb dL_acts_747 (lv_at hl 2 rfl) ?_
                          refine lv_iload hx hb dL_acts_749 (lv_at hl 3 rfl) ?_
                          refine lv_iload hx hb dL_acts_751 (lv_at hl 15 rfl) ?_
                          refine q_wx (rx_SX S ⟨m_546, m_547, m_22, m_548⟩ ⟨rfl, by decide, by decide, by decide +kernel⟩ (kL_count l G t σ nm ns (nI k) (nI pe) (nI i) (nI q) hst hns hns4 hnm hnm2 (AO t) hJ.dT) ⟨rfl, rfl, Nat.le_of_ble_eq_true rfl, Nat.le_of_ble_eq_true rfl⟩ (ps bl_PXZ (bXZ (hWq92.xt hK) ((hZ0.at hSq92 (fun _ h => h)).zs))) (n := 5) (As := [.ref (t 0), .int (nI k), .int (nI pe), .int (nI i), .int (nI q)]) (rest := []) rfl hl.1 rfl (Nat.le_of_ble_eq_true rfl) ⟨Nat.le_of_ble_eq_true rfl, Nat.le_of_ble_eq_true rfl⟩ dL_acts_753) hSq92 (fun _ h => h.inT) (fun rq93 Hq93 Lq93 eq93 gq93 fq93 hSq93 => ?_)
                          subst eq93
                          rw [show (if eX_count σ (nI k) (nI pe) (nI i) (nI q) = 0 then (adS σ (lnN (nI k) (nI i)) (nI pe) (nI q)) else σ) = σ1 from (if_pos (eC_0 hns hns4 hk hi hpe hq e9 g2 e)).trans ((ct_ix (by omega) hi).trans hσ1.symm)] at gq93
                          have hWq93 := hWq92.wt hJ gq93 fq93
                          refine k_eq (y := 0) (tV_cnt (eC_0 hns hns4 hk hi hpe hq e9 g2 e) (by omega) hi (by rw [← hσ1]; exact bI_ag0 w1)) ?_
                          refine lv_iload hx hb dL_acts_756 (lv_at hl 0 rfl) ?_
                          refine lv_icmp_ne (tgt := 836) hx hb dL_acts_758 (by decide) (fun c758_94 => absurd (by decide) c758_94) (fun c758_94 => ?_)
                          refine lv_aload_n hx hb dL_acts_761 rfl (lv_at hl 5 rfl) ?_
                          refine lv_iload hx hb dL_acts_762 (lv_at hl 14 rfl) ?_
                          refine q_wx (rx_SX S ⟨m_462, m_463, m_22, m_464⟩ ⟨rfl, by decide, by decide, by decide +kernel⟩ (kL_stateOf l G o σ1 nm ns (nI k) hst hI1.1.hns hns4 hI1.1.hnm hnm2) ⟨rfl, rfl, Nat.le_of_ble_eq_true rfl, Nat.le_of_ble_eq_true rfl⟩ (ps bl_PXZ (bXZ (hWq93.xo hK) ((hZ0.at hSq93 (fun _ h => h)).zs))) (n := 2) (As := [.ref (o 0), .int (nI k)]) (rest := []) rfl hl.1 rfl (Nat.le_of_ble_eq_true rfl) ⟨Nat.le_of_ble_eq_true rfl, Nat.le_of_ble_eq_true rfl⟩ dL_acts_764) hSq93 (fun _ h => h.elim) (fun rq95 Hq95 Lq95 eq95 gq95 fq95 hSq95 => ?_)
                          subst eq95
                          have hWq95 := hWq93.rd fq95
                          refine k_eq (y := 0) (tV_st0 hI1.1.hns hns4 hk o9) ?_
                          refine lv_iconst (v := 1) hx hb dL_acts_767 (by decide) ?_
                          refine lv_icmp_eq (tgt := 784) hx hb dL_acts_768 (by decide) (fun c768_96 => absurd c768_96 (by decide)) (fun c768_96 => ?_)
                          refine lv_aload hx hb dL_acts_771 (lv_at hl 9 rfl) ?_
                          refine lv_iconst (v := 5) hx hb dL_acts_773 (by decide) ?_
                          refine lv_iload hx hb dL_acts_774 (lv_at hl 14 rfl) ?_
                          refine lv_imul hx hb dL_acts_776 ?_
                          refine k_eq (y := nI (5 * k)) (pk_mul 5 k) ?_
                          refine lv_iload hx hb dL_acts_777 (lv_at hl 3 rfl) ?_
                          refine lv_iadd hx hb dL_acts_779 ?_
                          refine k_eq (y := nI (5 * k + i)) (nI_add (5 * k) i) ?_
                          refine k_ldQ S hK hWq95 2 (by decide) (i := (5 * k + i)) (show (5 * k + i) < 60 by omega) dL_acts_780 ?_
                          refine k_eq (y := σ 13 (k * 5 + i)) ((by rw [hA.ac (5 * k + i) (by omega), Nat.mul_comm 5 k])) ?_
                          refine lv_if_lt (tgt := 794) hx hb dL_acts_781 (by decide) (fun c781_97 => ?_) (fun c781_97 => absurd (by rw [g1]; decide) c781_97)
                          refine lv_iload hx hb dL_acts_794 (lv_at hl 0 rfl) ?_
                          refine lv_ldc (v := (-1000003)) hx hb S.2.2.2.1 (S.2.2.2.2 _ m_427) dL_acts_796 ?_
                          refine lv_icmp_ne (tgt := 806) hx hb dL_acts_798 (by decide) (fun c798_98 => ?_) (fun c798_98 => absurd c798_98 (by decide))
                          refine lv_iload hx hb dL_acts_806 (lv_at hl 0 rfl) ?_
                          refine lv_if_eq (tgt := 817) hx hb dL_acts_808 (by decide) (fun c808_99 => ?_) (fun c808_99 => absurd (by decide) c808_99)
                          refine lv_aload_n hx hb dL_acts_817 rfl (lv_at hl 5 rfl) ?_
                          refine lv_iload hx hb dL_acts_818 (lv_at hl 14 rfl) ?_
                          refine lv_iload hx hb dL_acts_820 (lv_at hl 3 rfl) ?_
                          refine q_wx (rx_SX S ⟨m_319, m_320, m_22, m_321⟩ ⟨rfl, by decide, by decide, by decide +kernel⟩ (kL_counts l G o σ1 nm ns (nI k) (nI i) hst hI1.1.hns hns4 hI1.1.hnm hnm2) ⟨rfl, rfl, Nat.le_of_ble_eq_true rfl, Nat.le_of_ble_eq_true rfl⟩ (ps bl_PXZ (bXZ (hWq95.xo hK) ((hZ0.at hSq95 (fun _ h => h)).zs))) (n := 3) (As := [.ref (o 0), .int (nI k), .int (nI i)]) (rest := []) rfl hl.1 rfl (Nat.le_of_ble_eq_true rfl) ⟨Nat.le_of_ble_eq_true rfl, Nat.le_of_ble_eq_true rfl⟩ dL_acts_822) hSq95 (fun _ h => h.elim) (fun rq100 Hq100 Lq100 eq100 gq100 fq100 hSq100 => ?_)
                          subst eq100
                          have hWq100 := hWq95.rd fq100
                          refine k_eq (y := nI (1 + 1)) ((tV_line hI1.1.hns hns4 hk hi (fun z => bc (σ1 10 z))).trans hd3) ?_
                          refine lv_iload hx hb dL_acts_825 (lv_at hl 1 rfl) ?_
                          refine lv_iconst (v := 1) hx hb dL_acts_827 (by decide) ?_
                          refine lv_iadd hx hb dL_acts_828 ?_
                          refine k_eq (y := nI (1 + 1)) (nI_1 1) ?_
                          refine lv_icmp_ne (tgt := 836) hx hb dL_acts_829 (by decide) (fun c829_101 => absurd rfl c829_101) (fun c829_101 => ?_)
                          refine lv_iconst (v := 1) hx hb dL_acts_832 (by decide) ?_
                          refine lv_goto (tgt := 837) hx hb dL_acts_833 (by decide) ?_
                          refine lv_istore (lv' := [(16, .int 1), (15, .int 0), (13, .int (nI 1)), (11, .int (nI pe)), (10, .int (nI i)), (9, .int (nI kd)), (0, .ref (o 0)), (1, .ref (t 0)), (2, .ref (a 0)), (3, .ref (a 1)), (4, .ref (a 2)), (5, .ref (a 3)), (6, .ref (a 4)), (7, .int x), (8, .int y), (12, .int (nI k)), (14, .int (nI q))]) hx hb dL_acts_837 hl (by decide) rfl (fun ls hl => ?_)
                          refine lv_iload hx hb dL_acts_839 (lv_at hl 0 rfl) ?_
                          refine lv_if_eq (tgt := 878) hx hb dL_acts_841 (by decide) (fun c841_102 => absurd c841_102 (by decide)) (fun c841_102 => ?_)
                          refine lv_iload hx hb dL_acts_844 (lv_at hl 1 rfl) ?_
                          refine lv_if_lt (tgt := 874) hx hb dL_acts_846 (by decide) (fun c846_103 => absurd c846_103 (by decide)) (fun c846_103 => ?_)
                          refine lv_iload hx hb dL_acts_849 (lv_at hl 2 rfl) ?_
                          refine lv_if_ne (tgt := 862) hx hb dL_acts_851 (by decide) (fun c851_104 => ?_) (fun c851_104 => absurd c851_104 (by decide))
                          refine lv_iload hx hb dL_acts_862 (lv_at hl 2 rfl) ?_
                          refine lv_iconst (v := 1) hx hb dL_acts_864 (by decide) ?_
                          refine lv_icmp_eq (tgt := 874) hx hb dL_acts_865 (by decide) (fun c865_105 => ?_) (fun c865_105 => absurd (by decide) c865_105)
                          refine lv_iconst (v := 1) hx hb dL_acts_874 (by decide) ?_
                          refine lv_goto (tgt := 879) hx hb dL_acts_875 (by decide) ?_
                          refine lv_istore (lv' := [(16, .int 1), (15, .int 0), (13, .int (nI 1)), (11, .int (nI pe)), (10, .int (nI i)), (9, .int (nI kd)), (0, .ref (o 0)), (1, .ref (t 0)), (2, .ref (a 0)), (3, .ref (a 1)), (4, .ref (a 2)), (5, .ref (a 3)), (6, .ref (a 4)), (7, .int x), (8, .int y), (12, .int (nI k)), (14, .int (nI q))]) hx hb dL_acts_879 hl (by decide) rfl (fun ls hl => ?_)
                          refine lv_aload hx hb dL_acts_881 (lv_at hl 10 rfl) ?_
                          refine lv_iconst (v := 5) hx hb dL_acts_883 (by decide) ?_
                          refine lv_iload hx hb dL_acts_884 (lv_at hl 15 rfl) ?_
                          refine lv_imul hx hb dL_acts_886 ?_
                          refine k_eq (y := nI (5 * k)) (pk_mul 5 k) ?_
                          refine lv_iload hx hb dL_acts_887 (lv_at hl 4 rfl) ?_
                          refine lv_iadd hx hb dL_acts_889 ?_
                          refine k_eq (y := nI (5 * k + i)) (nI_add (5 * k) i) ?_
                          refine lv_iload hx hb dL_acts_890 (lv_at hl 1 rfl) ?_
                          refine lv_iconst (v := 1) hx hb dL_acts_892 (by decide) ?_
                          refine lv_icmp_ne (tgt := 907) hx hb dL_acts_893 (by decide) (fun c893_106 => ?_) (fun c893_106 => absurd c893_106 (by decide))
                          refine lv_aload hx hb dL_acts_907 (lv_at hl 10 rfl) ?_
                          refine lv_iconst (v := 5) hx hb dL_acts_909 (by decide) ?_
                          refine lv_iload hx hb dL_acts_910 (lv_at hl 15 rfl) ?_
                          refine lv_imul hx hb dL_acts_912 ?_
                          refine k_eq (y := nI (5 * k)) (pk_mul 5 k) ?_
                          refine lv_iload hx hb dL_acts_913 (lv_at hl 4 rfl) ?_
                          refine lv_iadd hx hb dL_acts_915 ?_
                          refine k_eq (y := nI (5 * k + i)) (nI_add (5 * k) i) ?_
                          refine k_ldQ S hK hWq100 2 (by decide) (i := (5 * k + i)) (show (5 * k + i) < 60 by omega) dL_acts_916 ?_
                          refine k_eq (y := σ1 13 (k * 5 + i)) ((by rw [w1, hA.ac (5 * k + i) (by omega), Nat.mul_comm 5 k, g1])) ?_
                          refine k_stQ S hK hJ hWq100 hSq100 (fun _ h => h) 2 (by decide) (i := (5 * k + i)) (show (5 * k + i) < 60 by omega) dL_acts_917 (fun Hq107 Lq107 hWq107 hSq107 => ?_)
                          refine lv_iload hx hb dL_acts_918 (lv_at hl 0 rfl) ?_
                          refine lv_if_eq (tgt := 974) hx hb dL_acts_920 (by decide) (fun c920_108 => absurd c920_108 (by decide)) (fun c920_108 => ?_)
                          refine lv_iload hx hb dL_acts_923 (lv_at hl 1 rfl) ?_
                          refine lv_iconst (v := 1) hx hb dL_acts_925 (by decide) ?_
                          refine lv_icmp_ne (tgt := 948) hx hb dL_acts_926 (by decide) (fun c926_109 => ?_) (fun c926_109 => absurd c926_109 (by decide))
                          refine lv_iload hx hb dL_acts_948 (lv_at hl 1 rfl) ?_
                          refine lv_if_lt (tgt := 970) hx hb dL_acts_950 (by decide) (fun c950_110 => absurd c950_110 (by decide)) (fun c950_110 => ?_)
                          refine lv_aload_n hx hb dL_acts_953 rfl (lv_at hl 6 rfl) ?_
                          refine lv_iload hx hb dL_acts_954 (lv_at hl 15 rfl) ?_
                          refine lv_iload hx hb dL_acts_956 (lv_at hl 3 rfl) ?_
                          refine lv_iload hx hb dL_acts_958 (lv_at hl 4 rfl) ?_
                          refine lv_iload hx hb dL_acts_960 (lv_at hl 16 rfl) ?_
                          refine q_wx (rx_SX S ⟨m_546, m_547, m_22, m_548⟩ ⟨rfl, by decide, by decide, by decide +kernel⟩ (kL_count l G o σ1 nm ns (nI k) (nI pe) (nI i) (nI q) hst hI1.1.hns hns4 hI1.1.hnm hnm2 (AO o) hJ.dO) ⟨rfl, rfl, Nat.le_of_ble_eq_true rfl, Nat.le_of_ble_eq_true rfl⟩ (ps bl_PXZ (bXZ (hWq107.xo hK) ((hZ0.at hSq107 (fun _ h => h)).zs))) (n := 5) (As := [.ref (o 0), .int (nI k), .int (nI pe), .int (nI i), .int (nI q)]) (rest := []) rfl hl.1 rfl (Nat.le_of_ble_eq_true rfl) ⟨Nat.le_of_ble_eq_true rfl, Nat.le_of_ble_eq_true rfl⟩ dL_acts_962) hSq107 (fun _ h => h.inO) (fun rq111 Hq111 Lq111 eq111 gq111 fq111 hSq111 => ?_)
                          subst eq111
                          rw [show (if eX_count σ1 (nI k) (nI pe) (nI i) (nI q) = 0 then (adS σ1 (lnN (nI k) (nI i)) (nI pe) (nI q)) else σ1) = σ1 from if_neg (ne0 (k := 2) (eC_c hI1.1.hns hns4 hk hi hpe hq o9 hd5))] at gq111
                          have hWq111 := hWq107.wo hJ gq111 fq111
                          refine k_eq (y := (-1000003)) (hcV_3 (eC_c hI1.1.hns hns4 hk hi hpe hq o9 hd5)) ?_
                          refine lv_ldc (v := (-1000003)) hx hb S.2.2.2.1 (S.2.2.2.2 _ m_427) dL_acts_965 ?_
                          refine lv_icmp_ne (tgt := 974) hx hb dL_acts_967 (by decide) (fun c967_112 => absurd (by decide) c967_112) (fun c967_112 => ?_)
                          refine lv_iconst (v := 1) hx hb dL_acts_970 (by decide) ?_
                          refine lv_goto (tgt := 975) hx hb dL_acts_971 (by decide) ?_
                          refine lv_istore (lv' := [(16, .int 1), (15, .int 0), (13, .int (nI 1)), (11, .int (nI pe)), (10, .int (nI i)), (9, .int (nI kd)), (0, .ref (o 0)), (1, .ref (t 0)), (2, .ref (a 0)), (3, .ref (a 1)), (4, .ref (a 2)), (5, .ref (a 3)), (6, .ref (a 4)), (7, .int x), (8, .int y), (12, .int (nI k)), (14, .int (nI q))]) hx hb dL_acts_975 hl (by decide) rfl (fun ls hl => ?_)
                          refine lv_iload hx hb dL_acts_977 (lv_at hl 0 rfl) ?_
                          refine lv_if_eq (tgt := 1019) hx hb dL_acts_979 (by decide) (fun c979_113 => absurd c979_113 (by decide)) (fun c979_113 => ?_)
                          refine lv_aload_n hx hb dL_acts_982 rfl (lv_at hl 6 rfl) ?_
                          refine lv_iload hx hb dL_acts_983 (lv_at hl 15 rfl) ?_
                          refine lv_iload hx hb dL_acts_985 (lv_at hl 3 rfl) ?_
                          refine lv_iload hx hb dL_acts_987 (lv_at hl 4 rfl) ?_
                          refine lv_ldc (v := 100001) hx hb S.2.2.2.1 (S.2.2.2.2 _ m_584) dL_acts_989 ?_
                          refine q_wx (rx_SX S ⟨m_546, m_547, m_22, m_548⟩ ⟨rfl, by decide, by decide, by decide +kernel⟩ (kL_count l G o σ1 nm ns (nI k) (nI pe) (nI i) 100001 hst hI1.1.hns hns4 hI1.1.hnm hnm2 (AO o) hJ.dO) ⟨rfl, rfl, Nat.le_of_ble_eq_true rfl, Nat.le_of_ble_eq_true rfl⟩ (ps bl_PXZ (bXZ (hWq111.xo hK) ((hZ0.at hSq111 (fun _ h => h)).zs))) (n := 5) (As := [.ref (o 0), .int (nI k), .int (nI pe), .int (nI i), .int 100001]) (rest := []) rfl hl.1 rfl (Nat.le_of_ble_eq_true rfl) ⟨Nat.le_of_ble_eq_true rfl, Nat.le_of_ble_eq_true rfl⟩ dL_acts_991) hSq111 (fun _ h => h.inO) (fun rq114 Hq114 Lq114 eq114 gq114 fq114 hSq114 => ?_)
                          subst eq114
                          rw [show (if eX_count σ1 (nI k) (nI pe) (nI i) 100001 = 0 then (adS σ1 (lnN (nI k) (nI i)) (nI pe) 100001) else σ1) = σ1 from if_neg (ne0 (k := 1) (eC_2 hI1.1.hns hns4 hk hi hpe))] at gq114
                          have hWq114 := hWq111.wo hJ gq114 fq114
                          refine k_eq (y := (-1000002)) (hcV_2 (eC_2 hI1.1.hns hns4 hk hi hpe)) ?_
                          refine lv_ldc (v := (-1000002)) hx hb S.2.2.2.1 (S.2.2.2.2 _ m_394) dL_acts_994 ?_
                          refine lv_icmp_ne (tgt := 1019) hx hb dL_acts_996 (by decide) (fun c996_115 => absurd (by decide) c996_115) (fun c996_115 => ?_)
                          refine lv_aload_n hx hb dL_acts_999 rfl (lv_at hl 6 rfl) ?_
                          refine lv_iload hx hb dL_acts_1000 (lv_at hl 15 rfl) ?_
                          refine lv_bipush (v := 6) hx hb dL_acts_1002 (by decide) ?_
                          refine lv_iload hx hb dL_acts_1004 (lv_at hl 4 rfl) ?_
                          refine lv_iconst (v := (-1)) hx hb dL_acts_1006 (by decide) ?_
                          refine q_wx (rx_SX S ⟨m_546, m_547, m_22, m_548⟩ ⟨rfl, by decide, by decide, by decide +kernel⟩ (kL_count l G o σ1 nm ns (nI k) 6 (nI i) (-1) hst hI1.1.hns hns4 hI1.1.hnm hnm2 (AO o) hJ.dO) ⟨rfl, rfl, Nat.le_of_ble_eq_true rfl, Nat.le_of_ble_eq_true rfl⟩ (ps bl_PXZ (bXZ (hWq114.xo hK) ((hZ0.at hSq114 (fun _ h => h)).zs))) (n := 5) (As := [.ref (o 0), .int (nI k), .int 6, .int (nI i), .int (-1)]) (rest := []) rfl hl.1 rfl (Nat.le_of_ble_eq_true rfl) ⟨Nat.le_of_ble_eq_true rfl, Nat.le_of_ble_eq_true rfl⟩ dL_acts_1007) hSq114 (fun _ h => h.inO) (fun rq116 Hq116 Lq116 eq116 gq116 fq116 hSq116 => ?_)
                          subst eq116
                          rw [show (if eX_count σ1 (nI k) 6 (nI i) (-1) = 0 then (adS σ1 (lnN (nI k) (nI i)) 6 (-1)) else σ1) = σ1 from if_neg (ne0 (k := 0) (eC_6 hI1.1.hns hns4 hk))] at gq116
                          have hWq116 := hWq114.wo hJ gq116 fq116
                          refine k_eq (y := (-1000001)) (hcV_1 (eC_6 hI1.1.hns hns4 hk)) ?_
                          refine lv_ldc (v := (-1000001)) hx hb S.2.2.2.1 (S.2.2.2.2 _ m_294) dL_acts_1010 ?_
                          refine lv_icmp_ne (tgt := 1019) hx hb dL_acts_1012 (by decide) (fun c1012_117 => absurd (by decide) c1012_117) (fun c1012_117 => ?_)
                          refine lv_iconst (v := 1) hx hb dL_acts_1015 (by decide) ?_
                          refine lv_goto (tgt := 1020) hx hb dL_acts_1016 (by decide) ?_
                          refine W.widen (k := 70) (n := 420) (by first | omega | exact Nat.le_of_ble_eq_true rfl) (by first | omega | exact Nat.le_of_ble_eq_true rfl) ?_
                          exact W.zret (v := 1) (ty := .boolean) hx hb hr (by first | rfl | exact bI_nar _) (fun t9 ht hWz => ⟨⟨_, rfl, rfl⟩, by rw [ht]; exact ⟨σ1, su α 2 (5 * k + i) (σ1 13 (k * 5 + i)), hI1.ri, hWq116⟩, hSq116.F ht⟩) hSq116.2.2 dL_acts_1020
                        · skip
                          refine lv_aload_n hx hb dL_acts_730 rfl (lv_at hl 4 rfl) ?_
                          refine lv_iload hx hb dL_acts_731 (lv_at hl 13 rfl) ?_
                          refine lv_iload hx hb dL_acts_733 (lv_at hl 1 rfl) ?_
                          refine lv_iload hx hb dL_acts_735 (lv_at hl 2 rfl) ?_
                          refine lv_iload hx hb dL_acts_737 (lv_at hl 14 rfl) ?_
                          refine q_wx (rx_SX S ⟨m_546, m_547, m_22, m_548⟩ ⟨rfl, by decide, by decide, by decide +kernel⟩ (kL_count l G o σ nm ns (nI k) (nI pe) (nI i) (nI q) hst hns hns4 hnm hnm2 (AO o) hJ.dO) ⟨rfl, rfl, Nat.le_of_ble_eq_true rfl, Nat.le_of_ble_eq_true rfl⟩ (ps bl_PXZ (bXZ (hW.xo hK) ((hZ0.at hS (fun _ h => h)).zs))) (n := 5) (As := [.ref (o 0), .int (nI k), .int (nI pe), .int (nI i), .int (nI q)]) (rest := []) rfl hl.1 rfl (Nat.le_of_ble_eq_true rfl) ⟨Nat.le_of_ble_eq_true rfl, Nat.le_of_ble_eq_true rfl⟩ dL_acts_739) hS (fun _ h => h.inO) (fun rq118 Hq118 Lq118 eq118 gq118 fq118 hSq118 => ?_)
                          subst eq118
                          rw [show (if eX_count σ (nI k) (nI pe) (nI i) (nI q) = 0 then (adS σ (lnN (nI k) (nI i)) (nI pe) (nI q)) else σ) = σ1 from (if_pos (eC_0 hns hns4 hk hi hpe hq e9 g2 e)).trans ((ct_ix (by omega) hi).trans hσ1.symm)] at gq118
                          have hWq118 := hW.wo hJ gq118 fq118
                          refine k_eq (y := 1) (tV_cnt (eC_0 hns hns4 hk hi hpe hq e9 g2 e) (by omega) hi (by rw [← hσ1]; exact bI_ag1 w1 hq)) ?_
                          refine lv_istore (lv' := [(15, .int 1), (13, .int (nI 1)), (11, .int (nI pe)), (10, .int (nI i)), (9, .int (nI kd)), (0, .ref (o 0)), (1, .ref (t 0)), (2, .ref (a 0)), (3, .ref (a 1)), (4, .ref (a 2)), (5, .ref (a 3)), (6, .ref (a 4)), (7, .int x), (8, .int y), (12, .int (nI k)), (14, .int (nI q))]) hx hb dL_acts_742 hl (by decide) rfl (fun ls hl => ?_)
                          refine lv_aload_n hx hb dL_acts_744 rfl (lv_at hl 6 rfl) ?_
                          refine lv_iload hx hb dL_acts_745 (lv_at hl 14 rfl) ?_
                          refine lv_iload hx hb dL_acts_747 (lv_at hl 2 rfl) ?_
                          refine lv_iload hx hb dL_acts_749 (lv_at hl 3 rfl) ?_
                          refine lv_iload hx hb dL_acts_751 (lv_at hl 15 rfl) ?_
                          refine q_wx (rx_SX S ⟨m_546, m_547, m_22, m_548⟩ ⟨rfl, by decide, by decide, by decide +kernel⟩ (kL_count l G t σ nm ns (nI k) (nI pe) (nI i) (nI q) hst hns hns4 hnm hnm2 (AO t) hJ.dT) ⟨rfl, rfl, Nat.le_of_ble_eq_true rfl, Nat.le_of_ble_eq_true rfl⟩ (ps bl_PXZ (bXZ (hWq118.xt hK) ((hZ0.at hSq118 (fun _ h => h)).zs))) (n := 5) (As := [.ref (t 0), .int (nI k), .int (nI pe), .int (nI i), .int (nI q)]) (rest := []) rfl hl.1 rfl (Nat.le_of_ble_eq_true rfl) ⟨Nat.le_of_ble_eq_true rfl, Nat.le_of_ble_eq_true rfl⟩ dL_acts_753) hSq118 (fun _ h => h.inT) (fun rq119 Hq119 Lq119 eq119 gq119 fq119 hSq119 => ?_)
                          subst eq119
                          rw [show (if eX_count σ (nI k) (nI pe) (nI i) (nI q) = 0 then (adS σ (lnN (nI k) (nI i)) (nI pe) (nI q)) else σ) = σ1 from (if_pos (eC_0 hns hns4 hk hi hpe hq e9 g2 e)).trans ((ct_ix (by omega) hi).trans hσ1.symm)] at gq119
                          have hWq119 := hWq118.wt hJ gq119 fq119
                          refine k_eq (y := 1) (tV_cnt (eC_0 hns hns4 hk hi hpe hq e9 g2 e) (by omega) hi (by rw [← hσ1]; exact bI_ag1 w1 hq)) ?_
                          refine lv_iload hx hb dL_acts_756 (lv_at hl 0 rfl) ?_
                          refine lv_icmp_ne (tgt := 836) hx hb dL_acts_758 (by decide) (fun c758_120 => absurd (by decide) c758_120) (fun c758_120 => ?_)
                          refine lv_aload_n hx hb dL_acts_761 rfl (lv_at hl 5 rfl) ?_
                          refine lv_iload hx hb dL_acts_762 (lv_at hl 14 rfl) ?_
                          refine q_wx (rx_SX S ⟨m_462, m_463, m_22, m_464⟩ ⟨rfl, by decide, by decide, by decide +kernel⟩ (kL_stateOf l G o σ1 nm ns (nI k) hst hI1.1.hns hns4 hI1.1.hnm hnm2) ⟨rfl, rfl, Nat.le_of_ble_eq_true rfl, Nat.le_of_ble_eq_true rfl⟩ (ps bl_PXZ (bXZ (hWq119.xo hK) ((hZ0.at hSq119 (fun _ h => h)).zs))) (n := 2) (As := [.ref (o 0), .int (nI k)]) (rest := []) rfl hl.1 rfl (Nat.le_of_ble_eq_true rfl) ⟨Nat.le_of_ble_eq_true rfl, Nat.le_of_ble_eq_true rfl⟩ dL_acts_764) hSq119 (fun _ h => h.elim) (fun rq121 Hq121 Lq121 eq121 gq121 fq121 hSq121 => ?_)
                          subst eq121
                          have hWq121 := hWq119.rd fq121
                          refine k_eq (y := 0) (tV_st0 hI1.1.hns hns4 hk o9) ?_
                          refine lv_iconst (v := 1) hx hb dL_acts_767 (by decide) ?_
                          refine lv_icmp_eq (tgt := 784) hx hb dL_acts_768 (by decide) (fun c768_122 => absurd c768_122 (by decide)) (fun c768_122 => ?_)
                          refine lv_aload hx hb dL_acts_771 (lv_at hl 9 rfl) ?_
                          refine lv_iconst (v := 5) hx hb dL_acts_773 (by decide) ?_
                          refine lv_iload hx hb dL_acts_774 (lv_at hl 14 rfl) ?_
                          refine lv_imul hx hb dL_acts_776 ?_
                          refine k_eq (y := nI (5 * k)) (pk_mul 5 k) ?_
                          refine lv_iload hx hb dL_acts_777 (lv_at hl 3 rfl) ?_
                          refine lv_iadd hx hb dL_acts_779 ?_
                          refine k_eq (y := nI (5 * k + i)) (nI_add (5 * k) i) ?_
                          refine k_ldQ S hK hWq121 2 (by decide) (i := (5 * k + i)) (show (5 * k + i) < 60 by omega) dL_acts_780 ?_
                          refine k_eq (y := σ 13 (k * 5 + i)) ((by rw [hA.ac (5 * k + i) (by omega), Nat.mul_comm 5 k])) ?_
                          refine lv_if_lt (tgt := 794) hx hb dL_acts_781 (by decide) (fun c781_123 => ?_) (fun c781_123 => absurd (by rw [g1]; decide) c781_123)
                          refine lv_iload hx hb dL_acts_794 (lv_at hl 0 rfl) ?_
                          refine lv_ldc (v := (-1000003)) hx hb S.2.2.2.1 (S.2.2.2.2 _ m_427) dL_acts_796 ?_
                          refine lv_icmp_ne (tgt := 806) hx hb dL_acts_798 (by decide) (fun c798_124 => ?_) (fun c798_124 => absurd c798_124 (by decide))
                          refine lv_iload hx hb dL_acts_806 (lv_at hl 0 rfl) ?_
                          refine lv_if_eq (tgt := 817) hx hb dL_acts_808 (by decide) (fun c808_125 => absurd c808_125 (by decide)) (fun c808_125 => ?_)
                          refine lv_iload hx hb dL_acts_811 (lv_at hl 0 rfl) ?_
                          refine lv_iconst (v := 1) hx hb dL_acts_813 (by decide) ?_
                          refine lv_icmp_ne (tgt := 836) hx hb dL_acts_814 (by decide) (fun c814_126 => absurd (by decide) c814_126) (fun c814_126 => ?_)
                          refine lv_aload_n hx hb dL_acts_817 rfl (lv_at hl 5 rfl) ?_
                          refine lv_iload hx hb dL_acts_818 (lv_at hl 14 rfl) ?_
                          refine lv_iload hx hb dL_acts_820 (lv_at hl 3 rfl) ?_
                          refine q_wx (rx_SX S ⟨m_319, m_320, m_22, m_321⟩ ⟨rfl, by decide, by decide, by decide +kernel⟩ (kL_counts l G o σ1 nm ns (nI k) (nI i) hst hI1.1.hns hns4 hI1.1.hnm hnm2) ⟨rfl, rfl, Nat.le_of_ble_eq_true rfl, Nat.le_of_ble_eq_true rfl⟩ (ps bl_PXZ (bXZ (hWq121.xo hK) ((hZ0.at hSq121 (fun _ h => h)).zs))) (n := 3) (As := [.ref (o 0), .int (nI k), .int (nI i)]) (rest := []) rfl hl.1 rfl (Nat.le_of_ble_eq_true rfl) ⟨Nat.le_of_ble_eq_true rfl, Nat.le_of_ble_eq_true rfl⟩ dL_acts_822) hSq121 (fun _ h => h.elim) (fun rq127 Hq127 Lq127 eq127 gq127 fq127 hSq127 => ?_)
                          subst eq127
                          have hWq127 := hWq121.rd fq127
                          refine k_eq (y := nI (1 + 1)) ((tV_line hI1.1.hns hns4 hk hi (fun z => bc (σ1 10 z))).trans hd3) ?_
                          refine lv_iload hx hb dL_acts_825 (lv_at hl 1 rfl) ?_
                          refine lv_iconst (v := 1) hx hb dL_acts_827 (by decide) ?_
                          refine lv_iadd hx hb dL_acts_828 ?_
                          refine k_eq (y := nI (1 + 1)) (nI_1 1) ?_
                          refine lv_icmp_ne (tgt := 836) hx hb dL_acts_829 (by decide) (fun c829_128 => absurd rfl c829_128) (fun c829_128 => ?_)
                          refine lv_iconst (v := 1) hx hb dL_acts_832 (by decide) ?_
                          refine lv_goto (tgt := 837) hx hb dL_acts_833 (by decide) ?_
                          refine lv_istore (lv' := [(16, .int 1), (15, .int 1), (13, .int (nI 1)), (11, .int (nI pe)), (10, .int (nI i)), (9, .int (nI kd)), (0, .ref (o 0)), (1, .ref (t 0)), (2, .ref (a 0)), (3, .ref (a 1)), (4, .ref (a 2)), (5, .ref (a 3)), (6, .ref (a 4)), (7, .int x), (8, .int y), (12, .int (nI k)), (14, .int (nI q))]) hx hb dL_acts_837 hl (by decide) rfl (fun ls hl => ?_)
                          refine lv_iload hx hb dL_acts_839 (lv_at hl 0 rfl) ?_
                          refine lv_if_eq (tgt := 878) hx hb dL_acts_841 (by decide) (fun c841_129 => absurd c841_129 (by decide)) (fun c841_129 => ?_)
                          refine lv_iload hx hb dL_acts_844 (lv_at hl 1 rfl) ?_
                          refine lv_if_lt (tgt := 874) hx hb dL_acts_846 (by decide) (fun c846_130 => absurd c846_130 (by decide)) (fun c846_130 => ?_)
                          refine lv_iload hx hb dL_acts_849 (lv_at hl 2 rfl) ?_
                          refine lv_if_ne (tgt := 862) hx hb dL_acts_851 (by decide) (fun c851_131 => ?_) (fun c851_131 => absurd c851_131 (by decide))
                          refine lv_iload hx hb dL_acts_862 (lv_at hl 2 rfl) ?_
                          refine lv_iconst (v := 1) hx hb dL_acts_864 (by decide) ?_
                          refine lv_icmp_eq (tgt := 874) hx hb dL_acts_865 (by decide) (fun c865_132 => ?_) (fun c865_132 => absurd (by decide) c865_132)
                          refine lv_iconst (v := 1) hx hb dL_acts_874 (by decide) ?_
                          refine lv_goto (tgt := 879) hx hb dL_acts_875 (by decide) ?_
                          refine lv_istore (lv' := [(16, .int 1), (15, .int 1), (13, .int (nI 1)), (11, .int (nI pe)), (10, .int (nI i)), (9, .int (nI kd)), (0, .ref (o 0)), (1, .ref (t 0)), (2, .ref (a 0)), (3, .ref (a 1)), (4, .ref (a 2)), (5, .ref (a 3)), (6, .ref (a 4)), (7, .int x), (8, .int y), (12, .int (nI k)), (14, .int (nI q))]) hx hb dL_acts_879 hl (by decide) rfl (fun ls hl => ?_)
                          refine lv_aload hx hb dL_acts_881 (lv_at hl 10 rfl) ?_
                          refine lv_iconst (v := 5) hx hb dL_acts_883 (by decide) ?_
                          refine lv_iload hx hb dL_acts_884 (lv_at hl 15 rfl) ?_
                          refine lv_imul hx hb dL_acts_886 ?_
                          refine k_eq (y := nI (5 * k)) (pk_mul 5 k) ?_
                          refine lv_iload hx hb dL_acts_887 (lv_at hl 4 rfl) ?_
                          refine lv_iadd hx hb dL_acts_889 ?_
                          refine k_eq (y := nI (5 * k + i)) (nI_add (5 * k) i) ?_
                          refine lv_iload hx hb dL_acts_890 (lv_at hl 1 rfl) ?_
                          refine lv_iconst (v := 1) hx hb dL_acts_892 (by decide) ?_
                          refine lv_icmp_ne (tgt := 907) hx hb dL_acts_893 (by decide) (fun c893_133 => absurd (by decide) c893_133) (fun c893_133 => ?_)
                          refine lv_aload_n hx hb dL_acts_896 rfl (lv_at hl 6 rfl) ?_
                          refine lv_iload hx hb dL_acts_897 (lv_at hl 15 rfl) ?_
                          refine lv_iload hx hb dL_acts_899 (lv_at hl 4 rfl) ?_
                          refine q_wx (rx_SX S ⟨m_210, m_211, m_22, m_212⟩ ⟨rfl, by decide, by decide, by decide +kernel⟩ (kL_agreed l G o σ1 nm ns (nI k) (nI i) hst hI1.1.hns hns4 hI1.1.hnm hnm2) ⟨rfl, rfl, Nat.le_of_ble_eq_true rfl, Nat.le_of_ble_eq_true rfl⟩ (ps bl_PXZ (bXZ (hWq127.xo hK) ((hZ0.at hSq127 (fun _ h => h)).zs))) (n := 3) (As := [.ref (o 0), .int (nI k), .int (nI i)]) (rest := [.int (nI (5 * k + i)), .ref (a 2)]) rfl hl.1 rfl (Nat.le_of_ble_eq_true rfl) ⟨Nat.le_of_ble_eq_true rfl, Nat.le_of_ble_eq_true rfl⟩ dL_acts_901) hSq127 (fun _ h => h.elim) (fun rq134 Hq134 Lq134 eq134 gq134 fq134 hSq134 => ?_)
                          subst eq134
                          have hWq134 := hWq127.rd fq134
                          refine k_eq (y := σ1 13 (k * 5 + i)) (tV_line hI1.1.hns hns4 hk hi (fun z => σ1 13 z)) ?_
                          refine lv_goto (tgt := 917) hx hb dL_acts_904 (by decide) ?_
                          refine k_stQ S hK hJ hWq134 hSq134 (fun _ h => h) 2 (by decide) (i := (5 * k + i)) (show (5 * k + i) < 60 by omega) dL_acts_917 (fun Hq135 Lq135 hWq135 hSq135 => ?_)
                          refine lv_iload hx hb dL_acts_918 (lv_at hl 0 rfl) ?_
                          refine lv_if_eq (tgt := 974) hx hb dL_acts_920 (by decide) (fun c920_136 => absurd c920_136 (by decide)) (fun c920_136 => ?_)
                          refine lv_iload hx hb dL_acts_923 (lv_at hl 1 rfl) ?_
                          refine lv_iconst (v := 1) hx hb dL_acts_925 (by decide) ?_
                          refine lv_icmp_ne (tgt := 948) hx hb dL_acts_926 (by decide) (fun c926_137 => absurd (by decide) c926_137) (fun c926_137 => ?_)
                          refine lv_iload hx hb dL_acts_929 (lv_at hl 2 rfl) ?_
                          refine lv_iconst (v := 2) hx hb dL_acts_931 (by decide) ?_
                          refine lv_icmp_eq (tgt := 948) hx hb dL_acts_932 (by decide) (fun c932_138 => absurd c932_138 (by decide)) (fun c932_138 => ?_)
                          refine lv_aload_n hx hb dL_acts_935 rfl (lv_at hl 6 rfl) ?_
                          refine lv_iload hx hb dL_acts_936 (lv_at hl 15 rfl) ?_
                          refine lv_iload hx hb dL_acts_938 (lv_at hl 4 rfl) ?_
                          refine q_wx (rx_SX S ⟨m_210, m_211, m_22, m_212⟩ ⟨rfl, by decide, by decide, by decide +kernel⟩ (kL_agreed l G o σ1 nm ns (nI k) (nI i) hst hI1.1.hns hns4 hI1.1.hnm hnm2) ⟨rfl, rfl, Nat.le_of_ble_eq_true rfl, Nat.le_of_ble_eq_true rfl⟩ (ps bl_PXZ (bXZ (hWq135.xo hK) ((hZ0.at hSq135 (fun _ h => h)).zs))) (n := 3) (As := [.ref (o 0), .int (nI k), .int (nI i)]) (rest := []) rfl hl.1 rfl (Nat.le_of_ble_eq_true rfl) ⟨Nat.le_of_ble_eq_true rfl, Nat.le_of_ble_eq_true rfl⟩ dL_acts_940) hSq135 (fun _ h => h.elim) (fun rq139 Hq139 Lq139 eq139 gq139 fq139 hSq139 => ?_)
                          subst eq139
                          have hWq139 := hWq135.rd fq139
                          refine k_eq (y := nI q) ((tV_line hI1.1.hns hns4 hk hi (fun z => σ1 13 z)).trans w1) ?_
                          refine lv_iload hx hb dL_acts_943 (lv_at hl 16 rfl) ?_
                          refine lv_icmp_ne (tgt := 974) hx hb dL_acts_945 (by decide) (fun c945_140 => absurd rfl c945_140) (fun c945_140 => ?_)
                          refine lv_iload hx hb dL_acts_948 (lv_at hl 1 rfl) ?_
                          refine lv_if_lt (tgt := 970) hx hb dL_acts_950 (by decide) (fun c950_141 => absurd c950_141 (by decide)) (fun c950_141 => ?_)
                          refine lv_aload_n hx hb dL_acts_953 rfl (lv_at hl 6 rfl) ?_
                          refine lv_iload hx hb dL_acts_954 (lv_at hl 15 rfl) ?_
                          refine lv_iload hx hb dL_acts_956 (lv_at hl 3 rfl) ?_
                          refine lv_iload hx hb dL_acts_958 (lv_at hl 4 rfl) ?_
                          refine lv_iload hx hb dL_acts_960 (lv_at hl 16 rfl) ?_
                          refine q_wx (rx_SX S ⟨m_546, m_547, m_22, m_548⟩ ⟨rfl, by decide, by decide, by decide +kernel⟩ (kL_count l G o σ1 nm ns (nI k) (nI pe) (nI i) (nI q) hst hI1.1.hns hns4 hI1.1.hnm hnm2 (AO o) hJ.dO) ⟨rfl, rfl, Nat.le_of_ble_eq_true rfl, Nat.le_of_ble_eq_true rfl⟩ (ps bl_PXZ (bXZ (hWq139.xo hK) ((hZ0.at hSq139 (fun _ h => h)).zs))) (n := 5) (As := [.ref (o 0), .int (nI k), .int (nI pe), .int (nI i), .int (nI q)]) (rest := []) rfl hl.1 rfl (Nat.le_of_ble_eq_true rfl) ⟨Nat.le_of_ble_eq_true rfl, Nat.le_of_ble_eq_true rfl⟩ dL_acts_962) hSq139 (fun _ h => h.inO) (fun rq142 Hq142 Lq142 eq142 gq142 fq142 hSq142 => ?_)
                          subst eq142
                          rw [show (if eX_count σ1 (nI k) (nI pe) (nI i) (nI q) = 0 then (adS σ1 (lnN (nI k) (nI i)) (nI pe) (nI q)) else σ1) = σ1 from if_neg (ne0 (k := 2) (eC_c hI1.1.hns hns4 hk hi hpe hq o9 hd5))] at gq142
                          have hWq142 := hWq139.wo hJ gq142 fq142
                          refine k_eq (y := (-1000003)) (hcV_3 (eC_c hI1.1.hns hns4 hk hi hpe hq o9 hd5)) ?_
                          refine lv_ldc (v := (-1000003)) hx hb S.2.2.2.1 (S.2.2.2.2 _ m_427) dL_acts_965 ?_
                          refine lv_icmp_ne (tgt := 974) hx hb dL_acts_967 (by decide) (fun c967_143 => absurd (by decide) c967_143) (fun c967_143 => ?_)
                          refine lv_iconst (v := 1) hx hb dL_acts_970 (by decide) ?_
                          refine lv_goto (tgt := 975) hx hb dL_acts_971 (by decide) ?_
                          refine lv_istore (lv' := [(16, .int 1), (15, .int 1), (13, .int (nI 1)), (11, .int (nI pe)), (10, .int (nI i)), (9, .int (nI kd)), (0, .ref (o 0)), (1, .ref (t 0)), (2, .ref (a 0)), (3, .ref (a 1)), (4, .ref (a 2)), (5, .ref (a 3)), (6, .ref (a 4)), (7, .int x), (8, .int y), (12, .int (nI k)), (14, .int (nI q))]) hx hb dL_acts_975 hl (by decide) rfl (fun ls hl => ?_)
                          refine lv_iload hx hb dL_acts_977 (lv_at hl 0 rfl) ?_
                          refine lv_if_eq (tgt := 1019) hx hb dL_acts_979 (by decide) (fun c979_144 => absurd c979_144 (by decide)) (fun c979_144 => ?_)
                          refine lv_aload_n hx hb dL_acts_982 rfl (lv_at hl 6 rfl) ?_
                          refine lv_iload hx hb dL_acts_983 (lv_at hl 15 rfl) ?_
                          refine lv_iload hx hb dL_acts_985 (lv_at hl 3 rfl) ?_
                          refine lv_iload hx hb dL_acts_987 (lv_at hl 4 rfl) ?_
                          refine lv_ldc (v := 100001) hx hb S.2.2.2.1 (S.2.2.2.2 _ m_584) dL_acts_989 ?_
                          refine q_wx (rx_SX S ⟨m_546, m_547, m_22, m_548⟩ ⟨rfl, by decide, by decide, by decide +kernel⟩ (kL_count l G o σ1 nm ns (nI k) (nI pe) (nI i) 100001 hst hI1.1.hns hns4 hI1.1.hnm hnm2 (AO o) hJ.dO) ⟨rfl, rfl, Nat.le_of_ble_eq_true rfl, Nat.le_of_ble_eq_true rfl⟩ (ps bl_PXZ (bXZ (hWq142.xo hK) ((hZ0.at hSq142 (fun _ h => h)).zs))) (n := 5) (As := [.ref (o 0), .int (nI k), .int (nI pe), .int (nI i), .int 100001]) (rest := []) rfl hl.1 rfl (Nat.le_of_ble_eq_true rfl) ⟨Nat.le_of_ble_eq_true rfl, Nat.le_of_ble_eq_true rfl⟩ dL_acts_991) hSq142 (fun _ h => h.inO) (fun rq145 Hq145 Lq145 eq145 gq145 fq145 hSq145 => ?_)
                          subst eq145
                          rw [show (if eX_count σ1 (nI k) (nI pe) (nI i) 100001 = 0 then (adS σ1 (lnN (nI k) (nI i)) (nI pe) 100001) else σ1) = σ1 from if_neg (ne0 (k := 1) (eC_2 hI1.1.hns hns4 hk hi hpe))] at gq145
                          have hWq145 := hWq142.wo hJ gq145 fq145
                          refine k_eq (y := (-1000002)) (hcV_2 (eC_2 hI1.1.hns hns4 hk hi hpe)) ?_
                          refine lv_ldc (v := (-1000002)) hx hb S.2.2.2.1 (S.2.2.2.2 _ m_394) dL_acts_994 ?_
                          refine lv_icmp_ne (tgt := 1019) hx hb dL_acts_996 (by decide) (fun c996_146 => absurd (by decide) c996_146) (fun c996_146 => ?_)
                          refine lv_aload_n hx hb dL_acts_999 rfl (lv_at hl 6 rfl) ?_
                          refine lv_iload hx hb dL_acts_1000 (lv_at hl 15 rfl) ?_
                          refine lv_bipush (v := 6) hx hb dL_acts_1002 (by decide) ?_
                          refine lv_iload hx hb dL_acts_1004 (lv_at hl 4 rfl) ?_
                          refine lv_iconst (v := (-1)) hx hb dL_acts_1006 (by decide) ?_
                          refine q_wx (rx_SX S ⟨m_546, m_547, m_22, m_548⟩ ⟨rfl, by decide, by decide, by decide +kernel⟩ (kL_count l G o σ1 nm ns (nI k) 6 (nI i) (-1) hst hI1.1.hns hns4 hI1.1.hnm hnm2 (AO o) hJ.dO) ⟨rfl, rfl, Nat.le_of_ble_eq_true rfl, Nat.le_of_ble_eq_true rfl⟩ (ps bl_PXZ (bXZ (hWq145.xo hK) ((hZ0.at hSq145 (fun _ h => h)).zs))) (n := 5) (As := [.ref (o 0), .int (nI k), .int 6, .int (nI i), .int (-1)]) (rest := []) rfl hl.1 rfl (Nat.le_of_ble_eq_true rfl) ⟨Nat.le_of_ble_eq_true rfl, Nat.le_of_ble_eq_true rfl⟩ dL_acts_1007) hSq145 (fun _ h => h.inO) (fun rq147 Hq147 Lq147 eq147 gq147 fq147 hSq147 => ?_)
                          subst eq147
                          rw [show (if eX_count σ1 (nI k) 6 (nI i) (-1) = 0 then (adS σ1 (lnN (nI k) (nI i)) 6 (-1)) else σ1) = σ1 from if_neg (ne0 (k := 0) (eC_6 hI1.1.hns hns4 hk))] at gq147
                          have hWq147 := hWq145.wo hJ gq147 fq147
                          refine k_eq (y := (-1000001)) (hcV_1 (eC_6 hI1.1.hns hns4 hk)) ?_
                          refine lv_ldc (v := (-1000001)) hx hb S.2.2.2.1 (S.2.2.2.2 _ m_294) dL_acts_1010 ?_
                          refine lv_icmp_ne (tgt := 1019) hx hb dL_acts_1012 (by decide) (fun c1012_148 => absurd (by decide) c1012_148) (fun c1012_148 => ?_)
                          refine lv_iconst (v := 1) hx hb dL_acts_1015 (by decide) ?_
                          refine lv_goto (tgt := 1020) hx hb dL_acts_1016 (by decide) ?_
                          refine W.widen (k := 70) (n := 420) (by first | omega | exact Nat.le_of_ble_eq_true rfl) (by first | omega | exact Nat.le_of_ble_eq_true rfl) ?_
                          exact W.zret (v := 1) (ty := .boolean) hx hb hr (by first | rfl | exact bI_nar _) (fun t9 ht hWz => ⟨⟨_, rfl, rfl⟩, by rw [ht]; exact ⟨σ1, su α 2 (5 * k + i) (σ1 13 (k * 5 + i)), hI1.ri, hWq147⟩, hSq147.F ht⟩) hSq147.2.2 dL_acts_1020
                        · skip
                          refine lv_aload_n hx hb dL_acts_730 rfl (lv_at hl 4 rfl) ?_
                          refine lv_iload hx hb dL_acts_731 (lv_at hl 13 rfl) ?_
                          refine lv_iload hx hb dL_acts_733 (lv_at hl 1 rfl) ?_
                          refine lv_iload hx hb dL_acts_735 (lv_at hl 2 rfl) ?_
                          refine lv_iload hx hb dL_acts_737 (lv_at hl 14 rfl) ?_
                          refine q_wx (rx_SX S ⟨m_546, m_547, m_22, m_548⟩ ⟨rfl, by decide, by decide, by decide +kernel⟩ (kL_count l G o σ nm ns (nI k) (nI pe) (nI i) (nI q) hst hns hns4 hnm hnm2 (AO o) hJ.dO) ⟨rfl, rfl, Nat.le_of_ble_eq_true rfl, Nat.le_of_ble_eq_true rfl⟩ (ps bl_PXZ (bXZ (hW.xo hK) ((hZ0.at hS (fun _ h => h)).zs))) (n := 5) (As := [.ref (o 0), .int (nI k), .int (nI pe), .int (nI i), .int (nI q)]) (rest := []) rfl hl.1 rfl (Nat.le_of_ble_eq_true rfl) ⟨Nat.le_of_ble_eq_true rfl, Nat.le_of_ble_eq_true rfl⟩ dL_acts_739) hS (fun _ h => h.inO) (fun rq149 Hq149 Lq149 eq149 gq149 fq149 hSq149 => ?_)
                          subst eq149
                          rw [show (if eX_count σ (nI k) (nI pe) (nI i) (nI q) = 0 then (adS σ (lnN (nI k) (nI i)) (nI pe) (nI q)) else σ) = σ1 from (if_pos (eC_0 hns hns4 hk hi hpe hq e9 g2 e)).trans ((ct_ix (by omega) hi).trans hσ1.symm)] at gq149
                          have hWq149 := hW.wo hJ gq149 fq149
                          refine k_eq (y := 1) (tV_cnt (eC_0 hns hns4 hk hi hpe hq e9 g2 e) (by omega) hi (by rw [← hσ1]; exact bI_ag1 w1 hw)) ?_
                          refine lv_istore (lv' := [(15, .int 1), (13, .int (nI 2)), (11, .int (nI pe)), (10, .int (nI i)), (9, .int (nI kd)), (0, .ref (o 0)), (1, .ref (t 0)), (2, .ref (a 0)), (3, .ref (a 1)), (4, .ref (a 2)), (5, .ref (a 3)), (6, .ref (a 4)), (7, .int x), (8, .int y), (12, .int (nI k)), (14, .int (nI q))]) hx hb dL_acts_742 hl (by decide) rfl (fun ls hl => ?_)
                          refine lv_aload_n hx hb dL_acts_744 rfl (lv_at hl 6 rfl) ?_
                          refine lv_iload hx hb dL_acts_745 (lv_at hl 14 rfl) ?_
                          refine lv_iload hx hb dL_acts_747 (lv_at hl 2 rfl) ?_
                          refine lv_iload hx hb dL_acts_749 (lv_at hl 3 rfl) ?_
                          refine lv_iload hx hb dL_acts_751 (lv_at hl 15 rfl) ?_
                          refine q_wx (rx_SX S ⟨m_546, m_547, m_22, m_548⟩ ⟨rfl, by decide, by decide, by decide +kernel⟩ (kL_count l G t σ nm ns (nI k) (nI pe) (nI i) (nI q) hst hns hns4 hnm hnm2 (AO t) hJ.dT) ⟨rfl, rfl, Nat.le_of_ble_eq_true rfl, Nat.le_of_ble_eq_true rfl⟩ (ps bl_PXZ (bXZ (hWq149.xt hK) ((hZ0.at hSq149 (fun _ h => h)).zs))) (n := 5) (As := [.ref (t 0), .int (nI k), .int (nI pe), .int (nI i), .int (nI q)]) (rest := []) rfl hl.1 rfl (Nat.le_of_ble_eq_true rfl) ⟨Nat.le_of_ble_eq_true rfl, Nat.le_of_ble_eq_true rfl⟩ dL_acts_753) hSq149 (fun _ h => h.inT) (fun rq150 Hq150 Lq150 eq150 gq150 fq150 hSq150 => ?_)
                          subst eq150
                          rw [show (if eX_count σ (nI k) (nI pe) (nI i) (nI q) = 0 then (adS σ (lnN (nI k) (nI i)) (nI pe) (nI q)) else σ) = σ1 from (if_pos (eC_0 hns hns4 hk hi hpe hq e9 g2 e)).trans ((ct_ix (by omega) hi).trans hσ1.symm)] at gq150
                          have hWq150 := hWq149.wt hJ gq150 fq150
                          refine k_eq (y := 1) (tV_cnt (eC_0 hns hns4 hk hi hpe hq e9 g2 e) (by omega) hi (by rw [← hσ1]; exact bI_ag1 w1 hw)) ?_
                          refine lv_iload hx hb dL_acts_756 (lv_at hl 0 rfl) ?_
                          refine lv_icmp_ne (tgt := 836) hx hb dL_acts_758 (by decide) (fun c758_151 => absurd (by decide) c758_151) (fun c758_151 => ?_)
                          refine lv_aload_n hx hb dL_acts_761 rfl (lv_at hl 5 rfl) ?_
                          refine lv_iload hx hb dL_acts_762 (lv_at hl 14 rfl) ?_
                          refine q_wx (rx_SX S ⟨m_462, m_463, m_22, m_464⟩ ⟨rfl, by decide, by decide, by decide +kernel⟩ (kL_stateOf l G o σ1 nm ns (nI k) hst hI1.1.hns hns4 hI1.1.hnm hnm2) ⟨rfl, rfl, Nat.le_of_ble_eq_true rfl, Nat.le_of_ble_eq_true rfl⟩ (ps bl_PXZ (bXZ (hWq150.xo hK) ((hZ0.at hSq150 (fun _ h => h)).zs))) (n := 2) (As := [.ref (o 0), .int (nI k)]) (rest := []) rfl hl.1 rfl (Nat.le_of_ble_eq_true rfl) ⟨Nat.le_of_ble_eq_true rfl, Nat.le_of_ble_eq_true rfl⟩ dL_acts_764) hSq150 (fun _ h => h.elim) (fun rq152 Hq152 Lq152 eq152 gq152 fq152 hSq152 => ?_)
                          subst eq152
                          have hWq152 := hWq150.rd fq152
                          refine k_eq (y := 0) (tV_st0 hI1.1.hns hns4 hk o9) ?_
                          refine lv_iconst (v := 1) hx hb dL_acts_767 (by decide) ?_
                          refine lv_icmp_eq (tgt := 784) hx hb dL_acts_768 (by decide) (fun c768_153 => absurd c768_153 (by decide)) (fun c768_153 => ?_)
                          refine lv_aload hx hb dL_acts_771 (lv_at hl 9 rfl) ?_
                          refine lv_iconst (v := 5) hx hb dL_acts_773 (by decide) ?_
                          refine lv_iload hx hb dL_acts_774 (lv_at hl 14 rfl) ?_
                          refine lv_imul hx hb dL_acts_776 ?_
                          refine k_eq (y := nI (5 * k)) (pk_mul 5 k) ?_
                          refine lv_iload hx hb dL_acts_777 (lv_at hl 3 rfl) ?_
                          refine lv_iadd hx hb dL_acts_779 ?_
                          refine k_eq (y := nI (5 * k + i)) (nI_add (5 * k) i) ?_
                          refine k_ldQ S hK hWq152 2 (by decide) (i := (5 * k + i)) (show (5 * k + i) < 60 by omega) dL_acts_780 ?_
                          refine k_eq (y := σ 13 (k * 5 + i)) ((by rw [hA.ac (5 * k + i) (by omega), Nat.mul_comm 5 k])) ?_
                          refine lv_if_lt (tgt := 794) hx hb dL_acts_781 (by decide) (fun c781_154 => ?_) (fun c781_154 => absurd (by rw [g1]; decide) c781_154)
                          refine lv_iload hx hb dL_acts_794 (lv_at hl 0 rfl) ?_
                          refine lv_ldc (v := (-1000003)) hx hb S.2.2.2.1 (S.2.2.2.2 _ m_427) dL_acts_796 ?_
                          refine lv_icmp_ne (tgt := 806) hx hb dL_acts_798 (by decide) (fun c798_155 => ?_) (fun c798_155 => absurd c798_155 (by decide))
                          refine lv_iload hx hb dL_acts_806 (lv_at hl 0 rfl) ?_
                          refine lv_if_eq (tgt := 817) hx hb dL_acts_808 (by decide) (fun c808_156 => absurd c808_156 (by decide)) (fun c808_156 => ?_)
                          refine lv_iload hx hb dL_acts_811 (lv_at hl 0 rfl) ?_
                          refine lv_iconst (v := 1) hx hb dL_acts_813 (by decide) ?_
                          refine lv_icmp_ne (tgt := 836) hx hb dL_acts_814 (by decide) (fun c814_157 => absurd (by decide) c814_157) (fun c814_157 => ?_)
                          refine lv_aload_n hx hb dL_acts_817 rfl (lv_at hl 5 rfl) ?_
                          refine lv_iload hx hb dL_acts_818 (lv_at hl 14 rfl) ?_
                          refine lv_iload hx hb dL_acts_820 (lv_at hl 3 rfl) ?_
                          refine q_wx (rx_SX S ⟨m_319, m_320, m_22, m_321⟩ ⟨rfl, by decide, by decide, by decide +kernel⟩ (kL_counts l G o σ1 nm ns (nI k) (nI i) hst hI1.1.hns hns4 hI1.1.hnm hnm2) ⟨rfl, rfl, Nat.le_of_ble_eq_true rfl, Nat.le_of_ble_eq_true rfl⟩ (ps bl_PXZ (bXZ (hWq152.xo hK) ((hZ0.at hSq152 (fun _ h => h)).zs))) (n := 3) (As := [.ref (o 0), .int (nI k), .int (nI i)]) (rest := []) rfl hl.1 rfl (Nat.le_of_ble_eq_true rfl) ⟨Nat.le_of_ble_eq_true rfl, Nat.le_of_ble_eq_true rfl⟩ dL_acts_822) hSq152 (fun _ h => h.elim) (fun rq158 Hq158 Lq158 eq158 gq158 fq158 hSq158 => ?_)
                          subst eq158
                          have hWq158 := hWq152.rd fq158
                          refine k_eq (y := nI (2 + 1)) ((tV_line hI1.1.hns hns4 hk hi (fun z => bc (σ1 10 z))).trans hd3) ?_
                          refine lv_iload hx hb dL_acts_825 (lv_at hl 1 rfl) ?_
                          refine lv_iconst (v := 1) hx hb dL_acts_827 (by decide) ?_
                          refine lv_iadd hx hb dL_acts_828 ?_
                          refine k_eq (y := nI (2 + 1)) (nI_1 2) ?_
                          refine lv_icmp_ne (tgt := 836) hx hb dL_acts_829 (by decide) (fun c829_159 => absurd rfl c829_159) (fun c829_159 => ?_)
                          refine lv_iconst (v := 1) hx hb dL_acts_832 (by decide) ?_
                          refine lv_goto (tgt := 837) hx hb dL_acts_833 (by decide) ?_
                          refine lv_istore (lv' := [(16, .int 1), (15, .int 1), (13, .int (nI 2)), (11, .int (nI pe)), (10, .int (nI i)), (9, .int (nI kd)), (0, .ref (o 0)), (1, .ref (t 0)), (2, .ref (a 0)), (3, .ref (a 1)), (4, .ref (a 2)), (5, .ref (a 3)), (6, .ref (a 4)), (7, .int x), (8, .int y), (12, .int (nI k)), (14, .int (nI q))]) hx hb dL_acts_837 hl (by decide) rfl (fun ls hl => ?_)
                          refine lv_iload hx hb dL_acts_839 (lv_at hl 0 rfl) ?_
                          refine lv_if_eq (tgt := 878) hx hb dL_acts_841 (by decide) (fun c841_160 => absurd c841_160 (by decide)) (fun c841_160 => ?_)
                          refine lv_iload hx hb dL_acts_844 (lv_at hl 1 rfl) ?_
                          refine lv_if_lt (tgt := 874) hx hb dL_acts_846 (by decide) (fun c846_161 => absurd c846_161 (by decide)) (fun c846_161 => ?_)
                          refine lv_iload hx hb dL_acts_849 (lv_at hl 2 rfl) ?_
                          refine lv_if_ne (tgt := 862) hx hb dL_acts_851 (by decide) (fun c851_162 => ?_) (fun c851_162 => absurd c851_162 (by decide))
                          refine lv_iload hx hb dL_acts_862 (lv_at hl 2 rfl) ?_
                          refine lv_iconst (v := 1) hx hb dL_acts_864 (by decide) ?_
                          refine lv_icmp_eq (tgt := 874) hx hb dL_acts_865 (by decide) (fun c865_163 => absurd c865_163 (by decide)) (fun c865_163 => ?_)
                          refine lv_iload hx hb dL_acts_868 (lv_at hl 1 rfl) ?_
                          refine lv_iconst (v := 1) hx hb dL_acts_870 (by decide) ?_
                          refine lv_icmp_ne (tgt := 878) hx hb dL_acts_871 (by decide) (fun c871_164 => absurd (by decide) c871_164) (fun c871_164 => ?_)
                          refine lv_iconst (v := 1) hx hb dL_acts_874 (by decide) ?_
                          refine lv_goto (tgt := 879) hx hb dL_acts_875 (by decide) ?_
                          refine lv_istore (lv' := [(16, .int 1), (15, .int 1), (13, .int (nI 2)), (11, .int (nI pe)), (10, .int (nI i)), (9, .int (nI kd)), (0, .ref (o 0)), (1, .ref (t 0)), (2, .ref (a 0)), (3, .ref (a 1)), (4, .ref (a 2)), (5, .ref (a 3)), (6, .ref (a 4)), (7, .int x), (8, .int y), (12, .int (nI k)), (14, .int (nI q))]) hx hb dL_acts_879 hl (by decide) rfl (fun ls hl => ?_)
                          refine lv_aload hx hb dL_acts_881 (lv_at hl 10 rfl) ?_
                          refine lv_iconst (v := 5) hx hb dL_acts_883 (by decide) ?_
                          refine lv_iload hx hb dL_acts_884 (lv_at hl 15 rfl) ?_
                          refine lv_imul hx hb dL_acts_886 ?_
                          refine k_eq (y := nI (5 * k)) (pk_mul 5 k) ?_
                          refine lv_iload hx hb dL_acts_887 (lv_at hl 4 rfl) ?_
                          refine lv_iadd hx hb dL_acts_889 ?_
                          refine k_eq (y := nI (5 * k + i)) (nI_add (5 * k) i) ?_
                          refine lv_iload hx hb dL_acts_890 (lv_at hl 1 rfl) ?_
                          refine lv_iconst (v := 1) hx hb dL_acts_892 (by decide) ?_
                          refine lv_icmp_ne (tgt := 907) hx hb dL_acts_893 (by decide) (fun c893_165 => absurd (by decide) c893_165) (fun c893_165 => ?_)
                          refine lv_aload_n hx hb dL_acts_896 rfl (lv_at hl 6 rfl) ?_
                          refine lv_iload hx hb dL_acts_897 (lv_at hl 15 rfl) ?_
                          refine lv_iload hx hb dL_acts_899 (lv_at hl 4 rfl) ?_
                          refine q_wx (rx_SX S ⟨m_210, m_211, m_22, m_212⟩ ⟨rfl, by decide, by decide, by decide +kernel⟩ (kL_agreed l G o σ1 nm ns (nI k) (nI i) hst hI1.1.hns hns4 hI1.1.hnm hnm2) ⟨rfl, rfl, Nat.le_of_ble_eq_true rfl, Nat.le_of_ble_eq_true rfl⟩ (ps bl_PXZ (bXZ (hWq158.xo hK) ((hZ0.at hSq158 (fun _ h => h)).zs))) (n := 3) (As := [.ref (o 0), .int (nI k), .int (nI i)]) (rest := [.int (nI (5 * k + i)), .ref (a 2)]) rfl hl.1 rfl (Nat.le_of_ble_eq_true rfl) ⟨Nat.le_of_ble_eq_true rfl, Nat.le_of_ble_eq_true rfl⟩ dL_acts_901) hSq158 (fun _ h => h.elim) (fun rq166 Hq166 Lq166 eq166 gq166 fq166 hSq166 => ?_)
                          subst eq166
                          have hWq166 := hWq158.rd fq166
                          refine k_eq (y := σ1 13 (k * 5 + i)) (tV_line hI1.1.hns hns4 hk hi (fun z => σ1 13 z)) ?_
                          refine lv_goto (tgt := 917) hx hb dL_acts_904 (by decide) ?_
                          refine k_stQ S hK hJ hWq166 hSq166 (fun _ h => h) 2 (by decide) (i := (5 * k + i)) (show (5 * k + i) < 60 by omega) dL_acts_917 (fun Hq167 Lq167 hWq167 hSq167 => ?_)
                          refine lv_iload hx hb dL_acts_918 (lv_at hl 0 rfl) ?_
                          refine lv_if_eq (tgt := 974) hx hb dL_acts_920 (by decide) (fun c920_168 => absurd c920_168 (by decide)) (fun c920_168 => ?_)
                          refine lv_iload hx hb dL_acts_923 (lv_at hl 1 rfl) ?_
                          refine lv_iconst (v := 1) hx hb dL_acts_925 (by decide) ?_
                          refine lv_icmp_ne (tgt := 948) hx hb dL_acts_926 (by decide) (fun c926_169 => absurd (by decide) c926_169) (fun c926_169 => ?_)
                          refine lv_iload hx hb dL_acts_929 (lv_at hl 2 rfl) ?_
                          refine lv_iconst (v := 2) hx hb dL_acts_931 (by decide) ?_
                          refine lv_icmp_eq (tgt := 948) hx hb dL_acts_932 (by decide) (fun c932_170 => ?_) (fun c932_170 => absurd (by decide) c932_170)
                          refine lv_iload hx hb dL_acts_948 (lv_at hl 1 rfl) ?_
                          refine lv_if_lt (tgt := 970) hx hb dL_acts_950 (by decide) (fun c950_171 => absurd c950_171 (by decide)) (fun c950_171 => ?_)
                          refine lv_aload_n hx hb dL_acts_953 rfl (lv_at hl 6 rfl) ?_
                          refine lv_iload hx hb dL_acts_954 (lv_at hl 15 rfl) ?_
                          refine lv_iload hx hb dL_acts_956 (lv_at hl 3 rfl) ?_
                          refine lv_iload hx hb dL_acts_958 (lv_at hl 4 rfl) ?_
                          refine lv_iload hx hb dL_acts_960 (lv_at hl 16 rfl) ?_
                          refine q_wx (rx_SX S ⟨m_546, m_547, m_22, m_548⟩ ⟨rfl, by decide, by decide, by decide +kernel⟩ (kL_count l G o σ1 nm ns (nI k) (nI pe) (nI i) (nI q) hst hI1.1.hns hns4 hI1.1.hnm hnm2 (AO o) hJ.dO) ⟨rfl, rfl, Nat.le_of_ble_eq_true rfl, Nat.le_of_ble_eq_true rfl⟩ (ps bl_PXZ (bXZ (hWq167.xo hK) ((hZ0.at hSq167 (fun _ h => h)).zs))) (n := 5) (As := [.ref (o 0), .int (nI k), .int (nI pe), .int (nI i), .int (nI q)]) (rest := []) rfl hl.1 rfl (Nat.le_of_ble_eq_true rfl) ⟨Nat.le_of_ble_eq_true rfl, Nat.le_of_ble_eq_true rfl⟩ dL_acts_962) hSq167 (fun _ h => h.inO) (fun rq172 Hq172 Lq172 eq172 gq172 fq172 hSq172 => ?_)
                          subst eq172
                          rw [show (if eX_count σ1 (nI k) (nI pe) (nI i) (nI q) = 0 then (adS σ1 (lnN (nI k) (nI i)) (nI pe) (nI q)) else σ1) = σ1 from if_neg (ne0 (k := 2) (eC_c hI1.1.hns hns4 hk hi hpe hq o9 hd5))] at gq172
                          have hWq172 := hWq167.wo hJ gq172 fq172
                          refine k_eq (y := (-1000003)) (hcV_3 (eC_c hI1.1.hns hns4 hk hi hpe hq o9 hd5)) ?_
                          refine lv_ldc (v := (-1000003)) hx hb S.2.2.2.1 (S.2.2.2.2 _ m_427) dL_acts_965 ?_
                          refine lv_icmp_ne (tgt := 974) hx hb dL_acts_967 (by decide) (fun c967_173 => absurd (by decide) c967_173) (fun c967_173 => ?_)
                          refine lv_iconst (v := 1) hx hb dL_acts_970 (by decide) ?_
                          refine lv_goto (tgt := 975) hx hb dL_acts_971 (by decide) ?_
                          refine lv_istore (lv' := [(16, .int 1), (15, .int 1), (13, .int (nI 2)), (11, .int (nI pe)), (10, .int (nI i)), (9, .int (nI kd)), (0, .ref (o 0)), (1, .ref (t 0)), (2, .ref (a 0)), (3, .ref (a 1)), (4, .ref (a 2)), (5, .ref (a 3)), (6, .ref (a 4)), (7, .int x), (8, .int y), (12, .int (nI k)), (14, .int (nI q))]) hx hb dL_acts_975 hl (by decide) rfl (fun ls hl => ?_)
                          refine lv_iload hx hb dL_acts_977 (lv_at hl 0 rfl) ?_
                          refine lv_if_eq (tgt := 1019) hx hb dL_acts_979 (by decide) (fun c979_174 => absurd c979_174 (by decide)) (fun c979_174 => ?_)
                          refine lv_aload_n hx hb dL_acts_982 rfl (lv_at hl 6 rfl) ?_
                          refine lv_iload hx hb dL_acts_983 (lv_at hl 15 rfl) ?_
                          refine lv_iload hx hb dL_acts_985 (lv_at hl 3 rfl) ?_
                          refine lv_iload hx hb dL_acts_987 (lv_at hl 4 rfl) ?_
                          refine lv_ldc (v := 100001) hx hb S.2.2.2.1 (S.2.2.2.2 _ m_584) dL_acts_989 ?_
                          refine q_wx (rx_SX S ⟨m_546, m_547, m_22, m_548⟩ ⟨rfl, by decide, by decide, by decide +kernel⟩ (kL_count l G o σ1 nm ns (nI k) (nI pe) (nI i) 100001 hst hI1.1.hns hns4 hI1.1.hnm hnm2 (AO o) hJ.dO) ⟨rfl, rfl, Nat.le_of_ble_eq_true rfl, Nat.le_of_ble_eq_true rfl⟩ (ps bl_PXZ (bXZ (hWq172.xo hK) ((hZ0.at hSq172 (fun _ h => h)).zs))) (n := 5) (As := [.ref (o 0), .int (nI k), .int (nI pe), .int (nI i), .int 100001]) (rest := []) rfl hl.1 rfl (Nat.le_of_ble_eq_true rfl) ⟨Nat.le_of_ble_eq_true rfl, Nat.le_of_ble_eq_true rfl⟩ dL_acts_991) hSq172 (fun _ h => h.inO) (fun rq175 Hq175 Lq175 eq175 gq175 fq175 hSq175 => ?_)
                          subst eq175
                          rw [show (if eX_count σ1 (nI k) (nI pe) (nI i) 100001 = 0 then (adS σ1 (lnN (nI k) (nI i)) (nI pe) 100001) else σ1) = σ1 from if_neg (ne0 (k := 1) (eC_2 hI1.1.hns hns4 hk hi hpe))] at gq175
                          have hWq175 := hWq172.wo hJ gq175 fq175
                          refine k_eq (y := (-1000002)) (hcV_2 (eC_2 hI1.1.hns hns4 hk hi hpe)) ?_
                          refine lv_ldc (v := (-1000002)) hx hb S.2.2.2.1 (S.2.2.2.2 _ m_394) dL_acts_994 ?_
                          refine lv_icmp_ne (tgt := 1019) hx hb dL_acts_996 (by decide) (fun c996_176 => absurd (by decide) c996_176) (fun c996_176 => ?_)
                          refine lv_aload_n hx hb dL_acts_999 rfl (lv_at hl 6 rfl) ?_
                          refine lv_iload hx hb dL_acts_1000 (lv_at hl 15 rfl) ?_
                          refine lv_bipush (v := 6) hx hb dL_acts_1002 (by decide) ?_
                          refine lv_iload hx hb dL_acts_1004 (lv_at hl 4 rfl) ?_
                          refine lv_iconst (v := (-1)) hx hb dL_acts_1006 (by decide) ?_
                          refine q_wx (rx_SX S ⟨m_546, m_547, m_22, m_548⟩ ⟨rfl, by decide, by decide, by decide +kernel⟩ (kL_count l G o σ1 nm ns (nI k) 6 (nI i) (-1) hst hI1.1.hns hns4 hI1.1.hnm hnm2 (AO o) hJ.dO) ⟨rfl, rfl, Nat.le_of_ble_eq_true rfl, Nat.le_of_ble_eq_true rfl⟩ (ps bl_PXZ (bXZ (hWq175.xo hK) ((hZ0.at hSq175 (fun _ h => h)).zs))) (n := 5) (As := [.ref (o 0), .int (nI k), .int 6, .int (nI i), .int (-1)]) (rest := []) rfl hl.1 rfl (Nat.le_of_ble_eq_true rfl) ⟨Nat.le_of_ble_eq_true rfl, Nat.le_of_ble_eq_true rfl⟩ dL_acts_1007) hSq175 (fun _ h => h.inO) (fun rq177 Hq177 Lq177 eq177 gq177 fq177 hSq177 => ?_)
                          subst eq177
                          rw [show (if eX_count σ1 (nI k) 6 (nI i) (-1) = 0 then (adS σ1 (lnN (nI k) (nI i)) 6 (-1)) else σ1) = σ1 from if_neg (ne0 (k := 0) (eC_6 hI1.1.hns hns4 hk))] at gq177
                          have hWq177 := hWq175.wo hJ gq177 fq177
                          refine k_eq (y := (-1000001)) (hcV_1 (eC_6 hI1.1.hns hns4 hk)) ?_
                          refine lv_ldc (v := (-1000001)) hx hb S.2.2.2.1 (S.2.2.2.2 _ m_294) dL_acts_1010 ?_
                          refine lv_icmp_ne (tgt := 1019) hx hb dL_acts_1012 (by decide) (fun c1012_178 => absurd (by decide) c1012_178) (fun c1012_178 => ?_)
                          refine lv_iconst (v := 1) hx hb dL_acts_1015 (by decide) ?_
                          refine lv_goto (tgt := 1020) hx hb dL_acts_1016 (by decide) ?_
                          refine W.widen (k := 70) (n := 420) (by first | omega | exact Nat.le_of_ble_eq_true rfl) (by first | omega | exact Nat.le_of_ble_eq_true rfl) ?_
                          exact W.zret (v := 1) (ty := .boolean) hx hb hr (by first | rfl | exact bI_nar _) (fun t9 ht hWz => ⟨⟨_, rfl, rfl⟩, by rw [ht]; exact ⟨σ1, su α 2 (5 * k + i) (σ1 13 (k * 5 + i)), hI1.ri, hWq177⟩, hSq177.F ht⟩) hSq177.2.2 dL_acts_1020
                      · skip
                        refine lv_aload_n hx hb dL_acts_730 rfl (lv_at hl 4 rfl) ?_
                        refine lv_iload hx hb dL_acts_731 (lv_at hl 13 rfl) ?_
                        refine lv_iload hx hb dL_acts_733 (lv_at hl 1 rfl) ?_
                        refine lv_iload hx hb dL_acts_735 (lv_at hl 2 rfl) ?_
                        refine lv_iload hx hb dL_acts_737 (lv_at hl 14 rfl) ?_
                        refine q_wx (rx_SX S ⟨m_546, m_547, m_22, m_548⟩ ⟨rfl, by decide, by decide, by decide +kernel⟩ (kL_count l G o σ nm ns (nI k) (nI pe) (nI i) (nI q) hst hns hns4 hnm hnm2 (AO o) hJ.dO) ⟨rfl, rfl, Nat.le_of_ble_eq_true rfl, Nat.le_of_ble_eq_true rfl⟩ (ps bl_PXZ (bXZ (hW.xo hK) ((hZ0.at hS (fun _ h => h)).zs))) (n := 5) (As := [.ref (o 0), .int (nI k), .int (nI pe), .int (nI i), .int (nI q)]) (rest := []) rfl hl.1 rfl (Nat.le_of_ble_eq_true rfl) ⟨Nat.le_of_ble_eq_true rfl, Nat.le_of_ble_eq_true rfl⟩ dL_acts_739) hS (fun _ h => h.inO) (fun rq179 Hq179 Lq179 eq179 gq179 fq179 hSq179 => ?_)
                        subst eq179
                        rw [show (if eX_count σ (nI k) (nI pe) (nI i) (nI q) = 0 then (adS σ (lnN (nI k) (nI i)) (nI pe) (nI q)) else σ) = σ from if_neg (ne0 (k := 2) (eC_c hns hns4 hk hi hpe hq e9 e))] at gq179
                        have hWq179 := hW.wo hJ gq179 fq179
                        refine k_eq (y := (-1000003)) (hcV_3 (eC_c hns hns4 hk hi hpe hq e9 e)) ?_
                        refine lv_istore (lv' := [(15, .int (-1000003)), (13, .int (nI c9)), (11, .int (nI pe)), (10, .int (nI i)), (9, .int (nI kd)), (0, .ref (o 0)), (1, .ref (t 0)), (2, .ref (a 0)), (3, .ref (a 1)), (4, .ref (a 2)), (5, .ref (a 3)), (6, .ref (a 4)), (7, .int x), (8, .int y), (12, .int (nI k)), (14, .int (nI q))]) hx hb dL_acts_742 hl (by decide) rfl (fun ls hl => ?_)
                        refine lv_aload_n hx hb dL_acts_744 rfl (lv_at hl 6 rfl) ?_
                        refine lv_iload hx hb dL_acts_745 (lv_at hl 14 rfl) ?_
                        refine lv_iload hx hb dL_acts_747 (lv_at hl 2 rfl) ?_
                        refine lv_iload hx hb dL_acts_749 (lv_at hl 3 rfl) ?_
                        refine lv_iload hx hb dL_acts_751 (lv_at hl 15 rfl) ?_
                        refine q_wx (rx_SX S ⟨m_546, m_547, m_22, m_548⟩ ⟨rfl, by decide, by decide, by decide +kernel⟩ (kL_count l G t σ nm ns (nI k) (nI pe) (nI i) (nI q) hst hns hns4 hnm hnm2 (AO t) hJ.dT) ⟨rfl, rfl, Nat.le_of_ble_eq_true rfl, Nat.le_of_ble_eq_true rfl⟩ (ps bl_PXZ (bXZ (hWq179.xt hK) ((hZ0.at hSq179 (fun _ h => h)).zs))) (n := 5) (As := [.ref (t 0), .int (nI k), .int (nI pe), .int (nI i), .int (nI q)]) (rest := []) rfl hl.1 rfl (Nat.le_of_ble_eq_true rfl) ⟨Nat.le_of_ble_eq_true rfl, Nat.le_of_ble_eq_true rfl⟩ dL_acts_753) hSq179 (fun _ h => h.inT) (fun rq180 Hq180 Lq180 eq180 gq180 fq180 hSq180 => ?_)
                        subst eq180
                        rw [show (if eX_count σ (nI k) (nI pe) (nI i) (nI q) = 0 then (adS σ (lnN (nI k) (nI i)) (nI pe) (nI q)) else σ) = σ from if_neg (ne0 (k := 2) (eC_c hns hns4 hk hi hpe hq e9 e))] at gq180
                        have hWq180 := hWq179.wt hJ gq180 fq180
                        refine k_eq (y := (-1000003)) (hcV_3 (eC_c hns hns4 hk hi hpe hq e9 e)) ?_
                        refine lv_iload hx hb dL_acts_756 (lv_at hl 0 rfl) ?_
                        refine lv_icmp_ne (tgt := 836) hx hb dL_acts_758 (by decide) (fun c758_181 => absurd (by decide) c758_181) (fun c758_181 => ?_)
                        refine lv_aload_n hx hb dL_acts_761 rfl (lv_at hl 5 rfl) ?_
                        refine lv_iload hx hb dL_acts_762 (lv_at hl 14 rfl) ?_
                        refine q_wx (rx_SX S ⟨m_462, m_463, m_22, m_464⟩ ⟨rfl, by decide, by decide, by decide +kernel⟩ (kL_stateOf l G o σ nm ns (nI k) hst hns hns4 hnm hnm2) ⟨rfl, rfl, Nat.le_of_ble_eq_true rfl, Nat.le_of_ble_eq_true rfl⟩ (ps bl_PXZ (bXZ (hWq180.xo hK) ((hZ0.at hSq180 (fun _ h => h)).zs))) (n := 2) (As := [.ref (o 0), .int (nI k)]) (rest := []) rfl hl.1 rfl (Nat.le_of_ble_eq_true rfl) ⟨Nat.le_of_ble_eq_true rfl, Nat.le_of_ble_eq_true rfl⟩ dL_acts_764) hSq180 (fun _ h => h.elim) (fun rq182 Hq182 Lq182 eq182 gq182 fq182 hSq182 => ?_)
                        subst eq182
                        have hWq182 := hWq180.rd fq182
                        refine k_eq (y := 0) (tV_st0 hns hns4 hk e9) ?_
                        refine lv_iconst (v := 1) hx hb dL_acts_767 (by decide) ?_
                        refine lv_icmp_eq (tgt := 784) hx hb dL_acts_768 (by decide) (fun c768_183 => absurd c768_183 (by decide)) (fun c768_183 => ?_)
                        refine lv_aload hx hb dL_acts_771 (lv_at hl 9 rfl) ?_
                        refine lv_iconst (v := 5) hx hb dL_acts_773 (by decide) ?_
                        refine lv_iload hx hb dL_acts_774 (lv_at hl 14 rfl) ?_
                        refine lv_imul hx hb dL_acts_776 ?_
                        refine k_eq (y := nI (5 * k)) (pk_mul 5 k) ?_
                        refine lv_iload hx hb dL_acts_777 (lv_at hl 3 rfl) ?_
                        refine lv_iadd hx hb dL_acts_779 ?_
                        refine k_eq (y := nI (5 * k + i)) (nI_add (5 * k) i) ?_
                        refine k_ldQ S hK hWq182 2 (by decide) (i := (5 * k + i)) (show (5 * k + i) < 60 by omega) dL_acts_780 ?_
                        refine k_eq (y := σ 13 (k * 5 + i)) ((by rw [hA.ac (5 * k + i) (by omega), Nat.mul_comm 5 k])) ?_
                        refine lv_if_lt (tgt := 794) hx hb dL_acts_781 (by decide) (fun c781_184 => ?_) (fun c781_184 => absurd (by rw [g1]; decide) c781_184)
                        refine lv_iload hx hb dL_acts_794 (lv_at hl 0 rfl) ?_
                        refine lv_ldc (v := (-1000003)) hx hb S.2.2.2.1 (S.2.2.2.2 _ m_427) dL_acts_796 ?_
                        refine lv_icmp_ne (tgt := 806) hx hb dL_acts_798 (by decide) (fun c798_185 => absurd (by decide) c798_185) (fun c798_185 => ?_)
                        refine lv_iload hx hb dL_acts_801 (lv_at hl 1 rfl) ?_
                        refine lv_if_gt (tgt := 832) hx hb dL_acts_803 (by decide) (fun c803_186 => ?_) (fun c803_186 => absurd (nI_lt (a := 0) (hC.cb0 (by omega) hpe e hc10) (by omega)) c803_186)
                        refine lv_iconst (v := 1) hx hb dL_acts_832 (by decide) ?_
                        refine lv_goto (tgt := 837) hx hb dL_acts_833 (by decide) ?_
                        refine lv_istore (lv' := [(16, .int 1), (15, .int (-1000003)), (13, .int (nI c9)), (11, .int (nI pe)), (10, .int (nI i)), (9, .int (nI kd)), (0, .ref (o 0)), (1, .ref (t 0)), (2, .ref (a 0)), (3, .ref (a 1)), (4, .ref (a 2)), (5, .ref (a 3)), (6, .ref (a 4)), (7, .int x), (8, .int y), (12, .int (nI k)), (14, .int (nI q))]) hx hb dL_acts_837 hl (by decide) rfl (fun ls hl => ?_)
                        refine lv_iload hx hb dL_acts_839 (lv_at hl 0 rfl) ?_
                        refine lv_if_eq (tgt := 878) hx hb dL_acts_841 (by decide) (fun c841_187 => absurd c841_187 (by decide)) (fun c841_187 => ?_)
                        refine lv_iload hx hb dL_acts_844 (lv_at hl 1 rfl) ?_
                        refine lv_if_lt (tgt := 874) hx hb dL_acts_846 (by decide) (fun c846_188 => ?_) (fun c846_188 => absurd (by decide) c846_188)
                        refine lv_iconst (v := 1) hx hb dL_acts_874 (by decide) ?_
                        refine lv_goto (tgt := 879) hx hb dL_acts_875 (by decide) ?_
                        refine lv_istore (lv' := [(16, .int 1), (15, .int (-1000003)), (13, .int (nI c9)), (11, .int (nI pe)), (10, .int (nI i)), (9, .int (nI kd)), (0, .ref (o 0)), (1, .ref (t 0)), (2, .ref (a 0)), (3, .ref (a 1)), (4, .ref (a 2)), (5, .ref (a 3)), (6, .ref (a 4)), (7, .int x), (8, .int y), (12, .int (nI k)), (14, .int (nI q))]) hx hb dL_acts_879 hl (by decide) rfl (fun ls hl => ?_)
                        refine lv_aload hx hb dL_acts_881 (lv_at hl 10 rfl) ?_
                        refine lv_iconst (v := 5) hx hb dL_acts_883 (by decide) ?_
                        refine lv_iload hx hb dL_acts_884 (lv_at hl 15 rfl) ?_
                        refine lv_imul hx hb dL_acts_886 ?_
                        refine k_eq (y := nI (5 * k)) (pk_mul 5 k) ?_
                        refine lv_iload hx hb dL_acts_887 (lv_at hl 4 rfl) ?_
                        refine lv_iadd hx hb dL_acts_889 ?_
                        refine k_eq (y := nI (5 * k + i)) (nI_add (5 * k) i) ?_
                        refine lv_iload hx hb dL_acts_890 (lv_at hl 1 rfl) ?_
                        refine lv_iconst (v := 1) hx hb dL_acts_892 (by decide) ?_
                        refine lv_icmp_ne (tgt := 907) hx hb dL_acts_893 (by decide) (fun c893_189 => ?_) (fun c893_189 => absurd c893_189 (by decide))
                        refine lv_aload hx hb dL_acts_907 (lv_at hl 10 rfl) ?_
                        refine lv_iconst (v := 5) hx hb dL_acts_909 (by decide) ?_
                        refine lv_iload hx hb dL_acts_910 (lv_at hl 15 rfl) ?_
                        refine lv_imul hx hb dL_acts_912 ?_
                        refine k_eq (y := nI (5 * k)) (pk_mul 5 k) ?_
                        refine lv_iload hx hb dL_acts_913 (lv_at hl 4 rfl) ?_
                        refine lv_iadd hx hb dL_acts_915 ?_
                        refine k_eq (y := nI (5 * k + i)) (nI_add (5 * k) i) ?_
                        refine k_ldQ S hK hWq182 2 (by decide) (i := (5 * k + i)) (show (5 * k + i) < 60 by omega) dL_acts_916 ?_
                        refine k_eq (y := σ 13 (k * 5 + i)) ((by rw [hA.ac (5 * k + i) (by omega), Nat.mul_comm 5 k])) ?_
                        refine k_stQ S hK hJ hWq182 hSq182 (fun _ h => h) 2 (by decide) (i := (5 * k + i)) (show (5 * k + i) < 60 by omega) dL_acts_917 (fun Hq190 Lq190 hWq190 hSq190 => ?_)
                        have hWq190 : WQ G o t a σ σ α Hq190 := by rw [show α = su α 2 (5 * k + i) (σ 13 (k * 5 + i)) from (su_same (by rw [hA.ac (5 * k + i) (by omega), Nat.mul_comm 5 k])).symm]; exact hWq190
                        refine lv_iload hx hb dL_acts_918 (lv_at hl 0 rfl) ?_
                        refine lv_if_eq (tgt := 974) hx hb dL_acts_920 (by decide) (fun c920_191 => absurd c920_191 (by decide)) (fun c920_191 => ?_)
                        refine lv_iload hx hb dL_acts_923 (lv_at hl 1 rfl) ?_
                        refine lv_iconst (v := 1) hx hb dL_acts_925 (by decide) ?_
                        refine lv_icmp_ne (tgt := 948) hx hb dL_acts_926 (by decide) (fun c926_192 => ?_) (fun c926_192 => absurd c926_192 (by decide))
                        refine lv_iload hx hb dL_acts_948 (lv_at hl 1 rfl) ?_
                        refine lv_if_lt (tgt := 970) hx hb dL_acts_950 (by decide) (fun c950_193 => ?_) (fun c950_193 => absurd (by decide) c950_193)
                        refine lv_iconst (v := 1) hx hb dL_acts_970 (by decide) ?_
                        refine lv_goto (tgt := 975) hx hb dL_acts_971 (by decide) ?_
                        refine lv_istore (lv' := [(16, .int 1), (15, .int (-1000003)), (13, .int (nI c9)), (11, .int (nI pe)), (10, .int (nI i)), (9, .int (nI kd)), (0, .ref (o 0)), (1, .ref (t 0)), (2, .ref (a 0)), (3, .ref (a 1)), (4, .ref (a 2)), (5, .ref (a 3)), (6, .ref (a 4)), (7, .int x), (8, .int y), (12, .int (nI k)), (14, .int (nI q))]) hx hb dL_acts_975 hl (by decide) rfl (fun ls hl => ?_)
                        refine lv_iload hx hb dL_acts_977 (lv_at hl 0 rfl) ?_
                        refine lv_if_eq (tgt := 1019) hx hb dL_acts_979 (by decide) (fun c979_194 => absurd c979_194 (by decide)) (fun c979_194 => ?_)
                        refine lv_aload_n hx hb dL_acts_982 rfl (lv_at hl 6 rfl) ?_
                        refine lv_iload hx hb dL_acts_983 (lv_at hl 15 rfl) ?_
                        refine lv_iload hx hb dL_acts_985 (lv_at hl 3 rfl) ?_
                        refine lv_iload hx hb dL_acts_987 (lv_at hl 4 rfl) ?_
                        refine lv_ldc (v := 100001) hx hb S.2.2.2.1 (S.2.2.2.2 _ m_584) dL_acts_989 ?_
                        refine q_wx (rx_SX S ⟨m_546, m_547, m_22, m_548⟩ ⟨rfl, by decide, by decide, by decide +kernel⟩ (kL_count l G o σ nm ns (nI k) (nI pe) (nI i) 100001 hst hns hns4 hnm hnm2 (AO o) hJ.dO) ⟨rfl, rfl, Nat.le_of_ble_eq_true rfl, Nat.le_of_ble_eq_true rfl⟩ (ps bl_PXZ (bXZ (hWq190.xo hK) ((hZ0.at hSq190 (fun _ h => h)).zs))) (n := 5) (As := [.ref (o 0), .int (nI k), .int (nI pe), .int (nI i), .int 100001]) (rest := []) rfl hl.1 rfl (Nat.le_of_ble_eq_true rfl) ⟨Nat.le_of_ble_eq_true rfl, Nat.le_of_ble_eq_true rfl⟩ dL_acts_991) hSq190 (fun _ h => h.inO) (fun rq195 Hq195 Lq195 eq195 gq195 fq195 hSq195 => ?_)
                        subst eq195
                        rw [show (if eX_count σ (nI k) (nI pe) (nI i) 100001 = 0 then (adS σ (lnN (nI k) (nI i)) (nI pe) 100001) else σ) = σ from if_neg (ne0 (k := 1) (eC_2 hns hns4 hk hi hpe))] at gq195
                        have hWq195 := hWq190.wo hJ gq195 fq195
                        refine k_eq (y := (-1000002)) (hcV_2 (eC_2 hns hns4 hk hi hpe)) ?_
                        refine lv_ldc (v := (-1000002)) hx hb S.2.2.2.1 (S.2.2.2.2 _ m_394) dL_acts_994 ?_
                        refine lv_icmp_ne (tgt := 1019) hx hb dL_acts_996 (by decide) (fun c996_196 => absurd (by decide) c996_196) (fun c996_196 => ?_)
                        refine lv_aload_n hx hb dL_acts_999 rfl (lv_at hl 6 rfl) ?_
                        refine lv_iload hx hb dL_acts_1000 (lv_at hl 15 rfl) ?_
                        refine lv_bipush (v := 6) hx hb dL_acts_1002 (by decide) ?_
                        refine lv_iload hx hb dL_acts_1004 (lv_at hl 4 rfl) ?_
                        refine lv_iconst (v := (-1)) hx hb dL_acts_1006 (by decide) ?_
                        refine q_wx (rx_SX S ⟨m_546, m_547, m_22, m_548⟩ ⟨rfl, by decide, by decide, by decide +kernel⟩ (kL_count l G o σ nm ns (nI k) 6 (nI i) (-1) hst hns hns4 hnm hnm2 (AO o) hJ.dO) ⟨rfl, rfl, Nat.le_of_ble_eq_true rfl, Nat.le_of_ble_eq_true rfl⟩ (ps bl_PXZ (bXZ (hWq195.xo hK) ((hZ0.at hSq195 (fun _ h => h)).zs))) (n := 5) (As := [.ref (o 0), .int (nI k), .int 6, .int (nI i), .int (-1)]) (rest := []) rfl hl.1 rfl (Nat.le_of_ble_eq_true rfl) ⟨Nat.le_of_ble_eq_true rfl, Nat.le_of_ble_eq_true rfl⟩ dL_acts_1007) hSq195 (fun _ h => h.inO) (fun rq197 Hq197 Lq197 eq197 gq197 fq197 hSq197 => ?_)
                        subst eq197
                        rw [show (if eX_count σ (nI k) 6 (nI i) (-1) = 0 then (adS σ (lnN (nI k) (nI i)) 6 (-1)) else σ) = σ from if_neg (ne0 (k := 0) (eC_6 hns hns4 hk))] at gq197
                        have hWq197 := hWq195.wo hJ gq197 fq197
                        refine k_eq (y := (-1000001)) (hcV_1 (eC_6 hns hns4 hk)) ?_
                        refine lv_ldc (v := (-1000001)) hx hb S.2.2.2.1 (S.2.2.2.2 _ m_294) dL_acts_1010 ?_
                        refine lv_icmp_ne (tgt := 1019) hx hb dL_acts_1012 (by decide) (fun c1012_198 => absurd (by decide) c1012_198) (fun c1012_198 => ?_)
                        refine lv_iconst (v := 1) hx hb dL_acts_1015 (by decide) ?_
                        refine lv_goto (tgt := 1020) hx hb dL_acts_1016 (by decide) ?_
                        refine W.widen (k := 70) (n := 420) (by first | omega | exact Nat.le_of_ble_eq_true rfl) (by first | omega | exact Nat.le_of_ble_eq_true rfl) ?_
                        exact W.zret (v := 1) (ty := .boolean) hx hb hr (by first | rfl | exact bI_nar _) (fun t9 ht hWz => ⟨⟨_, rfl, rfl⟩, by rw [ht]; exact ⟨σ, α, hI.up.ri, hWq197⟩, hSq197.F ht⟩) hSq197.2.2 dL_acts_1020
                    · skip
                      refine lv_aload_n hx hb dL_acts_730 rfl (lv_at hl 4 rfl) ?_
                      refine lv_iload hx hb dL_acts_731 (lv_at hl 13 rfl) ?_
                      refine lv_iload hx hb dL_acts_733 (lv_at hl 1 rfl) ?_
                      refine lv_iload hx hb dL_acts_735 (lv_at hl 2 rfl) ?_
                      refine lv_iload hx hb dL_acts_737 (lv_at hl 14 rfl) ?_
                      refine q_wx (rx_SX S ⟨m_546, m_547, m_22, m_548⟩ ⟨rfl, by decide, by decide, by decide +kernel⟩ (kL_count l G o σ nm ns (nI k) (nI pe) (nI i) (nI q) hst hns hns4 hnm hnm2 (AO o) hJ.dO) ⟨rfl, rfl, Nat.le_of_ble_eq_true rfl, Nat.le_of_ble_eq_true rfl⟩ (ps bl_PXZ (bXZ (hW.xo hK) ((hZ0.at hS (fun _ h => h)).zs))) (n := 5) (As := [.ref (o 0), .int (nI k), .int (nI pe), .int (nI i), .int (nI q)]) (rest := []) rfl hl.1 rfl (Nat.le_of_ble_eq_true rfl) ⟨Nat.le_of_ble_eq_true rfl, Nat.le_of_ble_eq_true rfl⟩ dL_acts_739) hS (fun _ h => h.inO) (fun rq199 Hq199 Lq199 eq199 gq199 fq199 hSq199 => ?_)
                      subst eq199
                      rw [show (if eX_count σ (nI k) (nI pe) (nI i) (nI q) = 0 then (adS σ (lnN (nI k) (nI i)) (nI pe) (nI q)) else σ) = σ from if_neg (ne0 (k := 2) (eC_a hns hns4 hk hi hpe hq e9 g2))] at gq199
                      have hWq199 := hW.wo hJ gq199 fq199
                      refine k_eq (y := (-1000003)) (hcV_3 (eC_a hns hns4 hk hi hpe hq e9 g2)) ?_
                      refine lv_istore (lv' := [(15, .int (-1000003)), (13, .int (nI c9)), (11, .int (nI pe)), (10, .int (nI i)), (9, .int (nI kd)), (0, .ref (o 0)), (1, .ref (t 0)), (2, .ref (a 0)), (3, .ref (a 1)), (4, .ref (a 2)), (5, .ref (a 3)), (6, .ref (a 4)), (7, .int x), (8, .int y), (12, .int (nI k)), (14, .int (nI q))]) hx hb dL_acts_742 hl (by decide) rfl (fun ls hl => ?_)
                      refine lv_aload_n hx hb dL_acts_744 rfl (lv_at hl 6 rfl) ?_
                      refine lv_iload hx hb dL_acts_745 (lv_at hl 14 rfl) ?_
                      refine lv_iload hx hb dL_acts_747 (lv_at hl 2 rfl) ?_
                      refine lv_iload hx hb dL_acts_749 (lv_at hl 3 rfl) ?_
                      refine lv_iload hx hb dL_acts_751 (lv_at hl 15 rfl) ?_
                      refine q_wx (rx_SX S ⟨m_546, m_547, m_22, m_548⟩ ⟨rfl, by decide, by decide, by decide +kernel⟩ (kL_count l G t σ nm ns (nI k) (nI pe) (nI i) (nI q) hst hns hns4 hnm hnm2 (AO t) hJ.dT) ⟨rfl, rfl, Nat.le_of_ble_eq_true rfl, Nat.le_of_ble_eq_true rfl⟩ (ps bl_PXZ (bXZ (hWq199.xt hK) ((hZ0.at hSq199 (fun _ h => h)).zs))) (n := 5) (As := [.ref (t 0), .int (nI k), .int (nI pe), .int (nI i), .int (nI q)]) (rest := []) rfl hl.1 rfl (Nat.le_of_ble_eq_true rfl) ⟨Nat.le_of_ble_eq_true rfl, Nat.le_of_ble_eq_true rfl⟩ dL_acts_753) hSq199 (fun _ h => h.inT) (fun rq200 Hq200 Lq200 eq200 gq200 fq200 hSq200 => ?_)
                      subst eq200
                      rw [show (if eX_count σ (nI k) (nI pe) (nI i) (nI q) = 0 then (adS σ (lnN (nI k) (nI i)) (nI pe) (nI q)) else σ) = σ from if_neg (ne0 (k := 2) (eC_a hns hns4 hk hi hpe hq e9 g2))] at gq200
                      have hWq200 := hWq199.wt hJ gq200 fq200
                      refine k_eq (y := (-1000003)) (hcV_3 (eC_a hns hns4 hk hi hpe hq e9 g2)) ?_
                      refine lv_iload hx hb dL_acts_756 (lv_at hl 0 rfl) ?_
                      refine lv_icmp_ne (tgt := 836) hx hb dL_acts_758 (by decide) (fun c758_201 => absurd (by decide) c758_201) (fun c758_201 => ?_)
                      refine lv_aload_n hx hb dL_acts_761 rfl (lv_at hl 5 rfl) ?_
                      refine lv_iload hx hb dL_acts_762 (lv_at hl 14 rfl) ?_
                      refine q_wx (rx_SX S ⟨m_462, m_463, m_22, m_464⟩ ⟨rfl, by decide, by decide, by decide +kernel⟩ (kL_stateOf l G o σ nm ns (nI k) hst hns hns4 hnm hnm2) ⟨rfl, rfl, Nat.le_of_ble_eq_true rfl, Nat.le_of_ble_eq_true rfl⟩ (ps bl_PXZ (bXZ (hWq200.xo hK) ((hZ0.at hSq200 (fun _ h => h)).zs))) (n := 2) (As := [.ref (o 0), .int (nI k)]) (rest := []) rfl hl.1 rfl (Nat.le_of_ble_eq_true rfl) ⟨Nat.le_of_ble_eq_true rfl, Nat.le_of_ble_eq_true rfl⟩ dL_acts_764) hSq200 (fun _ h => h.elim) (fun rq202 Hq202 Lq202 eq202 gq202 fq202 hSq202 => ?_)
                      subst eq202
                      have hWq202 := hWq200.rd fq202
                      refine k_eq (y := 0) (tV_st0 hns hns4 hk e9) ?_
                      refine lv_iconst (v := 1) hx hb dL_acts_767 (by decide) ?_
                      refine lv_icmp_eq (tgt := 784) hx hb dL_acts_768 (by decide) (fun c768_203 => absurd c768_203 (by decide)) (fun c768_203 => ?_)
                      refine lv_aload hx hb dL_acts_771 (lv_at hl 9 rfl) ?_
                      refine lv_iconst (v := 5) hx hb dL_acts_773 (by decide) ?_
                      refine lv_iload hx hb dL_acts_774 (lv_at hl 14 rfl) ?_
                      refine lv_imul hx hb dL_acts_776 ?_
                      refine k_eq (y := nI (5 * k)) (pk_mul 5 k) ?_
                      refine lv_iload hx hb dL_acts_777 (lv_at hl 3 rfl) ?_
                      refine lv_iadd hx hb dL_acts_779 ?_
                      refine k_eq (y := nI (5 * k + i)) (nI_add (5 * k) i) ?_
                      refine k_ldQ S hK hWq202 2 (by decide) (i := (5 * k + i)) (show (5 * k + i) < 60 by omega) dL_acts_780 ?_
                      refine k_eq (y := σ 13 (k * 5 + i)) ((by rw [hA.ac (5 * k + i) (by omega), Nat.mul_comm 5 k])) ?_
                      refine lv_if_lt (tgt := 794) hx hb dL_acts_781 (by decide) (fun c781_204 => absurd c781_204 (by rw [g1]; exact nI_pos (by omega))) (fun c781_204 => ?_)
                      refine lv_iload hx hb dL_acts_784 (lv_at hl 0 rfl) ?_
                      refine lv_ldc (v := (-1000003)) hx hb S.2.2.2.1 (S.2.2.2.2 _ m_427) dL_acts_786 ?_
                      refine lv_icmp_ne (tgt := 836) hx hb dL_acts_788 (by decide) (fun c788_205 => absurd (by decide) c788_205) (fun c788_205 => ?_)
                      refine lv_goto (tgt := 832) hx hb dL_acts_791 (by decide) ?_
                      refine lv_iconst (v := 1) hx hb dL_acts_832 (by decide) ?_
                      refine lv_goto (tgt := 837) hx hb dL_acts_833 (by decide) ?_
                      refine lv_istore (lv' := [(16, .int 1), (15, .int (-1000003)), (13, .int (nI c9)), (11, .int (nI pe)), (10, .int (nI i)), (9, .int (nI kd)), (0, .ref (o 0)), (1, .ref (t 0)), (2, .ref (a 0)), (3, .ref (a 1)), (4, .ref (a 2)), (5, .ref (a 3)), (6, .ref (a 4)), (7, .int x), (8, .int y), (12, .int (nI k)), (14, .int (nI q))]) hx hb dL_acts_837 hl (by decide) rfl (fun ls hl => ?_)
                      refine lv_iload hx hb dL_acts_839 (lv_at hl 0 rfl) ?_
                      refine lv_if_eq (tgt := 878) hx hb dL_acts_841 (by decide) (fun c841_206 => absurd c841_206 (by decide)) (fun c841_206 => ?_)
                      refine lv_iload hx hb dL_acts_844 (lv_at hl 1 rfl) ?_
                      refine lv_if_lt (tgt := 874) hx hb dL_acts_846 (by decide) (fun c846_207 => ?_) (fun c846_207 => absurd (by decide) c846_207)
                      refine lv_iconst (v := 1) hx hb dL_acts_874 (by decide) ?_
                      refine lv_goto (tgt := 879) hx hb dL_acts_875 (by decide) ?_
                      refine lv_istore (lv' := [(16, .int 1), (15, .int (-1000003)), (13, .int (nI c9)), (11, .int (nI pe)), (10, .int (nI i)), (9, .int (nI kd)), (0, .ref (o 0)), (1, .ref (t 0)), (2, .ref (a 0)), (3, .ref (a 1)), (4, .ref (a 2)), (5, .ref (a 3)), (6, .ref (a 4)), (7, .int x), (8, .int y), (12, .int (nI k)), (14, .int (nI q))]) hx hb dL_acts_879 hl (by decide) rfl (fun ls hl => ?_)
                      refine lv_aload hx hb dL_acts_881 (lv_at hl 10 rfl) ?_
                      refine lv_iconst (v := 5) hx hb dL_acts_883 (by decide) ?_
                      refine lv_iload hx hb dL_acts_884 (lv_at hl 15 rfl) ?_
                      refine lv_imul hx hb dL_acts_886 ?_
                      refine k_eq (y := nI (5 * k)) (pk_mul 5 k) ?_
                      refine lv_iload hx hb dL_acts_887 (lv_at hl 4 rfl) ?_
                      refine lv_iadd hx hb dL_acts_889 ?_
                      refine k_eq (y := nI (5 * k + i)) (nI_add (5 * k) i) ?_
                      refine lv_iload hx hb dL_acts_890 (lv_at hl 1 rfl) ?_
                      refine lv_iconst (v := 1) hx hb dL_acts_892 (by decide) ?_
                      refine lv_icmp_ne (tgt := 907) hx hb dL_acts_893 (by decide) (fun c893_208 => ?_) (fun c893_208 => absurd c893_208 (by decide))
                      refine lv_aload hx hb dL_acts_907 (lv_at hl 10 rfl) ?_
                      refine lv_iconst (v := 5) hx hb dL_acts_909 (by decide) ?_
                      refine lv_iload hx hb dL_acts_910 (lv_at hl 15 rfl) ?_
                      refine lv_imul hx hb dL_acts_912 ?_
                      refine k_eq (y := nI (5 * k)) (pk_mul 5 k) ?_
                      refine lv_iload hx hb dL_acts_913 (lv_at hl 4 rfl) ?_
                      refine lv_iadd hx hb dL_acts_915 ?_
                      refine k_eq (y := nI (5 * k + i)) (nI_add (5 * k) i) ?_
                      refine k_ldQ S hK hWq202 2 (by decide) (i := (5 * k + i)) (show (5 * k + i) < 60 by omega) dL_acts_916 ?_
                      refine k_eq (y := σ 13 (k * 5 + i)) ((by rw [hA.ac (5 * k + i) (by omega), Nat.mul_comm 5 k])) ?_
                      refine k_stQ S hK hJ hWq202 hSq202 (fun _ h => h) 2 (by decide) (i := (5 * k + i)) (show (5 * k + i) < 60 by omega) dL_acts_917 (fun Hq209 Lq209 hWq209 hSq209 => ?_)
                      have hWq209 : WQ G o t a σ σ α Hq209 := by rw [show α = su α 2 (5 * k + i) (σ 13 (k * 5 + i)) from (su_same (by rw [hA.ac (5 * k + i) (by omega), Nat.mul_comm 5 k])).symm]; exact hWq209
                      refine lv_iload hx hb dL_acts_918 (lv_at hl 0 rfl) ?_
                      refine lv_if_eq (tgt := 974) hx hb dL_acts_920 (by decide) (fun c920_210 => absurd c920_210 (by decide)) (fun c920_210 => ?_)
                      refine lv_iload hx hb dL_acts_923 (lv_at hl 1 rfl) ?_
                      refine lv_iconst (v := 1) hx hb dL_acts_925 (by decide) ?_
                      refine lv_icmp_ne (tgt := 948) hx hb dL_acts_926 (by decide) (fun c926_211 => ?_) (fun c926_211 => absurd c926_211 (by decide))
                      refine lv_iload hx hb dL_acts_948 (lv_at hl 1 rfl) ?_
                      refine lv_if_lt (tgt := 970) hx hb dL_acts_950 (by decide) (fun c950_212 => ?_) (fun c950_212 => absurd (by decide) c950_212)
                      refine lv_iconst (v := 1) hx hb dL_acts_970 (by decide) ?_
                      refine lv_goto (tgt := 975) hx hb dL_acts_971 (by decide) ?_
                      refine lv_istore (lv' := [(16, .int 1), (15, .int (-1000003)), (13, .int (nI c9)), (11, .int (nI pe)), (10, .int (nI i)), (9, .int (nI kd)), (0, .ref (o 0)), (1, .ref (t 0)), (2, .ref (a 0)), (3, .ref (a 1)), (4, .ref (a 2)), (5, .ref (a 3)), (6, .ref (a 4)), (7, .int x), (8, .int y), (12, .int (nI k)), (14, .int (nI q))]) hx hb dL_acts_975 hl (by decide) rfl (fun ls hl => ?_)
                      refine lv_iload hx hb dL_acts_977 (lv_at hl 0 rfl) ?_
                      refine lv_if_eq (tgt := 1019) hx hb dL_acts_979 (by decide) (fun c979_213 => absurd c979_213 (by decide)) (fun c979_213 => ?_)
                      refine lv_aload_n hx hb dL_acts_982 rfl (lv_at hl 6 rfl) ?_
                      refine lv_iload hx hb dL_acts_983 (lv_at hl 15 rfl) ?_
                      refine lv_iload hx hb dL_acts_985 (lv_at hl 3 rfl) ?_
                      refine lv_iload hx hb dL_acts_987 (lv_at hl 4 rfl) ?_
                      refine lv_ldc (v := 100001) hx hb S.2.2.2.1 (S.2.2.2.2 _ m_584) dL_acts_989 ?_
                      refine q_wx (rx_SX S ⟨m_546, m_547, m_22, m_548⟩ ⟨rfl, by decide, by decide, by decide +kernel⟩ (kL_count l G o σ nm ns (nI k) (nI pe) (nI i) 100001 hst hns hns4 hnm hnm2 (AO o) hJ.dO) ⟨rfl, rfl, Nat.le_of_ble_eq_true rfl, Nat.le_of_ble_eq_true rfl⟩ (ps bl_PXZ (bXZ (hWq209.xo hK) ((hZ0.at hSq209 (fun _ h => h)).zs))) (n := 5) (As := [.ref (o 0), .int (nI k), .int (nI pe), .int (nI i), .int 100001]) (rest := []) rfl hl.1 rfl (Nat.le_of_ble_eq_true rfl) ⟨Nat.le_of_ble_eq_true rfl, Nat.le_of_ble_eq_true rfl⟩ dL_acts_991) hSq209 (fun _ h => h.inO) (fun rq214 Hq214 Lq214 eq214 gq214 fq214 hSq214 => ?_)
                      subst eq214
                      rw [show (if eX_count σ (nI k) (nI pe) (nI i) 100001 = 0 then (adS σ (lnN (nI k) (nI i)) (nI pe) 100001) else σ) = σ from if_neg (ne0 (k := 1) (eC_2 hns hns4 hk hi hpe))] at gq214
                      have hWq214 := hWq209.wo hJ gq214 fq214
                      refine k_eq (y := (-1000002)) (hcV_2 (eC_2 hns hns4 hk hi hpe)) ?_
                      refine lv_ldc (v := (-1000002)) hx hb S.2.2.2.1 (S.2.2.2.2 _ m_394) dL_acts_994 ?_
                      refine lv_icmp_ne (tgt := 1019) hx hb dL_acts_996 (by decide) (fun c996_215 => absurd (by decide) c996_215) (fun c996_215 => ?_)
                      refine lv_aload_n hx hb dL_acts_999 rfl (lv_at hl 6 rfl) ?_
                      refine lv_iload hx hb dL_acts_1000 (lv_at hl 15 rfl) ?_
                      refine lv_bipush (v := 6) hx hb dL_acts_1002 (by decide) ?_
                      refine lv_iload hx hb dL_acts_1004 (lv_at hl 4 rfl) ?_
                      refine lv_iconst (v := (-1)) hx hb dL_acts_1006 (by decide) ?_
                      refine q_wx (rx_SX S ⟨m_546, m_547, m_22, m_548⟩ ⟨rfl, by decide, by decide, by decide +kernel⟩ (kL_count l G o σ nm ns (nI k) 6 (nI i) (-1) hst hns hns4 hnm hnm2 (AO o) hJ.dO) ⟨rfl, rfl, Nat.le_of_ble_eq_true rfl, Nat.le_of_ble_eq_true rfl⟩ (ps bl_PXZ (bXZ (hWq214.xo hK) ((hZ0.at hSq214 (fun _ h => h)).zs))) (n := 5) (As := [.ref (o 0), .int (nI k), .int 6, .int (nI i), .int (-1)]) (rest := []) rfl hl.1 rfl (Nat.le_of_ble_eq_true rfl) ⟨Nat.le_of_ble_eq_true rfl, Nat.le_of_ble_eq_true rfl⟩ dL_acts_1007) hSq214 (fun _ h => h.inO) (fun rq216 Hq216 Lq216 eq216 gq216 fq216 hSq216 => ?_)
                      subst eq216
                      rw [show (if eX_count σ (nI k) 6 (nI i) (-1) = 0 then (adS σ (lnN (nI k) (nI i)) 6 (-1)) else σ) = σ from if_neg (ne0 (k := 0) (eC_6 hns hns4 hk))] at gq216
                      have hWq216 := hWq214.wo hJ gq216 fq216
                      refine k_eq (y := (-1000001)) (hcV_1 (eC_6 hns hns4 hk)) ?_
                      refine lv_ldc (v := (-1000001)) hx hb S.2.2.2.1 (S.2.2.2.2 _ m_294) dL_acts_1010 ?_
                      refine lv_icmp_ne (tgt := 1019) hx hb dL_acts_1012 (by decide) (fun c1012_217 => absurd (by decide) c1012_217) (fun c1012_217 => ?_)
                      refine lv_iconst (v := 1) hx hb dL_acts_1015 (by decide) ?_
                      refine lv_goto (tgt := 1020) hx hb dL_acts_1016 (by decide) ?_
                      refine W.widen (k := 70) (n := 420) (by first | omega | exact Nat.le_of_ble_eq_true rfl) (by first | omega | exact Nat.le_of_ble_eq_true rfl) ?_
                      exact W.zret (v := 1) (ty := .boolean) hx hb hr (by first | rfl | exact bI_nar _) (fun t9 ht hWz => ⟨⟨_, rfl, rfl⟩, by rw [ht]; exact ⟨σ, α, hI.up.ri, hWq216⟩, hSq216.F ht⟩) hSq216.2.2 dL_acts_1020
                  · skip
                    have e8 : ¬ σ 9 k = 0 := by rw [e9]; decide
                    refine lv_aload_n hx hb dL_acts_730 rfl (lv_at hl 4 rfl) ?_
                    refine lv_iload hx hb dL_acts_731 (lv_at hl 13 rfl) ?_
                    refine lv_iload hx hb dL_acts_733 (lv_at hl 1 rfl) ?_
                    refine lv_iload hx hb dL_acts_735 (lv_at hl 2 rfl) ?_
                    refine lv_iload hx hb dL_acts_737 (lv_at hl 14 rfl) ?_
                    refine q_wx (rx_SX S ⟨m_546, m_547, m_22, m_548⟩ ⟨rfl, by decide, by decide, by decide +kernel⟩ (kL_count l G o σ nm ns (nI k) (nI pe) (nI i) (nI q) hst hns hns4 hnm hnm2 (AO o) hJ.dO) ⟨rfl, rfl, Nat.le_of_ble_eq_true rfl, Nat.le_of_ble_eq_true rfl⟩ (ps bl_PXZ (bXZ (hW.xo hK) ((hZ0.at hS (fun _ h => h)).zs))) (n := 5) (As := [.ref (o 0), .int (nI k), .int (nI pe), .int (nI i), .int (nI q)]) (rest := []) rfl hl.1 rfl (Nat.le_of_ble_eq_true rfl) ⟨Nat.le_of_ble_eq_true rfl, Nat.le_of_ble_eq_true rfl⟩ dL_acts_739) hS (fun _ h => h.inO) (fun rq218 Hq218 Lq218 eq218 gq218 fq218 hSq218 => ?_)
                    subst eq218
                    rw [show (if eX_count σ (nI k) (nI pe) (nI i) (nI q) = 0 then (adS σ (lnN (nI k) (nI i)) (nI pe) (nI q)) else σ) = σ from if_neg (ne0 (k := 2) (eC_s hns hns4 hk hi hpe hq e8))] at gq218
                    have hWq218 := hW.wo hJ gq218 fq218
                    refine k_eq (y := (-1000003)) (hcV_3 (eC_s hns hns4 hk hi hpe hq e8)) ?_
                    refine lv_istore (lv' := [(15, .int (-1000003)), (13, .int (nI c9)), (11, .int (nI pe)), (10, .int (nI i)), (9, .int (nI kd)), (0, .ref (o 0)), (1, .ref (t 0)), (2, .ref (a 0)), (3, .ref (a 1)), (4, .ref (a 2)), (5, .ref (a 3)), (6, .ref (a 4)), (7, .int x), (8, .int y), (12, .int (nI k)), (14, .int (nI q))]) hx hb dL_acts_742 hl (by decide) rfl (fun ls hl => ?_)
                    refine lv_aload_n hx hb dL_acts_744 rfl (lv_at hl 6 rfl) ?_
                    refine lv_iload hx hb dL_acts_745 (lv_at hl 14 rfl) ?_
                    refine lv_iload hx hb dL_acts_747 (lv_at hl 2 rfl) ?_
                    refine lv_iload hx hb dL_acts_749 (lv_at hl 3 rfl) ?_
                    refine lv_iload hx hb dL_acts_751 (lv_at hl 15 rfl) ?_
                    refine q_wx (rx_SX S ⟨m_546, m_547, m_22, m_548⟩ ⟨rfl, by decide, by decide, by decide +kernel⟩ (kL_count l G t σ nm ns (nI k) (nI pe) (nI i) (nI q) hst hns hns4 hnm hnm2 (AO t) hJ.dT) ⟨rfl, rfl, Nat.le_of_ble_eq_true rfl, Nat.le_of_ble_eq_true rfl⟩ (ps bl_PXZ (bXZ (hWq218.xt hK) ((hZ0.at hSq218 (fun _ h => h)).zs))) (n := 5) (As := [.ref (t 0), .int (nI k), .int (nI pe), .int (nI i), .int (nI q)]) (rest := []) rfl hl.1 rfl (Nat.le_of_ble_eq_true rfl) ⟨Nat.le_of_ble_eq_true rfl, Nat.le_of_ble_eq_true rfl⟩ dL_acts_753) hSq218 (fun _ h => h.inT) (fun rq219 Hq219 Lq219 eq219 gq219 fq219 hSq219 => ?_)
                    subst eq219
                    rw [show (if eX_count σ (nI k) (nI pe) (nI i) (nI q) = 0 then (adS σ (lnN (nI k) (nI i)) (nI pe) (nI q)) else σ) = σ from if_neg (ne0 (k := 2) (eC_s hns hns4 hk hi hpe hq e8))] at gq219
                    have hWq219 := hWq218.wt hJ gq219 fq219
                    refine k_eq (y := (-1000003)) (hcV_3 (eC_s hns hns4 hk hi hpe hq e8)) ?_
                    refine lv_iload hx hb dL_acts_756 (lv_at hl 0 rfl) ?_
                    refine lv_icmp_ne (tgt := 836) hx hb dL_acts_758 (by decide) (fun c758_220 => absurd (by decide) c758_220) (fun c758_220 => ?_)
                    refine lv_aload_n hx hb dL_acts_761 rfl (lv_at hl 5 rfl) ?_
                    refine lv_iload hx hb dL_acts_762 (lv_at hl 14 rfl) ?_
                    refine q_wx (rx_SX S ⟨m_462, m_463, m_22, m_464⟩ ⟨rfl, by decide, by decide, by decide +kernel⟩ (kL_stateOf l G o σ nm ns (nI k) hst hns hns4 hnm hnm2) ⟨rfl, rfl, Nat.le_of_ble_eq_true rfl, Nat.le_of_ble_eq_true rfl⟩ (ps bl_PXZ (bXZ (hWq219.xo hK) ((hZ0.at hSq219 (fun _ h => h)).zs))) (n := 2) (As := [.ref (o 0), .int (nI k)]) (rest := []) rfl hl.1 rfl (Nat.le_of_ble_eq_true rfl) ⟨Nat.le_of_ble_eq_true rfl, Nat.le_of_ble_eq_true rfl⟩ dL_acts_764) hSq219 (fun _ h => h.elim) (fun rq221 Hq221 Lq221 eq221 gq221 fq221 hSq221 => ?_)
                    subst eq221
                    have hWq221 := hWq219.rd fq221
                    refine k_eq (y := 1) (tV_st1 hns hns4 hk e8) ?_
                    refine lv_iconst (v := 1) hx hb dL_acts_767 (by decide) ?_
                    refine lv_icmp_eq (tgt := 784) hx hb dL_acts_768 (by decide) (fun c768_222 => ?_) (fun c768_222 => absurd (by decide) c768_222)
                    refine lv_iload hx hb dL_acts_784 (lv_at hl 0 rfl) ?_
                    refine lv_ldc (v := (-1000003)) hx hb S.2.2.2.1 (S.2.2.2.2 _ m_427) dL_acts_786 ?_
                    refine lv_icmp_ne (tgt := 836) hx hb dL_acts_788 (by decide) (fun c788_223 => absurd (by decide) c788_223) (fun c788_223 => ?_)
                    refine lv_goto (tgt := 832) hx hb dL_acts_791 (by decide) ?_
                    refine lv_iconst (v := 1) hx hb dL_acts_832 (by decide) ?_
                    refine lv_goto (tgt := 837) hx hb dL_acts_833 (by decide) ?_
                    refine lv_istore (lv' := [(16, .int 1), (15, .int (-1000003)), (13, .int (nI c9)), (11, .int (nI pe)), (10, .int (nI i)), (9, .int (nI kd)), (0, .ref (o 0)), (1, .ref (t 0)), (2, .ref (a 0)), (3, .ref (a 1)), (4, .ref (a 2)), (5, .ref (a 3)), (6, .ref (a 4)), (7, .int x), (8, .int y), (12, .int (nI k)), (14, .int (nI q))]) hx hb dL_acts_837 hl (by decide) rfl (fun ls hl => ?_)
                    refine lv_iload hx hb dL_acts_839 (lv_at hl 0 rfl) ?_
                    refine lv_if_eq (tgt := 878) hx hb dL_acts_841 (by decide) (fun c841_224 => absurd c841_224 (by decide)) (fun c841_224 => ?_)
                    refine lv_iload hx hb dL_acts_844 (lv_at hl 1 rfl) ?_
                    refine lv_if_lt (tgt := 874) hx hb dL_acts_846 (by decide) (fun c846_225 => ?_) (fun c846_225 => absurd (by decide) c846_225)
                    refine lv_iconst (v := 1) hx hb dL_acts_874 (by decide) ?_
                    refine lv_goto (tgt := 879) hx hb dL_acts_875 (by decide) ?_
                    refine lv_istore (lv' := [(16, .int 1), (15, .int (-1000003)), (13, .int (nI c9)), (11, .int (nI pe)), (10, .int (nI i)), (9, .int (nI kd)), (0, .ref (o 0)), (1, .ref (t 0)), (2, .ref (a 0)), (3, .ref (a 1)), (4, .ref (a 2)), (5, .ref (a 3)), (6, .ref (a 4)), (7, .int x), (8, .int y), (12, .int (nI k)), (14, .int (nI q))]) hx hb dL_acts_879 hl (by decide) rfl (fun ls hl => ?_)
                    refine lv_aload hx hb dL_acts_881 (lv_at hl 10 rfl) ?_
                    refine lv_iconst (v := 5) hx hb dL_acts_883 (by decide) ?_
                    refine lv_iload hx hb dL_acts_884 (lv_at hl 15 rfl) ?_
                    refine lv_imul hx hb dL_acts_886 ?_
                    refine k_eq (y := nI (5 * k)) (pk_mul 5 k) ?_
                    refine lv_iload hx hb dL_acts_887 (lv_at hl 4 rfl) ?_
                    refine lv_iadd hx hb dL_acts_889 ?_
                    refine k_eq (y := nI (5 * k + i)) (nI_add (5 * k) i) ?_
                    refine lv_iload hx hb dL_acts_890 (lv_at hl 1 rfl) ?_
                    refine lv_iconst (v := 1) hx hb dL_acts_892 (by decide) ?_
                    refine lv_icmp_ne (tgt := 907) hx hb dL_acts_893 (by decide) (fun c893_226 => ?_) (fun c893_226 => absurd c893_226 (by decide))
                    refine lv_aload hx hb dL_acts_907 (lv_at hl 10 rfl) ?_
                    refine lv_iconst (v := 5) hx hb dL_acts_909 (by decide) ?_
                    refine lv_iload hx hb dL_acts_910 (lv_at hl 15 rfl) ?_
                    refine lv_imul hx hb dL_acts_912 ?_
                    refine k_eq (y := nI (5 * k)) (pk_mul 5 k) ?_
                    refine lv_iload hx hb dL_acts_913 (lv_at hl 4 rfl) ?_
                    refine lv_iadd hx hb dL_acts_915 ?_
                    refine k_eq (y := nI (5 * k + i)) (nI_add (5 * k) i) ?_
                    refine k_ldQ S hK hWq221 2 (by decide) (i := (5 * k + i)) (show (5 * k + i) < 60 by omega) dL_acts_916 ?_
                    refine k_eq (y := σ 13 (k * 5 + i)) ((by rw [hA.ac (5 * k + i) (by omega), Nat.mul_comm 5 k])) ?_
                    refine k_stQ S hK hJ hWq221 hSq221 (fun _ h => h) 2 (by decide) (i := (5 * k + i)) (show (5 * k + i) < 60 by omega) dL_acts_917 (fun Hq227 Lq227 hWq227 hSq227 => ?_)
                    have hWq227 : WQ G o t a σ σ α Hq227 := by rw [show α = su α 2 (5 * k + i) (σ 13 (k * 5 + i)) from (su_same (by rw [hA.ac (5 * k + i) (by omega), Nat.mul_comm 5 k])).symm]; exact hWq227
                    refine lv_iload hx hb dL_acts_918 (lv_at hl 0 rfl) ?_
                    refine lv_if_eq (tgt := 974) hx hb dL_acts_920 (by decide) (fun c920_228 => absurd c920_228 (by decide)) (fun c920_228 => ?_)
                    refine lv_iload hx hb dL_acts_923 (lv_at hl 1 rfl) ?_
                    refine lv_iconst (v := 1) hx hb dL_acts_925 (by decide) ?_
                    refine lv_icmp_ne (tgt := 948) hx hb dL_acts_926 (by decide) (fun c926_229 => ?_) (fun c926_229 => absurd c926_229 (by decide))
                    refine lv_iload hx hb dL_acts_948 (lv_at hl 1 rfl) ?_
                    refine lv_if_lt (tgt := 970) hx hb dL_acts_950 (by decide) (fun c950_230 => ?_) (fun c950_230 => absurd (by decide) c950_230)
                    refine lv_iconst (v := 1) hx hb dL_acts_970 (by decide) ?_
                    refine lv_goto (tgt := 975) hx hb dL_acts_971 (by decide) ?_
                    refine lv_istore (lv' := [(16, .int 1), (15, .int (-1000003)), (13, .int (nI c9)), (11, .int (nI pe)), (10, .int (nI i)), (9, .int (nI kd)), (0, .ref (o 0)), (1, .ref (t 0)), (2, .ref (a 0)), (3, .ref (a 1)), (4, .ref (a 2)), (5, .ref (a 3)), (6, .ref (a 4)), (7, .int x), (8, .int y), (12, .int (nI k)), (14, .int (nI q))]) hx hb dL_acts_975 hl (by decide) rfl (fun ls hl => ?_)
                    refine lv_iload hx hb dL_acts_977 (lv_at hl 0 rfl) ?_
                    refine lv_if_eq (tgt := 1019) hx hb dL_acts_979 (by decide) (fun c979_231 => absurd c979_231 (by decide)) (fun c979_231 => ?_)
                    refine lv_aload_n hx hb dL_acts_982 rfl (lv_at hl 6 rfl) ?_
                    refine lv_iload hx hb dL_acts_983 (lv_at hl 15 rfl) ?_
                    refine lv_iload hx hb dL_acts_985 (lv_at hl 3 rfl) ?_
                    refine lv_iload hx hb dL_acts_987 (lv_at hl 4 rfl) ?_
                    refine lv_ldc (v := 100001) hx hb S.2.2.2.1 (S.2.2.2.2 _ m_584) dL_acts_989 ?_
                    refine q_wx (rx_SX S ⟨m_546, m_547, m_22, m_548⟩ ⟨rfl, by decide, by decide, by decide +kernel⟩ (kL_count l G o σ nm ns (nI k) (nI pe) (nI i) 100001 hst hns hns4 hnm hnm2 (AO o) hJ.dO) ⟨rfl, rfl, Nat.le_of_ble_eq_true rfl, Nat.le_of_ble_eq_true rfl⟩ (ps bl_PXZ (bXZ (hWq227.xo hK) ((hZ0.at hSq227 (fun _ h => h)).zs))) (n := 5) (As := [.ref (o 0), .int (nI k), .int (nI pe), .int (nI i), .int 100001]) (rest := []) rfl hl.1 rfl (Nat.le_of_ble_eq_true rfl) ⟨Nat.le_of_ble_eq_true rfl, Nat.le_of_ble_eq_true rfl⟩ dL_acts_991) hSq227 (fun _ h => h.inO) (fun rq232 Hq232 Lq232 eq232 gq232 fq232 hSq232 => ?_)
                    subst eq232
                    rw [show (if eX_count σ (nI k) (nI pe) (nI i) 100001 = 0 then (adS σ (lnN (nI k) (nI i)) (nI pe) 100001) else σ) = σ from if_neg (ne0 (k := 1) (eC_2 hns hns4 hk hi hpe))] at gq232
                    have hWq232 := hWq227.wo hJ gq232 fq232
                    refine k_eq (y := (-1000002)) (hcV_2 (eC_2 hns hns4 hk hi hpe)) ?_
                    refine lv_ldc (v := (-1000002)) hx hb S.2.2.2.1 (S.2.2.2.2 _ m_394) dL_acts_994 ?_
                    refine lv_icmp_ne (tgt := 1019) hx hb dL_acts_996 (by decide) (fun c996_233 => absurd (by decide) c996_233) (fun c996_233 => ?_)
                    refine lv_aload_n hx hb dL_acts_999 rfl (lv_at hl 6 rfl) ?_
                    refine lv_iload hx hb dL_acts_1000 (lv_at hl 15 rfl) ?_
                    refine lv_bipush (v := 6) hx hb dL_acts_1002 (by decide) ?_
                    refine lv_iload hx hb dL_acts_1004 (lv_at hl 4 rfl) ?_
                    refine lv_iconst (v := (-1)) hx hb dL_acts_1006 (by decide) ?_
                    refine q_wx (rx_SX S ⟨m_546, m_547, m_22, m_548⟩ ⟨rfl, by decide, by decide, by decide +kernel⟩ (kL_count l G o σ nm ns (nI k) 6 (nI i) (-1) hst hns hns4 hnm hnm2 (AO o) hJ.dO) ⟨rfl, rfl, Nat.le_of_ble_eq_true rfl, Nat.le_of_ble_eq_true rfl⟩ (ps bl_PXZ (bXZ (hWq232.xo hK) ((hZ0.at hSq232 (fun _ h => h)).zs))) (n := 5) (As := [.ref (o 0), .int (nI k), .int 6, .int (nI i), .int (-1)]) (rest := []) rfl hl.1 rfl (Nat.le_of_ble_eq_true rfl) ⟨Nat.le_of_ble_eq_true rfl, Nat.le_of_ble_eq_true rfl⟩ dL_acts_1007) hSq232 (fun _ h => h.inO) (fun rq234 Hq234 Lq234 eq234 gq234 fq234 hSq234 => ?_)
                    subst eq234
                    rw [show (if eX_count σ (nI k) 6 (nI i) (-1) = 0 then (adS σ (lnN (nI k) (nI i)) 6 (-1)) else σ) = σ from if_neg (ne0 (k := 0) (eC_6 hns hns4 hk))] at gq234
                    have hWq234 := hWq232.wo hJ gq234 fq234
                    refine k_eq (y := (-1000001)) (hcV_1 (eC_6 hns hns4 hk)) ?_
                    refine lv_ldc (v := (-1000001)) hx hb S.2.2.2.1 (S.2.2.2.2 _ m_294) dL_acts_1010 ?_
                    refine lv_icmp_ne (tgt := 1019) hx hb dL_acts_1012 (by decide) (fun c1012_235 => absurd (by decide) c1012_235) (fun c1012_235 => ?_)
                    refine lv_iconst (v := 1) hx hb dL_acts_1015 (by decide) ?_
                    refine lv_goto (tgt := 1020) hx hb dL_acts_1016 (by decide) ?_
                    refine W.widen (k := 70) (n := 420) (by first | omega | exact Nat.le_of_ble_eq_true rfl) (by first | omega | exact Nat.le_of_ble_eq_true rfl) ?_
                    exact W.zret (v := 1) (ty := .boolean) hx hb hr (by first | rfl | exact bI_nar _) (fun t9 ht hWz => ⟨⟨_, rfl, rfl⟩, by rw [ht]; exact ⟨σ, α, hI.up.ri, hWq234⟩, hSq234.F ht⟩) hSq234.2.2 dL_acts_1020
                have J714 : ∀ (q0 : Nat) (hq0 : q0 < 1000000) (H9 : Heap) (L9 : List Loc), WQ G o t a σ σ α H9 → va_S ((AQ o t a)) s.heap H9 L9 → ∀ ls, lv_has ls 17 [(13, .int (nI c9)), (11, .int (nI pe)), (10, .int (nI i)), (9, .int (nI kd)), (0, .ref (o 0)), (1, .ref (t 0)), (2, .ref (a 0)), (3, .ref (a 1)), (4, .ref (a 2)), (5, .ref (a 3)), (6, .ref (a 4)), (7, .int x), (8, .int y), (12, .int (nI k)), (14, .int (nI q0))] → W p l e (({ frames := 11, cells := 70, slots := 420, locals := 270 }) : Room) s m [.ref (o 0), .ref (t 0), .ref (a 0), .ref (a 1), .ref (a 2), .ref (a 3), .ref (a 4), .int x, .int y].toArray below meth c H9 L9 (4) (24) (MQ below (oW (AQ o t a) (fun r => r = 1) (fun H9 => WI G o t a (n + 1) H9)) [.ref (o 0), .ref (t 0), .ref (a 0), .ref (a 1), .ref (a 2), .ref (a 3), .ref (a 4), .int x, .int y].toArray s 70 420 (AQ o t a)) (F0 m 714 ls []) := by
                  intro q0 hq0 H9 L9 hW hS ls hl
                  refine lv_iload hx hb dL_acts_714 (lv_at hl 14 rfl) ?_
                  refine lv_ldc (v := 100000) hx hb S.2.2.2.1 (S.2.2.2.2 _ m_585) dL_acts_716 ?_
                  refine lv_icmp_le (tgt := 726) hx hb dL_acts_718 (by decide) (fun cq => ?_) (fun cq => ?_)
                  · skip
                    refine lv_iload hx hb dL_acts_726 (lv_at hl 14 rfl) ?_
                    refine lv_istore (lv' := [(14, .int (nI q0)), (13, .int (nI c9)), (11, .int (nI pe)), (10, .int (nI i)), (9, .int (nI kd)), (0, .ref (o 0)), (1, .ref (t 0)), (2, .ref (a 0)), (3, .ref (a 1)), (4, .ref (a 2)), (5, .ref (a 3)), (6, .ref (a 4)), (7, .int x), (8, .int y), (12, .int (nI k))]) hx hb dL_acts_728 hl (by decide) rfl (fun ls hl => ?_)
                    have hq1 : q0 ≤ 100000 := by
                      have h9 := cq
                      rw [show (100000 : Int32) = nI 100000 from rfl, nI_leI (by omega) (by decide)] at h9
                      exact h9
                    refine W.widen (k := 4) (n := 24) (by omega) (by omega) ?_
                    exact J730 q0 hq1 H9 L9 hW hS ls (lv_sub hl [1, 2, 3, 4, 5, 6, 7, 8, 9, 10, 11, 12, 13, 14, 0] rfl)
                  · skip
                    refine lv_ldc (v := 100000) hx hb S.2.2.2.1 (S.2.2.2.2 _ m_585) dL_acts_721 ?_
                    refine k_eq (y := nI 100000) (rfl) ?_
                    refine lv_goto (tgt := 728) hx hb dL_acts_723 (by decide) ?_
                    refine lv_istore (lv' := [(14, .int (nI 100000)), (13, .int (nI c9)), (11, .int (nI pe)), (10, .int (nI i)), (9, .int (nI kd)), (0, .ref (o 0)), (1, .ref (t 0)), (2, .ref (a 0)), (3, .ref (a 1)), (4, .ref (a 2)), (5, .ref (a 3)), (6, .ref (a 4)), (7, .int x), (8, .int y), (12, .int (nI k))]) hx hb dL_acts_728 hl (by decide) rfl (fun ls hl => ?_)
                    refine W.widen (k := 4) (n := 24) (by omega) (by omega) ?_
                    exact J730 100000 (Nat.le_refl _) H9 L9 hW hS ls (lv_sub hl [1, 2, 3, 4, 5, 6, 7, 8, 9, 10, 11, 12, 13, 14, 0] rfl)
                refine lv_iload hx hb dL_acts_664 (lv_at hl 12 rfl) ?_
                refine lv_bipush (v := 6) hx hb dL_acts_666 (by decide) ?_
                refine lv_ishr hx hb dL_acts_668 ?_
                refine lv_iconst (v := 3) hx hb dL_acts_669 (by decide) ?_
                refine q_i (r_S S ⟨m_487, m_488, m_22, m_489⟩ ⟨rfl, by decide, by decide, by decide +kernel⟩ (kL_low l (y >>> (6 &&& 31)) 3 (by first | decide | omega) (by first | decide | omega)) ⟨rfl, rfl, Nat.le_of_ble_eq_true rfl, Nat.le_of_ble_eq_true rfl⟩ (ps bl_GL (bG hK.2)) (n := 2) (As := [.int (y >>> (6 &&& 31)), .int 3]) (rest := []) rfl hl.1 rfl (Nat.le_of_ble_eq_true rfl) ⟨Nat.le_of_ble_eq_true rfl, Nat.le_of_ble_eq_true rfl⟩ dL_acts_670) (fun rq237 ⟨v0, hv0, eq237⟩ => ?_)
                subst eq237
                refine lv_if_le (tgt := 702) hx hb dL_acts_673 (by decide) (fun cv => ?_) (fun cv => ?_)
                · skip
                  refine lv_iload hx hb dL_acts_702 (lv_at hl 12 rfl) ?_
                  refine lv_bipush (v := 8) hx hb dL_acts_704 (by decide) ?_
                  refine lv_ishr hx hb dL_acts_706 ?_
                  refine lv_ldc (v := 100001) hx hb S.2.2.2.1 (S.2.2.2.2 _ m_584) dL_acts_707 ?_
                  refine q_i (r_S S ⟨m_487, m_488, m_22, m_489⟩ ⟨rfl, by decide, by decide, by decide +kernel⟩ (kL_low l (y >>> (8 &&& 31)) 100001 (by first | decide | omega) (by first | decide | omega)) ⟨rfl, rfl, Nat.le_of_ble_eq_true rfl, Nat.le_of_ble_eq_true rfl⟩ (ps bl_GL (bG hK.2)) (n := 2) (As := [.int (y >>> (8 &&& 31)), .int 100001]) (rest := []) rfl hl.1 rfl (Nat.le_of_ble_eq_true rfl) ⟨Nat.le_of_ble_eq_true rfl, Nat.le_of_ble_eq_true rfl⟩ dL_acts_709) (fun rq239 ⟨v2, hv2, eq239⟩ => ?_)
                  subst eq239
                  refine lv_istore (lv' := [(14, .int (nI v2)), (13, .int (nI c9)), (11, .int (nI pe)), (10, .int (nI i)), (9, .int (nI kd)), (0, .ref (o 0)), (1, .ref (t 0)), (2, .ref (a 0)), (3, .ref (a 1)), (4, .ref (a 2)), (5, .ref (a 3)), (6, .ref (a 4)), (7, .int x), (8, .int y), (12, .int (nI k))]) hx hb dL_acts_712 hl (by decide) rfl (fun ls hl => ?_)
                  refine W.widen (k := 4) (n := 24) (by omega) (by omega) ?_
                  exact J714 v2 (by omega) Hq65 Lq65 hWq65 hSq65 ls (lv_sub hl [1, 2, 3, 4, 5, 6, 7, 8, 9, 10, 11, 12, 13, 14, 0] rfl)
                · skip
                  refine lv_aload_n hx hb dL_acts_676 rfl (lv_at hl 4 rfl) ?_
                  refine lv_aload_n hx hb dL_acts_677 rfl (lv_at hl 7 rfl) ?_
                  refine lv_iload hx hb dL_acts_678 (lv_at hl 13 rfl) ?_
                  refine k_ldQ S hK hWq65 1 (by decide) (i := k) (show k < 12 by omega) dL_acts_680 ?_
                  refine k_eq (y := nI pl) ((hA.ap k hk).trans hpl) ?_
                  refine lv_iload hx hb dL_acts_681 (lv_at hl 2 rfl) ?_
                  refine q_wx (rx_SX S ⟨m_306, m_307, m_22, m_308⟩ ⟨rfl, by decide, by decide, by decide +kernel⟩ (kL_book l G o σ nm ns (nI pl) (nI i) hst hns hns4 hnm hnm2) ⟨rfl, rfl, Nat.le_of_ble_eq_true rfl, Nat.le_of_ble_eq_true rfl⟩ (ps bl_PXZ (bXZ (hWq65.xo hK) ((hZ0.at hSq65 (fun _ h => h)).zs))) (n := 3) (As := [.ref (o 0), .int (nI pl), .int (nI i)]) (rest := []) rfl hl.1 rfl (Nat.le_of_ble_eq_true rfl) ⟨Nat.le_of_ble_eq_true rfl, Nat.le_of_ble_eq_true rfl⟩ dL_acts_683) hSq65 (fun _ h => h.elim) (fun rq240 Hq240 Lq240 eq240 gq240 fq240 hSq240 => ?_)
                  subst eq240
                  have hWq240 := hWq65.rd fq240
                  refine k_eq (y := boV σ nm ns (nI pl) i (σ 16 0)) (tV_book hpl2 hi) ?_
                  refine q_i (r_S S ⟨m_581, m_582, m_22, m_583⟩ ⟨rfl, by decide, by decide, by decide +kernel⟩ (kL_size l (boV σ nm ns (nI pl) i (σ 16 0))) ⟨rfl, rfl, Nat.le_of_ble_eq_true rfl, Nat.le_of_ble_eq_true rfl⟩ (ps bl_GL (bG hK.2)) (n := 1) (As := [.int (boV σ nm ns (nI pl) i (σ 16 0))]) (rest := []) rfl hl.1 rfl (Nat.le_of_ble_eq_true rfl) ⟨Nat.le_of_ble_eq_true rfl, Nat.le_of_ble_eq_true rfl⟩ dL_acts_686) (fun rq241 eq241 => ?_)
                  subst eq241
                  have hbu := hC.bo_u hn hi (nI pl) (σ 16 0)
                  obtain ⟨b9, hb9, -, eb9⟩ := sz_ab (x := boV σ nm ns (nI pl) i (σ 16 0)) (by omega) (by omega)
                  refine k_eq (y := nI b9) (eb9) ?_
                  refine lv_iload hx hb dL_acts_689 (lv_at hl 12 rfl) ?_
                  refine lv_bipush (v := 8) hx hb dL_acts_691 (by decide) ?_
                  refine lv_ishr hx hb dL_acts_693 ?_
                  refine lv_iconst (v := 3) hx hb dL_acts_694 (by decide) ?_
                  refine q_i (r_S S ⟨m_487, m_488, m_22, m_489⟩ ⟨rfl, by decide, by decide, by decide +kernel⟩ (kL_low l (y >>> (8 &&& 31)) 3 (by first | decide | omega) (by first | decide | omega)) ⟨rfl, rfl, Nat.le_of_ble_eq_true rfl, Nat.le_of_ble_eq_true rfl⟩ (ps bl_GL (bG hK.2)) (n := 2) (As := [.int (y >>> (8 &&& 31)), .int 3]) (rest := [.int (nI b9)]) rfl hl.1 rfl (Nat.le_of_ble_eq_true rfl) ⟨Nat.le_of_ble_eq_true rfl, Nat.le_of_ble_eq_true rfl⟩ dL_acts_695) (fun rq242 ⟨v1, hv1, eq242⟩ => ?_)
                  subst eq242
                  refine lv_iadd hx hb dL_acts_698 ?_
                  refine k_eq (y := nI (b9 + v1)) (nI_add b9 v1) ?_
                  refine lv_goto (tgt := 712) hx hb dL_acts_699 (by decide) ?_
                  refine lv_istore (lv' := [(14, .int (nI (b9 + v1))), (13, .int (nI c9)), (11, .int (nI pe)), (10, .int (nI i)), (9, .int (nI kd)), (0, .ref (o 0)), (1, .ref (t 0)), (2, .ref (a 0)), (3, .ref (a 1)), (4, .ref (a 2)), (5, .ref (a 3)), (6, .ref (a 4)), (7, .int x), (8, .int y), (12, .int (nI k))]) hx hb dL_acts_712 hl (by decide) rfl (fun ls hl => ?_)
                  refine W.widen (k := 4) (n := 24) (by omega) (by omega) ?_
                  exact J714 (b9 + v1) (by omega) Hq240 Lq240 hWq240 hSq240 ls (lv_sub hl [1, 2, 3, 4, 5, 6, 7, 8, 9, 10, 11, 12, 13, 14, 0] rfl)
            refine lv_iload hx hb dL_acts_587 (lv_at hl 10 rfl) ?_
            refine lv_bipush (v := 8) hx hb dL_acts_589 (by decide) ?_
            refine lv_ishr hx hb dL_acts_591 ?_
            refine lv_iconst (v := 3) hx hb dL_acts_592 (by decide) ?_
            refine q_i (r_S S ⟨m_487, m_488, m_22, m_489⟩ ⟨rfl, by decide, by decide, by decide +kernel⟩ (kL_low l (x >>> (8 &&& 31)) 3 (by first | decide | omega) (by first | decide | omega)) ⟨rfl, rfl, Nat.le_of_ble_eq_true rfl, Nat.le_of_ble_eq_true rfl⟩ (ps bl_GL (bG hK.2)) (n := 2) (As := [.int (x >>> (8 &&& 31)), .int 3]) (rest := []) rfl hl.1 rfl (Nat.le_of_ble_eq_true rfl) ⟨Nat.le_of_ble_eq_true rfl, Nat.le_of_ble_eq_true rfl⟩ dL_acts_593) (fun rq243 ⟨u0, hu0, eq243⟩ => ?_)
            subst eq243
            refine lv_if_le (tgt := 633) hx hb dL_acts_596 (by decide) (fun cu => ?_) (fun cu => ?_)
            · skip
              refine lv_iload hx hb dL_acts_633 (lv_at hl 10 rfl) ?_
              refine lv_bipush (v := 10) hx hb dL_acts_635 (by decide) ?_
              refine lv_ishr hx hb dL_acts_637 ?_
              refine lv_aload hx hb dL_acts_638 (lv_at hl 9 rfl) ?_
              refine lv_iconst (v := 2) hx hb dL_acts_640 (by decide) ?_
              refine k_ldQ S hK hW 4 (by decide) (i := 2) (show 2 < 3 by omega) dL_acts_641 ?_
              refine k_eq (y := nI ns) (hA.g2) ?_
              refine q_i (r_S S ⟨m_487, m_488, m_22, m_489⟩ ⟨rfl, by decide, by decide, by decide +kernel⟩ (kL_low l (x >>> (10 &&& 31)) ns (by first | decide | omega) (by first | decide | omega)) ⟨rfl, rfl, Nat.le_of_ble_eq_true rfl, Nat.le_of_ble_eq_true rfl⟩ (ps bl_GL (bG hK.2)) (n := 2) (As := [.int (x >>> (10 &&& 31)), .int (nI ns)]) (rest := []) rfl hl.1 rfl (Nat.le_of_ble_eq_true rfl) ⟨Nat.le_of_ble_eq_true rfl, Nat.le_of_ble_eq_true rfl⟩ dL_acts_642) (fun rq245 ⟨u2, hu2, eq245⟩ => ?_)
              subst eq245
              refine lv_istore (lv' := [(12, .int (nI u2)), (11, .int (nI pe)), (10, .int (nI i)), (9, .int (nI kd)), (0, .ref (o 0)), (1, .ref (t 0)), (2, .ref (a 0)), (3, .ref (a 1)), (4, .ref (a 2)), (5, .ref (a 3)), (6, .ref (a 4)), (7, .int x), (8, .int y)]) hx hb dL_acts_645 hl (by decide) rfl (fun ls hl => ?_)
              refine W.widen (k := 0) (n := 0) (by omega) (by omega) ?_
              exact J647 u2 (by omega) H9 L9 hW hS ls (lv_sub hl [1, 2, 3, 4, 5, 6, 7, 8, 9, 10, 11, 12, 0] rfl)
            · skip
              refine lv_aload hx hb dL_acts_599 (lv_at hl 9 rfl) ?_
              refine lv_iconst (v := 2) hx hb dL_acts_601 (by decide) ?_
              refine k_ldQ S hK hW 4 (by decide) (i := 2) (show 2 < 3 by omega) dL_acts_602 ?_
              refine k_eq (y := nI ns) (hA.g2) ?_
              refine lv_iconst (v := 1) hx hb dL_acts_603 (by decide) ?_
              refine lv_isub hx hb dL_acts_604 ?_
              refine k_eq (y := nI (ns - 1)) (pk_sub (a := ns) (b := 1) (by omega)) ?_
              refine lv_iload hx hb dL_acts_605 (lv_at hl 10 rfl) ?_
              refine lv_bipush (v := 10) hx hb dL_acts_607 (by decide) ?_
              refine lv_ishr hx hb dL_acts_609 ?_
              refine lv_aload hx hb dL_acts_610 (lv_at hl 9 rfl) ?_
              refine lv_iconst (v := 2) hx hb dL_acts_612 (by decide) ?_
              refine k_ldQ S hK hW 4 (by decide) (i := 2) (show 2 < 3 by omega) dL_acts_613 ?_
              refine k_eq (y := nI ns) (hA.g2) ?_
              refine lv_iconst (v := 3) hx hb dL_acts_614 (by decide) ?_
              refine lv_icmp_ge (tgt := 625) hx hb dL_acts_615 (by decide) (fun c3 => ?_) (fun c3 => ?_)
              · skip
                have hns3 : 3 ≤ ns := by
                  have h9 := c3
                  rw [show (3 : Int32) = nI 3 from rfl, nI_leI (by decide) (by omega)] at h9
                  exact h9
                refine lv_iconst (v := 3) hx hb dL_acts_625 (by decide) ?_
                refine q_i (r_S S ⟨m_487, m_488, m_22, m_489⟩ ⟨rfl, by decide, by decide, by decide +kernel⟩ (kL_low l (x >>> (10 &&& 31)) 3 (by first | decide | omega) (by first | decide | omega)) ⟨rfl, rfl, Nat.le_of_ble_eq_true rfl, Nat.le_of_ble_eq_true rfl⟩ (ps bl_GL (bG hK.2)) (n := 2) (As := [.int (x >>> (10 &&& 31)), .int 3]) (rest := [.int (nI (ns - 1))]) rfl hl.1 rfl (Nat.le_of_ble_eq_true rfl) ⟨Nat.le_of_ble_eq_true rfl, Nat.le_of_ble_eq_true rfl⟩ dL_acts_626) (fun rq247 ⟨u1, hu1, eq247⟩ => ?_)
                subst eq247
                refine lv_isub hx hb dL_acts_629 ?_
                refine k_eq (y := nI (ns - 1 - u1)) (pk_sub (by omega)) ?_
                refine lv_goto (tgt := 645) hx hb dL_acts_630 (by decide) ?_
                refine lv_istore (lv' := [(12, .int (nI (ns - 1 - u1))), (11, .int (nI pe)), (10, .int (nI i)), (9, .int (nI kd)), (0, .ref (o 0)), (1, .ref (t 0)), (2, .ref (a 0)), (3, .ref (a 1)), (4, .ref (a 2)), (5, .ref (a 3)), (6, .ref (a 4)), (7, .int x), (8, .int y)]) hx hb dL_acts_645 hl (by decide) rfl (fun ls hl => ?_)
                refine W.widen (k := 0) (n := 0) (by omega) (by omega) ?_
                exact J647 (ns - 1 - u1) (by omega) H9 L9 hW hS ls (lv_sub hl [1, 2, 3, 4, 5, 6, 7, 8, 9, 10, 11, 12, 0] rfl)
              · skip
                refine lv_aload hx hb dL_acts_618 (lv_at hl 9 rfl) ?_
                refine lv_iconst (v := 2) hx hb dL_acts_620 (by decide) ?_
                refine k_ldQ S hK hW 4 (by decide) (i := 2) (show 2 < 3 by omega) dL_acts_621 ?_
                refine k_eq (y := nI ns) (hA.g2) ?_
                refine lv_goto (tgt := 626) hx hb dL_acts_622 (by decide) ?_
                refine q_i (r_S S ⟨m_487, m_488, m_22, m_489⟩ ⟨rfl, by decide, by decide, by decide +kernel⟩ (kL_low l (x >>> (10 &&& 31)) ns (by first | decide | omega) (by first | decide | omega)) ⟨rfl, rfl, Nat.le_of_ble_eq_true rfl, Nat.le_of_ble_eq_true rfl⟩ (ps bl_GL (bG hK.2)) (n := 2) (As := [.int (x >>> (10 &&& 31)), .int (nI ns)]) (rest := [.int (nI (ns - 1))]) rfl hl.1 rfl (Nat.le_of_ble_eq_true rfl) ⟨Nat.le_of_ble_eq_true rfl, Nat.le_of_ble_eq_true rfl⟩ dL_acts_626) (fun rq248 ⟨u1, hu1, eq248⟩ => ?_)
                subst eq248
                refine lv_isub hx hb dL_acts_629 ?_
                refine k_eq (y := nI (ns - 1 - u1)) (pk_sub (by omega)) ?_
                refine lv_goto (tgt := 645) hx hb dL_acts_630 (by decide) ?_
                refine lv_istore (lv' := [(12, .int (nI (ns - 1 - u1))), (11, .int (nI pe)), (10, .int (nI i)), (9, .int (nI kd)), (0, .ref (o 0)), (1, .ref (t 0)), (2, .ref (a 0)), (3, .ref (a 1)), (4, .ref (a 2)), (5, .ref (a 3)), (6, .ref (a 4)), (7, .int x), (8, .int y)]) hx hb dL_acts_645 hl (by decide) rfl (fun ls hl => ?_)
                refine W.widen (k := 0) (n := 0) (by omega) (by omega) ?_
                exact J647 (ns - 1 - u1) (by omega) H9 L9 hW hS ls (lv_sub hl [1, 2, 3, 4, 5, 6, 7, 8, 9, 10, 11, 12, 0] rfl)
          · skip
            have hz0 : σ 18 0 = 0 := hns.trans c0
            refine lv_aload_n hx hb dL_acts_546 rfl (lv_at hl 3 rfl) ?_
            refine lv_iconst (v := 0) hx hb dL_acts_547 (by decide) ?_
            refine lv_iconst (v := 0) hx hb dL_acts_548 (by decide) ?_
            refine lv_iconst (v := 0) hx hb dL_acts_549 (by decide) ?_
            refine lv_iconst (v := 0) hx hb dL_acts_550 (by decide) ?_
            refine q_wx (rx_SX S ⟨m_546, m_547, m_22, m_548⟩ ⟨rfl, by decide, by decide, by decide +kernel⟩ (kL_count l G o σ nm ns 0 0 0 0 hst hns hns4 hnm hnm2 (AO o) hJ.dO) ⟨rfl, rfl, Nat.le_of_ble_eq_true rfl, Nat.le_of_ble_eq_true rfl⟩ (ps bl_PXZ (bXZ (hW.xo hK) ((hZ0.at hS (fun _ h => h)).zs))) (n := 5) (As := [.ref (o 0), .int 0, .int 0, .int 0, .int 0]) (rest := []) rfl hl.1 rfl (Nat.le_of_ble_eq_true rfl) ⟨Nat.le_of_ble_eq_true rfl, Nat.le_of_ble_eq_true rfl⟩ dL_acts_551) hS (fun _ h => h.inO) (fun rq249 Hq249 Lq249 eq249 gq249 fq249 hSq249 => ?_)
            subst eq249
            rw [show (if eX_count σ 0 0 0 0 = 0 then (adS σ (lnN 0 0) 0 0) else σ) = σ from if_neg (ne0 (k := 0) (eC_1 hz0))] at gq249
            have hWq249 := hW.wo hJ gq249 fq249
            refine k_eq (y := (-1000001)) (hcV_1 (eC_1 hz0)) ?_
            refine lv_ldc (v := (-1000001)) hx hb S.2.2.2.1 (S.2.2.2.2 _ m_294) dL_acts_554 ?_
            refine lv_icmp_ne (tgt := 585) hx hb dL_acts_556 (by decide) (fun c556_250 => absurd (by decide) c556_250) (fun c556_250 => ?_)
            refine lv_aload_n hx hb dL_acts_559 rfl (lv_at hl 3 rfl) ?_
            refine lv_iconst (v := 0) hx hb dL_acts_560 (by decide) ?_
            refine q_wx (rx_SX S ⟨m_573, m_574, m_22, m_575⟩ ⟨rfl, by decide, by decide, by decide +kernel⟩ (kL_close l G o σ nm ns 0 hst hns hns4 hnm hnm2 (AO o) hJ.dO) ⟨rfl, rfl, Nat.le_of_ble_eq_true rfl, Nat.le_of_ble_eq_true rfl⟩ (ps bl_PXZ (bXZ (hWq249.xo hK) ((hZ0.at hSq249 (fun _ h => h)).zs))) (n := 2) (As := [.ref (o 0), .int 0]) (rest := []) rfl hl.1 rfl (Nat.le_of_ble_eq_true rfl) ⟨Nat.le_of_ble_eq_true rfl, Nat.le_of_ble_eq_true rfl⟩ dL_acts_561) hSq249 (fun _ h => h.inO) (fun rq251 Hq251 Lq251 eq251 gq251 fq251 hSq251 => ?_)
            subst eq251
            rw [show (if eX_close σ 0 = 0 then (su σ 9 (ixN 0) 1) else σ) = σ from if_neg (ne0 (k := 0) (eL_1 hz0))] at gq251
            have hWq251 := hWq249.wo hJ gq251 fq251
            refine k_eq (y := (-1000001)) (hcV_1 (eL_1 hz0)) ?_
            refine lv_ldc (v := (-1000001)) hx hb S.2.2.2.1 (S.2.2.2.2 _ m_294) dL_acts_564 ?_
            refine lv_icmp_ne (tgt := 585) hx hb dL_acts_566 (by decide) (fun c566_252 => absurd (by decide) c566_252) (fun c566_252 => ?_)
            refine lv_aload_n hx hb dL_acts_569 rfl (lv_at hl 3 rfl) ?_
            refine lv_iconst (v := 0) hx hb dL_acts_570 (by decide) ?_
            refine lv_iconst (v := 0) hx hb dL_acts_571 (by decide) ?_
            refine lv_iconst (v := 0) hx hb dL_acts_572 (by decide) ?_
            refine q_wx (rx_SX S ⟨m_395, m_396, m_22, m_397⟩ ⟨rfl, by decide, by decide, by decide +kernel⟩ (kL_sign l G o σ nm ns 0 0 0 hst hns hns4 hnm hnm2 (AO o) hJ.dO) ⟨rfl, rfl, Nat.le_of_ble_eq_true rfl, Nat.le_of_ble_eq_true rfl⟩ (ps bl_PXZ (bXZ (hWq251.xo hK) ((hZ0.at hSq251 (fun _ h => h)).zs))) (n := 4) (As := [.ref (o 0), .int 0, .int 0, .int 0]) (rest := []) rfl hl.1 rfl (Nat.le_of_ble_eq_true rfl) ⟨Nat.le_of_ble_eq_true rfl, Nat.le_of_ble_eq_true rfl⟩ dL_acts_573) hSq251 (fun _ h => h.inO) (fun rq253 Hq253 Lq253 eq253 gq253 fq253 hSq253 => ?_)
            subst eq253
            rw [show (if eX_sign σ nm ns 0 0 0 = 0 then (wrS σ (lnN 0 0) (gpV σ nm ns (ixN 0) (ixN 0))) else σ) = σ from if_neg (ne0 (k := 0) (eS_1 hz0))] at gq253
            have hWq253 := hWq251.wo hJ gq253 fq253
            refine k_eq (y := (-1000001)) (hcV_1 (eS_1 hz0)) ?_
            refine lv_ldc (v := (-1000001)) hx hb S.2.2.2.1 (S.2.2.2.2 _ m_294) dL_acts_576 ?_
            refine lv_icmp_ne (tgt := 585) hx hb dL_acts_578 (by decide) (fun c578_254 => absurd (by decide) c578_254) (fun c578_254 => ?_)
            refine lv_iconst (v := 1) hx hb dL_acts_581 (by decide) ?_
            refine lv_goto (tgt := 586) hx hb dL_acts_582 (by decide) ?_
            refine W.widen (k := 70) (n := 420) (by first | omega | exact Nat.le_of_ble_eq_true rfl) (by first | omega | exact Nat.le_of_ble_eq_true rfl) ?_
            exact W.zret (v := 1) (ty := .boolean) hx hb hr (by first | rfl | exact bI_nar _) (fun t9 ht hWz => ⟨⟨_, rfl, rfl⟩, by rw [ht]; exact ⟨σ, α, hI.up.ri, hWq253⟩, hSq253.F ht⟩) hSq253.2.2 dL_acts_586
        refine lv_iload hx hb dL_acts_299 (lv_at hl 2 rfl) ?_
        refine lv_bipush (v := 13) hx hb dL_acts_301 (by decide) ?_
        refine lv_icmp_ge (tgt := 539) hx hb dL_acts_303 (by decide) (fun ck13 => ?_) (fun ck13 => ?_)
        · skip
          refine W.widen (k := 0) (n := 0) (by omega) (by omega) ?_
          exact J539  s.heap _ hW hS ls (lv_sub hl [0, 1, 2, 3, 4, 5, 6, 7, 8, 9, 10, 11] rfl)
        · skip
          refine lv_aload hx hb dL_acts_306 (lv_at hl 9 rfl) ?_
          refine lv_iconst (v := 2) hx hb dL_acts_308 (by decide) ?_
          refine k_ldQ S hK hW 4 (by decide) (i := 2) (show 2 < 3 by omega) dL_acts_309 ?_
          refine k_eq (y := nI ns) (hA.g2) ?_
          refine lv_bipush (v := 12) hx hb dL_acts_310 (by decide) ?_
          refine lv_icmp_ge (tgt := 539) hx hb dL_acts_312 (by decide) (fun c12 => ?_) (fun c12 => ?_)
          · skip
            refine W.widen (k := 0) (n := 0) (by omega) (by omega) ?_
            exact J539  s.heap _ hW hS ls (lv_sub hl [0, 1, 2, 3, 4, 5, 6, 7, 8, 9, 10, 11] rfl)
          · skip
            have hns2 : ns < 12 := by
              rcases Nat.lt_or_ge ns 12 with h9 | h9
              · exact h9
              · exact absurd (nI_le (a := 12) h9 (by omega)) c12
            have J346 : ∀ (pl : Nat) (hpl : pl < 12) (H9 : Heap) (L9 : List Loc), WQ G o t a σ σ α H9 → va_S ((AQ o t a)) s.heap H9 L9 → ∀ ls, lv_has ls 17 [(11, .int (nI pe)), (10, .int (nI i)), (9, .int (nI kd)), (0, .ref (o 0)), (1, .ref (t 0)), (2, .ref (a 0)), (3, .ref (a 1)), (4, .ref (a 2)), (5, .ref (a 3)), (6, .ref (a 4)), (7, .int x), (8, .int y), (12, .int (nI pl))] → W p l e (({ frames := 11, cells := 70, slots := 420, locals := 270 }) : Room) s m [.ref (o 0), .ref (t 0), .ref (a 0), .ref (a 1), .ref (a 2), .ref (a 3), .ref (a 4), .int x, .int y].toArray below meth c H9 L9 (0) (0) (MQ below (oW (AQ o t a) (fun r => r = 1) (fun H9 => WI G o t a (n + 1) H9)) [.ref (o 0), .ref (t 0), .ref (a 0), .ref (a 1), .ref (a 2), .ref (a 3), .ref (a 4), .int x, .int y].toArray s 70 420 (AQ o t a)) (F0 m 346 ls []) := by
              intro pl hpl H9 L9 hW hS ls hl
              refine lv_iconst (v := 0) hx hb dL_acts_346 (by decide) ?_
              refine lv_istore (lv' := [(13, .int 0), (11, .int (nI pe)), (10, .int (nI i)), (9, .int (nI kd)), (0, .ref (o 0)), (1, .ref (t 0)), (2, .ref (a 0)), (3, .ref (a 1)), (4, .ref (a 2)), (5, .ref (a 3)), (6, .ref (a 4)), (7, .int x), (8, .int y), (12, .int (nI pl))]) hx hb dL_acts_347 hl (by decide) rfl (fun ls hl => ?_)
              refine lv_iconst (v := 0) hx hb dL_acts_349 (by decide) ?_
              refine lv_istore (lv' := [(14, .int 0), (13, .int 0), (11, .int (nI pe)), (10, .int (nI i)), (9, .int (nI kd)), (0, .ref (o 0)), (1, .ref (t 0)), (2, .ref (a 0)), (3, .ref (a 1)), (4, .ref (a 2)), (5, .ref (a 3)), (6, .ref (a 4)), (7, .int x), (8, .int y), (12, .int (nI pl))]) hx hb dL_acts_350 hl (by decide) rfl (fun ls hl => ?_)
              have L352 : ∀ (n9 k : Nat), k ≤ ns → ns + 1 ≤ k + n9 → ∀ (H9 : Heap) (L9 : List Loc), WQ G o t a σ σ α H9 → va_S ((AQ o t a)) s.heap H9 L9 → ∀ ls, lv_has ls 17 [(11, .int (nI pe)), (10, .int (nI i)), (9, .int (nI kd)), (0, .ref (o 0)), (1, .ref (t 0)), (2, .ref (a 0)), (3, .ref (a 1)), (4, .ref (a 2)), (5, .ref (a 3)), (6, .ref (a 4)), (7, .int x), (8, .int y), (12, .int (nI pl)), (13, .int (bI (hoQ σ (nI pl) k))), (14, .int (nI k))] → W p l e (({ frames := 11, cells := 70, slots := 420, locals := 270 }) : Room) s m [.ref (o 0), .ref (t 0), .ref (a 0), .ref (a 1), .ref (a 2), .ref (a 3), .ref (a 4), .int x, .int y].toArray below meth c H9 L9 (0 + 1 * k) (0 + 6 * k) (MQ below (oW (AQ o t a) (fun r => r = 1) (fun H9 => WI G o t a (n + 1) H9)) [.ref (o 0), .ref (t 0), .ref (a 0), .ref (a 1), .ref (a 2), .ref (a 3), .ref (a 4), .int x, .int y].toArray s 70 420 (AQ o t a)) (F0 m 352 ls []) := by
                intro n9
                induction n9 with
                | zero =>
                  intro k h1 h2
                  omega
                | succ n9 ihL352 =>
                  intro k hik hink  H9 L9 hW hS ls hl
                  refine lv_iload hx hb dL_acts_352 (lv_at hl 14 rfl) ?_
                  refine lv_aload hx hb dL_acts_354 (lv_at hl 9 rfl) ?_
                  refine lv_iconst (v := 2) hx hb dL_acts_356 (by decide) ?_
                  refine k_ldQ S hK hW 4 (by decide) (i := 2) (show 2 < 3 by omega) dL_acts_357 ?_
                  refine k_eq (y := nI ns) (hA.g2) ?_
                  refine lv_icmp_ge (tgt := 397) hx hb dL_acts_358 (by decide) (fun ckl => ?_) (fun ckl => ?_)
                  · skip
                    have hgek : k = ns := by
                      have h9 := ckl
                      rw [nI_leI (by omega) (by omega)] at h9
                      omega
                    rw [hgek] at hl
                    have hl : lv_has ls 17 [(11, .int (nI pe)), (10, .int (nI i)), (9, .int (nI kd)), (0, .ref (o 0)), (1, .ref (t 0)), (2, .ref (a 0)), (3, .ref (a 1)), (4, .ref (a 2)), (5, .ref (a 3)), (6, .ref (a 4)), (7, .int x), (8, .int y), (12, .int (nI pl)), (13, .int (bI (hoQ σ (nI pl) ns))), (14, .int (nI ns))] := hl
                    refine W.widen (k := 12) (n := 72) (by omega) (by omega) ?_
                    rcases bft (hoQ σ (nI pl) ns) with eho | eho
                    · skip
                      refine lv_iload hx hb dL_acts_397 (lv_at hl 13 rfl) ?_
                      refine lv_if_eq (tgt := 407) hx hb dL_acts_399 (by decide) (fun c399_258 => ?_) (fun c399_258 => absurd (by rw [eho]; rfl) c399_258)
                      refine lv_aload hx hb dL_acts_407 (lv_at hl 9 rfl) ?_
                      refine lv_iconst (v := 2) hx hb dL_acts_409 (by decide) ?_
                      refine k_ldQ S hK hW 4 (by decide) (i := 2) (show 2 < 3 by omega) dL_acts_410 ?_
                      refine k_eq (y := nI ns) (hA.g2) ?_
                      refine lv_istore (lv' := [(14, .int (nI ns)), (11, .int (nI pe)), (10, .int (nI i)), (9, .int (nI kd)), (0, .ref (o 0)), (1, .ref (t 0)), (2, .ref (a 0)), (3, .ref (a 1)), (4, .ref (a 2)), (5, .ref (a 3)), (6, .ref (a 4)), (7, .int x), (8, .int y), (12, .int (nI pl)), (13, .int (bI (hoQ σ (nI pl) ns)))]) hx hb dL_acts_411 hl (by decide) rfl (fun ls hl => ?_)
                      refine lv_iload hx hb dL_acts_413 (lv_at hl 14 rfl) ?_
                      refine lv_if_ne (tgt := 462) hx hb dL_acts_415 (by decide) (fun c415_259 => absurd (by rw [eho]; rfl) c415_259) (fun c415_259 => ?_)
                      refine lv_aload_n hx hb dL_acts_418 rfl (lv_at hl 7 rfl) ?_
                      refine lv_aload hx hb dL_acts_419 (lv_at hl 10 rfl) ?_
                      refine lv_iconst (v := 2) hx hb dL_acts_421 (by decide) ?_
                      refine k_ldQ S hK hW 4 (by decide) (i := 2) (show 2 < 3 by omega) dL_acts_422 ?_
                      refine k_eq (y := nI ns) (hA.g2) ?_
                      refine lv_iload hx hb dL_acts_423 (lv_at hl 13 rfl) ?_
                      refine k_stQ S hK hJ hW hS (fun _ h => h) 1 (by decide) (i := ns) (show ns < 12 by omega) dL_acts_425 (fun Hq260 Lq260 hWq260 hSq260 => ?_)
                      refine lv_iconst (v := 0) hx hb dL_acts_426 (by decide) ?_
                      refine lv_istore (lv' := [(15, .int 0), (14, .int (nI ns)), (11, .int (nI pe)), (10, .int (nI i)), (9, .int (nI kd)), (0, .ref (o 0)), (1, .ref (t 0)), (2, .ref (a 0)), (3, .ref (a 1)), (4, .ref (a 2)), (5, .ref (a 3)), (6, .ref (a 4)), (7, .int x), (8, .int y), (12, .int (nI pl)), (13, .int (bI (hoQ σ (nI pl) ns)))]) hx hb dL_acts_427 hl (by decide) rfl (fun ls hl => ?_)
                      have L429 : ∀ (n9 q : Nat), q ≤ 5 → 5 + 1 ≤ q + n9 → ∀ (H9 : Heap) (L9 : List Loc), WQ G o t a σ σ (czA (su α 1 ns (nI pl)) ns q) H9 → va_S ((AQ o t a)) s.heap H9 L9 → ∀ ls, lv_has ls 17 [(14, .int (nI ns)), (11, .int (nI pe)), (10, .int (nI i)), (9, .int (nI kd)), (0, .ref (o 0)), (1, .ref (t 0)), (2, .ref (a 0)), (3, .ref (a 1)), (4, .ref (a 2)), (5, .ref (a 3)), (6, .ref (a 4)), (7, .int x), (8, .int y), (12, .int (nI pl)), (13, .int (bI (hoQ σ (nI pl) ns))), (15, .int (nI q))] → W p l e (({ frames := 11, cells := 70, slots := 420, locals := 270 }) : Room) s m [.ref (o 0), .ref (t 0), .ref (a 0), .ref (a 1), .ref (a 2), .ref (a 3), .ref (a 4), .int x, .int y].toArray below meth c H9 L9 (12) (72) (MQ below (oW (AQ o t a) (fun r => r = 1) (fun H9 => WI G o t a (n + 1) H9)) [.ref (o 0), .ref (t 0), .ref (a 0), .ref (a 1), .ref (a 2), .ref (a 3), .ref (a 4), .int x, .int y].toArray s 70 420 (AQ o t a)) (F0 m 429 ls []) := by
                        intro n9
                        induction n9 with
                        | zero =>
                          intro q h1 h2
                          omega
                        | succ n9 ihL429 =>
                          intro q hiq hinq  H9 L9 hW hS ls hl
                          refine lv_iload hx hb dL_acts_429 (lv_at hl 15 rfl) ?_
                          refine lv_iconst (v := 5) hx hb dL_acts_431 (by decide) ?_
                          refine lv_icmp_ge (tgt := 454) hx hb dL_acts_432 (by decide) (fun cq5 => ?_) (fun cq5 => ?_)
                          · skip
                            have hgeq : q = 5 := by
                              have h9 := cq5
                              rw [show (5 : Int32) = nI 5 from rfl, nI_leI (by omega) (by omega)] at h9
                              omega
                            subst hgeq
                            refine lv_aload hx hb dL_acts_454 (lv_at hl 10 rfl) ?_
                            refine lv_iconst (v := 2) hx hb dL_acts_456 (by decide) ?_
                            refine lv_dup2_11 hx hb dL_acts_457 rfl rfl ?_
                            refine k_ldQ S hK hW 4 (by decide) (i := 2) (show 2 < 3 by omega) dL_acts_458 ?_
                            refine k_eq (y := nI ns) ((by rw [czA_ne (by decide), su_ne (by decide)]; exact hA.g2)) ?_
                            refine lv_iconst (v := 1) hx hb dL_acts_459 (by decide) ?_
                            refine lv_iadd hx hb dL_acts_460 ?_
                            refine k_eq (y := nI (ns + 1)) (nI_1 ns) ?_
                            refine k_stQ S hK hJ hW hS (fun _ h => h) 4 (by decide) (i := 2) (show 2 < 3 by omega) dL_acts_461 (fun Hq262 Lq262 hWq262 hSq262 => ?_)
                            refine lv_aload_n hx hb dL_acts_462 rfl (lv_at hl 4 rfl) ?_
                            refine lv_iload hx hb dL_acts_463 (lv_at hl 13 rfl) ?_
                            obtain ⟨σ1, hσ1⟩ : ∃ z, z = shS σ ns (nI pl) (nI N) := ⟨_, rfl⟩
                            have hI1 : Inv σ1 (su (czA (su α 1 ns (nI pl)) ns 5) 4 2 (nI (ns + 1))) nm (ns + 1) (n + 1) N S9 := by rw [hσ1]; exact hI.op hpl hns2 eho
                            have hns41 : ns + 1 ≤ 40 := by omega
                            have o9 : σ1 9 ns = 0 := by rw [hσ1, sh_o (by omega)]; exact (hC.st ns).2 (Nat.le_refl _)
                            have hop1 : opB σ1 (nI pl) (ns + 1) = true := by rw [hI1.1.op]; exact hoQ_t (by rw [hσ1]; exact sh_7) o9
                            refine q_wx (rx_SX S ⟨m_533, m_534, m_22, m_535⟩ ⟨rfl, by decide, by decide, by decide +kernel⟩ (kL_open l G o σ nm ns (nI pl) hst hns hns4 hnm hnm2 (AO o) hJ.dO) ⟨rfl, rfl, Nat.le_of_ble_eq_true rfl, Nat.le_of_ble_eq_true rfl⟩ (ps bl_PXZ (bXZ (hWq262.xo hK) ((hZ0.at hSq262 (fun _ h => h)).zs))) (n := 2) (As := [.ref (o 0), .int (nI pl)]) (rest := []) rfl hl.1 rfl (Nat.le_of_ble_eq_true rfl) ⟨Nat.le_of_ble_eq_true rfl, Nat.le_of_ble_eq_true rfl⟩ dL_acts_465) hSq262 (fun _ h => h.inO) (fun rq263 Hq263 Lq263 eq263 gq263 fq263 hSq263 => ?_)
                            subst eq263
                            rw [show (if eX_open σ ns (nI pl) = 0 then (shS σ ns (nI pl) (σ 16 0)) else σ) = σ1 from (if_pos (eO_0 hpl (by rw [hC.op]; exact eho) hns (by omega))).trans (by rw [hσ1, hC.now])] at gq263
                            have hWq263 := hWq262.wo hJ gq263 fq263
                            refine k_eq (y := nI ns) (hcV_0 (eO_0 hpl (by rw [hC.op]; exact eho) hns (by omega))) ?_
                            refine lv_iload hx hb dL_acts_468 (lv_at hl 0 rfl) ?_
                            refine lv_icmp_ne (tgt := 537) hx hb dL_acts_470 (by decide) (fun c470_264 => absurd rfl c470_264) (fun c470_264 => ?_)
                            refine lv_aload_n hx hb dL_acts_473 rfl (lv_at hl 5 rfl) ?_
                            refine lv_iload hx hb dL_acts_474 (lv_at hl 13 rfl) ?_
                            refine q_wx (rx_SX S ⟨m_533, m_534, m_22, m_535⟩ ⟨rfl, by decide, by decide, by decide +kernel⟩ (kL_open l G t σ nm ns (nI pl) hst hns hns4 hnm hnm2 (AO t) hJ.dT) ⟨rfl, rfl, Nat.le_of_ble_eq_true rfl, Nat.le_of_ble_eq_true rfl⟩ (ps bl_PXZ (bXZ (hWq263.xt hK) ((hZ0.at hSq263 (fun _ h => h)).zs))) (n := 2) (As := [.ref (t 0), .int (nI pl)]) (rest := []) rfl hl.1 rfl (Nat.le_of_ble_eq_true rfl) ⟨Nat.le_of_ble_eq_true rfl, Nat.le_of_ble_eq_true rfl⟩ dL_acts_476) hSq263 (fun _ h => h.inT) (fun rq265 Hq265 Lq265 eq265 gq265 fq265 hSq265 => ?_)
                            subst eq265
                            rw [show (if eX_open σ ns (nI pl) = 0 then (shS σ ns (nI pl) (σ 16 0)) else σ) = σ1 from (if_pos (eO_0 hpl (by rw [hC.op]; exact eho) hns (by omega))).trans (by rw [hσ1, hC.now])] at gq265
                            have hWq265 := hWq263.wt hJ gq265 fq265
                            refine k_eq (y := nI ns) (hcV_0 (eO_0 hpl (by rw [hC.op]; exact eho) hns (by omega))) ?_
                            refine lv_iload hx hb dL_acts_479 (lv_at hl 0 rfl) ?_
                            refine lv_icmp_ne (tgt := 537) hx hb dL_acts_481 (by decide) (fun c481_266 => absurd rfl c481_266) (fun c481_266 => ?_)
                            refine lv_aload_n hx hb dL_acts_484 rfl (lv_at hl 4 rfl) ?_
                            refine lv_iload hx hb dL_acts_485 (lv_at hl 13 rfl) ?_
                            refine q_wx (rx_SX S ⟨m_533, m_534, m_22, m_535⟩ ⟨rfl, by decide, by decide, by decide +kernel⟩ (kL_open l G o σ1 nm (ns + 1) (nI pl) hst hI1.1.hns hns41 hI1.1.hnm hnm2 (AO o) hJ.dO) ⟨rfl, rfl, Nat.le_of_ble_eq_true rfl, Nat.le_of_ble_eq_true rfl⟩ (ps bl_PXZ (bXZ (hWq265.xo hK) ((hZ0.at hSq265 (fun _ h => h)).zs))) (n := 2) (As := [.ref (o 0), .int (nI pl)]) (rest := []) rfl hl.1 rfl (Nat.le_of_ble_eq_true rfl) ⟨Nat.le_of_ble_eq_true rfl, Nat.le_of_ble_eq_true rfl⟩ dL_acts_487) hSq265 (fun _ h => h.inO) (fun rq267 Hq267 Lq267 eq267 gq267 fq267 hSq267 => ?_)
                            subst eq267
                            rw [show (if eX_open σ1 (ns + 1) (nI pl) = 0 then (shS σ1 (ns + 1) (nI pl) (σ1 16 0)) else σ1) = σ1 from if_neg (ne0 (k := 2) (eO_3 hpl hop1))] at gq267
                            have hWq267 := hWq265.wo hJ gq267 fq267
                            refine k_eq (y := (-1000003)) (hcV_3 (eO_3 hpl hop1)) ?_
                            refine lv_ldc (v := (-1000003)) hx hb S.2.2.2.1 (S.2.2.2.2 _ m_427) dL_acts_490 ?_
                            refine lv_icmp_ne (tgt := 537) hx hb dL_acts_492 (by decide) (fun c492_268 => absurd (by decide) c492_268) (fun c492_268 => ?_)
                            refine lv_aload_n hx hb dL_acts_495 rfl (lv_at hl 4 rfl) ?_
                            refine lv_bipush (v := 12) hx hb dL_acts_496 (by decide) ?_
                            refine q_wx (rx_SX S ⟨m_533, m_534, m_22, m_535⟩ ⟨rfl, by decide, by decide, by decide +kernel⟩ (kL_open l G o σ1 nm (ns + 1) 12 hst hI1.1.hns hns41 hI1.1.hnm hnm2 (AO o) hJ.dO) ⟨rfl, rfl, Nat.le_of_ble_eq_true rfl, Nat.le_of_ble_eq_true rfl⟩ (ps bl_PXZ (bXZ (hWq267.xo hK) ((hZ0.at hSq267 (fun _ h => h)).zs))) (n := 2) (As := [.ref (o 0), .int 12]) (rest := []) rfl hl.1 rfl (Nat.le_of_ble_eq_true rfl) ⟨Nat.le_of_ble_eq_true rfl, Nat.le_of_ble_eq_true rfl⟩ dL_acts_498) hSq267 (fun _ h => h.inO) (fun rq269 Hq269 Lq269 eq269 gq269 fq269 hSq269 => ?_)
                            subst eq269
                            rw [show (if eX_open σ1 (ns + 1) 12 = 0 then (shS σ1 (ns + 1) 12 (σ1 16 0)) else σ1) = σ1 from if_neg (ne0 (k := 0) eO_1)] at gq269
                            have hWq269 := hWq267.wo hJ gq269 fq269
                            refine k_eq (y := (-1000001)) (hcV_1 eO_1) ?_
                            refine lv_ldc (v := (-1000001)) hx hb S.2.2.2.1 (S.2.2.2.2 _ m_294) dL_acts_501 ?_
                            refine lv_icmp_ne (tgt := 537) hx hb dL_acts_503 (by decide) (fun c503_270 => absurd (by decide) c503_270) (fun c503_270 => ?_)
                            refine lv_iload hx hb dL_acts_506 (lv_at hl 0 rfl) ?_
                            refine lv_if_lt (tgt := 533) hx hb dL_acts_508 (by decide) (fun c508_271 => absurd c508_271 (nI_pos (by omega))) (fun c508_271 => ?_)
                            refine lv_aload_n hx hb dL_acts_511 rfl (lv_at hl 4 rfl) ?_
                            refine lv_iload hx hb dL_acts_512 (lv_at hl 0 rfl) ?_
                            refine q_wx (rx_SX S ⟨m_428, m_429, m_22, m_430⟩ ⟨rfl, by decide, by decide, by decide +kernel⟩ (kL_cutOf l G o σ1 nm (ns + 1) (nI ns) hst hI1.1.hns hns41 hI1.1.hnm hnm2) ⟨rfl, rfl, Nat.le_of_ble_eq_true rfl, Nat.le_of_ble_eq_true rfl⟩ (ps bl_PXZ (bXZ (hWq269.xo hK) ((hZ0.at hSq269 (fun _ h => h)).zs))) (n := 2) (As := [.ref (o 0), .int (nI ns)]) (rest := []) rfl hl.1 rfl (Nat.le_of_ble_eq_true rfl) ⟨Nat.le_of_ble_eq_true rfl, Nat.le_of_ble_eq_true rfl⟩ dL_acts_514) hSq269 (fun _ h => h.elim) (fun rq272 Hq272 Lq272 eq272 gq272 fq272 hSq272 => ?_)
                            subst eq272
                            have hWq272 := hWq269.rd fq272
                            refine k_eq (y := nI N) ((tV_cut hI1.1.hns hns41 (Nat.lt_succ_self ns)).trans (by rw [hσ1]; exact sh_8)) ?_
                            refine lv_aload hx hb dL_acts_517 (lv_at hl 10 rfl) ?_
                            refine lv_iconst (v := 0) hx hb dL_acts_519 (by decide) ?_
                            refine k_ldQ S hK hWq272 4 (by decide) (i := 0) (show 0 < 3 by omega) dL_acts_520 ?_
                            refine k_eq (y := nI N) ((by rw [su_nat (by decide), czA_ne (by decide), su_ne (by decide)]; exact hA.g0)) ?_
                            refine lv_icmp_ne (tgt := 537) hx hb dL_acts_521 (by decide) (fun c521_273 => absurd rfl c521_273) (fun c521_273 => ?_)
                            refine lv_aload_n hx hb dL_acts_524 rfl (lv_at hl 4 rfl) ?_
                            refine lv_iload hx hb dL_acts_525 (lv_at hl 0 rfl) ?_
                            refine q_wx (rx_SX S ⟨m_462, m_463, m_22, m_464⟩ ⟨rfl, by decide, by decide, by decide +kernel⟩ (kL_stateOf l G o σ1 nm (ns + 1) (nI ns) hst hI1.1.hns hns41 hI1.1.hnm hnm2) ⟨rfl, rfl, Nat.le_of_ble_eq_true rfl, Nat.le_of_ble_eq_true rfl⟩ (ps bl_PXZ (bXZ (hWq272.xo hK) ((hZ0.at hSq272 (fun _ h => h)).zs))) (n := 2) (As := [.ref (o 0), .int (nI ns)]) (rest := []) rfl hl.1 rfl (Nat.le_of_ble_eq_true rfl) ⟨Nat.le_of_ble_eq_true rfl, Nat.le_of_ble_eq_true rfl⟩ dL_acts_527) hSq272 (fun _ h => h.elim) (fun rq274 Hq274 Lq274 eq274 gq274 fq274 hSq274 => ?_)
                            subst eq274
                            have hWq274 := hWq272.rd fq274
                            refine k_eq (y := 0) (tV_st0 hI1.1.hns hns41 (Nat.lt_succ_self ns) o9) ?_
                            refine lv_if_ne (tgt := 537) hx hb dL_acts_530 (by decide) (fun c530_275 => absurd (by decide) c530_275) (fun c530_275 => ?_)
                            refine lv_iconst (v := 1) hx hb dL_acts_533 (by decide) ?_
                            refine lv_goto (tgt := 538) hx hb dL_acts_534 (by decide) ?_
                            refine W.widen (k := 70) (n := 420) (by first | omega | exact Nat.le_of_ble_eq_true rfl) (by first | omega | exact Nat.le_of_ble_eq_true rfl) ?_
                            exact W.zret (v := 1) (ty := .boolean) hx hb hr (by first | rfl | exact bI_nar _) (fun t9 ht hWz => ⟨⟨_, rfl, rfl⟩, by rw [ht]; exact ⟨σ1, su (czA (su α 1 ns (nI pl)) ns 5) 4 2 (nI (ns + 1)), hI1.ri, hWq274⟩, hSq274.F ht⟩) hSq274.2.2 dL_acts_538
                          · skip
                            have hltq : q < 5 := by
                              rcases Nat.lt_or_ge q 5 with h9 | h9
                              · exact h9
                              · exact absurd (nI_le (a := 5) h9 (by omega)) cq5
                            refine lv_aload hx hb dL_acts_435 (lv_at hl 8 rfl) ?_
                            refine lv_iconst (v := 5) hx hb dL_acts_437 (by decide) ?_
                            refine lv_aload hx hb dL_acts_438 (lv_at hl 10 rfl) ?_
                            refine lv_iconst (v := 2) hx hb dL_acts_440 (by decide) ?_
                            refine k_ldQ S hK hW 4 (by decide) (i := 2) (show 2 < 3 by omega) dL_acts_441 ?_
                            refine k_eq (y := nI ns) ((by rw [czA_ne (by decide), su_ne (by decide)]; exact hA.g2)) ?_
                            refine lv_imul hx hb dL_acts_442 ?_
                            refine k_eq (y := nI (5 * ns)) (pk_mul 5 ns) ?_
                            refine lv_iload hx hb dL_acts_443 (lv_at hl 15 rfl) ?_
                            refine lv_iadd hx hb dL_acts_445 ?_
                            refine k_eq (y := nI (5 * ns + q)) (nI_add (5 * ns) q) ?_
                            refine lv_iconst (v := (-1)) hx hb dL_acts_446 (by decide) ?_
                            refine k_stQ S hK hJ hW hS (fun _ h => h) 2 (by decide) (i := (5 * ns + q)) (show (5 * ns + q) < 60 by omega) dL_acts_447 (fun Hq276 Lq276 hWq276 hSq276 => ?_)
                            have hWq276 : WQ G o t a σ σ (czA (su α 1 ns (nI pl)) ns (q + 1)) Hq276 := by rw [show czA (su α 1 ns (nI pl)) ns (q + 1) = su (czA (su α 1 ns (nI pl)) ns q) 2 (5 * ns + q) (-1) from rfl]; exact hWq276
                            refine lv_iinc (v := nI (q + 1)) (lv' := [(15, .int (nI (q + 1))), (14, .int (nI ns)), (11, .int (nI pe)), (10, .int (nI i)), (9, .int (nI kd)), (0, .ref (o 0)), (1, .ref (t 0)), (2, .ref (a 0)), (3, .ref (a 1)), (4, .ref (a 2)), (5, .ref (a 3)), (6, .ref (a 4)), (7, .int x), (8, .int y), (12, .int (nI pl)), (13, .int (bI (hoQ σ (nI pl) ns)))]) hx hb dL_acts_448 hl (k := 15) rfl (nI_1 q) (by decide) rfl (fun ls hl => ?_)
                            refine lv_goto (tgt := 429) hx hb dL_acts_451 (by decide) ?_
                            refine W.widen (k := 12) (n := 72) (by omega) (by omega) ?_
                            exact ihL429 (q + 1) hltq (by omega) Hq276 Lq276 hWq276 hSq276 ls (lv_sub hl [1, 2, 3, 4, 5, 6, 7, 8, 9, 10, 11, 12, 13, 14, 15, 0] rfl)
                      have hl : lv_has ls 17 [(15, .int (nI 0)), (14, .int (nI ns)), (11, .int (nI pe)), (10, .int (nI i)), (9, .int (nI kd)), (0, .ref (o 0)), (1, .ref (t 0)), (2, .ref (a 0)), (3, .ref (a 1)), (4, .ref (a 2)), (5, .ref (a 3)), (6, .ref (a 4)), (7, .int x), (8, .int y), (12, .int (nI pl)), (13, .int (bI (hoQ σ (nI pl) ns)))] := hl
                      refine W.widen (k := 12) (n := 72) (by omega) (by omega) ?_
                      exact L429 6 0 (Nat.zero_le _) (by omega) Hq260 Lq260 hWq260 hSq260 ls (lv_sub hl [1, 2, 3, 4, 5, 6, 7, 8, 9, 10, 11, 12, 13, 14, 15, 0] rfl)
                    · skip
                      refine lv_iload hx hb dL_acts_397 (lv_at hl 13 rfl) ?_
                      refine lv_if_eq (tgt := 407) hx hb dL_acts_399 (by decide) (fun c399_277 => absurd c399_277 (by rw [eho]; decide)) (fun c399_277 => ?_)
                      refine lv_ldc (v := (-1000003)) hx hb S.2.2.2.1 (S.2.2.2.2 _ m_427) dL_acts_402 ?_
                      refine lv_goto (tgt := 411) hx hb dL_acts_404 (by decide) ?_
                      refine lv_istore (lv' := [(14, .int (-1000003)), (11, .int (nI pe)), (10, .int (nI i)), (9, .int (nI kd)), (0, .ref (o 0)), (1, .ref (t 0)), (2, .ref (a 0)), (3, .ref (a 1)), (4, .ref (a 2)), (5, .ref (a 3)), (6, .ref (a 4)), (7, .int x), (8, .int y), (12, .int (nI pl)), (13, .int (bI (hoQ σ (nI pl) ns)))]) hx hb dL_acts_411 hl (by decide) rfl (fun ls hl => ?_)
                      refine lv_iload hx hb dL_acts_413 (lv_at hl 14 rfl) ?_
                      refine lv_if_ne (tgt := 462) hx hb dL_acts_415 (by decide) (fun c415_278 => ?_) (fun c415_278 => absurd c415_278 (by rw [eho]; decide))
                      refine lv_aload_n hx hb dL_acts_462 rfl (lv_at hl 4 rfl) ?_
                      refine lv_iload hx hb dL_acts_463 (lv_at hl 13 rfl) ?_
                      refine q_wx (rx_SX S ⟨m_533, m_534, m_22, m_535⟩ ⟨rfl, by decide, by decide, by decide +kernel⟩ (kL_open l G o σ nm ns (nI pl) hst hns hns4 hnm hnm2 (AO o) hJ.dO) ⟨rfl, rfl, Nat.le_of_ble_eq_true rfl, Nat.le_of_ble_eq_true rfl⟩ (ps bl_PXZ (bXZ (hW.xo hK) ((hZ0.at hS (fun _ h => h)).zs))) (n := 2) (As := [.ref (o 0), .int (nI pl)]) (rest := []) rfl hl.1 rfl (Nat.le_of_ble_eq_true rfl) ⟨Nat.le_of_ble_eq_true rfl, Nat.le_of_ble_eq_true rfl⟩ dL_acts_465) hS (fun _ h => h.inO) (fun rq279 Hq279 Lq279 eq279 gq279 fq279 hSq279 => ?_)
                      subst eq279
                      rw [show (if eX_open σ ns (nI pl) = 0 then (shS σ ns (nI pl) (σ 16 0)) else σ) = σ from if_neg (ne0 (k := 2) (eO_3 hpl (by rw [hC.op]; exact eho)))] at gq279
                      have hWq279 := hW.wo hJ gq279 fq279
                      refine k_eq (y := (-1000003)) (hcV_3 (eO_3 hpl (by rw [hC.op]; exact eho))) ?_
                      refine lv_iload hx hb dL_acts_468 (lv_at hl 0 rfl) ?_
                      refine lv_icmp_ne (tgt := 537) hx hb dL_acts_470 (by decide) (fun c470_280 => absurd (by decide) c470_280) (fun c470_280 => ?_)
                      refine lv_aload_n hx hb dL_acts_473 rfl (lv_at hl 5 rfl) ?_
                      refine lv_iload hx hb dL_acts_474 (lv_at hl 13 rfl) ?_
                      refine q_wx (rx_SX S ⟨m_533, m_534, m_22, m_535⟩ ⟨rfl, by decide, by decide, by decide +kernel⟩ (kL_open l G t σ nm ns (nI pl) hst hns hns4 hnm hnm2 (AO t) hJ.dT) ⟨rfl, rfl, Nat.le_of_ble_eq_true rfl, Nat.le_of_ble_eq_true rfl⟩ (ps bl_PXZ (bXZ (hWq279.xt hK) ((hZ0.at hSq279 (fun _ h => h)).zs))) (n := 2) (As := [.ref (t 0), .int (nI pl)]) (rest := []) rfl hl.1 rfl (Nat.le_of_ble_eq_true rfl) ⟨Nat.le_of_ble_eq_true rfl, Nat.le_of_ble_eq_true rfl⟩ dL_acts_476) hSq279 (fun _ h => h.inT) (fun rq281 Hq281 Lq281 eq281 gq281 fq281 hSq281 => ?_)
                      subst eq281
                      rw [show (if eX_open σ ns (nI pl) = 0 then (shS σ ns (nI pl) (σ 16 0)) else σ) = σ from if_neg (ne0 (k := 2) (eO_3 hpl (by rw [hC.op]; exact eho)))] at gq281
                      have hWq281 := hWq279.wt hJ gq281 fq281
                      refine k_eq (y := (-1000003)) (hcV_3 (eO_3 hpl (by rw [hC.op]; exact eho))) ?_
                      refine lv_iload hx hb dL_acts_479 (lv_at hl 0 rfl) ?_
                      refine lv_icmp_ne (tgt := 537) hx hb dL_acts_481 (by decide) (fun c481_282 => absurd (by decide) c481_282) (fun c481_282 => ?_)
                      refine lv_aload_n hx hb dL_acts_484 rfl (lv_at hl 4 rfl) ?_
                      refine lv_iload hx hb dL_acts_485 (lv_at hl 13 rfl) ?_
                      refine q_wx (rx_SX S ⟨m_533, m_534, m_22, m_535⟩ ⟨rfl, by decide, by decide, by decide +kernel⟩ (kL_open l G o σ nm ns (nI pl) hst hns hns4 hnm hnm2 (AO o) hJ.dO) ⟨rfl, rfl, Nat.le_of_ble_eq_true rfl, Nat.le_of_ble_eq_true rfl⟩ (ps bl_PXZ (bXZ (hWq281.xo hK) ((hZ0.at hSq281 (fun _ h => h)).zs))) (n := 2) (As := [.ref (o 0), .int (nI pl)]) (rest := []) rfl hl.1 rfl (Nat.le_of_ble_eq_true rfl) ⟨Nat.le_of_ble_eq_true rfl, Nat.le_of_ble_eq_true rfl⟩ dL_acts_487) hSq281 (fun _ h => h.inO) (fun rq283 Hq283 Lq283 eq283 gq283 fq283 hSq283 => ?_)
                      subst eq283
                      rw [show (if eX_open σ ns (nI pl) = 0 then (shS σ ns (nI pl) (σ 16 0)) else σ) = σ from if_neg (ne0 (k := 2) (eO_3 hpl (by rw [hC.op]; exact eho)))] at gq283
                      have hWq283 := hWq281.wo hJ gq283 fq283
                      refine k_eq (y := (-1000003)) (hcV_3 (eO_3 hpl (by rw [hC.op]; exact eho))) ?_
                      refine lv_ldc (v := (-1000003)) hx hb S.2.2.2.1 (S.2.2.2.2 _ m_427) dL_acts_490 ?_
                      refine lv_icmp_ne (tgt := 537) hx hb dL_acts_492 (by decide) (fun c492_284 => absurd (by decide) c492_284) (fun c492_284 => ?_)
                      refine lv_aload_n hx hb dL_acts_495 rfl (lv_at hl 4 rfl) ?_
                      refine lv_bipush (v := 12) hx hb dL_acts_496 (by decide) ?_
                      refine q_wx (rx_SX S ⟨m_533, m_534, m_22, m_535⟩ ⟨rfl, by decide, by decide, by decide +kernel⟩ (kL_open l G o σ nm ns 12 hst hns hns4 hnm hnm2 (AO o) hJ.dO) ⟨rfl, rfl, Nat.le_of_ble_eq_true rfl, Nat.le_of_ble_eq_true rfl⟩ (ps bl_PXZ (bXZ (hWq283.xo hK) ((hZ0.at hSq283 (fun _ h => h)).zs))) (n := 2) (As := [.ref (o 0), .int 12]) (rest := []) rfl hl.1 rfl (Nat.le_of_ble_eq_true rfl) ⟨Nat.le_of_ble_eq_true rfl, Nat.le_of_ble_eq_true rfl⟩ dL_acts_498) hSq283 (fun _ h => h.inO) (fun rq285 Hq285 Lq285 eq285 gq285 fq285 hSq285 => ?_)
                      subst eq285
                      rw [show (if eX_open σ ns 12 = 0 then (shS σ ns 12 (σ 16 0)) else σ) = σ from if_neg (ne0 (k := 0) eO_1)] at gq285
                      have hWq285 := hWq283.wo hJ gq285 fq285
                      refine k_eq (y := (-1000001)) (hcV_1 eO_1) ?_
                      refine lv_ldc (v := (-1000001)) hx hb S.2.2.2.1 (S.2.2.2.2 _ m_294) dL_acts_501 ?_
                      refine lv_icmp_ne (tgt := 537) hx hb dL_acts_503 (by decide) (fun c503_286 => absurd (by decide) c503_286) (fun c503_286 => ?_)
                      refine lv_iload hx hb dL_acts_506 (lv_at hl 0 rfl) ?_
                      refine lv_if_lt (tgt := 533) hx hb dL_acts_508 (by decide) (fun c508_287 => ?_) (fun c508_287 => absurd (by decide) c508_287)
                      refine lv_iconst (v := 1) hx hb dL_acts_533 (by decide) ?_
                      refine lv_goto (tgt := 538) hx hb dL_acts_534 (by decide) ?_
                      refine W.widen (k := 70) (n := 420) (by first | omega | exact Nat.le_of_ble_eq_true rfl) (by first | omega | exact Nat.le_of_ble_eq_true rfl) ?_
                      exact W.zret (v := 1) (ty := .boolean) hx hb hr (by first | rfl | exact bI_nar _) (fun t9 ht hWz => ⟨⟨_, rfl, rfl⟩, by rw [ht]; exact ⟨σ, α, hI.up.ri, hWq285⟩, hSq285.F ht⟩) hSq285.2.2 dL_acts_538
                  · skip
                    have hltk : k < ns := by
                      rcases Nat.lt_or_ge k ns with h9 | h9
                      · exact h9
                      · exact absurd (nI_le (a := ns) h9 (by omega)) ckl
                    rcases bft (hoQ σ (nI pl) k) with e | e
                    · skip
                      by_cases c7 : σ 7 k = nI pl
                      · skip
                        rcases (hC.st k).1 with e9 | e9
                        · skip
                          refine lv_iload hx hb dL_acts_361 (lv_at hl 13 rfl) ?_
                          refine lv_if_ne (tgt := 384) hx hb dL_acts_363 (by decide) (fun c363_288 => absurd (by rw [e]; rfl) c363_288) (fun c363_288 => ?_)
                          refine lv_aload_n hx hb dL_acts_366 rfl (lv_at hl 6 rfl) ?_
                          refine lv_iload hx hb dL_acts_367 (lv_at hl 14 rfl) ?_
                          refine k_ldQ S hK hW 1 (by decide) (i := k) (show k < 12 by omega) dL_acts_369 ?_
                          refine k_eq (y := σ 7 k) (hA.ap k hltk) ?_
                          refine lv_iload hx hb dL_acts_370 (lv_at hl 12 rfl) ?_
                          refine lv_icmp_ne (tgt := 388) hx hb dL_acts_372 (by decide) (fun c372_289 => absurd c7 c372_289) (fun c372_289 => ?_)
                          refine lv_aload_n hx hb dL_acts_375 rfl (lv_at hl 3 rfl) ?_
                          refine lv_iload hx hb dL_acts_376 (lv_at hl 14 rfl) ?_
                          refine q_wx (rx_SX S ⟨m_462, m_463, m_22, m_464⟩ ⟨rfl, by decide, by decide, by decide +kernel⟩ (kL_stateOf l G o σ nm ns (nI k) hst hns hns4 hnm hnm2) ⟨rfl, rfl, Nat.le_of_ble_eq_true rfl, Nat.le_of_ble_eq_true rfl⟩ (ps bl_PXZ (bXZ (hW.xo hK) ((hZ0.at hS (fun _ h => h)).zs))) (n := 2) (As := [.ref (o 0), .int (nI k)]) (rest := []) rfl hl.1 rfl (Nat.le_of_ble_eq_true rfl) ⟨by show _ ≤ (70 : Nat); omega, by show _ ≤ (420 : Nat); omega⟩ dL_acts_378) hS (fun _ h => h.elim) (fun rq290 Hq290 Lq290 eq290 gq290 fq290 hSq290 => ?_)
                          subst eq290
                          have hWq290 := hW.rd fq290
                          refine k_eq (y := 0) (tV_st0 hns hns4 hltk e9) ?_
                          refine lv_if_ne (tgt := 388) hx hb dL_acts_381 (by decide) (fun c381_291 => absurd (by decide) c381_291) (fun c381_291 => ?_)
                          refine lv_iconst (v := 1) hx hb dL_acts_384 (by decide) ?_
                          refine k_eq (y := bI (hoQ σ (nI pl) (k + 1))) ((by rw [hoQ_t c7 e9]; rfl)) ?_
                          refine lv_goto (tgt := 389) hx hb dL_acts_385 (by decide) ?_
                          refine lv_istore (lv' := [(13, .int (bI (hoQ σ (nI pl) (k + 1)))), (11, .int (nI pe)), (10, .int (nI i)), (9, .int (nI kd)), (0, .ref (o 0)), (1, .ref (t 0)), (2, .ref (a 0)), (3, .ref (a 1)), (4, .ref (a 2)), (5, .ref (a 3)), (6, .ref (a 4)), (7, .int x), (8, .int y), (12, .int (nI pl)), (14, .int (nI k))]) hx hb dL_acts_389 hl (by decide) rfl (fun ls hl => ?_)
                          refine lv_iinc (v := nI (k + 1)) (lv' := [(14, .int (nI (k + 1))), (13, .int (bI (hoQ σ (nI pl) (k + 1)))), (11, .int (nI pe)), (10, .int (nI i)), (9, .int (nI kd)), (0, .ref (o 0)), (1, .ref (t 0)), (2, .ref (a 0)), (3, .ref (a 1)), (4, .ref (a 2)), (5, .ref (a 3)), (6, .ref (a 4)), (7, .int x), (8, .int y), (12, .int (nI pl))]) hx hb dL_acts_391 hl (k := 14) rfl (nI_1 k) (by decide) rfl (fun ls hl => ?_)
                          refine lv_goto (tgt := 352) hx hb dL_acts_394 (by decide) ?_
                          refine W.widen (k := 0 + 1 * (k + 1)) (n := 0 + 6 * (k + 1)) (by omega) (by omega) ?_
                          exact ihL352 (k + 1) hltk (by omega) Hq290 Lq290 hWq290 hSq290 ls (lv_sub hl [2, 3, 4, 5, 6, 7, 8, 9, 10, 11, 12, 13, 14, 1, 0] rfl)
                        · skip
                          refine lv_iload hx hb dL_acts_361 (lv_at hl 13 rfl) ?_
                          refine lv_if_ne (tgt := 384) hx hb dL_acts_363 (by decide) (fun c363_292 => absurd (by rw [e]; rfl) c363_292) (fun c363_292 => ?_)
                          refine lv_aload_n hx hb dL_acts_366 rfl (lv_at hl 6 rfl) ?_
                          refine lv_iload hx hb dL_acts_367 (lv_at hl 14 rfl) ?_
                          refine k_ldQ S hK hW 1 (by decide) (i := k) (show k < 12 by omega) dL_acts_369 ?_
                          refine k_eq (y := σ 7 k) (hA.ap k hltk) ?_
                          refine lv_iload hx hb dL_acts_370 (lv_at hl 12 rfl) ?_
                          refine lv_icmp_ne (tgt := 388) hx hb dL_acts_372 (by decide) (fun c372_293 => absurd c7 c372_293) (fun c372_293 => ?_)
                          refine lv_aload_n hx hb dL_acts_375 rfl (lv_at hl 3 rfl) ?_
                          refine lv_iload hx hb dL_acts_376 (lv_at hl 14 rfl) ?_
                          refine q_wx (rx_SX S ⟨m_462, m_463, m_22, m_464⟩ ⟨rfl, by decide, by decide, by decide +kernel⟩ (kL_stateOf l G o σ nm ns (nI k) hst hns hns4 hnm hnm2) ⟨rfl, rfl, Nat.le_of_ble_eq_true rfl, Nat.le_of_ble_eq_true rfl⟩ (ps bl_PXZ (bXZ (hW.xo hK) ((hZ0.at hS (fun _ h => h)).zs))) (n := 2) (As := [.ref (o 0), .int (nI k)]) (rest := []) rfl hl.1 rfl (Nat.le_of_ble_eq_true rfl) ⟨by show _ ≤ (70 : Nat); omega, by show _ ≤ (420 : Nat); omega⟩ dL_acts_378) hS (fun _ h => h.elim) (fun rq294 Hq294 Lq294 eq294 gq294 fq294 hSq294 => ?_)
                          subst eq294
                          have hWq294 := hW.rd fq294
                          refine k_eq (y := 1) (tV_st1 hns hns4 hltk (by rw [e9]; decide)) ?_
                          refine lv_if_ne (tgt := 388) hx hb dL_acts_381 (by decide) (fun c381_295 => ?_) (fun c381_295 => absurd c381_295 (by decide))
                          refine lv_iconst (v := 0) hx hb dL_acts_388 (by decide) ?_
                          refine k_eq (y := bI (hoQ σ (nI pl) (k + 1))) ((by rw [hoQ_c e (by rw [e9]; decide)]; rfl)) ?_
                          refine lv_istore (lv' := [(13, .int (bI (hoQ σ (nI pl) (k + 1)))), (11, .int (nI pe)), (10, .int (nI i)), (9, .int (nI kd)), (0, .ref (o 0)), (1, .ref (t 0)), (2, .ref (a 0)), (3, .ref (a 1)), (4, .ref (a 2)), (5, .ref (a 3)), (6, .ref (a 4)), (7, .int x), (8, .int y), (12, .int (nI pl)), (14, .int (nI k))]) hx hb dL_acts_389 hl (by decide) rfl (fun ls hl => ?_)
                          refine lv_iinc (v := nI (k + 1)) (lv' := [(14, .int (nI (k + 1))), (13, .int (bI (hoQ σ (nI pl) (k + 1)))), (11, .int (nI pe)), (10, .int (nI i)), (9, .int (nI kd)), (0, .ref (o 0)), (1, .ref (t 0)), (2, .ref (a 0)), (3, .ref (a 1)), (4, .ref (a 2)), (5, .ref (a 3)), (6, .ref (a 4)), (7, .int x), (8, .int y), (12, .int (nI pl))]) hx hb dL_acts_391 hl (k := 14) rfl (nI_1 k) (by decide) rfl (fun ls hl => ?_)
                          refine lv_goto (tgt := 352) hx hb dL_acts_394 (by decide) ?_
                          refine W.widen (k := 0 + 1 * (k + 1)) (n := 0 + 6 * (k + 1)) (by omega) (by omega) ?_
                          exact ihL352 (k + 1) hltk (by omega) Hq294 Lq294 hWq294 hSq294 ls (lv_sub hl [2, 3, 4, 5, 6, 7, 8, 9, 10, 11, 12, 13, 14, 1, 0] rfl)
                      · skip
                        refine lv_iload hx hb dL_acts_361 (lv_at hl 13 rfl) ?_
                        refine lv_if_ne (tgt := 384) hx hb dL_acts_363 (by decide) (fun c363_296 => absurd (by rw [e]; rfl) c363_296) (fun c363_296 => ?_)
                        refine lv_aload_n hx hb dL_acts_366 rfl (lv_at hl 6 rfl) ?_
                        refine lv_iload hx hb dL_acts_367 (lv_at hl 14 rfl) ?_
                        refine k_ldQ S hK hW 1 (by decide) (i := k) (show k < 12 by omega) dL_acts_369 ?_
                        refine k_eq (y := σ 7 k) (hA.ap k hltk) ?_
                        refine lv_iload hx hb dL_acts_370 (lv_at hl 12 rfl) ?_
                        refine lv_icmp_ne (tgt := 388) hx hb dL_acts_372 (by decide) (fun c372_297 => ?_) (fun c372_297 => absurd c372_297 c7)
                        refine lv_iconst (v := 0) hx hb dL_acts_388 (by decide) ?_
                        refine k_eq (y := bI (hoQ σ (nI pl) (k + 1))) ((by rw [hoQ_n c7, e]; rfl)) ?_
                        refine lv_istore (lv' := [(13, .int (bI (hoQ σ (nI pl) (k + 1)))), (11, .int (nI pe)), (10, .int (nI i)), (9, .int (nI kd)), (0, .ref (o 0)), (1, .ref (t 0)), (2, .ref (a 0)), (3, .ref (a 1)), (4, .ref (a 2)), (5, .ref (a 3)), (6, .ref (a 4)), (7, .int x), (8, .int y), (12, .int (nI pl)), (14, .int (nI k))]) hx hb dL_acts_389 hl (by decide) rfl (fun ls hl => ?_)
                        refine lv_iinc (v := nI (k + 1)) (lv' := [(14, .int (nI (k + 1))), (13, .int (bI (hoQ σ (nI pl) (k + 1)))), (11, .int (nI pe)), (10, .int (nI i)), (9, .int (nI kd)), (0, .ref (o 0)), (1, .ref (t 0)), (2, .ref (a 0)), (3, .ref (a 1)), (4, .ref (a 2)), (5, .ref (a 3)), (6, .ref (a 4)), (7, .int x), (8, .int y), (12, .int (nI pl))]) hx hb dL_acts_391 hl (k := 14) rfl (nI_1 k) (by decide) rfl (fun ls hl => ?_)
                        refine lv_goto (tgt := 352) hx hb dL_acts_394 (by decide) ?_
                        refine W.widen (k := 0 + 1 * (k + 1)) (n := 0 + 6 * (k + 1)) (by omega) (by omega) ?_
                        exact ihL352 (k + 1) hltk (by omega) H9 L9 hW hS ls (lv_sub hl [2, 3, 4, 5, 6, 7, 8, 9, 10, 11, 12, 13, 14, 1, 0] rfl)
                    · skip
                      refine lv_iload hx hb dL_acts_361 (lv_at hl 13 rfl) ?_
                      refine lv_if_ne (tgt := 384) hx hb dL_acts_363 (by decide) (fun c363_298 => ?_) (fun c363_298 => absurd c363_298 (by rw [e]; decide))
                      refine lv_iconst (v := 1) hx hb dL_acts_384 (by decide) ?_
                      refine k_eq (y := bI (hoQ σ (nI pl) (k + 1))) ((by rw [hoQ_p e]; rfl)) ?_
                      refine lv_goto (tgt := 389) hx hb dL_acts_385 (by decide) ?_
                      refine lv_istore (lv' := [(13, .int (bI (hoQ σ (nI pl) (k + 1)))), (11, .int (nI pe)), (10, .int (nI i)), (9, .int (nI kd)), (0, .ref (o 0)), (1, .ref (t 0)), (2, .ref (a 0)), (3, .ref (a 1)), (4, .ref (a 2)), (5, .ref (a 3)), (6, .ref (a 4)), (7, .int x), (8, .int y), (12, .int (nI pl)), (14, .int (nI k))]) hx hb dL_acts_389 hl (by decide) rfl (fun ls hl => ?_)
                      refine lv_iinc (v := nI (k + 1)) (lv' := [(14, .int (nI (k + 1))), (13, .int (bI (hoQ σ (nI pl) (k + 1)))), (11, .int (nI pe)), (10, .int (nI i)), (9, .int (nI kd)), (0, .ref (o 0)), (1, .ref (t 0)), (2, .ref (a 0)), (3, .ref (a 1)), (4, .ref (a 2)), (5, .ref (a 3)), (6, .ref (a 4)), (7, .int x), (8, .int y), (12, .int (nI pl))]) hx hb dL_acts_391 hl (k := 14) rfl (nI_1 k) (by decide) rfl (fun ls hl => ?_)
                      refine lv_goto (tgt := 352) hx hb dL_acts_394 (by decide) ?_
                      refine W.widen (k := 0 + 1 * (k + 1)) (n := 0 + 6 * (k + 1)) (by omega) (by omega) ?_
                      exact ihL352 (k + 1) hltk (by omega) H9 L9 hW hS ls (lv_sub hl [2, 3, 4, 5, 6, 7, 8, 9, 10, 11, 12, 13, 14, 1, 0] rfl)
              have hl : lv_has ls 17 [(14, .int (nI 0)), (13, .int (bI (hoQ σ (nI pl) 0))), (11, .int (nI pe)), (10, .int (nI i)), (9, .int (nI kd)), (0, .ref (o 0)), (1, .ref (t 0)), (2, .ref (a 0)), (3, .ref (a 1)), (4, .ref (a 2)), (5, .ref (a 3)), (6, .ref (a 4)), (7, .int x), (8, .int y), (12, .int (nI pl))] := hl
              refine W.widen (k := 0) (n := 0) (by omega) (by omega) ?_
              exact L352 (ns + 1) 0 (Nat.zero_le _) (by omega) H9 L9 hW hS ls (lv_sub hl [2, 3, 4, 5, 6, 7, 8, 9, 10, 11, 12, 13, 14, 1, 0] rfl)
            refine lv_iload hx hb dL_acts_315 (lv_at hl 11 rfl) ?_
            refine lv_iconst (v := 4) hx hb dL_acts_317 (by decide) ?_
            refine q_i (r_S S ⟨m_487, m_488, m_22, m_489⟩ ⟨rfl, by decide, by decide, by decide +kernel⟩ (kL_low l y 4 (by first | decide | omega) (by first | decide | omega)) ⟨rfl, rfl, Nat.le_of_ble_eq_true rfl, Nat.le_of_ble_eq_true rfl⟩ (ps bl_GL (bG hK.2)) (n := 2) (As := [.int y, .int 4]) (rest := []) rfl hl.1 rfl (Nat.le_of_ble_eq_true rfl) ⟨Nat.le_of_ble_eq_true rfl, Nat.le_of_ble_eq_true rfl⟩ dL_acts_318) (fun rq299 ⟨j0, hj0, eq299⟩ => ?_)
            subst eq299
            refine lv_if_ne (tgt := 336) hx hb dL_acts_321 (by decide) (fun cj => ?_) (fun cj => ?_)
            · skip
              refine lv_iload hx hb dL_acts_336 (lv_at hl 11 rfl) ?_
              refine lv_iconst (v := 4) hx hb dL_acts_338 (by decide) ?_
              refine lv_ishr hx hb dL_acts_339 ?_
              refine lv_iconst (v := 3) hx hb dL_acts_340 (by decide) ?_
              refine q_i (r_S S ⟨m_487, m_488, m_22, m_489⟩ ⟨rfl, by decide, by decide, by decide +kernel⟩ (kL_low l (y >>> (4 &&& 31)) 3 (by first | decide | omega) (by first | decide | omega)) ⟨rfl, rfl, Nat.le_of_ble_eq_true rfl, Nat.le_of_ble_eq_true rfl⟩ (ps bl_GL (bG hK.2)) (n := 2) (As := [.int (y >>> (4 &&& 31)), .int 3]) (rest := []) rfl hl.1 rfl (Nat.le_of_ble_eq_true rfl) ⟨Nat.le_of_ble_eq_true rfl, Nat.le_of_ble_eq_true rfl⟩ dL_acts_341) (fun rq301 ⟨j2, hj2, eq301⟩ => ?_)
              subst eq301
              refine lv_istore (lv' := [(12, .int (nI j2)), (11, .int (nI pe)), (10, .int (nI i)), (9, .int (nI kd)), (0, .ref (o 0)), (1, .ref (t 0)), (2, .ref (a 0)), (3, .ref (a 1)), (4, .ref (a 2)), (5, .ref (a 3)), (6, .ref (a 4)), (7, .int x), (8, .int y)]) hx hb dL_acts_344 hl (by decide) rfl (fun ls hl => ?_)
              refine W.widen (k := 0) (n := 0) (by omega) (by omega) ?_
              exact J346 j2 (by omega) s.heap _ hW hS ls (lv_sub hl [1, 2, 3, 4, 5, 6, 7, 8, 9, 10, 11, 12, 0] rfl)
            · skip
              refine lv_iload hx hb dL_acts_324 (lv_at hl 11 rfl) ?_
              refine lv_iconst (v := 4) hx hb dL_acts_326 (by decide) ?_
              refine lv_ishr hx hb dL_acts_327 ?_
              refine lv_bipush (v := 12) hx hb dL_acts_328 (by decide) ?_
              refine q_i (r_S S ⟨m_487, m_488, m_22, m_489⟩ ⟨rfl, by decide, by decide, by decide +kernel⟩ (kL_low l (y >>> (4 &&& 31)) 12 (by first | decide | omega) (by first | decide | omega)) ⟨rfl, rfl, Nat.le_of_ble_eq_true rfl, Nat.le_of_ble_eq_true rfl⟩ (ps bl_GL (bG hK.2)) (n := 2) (As := [.int (y >>> (4 &&& 31)), .int 12]) (rest := []) rfl hl.1 rfl (Nat.le_of_ble_eq_true rfl) ⟨Nat.le_of_ble_eq_true rfl, Nat.le_of_ble_eq_true rfl⟩ dL_acts_330) (fun rq302 ⟨j1, hj1, eq302⟩ => ?_)
              subst eq302
              refine lv_goto (tgt := 344) hx hb dL_acts_333 (by decide) ?_
              refine lv_istore (lv' := [(12, .int (nI j1)), (11, .int (nI pe)), (10, .int (nI i)), (9, .int (nI kd)), (0, .ref (o 0)), (1, .ref (t 0)), (2, .ref (a 0)), (3, .ref (a 1)), (4, .ref (a 2)), (5, .ref (a 3)), (6, .ref (a 4)), (7, .int x), (8, .int y)]) hx hb dL_acts_344 hl (by decide) rfl (fun ls hl => ?_)
              refine W.widen (k := 0) (n := 0) (by omega) (by omega) ?_
              exact J346 j1 (by omega) s.heap _ hW hS ls (lv_sub hl [1, 2, 3, 4, 5, 6, 7, 8, 9, 10, 11, 12, 0] rfl)
      · skip
        refine lv_aload_n hx hb dL_acts_137 rfl (lv_at hl 5 rfl) ?_
        refine lv_iload hx hb dL_acts_138 (lv_at hl 1 rfl) ?_
        refine k_ldQ S hK hW 0 (by decide) (i := i) (show i < 11 by omega) dL_acts_140 ?_
        refine k_eq (y := σ 0 i) (hA.ae i hi) ?_
        refine lv_istore (lv' := [(12, .int (σ 0 i)), (11, .int (nI pe)), (10, .int (nI i)), (9, .int (nI kd)), (0, .ref (o 0)), (1, .ref (t 0)), (2, .ref (a 0)), (3, .ref (a 1)), (4, .ref (a 2)), (5, .ref (a 3)), (6, .ref (a 4)), (7, .int x), (8, .int y)]) hx hb dL_acts_141 hl (by decide) rfl (fun ls hl => ?_)
        refine lv_aload_n hx hb dL_acts_143 rfl (lv_at hl 6 rfl) ?_
        refine lv_iconst (v := 5) hx hb dL_acts_144 (by decide) ?_
        refine lv_iload hx hb dL_acts_145 (lv_at hl 1 rfl) ?_
        refine lv_iadd hx hb dL_acts_147 ?_
        refine k_eq (y := nI (5 + pe)) (nI_add 5 pe) ?_
        refine k_ldQ S hK hW 0 (by decide) (i := (5 + pe)) (show (5 + pe) < 11 by omega) dL_acts_148 ?_
        refine k_eq (y := σ 1 pe) (hA.ab pe hpe) ?_
        refine lv_istore (lv' := [(13, .int (σ 1 pe)), (12, .int (σ 0 i)), (11, .int (nI pe)), (10, .int (nI i)), (9, .int (nI kd)), (0, .ref (o 0)), (1, .ref (t 0)), (2, .ref (a 0)), (3, .ref (a 1)), (4, .ref (a 2)), (5, .ref (a 3)), (6, .ref (a 4)), (7, .int x), (8, .int y)]) hx hb dL_acts_149 hl (by decide) rfl (fun ls hl => ?_)
        refine lv_aload_n hx hb dL_acts_151 rfl (lv_at hl 7 rfl) ?_
        refine lv_iload hx hb dL_acts_152 (lv_at hl 3 rfl) ?_
        refine lv_iload hx hb dL_acts_154 (lv_at hl 13 rfl) ?_
        refine lv_bipush (v := 6) hx hb dL_acts_156 (by decide) ?_
        refine q_i (r_S S ⟨m_487, m_488, m_22, m_489⟩ ⟨rfl, by decide, by decide, by decide +kernel⟩ (kL_low l y 6 (by first | decide | omega) (by first | decide | omega)) ⟨rfl, rfl, Nat.le_of_ble_eq_true rfl, Nat.le_of_ble_eq_true rfl⟩ (ps bl_GL (bG hK.2)) (n := 2) (As := [.int y, .int 6]) (rest := [.int (nI i), .ref (a 0)]) rfl hl.1 rfl (Nat.le_of_ble_eq_true rfl) ⟨Nat.le_of_ble_eq_true rfl, Nat.le_of_ble_eq_true rfl⟩ dL_acts_158) (fun rq303 ⟨jp, hjp, eq303⟩ => ?_)
        subst eq303
        refine k_stQ S hK hJ hW hS (fun _ h => h) 0 (by decide) (i := i) (show i < 11 by omega) dL_acts_161 (fun Hq304 Lq304 hWq304 hSq304 => ?_)
        refine lv_aload_n hx hb dL_acts_162 rfl (lv_at hl 7 rfl) ?_
        refine lv_iconst (v := 5) hx hb dL_acts_163 (by decide) ?_
        refine lv_iload hx hb dL_acts_164 (lv_at hl 2 rfl) ?_
        refine lv_iadd hx hb dL_acts_166 ?_
        refine k_eq (y := nI (5 + pe)) (nI_add 5 pe) ?_
        refine lv_iload hx hb dL_acts_167 (lv_at hl 13 rfl) ?_
        refine lv_bipush (v := 6) hx hb dL_acts_169 (by decide) ?_
        refine lv_ishr hx hb dL_acts_171 ?_
        refine lv_sipush (v := 300) hx hb dL_acts_172 (by decide) ?_
        refine q_i (r_S S ⟨m_487, m_488, m_22, m_489⟩ ⟨rfl, by decide, by decide, by decide +kernel⟩ (kL_low l (y >>> (6 &&& 31)) 300 (by first | decide | omega) (by first | decide | omega)) ⟨rfl, rfl, Nat.le_of_ble_eq_true rfl, Nat.le_of_ble_eq_true rfl⟩ (ps bl_GL (bG hK.2)) (n := 2) (As := [.int (y >>> (6 &&& 31)), .int 300]) (rest := [.int (nI (5 + pe)), .ref (a 0)]) rfl hl.1 rfl (Nat.le_of_ble_eq_true rfl) ⟨Nat.le_of_ble_eq_true rfl, Nat.le_of_ble_eq_true rfl⟩ dL_acts_175) (fun rq305 ⟨jb, hjb, eq305⟩ => ?_)
        subst eq305
        refine k_stQ S hK hJ hWq304 hSq304 (fun _ h => h) 0 (by decide) (i := (5 + pe)) (show (5 + pe) < 11 by omega) dL_acts_178 (fun Hq306 Lq306 hWq306 hSq306 => ?_)
        refine lv_aload_n hx hb dL_acts_179 rfl (lv_at hl 5 rfl) ?_
        refine lv_iload hx hb dL_acts_180 (lv_at hl 3 rfl) ?_
        refine lv_aload_n hx hb dL_acts_182 rfl (lv_at hl 7 rfl) ?_
        refine lv_iload hx hb dL_acts_183 (lv_at hl 3 rfl) ?_
        refine k_ldQ S hK hWq306 0 (by decide) (i := i) (show i < 11 by omega) dL_acts_185 ?_
        refine k_eq (y := nI jp) ((by rw [su_nat (by omega), su_at])) ?_
        refine q_wx (rx_SX S ⟨m_517, m_518, m_22, m_519⟩ ⟨rfl, by decide, by decide, by decide +kernel⟩ (kL_setPrice l G o σ nm ns (nI i) (nI jp) hst hns hns4 hnm hnm2 (AO o) hJ.dO) ⟨rfl, rfl, Nat.le_of_ble_eq_true rfl, Nat.le_of_ble_eq_true rfl⟩ (ps bl_PXZ (bXZ (hWq306.xo hK) ((hZ0.at hSq306 (fun _ h => h)).zs))) (n := 3) (As := [.ref (o 0), .int (nI i), .int (nI jp)]) (rest := []) rfl hl.1 rfl (Nat.le_of_ble_eq_true rfl) ⟨Nat.le_of_ble_eq_true rfl, Nat.le_of_ble_eq_true rfl⟩ dL_acts_186) hSq306 (fun _ h => h.inO) (fun rq307 Hq307 Lq307 eq307 gq307 fq307 hSq307 => ?_)
        subst eq307
        rw [show (if eX_setPrice (nI i) (nI jp) = 0 then (su σ 0 (ixN (nI i)) (nI jp)) else σ) = su σ 0 i (nI jp) from (if_pos (eR_0 (p := jp) hi (by omega))).trans (by rw [ixN_nI (by omega)])] at gq307
        have hWq307 := hWq306.wo hJ gq307 fq307
        refine k_eq (y := σ 0 i) (tV_two (v := fun z => σ 0 z) (eR_0 (p := jp) hi (by omega)) (by omega)) ?_
        refine lv_iload hx hb dL_acts_189 (lv_at hl 1 rfl) ?_
        refine lv_icmp_ne (tgt := 297) hx hb dL_acts_191 (by decide) (fun c191_308 => absurd rfl c191_308) (fun c191_308 => ?_)
        refine lv_aload_n hx hb dL_acts_194 rfl (lv_at hl 6 rfl) ?_
        refine lv_iload hx hb dL_acts_195 (lv_at hl 3 rfl) ?_
        refine lv_aload_n hx hb dL_acts_197 rfl (lv_at hl 7 rfl) ?_
        refine lv_iload hx hb dL_acts_198 (lv_at hl 3 rfl) ?_
        refine k_ldQ S hK hWq307 0 (by decide) (i := i) (show i < 11 by omega) dL_acts_200 ?_
        refine k_eq (y := nI jp) ((by rw [su_nat (by omega), su_at])) ?_
        refine q_wx (rx_SX S ⟨m_517, m_518, m_22, m_519⟩ ⟨rfl, by decide, by decide, by decide +kernel⟩ (kL_setPrice l G t σ nm ns (nI i) (nI jp) hst hns hns4 hnm hnm2 (AO t) hJ.dT) ⟨rfl, rfl, Nat.le_of_ble_eq_true rfl, Nat.le_of_ble_eq_true rfl⟩ (ps bl_PXZ (bXZ (hWq307.xt hK) ((hZ0.at hSq307 (fun _ h => h)).zs))) (n := 3) (As := [.ref (t 0), .int (nI i), .int (nI jp)]) (rest := []) rfl hl.1 rfl (Nat.le_of_ble_eq_true rfl) ⟨Nat.le_of_ble_eq_true rfl, Nat.le_of_ble_eq_true rfl⟩ dL_acts_201) hSq307 (fun _ h => h.inT) (fun rq309 Hq309 Lq309 eq309 gq309 fq309 hSq309 => ?_)
        subst eq309
        rw [show (if eX_setPrice (nI i) (nI jp) = 0 then (su σ 0 (ixN (nI i)) (nI jp)) else σ) = su σ 0 i (nI jp) from (if_pos (eR_0 (p := jp) hi (by omega))).trans (by rw [ixN_nI (by omega)])] at gq309
        have hWq309 := hWq307.wt hJ gq309 fq309
        refine k_eq (y := σ 0 i) (tV_two (v := fun z => σ 0 z) (eR_0 (p := jp) hi (by omega)) (by omega)) ?_
        refine lv_iload hx hb dL_acts_204 (lv_at hl 1 rfl) ?_
        refine lv_icmp_ne (tgt := 297) hx hb dL_acts_206 (by decide) (fun c206_310 => absurd rfl c206_310) (fun c206_310 => ?_)
        refine lv_aload_n hx hb dL_acts_209 rfl (lv_at hl 5 rfl) ?_
        refine lv_iload hx hb dL_acts_210 (lv_at hl 2 rfl) ?_
        refine lv_aload_n hx hb dL_acts_212 rfl (lv_at hl 7 rfl) ?_
        refine lv_iconst (v := 5) hx hb dL_acts_213 (by decide) ?_
        refine lv_iload hx hb dL_acts_214 (lv_at hl 2 rfl) ?_
        refine lv_iadd hx hb dL_acts_216 ?_
        refine k_eq (y := nI (5 + pe)) (nI_add 5 pe) ?_
        refine k_ldQ S hK hWq309 0 (by decide) (i := (5 + pe)) (show (5 + pe) < 11 by omega) dL_acts_217 ?_
        refine k_eq (y := nI jb) (su_at) ?_
        obtain ⟨σ1, hσ1⟩ : ∃ z, z = su (su σ 0 i (nI jp)) 1 pe (nI jb) := ⟨_, rfl⟩
        have hI1 : Inv σ1 (su (su α 0 i (nI jp)) 0 (5 + pe) (nI jb)) nm ns (n + 1) N S9 := by rw [hσ1]; exact hI.tm hi hpe (by omega) (by omega)
        refine q_wx (rx_SX S ⟨m_524, m_525, m_22, m_526⟩ ⟨rfl, by decide, by decide, by decide +kernel⟩ (kL_setBound l G o (su σ 0 i (nI jp)) nm ns (nI pe) (nI jb) hst ((su_ne (by decide)).trans hns) hns4 ((su_ne (by decide)).trans hnm) hnm2 (AO o) hJ.dO) ⟨rfl, rfl, Nat.le_of_ble_eq_true rfl, Nat.le_of_ble_eq_true rfl⟩ (ps bl_PXZ (bXZ (hWq309.xo hK) ((hZ0.at hSq309 (fun _ h => h)).zs))) (n := 3) (As := [.ref (o 0), .int (nI pe), .int (nI jb)]) (rest := []) rfl hl.1 rfl (Nat.le_of_ble_eq_true rfl) ⟨Nat.le_of_ble_eq_true rfl, Nat.le_of_ble_eq_true rfl⟩ dL_acts_218) hSq309 (fun _ h => h.inO) (fun rq311 Hq311 Lq311 eq311 gq311 fq311 hSq311 => ?_)
        subst eq311
        rw [show (if eX_setBound (nI pe) (nI jb) = 0 then (su (su σ 0 i (nI jp)) 1 (ixN (nI pe)) (nI jb)) else su σ 0 i (nI jp)) = σ1 from (if_pos (eU_0 (b := jb) hpe (by omega))).trans (by rw [hσ1, ixN_nI (by omega)])] at gq311
        have hWq311 := hWq309.wo hJ gq311 fq311
        refine k_eq (y := σ 1 pe) ((hcV_0 (eU_0 (b := jb) hpe (by omega))).trans (by rw [ixN_nI (by omega), su_ne (by decide)])) ?_
        refine lv_iload hx hb dL_acts_221 (lv_at hl 0 rfl) ?_
        refine lv_icmp_ne (tgt := 297) hx hb dL_acts_223 (by decide) (fun c223_312 => absurd rfl c223_312) (fun c223_312 => ?_)
        refine lv_aload_n hx hb dL_acts_226 rfl (lv_at hl 6 rfl) ?_
        refine lv_iload hx hb dL_acts_227 (lv_at hl 2 rfl) ?_
        refine lv_aload_n hx hb dL_acts_229 rfl (lv_at hl 7 rfl) ?_
        refine lv_iconst (v := 5) hx hb dL_acts_230 (by decide) ?_
        refine lv_iload hx hb dL_acts_231 (lv_at hl 2 rfl) ?_
        refine lv_iadd hx hb dL_acts_233 ?_
        refine k_eq (y := nI (5 + pe)) (nI_add 5 pe) ?_
        refine k_ldQ S hK hWq311 0 (by decide) (i := (5 + pe)) (show (5 + pe) < 11 by omega) dL_acts_234 ?_
        refine k_eq (y := nI jb) (su_at) ?_
        refine q_wx (rx_SX S ⟨m_524, m_525, m_22, m_526⟩ ⟨rfl, by decide, by decide, by decide +kernel⟩ (kL_setBound l G t (su σ 0 i (nI jp)) nm ns (nI pe) (nI jb) hst ((su_ne (by decide)).trans hns) hns4 ((su_ne (by decide)).trans hnm) hnm2 (AO t) hJ.dT) ⟨rfl, rfl, Nat.le_of_ble_eq_true rfl, Nat.le_of_ble_eq_true rfl⟩ (ps bl_PXZ (bXZ (hWq311.xt hK) ((hZ0.at hSq311 (fun _ h => h)).zs))) (n := 3) (As := [.ref (t 0), .int (nI pe), .int (nI jb)]) (rest := []) rfl hl.1 rfl (Nat.le_of_ble_eq_true rfl) ⟨Nat.le_of_ble_eq_true rfl, Nat.le_of_ble_eq_true rfl⟩ dL_acts_235) hSq311 (fun _ h => h.inT) (fun rq313 Hq313 Lq313 eq313 gq313 fq313 hSq313 => ?_)
        subst eq313
        rw [show (if eX_setBound (nI pe) (nI jb) = 0 then (su (su σ 0 i (nI jp)) 1 (ixN (nI pe)) (nI jb)) else su σ 0 i (nI jp)) = σ1 from (if_pos (eU_0 (b := jb) hpe (by omega))).trans (by rw [hσ1, ixN_nI (by omega)])] at gq313
        have hWq313 := hWq311.wt hJ gq313 fq313
        refine k_eq (y := σ 1 pe) ((hcV_0 (eU_0 (b := jb) hpe (by omega))).trans (by rw [ixN_nI (by omega), su_ne (by decide)])) ?_
        refine lv_iload hx hb dL_acts_238 (lv_at hl 0 rfl) ?_
        refine lv_icmp_ne (tgt := 297) hx hb dL_acts_240 (by decide) (fun c240_314 => absurd rfl c240_314) (fun c240_314 => ?_)
        refine lv_aload_n hx hb dL_acts_243 rfl (lv_at hl 5 rfl) ?_
        refine lv_iconst (v := 0) hx hb dL_acts_244 (by decide) ?_
        refine lv_sipush (v := 1001) hx hb dL_acts_245 (by decide) ?_
        refine q_wx (rx_SX S ⟨m_517, m_518, m_22, m_519⟩ ⟨rfl, by decide, by decide, by decide +kernel⟩ (kL_setPrice l G o σ1 nm ns 0 1001 hst hI1.1.hns hns4 hI1.1.hnm hnm2 (AO o) hJ.dO) ⟨rfl, rfl, Nat.le_of_ble_eq_true rfl, Nat.le_of_ble_eq_true rfl⟩ (ps bl_PXZ (bXZ (hWq313.xo hK) ((hZ0.at hSq313 (fun _ h => h)).zs))) (n := 3) (As := [.ref (o 0), .int 0, .int 1001]) (rest := []) rfl hl.1 rfl (Nat.le_of_ble_eq_true rfl) ⟨Nat.le_of_ble_eq_true rfl, Nat.le_of_ble_eq_true rfl⟩ dL_acts_248) hSq313 (fun _ h => h.inO) (fun rq315 Hq315 Lq315 eq315 gq315 fq315 hSq315 => ?_)
        subst eq315
        rw [show (if eX_setPrice 0 1001 = 0 then (su σ1 0 (ixN 0) 1001) else σ1) = σ1 from if_neg (ne0 (k := 1) (show eX_setPrice 0 1001 = 2 by decide))] at gq315
        have hWq315 := hWq313.wo hJ gq315 fq315
        refine k_eq (y := (-1000002)) (hcV_2 (show eX_setPrice 0 1001 = 2 by decide)) ?_
        refine lv_ldc (v := (-1000002)) hx hb S.2.2.2.1 (S.2.2.2.2 _ m_394) dL_acts_251 ?_
        refine lv_icmp_ne (tgt := 297) hx hb dL_acts_253 (by decide) (fun c253_316 => absurd (by decide) c253_316) (fun c253_316 => ?_)
        refine lv_aload_n hx hb dL_acts_256 rfl (lv_at hl 5 rfl) ?_
        refine lv_iconst (v := 5) hx hb dL_acts_257 (by decide) ?_
        refine lv_sipush (v := 1001) hx hb dL_acts_258 (by decide) ?_
        refine q_wx (rx_SX S ⟨m_517, m_518, m_22, m_519⟩ ⟨rfl, by decide, by decide, by decide +kernel⟩ (kL_setPrice l G o σ1 nm ns 5 1001 hst hI1.1.hns hns4 hI1.1.hnm hnm2 (AO o) hJ.dO) ⟨rfl, rfl, Nat.le_of_ble_eq_true rfl, Nat.le_of_ble_eq_true rfl⟩ (ps bl_PXZ (bXZ (hWq315.xo hK) ((hZ0.at hSq315 (fun _ h => h)).zs))) (n := 3) (As := [.ref (o 0), .int 5, .int 1001]) (rest := []) rfl hl.1 rfl (Nat.le_of_ble_eq_true rfl) ⟨Nat.le_of_ble_eq_true rfl, Nat.le_of_ble_eq_true rfl⟩ dL_acts_261) hSq315 (fun _ h => h.inO) (fun rq317 Hq317 Lq317 eq317 gq317 fq317 hSq317 => ?_)
        subst eq317
        rw [show (if eX_setPrice 5 1001 = 0 then (su σ1 0 (ixN 5) 1001) else σ1) = σ1 from if_neg (ne0 (k := 0) (show eX_setPrice 5 1001 = 1 by decide))] at gq317
        have hWq317 := hWq315.wo hJ gq317 fq317
        refine k_eq (y := (-1000001)) (hcV_1 (show eX_setPrice 5 1001 = 1 by decide)) ?_
        refine lv_ldc (v := (-1000001)) hx hb S.2.2.2.1 (S.2.2.2.2 _ m_294) dL_acts_264 ?_
        refine lv_icmp_ne (tgt := 297) hx hb dL_acts_266 (by decide) (fun c266_318 => absurd (by decide) c266_318) (fun c266_318 => ?_)
        refine lv_aload_n hx hb dL_acts_269 rfl (lv_at hl 5 rfl) ?_
        refine lv_bipush (v := 6) hx hb dL_acts_270 (by decide) ?_
        refine lv_iconst (v := 0) hx hb dL_acts_272 (by decide) ?_
        refine q_wx (rx_SX S ⟨m_524, m_525, m_22, m_526⟩ ⟨rfl, by decide, by decide, by decide +kernel⟩ (kL_setBound l G o σ1 nm ns 6 0 hst hI1.1.hns hns4 hI1.1.hnm hnm2 (AO o) hJ.dO) ⟨rfl, rfl, Nat.le_of_ble_eq_true rfl, Nat.le_of_ble_eq_true rfl⟩ (ps bl_PXZ (bXZ (hWq317.xo hK) ((hZ0.at hSq317 (fun _ h => h)).zs))) (n := 3) (As := [.ref (o 0), .int 6, .int 0]) (rest := []) rfl hl.1 rfl (Nat.le_of_ble_eq_true rfl) ⟨Nat.le_of_ble_eq_true rfl, Nat.le_of_ble_eq_true rfl⟩ dL_acts_273) hSq317 (fun _ h => h.inO) (fun rq319 Hq319 Lq319 eq319 gq319 fq319 hSq319 => ?_)
        subst eq319
        rw [show (if eX_setBound 6 0 = 0 then (su σ1 1 (ixN 6) 0) else σ1) = σ1 from if_neg (ne0 (k := 0) (show eX_setBound 6 0 = 1 by decide))] at gq319
        have hWq319 := hWq317.wo hJ gq319 fq319
        refine k_eq (y := (-1000001)) (hcV_1 (show eX_setBound 6 0 = 1 by decide)) ?_
        refine lv_ldc (v := (-1000001)) hx hb S.2.2.2.1 (S.2.2.2.2 _ m_294) dL_acts_276 ?_
        refine lv_icmp_ne (tgt := 297) hx hb dL_acts_278 (by decide) (fun c278_320 => absurd (by decide) c278_320) (fun c278_320 => ?_)
        refine lv_aload_n hx hb dL_acts_281 rfl (lv_at hl 5 rfl) ?_
        refine lv_iconst (v := 0) hx hb dL_acts_282 (by decide) ?_
        refine lv_ldc (v := 1000001) hx hb S.2.2.2.1 (S.2.2.2.2 _ m_532) dL_acts_283 ?_
        refine q_wx (rx_SX S ⟨m_524, m_525, m_22, m_526⟩ ⟨rfl, by decide, by decide, by decide +kernel⟩ (kL_setBound l G o σ1 nm ns 0 1000001 hst hI1.1.hns hns4 hI1.1.hnm hnm2 (AO o) hJ.dO) ⟨rfl, rfl, Nat.le_of_ble_eq_true rfl, Nat.le_of_ble_eq_true rfl⟩ (ps bl_PXZ (bXZ (hWq319.xo hK) ((hZ0.at hSq319 (fun _ h => h)).zs))) (n := 3) (As := [.ref (o 0), .int 0, .int 1000001]) (rest := []) rfl hl.1 rfl (Nat.le_of_ble_eq_true rfl) ⟨Nat.le_of_ble_eq_true rfl, Nat.le_of_ble_eq_true rfl⟩ dL_acts_285) hSq319 (fun _ h => h.inO) (fun rq321 Hq321 Lq321 eq321 gq321 fq321 hSq321 => ?_)
        subst eq321
        rw [show (if eX_setBound 0 1000001 = 0 then (su σ1 1 (ixN 0) 1000001) else σ1) = σ1 from if_neg (ne0 (k := 1) (show eX_setBound 0 1000001 = 2 by decide))] at gq321
        have hWq321 := hWq319.wo hJ gq321 fq321
        refine k_eq (y := (-1000002)) (hcV_2 (show eX_setBound 0 1000001 = 2 by decide)) ?_
        refine lv_ldc (v := (-1000002)) hx hb S.2.2.2.1 (S.2.2.2.2 _ m_394) dL_acts_288 ?_
        refine lv_icmp_ne (tgt := 297) hx hb dL_acts_290 (by decide) (fun c290_322 => absurd (by decide) c290_322) (fun c290_322 => ?_)
        refine lv_iconst (v := 1) hx hb dL_acts_293 (by decide) ?_
        refine lv_goto (tgt := 298) hx hb dL_acts_294 (by decide) ?_
        refine W.widen (k := 70) (n := 420) (by first | omega | exact Nat.le_of_ble_eq_true rfl) (by first | omega | exact Nat.le_of_ble_eq_true rfl) ?_
        exact W.zret (v := 1) (ty := .boolean) hx hb hr (by first | rfl | exact bI_nar _) (fun t9 ht hWz => ⟨⟨_, rfl, rfl⟩, by rw [ht]; exact ⟨σ1, su (su α 0 i (nI jp)) 0 (5 + pe) (nI jb), hI1.ri, hWq321⟩, hSq321.F ht⟩) hSq321.2.2 dL_acts_298
    · skip
      refine lv_iconst (v := 1) hx hb dL_acts_56 (by decide) ?_
      refine lv_iload hx hb dL_acts_57 (lv_at hl 11 rfl) ?_
      refine lv_bipush (v := 40) hx hb dL_acts_59 (by decide) ?_
      refine q_i (r_S S ⟨m_487, m_488, m_22, m_489⟩ ⟨rfl, by decide, by decide, by decide +kernel⟩ (kL_low l y 40 (by first | decide | omega) (by first | decide | omega)) ⟨rfl, rfl, Nat.le_of_ble_eq_true rfl, Nat.le_of_ble_eq_true rfl⟩ (ps bl_GL (bG hK.2)) (n := 2) (As := [.int y, .int 40]) (rest := [.int 1]) rfl hl.1 rfl (Nat.le_of_ble_eq_true rfl) ⟨Nat.le_of_ble_eq_true rfl, Nat.le_of_ble_eq_true rfl⟩ dL_acts_61) (fun rq323 ⟨jm, hjm, eq323⟩ => ?_)
      subst eq323
      refine lv_iadd hx hb dL_acts_64 ?_
      refine k_eq (y := nI (1 + jm)) (nI_add 1 jm) ?_
      refine lv_istore (lv' := [(12, .int (nI (1 + jm))), (11, .int (nI pe)), (10, .int (nI i)), (9, .int (nI kd)), (0, .ref (o 0)), (1, .ref (t 0)), (2, .ref (a 0)), (3, .ref (a 1)), (4, .ref (a 2)), (5, .ref (a 3)), (6, .ref (a 4)), (7, .int x), (8, .int y)]) hx hb dL_acts_65 hl (by decide) rfl (fun ls hl => ?_)
      refine lv_aload hx hb dL_acts_67 (lv_at hl 10 rfl) ?_
      refine lv_iconst (v := 0) hx hb dL_acts_69 (by decide) ?_
      refine lv_dup2_11 hx hb dL_acts_70 rfl rfl ?_
      refine k_ldQ S hK hW 4 (by decide) (i := 0) (show 0 < 3 by omega) dL_acts_71 ?_
      refine k_eq (y := nI N) (hA.g0) ?_
      refine lv_iload hx hb dL_acts_72 (lv_at hl 0 rfl) ?_
      refine lv_iadd hx hb dL_acts_74 ?_
      refine k_eq (y := nI (N + (1 + jm))) (nI_add N (1 + jm)) ?_
      refine k_stQ S hK hJ hW hS (fun _ h => h) 4 (by decide) (i := 0) (show 0 < 3 by omega) dL_acts_75 (fun Hq324 Lq324 hWq324 hSq324 => ?_)
      refine lv_aload_n hx hb dL_acts_76 rfl (lv_at hl 4 rfl) ?_
      refine lv_iload hx hb dL_acts_77 (lv_at hl 0 rfl) ?_
      obtain ⟨σ1, hσ1⟩ : ∃ z, z = su σ 16 0 (nI (N + (1 + jm))) := ⟨_, rfl⟩
      have hI1 : Inv σ1 (su α 4 0 (nI (N + (1 + jm)))) nm ns (n + 1) (N + (1 + jm)) S9 := by rw [hσ1]; exact hI.ps (by omega)
      refine q_wx (rx_SX S ⟨m_510, m_511, m_22, m_512⟩ ⟨rfl, by decide, by decide, by decide +kernel⟩ (kL_pass l G o σ nm ns (nI (1 + jm)) hst hns hns4 hnm hnm2 (AO o) hJ.dO) ⟨rfl, rfl, Nat.le_of_ble_eq_true rfl, Nat.le_of_ble_eq_true rfl⟩ (ps bl_PXZ (bXZ (hWq324.xo hK) ((hZ0.at hSq324 (fun _ h => h)).zs))) (n := 2) (As := [.ref (o 0), .int (nI (1 + jm))]) (rest := []) rfl hl.1 rfl (Nat.le_of_ble_eq_true rfl) ⟨Nat.le_of_ble_eq_true rfl, Nat.le_of_ble_eq_true rfl⟩ dL_acts_79) hSq324 (fun _ h => h.inO) (fun rq325 Hq325 Lq325 eq325 gq325 fq325 hSq325 => ?_)
      subst eq325
      rw [show (if eX_pass (nI (1 + jm)) = 0 then (su σ 16 0 (σ 16 0 + (nI (1 + jm)))) else σ) = σ1 from (if_pos (eP_0 (mm := 1 + jm) (by omega) (by omega))).trans (by rw [hσ1, hC.now, nI_add])] at gq325
      have hWq325 := hWq324.wo hJ gq325 fq325
      refine k_eq (y := nI (N + (1 + jm))) ((hcV_0 (eP_0 (mm := 1 + jm) (by omega) (by omega))).trans (by rw [hC.now]; exact nI_add N (1 + jm))) ?_
      refine lv_aload hx hb dL_acts_82 (lv_at hl 10 rfl) ?_
      refine lv_iconst (v := 0) hx hb dL_acts_84 (by decide) ?_
      refine k_ldQ S hK hWq325 4 (by decide) (i := 0) (show 0 < 3 by omega) dL_acts_85 ?_
      refine k_eq (y := nI (N + (1 + jm))) (su_at) ?_
      refine lv_icmp_ne (tgt := 128) hx hb dL_acts_86 (by decide) (fun c86_326 => absurd rfl c86_326) (fun c86_326 => ?_)
      refine lv_aload_n hx hb dL_acts_89 rfl (lv_at hl 5 rfl) ?_
      refine lv_iload hx hb dL_acts_90 (lv_at hl 0 rfl) ?_
      refine q_wx (rx_SX S ⟨m_510, m_511, m_22, m_512⟩ ⟨rfl, by decide, by decide, by decide +kernel⟩ (kL_pass l G t σ nm ns (nI (1 + jm)) hst hns hns4 hnm hnm2 (AO t) hJ.dT) ⟨rfl, rfl, Nat.le_of_ble_eq_true rfl, Nat.le_of_ble_eq_true rfl⟩ (ps bl_PXZ (bXZ (hWq325.xt hK) ((hZ0.at hSq325 (fun _ h => h)).zs))) (n := 2) (As := [.ref (t 0), .int (nI (1 + jm))]) (rest := []) rfl hl.1 rfl (Nat.le_of_ble_eq_true rfl) ⟨Nat.le_of_ble_eq_true rfl, Nat.le_of_ble_eq_true rfl⟩ dL_acts_92) hSq325 (fun _ h => h.inT) (fun rq327 Hq327 Lq327 eq327 gq327 fq327 hSq327 => ?_)
      subst eq327
      rw [show (if eX_pass (nI (1 + jm)) = 0 then (su σ 16 0 (σ 16 0 + (nI (1 + jm)))) else σ) = σ1 from (if_pos (eP_0 (mm := 1 + jm) (by omega) (by omega))).trans (by rw [hσ1, hC.now, nI_add])] at gq327
      have hWq327 := hWq325.wt hJ gq327 fq327
      refine k_eq (y := nI (N + (1 + jm))) ((hcV_0 (eP_0 (mm := 1 + jm) (by omega) (by omega))).trans (by rw [hC.now]; exact nI_add N (1 + jm))) ?_
      refine lv_aload hx hb dL_acts_95 (lv_at hl 10 rfl) ?_
      refine lv_iconst (v := 0) hx hb dL_acts_97 (by decide) ?_
      refine k_ldQ S hK hWq327 4 (by decide) (i := 0) (show 0 < 3 by omega) dL_acts_98 ?_
      refine k_eq (y := nI (N + (1 + jm))) (su_at) ?_
      refine lv_icmp_ne (tgt := 128) hx hb dL_acts_99 (by decide) (fun c99_328 => absurd rfl c99_328) (fun c99_328 => ?_)
      refine lv_aload_n hx hb dL_acts_102 rfl (lv_at hl 4 rfl) ?_
      refine lv_iconst (v := 0) hx hb dL_acts_103 (by decide) ?_
      refine q_wx (rx_SX S ⟨m_510, m_511, m_22, m_512⟩ ⟨rfl, by decide, by decide, by decide +kernel⟩ (kL_pass l G o σ1 nm ns 0 hst hI1.1.hns hns4 hI1.1.hnm hnm2 (AO o) hJ.dO) ⟨rfl, rfl, Nat.le_of_ble_eq_true rfl, Nat.le_of_ble_eq_true rfl⟩ (ps bl_PXZ (bXZ (hWq327.xo hK) ((hZ0.at hSq327 (fun _ h => h)).zs))) (n := 2) (As := [.ref (o 0), .int 0]) (rest := []) rfl hl.1 rfl (Nat.le_of_ble_eq_true rfl) ⟨Nat.le_of_ble_eq_true rfl, Nat.le_of_ble_eq_true rfl⟩ dL_acts_104) hSq327 (fun _ h => h.inO) (fun rq329 Hq329 Lq329 eq329 gq329 fq329 hSq329 => ?_)
      subst eq329
      rw [show (if eX_pass 0 = 0 then (su σ1 16 0 (σ1 16 0 + 0)) else σ1) = σ1 from if_neg (ne0 (k := 1) (show eX_pass 0 = 2 by decide))] at gq329
      have hWq329 := hWq327.wo hJ gq329 fq329
      refine k_eq (y := (-1000002)) (hcV_2 (show eX_pass 0 = 2 by decide)) ?_
      refine lv_ldc (v := (-1000002)) hx hb S.2.2.2.1 (S.2.2.2.2 _ m_394) dL_acts_107 ?_
      refine lv_icmp_ne (tgt := 128) hx hb dL_acts_109 (by decide) (fun c109_330 => absurd (by decide) c109_330) (fun c109_330 => ?_)
      refine lv_aload_n hx hb dL_acts_112 rfl (lv_at hl 4 rfl) ?_
      refine lv_sipush (v := 1001) hx hb dL_acts_113 (by decide) ?_
      refine q_wx (rx_SX S ⟨m_510, m_511, m_22, m_512⟩ ⟨rfl, by decide, by decide, by decide +kernel⟩ (kL_pass l G o σ1 nm ns 1001 hst hI1.1.hns hns4 hI1.1.hnm hnm2 (AO o) hJ.dO) ⟨rfl, rfl, Nat.le_of_ble_eq_true rfl, Nat.le_of_ble_eq_true rfl⟩ (ps bl_PXZ (bXZ (hWq329.xo hK) ((hZ0.at hSq329 (fun _ h => h)).zs))) (n := 2) (As := [.ref (o 0), .int 1001]) (rest := []) rfl hl.1 rfl (Nat.le_of_ble_eq_true rfl) ⟨Nat.le_of_ble_eq_true rfl, Nat.le_of_ble_eq_true rfl⟩ dL_acts_116) hSq329 (fun _ h => h.inO) (fun rq331 Hq331 Lq331 eq331 gq331 fq331 hSq331 => ?_)
      subst eq331
      rw [show (if eX_pass 1001 = 0 then (su σ1 16 0 (σ1 16 0 + 1001)) else σ1) = σ1 from if_neg (ne0 (k := 1) (show eX_pass 1001 = 2 by decide))] at gq331
      have hWq331 := hWq329.wo hJ gq331 fq331
      refine k_eq (y := (-1000002)) (hcV_2 (show eX_pass 1001 = 2 by decide)) ?_
      refine lv_ldc (v := (-1000002)) hx hb S.2.2.2.1 (S.2.2.2.2 _ m_394) dL_acts_119 ?_
      refine lv_icmp_ne (tgt := 128) hx hb dL_acts_121 (by decide) (fun c121_332 => absurd (by decide) c121_332) (fun c121_332 => ?_)
      refine lv_iconst (v := 1) hx hb dL_acts_124 (by decide) ?_
      refine lv_goto (tgt := 129) hx hb dL_acts_125 (by decide) ?_
      refine W.widen (k := 70) (n := 420) (by first | omega | exact Nat.le_of_ble_eq_true rfl) (by first | omega | exact Nat.le_of_ble_eq_true rfl) ?_
      exact W.zret (v := 1) (ty := .boolean) hx hb hr (by first | rfl | exact bI_nar _) (fun t9 ht hWz => ⟨⟨_, rfl, rfl⟩, by rw [ht]; exact ⟨σ1, su α 4 0 (nI (N + (1 + jm))), hI1.ri, hWq331⟩, hSq331.F ht⟩) hSq331.2.2 dL_acts_129
  · skip
    refine lv_aload_n hx hb dL_acts_37 rfl (lv_at hl 3 rfl) ?_
    refine lv_aload_n hx hb dL_acts_38 rfl (lv_at hl 4 rfl) ?_
    refine lv_aload hx hb dL_acts_39 (lv_at hl 9 rfl) ?_
    refine lv_iload hx hb dL_acts_41 (lv_at hl 10 rfl) ?_
    refine lv_iload hx hb dL_acts_43 (lv_at hl 11 rfl) ?_
    refine q_w (r_S S ⟨m_491, m_492, m_22, m_493⟩ ⟨rfl, by decide, by decide, by decide +kernel⟩ (kL_moves l G o t a σ α nm ns n N S9 x y hst hJ hI hn) ⟨rfl, rfl, Nat.le_of_ble_eq_true rfl, Nat.le_of_ble_eq_true rfl⟩ (ps bl_PQ (hW.bq hK (hZ0.at hS (fun _ h => h)))) (n := 5) (As := [.ref (o 0), .ref (t 0), .ref (a 4), .int x, .int y]) (rest := []) rfl hl.1 rfl (Nat.le_of_ble_eq_true rfl) ⟨Nat.le_of_ble_eq_true rfl, Nat.le_of_ble_eq_true rfl⟩ dL_acts_45) hS (fun _ h => h) (fun rq333 Hq333 Lq333 eq333 hWq333 _ fq333 hSq333 => ?_)
    subst eq333
    refine W.widen (k := 70) (n := 420) (by first | omega | exact Nat.le_of_ble_eq_true rfl) (by first | omega | exact Nat.le_of_ble_eq_true rfl) ?_
    exact W.zret (v := 1) (ty := .boolean) hx hb hr (by first | rfl | exact bI_nar _) (fun t9 ht hWz => ⟨⟨_, rfl, rfl⟩, by rw [ht]; exact hWq333, hSq333.F ht⟩) hSq333.2.2 dL_acts_48
