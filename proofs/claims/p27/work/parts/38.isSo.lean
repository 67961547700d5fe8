/-! FACTS: how exact the book was -/
section FE
variable {σ : kS} {ns z : Nat}
theorem tV_exact {v : Int32} (h : z < 3) : hcV (eX_one (nI z) 3) v = v := by
  refine hcV_0 ?_
  unfold eX_one
  rw [show ckI (nI z) 3 = true from ckI_ok (n := 3) h (by decide)]
  rfl
theorem ex_n {x : Int32} (h : ¬ (exF σ x ns).1 = 0) : exV σ ns x = 1000 * (exF σ x ns).2 / (exF σ x ns).1 := if_neg h
theorem ex_0 {x : Int32} (h : (exF σ x ns).1 = 0) : exV σ ns x = -1 := if_pos h
end FE
set_option maxHeartbeats 4000000 in
set_option maxRecDepth 100000 in
theorem kL_isSo (l : Launch) (G : kG) (o t a : Nat → Nat) (σ τ α : kS) (nm ns n N S9 : Nat) (hst : l.stackTraces = false) (hJ : JQ o t a) (hI : Inv σ α nm ns n N S9) (hn : n ≤ 110) : Met l yL_isSo [.code yL_isSo cL_isSo 7 (some .boolean)] ({ frames := 11, cells := 2620, slots := 15720, locals := 267 }) (va_Pc [.ref (o 0), .ref (a 0), .ref (a 1), .ref (a 2), .ref (a 3), .ref (a 4)] (PQ G o t a σ τ α)) (oW (AQ o t a) (fun r => r = 1) (fun H9 => WQ G o t a σ τ α H9)) 2620 15720 (AQ o t a) := by
  refine k_of (by decide) (Nat.le_of_ble_eq_true rfl) (fun U h => h.2.1.2) ?_
  intro p e s m below meth c ls S hr hlocks hmn hB hl
  have hx := S.1
  have hb := S.2.1
  obtain ⟨hW, hK, hZ0⟩ := hB
  have hS : va_S (AQ o t a) s.heap s.heap [] := va_S.rf
  have hC := hI.1
  have hA := hI.2
  have hns := hC.hns
  have hns4 : ns ≤ 40 := by have := hC.ns12; omega
  have hnm := hC.hnm
  have hnm2 : nm ≤ 200 := by have := hC.nmn; omega
  have hN31 : N < 2 ^ 31 := by have := hC.Nn; omega
  have hns12 := hC.ns12
  have hl : lv_has ls 7 [(0, .ref (o 0)), (1, .ref (a 0)), (2, .ref (a 1)), (3, .ref (a 2)), (4, .ref (a 3)), (5, .ref (a 4))] := hl
  have L3 : ∀ (n9 k : Nat), k ≤ ns → ns + 1 ≤ k + n9 → ∀ (H9 : Heap) (L9 : List Loc), WQ G o t a σ τ α H9 → va_S ((AQ o t a)) s.heap H9 L9 → ∀ ls, lv_has ls 7 [(0, .ref (o 0)), (1, .ref (a 0)), (2, .ref (a 1)), (3, .ref (a 2)), (4, .ref (a 3)), (5, .ref (a 4)), (6, .int (nI k))] → W p l e (({ frames := 11, cells := 2620, slots := 15720, locals := 267 }) : Room) s m [.ref (o 0), .ref (a 0), .ref (a 1), .ref (a 2), .ref (a 3), .ref (a 4)].toArray below meth c H9 L9 (0 + 165 * k) (0 + 990 * k) (MQ below (oW (AQ o t a) (fun r => r = 1) (fun H9 => WQ G o t a σ τ α H9)) [.ref (o 0), .ref (a 0), .ref (a 1), .ref (a 2), .ref (a 3), .ref (a 4)].toArray s 2620 15720 (AQ o t a)) (F0 m 3 ls []) := by
    intro n9
    induction n9 with
    | zero =>
      intro k h1 h2
      omega
    | succ n9 ihL3 =>
      intro k hik hink  H9 L9 hW hS ls hl
      refine lv_iload hx hb dL_isSo_3 (lv_at hl 6 rfl) ?_
      refine lv_aload hx hb dL_isSo_5 (lv_at hl 5 rfl) ?_
      refine lv_iconst (v := 2) hx hb dL_isSo_7 (by decide) ?_
      refine k_ldQ S hK hW 4 (by decide) (i := 2) (show 2 < 3 by omega) dL_isSo_8 ?_
      refine k_eq (y := nI ns) (hA.g2) ?_
      refine lv_icmp_ge (tgt := 33) hx hb dL_isSo_9 (by decide) (fun ck => ?_) (fun ck => ?_)
      · skip
        have hgek : k = ns := by
          have h9 := ck
          rw [nI_leI (by omega) (by omega)] at h9
          omega
        refine W.widen (k := 1980) (n := 11880) (by omega) (by omega) ?_
        refine lv_iconst (v := 0) hx hb dL_isSo_33 (by decide) ?_
        refine lv_istore (lv' := [(6, .int 0), (0, .ref (o 0)), (1, .ref (a 0)), (2, .ref (a 1)), (3, .ref (a 2)), (4, .ref (a 3)), (5, .ref (a 4))]) hx hb dL_isSo_34 hl (by decide) rfl (fun ls hl => ?_)
        have L36 : ∀ (n9 z : Nat), z ≤ 3 → 3 + 1 ≤ z + n9 → ∀ (H9 : Heap) (L9 : List Loc), WQ G o t a σ τ α H9 → va_S ((AQ o t a)) s.heap H9 L9 → ∀ ls, lv_has ls 7 [(0, .ref (o 0)), (1, .ref (a 0)), (2, .ref (a 1)), (3, .ref (a 2)), (4, .ref (a 3)), (5, .ref (a 4)), (6, .int (nI z))] → W p l e (({ frames := 11, cells := 2620, slots := 15720, locals := 267 }) : Room) s m [.ref (o 0), .ref (a 0), .ref (a 1), .ref (a 2), .ref (a 3), .ref (a 4)].toArray below meth c H9 L9 (1980 + 1 * z) (11880 + 6 * z) (MQ below (oW (AQ o t a) (fun r => r = 1) (fun H9 => WQ G o t a σ τ α H9)) [.ref (o 0), .ref (a 0), .ref (a 1), .ref (a 2), .ref (a 3), .ref (a 4)].toArray s 2620 15720 (AQ o t a)) (F0 m 36 ls []) := by
          intro n9
          induction n9 with
          | zero =>
            intro z h1 h2
            omega
          | succ n9 ihL36 =>
            intro z hiz hinz  H9 L9 hW hS ls hl
            refine lv_iload hx hb dL_isSo_36 (lv_at hl 6 rfl) ?_
            refine lv_iconst (v := 3) hx hb dL_isSo_38 (by decide) ?_
            refine lv_icmp_ge (tgt := 94) hx hb dL_isSo_39 (by decide) (fun cz => ?_) (fun cz => ?_)
            · skip
              have hgez : z = 3 := by
                have h9 := cz
                rw [show (3 : Int32) = nI 3 from rfl, nI_leI (by omega) (by omega)] at h9
                omega
              refine W.widen (k := 1990) (n := 11940) (by omega) (by omega) ?_
              refine lv_aload_n hx hb dL_isSo_94 rfl (lv_at hl 0 rfl) ?_
              refine lv_aload_n hx hb dL_isSo_95 rfl (lv_at hl 1 rfl) ?_
              refine lv_aload_n hx hb dL_isSo_96 rfl (lv_at hl 2 rfl) ?_
              refine lv_aload hx hb dL_isSo_97 (lv_at hl 5 rfl) ?_
              refine q_w (r_S S ⟨m_469, m_470, m_22, m_471⟩ ⟨rfl, by decide, by decide, by decide +kernel⟩ (kL_places l G o t a σ τ α nm ns n N S9 hst hJ hI hn) ⟨rfl, rfl, Nat.le_of_ble_eq_true rfl, Nat.le_of_ble_eq_true rfl⟩ (ps bl_PQ (hW.bq hK (hZ0.at hS (fun _ h => h)))) (n := 4) (As := [.ref (o 0), .ref (a 0), .ref (a 1), .ref (a 4)]) (rest := []) rfl hl.1 rfl (Nat.le_of_ble_eq_true rfl) ⟨Nat.le_of_ble_eq_true rfl, Nat.le_of_ble_eq_true rfl⟩ dL_isSo_99) hS (fun _ h => h) (fun rq3 Hq3 Lq3 eq3 hWq3 _ fq3 hSq3 => ?_)
              subst eq3
              refine lv_if_eq (tgt := 129) hx hb dL_isSo_102 (by decide) (fun c102_4 => absurd c102_4 (by decide)) (fun c102_4 => ?_)
              refine lv_aload_n hx hb dL_isSo_105 rfl (lv_at hl 0 rfl) ?_
              refine lv_iconst (v := 3) hx hb dL_isSo_106 (by decide) ?_
              refine q_wx (rx_SX S ⟨m_295, m_296, m_22, m_297⟩ ⟨rfl, by decide, by decide, by decide +kernel⟩ (kL_exact l G o σ nm ns 3 hst hns hns4 hnm hnm2) ⟨rfl, rfl, Nat.le_of_ble_eq_true rfl, Nat.le_of_ble_eq_true rfl⟩ (ps bl_PXZ (bXZ (hWq3.xo hK) ((hZ0.at hSq3 (fun _ h => h)).zs))) (n := 2) (As := [.ref (o 0), .int 3]) (rest := []) rfl hl.1 rfl (Nat.le_of_ble_eq_true rfl) ⟨Nat.le_of_ble_eq_true rfl, Nat.le_of_ble_eq_true rfl⟩ dL_isSo_107) hSq3 (fun _ h => h.elim) (fun rq5 Hq5 Lq5 eq5 gq5 fq5 hSq5 => ?_)
              subst eq5
              have hWq5 := hWq3.rd fq5
              refine k_eq (y := (-1000001)) (hcV_1 (by decide)) ?_
              refine lv_ldc (v := (-1000001)) hx hb S.2.2.2.1 (S.2.2.2.2 _ m_294) dL_isSo_110 ?_
              refine lv_icmp_ne (tgt := 129) hx hb dL_isSo_112 (by decide) (fun c112_6 => absurd (by decide) c112_6) (fun c112_6 => ?_)
              refine lv_aload_n hx hb dL_isSo_115 rfl (lv_at hl 0 rfl) ?_
              refine lv_iconst (v := (-1)) hx hb dL_isSo_116 (by decide) ?_
              refine q_wx (rx_SX S ⟨m_295, m_296, m_22, m_297⟩ ⟨rfl, by decide, by decide, by decide +kernel⟩ (kL_exact l G o σ nm ns (-1) hst hns hns4 hnm hnm2) ⟨rfl, rfl, Nat.le_of_ble_eq_true rfl, Nat.le_of_ble_eq_true rfl⟩ (ps bl_PXZ (bXZ (hWq5.xo hK) ((hZ0.at hSq5 (fun _ h => h)).zs))) (n := 2) (As := [.ref (o 0), .int (-1)]) (rest := []) rfl hl.1 rfl (Nat.le_of_ble_eq_true rfl) ⟨Nat.le_of_ble_eq_true rfl, Nat.le_of_ble_eq_true rfl⟩ dL_isSo_117) hSq5 (fun _ h => h.elim) (fun rq7 Hq7 Lq7 eq7 gq7 fq7 hSq7 => ?_)
              subst eq7
              have hWq7 := hWq5.rd fq7
              refine k_eq (y := (-1000001)) (hcV_1 (by decide)) ?_
              refine lv_ldc (v := (-1000001)) hx hb S.2.2.2.1 (S.2.2.2.2 _ m_294) dL_isSo_120 ?_
              refine lv_icmp_ne (tgt := 129) hx hb dL_isSo_122 (by decide) (fun c122_8 => absurd (by decide) c122_8) (fun c122_8 => ?_)
              refine lv_iconst (v := 1) hx hb dL_isSo_125 (by decide) ?_
              refine lv_goto (tgt := 130) hx hb dL_isSo_126 (by decide) ?_
              refine W.widen (k := 2620) (n := 15720) (by first | omega | exact Nat.le_of_ble_eq_true rfl) (by first | omega | exact Nat.le_of_ble_eq_true rfl) ?_
              exact W.zret (v := 1) (ty := .boolean) hx hb hr (by first | rfl | exact bI_nar _) (fun t9 ht hWz => ⟨⟨_, rfl, rfl⟩, by rw [ht]; exact hWq7, hSq7.F ht⟩) hSq7.2.2 dL_isSo_130
            · skip
              have hltz : z < 3 := by
                rcases Nat.lt_or_ge z 3 with h9 | h9
                · exact h9
                · exact absurd (nI_le (a := 3) h9 (by omega)) cz
              refine lv_aload_n hx hb dL_isSo_42 rfl (lv_at hl 0 rfl) ?_
              refine lv_iload hx hb dL_isSo_43 (lv_at hl 6 rfl) ?_
              refine q_wx (rx_SX S ⟨m_295, m_296, m_22, m_297⟩ ⟨rfl, by decide, by decide, by decide +kernel⟩ (kL_exact l G o σ nm ns (nI z) hst hns hns4 hnm hnm2) ⟨rfl, rfl, Nat.le_of_ble_eq_true rfl, Nat.le_of_ble_eq_true rfl⟩ (ps bl_PXZ (bXZ (hW.xo hK) ((hZ0.at hS (fun _ h => h)).zs))) (n := 2) (As := [.ref (o 0), .int (nI z)]) (rest := []) rfl hl.1 rfl (Nat.le_of_ble_eq_true rfl) ⟨by show _ ≤ (2620 : Nat); omega, by show _ ≤ (15720 : Nat); omega⟩ dL_isSo_45) hS (fun _ h => h.elim) (fun rq9 Hq9 Lq9 eq9 gq9 fq9 hSq9 => ?_)
              subst eq9
              have hWq9 := hW.rd fq9
              refine k_eq (y := exV σ ns (nI z)) (tV_exact hltz) ?_
              refine lv_aload hx hb dL_isSo_48 (lv_at hl 4 rfl) ?_
              refine lv_iconst (v := 2) hx hb dL_isSo_50 (by decide) ?_
              refine lv_iload hx hb dL_isSo_51 (lv_at hl 6 rfl) ?_
              refine lv_imul hx hb dL_isSo_53 ?_
              refine k_eq (y := nI (2 * z)) (pk_mul 2 z) ?_
              refine k_ldQ S hK hWq9 3 (by decide) (i := (2 * z)) (show (2 * z) < 6 by omega) dL_isSo_54 ?_
              refine k_eq (y := (exF σ (nI z) ns).1) ((hA.az z hltz).1) ?_
              refine lv_if_ne (tgt := 62) hx hb dL_isSo_55 (by decide) (fun ce => ?_) (fun ce => ?_)
              · skip
                refine lv_sipush (v := 1000) hx hb dL_isSo_62 (by decide) ?_
                refine lv_aload hx hb dL_isSo_65 (lv_at hl 4 rfl) ?_
                refine lv_iconst (v := 2) hx hb dL_isSo_67 (by decide) ?_
                refine lv_iload hx hb dL_isSo_68 (lv_at hl 6 rfl) ?_
                refine lv_imul hx hb dL_isSo_70 ?_
                refine k_eq (y := nI (2 * z)) (pk_mul 2 z) ?_
                refine lv_iconst (v := 1) hx hb dL_isSo_71 (by decide) ?_
                refine lv_iadd hx hb dL_isSo_72 ?_
                refine k_eq (y := nI (2 * z + 1)) (nI_add (2 * z) 1) ?_
                refine k_ldQ S hK hWq9 3 (by decide) (i := (2 * z + 1)) (show (2 * z + 1) < 6 by omega) dL_isSo_73 ?_
                refine k_eq (y := (exF σ (nI z) ns).2) ((hA.az z hltz).2) ?_
                refine lv_imul hx hb dL_isSo_74 ?_
                refine lv_aload hx hb dL_isSo_75 (lv_at hl 4 rfl) ?_
                refine lv_iconst (v := 2) hx hb dL_isSo_77 (by decide) ?_
                refine lv_iload hx hb dL_isSo_78 (lv_at hl 6 rfl) ?_
                refine lv_imul hx hb dL_isSo_80 ?_
                refine k_eq (y := nI (2 * z)) (pk_mul 2 z) ?_
                refine k_ldQ S hK hWq9 3 (by decide) (i := (2 * z)) (show (2 * z) < 6 by omega) dL_isSo_81 ?_
                refine k_eq (y := (exF σ (nI z) ns).1) ((hA.az z hltz).1) ?_
                refine lv_idiv hx hb dL_isSo_82 ce ?_
                refine lv_icmp_eq (tgt := 88) hx hb dL_isSo_83 (by decide) (fun c83_11 => ?_) (fun c83_11 => absurd (ex_n ce) c83_11)
                refine lv_iinc (v := nI (z + 1)) (lv' := [(6, .int (nI (z + 1))), (0, .ref (o 0)), (1, .ref (a 0)), (2, .ref (a 1)), (3, .ref (a 2)), (4, .ref (a 3)), (5, .ref (a 4))]) hx hb dL_isSo_88 hl (k := 6) rfl (nI_1 z) (by decide) rfl (fun ls hl => ?_)
                refine lv_goto (tgt := 36) hx hb dL_isSo_91 (by decide) ?_
                refine W.widen (k := 1980 + 1 * (z + 1)) (n := 11880 + 6 * (z + 1)) (by omega) (by omega) ?_
                exact ihL36 (z + 1) hltz (by omega) Hq9 Lq9 hWq9 hSq9 ls (lv_sub hl [1, 2, 3, 4, 5, 6, 0] rfl)
              · skip
                refine lv_iconst (v := (-1)) hx hb dL_isSo_58 (by decide) ?_
                refine lv_goto (tgt := 83) hx hb dL_isSo_59 (by decide) ?_
                refine lv_icmp_eq (tgt := 88) hx hb dL_isSo_83 (by decide) (fun c83_12 => ?_) (fun c83_12 => absurd (ex_0 ce) c83_12)
                refine lv_iinc (v := nI (z + 1)) (lv' := [(6, .int (nI (z + 1))), (0, .ref (o 0)), (1, .ref (a 0)), (2, .ref (a 1)), (3, .ref (a 2)), (4, .ref (a 3)), (5, .ref (a 4))]) hx hb dL_isSo_88 hl (k := 6) rfl (nI_1 z) (by decide) rfl (fun ls hl => ?_)
                refine lv_goto (tgt := 36) hx hb dL_isSo_91 (by decide) ?_
                refine W.widen (k := 1980 + 1 * (z + 1)) (n := 11880 + 6 * (z + 1)) (by omega) (by omega) ?_
                exact ihL36 (z + 1) hltz (by omega) Hq9 Lq9 hWq9 hSq9 ls (lv_sub hl [1, 2, 3, 4, 5, 6, 0] rfl)
        have hl : lv_has ls 7 [(6, .int (nI 0)), (0, .ref (o 0)), (1, .ref (a 0)), (2, .ref (a 1)), (3, .ref (a 2)), (4, .ref (a 3)), (5, .ref (a 4))] := hl
        refine W.widen (k := 1980) (n := 11880) (by omega) (by omega) ?_
        exact L36 4 0 (Nat.zero_le _) (by omega) H9 L9 hW hS ls (lv_sub hl [1, 2, 3, 4, 5, 6, 0] rfl)
      · skip
        have hltk : k < ns := by
          rcases Nat.lt_or_ge k ns with h9 | h9
          · exact h9
          · exact absurd (nI_le (a := ns) h9 (by omega)) ck
        refine lv_aload_n hx hb dL_isSo_12 rfl (lv_at hl 0 rfl) ?_
        refine lv_aload_n hx hb dL_isSo_13 rfl (lv_at hl 2 rfl) ?_
        refine lv_aload_n hx hb dL_isSo_14 rfl (lv_at hl 3 rfl) ?_
        refine lv_aload hx hb dL_isSo_15 (lv_at hl 5 rfl) ?_
        refine lv_iload hx hb dL_isSo_17 (lv_at hl 6 rfl) ?_
        refine q_w (r_S S ⟨m_316, m_317, m_22, m_318⟩ ⟨rfl, by decide, by decide, by decide +kernel⟩ (kL_sheet l G o t a σ τ α nm ns n N S9 k hst hJ hI hn hltk) ⟨rfl, rfl, Nat.le_of_ble_eq_true rfl, Nat.le_of_ble_eq_true rfl⟩ (ps bl_PQ (hW.bq hK (hZ0.at hS (fun _ h => h)))) (n := 5) (As := [.ref (o 0), .ref (a 1), .ref (a 2), .ref (a 4), .int (nI k)]) (rest := []) rfl hl.1 rfl (Nat.le_of_ble_eq_true rfl) ⟨by show _ ≤ (2620 : Nat); omega, by show _ ≤ (15720 : Nat); omega⟩ dL_isSo_19) hS (fun _ h => h) (fun rq13 Hq13 Lq13 eq13 hWq13 _ fq13 hSq13 => ?_)
        subst eq13
        refine lv_if_ne (tgt := 27) hx hb dL_isSo_22 (by decide) (fun c22_14 => ?_) (fun c22_14 => absurd c22_14 (by decide))
        refine lv_iinc (v := nI (k + 1)) (lv' := [(6, .int (nI (k + 1))), (0, .ref (o 0)), (1, .ref (a 0)), (2, .ref (a 1)), (3, .ref (a 2)), (4, .ref (a 3)), (5, .ref (a 4))]) hx hb dL_isSo_27 hl (k := 6) rfl (nI_1 k) (by decide) rfl (fun ls hl => ?_)
        refine lv_goto (tgt := 3) hx hb dL_isSo_30 (by decide) ?_
        refine W.widen (k := 0 + 165 * (k + 1)) (n := 0 + 990 * (k + 1)) (by omega) (by omega) ?_
        exact ihL3 (k + 1) hltk (by omega) Hq13 Lq13 hWq13 hSq13 ls (lv_sub hl [1, 2, 3, 4, 5, 6, 0] rfl)
  refine lv_iconst (v := 0) hx hb dL_isSo_0 (by decide) ?_
  refine lv_istore (lv' := [(6, .int 0), (0, .ref (o 0)), (1, .ref (a 0)), (2, .ref (a 1)), (3, .ref (a 2)), (4, .ref (a 3)), (5, .ref (a 4))]) hx hb dL_isSo_1 hl (by decide) rfl (fun ls hl => ?_)
  have hl : lv_has ls 7 [(6, .int (nI 0)), (0, .ref (o 0)), (1, .ref (a 0)), (2, .ref (a 1)), (3, .ref (a 2)), (4, .ref (a 3)), (5, .ref (a 4))] := hl
  refine W.widen (k := 0) (n := 0) (by omega) (by omega) ?_
  exact L3 (ns + 1) 0 (Nat.zero_le _) (by omega) s.heap _ hW hS ls (lv_sub hl [1, 2, 3, 4, 5, 6, 0] rfl)
