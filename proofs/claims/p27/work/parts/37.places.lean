set_option maxHeartbeats 4000000 in
set_option maxRecDepth 100000 in
theorem kL_places (l : Launch) (G : kG) (o t a : Nat → Nat) (σ τ α : kS) (nm ns n N S9 : Nat) (hst : l.stackTraces = false) (hJ : JQ o t a) (hI : Inv σ α nm ns n N S9) (hn : n ≤ 110) : Met l yL_places [.code yL_places cL_places 13 (some .boolean)] ({ frames := 9, cells := 620, slots := 3720, locals := 211 }) (va_Pc [.ref (o 0), .ref (a 0), .ref (a 1), .ref (a 4)] (PQ G o t a σ τ α)) (oW (AQ o t a) (fun r => r = 1) (fun H9 => WQ G o t a σ τ α H9)) 620 3720 (AQ o t a) := by
  refine k_of (by decide) (Nat.le_of_ble_eq_true rfl) (fun U h => h.2.1.2) ?_
  intro p e s m below meth c ls S hr hlocks hmn hB hl
  have hx := S.1
  have hb := S.2.1
  obtain ⟨hW, hK, hZ0⟩ := hB
  have hS : va_S (AQ o t a) s.heap s.heap [] := va_S.rf
  have hC := hI.1
  have hA := hI.2
  have hns := hC.hns
  have hns4 : ns ≤ 40 := by have := hC.ns12; omega
  have hnm := hC.hnm
  have hnm2 : nm ≤ 200 := by have := hC.nmn; omega
  have hN31 : N < 2 ^ 31 := by have := hC.Nn; omega
  have hns12 := hC.ns12
  have hN4 := hC.Nn
  have hl : lv_has ls 13 [(0, .ref (o 0)), (1, .ref (a 0)), (2, .ref (a 1)), (3, .ref (a 4))] := hl
  have L11 : ∀ (n9 i : Nat), i ≤ 12 → 12 + 1 ≤ i + n9 → ∀ (H9 : Heap) (L9 : List Loc), WQ G o t a σ τ α H9 → va_S ((AQ o t a)) s.heap H9 L9 → ∀ ls, lv_has ls 13 [(0, .ref (o 0)), (1, .ref (a 0)), (2, .ref (a 1)), (3, .ref (a 4)), (4, .int ((suF σ nm ns i).1)), (5, .long (moV (suF σ nm ns i))), (7, .int (nI i))] → W p l e (({ frames := 9, cells := 620, slots := 3720, locals := 211 }) : Room) s m [.ref (o 0), .ref (a 0), .ref (a 1), .ref (a 4)].toArray below meth c H9 L9 (0 + 50 * i) (0 + 300 * i) (MQ below (oW (AQ o t a) (fun r => r = 1) (fun H9 => WQ G o t a σ τ α H9)) [.ref (o 0), .ref (a 0), .ref (a 1), .ref (a 4)].toArray s 620 3720 (AQ o t a)) (F0 m 11 ls []) := by
    intro n9
    induction n9 with
    | zero =>
      intro i h1 h2
      omega
    | succ n9 ihL11 =>
      intro i hii hini  H9 L9 hW hS ls hl
      refine lv_iload hx hb dL_places_11 (lv_at hl 6 rfl) ?_
      refine lv_bipush (v := 12) hx hb dL_places_13 (by decide) ?_
      refine lv_icmp_ge (tgt := 215) hx hb dL_places_15 (by decide) (fun ci => ?_) (fun ci => ?_)
      · skip
        have hgei : i = 12 := by
          have h9 := ci
          rw [show (12 : Int32) = nI 12 from rfl, nI_leI (by omega) (by omega)] at h9
          omega
        refine lv_aload_n hx hb dL_places_215 rfl (lv_at hl 0 rfl) ?_
        refine q_i (r_V S ⟨m_154, m_155, m_156, m_23, m_157⟩ ⟨rfl, by decide, by decide, by decide +kernel⟩ (c_suggested l G o σ nm ns hns hns4 hnm hnm2) ⟨rfl, rfl, Nat.le_of_ble_eq_true rfl, Nat.le_of_ble_eq_true rfl⟩ (pv_X (hW.xo hK) 0 rfl rfl bl_PX (bX (hW.xo hK))) (n := 0) (As := []) (rest := []) rfl hl.1 rfl (Nat.le_of_ble_eq_true rfl) ⟨by show _ ≤ (620 : Nat); omega, by show _ ≤ (3720 : Nat); omega⟩ dL_places_216) (fun rq2 eq2 => ?_)
        subst eq2
        refine k_eq (y := (suF σ nm ns i).1) ((by rw [hgei])) ?_
        refine lv_iload hx hb dL_places_219 (lv_at hl 4 rfl) ?_
        refine lv_icmp_ne (tgt := 308) hx hb dL_places_221 (by decide) (fun c221_3 => absurd rfl c221_3) (fun c221_3 => ?_)
        refine lv_aload_n hx hb dL_places_224 rfl (lv_at hl 0 rfl) ?_
        refine q_i (r_V S ⟨m_150, m_151, m_152, m_23, m_153⟩ ⟨rfl, by decide, by decide, by decide +kernel⟩ (c_now l G o σ) ⟨rfl, rfl, Nat.le_of_ble_eq_true rfl, Nat.le_of_ble_eq_true rfl⟩ (pv_X (hW.xo hK) 0 rfl rfl bl_PX (bX (hW.xo hK))) (n := 0) (As := []) (rest := []) rfl hl.1 rfl (Nat.le_of_ble_eq_true rfl) ⟨by show _ ≤ (620 : Nat); omega, by show _ ≤ (3720 : Nat); omega⟩ dL_places_225) (fun rq4 eq4 => ?_)
        subst eq4
        refine k_eq (y := nI N) (hC.now) ?_
        refine lv_aload_n hx hb dL_places_228 rfl (lv_at hl 3 rfl) ?_
        refine lv_iconst (v := 0) hx hb dL_places_229 (by decide) ?_
        refine k_ldQ S hK hW 4 (by decide) (i := 0) (show 0 < 3 by omega) dL_places_230 ?_
        refine k_eq (y := nI N) (hA.g0) ?_
        refine lv_icmp_ne (tgt := 308) hx hb dL_places_231 (by decide) (fun c231_5 => absurd rfl c231_5) (fun c231_5 => ?_)
        refine lv_aload_n hx hb dL_places_234 rfl (lv_at hl 0 rfl) ?_
        refine q_i (r_V S ⟨m_480, m_481, m_482, m_23, m_483⟩ ⟨rfl, by decide, by decide, by decide +kernel⟩ (c_moves l G o σ) ⟨rfl, rfl, Nat.le_of_ble_eq_true rfl, Nat.le_of_ble_eq_true rfl⟩ (pv_X (hW.xo hK) 0 rfl rfl bl_PX (bX (hW.xo hK))) (n := 0) (As := []) (rest := []) rfl hl.1 rfl (Nat.le_of_ble_eq_true rfl) ⟨by show _ ≤ (620 : Nat); omega, by show _ ≤ (3720 : Nat); omega⟩ dL_places_235) (fun rq6 eq6 => ?_)
        subst eq6
        refine k_eq (y := nI nm) (hC.hnm) ?_
        refine lv_aload_n hx hb dL_places_238 rfl (lv_at hl 3 rfl) ?_
        refine lv_iconst (v := 1) hx hb dL_places_239 (by decide) ?_
        refine k_ldQ S hK hW 4 (by decide) (i := 1) (show 1 < 3 by omega) dL_places_240 ?_
        refine k_eq (y := nI nm) (hA.g1) ?_
        refine lv_icmp_ne (tgt := 308) hx hb dL_places_241 (by decide) (fun c241_7 => absurd rfl c241_7) (fun c241_7 => ?_)
        refine lv_aload_n hx hb dL_places_244 rfl (lv_at hl 0 rfl) ?_
        refine q_i (r_V S ⟨m_201, m_202, m_203, m_23, m_204⟩ ⟨rfl, by decide, by decide, by decide +kernel⟩ (c_sheets l G o σ) ⟨rfl, rfl, Nat.le_of_ble_eq_true rfl, Nat.le_of_ble_eq_true rfl⟩ (pv_X (hW.xo hK) 0 rfl rfl bl_PX (bX (hW.xo hK))) (n := 0) (As := []) (rest := []) rfl hl.1 rfl (Nat.le_of_ble_eq_true rfl) ⟨by show _ ≤ (620 : Nat); omega, by show _ ≤ (3720 : Nat); omega⟩ dL_places_245) (fun rq8 eq8 => ?_)
        subst eq8
        refine k_eq (y := nI ns) (hC.hns) ?_
        refine lv_aload_n hx hb dL_places_248 rfl (lv_at hl 3 rfl) ?_
        refine lv_iconst (v := 2) hx hb dL_places_249 (by decide) ?_
        refine k_ldQ S hK hW 4 (by decide) (i := 2) (show 2 < 3 by omega) dL_places_250 ?_
        refine k_eq (y := nI ns) (hA.g2) ?_
        refine lv_icmp_ne (tgt := 308) hx hb dL_places_251 (by decide) (fun c251_9 => absurd rfl c251_9) (fun c251_9 => ?_)
        refine lv_aload_n hx hb dL_places_254 rfl (lv_at hl 0 rfl) ?_
        refine lv_bipush (v := 12) hx hb dL_places_255 (by decide) ?_
        refine q_wx (rx_SX S ⟨m_473, m_474, m_22, m_475⟩ ⟨rfl, by decide, by decide, by decide +kernel⟩ (kL_worth l G o σ nm ns 12 hst hns hns4 hnm hnm2) ⟨rfl, rfl, Nat.le_of_ble_eq_true rfl, Nat.le_of_ble_eq_true rfl⟩ (ps bl_PXZ (bXZ (hW.xo hK) ((hZ0.at hS (fun _ h => h)).zs))) (n := 2) (As := [.ref (o 0), .int 12]) (rest := []) rfl hl.1 rfl (Nat.le_of_ble_eq_true rfl) ⟨by show _ ≤ (620 : Nat); omega, by show _ ≤ (3720 : Nat); omega⟩ dL_places_257) hS (fun _ h => h.elim) (fun rq10 Hq10 Lq10 eq10 gq10 fq10 hSq10 => ?_)
        subst eq10
        have hWq10 := hW.rd fq10
        refine k_eq (y := (-1000001)) (hcV_1 (by decide)) ?_
        refine lv_ldc (v := (-1000001)) hx hb S.2.2.2.1 (S.2.2.2.2 _ m_294) dL_places_260 ?_
        refine lv_icmp_ne (tgt := 308) hx hb dL_places_262 (by decide) (fun c262_11 => absurd (by decide) c262_11) (fun c262_11 => ?_)
        refine lv_aload_n hx hb dL_places_265 rfl (lv_at hl 0 rfl) ?_
        refine lv_iconst (v := 0) hx hb dL_places_266 (by decide) ?_
        refine lv_iconst (v := 5) hx hb dL_places_267 (by decide) ?_
        refine q_wx (rx_SX S ⟨m_306, m_307, m_22, m_308⟩ ⟨rfl, by decide, by decide, by decide +kernel⟩ (kL_book l G o σ nm ns 0 5 hst hns hns4 hnm hnm2) ⟨rfl, rfl, Nat.le_of_ble_eq_true rfl, Nat.le_of_ble_eq_true rfl⟩ (ps bl_PXZ (bXZ (hWq10.xo hK) ((hZ0.at hSq10 (fun _ h => h)).zs))) (n := 3) (As := [.ref (o 0), .int 0, .int 5]) (rest := []) rfl hl.1 rfl (Nat.le_of_ble_eq_true rfl) ⟨by show _ ≤ (620 : Nat); omega, by show _ ≤ (3720 : Nat); omega⟩ dL_places_268) hSq10 (fun _ h => h.elim) (fun rq12 Hq12 Lq12 eq12 gq12 fq12 hSq12 => ?_)
        subst eq12
        have hWq12 := hWq10.rd fq12
        refine k_eq (y := (-1000001)) (hcV_1 (by decide)) ?_
        refine lv_ldc (v := (-1000001)) hx hb S.2.2.2.1 (S.2.2.2.2 _ m_294) dL_places_271 ?_
        refine lv_icmp_ne (tgt := 308) hx hb dL_places_273 (by decide) (fun c273_13 => absurd (by decide) c273_13) (fun c273_13 => ?_)
        refine lv_aload_n hx hb dL_places_276 rfl (lv_at hl 0 rfl) ?_
        refine lv_iconst (v := 0) hx hb dL_places_277 (by decide) ?_
        refine lv_iconst (v := 0) hx hb dL_places_278 (by decide) ?_
        refine lv_iconst (v := (-1)) hx hb dL_places_279 (by decide) ?_
        refine q_wx (rx_SX S ⟨m_435, m_436, m_22, m_437⟩ ⟨rfl, by decide, by decide, by decide +kernel⟩ (kL_bookAt l G o σ nm ns 0 0 (-1) hst hns hns4 hnm hnm2) ⟨rfl, rfl, Nat.le_of_ble_eq_true rfl, Nat.le_of_ble_eq_true rfl⟩ (ps bl_PXZ (bXZ (hWq12.xo hK) ((hZ0.at hSq12 (fun _ h => h)).zs))) (n := 4) (As := [.ref (o 0), .int 0, .int 0, .int (-1)]) (rest := []) rfl hl.1 rfl (Nat.le_of_ble_eq_true rfl) ⟨by show _ ≤ (620 : Nat); omega, by show _ ≤ (3720 : Nat); omega⟩ dL_places_280) hSq12 (fun _ h => h.elim) (fun rq14 Hq14 Lq14 eq14 gq14 fq14 hSq14 => ?_)
        subst eq14
        have hWq14 := hWq12.rd fq14
        refine k_eq (y := (-1000002)) (hcV_2 eB_m1) ?_
        refine lv_ldc (v := (-1000002)) hx hb S.2.2.2.1 (S.2.2.2.2 _ m_394) dL_places_283 ?_
        refine lv_icmp_ne (tgt := 308) hx hb dL_places_285 (by decide) (fun c285_15 => absurd (by decide) c285_15) (fun c285_15 => ?_)
        refine lv_aload_n hx hb dL_places_288 rfl (lv_at hl 0 rfl) ?_
        refine lv_iconst (v := 0) hx hb dL_places_289 (by decide) ?_
        refine lv_iconst (v := 0) hx hb dL_places_290 (by decide) ?_
        refine lv_aload_n hx hb dL_places_291 rfl (lv_at hl 3 rfl) ?_
        refine lv_iconst (v := 0) hx hb dL_places_292 (by decide) ?_
        refine k_ldQ S hK hWq14 4 (by decide) (i := 0) (show 0 < 3 by omega) dL_places_293 ?_
        refine k_eq (y := nI N) (hA.g0) ?_
        refine lv_iconst (v := 1) hx hb dL_places_294 (by decide) ?_
        refine lv_iadd hx hb dL_places_295 ?_
        refine k_eq (y := nI (N + 1)) (nI_1 N) ?_
        refine q_wx (rx_SX S ⟨m_435, m_436, m_22, m_437⟩ ⟨rfl, by decide, by decide, by decide +kernel⟩ (kL_bookAt l G o σ nm ns 0 0 (nI (N + 1)) hst hns hns4 hnm hnm2) ⟨rfl, rfl, Nat.le_of_ble_eq_true rfl, Nat.le_of_ble_eq_true rfl⟩ (ps bl_PXZ (bXZ (hWq14.xo hK) ((hZ0.at hSq14 (fun _ h => h)).zs))) (n := 4) (As := [.ref (o 0), .int 0, .int 0, .int (nI (N + 1))]) (rest := []) rfl hl.1 rfl (Nat.le_of_ble_eq_true rfl) ⟨by show _ ≤ (620 : Nat); omega, by show _ ≤ (3720 : Nat); omega⟩ dL_places_296) hSq14 (fun _ h => h.elim) (fun rq16 Hq16 Lq16 eq16 gq16 fq16 hSq16 => ?_)
        subst eq16
        have hWq16 := hWq14.rd fq16
        refine k_eq (y := (-1000002)) (hcV_2 (eB_hi hC.now (by omega))) ?_
        refine lv_ldc (v := (-1000002)) hx hb S.2.2.2.1 (S.2.2.2.2 _ m_394) dL_places_299 ?_
        refine lv_icmp_ne (tgt := 308) hx hb dL_places_301 (by decide) (fun c301_17 => absurd (by decide) c301_17) (fun c301_17 => ?_)
        refine lv_iconst (v := 1) hx hb dL_places_304 (by decide) ?_
        refine lv_goto (tgt := 309) hx hb dL_places_305 (by decide) ?_
        refine W.widen (k := 620) (n := 3720) (by first | omega | exact Nat.le_of_ble_eq_true rfl) (by first | omega | exact Nat.le_of_ble_eq_true rfl) ?_
        exact W.zret (v := 1) (ty := .boolean) hx hb hr (by first | rfl | exact bI_nar _) (fun t9 ht hWz => ⟨⟨_, rfl, rfl⟩, by rw [ht]; exact hWq16, hSq16.F ht⟩) hSq16.2.2 dL_places_309
      · skip
        have hlti : i < 12 := by
          rcases Nat.lt_or_ge i 12 with h9 | h9
          · exact h9
          · exact absurd (nI_le (a := 12) h9 (by omega)) ci
        refine lv_iconst (v := 0) hx hb dL_places_18 (by decide) ?_
        refine lv_istore (lv' := [(8, .int 0), (0, .ref (o 0)), (1, .ref (a 0)), (2, .ref (a 1)), (3, .ref (a 4)), (4, .int ((suF σ nm ns i).1)), (5, .long (moV (suF σ nm ns i))), (7, .int (nI i))]) hx hb dL_places_19 hl (by decide) rfl (fun ls hl => ?_)
        refine lv_iconst (v := 0) hx hb dL_places_21 (by decide) ?_
        refine lv_istore (lv' := [(9, .int 0), (8, .int 0), (0, .ref (o 0)), (1, .ref (a 0)), (2, .ref (a 1)), (3, .ref (a 4)), (4, .int ((suF σ nm ns i).1)), (5, .long (moV (suF σ nm ns i))), (7, .int (nI i))]) hx hb dL_places_22 hl (by decide) rfl (fun ls hl => ?_)
        have L24 : ∀ (n9 j : Nat), j ≤ 5 → 5 + 1 ≤ j + n9 → ∀ (H9 : Heap) (L9 : List Loc), WQ G o t a σ τ α H9 → va_S ((AQ o t a)) s.heap H9 L9 → ∀ ls, lv_has ls 13 [(0, .ref (o 0)), (1, .ref (a 0)), (2, .ref (a 1)), (3, .ref (a 4)), (4, .int ((suF σ nm ns i).1)), (5, .long (moV (suF σ nm ns i))), (7, .int (nI i)), (8, .int (woF σ nm ns (nI i) j)), (9, .int (nI j))] → W p l e (({ frames := 9, cells := 620, slots := 3720, locals := 211 }) : Room) s m [.ref (o 0), .ref (a 0), .ref (a 1), .ref (a 4)].toArray below meth c H9 L9 (0 + 50 * i + 5 * j) (0 + 300 * i + 30 * j) (MQ below (oW (AQ o t a) (fun r => r = 1) (fun H9 => WQ G o t a σ τ α H9)) [.ref (o 0), .ref (a 0), .ref (a 1), .ref (a 4)].toArray s 620 3720 (AQ o t a)) (F0 m 24 ls []) := by
          intro n9
          induction n9 with
          | zero =>
            intro j h1 h2
            omega
          | succ n9 ihL24 =>
            intro j hij hinj  H9 L9 hW hS ls hl
            refine lv_iload hx hb dL_places_24 (lv_at hl 8 rfl) ?_
            refine lv_iconst (v := 5) hx hb dL_places_26 (by decide) ?_
            refine lv_icmp_ge (tgt := 85) hx hb dL_places_27 (by decide) (fun cj => ?_) (fun cj => ?_)
            · skip
              have hgej : j = 5 := by
                have h9 := cj
                rw [show (5 : Int32) = nI 5 from rfl, nI_leI (by omega) (by omega)] at h9
                omega
              subst hgej
              refine W.widen (k := 25 + 50 * i) (n := 150 + 300 * i) (by omega) (by omega) ?_
              refine lv_iconst (v := (-1)) hx hb dL_places_85 (by decide) ?_
              refine lv_istore (lv' := [(9, .int (-1)), (0, .ref (o 0)), (1, .ref (a 0)), (2, .ref (a 1)), (3, .ref (a 4)), (4, .int ((suF σ nm ns i).1)), (5, .long (moV (suF σ nm ns i))), (7, .int (nI i)), (8, .int (woF σ nm ns (nI i) 5))]) hx hb dL_places_86 hl (by decide) rfl (fun ls hl => ?_)
              refine lv_iconst (v := 0) hx hb dL_places_88 (by decide) ?_
              refine lv_istore (lv' := [(10, .int 0), (9, .int (-1)), (0, .ref (o 0)), (1, .ref (a 0)), (2, .ref (a 1)), (3, .ref (a 4)), (4, .int ((suF σ nm ns i).1)), (5, .long (moV (suF σ nm ns i))), (7, .int (nI i)), (8, .int (woF σ nm ns (nI i) 5))]) hx hb dL_places_89 hl (by decide) rfl (fun ls hl => ?_)
              refine lv_iconst (v := 0) hx hb dL_places_91 (by decide) ?_
              refine lv_istore (lv' := [(11, .int 0), (10, .int 0), (9, .int (-1)), (0, .ref (o 0)), (1, .ref (a 0)), (2, .ref (a 1)), (3, .ref (a 4)), (4, .int ((suF σ nm ns i).1)), (5, .long (moV (suF σ nm ns i))), (7, .int (nI i)), (8, .int (woF σ nm ns (nI i) 5))]) hx hb dL_places_92 hl (by decide) rfl (fun ls hl => ?_)
              have L94 : ∀ (n9 k : Nat), k ≤ ns → ns + 1 ≤ k + n9 → ∀ (H9 : Heap) (L9 : List Loc), WQ G o t a σ τ α H9 → va_S ((AQ o t a)) s.heap H9 L9 → ∀ ls, lv_has ls 13 [(0, .ref (o 0)), (1, .ref (a 0)), (2, .ref (a 1)), (3, .ref (a 4)), (4, .int ((suF σ nm ns i).1)), (5, .long (moV (suF σ nm ns i))), (7, .int (nI i)), (8, .int (woF σ nm ns (nI i) 5)), (9, .int (cuL σ (nI i) k)), (10, .int (bI (hoQ σ (nI i) k))), (11, .int (nI k))] → W p l e (({ frames := 9, cells := 620, slots := 3720, locals := 211 }) : Room) s m [.ref (o 0), .ref (a 0), .ref (a 1), .ref (a 4)].toArray below meth c H9 L9 (25 + 50 * i + 2 * k) (150 + 300 * i + 12 * k) (MQ below (oW (AQ o t a) (fun r => r = 1) (fun H9 => WQ G o t a σ τ α H9)) [.ref (o 0), .ref (a 0), .ref (a 1), .ref (a 4)].toArray s 620 3720 (AQ o t a)) (F0 m 94 ls []) := by
                intro n9
                induction n9 with
                | zero =>
                  intro k h1 h2
                  omega
                | succ n9 ihL94 =>
                  intro k hik hink  H9 L9 hW hS ls hl
                  refine lv_iload hx hb dL_places_94 (lv_at hl 10 rfl) ?_
                  refine lv_aload_n hx hb dL_places_96 rfl (lv_at hl 3 rfl) ?_
                  refine lv_iconst (v := 2) hx hb dL_places_97 (by decide) ?_
                  refine k_ldQ S hK hW 4 (by decide) (i := 2) (show 2 < 3 by omega) dL_places_98 ?_
                  refine k_eq (y := nI ns) (hA.g2) ?_
                  refine lv_icmp_ge (tgt := 160) hx hb dL_places_99 (by decide) (fun ck => ?_) (fun ck => ?_)
                  · skip
                    have hgek : k = ns := by
                      have h9 := ck
                      rw [nI_leI (by omega) (by omega)] at h9
                      omega
                    rw [hgek] at hl
                    refine W.widen (k := 49 + 50 * i) (n := 294 + 300 * i) (by omega) (by omega) ?_
                    refine lv_lconst (v := 1) hx hb dL_places_160 (by decide) ?_
                    refine lv_iload hx hb dL_places_161 (lv_at hl 7 rfl) ?_
                    refine lv_i2l (v := ((woF σ nm ns (nI i) 5) : Int32).toInt64) hx hb dL_places_163 rfl ?_
                    refine lv_ladd hx hb dL_places_164 ?_
                    refine lv_aload_n hx hb dL_places_165 rfl (lv_at hl 3 rfl) ?_
                    refine lv_iconst (v := 0) hx hb dL_places_166 (by decide) ?_
                    refine k_ldQ S hK hW 4 (by decide) (i := 0) (show 0 < 3 by omega) dL_places_167 ?_
                    refine k_eq (y := nI N) (hA.g0) ?_
                    refine lv_iload hx hb dL_places_168 (lv_at hl 8 rfl) ?_
                    refine lv_isub hx hb dL_places_170 ?_
                    refine lv_i2l (v := (((nI N) - (cuL σ (nI i) ns)) : Int32).toInt64) hx hb dL_places_171 rfl ?_
                    refine lv_lmul hx hb dL_places_172 ?_
                    refine k_eql (y := urV σ nm ns (nI i)) (hC.ur hn (nI i)) ?_
                    refine lv_lstore (lv' := [(11, .long (urV σ nm ns (nI i))), (0, .ref (o 0)), (1, .ref (a 0)), (2, .ref (a 1)), (3, .ref (a 4)), (4, .int ((suF σ nm ns i).1)), (5, .long (moV (suF σ nm ns i))), (7, .int (nI i)), (8, .int (woF σ nm ns (nI i) 5)), (9, .int (cuL σ (nI i) ns)), (10, .int (bI (hoQ σ (nI i) ns)))]) hx hb dL_places_173 hl (by decide) rfl (fun ls hl => ?_)
                    refine lv_aload_n hx hb dL_places_175 rfl (lv_at hl 1 rfl) ?_
                    refine lv_iload hx hb dL_places_176 (lv_at hl 7 rfl) ?_
                    refine q_wx (rx_SX S ⟨m_473, m_474, m_22, m_475⟩ ⟨rfl, by decide, by decide, by decide +kernel⟩ (kL_worth l G o σ nm ns (nI i) hst hns hns4 hnm hnm2) ⟨rfl, rfl, Nat.le_of_ble_eq_true rfl, Nat.le_of_ble_eq_true rfl⟩ (ps bl_PXZ (bXZ (hW.xo hK) ((hZ0.at hS (fun _ h => h)).zs))) (n := 2) (As := [.ref (o 0), .int (nI i)]) (rest := []) rfl hl.1 rfl (Nat.le_of_ble_eq_true rfl) ⟨by show _ ≤ (620 : Nat); omega, by show _ ≤ (3720 : Nat); omega⟩ dL_places_178) hS (fun _ h => h.elim) (fun rq20 Hq20 Lq20 eq20 gq20 fq20 hSq20 => ?_)
                    subst eq20
                    have hWq20 := hW.rd fq20
                    refine k_eq (y := woF σ nm ns (nI i) 5) (tV_worth hlti) ?_
                    refine lv_iload hx hb dL_places_181 (lv_at hl 8 rfl) ?_
                    refine lv_icmp_eq (tgt := 188) hx hb dL_places_183 (by decide) (fun c183_21 => ?_) (fun c183_21 => absurd rfl c183_21)
                    refine lv_iload hx hb dL_places_188 (lv_at hl 10 rfl) ?_
                    refine lv_if_ne (tgt := 209) hx hb dL_places_190 (by decide) (fun co => ?_) (fun co => ?_)
                    · skip
                      have hop : opB σ (nI i) ns = true := by rw [hC.op]; exact bI_n co
                      have es := su_1 (nm := nm) hop
                      rw [← es] at hl
                      refine lv_iinc (v := nI (i + 1)) (lv' := [(7, .int (nI (i + 1))), (11, .long (urV σ nm ns (nI i))), (0, .ref (o 0)), (1, .ref (a 0)), (2, .ref (a 1)), (3, .ref (a 4)), (4, .int ((suF σ nm ns (i + 1)).1)), (5, .long (moV (suF σ nm ns (i + 1)))), (8, .int (woF σ nm ns (nI i) 5)), (9, .int (cuL σ (nI i) ns)), (10, .int (bI (hoQ σ (nI i) ns)))]) hx hb dL_places_209 hl (k := 7) rfl (nI_1 i) (by decide) rfl (fun ls hl => ?_)
                      refine lv_goto (tgt := 11) hx hb dL_places_212 (by decide) ?_
                      refine W.widen (k := 0 + 50 * (i + 1)) (n := 0 + 300 * (i + 1)) (by omega) (by omega) ?_
                      exact ihL11 (i + 1) hlti (by omega) Hq20 Lq20 hWq20 hSq20 ls (lv_sub hl [2, 3, 4, 5, 6, 7, 0] rfl)
                    · skip
                      have hop : opB σ (nI i) ns = false := by rw [hC.op]; exact bI_0 co
                      refine lv_lload hx hb dL_places_193 (lv_at hl 0 rfl) ?_
                      refine lv_lload hx hb dL_places_195 (lv_at hl 6 rfl) ?_
                      refine W.lcmp hx hb dL_places_197 ?_
                      refine lv_if_le (tgt := 209) hx hb dL_places_198 (by decide) (fun cl => ?_) (fun cl => ?_)
                      · skip
                        have es := hC.su_2 hn hop cl
                        rw [← es] at hl
                        refine lv_iinc (v := nI (i + 1)) (lv' := [(7, .int (nI (i + 1))), (11, .long (urV σ nm ns (nI i))), (0, .ref (o 0)), (1, .ref (a 0)), (2, .ref (a 1)), (3, .ref (a 4)), (4, .int ((suF σ nm ns (i + 1)).1)), (5, .long (moV (suF σ nm ns (i + 1)))), (8, .int (woF σ nm ns (nI i) 5)), (9, .int (cuL σ (nI i) ns)), (10, .int (bI (hoQ σ (nI i) ns)))]) hx hb dL_places_209 hl (k := 7) rfl (nI_1 i) (by decide) rfl (fun ls hl => ?_)
                        refine lv_goto (tgt := 11) hx hb dL_places_212 (by decide) ?_
                        refine W.widen (k := 0 + 50 * (i + 1)) (n := 0 + 300 * (i + 1)) (by omega) (by omega) ?_
                        exact ihL11 (i + 1) hlti (by omega) Hq20 Lq20 hWq20 hSq20 ls (lv_sub hl [2, 3, 4, 5, 6, 7, 0] rfl)
                      · skip
                        refine lv_lload hx hb dL_places_201 (lv_at hl 0 rfl) ?_
                        refine k_eql (y := moV (suF σ nm ns (i + 1))) (su_3b hlti hop cl) ?_
                        refine lv_lstore (lv' := [(5, .long (moV (suF σ nm ns (i + 1)))), (11, .long (urV σ nm ns (nI i))), (0, .ref (o 0)), (1, .ref (a 0)), (2, .ref (a 1)), (3, .ref (a 4)), (4, .int ((suF σ nm ns i).1)), (7, .int (nI i)), (8, .int (woF σ nm ns (nI i) 5)), (9, .int (cuL σ (nI i) ns)), (10, .int (bI (hoQ σ (nI i) ns)))]) hx hb dL_places_203 hl (by decide) rfl (fun ls hl => ?_)
                        refine lv_iload hx hb dL_places_205 (lv_at hl 7 rfl) ?_
                        refine k_eq (y := (suF σ nm ns (i + 1)).1) (su_3a hlti hop cl) ?_
                        refine lv_istore (lv' := [(4, .int ((suF σ nm ns (i + 1)).1)), (5, .long (moV (suF σ nm ns (i + 1)))), (11, .long (urV σ nm ns (nI i))), (0, .ref (o 0)), (1, .ref (a 0)), (2, .ref (a 1)), (3, .ref (a 4)), (7, .int (nI i)), (8, .int (woF σ nm ns (nI i) 5)), (9, .int (cuL σ (nI i) ns)), (10, .int (bI (hoQ σ (nI i) ns)))]) hx hb dL_places_207 hl (by decide) rfl (fun ls hl => ?_)
                        refine lv_iinc (v := nI (i + 1)) (lv' := [(7, .int (nI (i + 1))), (4, .int ((suF σ nm ns (i + 1)).1)), (5, .long (moV (suF σ nm ns (i + 1)))), (11, .long (urV σ nm ns (nI i))), (0, .ref (o 0)), (1, .ref (a 0)), (2, .ref (a 1)), (3, .ref (a 4)), (8, .int (woF σ nm ns (nI i) 5)), (9, .int (cuL σ (nI i) ns)), (10, .int (bI (hoQ σ (nI i) ns)))]) hx hb dL_places_209 hl (k := 7) rfl (nI_1 i) (by decide) rfl (fun ls hl => ?_)
                        refine lv_goto (tgt := 11) hx hb dL_places_212 (by decide) ?_
                        refine W.widen (k := 0 + 50 * (i + 1)) (n := 0 + 300 * (i + 1)) (by omega) (by omega) ?_
                        exact ihL11 (i + 1) hlti (by omega) Hq20 Lq20 hWq20 hSq20 ls (lv_sub hl [4, 5, 6, 7, 1, 2, 0] rfl)
                  · skip
                    have hltk : k < ns := by
                      rcases Nat.lt_or_ge k ns with h9 | h9
                      · exact h9
                      · exact absurd (nI_le (a := ns) h9 (by omega)) ck
                    by_cases c7 : σ 7 k = nI i
                    · skip
                      rcases bft (hoQ σ (nI i) k) with e | e
                      · skip
                        rcases (hC.st k).1 with e9 | e9
                        · skip
                          refine lv_aload_n hx hb dL_places_102 rfl (lv_at hl 2 rfl) ?_
                          refine lv_iload hx hb dL_places_103 (lv_at hl 10 rfl) ?_
                          refine k_ldQ S hK hW 1 (by decide) (i := k) (show k < 12 by omega) dL_places_105 ?_
                          refine k_eq (y := σ 7 k) (hA.ap k hltk) ?_
                          refine lv_iload hx hb dL_places_106 (lv_at hl 6 rfl) ?_
                          refine lv_icmp_ne (tgt := 120) hx hb dL_places_108 (by decide) (fun c108_24 => absurd c7 c108_24) (fun c108_24 => ?_)
                          refine lv_aload_n hx hb dL_places_111 rfl (lv_at hl 0 rfl) ?_
                          refine lv_iload hx hb dL_places_112 (lv_at hl 10 rfl) ?_
                          refine q_wx (rx_SX S ⟨m_428, m_429, m_22, m_430⟩ ⟨rfl, by decide, by decide, by decide +kernel⟩ (kL_cutOf l G o σ nm ns (nI k) hst hns hns4 hnm hnm2) ⟨rfl, rfl, Nat.le_of_ble_eq_true rfl, Nat.le_of_ble_eq_true rfl⟩ (ps bl_PXZ (bXZ (hW.xo hK) ((hZ0.at hS (fun _ h => h)).zs))) (n := 2) (As := [.ref (o 0), .int (nI k)]) (rest := []) rfl hl.1 rfl (Nat.le_of_ble_eq_true rfl) ⟨by show _ ≤ (620 : Nat); omega, by show _ ≤ (3720 : Nat); omega⟩ dL_places_114) hS (fun _ h => h.elim) (fun rq25 Hq25 Lq25 eq25 gq25 fq25 hSq25 => ?_)
                          subst eq25
                          have hWq25 := hW.rd fq25
                          refine k_eq (y := cuL σ (nI i) (k + 1)) ((tV_cut hns hns4 hltk).trans (cuL_e c7).symm) ?_
                          refine lv_goto (tgt := 122) hx hb dL_places_117 (by decide) ?_
                          refine lv_istore (lv' := [(9, .int (cuL σ (nI i) (k + 1))), (0, .ref (o 0)), (1, .ref (a 0)), (2, .ref (a 1)), (3, .ref (a 4)), (4, .int ((suF σ nm ns i).1)), (5, .long (moV (suF σ nm ns i))), (7, .int (nI i)), (8, .int (woF σ nm ns (nI i) 5)), (10, .int (bI (hoQ σ (nI i) k))), (11, .int (nI k))]) hx hb dL_places_122 hl (by decide) rfl (fun ls hl => ?_)
                          refine lv_iload hx hb dL_places_124 (lv_at hl 9 rfl) ?_
                          refine lv_if_ne (tgt := 147) hx hb dL_places_126 (by decide) (fun c126_26 => absurd (by rw [e]; rfl) c126_26) (fun c126_26 => ?_)
                          refine lv_aload_n hx hb dL_places_129 rfl (lv_at hl 3 rfl) ?_
                          refine lv_iload hx hb dL_places_130 (lv_at hl 10 rfl) ?_
                          refine k_ldQ S hK hWq25 1 (by decide) (i := k) (show k < 12 by omega) dL_places_132 ?_
                          refine k_eq (y := σ 7 k) (hA.ap k hltk) ?_
                          refine lv_iload hx hb dL_places_133 (lv_at hl 7 rfl) ?_
                          refine lv_icmp_ne (tgt := 151) hx hb dL_places_135 (by decide) (fun c135_27 => absurd c7 c135_27) (fun c135_27 => ?_)
                          refine lv_aload_n hx hb dL_places_138 rfl (lv_at hl 1 rfl) ?_
                          refine lv_iload hx hb dL_places_139 (lv_at hl 10 rfl) ?_
                          refine q_wx (rx_SX S ⟨m_462, m_463, m_22, m_464⟩ ⟨rfl, by decide, by decide, by decide +kernel⟩ (kL_stateOf l G o σ nm ns (nI k) hst hns hns4 hnm hnm2) ⟨rfl, rfl, Nat.le_of_ble_eq_true rfl, Nat.le_of_ble_eq_true rfl⟩ (ps bl_PXZ (bXZ (hWq25.xo hK) ((hZ0.at hSq25 (fun _ h => h)).zs))) (n := 2) (As := [.ref (o 0), .int (nI k)]) (rest := []) rfl hl.1 rfl (Nat.le_of_ble_eq_true rfl) ⟨by show _ ≤ (620 : Nat); omega, by show _ ≤ (3720 : Nat); omega⟩ dL_places_141) hSq25 (fun _ h => h.elim) (fun rq28 Hq28 Lq28 eq28 gq28 fq28 hSq28 => ?_)
                          subst eq28
                          have hWq28 := hWq25.rd fq28
                          refine k_eq (y := 0) (tV_st0 hns hns4 hltk e9) ?_
                          refine lv_if_ne (tgt := 151) hx hb dL_places_144 (by decide) (fun c144_29 => absurd (by decide) c144_29) (fun c144_29 => ?_)
                          refine lv_iconst (v := 1) hx hb dL_places_147 (by decide) ?_
                          refine k_eq (y := bI (hoQ σ (nI i) (k + 1))) ((by rw [hoQ_t c7 e9]; rfl)) ?_
                          refine lv_goto (tgt := 152) hx hb dL_places_148 (by decide) ?_
                          refine lv_istore (lv' := [(10, .int (bI (hoQ σ (nI i) (k + 1)))), (9, .int (cuL σ (nI i) (k + 1))), (0, .ref (o 0)), (1, .ref (a 0)), (2, .ref (a 1)), (3, .ref (a 4)), (4, .int ((suF σ nm ns i).1)), (5, .long (moV (suF σ nm ns i))), (7, .int (nI i)), (8, .int (woF σ nm ns (nI i) 5)), (11, .int (nI k))]) hx hb dL_places_152 hl (by decide) rfl (fun ls hl => ?_)
                          refine lv_iinc (v := nI (k + 1)) (lv' := [(11, .int (nI (k + 1))), (10, .int (bI (hoQ σ (nI i) (k + 1)))), (9, .int (cuL σ (nI i) (k + 1))), (0, .ref (o 0)), (1, .ref (a 0)), (2, .ref (a 1)), (3, .ref (a 4)), (4, .int ((suF σ nm ns i).1)), (5, .long (moV (suF σ nm ns i))), (7, .int (nI i)), (8, .int (woF σ nm ns (nI i) 5))]) hx hb dL_places_154 hl (k := 10) rfl (nI_1 k) (by decide) rfl (fun ls hl => ?_)
                          refine lv_goto (tgt := 94) hx hb dL_places_157 (by decide) ?_
                          refine W.widen (k := 25 + 50 * i + 2 * (k + 1)) (n := 150 + 300 * i + 12 * (k + 1)) (by omega) (by omega) ?_
                          exact ihL94 (k + 1) hltk (by omega) Hq28 Lq28 hWq28 hSq28 ls (lv_sub hl [3, 4, 5, 6, 7, 8, 9, 10, 2, 1, 0] rfl)
                        · skip
                          refine lv_aload_n hx hb dL_places_102 rfl (lv_at hl 2 rfl) ?_
                          refine lv_iload hx hb dL_places_103 (lv_at hl 10 rfl) ?_
                          refine k_ldQ S hK hW 1 (by decide) (i := k) (show k < 12 by omega) dL_places_105 ?_
                          refine k_eq (y := σ 7 k) (hA.ap k hltk) ?_
                          refine lv_iload hx hb dL_places_106 (lv_at hl 6 rfl) ?_
                          refine lv_icmp_ne (tgt := 120) hx hb dL_places_108 (by decide) (fun c108_30 => absurd c7 c108_30) (fun c108_30 => ?_)
                          refine lv_aload_n hx hb dL_places_111 rfl (lv_at hl 0 rfl) ?_
                          refine lv_iload hx hb dL_places_112 (lv_at hl 10 rfl) ?_
                          refine q_wx (rx_SX S ⟨m_428, m_429, m_22, m_430⟩ ⟨rfl, by decide, by decide, by decide +kernel⟩ (kL_cutOf l G o σ nm ns (nI k) hst hns hns4 hnm hnm2) ⟨rfl, rfl, Nat.le_of_ble_eq_true rfl, Nat.le_of_ble_eq_true rfl⟩ (ps bl_PXZ (bXZ (hW.xo hK) ((hZ0.at hS (fun _ h => h)).zs))) (n := 2) (As := [.ref (o 0), .int (nI k)]) (rest := []) rfl hl.1 rfl (Nat.le_of_ble_eq_true rfl) ⟨by show _ ≤ (620 : Nat); omega, by show _ ≤ (3720 : Nat); omega⟩ dL_places_114) hS (fun _ h => h.elim) (fun rq31 Hq31 Lq31 eq31 gq31 fq31 hSq31 => ?_)
                          subst eq31
                          have hWq31 := hW.rd fq31
                          refine k_eq (y := cuL σ (nI i) (k + 1)) ((tV_cut hns hns4 hltk).trans (cuL_e c7).symm) ?_
                          refine lv_goto (tgt := 122) hx hb dL_places_117 (by decide) ?_
                          refine lv_istore (lv' := [(9, .int (cuL σ (nI i) (k + 1))), (0, .ref (o 0)), (1, .ref (a 0)), (2, .ref (a 1)), (3, .ref (a 4)), (4, .int ((suF σ nm ns i).1)), (5, .long (moV (suF σ nm ns i))), (7, .int (nI i)), (8, .int (woF σ nm ns (nI i) 5)), (10, .int (bI (hoQ σ (nI i) k))), (11, .int (nI k))]) hx hb dL_places_122 hl (by decide) rfl (fun ls hl => ?_)
                          refine lv_iload hx hb dL_places_124 (lv_at hl 9 rfl) ?_
                          refine lv_if_ne (tgt := 147) hx hb dL_places_126 (by decide) (fun c126_32 => absurd (by rw [e]; rfl) c126_32) (fun c126_32 => ?_)
                          refine lv_aload_n hx hb dL_places_129 rfl (lv_at hl 3 rfl) ?_
                          refine lv_iload hx hb dL_places_130 (lv_at hl 10 rfl) ?_
                          refine k_ldQ S hK hWq31 1 (by decide) (i := k) (show k < 12 by omega) dL_places_132 ?_
                          refine k_eq (y := σ 7 k) (hA.ap k hltk) ?_
                          refine lv_iload hx hb dL_places_133 (lv_at hl 7 rfl) ?_
                          refine lv_icmp_ne (tgt := 151) hx hb dL_places_135 (by decide) (fun c135_33 => absurd c7 c135_33) (fun c135_33 => ?_)
                          refine lv_aload_n hx hb dL_places_138 rfl (lv_at hl 1 rfl) ?_
                          refine lv_iload hx hb dL_places_139 (lv_at hl 10 rfl) ?_
                          refine q_wx (rx_SX S ⟨m_462, m_463, m_22, m_464⟩ ⟨rfl, by decide, by decide, by decide +kernel⟩ (kL_stateOf l G o σ nm ns (nI k) hst hns hns4 hnm hnm2) ⟨rfl, rfl, Nat.le_of_ble_eq_true rfl, Nat.le_of_ble_eq_true rfl⟩ (ps bl_PXZ (bXZ (hWq31.xo hK) ((hZ0.at hSq31 (fun _ h => h)).zs))) (n := 2) (As := [.ref (o 0), .int (nI k)]) (rest := []) rfl hl.1 rfl (Nat.le_of_ble_eq_true rfl) ⟨by show _ ≤ (620 : Nat); omega, by show _ ≤ (3720 : Nat); omega⟩ dL_places_141) hSq31 (fun _ h => h.elim) (fun rq34 Hq34 Lq34 eq34 gq34 fq34 hSq34 => ?_)
                          subst eq34
                          have hWq34 := hWq31.rd fq34
                          refine k_eq (y := 1) (tV_st1 hns hns4 hltk (by rw [e9]; decide)) ?_
                          refine lv_if_ne (tgt := 151) hx hb dL_places_144 (by decide) (fun c144_35 => ?_) (fun c144_35 => absurd c144_35 (by decide))
                          refine lv_iconst (v := 0) hx hb dL_places_151 (by decide) ?_
                          refine k_eq (y := bI (hoQ σ (nI i) (k + 1))) ((by rw [hoQ_c e (by rw [e9]; decide)]; rfl)) ?_
                          refine lv_istore (lv' := [(10, .int (bI (hoQ σ (nI i) (k + 1)))), (9, .int (cuL σ (nI i) (k + 1))), (0, .ref (o 0)), (1, .ref (a 0)), (2, .ref (a 1)), (3, .ref (a 4)), (4, .int ((suF σ nm ns i).1)), (5, .long (moV (suF σ nm ns i))), (7, .int (nI i)), (8, .int (woF σ nm ns (nI i) 5)), (11, .int (nI k))]) hx hb dL_places_152 hl (by decide) rfl (fun ls hl => ?_)
                          refine lv_iinc (v := nI (k + 1)) (lv' := [(11, .int (nI (k + 1))), (10, .int (bI (hoQ σ (nI i) (k + 1)))), (9, .int (cuL σ (nI i) (k + 1))), (0, .ref (o 0)), (1, .ref (a 0)), (2, .ref (a 1)), (3, .ref (a 4)), (4, .int ((suF σ nm ns i).1)), (5, .long (moV (suF σ nm ns i))), (7, .int (nI i)), (8, .int (woF σ nm ns (nI i) 5))]) hx hb dL_places_154 hl (k := 10) rfl (nI_1 k) (by decide) rfl (fun ls hl => ?_)
                          refine lv_goto (tgt := 94) hx hb dL_places_157 (by decide) ?_
                          refine W.widen (k := 25 + 50 * i + 2 * (k + 1)) (n := 150 + 300 * i + 12 * (k + 1)) (by omega) (by omega) ?_
                          exact ihL94 (k + 1) hltk (by omega) Hq34 Lq34 hWq34 hSq34 ls (lv_sub hl [3, 4, 5, 6, 7, 8, 9, 10, 2, 1, 0] rfl)
                      · skip
                        refine lv_aload_n hx hb dL_places_102 rfl (lv_at hl 2 rfl) ?_
                        refine lv_iload hx hb dL_places_103 (lv_at hl 10 rfl) ?_
                        refine k_ldQ S hK hW 1 (by decide) (i := k) (show k < 12 by omega) dL_places_105 ?_
                        refine k_eq (y := σ 7 k) (hA.ap k hltk) ?_
                        refine lv_iload hx hb dL_places_106 (lv_at hl 6 rfl) ?_
                        refine lv_icmp_ne (tgt := 120) hx hb dL_places_108 (by decide) (fun c108_36 => absurd c7 c108_36) (fun c108_36 => ?_)
                        refine lv_aload_n hx hb dL_places_111 rfl (lv_at hl 0 rfl) ?_
                        refine lv_iload hx hb dL_places_112 (lv_at hl 10 rfl) ?_
                        refine q_wx (rx_SX S ⟨m_428, m_429, m_22, m_430⟩ ⟨rfl, by decide, by decide, by decide +kernel⟩ (kL_cutOf l G o σ nm ns (nI k) hst hns hns4 hnm hnm2) ⟨rfl, rfl, Nat.le_of_ble_eq_true rfl, Nat.le_of_ble_eq_true rfl⟩ (ps bl_PXZ (bXZ (hW.xo hK) ((hZ0.at hS (fun _ h => h)).zs))) (n := 2) (As := [.ref (o 0), .int (nI k)]) (rest := []) rfl hl.1 rfl (Nat.le_of_ble_eq_true rfl) ⟨by show _ ≤ (620 : Nat); omega, by show _ ≤ (3720 : Nat); omega⟩ dL_places_114) hS (fun _ h => h.elim) (fun rq37 Hq37 Lq37 eq37 gq37 fq37 hSq37 => ?_)
                        subst eq37
                        have hWq37 := hW.rd fq37
                        refine k_eq (y := cuL σ (nI i) (k + 1)) ((tV_cut hns hns4 hltk).trans (cuL_e c7).symm) ?_
                        refine lv_goto (tgt := 122) hx hb dL_places_117 (by decide) ?_
                        refine lv_istore (lv' := [(9, .int (cuL σ (nI i) (k + 1))), (0, .ref (o 0)), (1, .ref (a 0)), (2, .ref (a 1)), (3, .ref (a 4)), (4, .int ((suF σ nm ns i).1)), (5, .long (moV (suF σ nm ns i))), (7, .int (nI i)), (8, .int (woF σ nm ns (nI i) 5)), (10, .int (bI (hoQ σ (nI i) k))), (11, .int (nI k))]) hx hb dL_places_122 hl (by decide) rfl (fun ls hl => ?_)
                        refine lv_iload hx hb dL_places_124 (lv_at hl 9 rfl) ?_
                        refine lv_if_ne (tgt := 147) hx hb dL_places_126 (by decide) (fun c126_38 => ?_) (fun c126_38 => absurd c126_38 (by rw [e]; decide))
                        refine lv_iconst (v := 1) hx hb dL_places_147 (by decide) ?_
                        refine k_eq (y := bI (hoQ σ (nI i) (k + 1))) ((by rw [hoQ_p e]; rfl)) ?_
                        refine lv_goto (tgt := 152) hx hb dL_places_148 (by decide) ?_
                        refine lv_istore (lv' := [(10, .int (bI (hoQ σ (nI i) (k + 1)))), (9, .int (cuL σ (nI i) (k + 1))), (0, .ref (o 0)), (1, .ref (a 0)), (2, .ref (a 1)), (3, .ref (a 4)), (4, .int ((suF σ nm ns i).1)), (5, .long (moV (suF σ nm ns i))), (7, .int (nI i)), (8, .int (woF σ nm ns (nI i) 5)), (11, .int (nI k))]) hx hb dL_places_152 hl (by decide) rfl (fun ls hl => ?_)
                        refine lv_iinc (v := nI (k + 1)) (lv' := [(11, .int (nI (k + 1))), (10, .int (bI (hoQ σ (nI i) (k + 1)))), (9, .int (cuL σ (nI i) (k + 1))), (0, .ref (o 0)), (1, .ref (a 0)), (2, .ref (a 1)), (3, .ref (a 4)), (4, .int ((suF σ nm ns i).1)), (5, .long (moV (suF σ nm ns i))), (7, .int (nI i)), (8, .int (woF σ nm ns (nI i) 5))]) hx hb dL_places_154 hl (k := 10) rfl (nI_1 k) (by decide) rfl (fun ls hl => ?_)
                        refine lv_goto (tgt := 94) hx hb dL_places_157 (by decide) ?_
                        refine W.widen (k := 25 + 50 * i + 2 * (k + 1)) (n := 150 + 300 * i + 12 * (k + 1)) (by omega) (by omega) ?_
                        exact ihL94 (k + 1) hltk (by omega) Hq37 Lq37 hWq37 hSq37 ls (lv_sub hl [3, 4, 5, 6, 7, 8, 9, 10, 2, 1, 0] rfl)
                    · skip
                      rcases bft (hoQ σ (nI i) k) with e | e
                      · skip
                        refine lv_aload_n hx hb dL_places_102 rfl (lv_at hl 2 rfl) ?_
                        refine lv_iload hx hb dL_places_103 (lv_at hl 10 rfl) ?_
                        refine k_ldQ S hK hW 1 (by decide) (i := k) (show k < 12 by omega) dL_places_105 ?_
                        refine k_eq (y := σ 7 k) (hA.ap k hltk) ?_
                        refine lv_iload hx hb dL_places_106 (lv_at hl 6 rfl) ?_
                        refine lv_icmp_ne (tgt := 120) hx hb dL_places_108 (by decide) (fun c108_39 => ?_) (fun c108_39 => absurd c108_39 c7)
                        refine lv_iload hx hb dL_places_120 (lv_at hl 8 rfl) ?_
                        refine k_eq (y := cuL σ (nI i) (k + 1)) ((cuL_n c7).symm) ?_
                        refine lv_istore (lv' := [(9, .int (cuL σ (nI i) (k + 1))), (0, .ref (o 0)), (1, .ref (a 0)), (2, .ref (a 1)), (3, .ref (a 4)), (4, .int ((suF σ nm ns i).1)), (5, .long (moV (suF σ nm ns i))), (7, .int (nI i)), (8, .int (woF σ nm ns (nI i) 5)), (10, .int (bI (hoQ σ (nI i) k))), (11, .int (nI k))]) hx hb dL_places_122 hl (by decide) rfl (fun ls hl => ?_)
                        refine lv_iload hx hb dL_places_124 (lv_at hl 9 rfl) ?_
                        refine lv_if_ne (tgt := 147) hx hb dL_places_126 (by decide) (fun c126_40 => absurd (by rw [e]; rfl) c126_40) (fun c126_40 => ?_)
                        refine lv_aload_n hx hb dL_places_129 rfl (lv_at hl 3 rfl) ?_
                        refine lv_iload hx hb dL_places_130 (lv_at hl 10 rfl) ?_
                        refine k_ldQ S hK hW 1 (by decide) (i := k) (show k < 12 by omega) dL_places_132 ?_
                        refine k_eq (y := σ 7 k) (hA.ap k hltk) ?_
                        refine lv_iload hx hb dL_places_133 (lv_at hl 7 rfl) ?_
                        refine lv_icmp_ne (tgt := 151) hx hb dL_places_135 (by decide) (fun c135_41 => ?_) (fun c135_41 => absurd c135_41 c7)
                        refine lv_iconst (v := 0) hx hb dL_places_151 (by decide) ?_
                        refine k_eq (y := bI (hoQ σ (nI i) (k + 1))) ((by rw [hoQ_n c7, e]; rfl)) ?_
                        refine lv_istore (lv' := [(10, .int (bI (hoQ σ (nI i) (k + 1)))), (9, .int (cuL σ (nI i) (k + 1))), (0, .ref (o 0)), (1, .ref (a 0)), (2, .ref (a 1)), (3, .ref (a 4)), (4, .int ((suF σ nm ns i).1)), (5, .long (moV (suF σ nm ns i))), (7, .int (nI i)), (8, .int (woF σ nm ns (nI i) 5)), (11, .int (nI k))]) hx hb dL_places_152 hl (by decide) rfl (fun ls hl => ?_)
                        refine lv_iinc (v := nI (k + 1)) (lv' := [(11, .int (nI (k + 1))), (10, .int (bI (hoQ σ (nI i) (k + 1)))), (9, .int (cuL σ (nI i) (k + 1))), (0, .ref (o 0)), (1, .ref (a 0)), (2, .ref (a 1)), (3, .ref (a 4)), (4, .int ((suF σ nm ns i).1)), (5, .long (moV (suF σ nm ns i))), (7, .int (nI i)), (8, .int (woF σ nm ns (nI i) 5))]) hx hb dL_places_154 hl (k := 10) rfl (nI_1 k) (by decide) rfl (fun ls hl => ?_)
                        refine lv_goto (tgt := 94) hx hb dL_places_157 (by decide) ?_
                        refine W.widen (k := 25 + 50 * i + 2 * (k + 1)) (n := 150 + 300 * i + 12 * (k + 1)) (by omega) (by omega) ?_
                        exact ihL94 (k + 1) hltk (by omega) H9 L9 hW hS ls (lv_sub hl [3, 4, 5, 6, 7, 8, 9, 10, 2, 1, 0] rfl)
                      · skip
                        refine lv_aload_n hx hb dL_places_102 rfl (lv_at hl 2 rfl) ?_
                        refine lv_iload hx hb dL_places_103 (lv_at hl 10 rfl) ?_
                        refine k_ldQ S hK hW 1 (by decide) (i := k) (show k < 12 by omega) dL_places_105 ?_
                        refine k_eq (y := σ 7 k) (hA.ap k hltk) ?_
                        refine lv_iload hx hb dL_places_106 (lv_at hl 6 rfl) ?_
                        refine lv_icmp_ne (tgt := 120) hx hb dL_places_108 (by decide) (fun c108_42 => ?_) (fun c108_42 => absurd c108_42 c7)
                        refine lv_iload hx hb dL_places_120 (lv_at hl 8 rfl) ?_
                        refine k_eq (y := cuL σ (nI i) (k + 1)) ((cuL_n c7).symm) ?_
                        refine lv_istore (lv' := [(9, .int (cuL σ (nI i) (k + 1))), (0, .ref (o 0)), (1, .ref (a 0)), (2, .ref (a 1)), (3, .ref (a 4)), (4, .int ((suF σ nm ns i).1)), (5, .long (moV (suF σ nm ns i))), (7, .int (nI i)), (8, .int (woF σ nm ns (nI i) 5)), (10, .int (bI (hoQ σ (nI i) k))), (11, .int (nI k))]) hx hb dL_places_122 hl (by decide) rfl (fun ls hl => ?_)
                        refine lv_iload hx hb dL_places_124 (lv_at hl 9 rfl) ?_
                        refine lv_if_ne (tgt := 147) hx hb dL_places_126 (by decide) (fun c126_43 => ?_) (fun c126_43 => absurd c126_43 (by rw [e]; decide))
                        refine lv_iconst (v := 1) hx hb dL_places_147 (by decide) ?_
                        refine k_eq (y := bI (hoQ σ (nI i) (k + 1))) ((by rw [hoQ_n c7, e]; rfl)) ?_
                        refine lv_goto (tgt := 152) hx hb dL_places_148 (by decide) ?_
                        refine lv_istore (lv' := [(10, .int (bI (hoQ σ (nI i) (k + 1)))), (9, .int (cuL σ (nI i) (k + 1))), (0, .ref (o 0)), (1, .ref (a 0)), (2, .ref (a 1)), (3, .ref (a 4)), (4, .int ((suF σ nm ns i).1)), (5, .long (moV (suF σ nm ns i))), (7, .int (nI i)), (8, .int (woF σ nm ns (nI i) 5)), (11, .int (nI k))]) hx hb dL_places_152 hl (by decide) rfl (fun ls hl => ?_)
                        refine lv_iinc (v := nI (k + 1)) (lv' := [(11, .int (nI (k + 1))), (10, .int (bI (hoQ σ (nI i) (k + 1)))), (9, .int (cuL σ (nI i) (k + 1))), (0, .ref (o 0)), (1, .ref (a 0)), (2, .ref (a 1)), (3, .ref (a 4)), (4, .int ((suF σ nm ns i).1)), (5, .long (moV (suF σ nm ns i))), (7, .int (nI i)), (8, .int (woF σ nm ns (nI i) 5))]) hx hb dL_places_154 hl (k := 10) rfl (nI_1 k) (by decide) rfl (fun ls hl => ?_)
                        refine lv_goto (tgt := 94) hx hb dL_places_157 (by decide) ?_
                        refine W.widen (k := 25 + 50 * i + 2 * (k + 1)) (n := 150 + 300 * i + 12 * (k + 1)) (by omega) (by omega) ?_
                        exact ihL94 (k + 1) hltk (by omega) H9 L9 hW hS ls (lv_sub hl [3, 4, 5, 6, 7, 8, 9, 10, 2, 1, 0] rfl)
              have hl : lv_has ls 13 [(11, .int (nI 0)), (10, .int (bI (hoQ σ (nI i) 0))), (9, .int (cuL σ (nI i) 0)), (0, .ref (o 0)), (1, .ref (a 0)), (2, .ref (a 1)), (3, .ref (a 4)), (4, .int ((suF σ nm ns i).1)), (5, .long (moV (suF σ nm ns i))), (7, .int (nI i)), (8, .int (woF σ nm ns (nI i) 5))] := hl
              refine W.widen (k := 25 + 50 * i) (n := 150 + 300 * i) (by omega) (by omega) ?_
              exact L94 (ns + 1) 0 (Nat.zero_le _) (by omega) H9 L9 hW hS ls (lv_sub hl [3, 4, 5, 6, 7, 8, 9, 10, 2, 1, 0] rfl)
            · skip
              have hltj : j < 5 := by
                rcases Nat.lt_or_ge j 5 with h9 | h9
                · exact h9
                · exact absurd (nI_le (a := 5) h9 (by omega)) cj
              refine lv_aload_n hx hb dL_places_30 rfl (lv_at hl 0 rfl) ?_
              refine lv_iload hx hb dL_places_31 (lv_at hl 6 rfl) ?_
              refine lv_iload hx hb dL_places_33 (lv_at hl 8 rfl) ?_
              refine q_wx (rx_SX S ⟨m_306, m_307, m_22, m_308⟩ ⟨rfl, by decide, by decide, by decide +kernel⟩ (kL_book l G o σ nm ns (nI i) (nI j) hst hns hns4 hnm hnm2) ⟨rfl, rfl, Nat.le_of_ble_eq_true rfl, Nat.le_of_ble_eq_true rfl⟩ (ps bl_PXZ (bXZ (hW.xo hK) ((hZ0.at hS (fun _ h => h)).zs))) (n := 3) (As := [.ref (o 0), .int (nI i), .int (nI j)]) (rest := []) rfl hl.1 rfl (Nat.le_of_ble_eq_true rfl) ⟨by show _ ≤ (620 : Nat); omega, by show _ ≤ (3720 : Nat); omega⟩ dL_places_35) hS (fun _ h => h.elim) (fun rq44 Hq44 Lq44 eq44 gq44 fq44 hSq44 => ?_)
              subst eq44
              have hWq44 := hW.rd fq44
              refine k_eq (y := boV σ nm ns (nI i) j (σ 16 0)) (tV_book hlti hltj) ?_
              refine lv_istore (lv' := [(10, .int (boV σ nm ns (nI i) j (σ 16 0))), (0, .ref (o 0)), (1, .ref (a 0)), (2, .ref (a 1)), (3, .ref (a 4)), (4, .int ((suF σ nm ns i).1)), (5, .long (moV (suF σ nm ns i))), (7, .int (nI i)), (8, .int (woF σ nm ns (nI i) j)), (9, .int (nI j))]) hx hb dL_places_38 hl (by decide) rfl (fun ls hl => ?_)
              refine lv_iload hx hb dL_places_40 (lv_at hl 8 rfl) ?_
              refine lv_iload hx hb dL_places_42 (lv_at hl 0 rfl) ?_
              refine lv_if_le (tgt := 57) hx hb dL_places_44 (by decide) (fun cb => ?_) (fun cb => ?_)
              · skip
                refine lv_iconst (v := 0) hx hb dL_places_57 (by decide) ?_
                refine lv_iadd hx hb dL_places_58 ?_
                refine k_eq (y := woF σ nm ns (nI i) (j + 1)) (wo_n cb) ?_
                refine lv_istore (lv' := [(8, .int (woF σ nm ns (nI i) (j + 1))), (10, .int (boV σ nm ns (nI i) j (σ 16 0))), (0, .ref (o 0)), (1, .ref (a 0)), (2, .ref (a 1)), (3, .ref (a 4)), (4, .int ((suF σ nm ns i).1)), (5, .long (moV (suF σ nm ns i))), (7, .int (nI i)), (9, .int (nI j))]) hx hb dL_places_59 hl (by decide) rfl (fun ls hl => ?_)
                refine lv_aload_n hx hb dL_places_61 rfl (lv_at hl 2 rfl) ?_
                refine lv_iload hx hb dL_places_62 (lv_at hl 8 rfl) ?_
                refine lv_iload hx hb dL_places_64 (lv_at hl 9 rfl) ?_
                refine lv_aload_n hx hb dL_places_66 rfl (lv_at hl 5 rfl) ?_
                refine lv_iconst (v := 0) hx hb dL_places_67 (by decide) ?_
                refine k_ldQ S hK hWq44 4 (by decide) (i := 0) (show 0 < 3 by omega) dL_places_68 ?_
                refine k_eq (y := nI N) (hA.g0) ?_
                refine q_wx (rx_SX S ⟨m_435, m_436, m_22, m_437⟩ ⟨rfl, by decide, by decide, by decide +kernel⟩ (kL_bookAt l G o σ nm ns (nI i) (nI j) (nI N) hst hns hns4 hnm hnm2) ⟨rfl, rfl, Nat.le_of_ble_eq_true rfl, Nat.le_of_ble_eq_true rfl⟩ (ps bl_PXZ (bXZ (hWq44.xo hK) ((hZ0.at hSq44 (fun _ h => h)).zs))) (n := 4) (As := [.ref (o 0), .int (nI i), .int (nI j), .int (nI N)]) (rest := []) rfl hl.1 rfl (Nat.le_of_ble_eq_true rfl) ⟨by show _ ≤ (620 : Nat); omega, by show _ ≤ (3720 : Nat); omega⟩ dL_places_69) hSq44 (fun _ h => h.elim) (fun rq46 Hq46 Lq46 eq46 gq46 fq46 hSq46 => ?_)
                subst eq46
                have hWq46 := hWq44.rd fq46
                refine k_eq (y := boV σ nm ns (nI i) j (σ 16 0)) ((tV_bookAt hlti hltj hC.now (Nat.le_refl N) hN31).trans (by rw [hC.now])) ?_
                refine lv_iload hx hb dL_places_72 (lv_at hl 1 rfl) ?_
                refine lv_icmp_eq (tgt := 79) hx hb dL_places_74 (by decide) (fun c74_47 => ?_) (fun c74_47 => absurd rfl c74_47)
                refine lv_iinc (v := nI (j + 1)) (lv' := [(9, .int (nI (j + 1))), (8, .int (woF σ nm ns (nI i) (j + 1))), (10, .int (boV σ nm ns (nI i) j (σ 16 0))), (0, .ref (o 0)), (1, .ref (a 0)), (2, .ref (a 1)), (3, .ref (a 4)), (4, .int ((suF σ nm ns i).1)), (5, .long (moV (suF σ nm ns i))), (7, .int (nI i))]) hx hb dL_places_79 hl (k := 9) rfl (nI_1 j) (by decide) rfl (fun ls hl => ?_)
                refine lv_goto (tgt := 24) hx hb dL_places_82 (by decide) ?_
                refine W.widen (k := 0 + 50 * i + 5 * (j + 1)) (n := 0 + 300 * i + 30 * (j + 1)) (by omega) (by omega) ?_
                exact ihL24 (j + 1) hltj (by omega) Hq46 Lq46 hWq46 hSq46 ls (lv_sub hl [3, 4, 5, 6, 7, 8, 9, 1, 0] rfl)
              · skip
                refine lv_iload hx hb dL_places_47 (lv_at hl 0 rfl) ?_
                refine lv_aload_n hx hb dL_places_49 rfl (lv_at hl 2 rfl) ?_
                refine lv_iload hx hb dL_places_50 (lv_at hl 9 rfl) ?_
                refine k_ldQ S hK hWq44 0 (by decide) (i := j) (show j < 11 by omega) dL_places_52 ?_
                refine k_eq (y := σ 0 j) (hA.ae j hltj) ?_
                refine lv_imul hx hb dL_places_53 ?_
                refine lv_goto (tgt := 58) hx hb dL_places_54 (by decide) ?_
                refine lv_iadd hx hb dL_places_58 ?_
                refine k_eq (y := woF σ nm ns (nI i) (j + 1)) (wo_p cb rfl) ?_
                refine lv_istore (lv' := [(8, .int (woF σ nm ns (nI i) (j + 1))), (10, .int (boV σ nm ns (nI i) j (σ 16 0))), (0, .ref (o 0)), (1, .ref (a 0)), (2, .ref (a 1)), (3, .ref (a 4)), (4, .int ((suF σ nm ns i).1)), (5, .long (moV (suF σ nm ns i))), (7, .int (nI i)), (9, .int (nI j))]) hx hb dL_places_59 hl (by decide) rfl (fun ls hl => ?_)
                refine lv_aload_n hx hb dL_places_61 rfl (lv_at hl 2 rfl) ?_
                refine lv_iload hx hb dL_places_62 (lv_at hl 8 rfl) ?_
                refine lv_iload hx hb dL_places_64 (lv_at hl 9 rfl) ?_
                refine lv_aload_n hx hb dL_places_66 rfl (lv_at hl 5 rfl) ?_
                refine lv_iconst (v := 0) hx hb dL_places_67 (by decide) ?_
                refine k_ldQ S hK hWq44 4 (by decide) (i := 0) (show 0 < 3 by omega) dL_places_68 ?_
                refine k_eq (y := nI N) (hA.g0) ?_
                refine q_wx (rx_SX S ⟨m_435, m_436, m_22, m_437⟩ ⟨rfl, by decide, by decide, by decide +kernel⟩ (kL_bookAt l G o σ nm ns (nI i) (nI j) (nI N) hst hns hns4 hnm hnm2) ⟨rfl, rfl, Nat.le_of_ble_eq_true rfl, Nat.le_of_ble_eq_true rfl⟩ (ps bl_PXZ (bXZ (hWq44.xo hK) ((hZ0.at hSq44 (fun _ h => h)).zs))) (n := 4) (As := [.ref (o 0), .int (nI i), .int (nI j), .int (nI N)]) (rest := []) rfl hl.1 rfl (Nat.le_of_ble_eq_true rfl) ⟨by show _ ≤ (620 : Nat); omega, by show _ ≤ (3720 : Nat); omega⟩ dL_places_69) hSq44 (fun _ h => h.elim) (fun rq48 Hq48 Lq48 eq48 gq48 fq48 hSq48 => ?_)
                subst eq48
                have hWq48 := hWq44.rd fq48
                refine k_eq (y := boV σ nm ns (nI i) j (σ 16 0)) ((tV_bookAt hlti hltj hC.now (Nat.le_refl N) hN31).trans (by rw [hC.now])) ?_
                refine lv_iload hx hb dL_places_72 (lv_at hl 1 rfl) ?_
                refine lv_icmp_eq (tgt := 79) hx hb dL_places_74 (by decide) (fun c74_49 => ?_) (fun c74_49 => absurd rfl c74_49)
                refine lv_iinc (v := nI (j + 1)) (lv' := [(9, .int (nI (j + 1))), (8, .int (woF σ nm ns (nI i) (j + 1))), (10, .int (boV σ nm ns (nI i) j (σ 16 0))), (0, .ref (o 0)), (1, .ref (a 0)), (2, .ref (a 1)), (3, .ref (a 4)), (4, .int ((suF σ nm ns i).1)), (5, .long (moV (suF σ nm ns i))), (7, .int (nI i))]) hx hb dL_places_79 hl (k := 9) rfl (nI_1 j) (by decide) rfl (fun ls hl => ?_)
                refine lv_goto (tgt := 24) hx hb dL_places_82 (by decide) ?_
                refine W.widen (k := 0 + 50 * i + 5 * (j + 1)) (n := 0 + 300 * i + 30 * (j + 1)) (by omega) (by omega) ?_
                exact ihL24 (j + 1) hltj (by omega) Hq48 Lq48 hWq48 hSq48 ls (lv_sub hl [3, 4, 5, 6, 7, 8, 9, 1, 0] rfl)
        have hl : lv_has ls 13 [(9, .int (nI 0)), (8, .int (woF σ nm ns (nI i) 0)), (0, .ref (o 0)), (1, .ref (a 0)), (2, .ref (a 1)), (3, .ref (a 4)), (4, .int ((suF σ nm ns i).1)), (5, .long (moV (suF σ nm ns i))), (7, .int (nI i))] := hl
        refine W.widen (k := 0 + 50 * i) (n := 0 + 300 * i) (by omega) (by omega) ?_
        exact L24 6 0 (Nat.zero_le _) (by omega) H9 L9 hW hS ls (lv_sub hl [2, 3, 4, 5, 6, 7, 8, 1, 0] rfl)
  refine lv_iconst (v := (-1)) hx hb dL_places_0 (by decide) ?_
  refine lv_istore (lv' := [(4, .int (-1)), (0, .ref (o 0)), (1, .ref (a 0)), (2, .ref (a 1)), (3, .ref (a 4))]) hx hb dL_places_1 hl (by decide) rfl (fun ls hl => ?_)
  refine lv_ldc2 (v := (-1)) hx hb S.2.2.2.1 (S.2.2.2.2 _ m_472) dL_places_3 ?_
  refine lv_lstore (lv' := [(5, .long (-1)), (4, .int (-1)), (0, .ref (o 0)), (1, .ref (a 0)), (2, .ref (a 1)), (3, .ref (a 4))]) hx hb dL_places_6 hl (by decide) rfl (fun ls hl => ?_)
  refine lv_iconst (v := 0) hx hb dL_places_8 (by decide) ?_
  refine lv_istore (lv' := [(7, .int 0), (5, .long (-1)), (4, .int (-1)), (0, .ref (o 0)), (1, .ref (a 0)), (2, .ref (a 1)), (3, .ref (a 4))]) hx hb dL_places_9 hl (by decide) rfl (fun ls hl => ?_)
  have hl : lv_has ls 13 [(7, .int (nI 0)), (5, .long (moV (suF σ nm ns 0))), (4, .int ((suF σ nm ns 0).1)), (0, .ref (o 0)), (1, .ref (a 0)), (2, .ref (a 1)), (3, .ref (a 4))] := hl
  refine W.widen (k := 0) (n := 0) (by omega) (by omega) ?_
  exact L11 13 0 (Nat.zero_le _) (by omega) s.heap _ hW hS ls (lv_sub hl [3, 4, 5, 6, 2, 1, 0] rfl)
