set_option maxHeartbeats 4000000 in
set_option maxRecDepth 100000 in
theorem kL_sheet (l : Launch) (G : kG) (o t a : Nat → Nat) (σ τ α : kS) (nm ns n N S9 k : Nat) (hst : l.stackTraces = false) (hJ : JQ o t a) (hI : Inv σ α nm ns n N S9) (hn : n ≤ 110) (hk : k < ns) : Met l yL_sheet [.code yL_sheet cL_sheet 11 (some .boolean)] ({ frames := 10, cells := 165, slots := 990, locals := 237 }) (va_Pc [.ref (o 0), .ref (a 1), .ref (a 2), .ref (a 4), .int (nI k)] (PQ G o t a σ τ α)) (oW (AQ o t a) (fun r => r = 1) (fun H9 => WQ G o t a σ τ α H9)) 165 990 (AQ o t a) := by
  refine k_of (by decide) (Nat.le_of_ble_eq_true rfl) (fun U h => h.2.1.2) ?_
  intro p e s m below meth c ls S hr hlocks hmn hB hl
  have hx := S.1
  have hb := S.2.1
  obtain ⟨hW, hK, hZ0⟩ := hB
  have hS : va_S (AQ o t a) s.heap s.heap [] := va_S.rf
  have hC := hI.1
  have hA := hI.2
  have hns := hC.hns
  have hns4 : ns ≤ 40 := by have := hC.ns12; omega
  have hnm := hC.hnm
  have hnm2 : nm ≤ 200 := by have := hC.nmn; omega
  have hN31 : N < 2 ^ 31 := by have := hC.Nn; omega
  obtain ⟨pl, hpl, hpl2⟩ := hC.pls k
  obtain ⟨cu, hcu, hcu2⟩ := hC.cut k
  have hns12 := hC.ns12
  have hl : lv_has ls 11 [(0, .ref (o 0)), (1, .ref (a 1)), (2, .ref (a 2)), (3, .ref (a 4)), (4, .int (nI k))] := hl
  have L3 : ∀ (n9 i : Nat), i ≤ 5 → 5 + 1 ≤ i + n9 → ∀ (H9 : Heap) (L9 : List Loc), WQ G o t a σ τ α H9 → va_S ((AQ o t a)) s.heap H9 L9 → ∀ ls, lv_has ls 11 [(0, .ref (o 0)), (1, .ref (a 1)), (2, .ref (a 2)), (3, .ref (a 4)), (4, .int (nI k)), (5, .int (nI i))] → W p l e (({ frames := 10, cells := 165, slots := 990, locals := 237 }) : Room) s m [.ref (o 0), .ref (a 1), .ref (a 2), .ref (a 4), .int (nI k)].toArray below meth c H9 L9 (0 + 30 * i) (0 + 180 * i) (MQ below (oW (AQ o t a) (fun r => r = 1) (fun H9 => WQ G o t a σ τ α H9)) [.ref (o 0), .ref (a 1), .ref (a 2), .ref (a 4), .int (nI k)].toArray s 165 990 (AQ o t a)) (F0 m 3 ls []) := by
    intro n9
    induction n9 with
    | zero =>
      intro i h1 h2
      omega
    | succ n9 ihL3 =>
      intro i hii hini  H9 L9 hW hS ls hl
      refine lv_iload hx hb dL_sheet_3 (lv_at hl 5 rfl) ?_
      refine lv_iconst (v := 5) hx hb dL_sheet_5 (by decide) ?_
      refine lv_icmp_ge (tgt := 286) hx hb dL_sheet_6 (by decide) (fun cz => ?_) (fun cz => ?_)
      · skip
        have hge : i = 5 := by
          have h9 := cz
          rw [show (5 : Int32) = nI 5 from rfl, nI_leI (by decide) (by omega)] at h9
          omega
        refine lv_aload_n hx hb dL_sheet_286 rfl (lv_at hl 0 rfl) ?_
        refine lv_iload hx hb dL_sheet_287 (lv_at hl 4 rfl) ?_
        refine q_wx (rx_SX S ⟨m_428, m_429, m_22, m_430⟩ ⟨rfl, by decide, by decide, by decide +kernel⟩ (kL_cutOf l G o σ nm ns (nI k) hst hns hns4 hnm hnm2) ⟨rfl, rfl, Nat.le_of_ble_eq_true rfl, Nat.le_of_ble_eq_true rfl⟩ (ps bl_PXZ (bXZ (hW.xo hK) ((hZ0.at hS (fun _ h => h)).zs))) (n := 2) (As := [.ref (o 0), .int (nI k)]) (rest := []) rfl hl.1 rfl (Nat.le_of_ble_eq_true rfl) ⟨by show _ ≤ (165 : Nat); omega, by show _ ≤ (990 : Nat); omega⟩ dL_sheet_289) hS (fun _ h => h.elim) (fun rq2 Hq2 Lq2 eq2 gq2 fq2 hSq2 => ?_)
        subst eq2
        have hWq2 := hW.rd fq2
        refine k_eq (y := nI cu) ((tV_cut hns hns4 hk).trans hcu) ?_
        refine lv_if_lt (tgt := 368) hx hb dL_sheet_292 (by decide) (fun c292_3 => absurd c292_3 (nI_pos (by omega))) (fun c292_3 => ?_)
        refine lv_aload_n hx hb dL_sheet_295 rfl (lv_at hl 0 rfl) ?_
        refine lv_iload hx hb dL_sheet_296 (lv_at hl 4 rfl) ?_
        refine q_wx (rx_SX S ⟨m_428, m_429, m_22, m_430⟩ ⟨rfl, by decide, by decide, by decide +kernel⟩ (kL_cutOf l G o σ nm ns (nI k) hst hns hns4 hnm hnm2) ⟨rfl, rfl, Nat.le_of_ble_eq_true rfl, Nat.le_of_ble_eq_true rfl⟩ (ps bl_PXZ (bXZ (hWq2.xo hK) ((hZ0.at hSq2 (fun _ h => h)).zs))) (n := 2) (As := [.ref (o 0), .int (nI k)]) (rest := []) rfl hl.1 rfl (Nat.le_of_ble_eq_true rfl) ⟨by show _ ≤ (165 : Nat); omega, by show _ ≤ (990 : Nat); omega⟩ dL_sheet_298) hSq2 (fun _ h => h.elim) (fun rq4 Hq4 Lq4 eq4 gq4 fq4 hSq4 => ?_)
        subst eq4
        have hWq4 := hWq2.rd fq4
        refine k_eq (y := nI cu) ((tV_cut hns hns4 hk).trans hcu) ?_
        refine lv_aload_n hx hb dL_sheet_301 rfl (lv_at hl 3 rfl) ?_
        refine lv_iconst (v := 0) hx hb dL_sheet_302 (by decide) ?_
        refine k_ldQ S hK hWq4 4 (by decide) (i := 0) (show 0 < 3 by omega) dL_sheet_303 ?_
        refine k_eq (y := nI N) (hA.g0) ?_
        refine lv_icmp_gt (tgt := 368) hx hb dL_sheet_304 (by decide) (fun c304_5 => absurd c304_5 (nI_nlt hcu2 (by omega))) (fun c304_5 => ?_)
        rcases (hC.st k).1 with e | e
        · skip
          refine lv_aload_n hx hb dL_sheet_307 rfl (lv_at hl 0 rfl) ?_
          refine lv_iload hx hb dL_sheet_308 (lv_at hl 4 rfl) ?_
          refine q_wx (rx_SX S ⟨m_462, m_463, m_22, m_464⟩ ⟨rfl, by decide, by decide, by decide +kernel⟩ (kL_stateOf l G o σ nm ns (nI k) hst hns hns4 hnm hnm2) ⟨rfl, rfl, Nat.le_of_ble_eq_true rfl, Nat.le_of_ble_eq_true rfl⟩ (ps bl_PXZ (bXZ (hWq4.xo hK) ((hZ0.at hSq4 (fun _ h => h)).zs))) (n := 2) (As := [.ref (o 0), .int (nI k)]) (rest := []) rfl hl.1 rfl (Nat.le_of_ble_eq_true rfl) ⟨by show _ ≤ (165 : Nat); omega, by show _ ≤ (990 : Nat); omega⟩ dL_sheet_310) hSq4 (fun _ h => h.elim) (fun rq6 Hq6 Lq6 eq6 gq6 fq6 hSq6 => ?_)
          subst eq6
          have hWq6 := hWq4.rd fq6
          refine k_eq (y := 0) (tV_st0 hns hns4 hk e) ?_
          refine lv_if_eq (tgt := 326) hx hb dL_sheet_313 (by decide) (fun c313_7 => ?_) (fun c313_7 => absurd (by decide) c313_7)
          refine lv_aload_n hx hb dL_sheet_326 rfl (lv_at hl 0 rfl) ?_
          refine lv_iload hx hb dL_sheet_327 (lv_at hl 4 rfl) ?_
          refine lv_iconst (v := 5) hx hb dL_sheet_329 (by decide) ?_
          refine q_wx (rx_SX S ⟨m_319, m_320, m_22, m_321⟩ ⟨rfl, by decide, by decide, by decide +kernel⟩ (kL_counts l G o σ nm ns (nI k) 5 hst hns hns4 hnm hnm2) ⟨rfl, rfl, Nat.le_of_ble_eq_true rfl, Nat.le_of_ble_eq_true rfl⟩ (ps bl_PXZ (bXZ (hWq6.xo hK) ((hZ0.at hSq6 (fun _ h => h)).zs))) (n := 3) (As := [.ref (o 0), .int (nI k), .int 5]) (rest := []) rfl hl.1 rfl (Nat.le_of_ble_eq_true rfl) ⟨by show _ ≤ (165 : Nat); omega, by show _ ≤ (990 : Nat); omega⟩ dL_sheet_330) hSq6 (fun _ h => h.elim) (fun rq8 Hq8 Lq8 eq8 gq8 fq8 hSq8 => ?_)
          subst eq8
          have hWq8 := hWq6.rd fq8
          refine k_eq (y := (-1000001)) (hcV_1 (eN_ar hns hns4 hk)) ?_
          refine lv_ldc (v := (-1000001)) hx hb S.2.2.2.1 (S.2.2.2.2 _ m_294) dL_sheet_333 ?_
          refine lv_icmp_ne (tgt := 368) hx hb dL_sheet_335 (by decide) (fun c335_9 => absurd (by decide) c335_9) (fun c335_9 => ?_)
          refine lv_aload_n hx hb dL_sheet_338 rfl (lv_at hl 0 rfl) ?_
          refine lv_aload_n hx hb dL_sheet_339 rfl (lv_at hl 3 rfl) ?_
          refine lv_iconst (v := 2) hx hb dL_sheet_340 (by decide) ?_
          refine k_ldQ S hK hWq8 4 (by decide) (i := 2) (show 2 < 3 by omega) dL_sheet_341 ?_
          refine k_eq (y := nI ns) (hA.g2) ?_
          refine lv_iconst (v := 0) hx hb dL_sheet_342 (by decide) ?_
          refine q_wx (rx_SX S ⟨m_210, m_211, m_22, m_212⟩ ⟨rfl, by decide, by decide, by decide +kernel⟩ (kL_agreed l G o σ nm ns (nI ns) 0 hst hns hns4 hnm hnm2) ⟨rfl, rfl, Nat.le_of_ble_eq_true rfl, Nat.le_of_ble_eq_true rfl⟩ (ps bl_PXZ (bXZ (hWq8.xo hK) ((hZ0.at hSq8 (fun _ h => h)).zs))) (n := 3) (As := [.ref (o 0), .int (nI ns), .int 0]) (rest := []) rfl hl.1 rfl (Nat.le_of_ble_eq_true rfl) ⟨by show _ ≤ (165 : Nat); omega, by show _ ≤ (990 : Nat); omega⟩ dL_sheet_343) hSq8 (fun _ h => h.elim) (fun rq10 Hq10 Lq10 eq10 gq10 fq10 hSq10 => ?_)
          subst eq10
          have hWq10 := hWq8.rd fq10
          refine k_eq (y := (-1000001)) (hcV_1 (eN_sh (ar := 0) hns hns4)) ?_
          refine lv_ldc (v := (-1000001)) hx hb S.2.2.2.1 (S.2.2.2.2 _ m_294) dL_sheet_346 ?_
          refine lv_icmp_ne (tgt := 368) hx hb dL_sheet_348 (by decide) (fun c348_11 => absurd (by decide) c348_11) (fun c348_11 => ?_)
          refine lv_aload_n hx hb dL_sheet_351 rfl (lv_at hl 0 rfl) ?_
          refine lv_aload_n hx hb dL_sheet_352 rfl (lv_at hl 3 rfl) ?_
          refine lv_iconst (v := 2) hx hb dL_sheet_353 (by decide) ?_
          refine k_ldQ S hK hWq10 4 (by decide) (i := 2) (show 2 < 3 by omega) dL_sheet_354 ?_
          refine k_eq (y := nI ns) (hA.g2) ?_
          refine lv_iconst (v := 0) hx hb dL_sheet_355 (by decide) ?_
          refine q_wx (rx_SX S ⟨m_366, m_367, m_22, m_368⟩ ⟨rfl, by decide, by decide, by decide +kernel⟩ (kL_gap l G o σ nm ns (nI ns) 0 hst hns hns4 hnm hnm2) ⟨rfl, rfl, Nat.le_of_ble_eq_true rfl, Nat.le_of_ble_eq_true rfl⟩ (ps bl_PXZ (bXZ (hWq10.xo hK) ((hZ0.at hSq10 (fun _ h => h)).zs))) (n := 3) (As := [.ref (o 0), .int (nI ns), .int 0]) (rest := []) rfl hl.1 rfl (Nat.le_of_ble_eq_true rfl) ⟨by show _ ≤ (165 : Nat); omega, by show _ ≤ (990 : Nat); omega⟩ dL_sheet_356) hSq10 (fun _ h => h.elim) (fun rq12 Hq12 Lq12 eq12 gq12 fq12 hSq12 => ?_)
          subst eq12
          have hWq12 := hWq10.rd fq12
          refine k_eq (y := (-1000001)) (hcV_1 (eN_gsh (ar := 0) hns hns4)) ?_
          refine lv_ldc (v := (-1000001)) hx hb S.2.2.2.1 (S.2.2.2.2 _ m_294) dL_sheet_359 ?_
          refine lv_icmp_ne (tgt := 368) hx hb dL_sheet_361 (by decide) (fun c361_13 => absurd (by decide) c361_13) (fun c361_13 => ?_)
          refine lv_iconst (v := 1) hx hb dL_sheet_364 (by decide) ?_
          refine lv_goto (tgt := 369) hx hb dL_sheet_365 (by decide) ?_
          refine W.widen (k := 165) (n := 990) (by first | omega | exact Nat.le_of_ble_eq_true rfl) (by first | omega | exact Nat.le_of_ble_eq_true rfl) ?_
          exact W.zret (v := 1) (ty := .boolean) hx hb hr (by first | rfl | exact bI_nar _) (fun t9 ht hWz => ⟨⟨_, rfl, rfl⟩, by rw [ht]; exact hWq12, hSq12.F ht⟩) hSq12.2.2 dL_sheet_369
        · skip
          refine lv_aload_n hx hb dL_sheet_307 rfl (lv_at hl 0 rfl) ?_
          refine lv_iload hx hb dL_sheet_308 (lv_at hl 4 rfl) ?_
          refine q_wx (rx_SX S ⟨m_462, m_463, m_22, m_464⟩ ⟨rfl, by decide, by decide, by decide +kernel⟩ (kL_stateOf l G o σ nm ns (nI k) hst hns hns4 hnm hnm2) ⟨rfl, rfl, Nat.le_of_ble_eq_true rfl, Nat.le_of_ble_eq_true rfl⟩ (ps bl_PXZ (bXZ (hWq4.xo hK) ((hZ0.at hSq4 (fun _ h => h)).zs))) (n := 2) (As := [.ref (o 0), .int (nI k)]) (rest := []) rfl hl.1 rfl (Nat.le_of_ble_eq_true rfl) ⟨by show _ ≤ (165 : Nat); omega, by show _ ≤ (990 : Nat); omega⟩ dL_sheet_310) hSq4 (fun _ h => h.elim) (fun rq14 Hq14 Lq14 eq14 gq14 fq14 hSq14 => ?_)
          subst eq14
          have hWq14 := hWq4.rd fq14
          refine k_eq (y := 1) (tV_st1 hns hns4 hk (by rw [e]; decide)) ?_
          refine lv_if_eq (tgt := 326) hx hb dL_sheet_313 (by decide) (fun c313_15 => absurd c313_15 (by decide)) (fun c313_15 => ?_)
          refine lv_aload_n hx hb dL_sheet_316 rfl (lv_at hl 0 rfl) ?_
          refine lv_iload hx hb dL_sheet_317 (lv_at hl 4 rfl) ?_
          refine q_wx (rx_SX S ⟨m_462, m_463, m_22, m_464⟩ ⟨rfl, by decide, by decide, by decide +kernel⟩ (kL_stateOf l G o σ nm ns (nI k) hst hns hns4 hnm hnm2) ⟨rfl, rfl, Nat.le_of_ble_eq_true rfl, Nat.le_of_ble_eq_true rfl⟩ (ps bl_PXZ (bXZ (hWq14.xo hK) ((hZ0.at hSq14 (fun _ h => h)).zs))) (n := 2) (As := [.ref (o 0), .int (nI k)]) (rest := []) rfl hl.1 rfl (Nat.le_of_ble_eq_true rfl) ⟨by show _ ≤ (165 : Nat); omega, by show _ ≤ (990 : Nat); omega⟩ dL_sheet_319) hSq14 (fun _ h => h.elim) (fun rq16 Hq16 Lq16 eq16 gq16 fq16 hSq16 => ?_)
          subst eq16
          have hWq16 := hWq14.rd fq16
          refine k_eq (y := 1) (tV_st1 hns hns4 hk (by rw [e]; decide)) ?_
          refine lv_iconst (v := 1) hx hb dL_sheet_322 (by decide) ?_
          refine lv_icmp_ne (tgt := 368) hx hb dL_sheet_323 (by decide) (fun c323_17 => absurd (by decide) c323_17) (fun c323_17 => ?_)
          refine lv_aload_n hx hb dL_sheet_326 rfl (lv_at hl 0 rfl) ?_
          refine lv_iload hx hb dL_sheet_327 (lv_at hl 4 rfl) ?_
          refine lv_iconst (v := 5) hx hb dL_sheet_329 (by decide) ?_
          refine q_wx (rx_SX S ⟨m_319, m_320, m_22, m_321⟩ ⟨rfl, by decide, by decide, by decide +kernel⟩ (kL_counts l G o σ nm ns (nI k) 5 hst hns hns4 hnm hnm2) ⟨rfl, rfl, Nat.le_of_ble_eq_true rfl, Nat.le_of_ble_eq_true rfl⟩ (ps bl_PXZ (bXZ (hWq16.xo hK) ((hZ0.at hSq16 (fun _ h => h)).zs))) (n := 3) (As := [.ref (o 0), .int (nI k), .int 5]) (rest := []) rfl hl.1 rfl (Nat.le_of_ble_eq_true rfl) ⟨by show _ ≤ (165 : Nat); omega, by show _ ≤ (990 : Nat); omega⟩ dL_sheet_330) hSq16 (fun _ h => h.elim) (fun rq18 Hq18 Lq18 eq18 gq18 fq18 hSq18 => ?_)
          subst eq18
          have hWq18 := hWq16.rd fq18
          refine k_eq (y := (-1000001)) (hcV_1 (eN_ar hns hns4 hk)) ?_
          refine lv_ldc (v := (-1000001)) hx hb S.2.2.2.1 (S.2.2.2.2 _ m_294) dL_sheet_333 ?_
          refine lv_icmp_ne (tgt := 368) hx hb dL_sheet_335 (by decide) (fun c335_19 => absurd (by decide) c335_19) (fun c335_19 => ?_)
          refine lv_aload_n hx hb dL_sheet_338 rfl (lv_at hl 0 rfl) ?_
          refine lv_aload_n hx hb dL_sheet_339 rfl (lv_at hl 3 rfl) ?_
          refine lv_iconst (v := 2) hx hb dL_sheet_340 (by decide) ?_
          refine k_ldQ S hK hWq18 4 (by decide) (i := 2) (show 2 < 3 by omega) dL_sheet_341 ?_
          refine k_eq (y := nI ns) (hA.g2) ?_
          refine lv_iconst (v := 0) hx hb dL_sheet_342 (by decide) ?_
          refine q_wx (rx_SX S ⟨m_210, m_211, m_22, m_212⟩ ⟨rfl, by decide, by decide, by decide +kernel⟩ (kL_agreed l G o σ nm ns (nI ns) 0 hst hns hns4 hnm hnm2) ⟨rfl, rfl, Nat.le_of_ble_eq_true rfl, Nat.le_of_ble_eq_true rfl⟩ (ps bl_PXZ (bXZ (hWq18.xo hK) ((hZ0.at hSq18 (fun _ h => h)).zs))) (n := 3) (As := [.ref (o 0), .int (nI ns), .int 0]) (rest := []) rfl hl.1 rfl (Nat.le_of_ble_eq_true rfl) ⟨by show _ ≤ (165 : Nat); omega, by show _ ≤ (990 : Nat); omega⟩ dL_sheet_343) hSq18 (fun _ h => h.elim) (fun rq20 Hq20 Lq20 eq20 gq20 fq20 hSq20 => ?_)
          subst eq20
          have hWq20 := hWq18.rd fq20
          refine k_eq (y := (-1000001)) (hcV_1 (eN_sh (ar := 0) hns hns4)) ?_
          refine lv_ldc (v := (-1000001)) hx hb S.2.2.2.1 (S.2.2.2.2 _ m_294) dL_sheet_346 ?_
          refine lv_icmp_ne (tgt := 368) hx hb dL_sheet_348 (by decide) (fun c348_21 => absurd (by decide) c348_21) (fun c348_21 => ?_)
          refine lv_aload_n hx hb dL_sheet_351 rfl (lv_at hl 0 rfl) ?_
          refine lv_aload_n hx hb dL_sheet_352 rfl (lv_at hl 3 rfl) ?_
          refine lv_iconst (v := 2) hx hb dL_sheet_353 (by decide) ?_
          refine k_ldQ S hK hWq20 4 (by decide) (i := 2) (show 2 < 3 by omega) dL_sheet_354 ?_
          refine k_eq (y := nI ns) (hA.g2) ?_
          refine lv_iconst (v := 0) hx hb dL_sheet_355 (by decide) ?_
          refine q_wx (rx_SX S ⟨m_366, m_367, m_22, m_368⟩ ⟨rfl, by decide, by decide, by decide +kernel⟩ (kL_gap l G o σ nm ns (nI ns) 0 hst hns hns4 hnm hnm2) ⟨rfl, rfl, Nat.le_of_ble_eq_true rfl, Nat.le_of_ble_eq_true rfl⟩ (ps bl_PXZ (bXZ (hWq20.xo hK) ((hZ0.at hSq20 (fun _ h => h)).zs))) (n := 3) (As := [.ref (o 0), .int (nI ns), .int 0]) (rest := []) rfl hl.1 rfl (Nat.le_of_ble_eq_true rfl) ⟨by show _ ≤ (165 : Nat); omega, by show _ ≤ (990 : Nat); omega⟩ dL_sheet_356) hSq20 (fun _ h => h.elim) (fun rq22 Hq22 Lq22 eq22 gq22 fq22 hSq22 => ?_)
          subst eq22
          have hWq22 := hWq20.rd fq22
          refine k_eq (y := (-1000001)) (hcV_1 (eN_gsh (ar := 0) hns hns4)) ?_
          refine lv_ldc (v := (-1000001)) hx hb S.2.2.2.1 (S.2.2.2.2 _ m_294) dL_sheet_359 ?_
          refine lv_icmp_ne (tgt := 368) hx hb dL_sheet_361 (by decide) (fun c361_23 => absurd (by decide) c361_23) (fun c361_23 => ?_)
          refine lv_iconst (v := 1) hx hb dL_sheet_364 (by decide) ?_
          refine lv_goto (tgt := 369) hx hb dL_sheet_365 (by decide) ?_
          refine W.widen (k := 165) (n := 990) (by first | omega | exact Nat.le_of_ble_eq_true rfl) (by first | omega | exact Nat.le_of_ble_eq_true rfl) ?_
          exact W.zret (v := 1) (ty := .boolean) hx hb hr (by first | rfl | exact bI_nar _) (fun t9 ht hWz => ⟨⟨_, rfl, rfl⟩, by rw [ht]; exact hWq22, hSq22.F ht⟩) hSq22.2.2 dL_sheet_369
      · skip
        have hlt : i < 5 := by
          rcases Nat.lt_or_ge i 5 with h9 | h9
          · exact h9
          · exact absurd (nI_le (a := 5) h9 (by omega)) cz
        refine lv_aload_n hx hb dL_sheet_9 rfl (lv_at hl 0 rfl) ?_
        refine lv_iload hx hb dL_sheet_10 (lv_at hl 4 rfl) ?_
        refine lv_iload hx hb dL_sheet_12 (lv_at hl 5 rfl) ?_
        refine q_wx (rx_SX S ⟨m_210, m_211, m_22, m_212⟩ ⟨rfl, by decide, by decide, by decide +kernel⟩ (kL_agreed l G o σ nm ns (nI k) (nI i) hst hns hns4 hnm hnm2) ⟨rfl, rfl, Nat.le_of_ble_eq_true rfl, Nat.le_of_ble_eq_true rfl⟩ (ps bl_PXZ (bXZ (hW.xo hK) ((hZ0.at hS (fun _ h => h)).zs))) (n := 3) (As := [.ref (o 0), .int (nI k), .int (nI i)]) (rest := []) rfl hl.1 rfl (Nat.le_of_ble_eq_true rfl) ⟨by show _ ≤ (165 : Nat); omega, by show _ ≤ (990 : Nat); omega⟩ dL_sheet_14) hS (fun _ h => h.elim) (fun rq24 Hq24 Lq24 eq24 gq24 fq24 hSq24 => ?_)
        subst eq24
        have hWq24 := hW.rd fq24
        refine k_eq (y := σ 13 (k * 5 + i)) (tV_line hns hns4 hk hlt (fun z => σ 13 z)) ?_
        refine lv_istore (lv' := [(6, .int (σ 13 (k * 5 + i))), (0, .ref (o 0)), (1, .ref (a 1)), (2, .ref (a 2)), (3, .ref (a 4)), (4, .int (nI k)), (5, .int (nI i))]) hx hb dL_sheet_17 hl (by decide) rfl (fun ls hl => ?_)
        refine lv_aload_n hx hb dL_sheet_19 rfl (lv_at hl 1 rfl) ?_
        refine lv_iload hx hb dL_sheet_20 (lv_at hl 5 rfl) ?_
        refine lv_iload hx hb dL_sheet_22 (lv_at hl 6 rfl) ?_
        obtain ⟨c9, hc9, hc10, hc11, hc12⟩ := hC.cn (k := k * 5 + i) (by omega)
        refine q_wx (rx_SX S ⟨m_319, m_320, m_22, m_321⟩ ⟨rfl, by decide, by decide, by decide +kernel⟩ (kL_counts l G o σ nm ns (nI k) (nI i) hst hns hns4 hnm hnm2) ⟨rfl, rfl, Nat.le_of_ble_eq_true rfl, Nat.le_of_ble_eq_true rfl⟩ (ps bl_PXZ (bXZ (hWq24.xo hK) ((hZ0.at hSq24 (fun _ h => h)).zs))) (n := 3) (As := [.ref (o 0), .int (nI k), .int (nI i)]) (rest := []) rfl hl.1 rfl (Nat.le_of_ble_eq_true rfl) ⟨by show _ ≤ (165 : Nat); omega, by show _ ≤ (990 : Nat); omega⟩ dL_sheet_24) hSq24 (fun _ h => h.elim) (fun rq25 Hq25 Lq25 eq25 gq25 fq25 hSq25 => ?_)
        subst eq25
        have hWq25 := hWq24.rd fq25
        refine k_eq (y := nI c9) ((tV_line hns hns4 hk hlt (fun z => bc (σ 10 z))).trans hc10) ?_
        refine lv_istore (lv' := [(7, .int (nI c9)), (6, .int (σ 13 (k * 5 + i))), (0, .ref (o 0)), (1, .ref (a 1)), (2, .ref (a 2)), (3, .ref (a 4)), (4, .int (nI k)), (5, .int (nI i))]) hx hb dL_sheet_27 hl (by decide) rfl (fun ls hl => ?_)
        refine lv_aload_n hx hb dL_sheet_29 rfl (lv_at hl 2 rfl) ?_
        refine lv_iload hx hb dL_sheet_30 (lv_at hl 6 rfl) ?_
        refine lv_iload hx hb dL_sheet_32 (lv_at hl 7 rfl) ?_
        refine q_wx (rx_SX S ⟨m_336, m_337, m_22, m_338⟩ ⟨rfl, by decide, by decide, by decide +kernel⟩ (kL_isSigned l G o σ nm ns (nI k) (nI i) hst hns hns4 hnm hnm2) ⟨rfl, rfl, Nat.le_of_ble_eq_true rfl, Nat.le_of_ble_eq_true rfl⟩ (ps bl_PXZ (bXZ (hWq25.xo hK) ((hZ0.at hSq25 (fun _ h => h)).zs))) (n := 3) (As := [.ref (o 0), .int (nI k), .int (nI i)]) (rest := []) rfl hl.1 rfl (Nat.le_of_ble_eq_true rfl) ⟨by show _ ≤ (165 : Nat); omega, by show _ ≤ (990 : Nat); omega⟩ dL_sheet_34) hSq25 (fun _ h => h.elim) (fun rq26 Hq26 Lq26 eq26 gq26 fq26 hSq26 => ?_)
        subst eq26
        have hWq26 := hWq25.rd fq26
        refine k_eq (y := bI (hsB σ (k * 5 + i))) (tV_line hns hns4 hk hlt (fun z => bI (hsB σ z))) ?_
        refine lv_istore (lv' := [(8, .int (bI (hsB σ (k * 5 + i)))), (7, .int (nI c9)), (6, .int (σ 13 (k * 5 + i))), (0, .ref (o 0)), (1, .ref (a 1)), (2, .ref (a 2)), (3, .ref (a 4)), (4, .int (nI k)), (5, .int (nI i))]) hx hb dL_sheet_37 hl (by decide) rfl (fun ls hl => ?_)
        refine lv_aload_n hx hb dL_sheet_39 rfl (lv_at hl 3 rfl) ?_
        refine lv_iload hx hb dL_sheet_40 (lv_at hl 7 rfl) ?_
        refine lv_iload hx hb dL_sheet_42 (lv_at hl 8 rfl) ?_
        refine q_wx (rx_SX S ⟨m_343, m_344, m_22, m_345⟩ ⟨rfl, by decide, by decide, by decide +kernel⟩ (kL_likely l G o σ nm ns (nI k) (nI i) hst hns hns4 hnm hnm2) ⟨rfl, rfl, Nat.le_of_ble_eq_true rfl, Nat.le_of_ble_eq_true rfl⟩ (ps bl_PXZ (bXZ (hWq26.xo hK) ((hZ0.at hSq26 (fun _ h => h)).zs))) (n := 3) (As := [.ref (o 0), .int (nI k), .int (nI i)]) (rest := []) rfl hl.1 rfl (Nat.le_of_ble_eq_true rfl) ⟨by show _ ≤ (165 : Nat); omega, by show _ ≤ (990 : Nat); omega⟩ dL_sheet_44) hSq26 (fun _ h => h.elim) (fun rq27 Hq27 Lq27 eq27 gq27 fq27 hSq27 => ?_)
        subst eq27
        have hWq27 := hWq26.rd fq27
        refine k_eq (y := oI (flO (fun j => csB σ nm ns k j i) ns)) (tV_lik hns hns4 hk hlt) ?_
        refine lv_istore (lv' := [(9, .int (oI (flO (fun j => csB σ nm ns k j i) ns))), (8, .int (bI (hsB σ (k * 5 + i)))), (7, .int (nI c9)), (6, .int (σ 13 (k * 5 + i))), (0, .ref (o 0)), (1, .ref (a 1)), (2, .ref (a 2)), (3, .ref (a 4)), (4, .int (nI k)), (5, .int (nI i))]) hx hb dL_sheet_47 hl (by decide) rfl (fun ls hl => ?_)
        refine lv_iload hx hb dL_sheet_49 (lv_at hl 3 rfl) ?_
        refine lv_aload_n hx hb dL_sheet_51 rfl (lv_at hl 6 rfl) ?_
        refine lv_iconst (v := 5) hx hb dL_sheet_52 (by decide) ?_
        refine lv_iload hx hb dL_sheet_53 (lv_at hl 8 rfl) ?_
        refine lv_imul hx hb dL_sheet_55 ?_
        refine k_eq (y := nI (5 * k)) (pk_mul 5 k) ?_
        refine lv_iload hx hb dL_sheet_56 (lv_at hl 9 rfl) ?_
        refine lv_iadd hx hb dL_sheet_58 ?_
        refine k_eq (y := nI (5 * k + i)) (nI_add (5 * k) i) ?_
        refine k_ldQ S hK hWq27 2 (by decide) (i := (5 * k + i)) (show (5 * k + i) < 60 by omega) dL_sheet_59 ?_
        refine k_eq (y := σ 13 (k * 5 + i)) ((by rw [hA.ac (5 * k + i) (by omega), Nat.mul_comm 5 k] : α 2 (5 * k + i) = σ 13 (k * 5 + i))) ?_
        refine lv_icmp_ne (tgt := 96) hx hb dL_sheet_60 (by decide) (fun c60_28 => absurd rfl c60_28) (fun c60_28 => ?_)
        have J98 : ∀  (H9 : Heap) (L9 : List Loc), WQ G o t a σ τ α H9 → va_S ((AQ o t a)) s.heap H9 L9 → ∀ ls, lv_has ls 11 [(0, .ref (o 0)), (1, .ref (a 1)), (2, .ref (a 2)), (3, .ref (a 4)), (4, .int (nI k)), (5, .int (nI i)), (6, .int (σ 13 (k * 5 + i))), (7, .int (nI c9)), (8, .int (bI (hsB σ (k * 5 + i)))), (9, .int (oI (flO (fun j => csB σ nm ns k j i) ns)))] → W p l e (({ frames := 10, cells := 165, slots := 990, locals := 237 }) : Room) s m [.ref (o 0), .ref (a 1), .ref (a 2), .ref (a 4), .int (nI k)].toArray below meth c H9 L9 (8 + 30 * i) (48 + 180 * i) (MQ below (oW (AQ o t a) (fun r => r = 1) (fun H9 => WQ G o t a σ τ α H9)) [.ref (o 0), .ref (a 1), .ref (a 2), .ref (a 4), .int (nI k)].toArray s 165 990 (AQ o t a)) (F0 m 98 ls []) := by
          intro  H9 L9 hW hS ls hl
          rcases hC.ag2 (k := k * 5 + i) (by omega) with ⟨g1, g2⟩ | ⟨q9, hq9, g1, g2⟩
          · skip
            refine lv_aload_n hx hb dL_sheet_98 rfl (lv_at hl 0 rfl) ?_
            refine lv_iload hx hb dL_sheet_99 (lv_at hl 4 rfl) ?_
            refine lv_iload hx hb dL_sheet_101 (lv_at hl 5 rfl) ?_
            refine q_wx (rx_SX S ⟨m_366, m_367, m_22, m_368⟩ ⟨rfl, by decide, by decide, by decide +kernel⟩ (kL_gap l G o σ nm ns (nI k) (nI i) hst hns hns4 hnm hnm2) ⟨rfl, rfl, Nat.le_of_ble_eq_true rfl, Nat.le_of_ble_eq_true rfl⟩ (ps bl_PXZ (bXZ (hW.xo hK) ((hZ0.at hS (fun _ h => h)).zs))) (n := 3) (As := [.ref (o 0), .int (nI k), .int (nI i)]) (rest := []) rfl hl.1 rfl (Nat.le_of_ble_eq_true rfl) ⟨by show _ ≤ (165 : Nat); omega, by show _ ≤ (990 : Nat); omega⟩ dL_sheet_103) hS (fun _ h => h.elim) (fun rq29 Hq29 Lq29 eq29 gq29 fq29 hSq29 => ?_)
            subst eq29
            have hWq29 := hW.rd fq29
            refine k_eq (y := (-1000002)) (hcV_4 (eN_gap hns hns4 hk hlt g2)) ?_
            refine lv_istore (lv' := [(10, .int (-1000002)), (0, .ref (o 0)), (1, .ref (a 1)), (2, .ref (a 2)), (3, .ref (a 4)), (4, .int (nI k)), (5, .int (nI i)), (6, .int (σ 13 (k * 5 + i))), (7, .int (nI c9)), (8, .int (bI (hsB σ (k * 5 + i)))), (9, .int (oI (flO (fun j => csB σ nm ns k j i) ns)))]) hx hb dL_sheet_106 hl (by decide) rfl (fun ls hl => ?_)
            refine lv_iload hx hb dL_sheet_108 (lv_at hl 7 rfl) ?_
            refine lv_if_ge (tgt := 147) hx hb dL_sheet_110 (by decide) (fun c110_30 => absurd c110_30 (by rw [g1]; decide)) (fun c110_30 => ?_)
            refine lv_iload hx hb dL_sheet_113 (lv_at hl 0 rfl) ?_
            refine lv_ldc (v := (-1000002)) hx hb S.2.2.2.1 (S.2.2.2.2 _ m_394) dL_sheet_115 ?_
            refine lv_icmp_ne (tgt := 145) hx hb dL_sheet_117 (by decide) (fun c117_31 => absurd (by decide) c117_31) (fun c117_31 => ?_)
            refine lv_iload hx hb dL_sheet_120 (lv_at hl 9 rfl) ?_
            refine lv_if_ne (tgt := 145) hx hb dL_sheet_122 (by decide) (fun c122_32 => absurd (by rw [hC.hs2 (by omega) g2]; rfl) c122_32) (fun c122_32 => ?_)
            refine lv_iload hx hb dL_sheet_125 (lv_at hl 10 rfl) ?_
            refine lv_iconst (v := (-1)) hx hb dL_sheet_127 (by decide) ?_
            refine lv_icmp_ne (tgt := 145) hx hb dL_sheet_128 (by decide) (fun c128_33 => absurd (lik_n (sg_ag g2)) c128_33) (fun c128_33 => ?_)
            refine lv_aload_n hx hb dL_sheet_131 rfl (lv_at hl 1 rfl) ?_
            refine lv_iload hx hb dL_sheet_132 (lv_at hl 5 rfl) ?_
            refine lv_iload hx hb dL_sheet_134 (lv_at hl 6 rfl) ?_
            refine lv_iconst (v := 0) hx hb dL_sheet_136 (by decide) ?_
            refine q_wx (rx_SX S ⟨m_395, m_396, m_22, m_397⟩ ⟨rfl, by decide, by decide, by decide +kernel⟩ (kL_sign l G o σ nm ns (nI k) (nI i) 0 hst hns hns4 hnm hnm2 (AO o) hJ.dO) ⟨rfl, rfl, Nat.le_of_ble_eq_true rfl, Nat.le_of_ble_eq_true rfl⟩ (ps bl_PXZ (bXZ (hWq29.xo hK) ((hZ0.at hSq29 (fun _ h => h)).zs))) (n := 4) (As := [.ref (o 0), .int (nI k), .int (nI i), .int 0]) (rest := []) rfl hl.1 rfl (Nat.le_of_ble_eq_true rfl) ⟨by show _ ≤ (165 : Nat); omega, by show _ ≤ (990 : Nat); omega⟩ dL_sheet_137) hSq29 (fun _ h => h.inO) (fun rq34 Hq34 Lq34 eq34 gq34 fq34 hSq34 => ?_)
            subst eq34
            rw [show (if eX_sign σ nm ns (nI k) (nI i) 0 = 0 then (wrS σ (lnN (nI k) (nI i)) (gpV σ nm ns (ixN (nI k)) (ixN (nI i)))) else σ) = σ from if_neg (ne0 (k := 3) (eS_4 (pe := 0) hns hns4 hk hlt (by decide) g2))] at gq34
            have hWq34 := hWq29.wo hJ gq34 fq34
            refine k_eq (y := (-1000002)) (hcV_4 (eS_4 (pe := 0) hns hns4 hk hlt (by decide) g2)) ?_
            refine lv_ldc (v := (-1000002)) hx hb S.2.2.2.1 (S.2.2.2.2 _ m_394) dL_sheet_140 ?_
            refine lv_icmp_eq (tgt := 204) hx hb dL_sheet_142 (by decide) (fun c142_35 => ?_) (fun c142_35 => absurd (by decide) c142_35)
            refine lv_iload hx hb dL_sheet_204 (lv_at hl 10 rfl) ?_
            refine lv_if_lt (tgt := 280) hx hb dL_sheet_206 (by decide) (fun c206_36 => ?_) (fun c206_36 => absurd (by rw [lik_n (sg_ag g2)]; decide) c206_36)
            refine lv_iinc (v := nI (i + 1)) (lv' := [(5, .int (nI (i + 1))), (10, .int (-1000002)), (0, .ref (o 0)), (1, .ref (a 1)), (2, .ref (a 2)), (3, .ref (a 4)), (4, .int (nI k)), (6, .int (σ 13 (k * 5 + i))), (7, .int (nI c9)), (8, .int (bI (hsB σ (k * 5 + i)))), (9, .int (oI (flO (fun j => csB σ nm ns k j i) ns)))]) hx hb dL_sheet_280 hl (k := 6) rfl (nI_1 i) (by decide) rfl (fun ls hl => ?_)
            refine lv_goto (tgt := 3) hx hb dL_sheet_283 (by decide) ?_
            refine W.widen (k := 0 + 30 * (i + 1)) (n := 0 + 180 * (i + 1)) (by omega) (by omega) ?_
            exact ihL3 (i + 1) hlt (by omega) Hq34 Lq34 hWq34 hSq34 ls (lv_sub hl [2, 3, 4, 5, 6, 0] rfl)
          · skip
            refine lv_aload_n hx hb dL_sheet_98 rfl (lv_at hl 0 rfl) ?_
            refine lv_iload hx hb dL_sheet_99 (lv_at hl 4 rfl) ?_
            refine lv_iload hx hb dL_sheet_101 (lv_at hl 5 rfl) ?_
            refine q_wx (rx_SX S ⟨m_366, m_367, m_22, m_368⟩ ⟨rfl, by decide, by decide, by decide +kernel⟩ (kL_gap l G o σ nm ns (nI k) (nI i) hst hns hns4 hnm hnm2) ⟨rfl, rfl, Nat.le_of_ble_eq_true rfl, Nat.le_of_ble_eq_true rfl⟩ (ps bl_PXZ (bXZ (hW.xo hK) ((hZ0.at hS (fun _ h => h)).zs))) (n := 3) (As := [.ref (o 0), .int (nI k), .int (nI i)]) (rest := []) rfl hl.1 rfl (Nat.le_of_ble_eq_true rfl) ⟨by show _ ≤ (165 : Nat); omega, by show _ ≤ (990 : Nat); omega⟩ dL_sheet_103) hS (fun _ h => h.elim) (fun rq37 Hq37 Lq37 eq37 gq37 fq37 hSq37 => ?_)
            subst eq37
            have hWq37 := hW.rd fq37
            refine k_eq (y := gpV σ nm ns k i) (tV_gap hns hns4 hk hlt g2) ?_
            refine lv_istore (lv' := [(10, .int (gpV σ nm ns k i)), (0, .ref (o 0)), (1, .ref (a 1)), (2, .ref (a 2)), (3, .ref (a 4)), (4, .int (nI k)), (5, .int (nI i)), (6, .int (σ 13 (k * 5 + i))), (7, .int (nI c9)), (8, .int (bI (hsB σ (k * 5 + i)))), (9, .int (oI (flO (fun j => csB σ nm ns k j i) ns)))]) hx hb dL_sheet_106 hl (by decide) rfl (fun ls hl => ?_)
            refine lv_iload hx hb dL_sheet_108 (lv_at hl 7 rfl) ?_
            refine lv_if_ge (tgt := 147) hx hb dL_sheet_110 (by decide) (fun c110_38 => ?_) (fun c110_38 => absurd (by rw [g1]; exact nI_pos' (by omega)) c110_38)
            rcases bft (hsB σ (k * 5 + i)) with e | e
            · skip
              refine lv_iload hx hb dL_sheet_147 (lv_at hl 9 rfl) ?_
              refine lv_if_ne (tgt := 176) hx hb dL_sheet_149 (by decide) (fun c149_39 => absurd (by rw [e]; rfl) c149_39) (fun c149_39 => ?_)
              refine lv_iload hx hb dL_sheet_152 (lv_at hl 0 rfl) ?_
              refine lv_iload hx hb dL_sheet_154 (lv_at hl 7 rfl) ?_
              refine lv_aload_n hx hb dL_sheet_156 rfl (lv_at hl 1 rfl) ?_
              refine lv_aload_n hx hb dL_sheet_157 rfl (lv_at hl 2 rfl) ?_
              refine lv_iload hx hb dL_sheet_158 (lv_at hl 5 rfl) ?_
              refine k_ldQ S hK hWq37 1 (by decide) (i := k) (show k < 12 by omega) dL_sheet_160 ?_
              refine k_eq (y := nI pl) ((hA.ap k hk).trans hpl) ?_
              refine lv_iload hx hb dL_sheet_161 (lv_at hl 6 rfl) ?_
              refine lv_aload_n hx hb dL_sheet_163 rfl (lv_at hl 1 rfl) ?_
              refine lv_iload hx hb dL_sheet_164 (lv_at hl 5 rfl) ?_
              refine q_wx (rx_SX S ⟨m_428, m_429, m_22, m_430⟩ ⟨rfl, by decide, by decide, by decide +kernel⟩ (kL_cutOf l G o σ nm ns (nI k) hst hns hns4 hnm hnm2) ⟨rfl, rfl, Nat.le_of_ble_eq_true rfl, Nat.le_of_ble_eq_true rfl⟩ (ps bl_PXZ (bXZ (hWq37.xo hK) ((hZ0.at hSq37 (fun _ h => h)).zs))) (n := 2) (As := [.ref (o 0), .int (nI k)]) (rest := [.int (nI i), .int (nI pl), .ref (o 0), .int (σ 13 (k * 5 + i)), .int (gpV σ nm ns k i)]) rfl hl.1 rfl (Nat.le_of_ble_eq_true rfl) ⟨by show _ ≤ (165 : Nat); omega, by show _ ≤ (990 : Nat); omega⟩ dL_sheet_166) hSq37 (fun _ h => h.elim) (fun rq40 Hq40 Lq40 eq40 gq40 fq40 hSq40 => ?_)
              subst eq40
              have hWq40 := hWq37.rd fq40
              refine k_eq (y := nI cu) ((tV_cut hns hns4 hk).trans hcu) ?_
              refine q_wx (rx_SX S ⟨m_435, m_436, m_22, m_437⟩ ⟨rfl, by decide, by decide, by decide +kernel⟩ (kL_bookAt l G o σ nm ns (nI pl) (nI i) (nI cu) hst hns hns4 hnm hnm2) ⟨rfl, rfl, Nat.le_of_ble_eq_true rfl, Nat.le_of_ble_eq_true rfl⟩ (ps bl_PXZ (bXZ (hWq40.xo hK) ((hZ0.at hSq40 (fun _ h => h)).zs))) (n := 4) (As := [.ref (o 0), .int (nI pl), .int (nI i), .int (nI cu)]) (rest := [.int (σ 13 (k * 5 + i)), .int (gpV σ nm ns k i)]) rfl hl.1 rfl (Nat.le_of_ble_eq_true rfl) ⟨by show _ ≤ (165 : Nat); omega, by show _ ≤ (990 : Nat); omega⟩ dL_sheet_169) hSq40 (fun _ h => h.elim) (fun rq41 Hq41 Lq41 eq41 gq41 fq41 hSq41 => ?_)
              subst eq41
              have hWq41 := hWq40.rd fq41
              refine k_eq (y := boV σ nm ns (nI pl) i (nI cu)) (tV_bookAt hpl2 hlt hC.now hcu2 hN31) ?_
              refine lv_isub hx hb dL_sheet_172 ?_
              refine lv_icmp_ne (tgt := 202) hx hb dL_sheet_173 (by decide) (fun c173_42 => absurd (by rw [gp_u e, hpl, hcu]) c173_42) (fun c173_42 => ?_)
              refine lv_iload hx hb dL_sheet_176 (lv_at hl 9 rfl) ?_
              refine lv_iconst (v := 1) hx hb dL_sheet_178 (by decide) ?_
              refine lv_icmp_ne (tgt := 204) hx hb dL_sheet_179 (by decide) (fun c179_43 => ?_) (fun c179_43 => absurd c179_43 (by rw [e]; decide))
              rcases hlk : flO (fun j => csB σ nm ns k j i) ns with _ | j
              · skip
                refine lv_iload hx hb dL_sheet_204 (lv_at hl 10 rfl) ?_
                refine lv_if_lt (tgt := 280) hx hb dL_sheet_206 (by decide) (fun c206_44 => ?_) (fun c206_44 => absurd (by rw [hlk]; decide) c206_44)
                refine lv_iinc (v := nI (i + 1)) (lv' := [(5, .int (nI (i + 1))), (10, .int (gpV σ nm ns k i)), (0, .ref (o 0)), (1, .ref (a 1)), (2, .ref (a 2)), (3, .ref (a 4)), (4, .int (nI k)), (6, .int (σ 13 (k * 5 + i))), (7, .int (nI c9)), (8, .int (bI (hsB σ (k * 5 + i)))), (9, .int (oI (flO (fun j => csB σ nm ns k j i) ns)))]) hx hb dL_sheet_280 hl (k := 6) rfl (nI_1 i) (by decide) rfl (fun ls hl => ?_)
                refine lv_goto (tgt := 3) hx hb dL_sheet_283 (by decide) ?_
                refine W.widen (k := 0 + 30 * (i + 1)) (n := 0 + 180 * (i + 1)) (by omega) (by omega) ?_
                exact ihL3 (i + 1) hlt (by omega) Hq41 Lq41 hWq41 hSq41 ls (lv_sub hl [2, 3, 4, 5, 6, 0] rfl)
              · skip
                obtain ⟨hj, hcs⟩ := flO_s hlk
                obtain ⟨t1, t2, t3, t4, t5⟩ := cs_t hcs
                obtain ⟨u1, u2, u3⟩ := sg_t t2
                obtain ⟨v1, v2, v3⟩ := sg_t t3
                rw [hlk] at hl
                have hl : lv_has ls 11 [(10, .int (gpV σ nm ns k i)), (0, .ref (o 0)), (1, .ref (a 1)), (2, .ref (a 2)), (3, .ref (a 4)), (4, .int (nI k)), (5, .int (nI i)), (6, .int (σ 13 (k * 5 + i))), (7, .int (nI c9)), (8, .int (bI (hsB σ (k * 5 + i)))), (9, .int (nI j))] := hl
                refine lv_iload hx hb dL_sheet_204 (lv_at hl 10 rfl) ?_
                refine lv_if_lt (tgt := 280) hx hb dL_sheet_206 (by decide) (fun c206_45 => absurd c206_45 (nI_pos (by omega))) (fun c206_45 => ?_)
                refine lv_iload hx hb dL_sheet_209 (lv_at hl 10 rfl) ?_
                refine lv_aload_n hx hb dL_sheet_211 rfl (lv_at hl 4 rfl) ?_
                refine lv_iconst (v := 2) hx hb dL_sheet_212 (by decide) ?_
                refine k_ldQ S hK hWq41 4 (by decide) (i := 2) (show 2 < 3 by omega) dL_sheet_213 ?_
                refine k_eq (y := nI ns) (hA.g2) ?_
                refine lv_icmp_ge (tgt := 278) hx hb dL_sheet_214 (by decide) (fun c214_46 => absurd c214_46 (nI_ge hj (by omega))) (fun c214_46 => ?_)
                refine lv_iload hx hb dL_sheet_217 (lv_at hl 0 rfl) ?_
                refine lv_if_eq (tgt := 278) hx hb dL_sheet_219 (by decide) (fun c219_47 => absurd c219_47 t4) (fun c219_47 => ?_)
                refine lv_iload hx hb dL_sheet_222 (lv_at hl 0 rfl) ?_
                refine lv_aload_n hx hb dL_sheet_224 rfl (lv_at hl 1 rfl) ?_
                refine lv_iload hx hb dL_sheet_225 (lv_at hl 10 rfl) ?_
                refine lv_iload hx hb dL_sheet_227 (lv_at hl 6 rfl) ?_
                refine q_wx (rx_SX S ⟨m_366, m_367, m_22, m_368⟩ ⟨rfl, by decide, by decide, by decide +kernel⟩ (kL_gap l G o σ nm ns (nI j) (nI i) hst hns hns4 hnm hnm2) ⟨rfl, rfl, Nat.le_of_ble_eq_true rfl, Nat.le_of_ble_eq_true rfl⟩ (ps bl_PXZ (bXZ (hWq41.xo hK) ((hZ0.at hSq41 (fun _ h => h)).zs))) (n := 3) (As := [.ref (o 0), .int (nI j), .int (nI i)]) (rest := [.int (gpV σ nm ns k i)]) rfl hl.1 rfl (Nat.le_of_ble_eq_true rfl) ⟨by show _ ≤ (165 : Nat); omega, by show _ ≤ (990 : Nat); omega⟩ dL_sheet_229) hSq41 (fun _ h => h.elim) (fun rq48 Hq48 Lq48 eq48 gq48 fq48 hSq48 => ?_)
                subst eq48
                have hWq48 := hWq41.rd fq48
                refine k_eq (y := gpV σ nm ns j i) (tV_gap hns hns4 hj hlt v2) ?_
                refine lv_iadd hx hb dL_sheet_232 ?_
                refine lv_if_ne (tgt := 278) hx hb dL_sheet_233 (by decide) (fun c233_49 => absurd t5 c233_49) (fun c233_49 => ?_)
                refine lv_aload_n hx hb dL_sheet_236 rfl (lv_at hl 2 rfl) ?_
                refine lv_iload hx hb dL_sheet_237 (lv_at hl 10 rfl) ?_
                refine k_ldQ S hK hWq48 1 (by decide) (i := j) (show j < 12 by omega) dL_sheet_239 ?_
                refine k_eq (y := σ 7 j) (hA.ap j hj) ?_
                refine lv_aload_n hx hb dL_sheet_240 rfl (lv_at hl 2 rfl) ?_
                refine lv_iload hx hb dL_sheet_241 (lv_at hl 5 rfl) ?_
                refine k_ldQ S hK hWq48 1 (by decide) (i := k) (show k < 12 by omega) dL_sheet_243 ?_
                refine k_eq (y := σ 7 k) (hA.ap k hk) ?_
                refine lv_icmp_eq (tgt := 278) hx hb dL_sheet_244 (by decide) (fun c244_50 => absurd c244_50 (fun q => t1 q.symm)) (fun c244_50 => ?_)
                refine lv_aload_n hx hb dL_sheet_247 rfl (lv_at hl 1 rfl) ?_
                refine lv_iload hx hb dL_sheet_248 (lv_at hl 5 rfl) ?_
                refine q_wx (rx_SX S ⟨m_462, m_463, m_22, m_464⟩ ⟨rfl, by decide, by decide, by decide +kernel⟩ (kL_stateOf l G o σ nm ns (nI k) hst hns hns4 hnm hnm2) ⟨rfl, rfl, Nat.le_of_ble_eq_true rfl, Nat.le_of_ble_eq_true rfl⟩ (ps bl_PXZ (bXZ (hWq48.xo hK) ((hZ0.at hSq48 (fun _ h => h)).zs))) (n := 2) (As := [.ref (o 0), .int (nI k)]) (rest := []) rfl hl.1 rfl (Nat.le_of_ble_eq_true rfl) ⟨by show _ ≤ (165 : Nat); omega, by show _ ≤ (990 : Nat); omega⟩ dL_sheet_250) hSq48 (fun _ h => h.elim) (fun rq51 Hq51 Lq51 eq51 gq51 fq51 hSq51 => ?_)
                subst eq51
                have hWq51 := hWq48.rd fq51
                refine k_eq (y := 1) (tV_st1 hns hns4 hk u1) ?_
                refine lv_iconst (v := 1) hx hb dL_sheet_253 (by decide) ?_
                refine lv_icmp_ne (tgt := 278) hx hb dL_sheet_254 (by decide) (fun c254_52 => absurd (by decide) c254_52) (fun c254_52 => ?_)
                refine lv_aload_n hx hb dL_sheet_257 rfl (lv_at hl 1 rfl) ?_
                refine lv_iload hx hb dL_sheet_258 (lv_at hl 10 rfl) ?_
                refine q_wx (rx_SX S ⟨m_462, m_463, m_22, m_464⟩ ⟨rfl, by decide, by decide, by decide +kernel⟩ (kL_stateOf l G o σ nm ns (nI j) hst hns hns4 hnm hnm2) ⟨rfl, rfl, Nat.le_of_ble_eq_true rfl, Nat.le_of_ble_eq_true rfl⟩ (ps bl_PXZ (bXZ (hWq51.xo hK) ((hZ0.at hSq51 (fun _ h => h)).zs))) (n := 2) (As := [.ref (o 0), .int (nI j)]) (rest := []) rfl hl.1 rfl (Nat.le_of_ble_eq_true rfl) ⟨by show _ ≤ (165 : Nat); omega, by show _ ≤ (990 : Nat); omega⟩ dL_sheet_260) hSq51 (fun _ h => h.elim) (fun rq53 Hq53 Lq53 eq53 gq53 fq53 hSq53 => ?_)
                subst eq53
                have hWq53 := hWq51.rd fq53
                refine k_eq (y := 1) (tV_st1 hns hns4 hj v1) ?_
                refine lv_iconst (v := 1) hx hb dL_sheet_263 (by decide) ?_
                refine lv_icmp_ne (tgt := 278) hx hb dL_sheet_264 (by decide) (fun c264_54 => absurd (by decide) c264_54) (fun c264_54 => ?_)
                refine lv_aload_n hx hb dL_sheet_267 rfl (lv_at hl 1 rfl) ?_
                refine lv_iload hx hb dL_sheet_268 (lv_at hl 10 rfl) ?_
                refine lv_iload hx hb dL_sheet_270 (lv_at hl 6 rfl) ?_
                refine q_wx (rx_SX S ⟨m_343, m_344, m_22, m_345⟩ ⟨rfl, by decide, by decide, by decide +kernel⟩ (kL_likely l G o σ nm ns (nI j) (nI i) hst hns hns4 hnm hnm2) ⟨rfl, rfl, Nat.le_of_ble_eq_true rfl, Nat.le_of_ble_eq_true rfl⟩ (ps bl_PXZ (bXZ (hWq53.xo hK) ((hZ0.at hSq53 (fun _ h => h)).zs))) (n := 3) (As := [.ref (o 0), .int (nI j), .int (nI i)]) (rest := []) rfl hl.1 rfl (Nat.le_of_ble_eq_true rfl) ⟨by show _ ≤ (165 : Nat); omega, by show _ ≤ (990 : Nat); omega⟩ dL_sheet_272) hSq53 (fun _ h => h.elim) (fun rq55 Hq55 Lq55 eq55 gq55 fq55 hSq55 => ?_)
                subst eq55
                have hWq55 := hWq53.rd fq55
                refine k_eq (y := oI (flO (fun z => csB σ nm ns j z i) ns)) (tV_lik hns hns4 hj hlt) ?_
                refine lv_if_ge (tgt := 280) hx hb dL_sheet_275 (by decide) (fun c275_56 => ?_) (fun c275_56 => absurd (lik_p hk hns4 (cs_sym hcs)) c275_56)
                refine lv_iinc (v := nI (i + 1)) (lv' := [(5, .int (nI (i + 1))), (10, .int (gpV σ nm ns k i)), (0, .ref (o 0)), (1, .ref (a 1)), (2, .ref (a 2)), (3, .ref (a 4)), (4, .int (nI k)), (6, .int (σ 13 (k * 5 + i))), (7, .int (nI c9)), (8, .int (bI (hsB σ (k * 5 + i)))), (9, .int (nI j))]) hx hb dL_sheet_280 hl (k := 6) rfl (nI_1 i) (by decide) rfl (fun ls hl => ?_)
                refine lv_goto (tgt := 3) hx hb dL_sheet_283 (by decide) ?_
                refine W.widen (k := 0 + 30 * (i + 1)) (n := 0 + 180 * (i + 1)) (by omega) (by omega) ?_
                exact ihL3 (i + 1) hlt (by omega) Hq55 Lq55 hWq55 hSq55 ls (lv_sub hl [2, 3, 4, 5, 6, 0] rfl)
            · skip
              refine lv_iload hx hb dL_sheet_147 (lv_at hl 9 rfl) ?_
              refine lv_if_ne (tgt := 176) hx hb dL_sheet_149 (by decide) (fun c149_57 => ?_) (fun c149_57 => absurd c149_57 (by rw [e]; decide))
              refine lv_iload hx hb dL_sheet_176 (lv_at hl 9 rfl) ?_
              refine lv_iconst (v := 1) hx hb dL_sheet_178 (by decide) ?_
              refine lv_icmp_ne (tgt := 204) hx hb dL_sheet_179 (by decide) (fun c179_58 => absurd (by rw [e]; rfl) c179_58) (fun c179_58 => ?_)
              refine lv_iload hx hb dL_sheet_182 (lv_at hl 10 rfl) ?_
              refine lv_iconst (v := (-1)) hx hb dL_sheet_184 (by decide) ?_
              refine lv_icmp_ne (tgt := 202) hx hb dL_sheet_185 (by decide) (fun c185_59 => absurd (lik_n (sg_hs e)) c185_59) (fun c185_59 => ?_)
              refine lv_aload_n hx hb dL_sheet_188 rfl (lv_at hl 1 rfl) ?_
              refine lv_iload hx hb dL_sheet_189 (lv_at hl 5 rfl) ?_
              refine lv_iload hx hb dL_sheet_191 (lv_at hl 6 rfl) ?_
              refine lv_iconst (v := 0) hx hb dL_sheet_193 (by decide) ?_
              refine q_wx (rx_SX S ⟨m_395, m_396, m_22, m_397⟩ ⟨rfl, by decide, by decide, by decide +kernel⟩ (kL_sign l G o σ nm ns (nI k) (nI i) 0 hst hns hns4 hnm hnm2 (AO o) hJ.dO) ⟨rfl, rfl, Nat.le_of_ble_eq_true rfl, Nat.le_of_ble_eq_true rfl⟩ (ps bl_PXZ (bXZ (hWq37.xo hK) ((hZ0.at hSq37 (fun _ h => h)).zs))) (n := 4) (As := [.ref (o 0), .int (nI k), .int (nI i), .int 0]) (rest := []) rfl hl.1 rfl (Nat.le_of_ble_eq_true rfl) ⟨by show _ ≤ (165 : Nat); omega, by show _ ≤ (990 : Nat); omega⟩ dL_sheet_194) hSq37 (fun _ h => h.inO) (fun rq60 Hq60 Lq60 eq60 gq60 fq60 hSq60 => ?_)
              subst eq60
              rw [show (if eX_sign σ nm ns (nI k) (nI i) 0 = 0 then (wrS σ (lnN (nI k) (nI i)) (gpV σ nm ns (ixN (nI k)) (ixN (nI i)))) else σ) = σ from if_neg (ne0 (k := 2) (eS_3 (pe := 0) hns hns4 hk hlt (by decide) g2 (sg_hs e)))] at gq60
              have hWq60 := hWq37.wo hJ gq60 fq60
              refine k_eq (y := (-1000003)) (hcV_3 (eS_3 (pe := 0) hns hns4 hk hlt (by decide) g2 (sg_hs e))) ?_
              refine lv_ldc (v := (-1000003)) hx hb S.2.2.2.1 (S.2.2.2.2 _ m_427) dL_sheet_197 ?_
              refine lv_icmp_eq (tgt := 204) hx hb dL_sheet_199 (by decide) (fun c199_61 => ?_) (fun c199_61 => absurd (by decide) c199_61)
              refine lv_iload hx hb dL_sheet_204 (lv_at hl 10 rfl) ?_
              refine lv_if_lt (tgt := 280) hx hb dL_sheet_206 (by decide) (fun c206_62 => ?_) (fun c206_62 => absurd (by rw [lik_n (sg_hs e)]; decide) c206_62)
              refine lv_iinc (v := nI (i + 1)) (lv' := [(5, .int (nI (i + 1))), (10, .int (gpV σ nm ns k i)), (0, .ref (o 0)), (1, .ref (a 1)), (2, .ref (a 2)), (3, .ref (a 4)), (4, .int (nI k)), (6, .int (σ 13 (k * 5 + i))), (7, .int (nI c9)), (8, .int (bI (hsB σ (k * 5 + i)))), (9, .int (oI (flO (fun j => csB σ nm ns k j i) ns)))]) hx hb dL_sheet_280 hl (k := 6) rfl (nI_1 i) (by decide) rfl (fun ls hl => ?_)
              refine lv_goto (tgt := 3) hx hb dL_sheet_283 (by decide) ?_
              refine W.widen (k := 0 + 30 * (i + 1)) (n := 0 + 180 * (i + 1)) (by omega) (by omega) ?_
              exact ihL3 (i + 1) hlt (by omega) Hq60 Lq60 hWq60 hSq60 ls (lv_sub hl [2, 3, 4, 5, 6, 0] rfl)
        refine lv_iload hx hb dL_sheet_63 (lv_at hl 2 rfl) ?_
        refine lv_if_lt (tgt := 96) hx hb dL_sheet_65 (by decide) (fun c65_63 => absurd c65_63 (nI_pos (by omega))) (fun c65_63 => ?_)
        refine lv_iload hx hb dL_sheet_68 (lv_at hl 2 rfl) ?_
        refine lv_iconst (v := 3) hx hb dL_sheet_70 (by decide) ?_
        refine lv_icmp_gt (tgt := 96) hx hb dL_sheet_71 (by decide) (fun c71_64 => absurd c71_64 (nI_nlt (b := c9) (a := 3) (by omega) (by decide))) (fun c71_64 => ?_)
        refine lv_iload hx hb dL_sheet_74 (lv_at hl 2 rfl) ?_
        refine lv_iconst (v := 3) hx hb dL_sheet_76 (by decide) ?_
        refine lv_icmp_ne (tgt := 85) hx hb dL_sheet_77 (by decide) (fun c3 => ?_) (fun c3 => ?_)
        · skip
          have hcn3 : c9 ≠ 3 := fun q => c3 (by rw [q]; rfl)
          refine lv_iload hx hb dL_sheet_85 (lv_at hl 2 rfl) ?_
          refine lv_iconst (v := 2) hx hb dL_sheet_87 (by decide) ?_
          refine lv_icmp_ge (tgt := 98) hx hb dL_sheet_88 (by decide) (fun c2 => ?_) (fun c2 => ?_)
          · skip
            refine W.widen (k := 8 + 30 * i) (n := 48 + 180 * i) (by omega) (by omega) ?_
            exact J98  Hq27 Lq27 hWq27 hSq27 ls (lv_sub hl [4, 5, 6, 7, 8, 9, 3, 2, 1, 0] rfl)
          · skip
            have hcn2 : c9 < 2 := by
              rcases Nat.lt_or_ge c9 2 with h9 | h9
              · exact h9
              · exact absurd (nI_le (a := 2) h9 (by omega)) c2
            refine lv_iload hx hb dL_sheet_91 (lv_at hl 3 rfl) ?_
            refine lv_if_lt (tgt := 98) hx hb dL_sheet_93 (by decide) (fun c93_67 => ?_) (fun c93_67 => absurd (hC.agn (by omega) (Decidable.byContradiction (fun q => by have := hc12 q; omega))) c93_67)
            refine W.widen (k := 8 + 30 * i) (n := 48 + 180 * i) (by omega) (by omega) ?_
            exact J98  Hq27 Lq27 hWq27 hSq27 ls (lv_sub hl [4, 5, 6, 7, 8, 9, 3, 2, 1, 0] rfl)
        · skip
          have hcn3 : c9 = 3 := nI9 (y := 3) c3 (by omega) (by decide)
          refine lv_iload hx hb dL_sheet_80 (lv_at hl 3 rfl) ?_
          refine lv_if_lt (tgt := 96) hx hb dL_sheet_82 (by decide) (fun c82_68 => absurd c82_68 (hC.agp (by omega) (fun q => by have := hc11 q; omega))) (fun c82_68 => ?_)
          refine lv_iload hx hb dL_sheet_85 (lv_at hl 2 rfl) ?_
          refine lv_iconst (v := 2) hx hb dL_sheet_87 (by decide) ?_
          refine lv_icmp_ge (tgt := 98) hx hb dL_sheet_88 (by decide) (fun c2 => ?_) (fun c2 => ?_)
          · skip
            refine W.widen (k := 8 + 30 * i) (n := 48 + 180 * i) (by omega) (by omega) ?_
            exact J98  Hq27 Lq27 hWq27 hSq27 ls (lv_sub hl [4, 5, 6, 7, 8, 9, 3, 2, 1, 0] rfl)
          · skip
            have hcn2 : c9 < 2 := by
              rcases Nat.lt_or_ge c9 2 with h9 | h9
              · exact h9
              · exact absurd (nI_le (a := 2) h9 (by omega)) c2
            refine lv_iload hx hb dL_sheet_91 (lv_at hl 3 rfl) ?_
            refine lv_if_lt (tgt := 98) hx hb dL_sheet_93 (by decide) (fun c93_70 => ?_) (fun c93_70 => absurd (hC.agn (by omega) (Decidable.byContradiction (fun q => by have := hc12 q; omega))) c93_70)
            refine W.widen (k := 8 + 30 * i) (n := 48 + 180 * i) (by omega) (by omega) ?_
            exact J98  Hq27 Lq27 hWq27 hSq27 ls (lv_sub hl [4, 5, 6, 7, 8, 9, 3, 2, 1, 0] rfl)
  refine lv_iconst (v := 0) hx hb dL_sheet_0 (by decide) ?_
  refine lv_istore (lv' := [(5, .int 0), (0, .ref (o 0)), (1, .ref (a 1)), (2, .ref (a 2)), (3, .ref (a 4)), (4, .int (nI k))]) hx hb dL_sheet_1 hl (by decide) rfl (fun ls hl => ?_)
  refine W.widen (k := 0) (n := 0) (by omega) (by omega) ?_
  exact L3 6 0 (Nat.zero_le _) (by omega) s.heap _ hW hS ls (lv_sub hl [1, 2, 3, 4, 5, 0] rfl)
