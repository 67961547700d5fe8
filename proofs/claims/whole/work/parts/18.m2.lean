/-! THE MODEL's WRITERS: the rows behind them -/
def mvM (μ : kS) (nm : Nat) (f9 t9 a9 q9 i9 : Int32) : kS := su (su (su (su (su (su μ 2 nm f9) 3 nm t9) 4 nm a9) 5 nm q9) 6 nm i9) 17 0 (nI (nm + 1))
def opM (μ : kS) (ns : Nat) (pl : Int32) : kS := su (su (su (su μ 7 ns pl) 8 ns (μ 16 0)) 9 ns 0) 18 0 (nI (ns + 1))
set_option maxHeartbeats 4000000 in
set_option maxRecDepth 100000 in
theorem c4_goes (l : Launch) (G : kG) (ad : Nat → Nat) (σ : kS) (b1 b2 b3 : Bool)  (A : Nat → Prop) (hD : DD 16 A ad) : Met l yX4_goes [.code yX4_goes cX4_goes 4 (some .boolean)] ({ frames := 1, cells := 0, slots := 0, locals := 40 }) (va_Pc [.ref (ad 0), .int (bI b1), .int (bI b2), .int (bI b3)] (fun U => PM G ad σ U U.heap)) (oW A (fun r => r = bI (go3 (b1, b2, b3))) (fun H9 => va_P G.1 vwCl (wM G ad (su σ 23 0 (goV (b1, b2, b3)))) H9)) 0 0 A := by
  refine k_of (by decide) (Nat.le_of_ble_eq_true rfl) (fun U h => h.2.2) ?_
  intro p e s m below meth c ls S hr hlocks hmn hB hl
  have hx := S.1
  have hb := S.2.1
  have hX : PM G ad σ s s.heap := hB
  have hS0 : va_S A s.heap s.heap [] := va_S.rf
  have hl : lv_has ls 4 [(0, .ref (ad 0)), (1, .int (bI b1)), (2, .int (bI b2)), (3, .int (bI b3))] := hl
  refine lv_aload_n hx hb dX4_goes_0 rfl (lv_at hl 0 rfl) ?_
  refine lv_iload_n hx hb dX4_goes_1 rfl (lv_at hl 1 rfl) ?_
  refine lv_if_ne (tgt := 9) hx hb dX4_goes_2 (by decide) (fun c2_1 => ?_) (fun c2_1 => ?_)
  · have bc2_1 := bI_n c2_1
    refine lv_iload_n hx hb dX4_goes_9 rfl (lv_at hl 2 rfl) ?_
    refine lv_if_ne (tgt := 17) hx hb dX4_goes_10 (by decide) (fun c10_2 => ?_) (fun c10_2 => ?_)
    · have bc10_2 := bI_n c10_2
      refine lv_iload_n hx hb dX4_goes_17 rfl (lv_at hl 3 rfl) ?_
      refine lv_if_ne (tgt := 25) hx hb dX4_goes_18 (by decide) (fun c18_3 => ?_) (fun c18_3 => ?_)
      · have bc18_3 := bI_n c18_3
        refine lv_iconst (v := 0) hx hb dX4_goes_25 (by decide) ?_
        refine k_put S hX.2 hX.1 (hD.w (wM_fst _ _ _)) hS0 0 (C := RX4) (T := TX4) (N := 20) rfl rfl 19 (by decide) inX4 tyX4 tyX4_ok nmX4 rfl rfl m_594 (Nat.le_of_ble_eq_true rfl) dX4_goes_26 (fun H4 L4 h4 hS4 => ?_)
        have hX4 : PM G ad (su σ 23 0 0) s H4 := ⟨h4, hX.2⟩
        refine lv_aload_n hx hb dX4_goes_29 rfl (lv_at hl 0 rfl) ?_
        refine k_get S hX4.2 hX4.1 0 (C := RX4) (T := TX4) (N := 20) rfl rfl 19 (by decide) inX4 m_594 rfl dX4_goes_30 ?_
        refine k_eq (y := 0) (by rfl) ?_
        refine lv_if_ne (tgt := 40) hx hb dX4_goes_33 (by decide) (fun c33_5 => ?_) (fun c33_5 => ?_)
        · exact absurd c33_5 (by decide)
        · have bc33_5 := c33_5
          refine lv_iconst (v := 1) hx hb dX4_goes_36 (by decide) ?_
          refine lv_goto (tgt := 41) hx hb dX4_goes_37 (by decide) ?_
          exact W.zret (v := 1) (ty := .boolean) hx hb hr (by first | rfl | exact bI_nar _) (fun t ht hW => ⟨⟨_, rfl, (by simp [go3, bI, bc2_1, bc10_2, bc18_3])⟩, (by have e9 : su σ 23 0 (goV (b1, b2, b3)) = su σ 23 0 0 := (by first | rfl | simp [goV, bc2_1, bc10_2, bc18_3]); show va_P G.1 vwCl (wM G ad (su σ 23 0 (goV (b1, b2, b3)))) t.heap; rw [e9, ht]; exact hX4.1), hS4.F ht⟩) hS4.2.2 dX4_goes_41
      · have bc18_3 := bI_0 c18_3
        refine lv_iconst (v := 3) hx hb dX4_goes_21 (by decide) ?_
        refine lv_goto (tgt := 26) hx hb dX4_goes_22 (by decide) ?_
        refine k_put S hX.2 hX.1 (hD.w (wM_fst _ _ _)) hS0 0 (C := RX4) (T := TX4) (N := 20) rfl rfl 19 (by decide) inX4 tyX4 tyX4_ok nmX4 rfl rfl m_594 (Nat.le_of_ble_eq_true rfl) dX4_goes_26 (fun H6 L6 h6 hS6 => ?_)
        have hX6 : PM G ad (su σ 23 0 3) s H6 := ⟨h6, hX.2⟩
        refine lv_aload_n hx hb dX4_goes_29 rfl (lv_at hl 0 rfl) ?_
        refine k_get S hX6.2 hX6.1 0 (C := RX4) (T := TX4) (N := 20) rfl rfl 19 (by decide) inX4 m_594 rfl dX4_goes_30 ?_
        refine k_eq (y := 3) (by rfl) ?_
        refine lv_if_ne (tgt := 40) hx hb dX4_goes_33 (by decide) (fun c33_7 => ?_) (fun c33_7 => ?_)
        · have bc33_7 := c33_7
          refine lv_iconst (v := 0) hx hb dX4_goes_40 (by decide) ?_
          exact W.zret (v := 0) (ty := .boolean) hx hb hr (by first | rfl | exact bI_nar _) (fun t ht hW => ⟨⟨_, rfl, (by simp [go3, bI, bc2_1, bc10_2, bc18_3])⟩, (by have e9 : su σ 23 0 (goV (b1, b2, b3)) = su σ 23 0 3 := (by first | rfl | simp [goV, bc2_1, bc10_2, bc18_3]); show va_P G.1 vwCl (wM G ad (su σ 23 0 (goV (b1, b2, b3)))) t.heap; rw [e9, ht]; exact hX6.1), hS6.F ht⟩) hS6.2.2 dX4_goes_41
        · exact absurd c33_7 (by decide)
    · have bc10_2 := bI_0 c10_2
      refine lv_iconst (v := 2) hx hb dX4_goes_13 (by decide) ?_
      refine lv_goto (tgt := 26) hx hb dX4_goes_14 (by decide) ?_
      refine k_put S hX.2 hX.1 (hD.w (wM_fst _ _ _)) hS0 0 (C := RX4) (T := TX4) (N := 20) rfl rfl 19 (by decide) inX4 tyX4 tyX4_ok nmX4 rfl rfl m_594 (Nat.le_of_ble_eq_true rfl) dX4_goes_26 (fun H8 L8 h8 hS8 => ?_)
      have hX8 : PM G ad (su σ 23 0 2) s H8 := ⟨h8, hX.2⟩
      refine lv_aload_n hx hb dX4_goes_29 rfl (lv_at hl 0 rfl) ?_
      refine k_get S hX8.2 hX8.1 0 (C := RX4) (T := TX4) (N := 20) rfl rfl 19 (by decide) inX4 m_594 rfl dX4_goes_30 ?_
      refine k_eq (y := 2) (by rfl) ?_
      refine lv_if_ne (tgt := 40) hx hb dX4_goes_33 (by decide) (fun c33_9 => ?_) (fun c33_9 => ?_)
      · have bc33_9 := c33_9
        refine lv_iconst (v := 0) hx hb dX4_goes_40 (by decide) ?_
        exact W.zret (v := 0) (ty := .boolean) hx hb hr (by first | rfl | exact bI_nar _) (fun t ht hW => ⟨⟨_, rfl, (by simp [go3, bI, bc2_1, bc10_2])⟩, (by have e9 : su σ 23 0 (goV (b1, b2, b3)) = su σ 23 0 2 := (by first | rfl | simp [goV, bc2_1, bc10_2]); show va_P G.1 vwCl (wM G ad (su σ 23 0 (goV (b1, b2, b3)))) t.heap; rw [e9, ht]; exact hX8.1), hS8.F ht⟩) hS8.2.2 dX4_goes_41
      · exact absurd c33_9 (by decide)
  · have bc2_1 := bI_0 c2_1
    refine lv_iconst (v := 1) hx hb dX4_goes_5 (by decide) ?_
    refine lv_goto (tgt := 26) hx hb dX4_goes_6 (by decide) ?_
    refine k_put S hX.2 hX.1 (hD.w (wM_fst _ _ _)) hS0 0 (C := RX4) (T := TX4) (N := 20) rfl rfl 19 (by decide) inX4 tyX4 tyX4_ok nmX4 rfl rfl m_594 (Nat.le_of_ble_eq_true rfl) dX4_goes_26 (fun H10 L10 h10 hS10 => ?_)
    have hX10 : PM G ad (su σ 23 0 1) s H10 := ⟨h10, hX.2⟩
    refine lv_aload_n hx hb dX4_goes_29 rfl (lv_at hl 0 rfl) ?_
    refine k_get S hX10.2 hX10.1 0 (C := RX4) (T := TX4) (N := 20) rfl rfl 19 (by decide) inX4 m_594 rfl dX4_goes_30 ?_
    refine k_eq (y := 1) (by rfl) ?_
    refine lv_if_ne (tgt := 40) hx hb dX4_goes_33 (by decide) (fun c33_11 => ?_) (fun c33_11 => ?_)
    · have bc33_11 := c33_11
      refine lv_iconst (v := 0) hx hb dX4_goes_40 (by decide) ?_
      exact W.zret (v := 0) (ty := .boolean) hx hb hr (by first | rfl | exact bI_nar _) (fun t ht hW => ⟨⟨_, rfl, (by simp [go3, bI, bc2_1])⟩, (by have e9 : su σ 23 0 (goV (b1, b2, b3)) = su σ 23 0 1 := (by first | rfl | simp [goV, bc2_1]); show va_P G.1 vwCl (wM G ad (su σ 23 0 (goV (b1, b2, b3)))) t.heap; rw [e9, ht]; exact hX10.1), hS10.F ht⟩) hS10.2.2 dX4_goes_41
    · exact absurd c33_11 (by decide)

set_option maxHeartbeats 4000000 in
set_option maxRecDepth 100000 in
theorem c4_told (l : Launch) (G : kG) (ad : Nat → Nat) (σ : kS) (v : Int32)  (A : Nat → Prop) (hD : DD 16 A ad) : Met l yX4_told [.code yX4_told cX4_told 2 (some .int)] ({ frames := 1, cells := 0, slots := 0, locals := 40 }) (va_Pc [.ref (ad 0), .int v] (fun U => PM G ad σ U U.heap)) (oW A (fun r => r = v) (fun H9 => va_P G.1 vwCl (wM G ad (su σ 23 0 0)) H9)) 0 0 A := by
  refine k_of (by decide) (Nat.le_of_ble_eq_true rfl) (fun U h => h.2.2) ?_
  intro p e s m below meth c ls S hr hlocks hmn hB hl
  have hx := S.1
  have hb := S.2.1
  have hX : PM G ad σ s s.heap := hB
  have hS0 : va_S A s.heap s.heap [] := va_S.rf
  have hl : lv_has ls 2 [(0, .ref (ad 0)), (1, .int v)] := hl
  refine lv_aload_n hx hb dX4_told_0 rfl (lv_at hl 0 rfl) ?_
  refine lv_iconst (v := 0) hx hb dX4_told_1 (by decide) ?_
  refine k_put S hX.2 hX.1 (hD.w (wM_fst _ _ _)) hS0 0 (C := RX4) (T := TX4) (N := 20) rfl rfl 19 (by decide) inX4 tyX4 tyX4_ok nmX4 rfl rfl m_594 (Nat.le_of_ble_eq_true rfl) dX4_told_2 (fun H1 L1 h1 hS1 => ?_)
  have hX1 : PM G ad (su σ 23 0 0) s H1 := ⟨h1, hX.2⟩
  refine lv_iload_n hx hb dX4_told_5 rfl (lv_at hl 1 rfl) ?_
  exact W.iret (v := v) hx hb hr (fun t ht hW => ⟨⟨_, rfl, rfl⟩, (by have e9 : su σ 23 0 0 = su σ 23 0 0 := (by first | rfl | simp []); show va_P G.1 vwCl (wM G ad (su σ 23 0 0)) t.heap; rw [e9, ht]; exact hX1.1), hS1.F ht⟩) hS1.2.2 dX4_told_6

set_option maxHeartbeats 4000000 in
set_option maxRecDepth 100000 in
theorem c4_signs (l : Launch) (G : kG) (ad : Nat → Nat) (σ : kS) (sh ar : Nat) (g : Int32) (hsh : sh < 40) (har : ar < 5) (A : Nat → Prop) (hD : DD 16 A ad) : Met l yX4_signs [.code yX4_signs cX4_signs 4 none] ({ frames := 2, cells := 0, slots := 0, locals := 61 }) (va_Pc [.ref (ad 0), .int (nI sh), .int (nI ar), .int g] (fun U => PM G ad σ U U.heap)) (oV A True (fun H9 => va_P G.1 vwCl (wM G ad (sgM σ (sh * 5 + ar) g)) H9)) 0 0 A := by
  refine k_of (by decide) (Nat.le_of_ble_eq_true rfl) (fun U h => h.2.2) ?_
  intro p e s m below meth c ls S hr hlocks hmn hB hl
  have hx := S.1
  have hb := S.2.1
  have hX : PM G ad σ s s.heap := hB
  have hS0 : va_S A s.heap s.heap [] := va_S.rf
  have hl : lv_has ls 4 [(0, .ref (ad 0)), (1, .int (nI sh)), (2, .int (nI ar)), (3, .int g)] := hl
  refine lv_aload_n hx hb dX4_signs_0 rfl (lv_at hl 0 rfl) ?_
  refine lv_dup hx hb dX4_signs_1 rfl ?_
  refine k_get S hX.2 hX.1 0 (C := RX4) (T := TX4) (N := 20) rfl rfl 16 (by decide) inX4 m_591 rfl dX4_signs_2 ?_
  refine lv_iconst (v := 1) hx hb dX4_signs_5 (by decide) ?_
  refine lv_iadd hx hb dX4_signs_6 ?_
  refine k_put S hX.2 hX.1 (hD.w (wM_fst _ _ _)) hS0 0 (C := RX4) (T := TX4) (N := 20) rfl rfl 16 (by decide) inX4 tyX4 tyX4_ok nmX4 rfl rfl m_591 (Nat.le_of_ble_eq_true rfl) dX4_signs_7 (fun H1 L1 h1 hS1 => ?_)
  have hX1 : PM G ad (su σ 19 0 ((σ 19 0) + 1)) s H1 := ⟨h1, hX.2⟩
  refine lv_aload_n hx hb dX4_signs_10 rfl (lv_at hl 0 rfl) ?_
  refine k_get S hX1.2 hX1.1 0 (C := RX4) (T := TX4) (N := 20) rfl rfl 14 (by decide) inX4 m_589 rfl dX4_signs_11 ?_
  refine lv_iload_n hx hb dX4_signs_14 rfl (lv_at hl 1 rfl) ?_
  refine lv_iload_n hx hb dX4_signs_15 rfl (lv_at hl 2 rfl) ?_
  refine q_i (r_S S ⟨m_686, m_687, m_40, m_688⟩ ⟨rfl, by decide, by decide, by decide +kernel⟩ (c4_at l sh ar) ⟨rfl, rfl, Nat.le_of_ble_eq_true rfl, Nat.le_of_ble_eq_true rfl⟩ (ps bl_GL (bG hX1.2.2)) (n := 2) (As := [.int (nI sh), .int (nI ar)]) (rest := [.ref (ad 12)]) rfl hl.1 rfl (Nat.le_of_ble_eq_true rfl) ⟨Nat.le_of_ble_eq_true rfl, Nat.le_of_ble_eq_true rfl⟩ dX4_signs_16) (fun r2 (e2 : r2 = nI (sh * 5 + ar)) => ?_)
  subst e2
  refine lv_aload_n hx hb dX4_signs_19 rfl (lv_at hl 0 rfl) ?_
  refine k_get S hX1.2 hX1.1 0 (C := RX4) (T := TX4) (N := 20) rfl rfl 16 (by decide) inX4 m_591 rfl dX4_signs_20 ?_
  refine k_eq (y := (σ 19 0) + 1) (by rfl) ?_
  refine k_ist S hX1.2 hX1.1 (hD.w (wM_fst _ _ _)) hS1 12 (i := (sh * 5 + ar)) rfl (by omega) (by decide) dX4_signs_23 (fun H3 L3 h3 hS3 => ?_)
  have hX3 : PM G ad (su (su σ 19 0 ((σ 19 0) + 1)) 14 (sh * 5 + ar) ((σ 19 0) + 1)) s H3 := ⟨h3, hX1.2⟩
  refine lv_aload_n hx hb dX4_signs_24 rfl (lv_at hl 0 rfl) ?_
  refine k_get S hX3.2 hX3.1 0 (C := RX4) (T := TX4) (N := 20) rfl rfl 15 (by decide) inX4 m_590 rfl dX4_signs_25 ?_
  refine lv_iload_n hx hb dX4_signs_28 rfl (lv_at hl 1 rfl) ?_
  refine lv_iload_n hx hb dX4_signs_29 rfl (lv_at hl 2 rfl) ?_
  refine q_i (r_S S ⟨m_686, m_687, m_40, m_688⟩ ⟨rfl, by decide, by decide, by decide +kernel⟩ (c4_at l sh ar) ⟨rfl, rfl, Nat.le_of_ble_eq_true rfl, Nat.le_of_ble_eq_true rfl⟩ (ps bl_GL (bG hX3.2.2)) (n := 2) (As := [.int (nI sh), .int (nI ar)]) (rest := [.ref (ad 13)]) rfl hl.1 rfl (Nat.le_of_ble_eq_true rfl) ⟨Nat.le_of_ble_eq_true rfl, Nat.le_of_ble_eq_true rfl⟩ dX4_signs_30) (fun r4 (e4 : r4 = nI (sh * 5 + ar)) => ?_)
  subst e4
  refine lv_iload_n hx hb dX4_signs_33 rfl (lv_at hl 3 rfl) ?_
  refine k_ist S hX3.2 hX3.1 (hD.w (wM_fst _ _ _)) hS3 13 (i := (sh * 5 + ar)) rfl (by omega) (by decide) dX4_signs_34 (fun H5 L5 h5 hS5 => ?_)
  have hX5 : PM G ad (su (su (su σ 19 0 ((σ 19 0) + 1)) 14 (sh * 5 + ar) ((σ 19 0) + 1)) 15 (sh * 5 + ar) g) s H5 := ⟨h5, hX3.2⟩
  exact W.vret hx hb hr (fun t ht hW => ⟨rfl, trivial, (by have e9 : sgM σ (sh * 5 + ar) g = su (su (su σ 19 0 ((σ 19 0) + 1)) 14 (sh * 5 + ar) ((σ 19 0) + 1)) 15 (sh * 5 + ar) g := (by first | rfl | simp [sgM]); show va_P G.1 vwCl (wM G ad (sgM σ (sh * 5 + ar) g)) t.heap; rw [e9, ht]; exact hX5.1), hS5.F ht⟩) hS5.2.2 dX4_signs_35

set_option maxHeartbeats 4000000 in
set_option maxRecDepth 100000 in
theorem c4_now (l : Launch) (G : kG) (ad : Nat → Nat) (σ : kS)   (A : Nat → Prop) (hD : DD 16 A ad) : Met l yX4_now [.code yX4_now cX4_now 1 (some .int)] ({ frames := 2, cells := 0, slots := 0, locals := 61 }) (va_Pc [.ref (ad 0)] (fun U => PM G ad σ U U.heap)) (oW A (fun r => r = σ 16 0) (fun H9 => va_P G.1 vwCl (wM G ad (su σ 23 0 0)) H9)) 0 0 A := by
  refine k_of (by decide) (Nat.le_of_ble_eq_true rfl) (fun U h => h.2.2) ?_
  intro p e s m below meth c ls S hr hlocks hmn hB hl
  have hx := S.1
  have hb := S.2.1
  have hX : PM G ad σ s s.heap := hB
  have hS0 : va_S A s.heap s.heap [] := va_S.rf
  have hl : lv_has ls 1 [(0, .ref (ad 0))] := hl
  refine lv_aload_n hx hb dX4_now_0 rfl (lv_at hl 0 rfl) ?_
  refine lv_aload_n hx hb dX4_now_1 rfl (lv_at hl 0 rfl) ?_
  refine k_get S hX.2 hX.1 0 (C := RX4) (T := TX4) (N := 20) rfl rfl 0 (by decide) inX4 m_575 rfl dX4_now_2 ?_
  refine q_w (r_V S ⟨m_734, m_736, m_32, m_40, m_737⟩ ⟨rfl, by decide, by decide, by decide +kernel⟩ (c4_told l G ad σ (σ 16 0) A hD) ⟨rfl, rfl, Nat.le_of_ble_eq_true rfl, Nat.le_of_ble_eq_true rfl⟩ (pv_M hX bl_PM (bM hX)) (n := 1) (As := [.int (σ 16 0)]) (rest := []) rfl hl.1 rfl (Nat.le_of_ble_eq_true rfl) ⟨Nat.le_of_ble_eq_true rfl, Nat.le_of_ble_eq_true rfl⟩ dX4_now_5) hS0 (fun _ h => h) (fun r1 H1 L1 (e1 : r1 = σ 16 0) h1 _ _ hS1 => ?_)
  subst e1
  have hX1 : PM G ad (su σ 23 0 0) s H1 := ⟨h1, hX.2⟩
  exact W.iret (v := σ 16 0) hx hb hr (fun t ht hW => ⟨⟨_, rfl, rfl⟩, (by have e9 : su σ 23 0 0 = su σ 23 0 0 := (by first | rfl | simp []); show va_P G.1 vwCl (wM G ad (su σ 23 0 0)) t.heap; rw [e9, ht]; exact hX1.1), hS1.F ht⟩) hS1.2.2 dX4_now_8

set_option maxHeartbeats 4000000 in
set_option maxRecDepth 100000 in
theorem c4_moves (l : Launch) (G : kG) (ad : Nat → Nat) (σ : kS)   (A : Nat → Prop) (hD : DD 16 A ad) : Met l yX4_moves [.code yX4_moves cX4_moves 1 (some .int)] ({ frames := 2, cells := 0, slots := 0, locals := 61 }) (va_Pc [.ref (ad 0)] (fun U => PM G ad σ U U.heap)) (oW A (fun r => r = σ 17 0) (fun H9 => va_P G.1 vwCl (wM G ad (su σ 23 0 0)) H9)) 0 0 A := by
  refine k_of (by decide) (Nat.le_of_ble_eq_true rfl) (fun U h => h.2.2) ?_
  intro p e s m below meth c ls S hr hlocks hmn hB hl
  have hx := S.1
  have hb := S.2.1
  have hX : PM G ad σ s s.heap := hB
  have hS0 : va_S A s.heap s.heap [] := va_S.rf
  have hl : lv_has ls 1 [(0, .ref (ad 0))] := hl
  refine lv_aload_n hx hb dX4_moves_0 rfl (lv_at hl 0 rfl) ?_
  refine lv_aload_n hx hb dX4_moves_1 rfl (lv_at hl 0 rfl) ?_
  refine k_get S hX.2 hX.1 0 (C := RX4) (T := TX4) (N := 20) rfl rfl 3 (by decide) inX4 m_578 rfl dX4_moves_2 ?_
  refine q_w (r_V S ⟨m_734, m_736, m_32, m_40, m_737⟩ ⟨rfl, by decide, by decide, by decide +kernel⟩ (c4_told l G ad σ (σ 17 0) A hD) ⟨rfl, rfl, Nat.le_of_ble_eq_true rfl, Nat.le_of_ble_eq_true rfl⟩ (pv_M hX bl_PM (bM hX)) (n := 1) (As := [.int (σ 17 0)]) (rest := []) rfl hl.1 rfl (Nat.le_of_ble_eq_true rfl) ⟨Nat.le_of_ble_eq_true rfl, Nat.le_of_ble_eq_true rfl⟩ dX4_moves_5) hS0 (fun _ h => h) (fun r1 H1 L1 (e1 : r1 = σ 17 0) h1 _ _ hS1 => ?_)
  subst e1
  have hX1 : PM G ad (su σ 23 0 0) s H1 := ⟨h1, hX.2⟩
  exact W.iret (v := σ 17 0) hx hb hr (fun t ht hW => ⟨⟨_, rfl, rfl⟩, (by have e9 : su σ 23 0 0 = su σ 23 0 0 := (by first | rfl | simp []); show va_P G.1 vwCl (wM G ad (su σ 23 0 0)) t.heap; rw [e9, ht]; exact hX1.1), hS1.F ht⟩) hS1.2.2 dX4_moves_8

set_option maxHeartbeats 4000000 in
set_option maxRecDepth 100000 in
theorem c4_sheets (l : Launch) (G : kG) (ad : Nat → Nat) (σ : kS)   (A : Nat → Prop) (hD : DD 16 A ad) : Met l yX4_sheets [.code yX4_sheets cX4_sheets 1 (some .int)] ({ frames := 2, cells := 0, slots := 0, locals := 61 }) (va_Pc [.ref (ad 0)] (fun U => PM G ad σ U U.heap)) (oW A (fun r => r = σ 18 0) (fun H9 => va_P G.1 vwCl (wM G ad (su σ 23 0 0)) H9)) 0 0 A := by
  refine k_of (by decide) (Nat.le_of_ble_eq_true rfl) (fun U h => h.2.2) ?_
  intro p e s m below meth c ls S hr hlocks hmn hB hl
  have hx := S.1
  have hb := S.2.1
  have hX : PM G ad σ s s.heap := hB
  have hS0 : va_S A s.heap s.heap [] := va_S.rf
  have hl : lv_has ls 1 [(0, .ref (ad 0))] := hl
  refine lv_aload_n hx hb dX4_sheets_0 rfl (lv_at hl 0 rfl) ?_
  refine lv_aload_n hx hb dX4_sheets_1 rfl (lv_at hl 0 rfl) ?_
  refine k_get S hX.2 hX.1 0 (C := RX4) (T := TX4) (N := 20) rfl rfl 9 (by decide) inX4 m_584 rfl dX4_sheets_2 ?_
  refine q_w (r_V S ⟨m_734, m_736, m_32, m_40, m_737⟩ ⟨rfl, by decide, by decide, by decide +kernel⟩ (c4_told l G ad σ (σ 18 0) A hD) ⟨rfl, rfl, Nat.le_of_ble_eq_true rfl, Nat.le_of_ble_eq_true rfl⟩ (pv_M hX bl_PM (bM hX)) (n := 1) (As := [.int (σ 18 0)]) (rest := []) rfl hl.1 rfl (Nat.le_of_ble_eq_true rfl) ⟨Nat.le_of_ble_eq_true rfl, Nat.le_of_ble_eq_true rfl⟩ dX4_sheets_5) hS0 (fun _ h => h) (fun r1 H1 L1 (e1 : r1 = σ 18 0) h1 _ _ hS1 => ?_)
  subst e1
  have hX1 : PM G ad (su σ 23 0 0) s H1 := ⟨h1, hX.2⟩
  exact W.iret (v := σ 18 0) hx hb hr (fun t ht hW => ⟨⟨_, rfl, rfl⟩, (by have e9 : su σ 23 0 0 = su σ 23 0 0 := (by first | rfl | simp []); show va_P G.1 vwCl (wM G ad (su σ 23 0 0)) t.heap; rw [e9, ht]; exact hX1.1), hS1.F ht⟩) hS1.2.2 dX4_sheets_8

set_option maxHeartbeats 4000000 in
set_option maxRecDepth 100000 in
theorem c4_setPrice (l : Launch) (G : kG) (ad : Nat → Nat) (σ : kS) (nm ns : Nat) (za0 zb0 : Int32) (hns : σ 18 0 = nI ns) (hns4 : ns ≤ 40) (hnm : σ 17 0 = nI nm) (hnm2 : nm ≤ 200)  (A : Nat → Prop) (hD : DD 16 A ad) : Met l yX4_setPrice [.code yX4_setPrice cX4_setPrice 4 (some .int)] ({ frames := 3, cells := 0, slots := 0, locals := 82 }) (va_Pc [.ref (ad 0), .int za0, .int zb0] (fun U => PM G ad σ U U.heap)) (oW A (fun r => r = vM (ckR za0 0 4, ckR zb0 0 1000, true) (σ 0 (ixN za0))) (fun H9 => va_P G.1 vwCl (wM G ad (sM (ckR za0 0 4, ckR zb0 0 1000, true) σ (fun μ => su μ 0 (ixN za0) zb0))) H9)) 0 0 A := by
  refine k_of (by decide) (Nat.le_of_ble_eq_true rfl) (fun U h => h.2.2) ?_
  intro p e s m below meth c ls S hr hlocks hmn hB hl
  have hx := S.1
  have hb := S.2.1
  have hX : PM G ad σ s s.heap := hB
  have hS0 : va_S A s.heap s.heap [] := va_S.rf
  have hl : lv_has ls 4 [(0, .ref (ad 0)), (1, .int za0), (2, .int zb0)] := hl
  refine lv_aload_n hx hb dX4_setPrice_0 rfl (lv_at hl 0 rfl) ?_
  refine lv_iload_n hx hb dX4_setPrice_1 rfl (lv_at hl 1 rfl) ?_
  refine q_i (r_S S ⟨m_644, m_645, m_40, m_646⟩ ⟨rfl, by decide, by decide, by decide +kernel⟩ (c4_isArticle l za0) ⟨rfl, rfl, Nat.le_of_ble_eq_true rfl, Nat.le_of_ble_eq_true rfl⟩ (ps bl_GL (bG hX.2.2)) (n := 1) (As := [.int za0]) (rest := [.ref (ad 0)]) rfl hl.1 rfl (Nat.le_of_ble_eq_true rfl) ⟨Nat.le_of_ble_eq_true rfl, Nat.le_of_ble_eq_true rfl⟩ dX4_setPrice_2) (fun r1 (e1 : r1 = bI (ckR za0 0 4)) => ?_)
  subst e1
  refine lv_iload_n hx hb dX4_setPrice_5 rfl (lv_at hl 2 rfl) ?_
  refine lv_iconst (v := 0) hx hb dX4_setPrice_6 (by decide) ?_
  refine lv_sipush (v := 1000) hx hb dX4_setPrice_7 (by decide) ?_
  refine q_i (r_S S ⟨m_647, m_648, m_40, m_649⟩ ⟨rfl, by decide, by decide, by decide +kernel⟩ (c4_in l zb0 0 1000) ⟨rfl, rfl, Nat.le_of_ble_eq_true rfl, Nat.le_of_ble_eq_true rfl⟩ (ps bl_GL (bG hX.2.2)) (n := 3) (As := [.int zb0, .int 0, .int 1000]) (rest := [.int (bI (ckR za0 0 4)), .ref (ad 0)]) rfl hl.1 rfl (Nat.le_of_ble_eq_true rfl) ⟨Nat.le_of_ble_eq_true rfl, Nat.le_of_ble_eq_true rfl⟩ dX4_setPrice_10) (fun r2 (e2 : r2 = bI (ckR zb0 0 1000)) => ?_)
  subst e2
  refine lv_iconst (v := 1) hx hb dX4_setPrice_13 (by decide) ?_
  refine q_w (r_V S ⟨m_650, m_652, m_22, m_40, m_653⟩ ⟨rfl, by decide, by decide, by decide +kernel⟩ (c4_goes l G ad σ (ckR za0 0 4) (ckR zb0 0 1000) true A hD) ⟨rfl, rfl, Nat.le_of_ble_eq_true rfl, Nat.le_of_ble_eq_true rfl⟩ (pv_M hX bl_PM (bM hX)) (n := 3) (As := [.int (bI (ckR za0 0 4)), .int (bI (ckR zb0 0 1000)), .int (bI true)]) (rest := []) rfl hl.1 rfl (Nat.le_of_ble_eq_true rfl) ⟨Nat.le_of_ble_eq_true rfl, Nat.le_of_ble_eq_true rfl⟩ dX4_setPrice_14) hS0 (fun _ h => h) (fun r3 H3 L3 (e3 : r3 = bI (go3 ((ckR za0 0 4), (ckR zb0 0 1000), true))) h3 _ _ hS3 => ?_)
  subst e3
  have hX3 : PM G ad (su σ 23 0 (goV ((ckR za0 0 4), (ckR zb0 0 1000), true))) s H3 := ⟨h3, hX.2⟩
  refine lv_if_ne (tgt := 22) hx hb dX4_setPrice_17 (by decide) (fun c17_4 => ?_) (fun c17_4 => ?_)
  · have bc17_4 := bI_n c17_4
    have hX5 : PM G ad (su σ 23 0 0) s H3 := by
      have h8 := hX3
      rw [goV_0 bc17_4] at h8
      exact h8
    obtain ⟨q1, q2, q3⟩ := go3_t bc17_4
    obtain ⟨ar, har, rfl⟩ := ckR_lit (n := 4) q1 (by decide)
    have h31ar : ar < 2 ^ 31 := by omega
    refine lv_aload_n hx hb dX4_setPrice_22 rfl (lv_at hl 0 rfl) ?_
    refine k_get S hX5.2 hX5.1 0 (C := RX4) (T := TX4) (N := 20) rfl rfl 1 (by decide) inX4 m_576 rfl dX4_setPrice_23 ?_
    refine lv_iload_n hx hb dX4_setPrice_26 rfl (lv_at hl 1 rfl) ?_
    refine k_ild S hX5.2 hX5.1 1 (i := ar) rfl (by omega) (by decide) dX4_setPrice_27 ?_
    refine k_eq (y := σ 0 ar) (by rfl) ?_
    refine lv_istore_n (lv' := [(3, .int (σ 0 ar)), (0, .ref (ad 0)), (1, .int (nI ar)), (2, .int zb0)]) hx hb dX4_setPrice_28 rfl hl (by decide) rfl (fun ls hl => ?_)
    refine lv_aload_n hx hb dX4_setPrice_29 rfl (lv_at hl 1 rfl) ?_
    refine k_get S hX5.2 hX5.1 0 (C := RX4) (T := TX4) (N := 20) rfl rfl 1 (by decide) inX4 m_576 rfl dX4_setPrice_30 ?_
    refine lv_iload_n hx hb dX4_setPrice_33 rfl (lv_at hl 2 rfl) ?_
    refine lv_iload_n hx hb dX4_setPrice_34 rfl (lv_at hl 3 rfl) ?_
    refine k_ist S hX5.2 hX5.1 (hD.w (wM_fst _ _ _)) hS3 1 (i := ar) rfl (by omega) (by decide) dX4_setPrice_35 (fun H6 L6 h6 hS6 => ?_)
    have hX6 : PM G ad (su (su σ 23 0 0) 0 ar zb0) s H6 := ⟨h6, hX5.2⟩
    refine lv_iload_n hx hb dX4_setPrice_36 rfl (lv_at hl 0 rfl) ?_
    exact W.iret (v := σ 0 ar) hx hb hr (fun t ht hW => ⟨⟨_, rfl, (by rw [vM_t bc17_4]; try (first | rfl | simp [ixN_nI h31ar]))⟩, (by have e9 : sM (ckR (nI ar) 0 4, ckR zb0 0 1000, true) σ (fun μ => su μ 0 (ixN (nI ar)) zb0) = su (su σ 23 0 0) 0 ar zb0 := (by rw [sM_t bc17_4]; try (first | rfl | simp [ixN_nI h31ar])); show va_P G.1 vwCl (wM G ad (sM (ckR (nI ar) 0 4, ckR zb0 0 1000, true) σ (fun μ => su μ 0 (ixN (nI ar)) zb0))) t.heap; rw [e9, ht]; exact hX6.1), hS6.F ht⟩) hS6.2.2 dX4_setPrice_37
  · have bc17_4 := bI_0 c17_4
    refine lv_iconst (v := 0) hx hb dX4_setPrice_20 (by decide) ?_
    exact W.iret (v := 0) hx hb hr (fun t ht hW => ⟨⟨_, rfl, (by rw [vM_f bc17_4])⟩, (by have e9 : sM (ckR za0 0 4, ckR zb0 0 1000, true) σ (fun μ => su μ 0 (ixN za0) zb0) = su σ 23 0 (goV ((ckR za0 0 4), (ckR zb0 0 1000), true)) := (by rw [sM_f bc17_4]); show va_P G.1 vwCl (wM G ad (sM (ckR za0 0 4, ckR zb0 0 1000, true) σ (fun μ => su μ 0 (ixN za0) zb0))) t.heap; rw [e9, ht]; exact hX3.1), hS3.F ht⟩) hS3.2.2 dX4_setPrice_21

set_option maxHeartbeats 4000000 in
set_option maxRecDepth 100000 in
theorem c4_setBound (l : Launch) (G : kG) (ad : Nat → Nat) (σ : kS) (nm ns : Nat) (za0 zb0 : Int32) (hns : σ 18 0 = nI ns) (hns4 : ns ≤ 40) (hnm : σ 17 0 = nI nm) (hnm2 : nm ≤ 200)  (A : Nat → Prop) (hD : DD 16 A ad) : Met l yX4_setBound [.code yX4_setBound cX4_setBound 4 (some .int)] ({ frames := 2, cells := 0, slots := 0, locals := 63 }) (va_Pc [.ref (ad 0), .int za0, .int zb0] (fun U => PM G ad σ U U.heap)) (oW A (fun r => r = vM (ckR za0 0 5, ckR zb0 0 1000000, true) (σ 1 (ixN za0))) (fun H9 => va_P G.1 vwCl (wM G ad (sM (ckR za0 0 5, ckR zb0 0 1000000, true) σ (fun μ => su μ 1 (ixN za0) zb0))) H9)) 0 0 A := by
  refine k_of (by decide) (Nat.le_of_ble_eq_true rfl) (fun U h => h.2.2) ?_
  intro p e s m below meth c ls S hr hlocks hmn hB hl
  have hx := S.1
  have hb := S.2.1
  have hX : PM G ad σ s s.heap := hB
  have hS0 : va_S A s.heap s.heap [] := va_S.rf
  have hl : lv_has ls 4 [(0, .ref (ad 0)), (1, .int za0), (2, .int zb0)] := hl
  refine lv_aload_n hx hb dX4_setBound_0 rfl (lv_at hl 0 rfl) ?_
  refine lv_iload_n hx hb dX4_setBound_1 rfl (lv_at hl 1 rfl) ?_
  refine lv_iconst (v := 0) hx hb dX4_setBound_2 (by decide) ?_
  refine lv_iconst (v := 5) hx hb dX4_setBound_3 (by decide) ?_
  refine q_i (r_S S ⟨m_647, m_648, m_40, m_649⟩ ⟨rfl, by decide, by decide, by decide +kernel⟩ (c4_in l za0 0 5) ⟨rfl, rfl, Nat.le_of_ble_eq_true rfl, Nat.le_of_ble_eq_true rfl⟩ (ps bl_GL (bG hX.2.2)) (n := 3) (As := [.int za0, .int 0, .int 5]) (rest := [.ref (ad 0)]) rfl hl.1 rfl (Nat.le_of_ble_eq_true rfl) ⟨Nat.le_of_ble_eq_true rfl, Nat.le_of_ble_eq_true rfl⟩ dX4_setBound_4) (fun r1 (e1 : r1 = bI (ckR za0 0 5)) => ?_)
  subst e1
  refine lv_iload_n hx hb dX4_setBound_7 rfl (lv_at hl 2 rfl) ?_
  refine lv_iconst (v := 0) hx hb dX4_setBound_8 (by decide) ?_
  refine lv_ldc (v := 1000000) hx hb S.2.2.2.1 (S.2.2.2.2 _ m_658) dX4_setBound_9 ?_
  refine q_i (r_S S ⟨m_647, m_648, m_40, m_649⟩ ⟨rfl, by decide, by decide, by decide +kernel⟩ (c4_in l zb0 0 1000000) ⟨rfl, rfl, Nat.le_of_ble_eq_true rfl, Nat.le_of_ble_eq_true rfl⟩ (ps bl_GL (bG hX.2.2)) (n := 3) (As := [.int zb0, .int 0, .int 1000000]) (rest := [.int (bI (ckR za0 0 5)), .ref (ad 0)]) rfl hl.1 rfl (Nat.le_of_ble_eq_true rfl) ⟨Nat.le_of_ble_eq_true rfl, Nat.le_of_ble_eq_true rfl⟩ dX4_setBound_11) (fun r2 (e2 : r2 = bI (ckR zb0 0 1000000)) => ?_)
  subst e2
  refine lv_iconst (v := 1) hx hb dX4_setBound_14 (by decide) ?_
  refine q_w (r_V S ⟨m_650, m_652, m_22, m_40, m_653⟩ ⟨rfl, by decide, by decide, by decide +kernel⟩ (c4_goes l G ad σ (ckR za0 0 5) (ckR zb0 0 1000000) true A hD) ⟨rfl, rfl, Nat.le_of_ble_eq_true rfl, Nat.le_of_ble_eq_true rfl⟩ (pv_M hX bl_PM (bM hX)) (n := 3) (As := [.int (bI (ckR za0 0 5)), .int (bI (ckR zb0 0 1000000)), .int (bI true)]) (rest := []) rfl hl.1 rfl (Nat.le_of_ble_eq_true rfl) ⟨Nat.le_of_ble_eq_true rfl, Nat.le_of_ble_eq_true rfl⟩ dX4_setBound_15) hS0 (fun _ h => h) (fun r3 H3 L3 (e3 : r3 = bI (go3 ((ckR za0 0 5), (ckR zb0 0 1000000), true))) h3 _ _ hS3 => ?_)
  subst e3
  have hX3 : PM G ad (su σ 23 0 (goV ((ckR za0 0 5), (ckR zb0 0 1000000), true))) s H3 := ⟨h3, hX.2⟩
  refine lv_if_ne (tgt := 23) hx hb dX4_setBound_18 (by decide) (fun c18_4 => ?_) (fun c18_4 => ?_)
  · have bc18_4 := bI_n c18_4
    have hX5 : PM G ad (su σ 23 0 0) s H3 := by
      have h8 := hX3
      rw [goV_0 bc18_4] at h8
      exact h8
    obtain ⟨q1, q2, q3⟩ := go3_t bc18_4
    obtain ⟨pe, hpe, rfl⟩ := ckR_lit (n := 5) q1 (by decide)
    have h31pe : pe < 2 ^ 31 := by omega
    refine lv_aload_n hx hb dX4_setBound_23 rfl (lv_at hl 0 rfl) ?_
    refine k_get S hX5.2 hX5.1 0 (C := RX4) (T := TX4) (N := 20) rfl rfl 2 (by decide) inX4 m_577 rfl dX4_setBound_24 ?_
    refine lv_iload_n hx hb dX4_setBound_27 rfl (lv_at hl 1 rfl) ?_
    refine k_ild S hX5.2 hX5.1 2 (i := pe) rfl (by omega) (by decide) dX4_setBound_28 ?_
    refine k_eq (y := σ 1 pe) (by rfl) ?_
    refine lv_istore_n (lv' := [(3, .int (σ 1 pe)), (0, .ref (ad 0)), (1, .int (nI pe)), (2, .int zb0)]) hx hb dX4_setBound_29 rfl hl (by decide) rfl (fun ls hl => ?_)
    refine lv_aload_n hx hb dX4_setBound_30 rfl (lv_at hl 1 rfl) ?_
    refine k_get S hX5.2 hX5.1 0 (C := RX4) (T := TX4) (N := 20) rfl rfl 2 (by decide) inX4 m_577 rfl dX4_setBound_31 ?_
    refine lv_iload_n hx hb dX4_setBound_34 rfl (lv_at hl 2 rfl) ?_
    refine lv_iload_n hx hb dX4_setBound_35 rfl (lv_at hl 3 rfl) ?_
    refine k_ist S hX5.2 hX5.1 (hD.w (wM_fst _ _ _)) hS3 2 (i := pe) rfl (by omega) (by decide) dX4_setBound_36 (fun H6 L6 h6 hS6 => ?_)
    have hX6 : PM G ad (su (su σ 23 0 0) 1 pe zb0) s H6 := ⟨h6, hX5.2⟩
    refine lv_iload_n hx hb dX4_setBound_37 rfl (lv_at hl 0 rfl) ?_
    exact W.iret (v := σ 1 pe) hx hb hr (fun t ht hW => ⟨⟨_, rfl, (by rw [vM_t bc18_4]; try (first | rfl | simp [ixN_nI h31pe]))⟩, (by have e9 : sM (ckR (nI pe) 0 5, ckR zb0 0 1000000, true) σ (fun μ => su μ 1 (ixN (nI pe)) zb0) = su (su σ 23 0 0) 1 pe zb0 := (by rw [sM_t bc18_4]; try (first | rfl | simp [ixN_nI h31pe])); show va_P G.1 vwCl (wM G ad (sM (ckR (nI pe) 0 5, ckR zb0 0 1000000, true) σ (fun μ => su μ 1 (ixN (nI pe)) zb0))) t.heap; rw [e9, ht]; exact hX6.1), hS6.F ht⟩) hS6.2.2 dX4_setBound_38
  · have bc18_4 := bI_0 c18_4
    refine lv_iconst (v := 0) hx hb dX4_setBound_21 (by decide) ?_
    exact W.iret (v := 0) hx hb hr (fun t ht hW => ⟨⟨_, rfl, (by rw [vM_f bc18_4])⟩, (by have e9 : sM (ckR za0 0 5, ckR zb0 0 1000000, true) σ (fun μ => su μ 1 (ixN za0) zb0) = su σ 23 0 (goV ((ckR za0 0 5), (ckR zb0 0 1000000), true)) := (by rw [sM_f bc18_4]); show va_P G.1 vwCl (wM G ad (sM (ckR za0 0 5, ckR zb0 0 1000000, true) σ (fun μ => su μ 1 (ixN za0) zb0))) t.heap; rw [e9, ht]; exact hX3.1), hS3.F ht⟩) hS3.2.2 dX4_setBound_22

set_option maxHeartbeats 4000000 in
set_option maxRecDepth 100000 in
theorem c4_move (l : Launch) (G : kG) (ad : Nat → Nat) (σ : kS) (nm ns : Nat) (za0 zb0 zc0 zd0 ze0 : Int32) (hns : σ 18 0 = nI ns) (hns4 : ns ≤ 40) (hnm : σ 17 0 = nI nm) (hnm2 : nm ≤ 200)  (A : Nat → Prop) (hD : DD 16 A ad) : Met l yX4_move [.code yX4_move cX4_move 7 (some .int)] ({ frames := 3, cells := 0, slots := 0, locals := 82 }) (va_Pc [.ref (ad 0), .int za0, .int zb0, .int zc0, .int zd0, .int ze0] (fun U => PM G ad σ U U.heap)) (oW A (fun r => r = vM (ckR za0 (-1) 11 && ckR zb0 (-1) 11 && ckR zc0 0 4, !decide (za0 = zb0) && ckR zd0 1 1000 && ckR ze0 0 (σ 16 0), decide (σ 17 0 < 200)) (nI nm)) (fun H9 => va_P G.1 vwCl (wM G ad (sM (ckR za0 (-1) 11 && ckR zb0 (-1) 11 && ckR zc0 0 4, !decide (za0 = zb0) && ckR zd0 1 1000 && ckR ze0 0 (σ 16 0), decide (σ 17 0 < 200)) σ (fun μ => mvM μ nm za0 zb0 zc0 zd0 ze0))) H9)) 0 0 A := by
  refine k_of (by decide) (Nat.le_of_ble_eq_true rfl) (fun U h => h.2.2) ?_
  intro p e s m below meth c ls S hr hlocks hmn hB hl
  have hx := S.1
  have hb := S.2.1
  have hX : PM G ad σ s s.heap := hB
  have hS0 : va_S A s.heap s.heap [] := va_S.rf
  have hl : lv_has ls 7 [(0, .ref (ad 0)), (1, .int za0), (2, .int zb0), (3, .int zc0), (4, .int zd0), (5, .int ze0)] := hl
  have J32 : ∀ ls, lv_has ls 7 [(0, .ref (ad 0)), (1, .int za0), (2, .int zb0), (3, .int zc0), (4, .int zd0), (5, .int ze0)] → W p l e ({ frames := 3, cells := 0, slots := 0, locals := 82 } : Room) s m [.ref (ad 0), .int za0, .int zb0, .int zc0, .int zd0, .int ze0].toArray below meth c s.heap [] 0 0 (MQ below (oW A (fun r => r = vM (ckR za0 (-1) 11 && ckR zb0 (-1) 11 && ckR zc0 0 4, !decide (za0 = zb0) && ckR zd0 1 1000 && ckR ze0 0 (σ 16 0), decide (σ 17 0 < 200)) (nI nm)) (fun H9 => va_P G.1 vwCl (wM G ad (sM (ckR za0 (-1) 11 && ckR zb0 (-1) 11 && ckR zc0 0 4, !decide (za0 = zb0) && ckR zd0 1 1000 && ckR ze0 0 (σ 16 0), decide (σ 17 0 < 200)) σ (fun μ => mvM μ nm za0 zb0 zc0 zd0 ze0))) H9)) [.ref (ad 0), .int za0, .int zb0, .int zc0, .int zd0, .int ze0].toArray s 0 0 A) (F0 m 32 ls [.int (bI (ckR za0 (-1) 11 && ckR zb0 (-1) 11 && ckR zc0 0 4))]) := by
    intro ls hl
    refine lv_istore (lv' := [(6, .int (bI (ckR za0 (-1) 11 && ckR zb0 (-1) 11 && ckR zc0 0 4))), (0, .ref (ad 0)), (1, .int za0), (2, .int zb0), (3, .int zc0), (4, .int zd0), (5, .int ze0)]) hx hb dX4_move_32 hl (by decide) rfl (fun ls hl => ?_)
    refine lv_aload_n hx hb dX4_move_34 rfl (lv_at hl 1 rfl) ?_
    refine lv_iload hx hb dX4_move_35 (lv_at hl 0 rfl) ?_
    have J72 : ∀ ls, lv_has ls 7 [(6, .int (bI (ckR za0 (-1) 11 && ckR zb0 (-1) 11 && ckR zc0 0 4))), (0, .ref (ad 0)), (1, .int za0), (2, .int zb0), (3, .int zc0), (4, .int zd0), (5, .int ze0)] → W p l e ({ frames := 3, cells := 0, slots := 0, locals := 82 } : Room) s m [.ref (ad 0), .int za0, .int zb0, .int zc0, .int zd0, .int ze0].toArray below meth c s.heap [] 0 0 (MQ below (oW A (fun r => r = vM (ckR za0 (-1) 11 && ckR zb0 (-1) 11 && ckR zc0 0 4, !decide (za0 = zb0) && ckR zd0 1 1000 && ckR ze0 0 (σ 16 0), decide (σ 17 0 < 200)) (nI nm)) (fun H9 => va_P G.1 vwCl (wM G ad (sM (ckR za0 (-1) 11 && ckR zb0 (-1) 11 && ckR zc0 0 4, !decide (za0 = zb0) && ckR zd0 1 1000 && ckR ze0 0 (σ 16 0), decide (σ 17 0 < 200)) σ (fun μ => mvM μ nm za0 zb0 zc0 zd0 ze0))) H9)) [.ref (ad 0), .int za0, .int zb0, .int zc0, .int zd0, .int ze0].toArray s 0 0 A) (F0 m 72 ls [.int (bI (!decide (za0 = zb0) && ckR zd0 1 1000 && ckR ze0 0 (σ 16 0))), .int (bI (ckR za0 (-1) 11 && ckR zb0 (-1) 11 && ckR zc0 0 4)), .ref (ad 0)]) := by
      intro ls hl
      have J87 : ∀ ls, lv_has ls 7 [(6, .int (bI (ckR za0 (-1) 11 && ckR zb0 (-1) 11 && ckR zc0 0 4))), (0, .ref (ad 0)), (1, .int za0), (2, .int zb0), (3, .int zc0), (4, .int zd0), (5, .int ze0)] → W p l e ({ frames := 3, cells := 0, slots := 0, locals := 82 } : Room) s m [.ref (ad 0), .int za0, .int zb0, .int zc0, .int zd0, .int ze0].toArray below meth c s.heap [] 0 0 (MQ below (oW A (fun r => r = vM (ckR za0 (-1) 11 && ckR zb0 (-1) 11 && ckR zc0 0 4, !decide (za0 = zb0) && ckR zd0 1 1000 && ckR ze0 0 (σ 16 0), decide (σ 17 0 < 200)) (nI nm)) (fun H9 => va_P G.1 vwCl (wM G ad (sM (ckR za0 (-1) 11 && ckR zb0 (-1) 11 && ckR zc0 0 4, !decide (za0 = zb0) && ckR zd0 1 1000 && ckR ze0 0 (σ 16 0), decide (σ 17 0 < 200)) σ (fun μ => mvM μ nm za0 zb0 zc0 zd0 ze0))) H9)) [.ref (ad 0), .int za0, .int zb0, .int zc0, .int zd0, .int ze0].toArray s 0 0 A) (F0 m 87 ls [.int (bI (decide (σ 17 0 < 200))), .int (bI (!decide (za0 = zb0) && ckR zd0 1 1000 && ckR ze0 0 (σ 16 0))), .int (bI (ckR za0 (-1) 11 && ckR zb0 (-1) 11 && ckR zc0 0 4)), .ref (ad 0)]) := by
        intro ls hl
        refine q_w (r_V S ⟨m_650, m_652, m_22, m_40, m_653⟩ ⟨rfl, by decide, by decide, by decide +kernel⟩ (c4_goes l G ad σ (ckR za0 (-1) 11 && ckR zb0 (-1) 11 && ckR zc0 0 4) (!decide (za0 = zb0) && ckR zd0 1 1000 && ckR ze0 0 (σ 16 0)) (decide (σ 17 0 < 200)) A hD) ⟨rfl, rfl, Nat.le_of_ble_eq_true rfl, Nat.le_of_ble_eq_true rfl⟩ (pv_M hX bl_PM (bM hX)) (n := 3) (As := [.int (bI (ckR za0 (-1) 11 && ckR zb0 (-1) 11 && ckR zc0 0 4)), .int (bI (!decide (za0 = zb0) && ckR zd0 1 1000 && ckR ze0 0 (σ 16 0))), .int (bI (decide (σ 17 0 < 200)))]) (rest := []) rfl hl.1 rfl (Nat.le_of_ble_eq_true rfl) ⟨Nat.le_of_ble_eq_true rfl, Nat.le_of_ble_eq_true rfl⟩ dX4_move_87) hS0 (fun _ h => h) (fun r1 H1 L1 (e1 : r1 = bI (go3 ((ckR za0 (-1) 11 && ckR zb0 (-1) 11 && ckR zc0 0 4), (!decide (za0 = zb0) && ckR zd0 1 1000 && ckR ze0 0 (σ 16 0)), (decide (σ 17 0 < 200))))) h1 _ _ hS1 => ?_)
        subst e1
        have hX1 : PM G ad (su σ 23 0 (goV ((ckR za0 (-1) 11 && ckR zb0 (-1) 11 && ckR zc0 0 4), (!decide (za0 = zb0) && ckR zd0 1 1000 && ckR ze0 0 (σ 16 0)), (decide (σ 17 0 < 200))))) s H1 := ⟨h1, hX.2⟩
        refine lv_if_ne (tgt := 95) hx hb dX4_move_90 (by decide) (fun c90_2 => ?_) (fun c90_2 => ?_)
        · have bc90_2 := bI_n c90_2
          have hX3 : PM G ad (su σ 23 0 0) s H1 := by
            have h8 := hX1
            rw [goV_0 bc90_2] at h8
            exact h8
          obtain ⟨q1, q2, q3⟩ := go3_t bc90_2
          have hnm3 : nm < 200 := by
            have h9 := of_decide_eq_true q3
            rw [hnm, show (200 : Int32) = nI 200 from rfl, nI_ltI (by omega) (by omega)] at h9
            exact h9
          refine lv_aload_n hx hb dX4_move_95 rfl (lv_at hl 1 rfl) ?_
          refine k_get S hX3.2 hX3.1 0 (C := RX4) (T := TX4) (N := 20) rfl rfl 4 (by decide) inX4 m_579 rfl dX4_move_96 ?_
          refine lv_aload_n hx hb dX4_move_99 rfl (lv_at hl 1 rfl) ?_
          refine k_get S hX3.2 hX3.1 0 (C := RX4) (T := TX4) (N := 20) rfl rfl 3 (by decide) inX4 m_578 rfl dX4_move_100 ?_
          refine k_eq (y := σ 17 0) (by rfl) ?_
          refine k_eq (y := nI nm) (hnm) ?_
          refine lv_iload_n hx hb dX4_move_103 rfl (lv_at hl 2 rfl) ?_
          refine k_ist S hX3.2 hX3.1 (hD.w (wM_fst _ _ _)) hS1 3 (i := nm) rfl (by omega) (by decide) dX4_move_104 (fun H4 L4 h4 hS4 => ?_)
          have hX4 : PM G ad (su (su σ 23 0 0) 2 nm za0) s H4 := ⟨h4, hX3.2⟩
          refine lv_aload_n hx hb dX4_move_105 rfl (lv_at hl 1 rfl) ?_
          refine k_get S hX4.2 hX4.1 0 (C := RX4) (T := TX4) (N := 20) rfl rfl 5 (by decide) inX4 m_580 rfl dX4_move_106 ?_
          refine lv_aload_n hx hb dX4_move_109 rfl (lv_at hl 1 rfl) ?_
          refine k_get S hX4.2 hX4.1 0 (C := RX4) (T := TX4) (N := 20) rfl rfl 3 (by decide) inX4 m_578 rfl dX4_move_110 ?_
          refine k_eq (y := σ 17 0) (by rfl) ?_
          refine k_eq (y := nI nm) (hnm) ?_
          refine lv_iload_n hx hb dX4_move_113 rfl (lv_at hl 3 rfl) ?_
          refine k_ist S hX4.2 hX4.1 (hD.w (wM_fst _ _ _)) hS4 4 (i := nm) rfl (by omega) (by decide) dX4_move_114 (fun H5 L5 h5 hS5 => ?_)
          have hX5 : PM G ad (su (su (su σ 23 0 0) 2 nm za0) 3 nm zb0) s H5 := ⟨h5, hX4.2⟩
          refine lv_aload_n hx hb dX4_move_115 rfl (lv_at hl 1 rfl) ?_
          refine k_get S hX5.2 hX5.1 0 (C := RX4) (T := TX4) (N := 20) rfl rfl 6 (by decide) inX4 m_581 rfl dX4_move_116 ?_
          refine lv_aload_n hx hb dX4_move_119 rfl (lv_at hl 1 rfl) ?_
          refine k_get S hX5.2 hX5.1 0 (C := RX4) (T := TX4) (N := 20) rfl rfl 3 (by decide) inX4 m_578 rfl dX4_move_120 ?_
          refine k_eq (y := σ 17 0) (by rfl) ?_
          refine k_eq (y := nI nm) (hnm) ?_
          refine lv_iload_n hx hb dX4_move_123 rfl (lv_at hl 4 rfl) ?_
          refine k_ist S hX5.2 hX5.1 (hD.w (wM_fst _ _ _)) hS5 5 (i := nm) rfl (by omega) (by decide) dX4_move_124 (fun H6 L6 h6 hS6 => ?_)
          have hX6 : PM G ad (su (su (su (su σ 23 0 0) 2 nm za0) 3 nm zb0) 4 nm zc0) s H6 := ⟨h6, hX5.2⟩
          refine lv_aload_n hx hb dX4_move_125 rfl (lv_at hl 1 rfl) ?_
          refine k_get S hX6.2 hX6.1 0 (C := RX4) (T := TX4) (N := 20) rfl rfl 7 (by decide) inX4 m_582 rfl dX4_move_126 ?_
          refine lv_aload_n hx hb dX4_move_129 rfl (lv_at hl 1 rfl) ?_
          refine k_get S hX6.2 hX6.1 0 (C := RX4) (T := TX4) (N := 20) rfl rfl 3 (by decide) inX4 m_578 rfl dX4_move_130 ?_
          refine k_eq (y := σ 17 0) (by rfl) ?_
          refine k_eq (y := nI nm) (hnm) ?_
          refine lv_iload hx hb dX4_move_133 (lv_at hl 5 rfl) ?_
          refine k_ist S hX6.2 hX6.1 (hD.w (wM_fst _ _ _)) hS6 6 (i := nm) rfl (by omega) (by decide) dX4_move_135 (fun H7 L7 h7 hS7 => ?_)
          have hX7 : PM G ad (su (su (su (su (su σ 23 0 0) 2 nm za0) 3 nm zb0) 4 nm zc0) 5 nm zd0) s H7 := ⟨h7, hX6.2⟩
          refine lv_aload_n hx hb dX4_move_136 rfl (lv_at hl 1 rfl) ?_
          refine k_get S hX7.2 hX7.1 0 (C := RX4) (T := TX4) (N := 20) rfl rfl 8 (by decide) inX4 m_583 rfl dX4_move_137 ?_
          refine lv_aload_n hx hb dX4_move_140 rfl (lv_at hl 1 rfl) ?_
          refine k_get S hX7.2 hX7.1 0 (C := RX4) (T := TX4) (N := 20) rfl rfl 3 (by decide) inX4 m_578 rfl dX4_move_141 ?_
          refine k_eq (y := σ 17 0) (by rfl) ?_
          refine k_eq (y := nI nm) (hnm) ?_
          refine lv_iload hx hb dX4_move_144 (lv_at hl 6 rfl) ?_
          refine k_ist S hX7.2 hX7.1 (hD.w (wM_fst _ _ _)) hS7 7 (i := nm) rfl (by omega) (by decide) dX4_move_146 (fun H8 L8 h8 hS8 => ?_)
          have hX8 : PM G ad (su (su (su (su (su (su σ 23 0 0) 2 nm za0) 3 nm zb0) 4 nm zc0) 5 nm zd0) 6 nm ze0) s H8 := ⟨h8, hX7.2⟩
          refine lv_aload_n hx hb dX4_move_147 rfl (lv_at hl 1 rfl) ?_
          refine lv_dup hx hb dX4_move_148 rfl ?_
          refine k_get S hX8.2 hX8.1 0 (C := RX4) (T := TX4) (N := 20) rfl rfl 3 (by decide) inX4 m_578 rfl dX4_move_149 ?_
          refine k_eq (y := σ 17 0) (by rfl) ?_
          refine k_eq (y := nI nm) (hnm) ?_
          refine lv_iconst (v := 1) hx hb dX4_move_152 (by decide) ?_
          refine lv_iadd hx hb dX4_move_153 ?_
          refine k_eq (y := nI (nm + 1)) (nI_add nm 1) ?_
          refine k_put S hX8.2 hX8.1 (hD.w (wM_fst _ _ _)) hS8 0 (C := RX4) (T := TX4) (N := 20) rfl rfl 3 (by decide) inX4 tyX4 tyX4_ok nmX4 rfl rfl m_578 (Nat.le_of_ble_eq_true rfl) dX4_move_154 (fun H9 L9 h9 hS9 => ?_)
          have hX9 : PM G ad (su (su (su (su (su (su (su σ 23 0 0) 2 nm za0) 3 nm zb0) 4 nm zc0) 5 nm zd0) 6 nm ze0) 17 0 (nI (nm + 1))) s H9 := ⟨h9, hX8.2⟩
          refine lv_aload_n hx hb dX4_move_157 rfl (lv_at hl 1 rfl) ?_
          refine k_get S hX9.2 hX9.1 0 (C := RX4) (T := TX4) (N := 20) rfl rfl 3 (by decide) inX4 m_578 rfl dX4_move_158 ?_
          refine k_eq (y := nI (nm + 1)) (by rfl) ?_
          refine lv_iconst (v := 1) hx hb dX4_move_161 (by decide) ?_
          refine lv_isub hx hb dX4_move_162 ?_
          exact W.iret (v := (nI (nm + 1)) - 1) hx hb hr (fun t ht hW => ⟨⟨_, rfl, (by rw [vM_t bc90_2]; try (first | rfl | simp [mvM, nI_pred]))⟩, (by have e9 : sM (ckR za0 (-1) 11 && ckR zb0 (-1) 11 && ckR zc0 0 4, !decide (za0 = zb0) && ckR zd0 1 1000 && ckR ze0 0 (σ 16 0), decide (σ 17 0 < 200)) σ (fun μ => mvM μ nm za0 zb0 zc0 zd0 ze0) = su (su (su (su (su (su (su σ 23 0 0) 2 nm za0) 3 nm zb0) 4 nm zc0) 5 nm zd0) 6 nm ze0) 17 0 (nI (nm + 1)) := (by rw [sM_t bc90_2]; try (first | rfl | simp [mvM, nI_pred])); show va_P G.1 vwCl (wM G ad (sM (ckR za0 (-1) 11 && ckR zb0 (-1) 11 && ckR zc0 0 4, !decide (za0 = zb0) && ckR zd0 1 1000 && ckR ze0 0 (σ 16 0), decide (σ 17 0 < 200)) σ (fun μ => mvM μ nm za0 zb0 zc0 zd0 ze0))) t.heap; rw [e9, ht]; exact hX9.1), hS9.F ht⟩) hS9.2.2 dX4_move_163
        · have bc90_2 := bI_0 c90_2
          refine lv_iconst (v := 0) hx hb dX4_move_93 (by decide) ?_
          exact W.iret (v := 0) hx hb hr (fun t ht hW => ⟨⟨_, rfl, (by rw [vM_f bc90_2])⟩, (by have e9 : sM (ckR za0 (-1) 11 && ckR zb0 (-1) 11 && ckR zc0 0 4, !decide (za0 = zb0) && ckR zd0 1 1000 && ckR ze0 0 (σ 16 0), decide (σ 17 0 < 200)) σ (fun μ => mvM μ nm za0 zb0 zc0 zd0 ze0) = su σ 23 0 (goV ((ckR za0 (-1) 11 && ckR zb0 (-1) 11 && ckR zc0 0 4), (!decide (za0 = zb0) && ckR zd0 1 1000 && ckR ze0 0 (σ 16 0)), (decide (σ 17 0 < 200)))) := (by rw [sM_f bc90_2]); show va_P G.1 vwCl (wM G ad (sM (ckR za0 (-1) 11 && ckR zb0 (-1) 11 && ckR zc0 0 4, !decide (za0 = zb0) && ckR zd0 1 1000 && ckR ze0 0 (σ 16 0), decide (σ 17 0 < 200)) σ (fun μ => mvM μ nm za0 zb0 zc0 zd0 ze0))) t.heap; rw [e9, ht]; exact hX1.1), hS1.F ht⟩) hS1.2.2 dX4_move_94
      refine lv_aload_n hx hb dX4_move_72 rfl (lv_at hl 1 rfl) ?_
      refine k_get S hX.2 hX.1 0 (C := RX4) (T := TX4) (N := 20) rfl rfl 3 (by decide) inX4 m_578 rfl dX4_move_73 ?_
      refine lv_sipush (v := 200) hx hb dX4_move_76 (by decide) ?_
      refine lv_icmp_ge (tgt := 86) hx hb dX4_move_79 (by decide) (fun c79_10 => ?_) (fun c79_10 => ?_)
      · have bc79_10 := le_nlt c79_10
        refine lv_iconst (v := 0) hx hb dX4_move_86 (by decide) ?_
        refine k_eq (y := bI (decide (σ 17 0 < 200))) (by simp [bI, c79_10, bc79_10]) ?_
        exact J87 ls (lv_sub hl [0, 1, 2, 3, 4, 5, 6] rfl)
      · have bc79_10 := nle_lt c79_10
        refine lv_iconst (v := 1) hx hb dX4_move_82 (by decide) ?_
        refine lv_goto (tgt := 87) hx hb dX4_move_83 (by decide) ?_
        refine k_eq (y := bI (decide (σ 17 0 < 200))) (by simp [bI, c79_10, bc79_10]) ?_
        exact J87 ls (lv_sub hl [0, 1, 2, 3, 4, 5, 6] rfl)
    refine lv_iload_n hx hb dX4_move_37 rfl (lv_at hl 2 rfl) ?_
    refine lv_iload_n hx hb dX4_move_38 rfl (lv_at hl 3 rfl) ?_
    refine lv_icmp_eq (tgt := 71) hx hb dX4_move_39 (by decide) (fun c39_11 => ?_) (fun c39_11 => ?_)
    · have bc39_11 := c39_11
      refine lv_iconst (v := 0) hx hb dX4_move_71 (by decide) ?_
      refine k_eq (y := bI (!decide (za0 = zb0) && ckR zd0 1 1000 && ckR ze0 0 (σ 16 0))) (by simp [bI, c39_11]) ?_
      exact J72 ls (lv_sub hl [0, 1, 2, 3, 4, 5, 6] rfl)
    · have bc39_11 := c39_11
      refine lv_iload hx hb dX4_move_42 (lv_at hl 5 rfl) ?_
      refine lv_iconst (v := 1) hx hb dX4_move_44 (by decide) ?_
      refine lv_sipush (v := 1000) hx hb dX4_move_45 (by decide) ?_
      refine q_i (r_S S ⟨m_647, m_648, m_40, m_649⟩ ⟨rfl, by decide, by decide, by decide +kernel⟩ (c4_in l zd0 1 1000) ⟨rfl, rfl, Nat.le_of_ble_eq_true rfl, Nat.le_of_ble_eq_true rfl⟩ (ps bl_GL (bG hX.2.2)) (n := 3) (As := [.int zd0, .int 1, .int 1000]) (rest := [.int (bI (ckR za0 (-1) 11 && ckR zb0 (-1) 11 && ckR zc0 0 4)), .ref (ad 0)]) rfl hl.1 rfl (Nat.le_of_ble_eq_true rfl) ⟨Nat.le_of_ble_eq_true rfl, Nat.le_of_ble_eq_true rfl⟩ dX4_move_48) (fun r12 (e12 : r12 = bI (ckR zd0 1 1000)) => ?_)
      subst e12
      refine lv_if_eq (tgt := 71) hx hb dX4_move_51 (by decide) (fun c51_13 => ?_) (fun c51_13 => ?_)
      · have bc51_13 := bI_0 c51_13
        refine lv_iconst (v := 0) hx hb dX4_move_71 (by decide) ?_
        refine k_eq (y := bI (!decide (za0 = zb0) && ckR zd0 1 1000 && ckR ze0 0 (σ 16 0))) (by simp [bI, c39_11, bc51_13]) ?_
        exact J72 ls (lv_sub hl [0, 1, 2, 3, 4, 5, 6] rfl)
      · have bc51_13 := bI_n c51_13
        refine lv_iload hx hb dX4_move_54 (lv_at hl 6 rfl) ?_
        refine lv_iconst (v := 0) hx hb dX4_move_56 (by decide) ?_
        refine lv_aload_n hx hb dX4_move_57 rfl (lv_at hl 1 rfl) ?_
        refine k_get S hX.2 hX.1 0 (C := RX4) (T := TX4) (N := 20) rfl rfl 0 (by decide) inX4 m_575 rfl dX4_move_58 ?_
        refine q_i (r_S S ⟨m_647, m_648, m_40, m_649⟩ ⟨rfl, by decide, by decide, by decide +kernel⟩ (c4_in l ze0 0 (σ 16 0)) ⟨rfl, rfl, Nat.le_of_ble_eq_true rfl, Nat.le_of_ble_eq_true rfl⟩ (ps bl_GL (bG hX.2.2)) (n := 3) (As := [.int ze0, .int 0, .int (σ 16 0)]) (rest := [.int (bI (ckR za0 (-1) 11 && ckR zb0 (-1) 11 && ckR zc0 0 4)), .ref (ad 0)]) rfl hl.1 rfl (Nat.le_of_ble_eq_true rfl) ⟨Nat.le_of_ble_eq_true rfl, Nat.le_of_ble_eq_true rfl⟩ dX4_move_61) (fun r14 (e14 : r14 = bI (ckR ze0 0 (σ 16 0))) => ?_)
        subst e14
        refine lv_if_eq (tgt := 71) hx hb dX4_move_64 (by decide) (fun c64_15 => ?_) (fun c64_15 => ?_)
        · have bc64_15 := bI_0 c64_15
          refine lv_iconst (v := 0) hx hb dX4_move_71 (by decide) ?_
          refine k_eq (y := bI (!decide (za0 = zb0) && ckR zd0 1 1000 && ckR ze0 0 (σ 16 0))) (by simp [bI, c39_11, bc51_13, bc64_15]) ?_
          exact J72 ls (lv_sub hl [0, 1, 2, 3, 4, 5, 6] rfl)
        · have bc64_15 := bI_n c64_15
          refine lv_iconst (v := 1) hx hb dX4_move_67 (by decide) ?_
          refine lv_goto (tgt := 72) hx hb dX4_move_68 (by decide) ?_
          refine k_eq (y := bI (!decide (za0 = zb0) && ckR zd0 1 1000 && ckR ze0 0 (σ 16 0))) (by simp [bI, c39_11, bc51_13, bc64_15]) ?_
          exact J72 ls (lv_sub hl [0, 1, 2, 3, 4, 5, 6] rfl)
  refine lv_iload_n hx hb dX4_move_0 rfl (lv_at hl 1 rfl) ?_
  refine lv_iconst (v := (-1)) hx hb dX4_move_1 (by decide) ?_
  refine lv_bipush (v := 11) hx hb dX4_move_2 (by decide) ?_
  refine q_i (r_S S ⟨m_647, m_648, m_40, m_649⟩ ⟨rfl, by decide, by decide, by decide +kernel⟩ (c4_in l za0 (-1) 11) ⟨rfl, rfl, Nat.le_of_ble_eq_true rfl, Nat.le_of_ble_eq_true rfl⟩ (ps bl_GL (bG hX.2.2)) (n := 3) (As := [.int za0, .int (-1), .int 11]) (rest := []) rfl hl.1 rfl (Nat.le_of_ble_eq_true rfl) ⟨Nat.le_of_ble_eq_true rfl, Nat.le_of_ble_eq_true rfl⟩ dX4_move_4) (fun r16 (e16 : r16 = bI (ckR za0 (-1) 11)) => ?_)
  subst e16
  refine lv_if_eq (tgt := 31) hx hb dX4_move_7 (by decide) (fun c7_17 => ?_) (fun c7_17 => ?_)
  · have bc7_17 := bI_0 c7_17
    refine lv_iconst (v := 0) hx hb dX4_move_31 (by decide) ?_
    refine k_eq (y := bI (ckR za0 (-1) 11 && ckR zb0 (-1) 11 && ckR zc0 0 4)) (by simp [bI, bc7_17]) ?_
    exact J32 ls (lv_sub hl [0, 1, 2, 3, 4, 5] rfl)
  · have bc7_17 := bI_n c7_17
    refine lv_iload_n hx hb dX4_move_10 rfl (lv_at hl 2 rfl) ?_
    refine lv_iconst (v := (-1)) hx hb dX4_move_11 (by decide) ?_
    refine lv_bipush (v := 11) hx hb dX4_move_12 (by decide) ?_
    refine q_i (r_S S ⟨m_647, m_648, m_40, m_649⟩ ⟨rfl, by decide, by decide, by decide +kernel⟩ (c4_in l zb0 (-1) 11) ⟨rfl, rfl, Nat.le_of_ble_eq_true rfl, Nat.le_of_ble_eq_true rfl⟩ (ps bl_GL (bG hX.2.2)) (n := 3) (As := [.int zb0, .int (-1), .int 11]) (rest := []) rfl hl.1 rfl (Nat.le_of_ble_eq_true rfl) ⟨Nat.le_of_ble_eq_true rfl, Nat.le_of_ble_eq_true rfl⟩ dX4_move_14) (fun r18 (e18 : r18 = bI (ckR zb0 (-1) 11)) => ?_)
    subst e18
    refine lv_if_eq (tgt := 31) hx hb dX4_move_17 (by decide) (fun c17_19 => ?_) (fun c17_19 => ?_)
    · have bc17_19 := bI_0 c17_19
      refine lv_iconst (v := 0) hx hb dX4_move_31 (by decide) ?_
      refine k_eq (y := bI (ckR za0 (-1) 11 && ckR zb0 (-1) 11 && ckR zc0 0 4)) (by simp [bI, bc7_17, bc17_19]) ?_
      exact J32 ls (lv_sub hl [0, 1, 2, 3, 4, 5] rfl)
    · have bc17_19 := bI_n c17_19
      refine lv_iload_n hx hb dX4_move_20 rfl (lv_at hl 3 rfl) ?_
      refine q_i (r_S S ⟨m_644, m_645, m_40, m_646⟩ ⟨rfl, by decide, by decide, by decide +kernel⟩ (c4_isArticle l zc0) ⟨rfl, rfl, Nat.le_of_ble_eq_true rfl, Nat.le_of_ble_eq_true rfl⟩ (ps bl_GL (bG hX.2.2)) (n := 1) (As := [.int zc0]) (rest := []) rfl hl.1 rfl (Nat.le_of_ble_eq_true rfl) ⟨Nat.le_of_ble_eq_true rfl, Nat.le_of_ble_eq_true rfl⟩ dX4_move_21) (fun r20 (e20 : r20 = bI (ckR zc0 0 4)) => ?_)
      subst e20
      refine lv_if_eq (tgt := 31) hx hb dX4_move_24 (by decide) (fun c24_21 => ?_) (fun c24_21 => ?_)
      · have bc24_21 := bI_0 c24_21
        refine lv_iconst (v := 0) hx hb dX4_move_31 (by decide) ?_
        refine k_eq (y := bI (ckR za0 (-1) 11 && ckR zb0 (-1) 11 && ckR zc0 0 4)) (by simp [bI, bc7_17, bc17_19, bc24_21]) ?_
        exact J32 ls (lv_sub hl [0, 1, 2, 3, 4, 5] rfl)
      · have bc24_21 := bI_n c24_21
        refine lv_iconst (v := 1) hx hb dX4_move_27 (by decide) ?_
        refine lv_goto (tgt := 32) hx hb dX4_move_28 (by decide) ?_
        refine k_eq (y := bI (ckR za0 (-1) 11 && ckR zb0 (-1) 11 && ckR zc0 0 4)) (by simp [bI, bc7_17, bc17_19, bc24_21]) ?_
        exact J32 ls (lv_sub hl [0, 1, 2, 3, 4, 5] rfl)

set_option maxHeartbeats 4000000 in
set_option maxRecDepth 100000 in
theorem c4_pass (l : Launch) (G : kG) (ad : Nat → Nat) (σ : kS) (nm ns : Nat) (za0 : Int32) (hns : σ 18 0 = nI ns) (hns4 : ns ≤ 40) (hnm : σ 17 0 = nI nm) (hnm2 : nm ≤ 200)  (A : Nat → Prop) (hD : DD 16 A ad) : Met l yX4_pass [.code yX4_pass cX4_pass 2 (some .int)] ({ frames := 2, cells := 0, slots := 0, locals := 63 }) (va_Pc [.ref (ad 0), .int za0] (fun U => PM G ad σ U U.heap)) (oW A (fun r => r = vM (ckR za0 1 1000, true, true) (σ 16 0 + za0)) (fun H9 => va_P G.1 vwCl (wM G ad (sM (ckR za0 1 1000, true, true) σ (fun μ => su μ 16 0 (μ 16 0 + za0)))) H9)) 0 0 A := by
  refine k_of (by decide) (Nat.le_of_ble_eq_true rfl) (fun U h => h.2.2) ?_
  intro p e s m below meth c ls S hr hlocks hmn hB hl
  have hx := S.1
  have hb := S.2.1
  have hX : PM G ad σ s s.heap := hB
  have hS0 : va_S A s.heap s.heap [] := va_S.rf
  have hl : lv_has ls 2 [(0, .ref (ad 0)), (1, .int za0)] := hl
  refine lv_aload_n hx hb dX4_pass_0 rfl (lv_at hl 0 rfl) ?_
  refine lv_iload_n hx hb dX4_pass_1 rfl (lv_at hl 1 rfl) ?_
  refine lv_iconst (v := 1) hx hb dX4_pass_2 (by decide) ?_
  refine lv_sipush (v := 1000) hx hb dX4_pass_3 (by decide) ?_
  refine q_i (r_S S ⟨m_647, m_648, m_40, m_649⟩ ⟨rfl, by decide, by decide, by decide +kernel⟩ (c4_in l za0 1 1000) ⟨rfl, rfl, Nat.le_of_ble_eq_true rfl, Nat.le_of_ble_eq_true rfl⟩ (ps bl_GL (bG hX.2.2)) (n := 3) (As := [.int za0, .int 1, .int 1000]) (rest := [.ref (ad 0)]) rfl hl.1 rfl (Nat.le_of_ble_eq_true rfl) ⟨Nat.le_of_ble_eq_true rfl, Nat.le_of_ble_eq_true rfl⟩ dX4_pass_6) (fun r1 (e1 : r1 = bI (ckR za0 1 1000)) => ?_)
  subst e1
  refine lv_iconst (v := 1) hx hb dX4_pass_9 (by decide) ?_
  refine lv_iconst (v := 1) hx hb dX4_pass_10 (by decide) ?_
  refine q_w (r_V S ⟨m_650, m_652, m_22, m_40, m_653⟩ ⟨rfl, by decide, by decide, by decide +kernel⟩ (c4_goes l G ad σ (ckR za0 1 1000) true true A hD) ⟨rfl, rfl, Nat.le_of_ble_eq_true rfl, Nat.le_of_ble_eq_true rfl⟩ (pv_M hX bl_PM (bM hX)) (n := 3) (As := [.int (bI (ckR za0 1 1000)), .int (bI true), .int (bI true)]) (rest := []) rfl hl.1 rfl (Nat.le_of_ble_eq_true rfl) ⟨Nat.le_of_ble_eq_true rfl, Nat.le_of_ble_eq_true rfl⟩ dX4_pass_11) hS0 (fun _ h => h) (fun r2 H2 L2 (e2 : r2 = bI (go3 ((ckR za0 1 1000), true, true))) h2 _ _ hS2 => ?_)
  subst e2
  have hX2 : PM G ad (su σ 23 0 (goV ((ckR za0 1 1000), true, true))) s H2 := ⟨h2, hX.2⟩
  refine lv_if_ne (tgt := 19) hx hb dX4_pass_14 (by decide) (fun c14_3 => ?_) (fun c14_3 => ?_)
  · have bc14_3 := bI_n c14_3
    have hX4 : PM G ad (su σ 23 0 0) s H2 := by
      have h8 := hX2
      rw [goV_0 bc14_3] at h8
      exact h8
    obtain ⟨q1, q2, q3⟩ := go3_t bc14_3
    refine lv_aload_n hx hb dX4_pass_19 rfl (lv_at hl 0 rfl) ?_
    refine lv_dup hx hb dX4_pass_20 rfl ?_
    refine k_get S hX4.2 hX4.1 0 (C := RX4) (T := TX4) (N := 20) rfl rfl 0 (by decide) inX4 m_575 rfl dX4_pass_21 ?_
    refine k_eq (y := σ 16 0) (by rfl) ?_
    refine lv_iload_n hx hb dX4_pass_24 rfl (lv_at hl 1 rfl) ?_
    refine lv_iadd hx hb dX4_pass_25 ?_
    refine k_put S hX4.2 hX4.1 (hD.w (wM_fst _ _ _)) hS2 0 (C := RX4) (T := TX4) (N := 20) rfl rfl 0 (by decide) inX4 tyX4 tyX4_ok nmX4 rfl rfl m_575 (Nat.le_of_ble_eq_true rfl) dX4_pass_26 (fun H5 L5 h5 hS5 => ?_)
    have hX5 : PM G ad (su (su σ 23 0 0) 16 0 ((σ 16 0) + za0)) s H5 := ⟨h5, hX4.2⟩
    refine lv_aload_n hx hb dX4_pass_29 rfl (lv_at hl 0 rfl) ?_
    refine k_get S hX5.2 hX5.1 0 (C := RX4) (T := TX4) (N := 20) rfl rfl 0 (by decide) inX4 m_575 rfl dX4_pass_30 ?_
    refine k_eq (y := (σ 16 0) + za0) (by rfl) ?_
    exact W.iret (v := (σ 16 0) + za0) hx hb hr (fun t ht hW => ⟨⟨_, rfl, (by rw [vM_t bc14_3]; try (first | rfl | simp []))⟩, (by have e9 : sM (ckR za0 1 1000, true, true) σ (fun μ => su μ 16 0 (μ 16 0 + za0)) = su (su σ 23 0 0) 16 0 ((σ 16 0) + za0) := (by rw [sM_t bc14_3]; try (first | rfl | simp [])); show va_P G.1 vwCl (wM G ad (sM (ckR za0 1 1000, true, true) σ (fun μ => su μ 16 0 (μ 16 0 + za0)))) t.heap; rw [e9, ht]; exact hX5.1), hS5.F ht⟩) hS5.2.2 dX4_pass_33
  · have bc14_3 := bI_0 c14_3
    refine lv_iconst (v := 0) hx hb dX4_pass_17 (by decide) ?_
    exact W.iret (v := 0) hx hb hr (fun t ht hW => ⟨⟨_, rfl, (by rw [vM_f bc14_3])⟩, (by have e9 : sM (ckR za0 1 1000, true, true) σ (fun μ => su μ 16 0 (μ 16 0 + za0)) = su σ 23 0 (goV ((ckR za0 1 1000), true, true)) := (by rw [sM_f bc14_3]); show va_P G.1 vwCl (wM G ad (sM (ckR za0 1 1000, true, true) σ (fun μ => su μ 16 0 (μ 16 0 + za0)))) t.heap; rw [e9, ht]; exact hX2.1), hS2.F ht⟩) hS2.2.2 dX4_pass_18

set_option maxHeartbeats 4000000 in
set_option maxRecDepth 100000 in
theorem c4_open (l : Launch) (G : kG) (ad : Nat → Nat) (σ : kS) (nm ns : Nat) (za0 : Int32) (hns : σ 18 0 = nI ns) (hns4 : ns ≤ 40) (hnm : σ 17 0 = nI nm) (hnm2 : nm ≤ 200)  (A : Nat → Prop) (hD : DD 16 A ad) : Met l yX4_open [.code yX4_open cX4_open 2 (some .int)] ({ frames := 3, cells := 0, slots := 0, locals := 82 }) (va_Pc [.ref (ad 0), .int za0] (fun U => PM G ad σ U U.heap)) (oW A (fun r => r = vM (ckR za0 0 11, !hoM σ za0 ns && decide (σ 18 0 < 40), true) (nI ns)) (fun H9 => va_P G.1 vwCl (wM G ad (sM (ckR za0 0 11, !hoM σ za0 ns && decide (σ 18 0 < 40), true) σ (fun μ => opM μ ns za0))) H9)) 0 0 A := by
  refine k_of (by decide) (Nat.le_of_ble_eq_true rfl) (fun U h => h.2.2) ?_
  intro p e s m below meth c ls S hr hlocks hmn hB hl
  have hx := S.1
  have hb := S.2.1
  have hX : PM G ad σ s s.heap := hB
  have hS0 : va_S A s.heap s.heap [] := va_S.rf
  have hl : lv_has ls 2 [(0, .ref (ad 0)), (1, .int za0)] := hl
  refine lv_aload_n hx hb dX4_open_0 rfl (lv_at hl 0 rfl) ?_
  refine lv_iload_n hx hb dX4_open_1 rfl (lv_at hl 1 rfl) ?_
  refine q_i (r_S S ⟨m_671, m_672, m_40, m_673⟩ ⟨rfl, by decide, by decide, by decide +kernel⟩ (c4_isPlace l za0) ⟨rfl, rfl, Nat.le_of_ble_eq_true rfl, Nat.le_of_ble_eq_true rfl⟩ (ps bl_GL (bG hX.2.2)) (n := 1) (As := [.int za0]) (rest := [.ref (ad 0)]) rfl hl.1 rfl (Nat.le_of_ble_eq_true rfl) ⟨Nat.le_of_ble_eq_true rfl, Nat.le_of_ble_eq_true rfl⟩ dX4_open_2) (fun r1 (e1 : r1 = bI (ckR za0 0 11)) => ?_)
  subst e1
  have J27 : ∀ ls, lv_has ls 2 [(0, .ref (ad 0)), (1, .int za0)] → W p l e ({ frames := 3, cells := 0, slots := 0, locals := 82 } : Room) s m [.ref (ad 0), .int za0].toArray below meth c s.heap [] 0 0 (MQ below (oW A (fun r => r = vM (ckR za0 0 11, !hoM σ za0 ns && decide (σ 18 0 < 40), true) (nI ns)) (fun H9 => va_P G.1 vwCl (wM G ad (sM (ckR za0 0 11, !hoM σ za0 ns && decide (σ 18 0 < 40), true) σ (fun μ => opM μ ns za0))) H9)) [.ref (ad 0), .int za0].toArray s 0 0 A) (F0 m 27 ls [.int (bI (!hoM σ za0 ns && decide (σ 18 0 < 40))), .int (bI (ckR za0 0 11)), .ref (ad 0)]) := by
    intro ls hl
    refine lv_iconst (v := 1) hx hb dX4_open_27 (by decide) ?_
    refine q_w (r_V S ⟨m_650, m_652, m_22, m_40, m_653⟩ ⟨rfl, by decide, by decide, by decide +kernel⟩ (c4_goes l G ad σ (ckR za0 0 11) (!hoM σ za0 ns && decide (σ 18 0 < 40)) true A hD) ⟨rfl, rfl, Nat.le_of_ble_eq_true rfl, Nat.le_of_ble_eq_true rfl⟩ (pv_M hX bl_PM (bM hX)) (n := 3) (As := [.int (bI (ckR za0 0 11)), .int (bI (!hoM σ za0 ns && decide (σ 18 0 < 40))), .int (bI true)]) (rest := []) rfl hl.1 rfl (Nat.le_of_ble_eq_true rfl) ⟨Nat.le_of_ble_eq_true rfl, Nat.le_of_ble_eq_true rfl⟩ dX4_open_28) hS0 (fun _ h => h) (fun r2 H2 L2 (e2 : r2 = bI (go3 ((ckR za0 0 11), (!hoM σ za0 ns && decide (σ 18 0 < 40)), true))) h2 _ _ hS2 => ?_)
    subst e2
    have hX2 : PM G ad (su σ 23 0 (goV ((ckR za0 0 11), (!hoM σ za0 ns && decide (σ 18 0 < 40)), true))) s H2 := ⟨h2, hX.2⟩
    refine lv_if_ne (tgt := 36) hx hb dX4_open_31 (by decide) (fun c31_3 => ?_) (fun c31_3 => ?_)
    · have bc31_3 := bI_n c31_3
      have hX4 : PM G ad (su σ 23 0 0) s H2 := by
        have h8 := hX2
        rw [goV_0 bc31_3] at h8
        exact h8
      obtain ⟨q1, q2, q3⟩ := go3_t bc31_3
      obtain ⟨q4, q5⟩ := Bool.and_eq_true_iff.mp q2
      have hns5 : ns < 40 := by
        have h9 := of_decide_eq_true q5
        rw [hns, show (40 : Int32) = nI 40 from rfl, nI_ltI (by omega) (by omega)] at h9
        exact h9
      refine lv_aload_n hx hb dX4_open_36 rfl (lv_at hl 0 rfl) ?_
      refine k_get S hX4.2 hX4.1 0 (C := RX4) (T := TX4) (N := 20) rfl rfl 10 (by decide) inX4 m_585 rfl dX4_open_37 ?_
      refine lv_aload_n hx hb dX4_open_40 rfl (lv_at hl 0 rfl) ?_
      refine k_get S hX4.2 hX4.1 0 (C := RX4) (T := TX4) (N := 20) rfl rfl 9 (by decide) inX4 m_584 rfl dX4_open_41 ?_
      refine k_eq (y := σ 18 0) (by rfl) ?_
      refine k_eq (y := nI ns) (hns) ?_
      refine lv_iload_n hx hb dX4_open_44 rfl (lv_at hl 1 rfl) ?_
      refine k_ist S hX4.2 hX4.1 (hD.w (wM_fst _ _ _)) hS2 8 (i := ns) rfl (by omega) (by decide) dX4_open_45 (fun H5 L5 h5 hS5 => ?_)
      have hX5 : PM G ad (su (su σ 23 0 0) 7 ns za0) s H5 := ⟨h5, hX4.2⟩
      refine lv_aload_n hx hb dX4_open_46 rfl (lv_at hl 0 rfl) ?_
      refine k_get S hX5.2 hX5.1 0 (C := RX4) (T := TX4) (N := 20) rfl rfl 11 (by decide) inX4 m_586 rfl dX4_open_47 ?_
      refine lv_aload_n hx hb dX4_open_50 rfl (lv_at hl 0 rfl) ?_
      refine k_get S hX5.2 hX5.1 0 (C := RX4) (T := TX4) (N := 20) rfl rfl 9 (by decide) inX4 m_584 rfl dX4_open_51 ?_
      refine k_eq (y := σ 18 0) (by rfl) ?_
      refine k_eq (y := nI ns) (hns) ?_
      refine lv_aload_n hx hb dX4_open_54 rfl (lv_at hl 0 rfl) ?_
      refine k_get S hX5.2 hX5.1 0 (C := RX4) (T := TX4) (N := 20) rfl rfl 0 (by decide) inX4 m_575 rfl dX4_open_55 ?_
      refine k_eq (y := σ 16 0) (by rfl) ?_
      refine k_ist S hX5.2 hX5.1 (hD.w (wM_fst _ _ _)) hS5 9 (i := ns) rfl (by omega) (by decide) dX4_open_58 (fun H6 L6 h6 hS6 => ?_)
      have hX6 : PM G ad (su (su (su σ 23 0 0) 7 ns za0) 8 ns (σ 16 0)) s H6 := ⟨h6, hX5.2⟩
      refine lv_aload_n hx hb dX4_open_59 rfl (lv_at hl 0 rfl) ?_
      refine k_get S hX6.2 hX6.1 0 (C := RX4) (T := TX4) (N := 20) rfl rfl 12 (by decide) inX4 m_587 rfl dX4_open_60 ?_
      refine lv_aload_n hx hb dX4_open_63 rfl (lv_at hl 0 rfl) ?_
      refine k_get S hX6.2 hX6.1 0 (C := RX4) (T := TX4) (N := 20) rfl rfl 9 (by decide) inX4 m_584 rfl dX4_open_64 ?_
      refine k_eq (y := σ 18 0) (by rfl) ?_
      refine k_eq (y := nI ns) (hns) ?_
      refine lv_iconst (v := 0) hx hb dX4_open_67 (by decide) ?_
      refine k_ist S hX6.2 hX6.1 (hD.w (wM_fst _ _ _)) hS6 10 (i := ns) rfl (by omega) (by decide) dX4_open_68 (fun H7 L7 h7 hS7 => ?_)
      have hX7 : PM G ad (su (su (su (su σ 23 0 0) 7 ns za0) 8 ns (σ 16 0)) 9 ns 0) s H7 := ⟨h7, hX6.2⟩
      refine lv_aload_n hx hb dX4_open_69 rfl (lv_at hl 0 rfl) ?_
      refine lv_dup hx hb dX4_open_70 rfl ?_
      refine k_get S hX7.2 hX7.1 0 (C := RX4) (T := TX4) (N := 20) rfl rfl 9 (by decide) inX4 m_584 rfl dX4_open_71 ?_
      refine k_eq (y := σ 18 0) (by rfl) ?_
      refine k_eq (y := nI ns) (hns) ?_
      refine lv_iconst (v := 1) hx hb dX4_open_74 (by decide) ?_
      refine lv_iadd hx hb dX4_open_75 ?_
      refine k_eq (y := nI (ns + 1)) (nI_add ns 1) ?_
      refine k_put S hX7.2 hX7.1 (hD.w (wM_fst _ _ _)) hS7 0 (C := RX4) (T := TX4) (N := 20) rfl rfl 9 (by decide) inX4 tyX4 tyX4_ok nmX4 rfl rfl m_584 (Nat.le_of_ble_eq_true rfl) dX4_open_76 (fun H8 L8 h8 hS8 => ?_)
      have hX8 : PM G ad (su (su (su (su (su σ 23 0 0) 7 ns za0) 8 ns (σ 16 0)) 9 ns 0) 18 0 (nI (ns + 1))) s H8 := ⟨h8, hX7.2⟩
      refine lv_aload_n hx hb dX4_open_79 rfl (lv_at hl 0 rfl) ?_
      refine k_get S hX8.2 hX8.1 0 (C := RX4) (T := TX4) (N := 20) rfl rfl 9 (by decide) inX4 m_584 rfl dX4_open_80 ?_
      refine k_eq (y := nI (ns + 1)) (by rfl) ?_
      refine lv_iconst (v := 1) hx hb dX4_open_83 (by decide) ?_
      refine lv_isub hx hb dX4_open_84 ?_
      exact W.iret (v := (nI (ns + 1)) - 1) hx hb hr (fun t ht hW => ⟨⟨_, rfl, (by rw [vM_t bc31_3]; try (first | rfl | simp [opM, nI_pred]))⟩, (by have e9 : sM (ckR za0 0 11, !hoM σ za0 ns && decide (σ 18 0 < 40), true) σ (fun μ => opM μ ns za0) = su (su (su (su (su σ 23 0 0) 7 ns za0) 8 ns (σ 16 0)) 9 ns 0) 18 0 (nI (ns + 1)) := (by rw [sM_t bc31_3]; try (first | rfl | simp [opM, nI_pred])); show va_P G.1 vwCl (wM G ad (sM (ckR za0 0 11, !hoM σ za0 ns && decide (σ 18 0 < 40), true) σ (fun μ => opM μ ns za0))) t.heap; rw [e9, ht]; exact hX8.1), hS8.F ht⟩) hS8.2.2 dX4_open_85
    · have bc31_3 := bI_0 c31_3
      refine lv_iconst (v := 0) hx hb dX4_open_34 (by decide) ?_
      exact W.iret (v := 0) hx hb hr (fun t ht hW => ⟨⟨_, rfl, (by rw [vM_f bc31_3])⟩, (by have e9 : sM (ckR za0 0 11, !hoM σ za0 ns && decide (σ 18 0 < 40), true) σ (fun μ => opM μ ns za0) = su σ 23 0 (goV ((ckR za0 0 11), (!hoM σ za0 ns && decide (σ 18 0 < 40)), true)) := (by rw [sM_f bc31_3]); show va_P G.1 vwCl (wM G ad (sM (ckR za0 0 11, !hoM σ za0 ns && decide (σ 18 0 < 40), true) σ (fun μ => opM μ ns za0))) t.heap; rw [e9, ht]; exact hX2.1), hS2.F ht⟩) hS2.2.2 dX4_open_35
  refine lv_aload_n hx hb dX4_open_5 rfl (lv_at hl 0 rfl) ?_
  refine lv_iload_n hx hb dX4_open_6 rfl (lv_at hl 1 rfl) ?_
  refine q_i (r_V S ⟨m_674, m_676, m_23, m_40, m_677⟩ ⟨rfl, by decide, by decide, by decide +kernel⟩ (c4_hasOpen l G ad σ ns za0 hns hns4) ⟨rfl, rfl, Nat.le_of_ble_eq_true rfl, Nat.le_of_ble_eq_true rfl⟩ (pv_M hX bl_PM (bM hX)) (n := 1) (As := [.int za0]) (rest := [.int (bI (ckR za0 0 11)), .ref (ad 0)]) rfl hl.1 rfl (Nat.le_of_ble_eq_true rfl) ⟨Nat.le_of_ble_eq_true rfl, Nat.le_of_ble_eq_true rfl⟩ dX4_open_7) (fun r9 (e9 : r9 = bI (hoM σ za0 ns)) => ?_)
  subst e9
  refine lv_if_ne (tgt := 26) hx hb dX4_open_10 (by decide) (fun c10_10 => ?_) (fun c10_10 => ?_)
  · have bc10_10 := bI_n c10_10
    refine lv_iconst (v := 0) hx hb dX4_open_26 (by decide) ?_
    refine k_eq (y := bI (!hoM σ za0 ns && decide (σ 18 0 < 40))) (by simp [bI, bc10_10]) ?_
    exact J27 ls (lv_sub hl [0, 1] rfl)
  · have bc10_10 := bI_0 c10_10
    refine lv_aload_n hx hb dX4_open_13 rfl (lv_at hl 0 rfl) ?_
    refine k_get S hX.2 hX.1 0 (C := RX4) (T := TX4) (N := 20) rfl rfl 9 (by decide) inX4 m_584 rfl dX4_open_14 ?_
    refine lv_bipush (v := 40) hx hb dX4_open_17 (by decide) ?_
    refine lv_icmp_ge (tgt := 26) hx hb dX4_open_19 (by decide) (fun c19_11 => ?_) (fun c19_11 => ?_)
    · have bc19_11 := le_nlt c19_11
      refine lv_iconst (v := 0) hx hb dX4_open_26 (by decide) ?_
      refine k_eq (y := bI (!hoM σ za0 ns && decide (σ 18 0 < 40))) (by simp [bI, bc10_10, c19_11, bc19_11]) ?_
      exact J27 ls (lv_sub hl [0, 1] rfl)
    · have bc19_11 := nle_lt c19_11
      refine lv_iconst (v := 1) hx hb dX4_open_22 (by decide) ?_
      refine lv_goto (tgt := 27) hx hb dX4_open_23 (by decide) ?_
      refine k_eq (y := bI (!hoM σ za0 ns && decide (σ 18 0 < 40))) (by simp [bI, bc10_10, c19_11, bc19_11]) ?_
      exact J27 ls (lv_sub hl [0, 1] rfl)

set_option maxHeartbeats 4000000 in
set_option maxRecDepth 100000 in
theorem c4_book (l : Launch) (G : kG) (ad : Nat → Nat) (σ : kS) (nm ns : Nat) (za0 zb0 : Int32) (hns : σ 18 0 = nI ns) (hns4 : ns ≤ 40) (hnm : σ 17 0 = nI nm) (hnm2 : nm ≤ 200)  (A : Nat → Prop) (hD : DD 16 A ad) : Met l yX4_book [.code yX4_book cX4_book 3 (some .int)] ({ frames := 3, cells := 0, slots := 0, locals := 94 }) (va_Pc [.ref (ad 0), .int za0, .int zb0] (fun U => PM G ad σ U U.heap)) (oW A (fun r => r = vM (ckR za0 0 11 && ckR zb0 0 4, true, true) (boM (su σ 23 0 0) nm ns za0 (ixN zb0) (σ 16 0))) (fun H9 => va_P G.1 vwCl (wM G ad (sM (ckR za0 0 11 && ckR zb0 0 4, true, true) σ (fun μ => μ))) H9)) 0 0 A := by
  refine k_of (by decide) (Nat.le_of_ble_eq_true rfl) (fun U h => h.2.2) ?_
  intro p e s m below meth c ls S hr hlocks hmn hB hl
  have hx := S.1
  have hb := S.2.1
  have hX : PM G ad σ s s.heap := hB
  have hS0 : va_S A s.heap s.heap [] := va_S.rf
  have hl : lv_has ls 3 [(0, .ref (ad 0)), (1, .int za0), (2, .int zb0)] := hl
  refine lv_aload_n hx hb dX4_book_0 rfl (lv_at hl 0 rfl) ?_
  have J20 : ∀ ls, lv_has ls 3 [(0, .ref (ad 0)), (1, .int za0), (2, .int zb0)] → W p l e ({ frames := 3, cells := 0, slots := 0, locals := 94 } : Room) s m [.ref (ad 0), .int za0, .int zb0].toArray below meth c s.heap [] 0 0 (MQ below (oW A (fun r => r = vM (ckR za0 0 11 && ckR zb0 0 4, true, true) (boM (su σ 23 0 0) nm ns za0 (ixN zb0) (σ 16 0))) (fun H9 => va_P G.1 vwCl (wM G ad (sM (ckR za0 0 11 && ckR zb0 0 4, true, true) σ (fun μ => μ))) H9)) [.ref (ad 0), .int za0, .int zb0].toArray s 0 0 A) (F0 m 20 ls [.int (bI (ckR za0 0 11 && ckR zb0 0 4)), .ref (ad 0)]) := by
    intro ls hl
    refine lv_iconst (v := 1) hx hb dX4_book_20 (by decide) ?_
    refine lv_iconst (v := 1) hx hb dX4_book_21 (by decide) ?_
    refine q_w (r_V S ⟨m_650, m_652, m_22, m_40, m_653⟩ ⟨rfl, by decide, by decide, by decide +kernel⟩ (c4_goes l G ad σ (ckR za0 0 11 && ckR zb0 0 4) true true A hD) ⟨rfl, rfl, Nat.le_of_ble_eq_true rfl, Nat.le_of_ble_eq_true rfl⟩ (pv_M hX bl_PM (bM hX)) (n := 3) (As := [.int (bI (ckR za0 0 11 && ckR zb0 0 4)), .int (bI true), .int (bI true)]) (rest := []) rfl hl.1 rfl (Nat.le_of_ble_eq_true rfl) ⟨Nat.le_of_ble_eq_true rfl, Nat.le_of_ble_eq_true rfl⟩ dX4_book_22) hS0 (fun _ h => h) (fun r1 H1 L1 (e1 : r1 = bI (go3 ((ckR za0 0 11 && ckR zb0 0 4), true, true))) h1 _ _ hS1 => ?_)
    subst e1
    have hX1 : PM G ad (su σ 23 0 (goV ((ckR za0 0 11 && ckR zb0 0 4), true, true))) s H1 := ⟨h1, hX.2⟩
    refine lv_if_eq (tgt := 41) hx hb dX4_book_25 (by decide) (fun c25_2 => ?_) (fun c25_2 => ?_)
    · have bc25_2 := bI_0 c25_2
      refine lv_iconst (v := 0) hx hb dX4_book_41 (by decide) ?_
      exact W.iret (v := 0) hx hb hr (fun t ht hW => ⟨⟨_, rfl, (by rw [vM_f bc25_2])⟩, (by have e9 : sM (ckR za0 0 11 && ckR zb0 0 4, true, true) σ (fun μ => μ) = su σ 23 0 (goV ((ckR za0 0 11 && ckR zb0 0 4), true, true)) := (by rw [sM_f bc25_2]); show va_P G.1 vwCl (wM G ad (sM (ckR za0 0 11 && ckR zb0 0 4, true, true) σ (fun μ => μ))) t.heap; rw [e9, ht]; exact hX1.1), hS1.F ht⟩) hS1.2.2 dX4_book_42
    · have bc25_2 := bI_n c25_2
      have hX3 : PM G ad (su σ 23 0 0) s H1 := by
        have h8 := hX1
        rw [goV_0 bc25_2] at h8
        exact h8
      obtain ⟨q1, q2, q3⟩ := go3_t bc25_2
      obtain ⟨qa, qb⟩ := Bool.and_eq_true_iff.mp q1
      obtain ⟨ar, har, rfl⟩ := ckR_lit (n := 4) qb (by decide)
      have h31ar : ar < 2 ^ 31 := by omega
      refine lv_aload_n hx hb dX4_book_28 rfl (lv_at hl 0 rfl) ?_
      refine lv_iload_n hx hb dX4_book_29 rfl (lv_at hl 1 rfl) ?_
      refine lv_iload_n hx hb dX4_book_30 rfl (lv_at hl 2 rfl) ?_
      refine lv_aload_n hx hb dX4_book_31 rfl (lv_at hl 0 rfl) ?_
      refine k_get S hX3.2 hX3.1 0 (C := RX4) (T := TX4) (N := 20) rfl rfl 0 (by decide) inX4 m_575 rfl dX4_book_32 ?_
      refine k_eq (y := σ 16 0) (by rfl) ?_
      refine q_i (r_V S ⟨m_714, m_716, m_29, m_40, m_717⟩ ⟨rfl, by decide, by decide, by decide +kernel⟩ (c4_bookOf l G ad (su σ 23 0 0) nm ns za0 ar (σ 16 0) (by first | exact hns | (rw [← hns]; rfl)) hns4 (by first | exact hnm | (rw [← hnm]; rfl)) hnm2 (by omega)) ⟨rfl, rfl, Nat.le_of_ble_eq_true rfl, Nat.le_of_ble_eq_true rfl⟩ (pv_M hX3 bl_PM (bM hX3)) (n := 3) (As := [.int za0, .int (nI ar), .int (σ 16 0)]) (rest := []) rfl hl.1 rfl (Nat.le_of_ble_eq_true rfl) ⟨Nat.le_of_ble_eq_true rfl, Nat.le_of_ble_eq_true rfl⟩ dX4_book_35) (fun r4 (e4 : r4 = boM (su σ 23 0 0) nm ns za0 ar (σ 16 0)) => ?_)
      subst e4
      refine lv_goto (tgt := 42) hx hb dX4_book_38 (by decide) ?_
      exact W.iret (v := boM (su σ 23 0 0) nm ns za0 ar (σ 16 0)) hx hb hr (fun t ht hW => ⟨⟨_, rfl, (by rw [vM_t bc25_2]; try (first | rfl | simp [ixN_nI h31ar]))⟩, (by have e9 : sM (ckR za0 0 11 && ckR (nI ar) 0 4, true, true) σ (fun μ => μ) = su σ 23 0 0 := (by rw [sM_t bc25_2]; try (first | rfl | simp [ixN_nI h31ar])); show va_P G.1 vwCl (wM G ad (sM (ckR za0 0 11 && ckR (nI ar) 0 4, true, true) σ (fun μ => μ))) t.heap; rw [e9, ht]; exact hX3.1), hS1.F ht⟩) hS1.2.2 dX4_book_42
  refine lv_iload_n hx hb dX4_book_1 rfl (lv_at hl 1 rfl) ?_
  refine q_i (r_S S ⟨m_671, m_672, m_40, m_673⟩ ⟨rfl, by decide, by decide, by decide +kernel⟩ (c4_isPlace l za0) ⟨rfl, rfl, Nat.le_of_ble_eq_true rfl, Nat.le_of_ble_eq_true rfl⟩ (ps bl_GL (bG hX.2.2)) (n := 1) (As := [.int za0]) (rest := [.ref (ad 0)]) rfl hl.1 rfl (Nat.le_of_ble_eq_true rfl) ⟨Nat.le_of_ble_eq_true rfl, Nat.le_of_ble_eq_true rfl⟩ dX4_book_2) (fun r5 (e5 : r5 = bI (ckR za0 0 11)) => ?_)
  subst e5
  refine lv_if_eq (tgt := 19) hx hb dX4_book_5 (by decide) (fun c5_6 => ?_) (fun c5_6 => ?_)
  · have bc5_6 := bI_0 c5_6
    refine lv_iconst (v := 0) hx hb dX4_book_19 (by decide) ?_
    refine k_eq (y := bI (ckR za0 0 11 && ckR zb0 0 4)) (by simp [bI, bc5_6]) ?_
    exact J20 ls (lv_sub hl [0, 1, 2] rfl)
  · have bc5_6 := bI_n c5_6
    refine lv_iload_n hx hb dX4_book_8 rfl (lv_at hl 2 rfl) ?_
    refine q_i (r_S S ⟨m_644, m_645, m_40, m_646⟩ ⟨rfl, by decide, by decide, by decide +kernel⟩ (c4_isArticle l zb0) ⟨rfl, rfl, Nat.le_of_ble_eq_true rfl, Nat.le_of_ble_eq_true rfl⟩ (ps bl_GL (bG hX.2.2)) (n := 1) (As := [.int zb0]) (rest := [.ref (ad 0)]) rfl hl.1 rfl (Nat.le_of_ble_eq_true rfl) ⟨Nat.le_of_ble_eq_true rfl, Nat.le_of_ble_eq_true rfl⟩ dX4_book_9) (fun r7 (e7 : r7 = bI (ckR zb0 0 4)) => ?_)
    subst e7
    refine lv_if_eq (tgt := 19) hx hb dX4_book_12 (by decide) (fun c12_8 => ?_) (fun c12_8 => ?_)
    · have bc12_8 := bI_0 c12_8
      refine lv_iconst (v := 0) hx hb dX4_book_19 (by decide) ?_
      refine k_eq (y := bI (ckR za0 0 11 && ckR zb0 0 4)) (by simp [bI, bc5_6, bc12_8]) ?_
      exact J20 ls (lv_sub hl [0, 1, 2] rfl)
    · have bc12_8 := bI_n c12_8
      refine lv_iconst (v := 1) hx hb dX4_book_15 (by decide) ?_
      refine lv_goto (tgt := 20) hx hb dX4_book_16 (by decide) ?_
      refine k_eq (y := bI (ckR za0 0 11 && ckR zb0 0 4)) (by simp [bI, bc5_6, bc12_8]) ?_
      exact J20 ls (lv_sub hl [0, 1, 2] rfl)

set_option maxHeartbeats 4000000 in
set_option maxRecDepth 100000 in
theorem c4_bookAt (l : Launch) (G : kG) (ad : Nat → Nat) (σ : kS) (nm ns : Nat) (za0 zb0 zc0 : Int32) (hns : σ 18 0 = nI ns) (hns4 : ns ≤ 40) (hnm : σ 17 0 = nI nm) (hnm2 : nm ≤ 200)  (A : Nat → Prop) (hD : DD 16 A ad) : Met l yX4_bookAt [.code yX4_bookAt cX4_bookAt 4 (some .int)] ({ frames := 3, cells := 0, slots := 0, locals := 94 }) (va_Pc [.ref (ad 0), .int za0, .int zb0, .int zc0] (fun U => PM G ad σ U U.heap)) (oW A (fun r => r = vM (ckR za0 0 11 && ckR zb0 0 4, ckR zc0 0 (σ 16 0), true) (boM (su σ 23 0 0) nm ns za0 (ixN zb0) zc0)) (fun H9 => va_P G.1 vwCl (wM G ad (sM (ckR za0 0 11 && ckR zb0 0 4, ckR zc0 0 (σ 16 0), true) σ (fun μ => μ))) H9)) 0 0 A := by
  refine k_of (by decide) (Nat.le_of_ble_eq_true rfl) (fun U h => h.2.2) ?_
  intro p e s m below meth c ls S hr hlocks hmn hB hl
  have hx := S.1
  have hb := S.2.1
  have hX : PM G ad σ s s.heap := hB
  have hS0 : va_S A s.heap s.heap [] := va_S.rf
  have hl : lv_has ls 4 [(0, .ref (ad 0)), (1, .int za0), (2, .int zb0), (3, .int zc0)] := hl
  refine lv_aload_n hx hb dX4_bookAt_0 rfl (lv_at hl 0 rfl) ?_
  have J20 : ∀ ls, lv_has ls 4 [(0, .ref (ad 0)), (1, .int za0), (2, .int zb0), (3, .int zc0)] → W p l e ({ frames := 3, cells := 0, slots := 0, locals := 94 } : Room) s m [.ref (ad 0), .int za0, .int zb0, .int zc0].toArray below meth c s.heap [] 0 0 (MQ below (oW A (fun r => r = vM (ckR za0 0 11 && ckR zb0 0 4, ckR zc0 0 (σ 16 0), true) (boM (su σ 23 0 0) nm ns za0 (ixN zb0) zc0)) (fun H9 => va_P G.1 vwCl (wM G ad (sM (ckR za0 0 11 && ckR zb0 0 4, ckR zc0 0 (σ 16 0), true) σ (fun μ => μ))) H9)) [.ref (ad 0), .int za0, .int zb0, .int zc0].toArray s 0 0 A) (F0 m 20 ls [.int (bI (ckR za0 0 11 && ckR zb0 0 4)), .ref (ad 0)]) := by
    intro ls hl
    refine lv_iload_n hx hb dX4_bookAt_20 rfl (lv_at hl 3 rfl) ?_
    refine lv_iconst (v := 0) hx hb dX4_bookAt_21 (by decide) ?_
    refine lv_aload_n hx hb dX4_bookAt_22 rfl (lv_at hl 0 rfl) ?_
    refine k_get S hX.2 hX.1 0 (C := RX4) (T := TX4) (N := 20) rfl rfl 0 (by decide) inX4 m_575 rfl dX4_bookAt_23 ?_
    refine q_i (r_S S ⟨m_647, m_648, m_40, m_649⟩ ⟨rfl, by decide, by decide, by decide +kernel⟩ (c4_in l zc0 0 (σ 16 0)) ⟨rfl, rfl, Nat.le_of_ble_eq_true rfl, Nat.le_of_ble_eq_true rfl⟩ (ps bl_GL (bG hX.2.2)) (n := 3) (As := [.int zc0, .int 0, .int (σ 16 0)]) (rest := [.int (bI (ckR za0 0 11 && ckR zb0 0 4)), .ref (ad 0)]) rfl hl.1 rfl (Nat.le_of_ble_eq_true rfl) ⟨Nat.le_of_ble_eq_true rfl, Nat.le_of_ble_eq_true rfl⟩ dX4_bookAt_26) (fun r1 (e1 : r1 = bI (ckR zc0 0 (σ 16 0))) => ?_)
    subst e1
    refine lv_iconst (v := 1) hx hb dX4_bookAt_29 (by decide) ?_
    refine q_w (r_V S ⟨m_650, m_652, m_22, m_40, m_653⟩ ⟨rfl, by decide, by decide, by decide +kernel⟩ (c4_goes l G ad σ (ckR za0 0 11 && ckR zb0 0 4) (ckR zc0 0 (σ 16 0)) true A hD) ⟨rfl, rfl, Nat.le_of_ble_eq_true rfl, Nat.le_of_ble_eq_true rfl⟩ (pv_M hX bl_PM (bM hX)) (n := 3) (As := [.int (bI (ckR za0 0 11 && ckR zb0 0 4)), .int (bI (ckR zc0 0 (σ 16 0))), .int (bI true)]) (rest := []) rfl hl.1 rfl (Nat.le_of_ble_eq_true rfl) ⟨Nat.le_of_ble_eq_true rfl, Nat.le_of_ble_eq_true rfl⟩ dX4_bookAt_30) hS0 (fun _ h => h) (fun r2 H2 L2 (e2 : r2 = bI (go3 ((ckR za0 0 11 && ckR zb0 0 4), (ckR zc0 0 (σ 16 0)), true))) h2 _ _ hS2 => ?_)
    subst e2
    have hX2 : PM G ad (su σ 23 0 (goV ((ckR za0 0 11 && ckR zb0 0 4), (ckR zc0 0 (σ 16 0)), true))) s H2 := ⟨h2, hX.2⟩
    refine lv_if_eq (tgt := 46) hx hb dX4_bookAt_33 (by decide) (fun c33_3 => ?_) (fun c33_3 => ?_)
    · have bc33_3 := bI_0 c33_3
      refine lv_iconst (v := 0) hx hb dX4_bookAt_46 (by decide) ?_
      exact W.iret (v := 0) hx hb hr (fun t ht hW => ⟨⟨_, rfl, (by rw [vM_f bc33_3])⟩, (by have e9 : sM (ckR za0 0 11 && ckR zb0 0 4, ckR zc0 0 (σ 16 0), true) σ (fun μ => μ) = su σ 23 0 (goV ((ckR za0 0 11 && ckR zb0 0 4), (ckR zc0 0 (σ 16 0)), true)) := (by rw [sM_f bc33_3]); show va_P G.1 vwCl (wM G ad (sM (ckR za0 0 11 && ckR zb0 0 4, ckR zc0 0 (σ 16 0), true) σ (fun μ => μ))) t.heap; rw [e9, ht]; exact hX2.1), hS2.F ht⟩) hS2.2.2 dX4_bookAt_47
    · have bc33_3 := bI_n c33_3
      have hX4 : PM G ad (su σ 23 0 0) s H2 := by
        have h8 := hX2
        rw [goV_0 bc33_3] at h8
        exact h8
      obtain ⟨q1, q2, q3⟩ := go3_t bc33_3
      obtain ⟨qa, qb⟩ := Bool.and_eq_true_iff.mp q1
      obtain ⟨ar, har, rfl⟩ := ckR_lit (n := 4) qb (by decide)
      have h31ar : ar < 2 ^ 31 := by omega
      refine lv_aload_n hx hb dX4_bookAt_36 rfl (lv_at hl 0 rfl) ?_
      refine lv_iload_n hx hb dX4_bookAt_37 rfl (lv_at hl 1 rfl) ?_
      refine lv_iload_n hx hb dX4_bookAt_38 rfl (lv_at hl 2 rfl) ?_
      refine lv_iload_n hx hb dX4_bookAt_39 rfl (lv_at hl 3 rfl) ?_
      refine q_i (r_V S ⟨m_714, m_716, m_29, m_40, m_717⟩ ⟨rfl, by decide, by decide, by decide +kernel⟩ (c4_bookOf l G ad (su σ 23 0 0) nm ns za0 ar zc0 (by first | exact hns | (rw [← hns]; rfl)) hns4 (by first | exact hnm | (rw [← hnm]; rfl)) hnm2 (by omega)) ⟨rfl, rfl, Nat.le_of_ble_eq_true rfl, Nat.le_of_ble_eq_true rfl⟩ (pv_M hX4 bl_PM (bM hX4)) (n := 3) (As := [.int za0, .int (nI ar), .int zc0]) (rest := []) rfl hl.1 rfl (Nat.le_of_ble_eq_true rfl) ⟨Nat.le_of_ble_eq_true rfl, Nat.le_of_ble_eq_true rfl⟩ dX4_bookAt_40) (fun r5 (e5 : r5 = boM (su σ 23 0 0) nm ns za0 ar zc0) => ?_)
      subst e5
      refine lv_goto (tgt := 47) hx hb dX4_bookAt_43 (by decide) ?_
      exact W.iret (v := boM (su σ 23 0 0) nm ns za0 ar zc0) hx hb hr (fun t ht hW => ⟨⟨_, rfl, (by rw [vM_t bc33_3]; try (first | rfl | simp [ixN_nI h31ar]))⟩, (by have e9 : sM (ckR za0 0 11 && ckR (nI ar) 0 4, ckR zc0 0 (σ 16 0), true) σ (fun μ => μ) = su σ 23 0 0 := (by rw [sM_t bc33_3]; try (first | rfl | simp [ixN_nI h31ar])); show va_P G.1 vwCl (wM G ad (sM (ckR za0 0 11 && ckR (nI ar) 0 4, ckR zc0 0 (σ 16 0), true) σ (fun μ => μ))) t.heap; rw [e9, ht]; exact hX4.1), hS2.F ht⟩) hS2.2.2 dX4_bookAt_47
  refine lv_iload_n hx hb dX4_bookAt_1 rfl (lv_at hl 1 rfl) ?_
  refine q_i (r_S S ⟨m_671, m_672, m_40, m_673⟩ ⟨rfl, by decide, by decide, by decide +kernel⟩ (c4_isPlace l za0) ⟨rfl, rfl, Nat.le_of_ble_eq_true rfl, Nat.le_of_ble_eq_true rfl⟩ (ps bl_GL (bG hX.2.2)) (n := 1) (As := [.int za0]) (rest := [.ref (ad 0)]) rfl hl.1 rfl (Nat.le_of_ble_eq_true rfl) ⟨Nat.le_of_ble_eq_true rfl, Nat.le_of_ble_eq_true rfl⟩ dX4_bookAt_2) (fun r6 (e6 : r6 = bI (ckR za0 0 11)) => ?_)
  subst e6
  refine lv_if_eq (tgt := 19) hx hb dX4_bookAt_5 (by decide) (fun c5_7 => ?_) (fun c5_7 => ?_)
  · have bc5_7 := bI_0 c5_7
    refine lv_iconst (v := 0) hx hb dX4_bookAt_19 (by decide) ?_
    refine k_eq (y := bI (ckR za0 0 11 && ckR zb0 0 4)) (by simp [bI, bc5_7]) ?_
    exact J20 ls (lv_sub hl [0, 1, 2, 3] rfl)
  · have bc5_7 := bI_n c5_7
    refine lv_iload_n hx hb dX4_bookAt_8 rfl (lv_at hl 2 rfl) ?_
    refine q_i (r_S S ⟨m_644, m_645, m_40, m_646⟩ ⟨rfl, by decide, by decide, by decide +kernel⟩ (c4_isArticle l zb0) ⟨rfl, rfl, Nat.le_of_ble_eq_true rfl, Nat.le_of_ble_eq_true rfl⟩ (ps bl_GL (bG hX.2.2)) (n := 1) (As := [.int zb0]) (rest := [.ref (ad 0)]) rfl hl.1 rfl (Nat.le_of_ble_eq_true rfl) ⟨Nat.le_of_ble_eq_true rfl, Nat.le_of_ble_eq_true rfl⟩ dX4_bookAt_9) (fun r8 (e8 : r8 = bI (ckR zb0 0 4)) => ?_)
    subst e8
    refine lv_if_eq (tgt := 19) hx hb dX4_bookAt_12 (by decide) (fun c12_9 => ?_) (fun c12_9 => ?_)
    · have bc12_9 := bI_0 c12_9
      refine lv_iconst (v := 0) hx hb dX4_bookAt_19 (by decide) ?_
      refine k_eq (y := bI (ckR za0 0 11 && ckR zb0 0 4)) (by simp [bI, bc5_7, bc12_9]) ?_
      exact J20 ls (lv_sub hl [0, 1, 2, 3] rfl)
    · have bc12_9 := bI_n c12_9
      refine lv_iconst (v := 1) hx hb dX4_bookAt_15 (by decide) ?_
      refine lv_goto (tgt := 20) hx hb dX4_bookAt_16 (by decide) ?_
      refine k_eq (y := bI (ckR za0 0 11 && ckR zb0 0 4)) (by simp [bI, bc5_7, bc12_9]) ?_
      exact J20 ls (lv_sub hl [0, 1, 2, 3] rfl)

set_option maxHeartbeats 4000000 in
set_option maxRecDepth 100000 in
theorem c4_worth (l : Launch) (G : kG) (ad : Nat → Nat) (σ : kS) (nm ns : Nat) (za0 : Int32) (hns : σ 18 0 = nI ns) (hns4 : ns ≤ 40) (hnm : σ 17 0 = nI nm) (hnm2 : nm ≤ 200)  (A : Nat → Prop) (hD : DD 16 A ad) : Met l yX4_worth [.code yX4_worth cX4_worth 2 (some .int)] ({ frames := 4, cells := 0, slots := 0, locals := 118 }) (va_Pc [.ref (ad 0), .int za0] (fun U => PM G ad σ U U.heap)) (oW A (fun r => r = vM (ckR za0 0 11, true, true) (woM (su σ 23 0 0) nm ns za0 5)) (fun H9 => va_P G.1 vwCl (wM G ad (sM (ckR za0 0 11, true, true) σ (fun μ => μ))) H9)) 0 0 A := by
  refine k_of (by decide) (Nat.le_of_ble_eq_true rfl) (fun U h => h.2.2) ?_
  intro p e s m below meth c ls S hr hlocks hmn hB hl
  have hx := S.1
  have hb := S.2.1
  have hX : PM G ad σ s s.heap := hB
  have hS0 : va_S A s.heap s.heap [] := va_S.rf
  have hl : lv_has ls 2 [(0, .ref (ad 0)), (1, .int za0)] := hl
  refine lv_aload_n hx hb dX4_worth_0 rfl (lv_at hl 0 rfl) ?_
  refine lv_iload_n hx hb dX4_worth_1 rfl (lv_at hl 1 rfl) ?_
  refine q_i (r_S S ⟨m_671, m_672, m_40, m_673⟩ ⟨rfl, by decide, by decide, by decide +kernel⟩ (c4_isPlace l za0) ⟨rfl, rfl, Nat.le_of_ble_eq_true rfl, Nat.le_of_ble_eq_true rfl⟩ (ps bl_GL (bG hX.2.2)) (n := 1) (As := [.int za0]) (rest := [.ref (ad 0)]) rfl hl.1 rfl (Nat.le_of_ble_eq_true rfl) ⟨Nat.le_of_ble_eq_true rfl, Nat.le_of_ble_eq_true rfl⟩ dX4_worth_2) (fun r1 (e1 : r1 = bI (ckR za0 0 11)) => ?_)
  subst e1
  refine lv_iconst (v := 1) hx hb dX4_worth_5 (by decide) ?_
  refine lv_iconst (v := 1) hx hb dX4_worth_6 (by decide) ?_
  refine q_w (r_V S ⟨m_650, m_652, m_22, m_40, m_653⟩ ⟨rfl, by decide, by decide, by decide +kernel⟩ (c4_goes l G ad σ (ckR za0 0 11) true true A hD) ⟨rfl, rfl, Nat.le_of_ble_eq_true rfl, Nat.le_of_ble_eq_true rfl⟩ (pv_M hX bl_PM (bM hX)) (n := 3) (As := [.int (bI (ckR za0 0 11)), .int (bI true), .int (bI true)]) (rest := []) rfl hl.1 rfl (Nat.le_of_ble_eq_true rfl) ⟨Nat.le_of_ble_eq_true rfl, Nat.le_of_ble_eq_true rfl⟩ dX4_worth_7) hS0 (fun _ h => h) (fun r2 H2 L2 (e2 : r2 = bI (go3 ((ckR za0 0 11), true, true))) h2 _ _ hS2 => ?_)
  subst e2
  have hX2 : PM G ad (su σ 23 0 (goV ((ckR za0 0 11), true, true))) s H2 := ⟨h2, hX.2⟩
  refine lv_if_eq (tgt := 21) hx hb dX4_worth_10 (by decide) (fun c10_3 => ?_) (fun c10_3 => ?_)
  · have bc10_3 := bI_0 c10_3
    refine lv_iconst (v := 0) hx hb dX4_worth_21 (by decide) ?_
    exact W.iret (v := 0) hx hb hr (fun t ht hW => ⟨⟨_, rfl, (by rw [vM_f bc10_3])⟩, (by have e9 : sM (ckR za0 0 11, true, true) σ (fun μ => μ) = su σ 23 0 (goV ((ckR za0 0 11), true, true)) := (by rw [sM_f bc10_3]); show va_P G.1 vwCl (wM G ad (sM (ckR za0 0 11, true, true) σ (fun μ => μ))) t.heap; rw [e9, ht]; exact hX2.1), hS2.F ht⟩) hS2.2.2 dX4_worth_22
  · have bc10_3 := bI_n c10_3
    have hX4 : PM G ad (su σ 23 0 0) s H2 := by
      have h8 := hX2
      rw [goV_0 bc10_3] at h8
      exact h8
    obtain ⟨q1, q2, q3⟩ := go3_t bc10_3
    refine lv_aload_n hx hb dX4_worth_13 rfl (lv_at hl 0 rfl) ?_
    refine lv_iload_n hx hb dX4_worth_14 rfl (lv_at hl 1 rfl) ?_
    refine q_i (r_V S ⟨m_754, m_756, m_33, m_40, m_757⟩ ⟨rfl, by decide, by decide, by decide +kernel⟩ (c4_worthOf l G ad (su σ 23 0 0) nm ns za0 (by first | exact hns | (rw [← hns]; rfl)) hns4 (by first | exact hnm | (rw [← hnm]; rfl)) hnm2) ⟨rfl, rfl, Nat.le_of_ble_eq_true rfl, Nat.le_of_ble_eq_true rfl⟩ (pv_M hX4 bl_PM (bM hX4)) (n := 1) (As := [.int za0]) (rest := []) rfl hl.1 rfl (Nat.le_of_ble_eq_true rfl) ⟨Nat.le_of_ble_eq_true rfl, Nat.le_of_ble_eq_true rfl⟩ dX4_worth_15) (fun r5 (e5 : r5 = woM (su σ 23 0 0) nm ns za0 5) => ?_)
    subst e5
    refine lv_goto (tgt := 22) hx hb dX4_worth_18 (by decide) ?_
    exact W.iret (v := woM (su σ 23 0 0) nm ns za0 5) hx hb hr (fun t ht hW => ⟨⟨_, rfl, (by rw [vM_t bc10_3]; try (first | rfl | simp []))⟩, (by have e9 : sM (ckR za0 0 11, true, true) σ (fun μ => μ) = su σ 23 0 0 := (by rw [sM_t bc10_3]; try (first | rfl | simp [])); show va_P G.1 vwCl (wM G ad (sM (ckR za0 0 11, true, true) σ (fun μ => μ))) t.heap; rw [e9, ht]; exact hX4.1), hS2.F ht⟩) hS2.2.2 dX4_worth_22

set_option maxHeartbeats 4000000 in
set_option maxRecDepth 100000 in
theorem c4_stateOf (l : Launch) (G : kG) (ad : Nat → Nat) (σ : kS) (nm ns : Nat) (za0 : Int32) (hns : σ 18 0 = nI ns) (hns4 : ns ≤ 40) (hnm : σ 17 0 = nI nm) (hnm2 : nm ≤ 200)  (A : Nat → Prop) (hD : DD 16 A ad) : Met l yX4_stateOf [.code yX4_stateOf cX4_stateOf 2 (some .int)] ({ frames := 3, cells := 0, slots := 0, locals := 83 }) (va_Pc [.ref (ad 0), .int za0] (fun U => PM G ad σ U U.heap)) (oW A (fun r => r = vM (ckR za0 0 (σ 18 0 - 1), true, true) (σ 9 (ixN za0))) (fun H9 => va_P G.1 vwCl (wM G ad (sM (ckR za0 0 (σ 18 0 - 1), true, true) σ (fun μ => μ))) H9)) 0 0 A := by
  refine k_of (by decide) (Nat.le_of_ble_eq_true rfl) (fun U h => h.2.2) ?_
  intro p e s m below meth c ls S hr hlocks hmn hB hl
  have hx := S.1
  have hb := S.2.1
  have hX : PM G ad σ s s.heap := hB
  have hS0 : va_S A s.heap s.heap [] := va_S.rf
  have hl : lv_has ls 2 [(0, .ref (ad 0)), (1, .int za0)] := hl
  refine lv_aload_n hx hb dX4_stateOf_0 rfl (lv_at hl 0 rfl) ?_
  refine lv_aload_n hx hb dX4_stateOf_1 rfl (lv_at hl 0 rfl) ?_
  refine lv_iload_n hx hb dX4_stateOf_2 rfl (lv_at hl 1 rfl) ?_
  refine q_i (r_V S ⟨m_682, m_684, m_24, m_40, m_685⟩ ⟨rfl, by decide, by decide, by decide +kernel⟩ (c4_isSheet l G ad σ za0) ⟨rfl, rfl, Nat.le_of_ble_eq_true rfl, Nat.le_of_ble_eq_true rfl⟩ (pv_M hX bl_PM (bM hX)) (n := 1) (As := [.int za0]) (rest := [.ref (ad 0)]) rfl hl.1 rfl (Nat.le_of_ble_eq_true rfl) ⟨Nat.le_of_ble_eq_true rfl, Nat.le_of_ble_eq_true rfl⟩ dX4_stateOf_3) (fun r1 (e1 : r1 = bI (ckR za0 0 (σ 18 0 - 1))) => ?_)
  subst e1
  refine lv_iconst (v := 1) hx hb dX4_stateOf_6 (by decide) ?_
  refine lv_iconst (v := 1) hx hb dX4_stateOf_7 (by decide) ?_
  refine q_w (r_V S ⟨m_650, m_652, m_22, m_40, m_653⟩ ⟨rfl, by decide, by decide, by decide +kernel⟩ (c4_goes l G ad σ (ckR za0 0 (σ 18 0 - 1)) true true A hD) ⟨rfl, rfl, Nat.le_of_ble_eq_true rfl, Nat.le_of_ble_eq_true rfl⟩ (pv_M hX bl_PM (bM hX)) (n := 3) (As := [.int (bI (ckR za0 0 (σ 18 0 - 1))), .int (bI true), .int (bI true)]) (rest := []) rfl hl.1 rfl (Nat.le_of_ble_eq_true rfl) ⟨Nat.le_of_ble_eq_true rfl, Nat.le_of_ble_eq_true rfl⟩ dX4_stateOf_8) hS0 (fun _ h => h) (fun r2 H2 L2 (e2 : r2 = bI (go3 ((ckR za0 0 (σ 18 0 - 1)), true, true))) h2 _ _ hS2 => ?_)
  subst e2
  have hX2 : PM G ad (su σ 23 0 (goV ((ckR za0 0 (σ 18 0 - 1)), true, true))) s H2 := ⟨h2, hX.2⟩
  refine lv_if_eq (tgt := 23) hx hb dX4_stateOf_11 (by decide) (fun c11_3 => ?_) (fun c11_3 => ?_)
  · have bc11_3 := bI_0 c11_3
    refine lv_iconst (v := 0) hx hb dX4_stateOf_23 (by decide) ?_
    exact W.iret (v := 0) hx hb hr (fun t ht hW => ⟨⟨_, rfl, (by rw [vM_f bc11_3])⟩, (by have e9 : sM (ckR za0 0 (σ 18 0 - 1), true, true) σ (fun μ => μ) = su σ 23 0 (goV ((ckR za0 0 (σ 18 0 - 1)), true, true)) := (by rw [sM_f bc11_3]); show va_P G.1 vwCl (wM G ad (sM (ckR za0 0 (σ 18 0 - 1), true, true) σ (fun μ => μ))) t.heap; rw [e9, ht]; exact hX2.1), hS2.F ht⟩) hS2.2.2 dX4_stateOf_24
  · have bc11_3 := bI_n c11_3
    have hX4 : PM G ad (su σ 23 0 0) s H2 := by
      have h8 := hX2
      rw [goV_0 bc11_3] at h8
      exact h8
    obtain ⟨q1, q2, q3⟩ := go3_t bc11_3
    obtain ⟨sh, hsh, rfl⟩ := ckR_nI (n := ns) (by rw [← hns]; exact q1) (by omega)
    have h31sh : sh < 2 ^ 31 := by omega
    refine lv_aload_n hx hb dX4_stateOf_14 rfl (lv_at hl 0 rfl) ?_
    refine k_get S hX4.2 hX4.1 0 (C := RX4) (T := TX4) (N := 20) rfl rfl 12 (by decide) inX4 m_587 rfl dX4_stateOf_15 ?_
    refine lv_iload_n hx hb dX4_stateOf_18 rfl (lv_at hl 1 rfl) ?_
    refine k_ild S hX4.2 hX4.1 10 (i := sh) rfl (by omega) (by decide) dX4_stateOf_19 ?_
    refine k_eq (y := σ 9 sh) (by rfl) ?_
    refine lv_goto (tgt := 24) hx hb dX4_stateOf_20 (by decide) ?_
    exact W.iret (v := σ 9 sh) hx hb hr (fun t ht hW => ⟨⟨_, rfl, (by rw [vM_t bc11_3]; try (first | rfl | simp [ixN_nI h31sh]))⟩, (by have e9 : sM (ckR (nI sh) 0 (σ 18 0 - 1), true, true) σ (fun μ => μ) = su σ 23 0 0 := (by rw [sM_t bc11_3]; try (first | rfl | simp [ixN_nI h31sh])); show va_P G.1 vwCl (wM G ad (sM (ckR (nI sh) 0 (σ 18 0 - 1), true, true) σ (fun μ => μ))) t.heap; rw [e9, ht]; exact hX4.1), hS2.F ht⟩) hS2.2.2 dX4_stateOf_24

set_option maxHeartbeats 4000000 in
set_option maxRecDepth 100000 in
theorem c4_cutOf (l : Launch) (G : kG) (ad : Nat → Nat) (σ : kS) (nm ns : Nat) (za0 : Int32) (hns : σ 18 0 = nI ns) (hns4 : ns ≤ 40) (hnm : σ 17 0 = nI nm) (hnm2 : nm ≤ 200)  (A : Nat → Prop) (hD : DD 16 A ad) : Met l yX4_cutOf [.code yX4_cutOf cX4_cutOf 2 (some .int)] ({ frames := 3, cells := 0, slots := 0, locals := 83 }) (va_Pc [.ref (ad 0), .int za0] (fun U => PM G ad σ U U.heap)) (oW A (fun r => r = vM (ckR za0 0 (σ 18 0 - 1), true, true) (σ 8 (ixN za0))) (fun H9 => va_P G.1 vwCl (wM G ad (sM (ckR za0 0 (σ 18 0 - 1), true, true) σ (fun μ => μ))) H9)) 0 0 A := by
  refine k_of (by decide) (Nat.le_of_ble_eq_true rfl) (fun U h => h.2.2) ?_
  intro p e s m below meth c ls S hr hlocks hmn hB hl
  have hx := S.1
  have hb := S.2.1
  have hX : PM G ad σ s s.heap := hB
  have hS0 : va_S A s.heap s.heap [] := va_S.rf
  have hl : lv_has ls 2 [(0, .ref (ad 0)), (1, .int za0)] := hl
  refine lv_aload_n hx hb dX4_cutOf_0 rfl (lv_at hl 0 rfl) ?_
  refine lv_aload_n hx hb dX4_cutOf_1 rfl (lv_at hl 0 rfl) ?_
  refine lv_iload_n hx hb dX4_cutOf_2 rfl (lv_at hl 1 rfl) ?_
  refine q_i (r_V S ⟨m_682, m_684, m_24, m_40, m_685⟩ ⟨rfl, by decide, by decide, by decide +kernel⟩ (c4_isSheet l G ad σ za0) ⟨rfl, rfl, Nat.le_of_ble_eq_true rfl, Nat.le_of_ble_eq_true rfl⟩ (pv_M hX bl_PM (bM hX)) (n := 1) (As := [.int za0]) (rest := [.ref (ad 0)]) rfl hl.1 rfl (Nat.le_of_ble_eq_true rfl) ⟨Nat.le_of_ble_eq_true rfl, Nat.le_of_ble_eq_true rfl⟩ dX4_cutOf_3) (fun r1 (e1 : r1 = bI (ckR za0 0 (σ 18 0 - 1))) => ?_)
  subst e1
  refine lv_iconst (v := 1) hx hb dX4_cutOf_6 (by decide) ?_
  refine lv_iconst (v := 1) hx hb dX4_cutOf_7 (by decide) ?_
  refine q_w (r_V S ⟨m_650, m_652, m_22, m_40, m_653⟩ ⟨rfl, by decide, by decide, by decide +kernel⟩ (c4_goes l G ad σ (ckR za0 0 (σ 18 0 - 1)) true true A hD) ⟨rfl, rfl, Nat.le_of_ble_eq_true rfl, Nat.le_of_ble_eq_true rfl⟩ (pv_M hX bl_PM (bM hX)) (n := 3) (As := [.int (bI (ckR za0 0 (σ 18 0 - 1))), .int (bI true), .int (bI true)]) (rest := []) rfl hl.1 rfl (Nat.le_of_ble_eq_true rfl) ⟨Nat.le_of_ble_eq_true rfl, Nat.le_of_ble_eq_true rfl⟩ dX4_cutOf_8) hS0 (fun _ h => h) (fun r2 H2 L2 (e2 : r2 = bI (go3 ((ckR za0 0 (σ 18 0 - 1)), true, true))) h2 _ _ hS2 => ?_)
  subst e2
  have hX2 : PM G ad (su σ 23 0 (goV ((ckR za0 0 (σ 18 0 - 1)), true, true))) s H2 := ⟨h2, hX.2⟩
  refine lv_if_eq (tgt := 23) hx hb dX4_cutOf_11 (by decide) (fun c11_3 => ?_) (fun c11_3 => ?_)
  · have bc11_3 := bI_0 c11_3
    refine lv_iconst (v := 0) hx hb dX4_cutOf_23 (by decide) ?_
    exact W.iret (v := 0) hx hb hr (fun t ht hW => ⟨⟨_, rfl, (by rw [vM_f bc11_3])⟩, (by have e9 : sM (ckR za0 0 (σ 18 0 - 1), true, true) σ (fun μ => μ) = su σ 23 0 (goV ((ckR za0 0 (σ 18 0 - 1)), true, true)) := (by rw [sM_f bc11_3]); show va_P G.1 vwCl (wM G ad (sM (ckR za0 0 (σ 18 0 - 1), true, true) σ (fun μ => μ))) t.heap; rw [e9, ht]; exact hX2.1), hS2.F ht⟩) hS2.2.2 dX4_cutOf_24
  · have bc11_3 := bI_n c11_3
    have hX4 : PM G ad (su σ 23 0 0) s H2 := by
      have h8 := hX2
      rw [goV_0 bc11_3] at h8
      exact h8
    obtain ⟨q1, q2, q3⟩ := go3_t bc11_3
    obtain ⟨sh, hsh, rfl⟩ := ckR_nI (n := ns) (by rw [← hns]; exact q1) (by omega)
    have h31sh : sh < 2 ^ 31 := by omega
    refine lv_aload_n hx hb dX4_cutOf_14 rfl (lv_at hl 0 rfl) ?_
    refine k_get S hX4.2 hX4.1 0 (C := RX4) (T := TX4) (N := 20) rfl rfl 11 (by decide) inX4 m_586 rfl dX4_cutOf_15 ?_
    refine lv_iload_n hx hb dX4_cutOf_18 rfl (lv_at hl 1 rfl) ?_
    refine k_ild S hX4.2 hX4.1 9 (i := sh) rfl (by omega) (by decide) dX4_cutOf_19 ?_
    refine k_eq (y := σ 8 sh) (by rfl) ?_
    refine lv_goto (tgt := 24) hx hb dX4_cutOf_20 (by decide) ?_
    exact W.iret (v := σ 8 sh) hx hb hr (fun t ht hW => ⟨⟨_, rfl, (by rw [vM_t bc11_3]; try (first | rfl | simp [ixN_nI h31sh]))⟩, (by have e9 : sM (ckR (nI sh) 0 (σ 18 0 - 1), true, true) σ (fun μ => μ) = su σ 23 0 0 := (by rw [sM_t bc11_3]; try (first | rfl | simp [ixN_nI h31sh])); show va_P G.1 vwCl (wM G ad (sM (ckR (nI sh) 0 (σ 18 0 - 1), true, true) σ (fun μ => μ))) t.heap; rw [e9, ht]; exact hX4.1), hS2.F ht⟩) hS2.2.2 dX4_cutOf_24

set_option maxHeartbeats 4000000 in
set_option maxRecDepth 100000 in
theorem c4_counts (l : Launch) (G : kG) (ad : Nat → Nat) (σ : kS) (nm ns : Nat) (za0 zb0 : Int32) (hns : σ 18 0 = nI ns) (hns4 : ns ≤ 40) (hnm : σ 17 0 = nI nm) (hnm2 : nm ≤ 200)  (A : Nat → Prop) (hD : DD 16 A ad) : Met l yX4_counts [.code yX4_counts cX4_counts 3 (some .int)] ({ frames := 3, cells := 0, slots := 0, locals := 83 }) (va_Pc [.ref (ad 0), .int za0, .int zb0] (fun U => PM G ad σ U U.heap)) (oW A (fun r => r = vM (ckR za0 0 (σ 18 0 - 1) && ckR zb0 0 4, true, true) (σ 20 (lnN za0 zb0))) (fun H9 => va_P G.1 vwCl (wM G ad (sM (ckR za0 0 (σ 18 0 - 1) && ckR zb0 0 4, true, true) σ (fun μ => μ))) H9)) 0 0 A := by
  refine k_of (by decide) (Nat.le_of_ble_eq_true rfl) (fun U h => h.2.2) ?_
  intro p e s m below meth c ls S hr hlocks hmn hB hl
  have hx := S.1
  have hb := S.2.1
  have hX : PM G ad σ s s.heap := hB
  have hS0 : va_S A s.heap s.heap [] := va_S.rf
  have hl : lv_has ls 3 [(0, .ref (ad 0)), (1, .int za0), (2, .int zb0)] := hl
  refine lv_aload_n hx hb dX4_counts_0 rfl (lv_at hl 0 rfl) ?_
  have J21 : ∀ ls, lv_has ls 3 [(0, .ref (ad 0)), (1, .int za0), (2, .int zb0)] → W p l e ({ frames := 3, cells := 0, slots := 0, locals := 83 } : Room) s m [.ref (ad 0), .int za0, .int zb0].toArray below meth c s.heap [] 0 0 (MQ below (oW A (fun r => r = vM (ckR za0 0 (σ 18 0 - 1) && ckR zb0 0 4, true, true) (σ 20 (lnN za0 zb0))) (fun H9 => va_P G.1 vwCl (wM G ad (sM (ckR za0 0 (σ 18 0 - 1) && ckR zb0 0 4, true, true) σ (fun μ => μ))) H9)) [.ref (ad 0), .int za0, .int zb0].toArray s 0 0 A) (F0 m 21 ls [.int (bI (ckR za0 0 (σ 18 0 - 1) && ckR zb0 0 4)), .ref (ad 0)]) := by
    intro ls hl
    refine lv_iconst (v := 1) hx hb dX4_counts_21 (by decide) ?_
    refine lv_iconst (v := 1) hx hb dX4_counts_22 (by decide) ?_
    refine q_w (r_V S ⟨m_650, m_652, m_22, m_40, m_653⟩ ⟨rfl, by decide, by decide, by decide +kernel⟩ (c4_goes l G ad σ (ckR za0 0 (σ 18 0 - 1) && ckR zb0 0 4) true true A hD) ⟨rfl, rfl, Nat.le_of_ble_eq_true rfl, Nat.le_of_ble_eq_true rfl⟩ (pv_M hX bl_PM (bM hX)) (n := 3) (As := [.int (bI (ckR za0 0 (σ 18 0 - 1) && ckR zb0 0 4)), .int (bI true), .int (bI true)]) (rest := []) rfl hl.1 rfl (Nat.le_of_ble_eq_true rfl) ⟨Nat.le_of_ble_eq_true rfl, Nat.le_of_ble_eq_true rfl⟩ dX4_counts_23) hS0 (fun _ h => h) (fun r1 H1 L1 (e1 : r1 = bI (go3 ((ckR za0 0 (σ 18 0 - 1) && ckR zb0 0 4), true, true))) h1 _ _ hS1 => ?_)
    subst e1
    have hX1 : PM G ad (su σ 23 0 (goV ((ckR za0 0 (σ 18 0 - 1) && ckR zb0 0 4), true, true))) s H1 := ⟨h1, hX.2⟩
    refine lv_if_eq (tgt := 42) hx hb dX4_counts_26 (by decide) (fun c26_2 => ?_) (fun c26_2 => ?_)
    · have bc26_2 := bI_0 c26_2
      refine lv_iconst (v := 0) hx hb dX4_counts_42 (by decide) ?_
      exact W.iret (v := 0) hx hb hr (fun t ht hW => ⟨⟨_, rfl, (by rw [vM_f bc26_2])⟩, (by have e9 : sM (ckR za0 0 (σ 18 0 - 1) && ckR zb0 0 4, true, true) σ (fun μ => μ) = su σ 23 0 (goV ((ckR za0 0 (σ 18 0 - 1) && ckR zb0 0 4), true, true)) := (by rw [sM_f bc26_2]); show va_P G.1 vwCl (wM G ad (sM (ckR za0 0 (σ 18 0 - 1) && ckR zb0 0 4, true, true) σ (fun μ => μ))) t.heap; rw [e9, ht]; exact hX1.1), hS1.F ht⟩) hS1.2.2 dX4_counts_43
    · have bc26_2 := bI_n c26_2
      have hX3 : PM G ad (su σ 23 0 0) s H1 := by
        have h8 := hX1
        rw [goV_0 bc26_2] at h8
        exact h8
      obtain ⟨q1, q2, q3⟩ := go3_t bc26_2
      obtain ⟨qa, qb⟩ := Bool.and_eq_true_iff.mp q1
      obtain ⟨sh, hsh, rfl⟩ := ckR_nI (n := ns) (by rw [← hns]; exact qa) (by omega)
      have h31sh : sh < 2 ^ 31 := by omega
      obtain ⟨ar, har, rfl⟩ := ckR_lit (n := 4) qb (by decide)
      have h31ar : ar < 2 ^ 31 := by omega
      refine lv_aload_n hx hb dX4_counts_29 rfl (lv_at hl 0 rfl) ?_
      refine k_get S hX3.2 hX3.1 0 (C := RX4) (T := TX4) (N := 20) rfl rfl 13 (by decide) inX4 m_588 rfl dX4_counts_30 ?_
      refine lv_iload_n hx hb dX4_counts_33 rfl (lv_at hl 1 rfl) ?_
      refine lv_iload_n hx hb dX4_counts_34 rfl (lv_at hl 2 rfl) ?_
      refine q_i (r_S S ⟨m_686, m_687, m_40, m_688⟩ ⟨rfl, by decide, by decide, by decide +kernel⟩ (c4_at l sh ar) ⟨rfl, rfl, Nat.le_of_ble_eq_true rfl, Nat.le_of_ble_eq_true rfl⟩ (ps bl_GL (bG hX3.2.2)) (n := 2) (As := [.int (nI sh), .int (nI ar)]) (rest := [.ref (ad 11)]) rfl hl.1 rfl (Nat.le_of_ble_eq_true rfl) ⟨Nat.le_of_ble_eq_true rfl, Nat.le_of_ble_eq_true rfl⟩ dX4_counts_35) (fun r4 (e4 : r4 = nI (sh * 5 + ar)) => ?_)
      subst e4
      refine k_ild S hX3.2 hX3.1 11 (i := (sh * 5 + ar)) rfl (by omega) (by decide) dX4_counts_38 ?_
      refine k_eq (y := σ 20 (sh * 5 + ar)) (by rfl) ?_
      refine lv_goto (tgt := 43) hx hb dX4_counts_39 (by decide) ?_
      exact W.iret (v := σ 20 (sh * 5 + ar)) hx hb hr (fun t ht hW => ⟨⟨_, rfl, (by rw [vM_t bc26_2]; try (first | rfl | simp [lnN, ixN_nI h31sh, ixN_nI h31ar]))⟩, (by have e9 : sM (ckR (nI sh) 0 (σ 18 0 - 1) && ckR (nI ar) 0 4, true, true) σ (fun μ => μ) = su σ 23 0 0 := (by rw [sM_t bc26_2]; try (first | rfl | simp [lnN, ixN_nI h31sh, ixN_nI h31ar])); show va_P G.1 vwCl (wM G ad (sM (ckR (nI sh) 0 (σ 18 0 - 1) && ckR (nI ar) 0 4, true, true) σ (fun μ => μ))) t.heap; rw [e9, ht]; exact hX3.1), hS1.F ht⟩) hS1.2.2 dX4_counts_43
  refine lv_aload_n hx hb dX4_counts_1 rfl (lv_at hl 0 rfl) ?_
  refine lv_iload_n hx hb dX4_counts_2 rfl (lv_at hl 1 rfl) ?_
  refine q_i (r_V S ⟨m_682, m_684, m_24, m_40, m_685⟩ ⟨rfl, by decide, by decide, by decide +kernel⟩ (c4_isSheet l G ad σ za0) ⟨rfl, rfl, Nat.le_of_ble_eq_true rfl, Nat.le_of_ble_eq_true rfl⟩ (pv_M hX bl_PM (bM hX)) (n := 1) (As := [.int za0]) (rest := [.ref (ad 0)]) rfl hl.1 rfl (Nat.le_of_ble_eq_true rfl) ⟨Nat.le_of_ble_eq_true rfl, Nat.le_of_ble_eq_true rfl⟩ dX4_counts_3) (fun r5 (e5 : r5 = bI (ckR za0 0 (σ 18 0 - 1))) => ?_)
  subst e5
  refine lv_if_eq (tgt := 20) hx hb dX4_counts_6 (by decide) (fun c6_6 => ?_) (fun c6_6 => ?_)
  · have bc6_6 := bI_0 c6_6
    refine lv_iconst (v := 0) hx hb dX4_counts_20 (by decide) ?_
    refine k_eq (y := bI (ckR za0 0 (σ 18 0 - 1) && ckR zb0 0 4)) (by simp [bI, bc6_6]) ?_
    exact J21 ls (lv_sub hl [0, 1, 2] rfl)
  · have bc6_6 := bI_n c6_6
    refine lv_iload_n hx hb dX4_counts_9 rfl (lv_at hl 2 rfl) ?_
    refine q_i (r_S S ⟨m_644, m_645, m_40, m_646⟩ ⟨rfl, by decide, by decide, by decide +kernel⟩ (c4_isArticle l zb0) ⟨rfl, rfl, Nat.le_of_ble_eq_true rfl, Nat.le_of_ble_eq_true rfl⟩ (ps bl_GL (bG hX.2.2)) (n := 1) (As := [.int zb0]) (rest := [.ref (ad 0)]) rfl hl.1 rfl (Nat.le_of_ble_eq_true rfl) ⟨Nat.le_of_ble_eq_true rfl, Nat.le_of_ble_eq_true rfl⟩ dX4_counts_10) (fun r7 (e7 : r7 = bI (ckR zb0 0 4)) => ?_)
    subst e7
    refine lv_if_eq (tgt := 20) hx hb dX4_counts_13 (by decide) (fun c13_8 => ?_) (fun c13_8 => ?_)
    · have bc13_8 := bI_0 c13_8
      refine lv_iconst (v := 0) hx hb dX4_counts_20 (by decide) ?_
      refine k_eq (y := bI (ckR za0 0 (σ 18 0 - 1) && ckR zb0 0 4)) (by simp [bI, bc6_6, bc13_8]) ?_
      exact J21 ls (lv_sub hl [0, 1, 2] rfl)
    · have bc13_8 := bI_n c13_8
      refine lv_iconst (v := 1) hx hb dX4_counts_16 (by decide) ?_
      refine lv_goto (tgt := 21) hx hb dX4_counts_17 (by decide) ?_
      refine k_eq (y := bI (ckR za0 0 (σ 18 0 - 1) && ckR zb0 0 4)) (by simp [bI, bc6_6, bc13_8]) ?_
      exact J21 ls (lv_sub hl [0, 1, 2] rfl)

set_option maxHeartbeats 4000000 in
set_option maxRecDepth 100000 in
theorem c4_agreed (l : Launch) (G : kG) (ad : Nat → Nat) (σ : kS) (nm ns : Nat) (za0 zb0 : Int32) (hns : σ 18 0 = nI ns) (hns4 : ns ≤ 40) (hnm : σ 17 0 = nI nm) (hnm2 : nm ≤ 200)  (A : Nat → Prop) (hD : DD 16 A ad) : Met l yX4_agreed [.code yX4_agreed cX4_agreed 3 (some .int)] ({ frames := 3, cells := 0, slots := 0, locals := 83 }) (va_Pc [.ref (ad 0), .int za0, .int zb0] (fun U => PM G ad σ U U.heap)) (oW A (fun r => r = vM (ckR za0 0 (σ 18 0 - 1) && ckR zb0 0 4, true, true) (agM (su σ 23 0 0) (lnN za0 zb0))) (fun H9 => va_P G.1 vwCl (wM G ad (sM (ckR za0 0 (σ 18 0 - 1) && ckR zb0 0 4, true, true) σ (fun μ => μ))) H9)) 0 0 A := by
  refine k_of (by decide) (Nat.le_of_ble_eq_true rfl) (fun U h => h.2.2) ?_
  intro p e s m below meth c ls S hr hlocks hmn hB hl
  have hx := S.1
  have hb := S.2.1
  have hX : PM G ad σ s s.heap := hB
  have hS0 : va_S A s.heap s.heap [] := va_S.rf
  have hl : lv_has ls 3 [(0, .ref (ad 0)), (1, .int za0), (2, .int zb0)] := hl
  refine lv_aload_n hx hb dX4_agreed_0 rfl (lv_at hl 0 rfl) ?_
  have J21 : ∀ ls, lv_has ls 3 [(0, .ref (ad 0)), (1, .int za0), (2, .int zb0)] → W p l e ({ frames := 3, cells := 0, slots := 0, locals := 83 } : Room) s m [.ref (ad 0), .int za0, .int zb0].toArray below meth c s.heap [] 0 0 (MQ below (oW A (fun r => r = vM (ckR za0 0 (σ 18 0 - 1) && ckR zb0 0 4, true, true) (agM (su σ 23 0 0) (lnN za0 zb0))) (fun H9 => va_P G.1 vwCl (wM G ad (sM (ckR za0 0 (σ 18 0 - 1) && ckR zb0 0 4, true, true) σ (fun μ => μ))) H9)) [.ref (ad 0), .int za0, .int zb0].toArray s 0 0 A) (F0 m 21 ls [.int (bI (ckR za0 0 (σ 18 0 - 1) && ckR zb0 0 4)), .ref (ad 0)]) := by
    intro ls hl
    refine lv_iconst (v := 1) hx hb dX4_agreed_21 (by decide) ?_
    refine lv_iconst (v := 1) hx hb dX4_agreed_22 (by decide) ?_
    refine q_w (r_V S ⟨m_650, m_652, m_22, m_40, m_653⟩ ⟨rfl, by decide, by decide, by decide +kernel⟩ (c4_goes l G ad σ (ckR za0 0 (σ 18 0 - 1) && ckR zb0 0 4) true true A hD) ⟨rfl, rfl, Nat.le_of_ble_eq_true rfl, Nat.le_of_ble_eq_true rfl⟩ (pv_M hX bl_PM (bM hX)) (n := 3) (As := [.int (bI (ckR za0 0 (σ 18 0 - 1) && ckR zb0 0 4)), .int (bI true), .int (bI true)]) (rest := []) rfl hl.1 rfl (Nat.le_of_ble_eq_true rfl) ⟨Nat.le_of_ble_eq_true rfl, Nat.le_of_ble_eq_true rfl⟩ dX4_agreed_23) hS0 (fun _ h => h) (fun r1 H1 L1 (e1 : r1 = bI (go3 ((ckR za0 0 (σ 18 0 - 1) && ckR zb0 0 4), true, true))) h1 _ _ hS1 => ?_)
    subst e1
    have hX1 : PM G ad (su σ 23 0 (goV ((ckR za0 0 (σ 18 0 - 1) && ckR zb0 0 4), true, true))) s H1 := ⟨h1, hX.2⟩
    refine lv_if_eq (tgt := 41) hx hb dX4_agreed_26 (by decide) (fun c26_2 => ?_) (fun c26_2 => ?_)
    · have bc26_2 := bI_0 c26_2
      refine lv_iconst (v := 0) hx hb dX4_agreed_41 (by decide) ?_
      exact W.iret (v := 0) hx hb hr (fun t ht hW => ⟨⟨_, rfl, (by rw [vM_f bc26_2])⟩, (by have e9 : sM (ckR za0 0 (σ 18 0 - 1) && ckR zb0 0 4, true, true) σ (fun μ => μ) = su σ 23 0 (goV ((ckR za0 0 (σ 18 0 - 1) && ckR zb0 0 4), true, true)) := (by rw [sM_f bc26_2]); show va_P G.1 vwCl (wM G ad (sM (ckR za0 0 (σ 18 0 - 1) && ckR zb0 0 4, true, true) σ (fun μ => μ))) t.heap; rw [e9, ht]; exact hX1.1), hS1.F ht⟩) hS1.2.2 dX4_agreed_42
    · have bc26_2 := bI_n c26_2
      have hX3 : PM G ad (su σ 23 0 0) s H1 := by
        have h8 := hX1
        rw [goV_0 bc26_2] at h8
        exact h8
      obtain ⟨q1, q2, q3⟩ := go3_t bc26_2
      obtain ⟨qa, qb⟩ := Bool.and_eq_true_iff.mp q1
      obtain ⟨sh, hsh, rfl⟩ := ckR_nI (n := ns) (by rw [← hns]; exact qa) (by omega)
      have h31sh : sh < 2 ^ 31 := by omega
      obtain ⟨ar, har, rfl⟩ := ckR_lit (n := 4) qb (by decide)
      have h31ar : ar < 2 ^ 31 := by omega
      refine lv_aload_n hx hb dX4_agreed_29 rfl (lv_at hl 0 rfl) ?_
      refine lv_iload_n hx hb dX4_agreed_30 rfl (lv_at hl 1 rfl) ?_
      refine lv_iload_n hx hb dX4_agreed_31 rfl (lv_at hl 2 rfl) ?_
      refine q_i (r_S S ⟨m_686, m_687, m_40, m_688⟩ ⟨rfl, by decide, by decide, by decide +kernel⟩ (c4_at l sh ar) ⟨rfl, rfl, Nat.le_of_ble_eq_true rfl, Nat.le_of_ble_eq_true rfl⟩ (ps bl_GL (bG hX3.2.2)) (n := 2) (As := [.int (nI sh), .int (nI ar)]) (rest := [.ref (ad 0)]) rfl hl.1 rfl (Nat.le_of_ble_eq_true rfl) ⟨Nat.le_of_ble_eq_true rfl, Nat.le_of_ble_eq_true rfl⟩ dX4_agreed_32) (fun r4 (e4 : r4 = nI (sh * 5 + ar)) => ?_)
      subst e4
      refine q_i (r_V S ⟨m_693, m_695, m_26, m_40, m_696⟩ ⟨rfl, by decide, by decide, by decide +kernel⟩ (c4_agree l G ad (su σ 23 0 0) (sh * 5 + ar) (by omega)) ⟨rfl, rfl, Nat.le_of_ble_eq_true rfl, Nat.le_of_ble_eq_true rfl⟩ (pv_M hX3 bl_PM (bM hX3)) (n := 1) (As := [.int (nI (sh * 5 + ar))]) (rest := []) rfl hl.1 rfl (Nat.le_of_ble_eq_true rfl) ⟨Nat.le_of_ble_eq_true rfl, Nat.le_of_ble_eq_true rfl⟩ dX4_agreed_35) (fun r5 (e5 : r5 = agM (su σ 23 0 0) (sh * 5 + ar)) => ?_)
      subst e5
      refine lv_goto (tgt := 42) hx hb dX4_agreed_38 (by decide) ?_
      exact W.iret (v := agM (su σ 23 0 0) (sh * 5 + ar)) hx hb hr (fun t ht hW => ⟨⟨_, rfl, (by rw [vM_t bc26_2]; try (first | rfl | simp [lnN, ixN_nI h31sh, ixN_nI h31ar]))⟩, (by have e9 : sM (ckR (nI sh) 0 (σ 18 0 - 1) && ckR (nI ar) 0 4, true, true) σ (fun μ => μ) = su σ 23 0 0 := (by rw [sM_t bc26_2]; try (first | rfl | simp [lnN, ixN_nI h31sh, ixN_nI h31ar])); show va_P G.1 vwCl (wM G ad (sM (ckR (nI sh) 0 (σ 18 0 - 1) && ckR (nI ar) 0 4, true, true) σ (fun μ => μ))) t.heap; rw [e9, ht]; exact hX3.1), hS1.F ht⟩) hS1.2.2 dX4_agreed_42
  refine lv_aload_n hx hb dX4_agreed_1 rfl (lv_at hl 0 rfl) ?_
  refine lv_iload_n hx hb dX4_agreed_2 rfl (lv_at hl 1 rfl) ?_
  refine q_i (r_V S ⟨m_682, m_684, m_24, m_40, m_685⟩ ⟨rfl, by decide, by decide, by decide +kernel⟩ (c4_isSheet l G ad σ za0) ⟨rfl, rfl, Nat.le_of_ble_eq_true rfl, Nat.le_of_ble_eq_true rfl⟩ (pv_M hX bl_PM (bM hX)) (n := 1) (As := [.int za0]) (rest := [.ref (ad 0)]) rfl hl.1 rfl (Nat.le_of_ble_eq_true rfl) ⟨Nat.le_of_ble_eq_true rfl, Nat.le_of_ble_eq_true rfl⟩ dX4_agreed_3) (fun r6 (e6 : r6 = bI (ckR za0 0 (σ 18 0 - 1))) => ?_)
  subst e6
  refine lv_if_eq (tgt := 20) hx hb dX4_agreed_6 (by decide) (fun c6_7 => ?_) (fun c6_7 => ?_)
  · have bc6_7 := bI_0 c6_7
    refine lv_iconst (v := 0) hx hb dX4_agreed_20 (by decide) ?_
    refine k_eq (y := bI (ckR za0 0 (σ 18 0 - 1) && ckR zb0 0 4)) (by simp [bI, bc6_7]) ?_
    exact J21 ls (lv_sub hl [0, 1, 2] rfl)
  · have bc6_7 := bI_n c6_7
    refine lv_iload_n hx hb dX4_agreed_9 rfl (lv_at hl 2 rfl) ?_
    refine q_i (r_S S ⟨m_644, m_645, m_40, m_646⟩ ⟨rfl, by decide, by decide, by decide +kernel⟩ (c4_isArticle l zb0) ⟨rfl, rfl, Nat.le_of_ble_eq_true rfl, Nat.le_of_ble_eq_true rfl⟩ (ps bl_GL (bG hX.2.2)) (n := 1) (As := [.int zb0]) (rest := [.ref (ad 0)]) rfl hl.1 rfl (Nat.le_of_ble_eq_true rfl) ⟨Nat.le_of_ble_eq_true rfl, Nat.le_of_ble_eq_true rfl⟩ dX4_agreed_10) (fun r8 (e8 : r8 = bI (ckR zb0 0 4)) => ?_)
    subst e8
    refine lv_if_eq (tgt := 20) hx hb dX4_agreed_13 (by decide) (fun c13_9 => ?_) (fun c13_9 => ?_)
    · have bc13_9 := bI_0 c13_9
      refine lv_iconst (v := 0) hx hb dX4_agreed_20 (by decide) ?_
      refine k_eq (y := bI (ckR za0 0 (σ 18 0 - 1) && ckR zb0 0 4)) (by simp [bI, bc6_7, bc13_9]) ?_
      exact J21 ls (lv_sub hl [0, 1, 2] rfl)
    · have bc13_9 := bI_n c13_9
      refine lv_iconst (v := 1) hx hb dX4_agreed_16 (by decide) ?_
      refine lv_goto (tgt := 21) hx hb dX4_agreed_17 (by decide) ?_
      refine k_eq (y := bI (ckR za0 0 (σ 18 0 - 1) && ckR zb0 0 4)) (by simp [bI, bc6_7, bc13_9]) ?_
      exact J21 ls (lv_sub hl [0, 1, 2] rfl)

set_option maxHeartbeats 4000000 in
set_option maxRecDepth 100000 in
theorem c4_isSigned (l : Launch) (G : kG) (ad : Nat → Nat) (σ : kS) (nm ns : Nat) (za0 zb0 : Int32) (hns : σ 18 0 = nI ns) (hns4 : ns ≤ 40) (hnm : σ 17 0 = nI nm) (hnm2 : nm ≤ 200)  (A : Nat → Prop) (hD : DD 16 A ad) : Met l yX4_isSigned [.code yX4_isSigned cX4_isSigned 3 (some .boolean)] ({ frames := 3, cells := 0, slots := 0, locals := 83 }) (va_Pc [.ref (ad 0), .int za0, .int zb0] (fun U => PM G ad σ U U.heap)) (oW A (fun r => r = vM (ckR za0 0 (σ 18 0 - 1) && ckR zb0 0 4, true, true) (if σ 14 (lnN za0 zb0) ≤ 0 then 0 else 1)) (fun H9 => va_P G.1 vwCl (wM G ad (sM (ckR za0 0 (σ 18 0 - 1) && ckR zb0 0 4, true, true) σ (fun μ => μ))) H9)) 0 0 A := by
  refine k_of (by decide) (Nat.le_of_ble_eq_true rfl) (fun U h => h.2.2) ?_
  intro p e s m below meth c ls S hr hlocks hmn hB hl
  have hx := S.1
  have hb := S.2.1
  have hX : PM G ad σ s s.heap := hB
  have hS0 : va_S A s.heap s.heap [] := va_S.rf
  have hl : lv_has ls 3 [(0, .ref (ad 0)), (1, .int za0), (2, .int zb0)] := hl
  refine lv_aload_n hx hb dX4_isSigned_0 rfl (lv_at hl 0 rfl) ?_
  have J21 : ∀ ls, lv_has ls 3 [(0, .ref (ad 0)), (1, .int za0), (2, .int zb0)] → W p l e ({ frames := 3, cells := 0, slots := 0, locals := 83 } : Room) s m [.ref (ad 0), .int za0, .int zb0].toArray below meth c s.heap [] 0 0 (MQ below (oW A (fun r => r = vM (ckR za0 0 (σ 18 0 - 1) && ckR zb0 0 4, true, true) (if σ 14 (lnN za0 zb0) ≤ 0 then 0 else 1)) (fun H9 => va_P G.1 vwCl (wM G ad (sM (ckR za0 0 (σ 18 0 - 1) && ckR zb0 0 4, true, true) σ (fun μ => μ))) H9)) [.ref (ad 0), .int za0, .int zb0].toArray s 0 0 A) (F0 m 21 ls [.int (bI (ckR za0 0 (σ 18 0 - 1) && ckR zb0 0 4)), .ref (ad 0)]) := by
    intro ls hl
    refine lv_iconst (v := 1) hx hb dX4_isSigned_21 (by decide) ?_
    refine lv_iconst (v := 1) hx hb dX4_isSigned_22 (by decide) ?_
    refine q_w (r_V S ⟨m_650, m_652, m_22, m_40, m_653⟩ ⟨rfl, by decide, by decide, by decide +kernel⟩ (c4_goes l G ad σ (ckR za0 0 (σ 18 0 - 1) && ckR zb0 0 4) true true A hD) ⟨rfl, rfl, Nat.le_of_ble_eq_true rfl, Nat.le_of_ble_eq_true rfl⟩ (pv_M hX bl_PM (bM hX)) (n := 3) (As := [.int (bI (ckR za0 0 (σ 18 0 - 1) && ckR zb0 0 4)), .int (bI true), .int (bI true)]) (rest := []) rfl hl.1 rfl (Nat.le_of_ble_eq_true rfl) ⟨Nat.le_of_ble_eq_true rfl, Nat.le_of_ble_eq_true rfl⟩ dX4_isSigned_23) hS0 (fun _ h => h) (fun r1 H1 L1 (e1 : r1 = bI (go3 ((ckR za0 0 (σ 18 0 - 1) && ckR zb0 0 4), true, true))) h1 _ _ hS1 => ?_)
    subst e1
    have hX1 : PM G ad (su σ 23 0 (goV ((ckR za0 0 (σ 18 0 - 1) && ckR zb0 0 4), true, true))) s H1 := ⟨h1, hX.2⟩
    refine lv_if_eq (tgt := 46) hx hb dX4_isSigned_26 (by decide) (fun c26_2 => ?_) (fun c26_2 => ?_)
    · have bc26_2 := bI_0 c26_2
      refine lv_iconst (v := 0) hx hb dX4_isSigned_46 (by decide) ?_
      exact W.zret (v := 0) (ty := .boolean) hx hb hr (by first | rfl | exact bI_nar _) (fun t ht hW => ⟨⟨_, rfl, (by rw [vM_f bc26_2])⟩, (by have e9 : sM (ckR za0 0 (σ 18 0 - 1) && ckR zb0 0 4, true, true) σ (fun μ => μ) = su σ 23 0 (goV ((ckR za0 0 (σ 18 0 - 1) && ckR zb0 0 4), true, true)) := (by rw [sM_f bc26_2]); show va_P G.1 vwCl (wM G ad (sM (ckR za0 0 (σ 18 0 - 1) && ckR zb0 0 4, true, true) σ (fun μ => μ))) t.heap; rw [e9, ht]; exact hX1.1), hS1.F ht⟩) hS1.2.2 dX4_isSigned_47
    · have bc26_2 := bI_n c26_2
      have hX3 : PM G ad (su σ 23 0 0) s H1 := by
        have h8 := hX1
        rw [goV_0 bc26_2] at h8
        exact h8
      obtain ⟨q1, q2, q3⟩ := go3_t bc26_2
      obtain ⟨qa, qb⟩ := Bool.and_eq_true_iff.mp q1
      obtain ⟨sh, hsh, rfl⟩ := ckR_nI (n := ns) (by rw [← hns]; exact qa) (by omega)
      have h31sh : sh < 2 ^ 31 := by omega
      obtain ⟨ar, har, rfl⟩ := ckR_lit (n := 4) qb (by decide)
      have h31ar : ar < 2 ^ 31 := by omega
      refine lv_aload_n hx hb dX4_isSigned_29 rfl (lv_at hl 0 rfl) ?_
      refine k_get S hX3.2 hX3.1 0 (C := RX4) (T := TX4) (N := 20) rfl rfl 14 (by decide) inX4 m_589 rfl dX4_isSigned_30 ?_
      refine lv_iload_n hx hb dX4_isSigned_33 rfl (lv_at hl 1 rfl) ?_
      refine lv_iload_n hx hb dX4_isSigned_34 rfl (lv_at hl 2 rfl) ?_
      refine q_i (r_S S ⟨m_686, m_687, m_40, m_688⟩ ⟨rfl, by decide, by decide, by decide +kernel⟩ (c4_at l sh ar) ⟨rfl, rfl, Nat.le_of_ble_eq_true rfl, Nat.le_of_ble_eq_true rfl⟩ (ps bl_GL (bG hX3.2.2)) (n := 2) (As := [.int (nI sh), .int (nI ar)]) (rest := [.ref (ad 12)]) rfl hl.1 rfl (Nat.le_of_ble_eq_true rfl) ⟨Nat.le_of_ble_eq_true rfl, Nat.le_of_ble_eq_true rfl⟩ dX4_isSigned_35) (fun r4 (e4 : r4 = nI (sh * 5 + ar)) => ?_)
      subst e4
      refine k_ild S hX3.2 hX3.1 12 (i := (sh * 5 + ar)) rfl (by omega) (by decide) dX4_isSigned_38 ?_
      refine k_eq (y := σ 14 (sh * 5 + ar)) (by rfl) ?_
      refine lv_if_le (tgt := 46) hx hb dX4_isSigned_39 (by decide) (fun c39_5 => ?_) (fun c39_5 => ?_)
      · have bc39_5 := le_nlt c39_5
        refine lv_iconst (v := 0) hx hb dX4_isSigned_46 (by decide) ?_
        exact W.zret (v := 0) (ty := .boolean) hx hb hr (by first | rfl | exact bI_nar _) (fun t ht hW => ⟨⟨_, rfl, (by rw [vM_t bc26_2]; try (first | rfl | simp [lnN, ixN_nI h31sh, ixN_nI h31ar, c39_5, bc39_5]))⟩, (by have e9 : sM (ckR (nI sh) 0 (σ 18 0 - 1) && ckR (nI ar) 0 4, true, true) σ (fun μ => μ) = su σ 23 0 0 := (by rw [sM_t bc26_2]; try (first | rfl | simp [lnN, ixN_nI h31sh, ixN_nI h31ar, c39_5, bc39_5])); show va_P G.1 vwCl (wM G ad (sM (ckR (nI sh) 0 (σ 18 0 - 1) && ckR (nI ar) 0 4, true, true) σ (fun μ => μ))) t.heap; rw [e9, ht]; exact hX3.1), hS1.F ht⟩) hS1.2.2 dX4_isSigned_47
      · have bc39_5 := nle_lt c39_5
        refine lv_iconst (v := 1) hx hb dX4_isSigned_42 (by decide) ?_
        refine lv_goto (tgt := 47) hx hb dX4_isSigned_43 (by decide) ?_
        exact W.zret (v := 1) (ty := .boolean) hx hb hr (by first | rfl | exact bI_nar _) (fun t ht hW => ⟨⟨_, rfl, (by rw [vM_t bc26_2]; try (first | rfl | simp [lnN, ixN_nI h31sh, ixN_nI h31ar, c39_5, bc39_5]))⟩, (by have e9 : sM (ckR (nI sh) 0 (σ 18 0 - 1) && ckR (nI ar) 0 4, true, true) σ (fun μ => μ) = su σ 23 0 0 := (by rw [sM_t bc26_2]; try (first | rfl | simp [lnN, ixN_nI h31sh, ixN_nI h31ar, c39_5, bc39_5])); show va_P G.1 vwCl (wM G ad (sM (ckR (nI sh) 0 (σ 18 0 - 1) && ckR (nI ar) 0 4, true, true) σ (fun μ => μ))) t.heap; rw [e9, ht]; exact hX3.1), hS1.F ht⟩) hS1.2.2 dX4_isSigned_47
  refine lv_aload_n hx hb dX4_isSigned_1 rfl (lv_at hl 0 rfl) ?_
  refine lv_iload_n hx hb dX4_isSigned_2 rfl (lv_at hl 1 rfl) ?_
  refine q_i (r_V S ⟨m_682, m_684, m_24, m_40, m_685⟩ ⟨rfl, by decide, by decide, by decide +kernel⟩ (c4_isSheet l G ad σ za0) ⟨rfl, rfl, Nat.le_of_ble_eq_true rfl, Nat.le_of_ble_eq_true rfl⟩ (pv_M hX bl_PM (bM hX)) (n := 1) (As := [.int za0]) (rest := [.ref (ad 0)]) rfl hl.1 rfl (Nat.le_of_ble_eq_true rfl) ⟨Nat.le_of_ble_eq_true rfl, Nat.le_of_ble_eq_true rfl⟩ dX4_isSigned_3) (fun r6 (e6 : r6 = bI (ckR za0 0 (σ 18 0 - 1))) => ?_)
  subst e6
  refine lv_if_eq (tgt := 20) hx hb dX4_isSigned_6 (by decide) (fun c6_7 => ?_) (fun c6_7 => ?_)
  · have bc6_7 := bI_0 c6_7
    refine lv_iconst (v := 0) hx hb dX4_isSigned_20 (by decide) ?_
    refine k_eq (y := bI (ckR za0 0 (σ 18 0 - 1) && ckR zb0 0 4)) (by simp [bI, bc6_7]) ?_
    exact J21 ls (lv_sub hl [0, 1, 2] rfl)
  · have bc6_7 := bI_n c6_7
    refine lv_iload_n hx hb dX4_isSigned_9 rfl (lv_at hl 2 rfl) ?_
    refine q_i (r_S S ⟨m_644, m_645, m_40, m_646⟩ ⟨rfl, by decide, by decide, by decide +kernel⟩ (c4_isArticle l zb0) ⟨rfl, rfl, Nat.le_of_ble_eq_true rfl, Nat.le_of_ble_eq_true rfl⟩ (ps bl_GL (bG hX.2.2)) (n := 1) (As := [.int zb0]) (rest := [.ref (ad 0)]) rfl hl.1 rfl (Nat.le_of_ble_eq_true rfl) ⟨Nat.le_of_ble_eq_true rfl, Nat.le_of_ble_eq_true rfl⟩ dX4_isSigned_10) (fun r8 (e8 : r8 = bI (ckR zb0 0 4)) => ?_)
    subst e8
    refine lv_if_eq (tgt := 20) hx hb dX4_isSigned_13 (by decide) (fun c13_9 => ?_) (fun c13_9 => ?_)
    · have bc13_9 := bI_0 c13_9
      refine lv_iconst (v := 0) hx hb dX4_isSigned_20 (by decide) ?_
      refine k_eq (y := bI (ckR za0 0 (σ 18 0 - 1) && ckR zb0 0 4)) (by simp [bI, bc6_7, bc13_9]) ?_
      exact J21 ls (lv_sub hl [0, 1, 2] rfl)
    · have bc13_9 := bI_n c13_9
      refine lv_iconst (v := 1) hx hb dX4_isSigned_16 (by decide) ?_
      refine lv_goto (tgt := 21) hx hb dX4_isSigned_17 (by decide) ?_
      refine k_eq (y := bI (ckR za0 0 (σ 18 0 - 1) && ckR zb0 0 4)) (by simp [bI, bc6_7, bc13_9]) ?_
      exact J21 ls (lv_sub hl [0, 1, 2] rfl)
