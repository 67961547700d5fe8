set_option maxHeartbeats 4000000 in
set_option maxRecDepth 100000 in
theorem c_setPrice (l : Launch) (G : kG) (ad : Nat → Nat) (σ : kS) (nm ns : Nat) (a0 b0 : Int32) (hst : l.stackTraces = false) (hns : σ 18 0 = nI ns) (hns4 : ns ≤ 40) (hnm : σ 17 0 = nI nm) (hnm2 : nm ≤ 200) (A : Nat → Prop) (hD : DD 20 A ad)  : vx_Met l yX3_setPrice [.code yX3_setPrice cX3_setPrice 4 (some .int)] ({ frames := 7, cells := 2, slots := 12, locals := 114 }) (va_Pc [.ref (ad 0), .int a0, .int b0] (fun U => PX G ad σ U U.heap ∧ ZS U U.heap)) (oW A (fun r => eX_setPrice a0 b0 = 0 ∧ r = σ 0 (ixN a0)) (fun H9 => va_P G.1 vwCl (wX G ad (su σ 0 (ixN a0) b0)) H9)) (tX (fun x => eX_setPrice a0 b0 ≠ 0 ∧ x = exN (eX_setPrice a0 b0))) 2 12 A := by
  refine kx_of (by decide) (Nat.le_of_ble_eq_true rfl) (fun U h => h.1.2.2) ?_
  intro p e s m below meth c ls S hr hlocks ht hB hl
  have hx := S.1
  have hb := S.2.1
  have hX : PX G ad σ s s.heap := hB.1
  have hG : GL s := hX.2.2
  have hZ : ZS s s.heap := hB.2
  have hl : lv_has ls 4 [(0, .ref (ad 0)), (1, .int a0), (2, .int b0)] := hl
  have hS0 : va_S A s.heap s.heap [] := va_S.rf
  refine lv_iload_n hx hb dX3_setPrice_0 rfl (lv_at hl 1 rfl) ?_
  refine lv_iconst (v := 5) hx hb dX3_setPrice_1 (by decide) ?_
  refine q_xv (rx_S S ⟨m_222, m_223, m_23, m_224⟩ ⟨rfl, by decide, by decide, by decide +kernel⟩ (c_checkIndex l a0 5 hst) ⟨rfl, rfl, Nat.le_of_ble_eq_true rfl, Nat.le_of_ble_eq_true rfl⟩ (ps bl_GZ (bGZ hX.2.2 hZ)) (n := 2) (As := [.int a0, .int 5]) (rest := []) rfl hl.1 rfl (Nat.le_of_ble_eq_true rfl) ⟨Nat.le_of_ble_eq_true rfl, Nat.le_of_ble_eq_true rfl⟩ dX3_setPrice_2) ht hlocks (by rintro x ⟨rfl, hf1⟩; simp [eX_setPrice, hf1, exN]) (Nat.le_of_ble_eq_true rfl) (Nat.le_of_ble_eq_true rfl) (fun (p1 : ckI a0 5 = true) => ?_)
  obtain ⟨ar, har, rfl⟩ := ckI_nI (n := 5) p1 (by decide)
  have h31ar : ar < 2 ^ 31 := by omega
  refine lv_iload_n hx hb dX3_setPrice_5 rfl (lv_at hl 2 rfl) ?_
  refine lv_iconst (v := 0) hx hb dX3_setPrice_6 (by decide) ?_
  refine lv_sipush (v := 1000) hx hb dX3_setPrice_7 (by decide) ?_
  refine q_xv (rx_S S ⟨m_443, m_444, m_23, m_445⟩ ⟨rfl, by decide, by decide, by decide +kernel⟩ (c_checkRange l b0 0 1000 hst) ⟨rfl, rfl, Nat.le_of_ble_eq_true rfl, Nat.le_of_ble_eq_true rfl⟩ (ps bl_GZ (bGZ hX.2.2 hZ)) (n := 3) (As := [.int b0, .int 0, .int 1000]) (rest := []) rfl hl.1 rfl (Nat.le_of_ble_eq_true rfl) ⟨Nat.le_of_ble_eq_true rfl, Nat.le_of_ble_eq_true rfl⟩ dX3_setPrice_10) ht hlocks (by rintro x ⟨rfl, hf2⟩; simp [eX_setPrice, ixN_nI h31ar, p1, hf2, exN]) (Nat.le_of_ble_eq_true rfl) (Nat.le_of_ble_eq_true rfl) (fun (p2 : ckR b0 0 1000 = true) => ?_)
  refine lv_aload_n hx hb dX3_setPrice_13 rfl (lv_at hl 0 rfl) ?_
  refine k_get S hX.2 hX.1 0 (C := RX3) (T := TX3) (N := 6) rfl rfl 0 (by decide) inX3 m_131 rfl dX3_setPrice_14 ?_
  refine lv_iload_n hx hb dX3_setPrice_17 rfl (lv_at hl 1 rfl) ?_
  refine k_ild S hX.2 hX.1 1 (i := ar) rfl (by omega) (by decide) dX3_setPrice_18 ?_
  refine lv_istore_n (lv' := [(3, .int (σ 0 ar)), (0, .ref (ad 0)), (1, .int (nI ar)), (2, .int b0)]) hx hb dX3_setPrice_19 rfl hl (by decide) rfl (fun ls hl => ?_)
  refine lv_aload_n hx hb dX3_setPrice_20 rfl (lv_at hl 1 rfl) ?_
  refine k_get S hX.2 hX.1 0 (C := RX3) (T := TX3) (N := 6) rfl rfl 0 (by decide) inX3 m_131 rfl dX3_setPrice_21 ?_
  refine lv_iload_n hx hb dX3_setPrice_24 rfl (lv_at hl 2 rfl) ?_
  refine lv_iload_n hx hb dX3_setPrice_25 rfl (lv_at hl 3 rfl) ?_
  refine k_ist S hX.2 hX.1 (hD.w (wX_fst _ _ _)) hS0 1 (i := ar) rfl (by omega) (by decide) dX3_setPrice_26 (fun H3 L3 h3 hS3 => ?_)
  have hX3 : PX G ad (su σ 0 ar b0) s H3 := ⟨h3, hX.2⟩
  refine lv_iload_n hx hb dX3_setPrice_27 rfl (lv_at hl 0 rfl) ?_
  refine vx_ret ?_
  exact W.iret (v := σ 0 ar) hx hb hr (fun t ht hW => ⟨⟨_, rfl, (by simp [eX_setPrice, ixN_nI h31ar, p1, p2])⟩, (by have e9 : su σ 0 (ixN (nI ar)) b0 = su σ 0 ar b0 := (by first | rfl | simp [eX_setPrice, ixN_nI h31ar]); show va_P G.1 vwCl (wX G ad (su σ 0 (ixN (nI ar)) b0)) t.heap; rw [e9, ht]; exact hX3.1), hS3.F ht⟩) hS3.2.2 dX3_setPrice_28

set_option maxHeartbeats 4000000 in
set_option maxRecDepth 100000 in
theorem c_setBound (l : Launch) (G : kG) (ad : Nat → Nat) (σ : kS) (nm ns : Nat) (a0 b0 : Int32) (hst : l.stackTraces = false) (hns : σ 18 0 = nI ns) (hns4 : ns ≤ 40) (hnm : σ 17 0 = nI nm) (hnm2 : nm ≤ 200) (A : Nat → Prop) (hD : DD 20 A ad)  : vx_Met l yX3_setBound [.code yX3_setBound cX3_setBound 4 (some .int)] ({ frames := 7, cells := 2, slots := 12, locals := 114 }) (va_Pc [.ref (ad 0), .int a0, .int b0] (fun U => PX G ad σ U U.heap ∧ ZS U U.heap)) (oW A (fun r => eX_setBound a0 b0 = 0 ∧ r = σ 1 (ixN a0)) (fun H9 => va_P G.1 vwCl (wX G ad (su σ 1 (ixN a0) b0)) H9)) (tX (fun x => eX_setBound a0 b0 ≠ 0 ∧ x = exN (eX_setBound a0 b0))) 2 12 A := by
  refine kx_of (by decide) (Nat.le_of_ble_eq_true rfl) (fun U h => h.1.2.2) ?_
  intro p e s m below meth c ls S hr hlocks ht hB hl
  have hx := S.1
  have hb := S.2.1
  have hX : PX G ad σ s s.heap := hB.1
  have hG : GL s := hX.2.2
  have hZ : ZS s s.heap := hB.2
  have hl : lv_has ls 4 [(0, .ref (ad 0)), (1, .int a0), (2, .int b0)] := hl
  have hS0 : va_S A s.heap s.heap [] := va_S.rf
  refine lv_iload_n hx hb dX3_setBound_0 rfl (lv_at hl 1 rfl) ?_
  refine lv_bipush (v := 6) hx hb dX3_setBound_1 (by decide) ?_
  refine q_xv (rx_S S ⟨m_222, m_223, m_23, m_224⟩ ⟨rfl, by decide, by decide, by decide +kernel⟩ (c_checkIndex l a0 6 hst) ⟨rfl, rfl, Nat.le_of_ble_eq_true rfl, Nat.le_of_ble_eq_true rfl⟩ (ps bl_GZ (bGZ hX.2.2 hZ)) (n := 2) (As := [.int a0, .int 6]) (rest := []) rfl hl.1 rfl (Nat.le_of_ble_eq_true rfl) ⟨Nat.le_of_ble_eq_true rfl, Nat.le_of_ble_eq_true rfl⟩ dX3_setBound_3) ht hlocks (by rintro x ⟨rfl, hf1⟩; simp [eX_setBound, hf1, exN]) (Nat.le_of_ble_eq_true rfl) (Nat.le_of_ble_eq_true rfl) (fun (p1 : ckI a0 6 = true) => ?_)
  obtain ⟨pe, hpe, rfl⟩ := ckI_nI (n := 6) p1 (by decide)
  have h31pe : pe < 2 ^ 31 := by omega
  refine lv_iload_n hx hb dX3_setBound_6 rfl (lv_at hl 2 rfl) ?_
  refine lv_iconst (v := 0) hx hb dX3_setBound_7 (by decide) ?_
  refine lv_ldc (v := 1000000) hx hb S.2.2.2.1 (S.2.2.2.2 _ m_531) dX3_setBound_8 ?_
  refine q_xv (rx_S S ⟨m_443, m_444, m_23, m_445⟩ ⟨rfl, by decide, by decide, by decide +kernel⟩ (c_checkRange l b0 0 1000000 hst) ⟨rfl, rfl, Nat.le_of_ble_eq_true rfl, Nat.le_of_ble_eq_true rfl⟩ (ps bl_GZ (bGZ hX.2.2 hZ)) (n := 3) (As := [.int b0, .int 0, .int 1000000]) (rest := []) rfl hl.1 rfl (Nat.le_of_ble_eq_true rfl) ⟨Nat.le_of_ble_eq_true rfl, Nat.le_of_ble_eq_true rfl⟩ dX3_setBound_10) ht hlocks (by rintro x ⟨rfl, hf2⟩; simp [eX_setBound, ixN_nI h31pe, p1, hf2, exN]) (Nat.le_of_ble_eq_true rfl) (Nat.le_of_ble_eq_true rfl) (fun (p2 : ckR b0 0 1000000 = true) => ?_)
  refine lv_aload_n hx hb dX3_setBound_13 rfl (lv_at hl 0 rfl) ?_
  refine k_get S hX.2 hX.1 0 (C := RX3) (T := TX3) (N := 6) rfl rfl 1 (by decide) inX3 m_132 rfl dX3_setBound_14 ?_
  refine lv_iload_n hx hb dX3_setBound_17 rfl (lv_at hl 1 rfl) ?_
  refine k_ild S hX.2 hX.1 2 (i := pe) rfl (by omega) (by decide) dX3_setBound_18 ?_
  refine lv_istore_n (lv' := [(3, .int (σ 1 pe)), (0, .ref (ad 0)), (1, .int (nI pe)), (2, .int b0)]) hx hb dX3_setBound_19 rfl hl (by decide) rfl (fun ls hl => ?_)
  refine lv_aload_n hx hb dX3_setBound_20 rfl (lv_at hl 1 rfl) ?_
  refine k_get S hX.2 hX.1 0 (C := RX3) (T := TX3) (N := 6) rfl rfl 1 (by decide) inX3 m_132 rfl dX3_setBound_21 ?_
  refine lv_iload_n hx hb dX3_setBound_24 rfl (lv_at hl 2 rfl) ?_
  refine lv_iload_n hx hb dX3_setBound_25 rfl (lv_at hl 3 rfl) ?_
  refine k_ist S hX.2 hX.1 (hD.w (wX_fst _ _ _)) hS0 2 (i := pe) rfl (by omega) (by decide) dX3_setBound_26 (fun H3 L3 h3 hS3 => ?_)
  have hX3 : PX G ad (su σ 1 pe b0) s H3 := ⟨h3, hX.2⟩
  refine lv_iload_n hx hb dX3_setBound_27 rfl (lv_at hl 0 rfl) ?_
  refine vx_ret ?_
  exact W.iret (v := σ 1 pe) hx hb hr (fun t ht hW => ⟨⟨_, rfl, (by simp [eX_setBound, ixN_nI h31pe, p1, p2])⟩, (by have e9 : su σ 1 (ixN (nI pe)) b0 = su σ 1 pe b0 := (by first | rfl | simp [eX_setBound, ixN_nI h31pe]); show va_P G.1 vwCl (wX G ad (su σ 1 (ixN (nI pe)) b0)) t.heap; rw [e9, ht]; exact hX3.1), hS3.F ht⟩) hS3.2.2 dX3_setBound_28

set_option maxHeartbeats 4000000 in
set_option maxRecDepth 100000 in
theorem c_move (l : Launch) (G : kG) (ad : Nat → Nat) (σ : kS) (nm ns : Nat) (a0 b0 c0 d0 e0 : Int32) (hst : l.stackTraces = false) (hns : σ 18 0 = nI ns) (hns4 : ns ≤ 40) (hnm : σ 17 0 = nI nm) (hnm2 : nm ≤ 200) (A : Nat → Prop) (hD : DD 20 A ad)  : vx_Met l yX3_move [.code yX3_move cX3_move 6 (some .int)] ({ frames := 8, cells := 6, slots := 36, locals := 133 }) (va_Pc [.ref (ad 0), .int a0, .int b0, .int c0, .int d0, .int e0] (fun U => PX G ad σ U U.heap ∧ ZS U U.heap)) (oW A (fun r => eX_move σ a0 b0 c0 d0 e0 = 0 ∧ r = nI nm) (fun H9 => va_P G.1 vwCl (wX G ad (mvS σ nm a0 b0 c0 d0 e0)) H9)) (tX (fun x => eX_move σ a0 b0 c0 d0 e0 ≠ 0 ∧ x = exN (eX_move σ a0 b0 c0 d0 e0))) 6 36 A := by
  refine kx_of (by decide) (Nat.le_of_ble_eq_true rfl) (fun U h => h.1.2.2) ?_
  intro p e s m below meth c ls S hr hlocks ht hB hl
  have hx := S.1
  have hb := S.2.1
  have hX : PX G ad σ s s.heap := hB.1
  have hG : GL s := hX.2.2
  have hZ : ZS s s.heap := hB.2
  have hl : lv_has ls 6 [(0, .ref (ad 0)), (1, .int a0), (2, .int b0), (3, .int c0), (4, .int d0), (5, .int e0)] := hl
  have hS0 : va_S A s.heap s.heap [] := va_S.rf
  refine lv_iload_n hx hb dX3_move_0 rfl (lv_at hl 1 rfl) ?_
  refine q_xv (rx_S S ⟨m_501, m_502, m_23, m_503⟩ ⟨rfl, by decide, by decide, by decide +kernel⟩ (c_checkPlace l a0 hst) ⟨rfl, rfl, Nat.le_of_ble_eq_true rfl, Nat.le_of_ble_eq_true rfl⟩ (ps bl_GZ (bGZ hX.2.2 hZ)) (n := 1) (As := [.int a0]) (rest := []) rfl hl.1 rfl (Nat.le_of_ble_eq_true rfl) ⟨Nat.le_of_ble_eq_true rfl, Nat.le_of_ble_eq_true rfl⟩ dX3_move_1) ht hlocks (by rintro x ⟨rfl, hf1⟩; simp [eX_move, hf1, exN]) (Nat.le_of_ble_eq_true rfl) (Nat.le_of_ble_eq_true rfl) (fun (p1 : ckP a0 = true) => ?_)
  refine lv_iload_n hx hb dX3_move_4 rfl (lv_at hl 2 rfl) ?_
  refine q_xv (rx_S S ⟨m_501, m_502, m_23, m_503⟩ ⟨rfl, by decide, by decide, by decide +kernel⟩ (c_checkPlace l b0 hst) ⟨rfl, rfl, Nat.le_of_ble_eq_true rfl, Nat.le_of_ble_eq_true rfl⟩ (ps bl_GZ (bGZ hX.2.2 hZ)) (n := 1) (As := [.int b0]) (rest := []) rfl hl.1 rfl (Nat.le_of_ble_eq_true rfl) ⟨Nat.le_of_ble_eq_true rfl, Nat.le_of_ble_eq_true rfl⟩ dX3_move_5) ht hlocks (by rintro x ⟨rfl, hf2⟩; simp [eX_move, p1, hf2, exN]) (Nat.le_of_ble_eq_true rfl) (Nat.le_of_ble_eq_true rfl) (fun (p2 : ckP b0 = true) => ?_)
  refine lv_iload_n hx hb dX3_move_8 rfl (lv_at hl 3 rfl) ?_
  refine lv_iconst (v := 5) hx hb dX3_move_9 (by decide) ?_
  refine q_xv (rx_S S ⟨m_222, m_223, m_23, m_224⟩ ⟨rfl, by decide, by decide, by decide +kernel⟩ (c_checkIndex l c0 5 hst) ⟨rfl, rfl, Nat.le_of_ble_eq_true rfl, Nat.le_of_ble_eq_true rfl⟩ (ps bl_GZ (bGZ hX.2.2 hZ)) (n := 2) (As := [.int c0, .int 5]) (rest := []) rfl hl.1 rfl (Nat.le_of_ble_eq_true rfl) ⟨Nat.le_of_ble_eq_true rfl, Nat.le_of_ble_eq_true rfl⟩ dX3_move_10) ht hlocks (by rintro x ⟨rfl, hf3⟩; simp [eX_move, p1, p2, hf3, exN]) (Nat.le_of_ble_eq_true rfl) (Nat.le_of_ble_eq_true rfl) (fun (p3 : ckI c0 5 = true) => ?_)
  refine lv_iload_n hx hb dX3_move_13 rfl (lv_at hl 1 rfl) ?_
  refine lv_iload_n hx hb dX3_move_14 rfl (lv_at hl 2 rfl) ?_
  refine lv_icmp_ne (tgt := 28) hx hb dX3_move_15 (by decide) (fun c15_4 => ?_) (fun c15_4 => ?_)
  · have bc15_4 := c15_4
    refine lv_iload hx hb dX3_move_28 (lv_at hl 4 rfl) ?_
    refine lv_iconst (v := 1) hx hb dX3_move_30 (by decide) ?_
    refine lv_sipush (v := 1000) hx hb dX3_move_31 (by decide) ?_
    refine q_xv (rx_S S ⟨m_443, m_444, m_23, m_445⟩ ⟨rfl, by decide, by decide, by decide +kernel⟩ (c_checkRange l d0 1 1000 hst) ⟨rfl, rfl, Nat.le_of_ble_eq_true rfl, Nat.le_of_ble_eq_true rfl⟩ (ps bl_GZ (bGZ hX.2.2 hZ)) (n := 3) (As := [.int d0, .int 1, .int 1000]) (rest := []) rfl hl.1 rfl (Nat.le_of_ble_eq_true rfl) ⟨Nat.le_of_ble_eq_true rfl, Nat.le_of_ble_eq_true rfl⟩ dX3_move_34) ht hlocks (by rintro x ⟨rfl, hf5⟩; simp [eX_move, p1, p2, p3, c15_4, hf5, exN]) (Nat.le_of_ble_eq_true rfl) (Nat.le_of_ble_eq_true rfl) (fun (p5 : ckR d0 1 1000 = true) => ?_)
    refine lv_iload hx hb dX3_move_37 (lv_at hl 5 rfl) ?_
    refine lv_iconst (v := 0) hx hb dX3_move_39 (by decide) ?_
    refine lv_aload_n hx hb dX3_move_40 rfl (lv_at hl 0 rfl) ?_
    refine k_get S hX.2 hX.1 0 (C := RX3) (T := TX3) (N := 6) rfl rfl 5 (by decide) inX3 m_136 rfl dX3_move_41 ?_
    refine q_xv (rx_S S ⟨m_443, m_444, m_23, m_445⟩ ⟨rfl, by decide, by decide, by decide +kernel⟩ (c_checkRange l e0 0 (σ 16 0) hst) ⟨rfl, rfl, Nat.le_of_ble_eq_true rfl, Nat.le_of_ble_eq_true rfl⟩ (ps bl_GZ (bGZ hX.2.2 hZ)) (n := 3) (As := [.int e0, .int 0, .int (σ 16 0)]) (rest := []) rfl hl.1 rfl (Nat.le_of_ble_eq_true rfl) ⟨Nat.le_of_ble_eq_true rfl, Nat.le_of_ble_eq_true rfl⟩ dX3_move_44) ht hlocks (by rintro x ⟨rfl, hf6⟩; simp [eX_move, p1, p2, p3, c15_4, p5, hf6, exN]) (Nat.le_of_ble_eq_true rfl) (Nat.le_of_ble_eq_true rfl) (fun (p6 : ckR e0 0 (σ 16 0) = true) => ?_)
    refine lv_aload_n hx hb dX3_move_47 rfl (lv_at hl 0 rfl) ?_
    refine k_get S hX.2 hX.1 0 (C := RX3) (T := TX3) (N := 6) rfl rfl 2 (by decide) inX3 m_133 rfl dX3_move_48 ?_
    refine k_getN S hX.2 hX.1 3 (C := RX1) (T := TX1) (N := 6) rfl rfl 5 (by decide) inX1 n_57 rfl dX3_move_51 ?_
    refine lv_sipush (v := 200) hx hb dX3_move_54 (by decide) ?_
    refine lv_icmp_lt (tgt := 70) hx hb dX3_move_57 (by decide) (fun c57_7 => ?_) (fun c57_7 => ?_)
    · have bc57_7 := lt_nle c57_7
      have hnm3 : nm < 200 := by
        have h9 := c57_7
        rw [hnm, show (200 : Int32) = nI 200 from rfl, nI_ltI (by omega) (by omega)] at h9
        exact h9
      refine lv_aload_n hx hb dX3_move_70 rfl (lv_at hl 0 rfl) ?_
      refine k_get S hX.2 hX.1 0 (C := RX3) (T := TX3) (N := 6) rfl rfl 2 (by decide) inX3 m_133 rfl dX3_move_71 ?_
      refine lv_iload_n hx hb dX3_move_74 rfl (lv_at hl 1 rfl) ?_
      refine lv_iload_n hx hb dX3_move_75 rfl (lv_at hl 2 rfl) ?_
      refine lv_iload_n hx hb dX3_move_76 rfl (lv_at hl 3 rfl) ?_
      refine lv_iload hx hb dX3_move_77 (lv_at hl 4 rfl) ?_
      refine lv_iload hx hb dX3_move_79 (lv_at hl 5 rfl) ?_
      refine q_w (r_VN S hX.2.2 ⟨n_506, m_508, m_18, m_24, m_509⟩ ⟨rfl, by decide, by decide, by decide +kernel⟩ (c_moveAdd l G ad σ nm a0 b0 c0 d0 e0 hnm hnm3 A hD) ⟨rfl, rfl, Nat.le_of_ble_eq_true rfl, Nat.le_of_ble_eq_true rfl⟩ (pv_X hX 3 rfl rfl bl_PX (bX hX)) (n := 5) (As := [.int a0, .int b0, .int c0, .int d0, .int e0]) (rest := []) rfl hl.1 rfl (Nat.le_of_ble_eq_true rfl) ⟨Nat.le_of_ble_eq_true rfl, Nat.le_of_ble_eq_true rfl⟩ dX3_move_81) hS0 (fun _ h => h) (fun r8 H8 L8 (e8 : r8 = nI nm) h8 _ _ hS8 => ?_)
      subst e8
      have hX8 : PX G ad (mvS σ nm a0 b0 c0 d0 e0) s H8 := ⟨h8, hX.2⟩
      refine W.widen (k := 6) (n := 36) (Nat.le_of_ble_eq_true rfl) (Nat.le_of_ble_eq_true rfl) ?_
      refine vx_ret ?_
      exact W.iret (v := nI nm) hx hb hr (fun t ht hW => ⟨⟨_, rfl, (by simp [eX_move, p1, p2, p3, c15_4, p5, p6, c57_7, bc57_7])⟩, (by have e9 : mvS σ nm a0 b0 c0 d0 e0 = mvS σ nm a0 b0 c0 d0 e0 := (by first | rfl | simp [eX_move]); show va_P G.1 vwCl (wX G ad (mvS σ nm a0 b0 c0 d0 e0)) t.heap; rw [e9, ht]; exact hX8.1), hS8.F ht⟩) hS8.2.2 dX3_move_84
    · have bc57_7 := nlt_le c57_7
      exact k_thr S hG hZ hst at_IS m_403 m_34 (by decide +kernel) n_505 hl.1 ht hlocks ⟨Nat.le_of_ble_eq_true rfl, Nat.le_of_ble_eq_true rfl⟩ ⟨Nat.le_of_ble_eq_true rfl, Nat.le_of_ble_eq_true rfl⟩ ⟨Nat.le_of_ble_eq_true rfl, Nat.le_of_ble_eq_true rfl⟩ (Nat.le_of_ble_eq_true rfl) (by simp [eX_move, p1, p2, p3, c15_4, p5, p6, c57_7, bc57_7, exN]) dX3_move_60 dX3_move_63 dX3_move_64 dX3_move_66 dX3_move_69
  · have bc15_4 := c15_4
    exact k_thr S hG hZ hst at_IA m_446 m_33 (by decide +kernel) n_504 hl.1 ht hlocks ⟨Nat.le_of_ble_eq_true rfl, Nat.le_of_ble_eq_true rfl⟩ ⟨Nat.le_of_ble_eq_true rfl, Nat.le_of_ble_eq_true rfl⟩ ⟨Nat.le_of_ble_eq_true rfl, Nat.le_of_ble_eq_true rfl⟩ (Nat.le_of_ble_eq_true rfl) (by simp [eX_move, p1, p2, p3, c15_4, exN]) dX3_move_18 dX3_move_21 dX3_move_22 dX3_move_24 dX3_move_27

set_option maxHeartbeats 4000000 in
set_option maxRecDepth 100000 in
theorem c_pass (l : Launch) (G : kG) (ad : Nat → Nat) (σ : kS) (nm ns : Nat) (a0 : Int32) (hst : l.stackTraces = false) (hns : σ 18 0 = nI ns) (hns4 : ns ≤ 40) (hnm : σ 17 0 = nI nm) (hnm2 : nm ≤ 200) (A : Nat → Prop) (hD : DD 20 A ad)  : vx_Met l yX3_pass [.code yX3_pass cX3_pass 2 (some .int)] ({ frames := 7, cells := 1, slots := 6, locals := 114 }) (va_Pc [.ref (ad 0), .int a0] (fun U => PX G ad σ U U.heap ∧ ZS U U.heap)) (oW A (fun r => eX_pass a0 = 0 ∧ r = σ 16 0 + a0) (fun H9 => va_P G.1 vwCl (wX G ad (su σ 16 0 (σ 16 0 + a0))) H9)) (tX (fun x => eX_pass a0 ≠ 0 ∧ x = exN (eX_pass a0))) 1 6 A := by
  refine kx_of (by decide) (Nat.le_of_ble_eq_true rfl) (fun U h => h.1.2.2) ?_
  intro p e s m below meth c ls S hr hlocks ht hB hl
  have hx := S.1
  have hb := S.2.1
  have hX : PX G ad σ s s.heap := hB.1
  have hG : GL s := hX.2.2
  have hZ : ZS s s.heap := hB.2
  have hl : lv_has ls 2 [(0, .ref (ad 0)), (1, .int a0)] := hl
  have hS0 : va_S A s.heap s.heap [] := va_S.rf
  refine lv_iload_n hx hb dX3_pass_0 rfl (lv_at hl 1 rfl) ?_
  refine lv_iconst (v := 1) hx hb dX3_pass_1 (by decide) ?_
  refine lv_sipush (v := 1000) hx hb dX3_pass_2 (by decide) ?_
  refine q_xv (rx_S S ⟨m_443, m_444, m_23, m_445⟩ ⟨rfl, by decide, by decide, by decide +kernel⟩ (c_checkRange l a0 1 1000 hst) ⟨rfl, rfl, Nat.le_of_ble_eq_true rfl, Nat.le_of_ble_eq_true rfl⟩ (ps bl_GZ (bGZ hX.2.2 hZ)) (n := 3) (As := [.int a0, .int 1, .int 1000]) (rest := []) rfl hl.1 rfl (Nat.le_of_ble_eq_true rfl) ⟨Nat.le_of_ble_eq_true rfl, Nat.le_of_ble_eq_true rfl⟩ dX3_pass_5) ht hlocks (by rintro x ⟨rfl, hf1⟩; simp [eX_pass, hf1, exN]) (Nat.le_of_ble_eq_true rfl) (Nat.le_of_ble_eq_true rfl) (fun (p1 : ckR a0 1 1000 = true) => ?_)
  refine lv_aload_n hx hb dX3_pass_8 rfl (lv_at hl 0 rfl) ?_
  refine lv_dup hx hb dX3_pass_9 rfl ?_
  refine k_get S hX.2 hX.1 0 (C := RX3) (T := TX3) (N := 6) rfl rfl 5 (by decide) inX3 m_136 rfl dX3_pass_10 ?_
  refine lv_iload_n hx hb dX3_pass_13 rfl (lv_at hl 1 rfl) ?_
  refine lv_iadd hx hb dX3_pass_14 ?_
  refine k_put S hX.2 hX.1 (hD.w (wX_fst _ _ _)) hS0 0 (C := RX3) (T := TX3) (N := 6) rfl rfl 5 (by decide) inX3 tyX3 tyX3_ok nmX3 rfl rfl m_136 (Nat.le_of_ble_eq_true rfl) dX3_pass_15 (fun H2 L2 h2 hS2 => ?_)
  have hX2 : PX G ad (su σ 16 0 ((σ 16 0) + a0)) s H2 := ⟨h2, hX.2⟩
  refine lv_aload_n hx hb dX3_pass_18 rfl (lv_at hl 0 rfl) ?_
  refine k_get S hX2.2 hX2.1 0 (C := RX3) (T := TX3) (N := 6) rfl rfl 5 (by decide) inX3 m_136 rfl dX3_pass_19 ?_
  refine k_eq (y := (σ 16 0) + a0) (by rfl) ?_
  refine k_eq (y := σ 16 0 + a0) (rfl) ?_
  refine vx_ret ?_
  exact W.iret (v := σ 16 0 + a0) hx hb hr (fun t ht hW => ⟨⟨_, rfl, (by simp [eX_pass, p1])⟩, (by have e9 : su σ 16 0 (σ 16 0 + a0) = su σ 16 0 ((σ 16 0) + a0) := (by first | rfl | simp [eX_pass]); show va_P G.1 vwCl (wX G ad (su σ 16 0 (σ 16 0 + a0))) t.heap; rw [e9, ht]; exact hX2.1), hS2.F ht⟩) hS2.2.2 dX3_pass_22

set_option maxHeartbeats 4000000 in
set_option maxRecDepth 100000 in
theorem c_open (l : Launch) (G : kG) (ad : Nat → Nat) (σ : kS) (nm ns : Nat) (a0 : Int32) (hst : l.stackTraces = false) (hns : σ 18 0 = nI ns) (hns4 : ns ≤ 40) (hnm : σ 17 0 = nI nm) (hnm2 : nm ≤ 200) (A : Nat → Prop) (hD : DD 20 A ad)  : vx_Met l yX3_open [.code yX3_open cX3_open 2 (some .int)] ({ frames := 7, cells := 2, slots := 12, locals := 113 }) (va_Pc [.ref (ad 0), .int a0] (fun U => PX G ad σ U U.heap ∧ ZS U U.heap)) (oW A (fun r => eX_open σ ns a0 = 0 ∧ r = nI ns) (fun H9 => va_P G.1 vwCl (wX G ad (shS σ ns a0 (σ 16 0))) H9)) (tX (fun x => eX_open σ ns a0 ≠ 0 ∧ x = exN (eX_open σ ns a0))) 2 12 A := by
  refine kx_of (by decide) (Nat.le_of_ble_eq_true rfl) (fun U h => h.1.2.2) ?_
  intro p e s m below meth c ls S hr hlocks ht hB hl
  have hx := S.1
  have hb := S.2.1
  have hX : PX G ad σ s s.heap := hB.1
  have hG : GL s := hX.2.2
  have hZ : ZS s s.heap := hB.2
  have hl : lv_has ls 2 [(0, .ref (ad 0)), (1, .int a0)] := hl
  have hS0 : va_S A s.heap s.heap [] := va_S.rf
  refine lv_iload_n hx hb dX3_open_0 rfl (lv_at hl 1 rfl) ?_
  refine lv_bipush (v := 12) hx hb dX3_open_1 (by decide) ?_
  refine q_xv (rx_S S ⟨m_222, m_223, m_23, m_224⟩ ⟨rfl, by decide, by decide, by decide +kernel⟩ (c_checkIndex l a0 12 hst) ⟨rfl, rfl, Nat.le_of_ble_eq_true rfl, Nat.le_of_ble_eq_true rfl⟩ (ps bl_GZ (bGZ hX.2.2 hZ)) (n := 2) (As := [.int a0, .int 12]) (rest := []) rfl hl.1 rfl (Nat.le_of_ble_eq_true rfl) ⟨Nat.le_of_ble_eq_true rfl, Nat.le_of_ble_eq_true rfl⟩ dX3_open_3) ht hlocks (by rintro x ⟨rfl, hf1⟩; simp [eX_open, hf1, exN]) (Nat.le_of_ble_eq_true rfl) (Nat.le_of_ble_eq_true rfl) (fun (p1 : ckI a0 12 = true) => ?_)
  refine lv_aload_n hx hb dX3_open_6 rfl (lv_at hl 0 rfl) ?_
  refine k_get S hX.2 hX.1 0 (C := RX3) (T := TX3) (N := 6) rfl rfl 3 (by decide) inX3 m_134 rfl dX3_open_7 ?_
  refine lv_iload_n hx hb dX3_open_10 rfl (lv_at hl 1 rfl) ?_
  refine q_i (r_VN S hX.2.2 ⟨n_158, m_160, m_0, m_25, m_161⟩ ⟨rfl, by decide, by decide, by decide +kernel⟩ (c_isOpenFor l G ad σ ns a0 hns hns4) ⟨rfl, rfl, Nat.le_of_ble_eq_true rfl, Nat.le_of_ble_eq_true rfl⟩ (pv_X hX 4 rfl rfl bl_PX (bX hX)) (n := 1) (As := [.int a0]) (rest := []) rfl hl.1 rfl (Nat.le_of_ble_eq_true rfl) ⟨Nat.le_of_ble_eq_true rfl, Nat.le_of_ble_eq_true rfl⟩ dX3_open_11) (fun r2 (e2 : r2 = bI (opB σ a0 ns)) => ?_)
  subst e2
  refine lv_if_eq (tgt := 27) hx hb dX3_open_14 (by decide) (fun c14_3 => ?_) (fun c14_3 => ?_)
  · have bc14_3 := bI_0 c14_3
    refine lv_aload_n hx hb dX3_open_27 rfl (lv_at hl 0 rfl) ?_
    refine k_get S hX.2 hX.1 0 (C := RX3) (T := TX3) (N := 6) rfl rfl 3 (by decide) inX3 m_134 rfl dX3_open_28 ?_
    refine k_getN S hX.2 hX.1 4 (C := RX2) (T := TX2) (N := 4) rfl rfl 3 (by decide) inX2 n_85 rfl dX3_open_31 ?_
    refine lv_bipush (v := 40) hx hb dX3_open_34 (by decide) ?_
    refine lv_icmp_lt (tgt := 49) hx hb dX3_open_36 (by decide) (fun c36_4 => ?_) (fun c36_4 => ?_)
    · have bc36_4 := lt_nle c36_4
      have hns5 : ns < 40 := by
        have h9 := c36_4
        rw [hns, show (40 : Int32) = nI 40 from rfl, nI_ltI (by omega) (by omega)] at h9
        exact h9
      refine lv_aload_n hx hb dX3_open_49 rfl (lv_at hl 0 rfl) ?_
      refine k_get S hX.2 hX.1 0 (C := RX3) (T := TX3) (N := 6) rfl rfl 3 (by decide) inX3 m_134 rfl dX3_open_50 ?_
      refine lv_iload_n hx hb dX3_open_53 rfl (lv_at hl 1 rfl) ?_
      refine lv_aload_n hx hb dX3_open_54 rfl (lv_at hl 0 rfl) ?_
      refine k_get S hX.2 hX.1 0 (C := RX3) (T := TX3) (N := 6) rfl rfl 5 (by decide) inX3 m_136 rfl dX3_open_55 ?_
      refine q_w (r_VN S hX.2.2 ⟨n_542, m_544, m_19, m_25, m_545⟩ ⟨rfl, by decide, by decide, by decide +kernel⟩ (c_sheetAdd l G ad σ ns a0 (σ 16 0) hns hns5 A hD) ⟨rfl, rfl, Nat.le_of_ble_eq_true rfl, Nat.le_of_ble_eq_true rfl⟩ (pv_X hX 4 rfl rfl bl_PX (bX hX)) (n := 2) (As := [.int a0, .int (σ 16 0)]) (rest := []) rfl hl.1 rfl (Nat.le_of_ble_eq_true rfl) ⟨Nat.le_of_ble_eq_true rfl, Nat.le_of_ble_eq_true rfl⟩ dX3_open_58) hS0 (fun _ h => h) (fun r5 H5 L5 (e5 : r5 = nI ns) h5 _ _ hS5 => ?_)
      subst e5
      have hX5 : PX G ad (shS σ ns a0 (σ 16 0)) s H5 := ⟨h5, hX.2⟩
      refine W.widen (k := 2) (n := 12) (Nat.le_of_ble_eq_true rfl) (Nat.le_of_ble_eq_true rfl) ?_
      refine vx_ret ?_
      exact W.iret (v := nI ns) hx hb hr (fun t ht hW => ⟨⟨_, rfl, (by simp [eX_open, p1, bc14_3, c36_4, bc36_4])⟩, (by have e9 : shS σ ns a0 (σ 16 0) = shS σ ns a0 (σ 16 0) := (by first | rfl | simp [eX_open]); show va_P G.1 vwCl (wX G ad (shS σ ns a0 (σ 16 0))) t.heap; rw [e9, ht]; exact hX5.1), hS5.F ht⟩) hS5.2.2 dX3_open_61
    · have bc36_4 := nlt_le c36_4
      exact k_thr S hG hZ hst at_IS m_403 m_34 (by decide +kernel) n_541 hl.1 ht hlocks ⟨Nat.le_of_ble_eq_true rfl, Nat.le_of_ble_eq_true rfl⟩ ⟨Nat.le_of_ble_eq_true rfl, Nat.le_of_ble_eq_true rfl⟩ ⟨Nat.le_of_ble_eq_true rfl, Nat.le_of_ble_eq_true rfl⟩ (Nat.le_of_ble_eq_true rfl) (by simp [eX_open, p1, bc14_3, c36_4, bc36_4, exN]) dX3_open_39 dX3_open_42 dX3_open_43 dX3_open_45 dX3_open_48
  · have bc14_3 := bI_n c14_3
    exact k_thr S hG hZ hst at_IS m_403 m_34 (by decide +kernel) n_540 hl.1 ht hlocks ⟨Nat.le_of_ble_eq_true rfl, Nat.le_of_ble_eq_true rfl⟩ ⟨Nat.le_of_ble_eq_true rfl, Nat.le_of_ble_eq_true rfl⟩ ⟨Nat.le_of_ble_eq_true rfl, Nat.le_of_ble_eq_true rfl⟩ (Nat.le_of_ble_eq_true rfl) (by simp [eX_open, p1, bc14_3, exN]) dX3_open_17 dX3_open_20 dX3_open_21 dX3_open_23 dX3_open_26

set_option maxHeartbeats 4000000 in
set_option maxRecDepth 100000 in
theorem c_count (l : Launch) (G : kG) (ad : Nat → Nat) (σ : kS) (nm ns : Nat) (a0 b0 c0 d0 : Int32) (hst : l.stackTraces = false) (hns : σ 18 0 = nI ns) (hns4 : ns ≤ 40) (hnm : σ 17 0 = nI nm) (hnm2 : nm ≤ 200) (A : Nat → Prop) (hD : DD 20 A ad)  : vx_Met l yX3_count [.code yX3_count cX3_count 6 (some .boolean)] ({ frames := 7, cells := 5, slots := 30, locals := 114 }) (va_Pc [.ref (ad 0), .int a0, .int b0, .int c0, .int d0] (fun U => PX G ad σ U U.heap ∧ ZS U U.heap)) (oW A (fun r => eX_count σ a0 b0 c0 d0 = 0 ∧ r = bI (agB (adS σ (lnN a0 c0) b0 d0) (lnN a0 c0))) (fun H9 => va_P G.1 vwCl (wX G ad (adS σ (lnN a0 c0) b0 d0)) H9)) (tX (fun x => eX_count σ a0 b0 c0 d0 ≠ 0 ∧ x = exN (eX_count σ a0 b0 c0 d0))) 5 30 A := by
  refine kx_of (by decide) (Nat.le_of_ble_eq_true rfl) (fun U h => h.1.2.2) ?_
  intro p e s m below meth c ls S hr hlocks ht hB hl
  have hx := S.1
  have hb := S.2.1
  have hX : PX G ad σ s s.heap := hB.1
  have hG : GL s := hX.2.2
  have hZ : ZS s s.heap := hB.2
  have hl : lv_has ls 6 [(0, .ref (ad 0)), (1, .int a0), (2, .int b0), (3, .int c0), (4, .int d0)] := hl
  have hS0 : va_S A s.heap s.heap [] := va_S.rf
  refine lv_iload_n hx hb dX3_count_0 rfl (lv_at hl 1 rfl) ?_
  refine lv_aload_n hx hb dX3_count_1 rfl (lv_at hl 0 rfl) ?_
  refine k_get S hX.2 hX.1 0 (C := RX3) (T := TX3) (N := 6) rfl rfl 3 (by decide) inX3 m_134 rfl dX3_count_2 ?_
  refine k_getN S hX.2 hX.1 4 (C := RX2) (T := TX2) (N := 4) rfl rfl 3 (by decide) inX2 n_85 rfl dX3_count_5 ?_
  refine q_xv (rx_S S ⟨m_222, m_223, m_23, m_224⟩ ⟨rfl, by decide, by decide, by decide +kernel⟩ (c_checkIndex l a0 (σ 18 0) hst) ⟨rfl, rfl, Nat.le_of_ble_eq_true rfl, Nat.le_of_ble_eq_true rfl⟩ (ps bl_GZ (bGZ hX.2.2 hZ)) (n := 2) (As := [.int a0, .int (σ 18 0)]) (rest := []) rfl hl.1 rfl (Nat.le_of_ble_eq_true rfl) ⟨Nat.le_of_ble_eq_true rfl, Nat.le_of_ble_eq_true rfl⟩ dX3_count_8) ht hlocks (by rintro x ⟨rfl, hf1⟩; simp [eX_count, lnN, hf1, exN]) (Nat.le_of_ble_eq_true rfl) (Nat.le_of_ble_eq_true rfl) (fun (p1 : ckI a0 (σ 18 0) = true) => ?_)
  obtain ⟨sh, hsh, rfl⟩ := ckI_nI (n := ns) (by rw [← hns]; exact p1) (by omega)
  have h31sh : sh < 2 ^ 31 := by omega
  refine lv_iload_n hx hb dX3_count_11 rfl (lv_at hl 2 rfl) ?_
  refine lv_bipush (v := 6) hx hb dX3_count_12 (by decide) ?_
  refine q_xv (rx_S S ⟨m_222, m_223, m_23, m_224⟩ ⟨rfl, by decide, by decide, by decide +kernel⟩ (c_checkIndex l b0 6 hst) ⟨rfl, rfl, Nat.le_of_ble_eq_true rfl, Nat.le_of_ble_eq_true rfl⟩ (ps bl_GZ (bGZ hX.2.2 hZ)) (n := 2) (As := [.int b0, .int 6]) (rest := []) rfl hl.1 rfl (Nat.le_of_ble_eq_true rfl) ⟨Nat.le_of_ble_eq_true rfl, Nat.le_of_ble_eq_true rfl⟩ dX3_count_14) ht hlocks (by rintro x ⟨rfl, hf2⟩; simp [eX_count, lnN, ixN_nI h31sh, p1, hf2, exN]) (Nat.le_of_ble_eq_true rfl) (Nat.le_of_ble_eq_true rfl) (fun (p2 : ckI b0 6 = true) => ?_)
  refine lv_iload_n hx hb dX3_count_17 rfl (lv_at hl 3 rfl) ?_
  refine lv_iconst (v := 5) hx hb dX3_count_18 (by decide) ?_
  refine q_xv (rx_S S ⟨m_222, m_223, m_23, m_224⟩ ⟨rfl, by decide, by decide, by decide +kernel⟩ (c_checkIndex l c0 5 hst) ⟨rfl, rfl, Nat.le_of_ble_eq_true rfl, Nat.le_of_ble_eq_true rfl⟩ (ps bl_GZ (bGZ hX.2.2 hZ)) (n := 2) (As := [.int c0, .int 5]) (rest := []) rfl hl.1 rfl (Nat.le_of_ble_eq_true rfl) ⟨Nat.le_of_ble_eq_true rfl, Nat.le_of_ble_eq_true rfl⟩ dX3_count_19) ht hlocks (by rintro x ⟨rfl, hf3⟩; simp [eX_count, lnN, ixN_nI h31sh, p1, p2, hf3, exN]) (Nat.le_of_ble_eq_true rfl) (Nat.le_of_ble_eq_true rfl) (fun (p3 : ckI c0 5 = true) => ?_)
  obtain ⟨ar, har, rfl⟩ := ckI_nI (n := 5) p3 (by decide)
  have h31ar : ar < 2 ^ 31 := by omega
  refine lv_iload hx hb dX3_count_22 (lv_at hl 4 rfl) ?_
  refine lv_iconst (v := 0) hx hb dX3_count_24 (by decide) ?_
  refine lv_ldc (v := 100000) hx hb S.2.2.2.1 (S.2.2.2.2 _ m_553) dX3_count_25 ?_
  refine q_xv (rx_S S ⟨m_443, m_444, m_23, m_445⟩ ⟨rfl, by decide, by decide, by decide +kernel⟩ (c_checkRange l d0 0 100000 hst) ⟨rfl, rfl, Nat.le_of_ble_eq_true rfl, Nat.le_of_ble_eq_true rfl⟩ (ps bl_GZ (bGZ hX.2.2 hZ)) (n := 3) (As := [.int d0, .int 0, .int 100000]) (rest := []) rfl hl.1 rfl (Nat.le_of_ble_eq_true rfl) ⟨Nat.le_of_ble_eq_true rfl, Nat.le_of_ble_eq_true rfl⟩ dX3_count_27) ht hlocks (by rintro x ⟨rfl, hf4⟩; simp [eX_count, lnN, ixN_nI h31sh, ixN_nI h31ar, p1, p2, p3, hf4, exN]) (Nat.le_of_ble_eq_true rfl) (Nat.le_of_ble_eq_true rfl) (fun (p4 : ckR d0 0 100000 = true) => ?_)
  refine lv_iload_n hx hb dX3_count_30 rfl (lv_at hl 1 rfl) ?_
  refine lv_iload_n hx hb dX3_count_31 rfl (lv_at hl 3 rfl) ?_
  refine q_i (r_S S ⟨m_183, m_184, m_23, m_185⟩ ⟨rfl, by decide, by decide, by decide +kernel⟩ (c_lineOf l sh ar) ⟨rfl, rfl, Nat.le_of_ble_eq_true rfl, Nat.le_of_ble_eq_true rfl⟩ (ps bl_GL (bG hX.2.2)) (n := 2) (As := [.int (nI sh), .int (nI ar)]) (rest := []) rfl hl.1 rfl (Nat.le_of_ble_eq_true rfl) ⟨Nat.le_of_ble_eq_true rfl, Nat.le_of_ble_eq_true rfl⟩ dX3_count_32) (fun r5 (e5 : r5 = nI (sh * 5 + ar)) => ?_)
  subst e5
  refine lv_istore (lv' := [(5, .int (nI (sh * 5 + ar))), (0, .ref (ad 0)), (1, .int (nI sh)), (2, .int b0), (3, .int (nI ar)), (4, .int d0)]) hx hb dX3_count_35 hl (by decide) rfl (fun ls hl => ?_)
  refine lv_aload_n hx hb dX3_count_37 rfl (lv_at hl 1 rfl) ?_
  refine k_get S hX.2 hX.1 0 (C := RX3) (T := TX3) (N := 6) rfl rfl 3 (by decide) inX3 m_134 rfl dX3_count_38 ?_
  refine k_getN S hX.2 hX.1 4 (C := RX2) (T := TX2) (N := 4) rfl rfl 2 (by decide) inX2 n_83 rfl dX3_count_41 ?_
  refine lv_iload_n hx hb dX3_count_44 rfl (lv_at hl 2 rfl) ?_
  refine k_zld S hX.2 hX.1 13 (i := sh) rfl (by omega) (by decide) dX3_count_45 ?_
  refine lv_if_eq (tgt := 59) hx hb dX3_count_46 (by decide) (fun c46_6 => ?_) (fun c46_6 => ?_)
  · have bc46_6 := c46_6
    refine lv_aload_n hx hb dX3_count_59 rfl (lv_at hl 1 rfl) ?_
    refine k_get S hX.2 hX.1 0 (C := RX3) (T := TX3) (N := 6) rfl rfl 4 (by decide) inX3 m_135 rfl dX3_count_60 ?_
    refine lv_iload hx hb dX3_count_63 (lv_at hl 0 rfl) ?_
    refine q_i (r_VN S hX.2.2 ⟨n_358, m_360, m_14, m_26, m_361⟩ ⟨rfl, by decide, by decide, by decide +kernel⟩ (c_agrees l G ad σ (sh * 5 + ar) (by omega)) ⟨rfl, rfl, Nat.le_of_ble_eq_true rfl, Nat.le_of_ble_eq_true rfl⟩ (pv_X hX 5 rfl rfl bl_PX (bX hX)) (n := 1) (As := [.int (nI (sh * 5 + ar))]) (rest := []) rfl hl.1 rfl (Nat.le_of_ble_eq_true rfl) ⟨Nat.le_of_ble_eq_true rfl, Nat.le_of_ble_eq_true rfl⟩ dX3_count_65) (fun r7 (e7 : r7 = bI (agB σ (sh * 5 + ar))) => ?_)
    subst e7
    refine lv_if_eq (tgt := 81) hx hb dX3_count_68 (by decide) (fun c68_8 => ?_) (fun c68_8 => ?_)
    · have bc68_8 := bI_0 c68_8
      refine lv_aload_n hx hb dX3_count_81 rfl (lv_at hl 1 rfl) ?_
      refine k_get S hX.2 hX.1 0 (C := RX3) (T := TX3) (N := 6) rfl rfl 4 (by decide) inX3 m_135 rfl dX3_count_82 ?_
      refine lv_iload hx hb dX3_count_85 (lv_at hl 0 rfl) ?_
      refine lv_iload_n hx hb dX3_count_87 rfl (lv_at hl 3 rfl) ?_
      refine q_i (r_VN S hX.2.2 ⟨n_556, m_558, m_20, m_26, m_559⟩ ⟨rfl, by decide, by decide, by decide +kernel⟩ (c_isCountedBy l G ad σ (sh * 5 + ar) b0 (by omega)) ⟨rfl, rfl, Nat.le_of_ble_eq_true rfl, Nat.le_of_ble_eq_true rfl⟩ (pv_X hX 5 rfl rfl bl_PX (bX hX)) (n := 2) (As := [.int (nI (sh * 5 + ar)), .int b0]) (rest := []) rfl hl.1 rfl (Nat.le_of_ble_eq_true rfl) ⟨Nat.le_of_ble_eq_true rfl, Nat.le_of_ble_eq_true rfl⟩ dX3_count_88) (fun r9 (e9 : r9 = bI (cbB σ (sh * 5 + ar) b0)) => ?_)
      subst e9
      refine lv_if_eq (tgt := 104) hx hb dX3_count_91 (by decide) (fun c91_10 => ?_) (fun c91_10 => ?_)
      · have bc91_10 := bI_0 c91_10
        refine lv_aload_n hx hb dX3_count_104 rfl (lv_at hl 1 rfl) ?_
        refine k_get S hX.2 hX.1 0 (C := RX3) (T := TX3) (N := 6) rfl rfl 4 (by decide) inX3 m_135 rfl dX3_count_105 ?_
        refine lv_iload hx hb dX3_count_108 (lv_at hl 0 rfl) ?_
        refine lv_iload_n hx hb dX3_count_110 rfl (lv_at hl 3 rfl) ?_
        refine lv_iload hx hb dX3_count_111 (lv_at hl 5 rfl) ?_
        refine q_wv (r_VN S hX.2.2 ⟨n_561, m_563, m_21, m_26, m_564⟩ ⟨rfl, by decide, by decide, by decide +kernel⟩ (c_lineAdd l G ad σ (sh * 5 + ar) b0 d0 (by omega) A hD) ⟨rfl, rfl, Nat.le_of_ble_eq_true rfl, Nat.le_of_ble_eq_true rfl⟩ (pv_X hX 5 rfl rfl bl_PX (bX hX)) (n := 3) (As := [.int (nI (sh * 5 + ar)), .int b0, .int d0]) (rest := []) rfl hl.1 rfl (Nat.le_of_ble_eq_true rfl) ⟨Nat.le_of_ble_eq_true rfl, Nat.le_of_ble_eq_true rfl⟩ dX3_count_113) hS0 (fun _ h => h) (fun H11 L11 _ h11 _ _ hS11 => ?_)
        have hX11 : PX G ad (adS σ (sh * 5 + ar) b0 d0) s H11 := ⟨h11, hX.2⟩
        refine lv_aload_n hx hb dX3_count_116 rfl (lv_at hl 1 rfl) ?_
        refine k_get S hX11.2 hX11.1 0 (C := RX3) (T := TX3) (N := 6) rfl rfl 4 (by decide) inX3 m_135 rfl dX3_count_117 ?_
        refine lv_iload hx hb dX3_count_120 (lv_at hl 0 rfl) ?_
        refine q_i (r_VN S hX11.2.2 ⟨n_358, m_360, m_14, m_26, m_361⟩ ⟨rfl, by decide, by decide, by decide +kernel⟩ (c_agrees l G ad (adS σ (sh * 5 + ar) b0 d0) (sh * 5 + ar) (by omega)) ⟨rfl, rfl, Nat.le_of_ble_eq_true rfl, Nat.le_of_ble_eq_true rfl⟩ (pv_X hX11 5 rfl rfl bl_PX (bX hX11)) (n := 1) (As := [.int (nI (sh * 5 + ar))]) (rest := []) rfl hl.1 rfl (Nat.le_of_ble_eq_true rfl) ⟨Nat.le_of_ble_eq_true rfl, Nat.le_of_ble_eq_true rfl⟩ dX3_count_122) (fun r12 (e12 : r12 = bI (agB (adS σ (sh * 5 + ar) b0 d0) (sh * 5 + ar))) => ?_)
        subst e12
        refine W.widen (k := 5) (n := 30) (Nat.le_of_ble_eq_true rfl) (Nat.le_of_ble_eq_true rfl) ?_
        refine vx_ret ?_
        exact W.zret (v := bI (agB (adS σ (sh * 5 + ar) b0 d0) (sh * 5 + ar))) (ty := .boolean) hx hb hr (by first | rfl | exact bI_nar _) (fun t ht hW => ⟨⟨_, rfl, (by simp [eX_count, lnN, ixN_nI h31sh, ixN_nI h31ar, p1, p2, p3, p4, c46_6, bc68_8, bc91_10])⟩, (by have e9 : adS σ (lnN (nI sh) (nI ar)) b0 d0 = adS σ (sh * 5 + ar) b0 d0 := (by first | rfl | simp [eX_count, lnN, ixN_nI h31sh, ixN_nI h31ar]); show va_P G.1 vwCl (wX G ad (adS σ (lnN (nI sh) (nI ar)) b0 d0)) t.heap; rw [e9, ht]; exact hX11.1), hS11.F ht⟩) hS11.2.2 dX3_count_125
      · have bc91_10 := bI_n c91_10
        exact k_thr S hG hZ hst at_IS m_403 m_34 (by decide +kernel) n_560 hl.1 ht hlocks ⟨Nat.le_of_ble_eq_true rfl, Nat.le_of_ble_eq_true rfl⟩ ⟨Nat.le_of_ble_eq_true rfl, Nat.le_of_ble_eq_true rfl⟩ ⟨Nat.le_of_ble_eq_true rfl, Nat.le_of_ble_eq_true rfl⟩ (Nat.le_of_ble_eq_true rfl) (by simp [eX_count, lnN, ixN_nI h31sh, ixN_nI h31ar, p1, p2, p3, p4, c46_6, bc68_8, bc91_10, exN]) dX3_count_94 dX3_count_97 dX3_count_98 dX3_count_100 dX3_count_103
    · have bc68_8 := bI_n c68_8
      exact k_thr S hG hZ hst at_IS m_403 m_34 (by decide +kernel) n_555 hl.1 ht hlocks ⟨Nat.le_of_ble_eq_true rfl, Nat.le_of_ble_eq_true rfl⟩ ⟨Nat.le_of_ble_eq_true rfl, Nat.le_of_ble_eq_true rfl⟩ ⟨Nat.le_of_ble_eq_true rfl, Nat.le_of_ble_eq_true rfl⟩ (Nat.le_of_ble_eq_true rfl) (by simp [eX_count, lnN, ixN_nI h31sh, ixN_nI h31ar, p1, p2, p3, p4, c46_6, bc68_8, exN]) dX3_count_71 dX3_count_74 dX3_count_75 dX3_count_77 dX3_count_80
  · have bc46_6 := c46_6
    exact k_thr S hG hZ hst at_IS m_403 m_34 (by decide +kernel) n_554 hl.1 ht hlocks ⟨Nat.le_of_ble_eq_true rfl, Nat.le_of_ble_eq_true rfl⟩ ⟨Nat.le_of_ble_eq_true rfl, Nat.le_of_ble_eq_true rfl⟩ ⟨Nat.le_of_ble_eq_true rfl, Nat.le_of_ble_eq_true rfl⟩ (Nat.le_of_ble_eq_true rfl) (by simp [eX_count, lnN, ixN_nI h31sh, ixN_nI h31ar, p1, p2, p3, p4, c46_6, exN]) dX3_count_49 dX3_count_52 dX3_count_53 dX3_count_55 dX3_count_58

set_option maxHeartbeats 4000000 in
set_option maxRecDepth 100000 in
theorem c_close (l : Launch) (G : kG) (ad : Nat → Nat) (σ : kS) (nm ns : Nat) (a0 : Int32) (hst : l.stackTraces = false) (hns : σ 18 0 = nI ns) (hns4 : ns ≤ 40) (hnm : σ 17 0 = nI nm) (hnm2 : nm ≤ 200) (A : Nat → Prop) (hD : DD 20 A ad)  : vx_Met l yX3_close [.code yX3_close cX3_close 5 (some .int)] ({ frames := 7, cells := 2, slots := 12, locals := 113 }) (va_Pc [.ref (ad 0), .int a0] (fun U => PX G ad σ U U.heap ∧ ZS U U.heap)) (oW A (fun r => eX_close σ a0 = 0 ∧ r = clA σ (ixN a0) 5) (fun H9 => va_P G.1 vwCl (wX G ad (su σ 9 (ixN a0) 1)) H9)) (tX (fun x => eX_close σ a0 ≠ 0 ∧ x = exN (eX_close σ a0))) 2 12 A := by
  refine kx_of (by decide) (Nat.le_of_ble_eq_true rfl) (fun U h => h.1.2.2) ?_
  intro p e s m below meth c ls S hr hlocks ht hB hl
  have hx := S.1
  have hb := S.2.1
  have hX : PX G ad σ s s.heap := hB.1
  have hG : GL s := hX.2.2
  have hZ : ZS s s.heap := hB.2
  have hl : lv_has ls 5 [(0, .ref (ad 0)), (1, .int a0)] := hl
  have hS0 : va_S A s.heap s.heap [] := va_S.rf
  refine lv_iload_n hx hb dX3_close_0 rfl (lv_at hl 1 rfl) ?_
  refine lv_aload_n hx hb dX3_close_1 rfl (lv_at hl 0 rfl) ?_
  refine k_get S hX.2 hX.1 0 (C := RX3) (T := TX3) (N := 6) rfl rfl 3 (by decide) inX3 m_134 rfl dX3_close_2 ?_
  refine k_getN S hX.2 hX.1 4 (C := RX2) (T := TX2) (N := 4) rfl rfl 3 (by decide) inX2 n_85 rfl dX3_close_5 ?_
  refine q_xv (rx_S S ⟨m_222, m_223, m_23, m_224⟩ ⟨rfl, by decide, by decide, by decide +kernel⟩ (c_checkIndex l a0 (σ 18 0) hst) ⟨rfl, rfl, Nat.le_of_ble_eq_true rfl, Nat.le_of_ble_eq_true rfl⟩ (ps bl_GZ (bGZ hX.2.2 hZ)) (n := 2) (As := [.int a0, .int (σ 18 0)]) (rest := []) rfl hl.1 rfl (Nat.le_of_ble_eq_true rfl) ⟨Nat.le_of_ble_eq_true rfl, Nat.le_of_ble_eq_true rfl⟩ dX3_close_8) ht hlocks (by rintro x ⟨rfl, hf1⟩; simp [eX_close, hf1, exN]) (Nat.le_of_ble_eq_true rfl) (Nat.le_of_ble_eq_true rfl) (fun (p1 : ckI a0 (σ 18 0) = true) => ?_)
  obtain ⟨sh, hsh, rfl⟩ := ckI_nI (n := ns) (by rw [← hns]; exact p1) (by omega)
  have h31sh : sh < 2 ^ 31 := by omega
  refine lv_aload_n hx hb dX3_close_11 rfl (lv_at hl 0 rfl) ?_
  refine k_get S hX.2 hX.1 0 (C := RX3) (T := TX3) (N := 6) rfl rfl 3 (by decide) inX3 m_134 rfl dX3_close_12 ?_
  refine k_getN S hX.2 hX.1 4 (C := RX2) (T := TX2) (N := 4) rfl rfl 2 (by decide) inX2 n_83 rfl dX3_close_15 ?_
  refine lv_iload_n hx hb dX3_close_18 rfl (lv_at hl 1 rfl) ?_
  refine k_zld S hX.2 hX.1 13 (i := sh) rfl (by omega) (by decide) dX3_close_19 ?_
  refine lv_if_eq (tgt := 33) hx hb dX3_close_20 (by decide) (fun c20_2 => ?_) (fun c20_2 => ?_)
  · have bc20_2 := c20_2
    have L37 : ∀ (n i : Nat), i ≤ 5 → 5 + 1 ≤ i + n → clB σ sh i = true → ∀ ls, lv_has ls 5 [(0, .ref (ad 0)), (1, .int (nI sh)), (2, .int (clA σ sh i)), (3, .int (nI i))] → W p l e ({ frames := 7, cells := 2, slots := 12, locals := 113 } : Room) s m [.ref (ad 0), .int (nI sh)].toArray below meth c s.heap [] 1 6 (vx_MQ below (oW A (fun r => eX_close σ (nI sh) = 0 ∧ r = clA σ (ixN (nI sh)) 5) (fun H9 => va_P G.1 vwCl (wX G ad (su σ 9 (ixN (nI sh)) 1)) H9)) (tX (fun x => eX_close σ (nI sh) ≠ 0 ∧ x = exN (eX_close σ (nI sh)))) [.ref (ad 0), .int (nI sh)].toArray s 2 12 A) (F0 m 37 ls []) := by
      intro n
      induction n with
      | zero =>
        intro i h1 h2
        omega
      | succ n ihn =>
        intro i hii hini hcb ls hl
        refine lv_iload_n hx hb dX3_close_37 rfl (lv_at hl 3 rfl) ?_
        refine lv_iconst (v := 5) hx hb dX3_close_38 (by decide) ?_
        refine lv_icmp_ge (tgt := 95) hx hb dX3_close_39 (by decide) (fun c39_3 => ?_) (fun c39_3 => ?_)
        · have bc39_3 := le_nlt c39_3
          have hgei : i = 5 := by
            have h9 := c39_3
            rw [show (5 : Int32) = nI 5 from rfl, nI_leI (by omega) (by omega)] at h9
            omega
          refine lv_aload_n hx hb dX3_close_95 rfl (lv_at hl 0 rfl) ?_
          refine k_get S hX.2 hX.1 0 (C := RX3) (T := TX3) (N := 6) rfl rfl 3 (by decide) inX3 m_134 rfl dX3_close_96 ?_
          refine k_getN S hX.2 hX.1 4 (C := RX2) (T := TX2) (N := 4) rfl rfl 2 (by decide) inX2 n_83 rfl dX3_close_99 ?_
          refine lv_iload_n hx hb dX3_close_102 rfl (lv_at hl 1 rfl) ?_
          refine lv_iconst (v := 1) hx hb dX3_close_103 (by decide) ?_
          refine k_zst S hX.2 hX.1 (hD.w (wX_fst _ _ _)) hS0 13 (i := sh) rfl (by omega) (by decide) rfl dX3_close_104 (fun H4 L4 h4 hS4 => ?_)
          have hX4 : PX G ad (su σ 9 sh 1) s H4 := ⟨h4, hX.2⟩
          refine lv_iload_n hx hb dX3_close_105 rfl (lv_at hl 2 rfl) ?_
          refine W.widen (k := 2) (n := 12) (Nat.le_of_ble_eq_true rfl) (Nat.le_of_ble_eq_true rfl) ?_
          refine vx_ret ?_
          exact W.iret (v := clA σ sh i) hx hb hr (fun t ht hW => ⟨⟨_, rfl, (by subst hgei; simp [eX_close, ixN_nI h31sh, p1, c20_2, c39_3, bc39_3, hcb])⟩, (by have e9 : su σ 9 (ixN (nI sh)) 1 = su σ 9 sh 1 := (by first | rfl | simp [eX_close, ixN_nI h31sh]); show va_P G.1 vwCl (wX G ad (su σ 9 (ixN (nI sh)) 1)) t.heap; rw [e9, ht]; exact hX4.1), hS4.F ht⟩) hS4.2.2 dX3_close_106
        · have bc39_3 := nle_lt c39_3
          have hlti : i < 5 := by
            have h9 := nle_lt c39_3
            rw [show (5 : Int32) = nI 5 from rfl, nI_ltI (by omega) (by omega)] at h9
            exact h9
          refine lv_iload_n hx hb dX3_close_42 rfl (lv_at hl 1 rfl) ?_
          refine lv_iload_n hx hb dX3_close_43 rfl (lv_at hl 3 rfl) ?_
          refine q_i (r_S S ⟨m_183, m_184, m_23, m_185⟩ ⟨rfl, by decide, by decide, by decide +kernel⟩ (c_lineOf l sh i) ⟨rfl, rfl, Nat.le_of_ble_eq_true rfl, Nat.le_of_ble_eq_true rfl⟩ (ps bl_GL (bG hX.2.2)) (n := 2) (As := [.int (nI sh), .int (nI i)]) (rest := []) rfl hl.1 rfl (Nat.le_of_ble_eq_true rfl) ⟨Nat.le_of_ble_eq_true rfl, Nat.le_of_ble_eq_true rfl⟩ dX3_close_44) (fun r5 (e5 : r5 = nI (sh * 5 + i)) => ?_)
          subst e5
          refine lv_istore (lv' := [(4, .int (nI (sh * 5 + i))), (0, .ref (ad 0)), (1, .int (nI sh)), (2, .int (clA σ sh i)), (3, .int (nI i))]) hx hb dX3_close_47 hl (by decide) rfl (fun ls hl => ?_)
          refine lv_aload_n hx hb dX3_close_49 rfl (lv_at hl 1 rfl) ?_
          refine k_get S hX.2 hX.1 0 (C := RX3) (T := TX3) (N := 6) rfl rfl 4 (by decide) inX3 m_135 rfl dX3_close_50 ?_
          refine lv_iload hx hb dX3_close_53 (lv_at hl 0 rfl) ?_
          refine q_i (r_VN S hX.2.2 ⟨n_358, m_360, m_14, m_26, m_361⟩ ⟨rfl, by decide, by decide, by decide +kernel⟩ (c_agrees l G ad σ (sh * 5 + i) (by omega)) ⟨rfl, rfl, Nat.le_of_ble_eq_true rfl, Nat.le_of_ble_eq_true rfl⟩ (pv_X hX 5 rfl rfl bl_PX (bX hX)) (n := 1) (As := [.int (nI (sh * 5 + i))]) (rest := []) rfl hl.1 rfl (Nat.le_of_ble_eq_true rfl) ⟨Nat.le_of_ble_eq_true rfl, Nat.le_of_ble_eq_true rfl⟩ dX3_close_55) (fun r6 (e6 : r6 = bI (agB σ (sh * 5 + i))) => ?_)
          subst e6
          refine lv_if_eq (tgt := 67) hx hb dX3_close_58 (by decide) (fun c58_7 => ?_) (fun c58_7 => ?_)
          · have bc58_7 := bI_0 c58_7
            refine lv_aload_n hx hb dX3_close_67 rfl (lv_at hl 1 rfl) ?_
            refine k_get S hX.2 hX.1 0 (C := RX3) (T := TX3) (N := 6) rfl rfl 4 (by decide) inX3 m_135 rfl dX3_close_68 ?_
            refine lv_iload hx hb dX3_close_71 (lv_at hl 0 rfl) ?_
            refine q_i (r_VN S hX.2.2 ⟨n_326, m_328, m_11, m_26, m_329⟩ ⟨rfl, by decide, by decide, by decide +kernel⟩ (c_countsOn l G ad σ (sh * 5 + i) (by omega)) ⟨rfl, rfl, Nat.le_of_ble_eq_true rfl, Nat.le_of_ble_eq_true rfl⟩ (pv_X hX 5 rfl rfl bl_PX (bX hX)) (n := 1) (As := [.int (nI (sh * 5 + i))]) (rest := []) rfl hl.1 rfl (Nat.le_of_ble_eq_true rfl) ⟨Nat.le_of_ble_eq_true rfl, Nat.le_of_ble_eq_true rfl⟩ dX3_close_73) (fun r8 (e8 : r8 = bc (σ 10 (sh * 5 + i))) => ?_)
            subst e8
            refine lv_if_le (tgt := 89) hx hb dX3_close_76 (by decide) (fun c76_9 => ?_) (fun c76_9 => ?_)
            · have bc76_9 := le_nlt c76_9
              refine lv_iinc (v := nI (i + 1)) (lv' := [(3, .int (nI (i + 1))), (4, .int (nI (sh * 5 + i))), (0, .ref (ad 0)), (1, .int (nI sh)), (2, .int (clA σ sh i))]) hx hb dX3_close_89 hl (k := 4) rfl (nI_1 i) (by decide) rfl (fun ls hl => ?_)
              refine lv_goto (tgt := 37) hx hb dX3_close_92 (by decide) ?_
              have ev10 : clA σ sh i = clA σ sh (i + 1) := by simp [clA, p1, c20_2, c39_3, bc39_3, bc58_7, c76_9, bc76_9]
              rw [ev10] at hl
              exact ihn (i + 1) hlti (by omega) (by simp [clB, hcb, p1, c20_2, c39_3, bc39_3, bc58_7, c76_9, bc76_9]) ls (lv_sub hl [2, 3, 4, 0] rfl)
            · have bc76_9 := nle_lt c76_9
              exact k_thr S hG hZ hst at_IS m_403 m_34 (by decide +kernel) n_580 hl.1 ht hlocks ⟨Nat.le_of_ble_eq_true rfl, Nat.le_of_ble_eq_true rfl⟩ ⟨Nat.le_of_ble_eq_true rfl, Nat.le_of_ble_eq_true rfl⟩ ⟨Nat.le_of_ble_eq_true rfl, Nat.le_of_ble_eq_true rfl⟩ (Nat.le_of_ble_eq_true rfl) (by have h9 : clB σ sh (i + 1) = false := (by simp [clB, hcb, p1, c20_2, c39_3, bc39_3, bc58_7, c76_9, bc76_9]); have h8 := clB_no (by omega : i + 1 ≤ 5) h9; simp [eX_close, ixN_nI h31sh, p1, c20_2, c39_3, bc39_3, bc58_7, c76_9, bc76_9, h8, exN]) dX3_close_79 dX3_close_82 dX3_close_83 dX3_close_85 dX3_close_88
          · have bc58_7 := bI_n c58_7
            refine lv_iinc (v := clA σ sh i + 1) (lv' := [(2, .int (clA σ sh i + 1)), (4, .int (nI (sh * 5 + i))), (0, .ref (ad 0)), (1, .int (nI sh)), (3, .int (nI i))]) hx hb dX3_close_61 hl (k := 3) rfl rfl (by decide) rfl (fun ls hl => ?_)
            refine lv_goto (tgt := 89) hx hb dX3_close_64 (by decide) ?_
            refine lv_iinc (v := nI (i + 1)) (lv' := [(3, .int (nI (i + 1))), (2, .int (clA σ sh i + 1)), (4, .int (nI (sh * 5 + i))), (0, .ref (ad 0)), (1, .int (nI sh))]) hx hb dX3_close_89 hl (k := 4) rfl (nI_1 i) (by decide) rfl (fun ls hl => ?_)
            refine lv_goto (tgt := 37) hx hb dX3_close_92 (by decide) ?_
            have ev11 : clA σ sh i + 1 = clA σ sh (i + 1) := by simp [clA, p1, c20_2, c39_3, bc39_3, bc58_7]
            rw [ev11] at hl
            exact ihn (i + 1) hlti (by omega) (by simp [clB, hcb, p1, c20_2, c39_3, bc39_3, bc58_7]) ls (lv_sub hl [3, 4, 1, 0] rfl)
    refine lv_iconst (v := 0) hx hb dX3_close_33 (by decide) ?_
    refine lv_istore_n (lv' := [(2, .int 0), (0, .ref (ad 0)), (1, .int (nI sh))]) hx hb dX3_close_34 rfl hl (by decide) rfl (fun ls hl => ?_)
    refine lv_iconst (v := 0) hx hb dX3_close_35 (by decide) ?_
    refine lv_istore_n (lv' := [(3, .int 0), (2, .int 0), (0, .ref (ad 0)), (1, .int (nI sh))]) hx hb dX3_close_36 rfl hl (by decide) rfl (fun ls hl => ?_)
    exact L37 6 0 (Nat.zero_le _) (by omega) rfl ls (lv_sub hl [2, 3, 1, 0] rfl)
  · have bc20_2 := c20_2
    exact k_thr S hG hZ hst at_IS m_403 m_34 (by decide +kernel) n_554 hl.1 ht hlocks ⟨Nat.le_of_ble_eq_true rfl, Nat.le_of_ble_eq_true rfl⟩ ⟨Nat.le_of_ble_eq_true rfl, Nat.le_of_ble_eq_true rfl⟩ ⟨Nat.le_of_ble_eq_true rfl, Nat.le_of_ble_eq_true rfl⟩ (Nat.le_of_ble_eq_true rfl) (by simp [eX_close, ixN_nI h31sh, p1, c20_2, exN]) dX3_close_23 dX3_close_26 dX3_close_27 dX3_close_29 dX3_close_32

set_option maxHeartbeats 4000000 in
set_option maxRecDepth 100000 in
theorem c_sign (l : Launch) (G : kG) (ad : Nat → Nat) (σ : kS) (nm ns : Nat) (a0 b0 c0 : Int32) (hst : l.stackTraces = false) (hns : σ 18 0 = nI ns) (hns4 : ns ≤ 40) (hnm : σ 17 0 = nI nm) (hnm2 : nm ≤ 200) (A : Nat → Prop) (hD : DD 20 A ad)  : vx_Met l yX3_sign [.code yX3_sign cX3_sign 5 (some .int)] ({ frames := 7, cells := 5, slots := 30, locals := 157 }) (va_Pc [.ref (ad 0), .int a0, .int b0, .int c0] (fun U => PX G ad σ U U.heap ∧ ZS U U.heap)) (oW A (fun r => eX_sign σ nm ns a0 b0 c0 = 0 ∧ r = gpV σ nm ns (ixN a0) (ixN b0)) (fun H9 => va_P G.1 vwCl (wX G ad (wrS σ (lnN a0 b0) (gpV σ nm ns (ixN a0) (ixN b0)))) H9)) (tX (fun x => eX_sign σ nm ns a0 b0 c0 ≠ 0 ∧ x = exN (eX_sign σ nm ns a0 b0 c0))) 5 30 A := by
  refine kx_of (by decide) (Nat.le_of_ble_eq_true rfl) (fun U h => h.1.2.2) ?_
  intro p e s m below meth c ls S hr hlocks ht hB hl
  have hx := S.1
  have hb := S.2.1
  have hX : PX G ad σ s s.heap := hB.1
  have hG : GL s := hX.2.2
  have hZ : ZS s s.heap := hB.2
  have hl : lv_has ls 5 [(0, .ref (ad 0)), (1, .int a0), (2, .int b0), (3, .int c0)] := hl
  have hS0 : va_S A s.heap s.heap [] := va_S.rf
  refine lv_iload_n hx hb dX3_sign_0 rfl (lv_at hl 1 rfl) ?_
  refine lv_aload_n hx hb dX3_sign_1 rfl (lv_at hl 0 rfl) ?_
  refine k_get S hX.2 hX.1 0 (C := RX3) (T := TX3) (N := 6) rfl rfl 3 (by decide) inX3 m_134 rfl dX3_sign_2 ?_
  refine k_getN S hX.2 hX.1 4 (C := RX2) (T := TX2) (N := 4) rfl rfl 3 (by decide) inX2 n_85 rfl dX3_sign_5 ?_
  refine q_xv (rx_S S ⟨m_222, m_223, m_23, m_224⟩ ⟨rfl, by decide, by decide, by decide +kernel⟩ (c_checkIndex l a0 (σ 18 0) hst) ⟨rfl, rfl, Nat.le_of_ble_eq_true rfl, Nat.le_of_ble_eq_true rfl⟩ (ps bl_GZ (bGZ hX.2.2 hZ)) (n := 2) (As := [.int a0, .int (σ 18 0)]) (rest := []) rfl hl.1 rfl (Nat.le_of_ble_eq_true rfl) ⟨Nat.le_of_ble_eq_true rfl, Nat.le_of_ble_eq_true rfl⟩ dX3_sign_8) ht hlocks (by rintro x ⟨rfl, hf1⟩; simp [eX_sign, lnN, hf1, exN]) (Nat.le_of_ble_eq_true rfl) (Nat.le_of_ble_eq_true rfl) (fun (p1 : ckI a0 (σ 18 0) = true) => ?_)
  obtain ⟨sh, hsh, rfl⟩ := ckI_nI (n := ns) (by rw [← hns]; exact p1) (by omega)
  have h31sh : sh < 2 ^ 31 := by omega
  refine lv_iload_n hx hb dX3_sign_11 rfl (lv_at hl 2 rfl) ?_
  refine lv_iconst (v := 5) hx hb dX3_sign_12 (by decide) ?_
  refine q_xv (rx_S S ⟨m_222, m_223, m_23, m_224⟩ ⟨rfl, by decide, by decide, by decide +kernel⟩ (c_checkIndex l b0 5 hst) ⟨rfl, rfl, Nat.le_of_ble_eq_true rfl, Nat.le_of_ble_eq_true rfl⟩ (ps bl_GZ (bGZ hX.2.2 hZ)) (n := 2) (As := [.int b0, .int 5]) (rest := []) rfl hl.1 rfl (Nat.le_of_ble_eq_true rfl) ⟨Nat.le_of_ble_eq_true rfl, Nat.le_of_ble_eq_true rfl⟩ dX3_sign_13) ht hlocks (by rintro x ⟨rfl, hf2⟩; simp [eX_sign, lnN, ixN_nI h31sh, p1, hf2, exN]) (Nat.le_of_ble_eq_true rfl) (Nat.le_of_ble_eq_true rfl) (fun (p2 : ckI b0 5 = true) => ?_)
  obtain ⟨ar, har, rfl⟩ := ckI_nI (n := 5) p2 (by decide)
  have h31ar : ar < 2 ^ 31 := by omega
  refine lv_iload_n hx hb dX3_sign_16 rfl (lv_at hl 3 rfl) ?_
  refine lv_bipush (v := 6) hx hb dX3_sign_17 (by decide) ?_
  refine q_xv (rx_S S ⟨m_222, m_223, m_23, m_224⟩ ⟨rfl, by decide, by decide, by decide +kernel⟩ (c_checkIndex l c0 6 hst) ⟨rfl, rfl, Nat.le_of_ble_eq_true rfl, Nat.le_of_ble_eq_true rfl⟩ (ps bl_GZ (bGZ hX.2.2 hZ)) (n := 2) (As := [.int c0, .int 6]) (rest := []) rfl hl.1 rfl (Nat.le_of_ble_eq_true rfl) ⟨Nat.le_of_ble_eq_true rfl, Nat.le_of_ble_eq_true rfl⟩ dX3_sign_19) ht hlocks (by rintro x ⟨rfl, hf3⟩; simp [eX_sign, lnN, ixN_nI h31sh, ixN_nI h31ar, p1, p2, hf3, exN]) (Nat.le_of_ble_eq_true rfl) (Nat.le_of_ble_eq_true rfl) (fun (p3 : ckI c0 6 = true) => ?_)
  obtain ⟨pe, hpe, rfl⟩ := ckI_nI (n := 6) p3 (by decide)
  have h31pe : pe < 2 ^ 31 := by omega
  refine lv_aload_n hx hb dX3_sign_22 rfl (lv_at hl 0 rfl) ?_
  refine lv_iload_n hx hb dX3_sign_23 rfl (lv_at hl 1 rfl) ?_
  refine lv_iload_n hx hb dX3_sign_24 rfl (lv_at hl 2 rfl) ?_
  refine q_xv (rx_V S ⟨m_374, m_376, m_16, m_23, m_377⟩ ⟨rfl, by decide, by decide, by decide +kernel⟩ (c_checkAgrees l G ad σ sh ar hst (by omega) (by omega)) ⟨rfl, rfl, Nat.le_of_ble_eq_true rfl, Nat.le_of_ble_eq_true rfl⟩ (pv_X hX 0 rfl rfl bl_PXZ (bXZ hX hZ)) (n := 2) (As := [.int (nI sh), .int (nI ar)]) (rest := []) rfl hl.1 rfl (Nat.le_of_ble_eq_true rfl) ⟨Nat.le_of_ble_eq_true rfl, Nat.le_of_ble_eq_true rfl⟩ dX3_sign_25) ht hlocks (by rintro x ⟨rfl, hf4⟩; simp [eX_sign, lnN, ixN_nI h31sh, ixN_nI h31ar, ixN_nI h31pe, p1, p2, p3, hf4, exN]) (Nat.le_of_ble_eq_true rfl) (Nat.le_of_ble_eq_true rfl) (fun (p4 : agB σ (sh * 5 + ar) = true) => ?_)
  refine lv_aload_n hx hb dX3_sign_28 rfl (lv_at hl 0 rfl) ?_
  refine lv_iload_n hx hb dX3_sign_29 rfl (lv_at hl 1 rfl) ?_
  refine lv_iload_n hx hb dX3_sign_30 rfl (lv_at hl 2 rfl) ?_
  refine q_i (r_V S ⟨m_354, m_356, m_13, m_23, m_357⟩ ⟨rfl, by decide, by decide, by decide +kernel⟩ (c_isSignable l G ad σ sh ar (by omega) (by omega)) ⟨rfl, rfl, Nat.le_of_ble_eq_true rfl, Nat.le_of_ble_eq_true rfl⟩ (pv_X hX 0 rfl rfl bl_PX (bX hX)) (n := 2) (As := [.int (nI sh), .int (nI ar)]) (rest := []) rfl hl.1 rfl (Nat.le_of_ble_eq_true rfl) ⟨Nat.le_of_ble_eq_true rfl, Nat.le_of_ble_eq_true rfl⟩ dX3_sign_31) (fun r5 (e5 : r5 = bI (sgB σ sh ar)) => ?_)
  subst e5
  refine lv_if_ne (tgt := 47) hx hb dX3_sign_34 (by decide) (fun c34_6 => ?_) (fun c34_6 => ?_)
  · have bc34_6 := bI_n c34_6
    refine lv_aload_n hx hb dX3_sign_47 rfl (lv_at hl 0 rfl) ?_
    refine lv_iload_n hx hb dX3_sign_48 rfl (lv_at hl 1 rfl) ?_
    refine lv_iload_n hx hb dX3_sign_49 rfl (lv_at hl 2 rfl) ?_
    refine q_i (r_V S ⟨m_362, m_364, m_15, m_23, m_365⟩ ⟨rfl, by decide, by decide, by decide +kernel⟩ (c_gapOf l G ad σ nm ns sh ar hns hns4 hnm hnm2 (by omega) (by omega)) ⟨rfl, rfl, Nat.le_of_ble_eq_true rfl, Nat.le_of_ble_eq_true rfl⟩ (pv_X hX 0 rfl rfl bl_PX (bX hX)) (n := 2) (As := [.int (nI sh), .int (nI ar)]) (rest := []) rfl hl.1 rfl (Nat.le_of_ble_eq_true rfl) ⟨Nat.le_of_ble_eq_true rfl, Nat.le_of_ble_eq_true rfl⟩ dX3_sign_50) (fun r7 (e7 : r7 = gpV σ nm ns sh ar) => ?_)
    subst e7
    refine lv_istore (lv' := [(4, .int (gpV σ nm ns sh ar)), (0, .ref (ad 0)), (1, .int (nI sh)), (2, .int (nI ar)), (3, .int (nI pe))]) hx hb dX3_sign_53 hl (by decide) rfl (fun ls hl => ?_)
    refine lv_aload_n hx hb dX3_sign_55 rfl (lv_at hl 1 rfl) ?_
    refine k_get S hX.2 hX.1 0 (C := RX3) (T := TX3) (N := 6) rfl rfl 1 (by decide) inX3 m_132 rfl dX3_sign_56 ?_
    refine lv_iload_n hx hb dX3_sign_59 rfl (lv_at hl 4 rfl) ?_
    refine k_ild S hX.2 hX.1 2 (i := pe) rfl (by omega) (by decide) dX3_sign_60 ?_
    refine lv_aload_n hx hb dX3_sign_61 rfl (lv_at hl 1 rfl) ?_
    refine k_get S hX.2 hX.1 0 (C := RX3) (T := TX3) (N := 6) rfl rfl 0 (by decide) inX3 m_131 rfl dX3_sign_62 ?_
    refine lv_iload_n hx hb dX3_sign_65 rfl (lv_at hl 3 rfl) ?_
    refine k_ild S hX.2 hX.1 1 (i := ar) rfl (by omega) (by decide) dX3_sign_66 ?_
    refine lv_iload hx hb dX3_sign_67 (lv_at hl 0 rfl) ?_
    refine va_mabs hx hb (S.2.2.1.trans hl.1.symm) S.2.2.2.1 (S.2.2.2.2 _ m_419) (S.2.2.2.2 _ m_420) (S.2.2.2.2 _ m_28) (S.2.2.2.2 _ m_421) (Nat.le_of_ble_eq_true rfl) (Nat.le_of_ble_eq_true rfl) (Nat.le_of_ble_eq_true rfl) (Nat.le_of_ble_eq_true rfl) dX3_sign_69 ?_
    refine k_eq (y := abV (gpV σ nm ns sh ar)) rfl ?_
    refine lv_imul hx hb dX3_sign_72 ?_
    refine lv_icmp_ge (tgt := 86) hx hb dX3_sign_73 (by decide) (fun c73_8 => ?_) (fun c73_8 => ?_)
    · have bc73_8 := le_nlt c73_8
      refine lv_aload_n hx hb dX3_sign_86 rfl (lv_at hl 1 rfl) ?_
      refine k_get S hX.2 hX.1 0 (C := RX3) (T := TX3) (N := 6) rfl rfl 4 (by decide) inX3 m_135 rfl dX3_sign_87 ?_
      refine lv_iload_n hx hb dX3_sign_90 rfl (lv_at hl 2 rfl) ?_
      refine lv_iload_n hx hb dX3_sign_91 rfl (lv_at hl 3 rfl) ?_
      refine q_i (r_S S ⟨m_183, m_184, m_23, m_185⟩ ⟨rfl, by decide, by decide, by decide +kernel⟩ (c_lineOf l sh ar) ⟨rfl, rfl, Nat.le_of_ble_eq_true rfl, Nat.le_of_ble_eq_true rfl⟩ (ps bl_GL (bG hX.2.2)) (n := 2) (As := [.int (nI sh), .int (nI ar)]) (rest := [.ref (ad 5)]) rfl hl.1 rfl (Nat.le_of_ble_eq_true rfl) ⟨Nat.le_of_ble_eq_true rfl, Nat.le_of_ble_eq_true rfl⟩ dX3_sign_92) (fun r9 (e9 : r9 = nI (sh * 5 + ar)) => ?_)
      subst e9
      refine lv_iload hx hb dX3_sign_95 (lv_at hl 0 rfl) ?_
      refine q_wv (r_VN S hX.2.2 ⟨n_423, m_425, m_17, m_26, m_426⟩ ⟨rfl, by decide, by decide, by decide +kernel⟩ (c_write l G ad σ (sh * 5 + ar) (gpV σ nm ns sh ar) (by omega) A hD) ⟨rfl, rfl, Nat.le_of_ble_eq_true rfl, Nat.le_of_ble_eq_true rfl⟩ (pv_X hX 5 rfl rfl bl_PX (bX hX)) (n := 2) (As := [.int (nI (sh * 5 + ar)), .int (gpV σ nm ns sh ar)]) (rest := []) rfl hl.1 rfl (Nat.le_of_ble_eq_true rfl) ⟨Nat.le_of_ble_eq_true rfl, Nat.le_of_ble_eq_true rfl⟩ dX3_sign_97) hS0 (fun _ h => h) (fun H10 L10 _ h10 _ _ hS10 => ?_)
      have hX10 : PX G ad (wrS σ (sh * 5 + ar) (gpV σ nm ns sh ar)) s H10 := ⟨h10, hX.2⟩
      refine lv_iload hx hb dX3_sign_100 (lv_at hl 0 rfl) ?_
      refine W.widen (k := 5) (n := 30) (Nat.le_of_ble_eq_true rfl) (Nat.le_of_ble_eq_true rfl) ?_
      refine vx_ret ?_
      exact W.iret (v := gpV σ nm ns sh ar) hx hb hr (fun t ht hW => ⟨⟨_, rfl, (by simp [eX_sign, lnN, ixN_nI h31sh, ixN_nI h31ar, ixN_nI h31pe, p1, p2, p3, p4, bc34_6, c73_8, bc73_8])⟩, (by have e9 : wrS σ (lnN (nI sh) (nI ar)) (gpV σ nm ns (ixN (nI sh)) (ixN (nI ar))) = wrS σ (sh * 5 + ar) (gpV σ nm ns sh ar) := (by first | rfl | simp [eX_sign, lnN, ixN_nI h31sh, ixN_nI h31ar, ixN_nI h31pe]); show va_P G.1 vwCl (wX G ad (wrS σ (lnN (nI sh) (nI ar)) (gpV σ nm ns (ixN (nI sh)) (ixN (nI ar))))) t.heap; rw [e9, ht]; exact hX10.1), hS10.F ht⟩) hS10.2.2 dX3_sign_102
    · have bc73_8 := nle_lt c73_8
      exact k_thr S hG hZ hst at_IS m_403 m_34 (by decide +kernel) n_422 hl.1 ht hlocks ⟨Nat.le_of_ble_eq_true rfl, Nat.le_of_ble_eq_true rfl⟩ ⟨Nat.le_of_ble_eq_true rfl, Nat.le_of_ble_eq_true rfl⟩ ⟨Nat.le_of_ble_eq_true rfl, Nat.le_of_ble_eq_true rfl⟩ (Nat.le_of_ble_eq_true rfl) (by simp [eX_sign, lnN, ixN_nI h31sh, ixN_nI h31ar, ixN_nI h31pe, p1, p2, p3, p4, bc34_6, c73_8, bc73_8, exN]) dX3_sign_76 dX3_sign_79 dX3_sign_80 dX3_sign_82 dX3_sign_85
  · have bc34_6 := bI_0 c34_6
    exact k_thr S hG hZ hst at_IS m_403 m_34 (by decide +kernel) n_412 hl.1 ht hlocks ⟨Nat.le_of_ble_eq_true rfl, Nat.le_of_ble_eq_true rfl⟩ ⟨Nat.le_of_ble_eq_true rfl, Nat.le_of_ble_eq_true rfl⟩ ⟨Nat.le_of_ble_eq_true rfl, Nat.le_of_ble_eq_true rfl⟩ (Nat.le_of_ble_eq_true rfl) (by simp [eX_sign, lnN, ixN_nI h31sh, ixN_nI h31ar, ixN_nI h31pe, p1, p2, p3, p4, bc34_6, exN]) dX3_sign_37 dX3_sign_40 dX3_sign_41 dX3_sign_43 dX3_sign_46

set_option maxHeartbeats 4000000 in
set_option maxRecDepth 100000 in
theorem c_settle (l : Launch) (G : kG) (ad : Nat → Nat) (σ : kS) (nm ns : Nat) (a0 b0 c0 : Int32) (hst : l.stackTraces = false) (hns : σ 18 0 = nI ns) (hns4 : ns ≤ 40) (hnm : σ 17 0 = nI nm) (hnm2 : nm ≤ 200) (A : Nat → Prop) (hD : DD 20 A ad)  : vx_Met l yX3_settle [.code yX3_settle cX3_settle 5 (some .int)] ({ frames := 7, cells := 6, slots := 36, locals := 181 }) (va_Pc [.ref (ad 0), .int a0, .int b0, .int c0] (fun U => PX G ad σ U U.heap ∧ ZS U U.heap)) (oW A (fun r => eX_settle σ nm ns a0 b0 c0 = 0 ∧ r = abV (gpV σ nm ns (ixN a0) (ixN c0))) (fun H9 => va_P G.1 vwCl (wX G ad (wrS (wrS σ (lnN a0 c0) (gpV σ nm ns (ixN a0) (ixN c0))) (lnN b0 c0) (-(gpV σ nm ns (ixN a0) (ixN c0))))) H9)) (tX (fun x => eX_settle σ nm ns a0 b0 c0 ≠ 0 ∧ x = exN (eX_settle σ nm ns a0 b0 c0))) 6 36 A := by
  refine kx_of (by decide) (Nat.le_of_ble_eq_true rfl) (fun U h => h.1.2.2) ?_
  intro p e s m below meth c ls S hr hlocks ht hB hl
  have hx := S.1
  have hb := S.2.1
  have hX : PX G ad σ s s.heap := hB.1
  have hG : GL s := hX.2.2
  have hZ : ZS s s.heap := hB.2
  have hl : lv_has ls 5 [(0, .ref (ad 0)), (1, .int a0), (2, .int b0), (3, .int c0)] := hl
  have hS0 : va_S A s.heap s.heap [] := va_S.rf
  refine lv_iload_n hx hb dX3_settle_0 rfl (lv_at hl 1 rfl) ?_
  refine lv_aload_n hx hb dX3_settle_1 rfl (lv_at hl 0 rfl) ?_
  refine k_get S hX.2 hX.1 0 (C := RX3) (T := TX3) (N := 6) rfl rfl 3 (by decide) inX3 m_134 rfl dX3_settle_2 ?_
  refine k_getN S hX.2 hX.1 4 (C := RX2) (T := TX2) (N := 4) rfl rfl 3 (by decide) inX2 n_85 rfl dX3_settle_5 ?_
  refine q_xv (rx_S S ⟨m_222, m_223, m_23, m_224⟩ ⟨rfl, by decide, by decide, by decide +kernel⟩ (c_checkIndex l a0 (σ 18 0) hst) ⟨rfl, rfl, Nat.le_of_ble_eq_true rfl, Nat.le_of_ble_eq_true rfl⟩ (ps bl_GZ (bGZ hX.2.2 hZ)) (n := 2) (As := [.int a0, .int (σ 18 0)]) (rest := []) rfl hl.1 rfl (Nat.le_of_ble_eq_true rfl) ⟨Nat.le_of_ble_eq_true rfl, Nat.le_of_ble_eq_true rfl⟩ dX3_settle_8) ht hlocks (by rintro x ⟨rfl, hf1⟩; simp [eX_settle, lnN, hf1, exN]) (Nat.le_of_ble_eq_true rfl) (Nat.le_of_ble_eq_true rfl) (fun (p1 : ckI a0 (σ 18 0) = true) => ?_)
  obtain ⟨sh, hsh, rfl⟩ := ckI_nI (n := ns) (by rw [← hns]; exact p1) (by omega)
  have h31sh : sh < 2 ^ 31 := by omega
  refine lv_iload_n hx hb dX3_settle_11 rfl (lv_at hl 2 rfl) ?_
  refine lv_aload_n hx hb dX3_settle_12 rfl (lv_at hl 0 rfl) ?_
  refine k_get S hX.2 hX.1 0 (C := RX3) (T := TX3) (N := 6) rfl rfl 3 (by decide) inX3 m_134 rfl dX3_settle_13 ?_
  refine k_getN S hX.2 hX.1 4 (C := RX2) (T := TX2) (N := 4) rfl rfl 3 (by decide) inX2 n_85 rfl dX3_settle_16 ?_
  refine q_xv (rx_S S ⟨m_222, m_223, m_23, m_224⟩ ⟨rfl, by decide, by decide, by decide +kernel⟩ (c_checkIndex l b0 (σ 18 0) hst) ⟨rfl, rfl, Nat.le_of_ble_eq_true rfl, Nat.le_of_ble_eq_true rfl⟩ (ps bl_GZ (bGZ hX.2.2 hZ)) (n := 2) (As := [.int b0, .int (σ 18 0)]) (rest := []) rfl hl.1 rfl (Nat.le_of_ble_eq_true rfl) ⟨Nat.le_of_ble_eq_true rfl, Nat.le_of_ble_eq_true rfl⟩ dX3_settle_19) ht hlocks (by rintro x ⟨rfl, hf2⟩; simp [eX_settle, lnN, ixN_nI h31sh, p1, hf2, exN]) (Nat.le_of_ble_eq_true rfl) (Nat.le_of_ble_eq_true rfl) (fun (p2 : ckI b0 (σ 18 0) = true) => ?_)
  obtain ⟨ot, hot, rfl⟩ := ckI_nI (n := ns) (by rw [← hns]; exact p2) (by omega)
  have h31ot : ot < 2 ^ 31 := by omega
  refine lv_iload_n hx hb dX3_settle_22 rfl (lv_at hl 3 rfl) ?_
  refine lv_iconst (v := 5) hx hb dX3_settle_23 (by decide) ?_
  refine q_xv (rx_S S ⟨m_222, m_223, m_23, m_224⟩ ⟨rfl, by decide, by decide, by decide +kernel⟩ (c_checkIndex l c0 5 hst) ⟨rfl, rfl, Nat.le_of_ble_eq_true rfl, Nat.le_of_ble_eq_true rfl⟩ (ps bl_GZ (bGZ hX.2.2 hZ)) (n := 2) (As := [.int c0, .int 5]) (rest := []) rfl hl.1 rfl (Nat.le_of_ble_eq_true rfl) ⟨Nat.le_of_ble_eq_true rfl, Nat.le_of_ble_eq_true rfl⟩ dX3_settle_24) ht hlocks (by rintro x ⟨rfl, hf3⟩; simp [eX_settle, lnN, ixN_nI h31sh, ixN_nI h31ot, p1, p2, hf3, exN]) (Nat.le_of_ble_eq_true rfl) (Nat.le_of_ble_eq_true rfl) (fun (p3 : ckI c0 5 = true) => ?_)
  obtain ⟨ar, har, rfl⟩ := ckI_nI (n := 5) p3 (by decide)
  have h31ar : ar < 2 ^ 31 := by omega
  refine lv_aload_n hx hb dX3_settle_27 rfl (lv_at hl 0 rfl) ?_
  refine lv_iload_n hx hb dX3_settle_28 rfl (lv_at hl 1 rfl) ?_
  refine lv_iload_n hx hb dX3_settle_29 rfl (lv_at hl 3 rfl) ?_
  refine q_xv (rx_V S ⟨m_374, m_376, m_16, m_23, m_377⟩ ⟨rfl, by decide, by decide, by decide +kernel⟩ (c_checkAgrees l G ad σ sh ar hst (by omega) (by omega)) ⟨rfl, rfl, Nat.le_of_ble_eq_true rfl, Nat.le_of_ble_eq_true rfl⟩ (pv_X hX 0 rfl rfl bl_PXZ (bXZ hX hZ)) (n := 2) (As := [.int (nI sh), .int (nI ar)]) (rest := []) rfl hl.1 rfl (Nat.le_of_ble_eq_true rfl) ⟨Nat.le_of_ble_eq_true rfl, Nat.le_of_ble_eq_true rfl⟩ dX3_settle_30) ht hlocks (by rintro x ⟨rfl, hf4⟩; simp [eX_settle, lnN, ixN_nI h31sh, ixN_nI h31ot, ixN_nI h31ar, p1, p2, p3, hf4, exN]) (Nat.le_of_ble_eq_true rfl) (Nat.le_of_ble_eq_true rfl) (fun (p4 : agB σ (sh * 5 + ar) = true) => ?_)
  refine lv_aload_n hx hb dX3_settle_33 rfl (lv_at hl 0 rfl) ?_
  refine lv_iload_n hx hb dX3_settle_34 rfl (lv_at hl 2 rfl) ?_
  refine lv_iload_n hx hb dX3_settle_35 rfl (lv_at hl 3 rfl) ?_
  refine q_xv (rx_V S ⟨m_374, m_376, m_16, m_23, m_377⟩ ⟨rfl, by decide, by decide, by decide +kernel⟩ (c_checkAgrees l G ad σ ot ar hst (by omega) (by omega)) ⟨rfl, rfl, Nat.le_of_ble_eq_true rfl, Nat.le_of_ble_eq_true rfl⟩ (pv_X hX 0 rfl rfl bl_PXZ (bXZ hX hZ)) (n := 2) (As := [.int (nI ot), .int (nI ar)]) (rest := []) rfl hl.1 rfl (Nat.le_of_ble_eq_true rfl) ⟨Nat.le_of_ble_eq_true rfl, Nat.le_of_ble_eq_true rfl⟩ dX3_settle_36) ht hlocks (by rintro x ⟨rfl, hf5⟩; simp [eX_settle, lnN, ixN_nI h31sh, ixN_nI h31ot, ixN_nI h31ar, p1, p2, p3, p4, hf5, exN]) (Nat.le_of_ble_eq_true rfl) (Nat.le_of_ble_eq_true rfl) (fun (p5 : agB σ (ot * 5 + ar) = true) => ?_)
  refine lv_aload_n hx hb dX3_settle_39 rfl (lv_at hl 0 rfl) ?_
  refine lv_iload_n hx hb dX3_settle_40 rfl (lv_at hl 1 rfl) ?_
  refine lv_iload_n hx hb dX3_settle_41 rfl (lv_at hl 2 rfl) ?_
  refine lv_iload_n hx hb dX3_settle_42 rfl (lv_at hl 3 rfl) ?_
  refine q_i (r_V S ⟨m_350, m_352, m_12, m_23, m_353⟩ ⟨rfl, by decide, by decide, by decide +kernel⟩ (c_canBeSettled l G ad σ nm ns sh ot ar hns hns4 hnm hnm2 (by omega) (by omega) (by omega)) ⟨rfl, rfl, Nat.le_of_ble_eq_true rfl, Nat.le_of_ble_eq_true rfl⟩ (pv_X hX 0 rfl rfl bl_PX (bX hX)) (n := 3) (As := [.int (nI sh), .int (nI ot), .int (nI ar)]) (rest := []) rfl hl.1 rfl (Nat.le_of_ble_eq_true rfl) ⟨Nat.le_of_ble_eq_true rfl, Nat.le_of_ble_eq_true rfl⟩ dX3_settle_43) (fun r6 (e6 : r6 = bI (csB σ nm ns sh ot ar)) => ?_)
  subst e6
  refine lv_if_ne (tgt := 59) hx hb dX3_settle_46 (by decide) (fun c46_7 => ?_) (fun c46_7 => ?_)
  · have bc46_7 := bI_n c46_7
    refine lv_aload_n hx hb dX3_settle_59 rfl (lv_at hl 0 rfl) ?_
    refine lv_iload_n hx hb dX3_settle_60 rfl (lv_at hl 1 rfl) ?_
    refine lv_iload_n hx hb dX3_settle_61 rfl (lv_at hl 3 rfl) ?_
    refine q_i (r_V S ⟨m_362, m_364, m_15, m_23, m_365⟩ ⟨rfl, by decide, by decide, by decide +kernel⟩ (c_gapOf l G ad σ nm ns sh ar hns hns4 hnm hnm2 (by omega) (by omega)) ⟨rfl, rfl, Nat.le_of_ble_eq_true rfl, Nat.le_of_ble_eq_true rfl⟩ (pv_X hX 0 rfl rfl bl_PX (bX hX)) (n := 2) (As := [.int (nI sh), .int (nI ar)]) (rest := []) rfl hl.1 rfl (Nat.le_of_ble_eq_true rfl) ⟨Nat.le_of_ble_eq_true rfl, Nat.le_of_ble_eq_true rfl⟩ dX3_settle_62) (fun r8 (e8 : r8 = gpV σ nm ns sh ar) => ?_)
    subst e8
    refine lv_istore (lv' := [(4, .int (gpV σ nm ns sh ar)), (0, .ref (ad 0)), (1, .int (nI sh)), (2, .int (nI ot)), (3, .int (nI ar))]) hx hb dX3_settle_65 hl (by decide) rfl (fun ls hl => ?_)
    refine lv_aload_n hx hb dX3_settle_67 rfl (lv_at hl 1 rfl) ?_
    refine k_get S hX.2 hX.1 0 (C := RX3) (T := TX3) (N := 6) rfl rfl 4 (by decide) inX3 m_135 rfl dX3_settle_68 ?_
    refine lv_iload_n hx hb dX3_settle_71 rfl (lv_at hl 2 rfl) ?_
    refine lv_iload_n hx hb dX3_settle_72 rfl (lv_at hl 4 rfl) ?_
    refine q_i (r_S S ⟨m_183, m_184, m_23, m_185⟩ ⟨rfl, by decide, by decide, by decide +kernel⟩ (c_lineOf l sh ar) ⟨rfl, rfl, Nat.le_of_ble_eq_true rfl, Nat.le_of_ble_eq_true rfl⟩ (ps bl_GL (bG hX.2.2)) (n := 2) (As := [.int (nI sh), .int (nI ar)]) (rest := [.ref (ad 5)]) rfl hl.1 rfl (Nat.le_of_ble_eq_true rfl) ⟨Nat.le_of_ble_eq_true rfl, Nat.le_of_ble_eq_true rfl⟩ dX3_settle_73) (fun r9 (e9 : r9 = nI (sh * 5 + ar)) => ?_)
    subst e9
    refine lv_iload hx hb dX3_settle_76 (lv_at hl 0 rfl) ?_
    refine q_wv (r_VN S hX.2.2 ⟨n_423, m_425, m_17, m_26, m_426⟩ ⟨rfl, by decide, by decide, by decide +kernel⟩ (c_write l G ad σ (sh * 5 + ar) (gpV σ nm ns sh ar) (by omega) A hD) ⟨rfl, rfl, Nat.le_of_ble_eq_true rfl, Nat.le_of_ble_eq_true rfl⟩ (pv_X hX 5 rfl rfl bl_PX (bX hX)) (n := 2) (As := [.int (nI (sh * 5 + ar)), .int (gpV σ nm ns sh ar)]) (rest := []) rfl hl.1 rfl (Nat.le_of_ble_eq_true rfl) ⟨Nat.le_of_ble_eq_true rfl, Nat.le_of_ble_eq_true rfl⟩ dX3_settle_78) hS0 (fun _ h => h) (fun H10 L10 _ h10 _ _ hS10 => ?_)
    have hX10 : PX G ad (wrS σ (sh * 5 + ar) (gpV σ nm ns sh ar)) s H10 := ⟨h10, hX.2⟩
    refine lv_aload_n hx hb dX3_settle_81 rfl (lv_at hl 1 rfl) ?_
    refine k_get S hX10.2 hX10.1 0 (C := RX3) (T := TX3) (N := 6) rfl rfl 4 (by decide) inX3 m_135 rfl dX3_settle_82 ?_
    refine lv_iload_n hx hb dX3_settle_85 rfl (lv_at hl 3 rfl) ?_
    refine lv_iload_n hx hb dX3_settle_86 rfl (lv_at hl 4 rfl) ?_
    refine q_i (r_S S ⟨m_183, m_184, m_23, m_185⟩ ⟨rfl, by decide, by decide, by decide +kernel⟩ (c_lineOf l ot ar) ⟨rfl, rfl, Nat.le_of_ble_eq_true rfl, Nat.le_of_ble_eq_true rfl⟩ (ps bl_GL (bG hX10.2.2)) (n := 2) (As := [.int (nI ot), .int (nI ar)]) (rest := [.ref (ad 5)]) rfl hl.1 rfl (Nat.le_of_ble_eq_true rfl) ⟨Nat.le_of_ble_eq_true rfl, Nat.le_of_ble_eq_true rfl⟩ dX3_settle_87) (fun r11 (e11 : r11 = nI (ot * 5 + ar)) => ?_)
    subst e11
    refine lv_iload hx hb dX3_settle_90 (lv_at hl 0 rfl) ?_
    refine lv_ineg hx hb dX3_settle_92 ?_
    refine q_wv (r_VN S hX10.2.2 ⟨n_423, m_425, m_17, m_26, m_426⟩ ⟨rfl, by decide, by decide, by decide +kernel⟩ (c_write l G ad (wrS σ (sh * 5 + ar) (gpV σ nm ns sh ar)) (ot * 5 + ar) (-(gpV σ nm ns sh ar)) (by omega) A hD) ⟨rfl, rfl, Nat.le_of_ble_eq_true rfl, Nat.le_of_ble_eq_true rfl⟩ (pv_X hX10 5 rfl rfl bl_PX (bX hX10)) (n := 2) (As := [.int (nI (ot * 5 + ar)), .int (-(gpV σ nm ns sh ar))]) (rest := []) rfl hl.1 rfl (Nat.le_of_ble_eq_true rfl) ⟨Nat.le_of_ble_eq_true rfl, Nat.le_of_ble_eq_true rfl⟩ dX3_settle_93) hS10 (fun _ h => h) (fun H12 L12 _ h12 _ _ hS12 => ?_)
    have hX12 : PX G ad (wrS (wrS σ (sh * 5 + ar) (gpV σ nm ns sh ar)) (ot * 5 + ar) (-(gpV σ nm ns sh ar))) s H12 := ⟨h12, hX10.2⟩
    refine lv_iload hx hb dX3_settle_96 (lv_at hl 0 rfl) ?_
    refine va_mabs hx hb (S.2.2.1.trans hl.1.symm) S.2.2.2.1 (S.2.2.2.2 _ m_419) (S.2.2.2.2 _ m_420) (S.2.2.2.2 _ m_28) (S.2.2.2.2 _ m_421) (Nat.le_of_ble_eq_true rfl) (Nat.le_of_ble_eq_true rfl) (Nat.le_of_ble_eq_true rfl) (Nat.le_of_ble_eq_true rfl) dX3_settle_98 ?_
    refine k_eq (y := abV (gpV σ nm ns sh ar)) rfl ?_
    refine W.widen (k := 6) (n := 36) (Nat.le_of_ble_eq_true rfl) (Nat.le_of_ble_eq_true rfl) ?_
    refine vx_ret ?_
    exact W.iret (v := abV (gpV σ nm ns sh ar)) hx hb hr (fun t ht hW => ⟨⟨_, rfl, (by simp [eX_settle, lnN, ixN_nI h31sh, ixN_nI h31ot, ixN_nI h31ar, p1, p2, p3, p4, p5, bc46_7])⟩, (by have e9 : wrS (wrS σ (lnN (nI sh) (nI ar)) (gpV σ nm ns (ixN (nI sh)) (ixN (nI ar)))) (lnN (nI ot) (nI ar)) (-(gpV σ nm ns (ixN (nI sh)) (ixN (nI ar)))) = wrS (wrS σ (sh * 5 + ar) (gpV σ nm ns sh ar)) (ot * 5 + ar) (-(gpV σ nm ns sh ar)) := (by first | rfl | simp [eX_settle, lnN, ixN_nI h31sh, ixN_nI h31ot, ixN_nI h31ar]); show va_P G.1 vwCl (wX G ad (wrS (wrS σ (lnN (nI sh) (nI ar)) (gpV σ nm ns (ixN (nI sh)) (ixN (nI ar)))) (lnN (nI ot) (nI ar)) (-(gpV σ nm ns (ixN (nI sh)) (ixN (nI ar)))))) t.heap; rw [e9, ht]; exact hX12.1), hS12.F ht⟩) hS12.2.2 dX3_settle_101
  · have bc46_7 := bI_0 c46_7
    exact k_thr S hG hZ hst at_IS m_403 m_34 (by decide +kernel) n_599 hl.1 ht hlocks ⟨Nat.le_of_ble_eq_true rfl, Nat.le_of_ble_eq_true rfl⟩ ⟨Nat.le_of_ble_eq_true rfl, Nat.le_of_ble_eq_true rfl⟩ ⟨Nat.le_of_ble_eq_true rfl, Nat.le_of_ble_eq_true rfl⟩ (Nat.le_of_ble_eq_true rfl) (by simp [eX_settle, lnN, ixN_nI h31sh, ixN_nI h31ot, ixN_nI h31ar, p1, p2, p3, p4, p5, bc46_7, exN]) dX3_settle_49 dX3_settle_52 dX3_settle_53 dX3_settle_55 dX3_settle_58

set_option maxHeartbeats 4000000 in
set_option maxRecDepth 100000 in
theorem c_now (l : Launch) (G : kG) (ad : Nat → Nat) (σ : kS)  : Met l yX3_now [.code yX3_now cX3_now 1 (some .int)] ({ frames := 1, cells := 0, slots := 0, locals := 40 }) (va_Pc [.ref (ad 0)] (fun U => PX G ad σ U U.heap)) (vp_Si (fun r => r = σ 16 0)) 0 0 NF := by
  refine k_of (by decide) (Nat.le_of_ble_eq_true rfl) (fun U h => h.2.2) ?_
  intro p e s m below meth c ls S hr hlocks hmn hB hl
  have hx := S.1
  have hb := S.2.1
  have hX : PX G ad σ s s.heap := hB
  have hl : lv_has ls 1 [(0, .ref (ad 0))] := hl
  refine lv_aload_n hx hb dX3_now_0 rfl (lv_at hl 0 rfl) ?_
  refine k_get S hX.2 hX.1 0 (C := RX3) (T := TX3) (N := 6) rfl rfl 5 (by decide) inX3 m_136 rfl dX3_now_1 ?_
  exact W.iret (v := σ 16 0) hx hb hr (fun t ht hW => ⟨_, rfl, rfl, ht⟩) (fun q h => by cases h) dX3_now_4

set_option maxHeartbeats 4000000 in
set_option maxRecDepth 100000 in
theorem c_moves (l : Launch) (G : kG) (ad : Nat → Nat) (σ : kS)  : Met l yX3_moves [.code yX3_moves cX3_moves 1 (some .int)] ({ frames := 1, cells := 0, slots := 0, locals := 40 }) (va_Pc [.ref (ad 0)] (fun U => PX G ad σ U U.heap)) (vp_Si (fun r => r = σ 17 0)) 0 0 NF := by
  refine k_of (by decide) (Nat.le_of_ble_eq_true rfl) (fun U h => h.2.2) ?_
  intro p e s m below meth c ls S hr hlocks hmn hB hl
  have hx := S.1
  have hb := S.2.1
  have hX : PX G ad σ s s.heap := hB
  have hl : lv_has ls 1 [(0, .ref (ad 0))] := hl
  refine lv_aload_n hx hb dX3_moves_0 rfl (lv_at hl 0 rfl) ?_
  refine k_get S hX.2 hX.1 0 (C := RX3) (T := TX3) (N := 6) rfl rfl 2 (by decide) inX3 m_133 rfl dX3_moves_1 ?_
  refine k_getN S hX.2 hX.1 3 (C := RX1) (T := TX1) (N := 6) rfl rfl 5 (by decide) inX1 n_57 rfl dX3_moves_4 ?_
  exact W.iret (v := σ 17 0) hx hb hr (fun t ht hW => ⟨_, rfl, rfl, ht⟩) (fun q h => by cases h) dX3_moves_7

set_option maxHeartbeats 4000000 in
set_option maxRecDepth 100000 in
theorem c_sheets (l : Launch) (G : kG) (ad : Nat → Nat) (σ : kS)  : Met l yX3_sheets [.code yX3_sheets cX3_sheets 1 (some .int)] ({ frames := 1, cells := 0, slots := 0, locals := 40 }) (va_Pc [.ref (ad 0)] (fun U => PX G ad σ U U.heap)) (vp_Si (fun r => r = σ 18 0)) 0 0 NF := by
  refine k_of (by decide) (Nat.le_of_ble_eq_true rfl) (fun U h => h.2.2) ?_
  intro p e s m below meth c ls S hr hlocks hmn hB hl
  have hx := S.1
  have hb := S.2.1
  have hX : PX G ad σ s s.heap := hB
  have hl : lv_has ls 1 [(0, .ref (ad 0))] := hl
  refine lv_aload_n hx hb dX3_sheets_0 rfl (lv_at hl 0 rfl) ?_
  refine k_get S hX.2 hX.1 0 (C := RX3) (T := TX3) (N := 6) rfl rfl 3 (by decide) inX3 m_134 rfl dX3_sheets_1 ?_
  refine k_getN S hX.2 hX.1 4 (C := RX2) (T := TX2) (N := 4) rfl rfl 3 (by decide) inX2 n_85 rfl dX3_sheets_4 ?_
  exact W.iret (v := σ 18 0) hx hb hr (fun t ht hW => ⟨_, rfl, rfl, ht⟩) (fun q h => by cases h) dX3_sheets_7

set_option maxHeartbeats 4000000 in
set_option maxRecDepth 100000 in
theorem c_book (l : Launch) (G : kG) (ad : Nat → Nat) (σ : kS) (nm ns : Nat) (a0 b0 : Int32) (hst : l.stackTraces = false) (hns : σ 18 0 = nI ns) (hns4 : ns ≤ 40) (hnm : σ 17 0 = nI nm) (hnm2 : nm ≤ 200)  : vx_Met l yX3_book [.code yX3_book cX3_book 3 (some .int)] ({ frames := 7, cells := 2, slots := 12, locals := 134 }) (va_Pc [.ref (ad 0), .int a0, .int b0] (fun U => PX G ad σ U U.heap ∧ ZS U U.heap)) (vp_Si (fun r => eX_two a0 12 b0 5 = 0 ∧ r = boV σ nm ns a0 (ixN b0) (σ 16 0))) (tX (fun x => eX_two a0 12 b0 5 ≠ 0 ∧ x = exN (eX_two a0 12 b0 5))) 2 12 NF := by
  refine kx_of (by decide) (Nat.le_of_ble_eq_true rfl) (fun U h => h.1.2.2) ?_
  intro p e s m below meth c ls S hr hlocks ht hB hl
  have hx := S.1
  have hb := S.2.1
  have hX : PX G ad σ s s.heap := hB.1
  have hG : GL s := hX.2.2
  have hZ : ZS s s.heap := hB.2
  have hl : lv_has ls 3 [(0, .ref (ad 0)), (1, .int a0), (2, .int b0)] := hl
  refine lv_iload_n hx hb dX3_book_0 rfl (lv_at hl 1 rfl) ?_
  refine lv_bipush (v := 12) hx hb dX3_book_1 (by decide) ?_
  refine q_xv (rx_S S ⟨m_222, m_223, m_23, m_224⟩ ⟨rfl, by decide, by decide, by decide +kernel⟩ (c_checkIndex l a0 12 hst) ⟨rfl, rfl, Nat.le_of_ble_eq_true rfl, Nat.le_of_ble_eq_true rfl⟩ (ps bl_GZ (bGZ hX.2.2 hZ)) (n := 2) (As := [.int a0, .int 12]) (rest := []) rfl hl.1 rfl (Nat.le_of_ble_eq_true rfl) ⟨Nat.le_of_ble_eq_true rfl, Nat.le_of_ble_eq_true rfl⟩ dX3_book_3) ht hlocks (by rintro x ⟨rfl, hf1⟩; simp [eX_two, hf1, exN]) (Nat.le_of_ble_eq_true rfl) (Nat.le_of_ble_eq_true rfl) (fun (p1 : ckI a0 12 = true) => ?_)
  refine lv_iload_n hx hb dX3_book_6 rfl (lv_at hl 2 rfl) ?_
  refine lv_iconst (v := 5) hx hb dX3_book_7 (by decide) ?_
  refine q_xv (rx_S S ⟨m_222, m_223, m_23, m_224⟩ ⟨rfl, by decide, by decide, by decide +kernel⟩ (c_checkIndex l b0 5 hst) ⟨rfl, rfl, Nat.le_of_ble_eq_true rfl, Nat.le_of_ble_eq_true rfl⟩ (ps bl_GZ (bGZ hX.2.2 hZ)) (n := 2) (As := [.int b0, .int 5]) (rest := []) rfl hl.1 rfl (Nat.le_of_ble_eq_true rfl) ⟨Nat.le_of_ble_eq_true rfl, Nat.le_of_ble_eq_true rfl⟩ dX3_book_8) ht hlocks (by rintro x ⟨rfl, hf2⟩; simp [eX_two, p1, hf2, exN]) (Nat.le_of_ble_eq_true rfl) (Nat.le_of_ble_eq_true rfl) (fun (p2 : ckI b0 5 = true) => ?_)
  obtain ⟨ar, har, rfl⟩ := ckI_nI (n := 5) p2 (by decide)
  have h31ar : ar < 2 ^ 31 := by omega
  refine lv_aload_n hx hb dX3_book_11 rfl (lv_at hl 0 rfl) ?_
  refine lv_iload_n hx hb dX3_book_12 rfl (lv_at hl 1 rfl) ?_
  refine lv_iload_n hx hb dX3_book_13 rfl (lv_at hl 2 rfl) ?_
  refine lv_aload_n hx hb dX3_book_14 rfl (lv_at hl 0 rfl) ?_
  refine k_get S hX.2 hX.1 0 (C := RX3) (T := TX3) (N := 6) rfl rfl 5 (by decide) inX3 m_136 rfl dX3_book_15 ?_
  refine q_i (r_V S ⟨m_175, m_177, m_4, m_23, m_178⟩ ⟨rfl, by decide, by decide, by decide +kernel⟩ (c_bookOf l G ad σ nm ns a0 ar (σ 16 0) hns hns4 hnm hnm2 (by omega)) ⟨rfl, rfl, Nat.le_of_ble_eq_true rfl, Nat.le_of_ble_eq_true rfl⟩ (pv_X hX 0 rfl rfl bl_PX (bX hX)) (n := 3) (As := [.int a0, .int (nI ar), .int (σ 16 0)]) (rest := []) rfl hl.1 rfl (Nat.le_of_ble_eq_true rfl) ⟨Nat.le_of_ble_eq_true rfl, Nat.le_of_ble_eq_true rfl⟩ dX3_book_18) (fun r3 (e3 : r3 = boV σ nm ns a0 ar (σ 16 0)) => ?_)
  subst e3
  refine vx_ret ?_
  exact W.iret (v := boV σ nm ns a0 ar (σ 16 0)) hx hb hr (fun t ht hW => ⟨_, rfl, (by simp [eX_two, ixN_nI h31ar, p1, p2]), ht⟩) (fun q h => by cases h) dX3_book_21

set_option maxHeartbeats 4000000 in
set_option maxRecDepth 100000 in
theorem c_bookAt (l : Launch) (G : kG) (ad : Nat → Nat) (σ : kS) (nm ns : Nat) (a0 b0 c0 : Int32) (hst : l.stackTraces = false) (hns : σ 18 0 = nI ns) (hns4 : ns ≤ 40) (hnm : σ 17 0 = nI nm) (hnm2 : nm ≤ 200)  : vx_Met l yX3_bookAt [.code yX3_bookAt cX3_bookAt 4 (some .int)] ({ frames := 7, cells := 3, slots := 18, locals := 134 }) (va_Pc [.ref (ad 0), .int a0, .int b0, .int c0] (fun U => PX G ad σ U U.heap ∧ ZS U U.heap)) (vp_Si (fun r => eX_bookAt σ a0 b0 c0 = 0 ∧ r = boV σ nm ns a0 (ixN b0) c0)) (tX (fun x => eX_bookAt σ a0 b0 c0 ≠ 0 ∧ x = exN (eX_bookAt σ a0 b0 c0))) 3 18 NF := by
  refine kx_of (by decide) (Nat.le_of_ble_eq_true rfl) (fun U h => h.1.2.2) ?_
  intro p e s m below meth c ls S hr hlocks ht hB hl
  have hx := S.1
  have hb := S.2.1
  have hX : PX G ad σ s s.heap := hB.1
  have hG : GL s := hX.2.2
  have hZ : ZS s s.heap := hB.2
  have hl : lv_has ls 4 [(0, .ref (ad 0)), (1, .int a0), (2, .int b0), (3, .int c0)] := hl
  refine lv_iload_n hx hb dX3_bookAt_0 rfl (lv_at hl 1 rfl) ?_
  refine lv_bipush (v := 12) hx hb dX3_bookAt_1 (by decide) ?_
  refine q_xv (rx_S S ⟨m_222, m_223, m_23, m_224⟩ ⟨rfl, by decide, by decide, by decide +kernel⟩ (c_checkIndex l a0 12 hst) ⟨rfl, rfl, Nat.le_of_ble_eq_true rfl, Nat.le_of_ble_eq_true rfl⟩ (ps bl_GZ (bGZ hX.2.2 hZ)) (n := 2) (As := [.int a0, .int 12]) (rest := []) rfl hl.1 rfl (Nat.le_of_ble_eq_true rfl) ⟨Nat.le_of_ble_eq_true rfl, Nat.le_of_ble_eq_true rfl⟩ dX3_bookAt_3) ht hlocks (by rintro x ⟨rfl, hf1⟩; simp [eX_bookAt, hf1, exN]) (Nat.le_of_ble_eq_true rfl) (Nat.le_of_ble_eq_true rfl) (fun (p1 : ckI a0 12 = true) => ?_)
  refine lv_iload_n hx hb dX3_bookAt_6 rfl (lv_at hl 2 rfl) ?_
  refine lv_iconst (v := 5) hx hb dX3_bookAt_7 (by decide) ?_
  refine q_xv (rx_S S ⟨m_222, m_223, m_23, m_224⟩ ⟨rfl, by decide, by decide, by decide +kernel⟩ (c_checkIndex l b0 5 hst) ⟨rfl, rfl, Nat.le_of_ble_eq_true rfl, Nat.le_of_ble_eq_true rfl⟩ (ps bl_GZ (bGZ hX.2.2 hZ)) (n := 2) (As := [.int b0, .int 5]) (rest := []) rfl hl.1 rfl (Nat.le_of_ble_eq_true rfl) ⟨Nat.le_of_ble_eq_true rfl, Nat.le_of_ble_eq_true rfl⟩ dX3_bookAt_8) ht hlocks (by rintro x ⟨rfl, hf2⟩; simp [eX_bookAt, p1, hf2, exN]) (Nat.le_of_ble_eq_true rfl) (Nat.le_of_ble_eq_true rfl) (fun (p2 : ckI b0 5 = true) => ?_)
  obtain ⟨ar, har, rfl⟩ := ckI_nI (n := 5) p2 (by decide)
  have h31ar : ar < 2 ^ 31 := by omega
  refine lv_iload_n hx hb dX3_bookAt_11 rfl (lv_at hl 3 rfl) ?_
  refine lv_iconst (v := 0) hx hb dX3_bookAt_12 (by decide) ?_
  refine lv_aload_n hx hb dX3_bookAt_13 rfl (lv_at hl 0 rfl) ?_
  refine k_get S hX.2 hX.1 0 (C := RX3) (T := TX3) (N := 6) rfl rfl 5 (by decide) inX3 m_136 rfl dX3_bookAt_14 ?_
  refine q_xv (rx_S S ⟨m_443, m_444, m_23, m_445⟩ ⟨rfl, by decide, by decide, by decide +kernel⟩ (c_checkRange l c0 0 (σ 16 0) hst) ⟨rfl, rfl, Nat.le_of_ble_eq_true rfl, Nat.le_of_ble_eq_true rfl⟩ (ps bl_GZ (bGZ hX.2.2 hZ)) (n := 3) (As := [.int c0, .int 0, .int (σ 16 0)]) (rest := []) rfl hl.1 rfl (Nat.le_of_ble_eq_true rfl) ⟨Nat.le_of_ble_eq_true rfl, Nat.le_of_ble_eq_true rfl⟩ dX3_bookAt_17) ht hlocks (by rintro x ⟨rfl, hf3⟩; simp [eX_bookAt, ixN_nI h31ar, p1, p2, hf3, exN]) (Nat.le_of_ble_eq_true rfl) (Nat.le_of_ble_eq_true rfl) (fun (p3 : ckR c0 0 (σ 16 0) = true) => ?_)
  refine lv_aload_n hx hb dX3_bookAt_20 rfl (lv_at hl 0 rfl) ?_
  refine lv_iload_n hx hb dX3_bookAt_21 rfl (lv_at hl 1 rfl) ?_
  refine lv_iload_n hx hb dX3_bookAt_22 rfl (lv_at hl 2 rfl) ?_
  refine lv_iload_n hx hb dX3_bookAt_23 rfl (lv_at hl 3 rfl) ?_
  refine q_i (r_V S ⟨m_175, m_177, m_4, m_23, m_178⟩ ⟨rfl, by decide, by decide, by decide +kernel⟩ (c_bookOf l G ad σ nm ns a0 ar c0 hns hns4 hnm hnm2 (by omega)) ⟨rfl, rfl, Nat.le_of_ble_eq_true rfl, Nat.le_of_ble_eq_true rfl⟩ (pv_X hX 0 rfl rfl bl_PX (bX hX)) (n := 3) (As := [.int a0, .int (nI ar), .int c0]) (rest := []) rfl hl.1 rfl (Nat.le_of_ble_eq_true rfl) ⟨Nat.le_of_ble_eq_true rfl, Nat.le_of_ble_eq_true rfl⟩ dX3_bookAt_24) (fun r4 (e4 : r4 = boV σ nm ns a0 ar c0) => ?_)
  subst e4
  refine vx_ret ?_
  exact W.iret (v := boV σ nm ns a0 ar c0) hx hb hr (fun t ht hW => ⟨_, rfl, (by simp [eX_bookAt, ixN_nI h31ar, p1, p2, p3]), ht⟩) (fun q h => by cases h) dX3_bookAt_27

set_option maxHeartbeats 4000000 in
set_option maxRecDepth 100000 in
theorem c_worth (l : Launch) (G : kG) (ad : Nat → Nat) (σ : kS) (nm ns : Nat) (a0 : Int32) (hst : l.stackTraces = false) (hns : σ 18 0 = nI ns) (hns4 : ns ≤ 40) (hnm : σ 17 0 = nI nm) (hnm2 : nm ≤ 200)  : vx_Met l yX3_worth [.code yX3_worth cX3_worth 2 (some .int)] ({ frames := 7, cells := 1, slots := 6, locals := 157 }) (va_Pc [.ref (ad 0), .int a0] (fun U => PX G ad σ U U.heap ∧ ZS U U.heap)) (vp_Si (fun r => eX_one a0 12 = 0 ∧ r = woF σ nm ns a0 5)) (tX (fun x => eX_one a0 12 ≠ 0 ∧ x = exN (eX_one a0 12))) 1 6 NF := by
  refine kx_of (by decide) (Nat.le_of_ble_eq_true rfl) (fun U h => h.1.2.2) ?_
  intro p e s m below meth c ls S hr hlocks ht hB hl
  have hx := S.1
  have hb := S.2.1
  have hX : PX G ad σ s s.heap := hB.1
  have hG : GL s := hX.2.2
  have hZ : ZS s s.heap := hB.2
  have hl : lv_has ls 2 [(0, .ref (ad 0)), (1, .int a0)] := hl
  refine lv_iload_n hx hb dX3_worth_0 rfl (lv_at hl 1 rfl) ?_
  refine lv_bipush (v := 12) hx hb dX3_worth_1 (by decide) ?_
  refine q_xv (rx_S S ⟨m_222, m_223, m_23, m_224⟩ ⟨rfl, by decide, by decide, by decide +kernel⟩ (c_checkIndex l a0 12 hst) ⟨rfl, rfl, Nat.le_of_ble_eq_true rfl, Nat.le_of_ble_eq_true rfl⟩ (ps bl_GZ (bGZ hX.2.2 hZ)) (n := 2) (As := [.int a0, .int 12]) (rest := []) rfl hl.1 rfl (Nat.le_of_ble_eq_true rfl) ⟨Nat.le_of_ble_eq_true rfl, Nat.le_of_ble_eq_true rfl⟩ dX3_worth_3) ht hlocks (by rintro x ⟨rfl, hf1⟩; simp [eX_one, hf1, exN]) (Nat.le_of_ble_eq_true rfl) (Nat.le_of_ble_eq_true rfl) (fun (p1 : ckI a0 12 = true) => ?_)
  refine lv_aload_n hx hb dX3_worth_6 rfl (lv_at hl 0 rfl) ?_
  refine lv_iload_n hx hb dX3_worth_7 rfl (lv_at hl 1 rfl) ?_
  refine q_i (r_V S ⟨m_171, m_173, m_3, m_23, m_174⟩ ⟨rfl, by decide, by decide, by decide +kernel⟩ (c_worthOf l G ad σ nm ns a0 hns hns4 hnm hnm2) ⟨rfl, rfl, Nat.le_of_ble_eq_true rfl, Nat.le_of_ble_eq_true rfl⟩ (pv_X hX 0 rfl rfl bl_PX (bX hX)) (n := 1) (As := [.int a0]) (rest := []) rfl hl.1 rfl (Nat.le_of_ble_eq_true rfl) ⟨Nat.le_of_ble_eq_true rfl, Nat.le_of_ble_eq_true rfl⟩ dX3_worth_8) (fun r2 (e2 : r2 = woF σ nm ns a0 5) => ?_)
  subst e2
  refine vx_ret ?_
  exact W.iret (v := woF σ nm ns a0 5) hx hb hr (fun t ht hW => ⟨_, rfl, (by simp [eX_one, p1]), ht⟩) (fun q h => by cases h) dX3_worth_11

set_option maxHeartbeats 4000000 in
set_option maxRecDepth 100000 in
theorem c_stateOf (l : Launch) (G : kG) (ad : Nat → Nat) (σ : kS) (nm ns : Nat) (a0 : Int32) (hst : l.stackTraces = false) (hns : σ 18 0 = nI ns) (hns4 : ns ≤ 40) (hnm : σ 17 0 = nI nm) (hnm2 : nm ≤ 200)  : vx_Met l yX3_stateOf [.code yX3_stateOf cX3_stateOf 2 (some .int)] ({ frames := 7, cells := 1, slots := 6, locals := 113 }) (va_Pc [.ref (ad 0), .int a0] (fun U => PX G ad σ U U.heap ∧ ZS U U.heap)) (vp_Si (fun r => eX_one a0 (σ 18 0) = 0 ∧ r = (if σ 9 (ixN a0) = 0 then 0 else 1))) (tX (fun x => eX_one a0 (σ 18 0) ≠ 0 ∧ x = exN (eX_one a0 (σ 18 0)))) 1 6 NF := by
  refine kx_of (by decide) (Nat.le_of_ble_eq_true rfl) (fun U h => h.1.2.2) ?_
  intro p e s m below meth c ls S hr hlocks ht hB hl
  have hx := S.1
  have hb := S.2.1
  have hX : PX G ad σ s s.heap := hB.1
  have hG : GL s := hX.2.2
  have hZ : ZS s s.heap := hB.2
  have hl : lv_has ls 2 [(0, .ref (ad 0)), (1, .int a0)] := hl
  refine lv_iload_n hx hb dX3_stateOf_0 rfl (lv_at hl 1 rfl) ?_
  refine lv_aload_n hx hb dX3_stateOf_1 rfl (lv_at hl 0 rfl) ?_
  refine k_get S hX.2 hX.1 0 (C := RX3) (T := TX3) (N := 6) rfl rfl 3 (by decide) inX3 m_134 rfl dX3_stateOf_2 ?_
  refine k_getN S hX.2 hX.1 4 (C := RX2) (T := TX2) (N := 4) rfl rfl 3 (by decide) inX2 n_85 rfl dX3_stateOf_5 ?_
  refine q_xv (rx_S S ⟨m_222, m_223, m_23, m_224⟩ ⟨rfl, by decide, by decide, by decide +kernel⟩ (c_checkIndex l a0 (σ 18 0) hst) ⟨rfl, rfl, Nat.le_of_ble_eq_true rfl, Nat.le_of_ble_eq_true rfl⟩ (ps bl_GZ (bGZ hX.2.2 hZ)) (n := 2) (As := [.int a0, .int (σ 18 0)]) (rest := []) rfl hl.1 rfl (Nat.le_of_ble_eq_true rfl) ⟨Nat.le_of_ble_eq_true rfl, Nat.le_of_ble_eq_true rfl⟩ dX3_stateOf_8) ht hlocks (by rintro x ⟨rfl, hf1⟩; simp [eX_one, hf1, exN]) (Nat.le_of_ble_eq_true rfl) (Nat.le_of_ble_eq_true rfl) (fun (p1 : ckI a0 (σ 18 0) = true) => ?_)
  obtain ⟨sh, hsh, rfl⟩ := ckI_nI (n := ns) (by rw [← hns]; exact p1) (by omega)
  have h31sh : sh < 2 ^ 31 := by omega
  refine lv_aload_n hx hb dX3_stateOf_11 rfl (lv_at hl 0 rfl) ?_
  refine k_get S hX.2 hX.1 0 (C := RX3) (T := TX3) (N := 6) rfl rfl 3 (by decide) inX3 m_134 rfl dX3_stateOf_12 ?_
  refine k_getN S hX.2 hX.1 4 (C := RX2) (T := TX2) (N := 4) rfl rfl 2 (by decide) inX2 n_83 rfl dX3_stateOf_15 ?_
  refine lv_iload_n hx hb dX3_stateOf_18 rfl (lv_at hl 1 rfl) ?_
  refine k_zld S hX.2 hX.1 13 (i := sh) rfl (by omega) (by decide) dX3_stateOf_19 ?_
  refine lv_if_eq (tgt := 27) hx hb dX3_stateOf_20 (by decide) (fun c20_2 => ?_) (fun c20_2 => ?_)
  · have bc20_2 := c20_2
    refine lv_iconst (v := 0) hx hb dX3_stateOf_27 (by decide) ?_
    refine vx_ret ?_
    exact W.iret (v := 0) hx hb hr (fun t ht hW => ⟨_, rfl, (by simp [eX_one, ixN_nI h31sh, p1, c20_2]), ht⟩) (fun q h => by cases h) dX3_stateOf_28
  · have bc20_2 := c20_2
    refine lv_iconst (v := 1) hx hb dX3_stateOf_23 (by decide) ?_
    refine lv_goto (tgt := 28) hx hb dX3_stateOf_24 (by decide) ?_
    refine vx_ret ?_
    exact W.iret (v := 1) hx hb hr (fun t ht hW => ⟨_, rfl, (by simp [eX_one, ixN_nI h31sh, p1, c20_2]), ht⟩) (fun q h => by cases h) dX3_stateOf_28

set_option maxHeartbeats 4000000 in
set_option maxRecDepth 100000 in
theorem c_cutOf (l : Launch) (G : kG) (ad : Nat → Nat) (σ : kS) (nm ns : Nat) (a0 : Int32) (hst : l.stackTraces = false) (hns : σ 18 0 = nI ns) (hns4 : ns ≤ 40) (hnm : σ 17 0 = nI nm) (hnm2 : nm ≤ 200)  : vx_Met l yX3_cutOf [.code yX3_cutOf cX3_cutOf 2 (some .int)] ({ frames := 7, cells := 1, slots := 6, locals := 113 }) (va_Pc [.ref (ad 0), .int a0] (fun U => PX G ad σ U U.heap ∧ ZS U U.heap)) (vp_Si (fun r => eX_one a0 (σ 18 0) = 0 ∧ r = σ 8 (ixN a0))) (tX (fun x => eX_one a0 (σ 18 0) ≠ 0 ∧ x = exN (eX_one a0 (σ 18 0)))) 1 6 NF := by
  refine kx_of (by decide) (Nat.le_of_ble_eq_true rfl) (fun U h => h.1.2.2) ?_
  intro p e s m below meth c ls S hr hlocks ht hB hl
  have hx := S.1
  have hb := S.2.1
  have hX : PX G ad σ s s.heap := hB.1
  have hG : GL s := hX.2.2
  have hZ : ZS s s.heap := hB.2
  have hl : lv_has ls 2 [(0, .ref (ad 0)), (1, .int a0)] := hl
  refine lv_iload_n hx hb dX3_cutOf_0 rfl (lv_at hl 1 rfl) ?_
  refine lv_aload_n hx hb dX3_cutOf_1 rfl (lv_at hl 0 rfl) ?_
  refine k_get S hX.2 hX.1 0 (C := RX3) (T := TX3) (N := 6) rfl rfl 3 (by decide) inX3 m_134 rfl dX3_cutOf_2 ?_
  refine k_getN S hX.2 hX.1 4 (C := RX2) (T := TX2) (N := 4) rfl rfl 3 (by decide) inX2 n_85 rfl dX3_cutOf_5 ?_
  refine q_xv (rx_S S ⟨m_222, m_223, m_23, m_224⟩ ⟨rfl, by decide, by decide, by decide +kernel⟩ (c_checkIndex l a0 (σ 18 0) hst) ⟨rfl, rfl, Nat.le_of_ble_eq_true rfl, Nat.le_of_ble_eq_true rfl⟩ (ps bl_GZ (bGZ hX.2.2 hZ)) (n := 2) (As := [.int a0, .int (σ 18 0)]) (rest := []) rfl hl.1 rfl (Nat.le_of_ble_eq_true rfl) ⟨Nat.le_of_ble_eq_true rfl, Nat.le_of_ble_eq_true rfl⟩ dX3_cutOf_8) ht hlocks (by rintro x ⟨rfl, hf1⟩; simp [eX_one, hf1, exN]) (Nat.le_of_ble_eq_true rfl) (Nat.le_of_ble_eq_true rfl) (fun (p1 : ckI a0 (σ 18 0) = true) => ?_)
  obtain ⟨sh, hsh, rfl⟩ := ckI_nI (n := ns) (by rw [← hns]; exact p1) (by omega)
  have h31sh : sh < 2 ^ 31 := by omega
  refine lv_aload_n hx hb dX3_cutOf_11 rfl (lv_at hl 0 rfl) ?_
  refine k_get S hX.2 hX.1 0 (C := RX3) (T := TX3) (N := 6) rfl rfl 3 (by decide) inX3 m_134 rfl dX3_cutOf_12 ?_
  refine k_getN S hX.2 hX.1 4 (C := RX2) (T := TX2) (N := 4) rfl rfl 1 (by decide) inX2 n_81 rfl dX3_cutOf_15 ?_
  refine lv_iload_n hx hb dX3_cutOf_18 rfl (lv_at hl 1 rfl) ?_
  refine k_ild S hX.2 hX.1 12 (i := sh) rfl (by omega) (by decide) dX3_cutOf_19 ?_
  refine vx_ret ?_
  exact W.iret (v := σ 8 sh) hx hb hr (fun t ht hW => ⟨_, rfl, (by simp [eX_one, ixN_nI h31sh, p1]), ht⟩) (fun q h => by cases h) dX3_cutOf_20

set_option maxHeartbeats 4000000 in
set_option maxRecDepth 100000 in
theorem c_counts (l : Launch) (G : kG) (ad : Nat → Nat) (σ : kS) (nm ns : Nat) (a0 b0 : Int32) (hst : l.stackTraces = false) (hns : σ 18 0 = nI ns) (hns4 : ns ≤ 40) (hnm : σ 17 0 = nI nm) (hnm2 : nm ≤ 200)  : vx_Met l yX3_counts [.code yX3_counts cX3_counts 3 (some .int)] ({ frames := 8, cells := 2, slots := 12, locals := 135 }) (va_Pc [.ref (ad 0), .int a0, .int b0] (fun U => PX G ad σ U U.heap ∧ ZS U U.heap)) (vp_Si (fun r => eX_two a0 (σ 18 0) b0 5 = 0 ∧ r = bc (σ 10 (lnN a0 b0)))) (tX (fun x => eX_two a0 (σ 18 0) b0 5 ≠ 0 ∧ x = exN (eX_two a0 (σ 18 0) b0 5))) 2 12 NF := by
  refine kx_of (by decide) (Nat.le_of_ble_eq_true rfl) (fun U h => h.1.2.2) ?_
  intro p e s m below meth c ls S hr hlocks ht hB hl
  have hx := S.1
  have hb := S.2.1
  have hX : PX G ad σ s s.heap := hB.1
  have hG : GL s := hX.2.2
  have hZ : ZS s s.heap := hB.2
  have hl : lv_has ls 3 [(0, .ref (ad 0)), (1, .int a0), (2, .int b0)] := hl
  refine lv_aload_n hx hb dX3_counts_0 rfl (lv_at hl 0 rfl) ?_
  refine lv_iload_n hx hb dX3_counts_1 rfl (lv_at hl 1 rfl) ?_
  refine lv_iload_n hx hb dX3_counts_2 rfl (lv_at hl 2 rfl) ?_
  refine q_xv (rx_V S ⟨m_218, m_220, m_9, m_23, m_221⟩ ⟨rfl, by decide, by decide, by decide +kernel⟩ (c_checkLine l G ad σ a0 b0 hst) ⟨rfl, rfl, Nat.le_of_ble_eq_true rfl, Nat.le_of_ble_eq_true rfl⟩ (pv_X hX 0 rfl rfl bl_PXZ (bXZ hX hZ)) (n := 2) (As := [.int a0, .int b0]) (rest := []) rfl hl.1 rfl (Nat.le_of_ble_eq_true rfl) ⟨Nat.le_of_ble_eq_true rfl, Nat.le_of_ble_eq_true rfl⟩ dX3_counts_3) ht hlocks (by rintro x ⟨rfl, hf1⟩; simp only [eX_two, hf1]; exact ⟨by simp, rfl⟩) (Nat.le_of_ble_eq_true rfl) (Nat.le_of_ble_eq_true rfl) (fun (p1 : (ckI a0 (σ 18 0) && ckI b0 5) = true) => ?_)
  obtain ⟨hpa, hpb⟩ := Bool.and_eq_true_iff.mp p1
  obtain ⟨sh, hsh, rfl⟩ := ckI_nI (n := ns) (by rw [← hns]; exact hpa) (by omega)
  obtain ⟨ar, har, rfl⟩ := ckI_nI (n := 5) hpb (by decide)
  have h31sh : sh < 2 ^ 31 := by omega
  have h31ar : ar < 2 ^ 31 := by omega
  refine lv_aload_n hx hb dX3_counts_6 rfl (lv_at hl 0 rfl) ?_
  refine k_get S hX.2 hX.1 0 (C := RX3) (T := TX3) (N := 6) rfl rfl 4 (by decide) inX3 m_135 rfl dX3_counts_7 ?_
  refine lv_iload_n hx hb dX3_counts_10 rfl (lv_at hl 1 rfl) ?_
  refine lv_iload_n hx hb dX3_counts_11 rfl (lv_at hl 2 rfl) ?_
  refine q_i (r_S S ⟨m_183, m_184, m_23, m_185⟩ ⟨rfl, by decide, by decide, by decide +kernel⟩ (c_lineOf l sh ar) ⟨rfl, rfl, Nat.le_of_ble_eq_true rfl, Nat.le_of_ble_eq_true rfl⟩ (ps bl_GL (bG hX.2.2)) (n := 2) (As := [.int (nI sh), .int (nI ar)]) (rest := [.ref (ad 5)]) rfl hl.1 rfl (Nat.le_of_ble_eq_true rfl) ⟨Nat.le_of_ble_eq_true rfl, Nat.le_of_ble_eq_true rfl⟩ dX3_counts_12) (fun r2 (e2 : r2 = nI (sh * 5 + ar)) => ?_)
  subst e2
  refine q_i (r_VN S hX.2.2 ⟨n_326, m_328, m_11, m_26, m_329⟩ ⟨rfl, by decide, by decide, by decide +kernel⟩ (c_countsOn l G ad σ (sh * 5 + ar) (by omega)) ⟨rfl, rfl, Nat.le_of_ble_eq_true rfl, Nat.le_of_ble_eq_true rfl⟩ (pv_X hX 5 rfl rfl bl_PX (bX hX)) (n := 1) (As := [.int (nI (sh * 5 + ar))]) (rest := []) rfl hl.1 rfl (Nat.le_of_ble_eq_true rfl) ⟨Nat.le_of_ble_eq_true rfl, Nat.le_of_ble_eq_true rfl⟩ dX3_counts_15) (fun r3 (e3 : r3 = bc (σ 10 (sh * 5 + ar))) => ?_)
  subst e3
  refine vx_ret ?_
  exact W.iret (v := bc (σ 10 (sh * 5 + ar))) hx hb hr (fun t ht hW => ⟨_, rfl, (by simp only [eX_two, p1]; simp [lnN, ixN_nI h31sh, ixN_nI h31ar]), ht⟩) (fun q h => by cases h) dX3_counts_18

set_option maxHeartbeats 4000000 in
set_option maxRecDepth 100000 in
theorem c_agreed (l : Launch) (G : kG) (ad : Nat → Nat) (σ : kS) (nm ns : Nat) (a0 b0 : Int32) (hst : l.stackTraces = false) (hns : σ 18 0 = nI ns) (hns4 : ns ≤ 40) (hnm : σ 17 0 = nI nm) (hnm2 : nm ≤ 200)  : vx_Met l yX3_agreed [.code yX3_agreed cX3_agreed 3 (some .int)] ({ frames := 8, cells := 2, slots := 12, locals := 135 }) (va_Pc [.ref (ad 0), .int a0, .int b0] (fun U => PX G ad σ U U.heap ∧ ZS U U.heap)) (vp_Si (fun r => eX_two a0 (σ 18 0) b0 5 = 0 ∧ r = σ 13 (lnN a0 b0))) (tX (fun x => eX_two a0 (σ 18 0) b0 5 ≠ 0 ∧ x = exN (eX_two a0 (σ 18 0) b0 5))) 2 12 NF := by
  refine kx_of (by decide) (Nat.le_of_ble_eq_true rfl) (fun U h => h.1.2.2) ?_
  intro p e s m below meth c ls S hr hlocks ht hB hl
  have hx := S.1
  have hb := S.2.1
  have hX : PX G ad σ s s.heap := hB.1
  have hG : GL s := hX.2.2
  have hZ : ZS s s.heap := hB.2
  have hl : lv_has ls 3 [(0, .ref (ad 0)), (1, .int a0), (2, .int b0)] := hl
  refine lv_aload_n hx hb dX3_agreed_0 rfl (lv_at hl 0 rfl) ?_
  refine lv_iload_n hx hb dX3_agreed_1 rfl (lv_at hl 1 rfl) ?_
  refine lv_iload_n hx hb dX3_agreed_2 rfl (lv_at hl 2 rfl) ?_
  refine q_xv (rx_V S ⟨m_218, m_220, m_9, m_23, m_221⟩ ⟨rfl, by decide, by decide, by decide +kernel⟩ (c_checkLine l G ad σ a0 b0 hst) ⟨rfl, rfl, Nat.le_of_ble_eq_true rfl, Nat.le_of_ble_eq_true rfl⟩ (pv_X hX 0 rfl rfl bl_PXZ (bXZ hX hZ)) (n := 2) (As := [.int a0, .int b0]) (rest := []) rfl hl.1 rfl (Nat.le_of_ble_eq_true rfl) ⟨Nat.le_of_ble_eq_true rfl, Nat.le_of_ble_eq_true rfl⟩ dX3_agreed_3) ht hlocks (by rintro x ⟨rfl, hf1⟩; simp only [eX_two, hf1]; exact ⟨by simp, rfl⟩) (Nat.le_of_ble_eq_true rfl) (Nat.le_of_ble_eq_true rfl) (fun (p1 : (ckI a0 (σ 18 0) && ckI b0 5) = true) => ?_)
  obtain ⟨hpa, hpb⟩ := Bool.and_eq_true_iff.mp p1
  obtain ⟨sh, hsh, rfl⟩ := ckI_nI (n := ns) (by rw [← hns]; exact hpa) (by omega)
  obtain ⟨ar, har, rfl⟩ := ckI_nI (n := 5) hpb (by decide)
  have h31sh : sh < 2 ^ 31 := by omega
  have h31ar : ar < 2 ^ 31 := by omega
  refine lv_aload_n hx hb dX3_agreed_6 rfl (lv_at hl 0 rfl) ?_
  refine k_get S hX.2 hX.1 0 (C := RX3) (T := TX3) (N := 6) rfl rfl 4 (by decide) inX3 m_135 rfl dX3_agreed_7 ?_
  refine k_getN S hX.2 hX.1 5 (C := RX0) (T := TX0) (N := 7) rfl rfl 3 (by decide) inX0 n_109 rfl dX3_agreed_10 ?_
  refine lv_iload_n hx hb dX3_agreed_13 rfl (lv_at hl 1 rfl) ?_
  refine lv_iload_n hx hb dX3_agreed_14 rfl (lv_at hl 2 rfl) ?_
  refine q_i (r_S S ⟨m_183, m_184, m_23, m_185⟩ ⟨rfl, by decide, by decide, by decide +kernel⟩ (c_lineOf l sh ar) ⟨rfl, rfl, Nat.le_of_ble_eq_true rfl, Nat.le_of_ble_eq_true rfl⟩ (ps bl_GL (bG hX.2.2)) (n := 2) (As := [.int (nI sh), .int (nI ar)]) (rest := [.ref (ad 17)]) rfl hl.1 rfl (Nat.le_of_ble_eq_true rfl) ⟨Nat.le_of_ble_eq_true rfl, Nat.le_of_ble_eq_true rfl⟩ dX3_agreed_15) (fun r2 (e2 : r2 = nI (sh * 5 + ar)) => ?_)
  subst e2
  refine k_ild S hX.2 hX.1 17 (i := (sh * 5 + ar)) rfl (by omega) (by decide) dX3_agreed_18 ?_
  refine vx_ret ?_
  exact W.iret (v := σ 13 (sh * 5 + ar)) hx hb hr (fun t ht hW => ⟨_, rfl, (by simp only [eX_two, p1]; simp [lnN, ixN_nI h31sh, ixN_nI h31ar]), ht⟩) (fun q h => by cases h) dX3_agreed_19

set_option maxHeartbeats 4000000 in
set_option maxRecDepth 100000 in
theorem c_isSigned (l : Launch) (G : kG) (ad : Nat → Nat) (σ : kS) (nm ns : Nat) (a0 b0 : Int32) (hst : l.stackTraces = false) (hns : σ 18 0 = nI ns) (hns4 : ns ≤ 40) (hnm : σ 17 0 = nI nm) (hnm2 : nm ≤ 200)  : vx_Met l yX3_isSigned [.code yX3_isSigned cX3_isSigned 3 (some .boolean)] ({ frames := 8, cells := 2, slots := 12, locals := 135 }) (va_Pc [.ref (ad 0), .int a0, .int b0] (fun U => PX G ad σ U U.heap ∧ ZS U U.heap)) (vp_Si (fun r => eX_two a0 (σ 18 0) b0 5 = 0 ∧ r = bI (hsB σ (lnN a0 b0)))) (tX (fun x => eX_two a0 (σ 18 0) b0 5 ≠ 0 ∧ x = exN (eX_two a0 (σ 18 0) b0 5))) 2 12 NF := by
  refine kx_of (by decide) (Nat.le_of_ble_eq_true rfl) (fun U h => h.1.2.2) ?_
  intro p e s m below meth c ls S hr hlocks ht hB hl
  have hx := S.1
  have hb := S.2.1
  have hX : PX G ad σ s s.heap := hB.1
  have hG : GL s := hX.2.2
  have hZ : ZS s s.heap := hB.2
  have hl : lv_has ls 3 [(0, .ref (ad 0)), (1, .int a0), (2, .int b0)] := hl
  refine lv_aload_n hx hb dX3_isSigned_0 rfl (lv_at hl 0 rfl) ?_
  refine lv_iload_n hx hb dX3_isSigned_1 rfl (lv_at hl 1 rfl) ?_
  refine lv_iload_n hx hb dX3_isSigned_2 rfl (lv_at hl 2 rfl) ?_
  refine q_xv (rx_V S ⟨m_218, m_220, m_9, m_23, m_221⟩ ⟨rfl, by decide, by decide, by decide +kernel⟩ (c_checkLine l G ad σ a0 b0 hst) ⟨rfl, rfl, Nat.le_of_ble_eq_true rfl, Nat.le_of_ble_eq_true rfl⟩ (pv_X hX 0 rfl rfl bl_PXZ (bXZ hX hZ)) (n := 2) (As := [.int a0, .int b0]) (rest := []) rfl hl.1 rfl (Nat.le_of_ble_eq_true rfl) ⟨Nat.le_of_ble_eq_true rfl, Nat.le_of_ble_eq_true rfl⟩ dX3_isSigned_3) ht hlocks (by rintro x ⟨rfl, hf1⟩; simp only [eX_two, hf1]; exact ⟨by simp, rfl⟩) (Nat.le_of_ble_eq_true rfl) (Nat.le_of_ble_eq_true rfl) (fun (p1 : (ckI a0 (σ 18 0) && ckI b0 5) = true) => ?_)
  obtain ⟨hpa, hpb⟩ := Bool.and_eq_true_iff.mp p1
  obtain ⟨sh, hsh, rfl⟩ := ckI_nI (n := ns) (by rw [← hns]; exact hpa) (by omega)
  obtain ⟨ar, har, rfl⟩ := ckI_nI (n := 5) hpb (by decide)
  have h31sh : sh < 2 ^ 31 := by omega
  have h31ar : ar < 2 ^ 31 := by omega
  refine lv_aload_n hx hb dX3_isSigned_6 rfl (lv_at hl 0 rfl) ?_
  refine k_get S hX.2 hX.1 0 (C := RX3) (T := TX3) (N := 6) rfl rfl 4 (by decide) inX3 m_135 rfl dX3_isSigned_7 ?_
  refine lv_iload_n hx hb dX3_isSigned_10 rfl (lv_at hl 1 rfl) ?_
  refine lv_iload_n hx hb dX3_isSigned_11 rfl (lv_at hl 2 rfl) ?_
  refine q_i (r_S S ⟨m_183, m_184, m_23, m_185⟩ ⟨rfl, by decide, by decide, by decide +kernel⟩ (c_lineOf l sh ar) ⟨rfl, rfl, Nat.le_of_ble_eq_true rfl, Nat.le_of_ble_eq_true rfl⟩ (ps bl_GL (bG hX.2.2)) (n := 2) (As := [.int (nI sh), .int (nI ar)]) (rest := [.ref (ad 5)]) rfl hl.1 rfl (Nat.le_of_ble_eq_true rfl) ⟨Nat.le_of_ble_eq_true rfl, Nat.le_of_ble_eq_true rfl⟩ dX3_isSigned_12) (fun r2 (e2 : r2 = nI (sh * 5 + ar)) => ?_)
  subst e2
  refine q_i (r_VN S hX.2.2 ⟨n_186, m_188, m_6, m_26, m_189⟩ ⟨rfl, by decide, by decide, by decide +kernel⟩ (c_hasSign l G ad σ (sh * 5 + ar) (by omega)) ⟨rfl, rfl, Nat.le_of_ble_eq_true rfl, Nat.le_of_ble_eq_true rfl⟩ (pv_X hX 5 rfl rfl bl_PX (bX hX)) (n := 1) (As := [.int (nI (sh * 5 + ar))]) (rest := []) rfl hl.1 rfl (Nat.le_of_ble_eq_true rfl) ⟨Nat.le_of_ble_eq_true rfl, Nat.le_of_ble_eq_true rfl⟩ dX3_isSigned_15) (fun r3 (e3 : r3 = bI (hsB σ (sh * 5 + ar))) => ?_)
  subst e3
  refine vx_ret ?_
  exact W.zret (v := bI (hsB σ (sh * 5 + ar))) (ty := .boolean) hx hb hr (by first | rfl | exact bI_nar _) (fun t ht hW => ⟨_, rfl, (by simp only [eX_two, p1]; simp [lnN, ixN_nI h31sh, ixN_nI h31ar]), ht⟩) (fun q h => by cases h) dX3_isSigned_18

set_option maxHeartbeats 4000000 in
set_option maxRecDepth 100000 in
theorem c_gap (l : Launch) (G : kG) (ad : Nat → Nat) (σ : kS) (nm ns : Nat) (a0 b0 : Int32) (hst : l.stackTraces = false) (hns : σ 18 0 = nI ns) (hns4 : ns ≤ 40) (hnm : σ 17 0 = nI nm) (hnm2 : nm ≤ 200)  : vx_Met l yX3_gap [.code yX3_gap cX3_gap 3 (some .int)] ({ frames := 8, cells := 3, slots := 18, locals := 157 }) (va_Pc [.ref (ad 0), .int a0, .int b0] (fun U => PX G ad σ U U.heap ∧ ZS U U.heap)) (vp_Si (fun r => eX_gap σ a0 b0 = 0 ∧ r = gpV σ nm ns (ixN a0) (ixN b0))) (tX (fun x => eX_gap σ a0 b0 ≠ 0 ∧ x = exN (eX_gap σ a0 b0))) 3 18 NF := by
  refine kx_of (by decide) (Nat.le_of_ble_eq_true rfl) (fun U h => h.1.2.2) ?_
  intro p e s m below meth c ls S hr hlocks ht hB hl
  have hx := S.1
  have hb := S.2.1
  have hX : PX G ad σ s s.heap := hB.1
  have hG : GL s := hX.2.2
  have hZ : ZS s s.heap := hB.2
  have hl : lv_has ls 3 [(0, .ref (ad 0)), (1, .int a0), (2, .int b0)] := hl
  refine lv_aload_n hx hb dX3_gap_0 rfl (lv_at hl 0 rfl) ?_
  refine lv_iload_n hx hb dX3_gap_1 rfl (lv_at hl 1 rfl) ?_
  refine lv_iload_n hx hb dX3_gap_2 rfl (lv_at hl 2 rfl) ?_
  refine q_xv (rx_V S ⟨m_218, m_220, m_9, m_23, m_221⟩ ⟨rfl, by decide, by decide, by decide +kernel⟩ (c_checkLine l G ad σ a0 b0 hst) ⟨rfl, rfl, Nat.le_of_ble_eq_true rfl, Nat.le_of_ble_eq_true rfl⟩ (pv_X hX 0 rfl rfl bl_PXZ (bXZ hX hZ)) (n := 2) (As := [.int a0, .int b0]) (rest := []) rfl hl.1 rfl (Nat.le_of_ble_eq_true rfl) ⟨Nat.le_of_ble_eq_true rfl, Nat.le_of_ble_eq_true rfl⟩ dX3_gap_3) ht hlocks (by rintro x ⟨rfl, hf1⟩; simp only [eX_gap, hf1]; exact ⟨by simp, rfl⟩) (Nat.le_of_ble_eq_true rfl) (Nat.le_of_ble_eq_true rfl) (fun (p1 : (ckI a0 (σ 18 0) && ckI b0 5) = true) => ?_)
  obtain ⟨hpa, hpb⟩ := Bool.and_eq_true_iff.mp p1
  obtain ⟨sh, hsh, rfl⟩ := ckI_nI (n := ns) (by rw [← hns]; exact hpa) (by omega)
  obtain ⟨ar, har, rfl⟩ := ckI_nI (n := 5) hpb (by decide)
  have h31sh : sh < 2 ^ 31 := by omega
  have h31ar : ar < 2 ^ 31 := by omega
  refine lv_aload_n hx hb dX3_gap_6 rfl (lv_at hl 0 rfl) ?_
  refine lv_iload_n hx hb dX3_gap_7 rfl (lv_at hl 1 rfl) ?_
  refine lv_iload_n hx hb dX3_gap_8 rfl (lv_at hl 2 rfl) ?_
  refine q_xv (rx_V S ⟨m_374, m_376, m_16, m_23, m_377⟩ ⟨rfl, by decide, by decide, by decide +kernel⟩ (c_checkAgrees l G ad σ sh ar hst (by omega) (by omega)) ⟨rfl, rfl, Nat.le_of_ble_eq_true rfl, Nat.le_of_ble_eq_true rfl⟩ (pv_X hX 0 rfl rfl bl_PXZ (bXZ hX hZ)) (n := 2) (As := [.int (nI sh), .int (nI ar)]) (rest := []) rfl hl.1 rfl (Nat.le_of_ble_eq_true rfl) ⟨Nat.le_of_ble_eq_true rfl, Nat.le_of_ble_eq_true rfl⟩ dX3_gap_9) ht hlocks (by rintro x ⟨rfl, hf2⟩; simp only [eX_gap, p1]; simp [lnN, ixN_nI h31sh, ixN_nI h31ar, hf2]) (Nat.le_of_ble_eq_true rfl) (Nat.le_of_ble_eq_true rfl) (fun (p2 : agB σ (sh * 5 + ar) = true) => ?_)
  refine lv_aload_n hx hb dX3_gap_12 rfl (lv_at hl 0 rfl) ?_
  refine lv_iload_n hx hb dX3_gap_13 rfl (lv_at hl 1 rfl) ?_
  refine lv_iload_n hx hb dX3_gap_14 rfl (lv_at hl 2 rfl) ?_
  refine q_i (r_V S ⟨m_362, m_364, m_15, m_23, m_365⟩ ⟨rfl, by decide, by decide, by decide +kernel⟩ (c_gapOf l G ad σ nm ns sh ar hns hns4 hnm hnm2 (by omega) (by omega)) ⟨rfl, rfl, Nat.le_of_ble_eq_true rfl, Nat.le_of_ble_eq_true rfl⟩ (pv_X hX 0 rfl rfl bl_PX (bX hX)) (n := 2) (As := [.int (nI sh), .int (nI ar)]) (rest := []) rfl hl.1 rfl (Nat.le_of_ble_eq_true rfl) ⟨Nat.le_of_ble_eq_true rfl, Nat.le_of_ble_eq_true rfl⟩ dX3_gap_15) (fun r3 (e3 : r3 = gpV σ nm ns sh ar) => ?_)
  subst e3
  refine vx_ret ?_
  exact W.iret (v := gpV σ nm ns sh ar) hx hb hr (fun t ht hW => ⟨_, rfl, (by simp only [eX_gap, p1]; simp [lnN, ixN_nI h31sh, ixN_nI h31ar, p2]), ht⟩) (fun q h => by cases h) dX3_gap_18

set_option maxHeartbeats 4000000 in
set_option maxRecDepth 100000 in
theorem c_likely (l : Launch) (G : kG) (ad : Nat → Nat) (σ : kS) (nm ns : Nat) (a0 b0 : Int32) (hst : l.stackTraces = false) (hns : σ 18 0 = nI ns) (hns4 : ns ≤ 40) (hnm : σ 17 0 = nI nm) (hnm2 : nm ≤ 200)  : vx_Met l yX3_likely [.code yX3_likely cX3_likely 4 (some .int)] ({ frames := 8, cells := 2, slots := 12, locals := 181 }) (va_Pc [.ref (ad 0), .int a0, .int b0] (fun U => PX G ad σ U U.heap ∧ ZS U U.heap)) (vp_Si (fun r => eX_two a0 (σ 18 0) b0 5 = 0 ∧ r = oI (flO (fun k => csB σ nm ns (ixN a0) k (ixN b0)) ns))) (tX (fun x => eX_two a0 (σ 18 0) b0 5 ≠ 0 ∧ x = exN (eX_two a0 (σ 18 0) b0 5))) 2 12 NF := by
  refine kx_of (by decide) (Nat.le_of_ble_eq_true rfl) (fun U h => h.1.2.2) ?_
  intro p e s m below meth c ls S hr hlocks ht hB hl
  have hx := S.1
  have hb := S.2.1
  have hX : PX G ad σ s s.heap := hB.1
  have hG : GL s := hX.2.2
  have hZ : ZS s s.heap := hB.2
  have hl : lv_has ls 4 [(0, .ref (ad 0)), (1, .int a0), (2, .int b0)] := hl
  refine lv_aload_n hx hb dX3_likely_0 rfl (lv_at hl 0 rfl) ?_
  refine lv_iload_n hx hb dX3_likely_1 rfl (lv_at hl 1 rfl) ?_
  refine lv_iload_n hx hb dX3_likely_2 rfl (lv_at hl 2 rfl) ?_
  refine q_xv (rx_V S ⟨m_218, m_220, m_9, m_23, m_221⟩ ⟨rfl, by decide, by decide, by decide +kernel⟩ (c_checkLine l G ad σ a0 b0 hst) ⟨rfl, rfl, Nat.le_of_ble_eq_true rfl, Nat.le_of_ble_eq_true rfl⟩ (pv_X hX 0 rfl rfl bl_PXZ (bXZ hX hZ)) (n := 2) (As := [.int a0, .int b0]) (rest := []) rfl hl.1 rfl (Nat.le_of_ble_eq_true rfl) ⟨Nat.le_of_ble_eq_true rfl, Nat.le_of_ble_eq_true rfl⟩ dX3_likely_3) ht hlocks (by rintro x ⟨rfl, hf1⟩; simp only [eX_two, hf1]; exact ⟨by simp, rfl⟩) (Nat.le_of_ble_eq_true rfl) (Nat.le_of_ble_eq_true rfl) (fun (p1 : (ckI a0 (σ 18 0) && ckI b0 5) = true) => ?_)
  obtain ⟨hpa, hpb⟩ := Bool.and_eq_true_iff.mp p1
  obtain ⟨sh, hsh, rfl⟩ := ckI_nI (n := ns) (by rw [← hns]; exact hpa) (by omega)
  obtain ⟨ar, har, rfl⟩ := ckI_nI (n := 5) hpb (by decide)
  have h31sh : sh < 2 ^ 31 := by omega
  have h31ar : ar < 2 ^ 31 := by omega
  have L8 : ∀ (n i : Nat), i ≤ ns → ns + 1 ≤ i + n → (∀ j, j < i → csB σ nm ns sh j ar = false) → ∀ ls, lv_has ls 4 [(0, .ref (ad 0)), (1, .int (nI sh)), (2, .int (nI ar)), (3, .int (nI i))] → W p l e ({ frames := 8, cells := 2, slots := 12, locals := 181 } : Room) s m [.ref (ad 0), .int (nI sh), .int (nI ar)].toArray below meth c s.heap [] 2 12 (vx_MQ below (vp_Si (fun r => eX_two (nI sh) (σ 18 0) (nI ar) 5 = 0 ∧ r = oI (flO (fun k => csB σ nm ns (ixN (nI sh)) k (ixN (nI ar))) ns))) (tX (fun x => eX_two (nI sh) (σ 18 0) (nI ar) 5 ≠ 0 ∧ x = exN (eX_two (nI sh) (σ 18 0) (nI ar) 5))) [.ref (ad 0), .int (nI sh), .int (nI ar)].toArray s 2 12 NF) (F0 m 8 ls []) := by
    intro n
    induction n with
    | zero =>
      intro i h1 h2
      omega
    | succ n ihn =>
      intro i hii hini hno ls hl
      refine lv_iload_n hx hb dX3_likely_8 rfl (lv_at hl 3 rfl) ?_
      refine lv_aload_n hx hb dX3_likely_9 rfl (lv_at hl 0 rfl) ?_
      refine k_get S hX.2 hX.1 0 (C := RX3) (T := TX3) (N := 6) rfl rfl 3 (by decide) inX3 m_134 rfl dX3_likely_10 ?_
      refine k_getN S hX.2 hX.1 4 (C := RX2) (T := TX2) (N := 4) rfl rfl 3 (by decide) inX2 n_85 rfl dX3_likely_13 ?_
      refine k_eq (y := nI ns) (hns) ?_
      refine lv_icmp_ge (tgt := 37) hx hb dX3_likely_16 (by decide) (fun c16_2 => ?_) (fun c16_2 => ?_)
      · have bc16_2 := le_nlt c16_2
        have hgei : i = ns := by
          have h9 := c16_2
          rw [nI_leI (by omega) (by omega)] at h9
          omega
        refine lv_iconst (v := (-1)) hx hb dX3_likely_37 (by decide) ?_
        refine vx_ret ?_
        exact W.iret (v := (-1)) hx hb hr (fun t ht hW => ⟨_, rfl, (by simp only [eX_two, p1, ixN_nI h31sh, ixN_nI h31ar]; exact ⟨rfl, by rw [flO_none (p := fun k => csB σ nm ns sh k ar) (fun j hj => hno j (by omega))]; rfl⟩), ht⟩) (fun q h => by cases h) dX3_likely_38
      · have bc16_2 := nle_lt c16_2
        have hlti : i < ns := by
          have h9 := nle_lt c16_2
          rw [nI_ltI (by omega) (by omega)] at h9
          exact h9
        refine lv_aload_n hx hb dX3_likely_19 rfl (lv_at hl 0 rfl) ?_
        refine lv_iload_n hx hb dX3_likely_20 rfl (lv_at hl 1 rfl) ?_
        refine lv_iload_n hx hb dX3_likely_21 rfl (lv_at hl 3 rfl) ?_
        refine lv_iload_n hx hb dX3_likely_22 rfl (lv_at hl 2 rfl) ?_
        refine q_i (r_V S ⟨m_350, m_352, m_12, m_23, m_353⟩ ⟨rfl, by decide, by decide, by decide +kernel⟩ (c_canBeSettled l G ad σ nm ns sh i ar hns hns4 hnm hnm2 (by omega) (by omega) (by omega)) ⟨rfl, rfl, Nat.le_of_ble_eq_true rfl, Nat.le_of_ble_eq_true rfl⟩ (pv_X hX 0 rfl rfl bl_PX (bX hX)) (n := 3) (As := [.int (nI sh), .int (nI i), .int (nI ar)]) (rest := []) rfl hl.1 rfl (Nat.le_of_ble_eq_true rfl) ⟨Nat.le_of_ble_eq_true rfl, Nat.le_of_ble_eq_true rfl⟩ dX3_likely_23) (fun r3 (e3 : r3 = bI (csB σ nm ns sh i ar)) => ?_)
        subst e3
        refine lv_if_eq (tgt := 31) hx hb dX3_likely_26 (by decide) (fun c26_4 => ?_) (fun c26_4 => ?_)
        · have bc26_4 := bI_0 c26_4
          refine lv_iinc (v := nI (i + 1)) (lv' := [(3, .int (nI (i + 1))), (0, .ref (ad 0)), (1, .int (nI sh)), (2, .int (nI ar))]) hx hb dX3_likely_31 hl (k := 3) rfl (nI_1 i) (by decide) rfl (fun ls hl => ?_)
          refine lv_goto (tgt := 8) hx hb dX3_likely_34 (by decide) ?_
          exact ihn (i + 1) hlti (by omega) (lt_s hno bc26_4) ls (lv_sub hl [1, 2, 3, 0] rfl)
        · have bc26_4 := bI_n c26_4
          refine lv_iload_n hx hb dX3_likely_29 rfl (lv_at hl 3 rfl) ?_
          refine vx_ret ?_
          exact W.iret (v := nI i) hx hb hr (fun t ht hW => ⟨_, rfl, (by simp only [eX_two, p1, ixN_nI h31sh, ixN_nI h31ar]; exact ⟨rfl, by rw [flO_at (p := fun k => csB σ nm ns sh k ar) bc26_4 hno hlti]; rfl⟩), ht⟩) (fun q h => by cases h) dX3_likely_30
  refine lv_iconst (v := 0) hx hb dX3_likely_6 (by decide) ?_
  refine lv_istore_n (lv' := [(3, .int 0), (0, .ref (ad 0)), (1, .int (nI sh)), (2, .int (nI ar))]) hx hb dX3_likely_7 rfl hl (by decide) rfl (fun ls hl => ?_)
  exact L8 (ns + 1) 0 (Nat.zero_le _) (by omega) lt_0 ls (lv_sub hl [1, 2, 3, 0] rfl)

set_option maxHeartbeats 4000000 in
set_option maxRecDepth 100000 in
theorem c_exact (l : Launch) (G : kG) (ad : Nat → Nat) (σ : kS) (nm ns : Nat) (a0 : Int32) (hst : l.stackTraces = false) (hns : σ 18 0 = nI ns) (hns4 : ns ≤ 40) (hnm : σ 17 0 = nI nm) (hnm2 : nm ≤ 200)  : vx_Met l yX3_exact [.code yX3_exact cX3_exact 7 (some .int)] ({ frames := 7, cells := 1, slots := 6, locals := 113 }) (va_Pc [.ref (ad 0), .int a0] (fun U => PX G ad σ U U.heap ∧ ZS U U.heap)) (vp_Si (fun r => eX_one a0 3 = 0 ∧ r = exV σ ns a0)) (tX (fun x => eX_one a0 3 ≠ 0 ∧ x = exN (eX_one a0 3))) 1 6 NF := by
  refine kx_of (by decide) (Nat.le_of_ble_eq_true rfl) (fun U h => h.1.2.2) ?_
  intro p e s m below meth c ls S hr hlocks ht hB hl
  have hx := S.1
  have hb := S.2.1
  have hX : PX G ad σ s s.heap := hB.1
  have hG : GL s := hX.2.2
  have hZ : ZS s s.heap := hB.2
  have hl : lv_has ls 7 [(0, .ref (ad 0)), (1, .int a0)] := hl
  refine lv_iload_n hx hb dX3_exact_0 rfl (lv_at hl 1 rfl) ?_
  refine lv_iconst (v := 3) hx hb dX3_exact_1 (by decide) ?_
  refine q_xv (rx_S S ⟨m_222, m_223, m_23, m_224⟩ ⟨rfl, by decide, by decide, by decide +kernel⟩ (c_checkIndex l a0 3 hst) ⟨rfl, rfl, Nat.le_of_ble_eq_true rfl, Nat.le_of_ble_eq_true rfl⟩ (ps bl_GZ (bGZ hX.2.2 hZ)) (n := 2) (As := [.int a0, .int 3]) (rest := []) rfl hl.1 rfl (Nat.le_of_ble_eq_true rfl) ⟨Nat.le_of_ble_eq_true rfl, Nat.le_of_ble_eq_true rfl⟩ dX3_exact_2) ht hlocks (by rintro x ⟨rfl, hf1⟩; simp [eX_one, exV, hf1, exN]) (Nat.le_of_ble_eq_true rfl) (Nat.le_of_ble_eq_true rfl) (fun (p1 : ckI a0 3 = true) => ?_)
  have L12 : ∀ (n i : Nat), i ≤ ns → ns + 1 ≤ i + n → ∀ ls, lv_has ls 7 [(0, .ref (ad 0)), (1, .int a0), (2, .int ((exF σ a0 i).1)), (3, .int ((exF σ a0 i).2)), (4, .int (nI i))] → W p l e ({ frames := 7, cells := 1, slots := 6, locals := 113 } : Room) s m [.ref (ad 0), .int a0].toArray below meth c s.heap [] 1 6 (vx_MQ below (vp_Si (fun r => eX_one a0 3 = 0 ∧ r = exV σ ns a0)) (tX (fun x => eX_one a0 3 ≠ 0 ∧ x = exN (eX_one a0 3))) [.ref (ad 0), .int a0].toArray s 1 6 NF) (F0 m 12 ls []) := by
    intro n
    induction n with
    | zero =>
      intro i h1 h2
      omega
    | succ n ihn =>
      intro i hii hini ls hl
      refine lv_iload hx hb dX3_exact_12 (lv_at hl 4 rfl) ?_
      refine lv_aload_n hx hb dX3_exact_14 rfl (lv_at hl 0 rfl) ?_
      refine k_get S hX.2 hX.1 0 (C := RX3) (T := TX3) (N := 6) rfl rfl 3 (by decide) inX3 m_134 rfl dX3_exact_15 ?_
      refine k_getN S hX.2 hX.1 4 (C := RX2) (T := TX2) (N := 4) rfl rfl 3 (by decide) inX2 n_85 rfl dX3_exact_18 ?_
      refine k_eq (y := nI ns) (hns) ?_
      refine lv_icmp_ge (tgt := 106) hx hb dX3_exact_21 (by decide) (fun c21_2 => ?_) (fun c21_2 => ?_)
      · have bc21_2 := le_nlt c21_2
        have hgei : i = ns := by
          have h9 := c21_2
          rw [nI_leI (by omega) (by omega)] at h9
          omega
        refine lv_iload_n hx hb dX3_exact_106 rfl (lv_at hl 2 rfl) ?_
        refine lv_if_ne (tgt := 114) hx hb dX3_exact_107 (by decide) (fun c107_3 => ?_) (fun c107_3 => ?_)
        · have bc107_3 := c107_3
          have hdz := c107_3
          refine lv_sipush (v := 1000) hx hb dX3_exact_114 (by decide) ?_
          refine lv_iload_n hx hb dX3_exact_117 rfl (lv_at hl 3 rfl) ?_
          refine lv_imul hx hb dX3_exact_118 ?_
          refine lv_iload_n hx hb dX3_exact_119 rfl (lv_at hl 2 rfl) ?_
          refine lv_idiv hx hb dX3_exact_120 hdz ?_
          refine vx_ret ?_
          exact W.iret (v := (1000 * ((exF σ a0 i).2)) / ((exF σ a0 i).1)) hx hb hr (fun t ht hW => ⟨_, rfl, (by subst hgei; simp [eX_one, exV, p1, c21_2, bc21_2, c107_3]), ht⟩) (fun q h => by cases h) dX3_exact_121
        · have bc107_3 := c107_3
          refine lv_iconst (v := (-1)) hx hb dX3_exact_110 (by decide) ?_
          refine lv_goto (tgt := 121) hx hb dX3_exact_111 (by decide) ?_
          refine vx_ret ?_
          exact W.iret (v := (-1)) hx hb hr (fun t ht hW => ⟨_, rfl, (by subst hgei; simp [eX_one, exV, p1, c21_2, bc21_2, c107_3]), ht⟩) (fun q h => by cases h) dX3_exact_121
      · have bc21_2 := nle_lt c21_2
        have hlti : i < ns := by
          have h9 := nle_lt c21_2
          rw [nI_ltI (by omega) (by omega)] at h9
          exact h9
        refine lv_aload_n hx hb dX3_exact_24 rfl (lv_at hl 0 rfl) ?_
        refine k_get S hX.2 hX.1 0 (C := RX3) (T := TX3) (N := 6) rfl rfl 3 (by decide) inX3 m_134 rfl dX3_exact_25 ?_
        refine k_getN S hX.2 hX.1 4 (C := RX2) (T := TX2) (N := 4) rfl rfl 0 (by decide) inX2 n_79 rfl dX3_exact_28 ?_
        refine lv_iload hx hb dX3_exact_31 (lv_at hl 4 rfl) ?_
        refine k_ild S hX.2 hX.1 11 (i := i) rfl (by omega) (by decide) dX3_exact_33 ?_
        refine lv_iconst (v := 4) hx hb dX3_exact_34 (by decide) ?_
        refine lv_idiv hx hb dX3_exact_35 (by decide) ?_
        refine lv_iload_n hx hb dX3_exact_36 rfl (lv_at hl 1 rfl) ?_
        refine lv_icmp_ne (tgt := 100) hx hb dX3_exact_37 (by decide) (fun c37_4 => ?_) (fun c37_4 => ?_)
        · have bc37_4 := c37_4
          refine lv_iinc (v := nI (i + 1)) (lv' := [(4, .int (nI (i + 1))), (0, .ref (ad 0)), (1, .int a0), (2, .int ((exF σ a0 i).1)), (3, .int ((exF σ a0 i).2))]) hx hb dX3_exact_100 hl (k := 4) rfl (nI_1 i) (by decide) rfl (fun ls hl => ?_)
          refine lv_goto (tgt := 12) hx hb dX3_exact_103 (by decide) ?_
          have ev5 : (exF σ a0 i).1 = (exF σ a0 (i + 1)).1 := by simp [exF, p1, c21_2, bc21_2, c37_4]
          rw [ev5] at hl
          have ev6 : (exF σ a0 i).2 = (exF σ a0 (i + 1)).2 := by simp [exF, p1, c21_2, bc21_2, c37_4]
          rw [ev6] at hl
          exact ihn (i + 1) hlti (by omega) ls (lv_sub hl [1, 2, 3, 4, 0] rfl)
        · have bc37_4 := c37_4
          have L43 : ∀ (n2 j : Nat), j ≤ 5 → 5 + 1 ≤ j + n2 → ∀ ls, lv_has ls 7 [(0, .ref (ad 0)), (1, .int a0), (2, .int ((exI σ i j (exF σ a0 i)).1)), (3, .int ((exI σ i j (exF σ a0 i)).2)), (4, .int (nI i)), (5, .int (nI j))] → W p l e ({ frames := 7, cells := 1, slots := 6, locals := 113 } : Room) s m [.ref (ad 0), .int a0].toArray below meth c s.heap [] 1 6 (vx_MQ below (vp_Si (fun r => eX_one a0 3 = 0 ∧ r = exV σ ns a0)) (tX (fun x => eX_one a0 3 ≠ 0 ∧ x = exN (eX_one a0 3))) [.ref (ad 0), .int a0].toArray s 1 6 NF) (F0 m 43 ls []) := by
            intro n2
            induction n2 with
            | zero =>
              intro j h1 h2
              omega
            | succ n2 ihn2 =>
              intro j hij hinj ls hl
              refine lv_iload hx hb dX3_exact_43 (lv_at hl 5 rfl) ?_
              refine lv_iconst (v := 5) hx hb dX3_exact_45 (by decide) ?_
              refine lv_icmp_ge (tgt := 100) hx hb dX3_exact_46 (by decide) (fun c46_7 => ?_) (fun c46_7 => ?_)
              · have bc46_7 := le_nlt c46_7
                have hgej : j = 5 := by
                  have h9 := c46_7
                  rw [show (5 : Int32) = nI 5 from rfl, nI_leI (by omega) (by omega)] at h9
                  omega
                refine lv_iinc (v := nI (i + 1)) (lv' := [(4, .int (nI (i + 1))), (0, .ref (ad 0)), (1, .int a0), (2, .int ((exI σ i j (exF σ a0 i)).1)), (3, .int ((exI σ i j (exF σ a0 i)).2)), (5, .int (nI j))]) hx hb dX3_exact_100 hl (k := 4) rfl (nI_1 i) (by decide) rfl (fun ls hl => ?_)
                refine lv_goto (tgt := 12) hx hb dX3_exact_103 (by decide) ?_
                subst hgej
                have ev8 : (exI σ i 5 (exF σ a0 i)).1 = (exF σ a0 (i + 1)).1 := by simp [exF, p1, c21_2, bc21_2, c37_4]
                rw [ev8] at hl
                have ev9 : (exI σ i 5 (exF σ a0 i)).2 = (exF σ a0 (i + 1)).2 := by simp [exF, p1, c21_2, bc21_2, c37_4]
                rw [ev9] at hl
                exact ihn (i + 1) hlti (by omega) ls (lv_sub hl [1, 2, 3, 4, 0] rfl)
              · have bc46_7 := nle_lt c46_7
                have hltj : j < 5 := by
                  have h9 := nle_lt c46_7
                  rw [show (5 : Int32) = nI 5 from rfl, nI_ltI (by omega) (by omega)] at h9
                  exact h9
                refine lv_iload hx hb dX3_exact_49 (lv_at hl 4 rfl) ?_
                refine lv_iload hx hb dX3_exact_51 (lv_at hl 5 rfl) ?_
                refine q_i (r_S S ⟨m_183, m_184, m_23, m_185⟩ ⟨rfl, by decide, by decide, by decide +kernel⟩ (c_lineOf l i j) ⟨rfl, rfl, Nat.le_of_ble_eq_true rfl, Nat.le_of_ble_eq_true rfl⟩ (ps bl_GL (bG hX.2.2)) (n := 2) (As := [.int (nI i), .int (nI j)]) (rest := []) rfl hl.1 rfl (Nat.le_of_ble_eq_true rfl) ⟨Nat.le_of_ble_eq_true rfl, Nat.le_of_ble_eq_true rfl⟩ dX3_exact_53) (fun r10 (e10 : r10 = nI (i * 5 + j)) => ?_)
                subst e10
                refine lv_istore (lv' := [(6, .int (nI (i * 5 + j))), (0, .ref (ad 0)), (1, .int a0), (2, .int ((exI σ i j (exF σ a0 i)).1)), (3, .int ((exI σ i j (exF σ a0 i)).2)), (4, .int (nI i)), (5, .int (nI j))]) hx hb dX3_exact_56 hl (by decide) rfl (fun ls hl => ?_)
                refine lv_aload_n hx hb dX3_exact_58 rfl (lv_at hl 1 rfl) ?_
                refine k_get S hX.2 hX.1 0 (C := RX3) (T := TX3) (N := 6) rfl rfl 4 (by decide) inX3 m_135 rfl dX3_exact_59 ?_
                refine lv_iload hx hb dX3_exact_62 (lv_at hl 0 rfl) ?_
                refine q_i (r_VN S hX.2.2 ⟨n_186, m_188, m_6, m_26, m_189⟩ ⟨rfl, by decide, by decide, by decide +kernel⟩ (c_hasSign l G ad σ (i * 5 + j) (by omega)) ⟨rfl, rfl, Nat.le_of_ble_eq_true rfl, Nat.le_of_ble_eq_true rfl⟩ (pv_X hX 5 rfl rfl bl_PX (bX hX)) (n := 1) (As := [.int (nI (i * 5 + j))]) (rest := []) rfl hl.1 rfl (Nat.le_of_ble_eq_true rfl) ⟨Nat.le_of_ble_eq_true rfl, Nat.le_of_ble_eq_true rfl⟩ dX3_exact_64) (fun r11 (e11 : r11 = bI (hsB σ (i * 5 + j))) => ?_)
                subst e11
                refine lv_if_eq (tgt := 94) hx hb dX3_exact_67 (by decide) (fun c67_12 => ?_) (fun c67_12 => ?_)
                · have bc67_12 := bI_0 c67_12
                  refine lv_iinc (v := nI (j + 1)) (lv' := [(5, .int (nI (j + 1))), (6, .int (nI (i * 5 + j))), (0, .ref (ad 0)), (1, .int a0), (2, .int ((exI σ i j (exF σ a0 i)).1)), (3, .int ((exI σ i j (exF σ a0 i)).2)), (4, .int (nI i))]) hx hb dX3_exact_94 hl (k := 6) rfl (nI_1 j) (by decide) rfl (fun ls hl => ?_)
                  refine lv_goto (tgt := 43) hx hb dX3_exact_97 (by decide) ?_
                  have ev13 : (exI σ i j (exF σ a0 i)).1 = (exI σ i (j + 1) (exF σ a0 i)).1 := by simp [exI, p1, c21_2, bc21_2, c37_4, c46_7, bc46_7, bc67_12]
                  rw [ev13] at hl
                  have ev14 : (exI σ i j (exF σ a0 i)).2 = (exI σ i (j + 1) (exF σ a0 i)).2 := by simp [exI, p1, c21_2, bc21_2, c37_4, c46_7, bc46_7, bc67_12]
                  rw [ev14] at hl
                  exact ihn2 (j + 1) hltj (by omega) ls (lv_sub hl [2, 3, 4, 5, 6, 0] rfl)
                · have bc67_12 := bI_n c67_12
                  refine lv_iinc (v := (exI σ i j (exF σ a0 i)).1 + 1) (lv' := [(2, .int ((exI σ i j (exF σ a0 i)).1 + 1)), (6, .int (nI (i * 5 + j))), (0, .ref (ad 0)), (1, .int a0), (3, .int ((exI σ i j (exF σ a0 i)).2)), (4, .int (nI i)), (5, .int (nI j))]) hx hb dX3_exact_70 hl (k := 3) rfl rfl (by decide) rfl (fun ls hl => ?_)
                  refine lv_iload_n hx hb dX3_exact_73 rfl (lv_at hl 4 rfl) ?_
                  refine lv_aload_n hx hb dX3_exact_74 rfl (lv_at hl 2 rfl) ?_
                  refine k_get S hX.2 hX.1 0 (C := RX3) (T := TX3) (N := 6) rfl rfl 4 (by decide) inX3 m_135 rfl dX3_exact_75 ?_
                  refine k_getN S hX.2 hX.1 5 (C := RX0) (T := TX0) (N := 7) rfl rfl 5 (by decide) inX0 n_113 rfl dX3_exact_78 ?_
                  refine lv_iload hx hb dX3_exact_81 (lv_at hl 1 rfl) ?_
                  refine k_ild S hX.2 hX.1 19 (i := (i * 5 + j)) rfl (by omega) (by decide) dX3_exact_83 ?_
                  refine lv_if_ne (tgt := 91) hx hb dX3_exact_84 (by decide) (fun c84_15 => ?_) (fun c84_15 => ?_)
                  · have bc84_15 := c84_15
                    refine lv_iconst (v := 0) hx hb dX3_exact_91 (by decide) ?_
                    refine lv_iadd hx hb dX3_exact_92 ?_
                    refine lv_istore_n (lv' := [(3, .int (((exI σ i j (exF σ a0 i)).2) + 0)), (2, .int ((exI σ i j (exF σ a0 i)).1 + 1)), (6, .int (nI (i * 5 + j))), (0, .ref (ad 0)), (1, .int a0), (4, .int (nI i)), (5, .int (nI j))]) hx hb dX3_exact_93 rfl hl (by decide) rfl (fun ls hl => ?_)
                    refine lv_iinc (v := nI (j + 1)) (lv' := [(5, .int (nI (j + 1))), (3, .int (((exI σ i j (exF σ a0 i)).2) + 0)), (2, .int ((exI σ i j (exF σ a0 i)).1 + 1)), (6, .int (nI (i * 5 + j))), (0, .ref (ad 0)), (1, .int a0), (4, .int (nI i))]) hx hb dX3_exact_94 hl (k := 6) rfl (nI_1 j) (by decide) rfl (fun ls hl => ?_)
                    refine lv_goto (tgt := 43) hx hb dX3_exact_97 (by decide) ?_
                    have ev16 : (exI σ i j (exF σ a0 i)).1 + 1 = (exI σ i (j + 1) (exF σ a0 i)).1 := by simp [exI, p1, c21_2, bc21_2, c37_4, c46_7, bc46_7, bc67_12, c84_15]
                    rw [ev16] at hl
                    have ev17 : ((exI σ i j (exF σ a0 i)).2) + 0 = (exI σ i (j + 1) (exF σ a0 i)).2 := by simp [exI, p1, c21_2, bc21_2, c37_4, c46_7, bc46_7, bc67_12, c84_15]
                    rw [ev17] at hl
                    exact ihn2 (j + 1) hltj (by omega) ls (lv_sub hl [4, 5, 2, 1, 6, 0] rfl)
                  · have bc84_15 := c84_15
                    refine lv_iconst (v := 1) hx hb dX3_exact_87 (by decide) ?_
                    refine lv_goto (tgt := 92) hx hb dX3_exact_88 (by decide) ?_
                    refine lv_iadd hx hb dX3_exact_92 ?_
                    refine lv_istore_n (lv' := [(3, .int (((exI σ i j (exF σ a0 i)).2) + 1)), (2, .int ((exI σ i j (exF σ a0 i)).1 + 1)), (6, .int (nI (i * 5 + j))), (0, .ref (ad 0)), (1, .int a0), (4, .int (nI i)), (5, .int (nI j))]) hx hb dX3_exact_93 rfl hl (by decide) rfl (fun ls hl => ?_)
                    refine lv_iinc (v := nI (j + 1)) (lv' := [(5, .int (nI (j + 1))), (3, .int (((exI σ i j (exF σ a0 i)).2) + 1)), (2, .int ((exI σ i j (exF σ a0 i)).1 + 1)), (6, .int (nI (i * 5 + j))), (0, .ref (ad 0)), (1, .int a0), (4, .int (nI i))]) hx hb dX3_exact_94 hl (k := 6) rfl (nI_1 j) (by decide) rfl (fun ls hl => ?_)
                    refine lv_goto (tgt := 43) hx hb dX3_exact_97 (by decide) ?_
                    have ev18 : (exI σ i j (exF σ a0 i)).1 + 1 = (exI σ i (j + 1) (exF σ a0 i)).1 := by simp [exI, p1, c21_2, bc21_2, c37_4, c46_7, bc46_7, bc67_12, c84_15]
                    rw [ev18] at hl
                    have ev19 : ((exI σ i j (exF σ a0 i)).2) + 1 = (exI σ i (j + 1) (exF σ a0 i)).2 := by simp [exI, p1, c21_2, bc21_2, c37_4, c46_7, bc46_7, bc67_12, c84_15]
                    rw [ev19] at hl
                    exact ihn2 (j + 1) hltj (by omega) ls (lv_sub hl [4, 5, 2, 1, 6, 0] rfl)
          refine lv_iconst (v := 0) hx hb dX3_exact_40 (by decide) ?_
          refine lv_istore (lv' := [(5, .int 0), (0, .ref (ad 0)), (1, .int a0), (2, .int ((exF σ a0 i).1)), (3, .int ((exF σ a0 i).2)), (4, .int (nI i))]) hx hb dX3_exact_41 hl (by decide) rfl (fun ls hl => ?_)
          exact L43 6 0 (Nat.zero_le _) (by omega) ls (lv_sub hl [1, 2, 3, 4, 5, 0] rfl)
  refine lv_iconst (v := 0) hx hb dX3_exact_5 (by decide) ?_
  refine lv_istore_n (lv' := [(2, .int 0), (0, .ref (ad 0)), (1, .int a0)]) hx hb dX3_exact_6 rfl hl (by decide) rfl (fun ls hl => ?_)
  refine lv_iconst (v := 0) hx hb dX3_exact_7 (by decide) ?_
  refine lv_istore_n (lv' := [(3, .int 0), (2, .int 0), (0, .ref (ad 0)), (1, .int a0)]) hx hb dX3_exact_8 rfl hl (by decide) rfl (fun ls hl => ?_)
  refine lv_iconst (v := 0) hx hb dX3_exact_9 (by decide) ?_
  refine lv_istore (lv' := [(4, .int 0), (3, .int 0), (2, .int 0), (0, .ref (ad 0)), (1, .int a0)]) hx hb dX3_exact_10 hl (by decide) rfl (fun ls hl => ?_)
  exact L12 (ns + 1) 0 (Nat.zero_le _) (by omega) ls (lv_sub hl [3, 4, 2, 1, 0] rfl)

set_option maxHeartbeats 4000000 in
set_option maxRecDepth 100000 in
theorem c_suggested (l : Launch) (G : kG) (ad : Nat → Nat) (σ : kS) (nm ns : Nat) (hns : σ 18 0 = nI ns) (hns4 : ns ≤ 40) (hnm : σ 17 0 = nI nm) (hnm2 : nm ≤ 200) : Met l yX3_suggested [.code yX3_suggested cX3_suggested 7 (some .int)] ({ frames := 7, cells := 0, slots := 0, locals := 181 }) (va_Pc [.ref (ad 0)] (fun U => PX G ad σ U U.heap)) (vp_Si (fun r => r = (suF σ nm ns 12).1)) 0 0 NF := by
  refine k_of (by decide) (Nat.le_of_ble_eq_true rfl) (fun U h => h.2.2) ?_
  intro p e s m below meth c ls S hr hlocks hmn hB hl
  have hx := S.1
  have hb := S.2.1
  have hX : PX G ad σ s s.heap := hB
  have hl : lv_has ls 7 [(0, .ref (ad 0))] := hl
  have L7 : ∀ (n i : Nat), i ≤ 12 → 12 + 1 ≤ i + n → ∀ ls, lv_has ls 7 [(0, .ref (ad 0)), (1, .int ((suF σ nm ns i).1)), (2, .long ((suF σ nm ns i).2)), (4, .int (nI i))] → W p l e ({ frames := 7, cells := 0, slots := 0, locals := 181 } : Room) s m [.ref (ad 0)].toArray below meth c s.heap [] 0 0 (MQ below (vp_Si (fun r => r = (suF σ nm ns 12).1)) [.ref (ad 0)].toArray s 0 0 NF) (F0 m 7 ls []) := by
    intro n
    induction n with
    | zero =>
      intro i h1 h2
      omega
    | succ n ihn =>
      intro i hii hini ls hl
      refine lv_iload hx hb dX3_suggested_7 (lv_at hl 3 rfl) ?_
      refine lv_bipush (v := 12) hx hb dX3_suggested_9 (by decide) ?_
      refine lv_icmp_ge (tgt := 58) hx hb dX3_suggested_11 (by decide) (fun c11_1 => ?_) (fun c11_1 => ?_)
      · have bc11_1 := le_nlt c11_1
        have hgei : i = 12 := by
          have h9 := c11_1
          rw [show (12 : Int32) = nI 12 from rfl, nI_leI (by omega) (by omega)] at h9
          omega
        refine lv_iload_n hx hb dX3_suggested_58 rfl (lv_at hl 1 rfl) ?_
        exact W.iret (v := (suF σ nm ns i).1) hx hb hr (fun t ht hW => ⟨_, rfl, (by subst hgei; rfl), ht⟩) (fun q h => by cases h) dX3_suggested_59
      · have bc11_1 := nle_lt c11_1
        have hlti : i < 12 := by
          have h9 := nle_lt c11_1
          rw [show (12 : Int32) = nI 12 from rfl, nI_ltI (by omega) (by omega)] at h9
          exact h9
        refine lv_aload_n hx hb dX3_suggested_14 rfl (lv_at hl 0 rfl) ?_
        refine k_get S hX.2 hX.1 0 (C := RX3) (T := TX3) (N := 6) rfl rfl 3 (by decide) inX3 m_134 rfl dX3_suggested_15 ?_
        refine lv_iload hx hb dX3_suggested_18 (lv_at hl 3 rfl) ?_
        refine q_i (r_VN S hX.2.2 ⟨n_158, m_160, m_0, m_25, m_161⟩ ⟨rfl, by decide, by decide, by decide +kernel⟩ (c_isOpenFor l G ad σ ns (nI i) hns hns4) ⟨rfl, rfl, Nat.le_of_ble_eq_true rfl, Nat.le_of_ble_eq_true rfl⟩ (pv_X hX 4 rfl rfl bl_PX (bX hX)) (n := 1) (As := [.int (nI i)]) (rest := []) rfl hl.1 rfl (Nat.le_of_ble_eq_true rfl) ⟨Nat.le_of_ble_eq_true rfl, Nat.le_of_ble_eq_true rfl⟩ dX3_suggested_20) (fun r2 (e2 : r2 = bI (opB σ (nI i) ns)) => ?_)
        subst e2
        refine lv_if_ne (tgt := 52) hx hb dX3_suggested_23 (by decide) (fun c23_3 => ?_) (fun c23_3 => ?_)
        · have bc23_3 := bI_n c23_3
          refine lv_iinc (v := nI (i + 1)) (lv' := [(4, .int (nI (i + 1))), (0, .ref (ad 0)), (1, .int ((suF σ nm ns i).1)), (2, .long ((suF σ nm ns i).2))]) hx hb dX3_suggested_52 hl (k := 3) rfl (nI_1 i) (by decide) rfl (fun ls hl => ?_)
          refine lv_goto (tgt := 7) hx hb dX3_suggested_55 (by decide) ?_
          have ev4 : (suF σ nm ns i).2 = (suF σ nm ns (i + 1)).2 := by simp [suF, suT, c11_1, bc11_1, bc23_3]
          rw [ev4] at hl
          have ev5 : (suF σ nm ns i).1 = (suF σ nm ns (i + 1)).1 := by simp [suF, suT, c11_1, bc11_1, bc23_3]
          rw [ev5] at hl
          exact ihn (i + 1) hlti (by omega) ls (lv_sub hl [1, 2, 3, 0] rfl)
        · have bc23_3 := bI_0 c23_3
          refine lv_aload_n hx hb dX3_suggested_26 rfl (lv_at hl 0 rfl) ?_
          refine lv_iload hx hb dX3_suggested_27 (lv_at hl 3 rfl) ?_
          refine q_l (r_V S ⟨m_166, m_168, m_2, m_23, m_169⟩ ⟨rfl, by decide, by decide, by decide +kernel⟩ (c_urgencyOf l G ad σ nm ns (nI i) hns hns4 hnm hnm2) ⟨rfl, rfl, Nat.le_of_ble_eq_true rfl, Nat.le_of_ble_eq_true rfl⟩ (pv_X hX 0 rfl rfl bl_PX (bX hX)) (n := 1) (As := [.int (nI i)]) (rest := []) rfl hl.1 rfl (Nat.le_of_ble_eq_true rfl) ⟨Nat.le_of_ble_eq_true rfl, Nat.le_of_ble_eq_true rfl⟩ dX3_suggested_29) (fun r6 (e6 : r6 = urV σ nm ns (nI i)) => ?_)
          subst e6
          refine lv_lstore (lv' := [(5, .long (urV σ nm ns (nI i))), (0, .ref (ad 0)), (1, .int ((suF σ nm ns i).1)), (2, .long ((suF σ nm ns i).2)), (4, .int (nI i))]) hx hb dX3_suggested_32 hl (by decide) rfl (fun ls hl => ?_)
          refine lv_iload_n hx hb dX3_suggested_34 rfl (lv_at hl 2 rfl) ?_
          refine lv_iconst (v := (-1)) hx hb dX3_suggested_35 (by decide) ?_
          refine lv_icmp_eq (tgt := 46) hx hb dX3_suggested_36 (by decide) (fun c36_7 => ?_) (fun c36_7 => ?_)
          · have bc36_7 := c36_7
            refine lv_iload hx hb dX3_suggested_46 (lv_at hl 4 rfl) ?_
            refine lv_istore_n (lv' := [(1, .int (nI i)), (5, .long (urV σ nm ns (nI i))), (0, .ref (ad 0)), (2, .long ((suF σ nm ns i).2)), (4, .int (nI i))]) hx hb dX3_suggested_48 rfl hl (by decide) rfl (fun ls hl => ?_)
            refine lv_lload hx hb dX3_suggested_49 (lv_at hl 1 rfl) ?_
            refine lv_lstore_n (lv' := [(2, .long (urV σ nm ns (nI i))), (1, .int (nI i)), (5, .long (urV σ nm ns (nI i))), (0, .ref (ad 0)), (4, .int (nI i))]) hx hb dX3_suggested_51 rfl hl (by decide) rfl (fun ls hl => ?_)
            refine lv_iinc (v := nI (i + 1)) (lv' := [(4, .int (nI (i + 1))), (2, .long (urV σ nm ns (nI i))), (1, .int (nI i)), (5, .long (urV σ nm ns (nI i))), (0, .ref (ad 0))]) hx hb dX3_suggested_52 hl (k := 4) rfl (nI_1 i) (by decide) rfl (fun ls hl => ?_)
            refine lv_goto (tgt := 7) hx hb dX3_suggested_55 (by decide) ?_
            have ev8 : urV σ nm ns (nI i) = (suF σ nm ns (i + 1)).2 := by simp [suF, suT, c11_1, bc11_1, bc23_3, c36_7]
            rw [ev8] at hl
            have ev9 : nI i = (suF σ nm ns (i + 1)).1 := by simp [suF, suT, c11_1, bc11_1, bc23_3, c36_7]
            rw [ev9] at hl
            exact ihn (i + 1) hlti (by omega) ls (lv_sub hl [4, 2, 1, 0] rfl)
          · have bc36_7 := c36_7
            refine lv_lload hx hb dX3_suggested_39 (lv_at hl 0 rfl) ?_
            refine lv_lload_n hx hb dX3_suggested_41 rfl (lv_at hl 3 rfl) ?_
            refine W.lcmp hx hb dX3_suggested_42 ?_
            refine lv_if_le (tgt := 52) hx hb dX3_suggested_43 (by decide) (fun c43_10 => ?_) (fun c43_10 => ?_)
            · have bc43_10 := le_nlt c43_10
              refine lv_iinc (v := nI (i + 1)) (lv' := [(4, .int (nI (i + 1))), (5, .long (urV σ nm ns (nI i))), (0, .ref (ad 0)), (1, .int ((suF σ nm ns i).1)), (2, .long ((suF σ nm ns i).2))]) hx hb dX3_suggested_52 hl (k := 4) rfl (nI_1 i) (by decide) rfl (fun ls hl => ?_)
              refine lv_goto (tgt := 7) hx hb dX3_suggested_55 (by decide) ?_
              have ev11 : (suF σ nm ns i).2 = (suF σ nm ns (i + 1)).2 := by simp [suF, suT, c11_1, bc11_1, bc23_3, c36_7, c43_10, bc43_10]
              rw [ev11] at hl
              have ev12 : (suF σ nm ns i).1 = (suF σ nm ns (i + 1)).1 := by simp [suF, suT, c11_1, bc11_1, bc23_3, c36_7, c43_10, bc43_10]
              rw [ev12] at hl
              exact ihn (i + 1) hlti (by omega) ls (lv_sub hl [2, 3, 4, 0] rfl)
            · have bc43_10 := nle_lt c43_10
              refine lv_iload hx hb dX3_suggested_46 (lv_at hl 4 rfl) ?_
              refine lv_istore_n (lv' := [(1, .int (nI i)), (5, .long (urV σ nm ns (nI i))), (0, .ref (ad 0)), (2, .long ((suF σ nm ns i).2)), (4, .int (nI i))]) hx hb dX3_suggested_48 rfl hl (by decide) rfl (fun ls hl => ?_)
              refine lv_lload hx hb dX3_suggested_49 (lv_at hl 1 rfl) ?_
              refine lv_lstore_n (lv' := [(2, .long (urV σ nm ns (nI i))), (1, .int (nI i)), (5, .long (urV σ nm ns (nI i))), (0, .ref (ad 0)), (4, .int (nI i))]) hx hb dX3_suggested_51 rfl hl (by decide) rfl (fun ls hl => ?_)
              refine lv_iinc (v := nI (i + 1)) (lv' := [(4, .int (nI (i + 1))), (2, .long (urV σ nm ns (nI i))), (1, .int (nI i)), (5, .long (urV σ nm ns (nI i))), (0, .ref (ad 0))]) hx hb dX3_suggested_52 hl (k := 4) rfl (nI_1 i) (by decide) rfl (fun ls hl => ?_)
              refine lv_goto (tgt := 7) hx hb dX3_suggested_55 (by decide) ?_
              have ev13 : urV σ nm ns (nI i) = (suF σ nm ns (i + 1)).2 := by simp [suF, suT, c11_1, bc11_1, bc23_3, c36_7, c43_10, bc43_10]
              rw [ev13] at hl
              have ev14 : nI i = (suF σ nm ns (i + 1)).1 := by simp [suF, suT, c11_1, bc11_1, bc23_3, c36_7, c43_10, bc43_10]
              rw [ev14] at hl
              exact ihn (i + 1) hlti (by omega) ls (lv_sub hl [4, 2, 1, 0] rfl)
  refine lv_iconst (v := (-1)) hx hb dX3_suggested_0 (by decide) ?_
  refine lv_istore_n (lv' := [(1, .int (-1)), (0, .ref (ad 0))]) hx hb dX3_suggested_1 rfl hl (by decide) rfl (fun ls hl => ?_)
  refine lv_lconst (v := 0) hx hb dX3_suggested_2 (by decide) ?_
  refine lv_lstore_n (lv' := [(2, .long 0), (1, .int (-1)), (0, .ref (ad 0))]) hx hb dX3_suggested_3 rfl hl (by decide) rfl (fun ls hl => ?_)
  refine lv_iconst (v := 0) hx hb dX3_suggested_4 (by decide) ?_
  refine lv_istore (lv' := [(4, .int 0), (2, .long 0), (1, .int (-1)), (0, .ref (ad 0))]) hx hb dX3_suggested_5 hl (by decide) rfl (fun ls hl => ?_)
  exact L7 13 0 (Nat.zero_le _) (by omega) ls (lv_sub hl [3, 2, 1, 0] rfl)
