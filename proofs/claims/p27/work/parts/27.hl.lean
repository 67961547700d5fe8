theorem ek_setPrice (σ : kS) (nm ns : Nat) (a0 : Int32) (b0 : Int32) : eX_setPrice a0 b0 = 0 ∨ eX_setPrice a0 b0 = 1 ∨ eX_setPrice a0 b0 = 2 := by
  unfold eX_setPrice
  (repeat' split) <;> decide
set_option maxHeartbeats 4000000 in
set_option maxRecDepth 100000 in
theorem kL_setPrice (l : Launch) (G : kG) (ad : Nat → Nat) (σ : kS) (nm ns : Nat) (a0 b0 : Int32) (hst : l.stackTraces = false) (hns : σ 18 0 = nI ns) (hns4 : ns ≤ 40) (hnm : σ 17 0 = nI nm) (hnm2 : nm ≤ 200)   (A1 : Nat → Prop) (hD : DD 20 A1 ad) : vx_Met l yL_setPrice [.codeWith yL_setPrice cL_setPrice 4 (some .int) [(0, 6, 7, 16), (0, 6, 11, 19)]] ({ frames := 8, cells := 2, slots := 12, locals := 147 }) (va_Pc [.ref (ad 0), .int a0, .int b0] (fun U => PX G ad σ U U.heap ∧ ZS U U.heap)) (oW A1 (fun r => r = hcV (eX_setPrice a0 b0) (σ 0 (ixN a0))) (fun H9 => va_P G.1 vwCl (wX G ad (if eX_setPrice a0 b0 = 0 then (su σ 0 (ixN a0) b0) else σ)) H9)) (fun _ _ _ => False) 2 12 A1 := by
  refine kh_of (by decide) (Nat.le_of_ble_eq_true rfl) (fun U h => h.1.2.2) ?_
  intro p e s m below meth c ls S hr hlocks ht hB hl
  have hx := S.1
  have hb := S.2.1
  obtain ⟨hX, hZ⟩ := hB
  have hl : lv_has ls 4 [(0, .ref (ad 0)), (1, .int a0), (2, .int b0)] := hl
  refine lv_aload_n hx hb dL_setPrice_0 rfl (lv_at hl 0 rfl) ?_
  refine lv_iload_n hx hb dL_setPrice_1 rfl (lv_at hl 1 rfl) ?_
  refine lv_iload_n hx hb dL_setPrice_2 rfl (lv_at hl 2 rfl) ?_
  refine q_hw (rx_V S ⟨m_520, m_521, m_522, m_23, m_523⟩ ⟨rfl, by decide, by decide, by decide +kernel⟩ (c_setPrice l G ad σ nm ns a0 b0 hst hns hns4 hnm hnm2 A1 hD) ⟨rfl, rfl, Nat.le_of_ble_eq_true rfl, Nat.le_of_ble_eq_true rfl⟩ (pv_X hX 0 rfl rfl bl_PXZ (bXZ hX hZ)) (n := 2) (As := [.int a0, .int b0]) (rest := []) rfl hl.1 rfl (Nat.le_of_ble_eq_true rfl) ⟨Nat.le_of_ble_eq_true rfl, Nat.le_of_ble_eq_true rfl⟩ dL_setPrice_3) (va_S.rf (A := A1)) (fun q h => h) (fun r H1 L1 ⟨he, hv⟩ h1 f1 hS1 => ?_) (fun x q ce H1 L1 ⟨he, hq⟩ f1 hS1 hce hcv hcl => ?_)
  · subst hv
    refine vx_ret ?_
    exact W.iret (v := σ 0 (ixN a0)) hx hb hr (fun t ht9 hW => ⟨⟨_, rfl, (hcV_0 he).symm⟩, by rw [ht9, if_pos he]; exact h1, hS1.F ht9⟩) hS1.2.2 dL_setPrice_6
  · rcases ek_setPrice σ nm ns a0 b0 with hk | hk | hk
    · exact absurd hk he
    · rw [hk] at hq
      subst hq
      refine vx_catch S.2.2.2.1 [] ⟨0, 6, 7, 16⟩ [⟨0, 6, 11, 19⟩] ht (fun z hz => by cases hz) (by decide) (by decide) (S.2.2.2.2 _ m_213) (hX.2.2.face n_227 fcx1) hce hcv hcl ?_
      refine lv_astore_n (lv' := [(3, .ref q), (0, .ref (ad 0)), (1, .int a0), (2, .int b0)]) hx hb dL_setPrice_7 rfl hl (by decide) rfl (fun ls hl => ?_)
      refine lv_ldc (v := (-1000001)) hx hb S.2.2.2.1 (S.2.2.2.2 _ m_294) dL_setPrice_8 ?_
      refine vx_ret ?_
      exact W.iret (v := (-1000001)) hx hb hr (fun t ht9 hW => ⟨⟨_, rfl, (hcV_1 hk).symm⟩, by rw [ht9, if_neg he]; exact kp hX.1 f1, hS1.F ht9⟩) hS1.2.2 dL_setPrice_10
    · rw [hk] at hq
      subst hq
      refine vx_catch S.2.2.2.1 [⟨0, 6, 7, 16⟩] ⟨0, 6, 11, 19⟩ [] ht (fun z hz => by
        rcases List.mem_cons.mp hz with rfl | hz
        · exact Or.inr ⟨by decide, _, S.2.2.2.2 _ m_213, hX.2.2.nc ncx21⟩
        cases hz) (by decide) (by decide) (S.2.2.2.2 _ m_438) (hX.2.2.face n_448 fcx2) hce hcv hcl ?_
      refine lv_astore_n (lv' := [(3, .ref q), (0, .ref (ad 0)), (1, .int a0), (2, .int b0)]) hx hb dL_setPrice_11 rfl hl (by decide) rfl (fun ls hl => ?_)
      refine lv_ldc (v := (-1000002)) hx hb S.2.2.2.1 (S.2.2.2.2 _ m_394) dL_setPrice_12 ?_
      refine vx_ret ?_
      exact W.iret (v := (-1000002)) hx hb hr (fun t ht9 hW => ⟨⟨_, rfl, (hcV_2 hk).symm⟩, by rw [ht9, if_neg he]; exact kp hX.1 f1, hS1.F ht9⟩) hS1.2.2 dL_setPrice_14

theorem ek_setBound (σ : kS) (nm ns : Nat) (a0 : Int32) (b0 : Int32) : eX_setBound a0 b0 = 0 ∨ eX_setBound a0 b0 = 1 ∨ eX_setBound a0 b0 = 2 := by
  unfold eX_setBound
  (repeat' split) <;> decide
set_option maxHeartbeats 4000000 in
set_option maxRecDepth 100000 in
theorem kL_setBound (l : Launch) (G : kG) (ad : Nat → Nat) (σ : kS) (nm ns : Nat) (a0 b0 : Int32) (hst : l.stackTraces = false) (hns : σ 18 0 = nI ns) (hns4 : ns ≤ 40) (hnm : σ 17 0 = nI nm) (hnm2 : nm ≤ 200)   (A1 : Nat → Prop) (hD : DD 20 A1 ad) : vx_Met l yL_setBound [.codeWith yL_setBound cL_setBound 4 (some .int) [(0, 6, 7, 16), (0, 6, 11, 19)]] ({ frames := 8, cells := 2, slots := 12, locals := 147 }) (va_Pc [.ref (ad 0), .int a0, .int b0] (fun U => PX G ad σ U U.heap ∧ ZS U U.heap)) (oW A1 (fun r => r = hcV (eX_setBound a0 b0) (σ 1 (ixN a0))) (fun H9 => va_P G.1 vwCl (wX G ad (if eX_setBound a0 b0 = 0 then (su σ 1 (ixN a0) b0) else σ)) H9)) (fun _ _ _ => False) 2 12 A1 := by
  refine kh_of (by decide) (Nat.le_of_ble_eq_true rfl) (fun U h => h.1.2.2) ?_
  intro p e s m below meth c ls S hr hlocks ht hB hl
  have hx := S.1
  have hb := S.2.1
  obtain ⟨hX, hZ⟩ := hB
  have hl : lv_has ls 4 [(0, .ref (ad 0)), (1, .int a0), (2, .int b0)] := hl
  refine lv_aload_n hx hb dL_setBound_0 rfl (lv_at hl 0 rfl) ?_
  refine lv_iload_n hx hb dL_setBound_1 rfl (lv_at hl 1 rfl) ?_
  refine lv_iload_n hx hb dL_setBound_2 rfl (lv_at hl 2 rfl) ?_
  refine q_hw (rx_V S ⟨m_527, m_528, m_529, m_23, m_530⟩ ⟨rfl, by decide, by decide, by decide +kernel⟩ (c_setBound l G ad σ nm ns a0 b0 hst hns hns4 hnm hnm2 A1 hD) ⟨rfl, rfl, Nat.le_of_ble_eq_true rfl, Nat.le_of_ble_eq_true rfl⟩ (pv_X hX 0 rfl rfl bl_PXZ (bXZ hX hZ)) (n := 2) (As := [.int a0, .int b0]) (rest := []) rfl hl.1 rfl (Nat.le_of_ble_eq_true rfl) ⟨Nat.le_of_ble_eq_true rfl, Nat.le_of_ble_eq_true rfl⟩ dL_setBound_3) (va_S.rf (A := A1)) (fun q h => h) (fun r H1 L1 ⟨he, hv⟩ h1 f1 hS1 => ?_) (fun x q ce H1 L1 ⟨he, hq⟩ f1 hS1 hce hcv hcl => ?_)
  · subst hv
    refine vx_ret ?_
    exact W.iret (v := σ 1 (ixN a0)) hx hb hr (fun t ht9 hW => ⟨⟨_, rfl, (hcV_0 he).symm⟩, by rw [ht9, if_pos he]; exact h1, hS1.F ht9⟩) hS1.2.2 dL_setBound_6
  · rcases ek_setBound σ nm ns a0 b0 with hk | hk | hk
    · exact absurd hk he
    · rw [hk] at hq
      subst hq
      refine vx_catch S.2.2.2.1 [] ⟨0, 6, 7, 16⟩ [⟨0, 6, 11, 19⟩] ht (fun z hz => by cases hz) (by decide) (by decide) (S.2.2.2.2 _ m_213) (hX.2.2.face n_227 fcx1) hce hcv hcl ?_
      refine lv_astore_n (lv' := [(3, .ref q), (0, .ref (ad 0)), (1, .int a0), (2, .int b0)]) hx hb dL_setBound_7 rfl hl (by decide) rfl (fun ls hl => ?_)
      refine lv_ldc (v := (-1000001)) hx hb S.2.2.2.1 (S.2.2.2.2 _ m_294) dL_setBound_8 ?_
      refine vx_ret ?_
      exact W.iret (v := (-1000001)) hx hb hr (fun t ht9 hW => ⟨⟨_, rfl, (hcV_1 hk).symm⟩, by rw [ht9, if_neg he]; exact kp hX.1 f1, hS1.F ht9⟩) hS1.2.2 dL_setBound_10
    · rw [hk] at hq
      subst hq
      refine vx_catch S.2.2.2.1 [⟨0, 6, 7, 16⟩] ⟨0, 6, 11, 19⟩ [] ht (fun z hz => by
        rcases List.mem_cons.mp hz with rfl | hz
        · exact Or.inr ⟨by decide, _, S.2.2.2.2 _ m_213, hX.2.2.nc ncx21⟩
        cases hz) (by decide) (by decide) (S.2.2.2.2 _ m_438) (hX.2.2.face n_448 fcx2) hce hcv hcl ?_
      refine lv_astore_n (lv' := [(3, .ref q), (0, .ref (ad 0)), (1, .int a0), (2, .int b0)]) hx hb dL_setBound_11 rfl hl (by decide) rfl (fun ls hl => ?_)
      refine lv_ldc (v := (-1000002)) hx hb S.2.2.2.1 (S.2.2.2.2 _ m_394) dL_setBound_12 ?_
      refine vx_ret ?_
      exact W.iret (v := (-1000002)) hx hb hr (fun t ht9 hW => ⟨⟨_, rfl, (hcV_2 hk).symm⟩, by rw [ht9, if_neg he]; exact kp hX.1 f1, hS1.F ht9⟩) hS1.2.2 dL_setBound_14

theorem ek_move (σ : kS) (nm ns : Nat) (a0 : Int32) (b0 : Int32) (c0 : Int32) (d0 : Int32) (e0 : Int32) : eX_move σ a0 b0 c0 d0 e0 = 0 ∨ eX_move σ a0 b0 c0 d0 e0 = 1 ∨ eX_move σ a0 b0 c0 d0 e0 = 2 ∨ eX_move σ a0 b0 c0 d0 e0 = 3 := by
  unfold eX_move
  (repeat' split) <;> decide
set_option maxHeartbeats 4000000 in
set_option maxRecDepth 100000 in
theorem kL_move (l : Launch) (G : kG) (ad : Nat → Nat) (σ : kS) (nm ns : Nat) (a0 b0 c0 d0 e0 : Int32) (hst : l.stackTraces = false) (hns : σ 18 0 = nI ns) (hns4 : ns ≤ 40) (hnm : σ 17 0 = nI nm) (hnm2 : nm ≤ 200)   (A1 : Nat → Prop) (hD : DD 20 A1 ad) : vx_Met l yL_move [.codeWith yL_move cL_move 7 (some .int) [(0, 11, 12, 16), (0, 11, 17, 19), (0, 11, 22, 29)]] ({ frames := 9, cells := 6, slots := 36, locals := 169 }) (va_Pc [.ref (ad 0), .int a0, .int b0, .int c0, .int d0, .int e0] (fun U => PX G ad σ U U.heap ∧ ZS U U.heap)) (oW A1 (fun r => r = hcV (eX_move σ a0 b0 c0 d0 e0) (nI nm)) (fun H9 => va_P G.1 vwCl (wX G ad (if eX_move σ a0 b0 c0 d0 e0 = 0 then (mvS σ nm a0 b0 c0 d0 e0) else σ)) H9)) (fun _ _ _ => False) 6 36 A1 := by
  refine kh_of (by decide) (Nat.le_of_ble_eq_true rfl) (fun U h => h.1.2.2) ?_
  intro p e s m below meth c ls S hr hlocks ht hB hl
  have hx := S.1
  have hb := S.2.1
  obtain ⟨hX, hZ⟩ := hB
  have hl : lv_has ls 7 [(0, .ref (ad 0)), (1, .int a0), (2, .int b0), (3, .int c0), (4, .int d0), (5, .int e0)] := hl
  refine lv_aload_n hx hb dL_move_0 rfl (lv_at hl 0 rfl) ?_
  refine lv_iload_n hx hb dL_move_1 rfl (lv_at hl 1 rfl) ?_
  refine lv_iload_n hx hb dL_move_2 rfl (lv_at hl 2 rfl) ?_
  refine lv_iload_n hx hb dL_move_3 rfl (lv_at hl 3 rfl) ?_
  refine lv_iload hx hb dL_move_4 (lv_at hl 4 rfl) ?_
  refine lv_iload hx hb dL_move_6 (lv_at hl 5 rfl) ?_
  refine q_hw (rx_V S ⟨m_497, m_498, m_499, m_23, m_500⟩ ⟨rfl, by decide, by decide, by decide +kernel⟩ (c_move l G ad σ nm ns a0 b0 c0 d0 e0 hst hns hns4 hnm hnm2 A1 hD) ⟨rfl, rfl, Nat.le_of_ble_eq_true rfl, Nat.le_of_ble_eq_true rfl⟩ (pv_X hX 0 rfl rfl bl_PXZ (bXZ hX hZ)) (n := 5) (As := [.int a0, .int b0, .int c0, .int d0, .int e0]) (rest := []) rfl hl.1 rfl (Nat.le_of_ble_eq_true rfl) ⟨Nat.le_of_ble_eq_true rfl, Nat.le_of_ble_eq_true rfl⟩ dL_move_8) (va_S.rf (A := A1)) (fun q h => h) (fun r H1 L1 ⟨he, hv⟩ h1 f1 hS1 => ?_) (fun x q ce H1 L1 ⟨he, hq⟩ f1 hS1 hce hcv hcl => ?_)
  · subst hv
    refine vx_ret ?_
    exact W.iret (v := nI nm) hx hb hr (fun t ht9 hW => ⟨⟨_, rfl, (hcV_0 he).symm⟩, by rw [ht9, if_pos he]; exact h1, hS1.F ht9⟩) hS1.2.2 dL_move_11
  · rcases ek_move σ nm ns a0 b0 c0 d0 e0 with hk | hk | hk | hk
    · exact absurd hk he
    · rw [hk] at hq
      subst hq
      refine vx_catch S.2.2.2.1 [] ⟨0, 11, 12, 16⟩ [⟨0, 11, 17, 19⟩, ⟨0, 11, 22, 29⟩] ht (fun z hz => by cases hz) (by decide) (by decide) (S.2.2.2.2 _ m_213) (hX.2.2.face n_227 fcx1) hce hcv hcl ?_
      refine lv_astore (lv' := [(6, .ref q), (0, .ref (ad 0)), (1, .int a0), (2, .int b0), (3, .int c0), (4, .int d0), (5, .int e0)]) hx hb dL_move_12 hl (by decide) rfl (fun ls hl => ?_)
      refine lv_ldc (v := (-1000001)) hx hb S.2.2.2.1 (S.2.2.2.2 _ m_294) dL_move_14 ?_
      refine vx_ret ?_
      exact W.iret (v := (-1000001)) hx hb hr (fun t ht9 hW => ⟨⟨_, rfl, (hcV_1 hk).symm⟩, by rw [ht9, if_neg he]; exact kp hX.1 f1, hS1.F ht9⟩) hS1.2.2 dL_move_16
    · rw [hk] at hq
      subst hq
      refine vx_catch S.2.2.2.1 [⟨0, 11, 12, 16⟩] ⟨0, 11, 17, 19⟩ [⟨0, 11, 22, 29⟩] ht (fun z hz => by
        rcases List.mem_cons.mp hz with rfl | hz
        · exact Or.inr ⟨by decide, _, S.2.2.2.2 _ m_213, hX.2.2.nc ncx21⟩
        cases hz) (by decide) (by decide) (S.2.2.2.2 _ m_438) (hX.2.2.face n_448 fcx2) hce hcv hcl ?_
      refine lv_astore (lv' := [(6, .ref q), (0, .ref (ad 0)), (1, .int a0), (2, .int b0), (3, .int c0), (4, .int d0), (5, .int e0)]) hx hb dL_move_17 hl (by decide) rfl (fun ls hl => ?_)
      refine lv_ldc (v := (-1000002)) hx hb S.2.2.2.1 (S.2.2.2.2 _ m_394) dL_move_19 ?_
      refine vx_ret ?_
      exact W.iret (v := (-1000002)) hx hb hr (fun t ht9 hW => ⟨⟨_, rfl, (hcV_2 hk).symm⟩, by rw [ht9, if_neg he]; exact kp hX.1 f1, hS1.F ht9⟩) hS1.2.2 dL_move_21
    · rw [hk] at hq
      subst hq
      refine vx_catch S.2.2.2.1 [⟨0, 11, 12, 16⟩, ⟨0, 11, 17, 19⟩] ⟨0, 11, 22, 29⟩ [] ht (fun z hz => by
        rcases List.mem_cons.mp hz with rfl | hz
        · exact Or.inr ⟨by decide, _, S.2.2.2.2 _ m_213, hX.2.2.nc ncx31⟩
        rcases List.mem_cons.mp hz with rfl | hz
        · exact Or.inr ⟨by decide, _, S.2.2.2.2 _ m_438, hX.2.2.nc ncx32⟩
        cases hz) (by decide) (by decide) (S.2.2.2.2 _ m_398) (hX.2.2.face n_405 fcx3) hce hcv hcl ?_
      refine lv_astore (lv' := [(6, .ref q), (0, .ref (ad 0)), (1, .int a0), (2, .int b0), (3, .int c0), (4, .int d0), (5, .int e0)]) hx hb dL_move_22 hl (by decide) rfl (fun ls hl => ?_)
      refine lv_ldc (v := (-1000003)) hx hb S.2.2.2.1 (S.2.2.2.2 _ m_427) dL_move_24 ?_
      refine vx_ret ?_
      exact W.iret (v := (-1000003)) hx hb hr (fun t ht9 hW => ⟨⟨_, rfl, (hcV_3 hk).symm⟩, by rw [ht9, if_neg he]; exact kp hX.1 f1, hS1.F ht9⟩) hS1.2.2 dL_move_26

theorem ek_pass (σ : kS) (nm ns : Nat) (a0 : Int32) : eX_pass a0 = 0 ∨ eX_pass a0 = 2 := by
  unfold eX_pass
  (repeat' split) <;> decide
set_option maxHeartbeats 4000000 in
set_option maxRecDepth 100000 in
theorem kL_pass (l : Launch) (G : kG) (ad : Nat → Nat) (σ : kS) (nm ns : Nat) (a0 : Int32) (hst : l.stackTraces = false) (hns : σ 18 0 = nI ns) (hns4 : ns ≤ 40) (hnm : σ 17 0 = nI nm) (hnm2 : nm ≤ 200)   (A1 : Nat → Prop) (hD : DD 20 A1 ad) : vx_Met l yL_pass [.codeWith yL_pass cL_pass 3 (some .int) [(0, 5, 6, 19)]] ({ frames := 8, cells := 1, slots := 6, locals := 146 }) (va_Pc [.ref (ad 0), .int a0] (fun U => PX G ad σ U U.heap ∧ ZS U U.heap)) (oW A1 (fun r => r = hcV (eX_pass a0) (σ 16 0 + a0)) (fun H9 => va_P G.1 vwCl (wX G ad (if eX_pass a0 = 0 then (su σ 16 0 (σ 16 0 + a0)) else σ)) H9)) (fun _ _ _ => False) 1 6 A1 := by
  refine kh_of (by decide) (Nat.le_of_ble_eq_true rfl) (fun U h => h.1.2.2) ?_
  intro p e s m below meth c ls S hr hlocks ht hB hl
  have hx := S.1
  have hb := S.2.1
  obtain ⟨hX, hZ⟩ := hB
  have hl : lv_has ls 3 [(0, .ref (ad 0)), (1, .int a0)] := hl
  refine lv_aload_n hx hb dL_pass_0 rfl (lv_at hl 0 rfl) ?_
  refine lv_iload_n hx hb dL_pass_1 rfl (lv_at hl 1 rfl) ?_
  refine q_hw (rx_V S ⟨m_513, m_514, m_515, m_23, m_516⟩ ⟨rfl, by decide, by decide, by decide +kernel⟩ (c_pass l G ad σ nm ns a0 hst hns hns4 hnm hnm2 A1 hD) ⟨rfl, rfl, Nat.le_of_ble_eq_true rfl, Nat.le_of_ble_eq_true rfl⟩ (pv_X hX 0 rfl rfl bl_PXZ (bXZ hX hZ)) (n := 1) (As := [.int a0]) (rest := []) rfl hl.1 rfl (Nat.le_of_ble_eq_true rfl) ⟨Nat.le_of_ble_eq_true rfl, Nat.le_of_ble_eq_true rfl⟩ dL_pass_2) (va_S.rf (A := A1)) (fun q h => h) (fun r H1 L1 ⟨he, hv⟩ h1 f1 hS1 => ?_) (fun x q ce H1 L1 ⟨he, hq⟩ f1 hS1 hce hcv hcl => ?_)
  · subst hv
    refine vx_ret ?_
    exact W.iret (v := σ 16 0 + a0) hx hb hr (fun t ht9 hW => ⟨⟨_, rfl, (hcV_0 he).symm⟩, by rw [ht9, if_pos he]; exact h1, hS1.F ht9⟩) hS1.2.2 dL_pass_5
  · rcases ek_pass σ nm ns a0 with hk | hk
    · exact absurd hk he
    · rw [hk] at hq
      subst hq
      refine vx_catch S.2.2.2.1 [] ⟨0, 5, 6, 19⟩ [] ht (fun z hz => by cases hz) (by decide) (by decide) (S.2.2.2.2 _ m_438) (hX.2.2.face n_448 fcx2) hce hcv hcl ?_
      refine lv_astore_n (lv' := [(2, .ref q), (0, .ref (ad 0)), (1, .int a0)]) hx hb dL_pass_6 rfl hl (by decide) rfl (fun ls hl => ?_)
      refine lv_ldc (v := (-1000002)) hx hb S.2.2.2.1 (S.2.2.2.2 _ m_394) dL_pass_7 ?_
      refine vx_ret ?_
      exact W.iret (v := (-1000002)) hx hb hr (fun t ht9 hW => ⟨⟨_, rfl, (hcV_2 hk).symm⟩, by rw [ht9, if_neg he]; exact kp hX.1 f1, hS1.F ht9⟩) hS1.2.2 dL_pass_9

theorem ek_open (σ : kS) (nm ns : Nat) (a0 : Int32) : eX_open σ ns a0 = 0 ∨ eX_open σ ns a0 = 1 ∨ eX_open σ ns a0 = 3 := by
  unfold eX_open
  (repeat' split) <;> decide
set_option maxHeartbeats 4000000 in
set_option maxRecDepth 100000 in
theorem kL_open (l : Launch) (G : kG) (ad : Nat → Nat) (σ : kS) (nm ns : Nat) (a0 : Int32) (hst : l.stackTraces = false) (hns : σ 18 0 = nI ns) (hns4 : ns ≤ 40) (hnm : σ 17 0 = nI nm) (hnm2 : nm ≤ 200)   (A1 : Nat → Prop) (hD : DD 20 A1 ad) : vx_Met l yL_open [.codeWith yL_open cL_open 3 (some .int) [(0, 5, 6, 16), (0, 5, 10, 29)]] ({ frames := 8, cells := 2, slots := 12, locals := 145 }) (va_Pc [.ref (ad 0), .int a0] (fun U => PX G ad σ U U.heap ∧ ZS U U.heap)) (oW A1 (fun r => r = hcV (eX_open σ ns a0) (nI ns)) (fun H9 => va_P G.1 vwCl (wX G ad (if eX_open σ ns a0 = 0 then (shS σ ns a0 (σ 16 0)) else σ)) H9)) (fun _ _ _ => False) 2 12 A1 := by
  refine kh_of (by decide) (Nat.le_of_ble_eq_true rfl) (fun U h => h.1.2.2) ?_
  intro p e s m below meth c ls S hr hlocks ht hB hl
  have hx := S.1
  have hb := S.2.1
  obtain ⟨hX, hZ⟩ := hB
  have hl : lv_has ls 3 [(0, .ref (ad 0)), (1, .int a0)] := hl
  refine lv_aload_n hx hb dL_open_0 rfl (lv_at hl 0 rfl) ?_
  refine lv_iload_n hx hb dL_open_1 rfl (lv_at hl 1 rfl) ?_
  refine q_hw (rx_V S ⟨m_536, m_537, m_538, m_23, m_539⟩ ⟨rfl, by decide, by decide, by decide +kernel⟩ (c_open l G ad σ nm ns a0 hst hns hns4 hnm hnm2 A1 hD) ⟨rfl, rfl, Nat.le_of_ble_eq_true rfl, Nat.le_of_ble_eq_true rfl⟩ (pv_X hX 0 rfl rfl bl_PXZ (bXZ hX hZ)) (n := 1) (As := [.int a0]) (rest := []) rfl hl.1 rfl (Nat.le_of_ble_eq_true rfl) ⟨Nat.le_of_ble_eq_true rfl, Nat.le_of_ble_eq_true rfl⟩ dL_open_2) (va_S.rf (A := A1)) (fun q h => h) (fun r H1 L1 ⟨he, hv⟩ h1 f1 hS1 => ?_) (fun x q ce H1 L1 ⟨he, hq⟩ f1 hS1 hce hcv hcl => ?_)
  · subst hv
    refine vx_ret ?_
    exact W.iret (v := nI ns) hx hb hr (fun t ht9 hW => ⟨⟨_, rfl, (hcV_0 he).symm⟩, by rw [ht9, if_pos he]; exact h1, hS1.F ht9⟩) hS1.2.2 dL_open_5
  · rcases ek_open σ nm ns a0 with hk | hk | hk
    · exact absurd hk he
    · rw [hk] at hq
      subst hq
      refine vx_catch S.2.2.2.1 [] ⟨0, 5, 6, 16⟩ [⟨0, 5, 10, 29⟩] ht (fun z hz => by cases hz) (by decide) (by decide) (S.2.2.2.2 _ m_213) (hX.2.2.face n_227 fcx1) hce hcv hcl ?_
      refine lv_astore_n (lv' := [(2, .ref q), (0, .ref (ad 0)), (1, .int a0)]) hx hb dL_open_6 rfl hl (by decide) rfl (fun ls hl => ?_)
      refine lv_ldc (v := (-1000001)) hx hb S.2.2.2.1 (S.2.2.2.2 _ m_294) dL_open_7 ?_
      refine vx_ret ?_
      exact W.iret (v := (-1000001)) hx hb hr (fun t ht9 hW => ⟨⟨_, rfl, (hcV_1 hk).symm⟩, by rw [ht9, if_neg he]; exact kp hX.1 f1, hS1.F ht9⟩) hS1.2.2 dL_open_9
    · rw [hk] at hq
      subst hq
      refine vx_catch S.2.2.2.1 [⟨0, 5, 6, 16⟩] ⟨0, 5, 10, 29⟩ [] ht (fun z hz => by
        rcases List.mem_cons.mp hz with rfl | hz
        · exact Or.inr ⟨by decide, _, S.2.2.2.2 _ m_213, hX.2.2.nc ncx31⟩
        cases hz) (by decide) (by decide) (S.2.2.2.2 _ m_398) (hX.2.2.face n_405 fcx3) hce hcv hcl ?_
      refine lv_astore_n (lv' := [(2, .ref q), (0, .ref (ad 0)), (1, .int a0)]) hx hb dL_open_10 rfl hl (by decide) rfl (fun ls hl => ?_)
      refine lv_ldc (v := (-1000003)) hx hb S.2.2.2.1 (S.2.2.2.2 _ m_427) dL_open_11 ?_
      refine vx_ret ?_
      exact W.iret (v := (-1000003)) hx hb hr (fun t ht9 hW => ⟨⟨_, rfl, (hcV_3 hk).symm⟩, by rw [ht9, if_neg he]; exact kp hX.1 f1, hS1.F ht9⟩) hS1.2.2 dL_open_13

theorem ek_count (σ : kS) (nm ns : Nat) (a0 : Int32) (b0 : Int32) (c0 : Int32) (d0 : Int32) : eX_count σ a0 b0 c0 d0 = 0 ∨ eX_count σ a0 b0 c0 d0 = 1 ∨ eX_count σ a0 b0 c0 d0 = 2 ∨ eX_count σ a0 b0 c0 d0 = 3 := by
  unfold eX_count
  (repeat' split) <;> decide
set_option maxHeartbeats 4000000 in
set_option maxRecDepth 100000 in
theorem kL_count (l : Launch) (G : kG) (ad : Nat → Nat) (σ : kS) (nm ns : Nat) (a0 b0 c0 d0 : Int32) (hst : l.stackTraces = false) (hns : σ 18 0 = nI ns) (hns4 : ns ≤ 40) (hnm : σ 17 0 = nI nm) (hnm2 : nm ≤ 200)   (A1 : Nat → Prop) (hD : DD 20 A1 ad) : vx_Met l yL_count [.codeWith yL_count cL_count 6 (some .int) [(0, 17, 18, 16), (0, 17, 23, 19), (0, 17, 28, 29)]] ({ frames := 8, cells := 5, slots := 30, locals := 149 }) (va_Pc [.ref (ad 0), .int a0, .int b0, .int c0, .int d0] (fun U => PX G ad σ U U.heap ∧ ZS U U.heap)) (oW A1 (fun r => r = hcV (eX_count σ a0 b0 c0 d0) (bI (agB (adS σ (lnN a0 c0) b0 d0) (lnN a0 c0)))) (fun H9 => va_P G.1 vwCl (wX G ad (if eX_count σ a0 b0 c0 d0 = 0 then (adS σ (lnN a0 c0) b0 d0) else σ)) H9)) (fun _ _ _ => False) 5 30 A1 := by
  refine kh_of (by decide) (Nat.le_of_ble_eq_true rfl) (fun U h => h.1.2.2) ?_
  intro p e s m below meth c ls S hr hlocks ht hB hl
  have hx := S.1
  have hb := S.2.1
  obtain ⟨hX, hZ⟩ := hB
  have hl : lv_has ls 6 [(0, .ref (ad 0)), (1, .int a0), (2, .int b0), (3, .int c0), (4, .int d0)] := hl
  refine lv_aload_n hx hb dL_count_0 rfl (lv_at hl 0 rfl) ?_
  refine lv_iload_n hx hb dL_count_1 rfl (lv_at hl 1 rfl) ?_
  refine lv_iload_n hx hb dL_count_2 rfl (lv_at hl 2 rfl) ?_
  refine lv_iload_n hx hb dL_count_3 rfl (lv_at hl 3 rfl) ?_
  refine lv_iload hx hb dL_count_4 (lv_at hl 4 rfl) ?_
  refine q_hw (rx_V S ⟨m_549, m_550, m_551, m_23, m_552⟩ ⟨rfl, by decide, by decide, by decide +kernel⟩ (c_count l G ad σ nm ns a0 b0 c0 d0 hst hns hns4 hnm hnm2 A1 hD) ⟨rfl, rfl, Nat.le_of_ble_eq_true rfl, Nat.le_of_ble_eq_true rfl⟩ (pv_X hX 0 rfl rfl bl_PXZ (bXZ hX hZ)) (n := 4) (As := [.int a0, .int b0, .int c0, .int d0]) (rest := []) rfl hl.1 rfl (Nat.le_of_ble_eq_true rfl) ⟨Nat.le_of_ble_eq_true rfl, Nat.le_of_ble_eq_true rfl⟩ dL_count_6) (va_S.rf (A := A1)) (fun q h => h) (fun r H1 L1 ⟨he, hv⟩ h1 f1 hS1 => ?_) (fun x q ce H1 L1 ⟨he, hq⟩ f1 hS1 hce hcv hcl => ?_)
  · subst hv
    refine lv_if_eq (tgt := 16) hx hb dL_count_9 (by decide) (fun cz => ?_) (fun cz => ?_)
    · refine lv_iconst (v := 0) hx hb dL_count_16 (by decide) ?_
      refine vx_ret ?_
      exact W.iret (v := 0) hx hb hr (fun t ht9 hW => ⟨⟨_, rfl, (by rw [hcV_0 he]; exact cz.symm)⟩, by rw [ht9, if_pos he]; exact h1, hS1.F ht9⟩) hS1.2.2 dL_count_17
    · refine lv_iconst (v := 1) hx hb dL_count_12 (by decide) ?_
      refine lv_goto (tgt := 17) hx hb dL_count_13 (by decide) ?_
      refine vx_ret ?_
      exact W.iret (v := 1) hx hb hr (fun t ht9 hW => ⟨⟨_, rfl, (by rw [hcV_0 he, bI_n cz]; rfl)⟩, by rw [ht9, if_pos he]; exact h1, hS1.F ht9⟩) hS1.2.2 dL_count_17
  · rcases ek_count σ nm ns a0 b0 c0 d0 with hk | hk | hk | hk
    · exact absurd hk he
    · rw [hk] at hq
      subst hq
      refine vx_catch S.2.2.2.1 [] ⟨0, 17, 18, 16⟩ [⟨0, 17, 23, 19⟩, ⟨0, 17, 28, 29⟩] ht (fun z hz => by cases hz) (by decide) (by decide) (S.2.2.2.2 _ m_213) (hX.2.2.face n_227 fcx1) hce hcv hcl ?_
      refine lv_astore (lv' := [(5, .ref q), (0, .ref (ad 0)), (1, .int a0), (2, .int b0), (3, .int c0), (4, .int d0)]) hx hb dL_count_18 hl (by decide) rfl (fun ls hl => ?_)
      refine lv_ldc (v := (-1000001)) hx hb S.2.2.2.1 (S.2.2.2.2 _ m_294) dL_count_20 ?_
      refine vx_ret ?_
      exact W.iret (v := (-1000001)) hx hb hr (fun t ht9 hW => ⟨⟨_, rfl, (hcV_1 hk).symm⟩, by rw [ht9, if_neg he]; exact kp hX.1 f1, hS1.F ht9⟩) hS1.2.2 dL_count_22
    · rw [hk] at hq
      subst hq
      refine vx_catch S.2.2.2.1 [⟨0, 17, 18, 16⟩] ⟨0, 17, 23, 19⟩ [⟨0, 17, 28, 29⟩] ht (fun z hz => by
        rcases List.mem_cons.mp hz with rfl | hz
        · exact Or.inr ⟨by decide, _, S.2.2.2.2 _ m_213, hX.2.2.nc ncx21⟩
        cases hz) (by decide) (by decide) (S.2.2.2.2 _ m_438) (hX.2.2.face n_448 fcx2) hce hcv hcl ?_
      refine lv_astore (lv' := [(5, .ref q), (0, .ref (ad 0)), (1, .int a0), (2, .int b0), (3, .int c0), (4, .int d0)]) hx hb dL_count_23 hl (by decide) rfl (fun ls hl => ?_)
      refine lv_ldc (v := (-1000002)) hx hb S.2.2.2.1 (S.2.2.2.2 _ m_394) dL_count_25 ?_
      refine vx_ret ?_
      exact W.iret (v := (-1000002)) hx hb hr (fun t ht9 hW => ⟨⟨_, rfl, (hcV_2 hk).symm⟩, by rw [ht9, if_neg he]; exact kp hX.1 f1, hS1.F ht9⟩) hS1.2.2 dL_count_27
    · rw [hk] at hq
      subst hq
      refine vx_catch S.2.2.2.1 [⟨0, 17, 18, 16⟩, ⟨0, 17, 23, 19⟩] ⟨0, 17, 28, 29⟩ [] ht (fun z hz => by
        rcases List.mem_cons.mp hz with rfl | hz
        · exact Or.inr ⟨by decide, _, S.2.2.2.2 _ m_213, hX.2.2.nc ncx31⟩
        rcases List.mem_cons.mp hz with rfl | hz
        · exact Or.inr ⟨by decide, _, S.2.2.2.2 _ m_438, hX.2.2.nc ncx32⟩
        cases hz) (by decide) (by decide) (S.2.2.2.2 _ m_398) (hX.2.2.face n_405 fcx3) hce hcv hcl ?_
      refine lv_astore (lv' := [(5, .ref q), (0, .ref (ad 0)), (1, .int a0), (2, .int b0), (3, .int c0), (4, .int d0)]) hx hb dL_count_28 hl (by decide) rfl (fun ls hl => ?_)
      refine lv_ldc (v := (-1000003)) hx hb S.2.2.2.1 (S.2.2.2.2 _ m_427) dL_count_30 ?_
      refine vx_ret ?_
      exact W.iret (v := (-1000003)) hx hb hr (fun t ht9 hW => ⟨⟨_, rfl, (hcV_3 hk).symm⟩, by rw [ht9, if_neg he]; exact kp hX.1 f1, hS1.F ht9⟩) hS1.2.2 dL_count_32

theorem ek_close (σ : kS) (nm ns : Nat) (a0 : Int32) : eX_close σ a0 = 0 ∨ eX_close σ a0 = 1 ∨ eX_close σ a0 = 3 := by
  unfold eX_close
  (repeat' split) <;> decide
set_option maxHeartbeats 4000000 in
set_option maxRecDepth 100000 in
theorem kL_close (l : Launch) (G : kG) (ad : Nat → Nat) (σ : kS) (nm ns : Nat) (a0 : Int32) (hst : l.stackTraces = false) (hns : σ 18 0 = nI ns) (hns4 : ns ≤ 40) (hnm : σ 17 0 = nI nm) (hnm2 : nm ≤ 200)   (A1 : Nat → Prop) (hD : DD 20 A1 ad) : vx_Met l yL_close [.codeWith yL_close cL_close 3 (some .int) [(0, 5, 6, 16), (0, 5, 10, 29)]] ({ frames := 8, cells := 2, slots := 12, locals := 145 }) (va_Pc [.ref (ad 0), .int a0] (fun U => PX G ad σ U U.heap ∧ ZS U U.heap)) (oW A1 (fun r => r = hcV (eX_close σ a0) (clA σ (ixN a0) 5)) (fun H9 => va_P G.1 vwCl (wX G ad (if eX_close σ a0 = 0 then (su σ 9 (ixN a0) 1) else σ)) H9)) (fun _ _ _ => False) 2 12 A1 := by
  refine kh_of (by decide) (Nat.le_of_ble_eq_true rfl) (fun U h => h.1.2.2) ?_
  intro p e s m below meth c ls S hr hlocks ht hB hl
  have hx := S.1
  have hb := S.2.1
  obtain ⟨hX, hZ⟩ := hB
  have hl : lv_has ls 3 [(0, .ref (ad 0)), (1, .int a0)] := hl
  refine lv_aload_n hx hb dL_close_0 rfl (lv_at hl 0 rfl) ?_
  refine lv_iload_n hx hb dL_close_1 rfl (lv_at hl 1 rfl) ?_
  refine q_hw (rx_V S ⟨m_576, m_577, m_578, m_23, m_579⟩ ⟨rfl, by decide, by decide, by decide +kernel⟩ (c_close l G ad σ nm ns a0 hst hns hns4 hnm hnm2 A1 hD) ⟨rfl, rfl, Nat.le_of_ble_eq_true rfl, Nat.le_of_ble_eq_true rfl⟩ (pv_X hX 0 rfl rfl bl_PXZ (bXZ hX hZ)) (n := 1) (As := [.int a0]) (rest := []) rfl hl.1 rfl (Nat.le_of_ble_eq_true rfl) ⟨Nat.le_of_ble_eq_true rfl, Nat.le_of_ble_eq_true rfl⟩ dL_close_2) (va_S.rf (A := A1)) (fun q h => h) (fun r H1 L1 ⟨he, hv⟩ h1 f1 hS1 => ?_) (fun x q ce H1 L1 ⟨he, hq⟩ f1 hS1 hce hcv hcl => ?_)
  · subst hv
    refine vx_ret ?_
    exact W.iret (v := clA σ (ixN a0) 5) hx hb hr (fun t ht9 hW => ⟨⟨_, rfl, (hcV_0 he).symm⟩, by rw [ht9, if_pos he]; exact h1, hS1.F ht9⟩) hS1.2.2 dL_close_5
  · rcases ek_close σ nm ns a0 with hk | hk | hk
    · exact absurd hk he
    · rw [hk] at hq
      subst hq
      refine vx_catch S.2.2.2.1 [] ⟨0, 5, 6, 16⟩ [⟨0, 5, 10, 29⟩] ht (fun z hz => by cases hz) (by decide) (by decide) (S.2.2.2.2 _ m_213) (hX.2.2.face n_227 fcx1) hce hcv hcl ?_
      refine lv_astore_n (lv' := [(2, .ref q), (0, .ref (ad 0)), (1, .int a0)]) hx hb dL_close_6 rfl hl (by decide) rfl (fun ls hl => ?_)
      refine lv_ldc (v := (-1000001)) hx hb S.2.2.2.1 (S.2.2.2.2 _ m_294) dL_close_7 ?_
      refine vx_ret ?_
      exact W.iret (v := (-1000001)) hx hb hr (fun t ht9 hW => ⟨⟨_, rfl, (hcV_1 hk).symm⟩, by rw [ht9, if_neg he]; exact kp hX.1 f1, hS1.F ht9⟩) hS1.2.2 dL_close_9
    · rw [hk] at hq
      subst hq
      refine vx_catch S.2.2.2.1 [⟨0, 5, 6, 16⟩] ⟨0, 5, 10, 29⟩ [] ht (fun z hz => by
        rcases List.mem_cons.mp hz with rfl | hz
        · exact Or.inr ⟨by decide, _, S.2.2.2.2 _ m_213, hX.2.2.nc ncx31⟩
        cases hz) (by decide) (by decide) (S.2.2.2.2 _ m_398) (hX.2.2.face n_405 fcx3) hce hcv hcl ?_
      refine lv_astore_n (lv' := [(2, .ref q), (0, .ref (ad 0)), (1, .int a0)]) hx hb dL_close_10 rfl hl (by decide) rfl (fun ls hl => ?_)
      refine lv_ldc (v := (-1000003)) hx hb S.2.2.2.1 (S.2.2.2.2 _ m_427) dL_close_11 ?_
      refine vx_ret ?_
      exact W.iret (v := (-1000003)) hx hb hr (fun t ht9 hW => ⟨⟨_, rfl, (hcV_3 hk).symm⟩, by rw [ht9, if_neg he]; exact kp hX.1 f1, hS1.F ht9⟩) hS1.2.2 dL_close_13

theorem ek_sign (σ : kS) (nm ns : Nat) (a0 : Int32) (b0 : Int32) (c0 : Int32) : eX_sign σ nm ns a0 b0 c0 = 0 ∨ eX_sign σ nm ns a0 b0 c0 = 1 ∨ eX_sign σ nm ns a0 b0 c0 = 4 ∨ eX_sign σ nm ns a0 b0 c0 = 3 := by
  unfold eX_sign
  (repeat' split) <;> decide
set_option maxHeartbeats 4000000 in
set_option maxRecDepth 100000 in
theorem kL_sign (l : Launch) (G : kG) (ad : Nat → Nat) (σ : kS) (nm ns : Nat) (a0 b0 c0 : Int32) (hst : l.stackTraces = false) (hns : σ 18 0 = nI ns) (hns4 : ns ≤ 40) (hnm : σ 17 0 = nI nm) (hnm2 : nm ≤ 200)   (A1 : Nat → Prop) (hD : DD 20 A1 ad) : vx_Met l yL_sign [.codeWith yL_sign cL_sign 5 (some .int) [(0, 7, 8, 16), (0, 7, 13, 50), (0, 7, 18, 29)]] ({ frames := 8, cells := 5, slots := 30, locals := 191 }) (va_Pc [.ref (ad 0), .int a0, .int b0, .int c0] (fun U => PX G ad σ U U.heap ∧ ZS U U.heap)) (oW A1 (fun r => r = hcV (eX_sign σ nm ns a0 b0 c0) (gpV σ nm ns (ixN a0) (ixN b0))) (fun H9 => va_P G.1 vwCl (wX G ad (if eX_sign σ nm ns a0 b0 c0 = 0 then (wrS σ (lnN a0 b0) (gpV σ nm ns (ixN a0) (ixN b0))) else σ)) H9)) (fun _ _ _ => False) 5 30 A1 := by
  refine kh_of (by decide) (Nat.le_of_ble_eq_true rfl) (fun U h => h.1.2.2) ?_
  intro p e s m below meth c ls S hr hlocks ht hB hl
  have hx := S.1
  have hb := S.2.1
  obtain ⟨hX, hZ⟩ := hB
  have hl : lv_has ls 5 [(0, .ref (ad 0)), (1, .int a0), (2, .int b0), (3, .int c0)] := hl
  refine lv_aload_n hx hb dL_sign_0 rfl (lv_at hl 0 rfl) ?_
  refine lv_iload_n hx hb dL_sign_1 rfl (lv_at hl 1 rfl) ?_
  refine lv_iload_n hx hb dL_sign_2 rfl (lv_at hl 2 rfl) ?_
  refine lv_iload_n hx hb dL_sign_3 rfl (lv_at hl 3 rfl) ?_
  refine q_hw (rx_V S ⟨m_399, m_400, m_401, m_23, m_402⟩ ⟨rfl, by decide, by decide, by decide +kernel⟩ (c_sign l G ad σ nm ns a0 b0 c0 hst hns hns4 hnm hnm2 A1 hD) ⟨rfl, rfl, Nat.le_of_ble_eq_true rfl, Nat.le_of_ble_eq_true rfl⟩ (pv_X hX 0 rfl rfl bl_PXZ (bXZ hX hZ)) (n := 3) (As := [.int a0, .int b0, .int c0]) (rest := []) rfl hl.1 rfl (Nat.le_of_ble_eq_true rfl) ⟨Nat.le_of_ble_eq_true rfl, Nat.le_of_ble_eq_true rfl⟩ dL_sign_4) (va_S.rf (A := A1)) (fun q h => h) (fun r H1 L1 ⟨he, hv⟩ h1 f1 hS1 => ?_) (fun x q ce H1 L1 ⟨he, hq⟩ f1 hS1 hce hcv hcl => ?_)
  · subst hv
    refine vx_ret ?_
    exact W.iret (v := gpV σ nm ns (ixN a0) (ixN b0)) hx hb hr (fun t ht9 hW => ⟨⟨_, rfl, (hcV_0 he).symm⟩, by rw [ht9, if_pos he]; exact h1, hS1.F ht9⟩) hS1.2.2 dL_sign_7
  · rcases ek_sign σ nm ns a0 b0 c0 with hk | hk | hk | hk
    · exact absurd hk he
    · rw [hk] at hq
      subst hq
      refine vx_catch S.2.2.2.1 [] ⟨0, 7, 8, 16⟩ [⟨0, 7, 13, 50⟩, ⟨0, 7, 18, 29⟩] ht (fun z hz => by cases hz) (by decide) (by decide) (S.2.2.2.2 _ m_213) (hX.2.2.face n_227 fcx1) hce hcv hcl ?_
      refine lv_astore (lv' := [(4, .ref q), (0, .ref (ad 0)), (1, .int a0), (2, .int b0), (3, .int c0)]) hx hb dL_sign_8 hl (by decide) rfl (fun ls hl => ?_)
      refine lv_ldc (v := (-1000001)) hx hb S.2.2.2.1 (S.2.2.2.2 _ m_294) dL_sign_10 ?_
      refine vx_ret ?_
      exact W.iret (v := (-1000001)) hx hb hr (fun t ht9 hW => ⟨⟨_, rfl, (hcV_1 hk).symm⟩, by rw [ht9, if_neg he]; exact kp hX.1 f1, hS1.F ht9⟩) hS1.2.2 dL_sign_12
    · rw [hk] at hq
      subst hq
      refine vx_catch S.2.2.2.1 [⟨0, 7, 8, 16⟩] ⟨0, 7, 13, 50⟩ [⟨0, 7, 18, 29⟩] ht (fun z hz => by
        rcases List.mem_cons.mp hz with rfl | hz
        · exact Or.inr ⟨by decide, _, S.2.2.2.2 _ m_213, hX.2.2.nc ncx41⟩
        cases hz) (by decide) (by decide) (S.2.2.2.2 _ m_369) (hX.2.2.face n_380 fcx4) hce hcv hcl ?_
      refine lv_astore (lv' := [(4, .ref q), (0, .ref (ad 0)), (1, .int a0), (2, .int b0), (3, .int c0)]) hx hb dL_sign_13 hl (by decide) rfl (fun ls hl => ?_)
      refine lv_ldc (v := (-1000002)) hx hb S.2.2.2.1 (S.2.2.2.2 _ m_394) dL_sign_15 ?_
      refine vx_ret ?_
      exact W.iret (v := (-1000002)) hx hb hr (fun t ht9 hW => ⟨⟨_, rfl, (hcV_4 hk).symm⟩, by rw [ht9, if_neg he]; exact kp hX.1 f1, hS1.F ht9⟩) hS1.2.2 dL_sign_17
    · rw [hk] at hq
      subst hq
      refine vx_catch S.2.2.2.1 [⟨0, 7, 8, 16⟩, ⟨0, 7, 13, 50⟩] ⟨0, 7, 18, 29⟩ [] ht (fun z hz => by
        rcases List.mem_cons.mp hz with rfl | hz
        · exact Or.inr ⟨by decide, _, S.2.2.2.2 _ m_213, hX.2.2.nc ncx31⟩
        rcases List.mem_cons.mp hz with rfl | hz
        · exact Or.inr ⟨by decide, _, S.2.2.2.2 _ m_369, hX.2.2.nc ncx34⟩
        cases hz) (by decide) (by decide) (S.2.2.2.2 _ m_398) (hX.2.2.face n_405 fcx3) hce hcv hcl ?_
      refine lv_astore (lv' := [(4, .ref q), (0, .ref (ad 0)), (1, .int a0), (2, .int b0), (3, .int c0)]) hx hb dL_sign_18 hl (by decide) rfl (fun ls hl => ?_)
      refine lv_ldc (v := (-1000003)) hx hb S.2.2.2.1 (S.2.2.2.2 _ m_427) dL_sign_20 ?_
      refine vx_ret ?_
      exact W.iret (v := (-1000003)) hx hb hr (fun t ht9 hW => ⟨⟨_, rfl, (hcV_3 hk).symm⟩, by rw [ht9, if_neg he]; exact kp hX.1 f1, hS1.F ht9⟩) hS1.2.2 dL_sign_22

theorem ek_settle (σ : kS) (nm ns : Nat) (a0 : Int32) (b0 : Int32) (c0 : Int32) : eX_settle σ nm ns a0 b0 c0 = 0 ∨ eX_settle σ nm ns a0 b0 c0 = 1 ∨ eX_settle σ nm ns a0 b0 c0 = 4 ∨ eX_settle σ nm ns a0 b0 c0 = 3 := by
  unfold eX_settle
  (repeat' split) <;> decide
set_option maxHeartbeats 4000000 in
set_option maxRecDepth 100000 in
theorem kL_settle (l : Launch) (G : kG) (ad : Nat → Nat) (σ : kS) (nm ns : Nat) (a0 b0 c0 : Int32) (hst : l.stackTraces = false) (hns : σ 18 0 = nI ns) (hns4 : ns ≤ 40) (hnm : σ 17 0 = nI nm) (hnm2 : nm ≤ 200)   (A1 : Nat → Prop) (hD : DD 20 A1 ad) : vx_Met l yL_settle [.codeWith yL_settle cL_settle 5 (some .int) [(0, 7, 8, 16), (0, 7, 13, 50), (0, 7, 18, 29)]] ({ frames := 8, cells := 6, slots := 36, locals := 215 }) (va_Pc [.ref (ad 0), .int a0, .int b0, .int c0] (fun U => PX G ad σ U U.heap ∧ ZS U U.heap)) (oW A1 (fun r => r = hcV (eX_settle σ nm ns a0 b0 c0) (abV (gpV σ nm ns (ixN a0) (ixN c0)))) (fun H9 => va_P G.1 vwCl (wX G ad (if eX_settle σ nm ns a0 b0 c0 = 0 then (wrS (wrS σ (lnN a0 c0) (gpV σ nm ns (ixN a0) (ixN c0))) (lnN b0 c0) (-(gpV σ nm ns (ixN a0) (ixN c0)))) else σ)) H9)) (fun _ _ _ => False) 6 36 A1 := by
  refine kh_of (by decide) (Nat.le_of_ble_eq_true rfl) (fun U h => h.1.2.2) ?_
  intro p e s m below meth c ls S hr hlocks ht hB hl
  have hx := S.1
  have hb := S.2.1
  obtain ⟨hX, hZ⟩ := hB
  have hl : lv_has ls 5 [(0, .ref (ad 0)), (1, .int a0), (2, .int b0), (3, .int c0)] := hl
  refine lv_aload_n hx hb dL_settle_0 rfl (lv_at hl 0 rfl) ?_
  refine lv_iload_n hx hb dL_settle_1 rfl (lv_at hl 1 rfl) ?_
  refine lv_iload_n hx hb dL_settle_2 rfl (lv_at hl 2 rfl) ?_
  refine lv_iload_n hx hb dL_settle_3 rfl (lv_at hl 3 rfl) ?_
  refine q_hw (rx_V S ⟨m_595, m_596, m_597, m_23, m_598⟩ ⟨rfl, by decide, by decide, by decide +kernel⟩ (c_settle l G ad σ nm ns a0 b0 c0 hst hns hns4 hnm hnm2 A1 hD) ⟨rfl, rfl, Nat.le_of_ble_eq_true rfl, Nat.le_of_ble_eq_true rfl⟩ (pv_X hX 0 rfl rfl bl_PXZ (bXZ hX hZ)) (n := 3) (As := [.int a0, .int b0, .int c0]) (rest := []) rfl hl.1 rfl (Nat.le_of_ble_eq_true rfl) ⟨Nat.le_of_ble_eq_true rfl, Nat.le_of_ble_eq_true rfl⟩ dL_settle_4) (va_S.rf (A := A1)) (fun q h => h) (fun r H1 L1 ⟨he, hv⟩ h1 f1 hS1 => ?_) (fun x q ce H1 L1 ⟨he, hq⟩ f1 hS1 hce hcv hcl => ?_)
  · subst hv
    refine vx_ret ?_
    exact W.iret (v := abV (gpV σ nm ns (ixN a0) (ixN c0))) hx hb hr (fun t ht9 hW => ⟨⟨_, rfl, (hcV_0 he).symm⟩, by rw [ht9, if_pos he]; exact h1, hS1.F ht9⟩) hS1.2.2 dL_settle_7
  · rcases ek_settle σ nm ns a0 b0 c0 with hk | hk | hk | hk
    · exact absurd hk he
    · rw [hk] at hq
      subst hq
      refine vx_catch S.2.2.2.1 [] ⟨0, 7, 8, 16⟩ [⟨0, 7, 13, 50⟩, ⟨0, 7, 18, 29⟩] ht (fun z hz => by cases hz) (by decide) (by decide) (S.2.2.2.2 _ m_213) (hX.2.2.face n_227 fcx1) hce hcv hcl ?_
      refine lv_astore (lv' := [(4, .ref q), (0, .ref (ad 0)), (1, .int a0), (2, .int b0), (3, .int c0)]) hx hb dL_settle_8 hl (by decide) rfl (fun ls hl => ?_)
      refine lv_ldc (v := (-1000001)) hx hb S.2.2.2.1 (S.2.2.2.2 _ m_294) dL_settle_10 ?_
      refine vx_ret ?_
      exact W.iret (v := (-1000001)) hx hb hr (fun t ht9 hW => ⟨⟨_, rfl, (hcV_1 hk).symm⟩, by rw [ht9, if_neg he]; exact kp hX.1 f1, hS1.F ht9⟩) hS1.2.2 dL_settle_12
    · rw [hk] at hq
      subst hq
      refine vx_catch S.2.2.2.1 [⟨0, 7, 8, 16⟩] ⟨0, 7, 13, 50⟩ [⟨0, 7, 18, 29⟩] ht (fun z hz => by
        rcases List.mem_cons.mp hz with rfl | hz
        · exact Or.inr ⟨by decide, _, S.2.2.2.2 _ m_213, hX.2.2.nc ncx41⟩
        cases hz) (by decide) (by decide) (S.2.2.2.2 _ m_369) (hX.2.2.face n_380 fcx4) hce hcv hcl ?_
      refine lv_astore (lv' := [(4, .ref q), (0, .ref (ad 0)), (1, .int a0), (2, .int b0), (3, .int c0)]) hx hb dL_settle_13 hl (by decide) rfl (fun ls hl => ?_)
      refine lv_ldc (v := (-1000002)) hx hb S.2.2.2.1 (S.2.2.2.2 _ m_394) dL_settle_15 ?_
      refine vx_ret ?_
      exact W.iret (v := (-1000002)) hx hb hr (fun t ht9 hW => ⟨⟨_, rfl, (hcV_4 hk).symm⟩, by rw [ht9, if_neg he]; exact kp hX.1 f1, hS1.F ht9⟩) hS1.2.2 dL_settle_17
    · rw [hk] at hq
      subst hq
      refine vx_catch S.2.2.2.1 [⟨0, 7, 8, 16⟩, ⟨0, 7, 13, 50⟩] ⟨0, 7, 18, 29⟩ [] ht (fun z hz => by
        rcases List.mem_cons.mp hz with rfl | hz
        · exact Or.inr ⟨by decide, _, S.2.2.2.2 _ m_213, hX.2.2.nc ncx31⟩
        rcases List.mem_cons.mp hz with rfl | hz
        · exact Or.inr ⟨by decide, _, S.2.2.2.2 _ m_369, hX.2.2.nc ncx34⟩
        cases hz) (by decide) (by decide) (S.2.2.2.2 _ m_398) (hX.2.2.face n_405 fcx3) hce hcv hcl ?_
      refine lv_astore (lv' := [(4, .ref q), (0, .ref (ad 0)), (1, .int a0), (2, .int b0), (3, .int c0)]) hx hb dL_settle_18 hl (by decide) rfl (fun ls hl => ?_)
      refine lv_ldc (v := (-1000003)) hx hb S.2.2.2.1 (S.2.2.2.2 _ m_427) dL_settle_20 ?_
      refine vx_ret ?_
      exact W.iret (v := (-1000003)) hx hb hr (fun t ht9 hW => ⟨⟨_, rfl, (hcV_3 hk).symm⟩, by rw [ht9, if_neg he]; exact kp hX.1 f1, hS1.F ht9⟩) hS1.2.2 dL_settle_22

theorem ek_book (σ : kS) (nm ns : Nat) (a0 : Int32) (b0 : Int32) : eX_two a0 12 b0 5 = 0 ∨ eX_two a0 12 b0 5 = 1 := by
  unfold eX_two
  (repeat' split) <;> decide
set_option maxHeartbeats 4000000 in
set_option maxRecDepth 100000 in
theorem kL_book (l : Launch) (G : kG) (ad : Nat → Nat) (σ : kS) (nm ns : Nat) (a0 b0 : Int32) (hst : l.stackTraces = false) (hns : σ 18 0 = nI ns) (hns4 : ns ≤ 40) (hnm : σ 17 0 = nI nm) (hnm2 : nm ≤ 200)   : vx_Met l yL_book [.codeWith yL_book cL_book 4 (some .int) [(0, 6, 7, 16)]] ({ frames := 8, cells := 2, slots := 12, locals := 167 }) (va_Pc [.ref (ad 0), .int a0, .int b0] (fun U => PX G ad σ U U.heap ∧ ZS U U.heap)) (oW NF (fun r => r = hcV (eX_two a0 12 b0 5) (boV σ nm ns a0 (ixN b0) (σ 16 0))) (fun _ => True)) (fun _ _ _ => False) 2 12 NF := by
  refine kh_of (by decide) (Nat.le_of_ble_eq_true rfl) (fun U h => h.1.2.2) ?_
  intro p e s m below meth c ls S hr hlocks ht hB hl
  have hx := S.1
  have hb := S.2.1
  obtain ⟨hX, hZ⟩ := hB
  have hl : lv_has ls 4 [(0, .ref (ad 0)), (1, .int a0), (2, .int b0)] := hl
  refine lv_aload_n hx hb dL_book_0 rfl (lv_at hl 0 rfl) ?_
  refine lv_iload_n hx hb dL_book_1 rfl (lv_at hl 1 rfl) ?_
  refine lv_iload_n hx hb dL_book_2 rfl (lv_at hl 2 rfl) ?_
  refine q_hi (rx_V S ⟨m_309, m_310, m_311, m_23, m_312⟩ ⟨rfl, by decide, by decide, by decide +kernel⟩ (c_book l G ad σ nm ns a0 b0 hst hns hns4 hnm hnm2) ⟨rfl, rfl, Nat.le_of_ble_eq_true rfl, Nat.le_of_ble_eq_true rfl⟩ (pv_X hX 0 rfl rfl bl_PXZ (bXZ hX hZ)) (n := 2) (As := [.int a0, .int b0]) (rest := []) rfl hl.1 rfl (Nat.le_of_ble_eq_true rfl) ⟨Nat.le_of_ble_eq_true rfl, Nat.le_of_ble_eq_true rfl⟩ dL_book_3) (va_S.rf (A := NF)) (fun r H1 L1 ⟨he, hv⟩ h1 hS1 => ?_) (fun x q ce H1 L1 ⟨he, hq⟩ f1 hS1 hce hcv hcl => ?_)
  · subst hv
    refine vx_ret ?_
    exact W.iret (v := boV σ nm ns a0 (ixN b0) (σ 16 0)) hx hb hr (fun t ht9 hW => ⟨⟨_, rfl, (hcV_0 he).symm⟩, trivial, hS1.F ht9⟩) hS1.2.2 dL_book_6
  · rcases ek_book σ nm ns a0 b0 with hk | hk
    · exact absurd hk he
    · rw [hk] at hq
      subst hq
      refine vx_catch S.2.2.2.1 [] ⟨0, 6, 7, 16⟩ [] ht (fun z hz => by cases hz) (by decide) (by decide) (S.2.2.2.2 _ m_213) (hX.2.2.face n_227 fcx1) hce hcv hcl ?_
      refine lv_astore_n (lv' := [(3, .ref q), (0, .ref (ad 0)), (1, .int a0), (2, .int b0)]) hx hb dL_book_7 rfl hl (by decide) rfl (fun ls hl => ?_)
      refine lv_ldc (v := (-1000001)) hx hb S.2.2.2.1 (S.2.2.2.2 _ m_294) dL_book_8 ?_
      refine vx_ret ?_
      exact W.iret (v := (-1000001)) hx hb hr (fun t ht9 hW => ⟨⟨_, rfl, (hcV_1 hk).symm⟩, trivial, hS1.F ht9⟩) hS1.2.2 dL_book_10

theorem ek_bookAt (σ : kS) (nm ns : Nat) (a0 : Int32) (b0 : Int32) (c0 : Int32) : eX_bookAt σ a0 b0 c0 = 0 ∨ eX_bookAt σ a0 b0 c0 = 1 ∨ eX_bookAt σ a0 b0 c0 = 2 := by
  unfold eX_bookAt
  (repeat' split) <;> decide
set_option maxHeartbeats 4000000 in
set_option maxRecDepth 100000 in
theorem kL_bookAt (l : Launch) (G : kG) (ad : Nat → Nat) (σ : kS) (nm ns : Nat) (a0 b0 c0 : Int32) (hst : l.stackTraces = false) (hns : σ 18 0 = nI ns) (hns4 : ns ≤ 40) (hnm : σ 17 0 = nI nm) (hnm2 : nm ≤ 200)   : vx_Met l yL_bookAt [.codeWith yL_bookAt cL_bookAt 5 (some .int) [(0, 7, 8, 16), (0, 7, 13, 19)]] ({ frames := 8, cells := 3, slots := 18, locals := 168 }) (va_Pc [.ref (ad 0), .int a0, .int b0, .int c0] (fun U => PX G ad σ U U.heap ∧ ZS U U.heap)) (oW NF (fun r => r = hcV (eX_bookAt σ a0 b0 c0) (boV σ nm ns a0 (ixN b0) c0)) (fun _ => True)) (fun _ _ _ => False) 3 18 NF := by
  refine kh_of (by decide) (Nat.le_of_ble_eq_true rfl) (fun U h => h.1.2.2) ?_
  intro p e s m below meth c ls S hr hlocks ht hB hl
  have hx := S.1
  have hb := S.2.1
  obtain ⟨hX, hZ⟩ := hB
  have hl : lv_has ls 5 [(0, .ref (ad 0)), (1, .int a0), (2, .int b0), (3, .int c0)] := hl
  refine lv_aload_n hx hb dL_bookAt_0 rfl (lv_at hl 0 rfl) ?_
  refine lv_iload_n hx hb dL_bookAt_1 rfl (lv_at hl 1 rfl) ?_
  refine lv_iload_n hx hb dL_bookAt_2 rfl (lv_at hl 2 rfl) ?_
  refine lv_iload_n hx hb dL_bookAt_3 rfl (lv_at hl 3 rfl) ?_
  refine q_hi (rx_V S ⟨m_439, m_440, m_441, m_23, m_442⟩ ⟨rfl, by decide, by decide, by decide +kernel⟩ (c_bookAt l G ad σ nm ns a0 b0 c0 hst hns hns4 hnm hnm2) ⟨rfl, rfl, Nat.le_of_ble_eq_true rfl, Nat.le_of_ble_eq_true rfl⟩ (pv_X hX 0 rfl rfl bl_PXZ (bXZ hX hZ)) (n := 3) (As := [.int a0, .int b0, .int c0]) (rest := []) rfl hl.1 rfl (Nat.le_of_ble_eq_true rfl) ⟨Nat.le_of_ble_eq_true rfl, Nat.le_of_ble_eq_true rfl⟩ dL_bookAt_4) (va_S.rf (A := NF)) (fun r H1 L1 ⟨he, hv⟩ h1 hS1 => ?_) (fun x q ce H1 L1 ⟨he, hq⟩ f1 hS1 hce hcv hcl => ?_)
  · subst hv
    refine vx_ret ?_
    exact W.iret (v := boV σ nm ns a0 (ixN b0) c0) hx hb hr (fun t ht9 hW => ⟨⟨_, rfl, (hcV_0 he).symm⟩, trivial, hS1.F ht9⟩) hS1.2.2 dL_bookAt_7
  · rcases ek_bookAt σ nm ns a0 b0 c0 with hk | hk | hk
    · exact absurd hk he
    · rw [hk] at hq
      subst hq
      refine vx_catch S.2.2.2.1 [] ⟨0, 7, 8, 16⟩ [⟨0, 7, 13, 19⟩] ht (fun z hz => by cases hz) (by decide) (by decide) (S.2.2.2.2 _ m_213) (hX.2.2.face n_227 fcx1) hce hcv hcl ?_
      refine lv_astore (lv' := [(4, .ref q), (0, .ref (ad 0)), (1, .int a0), (2, .int b0), (3, .int c0)]) hx hb dL_bookAt_8 hl (by decide) rfl (fun ls hl => ?_)
      refine lv_ldc (v := (-1000001)) hx hb S.2.2.2.1 (S.2.2.2.2 _ m_294) dL_bookAt_10 ?_
      refine vx_ret ?_
      exact W.iret (v := (-1000001)) hx hb hr (fun t ht9 hW => ⟨⟨_, rfl, (hcV_1 hk).symm⟩, trivial, hS1.F ht9⟩) hS1.2.2 dL_bookAt_12
    · rw [hk] at hq
      subst hq
      refine vx_catch S.2.2.2.1 [⟨0, 7, 8, 16⟩] ⟨0, 7, 13, 19⟩ [] ht (fun z hz => by
        rcases List.mem_cons.mp hz with rfl | hz
        · exact Or.inr ⟨by decide, _, S.2.2.2.2 _ m_213, hX.2.2.nc ncx21⟩
        cases hz) (by decide) (by decide) (S.2.2.2.2 _ m_438) (hX.2.2.face n_448 fcx2) hce hcv hcl ?_
      refine lv_astore (lv' := [(4, .ref q), (0, .ref (ad 0)), (1, .int a0), (2, .int b0), (3, .int c0)]) hx hb dL_bookAt_13 hl (by decide) rfl (fun ls hl => ?_)
      refine lv_ldc (v := (-1000002)) hx hb S.2.2.2.1 (S.2.2.2.2 _ m_394) dL_bookAt_15 ?_
      refine vx_ret ?_
      exact W.iret (v := (-1000002)) hx hb hr (fun t ht9 hW => ⟨⟨_, rfl, (hcV_2 hk).symm⟩, trivial, hS1.F ht9⟩) hS1.2.2 dL_bookAt_17

theorem ek_worth (σ : kS) (nm ns : Nat) (a0 : Int32) : eX_one a0 12 = 0 ∨ eX_one a0 12 = 1 := by
  unfold eX_one
  (repeat' split) <;> decide
set_option maxHeartbeats 4000000 in
set_option maxRecDepth 100000 in
theorem kL_worth (l : Launch) (G : kG) (ad : Nat → Nat) (σ : kS) (nm ns : Nat) (a0 : Int32) (hst : l.stackTraces = false) (hns : σ 18 0 = nI ns) (hns4 : ns ≤ 40) (hnm : σ 17 0 = nI nm) (hnm2 : nm ≤ 200)   : vx_Met l yL_worth [.codeWith yL_worth cL_worth 3 (some .int) [(0, 5, 6, 16)]] ({ frames := 8, cells := 1, slots := 6, locals := 189 }) (va_Pc [.ref (ad 0), .int a0] (fun U => PX G ad σ U U.heap ∧ ZS U U.heap)) (oW NF (fun r => r = hcV (eX_one a0 12) (woF σ nm ns a0 5)) (fun _ => True)) (fun _ _ _ => False) 1 6 NF := by
  refine kh_of (by decide) (Nat.le_of_ble_eq_true rfl) (fun U h => h.1.2.2) ?_
  intro p e s m below meth c ls S hr hlocks ht hB hl
  have hx := S.1
  have hb := S.2.1
  obtain ⟨hX, hZ⟩ := hB
  have hl : lv_has ls 3 [(0, .ref (ad 0)), (1, .int a0)] := hl
  refine lv_aload_n hx hb dL_worth_0 rfl (lv_at hl 0 rfl) ?_
  refine lv_iload_n hx hb dL_worth_1 rfl (lv_at hl 1 rfl) ?_
  refine q_hi (rx_V S ⟨m_476, m_477, m_478, m_23, m_479⟩ ⟨rfl, by decide, by decide, by decide +kernel⟩ (c_worth l G ad σ nm ns a0 hst hns hns4 hnm hnm2) ⟨rfl, rfl, Nat.le_of_ble_eq_true rfl, Nat.le_of_ble_eq_true rfl⟩ (pv_X hX 0 rfl rfl bl_PXZ (bXZ hX hZ)) (n := 1) (As := [.int a0]) (rest := []) rfl hl.1 rfl (Nat.le_of_ble_eq_true rfl) ⟨Nat.le_of_ble_eq_true rfl, Nat.le_of_ble_eq_true rfl⟩ dL_worth_2) (va_S.rf (A := NF)) (fun r H1 L1 ⟨he, hv⟩ h1 hS1 => ?_) (fun x q ce H1 L1 ⟨he, hq⟩ f1 hS1 hce hcv hcl => ?_)
  · subst hv
    refine vx_ret ?_
    exact W.iret (v := woF σ nm ns a0 5) hx hb hr (fun t ht9 hW => ⟨⟨_, rfl, (hcV_0 he).symm⟩, trivial, hS1.F ht9⟩) hS1.2.2 dL_worth_5
  · rcases ek_worth σ nm ns a0 with hk | hk
    · exact absurd hk he
    · rw [hk] at hq
      subst hq
      refine vx_catch S.2.2.2.1 [] ⟨0, 5, 6, 16⟩ [] ht (fun z hz => by cases hz) (by decide) (by decide) (S.2.2.2.2 _ m_213) (hX.2.2.face n_227 fcx1) hce hcv hcl ?_
      refine lv_astore_n (lv' := [(2, .ref q), (0, .ref (ad 0)), (1, .int a0)]) hx hb dL_worth_6 rfl hl (by decide) rfl (fun ls hl => ?_)
      refine lv_ldc (v := (-1000001)) hx hb S.2.2.2.1 (S.2.2.2.2 _ m_294) dL_worth_7 ?_
      refine vx_ret ?_
      exact W.iret (v := (-1000001)) hx hb hr (fun t ht9 hW => ⟨⟨_, rfl, (hcV_1 hk).symm⟩, trivial, hS1.F ht9⟩) hS1.2.2 dL_worth_9

theorem ek_stateOf (σ : kS) (nm ns : Nat) (a0 : Int32) : eX_one a0 (σ 18 0) = 0 ∨ eX_one a0 (σ 18 0) = 1 := by
  unfold eX_one
  (repeat' split) <;> decide
set_option maxHeartbeats 4000000 in
set_option maxRecDepth 100000 in
theorem kL_stateOf (l : Launch) (G : kG) (ad : Nat → Nat) (σ : kS) (nm ns : Nat) (a0 : Int32) (hst : l.stackTraces = false) (hns : σ 18 0 = nI ns) (hns4 : ns ≤ 40) (hnm : σ 17 0 = nI nm) (hnm2 : nm ≤ 200)   : vx_Met l yL_stateOf [.codeWith yL_stateOf cL_stateOf 3 (some .int) [(0, 5, 6, 16)]] ({ frames := 8, cells := 1, slots := 6, locals := 145 }) (va_Pc [.ref (ad 0), .int a0] (fun U => PX G ad σ U U.heap ∧ ZS U U.heap)) (oW NF (fun r => r = hcV (eX_one a0 (σ 18 0)) ((if σ 9 (ixN a0) = 0 then 0 else 1))) (fun _ => True)) (fun _ _ _ => False) 1 6 NF := by
  refine kh_of (by decide) (Nat.le_of_ble_eq_true rfl) (fun U h => h.1.2.2) ?_
  intro p e s m below meth c ls S hr hlocks ht hB hl
  have hx := S.1
  have hb := S.2.1
  obtain ⟨hX, hZ⟩ := hB
  have hl : lv_has ls 3 [(0, .ref (ad 0)), (1, .int a0)] := hl
  refine lv_aload_n hx hb dL_stateOf_0 rfl (lv_at hl 0 rfl) ?_
  refine lv_iload_n hx hb dL_stateOf_1 rfl (lv_at hl 1 rfl) ?_
  refine q_hi (rx_V S ⟨m_465, m_466, m_467, m_23, m_468⟩ ⟨rfl, by decide, by decide, by decide +kernel⟩ (c_stateOf l G ad σ nm ns a0 hst hns hns4 hnm hnm2) ⟨rfl, rfl, Nat.le_of_ble_eq_true rfl, Nat.le_of_ble_eq_true rfl⟩ (pv_X hX 0 rfl rfl bl_PXZ (bXZ hX hZ)) (n := 1) (As := [.int a0]) (rest := []) rfl hl.1 rfl (Nat.le_of_ble_eq_true rfl) ⟨Nat.le_of_ble_eq_true rfl, Nat.le_of_ble_eq_true rfl⟩ dL_stateOf_2) (va_S.rf (A := NF)) (fun r H1 L1 ⟨he, hv⟩ h1 hS1 => ?_) (fun x q ce H1 L1 ⟨he, hq⟩ f1 hS1 hce hcv hcl => ?_)
  · subst hv
    refine vx_ret ?_
    exact W.iret (v := (if σ 9 (ixN a0) = 0 then 0 else 1)) hx hb hr (fun t ht9 hW => ⟨⟨_, rfl, (hcV_0 he).symm⟩, trivial, hS1.F ht9⟩) hS1.2.2 dL_stateOf_5
  · rcases ek_stateOf σ nm ns a0 with hk | hk
    · exact absurd hk he
    · rw [hk] at hq
      subst hq
      refine vx_catch S.2.2.2.1 [] ⟨0, 5, 6, 16⟩ [] ht (fun z hz => by cases hz) (by decide) (by decide) (S.2.2.2.2 _ m_213) (hX.2.2.face n_227 fcx1) hce hcv hcl ?_
      refine lv_astore_n (lv' := [(2, .ref q), (0, .ref (ad 0)), (1, .int a0)]) hx hb dL_stateOf_6 rfl hl (by decide) rfl (fun ls hl => ?_)
      refine lv_ldc (v := (-1000001)) hx hb S.2.2.2.1 (S.2.2.2.2 _ m_294) dL_stateOf_7 ?_
      refine vx_ret ?_
      exact W.iret (v := (-1000001)) hx hb hr (fun t ht9 hW => ⟨⟨_, rfl, (hcV_1 hk).symm⟩, trivial, hS1.F ht9⟩) hS1.2.2 dL_stateOf_9

theorem ek_cutOf (σ : kS) (nm ns : Nat) (a0 : Int32) : eX_one a0 (σ 18 0) = 0 ∨ eX_one a0 (σ 18 0) = 1 := by
  unfold eX_one
  (repeat' split) <;> decide
set_option maxHeartbeats 4000000 in
set_option maxRecDepth 100000 in
theorem kL_cutOf (l : Launch) (G : kG) (ad : Nat → Nat) (σ : kS) (nm ns : Nat) (a0 : Int32) (hst : l.stackTraces = false) (hns : σ 18 0 = nI ns) (hns4 : ns ≤ 40) (hnm : σ 17 0 = nI nm) (hnm2 : nm ≤ 200)   : vx_Met l yL_cutOf [.codeWith yL_cutOf cL_cutOf 3 (some .int) [(0, 5, 6, 16)]] ({ frames := 8, cells := 1, slots := 6, locals := 145 }) (va_Pc [.ref (ad 0), .int a0] (fun U => PX G ad σ U U.heap ∧ ZS U U.heap)) (oW NF (fun r => r = hcV (eX_one a0 (σ 18 0)) (σ 8 (ixN a0))) (fun _ => True)) (fun _ _ _ => False) 1 6 NF := by
  refine kh_of (by decide) (Nat.le_of_ble_eq_true rfl) (fun U h => h.1.2.2) ?_
  intro p e s m below meth c ls S hr hlocks ht hB hl
  have hx := S.1
  have hb := S.2.1
  obtain ⟨hX, hZ⟩ := hB
  have hl : lv_has ls 3 [(0, .ref (ad 0)), (1, .int a0)] := hl
  refine lv_aload_n hx hb dL_cutOf_0 rfl (lv_at hl 0 rfl) ?_
  refine lv_iload_n hx hb dL_cutOf_1 rfl (lv_at hl 1 rfl) ?_
  refine q_hi (rx_V S ⟨m_431, m_432, m_433, m_23, m_434⟩ ⟨rfl, by decide, by decide, by decide +kernel⟩ (c_cutOf l G ad σ nm ns a0 hst hns hns4 hnm hnm2) ⟨rfl, rfl, Nat.le_of_ble_eq_true rfl, Nat.le_of_ble_eq_true rfl⟩ (pv_X hX 0 rfl rfl bl_PXZ (bXZ hX hZ)) (n := 1) (As := [.int a0]) (rest := []) rfl hl.1 rfl (Nat.le_of_ble_eq_true rfl) ⟨Nat.le_of_ble_eq_true rfl, Nat.le_of_ble_eq_true rfl⟩ dL_cutOf_2) (va_S.rf (A := NF)) (fun r H1 L1 ⟨he, hv⟩ h1 hS1 => ?_) (fun x q ce H1 L1 ⟨he, hq⟩ f1 hS1 hce hcv hcl => ?_)
  · subst hv
    refine vx_ret ?_
    exact W.iret (v := σ 8 (ixN a0)) hx hb hr (fun t ht9 hW => ⟨⟨_, rfl, (hcV_0 he).symm⟩, trivial, hS1.F ht9⟩) hS1.2.2 dL_cutOf_5
  · rcases ek_cutOf σ nm ns a0 with hk | hk
    · exact absurd hk he
    · rw [hk] at hq
      subst hq
      refine vx_catch S.2.2.2.1 [] ⟨0, 5, 6, 16⟩ [] ht (fun z hz => by cases hz) (by decide) (by decide) (S.2.2.2.2 _ m_213) (hX.2.2.face n_227 fcx1) hce hcv hcl ?_
      refine lv_astore_n (lv' := [(2, .ref q), (0, .ref (ad 0)), (1, .int a0)]) hx hb dL_cutOf_6 rfl hl (by decide) rfl (fun ls hl => ?_)
      refine lv_ldc (v := (-1000001)) hx hb S.2.2.2.1 (S.2.2.2.2 _ m_294) dL_cutOf_7 ?_
      refine vx_ret ?_
      exact W.iret (v := (-1000001)) hx hb hr (fun t ht9 hW => ⟨⟨_, rfl, (hcV_1 hk).symm⟩, trivial, hS1.F ht9⟩) hS1.2.2 dL_cutOf_9

theorem ek_counts (σ : kS) (nm ns : Nat) (a0 : Int32) (b0 : Int32) : eX_two a0 (σ 18 0) b0 5 = 0 ∨ eX_two a0 (σ 18 0) b0 5 = 1 := by
  unfold eX_two
  (repeat' split) <;> decide
set_option maxHeartbeats 4000000 in
set_option maxRecDepth 100000 in
theorem kL_counts (l : Launch) (G : kG) (ad : Nat → Nat) (σ : kS) (nm ns : Nat) (a0 b0 : Int32) (hst : l.stackTraces = false) (hns : σ 18 0 = nI ns) (hns4 : ns ≤ 40) (hnm : σ 17 0 = nI nm) (hnm2 : nm ≤ 200)   : vx_Met l yL_counts [.codeWith yL_counts cL_counts 4 (some .int) [(0, 6, 7, 16)]] ({ frames := 9, cells := 2, slots := 12, locals := 168 }) (va_Pc [.ref (ad 0), .int a0, .int b0] (fun U => PX G ad σ U U.heap ∧ ZS U U.heap)) (oW NF (fun r => r = hcV (eX_two a0 (σ 18 0) b0 5) (bc (σ 10 (lnN a0 b0)))) (fun _ => True)) (fun _ _ _ => False) 2 12 NF := by
  refine kh_of (by decide) (Nat.le_of_ble_eq_true rfl) (fun U h => h.1.2.2) ?_
  intro p e s m below meth c ls S hr hlocks ht hB hl
  have hx := S.1
  have hb := S.2.1
  obtain ⟨hX, hZ⟩ := hB
  have hl : lv_has ls 4 [(0, .ref (ad 0)), (1, .int a0), (2, .int b0)] := hl
  refine lv_aload_n hx hb dL_counts_0 rfl (lv_at hl 0 rfl) ?_
  refine lv_iload_n hx hb dL_counts_1 rfl (lv_at hl 1 rfl) ?_
  refine lv_iload_n hx hb dL_counts_2 rfl (lv_at hl 2 rfl) ?_
  refine q_hi (rx_V S ⟨m_322, m_323, m_324, m_23, m_325⟩ ⟨rfl, by decide, by decide, by decide +kernel⟩ (c_counts l G ad σ nm ns a0 b0 hst hns hns4 hnm hnm2) ⟨rfl, rfl, Nat.le_of_ble_eq_true rfl, Nat.le_of_ble_eq_true rfl⟩ (pv_X hX 0 rfl rfl bl_PXZ (bXZ hX hZ)) (n := 2) (As := [.int a0, .int b0]) (rest := []) rfl hl.1 rfl (Nat.le_of_ble_eq_true rfl) ⟨Nat.le_of_ble_eq_true rfl, Nat.le_of_ble_eq_true rfl⟩ dL_counts_3) (va_S.rf (A := NF)) (fun r H1 L1 ⟨he, hv⟩ h1 hS1 => ?_) (fun x q ce H1 L1 ⟨he, hq⟩ f1 hS1 hce hcv hcl => ?_)
  · subst hv
    refine vx_ret ?_
    exact W.iret (v := bc (σ 10 (lnN a0 b0))) hx hb hr (fun t ht9 hW => ⟨⟨_, rfl, (hcV_0 he).symm⟩, trivial, hS1.F ht9⟩) hS1.2.2 dL_counts_6
  · rcases ek_counts σ nm ns a0 b0 with hk | hk
    · exact absurd hk he
    · rw [hk] at hq
      subst hq
      refine vx_catch S.2.2.2.1 [] ⟨0, 6, 7, 16⟩ [] ht (fun z hz => by cases hz) (by decide) (by decide) (S.2.2.2.2 _ m_213) (hX.2.2.face n_227 fcx1) hce hcv hcl ?_
      refine lv_astore_n (lv' := [(3, .ref q), (0, .ref (ad 0)), (1, .int a0), (2, .int b0)]) hx hb dL_counts_7 rfl hl (by decide) rfl (fun ls hl => ?_)
      refine lv_ldc (v := (-1000001)) hx hb S.2.2.2.1 (S.2.2.2.2 _ m_294) dL_counts_8 ?_
      refine vx_ret ?_
      exact W.iret (v := (-1000001)) hx hb hr (fun t ht9 hW => ⟨⟨_, rfl, (hcV_1 hk).symm⟩, trivial, hS1.F ht9⟩) hS1.2.2 dL_counts_10

theorem ek_agreed (σ : kS) (nm ns : Nat) (a0 : Int32) (b0 : Int32) : eX_two a0 (σ 18 0) b0 5 = 0 ∨ eX_two a0 (σ 18 0) b0 5 = 1 := by
  unfold eX_two
  (repeat' split) <;> decide
set_option maxHeartbeats 4000000 in
set_option maxRecDepth 100000 in
theorem kL_agreed (l : Launch) (G : kG) (ad : Nat → Nat) (σ : kS) (nm ns : Nat) (a0 b0 : Int32) (hst : l.stackTraces = false) (hns : σ 18 0 = nI ns) (hns4 : ns ≤ 40) (hnm : σ 17 0 = nI nm) (hnm2 : nm ≤ 200)   : vx_Met l yL_agreed [.codeWith yL_agreed cL_agreed 4 (some .int) [(0, 6, 7, 16)]] ({ frames := 9, cells := 2, slots := 12, locals := 168 }) (va_Pc [.ref (ad 0), .int a0, .int b0] (fun U => PX G ad σ U U.heap ∧ ZS U U.heap)) (oW NF (fun r => r = hcV (eX_two a0 (σ 18 0) b0 5) (σ 13 (lnN a0 b0))) (fun _ => True)) (fun _ _ _ => False) 2 12 NF := by
  refine kh_of (by decide) (Nat.le_of_ble_eq_true rfl) (fun U h => h.1.2.2) ?_
  intro p e s m below meth c ls S hr hlocks ht hB hl
  have hx := S.1
  have hb := S.2.1
  obtain ⟨hX, hZ⟩ := hB
  have hl : lv_has ls 4 [(0, .ref (ad 0)), (1, .int a0), (2, .int b0)] := hl
  refine lv_aload_n hx hb dL_agreed_0 rfl (lv_at hl 0 rfl) ?_
  refine lv_iload_n hx hb dL_agreed_1 rfl (lv_at hl 1 rfl) ?_
  refine lv_iload_n hx hb dL_agreed_2 rfl (lv_at hl 2 rfl) ?_
  refine q_hi (rx_V S ⟨m_214, m_215, m_216, m_23, m_217⟩ ⟨rfl, by decide, by decide, by decide +kernel⟩ (c_agreed l G ad σ nm ns a0 b0 hst hns hns4 hnm hnm2) ⟨rfl, rfl, Nat.le_of_ble_eq_true rfl, Nat.le_of_ble_eq_true rfl⟩ (pv_X hX 0 rfl rfl bl_PXZ (bXZ hX hZ)) (n := 2) (As := [.int a0, .int b0]) (rest := []) rfl hl.1 rfl (Nat.le_of_ble_eq_true rfl) ⟨Nat.le_of_ble_eq_true rfl, Nat.le_of_ble_eq_true rfl⟩ dL_agreed_3) (va_S.rf (A := NF)) (fun r H1 L1 ⟨he, hv⟩ h1 hS1 => ?_) (fun x q ce H1 L1 ⟨he, hq⟩ f1 hS1 hce hcv hcl => ?_)
  · subst hv
    refine vx_ret ?_
    exact W.iret (v := σ 13 (lnN a0 b0)) hx hb hr (fun t ht9 hW => ⟨⟨_, rfl, (hcV_0 he).symm⟩, trivial, hS1.F ht9⟩) hS1.2.2 dL_agreed_6
  · rcases ek_agreed σ nm ns a0 b0 with hk | hk
    · exact absurd hk he
    · rw [hk] at hq
      subst hq
      refine vx_catch S.2.2.2.1 [] ⟨0, 6, 7, 16⟩ [] ht (fun z hz => by cases hz) (by decide) (by decide) (S.2.2.2.2 _ m_213) (hX.2.2.face n_227 fcx1) hce hcv hcl ?_
      refine lv_astore_n (lv' := [(3, .ref q), (0, .ref (ad 0)), (1, .int a0), (2, .int b0)]) hx hb dL_agreed_7 rfl hl (by decide) rfl (fun ls hl => ?_)
      refine lv_ldc (v := (-1000001)) hx hb S.2.2.2.1 (S.2.2.2.2 _ m_294) dL_agreed_8 ?_
      refine vx_ret ?_
      exact W.iret (v := (-1000001)) hx hb hr (fun t ht9 hW => ⟨⟨_, rfl, (hcV_1 hk).symm⟩, trivial, hS1.F ht9⟩) hS1.2.2 dL_agreed_10

theorem ek_gap (σ : kS) (nm ns : Nat) (a0 : Int32) (b0 : Int32) : eX_gap σ a0 b0 = 0 ∨ eX_gap σ a0 b0 = 1 ∨ eX_gap σ a0 b0 = 4 := by
  unfold eX_gap
  (repeat' split) <;> decide
set_option maxHeartbeats 4000000 in
set_option maxRecDepth 100000 in
theorem kL_gap (l : Launch) (G : kG) (ad : Nat → Nat) (σ : kS) (nm ns : Nat) (a0 b0 : Int32) (hst : l.stackTraces = false) (hns : σ 18 0 = nI ns) (hns4 : ns ≤ 40) (hnm : σ 17 0 = nI nm) (hnm2 : nm ≤ 200)   : vx_Met l yL_gap [.codeWith yL_gap cL_gap 4 (some .int) [(0, 6, 7, 16), (0, 6, 11, 50)]] ({ frames := 9, cells := 3, slots := 18, locals := 190 }) (va_Pc [.ref (ad 0), .int a0, .int b0] (fun U => PX G ad σ U U.heap ∧ ZS U U.heap)) (oW NF (fun r => r = hcV (eX_gap σ a0 b0) (gpV σ nm ns (ixN a0) (ixN b0))) (fun _ => True)) (fun _ _ _ => False) 3 18 NF := by
  refine kh_of (by decide) (Nat.le_of_ble_eq_true rfl) (fun U h => h.1.2.2) ?_
  intro p e s m below meth c ls S hr hlocks ht hB hl
  have hx := S.1
  have hb := S.2.1
  obtain ⟨hX, hZ⟩ := hB
  have hl : lv_has ls 4 [(0, .ref (ad 0)), (1, .int a0), (2, .int b0)] := hl
  refine lv_aload_n hx hb dL_gap_0 rfl (lv_at hl 0 rfl) ?_
  refine lv_iload_n hx hb dL_gap_1 rfl (lv_at hl 1 rfl) ?_
  refine lv_iload_n hx hb dL_gap_2 rfl (lv_at hl 2 rfl) ?_
  refine q_hi (rx_V S ⟨m_370, m_371, m_372, m_23, m_373⟩ ⟨rfl, by decide, by decide, by decide +kernel⟩ (c_gap l G ad σ nm ns a0 b0 hst hns hns4 hnm hnm2) ⟨rfl, rfl, Nat.le_of_ble_eq_true rfl, Nat.le_of_ble_eq_true rfl⟩ (pv_X hX 0 rfl rfl bl_PXZ (bXZ hX hZ)) (n := 2) (As := [.int a0, .int b0]) (rest := []) rfl hl.1 rfl (Nat.le_of_ble_eq_true rfl) ⟨Nat.le_of_ble_eq_true rfl, Nat.le_of_ble_eq_true rfl⟩ dL_gap_3) (va_S.rf (A := NF)) (fun r H1 L1 ⟨he, hv⟩ h1 hS1 => ?_) (fun x q ce H1 L1 ⟨he, hq⟩ f1 hS1 hce hcv hcl => ?_)
  · subst hv
    refine vx_ret ?_
    exact W.iret (v := gpV σ nm ns (ixN a0) (ixN b0)) hx hb hr (fun t ht9 hW => ⟨⟨_, rfl, (hcV_0 he).symm⟩, trivial, hS1.F ht9⟩) hS1.2.2 dL_gap_6
  · rcases ek_gap σ nm ns a0 b0 with hk | hk | hk
    · exact absurd hk he
    · rw [hk] at hq
      subst hq
      refine vx_catch S.2.2.2.1 [] ⟨0, 6, 7, 16⟩ [⟨0, 6, 11, 50⟩] ht (fun z hz => by cases hz) (by decide) (by decide) (S.2.2.2.2 _ m_213) (hX.2.2.face n_227 fcx1) hce hcv hcl ?_
      refine lv_astore_n (lv' := [(3, .ref q), (0, .ref (ad 0)), (1, .int a0), (2, .int b0)]) hx hb dL_gap_7 rfl hl (by decide) rfl (fun ls hl => ?_)
      refine lv_ldc (v := (-1000001)) hx hb S.2.2.2.1 (S.2.2.2.2 _ m_294) dL_gap_8 ?_
      refine vx_ret ?_
      exact W.iret (v := (-1000001)) hx hb hr (fun t ht9 hW => ⟨⟨_, rfl, (hcV_1 hk).symm⟩, trivial, hS1.F ht9⟩) hS1.2.2 dL_gap_10
    · rw [hk] at hq
      subst hq
      refine vx_catch S.2.2.2.1 [⟨0, 6, 7, 16⟩] ⟨0, 6, 11, 50⟩ [] ht (fun z hz => by
        rcases List.mem_cons.mp hz with rfl | hz
        · exact Or.inr ⟨by decide, _, S.2.2.2.2 _ m_213, hX.2.2.nc ncx41⟩
        cases hz) (by decide) (by decide) (S.2.2.2.2 _ m_369) (hX.2.2.face n_380 fcx4) hce hcv hcl ?_
      refine lv_astore_n (lv' := [(3, .ref q), (0, .ref (ad 0)), (1, .int a0), (2, .int b0)]) hx hb dL_gap_11 rfl hl (by decide) rfl (fun ls hl => ?_)
      refine lv_ldc (v := (-1000002)) hx hb S.2.2.2.1 (S.2.2.2.2 _ m_394) dL_gap_12 ?_
      refine vx_ret ?_
      exact W.iret (v := (-1000002)) hx hb hr (fun t ht9 hW => ⟨⟨_, rfl, (hcV_4 hk).symm⟩, trivial, hS1.F ht9⟩) hS1.2.2 dL_gap_14

theorem ek_isSigned (σ : kS) (nm ns : Nat) (a0 : Int32) (b0 : Int32) : eX_two a0 (σ 18 0) b0 5 = 0 ∨ eX_two a0 (σ 18 0) b0 5 = 1 := by
  unfold eX_two
  (repeat' split) <;> decide
set_option maxHeartbeats 4000000 in
set_option maxRecDepth 100000 in
theorem kL_isSigned (l : Launch) (G : kG) (ad : Nat → Nat) (σ : kS) (nm ns : Nat) (a0 b0 : Int32) (hst : l.stackTraces = false) (hns : σ 18 0 = nI ns) (hns4 : ns ≤ 40) (hnm : σ 17 0 = nI nm) (hnm2 : nm ≤ 200)   : vx_Met l yL_isSigned [.codeWith yL_isSigned cL_isSigned 4 (some .int) [(0, 14, 15, 16)]] ({ frames := 9, cells := 2, slots := 12, locals := 168 }) (va_Pc [.ref (ad 0), .int a0, .int b0] (fun U => PX G ad σ U U.heap ∧ ZS U U.heap)) (oW NF (fun r => r = hcV (eX_two a0 (σ 18 0) b0 5) (bI (hsB σ (lnN a0 b0)))) (fun _ => True)) (fun _ _ _ => False) 2 12 NF := by
  refine kh_of (by decide) (Nat.le_of_ble_eq_true rfl) (fun U h => h.1.2.2) ?_
  intro p e s m below meth c ls S hr hlocks ht hB hl
  have hx := S.1
  have hb := S.2.1
  obtain ⟨hX, hZ⟩ := hB
  have hl : lv_has ls 4 [(0, .ref (ad 0)), (1, .int a0), (2, .int b0)] := hl
  refine lv_aload_n hx hb dL_isSigned_0 rfl (lv_at hl 0 rfl) ?_
  refine lv_iload_n hx hb dL_isSigned_1 rfl (lv_at hl 1 rfl) ?_
  refine lv_iload_n hx hb dL_isSigned_2 rfl (lv_at hl 2 rfl) ?_
  refine q_hi (rx_V S ⟨m_339, m_340, m_341, m_23, m_342⟩ ⟨rfl, by decide, by decide, by decide +kernel⟩ (c_isSigned l G ad σ nm ns a0 b0 hst hns hns4 hnm hnm2) ⟨rfl, rfl, Nat.le_of_ble_eq_true rfl, Nat.le_of_ble_eq_true rfl⟩ (pv_X hX 0 rfl rfl bl_PXZ (bXZ hX hZ)) (n := 2) (As := [.int a0, .int b0]) (rest := []) rfl hl.1 rfl (Nat.le_of_ble_eq_true rfl) ⟨Nat.le_of_ble_eq_true rfl, Nat.le_of_ble_eq_true rfl⟩ dL_isSigned_3) (va_S.rf (A := NF)) (fun r H1 L1 ⟨he, hv⟩ h1 hS1 => ?_) (fun x q ce H1 L1 ⟨he, hq⟩ f1 hS1 hce hcv hcl => ?_)
  · subst hv
    refine lv_if_eq (tgt := 13) hx hb dL_isSigned_6 (by decide) (fun cz => ?_) (fun cz => ?_)
    · refine lv_iconst (v := 0) hx hb dL_isSigned_13 (by decide) ?_
      refine vx_ret ?_
      exact W.iret (v := 0) hx hb hr (fun t ht9 hW => ⟨⟨_, rfl, (by rw [hcV_0 he]; exact cz.symm)⟩, trivial, hS1.F ht9⟩) hS1.2.2 dL_isSigned_14
    · refine lv_iconst (v := 1) hx hb dL_isSigned_9 (by decide) ?_
      refine lv_goto (tgt := 14) hx hb dL_isSigned_10 (by decide) ?_
      refine vx_ret ?_
      exact W.iret (v := 1) hx hb hr (fun t ht9 hW => ⟨⟨_, rfl, (by rw [hcV_0 he, bI_n cz]; rfl)⟩, trivial, hS1.F ht9⟩) hS1.2.2 dL_isSigned_14
  · rcases ek_isSigned σ nm ns a0 b0 with hk | hk
    · exact absurd hk he
    · rw [hk] at hq
      subst hq
      refine vx_catch S.2.2.2.1 [] ⟨0, 14, 15, 16⟩ [] ht (fun z hz => by cases hz) (by decide) (by decide) (S.2.2.2.2 _ m_213) (hX.2.2.face n_227 fcx1) hce hcv hcl ?_
      refine lv_astore_n (lv' := [(3, .ref q), (0, .ref (ad 0)), (1, .int a0), (2, .int b0)]) hx hb dL_isSigned_15 rfl hl (by decide) rfl (fun ls hl => ?_)
      refine lv_ldc (v := (-1000001)) hx hb S.2.2.2.1 (S.2.2.2.2 _ m_294) dL_isSigned_16 ?_
      refine vx_ret ?_
      exact W.iret (v := (-1000001)) hx hb hr (fun t ht9 hW => ⟨⟨_, rfl, (hcV_1 hk).symm⟩, trivial, hS1.F ht9⟩) hS1.2.2 dL_isSigned_18

theorem ek_likely (σ : kS) (nm ns : Nat) (a0 : Int32) (b0 : Int32) : eX_two a0 (σ 18 0) b0 5 = 0 ∨ eX_two a0 (σ 18 0) b0 5 = 1 := by
  unfold eX_two
  (repeat' split) <;> decide
set_option maxHeartbeats 4000000 in
set_option maxRecDepth 100000 in
theorem kL_likely (l : Launch) (G : kG) (ad : Nat → Nat) (σ : kS) (nm ns : Nat) (a0 b0 : Int32) (hst : l.stackTraces = false) (hns : σ 18 0 = nI ns) (hns4 : ns ≤ 40) (hnm : σ 17 0 = nI nm) (hnm2 : nm ≤ 200)   : vx_Met l yL_likely [.codeWith yL_likely cL_likely 4 (some .int) [(0, 6, 7, 16)]] ({ frames := 9, cells := 2, slots := 12, locals := 214 }) (va_Pc [.ref (ad 0), .int a0, .int b0] (fun U => PX G ad σ U U.heap ∧ ZS U U.heap)) (oW NF (fun r => r = hcV (eX_two a0 (σ 18 0) b0 5) (oI (flO (fun k => csB σ nm ns (ixN a0) k (ixN b0)) ns))) (fun _ => True)) (fun _ _ _ => False) 2 12 NF := by
  refine kh_of (by decide) (Nat.le_of_ble_eq_true rfl) (fun U h => h.1.2.2) ?_
  intro p e s m below meth c ls S hr hlocks ht hB hl
  have hx := S.1
  have hb := S.2.1
  obtain ⟨hX, hZ⟩ := hB
  have hl : lv_has ls 4 [(0, .ref (ad 0)), (1, .int a0), (2, .int b0)] := hl
  refine lv_aload_n hx hb dL_likely_0 rfl (lv_at hl 0 rfl) ?_
  refine lv_iload_n hx hb dL_likely_1 rfl (lv_at hl 1 rfl) ?_
  refine lv_iload_n hx hb dL_likely_2 rfl (lv_at hl 2 rfl) ?_
  refine q_hi (rx_V S ⟨m_346, m_347, m_348, m_23, m_349⟩ ⟨rfl, by decide, by decide, by decide +kernel⟩ (c_likely l G ad σ nm ns a0 b0 hst hns hns4 hnm hnm2) ⟨rfl, rfl, Nat.le_of_ble_eq_true rfl, Nat.le_of_ble_eq_true rfl⟩ (pv_X hX 0 rfl rfl bl_PXZ (bXZ hX hZ)) (n := 2) (As := [.int a0, .int b0]) (rest := []) rfl hl.1 rfl (Nat.le_of_ble_eq_true rfl) ⟨Nat.le_of_ble_eq_true rfl, Nat.le_of_ble_eq_true rfl⟩ dL_likely_3) (va_S.rf (A := NF)) (fun r H1 L1 ⟨he, hv⟩ h1 hS1 => ?_) (fun x q ce H1 L1 ⟨he, hq⟩ f1 hS1 hce hcv hcl => ?_)
  · subst hv
    refine vx_ret ?_
    exact W.iret (v := oI (flO (fun k => csB σ nm ns (ixN a0) k (ixN b0)) ns)) hx hb hr (fun t ht9 hW => ⟨⟨_, rfl, (hcV_0 he).symm⟩, trivial, hS1.F ht9⟩) hS1.2.2 dL_likely_6
  · rcases ek_likely σ nm ns a0 b0 with hk | hk
    · exact absurd hk he
    · rw [hk] at hq
      subst hq
      refine vx_catch S.2.2.2.1 [] ⟨0, 6, 7, 16⟩ [] ht (fun z hz => by cases hz) (by decide) (by decide) (S.2.2.2.2 _ m_213) (hX.2.2.face n_227 fcx1) hce hcv hcl ?_
      refine lv_astore_n (lv' := [(3, .ref q), (0, .ref (ad 0)), (1, .int a0), (2, .int b0)]) hx hb dL_likely_7 rfl hl (by decide) rfl (fun ls hl => ?_)
      refine lv_ldc (v := (-1000001)) hx hb S.2.2.2.1 (S.2.2.2.2 _ m_294) dL_likely_8 ?_
      refine vx_ret ?_
      exact W.iret (v := (-1000001)) hx hb hr (fun t ht9 hW => ⟨⟨_, rfl, (hcV_1 hk).symm⟩, trivial, hS1.F ht9⟩) hS1.2.2 dL_likely_10

theorem ek_exact (σ : kS) (nm ns : Nat) (a0 : Int32) : eX_one a0 3 = 0 ∨ eX_one a0 3 = 1 := by
  unfold eX_one
  (repeat' split) <;> decide
set_option maxHeartbeats 4000000 in
set_option maxRecDepth 100000 in
theorem kL_exact (l : Launch) (G : kG) (ad : Nat → Nat) (σ : kS) (nm ns : Nat) (a0 : Int32) (hst : l.stackTraces = false) (hns : σ 18 0 = nI ns) (hns4 : ns ≤ 40) (hnm : σ 17 0 = nI nm) (hnm2 : nm ≤ 200)   : vx_Met l yL_exact [.codeWith yL_exact cL_exact 3 (some .int) [(0, 5, 6, 16)]] ({ frames := 8, cells := 1, slots := 6, locals := 145 }) (va_Pc [.ref (ad 0), .int a0] (fun U => PX G ad σ U U.heap ∧ ZS U U.heap)) (oW NF (fun r => r = hcV (eX_one a0 3) (exV σ ns a0)) (fun _ => True)) (fun _ _ _ => False) 1 6 NF := by
  refine kh_of (by decide) (Nat.le_of_ble_eq_true rfl) (fun U h => h.1.2.2) ?_
  intro p e s m below meth c ls S hr hlocks ht hB hl
  have hx := S.1
  have hb := S.2.1
  obtain ⟨hX, hZ⟩ := hB
  have hl : lv_has ls 3 [(0, .ref (ad 0)), (1, .int a0)] := hl
  refine lv_aload_n hx hb dL_exact_0 rfl (lv_at hl 0 rfl) ?_
  refine lv_iload_n hx hb dL_exact_1 rfl (lv_at hl 1 rfl) ?_
  refine q_hi (rx_V S ⟨m_298, m_299, m_300, m_23, m_301⟩ ⟨rfl, by decide, by decide, by decide +kernel⟩ (c_exact l G ad σ nm ns a0 hst hns hns4 hnm hnm2) ⟨rfl, rfl, Nat.le_of_ble_eq_true rfl, Nat.le_of_ble_eq_true rfl⟩ (pv_X hX 0 rfl rfl bl_PXZ (bXZ hX hZ)) (n := 1) (As := [.int a0]) (rest := []) rfl hl.1 rfl (Nat.le_of_ble_eq_true rfl) ⟨Nat.le_of_ble_eq_true rfl, Nat.le_of_ble_eq_true rfl⟩ dL_exact_2) (va_S.rf (A := NF)) (fun r H1 L1 ⟨he, hv⟩ h1 hS1 => ?_) (fun x q ce H1 L1 ⟨he, hq⟩ f1 hS1 hce hcv hcl => ?_)
  · subst hv
    refine vx_ret ?_
    exact W.iret (v := exV σ ns a0) hx hb hr (fun t ht9 hW => ⟨⟨_, rfl, (hcV_0 he).symm⟩, trivial, hS1.F ht9⟩) hS1.2.2 dL_exact_5
  · rcases ek_exact σ nm ns a0 with hk | hk
    · exact absurd hk he
    · rw [hk] at hq
      subst hq
      refine vx_catch S.2.2.2.1 [] ⟨0, 5, 6, 16⟩ [] ht (fun z hz => by cases hz) (by decide) (by decide) (S.2.2.2.2 _ m_213) (hX.2.2.face n_227 fcx1) hce hcv hcl ?_
      refine lv_astore_n (lv' := [(2, .ref q), (0, .ref (ad 0)), (1, .int a0)]) hx hb dL_exact_6 rfl hl (by decide) rfl (fun ls hl => ?_)
      refine lv_ldc (v := (-1000001)) hx hb S.2.2.2.1 (S.2.2.2.2 _ m_294) dL_exact_7 ?_
      refine vx_ret ?_
      exact W.iret (v := (-1000001)) hx hb hr (fun t ht9 hW => ⟨⟨_, rfl, (hcV_1 hk).symm⟩, trivial, hS1.F ht9⟩) hS1.2.2 dL_exact_9
