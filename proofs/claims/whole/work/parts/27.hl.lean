theorem ek_setPrice (σ : kS) (nm ns : Nat) (a0 : Int32) (b0 : Int32) : eX_setPrice a0 b0 = 0 ∨ eX_setPrice a0 b0 = 1 ∨ eX_setPrice a0 b0 = 2 := by
  unfold eX_setPrice
  (repeat' split) <;> decide
set_option maxHeartbeats 4000000 in
set_option maxRecDepth 100000 in
theorem cL_setPrice_c (l : Launch) (G : kG) (ad : Nat → Nat) (σ : kS) (nm ns : Nat) (a0 b0 : Int32) (hst : l.stackTraces = false) (hns : σ 18 0 = nI ns) (hns4 : ns ≤ 40) (hnm : σ 17 0 = nI nm) (hnm2 : nm ≤ 200)   (ao : Nat) (f : Nat → Int64) (A1 : Nat → Prop) (hD : DD 20 A1 ad) (hao : ¬ A1 ao) : vx_Met l yL_setPrice [.codeWith yL_setPrice cL_setPrice 5 (some .int) [(0, 10, 13, 13), (0, 10, 17, 15)]] ({ frames := 8, cells := 2, slots := 12, locals := 148 }) (va_Pc [.ref (ad 0), .int a0, .int b0, .ref ao] (PL G ad ao σ f)) (oL G ad ao (fun q => A1 q ∨ q = ao) (eX_setPrice a0 b0) (if eX_setPrice a0 b0 = 1 then 1 else if eX_setPrice a0 b0 = 2 then 2 else 3) ((σ 0 (ixN a0) : Int32).toInt64) σ ((su σ 0 (ixN a0) b0))) (fun _ _ _ => False) 2 12 (fun q => A1 q ∨ q = ao) := by
  refine kh_of (by decide) (Nat.le_of_ble_eq_true rfl) (fun U h => h.1.2.2) ?_
  intro p e s m below meth c ls S hr hlocks ht hB hl
  have hx := S.1
  have hb := S.2.1
  obtain ⟨hX, hZ, hO⟩ := hB
  have hl : lv_has ls 5 [(0, .ref (ad 0)), (1, .int a0), (2, .int b0), (3, .ref ao)] := hl
  refine lv_aload_n hx hb dL_setPrice_0 rfl (lv_at hl 3 rfl) ?_
  refine lv_iconst (v := 0) hx hb dL_setPrice_1 (by decide) ?_
  refine lv_aload_n hx hb dL_setPrice_2 rfl (lv_at hl 0 rfl) ?_
  refine lv_iload_n hx hb dL_setPrice_3 rfl (lv_at hl 1 rfl) ?_
  refine lv_iload_n hx hb dL_setPrice_4 rfl (lv_at hl 2 rfl) ?_
  refine q_hw (rx_V S ⟨m_227, m_228, m_229, m_35, m_230⟩ ⟨rfl, by decide, by decide, by decide +kernel⟩ (c_setPrice l G ad σ nm ns a0 b0 hst hns hns4 hnm hnm2 A1 hD) ⟨rfl, rfl, Nat.le_of_ble_eq_true rfl, Nat.le_of_ble_eq_true rfl⟩ (pv_X hX 0 rfl rfl bl_PXZ (bXZ hX hZ)) (n := 2) (As := [.int a0, .int b0]) (rest := [.int 0, .ref ao]) rfl hl.1 rfl (Nat.le_of_ble_eq_true rfl) ⟨Nat.le_of_ble_eq_true rfl, Nat.le_of_ble_eq_true rfl⟩ dL_setPrice_5) (va_S.rf (A := (fun q => A1 q ∨ q = ao))) (fun q h => Or.inl h) (fun r H1 L1 ⟨he, hv⟩ h1 f1 hS1 => ?_) (fun x q ce H1 L1 ⟨he, hq⟩ f1 hS1 hce hcv hcl => ?_)
  · subst hv
    have hO1 := kpO hO hao f1
    refine lv_i2l (v := (σ 0 (ixN a0) : Int32).toInt64) hx hb dL_setPrice_8 rfl ?_
    refine k_last S hX.2 hO1 hS1 (Or.inr rfl) dL_setPrice_9 (fun H2 L2 h2 f2 hS2 => ?_)
    have h3 := kpX h1 hD hao f2
    refine lv_goto (tgt := 21) hx hb dL_setPrice_10 (by decide) ?_
    refine lv_iconst (v := 0) hx hb dL_setPrice_21 (by decide) ?_
    refine vx_ret ?_
    exact W.iret (v := 0) hx hb hr (fun t ht9 hW => ⟨0, _, rfl, by rw [ht9]; exact h2, hS2.F ht9, Or.inl ⟨he, rfl, rfl, by rw [ht9]; exact h3⟩⟩) hS2.2.2 dL_setPrice_22
  · have hX1 := kp hX.1 f1
    have hO1 := kp hO f1
    rcases ek_setPrice σ nm ns a0 b0 with hk | hk | hk
    · exact absurd hk he
    · rw [hk] at hq
      subst hq
      refine vx_catch S.2.2.2.1 [] ⟨0, 10, 13, 13⟩ [⟨0, 10, 17, 15⟩] ht (fun z hz => by cases hz) (by decide) (by decide) (S.2.2.2.2 _ m_225) (hX.2.2.face n_236 fcx1) hce hcv hcl ?_
      refine lv_astore (lv' := [(4, .ref q), (0, .ref (ad 0)), (1, .int a0), (2, .int b0), (3, .ref ao)]) hx hb dL_setPrice_13 hl (by decide) rfl (fun ls hl => ?_)
      refine lv_iconst (v := 1) hx hb dL_setPrice_15 (by decide) ?_
      refine vx_ret ?_
      exact W.iret (v := 1) hx hb hr (fun t ht9 hW => ⟨1, _, rfl, by rw [ht9]; exact hO1, hS1.F ht9, Or.inr ⟨he, by rw [hk]; rfl, by rw [ht9]; exact hX1⟩⟩) hS1.2.2 dL_setPrice_16
    · rw [hk] at hq
      subst hq
      refine vx_catch S.2.2.2.1 [⟨0, 10, 13, 13⟩] ⟨0, 10, 17, 15⟩ [] ht (fun z hz => by
        rcases List.mem_cons.mp hz with rfl | hz
        · exact Or.inr ⟨by decide, _, S.2.2.2.2 _ m_225, hX.2.2.nc ncx21⟩
        cases hz) (by decide) (by decide) (S.2.2.2.2 _ m_226) (hX.2.2.face n_308 fcx2) hce hcv hcl ?_
      refine lv_astore (lv' := [(4, .ref q), (0, .ref (ad 0)), (1, .int a0), (2, .int b0), (3, .ref ao)]) hx hb dL_setPrice_17 hl (by decide) rfl (fun ls hl => ?_)
      refine lv_iconst (v := 2) hx hb dL_setPrice_19 (by decide) ?_
      refine vx_ret ?_
      exact W.iret (v := 2) hx hb hr (fun t ht9 hW => ⟨2, _, rfl, by rw [ht9]; exact hO1, hS1.F ht9, Or.inr ⟨he, by rw [hk]; rfl, by rw [ht9]; exact hX1⟩⟩) hS1.2.2 dL_setPrice_20

theorem ek_setBound (σ : kS) (nm ns : Nat) (a0 : Int32) (b0 : Int32) : eX_setBound a0 b0 = 0 ∨ eX_setBound a0 b0 = 1 ∨ eX_setBound a0 b0 = 2 := by
  unfold eX_setBound
  (repeat' split) <;> decide
set_option maxHeartbeats 4000000 in
set_option maxRecDepth 100000 in
theorem cL_setBound_c (l : Launch) (G : kG) (ad : Nat → Nat) (σ : kS) (nm ns : Nat) (a0 b0 : Int32) (hst : l.stackTraces = false) (hns : σ 18 0 = nI ns) (hns4 : ns ≤ 40) (hnm : σ 17 0 = nI nm) (hnm2 : nm ≤ 200)   (ao : Nat) (f : Nat → Int64) (A1 : Nat → Prop) (hD : DD 20 A1 ad) (hao : ¬ A1 ao) : vx_Met l yL_setBound [.codeWith yL_setBound cL_setBound 5 (some .int) [(0, 10, 13, 13), (0, 10, 17, 15)]] ({ frames := 8, cells := 2, slots := 12, locals := 148 }) (va_Pc [.ref (ad 0), .int a0, .int b0, .ref ao] (PL G ad ao σ f)) (oL G ad ao (fun q => A1 q ∨ q = ao) (eX_setBound a0 b0) (if eX_setBound a0 b0 = 1 then 1 else if eX_setBound a0 b0 = 2 then 2 else 3) ((σ 1 (ixN a0) : Int32).toInt64) σ ((su σ 1 (ixN a0) b0))) (fun _ _ _ => False) 2 12 (fun q => A1 q ∨ q = ao) := by
  refine kh_of (by decide) (Nat.le_of_ble_eq_true rfl) (fun U h => h.1.2.2) ?_
  intro p e s m below meth c ls S hr hlocks ht hB hl
  have hx := S.1
  have hb := S.2.1
  obtain ⟨hX, hZ, hO⟩ := hB
  have hl : lv_has ls 5 [(0, .ref (ad 0)), (1, .int a0), (2, .int b0), (3, .ref ao)] := hl
  refine lv_aload_n hx hb dL_setBound_0 rfl (lv_at hl 3 rfl) ?_
  refine lv_iconst (v := 0) hx hb dL_setBound_1 (by decide) ?_
  refine lv_aload_n hx hb dL_setBound_2 rfl (lv_at hl 0 rfl) ?_
  refine lv_iload_n hx hb dL_setBound_3 rfl (lv_at hl 1 rfl) ?_
  refine lv_iload_n hx hb dL_setBound_4 rfl (lv_at hl 2 rfl) ?_
  refine q_hw (rx_V S ⟨m_325, m_326, m_327, m_35, m_328⟩ ⟨rfl, by decide, by decide, by decide +kernel⟩ (c_setBound l G ad σ nm ns a0 b0 hst hns hns4 hnm hnm2 A1 hD) ⟨rfl, rfl, Nat.le_of_ble_eq_true rfl, Nat.le_of_ble_eq_true rfl⟩ (pv_X hX 0 rfl rfl bl_PXZ (bXZ hX hZ)) (n := 2) (As := [.int a0, .int b0]) (rest := [.int 0, .ref ao]) rfl hl.1 rfl (Nat.le_of_ble_eq_true rfl) ⟨Nat.le_of_ble_eq_true rfl, Nat.le_of_ble_eq_true rfl⟩ dL_setBound_5) (va_S.rf (A := (fun q => A1 q ∨ q = ao))) (fun q h => Or.inl h) (fun r H1 L1 ⟨he, hv⟩ h1 f1 hS1 => ?_) (fun x q ce H1 L1 ⟨he, hq⟩ f1 hS1 hce hcv hcl => ?_)
  · subst hv
    have hO1 := kpO hO hao f1
    refine lv_i2l (v := (σ 1 (ixN a0) : Int32).toInt64) hx hb dL_setBound_8 rfl ?_
    refine k_last S hX.2 hO1 hS1 (Or.inr rfl) dL_setBound_9 (fun H2 L2 h2 f2 hS2 => ?_)
    have h3 := kpX h1 hD hao f2
    refine lv_goto (tgt := 21) hx hb dL_setBound_10 (by decide) ?_
    refine lv_iconst (v := 0) hx hb dL_setBound_21 (by decide) ?_
    refine vx_ret ?_
    exact W.iret (v := 0) hx hb hr (fun t ht9 hW => ⟨0, _, rfl, by rw [ht9]; exact h2, hS2.F ht9, Or.inl ⟨he, rfl, rfl, by rw [ht9]; exact h3⟩⟩) hS2.2.2 dL_setBound_22
  · have hX1 := kp hX.1 f1
    have hO1 := kp hO f1
    rcases ek_setBound σ nm ns a0 b0 with hk | hk | hk
    · exact absurd hk he
    · rw [hk] at hq
      subst hq
      refine vx_catch S.2.2.2.1 [] ⟨0, 10, 13, 13⟩ [⟨0, 10, 17, 15⟩] ht (fun z hz => by cases hz) (by decide) (by decide) (S.2.2.2.2 _ m_225) (hX.2.2.face n_236 fcx1) hce hcv hcl ?_
      refine lv_astore (lv' := [(4, .ref q), (0, .ref (ad 0)), (1, .int a0), (2, .int b0), (3, .ref ao)]) hx hb dL_setBound_13 hl (by decide) rfl (fun ls hl => ?_)
      refine lv_iconst (v := 1) hx hb dL_setBound_15 (by decide) ?_
      refine vx_ret ?_
      exact W.iret (v := 1) hx hb hr (fun t ht9 hW => ⟨1, _, rfl, by rw [ht9]; exact hO1, hS1.F ht9, Or.inr ⟨he, by rw [hk]; rfl, by rw [ht9]; exact hX1⟩⟩) hS1.2.2 dL_setBound_16
    · rw [hk] at hq
      subst hq
      refine vx_catch S.2.2.2.1 [⟨0, 10, 13, 13⟩] ⟨0, 10, 17, 15⟩ [] ht (fun z hz => by
        rcases List.mem_cons.mp hz with rfl | hz
        · exact Or.inr ⟨by decide, _, S.2.2.2.2 _ m_225, hX.2.2.nc ncx21⟩
        cases hz) (by decide) (by decide) (S.2.2.2.2 _ m_226) (hX.2.2.face n_308 fcx2) hce hcv hcl ?_
      refine lv_astore (lv' := [(4, .ref q), (0, .ref (ad 0)), (1, .int a0), (2, .int b0), (3, .ref ao)]) hx hb dL_setBound_17 hl (by decide) rfl (fun ls hl => ?_)
      refine lv_iconst (v := 2) hx hb dL_setBound_19 (by decide) ?_
      refine vx_ret ?_
      exact W.iret (v := 2) hx hb hr (fun t ht9 hW => ⟨2, _, rfl, by rw [ht9]; exact hO1, hS1.F ht9, Or.inr ⟨he, by rw [hk]; rfl, by rw [ht9]; exact hX1⟩⟩) hS1.2.2 dL_setBound_20

theorem ek_move (σ : kS) (nm ns : Nat) (a0 : Int32) (b0 : Int32) (c0 : Int32) (d0 : Int32) (e0 : Int32) : eX_move σ a0 b0 c0 d0 e0 = 0 ∨ eX_move σ a0 b0 c0 d0 e0 = 1 ∨ eX_move σ a0 b0 c0 d0 e0 = 2 ∨ eX_move σ a0 b0 c0 d0 e0 = 3 := by
  unfold eX_move
  (repeat' split) <;> decide
set_option maxHeartbeats 4000000 in
set_option maxRecDepth 100000 in
theorem cL_move_c (l : Launch) (G : kG) (ad : Nat → Nat) (σ : kS) (nm ns : Nat) (a0 b0 c0 d0 e0 : Int32) (hst : l.stackTraces = false) (hns : σ 18 0 = nI ns) (hns4 : ns ≤ 40) (hnm : σ 17 0 = nI nm) (hnm2 : nm ≤ 200)   (ao : Nat) (f : Nat → Int64) (A1 : Nat → Prop) (hD : DD 20 A1 ad) (hao : ¬ A1 ao) : vx_Met l yL_move [.codeWith yL_move cL_move 8 (some .int) [(0, 16, 19, 13), (0, 16, 23, 15), (0, 16, 27, 24)]] ({ frames := 9, cells := 6, slots := 36, locals := 170 }) (va_Pc [.ref (ad 0), .int a0, .int b0, .int c0, .int d0, .int e0, .ref ao] (PL G ad ao σ f)) (oL G ad ao (fun q => A1 q ∨ q = ao) (eX_move σ a0 b0 c0 d0 e0) (if eX_move σ a0 b0 c0 d0 e0 = 1 then 1 else if eX_move σ a0 b0 c0 d0 e0 = 2 then 2 else 3) ((nI nm : Int32).toInt64) σ ((mvS σ nm a0 b0 c0 d0 e0))) (fun _ _ _ => False) 6 36 (fun q => A1 q ∨ q = ao) := by
  refine kh_of (by decide) (Nat.le_of_ble_eq_true rfl) (fun U h => h.1.2.2) ?_
  intro p e s m below meth c ls S hr hlocks ht hB hl
  have hx := S.1
  have hb := S.2.1
  obtain ⟨hX, hZ, hO⟩ := hB
  have hl : lv_has ls 8 [(0, .ref (ad 0)), (1, .int a0), (2, .int b0), (3, .int c0), (4, .int d0), (5, .int e0), (6, .ref ao)] := hl
  refine lv_aload hx hb dL_move_0 (lv_at hl 6 rfl) ?_
  refine lv_iconst (v := 0) hx hb dL_move_2 (by decide) ?_
  refine lv_aload_n hx hb dL_move_3 rfl (lv_at hl 0 rfl) ?_
  refine lv_iload_n hx hb dL_move_4 rfl (lv_at hl 1 rfl) ?_
  refine lv_iload_n hx hb dL_move_5 rfl (lv_at hl 2 rfl) ?_
  refine lv_iload_n hx hb dL_move_6 rfl (lv_at hl 3 rfl) ?_
  refine lv_iload hx hb dL_move_7 (lv_at hl 4 rfl) ?_
  refine lv_iload hx hb dL_move_9 (lv_at hl 5 rfl) ?_
  refine q_hw (rx_V S ⟨m_334, m_335, m_336, m_35, m_337⟩ ⟨rfl, by decide, by decide, by decide +kernel⟩ (c_move l G ad σ nm ns a0 b0 c0 d0 e0 hst hns hns4 hnm hnm2 A1 hD) ⟨rfl, rfl, Nat.le_of_ble_eq_true rfl, Nat.le_of_ble_eq_true rfl⟩ (pv_X hX 0 rfl rfl bl_PXZ (bXZ hX hZ)) (n := 5) (As := [.int a0, .int b0, .int c0, .int d0, .int e0]) (rest := [.int 0, .ref ao]) rfl hl.1 rfl (Nat.le_of_ble_eq_true rfl) ⟨Nat.le_of_ble_eq_true rfl, Nat.le_of_ble_eq_true rfl⟩ dL_move_11) (va_S.rf (A := (fun q => A1 q ∨ q = ao))) (fun q h => Or.inl h) (fun r H1 L1 ⟨he, hv⟩ h1 f1 hS1 => ?_) (fun x q ce H1 L1 ⟨he, hq⟩ f1 hS1 hce hcv hcl => ?_)
  · subst hv
    have hO1 := kpO hO hao f1
    refine lv_i2l (v := (nI nm : Int32).toInt64) hx hb dL_move_14 rfl ?_
    refine k_last S hX.2 hO1 hS1 (Or.inr rfl) dL_move_15 (fun H2 L2 h2 f2 hS2 => ?_)
    have h3 := kpX h1 hD hao f2
    refine lv_goto (tgt := 31) hx hb dL_move_16 (by decide) ?_
    refine lv_iconst (v := 0) hx hb dL_move_31 (by decide) ?_
    refine vx_ret ?_
    exact W.iret (v := 0) hx hb hr (fun t ht9 hW => ⟨0, _, rfl, by rw [ht9]; exact h2, hS2.F ht9, Or.inl ⟨he, rfl, rfl, by rw [ht9]; exact h3⟩⟩) hS2.2.2 dL_move_32
  · have hX1 := kp hX.1 f1
    have hO1 := kp hO f1
    rcases ek_move σ nm ns a0 b0 c0 d0 e0 with hk | hk | hk | hk
    · exact absurd hk he
    · rw [hk] at hq
      subst hq
      refine vx_catch S.2.2.2.1 [] ⟨0, 16, 19, 13⟩ [⟨0, 16, 23, 15⟩, ⟨0, 16, 27, 24⟩] ht (fun z hz => by cases hz) (by decide) (by decide) (S.2.2.2.2 _ m_225) (hX.2.2.face n_236 fcx1) hce hcv hcl ?_
      refine lv_astore (lv' := [(7, .ref q), (0, .ref (ad 0)), (1, .int a0), (2, .int b0), (3, .int c0), (4, .int d0), (5, .int e0), (6, .ref ao)]) hx hb dL_move_19 hl (by decide) rfl (fun ls hl => ?_)
      refine lv_iconst (v := 1) hx hb dL_move_21 (by decide) ?_
      refine vx_ret ?_
      exact W.iret (v := 1) hx hb hr (fun t ht9 hW => ⟨1, _, rfl, by rw [ht9]; exact hO1, hS1.F ht9, Or.inr ⟨he, by rw [hk]; rfl, by rw [ht9]; exact hX1⟩⟩) hS1.2.2 dL_move_22
    · rw [hk] at hq
      subst hq
      refine vx_catch S.2.2.2.1 [⟨0, 16, 19, 13⟩] ⟨0, 16, 23, 15⟩ [⟨0, 16, 27, 24⟩] ht (fun z hz => by
        rcases List.mem_cons.mp hz with rfl | hz
        · exact Or.inr ⟨by decide, _, S.2.2.2.2 _ m_225, hX.2.2.nc ncx21⟩
        cases hz) (by decide) (by decide) (S.2.2.2.2 _ m_226) (hX.2.2.face n_308 fcx2) hce hcv hcl ?_
      refine lv_astore (lv' := [(7, .ref q), (0, .ref (ad 0)), (1, .int a0), (2, .int b0), (3, .int c0), (4, .int d0), (5, .int e0), (6, .ref ao)]) hx hb dL_move_23 hl (by decide) rfl (fun ls hl => ?_)
      refine lv_iconst (v := 2) hx hb dL_move_25 (by decide) ?_
      refine vx_ret ?_
      exact W.iret (v := 2) hx hb hr (fun t ht9 hW => ⟨2, _, rfl, by rw [ht9]; exact hO1, hS1.F ht9, Or.inr ⟨he, by rw [hk]; rfl, by rw [ht9]; exact hX1⟩⟩) hS1.2.2 dL_move_26
    · rw [hk] at hq
      subst hq
      refine vx_catch S.2.2.2.1 [⟨0, 16, 19, 13⟩, ⟨0, 16, 23, 15⟩] ⟨0, 16, 27, 24⟩ [] ht (fun z hz => by
        rcases List.mem_cons.mp hz with rfl | hz
        · exact Or.inr ⟨by decide, _, S.2.2.2.2 _ m_225, hX.2.2.nc ncx31⟩
        rcases List.mem_cons.mp hz with rfl | hz
        · exact Or.inr ⟨by decide, _, S.2.2.2.2 _ m_226, hX.2.2.nc ncx32⟩
        cases hz) (by decide) (by decide) (S.2.2.2.2 _ m_333) (hX.2.2.face n_344 fcx3) hce hcv hcl ?_
      refine lv_astore (lv' := [(7, .ref q), (0, .ref (ad 0)), (1, .int a0), (2, .int b0), (3, .int c0), (4, .int d0), (5, .int e0), (6, .ref ao)]) hx hb dL_move_27 hl (by decide) rfl (fun ls hl => ?_)
      refine lv_iconst (v := 3) hx hb dL_move_29 (by decide) ?_
      refine vx_ret ?_
      exact W.iret (v := 3) hx hb hr (fun t ht9 hW => ⟨3, _, rfl, by rw [ht9]; exact hO1, hS1.F ht9, Or.inr ⟨he, by rw [hk]; rfl, by rw [ht9]; exact hX1⟩⟩) hS1.2.2 dL_move_30

theorem ek_pass (σ : kS) (nm ns : Nat) (a0 : Int32) : eX_pass a0 = 0 ∨ eX_pass a0 = 2 := by
  unfold eX_pass
  (repeat' split) <;> decide
set_option maxHeartbeats 4000000 in
set_option maxRecDepth 100000 in
theorem cL_pass_c (l : Launch) (G : kG) (ad : Nat → Nat) (σ : kS) (nm ns : Nat) (a0 : Int32) (hst : l.stackTraces = false) (hns : σ 18 0 = nI ns) (hns4 : ns ≤ 40) (hnm : σ 17 0 = nI nm) (hnm2 : nm ≤ 200)   (ao : Nat) (f : Nat → Int64) (A1 : Nat → Prop) (hD : DD 20 A1 ad) (hao : ¬ A1 ao) : vx_Met l yL_pass [.codeWith yL_pass cL_pass 4 (some .int) [(0, 9, 12, 15)]] ({ frames := 8, cells := 1, slots := 6, locals := 147 }) (va_Pc [.ref (ad 0), .int a0, .ref ao] (PL G ad ao σ f)) (oL G ad ao (fun q => A1 q ∨ q = ao) (eX_pass a0) (if eX_pass a0 = 2 then 1 else 2) ((σ 16 0 + a0 : Int32).toInt64) σ ((su σ 16 0 (σ 16 0 + a0)))) (fun _ _ _ => False) 1 6 (fun q => A1 q ∨ q = ao) := by
  refine kh_of (by decide) (Nat.le_of_ble_eq_true rfl) (fun U h => h.1.2.2) ?_
  intro p e s m below meth c ls S hr hlocks ht hB hl
  have hx := S.1
  have hb := S.2.1
  obtain ⟨hX, hZ, hO⟩ := hB
  have hl : lv_has ls 4 [(0, .ref (ad 0)), (1, .int a0), (2, .ref ao)] := hl
  refine lv_aload_n hx hb dL_pass_0 rfl (lv_at hl 2 rfl) ?_
  refine lv_iconst (v := 0) hx hb dL_pass_1 (by decide) ?_
  refine lv_aload_n hx hb dL_pass_2 rfl (lv_at hl 0 rfl) ?_
  refine lv_iload_n hx hb dL_pass_3 rfl (lv_at hl 1 rfl) ?_
  refine q_hw (rx_V S ⟨m_365, m_366, m_367, m_35, m_368⟩ ⟨rfl, by decide, by decide, by decide +kernel⟩ (c_pass l G ad σ nm ns a0 hst hns hns4 hnm hnm2 A1 hD) ⟨rfl, rfl, Nat.le_of_ble_eq_true rfl, Nat.le_of_ble_eq_true rfl⟩ (pv_X hX 0 rfl rfl bl_PXZ (bXZ hX hZ)) (n := 1) (As := [.int a0]) (rest := [.int 0, .ref ao]) rfl hl.1 rfl (Nat.le_of_ble_eq_true rfl) ⟨Nat.le_of_ble_eq_true rfl, Nat.le_of_ble_eq_true rfl⟩ dL_pass_4) (va_S.rf (A := (fun q => A1 q ∨ q = ao))) (fun q h => Or.inl h) (fun r H1 L1 ⟨he, hv⟩ h1 f1 hS1 => ?_) (fun x q ce H1 L1 ⟨he, hq⟩ f1 hS1 hce hcv hcl => ?_)
  · subst hv
    have hO1 := kpO hO hao f1
    refine lv_i2l (v := (σ 16 0 + a0 : Int32).toInt64) hx hb dL_pass_7 rfl ?_
    refine k_last S hX.2 hO1 hS1 (Or.inr rfl) dL_pass_8 (fun H2 L2 h2 f2 hS2 => ?_)
    have h3 := kpX h1 hD hao f2
    refine lv_goto (tgt := 15) hx hb dL_pass_9 (by decide) ?_
    refine lv_iconst (v := 0) hx hb dL_pass_15 (by decide) ?_
    refine vx_ret ?_
    exact W.iret (v := 0) hx hb hr (fun t ht9 hW => ⟨0, _, rfl, by rw [ht9]; exact h2, hS2.F ht9, Or.inl ⟨he, rfl, rfl, by rw [ht9]; exact h3⟩⟩) hS2.2.2 dL_pass_16
  · have hX1 := kp hX.1 f1
    have hO1 := kp hO f1
    rcases ek_pass σ nm ns a0 with hk | hk
    · exact absurd hk he
    · rw [hk] at hq
      subst hq
      refine vx_catch S.2.2.2.1 [] ⟨0, 9, 12, 15⟩ [] ht (fun z hz => by cases hz) (by decide) (by decide) (S.2.2.2.2 _ m_226) (hX.2.2.face n_308 fcx2) hce hcv hcl ?_
      refine lv_astore_n (lv' := [(3, .ref q), (0, .ref (ad 0)), (1, .int a0), (2, .ref ao)]) hx hb dL_pass_12 rfl hl (by decide) rfl (fun ls hl => ?_)
      refine lv_iconst (v := 1) hx hb dL_pass_13 (by decide) ?_
      refine vx_ret ?_
      exact W.iret (v := 1) hx hb hr (fun t ht9 hW => ⟨1, _, rfl, by rw [ht9]; exact hO1, hS1.F ht9, Or.inr ⟨he, by rw [hk]; rfl, by rw [ht9]; exact hX1⟩⟩) hS1.2.2 dL_pass_14

theorem ek_open (σ : kS) (nm ns : Nat) (a0 : Int32) : eX_open σ ns a0 = 0 ∨ eX_open σ ns a0 = 1 ∨ eX_open σ ns a0 = 3 := by
  unfold eX_open
  (repeat' split) <;> decide
set_option maxHeartbeats 4000000 in
set_option maxRecDepth 100000 in
theorem cL_open_c (l : Launch) (G : kG) (ad : Nat → Nat) (σ : kS) (nm ns : Nat) (a0 : Int32) (hst : l.stackTraces = false) (hns : σ 18 0 = nI ns) (hns4 : ns ≤ 40) (hnm : σ 17 0 = nI nm) (hnm2 : nm ≤ 200)   (ao : Nat) (f : Nat → Int64) (A1 : Nat → Prop) (hD : DD 20 A1 ad) (hao : ¬ A1 ao) : vx_Met l yL_open [.codeWith yL_open cL_open 4 (some .int) [(0, 9, 12, 13), (0, 9, 15, 24)]] ({ frames := 8, cells := 2, slots := 12, locals := 146 }) (va_Pc [.ref (ad 0), .int a0, .ref ao] (PL G ad ao σ f)) (oL G ad ao (fun q => A1 q ∨ q = ao) (eX_open σ ns a0) (if eX_open σ ns a0 = 1 then 1 else if eX_open σ ns a0 = 3 then 2 else 3) ((nI ns : Int32).toInt64) σ ((shS σ ns a0 (σ 16 0)))) (fun _ _ _ => False) 2 12 (fun q => A1 q ∨ q = ao) := by
  refine kh_of (by decide) (Nat.le_of_ble_eq_true rfl) (fun U h => h.1.2.2) ?_
  intro p e s m below meth c ls S hr hlocks ht hB hl
  have hx := S.1
  have hb := S.2.1
  obtain ⟨hX, hZ, hO⟩ := hB
  have hl : lv_has ls 4 [(0, .ref (ad 0)), (1, .int a0), (2, .ref ao)] := hl
  refine lv_aload_n hx hb dL_open_0 rfl (lv_at hl 2 rfl) ?_
  refine lv_iconst (v := 0) hx hb dL_open_1 (by decide) ?_
  refine lv_aload_n hx hb dL_open_2 rfl (lv_at hl 0 rfl) ?_
  refine lv_iload_n hx hb dL_open_3 rfl (lv_at hl 1 rfl) ?_
  refine q_hw (rx_V S ⟨m_372, m_373, m_374, m_35, m_375⟩ ⟨rfl, by decide, by decide, by decide +kernel⟩ (c_open l G ad σ nm ns a0 hst hns hns4 hnm hnm2 A1 hD) ⟨rfl, rfl, Nat.le_of_ble_eq_true rfl, Nat.le_of_ble_eq_true rfl⟩ (pv_X hX 0 rfl rfl bl_PXZ (bXZ hX hZ)) (n := 1) (As := [.int a0]) (rest := [.int 0, .ref ao]) rfl hl.1 rfl (Nat.le_of_ble_eq_true rfl) ⟨Nat.le_of_ble_eq_true rfl, Nat.le_of_ble_eq_true rfl⟩ dL_open_4) (va_S.rf (A := (fun q => A1 q ∨ q = ao))) (fun q h => Or.inl h) (fun r H1 L1 ⟨he, hv⟩ h1 f1 hS1 => ?_) (fun x q ce H1 L1 ⟨he, hq⟩ f1 hS1 hce hcv hcl => ?_)
  · subst hv
    have hO1 := kpO hO hao f1
    refine lv_i2l (v := (nI ns : Int32).toInt64) hx hb dL_open_7 rfl ?_
    refine k_last S hX.2 hO1 hS1 (Or.inr rfl) dL_open_8 (fun H2 L2 h2 f2 hS2 => ?_)
    have h3 := kpX h1 hD hao f2
    refine lv_goto (tgt := 18) hx hb dL_open_9 (by decide) ?_
    refine lv_iconst (v := 0) hx hb dL_open_18 (by decide) ?_
    refine vx_ret ?_
    exact W.iret (v := 0) hx hb hr (fun t ht9 hW => ⟨0, _, rfl, by rw [ht9]; exact h2, hS2.F ht9, Or.inl ⟨he, rfl, rfl, by rw [ht9]; exact h3⟩⟩) hS2.2.2 dL_open_19
  · have hX1 := kp hX.1 f1
    have hO1 := kp hO f1
    rcases ek_open σ nm ns a0 with hk | hk | hk
    · exact absurd hk he
    · rw [hk] at hq
      subst hq
      refine vx_catch S.2.2.2.1 [] ⟨0, 9, 12, 13⟩ [⟨0, 9, 15, 24⟩] ht (fun z hz => by cases hz) (by decide) (by decide) (S.2.2.2.2 _ m_225) (hX.2.2.face n_236 fcx1) hce hcv hcl ?_
      refine lv_astore_n (lv' := [(3, .ref q), (0, .ref (ad 0)), (1, .int a0), (2, .ref ao)]) hx hb dL_open_12 rfl hl (by decide) rfl (fun ls hl => ?_)
      refine lv_iconst (v := 1) hx hb dL_open_13 (by decide) ?_
      refine vx_ret ?_
      exact W.iret (v := 1) hx hb hr (fun t ht9 hW => ⟨1, _, rfl, by rw [ht9]; exact hO1, hS1.F ht9, Or.inr ⟨he, by rw [hk]; rfl, by rw [ht9]; exact hX1⟩⟩) hS1.2.2 dL_open_14
    · rw [hk] at hq
      subst hq
      refine vx_catch S.2.2.2.1 [⟨0, 9, 12, 13⟩] ⟨0, 9, 15, 24⟩ [] ht (fun z hz => by
        rcases List.mem_cons.mp hz with rfl | hz
        · exact Or.inr ⟨by decide, _, S.2.2.2.2 _ m_225, hX.2.2.nc ncx31⟩
        cases hz) (by decide) (by decide) (S.2.2.2.2 _ m_333) (hX.2.2.face n_344 fcx3) hce hcv hcl ?_
      refine lv_astore_n (lv' := [(3, .ref q), (0, .ref (ad 0)), (1, .int a0), (2, .ref ao)]) hx hb dL_open_15 rfl hl (by decide) rfl (fun ls hl => ?_)
      refine lv_iconst (v := 2) hx hb dL_open_16 (by decide) ?_
      refine vx_ret ?_
      exact W.iret (v := 2) hx hb hr (fun t ht9 hW => ⟨2, _, rfl, by rw [ht9]; exact hO1, hS1.F ht9, Or.inr ⟨he, by rw [hk]; rfl, by rw [ht9]; exact hX1⟩⟩) hS1.2.2 dL_open_17

theorem ek_count (σ : kS) (nm ns : Nat) (a0 : Int32) (b0 : Int32) (c0 : Int32) (d0 : Int32) : eX_count σ a0 b0 c0 d0 = 0 ∨ eX_count σ a0 b0 c0 d0 = 1 ∨ eX_count σ a0 b0 c0 d0 = 2 ∨ eX_count σ a0 b0 c0 d0 = 3 := by
  unfold eX_count
  (repeat' split) <;> decide
set_option maxHeartbeats 4000000 in
set_option maxRecDepth 100000 in
theorem cL_count_c (l : Launch) (G : kG) (ad : Nat → Nat) (σ : kS) (nm ns : Nat) (a0 b0 c0 d0 : Int32) (hst : l.stackTraces = false) (hns : σ 18 0 = nI ns) (hns4 : ns ≤ 40) (hnm : σ 17 0 = nI nm) (hnm2 : nm ≤ 200)   (ao : Nat) (f : Nat → Int64) (A1 : Nat → Prop) (hD : DD 20 A1 ad) (hao : ¬ A1 ao) : vx_Met l yL_count [.codeWith yL_count cL_count 7 (some .int) [(0, 21, 24, 13), (0, 21, 28, 15), (0, 21, 32, 24)]] ({ frames := 8, cells := 5, slots := 30, locals := 150 }) (va_Pc [.ref (ad 0), .int a0, .int b0, .int c0, .int d0, .ref ao] (PL G ad ao σ f)) (oL G ad ao (fun q => A1 q ∨ q = ao) (eX_count σ a0 b0 c0 d0) (if eX_count σ a0 b0 c0 d0 = 1 then 1 else if eX_count σ a0 b0 c0 d0 = 2 then 2 else 3) ((if bI (agB (adS σ (lnN a0 c0) b0 d0) (lnN a0 c0)) = 0 then 0 else 1)) σ ((adS σ (lnN a0 c0) b0 d0))) (fun _ _ _ => False) 5 30 (fun q => A1 q ∨ q = ao) := by
  refine kh_of (by decide) (Nat.le_of_ble_eq_true rfl) (fun U h => h.1.2.2) ?_
  intro p e s m below meth c ls S hr hlocks ht hB hl
  have hx := S.1
  have hb := S.2.1
  obtain ⟨hX, hZ, hO⟩ := hB
  have hl : lv_has ls 7 [(0, .ref (ad 0)), (1, .int a0), (2, .int b0), (3, .int c0), (4, .int d0), (5, .ref ao)] := hl
  refine lv_aload hx hb dL_count_0 (lv_at hl 5 rfl) ?_
  refine lv_iconst (v := 0) hx hb dL_count_2 (by decide) ?_
  refine lv_aload_n hx hb dL_count_3 rfl (lv_at hl 0 rfl) ?_
  refine lv_iload_n hx hb dL_count_4 rfl (lv_at hl 1 rfl) ?_
  refine lv_iload_n hx hb dL_count_5 rfl (lv_at hl 2 rfl) ?_
  refine lv_iload_n hx hb dL_count_6 rfl (lv_at hl 3 rfl) ?_
  refine lv_iload hx hb dL_count_7 (lv_at hl 4 rfl) ?_
  refine q_hw (rx_V S ⟨m_385, m_386, m_387, m_35, m_388⟩ ⟨rfl, by decide, by decide, by decide +kernel⟩ (c_count l G ad σ nm ns a0 b0 c0 d0 hst hns hns4 hnm hnm2 A1 hD) ⟨rfl, rfl, Nat.le_of_ble_eq_true rfl, Nat.le_of_ble_eq_true rfl⟩ (pv_X hX 0 rfl rfl bl_PXZ (bXZ hX hZ)) (n := 4) (As := [.int a0, .int b0, .int c0, .int d0]) (rest := [.int 0, .ref ao]) rfl hl.1 rfl (Nat.le_of_ble_eq_true rfl) ⟨Nat.le_of_ble_eq_true rfl, Nat.le_of_ble_eq_true rfl⟩ dL_count_9) (va_S.rf (A := (fun q => A1 q ∨ q = ao))) (fun q h => Or.inl h) (fun r H1 L1 ⟨he, hv⟩ h1 f1 hS1 => ?_) (fun x q ce H1 L1 ⟨he, hq⟩ f1 hS1 hce hcv hcl => ?_)
  · subst hv
    have hO1 := kpO hO hao f1
    refine lv_if_eq (tgt := 19) hx hb dL_count_12 (by decide) (fun cz => ?_) (fun cz => ?_)
    · refine lv_lconst (v := 0) hx hb dL_count_19 (by decide) ?_
      refine k_last S hX.2 hO1 hS1 (Or.inr rfl) dL_count_20 (fun H2 L2 h2 f2 hS2 => ?_)
      have h3 := kpX h1 hD hao f2
      refine lv_goto (tgt := 36) hx hb dL_count_21 (by decide) ?_
      refine lv_iconst (v := 0) hx hb dL_count_36 (by decide) ?_
      refine vx_ret ?_
      exact W.iret (v := 0) hx hb hr (fun t ht9 hW => ⟨0, _, rfl, by rw [ht9]; exact h2, hS2.F ht9, Or.inl ⟨he, rfl, by rw [if_pos cz]; rfl, by rw [ht9]; exact h3⟩⟩) hS2.2.2 dL_count_37
    · refine lv_lconst (v := 1) hx hb dL_count_15 (by decide) ?_
      refine lv_goto (tgt := 20) hx hb dL_count_16 (by decide) ?_
      refine k_last S hX.2 hO1 hS1 (Or.inr rfl) dL_count_20 (fun H2 L2 h2 f2 hS2 => ?_)
      have h3 := kpX h1 hD hao f2
      refine lv_goto (tgt := 36) hx hb dL_count_21 (by decide) ?_
      refine lv_iconst (v := 0) hx hb dL_count_36 (by decide) ?_
      refine vx_ret ?_
      exact W.iret (v := 0) hx hb hr (fun t ht9 hW => ⟨0, _, rfl, by rw [ht9]; exact h2, hS2.F ht9, Or.inl ⟨he, rfl, by rw [if_neg cz]; rfl, by rw [ht9]; exact h3⟩⟩) hS2.2.2 dL_count_37
  · have hX1 := kp hX.1 f1
    have hO1 := kp hO f1
    rcases ek_count σ nm ns a0 b0 c0 d0 with hk | hk | hk | hk
    · exact absurd hk he
    · rw [hk] at hq
      subst hq
      refine vx_catch S.2.2.2.1 [] ⟨0, 21, 24, 13⟩ [⟨0, 21, 28, 15⟩, ⟨0, 21, 32, 24⟩] ht (fun z hz => by cases hz) (by decide) (by decide) (S.2.2.2.2 _ m_225) (hX.2.2.face n_236 fcx1) hce hcv hcl ?_
      refine lv_astore (lv' := [(6, .ref q), (0, .ref (ad 0)), (1, .int a0), (2, .int b0), (3, .int c0), (4, .int d0), (5, .ref ao)]) hx hb dL_count_24 hl (by decide) rfl (fun ls hl => ?_)
      refine lv_iconst (v := 1) hx hb dL_count_26 (by decide) ?_
      refine vx_ret ?_
      exact W.iret (v := 1) hx hb hr (fun t ht9 hW => ⟨1, _, rfl, by rw [ht9]; exact hO1, hS1.F ht9, Or.inr ⟨he, by rw [hk]; rfl, by rw [ht9]; exact hX1⟩⟩) hS1.2.2 dL_count_27
    · rw [hk] at hq
      subst hq
      refine vx_catch S.2.2.2.1 [⟨0, 21, 24, 13⟩] ⟨0, 21, 28, 15⟩ [⟨0, 21, 32, 24⟩] ht (fun z hz => by
        rcases List.mem_cons.mp hz with rfl | hz
        · exact Or.inr ⟨by decide, _, S.2.2.2.2 _ m_225, hX.2.2.nc ncx21⟩
        cases hz) (by decide) (by decide) (S.2.2.2.2 _ m_226) (hX.2.2.face n_308 fcx2) hce hcv hcl ?_
      refine lv_astore (lv' := [(6, .ref q), (0, .ref (ad 0)), (1, .int a0), (2, .int b0), (3, .int c0), (4, .int d0), (5, .ref ao)]) hx hb dL_count_28 hl (by decide) rfl (fun ls hl => ?_)
      refine lv_iconst (v := 2) hx hb dL_count_30 (by decide) ?_
      refine vx_ret ?_
      exact W.iret (v := 2) hx hb hr (fun t ht9 hW => ⟨2, _, rfl, by rw [ht9]; exact hO1, hS1.F ht9, Or.inr ⟨he, by rw [hk]; rfl, by rw [ht9]; exact hX1⟩⟩) hS1.2.2 dL_count_31
    · rw [hk] at hq
      subst hq
      refine vx_catch S.2.2.2.1 [⟨0, 21, 24, 13⟩, ⟨0, 21, 28, 15⟩] ⟨0, 21, 32, 24⟩ [] ht (fun z hz => by
        rcases List.mem_cons.mp hz with rfl | hz
        · exact Or.inr ⟨by decide, _, S.2.2.2.2 _ m_225, hX.2.2.nc ncx31⟩
        rcases List.mem_cons.mp hz with rfl | hz
        · exact Or.inr ⟨by decide, _, S.2.2.2.2 _ m_226, hX.2.2.nc ncx32⟩
        cases hz) (by decide) (by decide) (S.2.2.2.2 _ m_333) (hX.2.2.face n_344 fcx3) hce hcv hcl ?_
      refine lv_astore (lv' := [(6, .ref q), (0, .ref (ad 0)), (1, .int a0), (2, .int b0), (3, .int c0), (4, .int d0), (5, .ref ao)]) hx hb dL_count_32 hl (by decide) rfl (fun ls hl => ?_)
      refine lv_iconst (v := 3) hx hb dL_count_34 (by decide) ?_
      refine vx_ret ?_
      exact W.iret (v := 3) hx hb hr (fun t ht9 hW => ⟨3, _, rfl, by rw [ht9]; exact hO1, hS1.F ht9, Or.inr ⟨he, by rw [hk]; rfl, by rw [ht9]; exact hX1⟩⟩) hS1.2.2 dL_count_35

theorem ek_close (σ : kS) (nm ns : Nat) (a0 : Int32) : eX_close σ a0 = 0 ∨ eX_close σ a0 = 1 ∨ eX_close σ a0 = 3 := by
  unfold eX_close
  (repeat' split) <;> decide
set_option maxHeartbeats 4000000 in
set_option maxRecDepth 100000 in
theorem cL_close_c (l : Launch) (G : kG) (ad : Nat → Nat) (σ : kS) (nm ns : Nat) (a0 : Int32) (hst : l.stackTraces = false) (hns : σ 18 0 = nI ns) (hns4 : ns ≤ 40) (hnm : σ 17 0 = nI nm) (hnm2 : nm ≤ 200)   (ao : Nat) (f : Nat → Int64) (A1 : Nat → Prop) (hD : DD 20 A1 ad) (hao : ¬ A1 ao) : vx_Met l yL_close [.codeWith yL_close cL_close 4 (some .int) [(0, 9, 12, 13), (0, 9, 15, 24)]] ({ frames := 8, cells := 2, slots := 12, locals := 146 }) (va_Pc [.ref (ad 0), .int a0, .ref ao] (PL G ad ao σ f)) (oL G ad ao (fun q => A1 q ∨ q = ao) (eX_close σ a0) (if eX_close σ a0 = 1 then 1 else if eX_close σ a0 = 3 then 2 else 3) ((clA σ (ixN a0) 5 : Int32).toInt64) σ ((su σ 9 (ixN a0) 1))) (fun _ _ _ => False) 2 12 (fun q => A1 q ∨ q = ao) := by
  refine kh_of (by decide) (Nat.le_of_ble_eq_true rfl) (fun U h => h.1.2.2) ?_
  intro p e s m below meth c ls S hr hlocks ht hB hl
  have hx := S.1
  have hb := S.2.1
  obtain ⟨hX, hZ, hO⟩ := hB
  have hl : lv_has ls 4 [(0, .ref (ad 0)), (1, .int a0), (2, .ref ao)] := hl
  refine lv_aload_n hx hb dL_close_0 rfl (lv_at hl 2 rfl) ?_
  refine lv_iconst (v := 0) hx hb dL_close_1 (by decide) ?_
  refine lv_aload_n hx hb dL_close_2 rfl (lv_at hl 0 rfl) ?_
  refine lv_iload_n hx hb dL_close_3 rfl (lv_at hl 1 rfl) ?_
  refine q_hw (rx_V S ⟨m_425, m_426, m_427, m_35, m_428⟩ ⟨rfl, by decide, by decide, by decide +kernel⟩ (c_close l G ad σ nm ns a0 hst hns hns4 hnm hnm2 A1 hD) ⟨rfl, rfl, Nat.le_of_ble_eq_true rfl, Nat.le_of_ble_eq_true rfl⟩ (pv_X hX 0 rfl rfl bl_PXZ (bXZ hX hZ)) (n := 1) (As := [.int a0]) (rest := [.int 0, .ref ao]) rfl hl.1 rfl (Nat.le_of_ble_eq_true rfl) ⟨Nat.le_of_ble_eq_true rfl, Nat.le_of_ble_eq_true rfl⟩ dL_close_4) (va_S.rf (A := (fun q => A1 q ∨ q = ao))) (fun q h => Or.inl h) (fun r H1 L1 ⟨he, hv⟩ h1 f1 hS1 => ?_) (fun x q ce H1 L1 ⟨he, hq⟩ f1 hS1 hce hcv hcl => ?_)
  · subst hv
    have hO1 := kpO hO hao f1
    refine lv_i2l (v := (clA σ (ixN a0) 5 : Int32).toInt64) hx hb dL_close_7 rfl ?_
    refine k_last S hX.2 hO1 hS1 (Or.inr rfl) dL_close_8 (fun H2 L2 h2 f2 hS2 => ?_)
    have h3 := kpX h1 hD hao f2
    refine lv_goto (tgt := 18) hx hb dL_close_9 (by decide) ?_
    refine lv_iconst (v := 0) hx hb dL_close_18 (by decide) ?_
    refine vx_ret ?_
    exact W.iret (v := 0) hx hb hr (fun t ht9 hW => ⟨0, _, rfl, by rw [ht9]; exact h2, hS2.F ht9, Or.inl ⟨he, rfl, rfl, by rw [ht9]; exact h3⟩⟩) hS2.2.2 dL_close_19
  · have hX1 := kp hX.1 f1
    have hO1 := kp hO f1
    rcases ek_close σ nm ns a0 with hk | hk | hk
    · exact absurd hk he
    · rw [hk] at hq
      subst hq
      refine vx_catch S.2.2.2.1 [] ⟨0, 9, 12, 13⟩ [⟨0, 9, 15, 24⟩] ht (fun z hz => by cases hz) (by decide) (by decide) (S.2.2.2.2 _ m_225) (hX.2.2.face n_236 fcx1) hce hcv hcl ?_
      refine lv_astore_n (lv' := [(3, .ref q), (0, .ref (ad 0)), (1, .int a0), (2, .ref ao)]) hx hb dL_close_12 rfl hl (by decide) rfl (fun ls hl => ?_)
      refine lv_iconst (v := 1) hx hb dL_close_13 (by decide) ?_
      refine vx_ret ?_
      exact W.iret (v := 1) hx hb hr (fun t ht9 hW => ⟨1, _, rfl, by rw [ht9]; exact hO1, hS1.F ht9, Or.inr ⟨he, by rw [hk]; rfl, by rw [ht9]; exact hX1⟩⟩) hS1.2.2 dL_close_14
    · rw [hk] at hq
      subst hq
      refine vx_catch S.2.2.2.1 [⟨0, 9, 12, 13⟩] ⟨0, 9, 15, 24⟩ [] ht (fun z hz => by
        rcases List.mem_cons.mp hz with rfl | hz
        · exact Or.inr ⟨by decide, _, S.2.2.2.2 _ m_225, hX.2.2.nc ncx31⟩
        cases hz) (by decide) (by decide) (S.2.2.2.2 _ m_333) (hX.2.2.face n_344 fcx3) hce hcv hcl ?_
      refine lv_astore_n (lv' := [(3, .ref q), (0, .ref (ad 0)), (1, .int a0), (2, .ref ao)]) hx hb dL_close_15 rfl hl (by decide) rfl (fun ls hl => ?_)
      refine lv_iconst (v := 2) hx hb dL_close_16 (by decide) ?_
      refine vx_ret ?_
      exact W.iret (v := 2) hx hb hr (fun t ht9 hW => ⟨2, _, rfl, by rw [ht9]; exact hO1, hS1.F ht9, Or.inr ⟨he, by rw [hk]; rfl, by rw [ht9]; exact hX1⟩⟩) hS1.2.2 dL_close_17

theorem ek_sign (σ : kS) (nm ns : Nat) (a0 : Int32) (b0 : Int32) (c0 : Int32) : eX_sign σ nm ns a0 b0 c0 = 0 ∨ eX_sign σ nm ns a0 b0 c0 = 1 ∨ eX_sign σ nm ns a0 b0 c0 = 4 ∨ eX_sign σ nm ns a0 b0 c0 = 3 := by
  unfold eX_sign
  (repeat' split) <;> decide
set_option maxHeartbeats 4000000 in
set_option maxRecDepth 100000 in
theorem cL_sign_c (l : Launch) (G : kG) (ad : Nat → Nat) (σ : kS) (nm ns : Nat) (a0 b0 c0 : Int32) (hst : l.stackTraces = false) (hns : σ 18 0 = nI ns) (hns4 : ns ≤ 40) (hnm : σ 17 0 = nI nm) (hnm2 : nm ≤ 200)   (ao : Nat) (f : Nat → Int64) (A1 : Nat → Prop) (hD : DD 20 A1 ad) (hao : ¬ A1 ao) : vx_Met l yL_sign [.codeWith yL_sign cL_sign 6 (some .int) [(0, 12, 15, 13), (0, 12, 19, 44), (0, 12, 23, 24)]] ({ frames := 8, cells := 5, slots := 30, locals := 192 }) (va_Pc [.ref (ad 0), .int a0, .int b0, .int c0, .ref ao] (PL G ad ao σ f)) (oL G ad ao (fun q => A1 q ∨ q = ao) (eX_sign σ nm ns a0 b0 c0) (if eX_sign σ nm ns a0 b0 c0 = 1 then 1 else if eX_sign σ nm ns a0 b0 c0 = 4 then 2 else 3) ((gpV σ nm ns (ixN a0) (ixN b0) : Int32).toInt64) σ ((wrS σ (lnN a0 b0) (gpV σ nm ns (ixN a0) (ixN b0))))) (fun _ _ _ => False) 5 30 (fun q => A1 q ∨ q = ao) := by
  refine kh_of (by decide) (Nat.le_of_ble_eq_true rfl) (fun U h => h.1.2.2) ?_
  intro p e s m below meth c ls S hr hlocks ht hB hl
  have hx := S.1
  have hb := S.2.1
  obtain ⟨hX, hZ, hO⟩ := hB
  have hl : lv_has ls 6 [(0, .ref (ad 0)), (1, .int a0), (2, .int b0), (3, .int c0), (4, .ref ao)] := hl
  refine lv_aload hx hb dL_sign_0 (lv_at hl 4 rfl) ?_
  refine lv_iconst (v := 0) hx hb dL_sign_2 (by decide) ?_
  refine lv_aload_n hx hb dL_sign_3 rfl (lv_at hl 0 rfl) ?_
  refine lv_iload_n hx hb dL_sign_4 rfl (lv_at hl 1 rfl) ?_
  refine lv_iload_n hx hb dL_sign_5 rfl (lv_at hl 2 rfl) ?_
  refine lv_iload_n hx hb dL_sign_6 rfl (lv_at hl 3 rfl) ?_
  refine q_hw (rx_V S ⟨m_435, m_436, m_437, m_35, m_438⟩ ⟨rfl, by decide, by decide, by decide +kernel⟩ (c_sign l G ad σ nm ns a0 b0 c0 hst hns hns4 hnm hnm2 A1 hD) ⟨rfl, rfl, Nat.le_of_ble_eq_true rfl, Nat.le_of_ble_eq_true rfl⟩ (pv_X hX 0 rfl rfl bl_PXZ (bXZ hX hZ)) (n := 3) (As := [.int a0, .int b0, .int c0]) (rest := [.int 0, .ref ao]) rfl hl.1 rfl (Nat.le_of_ble_eq_true rfl) ⟨Nat.le_of_ble_eq_true rfl, Nat.le_of_ble_eq_true rfl⟩ dL_sign_7) (va_S.rf (A := (fun q => A1 q ∨ q = ao))) (fun q h => Or.inl h) (fun r H1 L1 ⟨he, hv⟩ h1 f1 hS1 => ?_) (fun x q ce H1 L1 ⟨he, hq⟩ f1 hS1 hce hcv hcl => ?_)
  · subst hv
    have hO1 := kpO hO hao f1
    refine lv_i2l (v := (gpV σ nm ns (ixN a0) (ixN b0) : Int32).toInt64) hx hb dL_sign_10 rfl ?_
    refine k_last S hX.2 hO1 hS1 (Or.inr rfl) dL_sign_11 (fun H2 L2 h2 f2 hS2 => ?_)
    have h3 := kpX h1 hD hao f2
    refine lv_goto (tgt := 27) hx hb dL_sign_12 (by decide) ?_
    refine lv_iconst (v := 0) hx hb dL_sign_27 (by decide) ?_
    refine vx_ret ?_
    exact W.iret (v := 0) hx hb hr (fun t ht9 hW => ⟨0, _, rfl, by rw [ht9]; exact h2, hS2.F ht9, Or.inl ⟨he, rfl, rfl, by rw [ht9]; exact h3⟩⟩) hS2.2.2 dL_sign_28
  · have hX1 := kp hX.1 f1
    have hO1 := kp hO f1
    rcases ek_sign σ nm ns a0 b0 c0 with hk | hk | hk | hk
    · exact absurd hk he
    · rw [hk] at hq
      subst hq
      refine vx_catch S.2.2.2.1 [] ⟨0, 12, 15, 13⟩ [⟨0, 12, 19, 44⟩, ⟨0, 12, 23, 24⟩] ht (fun z hz => by cases hz) (by decide) (by decide) (S.2.2.2.2 _ m_225) (hX.2.2.face n_236 fcx1) hce hcv hcl ?_
      refine lv_astore (lv' := [(5, .ref q), (0, .ref (ad 0)), (1, .int a0), (2, .int b0), (3, .int c0), (4, .ref ao)]) hx hb dL_sign_15 hl (by decide) rfl (fun ls hl => ?_)
      refine lv_iconst (v := 1) hx hb dL_sign_17 (by decide) ?_
      refine vx_ret ?_
      exact W.iret (v := 1) hx hb hr (fun t ht9 hW => ⟨1, _, rfl, by rw [ht9]; exact hO1, hS1.F ht9, Or.inr ⟨he, by rw [hk]; rfl, by rw [ht9]; exact hX1⟩⟩) hS1.2.2 dL_sign_18
    · rw [hk] at hq
      subst hq
      refine vx_catch S.2.2.2.1 [⟨0, 12, 15, 13⟩] ⟨0, 12, 19, 44⟩ [⟨0, 12, 23, 24⟩] ht (fun z hz => by
        rcases List.mem_cons.mp hz with rfl | hz
        · exact Or.inr ⟨by decide, _, S.2.2.2.2 _ m_225, hX.2.2.nc ncx41⟩
        cases hz) (by decide) (by decide) (S.2.2.2.2 _ m_434) (hX.2.2.face n_445 fcx4) hce hcv hcl ?_
      refine lv_astore (lv' := [(5, .ref q), (0, .ref (ad 0)), (1, .int a0), (2, .int b0), (3, .int c0), (4, .ref ao)]) hx hb dL_sign_19 hl (by decide) rfl (fun ls hl => ?_)
      refine lv_iconst (v := 2) hx hb dL_sign_21 (by decide) ?_
      refine vx_ret ?_
      exact W.iret (v := 2) hx hb hr (fun t ht9 hW => ⟨2, _, rfl, by rw [ht9]; exact hO1, hS1.F ht9, Or.inr ⟨he, by rw [hk]; rfl, by rw [ht9]; exact hX1⟩⟩) hS1.2.2 dL_sign_22
    · rw [hk] at hq
      subst hq
      refine vx_catch S.2.2.2.1 [⟨0, 12, 15, 13⟩, ⟨0, 12, 19, 44⟩] ⟨0, 12, 23, 24⟩ [] ht (fun z hz => by
        rcases List.mem_cons.mp hz with rfl | hz
        · exact Or.inr ⟨by decide, _, S.2.2.2.2 _ m_225, hX.2.2.nc ncx31⟩
        rcases List.mem_cons.mp hz with rfl | hz
        · exact Or.inr ⟨by decide, _, S.2.2.2.2 _ m_434, hX.2.2.nc ncx34⟩
        cases hz) (by decide) (by decide) (S.2.2.2.2 _ m_333) (hX.2.2.face n_344 fcx3) hce hcv hcl ?_
      refine lv_astore (lv' := [(5, .ref q), (0, .ref (ad 0)), (1, .int a0), (2, .int b0), (3, .int c0), (4, .ref ao)]) hx hb dL_sign_23 hl (by decide) rfl (fun ls hl => ?_)
      refine lv_iconst (v := 3) hx hb dL_sign_25 (by decide) ?_
      refine vx_ret ?_
      exact W.iret (v := 3) hx hb hr (fun t ht9 hW => ⟨3, _, rfl, by rw [ht9]; exact hO1, hS1.F ht9, Or.inr ⟨he, by rw [hk]; rfl, by rw [ht9]; exact hX1⟩⟩) hS1.2.2 dL_sign_26

theorem ek_settle (σ : kS) (nm ns : Nat) (a0 : Int32) (b0 : Int32) (c0 : Int32) : eX_settle σ nm ns a0 b0 c0 = 0 ∨ eX_settle σ nm ns a0 b0 c0 = 1 ∨ eX_settle σ nm ns a0 b0 c0 = 4 ∨ eX_settle σ nm ns a0 b0 c0 = 3 := by
  unfold eX_settle
  (repeat' split) <;> decide
set_option maxHeartbeats 4000000 in
set_option maxRecDepth 100000 in
theorem cL_settle_c (l : Launch) (G : kG) (ad : Nat → Nat) (σ : kS) (nm ns : Nat) (a0 b0 c0 : Int32) (hst : l.stackTraces = false) (hns : σ 18 0 = nI ns) (hns4 : ns ≤ 40) (hnm : σ 17 0 = nI nm) (hnm2 : nm ≤ 200)   (ao : Nat) (f : Nat → Int64) (A1 : Nat → Prop) (hD : DD 20 A1 ad) (hao : ¬ A1 ao) : vx_Met l yL_settle [.codeWith yL_settle cL_settle 6 (some .int) [(0, 12, 15, 13), (0, 12, 19, 44), (0, 12, 23, 24)]] ({ frames := 8, cells := 6, slots := 36, locals := 216 }) (va_Pc [.ref (ad 0), .int a0, .int b0, .int c0, .ref ao] (PL G ad ao σ f)) (oL G ad ao (fun q => A1 q ∨ q = ao) (eX_settle σ nm ns a0 b0 c0) (if eX_settle σ nm ns a0 b0 c0 = 1 then 1 else if eX_settle σ nm ns a0 b0 c0 = 4 then 2 else 3) ((abV (gpV σ nm ns (ixN a0) (ixN c0)) : Int32).toInt64) σ ((wrS (wrS σ (lnN a0 c0) (gpV σ nm ns (ixN a0) (ixN c0))) (lnN b0 c0) (-(gpV σ nm ns (ixN a0) (ixN c0)))))) (fun _ _ _ => False) 6 36 (fun q => A1 q ∨ q = ao) := by
  refine kh_of (by decide) (Nat.le_of_ble_eq_true rfl) (fun U h => h.1.2.2) ?_
  intro p e s m below meth c ls S hr hlocks ht hB hl
  have hx := S.1
  have hb := S.2.1
  obtain ⟨hX, hZ, hO⟩ := hB
  have hl : lv_has ls 6 [(0, .ref (ad 0)), (1, .int a0), (2, .int b0), (3, .int c0), (4, .ref ao)] := hl
  refine lv_aload hx hb dL_settle_0 (lv_at hl 4 rfl) ?_
  refine lv_iconst (v := 0) hx hb dL_settle_2 (by decide) ?_
  refine lv_aload_n hx hb dL_settle_3 rfl (lv_at hl 0 rfl) ?_
  refine lv_iload_n hx hb dL_settle_4 rfl (lv_at hl 1 rfl) ?_
  refine lv_iload_n hx hb dL_settle_5 rfl (lv_at hl 2 rfl) ?_
  refine lv_iload_n hx hb dL_settle_6 rfl (lv_at hl 3 rfl) ?_
  refine q_hw (rx_V S ⟨m_479, m_480, m_481, m_35, m_482⟩ ⟨rfl, by decide, by decide, by decide +kernel⟩ (c_settle l G ad σ nm ns a0 b0 c0 hst hns hns4 hnm hnm2 A1 hD) ⟨rfl, rfl, Nat.le_of_ble_eq_true rfl, Nat.le_of_ble_eq_true rfl⟩ (pv_X hX 0 rfl rfl bl_PXZ (bXZ hX hZ)) (n := 3) (As := [.int a0, .int b0, .int c0]) (rest := [.int 0, .ref ao]) rfl hl.1 rfl (Nat.le_of_ble_eq_true rfl) ⟨Nat.le_of_ble_eq_true rfl, Nat.le_of_ble_eq_true rfl⟩ dL_settle_7) (va_S.rf (A := (fun q => A1 q ∨ q = ao))) (fun q h => Or.inl h) (fun r H1 L1 ⟨he, hv⟩ h1 f1 hS1 => ?_) (fun x q ce H1 L1 ⟨he, hq⟩ f1 hS1 hce hcv hcl => ?_)
  · subst hv
    have hO1 := kpO hO hao f1
    refine lv_i2l (v := (abV (gpV σ nm ns (ixN a0) (ixN c0)) : Int32).toInt64) hx hb dL_settle_10 rfl ?_
    refine k_last S hX.2 hO1 hS1 (Or.inr rfl) dL_settle_11 (fun H2 L2 h2 f2 hS2 => ?_)
    have h3 := kpX h1 hD hao f2
    refine lv_goto (tgt := 27) hx hb dL_settle_12 (by decide) ?_
    refine lv_iconst (v := 0) hx hb dL_settle_27 (by decide) ?_
    refine vx_ret ?_
    exact W.iret (v := 0) hx hb hr (fun t ht9 hW => ⟨0, _, rfl, by rw [ht9]; exact h2, hS2.F ht9, Or.inl ⟨he, rfl, rfl, by rw [ht9]; exact h3⟩⟩) hS2.2.2 dL_settle_28
  · have hX1 := kp hX.1 f1
    have hO1 := kp hO f1
    rcases ek_settle σ nm ns a0 b0 c0 with hk | hk | hk | hk
    · exact absurd hk he
    · rw [hk] at hq
      subst hq
      refine vx_catch S.2.2.2.1 [] ⟨0, 12, 15, 13⟩ [⟨0, 12, 19, 44⟩, ⟨0, 12, 23, 24⟩] ht (fun z hz => by cases hz) (by decide) (by decide) (S.2.2.2.2 _ m_225) (hX.2.2.face n_236 fcx1) hce hcv hcl ?_
      refine lv_astore (lv' := [(5, .ref q), (0, .ref (ad 0)), (1, .int a0), (2, .int b0), (3, .int c0), (4, .ref ao)]) hx hb dL_settle_15 hl (by decide) rfl (fun ls hl => ?_)
      refine lv_iconst (v := 1) hx hb dL_settle_17 (by decide) ?_
      refine vx_ret ?_
      exact W.iret (v := 1) hx hb hr (fun t ht9 hW => ⟨1, _, rfl, by rw [ht9]; exact hO1, hS1.F ht9, Or.inr ⟨he, by rw [hk]; rfl, by rw [ht9]; exact hX1⟩⟩) hS1.2.2 dL_settle_18
    · rw [hk] at hq
      subst hq
      refine vx_catch S.2.2.2.1 [⟨0, 12, 15, 13⟩] ⟨0, 12, 19, 44⟩ [⟨0, 12, 23, 24⟩] ht (fun z hz => by
        rcases List.mem_cons.mp hz with rfl | hz
        · exact Or.inr ⟨by decide, _, S.2.2.2.2 _ m_225, hX.2.2.nc ncx41⟩
        cases hz) (by decide) (by decide) (S.2.2.2.2 _ m_434) (hX.2.2.face n_445 fcx4) hce hcv hcl ?_
      refine lv_astore (lv' := [(5, .ref q), (0, .ref (ad 0)), (1, .int a0), (2, .int b0), (3, .int c0), (4, .ref ao)]) hx hb dL_settle_19 hl (by decide) rfl (fun ls hl => ?_)
      refine lv_iconst (v := 2) hx hb dL_settle_21 (by decide) ?_
      refine vx_ret ?_
      exact W.iret (v := 2) hx hb hr (fun t ht9 hW => ⟨2, _, rfl, by rw [ht9]; exact hO1, hS1.F ht9, Or.inr ⟨he, by rw [hk]; rfl, by rw [ht9]; exact hX1⟩⟩) hS1.2.2 dL_settle_22
    · rw [hk] at hq
      subst hq
      refine vx_catch S.2.2.2.1 [⟨0, 12, 15, 13⟩, ⟨0, 12, 19, 44⟩] ⟨0, 12, 23, 24⟩ [] ht (fun z hz => by
        rcases List.mem_cons.mp hz with rfl | hz
        · exact Or.inr ⟨by decide, _, S.2.2.2.2 _ m_225, hX.2.2.nc ncx31⟩
        rcases List.mem_cons.mp hz with rfl | hz
        · exact Or.inr ⟨by decide, _, S.2.2.2.2 _ m_434, hX.2.2.nc ncx34⟩
        cases hz) (by decide) (by decide) (S.2.2.2.2 _ m_333) (hX.2.2.face n_344 fcx3) hce hcv hcl ?_
      refine lv_astore (lv' := [(5, .ref q), (0, .ref (ad 0)), (1, .int a0), (2, .int b0), (3, .int c0), (4, .ref ao)]) hx hb dL_settle_23 hl (by decide) rfl (fun ls hl => ?_)
      refine lv_iconst (v := 3) hx hb dL_settle_25 (by decide) ?_
      refine vx_ret ?_
      exact W.iret (v := 3) hx hb hr (fun t ht9 hW => ⟨3, _, rfl, by rw [ht9]; exact hO1, hS1.F ht9, Or.inr ⟨he, by rw [hk]; rfl, by rw [ht9]; exact hX1⟩⟩) hS1.2.2 dL_settle_26

theorem ek_book (σ : kS) (nm ns : Nat) (a0 : Int32) (b0 : Int32) : eX_two a0 12 b0 5 = 0 ∨ eX_two a0 12 b0 5 = 1 := by
  unfold eX_two
  (repeat' split) <;> decide
set_option maxHeartbeats 4000000 in
set_option maxRecDepth 100000 in
theorem cL_book_c (l : Launch) (G : kG) (ad : Nat → Nat) (σ : kS) (nm ns : Nat) (a0 b0 : Int32) (hst : l.stackTraces = false) (hns : σ 18 0 = nI ns) (hns4 : ns ≤ 40) (hnm : σ 17 0 = nI nm) (hnm2 : nm ≤ 200)  (ao : Nat) (f : Nat → Int64) (A1 : Nat → Prop) (hD : DD 20 A1 ad) (hao : ¬ A1 ao) : vx_Met l yL_book [.codeWith yL_book cL_book 5 (some .int) [(0, 10, 13, 13)]] ({ frames := 8, cells := 2, slots := 12, locals := 168 }) (va_Pc [.ref (ad 0), .int a0, .int b0, .ref ao] (PL G ad ao σ f)) (oL G ad ao (fun q => A1 q ∨ q = ao) (eX_two a0 12 b0 5) (if eX_two a0 12 b0 5 = 1 then 1 else 2) ((boV σ nm ns a0 (ixN b0) (σ 16 0) : Int32).toInt64) σ (σ)) (fun _ _ _ => False) 2 12 (fun q => A1 q ∨ q = ao) := by
  refine kh_of (by decide) (Nat.le_of_ble_eq_true rfl) (fun U h => h.1.2.2) ?_
  intro p e s m below meth c ls S hr hlocks ht hB hl
  have hx := S.1
  have hb := S.2.1
  obtain ⟨hX, hZ, hO⟩ := hB
  have hl : lv_has ls 5 [(0, .ref (ad 0)), (1, .int a0), (2, .int b0), (3, .ref ao)] := hl
  refine lv_aload_n hx hb dL_book_0 rfl (lv_at hl 3 rfl) ?_
  refine lv_iconst (v := 0) hx hb dL_book_1 (by decide) ?_
  refine lv_aload_n hx hb dL_book_2 rfl (lv_at hl 0 rfl) ?_
  refine lv_iload_n hx hb dL_book_3 rfl (lv_at hl 1 rfl) ?_
  refine lv_iload_n hx hb dL_book_4 rfl (lv_at hl 2 rfl) ?_
  refine q_hi (rx_V S ⟨m_491, m_492, m_493, m_35, m_494⟩ ⟨rfl, by decide, by decide, by decide +kernel⟩ (c_book l G ad σ nm ns a0 b0 hst hns hns4 hnm hnm2) ⟨rfl, rfl, Nat.le_of_ble_eq_true rfl, Nat.le_of_ble_eq_true rfl⟩ (pv_X hX 0 rfl rfl bl_PXZ (bXZ hX hZ)) (n := 2) (As := [.int a0, .int b0]) (rest := [.int 0, .ref ao]) rfl hl.1 rfl (Nat.le_of_ble_eq_true rfl) ⟨Nat.le_of_ble_eq_true rfl, Nat.le_of_ble_eq_true rfl⟩ dL_book_5) (va_S.rf (A := (fun q => A1 q ∨ q = ao))) (fun r H1 L1 ⟨he, hv⟩ h1 hS1 => ?_) (fun x q ce H1 L1 ⟨he, hq⟩ f1 hS1 hce hcv hcl => ?_)
  · subst hv
    subst h1
    have h1 := hX.1
    have hO1 := hO
    refine lv_i2l (v := (boV σ nm ns a0 (ixN b0) (σ 16 0) : Int32).toInt64) hx hb dL_book_8 rfl ?_
    refine k_last S hX.2 hO1 hS1 (Or.inr rfl) dL_book_9 (fun H2 L2 h2 f2 hS2 => ?_)
    have h3 := kpX h1 hD hao f2
    refine lv_goto (tgt := 17) hx hb dL_book_10 (by decide) ?_
    refine lv_iconst (v := 0) hx hb dL_book_17 (by decide) ?_
    refine vx_ret ?_
    exact W.iret (v := 0) hx hb hr (fun t ht9 hW => ⟨0, _, rfl, by rw [ht9]; exact h2, hS2.F ht9, Or.inl ⟨he, rfl, rfl, by rw [ht9]; exact h3⟩⟩) hS2.2.2 dL_book_18
  · have hX1 := kp hX.1 f1
    have hO1 := kp hO f1
    rcases ek_book σ nm ns a0 b0 with hk | hk
    · exact absurd hk he
    · rw [hk] at hq
      subst hq
      refine vx_catch S.2.2.2.1 [] ⟨0, 10, 13, 13⟩ [] ht (fun z hz => by cases hz) (by decide) (by decide) (S.2.2.2.2 _ m_225) (hX.2.2.face n_236 fcx1) hce hcv hcl ?_
      refine lv_astore (lv' := [(4, .ref q), (0, .ref (ad 0)), (1, .int a0), (2, .int b0), (3, .ref ao)]) hx hb dL_book_13 hl (by decide) rfl (fun ls hl => ?_)
      refine lv_iconst (v := 1) hx hb dL_book_15 (by decide) ?_
      refine vx_ret ?_
      exact W.iret (v := 1) hx hb hr (fun t ht9 hW => ⟨1, _, rfl, by rw [ht9]; exact hO1, hS1.F ht9, Or.inr ⟨he, by rw [hk]; rfl, by rw [ht9]; exact hX1⟩⟩) hS1.2.2 dL_book_16

theorem ek_bookAt (σ : kS) (nm ns : Nat) (a0 : Int32) (b0 : Int32) (c0 : Int32) : eX_bookAt σ a0 b0 c0 = 0 ∨ eX_bookAt σ a0 b0 c0 = 1 ∨ eX_bookAt σ a0 b0 c0 = 2 := by
  unfold eX_bookAt
  (repeat' split) <;> decide
set_option maxHeartbeats 4000000 in
set_option maxRecDepth 100000 in
theorem cL_bookAt_c (l : Launch) (G : kG) (ad : Nat → Nat) (σ : kS) (nm ns : Nat) (a0 b0 c0 : Int32) (hst : l.stackTraces = false) (hns : σ 18 0 = nI ns) (hns4 : ns ≤ 40) (hnm : σ 17 0 = nI nm) (hnm2 : nm ≤ 200)  (ao : Nat) (f : Nat → Int64) (A1 : Nat → Prop) (hD : DD 20 A1 ad) (hao : ¬ A1 ao) : vx_Met l yL_bookAt [.codeWith yL_bookAt cL_bookAt 6 (some .int) [(0, 12, 15, 13), (0, 12, 19, 15)]] ({ frames := 8, cells := 3, slots := 18, locals := 169 }) (va_Pc [.ref (ad 0), .int a0, .int b0, .int c0, .ref ao] (PL G ad ao σ f)) (oL G ad ao (fun q => A1 q ∨ q = ao) (eX_bookAt σ a0 b0 c0) (if eX_bookAt σ a0 b0 c0 = 1 then 1 else if eX_bookAt σ a0 b0 c0 = 2 then 2 else 3) ((boV σ nm ns a0 (ixN b0) c0 : Int32).toInt64) σ (σ)) (fun _ _ _ => False) 3 18 (fun q => A1 q ∨ q = ao) := by
  refine kh_of (by decide) (Nat.le_of_ble_eq_true rfl) (fun U h => h.1.2.2) ?_
  intro p e s m below meth c ls S hr hlocks ht hB hl
  have hx := S.1
  have hb := S.2.1
  obtain ⟨hX, hZ, hO⟩ := hB
  have hl : lv_has ls 6 [(0, .ref (ad 0)), (1, .int a0), (2, .int b0), (3, .int c0), (4, .ref ao)] := hl
  refine lv_aload hx hb dL_bookAt_0 (lv_at hl 4 rfl) ?_
  refine lv_iconst (v := 0) hx hb dL_bookAt_2 (by decide) ?_
  refine lv_aload_n hx hb dL_bookAt_3 rfl (lv_at hl 0 rfl) ?_
  refine lv_iload_n hx hb dL_bookAt_4 rfl (lv_at hl 1 rfl) ?_
  refine lv_iload_n hx hb dL_bookAt_5 rfl (lv_at hl 2 rfl) ?_
  refine lv_iload_n hx hb dL_bookAt_6 rfl (lv_at hl 3 rfl) ?_
  refine q_hi (rx_V S ⟨m_498, m_499, m_500, m_35, m_501⟩ ⟨rfl, by decide, by decide, by decide +kernel⟩ (c_bookAt l G ad σ nm ns a0 b0 c0 hst hns hns4 hnm hnm2) ⟨rfl, rfl, Nat.le_of_ble_eq_true rfl, Nat.le_of_ble_eq_true rfl⟩ (pv_X hX 0 rfl rfl bl_PXZ (bXZ hX hZ)) (n := 3) (As := [.int a0, .int b0, .int c0]) (rest := [.int 0, .ref ao]) rfl hl.1 rfl (Nat.le_of_ble_eq_true rfl) ⟨Nat.le_of_ble_eq_true rfl, Nat.le_of_ble_eq_true rfl⟩ dL_bookAt_7) (va_S.rf (A := (fun q => A1 q ∨ q = ao))) (fun r H1 L1 ⟨he, hv⟩ h1 hS1 => ?_) (fun x q ce H1 L1 ⟨he, hq⟩ f1 hS1 hce hcv hcl => ?_)
  · subst hv
    subst h1
    have h1 := hX.1
    have hO1 := hO
    refine lv_i2l (v := (boV σ nm ns a0 (ixN b0) c0 : Int32).toInt64) hx hb dL_bookAt_10 rfl ?_
    refine k_last S hX.2 hO1 hS1 (Or.inr rfl) dL_bookAt_11 (fun H2 L2 h2 f2 hS2 => ?_)
    have h3 := kpX h1 hD hao f2
    refine lv_goto (tgt := 23) hx hb dL_bookAt_12 (by decide) ?_
    refine lv_iconst (v := 0) hx hb dL_bookAt_23 (by decide) ?_
    refine vx_ret ?_
    exact W.iret (v := 0) hx hb hr (fun t ht9 hW => ⟨0, _, rfl, by rw [ht9]; exact h2, hS2.F ht9, Or.inl ⟨he, rfl, rfl, by rw [ht9]; exact h3⟩⟩) hS2.2.2 dL_bookAt_24
  · have hX1 := kp hX.1 f1
    have hO1 := kp hO f1
    rcases ek_bookAt σ nm ns a0 b0 c0 with hk | hk | hk
    · exact absurd hk he
    · rw [hk] at hq
      subst hq
      refine vx_catch S.2.2.2.1 [] ⟨0, 12, 15, 13⟩ [⟨0, 12, 19, 15⟩] ht (fun z hz => by cases hz) (by decide) (by decide) (S.2.2.2.2 _ m_225) (hX.2.2.face n_236 fcx1) hce hcv hcl ?_
      refine lv_astore (lv' := [(5, .ref q), (0, .ref (ad 0)), (1, .int a0), (2, .int b0), (3, .int c0), (4, .ref ao)]) hx hb dL_bookAt_15 hl (by decide) rfl (fun ls hl => ?_)
      refine lv_iconst (v := 1) hx hb dL_bookAt_17 (by decide) ?_
      refine vx_ret ?_
      exact W.iret (v := 1) hx hb hr (fun t ht9 hW => ⟨1, _, rfl, by rw [ht9]; exact hO1, hS1.F ht9, Or.inr ⟨he, by rw [hk]; rfl, by rw [ht9]; exact hX1⟩⟩) hS1.2.2 dL_bookAt_18
    · rw [hk] at hq
      subst hq
      refine vx_catch S.2.2.2.1 [⟨0, 12, 15, 13⟩] ⟨0, 12, 19, 15⟩ [] ht (fun z hz => by
        rcases List.mem_cons.mp hz with rfl | hz
        · exact Or.inr ⟨by decide, _, S.2.2.2.2 _ m_225, hX.2.2.nc ncx21⟩
        cases hz) (by decide) (by decide) (S.2.2.2.2 _ m_226) (hX.2.2.face n_308 fcx2) hce hcv hcl ?_
      refine lv_astore (lv' := [(5, .ref q), (0, .ref (ad 0)), (1, .int a0), (2, .int b0), (3, .int c0), (4, .ref ao)]) hx hb dL_bookAt_19 hl (by decide) rfl (fun ls hl => ?_)
      refine lv_iconst (v := 2) hx hb dL_bookAt_21 (by decide) ?_
      refine vx_ret ?_
      exact W.iret (v := 2) hx hb hr (fun t ht9 hW => ⟨2, _, rfl, by rw [ht9]; exact hO1, hS1.F ht9, Or.inr ⟨he, by rw [hk]; rfl, by rw [ht9]; exact hX1⟩⟩) hS1.2.2 dL_bookAt_22

theorem ek_worth (σ : kS) (nm ns : Nat) (a0 : Int32) : eX_one a0 12 = 0 ∨ eX_one a0 12 = 1 := by
  unfold eX_one
  (repeat' split) <;> decide
set_option maxHeartbeats 4000000 in
set_option maxRecDepth 100000 in
theorem cL_worth_c (l : Launch) (G : kG) (ad : Nat → Nat) (σ : kS) (nm ns : Nat) (a0 : Int32) (hst : l.stackTraces = false) (hns : σ 18 0 = nI ns) (hns4 : ns ≤ 40) (hnm : σ 17 0 = nI nm) (hnm2 : nm ≤ 200)  (ao : Nat) (f : Nat → Int64) (A1 : Nat → Prop) (hD : DD 20 A1 ad) (hao : ¬ A1 ao) : vx_Met l yL_worth [.codeWith yL_worth cL_worth 4 (some .int) [(0, 9, 12, 13)]] ({ frames := 8, cells := 1, slots := 6, locals := 190 }) (va_Pc [.ref (ad 0), .int a0, .ref ao] (PL G ad ao σ f)) (oL G ad ao (fun q => A1 q ∨ q = ao) (eX_one a0 12) (if eX_one a0 12 = 1 then 1 else 2) ((woF σ nm ns a0 5 : Int32).toInt64) σ (σ)) (fun _ _ _ => False) 1 6 (fun q => A1 q ∨ q = ao) := by
  refine kh_of (by decide) (Nat.le_of_ble_eq_true rfl) (fun U h => h.1.2.2) ?_
  intro p e s m below meth c ls S hr hlocks ht hB hl
  have hx := S.1
  have hb := S.2.1
  obtain ⟨hX, hZ, hO⟩ := hB
  have hl : lv_has ls 4 [(0, .ref (ad 0)), (1, .int a0), (2, .ref ao)] := hl
  refine lv_aload_n hx hb dL_worth_0 rfl (lv_at hl 2 rfl) ?_
  refine lv_iconst (v := 0) hx hb dL_worth_1 (by decide) ?_
  refine lv_aload_n hx hb dL_worth_2 rfl (lv_at hl 0 rfl) ?_
  refine lv_iload_n hx hb dL_worth_3 rfl (lv_at hl 1 rfl) ?_
  refine q_hi (rx_V S ⟨m_505, m_506, m_507, m_35, m_508⟩ ⟨rfl, by decide, by decide, by decide +kernel⟩ (c_worth l G ad σ nm ns a0 hst hns hns4 hnm hnm2) ⟨rfl, rfl, Nat.le_of_ble_eq_true rfl, Nat.le_of_ble_eq_true rfl⟩ (pv_X hX 0 rfl rfl bl_PXZ (bXZ hX hZ)) (n := 1) (As := [.int a0]) (rest := [.int 0, .ref ao]) rfl hl.1 rfl (Nat.le_of_ble_eq_true rfl) ⟨Nat.le_of_ble_eq_true rfl, Nat.le_of_ble_eq_true rfl⟩ dL_worth_4) (va_S.rf (A := (fun q => A1 q ∨ q = ao))) (fun r H1 L1 ⟨he, hv⟩ h1 hS1 => ?_) (fun x q ce H1 L1 ⟨he, hq⟩ f1 hS1 hce hcv hcl => ?_)
  · subst hv
    subst h1
    have h1 := hX.1
    have hO1 := hO
    refine lv_i2l (v := (woF σ nm ns a0 5 : Int32).toInt64) hx hb dL_worth_7 rfl ?_
    refine k_last S hX.2 hO1 hS1 (Or.inr rfl) dL_worth_8 (fun H2 L2 h2 f2 hS2 => ?_)
    have h3 := kpX h1 hD hao f2
    refine lv_goto (tgt := 15) hx hb dL_worth_9 (by decide) ?_
    refine lv_iconst (v := 0) hx hb dL_worth_15 (by decide) ?_
    refine vx_ret ?_
    exact W.iret (v := 0) hx hb hr (fun t ht9 hW => ⟨0, _, rfl, by rw [ht9]; exact h2, hS2.F ht9, Or.inl ⟨he, rfl, rfl, by rw [ht9]; exact h3⟩⟩) hS2.2.2 dL_worth_16
  · have hX1 := kp hX.1 f1
    have hO1 := kp hO f1
    rcases ek_worth σ nm ns a0 with hk | hk
    · exact absurd hk he
    · rw [hk] at hq
      subst hq
      refine vx_catch S.2.2.2.1 [] ⟨0, 9, 12, 13⟩ [] ht (fun z hz => by cases hz) (by decide) (by decide) (S.2.2.2.2 _ m_225) (hX.2.2.face n_236 fcx1) hce hcv hcl ?_
      refine lv_astore_n (lv' := [(3, .ref q), (0, .ref (ad 0)), (1, .int a0), (2, .ref ao)]) hx hb dL_worth_12 rfl hl (by decide) rfl (fun ls hl => ?_)
      refine lv_iconst (v := 1) hx hb dL_worth_13 (by decide) ?_
      refine vx_ret ?_
      exact W.iret (v := 1) hx hb hr (fun t ht9 hW => ⟨1, _, rfl, by rw [ht9]; exact hO1, hS1.F ht9, Or.inr ⟨he, by rw [hk]; rfl, by rw [ht9]; exact hX1⟩⟩) hS1.2.2 dL_worth_14

theorem ek_stateOf (σ : kS) (nm ns : Nat) (a0 : Int32) : eX_one a0 (σ 18 0) = 0 ∨ eX_one a0 (σ 18 0) = 1 := by
  unfold eX_one
  (repeat' split) <;> decide
set_option maxHeartbeats 4000000 in
set_option maxRecDepth 100000 in
theorem cL_stateOf_c (l : Launch) (G : kG) (ad : Nat → Nat) (σ : kS) (nm ns : Nat) (a0 : Int32) (hst : l.stackTraces = false) (hns : σ 18 0 = nI ns) (hns4 : ns ≤ 40) (hnm : σ 17 0 = nI nm) (hnm2 : nm ≤ 200)  (ao : Nat) (f : Nat → Int64) (A1 : Nat → Prop) (hD : DD 20 A1 ad) (hao : ¬ A1 ao) : vx_Met l yL_stateOf [.codeWith yL_stateOf cL_stateOf 4 (some .int) [(0, 9, 12, 13)]] ({ frames := 8, cells := 1, slots := 6, locals := 146 }) (va_Pc [.ref (ad 0), .int a0, .ref ao] (PL G ad ao σ f)) (oL G ad ao (fun q => A1 q ∨ q = ao) (eX_one a0 (σ 18 0)) (if eX_one a0 (σ 18 0) = 1 then 1 else 2) (((if σ 9 (ixN a0) = 0 then 0 else 1) : Int32).toInt64) σ (σ)) (fun _ _ _ => False) 1 6 (fun q => A1 q ∨ q = ao) := by
  refine kh_of (by decide) (Nat.le_of_ble_eq_true rfl) (fun U h => h.1.2.2) ?_
  intro p e s m below meth c ls S hr hlocks ht hB hl
  have hx := S.1
  have hb := S.2.1
  obtain ⟨hX, hZ, hO⟩ := hB
  have hl : lv_has ls 4 [(0, .ref (ad 0)), (1, .int a0), (2, .ref ao)] := hl
  refine lv_aload_n hx hb dL_stateOf_0 rfl (lv_at hl 2 rfl) ?_
  refine lv_iconst (v := 0) hx hb dL_stateOf_1 (by decide) ?_
  refine lv_aload_n hx hb dL_stateOf_2 rfl (lv_at hl 0 rfl) ?_
  refine lv_iload_n hx hb dL_stateOf_3 rfl (lv_at hl 1 rfl) ?_
  refine q_hi (rx_V S ⟨m_512, m_513, m_514, m_35, m_515⟩ ⟨rfl, by decide, by decide, by decide +kernel⟩ (c_stateOf l G ad σ nm ns a0 hst hns hns4 hnm hnm2) ⟨rfl, rfl, Nat.le_of_ble_eq_true rfl, Nat.le_of_ble_eq_true rfl⟩ (pv_X hX 0 rfl rfl bl_PXZ (bXZ hX hZ)) (n := 1) (As := [.int a0]) (rest := [.int 0, .ref ao]) rfl hl.1 rfl (Nat.le_of_ble_eq_true rfl) ⟨Nat.le_of_ble_eq_true rfl, Nat.le_of_ble_eq_true rfl⟩ dL_stateOf_4) (va_S.rf (A := (fun q => A1 q ∨ q = ao))) (fun r H1 L1 ⟨he, hv⟩ h1 hS1 => ?_) (fun x q ce H1 L1 ⟨he, hq⟩ f1 hS1 hce hcv hcl => ?_)
  · subst hv
    subst h1
    have h1 := hX.1
    have hO1 := hO
    refine lv_i2l (v := ((if σ 9 (ixN a0) = 0 then 0 else 1) : Int32).toInt64) hx hb dL_stateOf_7 rfl ?_
    refine k_last S hX.2 hO1 hS1 (Or.inr rfl) dL_stateOf_8 (fun H2 L2 h2 f2 hS2 => ?_)
    have h3 := kpX h1 hD hao f2
    refine lv_goto (tgt := 15) hx hb dL_stateOf_9 (by decide) ?_
    refine lv_iconst (v := 0) hx hb dL_stateOf_15 (by decide) ?_
    refine vx_ret ?_
    exact W.iret (v := 0) hx hb hr (fun t ht9 hW => ⟨0, _, rfl, by rw [ht9]; exact h2, hS2.F ht9, Or.inl ⟨he, rfl, rfl, by rw [ht9]; exact h3⟩⟩) hS2.2.2 dL_stateOf_16
  · have hX1 := kp hX.1 f1
    have hO1 := kp hO f1
    rcases ek_stateOf σ nm ns a0 with hk | hk
    · exact absurd hk he
    · rw [hk] at hq
      subst hq
      refine vx_catch S.2.2.2.1 [] ⟨0, 9, 12, 13⟩ [] ht (fun z hz => by cases hz) (by decide) (by decide) (S.2.2.2.2 _ m_225) (hX.2.2.face n_236 fcx1) hce hcv hcl ?_
      refine lv_astore_n (lv' := [(3, .ref q), (0, .ref (ad 0)), (1, .int a0), (2, .ref ao)]) hx hb dL_stateOf_12 rfl hl (by decide) rfl (fun ls hl => ?_)
      refine lv_iconst (v := 1) hx hb dL_stateOf_13 (by decide) ?_
      refine vx_ret ?_
      exact W.iret (v := 1) hx hb hr (fun t ht9 hW => ⟨1, _, rfl, by rw [ht9]; exact hO1, hS1.F ht9, Or.inr ⟨he, by rw [hk]; rfl, by rw [ht9]; exact hX1⟩⟩) hS1.2.2 dL_stateOf_14

theorem ek_cutOf (σ : kS) (nm ns : Nat) (a0 : Int32) : eX_one a0 (σ 18 0) = 0 ∨ eX_one a0 (σ 18 0) = 1 := by
  unfold eX_one
  (repeat' split) <;> decide
set_option maxHeartbeats 4000000 in
set_option maxRecDepth 100000 in
theorem cL_cutOf_c (l : Launch) (G : kG) (ad : Nat → Nat) (σ : kS) (nm ns : Nat) (a0 : Int32) (hst : l.stackTraces = false) (hns : σ 18 0 = nI ns) (hns4 : ns ≤ 40) (hnm : σ 17 0 = nI nm) (hnm2 : nm ≤ 200)  (ao : Nat) (f : Nat → Int64) (A1 : Nat → Prop) (hD : DD 20 A1 ad) (hao : ¬ A1 ao) : vx_Met l yL_cutOf [.codeWith yL_cutOf cL_cutOf 4 (some .int) [(0, 9, 12, 13)]] ({ frames := 8, cells := 1, slots := 6, locals := 146 }) (va_Pc [.ref (ad 0), .int a0, .ref ao] (PL G ad ao σ f)) (oL G ad ao (fun q => A1 q ∨ q = ao) (eX_one a0 (σ 18 0)) (if eX_one a0 (σ 18 0) = 1 then 1 else 2) ((σ 8 (ixN a0) : Int32).toInt64) σ (σ)) (fun _ _ _ => False) 1 6 (fun q => A1 q ∨ q = ao) := by
  refine kh_of (by decide) (Nat.le_of_ble_eq_true rfl) (fun U h => h.1.2.2) ?_
  intro p e s m below meth c ls S hr hlocks ht hB hl
  have hx := S.1
  have hb := S.2.1
  obtain ⟨hX, hZ, hO⟩ := hB
  have hl : lv_has ls 4 [(0, .ref (ad 0)), (1, .int a0), (2, .ref ao)] := hl
  refine lv_aload_n hx hb dL_cutOf_0 rfl (lv_at hl 2 rfl) ?_
  refine lv_iconst (v := 0) hx hb dL_cutOf_1 (by decide) ?_
  refine lv_aload_n hx hb dL_cutOf_2 rfl (lv_at hl 0 rfl) ?_
  refine lv_iload_n hx hb dL_cutOf_3 rfl (lv_at hl 1 rfl) ?_
  refine q_hi (rx_V S ⟨m_519, m_520, m_521, m_35, m_522⟩ ⟨rfl, by decide, by decide, by decide +kernel⟩ (c_cutOf l G ad σ nm ns a0 hst hns hns4 hnm hnm2) ⟨rfl, rfl, Nat.le_of_ble_eq_true rfl, Nat.le_of_ble_eq_true rfl⟩ (pv_X hX 0 rfl rfl bl_PXZ (bXZ hX hZ)) (n := 1) (As := [.int a0]) (rest := [.int 0, .ref ao]) rfl hl.1 rfl (Nat.le_of_ble_eq_true rfl) ⟨Nat.le_of_ble_eq_true rfl, Nat.le_of_ble_eq_true rfl⟩ dL_cutOf_4) (va_S.rf (A := (fun q => A1 q ∨ q = ao))) (fun r H1 L1 ⟨he, hv⟩ h1 hS1 => ?_) (fun x q ce H1 L1 ⟨he, hq⟩ f1 hS1 hce hcv hcl => ?_)
  · subst hv
    subst h1
    have h1 := hX.1
    have hO1 := hO
    refine lv_i2l (v := (σ 8 (ixN a0) : Int32).toInt64) hx hb dL_cutOf_7 rfl ?_
    refine k_last S hX.2 hO1 hS1 (Or.inr rfl) dL_cutOf_8 (fun H2 L2 h2 f2 hS2 => ?_)
    have h3 := kpX h1 hD hao f2
    refine lv_goto (tgt := 15) hx hb dL_cutOf_9 (by decide) ?_
    refine lv_iconst (v := 0) hx hb dL_cutOf_15 (by decide) ?_
    refine vx_ret ?_
    exact W.iret (v := 0) hx hb hr (fun t ht9 hW => ⟨0, _, rfl, by rw [ht9]; exact h2, hS2.F ht9, Or.inl ⟨he, rfl, rfl, by rw [ht9]; exact h3⟩⟩) hS2.2.2 dL_cutOf_16
  · have hX1 := kp hX.1 f1
    have hO1 := kp hO f1
    rcases ek_cutOf σ nm ns a0 with hk | hk
    · exact absurd hk he
    · rw [hk] at hq
      subst hq
      refine vx_catch S.2.2.2.1 [] ⟨0, 9, 12, 13⟩ [] ht (fun z hz => by cases hz) (by decide) (by decide) (S.2.2.2.2 _ m_225) (hX.2.2.face n_236 fcx1) hce hcv hcl ?_
      refine lv_astore_n (lv' := [(3, .ref q), (0, .ref (ad 0)), (1, .int a0), (2, .ref ao)]) hx hb dL_cutOf_12 rfl hl (by decide) rfl (fun ls hl => ?_)
      refine lv_iconst (v := 1) hx hb dL_cutOf_13 (by decide) ?_
      refine vx_ret ?_
      exact W.iret (v := 1) hx hb hr (fun t ht9 hW => ⟨1, _, rfl, by rw [ht9]; exact hO1, hS1.F ht9, Or.inr ⟨he, by rw [hk]; rfl, by rw [ht9]; exact hX1⟩⟩) hS1.2.2 dL_cutOf_14

theorem ek_counts (σ : kS) (nm ns : Nat) (a0 : Int32) (b0 : Int32) : eX_two a0 (σ 18 0) b0 5 = 0 ∨ eX_two a0 (σ 18 0) b0 5 = 1 := by
  unfold eX_two
  (repeat' split) <;> decide
set_option maxHeartbeats 4000000 in
set_option maxRecDepth 100000 in
theorem cL_counts_c (l : Launch) (G : kG) (ad : Nat → Nat) (σ : kS) (nm ns : Nat) (a0 b0 : Int32) (hst : l.stackTraces = false) (hns : σ 18 0 = nI ns) (hns4 : ns ≤ 40) (hnm : σ 17 0 = nI nm) (hnm2 : nm ≤ 200)  (ao : Nat) (f : Nat → Int64) (A1 : Nat → Prop) (hD : DD 20 A1 ad) (hao : ¬ A1 ao) : vx_Met l yL_counts [.codeWith yL_counts cL_counts 5 (some .int) [(0, 10, 13, 13)]] ({ frames := 9, cells := 2, slots := 12, locals := 169 }) (va_Pc [.ref (ad 0), .int a0, .int b0, .ref ao] (PL G ad ao σ f)) (oL G ad ao (fun q => A1 q ∨ q = ao) (eX_two a0 (σ 18 0) b0 5) (if eX_two a0 (σ 18 0) b0 5 = 1 then 1 else 2) ((bc (σ 10 (lnN a0 b0)) : Int32).toInt64) σ (σ)) (fun _ _ _ => False) 2 12 (fun q => A1 q ∨ q = ao) := by
  refine kh_of (by decide) (Nat.le_of_ble_eq_true rfl) (fun U h => h.1.2.2) ?_
  intro p e s m below meth c ls S hr hlocks ht hB hl
  have hx := S.1
  have hb := S.2.1
  obtain ⟨hX, hZ, hO⟩ := hB
  have hl : lv_has ls 5 [(0, .ref (ad 0)), (1, .int a0), (2, .int b0), (3, .ref ao)] := hl
  refine lv_aload_n hx hb dL_counts_0 rfl (lv_at hl 3 rfl) ?_
  refine lv_iconst (v := 0) hx hb dL_counts_1 (by decide) ?_
  refine lv_aload_n hx hb dL_counts_2 rfl (lv_at hl 0 rfl) ?_
  refine lv_iload_n hx hb dL_counts_3 rfl (lv_at hl 1 rfl) ?_
  refine lv_iload_n hx hb dL_counts_4 rfl (lv_at hl 2 rfl) ?_
  refine q_hi (rx_V S ⟨m_526, m_527, m_528, m_35, m_529⟩ ⟨rfl, by decide, by decide, by decide +kernel⟩ (c_counts l G ad σ nm ns a0 b0 hst hns hns4 hnm hnm2) ⟨rfl, rfl, Nat.le_of_ble_eq_true rfl, Nat.le_of_ble_eq_true rfl⟩ (pv_X hX 0 rfl rfl bl_PXZ (bXZ hX hZ)) (n := 2) (As := [.int a0, .int b0]) (rest := [.int 0, .ref ao]) rfl hl.1 rfl (Nat.le_of_ble_eq_true rfl) ⟨Nat.le_of_ble_eq_true rfl, Nat.le_of_ble_eq_true rfl⟩ dL_counts_5) (va_S.rf (A := (fun q => A1 q ∨ q = ao))) (fun r H1 L1 ⟨he, hv⟩ h1 hS1 => ?_) (fun x q ce H1 L1 ⟨he, hq⟩ f1 hS1 hce hcv hcl => ?_)
  · subst hv
    subst h1
    have h1 := hX.1
    have hO1 := hO
    refine lv_i2l (v := (bc (σ 10 (lnN a0 b0)) : Int32).toInt64) hx hb dL_counts_8 rfl ?_
    refine k_last S hX.2 hO1 hS1 (Or.inr rfl) dL_counts_9 (fun H2 L2 h2 f2 hS2 => ?_)
    have h3 := kpX h1 hD hao f2
    refine lv_goto (tgt := 17) hx hb dL_counts_10 (by decide) ?_
    refine lv_iconst (v := 0) hx hb dL_counts_17 (by decide) ?_
    refine vx_ret ?_
    exact W.iret (v := 0) hx hb hr (fun t ht9 hW => ⟨0, _, rfl, by rw [ht9]; exact h2, hS2.F ht9, Or.inl ⟨he, rfl, rfl, by rw [ht9]; exact h3⟩⟩) hS2.2.2 dL_counts_18
  · have hX1 := kp hX.1 f1
    have hO1 := kp hO f1
    rcases ek_counts σ nm ns a0 b0 with hk | hk
    · exact absurd hk he
    · rw [hk] at hq
      subst hq
      refine vx_catch S.2.2.2.1 [] ⟨0, 10, 13, 13⟩ [] ht (fun z hz => by cases hz) (by decide) (by decide) (S.2.2.2.2 _ m_225) (hX.2.2.face n_236 fcx1) hce hcv hcl ?_
      refine lv_astore (lv' := [(4, .ref q), (0, .ref (ad 0)), (1, .int a0), (2, .int b0), (3, .ref ao)]) hx hb dL_counts_13 hl (by decide) rfl (fun ls hl => ?_)
      refine lv_iconst (v := 1) hx hb dL_counts_15 (by decide) ?_
      refine vx_ret ?_
      exact W.iret (v := 1) hx hb hr (fun t ht9 hW => ⟨1, _, rfl, by rw [ht9]; exact hO1, hS1.F ht9, Or.inr ⟨he, by rw [hk]; rfl, by rw [ht9]; exact hX1⟩⟩) hS1.2.2 dL_counts_16

theorem ek_agreed (σ : kS) (nm ns : Nat) (a0 : Int32) (b0 : Int32) : eX_two a0 (σ 18 0) b0 5 = 0 ∨ eX_two a0 (σ 18 0) b0 5 = 1 := by
  unfold eX_two
  (repeat' split) <;> decide
set_option maxHeartbeats 4000000 in
set_option maxRecDepth 100000 in
theorem cL_agreed_c (l : Launch) (G : kG) (ad : Nat → Nat) (σ : kS) (nm ns : Nat) (a0 b0 : Int32) (hst : l.stackTraces = false) (hns : σ 18 0 = nI ns) (hns4 : ns ≤ 40) (hnm : σ 17 0 = nI nm) (hnm2 : nm ≤ 200)  (ao : Nat) (f : Nat → Int64) (A1 : Nat → Prop) (hD : DD 20 A1 ad) (hao : ¬ A1 ao) : vx_Met l yL_agreed [.codeWith yL_agreed cL_agreed 5 (some .int) [(0, 10, 13, 13)]] ({ frames := 9, cells := 2, slots := 12, locals := 169 }) (va_Pc [.ref (ad 0), .int a0, .int b0, .ref ao] (PL G ad ao σ f)) (oL G ad ao (fun q => A1 q ∨ q = ao) (eX_two a0 (σ 18 0) b0 5) (if eX_two a0 (σ 18 0) b0 5 = 1 then 1 else 2) ((σ 13 (lnN a0 b0) : Int32).toInt64) σ (σ)) (fun _ _ _ => False) 2 12 (fun q => A1 q ∨ q = ao) := by
  refine kh_of (by decide) (Nat.le_of_ble_eq_true rfl) (fun U h => h.1.2.2) ?_
  intro p e s m below meth c ls S hr hlocks ht hB hl
  have hx := S.1
  have hb := S.2.1
  obtain ⟨hX, hZ, hO⟩ := hB
  have hl : lv_has ls 5 [(0, .ref (ad 0)), (1, .int a0), (2, .int b0), (3, .ref ao)] := hl
  refine lv_aload_n hx hb dL_agreed_0 rfl (lv_at hl 3 rfl) ?_
  refine lv_iconst (v := 0) hx hb dL_agreed_1 (by decide) ?_
  refine lv_aload_n hx hb dL_agreed_2 rfl (lv_at hl 0 rfl) ?_
  refine lv_iload_n hx hb dL_agreed_3 rfl (lv_at hl 1 rfl) ?_
  refine lv_iload_n hx hb dL_agreed_4 rfl (lv_at hl 2 rfl) ?_
  refine q_hi (rx_V S ⟨m_537, m_538, m_539, m_35, m_540⟩ ⟨rfl, by decide, by decide, by decide +kernel⟩ (c_agreed l G ad σ nm ns a0 b0 hst hns hns4 hnm hnm2) ⟨rfl, rfl, Nat.le_of_ble_eq_true rfl, Nat.le_of_ble_eq_true rfl⟩ (pv_X hX 0 rfl rfl bl_PXZ (bXZ hX hZ)) (n := 2) (As := [.int a0, .int b0]) (rest := [.int 0, .ref ao]) rfl hl.1 rfl (Nat.le_of_ble_eq_true rfl) ⟨Nat.le_of_ble_eq_true rfl, Nat.le_of_ble_eq_true rfl⟩ dL_agreed_5) (va_S.rf (A := (fun q => A1 q ∨ q = ao))) (fun r H1 L1 ⟨he, hv⟩ h1 hS1 => ?_) (fun x q ce H1 L1 ⟨he, hq⟩ f1 hS1 hce hcv hcl => ?_)
  · subst hv
    subst h1
    have h1 := hX.1
    have hO1 := hO
    refine lv_i2l (v := (σ 13 (lnN a0 b0) : Int32).toInt64) hx hb dL_agreed_8 rfl ?_
    refine k_last S hX.2 hO1 hS1 (Or.inr rfl) dL_agreed_9 (fun H2 L2 h2 f2 hS2 => ?_)
    have h3 := kpX h1 hD hao f2
    refine lv_goto (tgt := 17) hx hb dL_agreed_10 (by decide) ?_
    refine lv_iconst (v := 0) hx hb dL_agreed_17 (by decide) ?_
    refine vx_ret ?_
    exact W.iret (v := 0) hx hb hr (fun t ht9 hW => ⟨0, _, rfl, by rw [ht9]; exact h2, hS2.F ht9, Or.inl ⟨he, rfl, rfl, by rw [ht9]; exact h3⟩⟩) hS2.2.2 dL_agreed_18
  · have hX1 := kp hX.1 f1
    have hO1 := kp hO f1
    rcases ek_agreed σ nm ns a0 b0 with hk | hk
    · exact absurd hk he
    · rw [hk] at hq
      subst hq
      refine vx_catch S.2.2.2.1 [] ⟨0, 10, 13, 13⟩ [] ht (fun z hz => by cases hz) (by decide) (by decide) (S.2.2.2.2 _ m_225) (hX.2.2.face n_236 fcx1) hce hcv hcl ?_
      refine lv_astore (lv' := [(4, .ref q), (0, .ref (ad 0)), (1, .int a0), (2, .int b0), (3, .ref ao)]) hx hb dL_agreed_13 hl (by decide) rfl (fun ls hl => ?_)
      refine lv_iconst (v := 1) hx hb dL_agreed_15 (by decide) ?_
      refine vx_ret ?_
      exact W.iret (v := 1) hx hb hr (fun t ht9 hW => ⟨1, _, rfl, by rw [ht9]; exact hO1, hS1.F ht9, Or.inr ⟨he, by rw [hk]; rfl, by rw [ht9]; exact hX1⟩⟩) hS1.2.2 dL_agreed_16

theorem ek_gap (σ : kS) (nm ns : Nat) (a0 : Int32) (b0 : Int32) : eX_gap σ a0 b0 = 0 ∨ eX_gap σ a0 b0 = 1 ∨ eX_gap σ a0 b0 = 4 := by
  unfold eX_gap
  (repeat' split) <;> decide
set_option maxHeartbeats 4000000 in
set_option maxRecDepth 100000 in
theorem cL_gap_c (l : Launch) (G : kG) (ad : Nat → Nat) (σ : kS) (nm ns : Nat) (a0 b0 : Int32) (hst : l.stackTraces = false) (hns : σ 18 0 = nI ns) (hns4 : ns ≤ 40) (hnm : σ 17 0 = nI nm) (hnm2 : nm ≤ 200)  (ao : Nat) (f : Nat → Int64) (A1 : Nat → Prop) (hD : DD 20 A1 ad) (hao : ¬ A1 ao) : vx_Met l yL_gap [.codeWith yL_gap cL_gap 5 (some .int) [(0, 10, 13, 13), (0, 10, 17, 44)]] ({ frames := 9, cells := 3, slots := 18, locals := 191 }) (va_Pc [.ref (ad 0), .int a0, .int b0, .ref ao] (PL G ad ao σ f)) (oL G ad ao (fun q => A1 q ∨ q = ao) (eX_gap σ a0 b0) (if eX_gap σ a0 b0 = 1 then 1 else if eX_gap σ a0 b0 = 4 then 2 else 3) ((gpV σ nm ns (ixN a0) (ixN b0) : Int32).toInt64) σ (σ)) (fun _ _ _ => False) 3 18 (fun q => A1 q ∨ q = ao) := by
  refine kh_of (by decide) (Nat.le_of_ble_eq_true rfl) (fun U h => h.1.2.2) ?_
  intro p e s m below meth c ls S hr hlocks ht hB hl
  have hx := S.1
  have hb := S.2.1
  obtain ⟨hX, hZ, hO⟩ := hB
  have hl : lv_has ls 5 [(0, .ref (ad 0)), (1, .int a0), (2, .int b0), (3, .ref ao)] := hl
  refine lv_aload_n hx hb dL_gap_0 rfl (lv_at hl 3 rfl) ?_
  refine lv_iconst (v := 0) hx hb dL_gap_1 (by decide) ?_
  refine lv_aload_n hx hb dL_gap_2 rfl (lv_at hl 0 rfl) ?_
  refine lv_iload_n hx hb dL_gap_3 rfl (lv_at hl 1 rfl) ?_
  refine lv_iload_n hx hb dL_gap_4 rfl (lv_at hl 2 rfl) ?_
  refine q_hi (rx_V S ⟨m_544, m_545, m_546, m_35, m_547⟩ ⟨rfl, by decide, by decide, by decide +kernel⟩ (c_gap l G ad σ nm ns a0 b0 hst hns hns4 hnm hnm2) ⟨rfl, rfl, Nat.le_of_ble_eq_true rfl, Nat.le_of_ble_eq_true rfl⟩ (pv_X hX 0 rfl rfl bl_PXZ (bXZ hX hZ)) (n := 2) (As := [.int a0, .int b0]) (rest := [.int 0, .ref ao]) rfl hl.1 rfl (Nat.le_of_ble_eq_true rfl) ⟨Nat.le_of_ble_eq_true rfl, Nat.le_of_ble_eq_true rfl⟩ dL_gap_5) (va_S.rf (A := (fun q => A1 q ∨ q = ao))) (fun r H1 L1 ⟨he, hv⟩ h1 hS1 => ?_) (fun x q ce H1 L1 ⟨he, hq⟩ f1 hS1 hce hcv hcl => ?_)
  · subst hv
    subst h1
    have h1 := hX.1
    have hO1 := hO
    refine lv_i2l (v := (gpV σ nm ns (ixN a0) (ixN b0) : Int32).toInt64) hx hb dL_gap_8 rfl ?_
    refine k_last S hX.2 hO1 hS1 (Or.inr rfl) dL_gap_9 (fun H2 L2 h2 f2 hS2 => ?_)
    have h3 := kpX h1 hD hao f2
    refine lv_goto (tgt := 21) hx hb dL_gap_10 (by decide) ?_
    refine lv_iconst (v := 0) hx hb dL_gap_21 (by decide) ?_
    refine vx_ret ?_
    exact W.iret (v := 0) hx hb hr (fun t ht9 hW => ⟨0, _, rfl, by rw [ht9]; exact h2, hS2.F ht9, Or.inl ⟨he, rfl, rfl, by rw [ht9]; exact h3⟩⟩) hS2.2.2 dL_gap_22
  · have hX1 := kp hX.1 f1
    have hO1 := kp hO f1
    rcases ek_gap σ nm ns a0 b0 with hk | hk | hk
    · exact absurd hk he
    · rw [hk] at hq
      subst hq
      refine vx_catch S.2.2.2.1 [] ⟨0, 10, 13, 13⟩ [⟨0, 10, 17, 44⟩] ht (fun z hz => by cases hz) (by decide) (by decide) (S.2.2.2.2 _ m_225) (hX.2.2.face n_236 fcx1) hce hcv hcl ?_
      refine lv_astore (lv' := [(4, .ref q), (0, .ref (ad 0)), (1, .int a0), (2, .int b0), (3, .ref ao)]) hx hb dL_gap_13 hl (by decide) rfl (fun ls hl => ?_)
      refine lv_iconst (v := 1) hx hb dL_gap_15 (by decide) ?_
      refine vx_ret ?_
      exact W.iret (v := 1) hx hb hr (fun t ht9 hW => ⟨1, _, rfl, by rw [ht9]; exact hO1, hS1.F ht9, Or.inr ⟨he, by rw [hk]; rfl, by rw [ht9]; exact hX1⟩⟩) hS1.2.2 dL_gap_16
    · rw [hk] at hq
      subst hq
      refine vx_catch S.2.2.2.1 [⟨0, 10, 13, 13⟩] ⟨0, 10, 17, 44⟩ [] ht (fun z hz => by
        rcases List.mem_cons.mp hz with rfl | hz
        · exact Or.inr ⟨by decide, _, S.2.2.2.2 _ m_225, hX.2.2.nc ncx41⟩
        cases hz) (by decide) (by decide) (S.2.2.2.2 _ m_434) (hX.2.2.face n_445 fcx4) hce hcv hcl ?_
      refine lv_astore (lv' := [(4, .ref q), (0, .ref (ad 0)), (1, .int a0), (2, .int b0), (3, .ref ao)]) hx hb dL_gap_17 hl (by decide) rfl (fun ls hl => ?_)
      refine lv_iconst (v := 2) hx hb dL_gap_19 (by decide) ?_
      refine vx_ret ?_
      exact W.iret (v := 2) hx hb hr (fun t ht9 hW => ⟨2, _, rfl, by rw [ht9]; exact hO1, hS1.F ht9, Or.inr ⟨he, by rw [hk]; rfl, by rw [ht9]; exact hX1⟩⟩) hS1.2.2 dL_gap_20

theorem ek_isSigned (σ : kS) (nm ns : Nat) (a0 : Int32) (b0 : Int32) : eX_two a0 (σ 18 0) b0 5 = 0 ∨ eX_two a0 (σ 18 0) b0 5 = 1 := by
  unfold eX_two
  (repeat' split) <;> decide
set_option maxHeartbeats 4000000 in
set_option maxRecDepth 100000 in
theorem cL_isSigned_c (l : Launch) (G : kG) (ad : Nat → Nat) (σ : kS) (nm ns : Nat) (a0 b0 : Int32) (hst : l.stackTraces = false) (hns : σ 18 0 = nI ns) (hns4 : ns ≤ 40) (hnm : σ 17 0 = nI nm) (hnm2 : nm ≤ 200)  (ao : Nat) (f : Nat → Int64) (A1 : Nat → Prop) (hD : DD 20 A1 ad) (hao : ¬ A1 ao) : vx_Met l yL_isSigned [.codeWith yL_isSigned cL_isSigned 5 (some .int) [(0, 17, 20, 13)]] ({ frames := 9, cells := 2, slots := 12, locals := 169 }) (va_Pc [.ref (ad 0), .int a0, .int b0, .ref ao] (PL G ad ao σ f)) (oL G ad ao (fun q => A1 q ∨ q = ao) (eX_two a0 (σ 18 0) b0 5) (if eX_two a0 (σ 18 0) b0 5 = 1 then 1 else 2) ((if bI (hsB σ (lnN a0 b0)) = 0 then 0 else 1)) σ (σ)) (fun _ _ _ => False) 2 12 (fun q => A1 q ∨ q = ao) := by
  refine kh_of (by decide) (Nat.le_of_ble_eq_true rfl) (fun U h => h.1.2.2) ?_
  intro p e s m below meth c ls S hr hlocks ht hB hl
  have hx := S.1
  have hb := S.2.1
  obtain ⟨hX, hZ, hO⟩ := hB
  have hl : lv_has ls 5 [(0, .ref (ad 0)), (1, .int a0), (2, .int b0), (3, .ref ao)] := hl
  refine lv_aload_n hx hb dL_isSigned_0 rfl (lv_at hl 3 rfl) ?_
  refine lv_iconst (v := 0) hx hb dL_isSigned_1 (by decide) ?_
  refine lv_aload_n hx hb dL_isSigned_2 rfl (lv_at hl 0 rfl) ?_
  refine lv_iload_n hx hb dL_isSigned_3 rfl (lv_at hl 1 rfl) ?_
  refine lv_iload_n hx hb dL_isSigned_4 rfl (lv_at hl 2 rfl) ?_
  refine q_hi (rx_V S ⟨m_551, m_552, m_553, m_35, m_554⟩ ⟨rfl, by decide, by decide, by decide +kernel⟩ (c_isSigned l G ad σ nm ns a0 b0 hst hns hns4 hnm hnm2) ⟨rfl, rfl, Nat.le_of_ble_eq_true rfl, Nat.le_of_ble_eq_true rfl⟩ (pv_X hX 0 rfl rfl bl_PXZ (bXZ hX hZ)) (n := 2) (As := [.int a0, .int b0]) (rest := [.int 0, .ref ao]) rfl hl.1 rfl (Nat.le_of_ble_eq_true rfl) ⟨Nat.le_of_ble_eq_true rfl, Nat.le_of_ble_eq_true rfl⟩ dL_isSigned_5) (va_S.rf (A := (fun q => A1 q ∨ q = ao))) (fun r H1 L1 ⟨he, hv⟩ h1 hS1 => ?_) (fun x q ce H1 L1 ⟨he, hq⟩ f1 hS1 hce hcv hcl => ?_)
  · subst hv
    subst h1
    have h1 := hX.1
    have hO1 := hO
    refine lv_if_eq (tgt := 15) hx hb dL_isSigned_8 (by decide) (fun cz => ?_) (fun cz => ?_)
    · refine lv_lconst (v := 0) hx hb dL_isSigned_15 (by decide) ?_
      refine k_last S hX.2 hO1 hS1 (Or.inr rfl) dL_isSigned_16 (fun H2 L2 h2 f2 hS2 => ?_)
      have h3 := kpX h1 hD hao f2
      refine lv_goto (tgt := 24) hx hb dL_isSigned_17 (by decide) ?_
      refine lv_iconst (v := 0) hx hb dL_isSigned_24 (by decide) ?_
      refine vx_ret ?_
      exact W.iret (v := 0) hx hb hr (fun t ht9 hW => ⟨0, _, rfl, by rw [ht9]; exact h2, hS2.F ht9, Or.inl ⟨he, rfl, by rw [if_pos cz]; rfl, by rw [ht9]; exact h3⟩⟩) hS2.2.2 dL_isSigned_25
    · refine lv_lconst (v := 1) hx hb dL_isSigned_11 (by decide) ?_
      refine lv_goto (tgt := 16) hx hb dL_isSigned_12 (by decide) ?_
      refine k_last S hX.2 hO1 hS1 (Or.inr rfl) dL_isSigned_16 (fun H2 L2 h2 f2 hS2 => ?_)
      have h3 := kpX h1 hD hao f2
      refine lv_goto (tgt := 24) hx hb dL_isSigned_17 (by decide) ?_
      refine lv_iconst (v := 0) hx hb dL_isSigned_24 (by decide) ?_
      refine vx_ret ?_
      exact W.iret (v := 0) hx hb hr (fun t ht9 hW => ⟨0, _, rfl, by rw [ht9]; exact h2, hS2.F ht9, Or.inl ⟨he, rfl, by rw [if_neg cz]; rfl, by rw [ht9]; exact h3⟩⟩) hS2.2.2 dL_isSigned_25
  · have hX1 := kp hX.1 f1
    have hO1 := kp hO f1
    rcases ek_isSigned σ nm ns a0 b0 with hk | hk
    · exact absurd hk he
    · rw [hk] at hq
      subst hq
      refine vx_catch S.2.2.2.1 [] ⟨0, 17, 20, 13⟩ [] ht (fun z hz => by cases hz) (by decide) (by decide) (S.2.2.2.2 _ m_225) (hX.2.2.face n_236 fcx1) hce hcv hcl ?_
      refine lv_astore (lv' := [(4, .ref q), (0, .ref (ad 0)), (1, .int a0), (2, .int b0), (3, .ref ao)]) hx hb dL_isSigned_20 hl (by decide) rfl (fun ls hl => ?_)
      refine lv_iconst (v := 1) hx hb dL_isSigned_22 (by decide) ?_
      refine vx_ret ?_
      exact W.iret (v := 1) hx hb hr (fun t ht9 hW => ⟨1, _, rfl, by rw [ht9]; exact hO1, hS1.F ht9, Or.inr ⟨he, by rw [hk]; rfl, by rw [ht9]; exact hX1⟩⟩) hS1.2.2 dL_isSigned_23

theorem ek_likely (σ : kS) (nm ns : Nat) (a0 : Int32) (b0 : Int32) : eX_two a0 (σ 18 0) b0 5 = 0 ∨ eX_two a0 (σ 18 0) b0 5 = 1 := by
  unfold eX_two
  (repeat' split) <;> decide
set_option maxHeartbeats 4000000 in
set_option maxRecDepth 100000 in
theorem cL_likely_c (l : Launch) (G : kG) (ad : Nat → Nat) (σ : kS) (nm ns : Nat) (a0 b0 : Int32) (hst : l.stackTraces = false) (hns : σ 18 0 = nI ns) (hns4 : ns ≤ 40) (hnm : σ 17 0 = nI nm) (hnm2 : nm ≤ 200)  (ao : Nat) (f : Nat → Int64) (A1 : Nat → Prop) (hD : DD 20 A1 ad) (hao : ¬ A1 ao) : vx_Met l yL_likely [.codeWith yL_likely cL_likely 5 (some .int) [(0, 10, 13, 13)]] ({ frames := 9, cells := 2, slots := 12, locals := 215 }) (va_Pc [.ref (ad 0), .int a0, .int b0, .ref ao] (PL G ad ao σ f)) (oL G ad ao (fun q => A1 q ∨ q = ao) (eX_two a0 (σ 18 0) b0 5) (if eX_two a0 (σ 18 0) b0 5 = 1 then 1 else 2) ((oI (flO (fun k => csB σ nm ns (ixN a0) k (ixN b0)) ns) : Int32).toInt64) σ (σ)) (fun _ _ _ => False) 2 12 (fun q => A1 q ∨ q = ao) := by
  refine kh_of (by decide) (Nat.le_of_ble_eq_true rfl) (fun U h => h.1.2.2) ?_
  intro p e s m below meth c ls S hr hlocks ht hB hl
  have hx := S.1
  have hb := S.2.1
  obtain ⟨hX, hZ, hO⟩ := hB
  have hl : lv_has ls 5 [(0, .ref (ad 0)), (1, .int a0), (2, .int b0), (3, .ref ao)] := hl
  refine lv_aload_n hx hb dL_likely_0 rfl (lv_at hl 3 rfl) ?_
  refine lv_iconst (v := 0) hx hb dL_likely_1 (by decide) ?_
  refine lv_aload_n hx hb dL_likely_2 rfl (lv_at hl 0 rfl) ?_
  refine lv_iload_n hx hb dL_likely_3 rfl (lv_at hl 1 rfl) ?_
  refine lv_iload_n hx hb dL_likely_4 rfl (lv_at hl 2 rfl) ?_
  refine q_hi (rx_V S ⟨m_558, m_559, m_560, m_35, m_561⟩ ⟨rfl, by decide, by decide, by decide +kernel⟩ (c_likely l G ad σ nm ns a0 b0 hst hns hns4 hnm hnm2) ⟨rfl, rfl, Nat.le_of_ble_eq_true rfl, Nat.le_of_ble_eq_true rfl⟩ (pv_X hX 0 rfl rfl bl_PXZ (bXZ hX hZ)) (n := 2) (As := [.int a0, .int b0]) (rest := [.int 0, .ref ao]) rfl hl.1 rfl (Nat.le_of_ble_eq_true rfl) ⟨Nat.le_of_ble_eq_true rfl, Nat.le_of_ble_eq_true rfl⟩ dL_likely_5) (va_S.rf (A := (fun q => A1 q ∨ q = ao))) (fun r H1 L1 ⟨he, hv⟩ h1 hS1 => ?_) (fun x q ce H1 L1 ⟨he, hq⟩ f1 hS1 hce hcv hcl => ?_)
  · subst hv
    subst h1
    have h1 := hX.1
    have hO1 := hO
    refine lv_i2l (v := (oI (flO (fun k => csB σ nm ns (ixN a0) k (ixN b0)) ns) : Int32).toInt64) hx hb dL_likely_8 rfl ?_
    refine k_last S hX.2 hO1 hS1 (Or.inr rfl) dL_likely_9 (fun H2 L2 h2 f2 hS2 => ?_)
    have h3 := kpX h1 hD hao f2
    refine lv_goto (tgt := 17) hx hb dL_likely_10 (by decide) ?_
    refine lv_iconst (v := 0) hx hb dL_likely_17 (by decide) ?_
    refine vx_ret ?_
    exact W.iret (v := 0) hx hb hr (fun t ht9 hW => ⟨0, _, rfl, by rw [ht9]; exact h2, hS2.F ht9, Or.inl ⟨he, rfl, rfl, by rw [ht9]; exact h3⟩⟩) hS2.2.2 dL_likely_18
  · have hX1 := kp hX.1 f1
    have hO1 := kp hO f1
    rcases ek_likely σ nm ns a0 b0 with hk | hk
    · exact absurd hk he
    · rw [hk] at hq
      subst hq
      refine vx_catch S.2.2.2.1 [] ⟨0, 10, 13, 13⟩ [] ht (fun z hz => by cases hz) (by decide) (by decide) (S.2.2.2.2 _ m_225) (hX.2.2.face n_236 fcx1) hce hcv hcl ?_
      refine lv_astore (lv' := [(4, .ref q), (0, .ref (ad 0)), (1, .int a0), (2, .int b0), (3, .ref ao)]) hx hb dL_likely_13 hl (by decide) rfl (fun ls hl => ?_)
      refine lv_iconst (v := 1) hx hb dL_likely_15 (by decide) ?_
      refine vx_ret ?_
      exact W.iret (v := 1) hx hb hr (fun t ht9 hW => ⟨1, _, rfl, by rw [ht9]; exact hO1, hS1.F ht9, Or.inr ⟨he, by rw [hk]; rfl, by rw [ht9]; exact hX1⟩⟩) hS1.2.2 dL_likely_16

theorem ek_exact (σ : kS) (nm ns : Nat) (a0 : Int32) : eX_one a0 3 = 0 ∨ eX_one a0 3 = 1 := by
  unfold eX_one
  (repeat' split) <;> decide
set_option maxHeartbeats 4000000 in
set_option maxRecDepth 100000 in
theorem cL_exact_c (l : Launch) (G : kG) (ad : Nat → Nat) (σ : kS) (nm ns : Nat) (a0 : Int32) (hst : l.stackTraces = false) (hns : σ 18 0 = nI ns) (hns4 : ns ≤ 40) (hnm : σ 17 0 = nI nm) (hnm2 : nm ≤ 200)  (ao : Nat) (f : Nat → Int64) (A1 : Nat → Prop) (hD : DD 20 A1 ad) (hao : ¬ A1 ao) : vx_Met l yL_exact [.codeWith yL_exact cL_exact 4 (some .int) [(0, 9, 12, 13)]] ({ frames := 8, cells := 1, slots := 6, locals := 146 }) (va_Pc [.ref (ad 0), .int a0, .ref ao] (PL G ad ao σ f)) (oL G ad ao (fun q => A1 q ∨ q = ao) (eX_one a0 3) (if eX_one a0 3 = 1 then 1 else 2) ((exV σ ns a0 : Int32).toInt64) σ (σ)) (fun _ _ _ => False) 1 6 (fun q => A1 q ∨ q = ao) := by
  refine kh_of (by decide) (Nat.le_of_ble_eq_true rfl) (fun U h => h.1.2.2) ?_
  intro p e s m below meth c ls S hr hlocks ht hB hl
  have hx := S.1
  have hb := S.2.1
  obtain ⟨hX, hZ, hO⟩ := hB
  have hl : lv_has ls 4 [(0, .ref (ad 0)), (1, .int a0), (2, .ref ao)] := hl
  refine lv_aload_n hx hb dL_exact_0 rfl (lv_at hl 2 rfl) ?_
  refine lv_iconst (v := 0) hx hb dL_exact_1 (by decide) ?_
  refine lv_aload_n hx hb dL_exact_2 rfl (lv_at hl 0 rfl) ?_
  refine lv_iload_n hx hb dL_exact_3 rfl (lv_at hl 1 rfl) ?_
  refine q_hi (rx_V S ⟨m_565, m_566, m_567, m_35, m_568⟩ ⟨rfl, by decide, by decide, by decide +kernel⟩ (c_exact l G ad σ nm ns a0 hst hns hns4 hnm hnm2) ⟨rfl, rfl, Nat.le_of_ble_eq_true rfl, Nat.le_of_ble_eq_true rfl⟩ (pv_X hX 0 rfl rfl bl_PXZ (bXZ hX hZ)) (n := 1) (As := [.int a0]) (rest := [.int 0, .ref ao]) rfl hl.1 rfl (Nat.le_of_ble_eq_true rfl) ⟨Nat.le_of_ble_eq_true rfl, Nat.le_of_ble_eq_true rfl⟩ dL_exact_4) (va_S.rf (A := (fun q => A1 q ∨ q = ao))) (fun r H1 L1 ⟨he, hv⟩ h1 hS1 => ?_) (fun x q ce H1 L1 ⟨he, hq⟩ f1 hS1 hce hcv hcl => ?_)
  · subst hv
    subst h1
    have h1 := hX.1
    have hO1 := hO
    refine lv_i2l (v := (exV σ ns a0 : Int32).toInt64) hx hb dL_exact_7 rfl ?_
    refine k_last S hX.2 hO1 hS1 (Or.inr rfl) dL_exact_8 (fun H2 L2 h2 f2 hS2 => ?_)
    have h3 := kpX h1 hD hao f2
    refine lv_goto (tgt := 15) hx hb dL_exact_9 (by decide) ?_
    refine lv_iconst (v := 0) hx hb dL_exact_15 (by decide) ?_
    refine vx_ret ?_
    exact W.iret (v := 0) hx hb hr (fun t ht9 hW => ⟨0, _, rfl, by rw [ht9]; exact h2, hS2.F ht9, Or.inl ⟨he, rfl, rfl, by rw [ht9]; exact h3⟩⟩) hS2.2.2 dL_exact_16
  · have hX1 := kp hX.1 f1
    have hO1 := kp hO f1
    rcases ek_exact σ nm ns a0 with hk | hk
    · exact absurd hk he
    · rw [hk] at hq
      subst hq
      refine vx_catch S.2.2.2.1 [] ⟨0, 9, 12, 13⟩ [] ht (fun z hz => by cases hz) (by decide) (by decide) (S.2.2.2.2 _ m_225) (hX.2.2.face n_236 fcx1) hce hcv hcl ?_
      refine lv_astore_n (lv' := [(3, .ref q), (0, .ref (ad 0)), (1, .int a0), (2, .ref ao)]) hx hb dL_exact_12 rfl hl (by decide) rfl (fun ls hl => ?_)
      refine lv_iconst (v := 1) hx hb dL_exact_13 (by decide) ?_
      refine vx_ret ?_
      exact W.iret (v := 1) hx hb hr (fun t ht9 hW => ⟨1, _, rfl, by rw [ht9]; exact hO1, hS1.F ht9, Or.inr ⟨he, by rw [hk]; rfl, by rw [ht9]; exact hX1⟩⟩) hS1.2.2 dL_exact_14
