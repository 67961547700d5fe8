set_option maxHeartbeats 4000000 in
set_option maxRecDepth 100000 in
theorem c_lineOf (l : Launch) (sh ar : Nat)  : Met l yX3_lineOf [.code yX3_lineOf cX3_lineOf 2 (some .int)] ({ frames := 1, cells := 0, slots := 0, locals := 40 }) (va_Pc [.int (nI sh), .int (nI ar)] (fun U => GL U)) (vp_Si (fun r => r = nI (sh * 5 + ar))) 0 0 NF := by
  refine k_of (by decide) (Nat.le_of_ble_eq_true rfl) (fun U h => h) ?_
  intro p e s m below meth c ls S hr hlocks hmn hB hl
  have hx := S.1
  have hb := S.2.1
  have hG : GL s := hB
  have hl : lv_has ls 2 [(0, .int (nI sh)), (1, .int (nI ar))] := hl
  refine lv_iload_n hx hb dX3_lineOf_0 rfl (lv_at hl 0 rfl) ?_
  refine lv_iconst (v := 5) hx hb dX3_lineOf_1 (by decide) ?_
  refine lv_imul hx hb dX3_lineOf_2 ?_
  refine lv_iload_n hx hb dX3_lineOf_3 rfl (lv_at hl 1 rfl) ?_
  refine lv_iadd hx hb dX3_lineOf_4 ?_
  exact W.iret (v := ((nI sh) * 5) + (nI ar)) hx hb hr (fun t ht hW => ⟨_, rfl, ln_eq sh ar, ht⟩) (fun q h => by cases h) dX3_lineOf_5

set_option maxHeartbeats 4000000 in
set_option maxRecDepth 100000 in
theorem c_bitCount (l : Launch) (x : Int32)  : Met l yJ6_bitCount_0f7a4 [.code yJ6_bitCount_0f7a4 cJ6_bitCount_0f7a4 1 (some .int)] ({ frames := 1, cells := 0, slots := 0, locals := 40 }) (va_Pc [.int x] (fun U => GL U)) (vp_Si (fun r => r = bc x)) 0 0 NF := by
  refine k_of (by decide) (Nat.le_of_ble_eq_true rfl) (fun U h => h) ?_
  intro p e s m below meth c ls S hr hlocks hmn hB hl
  have hx := S.1
  have hb := S.2.1
  have hG : GL s := hB
  have hl : lv_has ls 1 [(0, .int x)] := hl
  refine lv_iload_n hx hb dJ6_bitCount_0f7a4_0 rfl (lv_at hl 0 rfl) ?_
  refine lv_iload_n hx hb dJ6_bitCount_0f7a4_1 rfl (lv_at hl 0 rfl) ?_
  refine lv_iconst (v := 1) hx hb dJ6_bitCount_0f7a4_2 (by decide) ?_
  refine lv_iushr (v := (x.toUInt32 >>> (Int32.toUInt32 1 &&& Int32.toUInt32 31)).toInt32) hx hb dJ6_bitCount_0f7a4_3 rfl ?_
  refine lv_ldcw (v := 1431655765) hx hb S.2.2.2.1 (S.2.2.2.2 _ m_333) dJ6_bitCount_0f7a4_4 ?_
  refine lv_iand hx hb dJ6_bitCount_0f7a4_7 ?_
  refine lv_isub hx hb dJ6_bitCount_0f7a4_8 ?_
  refine lv_topi (fun x1 ex1 => ?_)
  refine lv_istore_n (lv' := [(0, .int x1)]) hx hb dJ6_bitCount_0f7a4_9 rfl hl (by decide) rfl (fun ls hl => ?_)
  refine lv_iload_n hx hb dJ6_bitCount_0f7a4_10 rfl (lv_at hl 0 rfl) ?_
  refine lv_ldcw (v := 858993459) hx hb S.2.2.2.1 (S.2.2.2.2 _ m_334) dJ6_bitCount_0f7a4_11 ?_
  refine lv_iand hx hb dJ6_bitCount_0f7a4_14 ?_
  refine lv_iload_n hx hb dJ6_bitCount_0f7a4_15 rfl (lv_at hl 0 rfl) ?_
  refine lv_iconst (v := 2) hx hb dJ6_bitCount_0f7a4_16 (by decide) ?_
  refine lv_iushr (v := (x1.toUInt32 >>> (Int32.toUInt32 2 &&& Int32.toUInt32 31)).toInt32) hx hb dJ6_bitCount_0f7a4_17 rfl ?_
  refine lv_ldcw (v := 858993459) hx hb S.2.2.2.1 (S.2.2.2.2 _ m_334) dJ6_bitCount_0f7a4_18 ?_
  refine lv_iand hx hb dJ6_bitCount_0f7a4_21 ?_
  refine lv_iadd hx hb dJ6_bitCount_0f7a4_22 ?_
  refine lv_topi (fun x2 ex2 => ?_)
  refine lv_istore_n (lv' := [(0, .int x2)]) hx hb dJ6_bitCount_0f7a4_23 rfl hl (by decide) rfl (fun ls hl => ?_)
  refine lv_iload_n hx hb dJ6_bitCount_0f7a4_24 rfl (lv_at hl 0 rfl) ?_
  refine lv_iload_n hx hb dJ6_bitCount_0f7a4_25 rfl (lv_at hl 0 rfl) ?_
  refine lv_iconst (v := 4) hx hb dJ6_bitCount_0f7a4_26 (by decide) ?_
  refine lv_iushr (v := (x2.toUInt32 >>> (Int32.toUInt32 4 &&& Int32.toUInt32 31)).toInt32) hx hb dJ6_bitCount_0f7a4_27 rfl ?_
  refine lv_iadd hx hb dJ6_bitCount_0f7a4_28 ?_
  refine lv_ldcw (v := 252645135) hx hb S.2.2.2.1 (S.2.2.2.2 _ m_335) dJ6_bitCount_0f7a4_29 ?_
  refine lv_iand hx hb dJ6_bitCount_0f7a4_32 ?_
  refine lv_topi (fun x3 ex3 => ?_)
  refine lv_istore_n (lv' := [(0, .int x3)]) hx hb dJ6_bitCount_0f7a4_33 rfl hl (by decide) rfl (fun ls hl => ?_)
  refine lv_iload_n hx hb dJ6_bitCount_0f7a4_34 rfl (lv_at hl 0 rfl) ?_
  refine lv_iload_n hx hb dJ6_bitCount_0f7a4_35 rfl (lv_at hl 0 rfl) ?_
  refine lv_bipush (v := 8) hx hb dJ6_bitCount_0f7a4_36 (by decide) ?_
  refine lv_iushr (v := (x3.toUInt32 >>> (Int32.toUInt32 8 &&& Int32.toUInt32 31)).toInt32) hx hb dJ6_bitCount_0f7a4_38 rfl ?_
  refine lv_iadd hx hb dJ6_bitCount_0f7a4_39 ?_
  refine lv_topi (fun x4 ex4 => ?_)
  refine lv_istore_n (lv' := [(0, .int x4)]) hx hb dJ6_bitCount_0f7a4_40 rfl hl (by decide) rfl (fun ls hl => ?_)
  refine lv_iload_n hx hb dJ6_bitCount_0f7a4_41 rfl (lv_at hl 0 rfl) ?_
  refine lv_iload_n hx hb dJ6_bitCount_0f7a4_42 rfl (lv_at hl 0 rfl) ?_
  refine lv_bipush (v := 16) hx hb dJ6_bitCount_0f7a4_43 (by decide) ?_
  refine lv_iushr (v := (x4.toUInt32 >>> (Int32.toUInt32 16 &&& Int32.toUInt32 31)).toInt32) hx hb dJ6_bitCount_0f7a4_45 rfl ?_
  refine lv_iadd hx hb dJ6_bitCount_0f7a4_46 ?_
  refine lv_topi (fun x5 ex5 => ?_)
  refine lv_istore_n (lv' := [(0, .int x5)]) hx hb dJ6_bitCount_0f7a4_47 rfl hl (by decide) rfl (fun ls hl => ?_)
  refine lv_iload_n hx hb dJ6_bitCount_0f7a4_48 rfl (lv_at hl 0 rfl) ?_
  refine lv_bipush (v := 63) hx hb dJ6_bitCount_0f7a4_49 (by decide) ?_
  refine lv_iand hx hb dJ6_bitCount_0f7a4_51 ?_
  exact W.iret (v := x5 &&& 63) hx hb hr (fun t ht hW => ⟨_, rfl, (by subst ex5; subst ex4; subst ex3; subst ex2; subst ex1; rfl), ht⟩) (fun q h => by cases h) dJ6_bitCount_0f7a4_52

set_option maxHeartbeats 4000000 in
set_option maxRecDepth 100000 in
theorem c_agrees (l : Launch) (G : kG) (ad : Nat → Nat) (σ : kS) (k : Nat) (hk : k < 200) : Met l yX0_agrees [.code yX0_agrees cX0_agrees 2 (some .boolean)] ({ frames := 1, cells := 0, slots := 0, locals := 40 }) (va_Pc [.ref (ad 5), .int (nI k)] (fun U => PX G ad σ U U.heap)) (vp_Si (fun r => r = bI (agB σ k))) 0 0 NF := by
  refine k_of (by decide) (Nat.le_of_ble_eq_true rfl) (fun U h => h.2.2) ?_
  intro p e s m below meth c ls S hr hlocks hmn hB hl
  have hx := S.1
  have hb := S.2.1
  have hX : PX G ad σ s s.heap := hB
  have hl : lv_has ls 2 [(0, .ref (ad 5)), (1, .int (nI k))] := hl
  refine lv_aload_n hx hb dX0_agrees_0 rfl (lv_at hl 0 rfl) ?_
  refine k_get S hX.2 hX.1 5 (C := RX0) (T := TX0) (N := 7) rfl rfl 3 (by decide) inX0 m_108 rfl dX0_agrees_1 ?_
  refine lv_iload_n hx hb dX0_agrees_4 rfl (lv_at hl 1 rfl) ?_
  refine k_ild S hX.2 hX.1 17 (i := k) rfl (by omega) (by decide) dX0_agrees_5 ?_
  refine lv_iconst (v := (-1)) hx hb dX0_agrees_6 (by decide) ?_
  refine lv_icmp_eq (tgt := 14) hx hb dX0_agrees_7 (by decide) (fun c7_1 => ?_) (fun c7_1 => ?_)
  · have bc7_1 := c7_1
    refine lv_iconst (v := 0) hx hb dX0_agrees_14 (by decide) ?_
    exact W.zret (v := 0) (ty := .boolean) hx hb hr (by first | rfl | exact bI_nar _) (fun t ht hW => ⟨_, rfl, (by simp [agB, bI, c7_1]), ht⟩) (fun q h => by cases h) dX0_agrees_15
  · have bc7_1 := c7_1
    refine lv_iconst (v := 1) hx hb dX0_agrees_10 (by decide) ?_
    refine lv_goto (tgt := 15) hx hb dX0_agrees_11 (by decide) ?_
    exact W.zret (v := 1) (ty := .boolean) hx hb hr (by first | rfl | exact bI_nar _) (fun t ht hW => ⟨_, rfl, (by simp [agB, bI, c7_1]), ht⟩) (fun q h => by cases h) dX0_agrees_15

set_option maxHeartbeats 4000000 in
set_option maxRecDepth 100000 in
theorem c_hasSign (l : Launch) (G : kG) (ad : Nat → Nat) (σ : kS) (k : Nat) (hk : k < 200) : Met l yX0_hasSign [.code yX0_hasSign cX0_hasSign 2 (some .boolean)] ({ frames := 1, cells := 0, slots := 0, locals := 40 }) (va_Pc [.ref (ad 5), .int (nI k)] (fun U => PX G ad σ U U.heap)) (vp_Si (fun r => r = bI (hsB σ k))) 0 0 NF := by
  refine k_of (by decide) (Nat.le_of_ble_eq_true rfl) (fun U h => h.2.2) ?_
  intro p e s m below meth c ls S hr hlocks hmn hB hl
  have hx := S.1
  have hb := S.2.1
  have hX : PX G ad σ s s.heap := hB
  have hl : lv_has ls 2 [(0, .ref (ad 5)), (1, .int (nI k))] := hl
  refine lv_aload_n hx hb dX0_hasSign_0 rfl (lv_at hl 0 rfl) ?_
  refine k_get S hX.2 hX.1 5 (C := RX0) (T := TX0) (N := 7) rfl rfl 4 (by decide) inX0 m_110 rfl dX0_hasSign_1 ?_
  refine lv_iload_n hx hb dX0_hasSign_4 rfl (lv_at hl 1 rfl) ?_
  refine k_ild S hX.2 hX.1 18 (i := k) rfl (by omega) (by decide) dX0_hasSign_5 ?_
  refine lv_if_eq (tgt := 13) hx hb dX0_hasSign_6 (by decide) (fun c6_1 => ?_) (fun c6_1 => ?_)
  · have bc6_1 := c6_1
    refine lv_iconst (v := 0) hx hb dX0_hasSign_13 (by decide) ?_
    exact W.zret (v := 0) (ty := .boolean) hx hb hr (by first | rfl | exact bI_nar _) (fun t ht hW => ⟨_, rfl, (by simp [hsB, bI, c6_1]), ht⟩) (fun q h => by cases h) dX0_hasSign_14
  · have bc6_1 := c6_1
    refine lv_iconst (v := 1) hx hb dX0_hasSign_9 (by decide) ?_
    refine lv_goto (tgt := 14) hx hb dX0_hasSign_10 (by decide) ?_
    exact W.zret (v := 1) (ty := .boolean) hx hb hr (by first | rfl | exact bI_nar _) (fun t ht hW => ⟨_, rfl, (by simp [hsB, bI, c6_1]), ht⟩) (fun q h => by cases h) dX0_hasSign_14

set_option maxHeartbeats 4000000 in
set_option maxRecDepth 100000 in
theorem c_countsOn (l : Launch) (G : kG) (ad : Nat → Nat) (σ : kS) (k : Nat) (hk : k < 200) : Met l yX0_countsOn [.code yX0_countsOn cX0_countsOn 2 (some .int)] ({ frames := 2, cells := 0, slots := 0, locals := 60 }) (va_Pc [.ref (ad 5), .int (nI k)] (fun U => PX G ad σ U U.heap)) (vp_Si (fun r => r = bc (σ 10 k))) 0 0 NF := by
  refine k_of (by decide) (Nat.le_of_ble_eq_true rfl) (fun U h => h.2.2) ?_
  intro p e s m below meth c ls S hr hlocks hmn hB hl
  have hx := S.1
  have hb := S.2.1
  have hX : PX G ad σ s s.heap := hB
  have hl : lv_has ls 2 [(0, .ref (ad 5)), (1, .int (nI k))] := hl
  refine lv_aload_n hx hb dX0_countsOn_0 rfl (lv_at hl 0 rfl) ?_
  refine k_get S hX.2 hX.1 5 (C := RX0) (T := TX0) (N := 7) rfl rfl 0 (by decide) inX0 m_105 rfl dX0_countsOn_1 ?_
  refine lv_iload_n hx hb dX0_countsOn_4 rfl (lv_at hl 1 rfl) ?_
  refine k_ild S hX.2 hX.1 14 (i := k) rfl (by omega) (by decide) dX0_countsOn_5 ?_
  refine q_i (r_S S ⟨m_330, m_331, m_35, m_332⟩ ⟨rfl, by decide, by decide, by decide +kernel⟩ (c_bitCount l (σ 10 k)) ⟨rfl, rfl, Nat.le_of_ble_eq_true rfl, Nat.le_of_ble_eq_true rfl⟩ (ps bl_GL (bG hX.2.2)) (n := 1) (As := [.int (σ 10 k)]) (rest := []) rfl hl.1 rfl (Nat.le_of_ble_eq_true rfl) ⟨Nat.le_of_ble_eq_true rfl, Nat.le_of_ble_eq_true rfl⟩ dX0_countsOn_6) (fun r1 (e1 : r1 = bc (σ 10 k)) => ?_)
  subst e1
  exact W.iret (v := bc (σ 10 k)) hx hb hr (fun t ht hW => ⟨_, rfl, rfl, ht⟩) (fun q h => by cases h) dX0_countsOn_9

set_option maxHeartbeats 4000000 in
set_option maxRecDepth 100000 in
theorem c_isCountedBy (l : Launch) (G : kG) (ad : Nat → Nat) (σ : kS) (k : Nat) (pe : Int32) (hk : k < 200) : Met l yX0_isCountedBy [.code yX0_isCountedBy cX0_isCountedBy 3 (some .boolean)] ({ frames := 1, cells := 0, slots := 0, locals := 40 }) (va_Pc [.ref (ad 5), .int (nI k), .int pe] (fun U => PX G ad σ U U.heap)) (vp_Si (fun r => r = bI (cbB σ k pe))) 0 0 NF := by
  refine k_of (by decide) (Nat.le_of_ble_eq_true rfl) (fun U h => h.2.2) ?_
  intro p e s m below meth c ls S hr hlocks hmn hB hl
  have hx := S.1
  have hb := S.2.1
  have hX : PX G ad σ s s.heap := hB
  have hl : lv_has ls 3 [(0, .ref (ad 5)), (1, .int (nI k)), (2, .int pe)] := hl
  refine lv_aload_n hx hb dX0_isCountedBy_0 rfl (lv_at hl 0 rfl) ?_
  refine k_get S hX.2 hX.1 5 (C := RX0) (T := TX0) (N := 7) rfl rfl 0 (by decide) inX0 m_105 rfl dX0_isCountedBy_1 ?_
  refine lv_iload_n hx hb dX0_isCountedBy_4 rfl (lv_at hl 1 rfl) ?_
  refine k_ild S hX.2 hX.1 14 (i := k) rfl (by omega) (by decide) dX0_isCountedBy_5 ?_
  refine lv_iconst (v := 1) hx hb dX0_isCountedBy_6 (by decide) ?_
  refine lv_iload_n hx hb dX0_isCountedBy_7 rfl (lv_at hl 2 rfl) ?_
  refine lv_ishl hx hb dX0_isCountedBy_8 ?_
  refine lv_iand hx hb dX0_isCountedBy_9 ?_
  refine lv_if_eq (tgt := 17) hx hb dX0_isCountedBy_10 (by decide) (fun c10_1 => ?_) (fun c10_1 => ?_)
  · have bc10_1 := c10_1
    refine lv_iconst (v := 0) hx hb dX0_isCountedBy_17 (by decide) ?_
    exact W.zret (v := 0) (ty := .boolean) hx hb hr (by first | rfl | exact bI_nar _) (fun t ht hW => ⟨_, rfl, (by simp [cbB, bI, c10_1]), ht⟩) (fun q h => by cases h) dX0_isCountedBy_18
  · have bc10_1 := c10_1
    refine lv_iconst (v := 1) hx hb dX0_isCountedBy_13 (by decide) ?_
    refine lv_goto (tgt := 18) hx hb dX0_isCountedBy_14 (by decide) ?_
    exact W.zret (v := 1) (ty := .boolean) hx hb hr (by first | rfl | exact bI_nar _) (fun t ht hW => ⟨_, rfl, (by simp [cbB, bI, c10_1]), ht⟩) (fun q h => by cases h) dX0_isCountedBy_18

set_option maxHeartbeats 4000000 in
set_option maxRecDepth 100000 in
theorem c_middleOf (l : Launch) (a b c9 : Int32)  : Met l yX0_middleOf [.code yX0_middleOf cX0_middleOf 3 (some .int)] ({ frames := 2, cells := 0, slots := 0, locals := 61 }) (va_Pc [.int a, .int b, .int c9] (fun U => GL U)) (vp_Si (fun r => r = midV a b c9)) 0 0 NF := by
  refine k_of (by decide) (Nat.le_of_ble_eq_true rfl) (fun U h => h) ?_
  intro p e s m below meth c ls S hr hlocks hmn hB hl
  have hx := S.1
  have hb := S.2.1
  have hG : GL s := hB
  have hl : lv_has ls 3 [(0, .int a), (1, .int b), (2, .int c9)] := hl
  refine lv_iload_n hx hb dX0_middleOf_0 rfl (lv_at hl 0 rfl) ?_
  refine lv_iload_n hx hb dX0_middleOf_1 rfl (lv_at hl 1 rfl) ?_
  refine va_mmin hx hb (S.2.2.1.trans hl.1.symm) S.2.2.2.1 (S.2.2.2.2 _ m_569) (S.2.2.2.2 _ m_570) (S.2.2.2.2 _ m_28) (S.2.2.2.2 _ m_571) (Nat.le_of_ble_eq_true rfl) (Nat.le_of_ble_eq_true rfl) (Nat.le_of_ble_eq_true rfl) (Nat.le_of_ble_eq_true rfl) dX0_middleOf_2 ?_
  refine lv_iload_n hx hb dX0_middleOf_5 rfl (lv_at hl 0 rfl) ?_
  refine lv_iload_n hx hb dX0_middleOf_6 rfl (lv_at hl 1 rfl) ?_
  refine va_mmax hx hb (S.2.2.1.trans hl.1.symm) S.2.2.2.1 (S.2.2.2.2 _ m_572) (S.2.2.2.2 _ m_199) (S.2.2.2.2 _ m_28) (S.2.2.2.2 _ m_200) (Nat.le_of_ble_eq_true rfl) (Nat.le_of_ble_eq_true rfl) (Nat.le_of_ble_eq_true rfl) (Nat.le_of_ble_eq_true rfl) dX0_middleOf_7 ?_
  refine lv_iload_n hx hb dX0_middleOf_10 rfl (lv_at hl 2 rfl) ?_
  refine va_mmin hx hb (S.2.2.1.trans hl.1.symm) S.2.2.2.1 (S.2.2.2.2 _ m_569) (S.2.2.2.2 _ m_570) (S.2.2.2.2 _ m_28) (S.2.2.2.2 _ m_571) (Nat.le_of_ble_eq_true rfl) (Nat.le_of_ble_eq_true rfl) (Nat.le_of_ble_eq_true rfl) (Nat.le_of_ble_eq_true rfl) dX0_middleOf_11 ?_
  refine va_mmax hx hb (S.2.2.1.trans hl.1.symm) S.2.2.2.1 (S.2.2.2.2 _ m_572) (S.2.2.2.2 _ m_199) (S.2.2.2.2 _ m_28) (S.2.2.2.2 _ m_200) (Nat.le_of_ble_eq_true rfl) (Nat.le_of_ble_eq_true rfl) (Nat.le_of_ble_eq_true rfl) (Nat.le_of_ble_eq_true rfl) dX0_middleOf_14 ?_
  exact W.iret (v := (if (if b < a then b else a) < (if c9 < (if a < b then b else a) then c9 else (if a < b then b else a)) then (if c9 < (if a < b then b else a) then c9 else (if a < b then b else a)) else (if b < a then b else a))) hx hb hr (fun t ht hW => ⟨_, rfl, rfl, ht⟩) (fun q h => by cases h) dX0_middleOf_17

set_option maxHeartbeats 4000000 in
set_option maxRecDepth 100000 in
theorem c_latestFor (l : Launch) (G : kG) (ad : Nat → Nat) (σ : kS) (ns : Nat) (pl : Int32) (hns : σ 18 0 = nI ns) (hns4 : ns ≤ 40) : Met l yX2_latestFor [.code yX2_latestFor cX2_latestFor 3 (some .int)] ({ frames := 1, cells := 0, slots := 0, locals := 40 }) (va_Pc [.ref (ad 4), .int pl] (fun U => PX G ad σ U U.heap)) (vp_Si (fun r => r = oI (latO σ pl ns))) 0 0 NF := by
  refine k_of (by decide) (Nat.le_of_ble_eq_true rfl) (fun U h => h.2.2) ?_
  intro p e s m below meth c ls S hr hlocks hmn hB hl
  have hx := S.1
  have hb := S.2.1
  have hX : PX G ad σ s s.heap := hB
  have hl : lv_has ls 3 [(0, .ref (ad 4)), (1, .int pl)] := hl
  have L7 : ∀ (k : Nat), k ≤ ns → latO σ pl k = latO σ pl ns → ∀ ls, lv_has ls 3 [(0, .ref (ad 4)), (1, .int pl), (2, .int (nI k - 1))] → W p l e ({ frames := 1, cells := 0, slots := 0, locals := 40 } : Room) s m [.ref (ad 4), .int pl].toArray below meth c s.heap [] 0 0 (MQ below (vp_Si (fun r => r = oI (latO σ pl ns))) [.ref (ad 4), .int pl].toArray s 0 0 NF) (F0 m 7 ls []) := by
    intro k
    induction k with
    | zero =>
      intro hk hlo ls hl
      refine lv_iload_n hx hb dX2_latestFor_7 rfl (lv_at hl 2 rfl) ?_
      refine lv_if_lt (tgt := 29) hx hb dX2_latestFor_8 (by decide) (fun c8_1 => ?_) (fun c8_1 => ?_)
      · have bc8_1 := lt_nle c8_1
        refine lv_iconst (v := (-1)) hx hb dX2_latestFor_29 (by decide) ?_
        exact W.iret (v := (-1)) hx hb hr (fun t ht hW => ⟨_, rfl, (by rw [← hlo]; rfl), ht⟩) (fun q h => by cases h) dX2_latestFor_30
      · have bc8_1 := nlt_le c8_1
        exact absurd (by decide) c8_1
    | succ j ih =>
      intro hk hlo ls hl
      rw [nI_pred] at hl
      refine lv_iload_n hx hb dX2_latestFor_7 rfl (lv_at hl 2 rfl) ?_
      refine lv_if_lt (tgt := 29) hx hb dX2_latestFor_8 (by decide) (fun c8_2 => ?_) (fun c8_2 => ?_)
      · have bc8_2 := lt_nle c8_2
        exact absurd c8_2 (nI_pos (by omega))
      · have bc8_2 := nlt_le c8_2
        refine lv_aload_n hx hb dX2_latestFor_11 rfl (lv_at hl 0 rfl) ?_
        refine k_get S hX.2 hX.1 4 (C := RX2) (T := TX2) (N := 4) rfl rfl 0 (by decide) inX2 m_78 rfl dX2_latestFor_12 ?_
        refine lv_iload_n hx hb dX2_latestFor_15 rfl (lv_at hl 2 rfl) ?_
        refine k_ild S hX.2 hX.1 11 (i := j) rfl (by omega) (by decide) dX2_latestFor_16 ?_
        refine lv_iload_n hx hb dX2_latestFor_17 rfl (lv_at hl 1 rfl) ?_
        refine lv_icmp_ne (tgt := 23) hx hb dX2_latestFor_18 (by decide) (fun c18_3 => ?_) (fun c18_3 => ?_)
        · have bc18_3 := c18_3
          refine lv_iinc (v := nI j - 1) (lv' := [(2, .int (nI j - 1)), (0, .ref (ad 4)), (1, .int pl)]) hx hb dX2_latestFor_23 hl (k := 2) rfl (m1_eq _) (by decide) rfl (fun ls hl => ?_)
          refine lv_goto (tgt := 7) hx hb dX2_latestFor_26 (by decide) ?_
          exact ih (by omega) (by rw [← hlo]; simp [latO, c18_3]) ls (lv_sub hl [1, 2, 0] rfl)
        · have bc18_3 := c18_3
          refine lv_iload_n hx hb dX2_latestFor_21 rfl (lv_at hl 2 rfl) ?_
          exact W.iret (v := nI j) hx hb hr (fun t ht hW => ⟨_, rfl, (by rw [← hlo]; simp [latO, c18_3, oI]), ht⟩) (fun q h => by cases h) dX2_latestFor_22
  refine lv_aload_n hx hb dX2_latestFor_0 rfl (lv_at hl 0 rfl) ?_
  refine k_get S hX.2 hX.1 4 (C := RX2) (T := TX2) (N := 4) rfl rfl 3 (by decide) inX2 m_84 rfl dX2_latestFor_1 ?_
  refine k_eq (y := nI ns) (hns) ?_
  refine lv_iconst (v := 1) hx hb dX2_latestFor_4 (by decide) ?_
  refine lv_isub hx hb dX2_latestFor_5 ?_
  refine lv_istore_n (lv' := [(2, .int ((nI ns) - 1)), (0, .ref (ad 4)), (1, .int pl)]) hx hb dX2_latestFor_6 rfl hl (by decide) rfl (fun ls hl => ?_)
  exact L7 ns (Nat.le_refl _) rfl ls (lv_sub hl [1, 2, 0] rfl)

set_option maxHeartbeats 4000000 in
set_option maxRecDepth 100000 in
theorem c_isOpenFor (l : Launch) (G : kG) (ad : Nat → Nat) (σ : kS) (ns : Nat) (pl : Int32) (hns : σ 18 0 = nI ns) (hns4 : ns ≤ 40) : Met l yX2_isOpenFor [.code yX2_isOpenFor cX2_isOpenFor 3 (some .boolean)] ({ frames := 2, cells := 0, slots := 0, locals := 62 }) (va_Pc [.ref (ad 4), .int pl] (fun U => PX G ad σ U U.heap)) (vp_Si (fun r => r = bI (opB σ pl ns))) 0 0 NF := by
  refine k_of (by decide) (Nat.le_of_ble_eq_true rfl) (fun U h => h.2.2) ?_
  intro p e s m below meth c ls S hr hlocks hmn hB hl
  have hx := S.1
  have hb := S.2.1
  have hX : PX G ad σ s s.heap := hB
  have hl : lv_has ls 3 [(0, .ref (ad 4)), (1, .int pl)] := hl
  refine lv_aload_n hx hb dX2_isOpenFor_0 rfl (lv_at hl 0 rfl) ?_
  refine lv_iload_n hx hb dX2_isOpenFor_1 rfl (lv_at hl 1 rfl) ?_
  refine q_i (r_V S ⟨m_162, m_164, m_1, m_25, m_165⟩ ⟨rfl, by decide, by decide, by decide +kernel⟩ (c_latestFor l G ad σ ns pl hns hns4) ⟨rfl, rfl, Nat.le_of_ble_eq_true rfl, Nat.le_of_ble_eq_true rfl⟩ (pv_X hX 4 rfl rfl bl_PX (bX hX)) (n := 1) (As := [.int pl]) (rest := []) rfl hl.1 rfl (Nat.le_of_ble_eq_true rfl) ⟨Nat.le_of_ble_eq_true rfl, Nat.le_of_ble_eq_true rfl⟩ dX2_isOpenFor_2) (fun r1 (e1 : r1 = oI (latO σ pl ns)) => ?_)
  subst e1
  rcases hla : latO σ pl ns with _ | k
  · show W _ _ _ _ _ _ _ _ _ _ _ _ _ _ _ (F0 m 5 ls [.int (-1)])
    refine lv_istore_n (lv' := [(2, .int (-1)), (0, .ref (ad 4)), (1, .int pl)]) hx hb dX2_isOpenFor_5 rfl hl (by decide) rfl (fun ls hl => ?_)
    refine lv_iload_n hx hb dX2_isOpenFor_6 rfl (lv_at hl 0 rfl) ?_
    refine lv_iconst (v := (-1)) hx hb dX2_isOpenFor_7 (by decide) ?_
    refine lv_icmp_eq (tgt := 24) hx hb dX2_isOpenFor_8 (by decide) (fun c8_2 => ?_) (fun c8_2 => ?_)
    · have bc8_2 := c8_2
      refine lv_iconst (v := 0) hx hb dX2_isOpenFor_24 (by decide) ?_
      exact W.zret (v := 0) (ty := .boolean) hx hb hr (by first | rfl | exact bI_nar _) (fun t ht hW => ⟨_, rfl, (by simp [opB, bI, hla, c8_2]), ht⟩) (fun q h => by cases h) dX2_isOpenFor_25
    · have bc8_2 := c8_2
      exact absurd rfl c8_2
  · show W _ _ _ _ _ _ _ _ _ _ _ _ _ _ _ (F0 m 5 ls [.int (nI k)])
    have hkn := (latO_lt hla).1
    refine lv_istore_n (lv' := [(2, .int (nI k)), (0, .ref (ad 4)), (1, .int pl)]) hx hb dX2_isOpenFor_5 rfl hl (by decide) rfl (fun ls hl => ?_)
    refine lv_iload_n hx hb dX2_isOpenFor_6 rfl (lv_at hl 0 rfl) ?_
    refine lv_iconst (v := (-1)) hx hb dX2_isOpenFor_7 (by decide) ?_
    refine lv_icmp_eq (tgt := 24) hx hb dX2_isOpenFor_8 (by decide) (fun c8_3 => ?_) (fun c8_3 => ?_)
    · have bc8_3 := c8_3
      exact absurd c8_3 (nI_m1 (by omega))
    · have bc8_3 := c8_3
      refine lv_aload_n hx hb dX2_isOpenFor_11 rfl (lv_at hl 1 rfl) ?_
      refine k_get S hX.2 hX.1 4 (C := RX2) (T := TX2) (N := 4) rfl rfl 2 (by decide) inX2 m_82 rfl dX2_isOpenFor_12 ?_
      refine lv_iload_n hx hb dX2_isOpenFor_15 rfl (lv_at hl 0 rfl) ?_
      refine k_zld S hX.2 hX.1 13 (i := k) rfl (by omega) (by decide) dX2_isOpenFor_16 ?_
      refine lv_if_ne (tgt := 24) hx hb dX2_isOpenFor_17 (by decide) (fun c17_4 => ?_) (fun c17_4 => ?_)
      · have bc17_4 := c17_4
        refine lv_iconst (v := 0) hx hb dX2_isOpenFor_24 (by decide) ?_
        exact W.zret (v := 0) (ty := .boolean) hx hb hr (by first | rfl | exact bI_nar _) (fun t ht hW => ⟨_, rfl, (by simp [opB, bI, hla, c8_3, c17_4]), ht⟩) (fun q h => by cases h) dX2_isOpenFor_25
      · have bc17_4 := c17_4
        refine lv_iconst (v := 1) hx hb dX2_isOpenFor_20 (by decide) ?_
        refine lv_goto (tgt := 25) hx hb dX2_isOpenFor_21 (by decide) ?_
        exact W.zret (v := 1) (ty := .boolean) hx hb hr (by first | rfl | exact bI_nar _) (fun t ht hW => ⟨_, rfl, (by simp [opB, bI, hla, c8_3, c17_4]), ht⟩) (fun q h => by cases h) dX2_isOpenFor_25

set_option maxHeartbeats 4000000 in
set_option maxRecDepth 100000 in
theorem c_brought (l : Launch) (G : kG) (ad : Nat → Nat) (σ : kS) (nm : Nat) (pl ar af un : Int32) (hnm : σ 17 0 = nI nm) (hnm2 : nm ≤ 200) : Met l yX1_brought [.code yX1_brought cX1_brought 7 (some .int)] ({ frames := 1, cells := 0, slots := 0, locals := 40 }) (va_Pc [.ref (ad 3), .int pl, .int ar, .int af, .int un] (fun U => PX G ad σ U U.heap)) (vp_Si (fun r => r = brF σ pl ar af un nm)) 0 0 NF := by
  refine k_of (by decide) (Nat.le_of_ble_eq_true rfl) (fun U h => h.2.2) ?_
  intro p e s m below meth c ls S hr hlocks hmn hB hl
  have hx := S.1
  have hb := S.2.1
  have hX : PX G ad σ s s.heap := hB
  have hl : lv_has ls 7 [(0, .ref (ad 3)), (1, .int pl), (2, .int ar), (3, .int af), (4, .int un)] := hl
  have L6 : ∀ (n i : Nat), i ≤ nm → nm + 1 ≤ i + n → ∀ ls, lv_has ls 7 [(0, .ref (ad 3)), (1, .int pl), (2, .int ar), (3, .int af), (4, .int un), (5, .int (brF σ pl ar af un i)), (6, .int (nI i))] → W p l e ({ frames := 1, cells := 0, slots := 0, locals := 40 } : Room) s m [.ref (ad 3), .int pl, .int ar, .int af, .int un].toArray below meth c s.heap [] 0 0 (MQ below (vp_Si (fun r => r = brF σ pl ar af un nm)) [.ref (ad 3), .int pl, .int ar, .int af, .int un].toArray s 0 0 NF) (F0 m 6 ls []) := by
    intro n
    induction n with
    | zero =>
      intro i h1 h2
      omega
    | succ n ih =>
      intro i hi hin ls hl
      refine lv_iload hx hb dX1_brought_6 (lv_at hl 6 rfl) ?_
      refine lv_aload_n hx hb dX1_brought_8 rfl (lv_at hl 0 rfl) ?_
      refine k_get S hX.2 hX.1 3 (C := RX1) (T := TX1) (N := 6) rfl rfl 5 (by decide) inX1 m_56 rfl dX1_brought_9 ?_
      refine k_eq (y := nI nm) (hnm) ?_
      refine lv_icmp_ge (tgt := 104) hx hb dX1_brought_12 (by decide) (fun c12_1 => ?_) (fun c12_1 => ?_)
      · have bc12_1 := le_nlt c12_1
        have hge : i = nm := by
          have h9 := c12_1
          rw [nI_leI (by omega) (by omega)] at h9
          omega
        subst hge
        refine lv_iload hx hb dX1_brought_104 (lv_at hl 5 rfl) ?_
        exact W.iret (v := brF σ pl ar af un i) hx hb hr (fun t ht hW => ⟨_, rfl, rfl, ht⟩) (fun q h => by cases h) dX1_brought_106
      · have bc12_1 := nle_lt c12_1
        have hlt : i < nm := by
          have h9 := nle_lt c12_1
          rw [nI_ltI (by omega) (by omega)] at h9
          exact h9
        refine lv_aload_n hx hb dX1_brought_15 rfl (lv_at hl 0 rfl) ?_
        refine k_get S hX.2 hX.1 3 (C := RX1) (T := TX1) (N := 6) rfl rfl 2 (by decide) inX1 m_53 rfl dX1_brought_16 ?_
        refine lv_iload hx hb dX1_brought_19 (lv_at hl 6 rfl) ?_
        refine k_ild S hX.2 hX.1 8 (i := i) rfl (by omega) (by decide) dX1_brought_21 ?_
        refine lv_iload_n hx hb dX1_brought_22 rfl (lv_at hl 2 rfl) ?_
        refine lv_icmp_ne (tgt := 98) hx hb dX1_brought_23 (by decide) (fun c23_2 => ?_) (fun c23_2 => ?_)
        · have bc23_2 := c23_2
          refine lv_iinc (v := nI (i + 1)) (lv' := [(6, .int (nI (i + 1))), (0, .ref (ad 3)), (1, .int pl), (2, .int ar), (3, .int af), (4, .int un), (5, .int (brF σ pl ar af un i))]) hx hb dX1_brought_98 hl (k := 6) rfl (nI_1 i) (by decide) rfl (fun ls hl => ?_)
          refine lv_goto (tgt := 6) hx hb dX1_brought_101 (by decide) ?_
          have ev3 : brF σ pl ar af un i = brF σ pl ar af un (i + 1) := by simp [brF, brT, c12_1, bc12_1, c23_2]
          rw [ev3] at hl
          exact ih (i + 1) hlt (by omega) ls (lv_sub hl [1, 2, 3, 4, 5, 6, 0] rfl)
        · have bc23_2 := c23_2
          refine lv_aload_n hx hb dX1_brought_26 rfl (lv_at hl 0 rfl) ?_
          refine k_get S hX.2 hX.1 3 (C := RX1) (T := TX1) (N := 6) rfl rfl 4 (by decide) inX1 m_55 rfl dX1_brought_27 ?_
          refine lv_iload hx hb dX1_brought_30 (lv_at hl 6 rfl) ?_
          refine k_ild S hX.2 hX.1 10 (i := i) rfl (by omega) (by decide) dX1_brought_32 ?_
          refine lv_iload_n hx hb dX1_brought_33 rfl (lv_at hl 3 rfl) ?_
          refine lv_icmp_le (tgt := 98) hx hb dX1_brought_34 (by decide) (fun c34_4 => ?_) (fun c34_4 => ?_)
          · have bc34_4 := le_nlt c34_4
            refine lv_iinc (v := nI (i + 1)) (lv' := [(6, .int (nI (i + 1))), (0, .ref (ad 3)), (1, .int pl), (2, .int ar), (3, .int af), (4, .int un), (5, .int (brF σ pl ar af un i))]) hx hb dX1_brought_98 hl (k := 6) rfl (nI_1 i) (by decide) rfl (fun ls hl => ?_)
            refine lv_goto (tgt := 6) hx hb dX1_brought_101 (by decide) ?_
            have ev5 : brF σ pl ar af un i = brF σ pl ar af un (i + 1) := by simp [brF, brT, c12_1, bc12_1, c23_2, c34_4, bc34_4]
            rw [ev5] at hl
            exact ih (i + 1) hlt (by omega) ls (lv_sub hl [1, 2, 3, 4, 5, 6, 0] rfl)
          · have bc34_4 := nle_lt c34_4
            refine lv_aload_n hx hb dX1_brought_37 rfl (lv_at hl 0 rfl) ?_
            refine k_get S hX.2 hX.1 3 (C := RX1) (T := TX1) (N := 6) rfl rfl 4 (by decide) inX1 m_55 rfl dX1_brought_38 ?_
            refine lv_iload hx hb dX1_brought_41 (lv_at hl 6 rfl) ?_
            refine k_ild S hX.2 hX.1 10 (i := i) rfl (by omega) (by decide) dX1_brought_43 ?_
            refine lv_iload hx hb dX1_brought_44 (lv_at hl 4 rfl) ?_
            refine lv_icmp_gt (tgt := 98) hx hb dX1_brought_46 (by decide) (fun c46_6 => ?_) (fun c46_6 => ?_)
            · have bc46_6 := lt_nle c46_6
              refine lv_iinc (v := nI (i + 1)) (lv' := [(6, .int (nI (i + 1))), (0, .ref (ad 3)), (1, .int pl), (2, .int ar), (3, .int af), (4, .int un), (5, .int (brF σ pl ar af un i))]) hx hb dX1_brought_98 hl (k := 6) rfl (nI_1 i) (by decide) rfl (fun ls hl => ?_)
              refine lv_goto (tgt := 6) hx hb dX1_brought_101 (by decide) ?_
              have ev7 : brF σ pl ar af un i = brF σ pl ar af un (i + 1) := by simp [brF, brT, c12_1, bc12_1, c23_2, c34_4, bc34_4, c46_6, bc46_6]
              rw [ev7] at hl
              exact ih (i + 1) hlt (by omega) ls (lv_sub hl [1, 2, 3, 4, 5, 6, 0] rfl)
            · have bc46_6 := nlt_le c46_6
              refine lv_aload_n hx hb dX1_brought_49 rfl (lv_at hl 0 rfl) ?_
              refine k_get S hX.2 hX.1 3 (C := RX1) (T := TX1) (N := 6) rfl rfl 1 (by decide) inX1 m_52 rfl dX1_brought_50 ?_
              refine lv_iload hx hb dX1_brought_53 (lv_at hl 6 rfl) ?_
              refine k_ild S hX.2 hX.1 7 (i := i) rfl (by omega) (by decide) dX1_brought_55 ?_
              refine lv_iload_n hx hb dX1_brought_56 rfl (lv_at hl 1 rfl) ?_
              refine lv_icmp_ne (tgt := 75) hx hb dX1_brought_57 (by decide) (fun c57_8 => ?_) (fun c57_8 => ?_)
              · have bc57_8 := c57_8
                refine lv_aload_n hx hb dX1_brought_75 rfl (lv_at hl 0 rfl) ?_
                refine k_get S hX.2 hX.1 3 (C := RX1) (T := TX1) (N := 6) rfl rfl 0 (by decide) inX1 m_51 rfl dX1_brought_76 ?_
                refine lv_iload hx hb dX1_brought_79 (lv_at hl 6 rfl) ?_
                refine k_ild S hX.2 hX.1 6 (i := i) rfl (by omega) (by decide) dX1_brought_81 ?_
                refine lv_iload_n hx hb dX1_brought_82 rfl (lv_at hl 1 rfl) ?_
                refine lv_icmp_ne (tgt := 98) hx hb dX1_brought_83 (by decide) (fun c83_9 => ?_) (fun c83_9 => ?_)
                · have bc83_9 := c83_9
                  refine lv_iinc (v := nI (i + 1)) (lv' := [(6, .int (nI (i + 1))), (0, .ref (ad 3)), (1, .int pl), (2, .int ar), (3, .int af), (4, .int un), (5, .int (brF σ pl ar af un i))]) hx hb dX1_brought_98 hl (k := 6) rfl (nI_1 i) (by decide) rfl (fun ls hl => ?_)
                  refine lv_goto (tgt := 6) hx hb dX1_brought_101 (by decide) ?_
                  have ev10 : brF σ pl ar af un i = brF σ pl ar af un (i + 1) := by simp [brF, brT, c12_1, bc12_1, c23_2, c34_4, bc34_4, c46_6, bc46_6, c57_8, c83_9]
                  rw [ev10] at hl
                  exact ih (i + 1) hlt (by omega) ls (lv_sub hl [1, 2, 3, 4, 5, 6, 0] rfl)
                · have bc83_9 := c83_9
                  refine lv_iload hx hb dX1_brought_86 (lv_at hl 5 rfl) ?_
                  refine lv_aload_n hx hb dX1_brought_88 rfl (lv_at hl 0 rfl) ?_
                  refine k_get S hX.2 hX.1 3 (C := RX1) (T := TX1) (N := 6) rfl rfl 3 (by decide) inX1 m_54 rfl dX1_brought_89 ?_
                  refine lv_iload hx hb dX1_brought_92 (lv_at hl 6 rfl) ?_
                  refine k_ild S hX.2 hX.1 9 (i := i) rfl (by omega) (by decide) dX1_brought_94 ?_
                  refine lv_isub hx hb dX1_brought_95 ?_
                  refine lv_istore (lv' := [(5, .int ((brF σ pl ar af un i) - (σ 5 i))), (0, .ref (ad 3)), (1, .int pl), (2, .int ar), (3, .int af), (4, .int un), (6, .int (nI i))]) hx hb dX1_brought_96 hl (by decide) rfl (fun ls hl => ?_)
                  refine lv_iinc (v := nI (i + 1)) (lv' := [(6, .int (nI (i + 1))), (5, .int ((brF σ pl ar af un i) - (σ 5 i))), (0, .ref (ad 3)), (1, .int pl), (2, .int ar), (3, .int af), (4, .int un)]) hx hb dX1_brought_98 hl (k := 6) rfl (nI_1 i) (by decide) rfl (fun ls hl => ?_)
                  refine lv_goto (tgt := 6) hx hb dX1_brought_101 (by decide) ?_
                  have ev11 : (brF σ pl ar af un i) - (σ 5 i) = brF σ pl ar af un (i + 1) := by simp [brF, brT, c12_1, bc12_1, c23_2, c34_4, bc34_4, c46_6, bc46_6, c57_8, c83_9]
                  rw [ev11] at hl
                  exact ih (i + 1) hlt (by omega) ls (lv_sub hl [2, 3, 4, 5, 6, 1, 0] rfl)
              · have bc57_8 := c57_8
                refine lv_iload hx hb dX1_brought_60 (lv_at hl 5 rfl) ?_
                refine lv_aload_n hx hb dX1_brought_62 rfl (lv_at hl 0 rfl) ?_
                refine k_get S hX.2 hX.1 3 (C := RX1) (T := TX1) (N := 6) rfl rfl 3 (by decide) inX1 m_54 rfl dX1_brought_63 ?_
                refine lv_iload hx hb dX1_brought_66 (lv_at hl 6 rfl) ?_
                refine k_ild S hX.2 hX.1 9 (i := i) rfl (by omega) (by decide) dX1_brought_68 ?_
                refine lv_iadd hx hb dX1_brought_69 ?_
                refine lv_istore (lv' := [(5, .int ((brF σ pl ar af un i) + (σ 5 i))), (0, .ref (ad 3)), (1, .int pl), (2, .int ar), (3, .int af), (4, .int un), (6, .int (nI i))]) hx hb dX1_brought_70 hl (by decide) rfl (fun ls hl => ?_)
                refine lv_goto (tgt := 98) hx hb dX1_brought_72 (by decide) ?_
                refine lv_iinc (v := nI (i + 1)) (lv' := [(6, .int (nI (i + 1))), (5, .int ((brF σ pl ar af un i) + (σ 5 i))), (0, .ref (ad 3)), (1, .int pl), (2, .int ar), (3, .int af), (4, .int un)]) hx hb dX1_brought_98 hl (k := 6) rfl (nI_1 i) (by decide) rfl (fun ls hl => ?_)
                refine lv_goto (tgt := 6) hx hb dX1_brought_101 (by decide) ?_
                have ev12 : (brF σ pl ar af un i) + (σ 5 i) = brF σ pl ar af un (i + 1) := by simp [brF, brT, c12_1, bc12_1, c23_2, c34_4, bc34_4, c46_6, bc46_6, c57_8]
                rw [ev12] at hl
                exact ih (i + 1) hlt (by omega) ls (lv_sub hl [2, 3, 4, 5, 6, 1, 0] rfl)
  refine lv_iconst (v := 0) hx hb dX1_brought_0 (by decide) ?_
  refine lv_istore (lv' := [(5, .int 0), (0, .ref (ad 3)), (1, .int pl), (2, .int ar), (3, .int af), (4, .int un)]) hx hb dX1_brought_1 hl (by decide) rfl (fun ls hl => ?_)
  refine lv_iconst (v := 0) hx hb dX1_brought_3 (by decide) ?_
  refine lv_istore (lv' := [(6, .int 0), (5, .int 0), (0, .ref (ad 3)), (1, .int pl), (2, .int ar), (3, .int af), (4, .int un)]) hx hb dX1_brought_4 hl (by decide) rfl (fun ls hl => ?_)
  exact L6 (nm + 1) 0 (Nat.zero_le _) (by omega) ls (lv_sub hl [2, 3, 4, 5, 6, 1, 0] rfl)
