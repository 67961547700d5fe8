set_option maxHeartbeats 4000000 in
set_option maxRecDepth 100000 in
theorem c4_in (l : Launch) (v a b : Int32)  : Met l yX4_in [.code yX4_in cX4_in 3 (some .boolean)] ({ frames := 1, cells := 0, slots := 0, locals := 40 }) (va_Pc [.int v, .int a, .int b] (fun U => GL U)) (vp_Si (fun r => r = bI (ckR v a b))) 0 0 NF := by
  refine k_of (by decide) (Nat.le_of_ble_eq_true rfl) (fun U h => h) ?_
  intro p e s m below meth c ls S hr hlocks hmn hB hl
  have hx := S.1
  have hb := S.2.1
  have hG : GL s := hB
  have hl : lv_has ls 3 [(0, .int v), (1, .int a), (2, .int b)] := hl
  refine lv_iload_n hx hb dX4_in_0 rfl (lv_at hl 0 rfl) ?_
  refine lv_iload_n hx hb dX4_in_1 rfl (lv_at hl 1 rfl) ?_
  refine lv_icmp_lt (tgt := 14) hx hb dX4_in_2 (by decide) (fun c2_1 => ?_) (fun c2_1 => ?_)
  · have bc2_1 := lt_nle c2_1
    refine lv_iconst (v := 0) hx hb dX4_in_14 (by decide) ?_
    exact W.zret (v := 0) (ty := .boolean) hx hb hr (by first | rfl | exact bI_nar _) (fun t ht hW => ⟨_, rfl, (by simp [ckR, bI, c2_1, bc2_1]), ht⟩) (fun q h => by cases h) dX4_in_15
  · have bc2_1 := nlt_le c2_1
    refine lv_iload_n hx hb dX4_in_5 rfl (lv_at hl 0 rfl) ?_
    refine lv_iload_n hx hb dX4_in_6 rfl (lv_at hl 2 rfl) ?_
    refine lv_icmp_gt (tgt := 14) hx hb dX4_in_7 (by decide) (fun c7_2 => ?_) (fun c7_2 => ?_)
    · have bc7_2 := lt_nle c7_2
      refine lv_iconst (v := 0) hx hb dX4_in_14 (by decide) ?_
      exact W.zret (v := 0) (ty := .boolean) hx hb hr (by first | rfl | exact bI_nar _) (fun t ht hW => ⟨_, rfl, (by simp [ckR, bI, c2_1, bc2_1, c7_2, bc7_2]), ht⟩) (fun q h => by cases h) dX4_in_15
    · have bc7_2 := nlt_le c7_2
      refine lv_iconst (v := 1) hx hb dX4_in_10 (by decide) ?_
      refine lv_goto (tgt := 15) hx hb dX4_in_11 (by decide) ?_
      exact W.zret (v := 1) (ty := .boolean) hx hb hr (by first | rfl | exact bI_nar _) (fun t ht hW => ⟨_, rfl, (by simp [ckR, bI, c2_1, bc2_1, c7_2, bc7_2]), ht⟩) (fun q h => by cases h) dX4_in_15

set_option maxHeartbeats 4000000 in
set_option maxRecDepth 100000 in
theorem c4_isPlace (l : Launch) (v : Int32)  : Met l yX4_isPlace [.code yX4_isPlace cX4_isPlace 1 (some .boolean)] ({ frames := 2, cells := 0, slots := 0, locals := 62 }) (va_Pc [.int v] (fun U => GL U)) (vp_Si (fun r => r = bI (ckR v 0 11))) 0 0 NF := by
  refine k_of (by decide) (Nat.le_of_ble_eq_true rfl) (fun U h => h) ?_
  intro p e s m below meth c ls S hr hlocks hmn hB hl
  have hx := S.1
  have hb := S.2.1
  have hG : GL s := hB
  have hl : lv_has ls 1 [(0, .int v)] := hl
  refine lv_iload_n hx hb dX4_isPlace_0 rfl (lv_at hl 0 rfl) ?_
  refine lv_iconst (v := 0) hx hb dX4_isPlace_1 (by decide) ?_
  refine lv_bipush (v := 11) hx hb dX4_isPlace_2 (by decide) ?_
  refine q_i (r_S S ⟨m_647, m_648, m_40, m_649⟩ ⟨rfl, by decide, by decide, by decide +kernel⟩ (c4_in l v 0 11) ⟨rfl, rfl, Nat.le_of_ble_eq_true rfl, Nat.le_of_ble_eq_true rfl⟩ (ps bl_GL (bG hG)) (n := 3) (As := [.int v, .int 0, .int 11]) (rest := []) rfl hl.1 rfl (Nat.le_of_ble_eq_true rfl) ⟨Nat.le_of_ble_eq_true rfl, Nat.le_of_ble_eq_true rfl⟩ dX4_isPlace_4) (fun r1 (e1 : r1 = bI (ckR v 0 11)) => ?_)
  subst e1
  exact W.zret (v := bI (ckR v 0 11)) (ty := .boolean) hx hb hr (by first | rfl | exact bI_nar _) (fun t ht hW => ⟨_, rfl, rfl, ht⟩) (fun q h => by cases h) dX4_isPlace_7

set_option maxHeartbeats 4000000 in
set_option maxRecDepth 100000 in
theorem c4_isArticle (l : Launch) (v : Int32)  : Met l yX4_isArticle [.code yX4_isArticle cX4_isArticle 1 (some .boolean)] ({ frames := 2, cells := 0, slots := 0, locals := 62 }) (va_Pc [.int v] (fun U => GL U)) (vp_Si (fun r => r = bI (ckR v 0 4))) 0 0 NF := by
  refine k_of (by decide) (Nat.le_of_ble_eq_true rfl) (fun U h => h) ?_
  intro p e s m below meth c ls S hr hlocks hmn hB hl
  have hx := S.1
  have hb := S.2.1
  have hG : GL s := hB
  have hl : lv_has ls 1 [(0, .int v)] := hl
  refine lv_iload_n hx hb dX4_isArticle_0 rfl (lv_at hl 0 rfl) ?_
  refine lv_iconst (v := 0) hx hb dX4_isArticle_1 (by decide) ?_
  refine lv_iconst (v := 4) hx hb dX4_isArticle_2 (by decide) ?_
  refine q_i (r_S S ⟨m_647, m_648, m_40, m_649⟩ ⟨rfl, by decide, by decide, by decide +kernel⟩ (c4_in l v 0 4) ⟨rfl, rfl, Nat.le_of_ble_eq_true rfl, Nat.le_of_ble_eq_true rfl⟩ (ps bl_GL (bG hG)) (n := 3) (As := [.int v, .int 0, .int 4]) (rest := []) rfl hl.1 rfl (Nat.le_of_ble_eq_true rfl) ⟨Nat.le_of_ble_eq_true rfl, Nat.le_of_ble_eq_true rfl⟩ dX4_isArticle_3) (fun r1 (e1 : r1 = bI (ckR v 0 4)) => ?_)
  subst e1
  exact W.zret (v := bI (ckR v 0 4)) (ty := .boolean) hx hb hr (by first | rfl | exact bI_nar _) (fun t ht hW => ⟨_, rfl, rfl, ht⟩) (fun q h => by cases h) dX4_isArticle_6

set_option maxHeartbeats 4000000 in
set_option maxRecDepth 100000 in
theorem c4_isSheet (l : Launch) (G : kG) (ad : Nat → Nat) (σ : kS) (v : Int32)  : Met l yX4_isSheet [.code yX4_isSheet cX4_isSheet 2 (some .boolean)] ({ frames := 2, cells := 0, slots := 0, locals := 62 }) (va_Pc [.ref (ad 0), .int v] (fun U => PM G ad σ U U.heap)) (vp_Si (fun r => r = bI (ckR v 0 (σ 18 0 - 1)))) 0 0 NF := by
  refine k_of (by decide) (Nat.le_of_ble_eq_true rfl) (fun U h => h.2.2) ?_
  intro p e s m below meth c ls S hr hlocks hmn hB hl
  have hx := S.1
  have hb := S.2.1
  have hX : PM G ad σ s s.heap := hB
  have hl : lv_has ls 2 [(0, .ref (ad 0)), (1, .int v)] := hl
  refine lv_iload_n hx hb dX4_isSheet_0 rfl (lv_at hl 1 rfl) ?_
  refine lv_iconst (v := 0) hx hb dX4_isSheet_1 (by decide) ?_
  refine lv_aload_n hx hb dX4_isSheet_2 rfl (lv_at hl 0 rfl) ?_
  refine k_get S hX.2 hX.1 0 (C := RX4) (T := TX4) (N := 20) rfl rfl 9 (by decide) inX4 m_584 rfl dX4_isSheet_3 ?_
  refine lv_iconst (v := 1) hx hb dX4_isSheet_6 (by decide) ?_
  refine lv_isub hx hb dX4_isSheet_7 ?_
  refine q_i (r_S S ⟨m_647, m_648, m_40, m_649⟩ ⟨rfl, by decide, by decide, by decide +kernel⟩ (c4_in l v 0 ((σ 18 0) - 1)) ⟨rfl, rfl, Nat.le_of_ble_eq_true rfl, Nat.le_of_ble_eq_true rfl⟩ (ps bl_GL (bG hX.2.2)) (n := 3) (As := [.int v, .int 0, .int ((σ 18 0) - 1)]) (rest := []) rfl hl.1 rfl (Nat.le_of_ble_eq_true rfl) ⟨Nat.le_of_ble_eq_true rfl, Nat.le_of_ble_eq_true rfl⟩ dX4_isSheet_8) (fun r1 (e1 : r1 = bI (ckR v 0 ((σ 18 0) - 1))) => ?_)
  subst e1
  exact W.zret (v := bI (ckR v 0 ((σ 18 0) - 1))) (ty := .boolean) hx hb hr (by first | rfl | exact bI_nar _) (fun t ht hW => ⟨_, rfl, rfl, ht⟩) (fun q h => by cases h) dX4_isSheet_11

set_option maxHeartbeats 4000000 in
set_option maxRecDepth 100000 in
theorem c4_at (l : Launch) (sh ar : Nat)  : Met l yX4_at [.code yX4_at cX4_at 2 (some .int)] ({ frames := 1, cells := 0, slots := 0, locals := 40 }) (va_Pc [.int (nI sh), .int (nI ar)] (fun U => GL U)) (vp_Si (fun r => r = nI (sh * 5 + ar))) 0 0 NF := by
  refine k_of (by decide) (Nat.le_of_ble_eq_true rfl) (fun U h => h) ?_
  intro p e s m below meth c ls S hr hlocks hmn hB hl
  have hx := S.1
  have hb := S.2.1
  have hG : GL s := hB
  have hl : lv_has ls 2 [(0, .int (nI sh)), (1, .int (nI ar))] := hl
  refine lv_iconst (v := 5) hx hb dX4_at_0 (by decide) ?_
  refine lv_iload_n hx hb dX4_at_1 rfl (lv_at hl 0 rfl) ?_
  refine lv_imul hx hb dX4_at_2 ?_
  refine lv_iload_n hx hb dX4_at_3 rfl (lv_at hl 1 rfl) ?_
  refine lv_iadd hx hb dX4_at_4 ?_
  exact W.iret (v := (5 * (nI sh)) + (nI ar)) hx hb hr (fun t ht hW => ⟨_, rfl, at_eq sh ar, ht⟩) (fun q h => by cases h) dX4_at_5

set_option maxHeartbeats 4000000 in
set_option maxRecDepth 100000 in
theorem c4_thrown (l : Launch) (G : kG) (ad : Nat → Nat) (σ : kS)  : Met l yX4_thrown [.code yX4_thrown cX4_thrown 1 (some .int)] ({ frames := 1, cells := 0, slots := 0, locals := 40 }) (va_Pc [.ref (ad 0)] (fun U => PM G ad σ U U.heap)) (vp_Si (fun r => r = σ 23 0)) 0 0 NF := by
  refine k_of (by decide) (Nat.le_of_ble_eq_true rfl) (fun U h => h.2.2) ?_
  intro p e s m below meth c ls S hr hlocks hmn hB hl
  have hx := S.1
  have hb := S.2.1
  have hX : PM G ad σ s s.heap := hB
  have hl : lv_has ls 1 [(0, .ref (ad 0))] := hl
  refine lv_aload_n hx hb dX4_thrown_0 rfl (lv_at hl 0 rfl) ?_
  refine k_get S hX.2 hX.1 0 (C := RX4) (T := TX4) (N := 20) rfl rfl 19 (by decide) inX4 m_594 rfl dX4_thrown_1 ?_
  exact W.iret (v := σ 23 0) hx hb hr (fun t ht hW => ⟨_, rfl, rfl, ht⟩) (fun q h => by cases h) dX4_thrown_4

set_option maxHeartbeats 4000000 in
set_option maxRecDepth 100000 in
theorem c4_agree (l : Launch) (G : kG) (ad : Nat → Nat) (σ : kS) (k : Nat) (hk : k < 200) : Met l yX4_agree [.code yX4_agree cX4_agree 7 (some .int)] ({ frames := 1, cells := 0, slots := 0, locals := 40 }) (va_Pc [.ref (ad 0), .int (nI k)] (fun U => PM G ad σ U U.heap)) (vp_Si (fun r => r = agM σ k)) 0 0 NF := by
  refine k_of (by decide) (Nat.le_of_ble_eq_true rfl) (fun U h => h.2.2) ?_
  intro p e s m below meth c ls S hr hlocks hmn hB hl
  have hx := S.1
  have hb := S.2.1
  have hX : PM G ad σ s s.heap := hB
  have hl : lv_has ls 7 [(0, .ref (ad 0)), (1, .int (nI k))] := hl
  refine lv_aload_n hx hb dX4_agree_0 rfl (lv_at hl 0 rfl) ?_
  refine k_get S hX.2 hX.1 0 (C := RX4) (T := TX4) (N := 20) rfl rfl 18 (by decide) inX4 m_593 rfl dX4_agree_1 ?_
  refine lv_iconst (v := 3) hx hb dX4_agree_4 (by decide) ?_
  refine lv_iload_n hx hb dX4_agree_5 rfl (lv_at hl 1 rfl) ?_
  refine lv_imul hx hb dX4_agree_6 ?_
  refine k_eq (y := nI (3 * k)) (pk_mul 3 k) ?_
  refine k_ild S hX.2 hX.1 15 (i := (3 * k)) rfl (by omega) (by decide) dX4_agree_7 ?_
  refine lv_istore_n (lv' := [(2, .int (σ 22 (3 * k))), (0, .ref (ad 0)), (1, .int (nI k))]) hx hb dX4_agree_8 rfl hl (by decide) rfl (fun ls hl => ?_)
  refine lv_aload_n hx hb dX4_agree_9 rfl (lv_at hl 1 rfl) ?_
  refine k_get S hX.2 hX.1 0 (C := RX4) (T := TX4) (N := 20) rfl rfl 18 (by decide) inX4 m_593 rfl dX4_agree_10 ?_
  refine lv_iconst (v := 3) hx hb dX4_agree_13 (by decide) ?_
  refine lv_iload_n hx hb dX4_agree_14 rfl (lv_at hl 2 rfl) ?_
  refine lv_imul hx hb dX4_agree_15 ?_
  refine k_eq (y := nI (3 * k)) (pk_mul 3 k) ?_
  refine lv_iconst (v := 1) hx hb dX4_agree_16 (by decide) ?_
  refine lv_iadd hx hb dX4_agree_17 ?_
  refine k_eq (y := nI ((3 * k) + 1)) (nI_add (3 * k) 1) ?_
  refine k_ild S hX.2 hX.1 15 (i := ((3 * k) + 1)) rfl (by omega) (by decide) dX4_agree_18 ?_
  refine lv_istore_n (lv' := [(3, .int (σ 22 ((3 * k) + 1))), (2, .int (σ 22 (3 * k))), (0, .ref (ad 0)), (1, .int (nI k))]) hx hb dX4_agree_19 rfl hl (by decide) rfl (fun ls hl => ?_)
  refine lv_aload_n hx hb dX4_agree_20 rfl (lv_at hl 2 rfl) ?_
  refine k_get S hX.2 hX.1 0 (C := RX4) (T := TX4) (N := 20) rfl rfl 18 (by decide) inX4 m_593 rfl dX4_agree_21 ?_
  refine lv_iconst (v := 3) hx hb dX4_agree_24 (by decide) ?_
  refine lv_iload_n hx hb dX4_agree_25 rfl (lv_at hl 3 rfl) ?_
  refine lv_imul hx hb dX4_agree_26 ?_
  refine k_eq (y := nI (3 * k)) (pk_mul 3 k) ?_
  refine lv_iconst (v := 2) hx hb dX4_agree_27 (by decide) ?_
  refine lv_iadd hx hb dX4_agree_28 ?_
  refine k_eq (y := nI ((3 * k) + 2)) (nI_add (3 * k) 2) ?_
  refine k_ild S hX.2 hX.1 15 (i := ((3 * k) + 2)) rfl (by omega) (by decide) dX4_agree_29 ?_
  refine lv_istore (lv' := [(4, .int (σ 22 ((3 * k) + 2))), (3, .int (σ 22 ((3 * k) + 1))), (2, .int (σ 22 (3 * k))), (0, .ref (ad 0)), (1, .int (nI k))]) hx hb dX4_agree_30 hl (by decide) rfl (fun ls hl => ?_)
  refine lv_aload_n hx hb dX4_agree_32 rfl (lv_at hl 3 rfl) ?_
  refine k_get S hX.2 hX.1 0 (C := RX4) (T := TX4) (N := 20) rfl rfl 13 (by decide) inX4 m_588 rfl dX4_agree_33 ?_
  refine lv_iload_n hx hb dX4_agree_36 rfl (lv_at hl 4 rfl) ?_
  refine k_ild S hX.2 hX.1 11 (i := k) rfl (by omega) (by decide) dX4_agree_37 ?_
  refine lv_iconst (v := 2) hx hb dX4_agree_38 (by decide) ?_
  refine lv_icmp_lt (tgt := 57) hx hb dX4_agree_39 (by decide) (fun c39_1 => ?_) (fun c39_1 => ?_)
  · have bc39_1 := lt_nle c39_1
    refine lv_iconst (v := (-1)) hx hb dX4_agree_57 (by decide) ?_
    exact W.iret (v := (-1)) hx hb hr (fun t ht hW => ⟨_, rfl, (by simp [agM, c39_1, bc39_1]), ht⟩) (fun q h => by cases h) dX4_agree_58
  · have bc39_1 := nlt_le c39_1
    refine lv_aload_n hx hb dX4_agree_42 rfl (lv_at hl 3 rfl) ?_
    refine k_get S hX.2 hX.1 0 (C := RX4) (T := TX4) (N := 20) rfl rfl 13 (by decide) inX4 m_588 rfl dX4_agree_43 ?_
    refine lv_iload_n hx hb dX4_agree_46 rfl (lv_at hl 4 rfl) ?_
    refine k_ild S hX.2 hX.1 11 (i := k) rfl (by omega) (by decide) dX4_agree_47 ?_
    refine lv_iconst (v := 2) hx hb dX4_agree_48 (by decide) ?_
    refine lv_icmp_ne (tgt := 59) hx hb dX4_agree_49 (by decide) (fun c49_2 => ?_) (fun c49_2 => ?_)
    · have bc49_2 := c49_2
      refine lv_aload_n hx hb dX4_agree_59 rfl (lv_at hl 3 rfl) ?_
      refine k_get S hX.2 hX.1 0 (C := RX4) (T := TX4) (N := 20) rfl rfl 13 (by decide) inX4 m_588 rfl dX4_agree_60 ?_
      refine lv_iload_n hx hb dX4_agree_63 rfl (lv_at hl 4 rfl) ?_
      refine k_ild S hX.2 hX.1 11 (i := k) rfl (by omega) (by decide) dX4_agree_64 ?_
      refine lv_iconst (v := 2) hx hb dX4_agree_65 (by decide) ?_
      refine lv_icmp_eq (tgt := 80) hx hb dX4_agree_66 (by decide) (fun c66_3 => ?_) (fun c66_3 => ?_)
      · exact absurd c66_3 c49_2
      · have bc66_3 := c66_3
        refine lv_iload_n hx hb dX4_agree_69 rfl (lv_at hl 2 rfl) ?_
        refine lv_iload_n hx hb dX4_agree_70 rfl (lv_at hl 1 rfl) ?_
        refine lv_icmp_eq (tgt := 80) hx hb dX4_agree_71 (by decide) (fun c71_4 => ?_) (fun c71_4 => ?_)
        · have bc71_4 := c71_4
          refine lv_iload_n hx hb dX4_agree_80 rfl (lv_at hl 2 rfl) ?_
          exact W.iret (v := σ 22 (3 * k)) hx hb hr (fun t ht hW => ⟨_, rfl, (by simp [agM, c39_1, bc39_1, c49_2, c66_3, c71_4]), ht⟩) (fun q h => by cases h) dX4_agree_81
        · have bc71_4 := c71_4
          refine lv_iload_n hx hb dX4_agree_74 rfl (lv_at hl 2 rfl) ?_
          refine lv_iload hx hb dX4_agree_75 (lv_at hl 0 rfl) ?_
          refine lv_icmp_ne (tgt := 82) hx hb dX4_agree_77 (by decide) (fun c77_5 => ?_) (fun c77_5 => ?_)
          · have bc77_5 := c77_5
            have J111 : ∀ ls, lv_has ls 7 [(4, .int (σ 22 ((3 * k) + 2))), (3, .int (σ 22 ((3 * k) + 1))), (2, .int (σ 22 (3 * k))), (0, .ref (ad 0)), (1, .int (nI k))] → W p l e ({ frames := 1, cells := 0, slots := 0, locals := 40 } : Room) s m [.ref (ad 0), .int (nI k)].toArray below meth c s.heap [] 0 0 (MQ below (vp_Si (fun r => r = agM σ k)) [.ref (ad 0), .int (nI k)].toArray s 0 0 NF) (F0 m 111 ls [.int (bI (decide (σ 22 (3 * k + 1) < σ 22 (3 * k)) == decide (σ 22 (3 * k) < σ 22 (3 * k + 2))))]) := by
              intro ls hl
              refine lv_istore (lv' := [(5, .int (bI (decide (σ 22 (3 * k + 1) < σ 22 (3 * k)) == decide (σ 22 (3 * k) < σ 22 (3 * k + 2))))), (4, .int (σ 22 ((3 * k) + 2))), (3, .int (σ 22 ((3 * k) + 1))), (2, .int (σ 22 (3 * k))), (0, .ref (ad 0)), (1, .int (nI k))]) hx hb dX4_agree_111 hl (by decide) rfl (fun ls hl => ?_)
              have J142 : ∀ ls, lv_has ls 7 [(5, .int (bI (decide (σ 22 (3 * k + 1) < σ 22 (3 * k)) == decide (σ 22 (3 * k) < σ 22 (3 * k + 2))))), (4, .int (σ 22 ((3 * k) + 2))), (3, .int (σ 22 ((3 * k) + 1))), (2, .int (σ 22 (3 * k))), (0, .ref (ad 0)), (1, .int (nI k))] → W p l e ({ frames := 1, cells := 0, slots := 0, locals := 40 } : Room) s m [.ref (ad 0), .int (nI k)].toArray below meth c s.heap [] 0 0 (MQ below (vp_Si (fun r => r = agM σ k)) [.ref (ad 0), .int (nI k)].toArray s 0 0 NF) (F0 m 142 ls [.int (bI (decide (σ 22 (3 * k) < σ 22 (3 * k + 1)) == decide (σ 22 (3 * k + 1) < σ 22 (3 * k + 2))))]) := by
                intro ls hl
                refine lv_istore (lv' := [(6, .int (bI (decide (σ 22 (3 * k) < σ 22 (3 * k + 1)) == decide (σ 22 (3 * k + 1) < σ 22 (3 * k + 2))))), (5, .int (bI (decide (σ 22 (3 * k + 1) < σ 22 (3 * k)) == decide (σ 22 (3 * k) < σ 22 (3 * k + 2))))), (4, .int (σ 22 ((3 * k) + 2))), (3, .int (σ 22 ((3 * k) + 1))), (2, .int (σ 22 (3 * k))), (0, .ref (ad 0)), (1, .int (nI k))]) hx hb dX4_agree_142 hl (by decide) rfl (fun ls hl => ?_)
                refine lv_iload_n hx hb dX4_agree_144 rfl (lv_at hl 3 rfl) ?_
                refine lv_iload hx hb dX4_agree_145 (lv_at hl 2 rfl) ?_
                refine lv_icmp_eq (tgt := 155) hx hb dX4_agree_147 (by decide) (fun c147_6 => ?_) (fun c147_6 => ?_)
                · have bc147_6 := c147_6
                  refine lv_iload_n hx hb dX4_agree_155 rfl (lv_at hl 3 rfl) ?_
                  refine lv_goto (tgt := 170) hx hb dX4_agree_156 (by decide) ?_
                  exact W.iret (v := σ 22 ((3 * k) + 1)) hx hb hr (fun t ht hW => ⟨_, rfl, (by simp [agM, c39_1, bc39_1, c49_2, c66_3, c71_4, c77_5, c147_6]), ht⟩) (fun q h => by cases h) dX4_agree_170
                · have bc147_6 := c147_6
                  refine lv_iload hx hb dX4_agree_150 (lv_at hl 0 rfl) ?_
                  refine lv_if_eq (tgt := 159) hx hb dX4_agree_152 (by decide) (fun c152_7 => ?_) (fun c152_7 => ?_)
                  · have bc152_7 := bI_0 c152_7
                    refine lv_iload hx hb dX4_agree_159 (lv_at hl 1 rfl) ?_
                    refine lv_if_eq (tgt := 168) hx hb dX4_agree_161 (by decide) (fun c161_8 => ?_) (fun c161_8 => ?_)
                    · have bc161_8 := bI_0 c161_8
                      refine lv_iload hx hb dX4_agree_168 (lv_at hl 2 rfl) ?_
                      exact W.iret (v := σ 22 ((3 * k) + 2)) hx hb hr (fun t ht hW => ⟨_, rfl, (by simp [agM, c39_1, bc39_1, c49_2, c66_3, c71_4, c77_5, c147_6, bc152_7, bc161_8]), ht⟩) (fun q h => by cases h) dX4_agree_170
                    · have bc161_8 := bI_n c161_8
                      refine lv_iload_n hx hb dX4_agree_164 rfl (lv_at hl 4 rfl) ?_
                      refine lv_goto (tgt := 170) hx hb dX4_agree_165 (by decide) ?_
                      exact W.iret (v := σ 22 (3 * k)) hx hb hr (fun t ht hW => ⟨_, rfl, (by simp [agM, c39_1, bc39_1, c49_2, c66_3, c71_4, c77_5, c147_6, bc152_7, bc161_8]), ht⟩) (fun q h => by cases h) dX4_agree_170
                  · have bc152_7 := bI_n c152_7
                    refine lv_iload_n hx hb dX4_agree_155 rfl (lv_at hl 3 rfl) ?_
                    refine lv_goto (tgt := 170) hx hb dX4_agree_156 (by decide) ?_
                    exact W.iret (v := σ 22 ((3 * k) + 1)) hx hb hr (fun t ht hW => ⟨_, rfl, (by simp [agM, c39_1, bc39_1, c49_2, c66_3, c71_4, c77_5, c147_6, bc152_7]), ht⟩) (fun q h => by cases h) dX4_agree_170
              refine lv_iload_n hx hb dX4_agree_113 rfl (lv_at hl 2 rfl) ?_
              refine lv_iload_n hx hb dX4_agree_114 rfl (lv_at hl 3 rfl) ?_
              refine lv_icmp_le (tgt := 122) hx hb dX4_agree_115 (by decide) (fun c115_9 => ?_) (fun c115_9 => ?_)
              · have bc115_9 := le_nlt c115_9
                refine lv_iconst (v := 0) hx hb dX4_agree_122 (by decide) ?_
                refine lv_iload hx hb dX4_agree_123 (lv_at hl 1 rfl) ?_
                refine lv_iload_n hx hb dX4_agree_125 rfl (lv_at hl 2 rfl) ?_
                refine lv_icmp_le (tgt := 133) hx hb dX4_agree_126 (by decide) (fun c126_10 => ?_) (fun c126_10 => ?_)
                · have bc126_10 := le_nlt c126_10
                  refine lv_iconst (v := 0) hx hb dX4_agree_133 (by decide) ?_
                  refine lv_icmp_ne (tgt := 141) hx hb dX4_agree_134 (by decide) (fun c134_11 => ?_) (fun c134_11 => ?_)
                  · exact absurd c134_11 (by decide)
                  · have bc134_11 := c134_11
                    refine lv_iconst (v := 1) hx hb dX4_agree_137 (by decide) ?_
                    refine lv_goto (tgt := 142) hx hb dX4_agree_138 (by decide) ?_
                    refine k_eq (y := bI (decide (σ 22 (3 * k) < σ 22 (3 * k + 1)) == decide (σ 22 (3 * k + 1) < σ 22 (3 * k + 2)))) (by simp [bI, c39_1, bc39_1, c49_2, c66_3, c71_4, c77_5, c115_9, bc115_9, c126_10, bc126_10]) ?_
                    exact J142 ls (lv_sub hl [0, 1, 2, 3, 4, 5] rfl)
                · have bc126_10 := nle_lt c126_10
                  refine lv_iconst (v := 1) hx hb dX4_agree_129 (by decide) ?_
                  refine lv_goto (tgt := 134) hx hb dX4_agree_130 (by decide) ?_
                  refine lv_icmp_ne (tgt := 141) hx hb dX4_agree_134 (by decide) (fun c134_12 => ?_) (fun c134_12 => ?_)
                  · have bc134_12 := c134_12
                    refine lv_iconst (v := 0) hx hb dX4_agree_141 (by decide) ?_
                    refine k_eq (y := bI (decide (σ 22 (3 * k) < σ 22 (3 * k + 1)) == decide (σ 22 (3 * k + 1) < σ 22 (3 * k + 2)))) (by simp [bI, c39_1, bc39_1, c49_2, c66_3, c71_4, c77_5, c115_9, bc115_9, c126_10, bc126_10]) ?_
                    exact J142 ls (lv_sub hl [0, 1, 2, 3, 4, 5] rfl)
                  · exact absurd c134_12 (by decide)
              · have bc115_9 := nle_lt c115_9
                refine lv_iconst (v := 1) hx hb dX4_agree_118 (by decide) ?_
                refine lv_goto (tgt := 123) hx hb dX4_agree_119 (by decide) ?_
                refine lv_iload hx hb dX4_agree_123 (lv_at hl 1 rfl) ?_
                refine lv_iload_n hx hb dX4_agree_125 rfl (lv_at hl 2 rfl) ?_
                refine lv_icmp_le (tgt := 133) hx hb dX4_agree_126 (by decide) (fun c126_13 => ?_) (fun c126_13 => ?_)
                · have bc126_13 := le_nlt c126_13
                  refine lv_iconst (v := 0) hx hb dX4_agree_133 (by decide) ?_
                  refine lv_icmp_ne (tgt := 141) hx hb dX4_agree_134 (by decide) (fun c134_14 => ?_) (fun c134_14 => ?_)
                  · have bc134_14 := c134_14
                    refine lv_iconst (v := 0) hx hb dX4_agree_141 (by decide) ?_
                    refine k_eq (y := bI (decide (σ 22 (3 * k) < σ 22 (3 * k + 1)) == decide (σ 22 (3 * k + 1) < σ 22 (3 * k + 2)))) (by simp [bI, c39_1, bc39_1, c49_2, c66_3, c71_4, c77_5, c115_9, bc115_9, c126_13, bc126_13]) ?_
                    exact J142 ls (lv_sub hl [0, 1, 2, 3, 4, 5] rfl)
                  · exact absurd c134_14 (by decide)
                · have bc126_13 := nle_lt c126_13
                  refine lv_iconst (v := 1) hx hb dX4_agree_129 (by decide) ?_
                  refine lv_goto (tgt := 134) hx hb dX4_agree_130 (by decide) ?_
                  refine lv_icmp_ne (tgt := 141) hx hb dX4_agree_134 (by decide) (fun c134_15 => ?_) (fun c134_15 => ?_)
                  · exact absurd c134_15 (by decide)
                  · have bc134_15 := c134_15
                    refine lv_iconst (v := 1) hx hb dX4_agree_137 (by decide) ?_
                    refine lv_goto (tgt := 142) hx hb dX4_agree_138 (by decide) ?_
                    refine k_eq (y := bI (decide (σ 22 (3 * k) < σ 22 (3 * k + 1)) == decide (σ 22 (3 * k + 1) < σ 22 (3 * k + 2)))) (by simp [bI, c39_1, bc39_1, c49_2, c66_3, c71_4, c77_5, c115_9, bc115_9, c126_13, bc126_13]) ?_
                    exact J142 ls (lv_sub hl [0, 1, 2, 3, 4, 5] rfl)
            refine lv_iload_n hx hb dX4_agree_82 rfl (lv_at hl 2 rfl) ?_
            refine lv_iload_n hx hb dX4_agree_83 rfl (lv_at hl 1 rfl) ?_
            refine lv_icmp_le (tgt := 91) hx hb dX4_agree_84 (by decide) (fun c84_16 => ?_) (fun c84_16 => ?_)
            · have bc84_16 := le_nlt c84_16
              refine lv_iconst (v := 0) hx hb dX4_agree_91 (by decide) ?_
              refine lv_iload hx hb dX4_agree_92 (lv_at hl 0 rfl) ?_
              refine lv_iload_n hx hb dX4_agree_94 rfl (lv_at hl 2 rfl) ?_
              refine lv_icmp_le (tgt := 102) hx hb dX4_agree_95 (by decide) (fun c95_17 => ?_) (fun c95_17 => ?_)
              · have bc95_17 := le_nlt c95_17
                refine lv_iconst (v := 0) hx hb dX4_agree_102 (by decide) ?_
                refine lv_icmp_ne (tgt := 110) hx hb dX4_agree_103 (by decide) (fun c103_18 => ?_) (fun c103_18 => ?_)
                · exact absurd c103_18 (by decide)
                · have bc103_18 := c103_18
                  refine lv_iconst (v := 1) hx hb dX4_agree_106 (by decide) ?_
                  refine lv_goto (tgt := 111) hx hb dX4_agree_107 (by decide) ?_
                  refine k_eq (y := bI (decide (σ 22 (3 * k + 1) < σ 22 (3 * k)) == decide (σ 22 (3 * k) < σ 22 (3 * k + 2)))) (by simp [bI, c39_1, bc39_1, c49_2, c66_3, c71_4, c77_5, c84_16, bc84_16, c95_17, bc95_17]) ?_
                  exact J111 ls (lv_sub hl [0, 1, 2, 3, 4] rfl)
              · have bc95_17 := nle_lt c95_17
                refine lv_iconst (v := 1) hx hb dX4_agree_98 (by decide) ?_
                refine lv_goto (tgt := 103) hx hb dX4_agree_99 (by decide) ?_
                refine lv_icmp_ne (tgt := 110) hx hb dX4_agree_103 (by decide) (fun c103_19 => ?_) (fun c103_19 => ?_)
                · have bc103_19 := c103_19
                  refine lv_iconst (v := 0) hx hb dX4_agree_110 (by decide) ?_
                  refine k_eq (y := bI (decide (σ 22 (3 * k + 1) < σ 22 (3 * k)) == decide (σ 22 (3 * k) < σ 22 (3 * k + 2)))) (by simp [bI, c39_1, bc39_1, c49_2, c66_3, c71_4, c77_5, c84_16, bc84_16, c95_17, bc95_17]) ?_
                  exact J111 ls (lv_sub hl [0, 1, 2, 3, 4] rfl)
                · exact absurd c103_19 (by decide)
            · have bc84_16 := nle_lt c84_16
              refine lv_iconst (v := 1) hx hb dX4_agree_87 (by decide) ?_
              refine lv_goto (tgt := 92) hx hb dX4_agree_88 (by decide) ?_
              refine lv_iload hx hb dX4_agree_92 (lv_at hl 0 rfl) ?_
              refine lv_iload_n hx hb dX4_agree_94 rfl (lv_at hl 2 rfl) ?_
              refine lv_icmp_le (tgt := 102) hx hb dX4_agree_95 (by decide) (fun c95_20 => ?_) (fun c95_20 => ?_)
              · have bc95_20 := le_nlt c95_20
                refine lv_iconst (v := 0) hx hb dX4_agree_102 (by decide) ?_
                refine lv_icmp_ne (tgt := 110) hx hb dX4_agree_103 (by decide) (fun c103_21 => ?_) (fun c103_21 => ?_)
                · have bc103_21 := c103_21
                  refine lv_iconst (v := 0) hx hb dX4_agree_110 (by decide) ?_
                  refine k_eq (y := bI (decide (σ 22 (3 * k + 1) < σ 22 (3 * k)) == decide (σ 22 (3 * k) < σ 22 (3 * k + 2)))) (by simp [bI, c39_1, bc39_1, c49_2, c66_3, c71_4, c77_5, c84_16, bc84_16, c95_20, bc95_20]) ?_
                  exact J111 ls (lv_sub hl [0, 1, 2, 3, 4] rfl)
                · exact absurd c103_21 (by decide)
              · have bc95_20 := nle_lt c95_20
                refine lv_iconst (v := 1) hx hb dX4_agree_98 (by decide) ?_
                refine lv_goto (tgt := 103) hx hb dX4_agree_99 (by decide) ?_
                refine lv_icmp_ne (tgt := 110) hx hb dX4_agree_103 (by decide) (fun c103_22 => ?_) (fun c103_22 => ?_)
                · exact absurd c103_22 (by decide)
                · have bc103_22 := c103_22
                  refine lv_iconst (v := 1) hx hb dX4_agree_106 (by decide) ?_
                  refine lv_goto (tgt := 111) hx hb dX4_agree_107 (by decide) ?_
                  refine k_eq (y := bI (decide (σ 22 (3 * k + 1) < σ 22 (3 * k)) == decide (σ 22 (3 * k) < σ 22 (3 * k + 2)))) (by simp [bI, c39_1, bc39_1, c49_2, c66_3, c71_4, c77_5, c84_16, bc84_16, c95_20, bc95_20]) ?_
                  exact J111 ls (lv_sub hl [0, 1, 2, 3, 4] rfl)
          · have bc77_5 := c77_5
            refine lv_iload_n hx hb dX4_agree_80 rfl (lv_at hl 2 rfl) ?_
            exact W.iret (v := σ 22 (3 * k)) hx hb hr (fun t ht hW => ⟨_, rfl, (by simp [agM, c39_1, bc39_1, c49_2, c66_3, c71_4, c77_5]), ht⟩) (fun q h => by cases h) dX4_agree_81
    · have bc49_2 := c49_2
      refine lv_iload_n hx hb dX4_agree_52 rfl (lv_at hl 2 rfl) ?_
      refine lv_iload_n hx hb dX4_agree_53 rfl (lv_at hl 1 rfl) ?_
      refine lv_icmp_eq (tgt := 59) hx hb dX4_agree_54 (by decide) (fun c54_23 => ?_) (fun c54_23 => ?_)
      · have bc54_23 := c54_23
        refine lv_aload_n hx hb dX4_agree_59 rfl (lv_at hl 3 rfl) ?_
        refine k_get S hX.2 hX.1 0 (C := RX4) (T := TX4) (N := 20) rfl rfl 13 (by decide) inX4 m_588 rfl dX4_agree_60 ?_
        refine lv_iload_n hx hb dX4_agree_63 rfl (lv_at hl 4 rfl) ?_
        refine k_ild S hX.2 hX.1 11 (i := k) rfl (by omega) (by decide) dX4_agree_64 ?_
        refine lv_iconst (v := 2) hx hb dX4_agree_65 (by decide) ?_
        refine lv_icmp_eq (tgt := 80) hx hb dX4_agree_66 (by decide) (fun c66_24 => ?_) (fun c66_24 => ?_)
        · have bc66_24 := c66_24
          refine lv_iload_n hx hb dX4_agree_80 rfl (lv_at hl 2 rfl) ?_
          exact W.iret (v := σ 22 (3 * k)) hx hb hr (fun t ht hW => ⟨_, rfl, (by simp [agM, c39_1, bc39_1, c49_2, c54_23, c66_24]), ht⟩) (fun q h => by cases h) dX4_agree_81
        · exact absurd c49_2 c66_24
      · have bc54_23 := c54_23
        refine lv_iconst (v := (-1)) hx hb dX4_agree_57 (by decide) ?_
        exact W.iret (v := (-1)) hx hb hr (fun t ht hW => ⟨_, rfl, (by simp [agM, c39_1, bc39_1, c49_2, c54_23]), ht⟩) (fun q h => by cases h) dX4_agree_58

set_option maxHeartbeats 4000000 in
set_option maxRecDepth 100000 in
theorem c4_hasOpen (l : Launch) (G : kG) (ad : Nat → Nat) (σ : kS) (ns : Nat) (pl : Int32) (hns : σ 18 0 = nI ns) (hns4 : ns ≤ 40) : Met l yX4_hasOpen [.code yX4_hasOpen cX4_hasOpen 4 (some .boolean)] ({ frames := 1, cells := 0, slots := 0, locals := 40 }) (va_Pc [.ref (ad 0), .int pl] (fun U => PM G ad σ U U.heap)) (vp_Si (fun r => r = bI (hoM σ pl ns))) 0 0 NF := by
  refine k_of (by decide) (Nat.le_of_ble_eq_true rfl) (fun U h => h.2.2) ?_
  intro p e s m below meth c ls S hr hlocks hmn hB hl
  have hx := S.1
  have hb := S.2.1
  have hX : PM G ad σ s s.heap := hB
  have hl : lv_has ls 4 [(0, .ref (ad 0)), (1, .int pl)] := hl
  have L4 : ∀ (n i : Nat), i ≤ ns → ns + 1 ≤ i + n → ∀ ls, lv_has ls 4 [(0, .ref (ad 0)), (1, .int pl), (2, .int (bI (hoM σ pl i))), (3, .int (nI i))] → W p l e ({ frames := 1, cells := 0, slots := 0, locals := 40 } : Room) s m [.ref (ad 0), .int pl].toArray below meth c s.heap [] 0 0 (MQ below (vp_Si (fun r => r = bI (hoM σ pl ns))) [.ref (ad 0), .int pl].toArray s 0 0 NF) (F0 m 4 ls []) := by
    intro n
    induction n with
    | zero =>
      intro i h1 h2
      omega
    | succ n ihn =>
      intro i hii hini ls hl
      refine lv_iload_n hx hb dX4_hasOpen_4 rfl (lv_at hl 3 rfl) ?_
      refine lv_aload_n hx hb dX4_hasOpen_5 rfl (lv_at hl 0 rfl) ?_
      refine k_get S hX.2 hX.1 0 (C := RX4) (T := TX4) (N := 20) rfl rfl 9 (by decide) inX4 m_584 rfl dX4_hasOpen_6 ?_
      refine k_eq (y := nI ns) (hns) ?_
      refine lv_icmp_ge (tgt := 47) hx hb dX4_hasOpen_9 (by decide) (fun c9_1 => ?_) (fun c9_1 => ?_)
      · have bc9_1 := le_nlt c9_1
        have hgei : i = ns := by
          have h9 := c9_1
          rw [nI_leI (by omega) (by omega)] at h9
          omega
        refine lv_iload_n hx hb dX4_hasOpen_47 rfl (lv_at hl 2 rfl) ?_
        exact W.zret (v := bI (hoM σ pl i)) (ty := .boolean) hx hb hr (by first | rfl | exact bI_nar _) (fun t ht hW => ⟨_, rfl, (by rw [hgei]), ht⟩) (fun q h => by cases h) dX4_hasOpen_48
      · have bc9_1 := nle_lt c9_1
        have hlti : i < ns := by
          have h9 := nle_lt c9_1
          rw [nI_ltI (by omega) (by omega)] at h9
          exact h9
        refine lv_iload_n hx hb dX4_hasOpen_12 rfl (lv_at hl 2 rfl) ?_
        refine lv_if_ne (tgt := 35) hx hb dX4_hasOpen_13 (by decide) (fun c13_2 => ?_) (fun c13_2 => ?_)
        · have bc13_2 := bI_n c13_2
          refine lv_iconst (v := 1) hx hb dX4_hasOpen_35 (by decide) ?_
          refine lv_goto (tgt := 40) hx hb dX4_hasOpen_36 (by decide) ?_
          refine lv_istore_n (lv' := [(2, .int 1), (0, .ref (ad 0)), (1, .int pl), (3, .int (nI i))]) hx hb dX4_hasOpen_40 rfl hl (by decide) rfl (fun ls hl => ?_)
          refine lv_iinc (v := nI (i + 1)) (lv' := [(3, .int (nI (i + 1))), (2, .int 1), (0, .ref (ad 0)), (1, .int pl)]) hx hb dX4_hasOpen_41 hl (k := 3) rfl (nI_1 i) (by decide) rfl (fun ls hl => ?_)
          refine lv_goto (tgt := 4) hx hb dX4_hasOpen_44 (by decide) ?_
          have ev3 : 1 = bI (hoM σ pl (i + 1)) := by simp [hoM, bI, c9_1, bc9_1, bc13_2]
          have hl : lv_has ls 4 [(3, .int (nI (i + 1))), (2, .int (bI (hoM σ pl (i + 1)))), (0, .ref (ad 0)), (1, .int pl)] := by rw [← ev3]; exact hl
          exact ihn (i + 1) hlti (by omega) ls (lv_sub hl [2, 3, 1, 0] rfl)
        · have bc13_2 := bI_0 c13_2
          refine lv_aload_n hx hb dX4_hasOpen_16 rfl (lv_at hl 0 rfl) ?_
          refine k_get S hX.2 hX.1 0 (C := RX4) (T := TX4) (N := 20) rfl rfl 10 (by decide) inX4 m_585 rfl dX4_hasOpen_17 ?_
          refine lv_iload_n hx hb dX4_hasOpen_20 rfl (lv_at hl 3 rfl) ?_
          refine k_ild S hX.2 hX.1 8 (i := i) rfl (by omega) (by decide) dX4_hasOpen_21 ?_
          refine lv_iload_n hx hb dX4_hasOpen_22 rfl (lv_at hl 1 rfl) ?_
          refine lv_icmp_ne (tgt := 39) hx hb dX4_hasOpen_23 (by decide) (fun c23_4 => ?_) (fun c23_4 => ?_)
          · have bc23_4 := c23_4
            refine lv_iconst (v := 0) hx hb dX4_hasOpen_39 (by decide) ?_
            refine lv_istore_n (lv' := [(2, .int 0), (0, .ref (ad 0)), (1, .int pl), (3, .int (nI i))]) hx hb dX4_hasOpen_40 rfl hl (by decide) rfl (fun ls hl => ?_)
            refine lv_iinc (v := nI (i + 1)) (lv' := [(3, .int (nI (i + 1))), (2, .int 0), (0, .ref (ad 0)), (1, .int pl)]) hx hb dX4_hasOpen_41 hl (k := 3) rfl (nI_1 i) (by decide) rfl (fun ls hl => ?_)
            refine lv_goto (tgt := 4) hx hb dX4_hasOpen_44 (by decide) ?_
            have ev5 : 0 = bI (hoM σ pl (i + 1)) := by simp [hoM, bI, c9_1, bc9_1, bc13_2, c23_4]
            have hl : lv_has ls 4 [(3, .int (nI (i + 1))), (2, .int (bI (hoM σ pl (i + 1)))), (0, .ref (ad 0)), (1, .int pl)] := by rw [← ev5]; exact hl
            exact ihn (i + 1) hlti (by omega) ls (lv_sub hl [2, 3, 1, 0] rfl)
          · have bc23_4 := c23_4
            refine lv_aload_n hx hb dX4_hasOpen_26 rfl (lv_at hl 0 rfl) ?_
            refine k_get S hX.2 hX.1 0 (C := RX4) (T := TX4) (N := 20) rfl rfl 12 (by decide) inX4 m_587 rfl dX4_hasOpen_27 ?_
            refine lv_iload_n hx hb dX4_hasOpen_30 rfl (lv_at hl 3 rfl) ?_
            refine k_ild S hX.2 hX.1 10 (i := i) rfl (by omega) (by decide) dX4_hasOpen_31 ?_
            refine lv_if_ne (tgt := 39) hx hb dX4_hasOpen_32 (by decide) (fun c32_6 => ?_) (fun c32_6 => ?_)
            · have bc32_6 := c32_6
              refine lv_iconst (v := 0) hx hb dX4_hasOpen_39 (by decide) ?_
              refine lv_istore_n (lv' := [(2, .int 0), (0, .ref (ad 0)), (1, .int pl), (3, .int (nI i))]) hx hb dX4_hasOpen_40 rfl hl (by decide) rfl (fun ls hl => ?_)
              refine lv_iinc (v := nI (i + 1)) (lv' := [(3, .int (nI (i + 1))), (2, .int 0), (0, .ref (ad 0)), (1, .int pl)]) hx hb dX4_hasOpen_41 hl (k := 3) rfl (nI_1 i) (by decide) rfl (fun ls hl => ?_)
              refine lv_goto (tgt := 4) hx hb dX4_hasOpen_44 (by decide) ?_
              have ev7 : 0 = bI (hoM σ pl (i + 1)) := by simp [hoM, bI, c9_1, bc9_1, bc13_2, c23_4, c32_6]
              have hl : lv_has ls 4 [(3, .int (nI (i + 1))), (2, .int (bI (hoM σ pl (i + 1)))), (0, .ref (ad 0)), (1, .int pl)] := by rw [← ev7]; exact hl
              exact ihn (i + 1) hlti (by omega) ls (lv_sub hl [2, 3, 1, 0] rfl)
            · have bc32_6 := c32_6
              refine lv_iconst (v := 1) hx hb dX4_hasOpen_35 (by decide) ?_
              refine lv_goto (tgt := 40) hx hb dX4_hasOpen_36 (by decide) ?_
              refine lv_istore_n (lv' := [(2, .int 1), (0, .ref (ad 0)), (1, .int pl), (3, .int (nI i))]) hx hb dX4_hasOpen_40 rfl hl (by decide) rfl (fun ls hl => ?_)
              refine lv_iinc (v := nI (i + 1)) (lv' := [(3, .int (nI (i + 1))), (2, .int 1), (0, .ref (ad 0)), (1, .int pl)]) hx hb dX4_hasOpen_41 hl (k := 3) rfl (nI_1 i) (by decide) rfl (fun ls hl => ?_)
              refine lv_goto (tgt := 4) hx hb dX4_hasOpen_44 (by decide) ?_
              have ev8 : 1 = bI (hoM σ pl (i + 1)) := by simp [hoM, bI, c9_1, bc9_1, bc13_2, c23_4, c32_6]
              have hl : lv_has ls 4 [(3, .int (nI (i + 1))), (2, .int (bI (hoM σ pl (i + 1)))), (0, .ref (ad 0)), (1, .int pl)] := by rw [← ev8]; exact hl
              exact ihn (i + 1) hlti (by omega) ls (lv_sub hl [2, 3, 1, 0] rfl)
  refine lv_iconst (v := 0) hx hb dX4_hasOpen_0 (by decide) ?_
  refine lv_istore_n (lv' := [(2, .int 0), (0, .ref (ad 0)), (1, .int pl)]) hx hb dX4_hasOpen_1 rfl hl (by decide) rfl (fun ls hl => ?_)
  refine lv_iconst (v := 0) hx hb dX4_hasOpen_2 (by decide) ?_
  refine lv_istore_n (lv' := [(3, .int 0), (2, .int 0), (0, .ref (ad 0)), (1, .int pl)]) hx hb dX4_hasOpen_3 rfl hl (by decide) rfl (fun ls hl => ?_)
  exact L4 (ns + 1) 0 (Nat.zero_le _) (by omega) ls (lv_sub hl [2, 3, 1, 0] rfl)

set_option maxHeartbeats 4000000 in
set_option maxRecDepth 100000 in
theorem c4_hasCounted (l : Launch) (G : kG) (ad : Nat → Nat) (σ : kS) (k cn : Nat) (who : Int32) (hk : k < 200) (hcn : σ 20 k = nI cn) (hcn3 : cn ≤ 3) : Met l yX4_hasCounted [.code yX4_hasCounted cX4_hasCounted 5 (some .boolean)] ({ frames := 1, cells := 0, slots := 0, locals := 40 }) (va_Pc [.ref (ad 0), .int (nI k), .int who] (fun U => PM G ad σ U U.heap)) (vp_Si (fun r => r = bI (hcM σ k who cn))) 0 0 NF := by
  refine k_of (by decide) (Nat.le_of_ble_eq_true rfl) (fun U h => h.2.2) ?_
  intro p e s m below meth c ls S hr hlocks hmn hB hl
  have hx := S.1
  have hb := S.2.1
  have hX : PM G ad σ s s.heap := hB
  have hl : lv_has ls 5 [(0, .ref (ad 0)), (1, .int (nI k)), (2, .int who)] := hl
  have L5 : ∀ (n i : Nat), i ≤ cn → cn + 1 ≤ i + n → ∀ ls, lv_has ls 5 [(0, .ref (ad 0)), (1, .int (nI k)), (2, .int who), (3, .int (bI (hcM σ k who i))), (4, .int (nI i))] → W p l e ({ frames := 1, cells := 0, slots := 0, locals := 40 } : Room) s m [.ref (ad 0), .int (nI k), .int who].toArray below meth c s.heap [] 0 0 (MQ below (vp_Si (fun r => r = bI (hcM σ k who cn))) [.ref (ad 0), .int (nI k), .int who].toArray s 0 0 NF) (F0 m 5 ls []) := by
    intro n
    induction n with
    | zero =>
      intro i h1 h2
      omega
    | succ n ihn =>
      intro i hii hini ls hl
      refine lv_iload hx hb dX4_hasCounted_5 (lv_at hl 4 rfl) ?_
      refine lv_aload_n hx hb dX4_hasCounted_7 rfl (lv_at hl 0 rfl) ?_
      refine k_get S hX.2 hX.1 0 (C := RX4) (T := TX4) (N := 20) rfl rfl 13 (by decide) inX4 m_588 rfl dX4_hasCounted_8 ?_
      refine lv_iload_n hx hb dX4_hasCounted_11 rfl (lv_at hl 1 rfl) ?_
      refine k_ild S hX.2 hX.1 11 (i := k) rfl (by omega) (by decide) dX4_hasCounted_12 ?_
      refine k_eq (y := nI cn) (hcn) ?_
      refine lv_icmp_ge (tgt := 47) hx hb dX4_hasCounted_13 (by decide) (fun c13_1 => ?_) (fun c13_1 => ?_)
      · have bc13_1 := le_nlt c13_1
        have hgei : i = cn := by
          have h9 := c13_1
          rw [nI_leI (by omega) (by omega)] at h9
          omega
        refine lv_iload_n hx hb dX4_hasCounted_47 rfl (lv_at hl 3 rfl) ?_
        exact W.zret (v := bI (hcM σ k who i)) (ty := .boolean) hx hb hr (by first | rfl | exact bI_nar _) (fun t ht hW => ⟨_, rfl, (by rw [hgei]), ht⟩) (fun q h => by cases h) dX4_hasCounted_48
      · have bc13_1 := nle_lt c13_1
        have hlti : i < cn := by
          have h9 := nle_lt c13_1
          rw [nI_ltI (by omega) (by omega)] at h9
          exact h9
        refine lv_iload_n hx hb dX4_hasCounted_16 rfl (lv_at hl 3 rfl) ?_
        refine lv_if_ne (tgt := 35) hx hb dX4_hasCounted_17 (by decide) (fun c17_2 => ?_) (fun c17_2 => ?_)
        · have bc17_2 := bI_n c17_2
          refine lv_iconst (v := 1) hx hb dX4_hasCounted_35 (by decide) ?_
          refine lv_goto (tgt := 40) hx hb dX4_hasCounted_36 (by decide) ?_
          refine lv_istore_n (lv' := [(3, .int 1), (0, .ref (ad 0)), (1, .int (nI k)), (2, .int who), (4, .int (nI i))]) hx hb dX4_hasCounted_40 rfl hl (by decide) rfl (fun ls hl => ?_)
          refine lv_iinc (v := nI (i + 1)) (lv' := [(4, .int (nI (i + 1))), (3, .int 1), (0, .ref (ad 0)), (1, .int (nI k)), (2, .int who)]) hx hb dX4_hasCounted_41 hl (k := 4) rfl (nI_1 i) (by decide) rfl (fun ls hl => ?_)
          refine lv_goto (tgt := 5) hx hb dX4_hasCounted_44 (by decide) ?_
          have ev3 : 1 = bI (hcM σ k who (i + 1)) := by simp [hcM, bI, c13_1, bc13_1, bc17_2]
          have hl : lv_has ls 5 [(4, .int (nI (i + 1))), (3, .int (bI (hcM σ k who (i + 1)))), (0, .ref (ad 0)), (1, .int (nI k)), (2, .int who)] := by rw [← ev3]; exact hl
          exact ihn (i + 1) hlti (by omega) ls (lv_sub hl [2, 3, 4, 1, 0] rfl)
        · have bc17_2 := bI_0 c17_2
          refine lv_aload_n hx hb dX4_hasCounted_20 rfl (lv_at hl 0 rfl) ?_
          refine k_get S hX.2 hX.1 0 (C := RX4) (T := TX4) (N := 20) rfl rfl 17 (by decide) inX4 m_592 rfl dX4_hasCounted_21 ?_
          refine lv_iconst (v := 3) hx hb dX4_hasCounted_24 (by decide) ?_
          refine lv_iload_n hx hb dX4_hasCounted_25 rfl (lv_at hl 1 rfl) ?_
          refine lv_imul hx hb dX4_hasCounted_26 ?_
          refine k_eq (y := nI (3 * k)) (pk_mul 3 k) ?_
          refine lv_iload hx hb dX4_hasCounted_27 (lv_at hl 4 rfl) ?_
          refine lv_iadd hx hb dX4_hasCounted_29 ?_
          refine k_eq (y := nI ((3 * k) + i)) (nI_add (3 * k) i) ?_
          refine k_ild S hX.2 hX.1 14 (i := ((3 * k) + i)) rfl (by omega) (by decide) dX4_hasCounted_30 ?_
          refine lv_iload_n hx hb dX4_hasCounted_31 rfl (lv_at hl 2 rfl) ?_
          refine lv_icmp_ne (tgt := 39) hx hb dX4_hasCounted_32 (by decide) (fun c32_4 => ?_) (fun c32_4 => ?_)
          · have bc32_4 := c32_4
            refine lv_iconst (v := 0) hx hb dX4_hasCounted_39 (by decide) ?_
            refine lv_istore_n (lv' := [(3, .int 0), (0, .ref (ad 0)), (1, .int (nI k)), (2, .int who), (4, .int (nI i))]) hx hb dX4_hasCounted_40 rfl hl (by decide) rfl (fun ls hl => ?_)
            refine lv_iinc (v := nI (i + 1)) (lv' := [(4, .int (nI (i + 1))), (3, .int 0), (0, .ref (ad 0)), (1, .int (nI k)), (2, .int who)]) hx hb dX4_hasCounted_41 hl (k := 4) rfl (nI_1 i) (by decide) rfl (fun ls hl => ?_)
            refine lv_goto (tgt := 5) hx hb dX4_hasCounted_44 (by decide) ?_
            have ev5 : 0 = bI (hcM σ k who (i + 1)) := by simp [hcM, bI, c13_1, bc13_1, bc17_2, c32_4]
            have hl : lv_has ls 5 [(4, .int (nI (i + 1))), (3, .int (bI (hcM σ k who (i + 1)))), (0, .ref (ad 0)), (1, .int (nI k)), (2, .int who)] := by rw [← ev5]; exact hl
            exact ihn (i + 1) hlti (by omega) ls (lv_sub hl [2, 3, 4, 1, 0] rfl)
          · have bc32_4 := c32_4
            refine lv_iconst (v := 1) hx hb dX4_hasCounted_35 (by decide) ?_
            refine lv_goto (tgt := 40) hx hb dX4_hasCounted_36 (by decide) ?_
            refine lv_istore_n (lv' := [(3, .int 1), (0, .ref (ad 0)), (1, .int (nI k)), (2, .int who), (4, .int (nI i))]) hx hb dX4_hasCounted_40 rfl hl (by decide) rfl (fun ls hl => ?_)
            refine lv_iinc (v := nI (i + 1)) (lv' := [(4, .int (nI (i + 1))), (3, .int 1), (0, .ref (ad 0)), (1, .int (nI k)), (2, .int who)]) hx hb dX4_hasCounted_41 hl (k := 4) rfl (nI_1 i) (by decide) rfl (fun ls hl => ?_)
            refine lv_goto (tgt := 5) hx hb dX4_hasCounted_44 (by decide) ?_
            have ev6 : 1 = bI (hcM σ k who (i + 1)) := by simp [hcM, bI, c13_1, bc13_1, bc17_2, c32_4]
            have hl : lv_has ls 5 [(4, .int (nI (i + 1))), (3, .int (bI (hcM σ k who (i + 1)))), (0, .ref (ad 0)), (1, .int (nI k)), (2, .int who)] := by rw [← ev6]; exact hl
            exact ihn (i + 1) hlti (by omega) ls (lv_sub hl [2, 3, 4, 1, 0] rfl)
  refine lv_iconst (v := 0) hx hb dX4_hasCounted_0 (by decide) ?_
  refine lv_istore_n (lv' := [(3, .int 0), (0, .ref (ad 0)), (1, .int (nI k)), (2, .int who)]) hx hb dX4_hasCounted_1 rfl hl (by decide) rfl (fun ls hl => ?_)
  refine lv_iconst (v := 0) hx hb dX4_hasCounted_2 (by decide) ?_
  refine lv_istore (lv' := [(4, .int 0), (3, .int 0), (0, .ref (ad 0)), (1, .int (nI k)), (2, .int who)]) hx hb dX4_hasCounted_3 hl (by decide) rfl (fun ls hl => ?_)
  exact L5 (cn + 1) 0 (Nat.zero_le _) (by omega) ls (lv_sub hl [2, 3, 4, 1, 0] rfl)

set_option maxHeartbeats 4000000 in
set_option maxRecDepth 100000 in
theorem c4_bookOf (l : Launch) (G : kG) (ad : Nat → Nat) (σ : kS) (nm ns : Nat) (pl : Int32) (ar : Nat) (mi : Int32) (hns : σ 18 0 = nI ns) (hns4 : ns ≤ 40) (hnm : σ 17 0 = nI nm) (hnm2 : nm ≤ 200) (har : ar < 5) : Met l yX4_bookOf [.code yX4_bookOf cX4_bookOf 9 (some .int)] ({ frames := 2, cells := 0, slots := 0, locals := 66 }) (va_Pc [.ref (ad 0), .int pl, .int (nI ar), .int mi] (fun U => PM G ad σ U U.heap)) (vp_Si (fun r => r = boM σ nm ns pl ar mi)) 0 0 NF := by
  refine k_of (by decide) (Nat.le_of_ble_eq_true rfl) (fun U h => h.2.2) ?_
  intro p e s m below meth c ls S hr hlocks hmn hB hl
  have hx := S.1
  have hb := S.2.1
  have hX : PM G ad σ s s.heap := hB
  have hl : lv_has ls 9 [(0, .ref (ad 0)), (1, .int pl), (2, .int (nI ar)), (3, .int mi)] := hl
  have L199 : ∀ (af z9 : Int32), boM σ nm ns pl ar mi = smM σ pl (nI ar) af mi z9 nm → ∀ (n i : Nat), i ≤ nm → nm + 1 ≤ i + n → ∀ ls, lv_has ls 9 [(0, .ref (ad 0)), (1, .int pl), (2, .int (nI ar)), (3, .int mi), (5, .int af), (6, .int (smM σ pl (nI ar) af mi z9 i)), (7, .int (nI i))] → W p l e ({ frames := 2, cells := 0, slots := 0, locals := 66 } : Room) s m [.ref (ad 0), .int pl, .int (nI ar), .int mi].toArray below meth c s.heap [] 0 0 (MQ below (vp_Si (fun r => r = boM σ nm ns pl ar mi)) [.ref (ad 0), .int pl, .int (nI ar), .int mi].toArray s 0 0 NF) (F0 m 199 ls []) := by
    intro af z9 hbo n
    induction n with
    | zero =>
      intro i h1 h2
      omega
    | succ n ihn =>
      intro i hii hini ls hl
      refine lv_iload hx hb dX4_bookOf_199 (lv_at hl 6 rfl) ?_
      refine lv_aload_n hx hb dX4_bookOf_201 rfl (lv_at hl 0 rfl) ?_
      refine k_get S hX.2 hX.1 0 (C := RX4) (T := TX4) (N := 20) rfl rfl 3 (by decide) inX4 m_578 rfl dX4_bookOf_202 ?_
      refine k_eq (y := nI nm) (hnm) ?_
      refine lv_icmp_ge (tgt := 313) hx hb dX4_bookOf_205 (by decide) (fun c205_1 => ?_) (fun c205_1 => ?_)
      · have bc205_1 := le_nlt c205_1
        have hgei : i = nm := by
          have h9 := c205_1
          rw [nI_leI (by omega) (by omega)] at h9
          omega
        refine lv_iload hx hb dX4_bookOf_313 (lv_at hl 5 rfl) ?_
        exact W.iret (v := smM σ pl (nI ar) af mi z9 i) hx hb hr (fun t ht hW => ⟨_, rfl, (by rw [hbo, hgei]), ht⟩) (fun q h => by cases h) dX4_bookOf_315
      · have bc205_1 := nle_lt c205_1
        have hlti : i < nm := by
          have h9 := nle_lt c205_1
          rw [nI_ltI (by omega) (by omega)] at h9
          exact h9
        have J247 : ∀ ls, lv_has ls 9 [(0, .ref (ad 0)), (1, .int pl), (2, .int (nI ar)), (3, .int mi), (5, .int af), (6, .int (smM σ pl (nI ar) af mi z9 i)), (7, .int (nI i))] → W p l e ({ frames := 2, cells := 0, slots := 0, locals := 66 } : Room) s m [.ref (ad 0), .int pl, .int (nI ar), .int mi].toArray below meth c s.heap [] 0 0 (MQ below (vp_Si (fun r => r = boM σ nm ns pl ar mi)) [.ref (ad 0), .int pl, .int (nI ar), .int mi].toArray s 0 0 NF) (F0 m 247 ls [.int (bI (tmB σ (nI ar) af mi i))]) := by
          intro ls hl
          refine lv_istore (lv' := [(8, .int (bI (tmB σ (nI ar) af mi i))), (0, .ref (ad 0)), (1, .int pl), (2, .int (nI ar)), (3, .int mi), (5, .int af), (6, .int (smM σ pl (nI ar) af mi z9 i)), (7, .int (nI i))]) hx hb dX4_bookOf_247 hl (by decide) rfl (fun ls hl => ?_)
          refine lv_iload hx hb dX4_bookOf_249 (lv_at hl 6 rfl) ?_
          refine lv_iload hx hb dX4_bookOf_251 (lv_at hl 0 rfl) ?_
          refine lv_if_ne (tgt := 260) hx hb dX4_bookOf_253 (by decide) (fun c253_2 => ?_) (fun c253_2 => ?_)
          · have bc253_2 := bI_n c253_2
            refine lv_aload_n hx hb dX4_bookOf_260 rfl (lv_at hl 1 rfl) ?_
            refine k_get S hX.2 hX.1 0 (C := RX4) (T := TX4) (N := 20) rfl rfl 5 (by decide) inX4 m_580 rfl dX4_bookOf_261 ?_
            refine lv_iload hx hb dX4_bookOf_264 (lv_at hl 7 rfl) ?_
            refine k_ild S hX.2 hX.1 4 (i := i) rfl (by omega) (by decide) dX4_bookOf_266 ?_
            refine lv_iload_n hx hb dX4_bookOf_267 rfl (lv_at hl 2 rfl) ?_
            refine lv_icmp_ne (tgt := 281) hx hb dX4_bookOf_268 (by decide) (fun c268_3 => ?_) (fun c268_3 => ?_)
            · have bc268_3 := c268_3
              refine lv_aload_n hx hb dX4_bookOf_281 rfl (lv_at hl 1 rfl) ?_
              refine k_get S hX.2 hX.1 0 (C := RX4) (T := TX4) (N := 20) rfl rfl 4 (by decide) inX4 m_579 rfl dX4_bookOf_282 ?_
              refine lv_iload hx hb dX4_bookOf_285 (lv_at hl 7 rfl) ?_
              refine k_ild S hX.2 hX.1 3 (i := i) rfl (by omega) (by decide) dX4_bookOf_287 ?_
              refine lv_iload_n hx hb dX4_bookOf_288 rfl (lv_at hl 2 rfl) ?_
              refine lv_icmp_ne (tgt := 303) hx hb dX4_bookOf_289 (by decide) (fun c289_4 => ?_) (fun c289_4 => ?_)
              · have bc289_4 := c289_4
                refine lv_iconst (v := 0) hx hb dX4_bookOf_303 (by decide) ?_
                refine lv_iadd hx hb dX4_bookOf_304 ?_
                refine lv_istore (lv' := [(6, .int ((smM σ pl (nI ar) af mi z9 i) + 0)), (8, .int (bI (tmB σ (nI ar) af mi i))), (0, .ref (ad 0)), (1, .int pl), (2, .int (nI ar)), (3, .int mi), (5, .int af), (7, .int (nI i))]) hx hb dX4_bookOf_305 hl (by decide) rfl (fun ls hl => ?_)
                refine lv_iinc (v := nI (i + 1)) (lv' := [(7, .int (nI (i + 1))), (6, .int ((smM σ pl (nI ar) af mi z9 i) + 0)), (8, .int (bI (tmB σ (nI ar) af mi i))), (0, .ref (ad 0)), (1, .int pl), (2, .int (nI ar)), (3, .int mi), (5, .int af)]) hx hb dX4_bookOf_307 hl (k := 7) rfl (nI_1 i) (by decide) rfl (fun ls hl => ?_)
                refine lv_goto (tgt := 199) hx hb dX4_bookOf_310 (by decide) ?_
                have ev5 : (smM σ pl (nI ar) af mi z9 i) + 0 = smM σ pl (nI ar) af mi z9 (i + 1) := by simp [smM, tmM, c205_1, bc205_1, bc253_2, c268_3, c289_4]
                have hl : lv_has ls 9 [(7, .int (nI (i + 1))), (6, .int (smM σ pl (nI ar) af mi z9 (i + 1))), (8, .int (bI (tmB σ (nI ar) af mi i))), (0, .ref (ad 0)), (1, .int pl), (2, .int (nI ar)), (3, .int mi), (5, .int af)] := by rw [← ev5]; exact hl
                exact ihn (i + 1) hlti (by omega) ls (lv_sub hl [3, 4, 5, 6, 7, 1, 0] rfl)
              · have bc289_4 := c289_4
                refine lv_aload_n hx hb dX4_bookOf_292 rfl (lv_at hl 1 rfl) ?_
                refine k_get S hX.2 hX.1 0 (C := RX4) (T := TX4) (N := 20) rfl rfl 7 (by decide) inX4 m_582 rfl dX4_bookOf_293 ?_
                refine lv_iload hx hb dX4_bookOf_296 (lv_at hl 7 rfl) ?_
                refine k_ild S hX.2 hX.1 6 (i := i) rfl (by omega) (by decide) dX4_bookOf_298 ?_
                refine lv_ineg hx hb dX4_bookOf_299 ?_
                refine lv_goto (tgt := 304) hx hb dX4_bookOf_300 (by decide) ?_
                refine lv_iadd hx hb dX4_bookOf_304 ?_
                refine lv_istore (lv' := [(6, .int ((smM σ pl (nI ar) af mi z9 i) + (-(σ 5 i)))), (8, .int (bI (tmB σ (nI ar) af mi i))), (0, .ref (ad 0)), (1, .int pl), (2, .int (nI ar)), (3, .int mi), (5, .int af), (7, .int (nI i))]) hx hb dX4_bookOf_305 hl (by decide) rfl (fun ls hl => ?_)
                refine lv_iinc (v := nI (i + 1)) (lv' := [(7, .int (nI (i + 1))), (6, .int ((smM σ pl (nI ar) af mi z9 i) + (-(σ 5 i)))), (8, .int (bI (tmB σ (nI ar) af mi i))), (0, .ref (ad 0)), (1, .int pl), (2, .int (nI ar)), (3, .int mi), (5, .int af)]) hx hb dX4_bookOf_307 hl (k := 7) rfl (nI_1 i) (by decide) rfl (fun ls hl => ?_)
                refine lv_goto (tgt := 199) hx hb dX4_bookOf_310 (by decide) ?_
                have ev6 : (smM σ pl (nI ar) af mi z9 i) + (-(σ 5 i)) = smM σ pl (nI ar) af mi z9 (i + 1) := by simp [smM, tmM, c205_1, bc205_1, bc253_2, c268_3, c289_4]
                have hl : lv_has ls 9 [(7, .int (nI (i + 1))), (6, .int (smM σ pl (nI ar) af mi z9 (i + 1))), (8, .int (bI (tmB σ (nI ar) af mi i))), (0, .ref (ad 0)), (1, .int pl), (2, .int (nI ar)), (3, .int mi), (5, .int af)] := by rw [← ev6]; exact hl
                exact ihn (i + 1) hlti (by omega) ls (lv_sub hl [3, 4, 5, 6, 7, 1, 0] rfl)
            · have bc268_3 := c268_3
              refine lv_aload_n hx hb dX4_bookOf_271 rfl (lv_at hl 1 rfl) ?_
              refine k_get S hX.2 hX.1 0 (C := RX4) (T := TX4) (N := 20) rfl rfl 7 (by decide) inX4 m_582 rfl dX4_bookOf_272 ?_
              refine lv_iload hx hb dX4_bookOf_275 (lv_at hl 7 rfl) ?_
              refine k_ild S hX.2 hX.1 6 (i := i) rfl (by omega) (by decide) dX4_bookOf_277 ?_
              refine lv_goto (tgt := 304) hx hb dX4_bookOf_278 (by decide) ?_
              refine lv_iadd hx hb dX4_bookOf_304 ?_
              refine lv_istore (lv' := [(6, .int ((smM σ pl (nI ar) af mi z9 i) + (σ 5 i))), (8, .int (bI (tmB σ (nI ar) af mi i))), (0, .ref (ad 0)), (1, .int pl), (2, .int (nI ar)), (3, .int mi), (5, .int af), (7, .int (nI i))]) hx hb dX4_bookOf_305 hl (by decide) rfl (fun ls hl => ?_)
              refine lv_iinc (v := nI (i + 1)) (lv' := [(7, .int (nI (i + 1))), (6, .int ((smM σ pl (nI ar) af mi z9 i) + (σ 5 i))), (8, .int (bI (tmB σ (nI ar) af mi i))), (0, .ref (ad 0)), (1, .int pl), (2, .int (nI ar)), (3, .int mi), (5, .int af)]) hx hb dX4_bookOf_307 hl (k := 7) rfl (nI_1 i) (by decide) rfl (fun ls hl => ?_)
              refine lv_goto (tgt := 199) hx hb dX4_bookOf_310 (by decide) ?_
              have ev7 : (smM σ pl (nI ar) af mi z9 i) + (σ 5 i) = smM σ pl (nI ar) af mi z9 (i + 1) := by simp [smM, tmM, c205_1, bc205_1, bc253_2, c268_3]
              have hl : lv_has ls 9 [(7, .int (nI (i + 1))), (6, .int (smM σ pl (nI ar) af mi z9 (i + 1))), (8, .int (bI (tmB σ (nI ar) af mi i))), (0, .ref (ad 0)), (1, .int pl), (2, .int (nI ar)), (3, .int mi), (5, .int af)] := by rw [← ev7]; exact hl
              exact ihn (i + 1) hlti (by omega) ls (lv_sub hl [3, 4, 5, 6, 7, 1, 0] rfl)
          · have bc253_2 := bI_0 c253_2
            refine lv_iconst (v := 0) hx hb dX4_bookOf_256 (by decide) ?_
            refine lv_goto (tgt := 304) hx hb dX4_bookOf_257 (by decide) ?_
            refine lv_iadd hx hb dX4_bookOf_304 ?_
            refine lv_istore (lv' := [(6, .int ((smM σ pl (nI ar) af mi z9 i) + 0)), (8, .int (bI (tmB σ (nI ar) af mi i))), (0, .ref (ad 0)), (1, .int pl), (2, .int (nI ar)), (3, .int mi), (5, .int af), (7, .int (nI i))]) hx hb dX4_bookOf_305 hl (by decide) rfl (fun ls hl => ?_)
            refine lv_iinc (v := nI (i + 1)) (lv' := [(7, .int (nI (i + 1))), (6, .int ((smM σ pl (nI ar) af mi z9 i) + 0)), (8, .int (bI (tmB σ (nI ar) af mi i))), (0, .ref (ad 0)), (1, .int pl), (2, .int (nI ar)), (3, .int mi), (5, .int af)]) hx hb dX4_bookOf_307 hl (k := 7) rfl (nI_1 i) (by decide) rfl (fun ls hl => ?_)
            refine lv_goto (tgt := 199) hx hb dX4_bookOf_310 (by decide) ?_
            have ev8 : (smM σ pl (nI ar) af mi z9 i) + 0 = smM σ pl (nI ar) af mi z9 (i + 1) := by simp [smM, tmM, c205_1, bc205_1, bc253_2]
            have hl : lv_has ls 9 [(7, .int (nI (i + 1))), (6, .int (smM σ pl (nI ar) af mi z9 (i + 1))), (8, .int (bI (tmB σ (nI ar) af mi i))), (0, .ref (ad 0)), (1, .int pl), (2, .int (nI ar)), (3, .int mi), (5, .int af)] := by rw [← ev8]; exact hl
            exact ihn (i + 1) hlti (by omega) ls (lv_sub hl [3, 4, 5, 6, 7, 1, 0] rfl)
        refine lv_aload_n hx hb dX4_bookOf_208 rfl (lv_at hl 0 rfl) ?_
        refine k_get S hX.2 hX.1 0 (C := RX4) (T := TX4) (N := 20) rfl rfl 6 (by decide) inX4 m_581 rfl dX4_bookOf_209 ?_
        refine lv_iload hx hb dX4_bookOf_212 (lv_at hl 6 rfl) ?_
        refine k_ild S hX.2 hX.1 5 (i := i) rfl (by omega) (by decide) dX4_bookOf_214 ?_
        refine lv_iload_n hx hb dX4_bookOf_215 rfl (lv_at hl 2 rfl) ?_
        refine lv_icmp_ne (tgt := 246) hx hb dX4_bookOf_216 (by decide) (fun c216_9 => ?_) (fun c216_9 => ?_)
        · have bc216_9 := c216_9
          refine lv_iconst (v := 0) hx hb dX4_bookOf_246 (by decide) ?_
          refine k_eq (y := bI (tmB σ (nI ar) af mi i)) (by simp [bI, c205_1, bc205_1, c216_9, tmB]) ?_
          exact J247 ls (lv_sub hl [0, 1, 2, 3, 4, 5, 6] rfl)
        · have bc216_9 := c216_9
          refine lv_aload_n hx hb dX4_bookOf_219 rfl (lv_at hl 0 rfl) ?_
          refine k_get S hX.2 hX.1 0 (C := RX4) (T := TX4) (N := 20) rfl rfl 8 (by decide) inX4 m_583 rfl dX4_bookOf_220 ?_
          refine lv_iload hx hb dX4_bookOf_223 (lv_at hl 6 rfl) ?_
          refine k_ild S hX.2 hX.1 7 (i := i) rfl (by omega) (by decide) dX4_bookOf_225 ?_
          refine lv_iload hx hb dX4_bookOf_226 (lv_at hl 4 rfl) ?_
          refine lv_icmp_le (tgt := 246) hx hb dX4_bookOf_228 (by decide) (fun c228_10 => ?_) (fun c228_10 => ?_)
          · have bc228_10 := le_nlt c228_10
            refine lv_iconst (v := 0) hx hb dX4_bookOf_246 (by decide) ?_
            refine k_eq (y := bI (tmB σ (nI ar) af mi i)) (by simp [bI, c205_1, bc205_1, c216_9, c228_10, bc228_10, tmB]) ?_
            exact J247 ls (lv_sub hl [0, 1, 2, 3, 4, 5, 6] rfl)
          · have bc228_10 := nle_lt c228_10
            refine lv_aload_n hx hb dX4_bookOf_231 rfl (lv_at hl 0 rfl) ?_
            refine k_get S hX.2 hX.1 0 (C := RX4) (T := TX4) (N := 20) rfl rfl 8 (by decide) inX4 m_583 rfl dX4_bookOf_232 ?_
            refine lv_iload hx hb dX4_bookOf_235 (lv_at hl 6 rfl) ?_
            refine k_ild S hX.2 hX.1 7 (i := i) rfl (by omega) (by decide) dX4_bookOf_237 ?_
            refine lv_iload_n hx hb dX4_bookOf_238 rfl (lv_at hl 3 rfl) ?_
            refine lv_icmp_gt (tgt := 246) hx hb dX4_bookOf_239 (by decide) (fun c239_11 => ?_) (fun c239_11 => ?_)
            · have bc239_11 := lt_nle c239_11
              refine lv_iconst (v := 0) hx hb dX4_bookOf_246 (by decide) ?_
              refine k_eq (y := bI (tmB σ (nI ar) af mi i)) (by simp [bI, c205_1, bc205_1, c216_9, c228_10, bc228_10, c239_11, bc239_11, tmB]) ?_
              exact J247 ls (lv_sub hl [0, 1, 2, 3, 4, 5, 6] rfl)
            · have bc239_11 := nlt_le c239_11
              refine lv_iconst (v := 1) hx hb dX4_bookOf_242 (by decide) ?_
              refine lv_goto (tgt := 247) hx hb dX4_bookOf_243 (by decide) ?_
              refine k_eq (y := bI (tmB σ (nI ar) af mi i)) (by simp [bI, c205_1, bc205_1, c216_9, c228_10, bc228_10, c239_11, bc239_11, tmB]) ?_
              exact J247 ls (lv_sub hl [0, 1, 2, 3, 4, 5, 6] rfl)
  have L6 : ∀ (n i : Nat), i ≤ ns → ns + 1 ≤ i + n → ∀ ls, lv_has ls 9 [(0, .ref (ad 0)), (1, .int pl), (2, .int (nI ar)), (3, .int mi), (4, .int (oI (fdM σ pl ar mi i))), (5, .int (nI i))] → W p l e ({ frames := 2, cells := 0, slots := 0, locals := 66 } : Room) s m [.ref (ad 0), .int pl, .int (nI ar), .int mi].toArray below meth c s.heap [] 0 0 (MQ below (vp_Si (fun r => r = boM σ nm ns pl ar mi)) [.ref (ad 0), .int pl, .int (nI ar), .int mi].toArray s 0 0 NF) (F0 m 6 ls []) := by
    intro n
    induction n with
    | zero =>
      intro i h1 h2
      omega
    | succ n ihn =>
      intro i hii hini ls hl
      obtain ⟨o, ho⟩ : ∃ o, o = fdM σ pl ar mi i := ⟨_, rfl⟩
      rw [← ho] at hl
      rcases o with _ | b
      · have hl : lv_has ls 9 [(0, .ref (ad 0)), (1, .int pl), (2, .int (nI ar)), (3, .int mi), (4, .int (-1)), (5, .int (nI i))] := hl
        refine lv_iload hx hb dX4_bookOf_6 (lv_at hl 5 rfl) ?_
        refine lv_aload_n hx hb dX4_bookOf_8 rfl (lv_at hl 0 rfl) ?_
        refine k_get S hX.2 hX.1 0 (C := RX4) (T := TX4) (N := 20) rfl rfl 9 (by decide) inX4 m_584 rfl dX4_bookOf_9 ?_
        refine k_eq (y := nI ns) (hns) ?_
        refine lv_icmp_ge (tgt := 155) hx hb dX4_bookOf_12 (by decide) (fun c12_12 => ?_) (fun c12_12 => ?_)
        · have bc12_12 := le_nlt c12_12
          have hgei : i = ns := by
            have h9 := c12_12
            rw [nI_leI (by omega) (by omega)] at h9
            omega
          refine lv_iload hx hb dX4_bookOf_155 (lv_at hl 4 rfl) ?_
          refine lv_iconst (v := (-1)) hx hb dX4_bookOf_157 (by decide) ?_
          refine lv_icmp_ne (tgt := 165) hx hb dX4_bookOf_158 (by decide) (fun c158_13 => ?_) (fun c158_13 => ?_)
          · exact absurd c158_13 (by decide)
          · have bc158_13 := c158_13
            refine lv_iconst (v := (-1)) hx hb dX4_bookOf_161 (by decide) ?_
            refine lv_goto (tgt := 172) hx hb dX4_bookOf_162 (by decide) ?_
            refine lv_istore (lv' := [(5, .int (-1)), (0, .ref (ad 0)), (1, .int pl), (2, .int (nI ar)), (3, .int mi), (4, .int (-1))]) hx hb dX4_bookOf_172 hl (by decide) rfl (fun ls hl => ?_)
            refine lv_iload hx hb dX4_bookOf_174 (lv_at hl 5 rfl) ?_
            refine lv_iconst (v := (-1)) hx hb dX4_bookOf_176 (by decide) ?_
            refine lv_icmp_ne (tgt := 184) hx hb dX4_bookOf_177 (by decide) (fun c177_14 => ?_) (fun c177_14 => ?_)
            · exact absurd c177_14 (by decide)
            · have bc177_14 := c177_14
              refine lv_iconst (v := 0) hx hb dX4_bookOf_180 (by decide) ?_
              refine lv_goto (tgt := 194) hx hb dX4_bookOf_181 (by decide) ?_
              refine lv_istore (lv' := [(6, .int 0), (5, .int (-1)), (0, .ref (ad 0)), (1, .int pl), (2, .int (nI ar)), (3, .int mi), (4, .int (-1))]) hx hb dX4_bookOf_194 hl (by decide) rfl (fun ls hl => ?_)
              refine lv_iconst (v := 0) hx hb dX4_bookOf_196 (by decide) ?_
              refine lv_istore (lv' := [(7, .int 0), (6, .int 0), (5, .int (-1)), (0, .ref (ad 0)), (1, .int pl), (2, .int (nI ar)), (3, .int mi), (4, .int (-1))]) hx hb dX4_bookOf_197 hl (by decide) rfl (fun ls hl => ?_)
              exact L199 (-1) 0 (by simp [boM, ← hgei, ← ho]) (nm + 1) 0 (Nat.zero_le _) (by omega) ls (lv_sub hl [3, 4, 5, 6, 2, 1, 0] rfl)
        · have bc12_12 := nle_lt c12_12
          have hlti : i < ns := by
            have h9 := nle_lt c12_12
            rw [nI_ltI (by omega) (by omega)] at h9
            exact h9
          have J56 : ∀ ls, lv_has ls 9 [(0, .ref (ad 0)), (1, .int pl), (2, .int (nI ar)), (3, .int mi), (4, .int (-1)), (5, .int (nI i))] → W p l e ({ frames := 2, cells := 0, slots := 0, locals := 66 } : Room) s m [.ref (ad 0), .int pl, .int (nI ar), .int mi].toArray below meth c s.heap [] 0 0 (MQ below (vp_Si (fun r => r = boM σ nm ns pl ar mi)) [.ref (ad 0), .int pl, .int (nI ar), .int mi].toArray s 0 0 NF) (F0 m 56 ls [.int (bI (isM σ pl ar mi i))]) := by
            intro ls hl
            refine lv_istore (lv' := [(6, .int (bI (isM σ pl ar mi i))), (0, .ref (ad 0)), (1, .int pl), (2, .int (nI ar)), (3, .int mi), (4, .int (-1)), (5, .int (nI i))]) hx hb dX4_bookOf_56 hl (by decide) rfl (fun ls hl => ?_)
            refine lv_iload hx hb dX4_bookOf_58 (lv_at hl 5 rfl) ?_
            refine lv_iconst (v := (-1)) hx hb dX4_bookOf_60 (by decide) ?_
            refine lv_icmp_eq (tgt := 123) hx hb dX4_bookOf_61 (by decide) (fun c61_15 => ?_) (fun c61_15 => ?_)
            · have bc61_15 := c61_15
              refine lv_iconst (v := 1) hx hb dX4_bookOf_123 (by decide) ?_
              refine lv_goto (tgt := 128) hx hb dX4_bookOf_124 (by decide) ?_
              refine lv_istore (lv' := [(7, .int 1), (6, .int (bI (isM σ pl ar mi i))), (0, .ref (ad 0)), (1, .int pl), (2, .int (nI ar)), (3, .int mi), (4, .int (-1)), (5, .int (nI i))]) hx hb dX4_bookOf_128 hl (by decide) rfl (fun ls hl => ?_)
              refine lv_iload hx hb dX4_bookOf_130 (lv_at hl 1 rfl) ?_
              refine lv_if_eq (tgt := 145) hx hb dX4_bookOf_132 (by decide) (fun c132_16 => ?_) (fun c132_16 => ?_)
              · have bc132_16 := bI_0 c132_16
                refine lv_iload hx hb dX4_bookOf_145 (lv_at hl 6 rfl) ?_
                refine lv_istore (lv' := [(4, .int (-1)), (7, .int 1), (6, .int (bI (isM σ pl ar mi i))), (0, .ref (ad 0)), (1, .int pl), (2, .int (nI ar)), (3, .int mi), (5, .int (nI i))]) hx hb dX4_bookOf_147 hl (by decide) rfl (fun ls hl => ?_)
                refine lv_iinc (v := nI (i + 1)) (lv' := [(5, .int (nI (i + 1))), (4, .int (-1)), (7, .int 1), (6, .int (bI (isM σ pl ar mi i))), (0, .ref (ad 0)), (1, .int pl), (2, .int (nI ar)), (3, .int mi)]) hx hb dX4_bookOf_149 hl (k := 7) rfl (nI_1 i) (by decide) rfl (fun ls hl => ?_)
                refine lv_goto (tgt := 6) hx hb dX4_bookOf_152 (by decide) ?_
                have ev17 : (-1) = oI (fdM σ pl ar mi (i + 1)) := by simp [fdM, fdT, ← ho, oI, c12_12, bc12_12, bc132_16]
                have hl : lv_has ls 9 [(5, .int (nI (i + 1))), (4, .int (oI (fdM σ pl ar mi (i + 1)))), (7, .int 1), (6, .int (bI (isM σ pl ar mi i))), (0, .ref (ad 0)), (1, .int pl), (2, .int (nI ar)), (3, .int mi)] := by rw [← ev17]; exact hl
                exact ihn (i + 1) hlti (by omega) ls (lv_sub hl [4, 5, 6, 7, 1, 0] rfl)
              · have bc132_16 := bI_n c132_16
                refine lv_iload hx hb dX4_bookOf_135 (lv_at hl 0 rfl) ?_
                refine lv_if_eq (tgt := 145) hx hb dX4_bookOf_137 (by decide) (fun c137_18 => ?_) (fun c137_18 => ?_)
                · exact absurd c137_18 (by decide)
                · have bc137_18 := c137_18
                  refine lv_iload hx hb dX4_bookOf_140 (lv_at hl 7 rfl) ?_
                  refine lv_goto (tgt := 147) hx hb dX4_bookOf_142 (by decide) ?_
                  refine lv_istore (lv' := [(4, .int (nI i)), (7, .int 1), (6, .int (bI (isM σ pl ar mi i))), (0, .ref (ad 0)), (1, .int pl), (2, .int (nI ar)), (3, .int mi), (5, .int (nI i))]) hx hb dX4_bookOf_147 hl (by decide) rfl (fun ls hl => ?_)
                  refine lv_iinc (v := nI (i + 1)) (lv' := [(5, .int (nI (i + 1))), (4, .int (nI i)), (7, .int 1), (6, .int (bI (isM σ pl ar mi i))), (0, .ref (ad 0)), (1, .int pl), (2, .int (nI ar)), (3, .int mi)]) hx hb dX4_bookOf_149 hl (k := 7) rfl (nI_1 i) (by decide) rfl (fun ls hl => ?_)
                  refine lv_goto (tgt := 6) hx hb dX4_bookOf_152 (by decide) ?_
                  have ev19 : nI i = oI (fdM σ pl ar mi (i + 1)) := by simp [fdM, fdT, ← ho, oI, c12_12, bc12_12, bc132_16]
                  have hl : lv_has ls 9 [(5, .int (nI (i + 1))), (4, .int (oI (fdM σ pl ar mi (i + 1)))), (7, .int 1), (6, .int (bI (isM σ pl ar mi i))), (0, .ref (ad 0)), (1, .int pl), (2, .int (nI ar)), (3, .int mi)] := by rw [← ev19]; exact hl
                  exact ihn (i + 1) hlti (by omega) ls (lv_sub hl [4, 5, 6, 7, 1, 0] rfl)
            · exact absurd c61_15 (by decide)
          refine lv_aload_n hx hb dX4_bookOf_15 rfl (lv_at hl 0 rfl) ?_
          refine k_get S hX.2 hX.1 0 (C := RX4) (T := TX4) (N := 20) rfl rfl 10 (by decide) inX4 m_585 rfl dX4_bookOf_16 ?_
          refine lv_iload hx hb dX4_bookOf_19 (lv_at hl 5 rfl) ?_
          refine k_ild S hX.2 hX.1 8 (i := i) rfl (by omega) (by decide) dX4_bookOf_21 ?_
          refine lv_iload_n hx hb dX4_bookOf_22 rfl (lv_at hl 1 rfl) ?_
          refine lv_icmp_ne (tgt := 55) hx hb dX4_bookOf_23 (by decide) (fun c23_20 => ?_) (fun c23_20 => ?_)
          · have bc23_20 := c23_20
            refine lv_iconst (v := 0) hx hb dX4_bookOf_55 (by decide) ?_
            refine k_eq (y := bI (isM σ pl ar mi i)) (by simp [bI, c12_12, bc12_12, c23_20, isM]) ?_
            exact J56 ls (lv_sub hl [0, 1, 2, 3, 4, 5] rfl)
          · have bc23_20 := c23_20
            refine lv_aload_n hx hb dX4_bookOf_26 rfl (lv_at hl 0 rfl) ?_
            refine k_get S hX.2 hX.1 0 (C := RX4) (T := TX4) (N := 20) rfl rfl 14 (by decide) inX4 m_589 rfl dX4_bookOf_27 ?_
            refine lv_iload hx hb dX4_bookOf_30 (lv_at hl 5 rfl) ?_
            refine lv_iload_n hx hb dX4_bookOf_32 rfl (lv_at hl 2 rfl) ?_
            refine q_i (r_S S ⟨m_686, m_687, m_40, m_688⟩ ⟨rfl, by decide, by decide, by decide +kernel⟩ (c4_at l i ar) ⟨rfl, rfl, Nat.le_of_ble_eq_true rfl, Nat.le_of_ble_eq_true rfl⟩ (ps bl_GL (bG hX.2.2)) (n := 2) (As := [.int (nI i), .int (nI ar)]) (rest := [.ref (ad 12)]) rfl hl.1 rfl (Nat.le_of_ble_eq_true rfl) ⟨Nat.le_of_ble_eq_true rfl, Nat.le_of_ble_eq_true rfl⟩ dX4_bookOf_33) (fun r21 (e21 : r21 = nI (i * 5 + ar)) => ?_)
            subst e21
            refine k_ild S hX.2 hX.1 12 (i := (i * 5 + ar)) rfl (by omega) (by decide) dX4_bookOf_36 ?_
            refine lv_if_le (tgt := 55) hx hb dX4_bookOf_37 (by decide) (fun c37_22 => ?_) (fun c37_22 => ?_)
            · have bc37_22 := le_nlt c37_22
              refine lv_iconst (v := 0) hx hb dX4_bookOf_55 (by decide) ?_
              refine k_eq (y := bI (isM σ pl ar mi i)) (by simp [bI, c12_12, bc12_12, c23_20, c37_22, bc37_22, isM]) ?_
              exact J56 ls (lv_sub hl [0, 1, 2, 3, 4, 5] rfl)
            · have bc37_22 := nle_lt c37_22
              refine lv_aload_n hx hb dX4_bookOf_40 rfl (lv_at hl 0 rfl) ?_
              refine k_get S hX.2 hX.1 0 (C := RX4) (T := TX4) (N := 20) rfl rfl 11 (by decide) inX4 m_586 rfl dX4_bookOf_41 ?_
              refine lv_iload hx hb dX4_bookOf_44 (lv_at hl 5 rfl) ?_
              refine k_ild S hX.2 hX.1 9 (i := i) rfl (by omega) (by decide) dX4_bookOf_46 ?_
              refine lv_iload_n hx hb dX4_bookOf_47 rfl (lv_at hl 3 rfl) ?_
              refine lv_icmp_gt (tgt := 55) hx hb dX4_bookOf_48 (by decide) (fun c48_23 => ?_) (fun c48_23 => ?_)
              · have bc48_23 := lt_nle c48_23
                refine lv_iconst (v := 0) hx hb dX4_bookOf_55 (by decide) ?_
                refine k_eq (y := bI (isM σ pl ar mi i)) (by simp [bI, c12_12, bc12_12, c23_20, c37_22, bc37_22, c48_23, bc48_23, isM]) ?_
                exact J56 ls (lv_sub hl [0, 1, 2, 3, 4, 5] rfl)
              · have bc48_23 := nlt_le c48_23
                refine lv_iconst (v := 1) hx hb dX4_bookOf_51 (by decide) ?_
                refine lv_goto (tgt := 56) hx hb dX4_bookOf_52 (by decide) ?_
                refine k_eq (y := bI (isM σ pl ar mi i)) (by simp [bI, c12_12, bc12_12, c23_20, c37_22, bc37_22, c48_23, bc48_23, isM]) ?_
                exact J56 ls (lv_sub hl [0, 1, 2, 3, 4, 5] rfl)
      · have hl : lv_has ls 9 [(0, .ref (ad 0)), (1, .int pl), (2, .int (nI ar)), (3, .int mi), (4, .int (nI b)), (5, .int (nI i))] := hl
        have hbi := fdM_lt ho.symm
        refine lv_iload hx hb dX4_bookOf_6 (lv_at hl 5 rfl) ?_
        refine lv_aload_n hx hb dX4_bookOf_8 rfl (lv_at hl 0 rfl) ?_
        refine k_get S hX.2 hX.1 0 (C := RX4) (T := TX4) (N := 20) rfl rfl 9 (by decide) inX4 m_584 rfl dX4_bookOf_9 ?_
        refine k_eq (y := nI ns) (hns) ?_
        refine lv_icmp_ge (tgt := 155) hx hb dX4_bookOf_12 (by decide) (fun c12_24 => ?_) (fun c12_24 => ?_)
        · have bc12_24 := le_nlt c12_24
          have hgei : i = ns := by
            have h9 := c12_24
            rw [nI_leI (by omega) (by omega)] at h9
            omega
          refine lv_iload hx hb dX4_bookOf_155 (lv_at hl 4 rfl) ?_
          refine lv_iconst (v := (-1)) hx hb dX4_bookOf_157 (by decide) ?_
          refine lv_icmp_ne (tgt := 165) hx hb dX4_bookOf_158 (by decide) (fun c158_25 => ?_) (fun c158_25 => ?_)
          · have bc158_25 := c158_25
            refine lv_aload_n hx hb dX4_bookOf_165 rfl (lv_at hl 0 rfl) ?_
            refine k_get S hX.2 hX.1 0 (C := RX4) (T := TX4) (N := 20) rfl rfl 11 (by decide) inX4 m_586 rfl dX4_bookOf_166 ?_
            refine lv_iload hx hb dX4_bookOf_169 (lv_at hl 4 rfl) ?_
            refine k_ild S hX.2 hX.1 9 (i := b) rfl (by omega) (by decide) dX4_bookOf_171 ?_
            refine lv_istore (lv' := [(5, .int (σ 8 b)), (0, .ref (ad 0)), (1, .int pl), (2, .int (nI ar)), (3, .int mi), (4, .int (nI b))]) hx hb dX4_bookOf_172 hl (by decide) rfl (fun ls hl => ?_)
            refine lv_iload hx hb dX4_bookOf_174 (lv_at hl 5 rfl) ?_
            refine lv_iconst (v := (-1)) hx hb dX4_bookOf_176 (by decide) ?_
            refine lv_icmp_ne (tgt := 184) hx hb dX4_bookOf_177 (by decide) (fun c177_26 => ?_) (fun c177_26 => ?_)
            · have bc177_26 := c177_26
              refine lv_aload_n hx hb dX4_bookOf_184 rfl (lv_at hl 1 rfl) ?_
              refine lv_iload hx hb dX4_bookOf_185 (lv_at hl 5 rfl) ?_
              refine lv_iload_n hx hb dX4_bookOf_187 rfl (lv_at hl 3 rfl) ?_
              refine q_i (r_S S ⟨m_686, m_687, m_40, m_688⟩ ⟨rfl, by decide, by decide, by decide +kernel⟩ (c4_at l b ar) ⟨rfl, rfl, Nat.le_of_ble_eq_true rfl, Nat.le_of_ble_eq_true rfl⟩ (ps bl_GL (bG hX.2.2)) (n := 2) (As := [.int (nI b), .int (nI ar)]) (rest := [.ref (ad 0)]) rfl hl.1 rfl (Nat.le_of_ble_eq_true rfl) ⟨Nat.le_of_ble_eq_true rfl, Nat.le_of_ble_eq_true rfl⟩ dX4_bookOf_188) (fun r27 (e27 : r27 = nI (b * 5 + ar)) => ?_)
              subst e27
              refine q_i (r_V S ⟨m_693, m_695, m_26, m_40, m_696⟩ ⟨rfl, by decide, by decide, by decide +kernel⟩ (c4_agree l G ad σ (b * 5 + ar) (by omega)) ⟨rfl, rfl, Nat.le_of_ble_eq_true rfl, Nat.le_of_ble_eq_true rfl⟩ (pv_M hX bl_PM (bM hX)) (n := 1) (As := [.int (nI (b * 5 + ar))]) (rest := []) rfl hl.1 rfl (Nat.le_of_ble_eq_true rfl) ⟨Nat.le_of_ble_eq_true rfl, Nat.le_of_ble_eq_true rfl⟩ dX4_bookOf_191) (fun r28 (e28 : r28 = agM σ (b * 5 + ar)) => ?_)
              subst e28
              refine lv_istore (lv' := [(6, .int (agM σ (b * 5 + ar))), (5, .int (σ 8 b)), (0, .ref (ad 0)), (1, .int pl), (2, .int (nI ar)), (3, .int mi), (4, .int (nI b))]) hx hb dX4_bookOf_194 hl (by decide) rfl (fun ls hl => ?_)
              refine lv_iconst (v := 0) hx hb dX4_bookOf_196 (by decide) ?_
              refine lv_istore (lv' := [(7, .int 0), (6, .int (agM σ (b * 5 + ar))), (5, .int (σ 8 b)), (0, .ref (ad 0)), (1, .int pl), (2, .int (nI ar)), (3, .int mi), (4, .int (nI b))]) hx hb dX4_bookOf_197 hl (by decide) rfl (fun ls hl => ?_)
              exact L199 (σ 8 b) (agM σ (b * 5 + ar)) (by simp [boM, ← hgei, ← ho]) (nm + 1) 0 (Nat.zero_le _) (by omega) ls (lv_sub hl [3, 4, 5, 6, 2, 1, 0] rfl)
            · exact absurd c177_26 c158_25
          · have bc158_25 := c158_25
            exact absurd c158_25 (nI_m1 (by omega))
        · have bc12_24 := nle_lt c12_24
          have hlti : i < ns := by
            have h9 := nle_lt c12_24
            rw [nI_ltI (by omega) (by omega)] at h9
            exact h9
          have J56 : ∀ ls, lv_has ls 9 [(0, .ref (ad 0)), (1, .int pl), (2, .int (nI ar)), (3, .int mi), (4, .int (nI b)), (5, .int (nI i))] → W p l e ({ frames := 2, cells := 0, slots := 0, locals := 66 } : Room) s m [.ref (ad 0), .int pl, .int (nI ar), .int mi].toArray below meth c s.heap [] 0 0 (MQ below (vp_Si (fun r => r = boM σ nm ns pl ar mi)) [.ref (ad 0), .int pl, .int (nI ar), .int mi].toArray s 0 0 NF) (F0 m 56 ls [.int (bI (isM σ pl ar mi i))]) := by
            intro ls hl
            refine lv_istore (lv' := [(6, .int (bI (isM σ pl ar mi i))), (0, .ref (ad 0)), (1, .int pl), (2, .int (nI ar)), (3, .int mi), (4, .int (nI b)), (5, .int (nI i))]) hx hb dX4_bookOf_56 hl (by decide) rfl (fun ls hl => ?_)
            have J128 : ∀ ls, lv_has ls 9 [(6, .int (bI (isM σ pl ar mi i))), (0, .ref (ad 0)), (1, .int pl), (2, .int (nI ar)), (3, .int mi), (4, .int (nI b)), (5, .int (nI i))] → W p l e ({ frames := 2, cells := 0, slots := 0, locals := 66 } : Room) s m [.ref (ad 0), .int pl, .int (nI ar), .int mi].toArray below meth c s.heap [] 0 0 (MQ below (vp_Si (fun r => r = boM σ nm ns pl ar mi)) [.ref (ad 0), .int pl, .int (nI ar), .int mi].toArray s 0 0 NF) (F0 m 128 ls [.int (bI (ltM σ ar i b))]) := by
              intro ls hl
              refine lv_istore (lv' := [(7, .int (bI (ltM σ ar i b))), (6, .int (bI (isM σ pl ar mi i))), (0, .ref (ad 0)), (1, .int pl), (2, .int (nI ar)), (3, .int mi), (4, .int (nI b)), (5, .int (nI i))]) hx hb dX4_bookOf_128 hl (by decide) rfl (fun ls hl => ?_)
              refine lv_iload hx hb dX4_bookOf_130 (lv_at hl 1 rfl) ?_
              refine lv_if_eq (tgt := 145) hx hb dX4_bookOf_132 (by decide) (fun c132_29 => ?_) (fun c132_29 => ?_)
              · have bc132_29 := bI_0 c132_29
                refine lv_iload hx hb dX4_bookOf_145 (lv_at hl 6 rfl) ?_
                refine lv_istore (lv' := [(4, .int (nI b)), (7, .int (bI (ltM σ ar i b))), (6, .int (bI (isM σ pl ar mi i))), (0, .ref (ad 0)), (1, .int pl), (2, .int (nI ar)), (3, .int mi), (5, .int (nI i))]) hx hb dX4_bookOf_147 hl (by decide) rfl (fun ls hl => ?_)
                refine lv_iinc (v := nI (i + 1)) (lv' := [(5, .int (nI (i + 1))), (4, .int (nI b)), (7, .int (bI (ltM σ ar i b))), (6, .int (bI (isM σ pl ar mi i))), (0, .ref (ad 0)), (1, .int pl), (2, .int (nI ar)), (3, .int mi)]) hx hb dX4_bookOf_149 hl (k := 7) rfl (nI_1 i) (by decide) rfl (fun ls hl => ?_)
                refine lv_goto (tgt := 6) hx hb dX4_bookOf_152 (by decide) ?_
                have ev30 : nI b = oI (fdM σ pl ar mi (i + 1)) := by simp [fdM, fdT, ← ho, oI, c12_24, bc12_24, bc132_29]
                have hl : lv_has ls 9 [(5, .int (nI (i + 1))), (4, .int (oI (fdM σ pl ar mi (i + 1)))), (7, .int (bI (ltM σ ar i b))), (6, .int (bI (isM σ pl ar mi i))), (0, .ref (ad 0)), (1, .int pl), (2, .int (nI ar)), (3, .int mi)] := by rw [← ev30]; exact hl
                exact ihn (i + 1) hlti (by omega) ls (lv_sub hl [4, 5, 6, 7, 1, 0] rfl)
              · have bc132_29 := bI_n c132_29
                refine lv_iload hx hb dX4_bookOf_135 (lv_at hl 0 rfl) ?_
                refine lv_if_eq (tgt := 145) hx hb dX4_bookOf_137 (by decide) (fun c137_31 => ?_) (fun c137_31 => ?_)
                · have bc137_31 := bI_0 c137_31
                  refine lv_iload hx hb dX4_bookOf_145 (lv_at hl 6 rfl) ?_
                  refine lv_istore (lv' := [(4, .int (nI b)), (7, .int (bI (ltM σ ar i b))), (6, .int (bI (isM σ pl ar mi i))), (0, .ref (ad 0)), (1, .int pl), (2, .int (nI ar)), (3, .int mi), (5, .int (nI i))]) hx hb dX4_bookOf_147 hl (by decide) rfl (fun ls hl => ?_)
                  refine lv_iinc (v := nI (i + 1)) (lv' := [(5, .int (nI (i + 1))), (4, .int (nI b)), (7, .int (bI (ltM σ ar i b))), (6, .int (bI (isM σ pl ar mi i))), (0, .ref (ad 0)), (1, .int pl), (2, .int (nI ar)), (3, .int mi)]) hx hb dX4_bookOf_149 hl (k := 7) rfl (nI_1 i) (by decide) rfl (fun ls hl => ?_)
                  refine lv_goto (tgt := 6) hx hb dX4_bookOf_152 (by decide) ?_
                  have ev32 : nI b = oI (fdM σ pl ar mi (i + 1)) := by simp [fdM, fdT, ← ho, oI, c12_24, bc12_24, bc132_29, bc137_31]
                  have hl : lv_has ls 9 [(5, .int (nI (i + 1))), (4, .int (oI (fdM σ pl ar mi (i + 1)))), (7, .int (bI (ltM σ ar i b))), (6, .int (bI (isM σ pl ar mi i))), (0, .ref (ad 0)), (1, .int pl), (2, .int (nI ar)), (3, .int mi)] := by rw [← ev32]; exact hl
                  exact ihn (i + 1) hlti (by omega) ls (lv_sub hl [4, 5, 6, 7, 1, 0] rfl)
                · have bc137_31 := bI_n c137_31
                  refine lv_iload hx hb dX4_bookOf_140 (lv_at hl 7 rfl) ?_
                  refine lv_goto (tgt := 147) hx hb dX4_bookOf_142 (by decide) ?_
                  refine lv_istore (lv' := [(4, .int (nI i)), (7, .int (bI (ltM σ ar i b))), (6, .int (bI (isM σ pl ar mi i))), (0, .ref (ad 0)), (1, .int pl), (2, .int (nI ar)), (3, .int mi), (5, .int (nI i))]) hx hb dX4_bookOf_147 hl (by decide) rfl (fun ls hl => ?_)
                  refine lv_iinc (v := nI (i + 1)) (lv' := [(5, .int (nI (i + 1))), (4, .int (nI i)), (7, .int (bI (ltM σ ar i b))), (6, .int (bI (isM σ pl ar mi i))), (0, .ref (ad 0)), (1, .int pl), (2, .int (nI ar)), (3, .int mi)]) hx hb dX4_bookOf_149 hl (k := 7) rfl (nI_1 i) (by decide) rfl (fun ls hl => ?_)
                  refine lv_goto (tgt := 6) hx hb dX4_bookOf_152 (by decide) ?_
                  have ev33 : nI i = oI (fdM σ pl ar mi (i + 1)) := by simp [fdM, fdT, ← ho, oI, c12_24, bc12_24, bc132_29, bc137_31]
                  have hl : lv_has ls 9 [(5, .int (nI (i + 1))), (4, .int (oI (fdM σ pl ar mi (i + 1)))), (7, .int (bI (ltM σ ar i b))), (6, .int (bI (isM σ pl ar mi i))), (0, .ref (ad 0)), (1, .int pl), (2, .int (nI ar)), (3, .int mi)] := by rw [← ev33]; exact hl
                  exact ihn (i + 1) hlti (by omega) ls (lv_sub hl [4, 5, 6, 7, 1, 0] rfl)
            refine lv_iload hx hb dX4_bookOf_58 (lv_at hl 5 rfl) ?_
            refine lv_iconst (v := (-1)) hx hb dX4_bookOf_60 (by decide) ?_
            refine lv_icmp_eq (tgt := 123) hx hb dX4_bookOf_61 (by decide) (fun c61_34 => ?_) (fun c61_34 => ?_)
            · have bc61_34 := c61_34
              exact absurd c61_34 (nI_m1 (by omega))
            · have bc61_34 := c61_34
              refine lv_aload_n hx hb dX4_bookOf_64 rfl (lv_at hl 1 rfl) ?_
              refine k_get S hX.2 hX.1 0 (C := RX4) (T := TX4) (N := 20) rfl rfl 11 (by decide) inX4 m_586 rfl dX4_bookOf_65 ?_
              refine lv_iload hx hb dX4_bookOf_68 (lv_at hl 6 rfl) ?_
              refine k_ild S hX.2 hX.1 9 (i := i) rfl (by omega) (by decide) dX4_bookOf_70 ?_
              refine lv_aload_n hx hb dX4_bookOf_71 rfl (lv_at hl 1 rfl) ?_
              refine k_get S hX.2 hX.1 0 (C := RX4) (T := TX4) (N := 20) rfl rfl 11 (by decide) inX4 m_586 rfl dX4_bookOf_72 ?_
              refine lv_iload hx hb dX4_bookOf_75 (lv_at hl 5 rfl) ?_
              refine k_ild S hX.2 hX.1 9 (i := b) rfl (by omega) (by decide) dX4_bookOf_77 ?_
              refine lv_icmp_gt (tgt := 123) hx hb dX4_bookOf_78 (by decide) (fun c78_35 => ?_) (fun c78_35 => ?_)
              · have bc78_35 := lt_nle c78_35
                refine lv_iconst (v := 1) hx hb dX4_bookOf_123 (by decide) ?_
                refine lv_goto (tgt := 128) hx hb dX4_bookOf_124 (by decide) ?_
                refine k_eq (y := bI (ltM σ ar i b)) (by simp [bI, c12_24, bc12_24, c61_34, c78_35, bc78_35, ltM]) ?_
                exact J128 ls (lv_sub hl [0, 1, 2, 3, 4, 5, 6] rfl)
              · have bc78_35 := nlt_le c78_35
                refine lv_aload_n hx hb dX4_bookOf_81 rfl (lv_at hl 1 rfl) ?_
                refine k_get S hX.2 hX.1 0 (C := RX4) (T := TX4) (N := 20) rfl rfl 11 (by decide) inX4 m_586 rfl dX4_bookOf_82 ?_
                refine lv_iload hx hb dX4_bookOf_85 (lv_at hl 6 rfl) ?_
                refine k_ild S hX.2 hX.1 9 (i := i) rfl (by omega) (by decide) dX4_bookOf_87 ?_
                refine lv_aload_n hx hb dX4_bookOf_88 rfl (lv_at hl 1 rfl) ?_
                refine k_get S hX.2 hX.1 0 (C := RX4) (T := TX4) (N := 20) rfl rfl 11 (by decide) inX4 m_586 rfl dX4_bookOf_89 ?_
                refine lv_iload hx hb dX4_bookOf_92 (lv_at hl 5 rfl) ?_
                refine k_ild S hX.2 hX.1 9 (i := b) rfl (by omega) (by decide) dX4_bookOf_94 ?_
                refine lv_icmp_ne (tgt := 127) hx hb dX4_bookOf_95 (by decide) (fun c95_36 => ?_) (fun c95_36 => ?_)
                · have bc95_36 := c95_36
                  refine lv_iconst (v := 0) hx hb dX4_bookOf_127 (by decide) ?_
                  refine k_eq (y := bI (ltM σ ar i b)) (by simp [bI, c12_24, bc12_24, c61_34, c78_35, bc78_35, c95_36, ltM]) ?_
                  exact J128 ls (lv_sub hl [0, 1, 2, 3, 4, 5, 6] rfl)
                · have bc95_36 := c95_36
                  refine lv_aload_n hx hb dX4_bookOf_98 rfl (lv_at hl 1 rfl) ?_
                  refine k_get S hX.2 hX.1 0 (C := RX4) (T := TX4) (N := 20) rfl rfl 14 (by decide) inX4 m_589 rfl dX4_bookOf_99 ?_
                  refine lv_iload hx hb dX4_bookOf_102 (lv_at hl 6 rfl) ?_
                  refine lv_iload_n hx hb dX4_bookOf_104 rfl (lv_at hl 3 rfl) ?_
                  refine q_i (r_S S ⟨m_686, m_687, m_40, m_688⟩ ⟨rfl, by decide, by decide, by decide +kernel⟩ (c4_at l i ar) ⟨rfl, rfl, Nat.le_of_ble_eq_true rfl, Nat.le_of_ble_eq_true rfl⟩ (ps bl_GL (bG hX.2.2)) (n := 2) (As := [.int (nI i), .int (nI ar)]) (rest := [.ref (ad 12)]) rfl hl.1 rfl (Nat.le_of_ble_eq_true rfl) ⟨Nat.le_of_ble_eq_true rfl, Nat.le_of_ble_eq_true rfl⟩ dX4_bookOf_105) (fun r37 (e37 : r37 = nI (i * 5 + ar)) => ?_)
                  subst e37
                  refine k_ild S hX.2 hX.1 12 (i := (i * 5 + ar)) rfl (by omega) (by decide) dX4_bookOf_108 ?_
                  refine lv_aload_n hx hb dX4_bookOf_109 rfl (lv_at hl 1 rfl) ?_
                  refine k_get S hX.2 hX.1 0 (C := RX4) (T := TX4) (N := 20) rfl rfl 14 (by decide) inX4 m_589 rfl dX4_bookOf_110 ?_
                  refine lv_iload hx hb dX4_bookOf_113 (lv_at hl 5 rfl) ?_
                  refine lv_iload_n hx hb dX4_bookOf_115 rfl (lv_at hl 3 rfl) ?_
                  refine q_i (r_S S ⟨m_686, m_687, m_40, m_688⟩ ⟨rfl, by decide, by decide, by decide +kernel⟩ (c4_at l b ar) ⟨rfl, rfl, Nat.le_of_ble_eq_true rfl, Nat.le_of_ble_eq_true rfl⟩ (ps bl_GL (bG hX.2.2)) (n := 2) (As := [.int (nI b), .int (nI ar)]) (rest := [.ref (ad 12), .int (σ 14 (i * 5 + ar))]) rfl hl.1 rfl (Nat.le_of_ble_eq_true rfl) ⟨Nat.le_of_ble_eq_true rfl, Nat.le_of_ble_eq_true rfl⟩ dX4_bookOf_116) (fun r38 (e38 : r38 = nI (b * 5 + ar)) => ?_)
                  subst e38
                  refine k_ild S hX.2 hX.1 12 (i := (b * 5 + ar)) rfl (by omega) (by decide) dX4_bookOf_119 ?_
                  refine lv_icmp_le (tgt := 127) hx hb dX4_bookOf_120 (by decide) (fun c120_39 => ?_) (fun c120_39 => ?_)
                  · have bc120_39 := le_nlt c120_39
                    refine lv_iconst (v := 0) hx hb dX4_bookOf_127 (by decide) ?_
                    refine k_eq (y := bI (ltM σ ar i b)) (by simp [bI, c12_24, bc12_24, c61_34, c78_35, bc78_35, c95_36, c120_39, bc120_39, ltM]) ?_
                    exact J128 ls (lv_sub hl [0, 1, 2, 3, 4, 5, 6] rfl)
                  · have bc120_39 := nle_lt c120_39
                    refine lv_iconst (v := 1) hx hb dX4_bookOf_123 (by decide) ?_
                    refine lv_goto (tgt := 128) hx hb dX4_bookOf_124 (by decide) ?_
                    refine k_eq (y := bI (ltM σ ar i b)) (by simp [bI, c12_24, bc12_24, c61_34, c78_35, bc78_35, c95_36, c120_39, bc120_39, ltM]) ?_
                    exact J128 ls (lv_sub hl [0, 1, 2, 3, 4, 5, 6] rfl)
          refine lv_aload_n hx hb dX4_bookOf_15 rfl (lv_at hl 0 rfl) ?_
          refine k_get S hX.2 hX.1 0 (C := RX4) (T := TX4) (N := 20) rfl rfl 10 (by decide) inX4 m_585 rfl dX4_bookOf_16 ?_
          refine lv_iload hx hb dX4_bookOf_19 (lv_at hl 5 rfl) ?_
          refine k_ild S hX.2 hX.1 8 (i := i) rfl (by omega) (by decide) dX4_bookOf_21 ?_
          refine lv_iload_n hx hb dX4_bookOf_22 rfl (lv_at hl 1 rfl) ?_
          refine lv_icmp_ne (tgt := 55) hx hb dX4_bookOf_23 (by decide) (fun c23_40 => ?_) (fun c23_40 => ?_)
          · have bc23_40 := c23_40
            refine lv_iconst (v := 0) hx hb dX4_bookOf_55 (by decide) ?_
            refine k_eq (y := bI (isM σ pl ar mi i)) (by simp [bI, c12_24, bc12_24, c23_40, isM]) ?_
            exact J56 ls (lv_sub hl [0, 1, 2, 3, 4, 5] rfl)
          · have bc23_40 := c23_40
            refine lv_aload_n hx hb dX4_bookOf_26 rfl (lv_at hl 0 rfl) ?_
            refine k_get S hX.2 hX.1 0 (C := RX4) (T := TX4) (N := 20) rfl rfl 14 (by decide) inX4 m_589 rfl dX4_bookOf_27 ?_
            refine lv_iload hx hb dX4_bookOf_30 (lv_at hl 5 rfl) ?_
            refine lv_iload_n hx hb dX4_bookOf_32 rfl (lv_at hl 2 rfl) ?_
            refine q_i (r_S S ⟨m_686, m_687, m_40, m_688⟩ ⟨rfl, by decide, by decide, by decide +kernel⟩ (c4_at l i ar) ⟨rfl, rfl, Nat.le_of_ble_eq_true rfl, Nat.le_of_ble_eq_true rfl⟩ (ps bl_GL (bG hX.2.2)) (n := 2) (As := [.int (nI i), .int (nI ar)]) (rest := [.ref (ad 12)]) rfl hl.1 rfl (Nat.le_of_ble_eq_true rfl) ⟨Nat.le_of_ble_eq_true rfl, Nat.le_of_ble_eq_true rfl⟩ dX4_bookOf_33) (fun r41 (e41 : r41 = nI (i * 5 + ar)) => ?_)
            subst e41
            refine k_ild S hX.2 hX.1 12 (i := (i * 5 + ar)) rfl (by omega) (by decide) dX4_bookOf_36 ?_
            refine lv_if_le (tgt := 55) hx hb dX4_bookOf_37 (by decide) (fun c37_42 => ?_) (fun c37_42 => ?_)
            · have bc37_42 := le_nlt c37_42
              refine lv_iconst (v := 0) hx hb dX4_bookOf_55 (by decide) ?_
              refine k_eq (y := bI (isM σ pl ar mi i)) (by simp [bI, c12_24, bc12_24, c23_40, c37_42, bc37_42, isM]) ?_
              exact J56 ls (lv_sub hl [0, 1, 2, 3, 4, 5] rfl)
            · have bc37_42 := nle_lt c37_42
              refine lv_aload_n hx hb dX4_bookOf_40 rfl (lv_at hl 0 rfl) ?_
              refine k_get S hX.2 hX.1 0 (C := RX4) (T := TX4) (N := 20) rfl rfl 11 (by decide) inX4 m_586 rfl dX4_bookOf_41 ?_
              refine lv_iload hx hb dX4_bookOf_44 (lv_at hl 5 rfl) ?_
              refine k_ild S hX.2 hX.1 9 (i := i) rfl (by omega) (by decide) dX4_bookOf_46 ?_
              refine lv_iload_n hx hb dX4_bookOf_47 rfl (lv_at hl 3 rfl) ?_
              refine lv_icmp_gt (tgt := 55) hx hb dX4_bookOf_48 (by decide) (fun c48_43 => ?_) (fun c48_43 => ?_)
              · have bc48_43 := lt_nle c48_43
                refine lv_iconst (v := 0) hx hb dX4_bookOf_55 (by decide) ?_
                refine k_eq (y := bI (isM σ pl ar mi i)) (by simp [bI, c12_24, bc12_24, c23_40, c37_42, bc37_42, c48_43, bc48_43, isM]) ?_
                exact J56 ls (lv_sub hl [0, 1, 2, 3, 4, 5] rfl)
              · have bc48_43 := nlt_le c48_43
                refine lv_iconst (v := 1) hx hb dX4_bookOf_51 (by decide) ?_
                refine lv_goto (tgt := 56) hx hb dX4_bookOf_52 (by decide) ?_
                refine k_eq (y := bI (isM σ pl ar mi i)) (by simp [bI, c12_24, bc12_24, c23_40, c37_42, bc37_42, c48_43, bc48_43, isM]) ?_
                exact J56 ls (lv_sub hl [0, 1, 2, 3, 4, 5] rfl)
  refine lv_iconst (v := (-1)) hx hb dX4_bookOf_0 (by decide) ?_
  refine lv_istore (lv' := [(4, .int (-1)), (0, .ref (ad 0)), (1, .int pl), (2, .int (nI ar)), (3, .int mi)]) hx hb dX4_bookOf_1 hl (by decide) rfl (fun ls hl => ?_)
  refine lv_iconst (v := 0) hx hb dX4_bookOf_3 (by decide) ?_
  refine lv_istore (lv' := [(5, .int 0), (4, .int (-1)), (0, .ref (ad 0)), (1, .int pl), (2, .int (nI ar)), (3, .int mi)]) hx hb dX4_bookOf_4 hl (by decide) rfl (fun ls hl => ?_)
  exact L6 (ns + 1) 0 (Nat.zero_le _) (by omega) ls (lv_sub hl [2, 3, 4, 5, 1, 0] rfl)

set_option maxHeartbeats 4000000 in
set_option maxRecDepth 100000 in
theorem c4_agrees (l : Launch) (G : kG) (ad : Nat → Nat) (σ : kS) (sh ar : Nat) (hsh : sh < 40) (har : ar < 5) : Met l yX4_agrees [.code yX4_agrees cX4_agrees 3 (some .boolean)] ({ frames := 2, cells := 0, slots := 0, locals := 66 }) (va_Pc [.ref (ad 0), .int (nI sh), .int (nI ar)] (fun U => PM G ad σ U U.heap)) (vp_Si (fun r => r = bI (grM σ (sh * 5 + ar)))) 0 0 NF := by
  refine k_of (by decide) (Nat.le_of_ble_eq_true rfl) (fun U h => h.2.2) ?_
  intro p e s m below meth c ls S hr hlocks hmn hB hl
  have hx := S.1
  have hb := S.2.1
  have hX : PM G ad σ s s.heap := hB
  have hl : lv_has ls 3 [(0, .ref (ad 0)), (1, .int (nI sh)), (2, .int (nI ar))] := hl
  refine lv_aload_n hx hb dX4_agrees_0 rfl (lv_at hl 0 rfl) ?_
  refine lv_iload_n hx hb dX4_agrees_1 rfl (lv_at hl 1 rfl) ?_
  refine lv_iload_n hx hb dX4_agrees_2 rfl (lv_at hl 2 rfl) ?_
  refine q_i (r_S S ⟨m_686, m_687, m_40, m_688⟩ ⟨rfl, by decide, by decide, by decide +kernel⟩ (c4_at l sh ar) ⟨rfl, rfl, Nat.le_of_ble_eq_true rfl, Nat.le_of_ble_eq_true rfl⟩ (ps bl_GL (bG hX.2.2)) (n := 2) (As := [.int (nI sh), .int (nI ar)]) (rest := [.ref (ad 0)]) rfl hl.1 rfl (Nat.le_of_ble_eq_true rfl) ⟨Nat.le_of_ble_eq_true rfl, Nat.le_of_ble_eq_true rfl⟩ dX4_agrees_3) (fun r1 (e1 : r1 = nI (sh * 5 + ar)) => ?_)
  subst e1
  refine q_i (r_V S ⟨m_693, m_695, m_26, m_40, m_696⟩ ⟨rfl, by decide, by decide, by decide +kernel⟩ (c4_agree l G ad σ (sh * 5 + ar) (by omega)) ⟨rfl, rfl, Nat.le_of_ble_eq_true rfl, Nat.le_of_ble_eq_true rfl⟩ (pv_M hX bl_PM (bM hX)) (n := 1) (As := [.int (nI (sh * 5 + ar))]) (rest := []) rfl hl.1 rfl (Nat.le_of_ble_eq_true rfl) ⟨Nat.le_of_ble_eq_true rfl, Nat.le_of_ble_eq_true rfl⟩ dX4_agrees_6) (fun r2 (e2 : r2 = agM σ (sh * 5 + ar)) => ?_)
  subst e2
  refine lv_iconst (v := (-1)) hx hb dX4_agrees_9 (by decide) ?_
  refine lv_icmp_eq (tgt := 17) hx hb dX4_agrees_10 (by decide) (fun c10_3 => ?_) (fun c10_3 => ?_)
  · have bc10_3 := c10_3
    refine lv_iconst (v := 0) hx hb dX4_agrees_17 (by decide) ?_
    exact W.zret (v := 0) (ty := .boolean) hx hb hr (by first | rfl | exact bI_nar _) (fun t ht hW => ⟨_, rfl, (by simp [grM, bI, c10_3]), ht⟩) (fun q h => by cases h) dX4_agrees_18
  · have bc10_3 := c10_3
    refine lv_iconst (v := 1) hx hb dX4_agrees_13 (by decide) ?_
    refine lv_goto (tgt := 18) hx hb dX4_agrees_14 (by decide) ?_
    exact W.zret (v := 1) (ty := .boolean) hx hb hr (by first | rfl | exact bI_nar _) (fun t ht hW => ⟨_, rfl, (by simp [grM, bI, c10_3]), ht⟩) (fun q h => by cases h) dX4_agrees_18

set_option maxHeartbeats 4000000 in
set_option maxRecDepth 100000 in
theorem c4_gapOf (l : Launch) (G : kG) (ad : Nat → Nat) (σ : kS) (nm ns : Nat) (sh ar : Nat) (hns : σ 18 0 = nI ns) (hns4 : ns ≤ 40) (hnm : σ 17 0 = nI nm) (hnm2 : nm ≤ 200) (hsh : sh < ns) (har : ar < 5) : Met l yX4_gapOf [.code yX4_gapOf cX4_gapOf 4 (some .int)] ({ frames := 3, cells := 0, slots := 0, locals := 94 }) (va_Pc [.ref (ad 0), .int (nI sh), .int (nI ar)] (fun U => PM G ad σ U U.heap)) (vp_Si (fun r => r = gpM σ nm ns sh ar)) 0 0 NF := by
  refine k_of (by decide) (Nat.le_of_ble_eq_true rfl) (fun U h => h.2.2) ?_
  intro p e s m below meth c ls S hr hlocks hmn hB hl
  have hx := S.1
  have hb := S.2.1
  have hX : PM G ad σ s s.heap := hB
  have hl : lv_has ls 4 [(0, .ref (ad 0)), (1, .int (nI sh)), (2, .int (nI ar))] := hl
  refine lv_iload_n hx hb dX4_gapOf_0 rfl (lv_at hl 1 rfl) ?_
  refine lv_iload_n hx hb dX4_gapOf_1 rfl (lv_at hl 2 rfl) ?_
  refine q_i (r_S S ⟨m_686, m_687, m_40, m_688⟩ ⟨rfl, by decide, by decide, by decide +kernel⟩ (c4_at l sh ar) ⟨rfl, rfl, Nat.le_of_ble_eq_true rfl, Nat.le_of_ble_eq_true rfl⟩ (ps bl_GL (bG hX.2.2)) (n := 2) (As := [.int (nI sh), .int (nI ar)]) (rest := []) rfl hl.1 rfl (Nat.le_of_ble_eq_true rfl) ⟨Nat.le_of_ble_eq_true rfl, Nat.le_of_ble_eq_true rfl⟩ dX4_gapOf_2) (fun r1 (e1 : r1 = nI (sh * 5 + ar)) => ?_)
  subst e1
  refine lv_istore_n (lv' := [(3, .int (nI (sh * 5 + ar))), (0, .ref (ad 0)), (1, .int (nI sh)), (2, .int (nI ar))]) hx hb dX4_gapOf_5 rfl hl (by decide) rfl (fun ls hl => ?_)
  refine lv_aload_n hx hb dX4_gapOf_6 rfl (lv_at hl 1 rfl) ?_
  refine k_get S hX.2 hX.1 0 (C := RX4) (T := TX4) (N := 20) rfl rfl 14 (by decide) inX4 m_589 rfl dX4_gapOf_7 ?_
  refine lv_iload_n hx hb dX4_gapOf_10 rfl (lv_at hl 0 rfl) ?_
  refine k_ild S hX.2 hX.1 12 (i := (sh * 5 + ar)) rfl (by omega) (by decide) dX4_gapOf_11 ?_
  refine lv_if_le (tgt := 24) hx hb dX4_gapOf_12 (by decide) (fun c12_2 => ?_) (fun c12_2 => ?_)
  · have bc12_2 := le_nlt c12_2
    refine lv_aload_n hx hb dX4_gapOf_24 rfl (lv_at hl 1 rfl) ?_
    refine lv_iload_n hx hb dX4_gapOf_25 rfl (lv_at hl 0 rfl) ?_
    refine q_i (r_V S ⟨m_693, m_695, m_26, m_40, m_696⟩ ⟨rfl, by decide, by decide, by decide +kernel⟩ (c4_agree l G ad σ (sh * 5 + ar) (by omega)) ⟨rfl, rfl, Nat.le_of_ble_eq_true rfl, Nat.le_of_ble_eq_true rfl⟩ (pv_M hX bl_PM (bM hX)) (n := 1) (As := [.int (nI (sh * 5 + ar))]) (rest := []) rfl hl.1 rfl (Nat.le_of_ble_eq_true rfl) ⟨Nat.le_of_ble_eq_true rfl, Nat.le_of_ble_eq_true rfl⟩ dX4_gapOf_26) (fun r3 (e3 : r3 = agM σ (sh * 5 + ar)) => ?_)
    subst e3
    refine lv_aload_n hx hb dX4_gapOf_29 rfl (lv_at hl 1 rfl) ?_
    refine lv_aload_n hx hb dX4_gapOf_30 rfl (lv_at hl 1 rfl) ?_
    refine k_get S hX.2 hX.1 0 (C := RX4) (T := TX4) (N := 20) rfl rfl 10 (by decide) inX4 m_585 rfl dX4_gapOf_31 ?_
    refine lv_iload_n hx hb dX4_gapOf_34 rfl (lv_at hl 2 rfl) ?_
    refine k_ild S hX.2 hX.1 8 (i := sh) rfl (by omega) (by decide) dX4_gapOf_35 ?_
    refine lv_iload_n hx hb dX4_gapOf_36 rfl (lv_at hl 3 rfl) ?_
    refine lv_aload_n hx hb dX4_gapOf_37 rfl (lv_at hl 1 rfl) ?_
    refine k_get S hX.2 hX.1 0 (C := RX4) (T := TX4) (N := 20) rfl rfl 11 (by decide) inX4 m_586 rfl dX4_gapOf_38 ?_
    refine lv_iload_n hx hb dX4_gapOf_41 rfl (lv_at hl 2 rfl) ?_
    refine k_ild S hX.2 hX.1 9 (i := sh) rfl (by omega) (by decide) dX4_gapOf_42 ?_
    refine q_i (r_V S ⟨m_714, m_716, m_29, m_40, m_717⟩ ⟨rfl, by decide, by decide, by decide +kernel⟩ (c4_bookOf l G ad σ nm ns (σ 7 sh) ar (σ 8 sh) hns hns4 hnm hnm2 (by omega)) ⟨rfl, rfl, Nat.le_of_ble_eq_true rfl, Nat.le_of_ble_eq_true rfl⟩ (pv_M hX bl_PM (bM hX)) (n := 3) (As := [.int (σ 7 sh), .int (nI ar), .int (σ 8 sh)]) (rest := [.int (agM σ (sh * 5 + ar))]) rfl hl.1 rfl (Nat.le_of_ble_eq_true rfl) ⟨Nat.le_of_ble_eq_true rfl, Nat.le_of_ble_eq_true rfl⟩ dX4_gapOf_43) (fun r4 (e4 : r4 = boM σ nm ns (σ 7 sh) ar (σ 8 sh)) => ?_)
    subst e4
    refine lv_isub hx hb dX4_gapOf_46 ?_
    exact W.iret (v := (agM σ (sh * 5 + ar)) - (boM σ nm ns (σ 7 sh) ar (σ 8 sh))) hx hb hr (fun t ht hW => ⟨_, rfl, (by simp [gpM, c12_2, bc12_2]), ht⟩) (fun q h => by cases h) dX4_gapOf_47
  · have bc12_2 := nle_lt c12_2
    refine lv_aload_n hx hb dX4_gapOf_15 rfl (lv_at hl 1 rfl) ?_
    refine k_get S hX.2 hX.1 0 (C := RX4) (T := TX4) (N := 20) rfl rfl 15 (by decide) inX4 m_590 rfl dX4_gapOf_16 ?_
    refine lv_iload_n hx hb dX4_gapOf_19 rfl (lv_at hl 0 rfl) ?_
    refine k_ild S hX.2 hX.1 13 (i := (sh * 5 + ar)) rfl (by omega) (by decide) dX4_gapOf_20 ?_
    refine lv_goto (tgt := 47) hx hb dX4_gapOf_21 (by decide) ?_
    exact W.iret (v := σ 15 (sh * 5 + ar)) hx hb hr (fun t ht hW => ⟨_, rfl, (by simp [gpM, c12_2, bc12_2]), ht⟩) (fun q h => by cases h) dX4_gapOf_47

set_option maxHeartbeats 4000000 in
set_option maxRecDepth 100000 in
theorem c4_canSettle (l : Launch) (G : kG) (ad : Nat → Nat) (σ : kS) (nm ns : Nat) (sh ot ar : Nat) (hns : σ 18 0 = nI ns) (hns4 : ns ≤ 40) (hnm : σ 17 0 = nI nm) (hnm2 : nm ≤ 200) (hsh : sh < ns) (hot : ot < ns) (har : ar < 5) : Met l yX4_canSettle [.code yX4_canSettle cX4_canSettle 5 (some .boolean)] ({ frames := 4, cells := 0, slots := 0, locals := 117 }) (va_Pc [.ref (ad 0), .int (nI sh), .int (nI ot), .int (nI ar)] (fun U => PM G ad σ U U.heap)) (vp_Si (fun r => r = bI (ctM σ nm ns sh ot ar))) 0 0 NF := by
  refine k_of (by decide) (Nat.le_of_ble_eq_true rfl) (fun U h => h.2.2) ?_
  intro p e s m below meth c ls S hr hlocks hmn hB hl
  have hx := S.1
  have hb := S.2.1
  have hX : PM G ad σ s s.heap := hB
  have hl : lv_has ls 5 [(0, .ref (ad 0)), (1, .int (nI sh)), (2, .int (nI ot)), (3, .int (nI ar))] := hl
  refine lv_aload_n hx hb dX4_canSettle_0 rfl (lv_at hl 0 rfl) ?_
  refine k_get S hX.2 hX.1 0 (C := RX4) (T := TX4) (N := 20) rfl rfl 12 (by decide) inX4 m_587 rfl dX4_canSettle_1 ?_
  refine lv_iload_n hx hb dX4_canSettle_4 rfl (lv_at hl 1 rfl) ?_
  refine k_ild S hX.2 hX.1 10 (i := sh) rfl (by omega) (by decide) dX4_canSettle_5 ?_
  refine lv_iconst (v := 1) hx hb dX4_canSettle_6 (by decide) ?_
  refine lv_icmp_ne (tgt := 39) hx hb dX4_canSettle_7 (by decide) (fun c7_1 => ?_) (fun c7_1 => ?_)
  · have bc7_1 := c7_1
    refine lv_iconst (v := 0) hx hb dX4_canSettle_39 (by decide) ?_
    refine lv_istore (lv' := [(4, .int 0), (0, .ref (ad 0)), (1, .int (nI sh)), (2, .int (nI ot)), (3, .int (nI ar))]) hx hb dX4_canSettle_40 hl (by decide) rfl (fun ls hl => ?_)
    refine lv_iload hx hb dX4_canSettle_42 (lv_at hl 0 rfl) ?_
    refine lv_if_eq (tgt := 77) hx hb dX4_canSettle_44 (by decide) (fun c44_2 => ?_) (fun c44_2 => ?_)
    · have bc44_2 := c44_2
      refine lv_iconst (v := 0) hx hb dX4_canSettle_77 (by decide) ?_
      refine lv_istore (lv' := [(4, .int 0), (0, .ref (ad 0)), (1, .int (nI sh)), (2, .int (nI ot)), (3, .int (nI ar))]) hx hb dX4_canSettle_78 hl (by decide) rfl (fun ls hl => ?_)
      refine lv_iload hx hb dX4_canSettle_80 (lv_at hl 0 rfl) ?_
      refine lv_if_eq (tgt := 114) hx hb dX4_canSettle_82 (by decide) (fun c82_3 => ?_) (fun c82_3 => ?_)
      · have bc82_3 := c82_3
        refine lv_iconst (v := 0) hx hb dX4_canSettle_114 (by decide) ?_
        exact W.zret (v := 0) (ty := .boolean) hx hb hr (by first | rfl | exact bI_nar _) (fun t ht hW => ⟨_, rfl, (by simp [ctM, bI, c7_1]), ht⟩) (fun q h => by cases h) dX4_canSettle_115
      · exact absurd c82_3 (by decide)
    · exact absurd c44_2 (by decide)
  · have bc7_1 := c7_1
    refine lv_aload_n hx hb dX4_canSettle_10 rfl (lv_at hl 0 rfl) ?_
    refine k_get S hX.2 hX.1 0 (C := RX4) (T := TX4) (N := 20) rfl rfl 12 (by decide) inX4 m_587 rfl dX4_canSettle_11 ?_
    refine lv_iload_n hx hb dX4_canSettle_14 rfl (lv_at hl 2 rfl) ?_
    refine k_ild S hX.2 hX.1 10 (i := ot) rfl (by omega) (by decide) dX4_canSettle_15 ?_
    refine lv_iconst (v := 1) hx hb dX4_canSettle_16 (by decide) ?_
    refine lv_icmp_ne (tgt := 39) hx hb dX4_canSettle_17 (by decide) (fun c17_4 => ?_) (fun c17_4 => ?_)
    · have bc17_4 := c17_4
      refine lv_iconst (v := 0) hx hb dX4_canSettle_39 (by decide) ?_
      refine lv_istore (lv' := [(4, .int 0), (0, .ref (ad 0)), (1, .int (nI sh)), (2, .int (nI ot)), (3, .int (nI ar))]) hx hb dX4_canSettle_40 hl (by decide) rfl (fun ls hl => ?_)
      refine lv_iload hx hb dX4_canSettle_42 (lv_at hl 0 rfl) ?_
      refine lv_if_eq (tgt := 77) hx hb dX4_canSettle_44 (by decide) (fun c44_5 => ?_) (fun c44_5 => ?_)
      · have bc44_5 := c44_5
        refine lv_iconst (v := 0) hx hb dX4_canSettle_77 (by decide) ?_
        refine lv_istore (lv' := [(4, .int 0), (0, .ref (ad 0)), (1, .int (nI sh)), (2, .int (nI ot)), (3, .int (nI ar))]) hx hb dX4_canSettle_78 hl (by decide) rfl (fun ls hl => ?_)
        refine lv_iload hx hb dX4_canSettle_80 (lv_at hl 0 rfl) ?_
        refine lv_if_eq (tgt := 114) hx hb dX4_canSettle_82 (by decide) (fun c82_6 => ?_) (fun c82_6 => ?_)
        · have bc82_6 := c82_6
          refine lv_iconst (v := 0) hx hb dX4_canSettle_114 (by decide) ?_
          exact W.zret (v := 0) (ty := .boolean) hx hb hr (by first | rfl | exact bI_nar _) (fun t ht hW => ⟨_, rfl, (by simp [ctM, bI, c7_1, c17_4]), ht⟩) (fun q h => by cases h) dX4_canSettle_115
        · exact absurd c82_6 (by decide)
      · exact absurd c44_5 (by decide)
    · have bc17_4 := c17_4
      refine lv_aload_n hx hb dX4_canSettle_20 rfl (lv_at hl 0 rfl) ?_
      refine k_get S hX.2 hX.1 0 (C := RX4) (T := TX4) (N := 20) rfl rfl 10 (by decide) inX4 m_585 rfl dX4_canSettle_21 ?_
      refine lv_iload_n hx hb dX4_canSettle_24 rfl (lv_at hl 1 rfl) ?_
      refine k_ild S hX.2 hX.1 8 (i := sh) rfl (by omega) (by decide) dX4_canSettle_25 ?_
      refine lv_aload_n hx hb dX4_canSettle_26 rfl (lv_at hl 0 rfl) ?_
      refine k_get S hX.2 hX.1 0 (C := RX4) (T := TX4) (N := 20) rfl rfl 10 (by decide) inX4 m_585 rfl dX4_canSettle_27 ?_
      refine lv_iload_n hx hb dX4_canSettle_30 rfl (lv_at hl 2 rfl) ?_
      refine k_ild S hX.2 hX.1 8 (i := ot) rfl (by omega) (by decide) dX4_canSettle_31 ?_
      refine lv_icmp_eq (tgt := 39) hx hb dX4_canSettle_32 (by decide) (fun c32_7 => ?_) (fun c32_7 => ?_)
      · have bc32_7 := c32_7
        refine lv_iconst (v := 0) hx hb dX4_canSettle_39 (by decide) ?_
        refine lv_istore (lv' := [(4, .int 0), (0, .ref (ad 0)), (1, .int (nI sh)), (2, .int (nI ot)), (3, .int (nI ar))]) hx hb dX4_canSettle_40 hl (by decide) rfl (fun ls hl => ?_)
        refine lv_iload hx hb dX4_canSettle_42 (lv_at hl 0 rfl) ?_
        refine lv_if_eq (tgt := 77) hx hb dX4_canSettle_44 (by decide) (fun c44_8 => ?_) (fun c44_8 => ?_)
        · have bc44_8 := c44_8
          refine lv_iconst (v := 0) hx hb dX4_canSettle_77 (by decide) ?_
          refine lv_istore (lv' := [(4, .int 0), (0, .ref (ad 0)), (1, .int (nI sh)), (2, .int (nI ot)), (3, .int (nI ar))]) hx hb dX4_canSettle_78 hl (by decide) rfl (fun ls hl => ?_)
          refine lv_iload hx hb dX4_canSettle_80 (lv_at hl 0 rfl) ?_
          refine lv_if_eq (tgt := 114) hx hb dX4_canSettle_82 (by decide) (fun c82_9 => ?_) (fun c82_9 => ?_)
          · have bc82_9 := c82_9
            refine lv_iconst (v := 0) hx hb dX4_canSettle_114 (by decide) ?_
            exact W.zret (v := 0) (ty := .boolean) hx hb hr (by first | rfl | exact bI_nar _) (fun t ht hW => ⟨_, rfl, (by simp [ctM, bI, c7_1, c17_4, c32_7]), ht⟩) (fun q h => by cases h) dX4_canSettle_115
          · exact absurd c82_9 (by decide)
        · exact absurd c44_8 (by decide)
      · have bc32_7 := c32_7
        refine lv_iconst (v := 1) hx hb dX4_canSettle_35 (by decide) ?_
        refine lv_goto (tgt := 40) hx hb dX4_canSettle_36 (by decide) ?_
        refine lv_istore (lv' := [(4, .int 1), (0, .ref (ad 0)), (1, .int (nI sh)), (2, .int (nI ot)), (3, .int (nI ar))]) hx hb dX4_canSettle_40 hl (by decide) rfl (fun ls hl => ?_)
        refine lv_iload hx hb dX4_canSettle_42 (lv_at hl 0 rfl) ?_
        refine lv_if_eq (tgt := 77) hx hb dX4_canSettle_44 (by decide) (fun c44_10 => ?_) (fun c44_10 => ?_)
        · exact absurd c44_10 (by decide)
        · have bc44_10 := c44_10
          refine lv_aload_n hx hb dX4_canSettle_47 rfl (lv_at hl 1 rfl) ?_
          refine k_get S hX.2 hX.1 0 (C := RX4) (T := TX4) (N := 20) rfl rfl 14 (by decide) inX4 m_589 rfl dX4_canSettle_48 ?_
          refine lv_iload_n hx hb dX4_canSettle_51 rfl (lv_at hl 2 rfl) ?_
          refine lv_iload_n hx hb dX4_canSettle_52 rfl (lv_at hl 4 rfl) ?_
          refine q_i (r_S S ⟨m_686, m_687, m_40, m_688⟩ ⟨rfl, by decide, by decide, by decide +kernel⟩ (c4_at l sh ar) ⟨rfl, rfl, Nat.le_of_ble_eq_true rfl, Nat.le_of_ble_eq_true rfl⟩ (ps bl_GL (bG hX.2.2)) (n := 2) (As := [.int (nI sh), .int (nI ar)]) (rest := [.ref (ad 12)]) rfl hl.1 rfl (Nat.le_of_ble_eq_true rfl) ⟨Nat.le_of_ble_eq_true rfl, Nat.le_of_ble_eq_true rfl⟩ dX4_canSettle_53) (fun r11 (e11 : r11 = nI (sh * 5 + ar)) => ?_)
          subst e11
          refine k_ild S hX.2 hX.1 12 (i := (sh * 5 + ar)) rfl (by omega) (by decide) dX4_canSettle_56 ?_
          refine lv_if_ne (tgt := 77) hx hb dX4_canSettle_57 (by decide) (fun c57_12 => ?_) (fun c57_12 => ?_)
          · have bc57_12 := c57_12
            refine lv_iconst (v := 0) hx hb dX4_canSettle_77 (by decide) ?_
            refine lv_istore (lv' := [(4, .int 0), (0, .ref (ad 0)), (1, .int (nI sh)), (2, .int (nI ot)), (3, .int (nI ar))]) hx hb dX4_canSettle_78 hl (by decide) rfl (fun ls hl => ?_)
            refine lv_iload hx hb dX4_canSettle_80 (lv_at hl 0 rfl) ?_
            refine lv_if_eq (tgt := 114) hx hb dX4_canSettle_82 (by decide) (fun c82_13 => ?_) (fun c82_13 => ?_)
            · have bc82_13 := c82_13
              refine lv_iconst (v := 0) hx hb dX4_canSettle_114 (by decide) ?_
              exact W.zret (v := 0) (ty := .boolean) hx hb hr (by first | rfl | exact bI_nar _) (fun t ht hW => ⟨_, rfl, (by simp [ctM, bI, c7_1, c17_4, c32_7, c57_12]), ht⟩) (fun q h => by cases h) dX4_canSettle_115
            · exact absurd c82_13 (by decide)
          · have bc57_12 := c57_12
            refine lv_aload_n hx hb dX4_canSettle_60 rfl (lv_at hl 1 rfl) ?_
            refine k_get S hX.2 hX.1 0 (C := RX4) (T := TX4) (N := 20) rfl rfl 14 (by decide) inX4 m_589 rfl dX4_canSettle_61 ?_
            refine lv_iload_n hx hb dX4_canSettle_64 rfl (lv_at hl 3 rfl) ?_
            refine lv_iload_n hx hb dX4_canSettle_65 rfl (lv_at hl 4 rfl) ?_
            refine q_i (r_S S ⟨m_686, m_687, m_40, m_688⟩ ⟨rfl, by decide, by decide, by decide +kernel⟩ (c4_at l ot ar) ⟨rfl, rfl, Nat.le_of_ble_eq_true rfl, Nat.le_of_ble_eq_true rfl⟩ (ps bl_GL (bG hX.2.2)) (n := 2) (As := [.int (nI ot), .int (nI ar)]) (rest := [.ref (ad 12)]) rfl hl.1 rfl (Nat.le_of_ble_eq_true rfl) ⟨Nat.le_of_ble_eq_true rfl, Nat.le_of_ble_eq_true rfl⟩ dX4_canSettle_66) (fun r14 (e14 : r14 = nI (ot * 5 + ar)) => ?_)
            subst e14
            refine k_ild S hX.2 hX.1 12 (i := (ot * 5 + ar)) rfl (by omega) (by decide) dX4_canSettle_69 ?_
            refine lv_if_ne (tgt := 77) hx hb dX4_canSettle_70 (by decide) (fun c70_15 => ?_) (fun c70_15 => ?_)
            · have bc70_15 := c70_15
              refine lv_iconst (v := 0) hx hb dX4_canSettle_77 (by decide) ?_
              refine lv_istore (lv' := [(4, .int 0), (0, .ref (ad 0)), (1, .int (nI sh)), (2, .int (nI ot)), (3, .int (nI ar))]) hx hb dX4_canSettle_78 hl (by decide) rfl (fun ls hl => ?_)
              refine lv_iload hx hb dX4_canSettle_80 (lv_at hl 0 rfl) ?_
              refine lv_if_eq (tgt := 114) hx hb dX4_canSettle_82 (by decide) (fun c82_16 => ?_) (fun c82_16 => ?_)
              · have bc82_16 := c82_16
                refine lv_iconst (v := 0) hx hb dX4_canSettle_114 (by decide) ?_
                exact W.zret (v := 0) (ty := .boolean) hx hb hr (by first | rfl | exact bI_nar _) (fun t ht hW => ⟨_, rfl, (by simp [ctM, bI, c7_1, c17_4, c32_7, c57_12, c70_15]), ht⟩) (fun q h => by cases h) dX4_canSettle_115
              · exact absurd c82_16 (by decide)
            · have bc70_15 := c70_15
              refine lv_iconst (v := 1) hx hb dX4_canSettle_73 (by decide) ?_
              refine lv_goto (tgt := 78) hx hb dX4_canSettle_74 (by decide) ?_
              refine lv_istore (lv' := [(4, .int 1), (0, .ref (ad 0)), (1, .int (nI sh)), (2, .int (nI ot)), (3, .int (nI ar))]) hx hb dX4_canSettle_78 hl (by decide) rfl (fun ls hl => ?_)
              refine lv_iload hx hb dX4_canSettle_80 (lv_at hl 0 rfl) ?_
              refine lv_if_eq (tgt := 114) hx hb dX4_canSettle_82 (by decide) (fun c82_17 => ?_) (fun c82_17 => ?_)
              · exact absurd c82_17 (by decide)
              · have bc82_17 := c82_17
                refine lv_aload_n hx hb dX4_canSettle_85 rfl (lv_at hl 1 rfl) ?_
                refine lv_iload_n hx hb dX4_canSettle_86 rfl (lv_at hl 2 rfl) ?_
                refine lv_iload_n hx hb dX4_canSettle_87 rfl (lv_at hl 4 rfl) ?_
                refine q_i (r_V S ⟨m_710, m_712, m_28, m_40, m_713⟩ ⟨rfl, by decide, by decide, by decide +kernel⟩ (c4_gapOf l G ad σ nm ns sh ar hns hns4 hnm hnm2 (by omega) (by omega)) ⟨rfl, rfl, Nat.le_of_ble_eq_true rfl, Nat.le_of_ble_eq_true rfl⟩ (pv_M hX bl_PM (bM hX)) (n := 2) (As := [.int (nI sh), .int (nI ar)]) (rest := []) rfl hl.1 rfl (Nat.le_of_ble_eq_true rfl) ⟨Nat.le_of_ble_eq_true rfl, Nat.le_of_ble_eq_true rfl⟩ dX4_canSettle_88) (fun r18 (e18 : r18 = gpM σ nm ns sh ar) => ?_)
                subst e18
                refine lv_if_eq (tgt := 114) hx hb dX4_canSettle_91 (by decide) (fun c91_19 => ?_) (fun c91_19 => ?_)
                · have bc91_19 := c91_19
                  refine lv_iconst (v := 0) hx hb dX4_canSettle_114 (by decide) ?_
                  exact W.zret (v := 0) (ty := .boolean) hx hb hr (by first | rfl | exact bI_nar _) (fun t ht hW => ⟨_, rfl, (by simp [ctM, bI, c7_1, c17_4, c32_7, c57_12, c70_15, c91_19]), ht⟩) (fun q h => by cases h) dX4_canSettle_115
                · have bc91_19 := c91_19
                  refine lv_aload_n hx hb dX4_canSettle_94 rfl (lv_at hl 1 rfl) ?_
                  refine lv_iload_n hx hb dX4_canSettle_95 rfl (lv_at hl 2 rfl) ?_
                  refine lv_iload_n hx hb dX4_canSettle_96 rfl (lv_at hl 4 rfl) ?_
                  refine q_i (r_V S ⟨m_710, m_712, m_28, m_40, m_713⟩ ⟨rfl, by decide, by decide, by decide +kernel⟩ (c4_gapOf l G ad σ nm ns sh ar hns hns4 hnm hnm2 (by omega) (by omega)) ⟨rfl, rfl, Nat.le_of_ble_eq_true rfl, Nat.le_of_ble_eq_true rfl⟩ (pv_M hX bl_PM (bM hX)) (n := 2) (As := [.int (nI sh), .int (nI ar)]) (rest := []) rfl hl.1 rfl (Nat.le_of_ble_eq_true rfl) ⟨Nat.le_of_ble_eq_true rfl, Nat.le_of_ble_eq_true rfl⟩ dX4_canSettle_97) (fun r20 (e20 : r20 = gpM σ nm ns sh ar) => ?_)
                  subst e20
                  refine lv_aload_n hx hb dX4_canSettle_100 rfl (lv_at hl 1 rfl) ?_
                  refine lv_iload_n hx hb dX4_canSettle_101 rfl (lv_at hl 3 rfl) ?_
                  refine lv_iload_n hx hb dX4_canSettle_102 rfl (lv_at hl 4 rfl) ?_
                  refine q_i (r_V S ⟨m_710, m_712, m_28, m_40, m_713⟩ ⟨rfl, by decide, by decide, by decide +kernel⟩ (c4_gapOf l G ad σ nm ns ot ar hns hns4 hnm hnm2 (by omega) (by omega)) ⟨rfl, rfl, Nat.le_of_ble_eq_true rfl, Nat.le_of_ble_eq_true rfl⟩ (pv_M hX bl_PM (bM hX)) (n := 2) (As := [.int (nI ot), .int (nI ar)]) (rest := [.int (gpM σ nm ns sh ar)]) rfl hl.1 rfl (Nat.le_of_ble_eq_true rfl) ⟨Nat.le_of_ble_eq_true rfl, Nat.le_of_ble_eq_true rfl⟩ dX4_canSettle_103) (fun r21 (e21 : r21 = gpM σ nm ns ot ar) => ?_)
                  subst e21
                  refine lv_iadd hx hb dX4_canSettle_106 ?_
                  refine lv_if_ne (tgt := 114) hx hb dX4_canSettle_107 (by decide) (fun c107_22 => ?_) (fun c107_22 => ?_)
                  · have bc107_22 := c107_22
                    refine lv_iconst (v := 0) hx hb dX4_canSettle_114 (by decide) ?_
                    exact W.zret (v := 0) (ty := .boolean) hx hb hr (by first | rfl | exact bI_nar _) (fun t ht hW => ⟨_, rfl, (by simp [ctM, bI, c7_1, c17_4, c32_7, c57_12, c70_15, c91_19, c107_22]), ht⟩) (fun q h => by cases h) dX4_canSettle_115
                  · have bc107_22 := c107_22
                    refine lv_iconst (v := 1) hx hb dX4_canSettle_110 (by decide) ?_
                    refine lv_goto (tgt := 115) hx hb dX4_canSettle_111 (by decide) ?_
                    exact W.zret (v := 1) (ty := .boolean) hx hb hr (by first | rfl | exact bI_nar _) (fun t ht hW => ⟨_, rfl, (by simp [ctM, bI, c7_1, c17_4, c32_7, c57_12, c70_15, c91_19, c107_22]), ht⟩) (fun q h => by cases h) dX4_canSettle_115

set_option maxHeartbeats 4000000 in
set_option maxRecDepth 100000 in
theorem c4_worthOf (l : Launch) (G : kG) (ad : Nat → Nat) (σ : kS) (nm ns : Nat) (pl : Int32) (hns : σ 18 0 = nI ns) (hns4 : ns ≤ 40) (hnm : σ 17 0 = nI nm) (hnm2 : nm ≤ 200) : Met l yX4_worthOf [.code yX4_worthOf cX4_worthOf 5 (some .int)] ({ frames := 3, cells := 0, slots := 0, locals := 94 }) (va_Pc [.ref (ad 0), .int pl] (fun U => PM G ad σ U U.heap)) (vp_Si (fun r => r = woM σ nm ns pl 5)) 0 0 NF := by
  refine k_of (by decide) (Nat.le_of_ble_eq_true rfl) (fun U h => h.2.2) ?_
  intro p e s m below meth c ls S hr hlocks hmn hB hl
  have hx := S.1
  have hb := S.2.1
  have hX : PM G ad σ s s.heap := hB
  have hl : lv_has ls 5 [(0, .ref (ad 0)), (1, .int pl)] := hl
  have L4 : ∀ (n i : Nat), i ≤ 5 → 5 + 1 ≤ i + n → ∀ ls, lv_has ls 5 [(0, .ref (ad 0)), (1, .int pl), (2, .int (woM σ nm ns pl i)), (3, .int (nI i))] → W p l e ({ frames := 3, cells := 0, slots := 0, locals := 94 } : Room) s m [.ref (ad 0), .int pl].toArray below meth c s.heap [] 0 0 (MQ below (vp_Si (fun r => r = woM σ nm ns pl 5)) [.ref (ad 0), .int pl].toArray s 0 0 NF) (F0 m 4 ls []) := by
    intro n
    induction n with
    | zero =>
      intro i h1 h2
      omega
    | succ n ihn =>
      intro i hii hini ls hl
      refine lv_iload_n hx hb dX4_worthOf_4 rfl (lv_at hl 3 rfl) ?_
      refine lv_iconst (v := 5) hx hb dX4_worthOf_5 (by decide) ?_
      refine lv_icmp_ge (tgt := 48) hx hb dX4_worthOf_6 (by decide) (fun c6_1 => ?_) (fun c6_1 => ?_)
      · have bc6_1 := le_nlt c6_1
        have hgei : i = 5 := by
          have h9 := c6_1
          rw [show (5 : Int32) = nI 5 from rfl, nI_leI (by omega) (by omega)] at h9
          omega
        refine lv_iload_n hx hb dX4_worthOf_48 rfl (lv_at hl 2 rfl) ?_
        exact W.iret (v := woM σ nm ns pl i) hx hb hr (fun t ht hW => ⟨_, rfl, (by rw [hgei]), ht⟩) (fun q h => by cases h) dX4_worthOf_49
      · have bc6_1 := nle_lt c6_1
        have hlti : i < 5 := by
          have h9 := nle_lt c6_1
          rw [show (5 : Int32) = nI 5 from rfl, nI_ltI (by omega) (by omega)] at h9
          exact h9
        refine lv_aload_n hx hb dX4_worthOf_9 rfl (lv_at hl 0 rfl) ?_
        refine lv_iload_n hx hb dX4_worthOf_10 rfl (lv_at hl 1 rfl) ?_
        refine lv_iload_n hx hb dX4_worthOf_11 rfl (lv_at hl 3 rfl) ?_
        refine lv_aload_n hx hb dX4_worthOf_12 rfl (lv_at hl 0 rfl) ?_
        refine k_get S hX.2 hX.1 0 (C := RX4) (T := TX4) (N := 20) rfl rfl 0 (by decide) inX4 m_575 rfl dX4_worthOf_13 ?_
        refine q_i (r_V S ⟨m_714, m_716, m_29, m_40, m_717⟩ ⟨rfl, by decide, by decide, by decide +kernel⟩ (c4_bookOf l G ad σ nm ns pl i (σ 16 0) hns hns4 hnm hnm2 (by omega)) ⟨rfl, rfl, Nat.le_of_ble_eq_true rfl, Nat.le_of_ble_eq_true rfl⟩ (pv_M hX bl_PM (bM hX)) (n := 3) (As := [.int pl, .int (nI i), .int (σ 16 0)]) (rest := []) rfl hl.1 rfl (Nat.le_of_ble_eq_true rfl) ⟨Nat.le_of_ble_eq_true rfl, Nat.le_of_ble_eq_true rfl⟩ dX4_worthOf_16) (fun r2 (e2 : r2 = boM σ nm ns pl i (σ 16 0)) => ?_)
        subst e2
        refine lv_istore (lv' := [(4, .int (boM σ nm ns pl i (σ 16 0))), (0, .ref (ad 0)), (1, .int pl), (2, .int (woM σ nm ns pl i)), (3, .int (nI i))]) hx hb dX4_worthOf_19 hl (by decide) rfl (fun ls hl => ?_)
        refine lv_iload_n hx hb dX4_worthOf_21 rfl (lv_at hl 3 rfl) ?_
        refine lv_iload hx hb dX4_worthOf_22 (lv_at hl 0 rfl) ?_
        refine lv_if_le (tgt := 39) hx hb dX4_worthOf_24 (by decide) (fun c24_3 => ?_) (fun c24_3 => ?_)
        · have bc24_3 := le_nlt c24_3
          refine lv_iconst (v := 0) hx hb dX4_worthOf_39 (by decide) ?_
          refine lv_iadd hx hb dX4_worthOf_40 ?_
          refine lv_istore_n (lv' := [(2, .int ((woM σ nm ns pl i) + 0)), (4, .int (boM σ nm ns pl i (σ 16 0))), (0, .ref (ad 0)), (1, .int pl), (3, .int (nI i))]) hx hb dX4_worthOf_41 rfl hl (by decide) rfl (fun ls hl => ?_)
          refine lv_iinc (v := nI (i + 1)) (lv' := [(3, .int (nI (i + 1))), (2, .int ((woM σ nm ns pl i) + 0)), (4, .int (boM σ nm ns pl i (σ 16 0))), (0, .ref (ad 0)), (1, .int pl)]) hx hb dX4_worthOf_42 hl (k := 4) rfl (nI_1 i) (by decide) rfl (fun ls hl => ?_)
          refine lv_goto (tgt := 4) hx hb dX4_worthOf_45 (by decide) ?_
          have ev4 : (woM σ nm ns pl i) + 0 = woM σ nm ns pl (i + 1) := by simp [woM, c6_1, bc6_1, c24_3, bc24_3]
          have hl : lv_has ls 5 [(3, .int (nI (i + 1))), (2, .int (woM σ nm ns pl (i + 1))), (4, .int (boM σ nm ns pl i (σ 16 0))), (0, .ref (ad 0)), (1, .int pl)] := by rw [← ev4]; exact hl
          exact ihn (i + 1) hlti (by omega) ls (lv_sub hl [3, 4, 1, 0] rfl)
        · have bc24_3 := nle_lt c24_3
          refine lv_aload_n hx hb dX4_worthOf_27 rfl (lv_at hl 1 rfl) ?_
          refine k_get S hX.2 hX.1 0 (C := RX4) (T := TX4) (N := 20) rfl rfl 1 (by decide) inX4 m_576 rfl dX4_worthOf_28 ?_
          refine lv_iload_n hx hb dX4_worthOf_31 rfl (lv_at hl 4 rfl) ?_
          refine k_ild S hX.2 hX.1 1 (i := i) rfl (by omega) (by decide) dX4_worthOf_32 ?_
          refine lv_iload hx hb dX4_worthOf_33 (lv_at hl 0 rfl) ?_
          refine lv_imul hx hb dX4_worthOf_35 ?_
          refine lv_goto (tgt := 40) hx hb dX4_worthOf_36 (by decide) ?_
          refine lv_iadd hx hb dX4_worthOf_40 ?_
          refine lv_istore_n (lv' := [(2, .int ((woM σ nm ns pl i) + ((σ 0 i) * (boM σ nm ns pl i (σ 16 0))))), (4, .int (boM σ nm ns pl i (σ 16 0))), (0, .ref (ad 0)), (1, .int pl), (3, .int (nI i))]) hx hb dX4_worthOf_41 rfl hl (by decide) rfl (fun ls hl => ?_)
          refine lv_iinc (v := nI (i + 1)) (lv' := [(3, .int (nI (i + 1))), (2, .int ((woM σ nm ns pl i) + ((σ 0 i) * (boM σ nm ns pl i (σ 16 0))))), (4, .int (boM σ nm ns pl i (σ 16 0))), (0, .ref (ad 0)), (1, .int pl)]) hx hb dX4_worthOf_42 hl (k := 4) rfl (nI_1 i) (by decide) rfl (fun ls hl => ?_)
          refine lv_goto (tgt := 4) hx hb dX4_worthOf_45 (by decide) ?_
          have ev5 : (woM σ nm ns pl i) + ((σ 0 i) * (boM σ nm ns pl i (σ 16 0))) = woM σ nm ns pl (i + 1) := by simp [woM, c6_1, bc6_1, c24_3, bc24_3]
          have hl : lv_has ls 5 [(3, .int (nI (i + 1))), (2, .int (woM σ nm ns pl (i + 1))), (4, .int (boM σ nm ns pl i (σ 16 0))), (0, .ref (ad 0)), (1, .int pl)] := by rw [← ev5]; exact hl
          exact ihn (i + 1) hlti (by omega) ls (lv_sub hl [3, 4, 1, 0] rfl)
  refine lv_iconst (v := 0) hx hb dX4_worthOf_0 (by decide) ?_
  refine lv_istore_n (lv' := [(2, .int 0), (0, .ref (ad 0)), (1, .int pl)]) hx hb dX4_worthOf_1 rfl hl (by decide) rfl (fun ls hl => ?_)
  refine lv_iconst (v := 0) hx hb dX4_worthOf_2 (by decide) ?_
  refine lv_istore_n (lv' := [(3, .int 0), (2, .int 0), (0, .ref (ad 0)), (1, .int pl)]) hx hb dX4_worthOf_3 rfl hl (by decide) rfl (fun ls hl => ?_)
  exact L4 (5 + 1) 0 (Nat.zero_le _) (by omega) ls (lv_sub hl [2, 3, 1, 0] rfl)
