set_option maxHeartbeats 4000000 in
set_option maxRecDepth 100000 in
theorem c_isStronger (l : Launch) (G : kG) (ad : Nat → Nat) (σ : kS) (a b ar : Nat) (ha : a < 40) (hb4 : b < 40) (har : ar < 5) : Met l yX3_isStronger [.code yX3_isStronger cX3_isStronger 4 (some .boolean)] ({ frames := 2, cells := 0, slots := 0, locals := 61 }) (va_Pc [.ref (ad 0), .int (nI a), .int (nI b), .int (nI ar)] (fun U => PX G ad σ U U.heap)) (vp_Si (fun r => r = bI (strB σ a b ar))) 0 0 NF := by
  refine k_of (by decide) (Nat.le_of_ble_eq_true rfl) (fun U h => h.2.2) ?_
  intro p e s m below meth c ls S hr hlocks hmn hB hl
  have hx := S.1
  have hb := S.2.1
  have hX : PX G ad σ s s.heap := hB
  have hl : lv_has ls 4 [(0, .ref (ad 0)), (1, .int (nI a)), (2, .int (nI b)), (3, .int (nI ar))] := hl
  refine lv_aload_n hx hb dX3_isStronger_0 rfl (lv_at hl 0 rfl) ?_
  refine k_get S hX.2 hX.1 0 (C := RX3) (T := TX3) (N := 6) rfl rfl 3 (by decide) inX3 m_134 rfl dX3_isStronger_1 ?_
  refine k_getN S hX.2 hX.1 4 (C := RX2) (T := TX2) (N := 4) rfl rfl 1 (by decide) inX2 n_81 rfl dX3_isStronger_4 ?_
  refine lv_iload_n hx hb dX3_isStronger_7 rfl (lv_at hl 1 rfl) ?_
  refine k_ild S hX.2 hX.1 12 (i := a) rfl (by omega) (by decide) dX3_isStronger_8 ?_
  refine lv_aload_n hx hb dX3_isStronger_9 rfl (lv_at hl 0 rfl) ?_
  refine k_get S hX.2 hX.1 0 (C := RX3) (T := TX3) (N := 6) rfl rfl 3 (by decide) inX3 m_134 rfl dX3_isStronger_10 ?_
  refine k_getN S hX.2 hX.1 4 (C := RX2) (T := TX2) (N := 4) rfl rfl 1 (by decide) inX2 n_81 rfl dX3_isStronger_13 ?_
  refine lv_iload_n hx hb dX3_isStronger_16 rfl (lv_at hl 2 rfl) ?_
  refine k_ild S hX.2 hX.1 12 (i := b) rfl (by omega) (by decide) dX3_isStronger_17 ?_
  refine lv_icmp_eq (tgt := 48) hx hb dX3_isStronger_18 (by decide) (fun c18_1 => ?_) (fun c18_1 => ?_)
  · have bc18_1 := c18_1
    refine lv_aload_n hx hb dX3_isStronger_48 rfl (lv_at hl 0 rfl) ?_
    refine k_get S hX.2 hX.1 0 (C := RX3) (T := TX3) (N := 6) rfl rfl 4 (by decide) inX3 m_135 rfl dX3_isStronger_49 ?_
    refine k_getN S hX.2 hX.1 5 (C := RX0) (T := TX0) (N := 7) rfl rfl 4 (by decide) inX0 n_111 rfl dX3_isStronger_52 ?_
    refine lv_iload_n hx hb dX3_isStronger_55 rfl (lv_at hl 1 rfl) ?_
    refine lv_iload_n hx hb dX3_isStronger_56 rfl (lv_at hl 3 rfl) ?_
    refine q_i (r_S S ⟨m_183, m_184, m_23, m_185⟩ ⟨rfl, by decide, by decide, by decide +kernel⟩ (c_lineOf l a ar) ⟨rfl, rfl, Nat.le_of_ble_eq_true rfl, Nat.le_of_ble_eq_true rfl⟩ (ps bl_GL (bG hX.2.2)) (n := 2) (As := [.int (nI a), .int (nI ar)]) (rest := [.ref (ad 18)]) rfl hl.1 rfl (Nat.le_of_ble_eq_true rfl) ⟨Nat.le_of_ble_eq_true rfl, Nat.le_of_ble_eq_true rfl⟩ dX3_isStronger_57) (fun r2 (e2 : r2 = nI (a * 5 + ar)) => ?_)
    subst e2
    refine k_ild S hX.2 hX.1 18 (i := (a * 5 + ar)) rfl (by omega) (by decide) dX3_isStronger_60 ?_
    refine lv_aload_n hx hb dX3_isStronger_61 rfl (lv_at hl 0 rfl) ?_
    refine k_get S hX.2 hX.1 0 (C := RX3) (T := TX3) (N := 6) rfl rfl 4 (by decide) inX3 m_135 rfl dX3_isStronger_62 ?_
    refine k_getN S hX.2 hX.1 5 (C := RX0) (T := TX0) (N := 7) rfl rfl 4 (by decide) inX0 n_111 rfl dX3_isStronger_65 ?_
    refine lv_iload_n hx hb dX3_isStronger_68 rfl (lv_at hl 2 rfl) ?_
    refine lv_iload_n hx hb dX3_isStronger_69 rfl (lv_at hl 3 rfl) ?_
    refine q_i (r_S S ⟨m_183, m_184, m_23, m_185⟩ ⟨rfl, by decide, by decide, by decide +kernel⟩ (c_lineOf l b ar) ⟨rfl, rfl, Nat.le_of_ble_eq_true rfl, Nat.le_of_ble_eq_true rfl⟩ (ps bl_GL (bG hX.2.2)) (n := 2) (As := [.int (nI b), .int (nI ar)]) (rest := [.ref (ad 18), .int (σ 14 (a * 5 + ar))]) rfl hl.1 rfl (Nat.le_of_ble_eq_true rfl) ⟨Nat.le_of_ble_eq_true rfl, Nat.le_of_ble_eq_true rfl⟩ dX3_isStronger_70) (fun r3 (e3 : r3 = nI (b * 5 + ar)) => ?_)
    subst e3
    refine k_ild S hX.2 hX.1 18 (i := (b * 5 + ar)) rfl (by omega) (by decide) dX3_isStronger_73 ?_
    refine lv_icmp_le (tgt := 81) hx hb dX3_isStronger_74 (by decide) (fun c74_4 => ?_) (fun c74_4 => ?_)
    · have bc74_4 := le_nlt c74_4
      refine lv_iconst (v := 0) hx hb dX3_isStronger_81 (by decide) ?_
      exact W.zret (v := 0) (ty := .boolean) hx hb hr (by first | rfl | exact bI_nar _) (fun t ht hW => ⟨_, rfl, (by simp [strB, bI, c18_1, c74_4, bc74_4]), ht⟩) (fun q h => by cases h) dX3_isStronger_82
    · have bc74_4 := nle_lt c74_4
      refine lv_iconst (v := 1) hx hb dX3_isStronger_77 (by decide) ?_
      refine lv_goto (tgt := 82) hx hb dX3_isStronger_78 (by decide) ?_
      exact W.zret (v := 1) (ty := .boolean) hx hb hr (by first | rfl | exact bI_nar _) (fun t ht hW => ⟨_, rfl, (by simp [strB, bI, c18_1, c74_4, bc74_4]), ht⟩) (fun q h => by cases h) dX3_isStronger_82
  · have bc18_1 := c18_1
    refine lv_aload_n hx hb dX3_isStronger_21 rfl (lv_at hl 0 rfl) ?_
    refine k_get S hX.2 hX.1 0 (C := RX3) (T := TX3) (N := 6) rfl rfl 3 (by decide) inX3 m_134 rfl dX3_isStronger_22 ?_
    refine k_getN S hX.2 hX.1 4 (C := RX2) (T := TX2) (N := 4) rfl rfl 1 (by decide) inX2 n_81 rfl dX3_isStronger_25 ?_
    refine lv_iload_n hx hb dX3_isStronger_28 rfl (lv_at hl 1 rfl) ?_
    refine k_ild S hX.2 hX.1 12 (i := a) rfl (by omega) (by decide) dX3_isStronger_29 ?_
    refine lv_aload_n hx hb dX3_isStronger_30 rfl (lv_at hl 0 rfl) ?_
    refine k_get S hX.2 hX.1 0 (C := RX3) (T := TX3) (N := 6) rfl rfl 3 (by decide) inX3 m_134 rfl dX3_isStronger_31 ?_
    refine k_getN S hX.2 hX.1 4 (C := RX2) (T := TX2) (N := 4) rfl rfl 1 (by decide) inX2 n_81 rfl dX3_isStronger_34 ?_
    refine lv_iload_n hx hb dX3_isStronger_37 rfl (lv_at hl 2 rfl) ?_
    refine k_ild S hX.2 hX.1 12 (i := b) rfl (by omega) (by decide) dX3_isStronger_38 ?_
    refine lv_icmp_le (tgt := 46) hx hb dX3_isStronger_39 (by decide) (fun c39_5 => ?_) (fun c39_5 => ?_)
    · have bc39_5 := le_nlt c39_5
      refine lv_iconst (v := 0) hx hb dX3_isStronger_46 (by decide) ?_
      exact W.zret (v := 0) (ty := .boolean) hx hb hr (by first | rfl | exact bI_nar _) (fun t ht hW => ⟨_, rfl, (by simp [strB, bI, c18_1, c39_5, bc39_5]), ht⟩) (fun q h => by cases h) dX3_isStronger_47
    · have bc39_5 := nle_lt c39_5
      refine lv_iconst (v := 1) hx hb dX3_isStronger_42 (by decide) ?_
      refine lv_goto (tgt := 47) hx hb dX3_isStronger_43 (by decide) ?_
      exact W.zret (v := 1) (ty := .boolean) hx hb hr (by first | rfl | exact bI_nar _) (fun t ht hW => ⟨_, rfl, (by simp [strB, bI, c18_1, c39_5, bc39_5]), ht⟩) (fun q h => by cases h) dX3_isStronger_47

set_option maxHeartbeats 4000000 in
set_option maxRecDepth 100000 in
theorem c_signedSheetFor (l : Launch) (G : kG) (ad : Nat → Nat) (σ : kS) (ns : Nat) (pl : Int32) (ar : Nat) (mi : Int32) (hns : σ 18 0 = nI ns) (hns4 : ns ≤ 40) (har : ar < 5) : Met l yX3_signedSheetFor [.code yX3_signedSheetFor cX3_signedSheetFor 6 (some .int)] ({ frames := 3, cells := 0, slots := 0, locals := 84 }) (va_Pc [.ref (ad 0), .int pl, .int (nI ar), .int mi] (fun U => PX G ad σ U U.heap)) (vp_Si (fun r => r = oI (ssO σ pl ar mi ns))) 0 0 NF := by
  refine k_of (by decide) (Nat.le_of_ble_eq_true rfl) (fun U h => h.2.2) ?_
  intro p e s m below meth c ls S hr hlocks hmn hB hl
  have hx := S.1
  have hb := S.2.1
  have hX : PX G ad σ s s.heap := hB
  have hl : lv_has ls 6 [(0, .ref (ad 0)), (1, .int pl), (2, .int (nI ar)), (3, .int mi)] := hl
  have L6 : ∀ (n i : Nat), i ≤ ns → ns + 1 ≤ i + n → ∀ ls, lv_has ls 6 [(0, .ref (ad 0)), (1, .int pl), (2, .int (nI ar)), (3, .int mi), (4, .int (oI (ssO σ pl ar mi i))), (5, .int (nI i))] → W p l e ({ frames := 3, cells := 0, slots := 0, locals := 84 } : Room) s m [.ref (ad 0), .int pl, .int (nI ar), .int mi].toArray below meth c s.heap [] 0 0 (MQ below (vp_Si (fun r => r = oI (ssO σ pl ar mi ns))) [.ref (ad 0), .int pl, .int (nI ar), .int mi].toArray s 0 0 NF) (F0 m 6 ls []) := by
    intro n
    induction n with
    | zero =>
      intro i h1 h2
      omega
    | succ n ih =>
      intro i hi hin ls hl
      obtain ⟨o, ho⟩ : ∃ o, o = ssO σ pl ar mi i := ⟨_, rfl⟩
      rw [← ho] at hl
      rcases o with _ | b
      · have hl : lv_has ls 6 [(0, .ref (ad 0)), (1, .int pl), (2, .int (nI ar)), (3, .int mi), (4, .int (-1)), (5, .int (nI i))] := hl
        refine lv_iload hx hb dX3_signedSheetFor_6 (lv_at hl 5 rfl) ?_
        refine lv_aload_n hx hb dX3_signedSheetFor_8 rfl (lv_at hl 0 rfl) ?_
        refine k_get S hX.2 hX.1 0 (C := RX3) (T := TX3) (N := 6) rfl rfl 3 (by decide) inX3 m_134 rfl dX3_signedSheetFor_9 ?_
        refine k_getN S hX.2 hX.1 4 (C := RX2) (T := TX2) (N := 4) rfl rfl 3 (by decide) inX2 n_85 rfl dX3_signedSheetFor_12 ?_
        refine k_eq (y := nI ns) (hns) ?_
        refine lv_icmp_ge (tgt := 90) hx hb dX3_signedSheetFor_15 (by decide) (fun c15_1 => ?_) (fun c15_1 => ?_)
        · have bc15_1 := le_nlt c15_1
          have hge : i = ns := by
            have h9 := c15_1
            rw [nI_leI (by omega) (by omega)] at h9
            omega
          subst hge
          refine lv_iload hx hb dX3_signedSheetFor_90 (lv_at hl 4 rfl) ?_
          exact W.iret (v := (-1)) hx hb hr (fun t ht hW => ⟨_, rfl, (by rw [← ho]; rfl), ht⟩) (fun q h => by cases h) dX3_signedSheetFor_92
        · have bc15_1 := nle_lt c15_1
          have hlt : i < ns := by
            have h9 := nle_lt c15_1
            rw [nI_ltI (by omega) (by omega)] at h9
            exact h9
          refine lv_aload_n hx hb dX3_signedSheetFor_18 rfl (lv_at hl 0 rfl) ?_
          refine k_get S hX.2 hX.1 0 (C := RX3) (T := TX3) (N := 6) rfl rfl 3 (by decide) inX3 m_134 rfl dX3_signedSheetFor_19 ?_
          refine k_getN S hX.2 hX.1 4 (C := RX2) (T := TX2) (N := 4) rfl rfl 0 (by decide) inX2 n_79 rfl dX3_signedSheetFor_22 ?_
          refine lv_iload hx hb dX3_signedSheetFor_25 (lv_at hl 5 rfl) ?_
          refine k_ild S hX.2 hX.1 11 (i := i) rfl (by omega) (by decide) dX3_signedSheetFor_27 ?_
          refine lv_iload_n hx hb dX3_signedSheetFor_28 rfl (lv_at hl 1 rfl) ?_
          refine lv_icmp_ne (tgt := 84) hx hb dX3_signedSheetFor_29 (by decide) (fun c29_2 => ?_) (fun c29_2 => ?_)
          · have bc29_2 := c29_2
            refine lv_iinc (v := nI (i + 1)) (lv' := [(5, .int (nI (i + 1))), (0, .ref (ad 0)), (1, .int pl), (2, .int (nI ar)), (3, .int mi), (4, .int (-1))]) hx hb dX3_signedSheetFor_84 hl (k := 5) rfl (nI_1 i) (by decide) rfl (fun ls hl => ?_)
            refine lv_goto (tgt := 6) hx hb dX3_signedSheetFor_87 (by decide) ?_
            have ev3 : (-1) = oI (ssO σ pl ar mi (i + 1)) := by simp [ssO, ssT, ← ho, oI, c15_1, bc15_1, c29_2]
            rw [ev3] at hl
            exact ih (i + 1) hlt (by omega) ls (lv_sub hl [1, 2, 3, 4, 5, 0] rfl)
          · have bc29_2 := c29_2
            refine lv_aload_n hx hb dX3_signedSheetFor_32 rfl (lv_at hl 0 rfl) ?_
            refine k_get S hX.2 hX.1 0 (C := RX3) (T := TX3) (N := 6) rfl rfl 3 (by decide) inX3 m_134 rfl dX3_signedSheetFor_33 ?_
            refine k_getN S hX.2 hX.1 4 (C := RX2) (T := TX2) (N := 4) rfl rfl 1 (by decide) inX2 n_81 rfl dX3_signedSheetFor_36 ?_
            refine lv_iload hx hb dX3_signedSheetFor_39 (lv_at hl 5 rfl) ?_
            refine k_ild S hX.2 hX.1 12 (i := i) rfl (by omega) (by decide) dX3_signedSheetFor_41 ?_
            refine lv_iload_n hx hb dX3_signedSheetFor_42 rfl (lv_at hl 3 rfl) ?_
            refine lv_icmp_gt (tgt := 84) hx hb dX3_signedSheetFor_43 (by decide) (fun c43_4 => ?_) (fun c43_4 => ?_)
            · have bc43_4 := lt_nle c43_4
              refine lv_iinc (v := nI (i + 1)) (lv' := [(5, .int (nI (i + 1))), (0, .ref (ad 0)), (1, .int pl), (2, .int (nI ar)), (3, .int mi), (4, .int (-1))]) hx hb dX3_signedSheetFor_84 hl (k := 5) rfl (nI_1 i) (by decide) rfl (fun ls hl => ?_)
              refine lv_goto (tgt := 6) hx hb dX3_signedSheetFor_87 (by decide) ?_
              have ev5 : (-1) = oI (ssO σ pl ar mi (i + 1)) := by simp [ssO, ssT, ← ho, oI, c15_1, bc15_1, c29_2, c43_4, bc43_4]
              rw [ev5] at hl
              exact ih (i + 1) hlt (by omega) ls (lv_sub hl [1, 2, 3, 4, 5, 0] rfl)
            · have bc43_4 := nlt_le c43_4
              refine lv_aload_n hx hb dX3_signedSheetFor_46 rfl (lv_at hl 0 rfl) ?_
              refine k_get S hX.2 hX.1 0 (C := RX3) (T := TX3) (N := 6) rfl rfl 4 (by decide) inX3 m_135 rfl dX3_signedSheetFor_47 ?_
              refine lv_iload hx hb dX3_signedSheetFor_50 (lv_at hl 5 rfl) ?_
              refine lv_iload_n hx hb dX3_signedSheetFor_52 rfl (lv_at hl 2 rfl) ?_
              refine q_i (r_S S ⟨m_183, m_184, m_23, m_185⟩ ⟨rfl, by decide, by decide, by decide +kernel⟩ (c_lineOf l i ar) ⟨rfl, rfl, Nat.le_of_ble_eq_true rfl, Nat.le_of_ble_eq_true rfl⟩ (ps bl_GL (bG hX.2.2)) (n := 2) (As := [.int (nI i), .int (nI ar)]) (rest := [.ref (ad 5)]) rfl hl.1 rfl (Nat.le_of_ble_eq_true rfl) ⟨Nat.le_of_ble_eq_true rfl, Nat.le_of_ble_eq_true rfl⟩ dX3_signedSheetFor_53) (fun r6 (e6 : r6 = nI (i * 5 + ar)) => ?_)
              subst e6
              refine q_i (r_VN S hX.2.2 ⟨n_186, m_188, m_6, m_26, m_189⟩ ⟨rfl, by decide, by decide, by decide +kernel⟩ (c_hasSign l G ad σ (i * 5 + ar) (by omega)) ⟨rfl, rfl, Nat.le_of_ble_eq_true rfl, Nat.le_of_ble_eq_true rfl⟩ (pv_X hX 5 rfl rfl bl_PX (bX hX)) (n := 1) (As := [.int (nI (i * 5 + ar))]) (rest := []) rfl hl.1 rfl (Nat.le_of_ble_eq_true rfl) ⟨Nat.le_of_ble_eq_true rfl, Nat.le_of_ble_eq_true rfl⟩ dX3_signedSheetFor_56) (fun r7 (e7 : r7 = bI (hsB σ (i * 5 + ar))) => ?_)
              subst e7
              refine lv_if_eq (tgt := 84) hx hb dX3_signedSheetFor_59 (by decide) (fun c59_8 => ?_) (fun c59_8 => ?_)
              · have bc59_8 := bI_0 c59_8
                refine lv_iinc (v := nI (i + 1)) (lv' := [(5, .int (nI (i + 1))), (0, .ref (ad 0)), (1, .int pl), (2, .int (nI ar)), (3, .int mi), (4, .int (-1))]) hx hb dX3_signedSheetFor_84 hl (k := 5) rfl (nI_1 i) (by decide) rfl (fun ls hl => ?_)
                refine lv_goto (tgt := 6) hx hb dX3_signedSheetFor_87 (by decide) ?_
                have ev9 : (-1) = oI (ssO σ pl ar mi (i + 1)) := by simp [ssO, ssT, ← ho, oI, c15_1, bc15_1, c29_2, c43_4, bc43_4, bc59_8]
                rw [ev9] at hl
                exact ih (i + 1) hlt (by omega) ls (lv_sub hl [1, 2, 3, 4, 5, 0] rfl)
              · have bc59_8 := bI_n c59_8
                refine lv_iload hx hb dX3_signedSheetFor_62 (lv_at hl 4 rfl) ?_
                refine lv_iconst (v := (-1)) hx hb dX3_signedSheetFor_64 (by decide) ?_
                refine lv_icmp_eq (tgt := 80) hx hb dX3_signedSheetFor_65 (by decide) (fun c65_10 => ?_) (fun c65_10 => ?_)
                · have bc65_10 := c65_10
                  refine lv_iload hx hb dX3_signedSheetFor_80 (lv_at hl 5 rfl) ?_
                  refine lv_istore (lv' := [(4, .int (nI i)), (0, .ref (ad 0)), (1, .int pl), (2, .int (nI ar)), (3, .int mi), (5, .int (nI i))]) hx hb dX3_signedSheetFor_82 hl (by decide) rfl (fun ls hl => ?_)
                  refine lv_iinc (v := nI (i + 1)) (lv' := [(5, .int (nI (i + 1))), (4, .int (nI i)), (0, .ref (ad 0)), (1, .int pl), (2, .int (nI ar)), (3, .int mi)]) hx hb dX3_signedSheetFor_84 hl (k := 5) rfl (nI_1 i) (by decide) rfl (fun ls hl => ?_)
                  refine lv_goto (tgt := 6) hx hb dX3_signedSheetFor_87 (by decide) ?_
                  have ev11 : nI i = oI (ssO σ pl ar mi (i + 1)) := by simp [ssO, ssT, ← ho, oI, c15_1, bc15_1, c29_2, c43_4, bc43_4, bc59_8, c65_10]
                  rw [ev11] at hl
                  exact ih (i + 1) hlt (by omega) ls (lv_sub hl [2, 3, 4, 5, 1, 0] rfl)
                · have bc65_10 := c65_10
                  exact absurd rfl c65_10
      · have hl : lv_has ls 6 [(0, .ref (ad 0)), (1, .int pl), (2, .int (nI ar)), (3, .int mi), (4, .int (nI b)), (5, .int (nI i))] := hl
        have hbi := ssO_lt ho.symm
        refine lv_iload hx hb dX3_signedSheetFor_6 (lv_at hl 5 rfl) ?_
        refine lv_aload_n hx hb dX3_signedSheetFor_8 rfl (lv_at hl 0 rfl) ?_
        refine k_get S hX.2 hX.1 0 (C := RX3) (T := TX3) (N := 6) rfl rfl 3 (by decide) inX3 m_134 rfl dX3_signedSheetFor_9 ?_
        refine k_getN S hX.2 hX.1 4 (C := RX2) (T := TX2) (N := 4) rfl rfl 3 (by decide) inX2 n_85 rfl dX3_signedSheetFor_12 ?_
        refine k_eq (y := nI ns) (hns) ?_
        refine lv_icmp_ge (tgt := 90) hx hb dX3_signedSheetFor_15 (by decide) (fun c15_12 => ?_) (fun c15_12 => ?_)
        · have bc15_12 := le_nlt c15_12
          have hge : i = ns := by
            have h9 := c15_12
            rw [nI_leI (by omega) (by omega)] at h9
            omega
          subst hge
          refine lv_iload hx hb dX3_signedSheetFor_90 (lv_at hl 4 rfl) ?_
          exact W.iret (v := nI b) hx hb hr (fun t ht hW => ⟨_, rfl, (by rw [← ho]; rfl), ht⟩) (fun q h => by cases h) dX3_signedSheetFor_92
        · have bc15_12 := nle_lt c15_12
          have hlt : i < ns := by
            have h9 := nle_lt c15_12
            rw [nI_ltI (by omega) (by omega)] at h9
            exact h9
          refine lv_aload_n hx hb dX3_signedSheetFor_18 rfl (lv_at hl 0 rfl) ?_
          refine k_get S hX.2 hX.1 0 (C := RX3) (T := TX3) (N := 6) rfl rfl 3 (by decide) inX3 m_134 rfl dX3_signedSheetFor_19 ?_
          refine k_getN S hX.2 hX.1 4 (C := RX2) (T := TX2) (N := 4) rfl rfl 0 (by decide) inX2 n_79 rfl dX3_signedSheetFor_22 ?_
          refine lv_iload hx hb dX3_signedSheetFor_25 (lv_at hl 5 rfl) ?_
          refine k_ild S hX.2 hX.1 11 (i := i) rfl (by omega) (by decide) dX3_signedSheetFor_27 ?_
          refine lv_iload_n hx hb dX3_signedSheetFor_28 rfl (lv_at hl 1 rfl) ?_
          refine lv_icmp_ne (tgt := 84) hx hb dX3_signedSheetFor_29 (by decide) (fun c29_13 => ?_) (fun c29_13 => ?_)
          · have bc29_13 := c29_13
            refine lv_iinc (v := nI (i + 1)) (lv' := [(5, .int (nI (i + 1))), (0, .ref (ad 0)), (1, .int pl), (2, .int (nI ar)), (3, .int mi), (4, .int (nI b))]) hx hb dX3_signedSheetFor_84 hl (k := 5) rfl (nI_1 i) (by decide) rfl (fun ls hl => ?_)
            refine lv_goto (tgt := 6) hx hb dX3_signedSheetFor_87 (by decide) ?_
            have ev14 : nI b = oI (ssO σ pl ar mi (i + 1)) := by simp [ssO, ssT, ← ho, oI, c15_12, bc15_12, c29_13]
            rw [ev14] at hl
            exact ih (i + 1) hlt (by omega) ls (lv_sub hl [1, 2, 3, 4, 5, 0] rfl)
          · have bc29_13 := c29_13
            refine lv_aload_n hx hb dX3_signedSheetFor_32 rfl (lv_at hl 0 rfl) ?_
            refine k_get S hX.2 hX.1 0 (C := RX3) (T := TX3) (N := 6) rfl rfl 3 (by decide) inX3 m_134 rfl dX3_signedSheetFor_33 ?_
            refine k_getN S hX.2 hX.1 4 (C := RX2) (T := TX2) (N := 4) rfl rfl 1 (by decide) inX2 n_81 rfl dX3_signedSheetFor_36 ?_
            refine lv_iload hx hb dX3_signedSheetFor_39 (lv_at hl 5 rfl) ?_
            refine k_ild S hX.2 hX.1 12 (i := i) rfl (by omega) (by decide) dX3_signedSheetFor_41 ?_
            refine lv_iload_n hx hb dX3_signedSheetFor_42 rfl (lv_at hl 3 rfl) ?_
            refine lv_icmp_gt (tgt := 84) hx hb dX3_signedSheetFor_43 (by decide) (fun c43_15 => ?_) (fun c43_15 => ?_)
            · have bc43_15 := lt_nle c43_15
              refine lv_iinc (v := nI (i + 1)) (lv' := [(5, .int (nI (i + 1))), (0, .ref (ad 0)), (1, .int pl), (2, .int (nI ar)), (3, .int mi), (4, .int (nI b))]) hx hb dX3_signedSheetFor_84 hl (k := 5) rfl (nI_1 i) (by decide) rfl (fun ls hl => ?_)
              refine lv_goto (tgt := 6) hx hb dX3_signedSheetFor_87 (by decide) ?_
              have ev16 : nI b = oI (ssO σ pl ar mi (i + 1)) := by simp [ssO, ssT, ← ho, oI, c15_12, bc15_12, c29_13, c43_15, bc43_15]
              rw [ev16] at hl
              exact ih (i + 1) hlt (by omega) ls (lv_sub hl [1, 2, 3, 4, 5, 0] rfl)
            · have bc43_15 := nlt_le c43_15
              refine lv_aload_n hx hb dX3_signedSheetFor_46 rfl (lv_at hl 0 rfl) ?_
              refine k_get S hX.2 hX.1 0 (C := RX3) (T := TX3) (N := 6) rfl rfl 4 (by decide) inX3 m_135 rfl dX3_signedSheetFor_47 ?_
              refine lv_iload hx hb dX3_signedSheetFor_50 (lv_at hl 5 rfl) ?_
              refine lv_iload_n hx hb dX3_signedSheetFor_52 rfl (lv_at hl 2 rfl) ?_
              refine q_i (r_S S ⟨m_183, m_184, m_23, m_185⟩ ⟨rfl, by decide, by decide, by decide +kernel⟩ (c_lineOf l i ar) ⟨rfl, rfl, Nat.le_of_ble_eq_true rfl, Nat.le_of_ble_eq_true rfl⟩ (ps bl_GL (bG hX.2.2)) (n := 2) (As := [.int (nI i), .int (nI ar)]) (rest := [.ref (ad 5)]) rfl hl.1 rfl (Nat.le_of_ble_eq_true rfl) ⟨Nat.le_of_ble_eq_true rfl, Nat.le_of_ble_eq_true rfl⟩ dX3_signedSheetFor_53) (fun r17 (e17 : r17 = nI (i * 5 + ar)) => ?_)
              subst e17
              refine q_i (r_VN S hX.2.2 ⟨n_186, m_188, m_6, m_26, m_189⟩ ⟨rfl, by decide, by decide, by decide +kernel⟩ (c_hasSign l G ad σ (i * 5 + ar) (by omega)) ⟨rfl, rfl, Nat.le_of_ble_eq_true rfl, Nat.le_of_ble_eq_true rfl⟩ (pv_X hX 5 rfl rfl bl_PX (bX hX)) (n := 1) (As := [.int (nI (i * 5 + ar))]) (rest := []) rfl hl.1 rfl (Nat.le_of_ble_eq_true rfl) ⟨Nat.le_of_ble_eq_true rfl, Nat.le_of_ble_eq_true rfl⟩ dX3_signedSheetFor_56) (fun r18 (e18 : r18 = bI (hsB σ (i * 5 + ar))) => ?_)
              subst e18
              refine lv_if_eq (tgt := 84) hx hb dX3_signedSheetFor_59 (by decide) (fun c59_19 => ?_) (fun c59_19 => ?_)
              · have bc59_19 := bI_0 c59_19
                refine lv_iinc (v := nI (i + 1)) (lv' := [(5, .int (nI (i + 1))), (0, .ref (ad 0)), (1, .int pl), (2, .int (nI ar)), (3, .int mi), (4, .int (nI b))]) hx hb dX3_signedSheetFor_84 hl (k := 5) rfl (nI_1 i) (by decide) rfl (fun ls hl => ?_)
                refine lv_goto (tgt := 6) hx hb dX3_signedSheetFor_87 (by decide) ?_
                have ev20 : nI b = oI (ssO σ pl ar mi (i + 1)) := by simp [ssO, ssT, ← ho, oI, c15_12, bc15_12, c29_13, c43_15, bc43_15, bc59_19]
                rw [ev20] at hl
                exact ih (i + 1) hlt (by omega) ls (lv_sub hl [1, 2, 3, 4, 5, 0] rfl)
              · have bc59_19 := bI_n c59_19
                refine lv_iload hx hb dX3_signedSheetFor_62 (lv_at hl 4 rfl) ?_
                refine lv_iconst (v := (-1)) hx hb dX3_signedSheetFor_64 (by decide) ?_
                refine lv_icmp_eq (tgt := 80) hx hb dX3_signedSheetFor_65 (by decide) (fun c65_21 => ?_) (fun c65_21 => ?_)
                · have bc65_21 := c65_21
                  exact absurd c65_21 (nI_m1 (by omega))
                · have bc65_21 := c65_21
                  refine lv_aload_n hx hb dX3_signedSheetFor_68 rfl (lv_at hl 0 rfl) ?_
                  refine lv_iload hx hb dX3_signedSheetFor_69 (lv_at hl 5 rfl) ?_
                  refine lv_iload hx hb dX3_signedSheetFor_71 (lv_at hl 4 rfl) ?_
                  refine lv_iload_n hx hb dX3_signedSheetFor_73 rfl (lv_at hl 2 rfl) ?_
                  refine q_i (r_V S ⟨m_190, m_192, m_7, m_23, m_193⟩ ⟨rfl, by decide, by decide, by decide +kernel⟩ (c_isStronger l G ad σ i b ar (by omega) (by omega) (by omega)) ⟨rfl, rfl, Nat.le_of_ble_eq_true rfl, Nat.le_of_ble_eq_true rfl⟩ (pv_X hX 0 rfl rfl bl_PX (bX hX)) (n := 3) (As := [.int (nI i), .int (nI b), .int (nI ar)]) (rest := []) rfl hl.1 rfl (Nat.le_of_ble_eq_true rfl) ⟨Nat.le_of_ble_eq_true rfl, Nat.le_of_ble_eq_true rfl⟩ dX3_signedSheetFor_74) (fun r22 (e22 : r22 = bI (strB σ i b ar)) => ?_)
                  subst e22
                  refine lv_if_eq (tgt := 84) hx hb dX3_signedSheetFor_77 (by decide) (fun c77_23 => ?_) (fun c77_23 => ?_)
                  · have bc77_23 := bI_0 c77_23
                    refine lv_iinc (v := nI (i + 1)) (lv' := [(5, .int (nI (i + 1))), (0, .ref (ad 0)), (1, .int pl), (2, .int (nI ar)), (3, .int mi), (4, .int (nI b))]) hx hb dX3_signedSheetFor_84 hl (k := 5) rfl (nI_1 i) (by decide) rfl (fun ls hl => ?_)
                    refine lv_goto (tgt := 6) hx hb dX3_signedSheetFor_87 (by decide) ?_
                    have ev24 : nI b = oI (ssO σ pl ar mi (i + 1)) := by simp [ssO, ssT, ← ho, oI, c15_12, bc15_12, c29_13, c43_15, bc43_15, bc59_19, c65_21, bc77_23]
                    rw [ev24] at hl
                    exact ih (i + 1) hlt (by omega) ls (lv_sub hl [1, 2, 3, 4, 5, 0] rfl)
                  · have bc77_23 := bI_n c77_23
                    refine lv_iload hx hb dX3_signedSheetFor_80 (lv_at hl 5 rfl) ?_
                    refine lv_istore (lv' := [(4, .int (nI i)), (0, .ref (ad 0)), (1, .int pl), (2, .int (nI ar)), (3, .int mi), (5, .int (nI i))]) hx hb dX3_signedSheetFor_82 hl (by decide) rfl (fun ls hl => ?_)
                    refine lv_iinc (v := nI (i + 1)) (lv' := [(5, .int (nI (i + 1))), (4, .int (nI i)), (0, .ref (ad 0)), (1, .int pl), (2, .int (nI ar)), (3, .int mi)]) hx hb dX3_signedSheetFor_84 hl (k := 5) rfl (nI_1 i) (by decide) rfl (fun ls hl => ?_)
                    refine lv_goto (tgt := 6) hx hb dX3_signedSheetFor_87 (by decide) ?_
                    have ev25 : nI i = oI (ssO σ pl ar mi (i + 1)) := by simp [ssO, ssT, ← ho, oI, c15_12, bc15_12, c29_13, c43_15, bc43_15, bc59_19, c65_21, bc77_23]
                    rw [ev25] at hl
                    exact ih (i + 1) hlt (by omega) ls (lv_sub hl [2, 3, 4, 5, 1, 0] rfl)
  refine lv_iconst (v := (-1)) hx hb dX3_signedSheetFor_0 (by decide) ?_
  refine lv_istore (lv' := [(4, .int (-1)), (0, .ref (ad 0)), (1, .int pl), (2, .int (nI ar)), (3, .int mi)]) hx hb dX3_signedSheetFor_1 hl (by decide) rfl (fun ls hl => ?_)
  refine lv_iconst (v := 0) hx hb dX3_signedSheetFor_3 (by decide) ?_
  refine lv_istore (lv' := [(5, .int 0), (4, .int (-1)), (0, .ref (ad 0)), (1, .int pl), (2, .int (nI ar)), (3, .int mi)]) hx hb dX3_signedSheetFor_4 hl (by decide) rfl (fun ls hl => ?_)
  exact L6 (ns + 1) 0 (Nat.zero_le _) (by omega) ls (lv_sub hl [2, 3, 4, 5, 1, 0] rfl)

set_option maxHeartbeats 4000000 in
set_option maxRecDepth 100000 in
theorem c_bookOf (l : Launch) (G : kG) (ad : Nat → Nat) (σ : kS) (nm ns : Nat) (pl : Int32) (ar : Nat) (mi : Int32) (hns : σ 18 0 = nI ns) (hns4 : ns ≤ 40) (hnm : σ 17 0 = nI nm) (hnm2 : nm ≤ 200) (har : ar < 5) : Met l yX3_bookOf [.code yX3_bookOf cX3_bookOf 6 (some .int)] ({ frames := 4, cells := 0, slots := 0, locals := 109 }) (va_Pc [.ref (ad 0), .int pl, .int (nI ar), .int mi] (fun U => PX G ad σ U U.heap)) (vp_Si (fun r => r = boV σ nm ns pl ar mi)) 0 0 NF := by
  refine k_of (by decide) (Nat.le_of_ble_eq_true rfl) (fun U h => h.2.2) ?_
  intro p e s m below meth c ls S hr hlocks hmn hB hl
  have hx := S.1
  have hb := S.2.1
  have hX : PX G ad σ s s.heap := hB
  have hl : lv_has ls 6 [(0, .ref (ad 0)), (1, .int pl), (2, .int (nI ar)), (3, .int mi)] := hl
  refine lv_aload_n hx hb dX3_bookOf_0 rfl (lv_at hl 0 rfl) ?_
  refine lv_iload_n hx hb dX3_bookOf_1 rfl (lv_at hl 1 rfl) ?_
  refine lv_iload_n hx hb dX3_bookOf_2 rfl (lv_at hl 2 rfl) ?_
  refine lv_iload_n hx hb dX3_bookOf_3 rfl (lv_at hl 3 rfl) ?_
  refine q_i (r_V S ⟨m_179, m_181, m_5, m_23, m_182⟩ ⟨rfl, by decide, by decide, by decide +kernel⟩ (c_signedSheetFor l G ad σ ns pl ar mi hns hns4 (by omega)) ⟨rfl, rfl, Nat.le_of_ble_eq_true rfl, Nat.le_of_ble_eq_true rfl⟩ (pv_X hX 0 rfl rfl bl_PX (bX hX)) (n := 3) (As := [.int pl, .int (nI ar), .int mi]) (rest := []) rfl hl.1 rfl (Nat.le_of_ble_eq_true rfl) ⟨Nat.le_of_ble_eq_true rfl, Nat.le_of_ble_eq_true rfl⟩ dX3_bookOf_4) (fun r1 (e1 : r1 = oI (ssO σ pl ar mi ns)) => ?_)
  subst e1
  rcases hss : ssO σ pl ar mi ns with _ | k
  · show W _ _ _ _ _ _ _ _ _ _ _ _ _ _ _ (F0 m 7 ls [.int (-1)])
    refine lv_istore (lv' := [(4, .int (-1)), (0, .ref (ad 0)), (1, .int pl), (2, .int (nI ar)), (3, .int mi)]) hx hb dX3_bookOf_7 hl (by decide) rfl (fun ls hl => ?_)
    refine lv_iload hx hb dX3_bookOf_9 (lv_at hl 0 rfl) ?_
    refine lv_iconst (v := (-1)) hx hb dX3_bookOf_11 (by decide) ?_
    refine lv_icmp_ne (tgt := 27) hx hb dX3_bookOf_12 (by decide) (fun c12_2 => ?_) (fun c12_2 => ?_)
    · have bc12_2 := c12_2
      exact absurd rfl c12_2
    · have bc12_2 := c12_2
      refine lv_aload_n hx hb dX3_bookOf_15 rfl (lv_at hl 1 rfl) ?_
      refine k_get S hX.2 hX.1 0 (C := RX3) (T := TX3) (N := 6) rfl rfl 2 (by decide) inX3 m_133 rfl dX3_bookOf_16 ?_
      refine lv_iload_n hx hb dX3_bookOf_19 rfl (lv_at hl 2 rfl) ?_
      refine lv_iload_n hx hb dX3_bookOf_20 rfl (lv_at hl 3 rfl) ?_
      refine lv_iconst (v := (-1)) hx hb dX3_bookOf_21 (by decide) ?_
      refine lv_iload_n hx hb dX3_bookOf_22 rfl (lv_at hl 4 rfl) ?_
      refine q_i (r_VN S hX.2.2 ⟨n_194, m_196, m_8, m_24, m_197⟩ ⟨rfl, by decide, by decide, by decide +kernel⟩ (c_brought l G ad σ nm pl (nI ar) (-1) mi hnm hnm2) ⟨rfl, rfl, Nat.le_of_ble_eq_true rfl, Nat.le_of_ble_eq_true rfl⟩ (pv_X hX 3 rfl rfl bl_PX (bX hX)) (n := 4) (As := [.int pl, .int (nI ar), .int (-1), .int mi]) (rest := []) rfl hl.1 rfl (Nat.le_of_ble_eq_true rfl) ⟨Nat.le_of_ble_eq_true rfl, Nat.le_of_ble_eq_true rfl⟩ dX3_bookOf_23) (fun r3 (e3 : r3 = brF σ pl (nI ar) (-1) mi nm) => ?_)
      subst e3
      exact W.iret (v := brF σ pl (nI ar) (-1) mi nm) hx hb hr (fun t ht hW => ⟨_, rfl, (by simp [boV, hss, c12_2]), ht⟩) (fun q h => by cases h) dX3_bookOf_26
  · show W _ _ _ _ _ _ _ _ _ _ _ _ _ _ _ (F0 m 7 ls [.int (nI k)])
    have hkn := ssO_lt hss
    refine lv_istore (lv' := [(4, .int (nI k)), (0, .ref (ad 0)), (1, .int pl), (2, .int (nI ar)), (3, .int mi)]) hx hb dX3_bookOf_7 hl (by decide) rfl (fun ls hl => ?_)
    refine lv_iload hx hb dX3_bookOf_9 (lv_at hl 0 rfl) ?_
    refine lv_iconst (v := (-1)) hx hb dX3_bookOf_11 (by decide) ?_
    refine lv_icmp_ne (tgt := 27) hx hb dX3_bookOf_12 (by decide) (fun c12_4 => ?_) (fun c12_4 => ?_)
    · have bc12_4 := c12_4
      refine lv_aload_n hx hb dX3_bookOf_27 rfl (lv_at hl 1 rfl) ?_
      refine k_get S hX.2 hX.1 0 (C := RX3) (T := TX3) (N := 6) rfl rfl 4 (by decide) inX3 m_135 rfl dX3_bookOf_28 ?_
      refine k_getN S hX.2 hX.1 5 (C := RX0) (T := TX0) (N := 7) rfl rfl 3 (by decide) inX0 n_109 rfl dX3_bookOf_31 ?_
      refine lv_iload hx hb dX3_bookOf_34 (lv_at hl 0 rfl) ?_
      refine lv_iload_n hx hb dX3_bookOf_36 rfl (lv_at hl 3 rfl) ?_
      refine q_i (r_S S ⟨m_183, m_184, m_23, m_185⟩ ⟨rfl, by decide, by decide, by decide +kernel⟩ (c_lineOf l k ar) ⟨rfl, rfl, Nat.le_of_ble_eq_true rfl, Nat.le_of_ble_eq_true rfl⟩ (ps bl_GL (bG hX.2.2)) (n := 2) (As := [.int (nI k), .int (nI ar)]) (rest := [.ref (ad 17)]) rfl hl.1 rfl (Nat.le_of_ble_eq_true rfl) ⟨Nat.le_of_ble_eq_true rfl, Nat.le_of_ble_eq_true rfl⟩ dX3_bookOf_37) (fun r5 (e5 : r5 = nI (k * 5 + ar)) => ?_)
      subst e5
      refine k_ild S hX.2 hX.1 17 (i := (k * 5 + ar)) rfl (by omega) (by decide) dX3_bookOf_40 ?_
      refine lv_istore (lv' := [(5, .int (σ 13 (k * 5 + ar))), (4, .int (nI k)), (0, .ref (ad 0)), (1, .int pl), (2, .int (nI ar)), (3, .int mi)]) hx hb dX3_bookOf_41 hl (by decide) rfl (fun ls hl => ?_)
      refine lv_iload hx hb dX3_bookOf_43 (lv_at hl 0 rfl) ?_
      refine lv_aload_n hx hb dX3_bookOf_45 rfl (lv_at hl 2 rfl) ?_
      refine k_get S hX.2 hX.1 0 (C := RX3) (T := TX3) (N := 6) rfl rfl 2 (by decide) inX3 m_133 rfl dX3_bookOf_46 ?_
      refine lv_iload_n hx hb dX3_bookOf_49 rfl (lv_at hl 3 rfl) ?_
      refine lv_iload_n hx hb dX3_bookOf_50 rfl (lv_at hl 4 rfl) ?_
      refine lv_aload_n hx hb dX3_bookOf_51 rfl (lv_at hl 2 rfl) ?_
      refine k_get S hX.2 hX.1 0 (C := RX3) (T := TX3) (N := 6) rfl rfl 3 (by decide) inX3 m_134 rfl dX3_bookOf_52 ?_
      refine k_getN S hX.2 hX.1 4 (C := RX2) (T := TX2) (N := 4) rfl rfl 1 (by decide) inX2 n_81 rfl dX3_bookOf_55 ?_
      refine lv_iload hx hb dX3_bookOf_58 (lv_at hl 1 rfl) ?_
      refine k_ild S hX.2 hX.1 12 (i := k) rfl (by omega) (by decide) dX3_bookOf_60 ?_
      refine lv_iload_n hx hb dX3_bookOf_61 rfl (lv_at hl 5 rfl) ?_
      refine q_i (r_VN S hX.2.2 ⟨n_194, m_196, m_8, m_24, m_197⟩ ⟨rfl, by decide, by decide, by decide +kernel⟩ (c_brought l G ad σ nm pl (nI ar) (σ 8 k) mi hnm hnm2) ⟨rfl, rfl, Nat.le_of_ble_eq_true rfl, Nat.le_of_ble_eq_true rfl⟩ (pv_X hX 3 rfl rfl bl_PX (bX hX)) (n := 4) (As := [.int pl, .int (nI ar), .int (σ 8 k), .int mi]) (rest := [.int (σ 13 (k * 5 + ar))]) rfl hl.1 rfl (Nat.le_of_ble_eq_true rfl) ⟨Nat.le_of_ble_eq_true rfl, Nat.le_of_ble_eq_true rfl⟩ dX3_bookOf_62) (fun r6 (e6 : r6 = brF σ pl (nI ar) (σ 8 k) mi nm) => ?_)
      subst e6
      refine lv_iadd hx hb dX3_bookOf_65 ?_
      exact W.iret (v := (σ 13 (k * 5 + ar)) + (brF σ pl (nI ar) (σ 8 k) mi nm)) hx hb hr (fun t ht hW => ⟨_, rfl, (by simp [boV, hss, c12_4]), ht⟩) (fun q h => by cases h) dX3_bookOf_66
    · have bc12_4 := c12_4
      exact absurd c12_4 (nI_m1 (by omega))

set_option maxHeartbeats 4000000 in
set_option maxRecDepth 100000 in
theorem c_gapOf (l : Launch) (G : kG) (ad : Nat → Nat) (σ : kS) (nm ns : Nat) (sh ar : Nat) (hns : σ 18 0 = nI ns) (hns4 : ns ≤ 40) (hnm : σ 17 0 = nI nm) (hnm2 : nm ≤ 200) (hsh : sh < ns) (har : ar < 5) : Met l yX3_gapOf [.code yX3_gapOf cX3_gapOf 4 (some .int)] ({ frames := 5, cells := 0, slots := 0, locals := 134 }) (va_Pc [.ref (ad 0), .int (nI sh), .int (nI ar)] (fun U => PX G ad σ U U.heap)) (vp_Si (fun r => r = gpV σ nm ns sh ar)) 0 0 NF := by
  refine k_of (by decide) (Nat.le_of_ble_eq_true rfl) (fun U h => h.2.2) ?_
  intro p e s m below meth c ls S hr hlocks hmn hB hl
  have hx := S.1
  have hb := S.2.1
  have hX : PX G ad σ s s.heap := hB
  have hl : lv_has ls 4 [(0, .ref (ad 0)), (1, .int (nI sh)), (2, .int (nI ar))] := hl
  refine lv_iload_n hx hb dX3_gapOf_0 rfl (lv_at hl 1 rfl) ?_
  refine lv_iload_n hx hb dX3_gapOf_1 rfl (lv_at hl 2 rfl) ?_
  refine q_i (r_S S ⟨m_183, m_184, m_23, m_185⟩ ⟨rfl, by decide, by decide, by decide +kernel⟩ (c_lineOf l sh ar) ⟨rfl, rfl, Nat.le_of_ble_eq_true rfl, Nat.le_of_ble_eq_true rfl⟩ (ps bl_GL (bG hX.2.2)) (n := 2) (As := [.int (nI sh), .int (nI ar)]) (rest := []) rfl hl.1 rfl (Nat.le_of_ble_eq_true rfl) ⟨Nat.le_of_ble_eq_true rfl, Nat.le_of_ble_eq_true rfl⟩ dX3_gapOf_2) (fun r1 (e1 : r1 = nI (sh * 5 + ar)) => ?_)
  subst e1
  refine lv_istore_n (lv' := [(3, .int (nI (sh * 5 + ar))), (0, .ref (ad 0)), (1, .int (nI sh)), (2, .int (nI ar))]) hx hb dX3_gapOf_5 rfl hl (by decide) rfl (fun ls hl => ?_)
  refine lv_aload_n hx hb dX3_gapOf_6 rfl (lv_at hl 1 rfl) ?_
  refine k_get S hX.2 hX.1 0 (C := RX3) (T := TX3) (N := 6) rfl rfl 4 (by decide) inX3 m_135 rfl dX3_gapOf_7 ?_
  refine lv_iload_n hx hb dX3_gapOf_10 rfl (lv_at hl 0 rfl) ?_
  refine q_i (r_VN S hX.2.2 ⟨n_186, m_188, m_6, m_26, m_189⟩ ⟨rfl, by decide, by decide, by decide +kernel⟩ (c_hasSign l G ad σ (sh * 5 + ar) (by omega)) ⟨rfl, rfl, Nat.le_of_ble_eq_true rfl, Nat.le_of_ble_eq_true rfl⟩ (pv_X hX 5 rfl rfl bl_PX (bX hX)) (n := 1) (As := [.int (nI (sh * 5 + ar))]) (rest := []) rfl hl.1 rfl (Nat.le_of_ble_eq_true rfl) ⟨Nat.le_of_ble_eq_true rfl, Nat.le_of_ble_eq_true rfl⟩ dX3_gapOf_11) (fun r2 (e2 : r2 = bI (hsB σ (sh * 5 + ar))) => ?_)
  subst e2
  refine lv_if_eq (tgt := 27) hx hb dX3_gapOf_14 (by decide) (fun c14_3 => ?_) (fun c14_3 => ?_)
  · have bc14_3 := bI_0 c14_3
    refine lv_aload_n hx hb dX3_gapOf_27 rfl (lv_at hl 1 rfl) ?_
    refine k_get S hX.2 hX.1 0 (C := RX3) (T := TX3) (N := 6) rfl rfl 4 (by decide) inX3 m_135 rfl dX3_gapOf_28 ?_
    refine k_getN S hX.2 hX.1 5 (C := RX0) (T := TX0) (N := 7) rfl rfl 3 (by decide) inX0 n_109 rfl dX3_gapOf_31 ?_
    refine lv_iload_n hx hb dX3_gapOf_34 rfl (lv_at hl 0 rfl) ?_
    refine k_ild S hX.2 hX.1 17 (i := (sh * 5 + ar)) rfl (by omega) (by decide) dX3_gapOf_35 ?_
    refine lv_aload_n hx hb dX3_gapOf_36 rfl (lv_at hl 1 rfl) ?_
    refine lv_aload_n hx hb dX3_gapOf_37 rfl (lv_at hl 1 rfl) ?_
    refine k_get S hX.2 hX.1 0 (C := RX3) (T := TX3) (N := 6) rfl rfl 3 (by decide) inX3 m_134 rfl dX3_gapOf_38 ?_
    refine k_getN S hX.2 hX.1 4 (C := RX2) (T := TX2) (N := 4) rfl rfl 0 (by decide) inX2 n_79 rfl dX3_gapOf_41 ?_
    refine lv_iload_n hx hb dX3_gapOf_44 rfl (lv_at hl 2 rfl) ?_
    refine k_ild S hX.2 hX.1 11 (i := sh) rfl (by omega) (by decide) dX3_gapOf_45 ?_
    refine lv_iload_n hx hb dX3_gapOf_46 rfl (lv_at hl 3 rfl) ?_
    refine lv_aload_n hx hb dX3_gapOf_47 rfl (lv_at hl 1 rfl) ?_
    refine k_get S hX.2 hX.1 0 (C := RX3) (T := TX3) (N := 6) rfl rfl 3 (by decide) inX3 m_134 rfl dX3_gapOf_48 ?_
    refine k_getN S hX.2 hX.1 4 (C := RX2) (T := TX2) (N := 4) rfl rfl 1 (by decide) inX2 n_81 rfl dX3_gapOf_51 ?_
    refine lv_iload_n hx hb dX3_gapOf_54 rfl (lv_at hl 2 rfl) ?_
    refine k_ild S hX.2 hX.1 12 (i := sh) rfl (by omega) (by decide) dX3_gapOf_55 ?_
    refine q_i (r_V S ⟨m_175, m_177, m_4, m_23, m_178⟩ ⟨rfl, by decide, by decide, by decide +kernel⟩ (c_bookOf l G ad σ nm ns (σ 7 sh) ar (σ 8 sh) hns hns4 hnm hnm2 (by omega)) ⟨rfl, rfl, Nat.le_of_ble_eq_true rfl, Nat.le_of_ble_eq_true rfl⟩ (pv_X hX 0 rfl rfl bl_PX (bX hX)) (n := 3) (As := [.int (σ 7 sh), .int (nI ar), .int (σ 8 sh)]) (rest := [.int (σ 13 (sh * 5 + ar))]) rfl hl.1 rfl (Nat.le_of_ble_eq_true rfl) ⟨Nat.le_of_ble_eq_true rfl, Nat.le_of_ble_eq_true rfl⟩ dX3_gapOf_56) (fun r4 (e4 : r4 = boV σ nm ns (σ 7 sh) ar (σ 8 sh)) => ?_)
    subst e4
    refine lv_isub hx hb dX3_gapOf_59 ?_
    exact W.iret (v := (σ 13 (sh * 5 + ar)) - (boV σ nm ns (σ 7 sh) ar (σ 8 sh))) hx hb hr (fun t ht hW => ⟨_, rfl, (by simp [gpV, bc14_3]), ht⟩) (fun q h => by cases h) dX3_gapOf_60
  · have bc14_3 := bI_n c14_3
    refine lv_aload_n hx hb dX3_gapOf_17 rfl (lv_at hl 1 rfl) ?_
    refine k_get S hX.2 hX.1 0 (C := RX3) (T := TX3) (N := 6) rfl rfl 4 (by decide) inX3 m_135 rfl dX3_gapOf_18 ?_
    refine k_getN S hX.2 hX.1 5 (C := RX0) (T := TX0) (N := 7) rfl rfl 5 (by decide) inX0 n_113 rfl dX3_gapOf_21 ?_
    refine lv_iload_n hx hb dX3_gapOf_24 rfl (lv_at hl 0 rfl) ?_
    refine k_ild S hX.2 hX.1 19 (i := (sh * 5 + ar)) rfl (by omega) (by decide) dX3_gapOf_25 ?_
    exact W.iret (v := σ 15 (sh * 5 + ar)) hx hb hr (fun t ht hW => ⟨_, rfl, (by simp [gpV, bc14_3]), ht⟩) (fun q h => by cases h) dX3_gapOf_26

set_option maxHeartbeats 4000000 in
set_option maxRecDepth 100000 in
theorem c_isSignable (l : Launch) (G : kG) (ad : Nat → Nat) (σ : kS) (sh ar : Nat) (hsh : sh < 40) (har : ar < 5) : Met l yX3_isSignable [.code yX3_isSignable cX3_isSignable 4 (some .boolean)] ({ frames := 2, cells := 0, slots := 0, locals := 61 }) (va_Pc [.ref (ad 0), .int (nI sh), .int (nI ar)] (fun U => PX G ad σ U U.heap)) (vp_Si (fun r => r = bI (sgB σ sh ar))) 0 0 NF := by
  refine k_of (by decide) (Nat.le_of_ble_eq_true rfl) (fun U h => h.2.2) ?_
  intro p e s m below meth c ls S hr hlocks hmn hB hl
  have hx := S.1
  have hb := S.2.1
  have hX : PX G ad σ s s.heap := hB
  have hl : lv_has ls 4 [(0, .ref (ad 0)), (1, .int (nI sh)), (2, .int (nI ar))] := hl
  refine lv_iload_n hx hb dX3_isSignable_0 rfl (lv_at hl 1 rfl) ?_
  refine lv_iload_n hx hb dX3_isSignable_1 rfl (lv_at hl 2 rfl) ?_
  refine q_i (r_S S ⟨m_183, m_184, m_23, m_185⟩ ⟨rfl, by decide, by decide, by decide +kernel⟩ (c_lineOf l sh ar) ⟨rfl, rfl, Nat.le_of_ble_eq_true rfl, Nat.le_of_ble_eq_true rfl⟩ (ps bl_GL (bG hX.2.2)) (n := 2) (As := [.int (nI sh), .int (nI ar)]) (rest := []) rfl hl.1 rfl (Nat.le_of_ble_eq_true rfl) ⟨Nat.le_of_ble_eq_true rfl, Nat.le_of_ble_eq_true rfl⟩ dX3_isSignable_2) (fun r1 (e1 : r1 = nI (sh * 5 + ar)) => ?_)
  subst e1
  refine lv_istore_n (lv' := [(3, .int (nI (sh * 5 + ar))), (0, .ref (ad 0)), (1, .int (nI sh)), (2, .int (nI ar))]) hx hb dX3_isSignable_5 rfl hl (by decide) rfl (fun ls hl => ?_)
  refine lv_aload_n hx hb dX3_isSignable_6 rfl (lv_at hl 1 rfl) ?_
  refine k_get S hX.2 hX.1 0 (C := RX3) (T := TX3) (N := 6) rfl rfl 3 (by decide) inX3 m_134 rfl dX3_isSignable_7 ?_
  refine k_getN S hX.2 hX.1 4 (C := RX2) (T := TX2) (N := 4) rfl rfl 2 (by decide) inX2 n_83 rfl dX3_isSignable_10 ?_
  refine lv_iload_n hx hb dX3_isSignable_13 rfl (lv_at hl 2 rfl) ?_
  refine k_zld S hX.2 hX.1 13 (i := sh) rfl (by omega) (by decide) dX3_isSignable_14 ?_
  refine lv_if_eq (tgt := 44) hx hb dX3_isSignable_15 (by decide) (fun c15_2 => ?_) (fun c15_2 => ?_)
  · have bc15_2 := c15_2
    refine lv_iconst (v := 0) hx hb dX3_isSignable_44 (by decide) ?_
    exact W.zret (v := 0) (ty := .boolean) hx hb hr (by first | rfl | exact bI_nar _) (fun t ht hW => ⟨_, rfl, (by simp [sgB, bI, c15_2]), ht⟩) (fun q h => by cases h) dX3_isSignable_45
  · have bc15_2 := c15_2
    refine lv_aload_n hx hb dX3_isSignable_18 rfl (lv_at hl 1 rfl) ?_
    refine k_get S hX.2 hX.1 0 (C := RX3) (T := TX3) (N := 6) rfl rfl 4 (by decide) inX3 m_135 rfl dX3_isSignable_19 ?_
    refine lv_iload_n hx hb dX3_isSignable_22 rfl (lv_at hl 0 rfl) ?_
    refine q_i (r_VN S hX.2.2 ⟨n_358, m_360, m_14, m_26, m_361⟩ ⟨rfl, by decide, by decide, by decide +kernel⟩ (c_agrees l G ad σ (sh * 5 + ar) (by omega)) ⟨rfl, rfl, Nat.le_of_ble_eq_true rfl, Nat.le_of_ble_eq_true rfl⟩ (pv_X hX 5 rfl rfl bl_PX (bX hX)) (n := 1) (As := [.int (nI (sh * 5 + ar))]) (rest := []) rfl hl.1 rfl (Nat.le_of_ble_eq_true rfl) ⟨Nat.le_of_ble_eq_true rfl, Nat.le_of_ble_eq_true rfl⟩ dX3_isSignable_23) (fun r3 (e3 : r3 = bI (agB σ (sh * 5 + ar))) => ?_)
    subst e3
    refine lv_if_eq (tgt := 44) hx hb dX3_isSignable_26 (by decide) (fun c26_4 => ?_) (fun c26_4 => ?_)
    · have bc26_4 := bI_0 c26_4
      refine lv_iconst (v := 0) hx hb dX3_isSignable_44 (by decide) ?_
      exact W.zret (v := 0) (ty := .boolean) hx hb hr (by first | rfl | exact bI_nar _) (fun t ht hW => ⟨_, rfl, (by simp [sgB, bI, c15_2, bc26_4]), ht⟩) (fun q h => by cases h) dX3_isSignable_45
    · have bc26_4 := bI_n c26_4
      refine lv_aload_n hx hb dX3_isSignable_29 rfl (lv_at hl 1 rfl) ?_
      refine k_get S hX.2 hX.1 0 (C := RX3) (T := TX3) (N := 6) rfl rfl 4 (by decide) inX3 m_135 rfl dX3_isSignable_30 ?_
      refine lv_iload_n hx hb dX3_isSignable_33 rfl (lv_at hl 0 rfl) ?_
      refine q_i (r_VN S hX.2.2 ⟨n_186, m_188, m_6, m_26, m_189⟩ ⟨rfl, by decide, by decide, by decide +kernel⟩ (c_hasSign l G ad σ (sh * 5 + ar) (by omega)) ⟨rfl, rfl, Nat.le_of_ble_eq_true rfl, Nat.le_of_ble_eq_true rfl⟩ (pv_X hX 5 rfl rfl bl_PX (bX hX)) (n := 1) (As := [.int (nI (sh * 5 + ar))]) (rest := []) rfl hl.1 rfl (Nat.le_of_ble_eq_true rfl) ⟨Nat.le_of_ble_eq_true rfl, Nat.le_of_ble_eq_true rfl⟩ dX3_isSignable_34) (fun r5 (e5 : r5 = bI (hsB σ (sh * 5 + ar))) => ?_)
      subst e5
      refine lv_if_ne (tgt := 44) hx hb dX3_isSignable_37 (by decide) (fun c37_6 => ?_) (fun c37_6 => ?_)
      · have bc37_6 := bI_n c37_6
        refine lv_iconst (v := 0) hx hb dX3_isSignable_44 (by decide) ?_
        exact W.zret (v := 0) (ty := .boolean) hx hb hr (by first | rfl | exact bI_nar _) (fun t ht hW => ⟨_, rfl, (by simp [sgB, bI, c15_2, bc26_4, bc37_6]), ht⟩) (fun q h => by cases h) dX3_isSignable_45
      · have bc37_6 := bI_0 c37_6
        refine lv_iconst (v := 1) hx hb dX3_isSignable_40 (by decide) ?_
        refine lv_goto (tgt := 45) hx hb dX3_isSignable_41 (by decide) ?_
        exact W.zret (v := 1) (ty := .boolean) hx hb hr (by first | rfl | exact bI_nar _) (fun t ht hW => ⟨_, rfl, (by simp [sgB, bI, c15_2, bc26_4, bc37_6]), ht⟩) (fun q h => by cases h) dX3_isSignable_45

set_option maxHeartbeats 4000000 in
set_option maxRecDepth 100000 in
theorem c_canBeSettled (l : Launch) (G : kG) (ad : Nat → Nat) (σ : kS) (nm ns : Nat) (sh ot ar : Nat) (hns : σ 18 0 = nI ns) (hns4 : ns ≤ 40) (hnm : σ 17 0 = nI nm) (hnm2 : nm ≤ 200) (hsh : sh < ns) (hot : ot < ns) (har : ar < 5) : Met l yX3_canBeSettled [.code yX3_canBeSettled cX3_canBeSettled 5 (some .boolean)] ({ frames := 6, cells := 0, slots := 0, locals := 157 }) (va_Pc [.ref (ad 0), .int (nI sh), .int (nI ot), .int (nI ar)] (fun U => PX G ad σ U U.heap)) (vp_Si (fun r => r = bI (csB σ nm ns sh ot ar))) 0 0 NF := by
  refine k_of (by decide) (Nat.le_of_ble_eq_true rfl) (fun U h => h.2.2) ?_
  intro p e s m below meth c ls S hr hlocks hmn hB hl
  have hx := S.1
  have hb := S.2.1
  have hX : PX G ad σ s s.heap := hB
  have hl : lv_has ls 5 [(0, .ref (ad 0)), (1, .int (nI sh)), (2, .int (nI ot)), (3, .int (nI ar))] := hl
  refine lv_aload_n hx hb dX3_canBeSettled_0 rfl (lv_at hl 0 rfl) ?_
  refine k_get S hX.2 hX.1 0 (C := RX3) (T := TX3) (N := 6) rfl rfl 3 (by decide) inX3 m_134 rfl dX3_canBeSettled_1 ?_
  refine k_getN S hX.2 hX.1 4 (C := RX2) (T := TX2) (N := 4) rfl rfl 0 (by decide) inX2 n_79 rfl dX3_canBeSettled_4 ?_
  refine lv_iload_n hx hb dX3_canBeSettled_7 rfl (lv_at hl 1 rfl) ?_
  refine k_ild S hX.2 hX.1 11 (i := sh) rfl (by omega) (by decide) dX3_canBeSettled_8 ?_
  refine lv_aload_n hx hb dX3_canBeSettled_9 rfl (lv_at hl 0 rfl) ?_
  refine k_get S hX.2 hX.1 0 (C := RX3) (T := TX3) (N := 6) rfl rfl 3 (by decide) inX3 m_134 rfl dX3_canBeSettled_10 ?_
  refine k_getN S hX.2 hX.1 4 (C := RX2) (T := TX2) (N := 4) rfl rfl 0 (by decide) inX2 n_79 rfl dX3_canBeSettled_13 ?_
  refine lv_iload_n hx hb dX3_canBeSettled_16 rfl (lv_at hl 2 rfl) ?_
  refine k_ild S hX.2 hX.1 11 (i := ot) rfl (by omega) (by decide) dX3_canBeSettled_17 ?_
  refine lv_icmp_eq (tgt := 39) hx hb dX3_canBeSettled_18 (by decide) (fun c18_1 => ?_) (fun c18_1 => ?_)
  · have bc18_1 := c18_1
    refine lv_iconst (v := 0) hx hb dX3_canBeSettled_39 (by decide) ?_
    exact W.zret (v := 0) (ty := .boolean) hx hb hr (by first | rfl | exact bI_nar _) (fun t ht hW => ⟨_, rfl, (by simp [csB, bI, c18_1]), ht⟩) (fun q h => by cases h) dX3_canBeSettled_40
  · have bc18_1 := c18_1
    refine lv_aload_n hx hb dX3_canBeSettled_21 rfl (lv_at hl 0 rfl) ?_
    refine lv_iload_n hx hb dX3_canBeSettled_22 rfl (lv_at hl 1 rfl) ?_
    refine lv_iload_n hx hb dX3_canBeSettled_23 rfl (lv_at hl 3 rfl) ?_
    refine q_i (r_V S ⟨m_354, m_356, m_13, m_23, m_357⟩ ⟨rfl, by decide, by decide, by decide +kernel⟩ (c_isSignable l G ad σ sh ar (by omega) (by omega)) ⟨rfl, rfl, Nat.le_of_ble_eq_true rfl, Nat.le_of_ble_eq_true rfl⟩ (pv_X hX 0 rfl rfl bl_PX (bX hX)) (n := 2) (As := [.int (nI sh), .int (nI ar)]) (rest := []) rfl hl.1 rfl (Nat.le_of_ble_eq_true rfl) ⟨Nat.le_of_ble_eq_true rfl, Nat.le_of_ble_eq_true rfl⟩ dX3_canBeSettled_24) (fun r2 (e2 : r2 = bI (sgB σ sh ar)) => ?_)
    subst e2
    refine lv_if_eq (tgt := 39) hx hb dX3_canBeSettled_27 (by decide) (fun c27_3 => ?_) (fun c27_3 => ?_)
    · have bc27_3 := bI_0 c27_3
      refine lv_iconst (v := 0) hx hb dX3_canBeSettled_39 (by decide) ?_
      exact W.zret (v := 0) (ty := .boolean) hx hb hr (by first | rfl | exact bI_nar _) (fun t ht hW => ⟨_, rfl, (by simp [csB, bI, c18_1, bc27_3]), ht⟩) (fun q h => by cases h) dX3_canBeSettled_40
    · have bc27_3 := bI_n c27_3
      refine lv_aload_n hx hb dX3_canBeSettled_30 rfl (lv_at hl 0 rfl) ?_
      refine lv_iload_n hx hb dX3_canBeSettled_31 rfl (lv_at hl 2 rfl) ?_
      refine lv_iload_n hx hb dX3_canBeSettled_32 rfl (lv_at hl 3 rfl) ?_
      refine q_i (r_V S ⟨m_354, m_356, m_13, m_23, m_357⟩ ⟨rfl, by decide, by decide, by decide +kernel⟩ (c_isSignable l G ad σ ot ar (by omega) (by omega)) ⟨rfl, rfl, Nat.le_of_ble_eq_true rfl, Nat.le_of_ble_eq_true rfl⟩ (pv_X hX 0 rfl rfl bl_PX (bX hX)) (n := 2) (As := [.int (nI ot), .int (nI ar)]) (rest := []) rfl hl.1 rfl (Nat.le_of_ble_eq_true rfl) ⟨Nat.le_of_ble_eq_true rfl, Nat.le_of_ble_eq_true rfl⟩ dX3_canBeSettled_33) (fun r4 (e4 : r4 = bI (sgB σ ot ar)) => ?_)
      subst e4
      refine lv_if_ne (tgt := 41) hx hb dX3_canBeSettled_36 (by decide) (fun c36_5 => ?_) (fun c36_5 => ?_)
      · have bc36_5 := bI_n c36_5
        refine lv_aload_n hx hb dX3_canBeSettled_41 rfl (lv_at hl 0 rfl) ?_
        refine lv_iload_n hx hb dX3_canBeSettled_42 rfl (lv_at hl 1 rfl) ?_
        refine lv_iload_n hx hb dX3_canBeSettled_43 rfl (lv_at hl 3 rfl) ?_
        refine q_i (r_V S ⟨m_362, m_364, m_15, m_23, m_365⟩ ⟨rfl, by decide, by decide, by decide +kernel⟩ (c_gapOf l G ad σ nm ns sh ar hns hns4 hnm hnm2 (by omega) (by omega)) ⟨rfl, rfl, Nat.le_of_ble_eq_true rfl, Nat.le_of_ble_eq_true rfl⟩ (pv_X hX 0 rfl rfl bl_PX (bX hX)) (n := 2) (As := [.int (nI sh), .int (nI ar)]) (rest := []) rfl hl.1 rfl (Nat.le_of_ble_eq_true rfl) ⟨Nat.le_of_ble_eq_true rfl, Nat.le_of_ble_eq_true rfl⟩ dX3_canBeSettled_44) (fun r6 (e6 : r6 = gpV σ nm ns sh ar) => ?_)
        subst e6
        refine lv_istore (lv' := [(4, .int (gpV σ nm ns sh ar)), (0, .ref (ad 0)), (1, .int (nI sh)), (2, .int (nI ot)), (3, .int (nI ar))]) hx hb dX3_canBeSettled_47 hl (by decide) rfl (fun ls hl => ?_)
        refine lv_iload hx hb dX3_canBeSettled_49 (lv_at hl 0 rfl) ?_
        refine lv_if_eq (tgt := 70) hx hb dX3_canBeSettled_51 (by decide) (fun c51_7 => ?_) (fun c51_7 => ?_)
        · have bc51_7 := c51_7
          refine lv_iconst (v := 0) hx hb dX3_canBeSettled_70 (by decide) ?_
          exact W.zret (v := 0) (ty := .boolean) hx hb hr (by first | rfl | exact bI_nar _) (fun t ht hW => ⟨_, rfl, (by simp [csB, bI, c18_1, bc27_3, bc36_5, c51_7]), ht⟩) (fun q h => by cases h) dX3_canBeSettled_71
        · have bc51_7 := c51_7
          refine lv_iload hx hb dX3_canBeSettled_54 (lv_at hl 0 rfl) ?_
          refine lv_aload_n hx hb dX3_canBeSettled_56 rfl (lv_at hl 1 rfl) ?_
          refine lv_iload_n hx hb dX3_canBeSettled_57 rfl (lv_at hl 3 rfl) ?_
          refine lv_iload_n hx hb dX3_canBeSettled_58 rfl (lv_at hl 4 rfl) ?_
          refine q_i (r_V S ⟨m_362, m_364, m_15, m_23, m_365⟩ ⟨rfl, by decide, by decide, by decide +kernel⟩ (c_gapOf l G ad σ nm ns ot ar hns hns4 hnm hnm2 (by omega) (by omega)) ⟨rfl, rfl, Nat.le_of_ble_eq_true rfl, Nat.le_of_ble_eq_true rfl⟩ (pv_X hX 0 rfl rfl bl_PX (bX hX)) (n := 2) (As := [.int (nI ot), .int (nI ar)]) (rest := [.int (gpV σ nm ns sh ar)]) rfl hl.1 rfl (Nat.le_of_ble_eq_true rfl) ⟨Nat.le_of_ble_eq_true rfl, Nat.le_of_ble_eq_true rfl⟩ dX3_canBeSettled_59) (fun r8 (e8 : r8 = gpV σ nm ns ot ar) => ?_)
          subst e8
          refine lv_iadd hx hb dX3_canBeSettled_62 ?_
          refine lv_if_ne (tgt := 70) hx hb dX3_canBeSettled_63 (by decide) (fun c63_9 => ?_) (fun c63_9 => ?_)
          · have bc63_9 := c63_9
            refine lv_iconst (v := 0) hx hb dX3_canBeSettled_70 (by decide) ?_
            exact W.zret (v := 0) (ty := .boolean) hx hb hr (by first | rfl | exact bI_nar _) (fun t ht hW => ⟨_, rfl, (by simp [csB, bI, c18_1, bc27_3, bc36_5, c51_7, c63_9]), ht⟩) (fun q h => by cases h) dX3_canBeSettled_71
          · have bc63_9 := c63_9
            refine lv_iconst (v := 1) hx hb dX3_canBeSettled_66 (by decide) ?_
            refine lv_goto (tgt := 71) hx hb dX3_canBeSettled_67 (by decide) ?_
            exact W.zret (v := 1) (ty := .boolean) hx hb hr (by first | rfl | exact bI_nar _) (fun t ht hW => ⟨_, rfl, (by simp [csB, bI, c18_1, bc27_3, bc36_5, c51_7, c63_9]), ht⟩) (fun q h => by cases h) dX3_canBeSettled_71
      · have bc36_5 := bI_0 c36_5
        refine lv_iconst (v := 0) hx hb dX3_canBeSettled_39 (by decide) ?_
        exact W.zret (v := 0) (ty := .boolean) hx hb hr (by first | rfl | exact bI_nar _) (fun t ht hW => ⟨_, rfl, (by simp [csB, bI, c18_1, bc27_3, bc36_5]), ht⟩) (fun q h => by cases h) dX3_canBeSettled_40

set_option maxHeartbeats 4000000 in
set_option maxRecDepth 100000 in
theorem c_worthOf (l : Launch) (G : kG) (ad : Nat → Nat) (σ : kS) (nm ns : Nat) (pl : Int32) (hns : σ 18 0 = nI ns) (hns4 : ns ≤ 40) (hnm : σ 17 0 = nI nm) (hnm2 : nm ≤ 200) : Met l yX3_worthOf [.code yX3_worthOf cX3_worthOf 4 (some .int)] ({ frames := 5, cells := 0, slots := 0, locals := 134 }) (va_Pc [.ref (ad 0), .int pl] (fun U => PX G ad σ U U.heap)) (vp_Si (fun r => r = woF σ nm ns pl 5)) 0 0 NF := by
  refine k_of (by decide) (Nat.le_of_ble_eq_true rfl) (fun U h => h.2.2) ?_
  intro p e s m below meth c ls S hr hlocks hmn hB hl
  have hx := S.1
  have hb := S.2.1
  have hX : PX G ad σ s s.heap := hB
  have hl : lv_has ls 4 [(0, .ref (ad 0)), (1, .int pl)] := hl
  have L4 : ∀ (n i : Nat), i ≤ 5 → 5 + 1 ≤ i + n → ∀ ls, lv_has ls 4 [(0, .ref (ad 0)), (1, .int pl), (2, .int (woF σ nm ns pl i)), (3, .int (nI i))] → W p l e ({ frames := 5, cells := 0, slots := 0, locals := 134 } : Room) s m [.ref (ad 0), .int pl].toArray below meth c s.heap [] 0 0 (MQ below (vp_Si (fun r => r = woF σ nm ns pl 5)) [.ref (ad 0), .int pl].toArray s 0 0 NF) (F0 m 4 ls []) := by
    intro n
    induction n with
    | zero =>
      intro i h1 h2
      omega
    | succ n ih =>
      intro i hi hin ls hl
      refine lv_iload_n hx hb dX3_worthOf_4 rfl (lv_at hl 3 rfl) ?_
      refine lv_iconst (v := 5) hx hb dX3_worthOf_5 (by decide) ?_
      refine lv_icmp_ge (tgt := 39) hx hb dX3_worthOf_6 (by decide) (fun c6_1 => ?_) (fun c6_1 => ?_)
      · have bc6_1 := le_nlt c6_1
        have hge : i = 5 := by
          have h9 := c6_1
          rw [show (5 : Int32) = nI 5 from rfl, nI_leI (by omega) (by omega)] at h9
          omega
        refine lv_iload_n hx hb dX3_worthOf_39 rfl (lv_at hl 2 rfl) ?_
        exact W.iret (v := woF σ nm ns pl i) hx hb hr (fun t ht hW => ⟨_, rfl, (by rw [hge]), ht⟩) (fun q h => by cases h) dX3_worthOf_40
      · have bc6_1 := nle_lt c6_1
        have hlt : i < 5 := by
          have h9 := nle_lt c6_1
          rw [show (5 : Int32) = nI 5 from rfl, nI_ltI (by omega) (by omega)] at h9
          exact h9
        refine lv_iload_n hx hb dX3_worthOf_9 rfl (lv_at hl 2 rfl) ?_
        refine lv_aload_n hx hb dX3_worthOf_10 rfl (lv_at hl 0 rfl) ?_
        refine k_get S hX.2 hX.1 0 (C := RX3) (T := TX3) (N := 6) rfl rfl 0 (by decide) inX3 m_131 rfl dX3_worthOf_11 ?_
        refine lv_iload_n hx hb dX3_worthOf_14 rfl (lv_at hl 3 rfl) ?_
        refine k_ild S hX.2 hX.1 1 (i := i) rfl (by omega) (by decide) dX3_worthOf_15 ?_
        refine lv_iconst (v := 0) hx hb dX3_worthOf_16 (by decide) ?_
        refine lv_aload_n hx hb dX3_worthOf_17 rfl (lv_at hl 0 rfl) ?_
        refine lv_iload_n hx hb dX3_worthOf_18 rfl (lv_at hl 1 rfl) ?_
        refine lv_iload_n hx hb dX3_worthOf_19 rfl (lv_at hl 3 rfl) ?_
        refine lv_aload_n hx hb dX3_worthOf_20 rfl (lv_at hl 0 rfl) ?_
        refine k_get S hX.2 hX.1 0 (C := RX3) (T := TX3) (N := 6) rfl rfl 5 (by decide) inX3 m_136 rfl dX3_worthOf_21 ?_
        refine q_i (r_V S ⟨m_175, m_177, m_4, m_23, m_178⟩ ⟨rfl, by decide, by decide, by decide +kernel⟩ (c_bookOf l G ad σ nm ns pl i (σ 16 0) hns hns4 hnm hnm2 (by omega)) ⟨rfl, rfl, Nat.le_of_ble_eq_true rfl, Nat.le_of_ble_eq_true rfl⟩ (pv_X hX 0 rfl rfl bl_PX (bX hX)) (n := 3) (As := [.int pl, .int (nI i), .int (σ 16 0)]) (rest := [.int 0, .int (σ 0 i), .int (woF σ nm ns pl i)]) rfl hl.1 rfl (Nat.le_of_ble_eq_true rfl) ⟨Nat.le_of_ble_eq_true rfl, Nat.le_of_ble_eq_true rfl⟩ dX3_worthOf_24) (fun r2 (e2 : r2 = boV σ nm ns pl i (σ 16 0)) => ?_)
        subst e2
        refine va_mmax hx hb (S.2.2.1.trans hl.1.symm) S.2.2.2.1 (S.2.2.2.2 _ m_198) (S.2.2.2.2 _ m_199) (S.2.2.2.2 _ m_28) (S.2.2.2.2 _ m_200) (Nat.le_of_ble_eq_true rfl) (Nat.le_of_ble_eq_true rfl) (Nat.le_of_ble_eq_true rfl) (Nat.le_of_ble_eq_true rfl) dX3_worthOf_27 ?_
        refine lv_imul hx hb dX3_worthOf_30 ?_
        refine lv_iadd hx hb dX3_worthOf_31 ?_
        refine lv_istore_n (lv' := [(2, .int ((woF σ nm ns pl i) + ((σ 0 i) * (if 0 < boV σ nm ns pl i (σ 16 0) then boV σ nm ns pl i (σ 16 0) else 0)))), (0, .ref (ad 0)), (1, .int pl), (3, .int (nI i))]) hx hb dX3_worthOf_32 rfl hl (by decide) rfl (fun ls hl => ?_)
        refine lv_iinc (v := nI (i + 1)) (lv' := [(3, .int (nI (i + 1))), (2, .int ((woF σ nm ns pl i) + ((σ 0 i) * (if 0 < boV σ nm ns pl i (σ 16 0) then boV σ nm ns pl i (σ 16 0) else 0)))), (0, .ref (ad 0)), (1, .int pl)]) hx hb dX3_worthOf_33 hl (k := 3) rfl (nI_1 i) (by decide) rfl (fun ls hl => ?_)
        refine lv_goto (tgt := 4) hx hb dX3_worthOf_36 (by decide) ?_
        have ev3 : (woF σ nm ns pl i) + ((σ 0 i) * (if 0 < boV σ nm ns pl i (σ 16 0) then boV σ nm ns pl i (σ 16 0) else 0)) = woF σ nm ns pl (i + 1) := by simp [woF, c6_1, bc6_1]
        rw [ev3] at hl
        exact ih (i + 1) hlt (by omega) ls (lv_sub hl [2, 3, 1, 0] rfl)
  refine lv_iconst (v := 0) hx hb dX3_worthOf_0 (by decide) ?_
  refine lv_istore_n (lv' := [(2, .int 0), (0, .ref (ad 0)), (1, .int pl)]) hx hb dX3_worthOf_1 rfl hl (by decide) rfl (fun ls hl => ?_)
  refine lv_iconst (v := 0) hx hb dX3_worthOf_2 (by decide) ?_
  refine lv_istore_n (lv' := [(3, .int 0), (2, .int 0), (0, .ref (ad 0)), (1, .int pl)]) hx hb dX3_worthOf_3 rfl hl (by decide) rfl (fun ls hl => ?_)
  exact L4 6 0 (Nat.zero_le _) (by omega) ls (lv_sub hl [2, 3, 1, 0] rfl)

set_option maxHeartbeats 4000000 in
set_option maxRecDepth 100000 in
theorem c_urgencyOf (l : Launch) (G : kG) (ad : Nat → Nat) (σ : kS) (nm ns : Nat) (pl : Int32) (hns : σ 18 0 = nI ns) (hns4 : ns ≤ 40) (hnm : σ 17 0 = nI nm) (hnm2 : nm ≤ 200) : Met l yX3_urgencyOf [.code yX3_urgencyOf cX3_urgencyOf 5 (some .long)] ({ frames := 6, cells := 0, slots := 0, locals := 157 }) (va_Pc [.ref (ad 0), .int pl] (fun U => PX G ad σ U U.heap)) (vp_Sl (fun r => r = urV σ nm ns pl)) 0 0 NF := by
  refine k_of (by decide) (Nat.le_of_ble_eq_true rfl) (fun U h => h.2.2) ?_
  intro p e s m below meth c ls S hr hlocks hmn hB hl
  have hx := S.1
  have hb := S.2.1
  have hX : PX G ad σ s s.heap := hB
  have hl : lv_has ls 5 [(0, .ref (ad 0)), (1, .int pl)] := hl
  refine lv_aload_n hx hb dX3_urgencyOf_0 rfl (lv_at hl 0 rfl) ?_
  refine k_get S hX.2 hX.1 0 (C := RX3) (T := TX3) (N := 6) rfl rfl 3 (by decide) inX3 m_134 rfl dX3_urgencyOf_1 ?_
  refine lv_iload_n hx hb dX3_urgencyOf_4 rfl (lv_at hl 1 rfl) ?_
  refine q_i (r_VN S hX.2.2 ⟨n_170, m_164, m_1, m_25, m_165⟩ ⟨rfl, by decide, by decide, by decide +kernel⟩ (c_latestFor l G ad σ ns pl hns hns4) ⟨rfl, rfl, Nat.le_of_ble_eq_true rfl, Nat.le_of_ble_eq_true rfl⟩ (pv_X hX 4 rfl rfl bl_PX (bX hX)) (n := 1) (As := [.int pl]) (rest := []) rfl hl.1 rfl (Nat.le_of_ble_eq_true rfl) ⟨Nat.le_of_ble_eq_true rfl, Nat.le_of_ble_eq_true rfl⟩ dX3_urgencyOf_5) (fun r1 (e1 : r1 = oI (latO σ pl ns)) => ?_)
  subst e1
  rcases hla : latO σ pl ns with _ | k
  · show W _ _ _ _ _ _ _ _ _ _ _ _ _ _ _ (F0 m 8 ls [.int (-1)])
    refine lv_istore_n (lv' := [(2, .int (-1)), (0, .ref (ad 0)), (1, .int pl)]) hx hb dX3_urgencyOf_8 rfl hl (by decide) rfl (fun ls hl => ?_)
    refine lv_iload_n hx hb dX3_urgencyOf_9 rfl (lv_at hl 0 rfl) ?_
    refine lv_iconst (v := (-1)) hx hb dX3_urgencyOf_10 (by decide) ?_
    refine lv_icmp_ne (tgt := 24) hx hb dX3_urgencyOf_11 (by decide) (fun c11_2 => ?_) (fun c11_2 => ?_)
    · have bc11_2 := c11_2
      exact absurd rfl c11_2
    · have bc11_2 := c11_2
      refine lv_aload_n hx hb dX3_urgencyOf_14 rfl (lv_at hl 1 rfl) ?_
      refine k_get S hX.2 hX.1 0 (C := RX3) (T := TX3) (N := 6) rfl rfl 5 (by decide) inX3 m_136 rfl dX3_urgencyOf_15 ?_
      refine lv_i2l (v := ((σ 16 0)).toInt64) hx hb dX3_urgencyOf_18 rfl ?_
      refine lv_lconst (v := 1) hx hb dX3_urgencyOf_19 (by decide) ?_
      refine lv_ladd hx hb dX3_urgencyOf_20 ?_
      refine lv_goto (tgt := 39) hx hb dX3_urgencyOf_21 (by decide) ?_
      refine lv_lstore_n (lv' := [(3, .long ((((σ 16 0)).toInt64) + 1)), (2, .int (-1)), (0, .ref (ad 0)), (1, .int pl)]) hx hb dX3_urgencyOf_39 rfl hl (by decide) rfl (fun ls hl => ?_)
      refine lv_aload_n hx hb dX3_urgencyOf_40 rfl (lv_at hl 2 rfl) ?_
      refine lv_iload_n hx hb dX3_urgencyOf_41 rfl (lv_at hl 3 rfl) ?_
      refine q_i (r_V S ⟨m_171, m_173, m_3, m_23, m_174⟩ ⟨rfl, by decide, by decide, by decide +kernel⟩ (c_worthOf l G ad σ nm ns pl hns hns4 hnm hnm2) ⟨rfl, rfl, Nat.le_of_ble_eq_true rfl, Nat.le_of_ble_eq_true rfl⟩ (pv_X hX 0 rfl rfl bl_PX (bX hX)) (n := 1) (As := [.int pl]) (rest := []) rfl hl.1 rfl (Nat.le_of_ble_eq_true rfl) ⟨Nat.le_of_ble_eq_true rfl, Nat.le_of_ble_eq_true rfl⟩ dX3_urgencyOf_42) (fun r3 (e3 : r3 = woF σ nm ns pl 5) => ?_)
      subst e3
      refine lv_i2l (v := ((woF σ nm ns pl 5)).toInt64) hx hb dX3_urgencyOf_45 rfl ?_
      refine lv_lconst (v := 1) hx hb dX3_urgencyOf_46 (by decide) ?_
      refine lv_ladd hx hb dX3_urgencyOf_47 ?_
      refine lv_lload_n hx hb dX3_urgencyOf_48 rfl (lv_at hl 0 rfl) ?_
      refine lv_lmul hx hb dX3_urgencyOf_49 ?_
      exact W.lret (v := ((((woF σ nm ns pl 5)).toInt64) + 1) * ((((σ 16 0)).toInt64) + 1)) hx hb hr (fun t ht hW => ⟨_, rfl, (by simp [urV, hla, c11_2]), ht⟩) (fun q h => by cases h) dX3_urgencyOf_50
  · show W _ _ _ _ _ _ _ _ _ _ _ _ _ _ _ (F0 m 8 ls [.int (nI k)])
    have hkn := (latO_lt hla).1
    refine lv_istore_n (lv' := [(2, .int (nI k)), (0, .ref (ad 0)), (1, .int pl)]) hx hb dX3_urgencyOf_8 rfl hl (by decide) rfl (fun ls hl => ?_)
    refine lv_iload_n hx hb dX3_urgencyOf_9 rfl (lv_at hl 0 rfl) ?_
    refine lv_iconst (v := (-1)) hx hb dX3_urgencyOf_10 (by decide) ?_
    refine lv_icmp_ne (tgt := 24) hx hb dX3_urgencyOf_11 (by decide) (fun c11_4 => ?_) (fun c11_4 => ?_)
    · have bc11_4 := c11_4
      refine lv_aload_n hx hb dX3_urgencyOf_24 rfl (lv_at hl 1 rfl) ?_
      refine k_get S hX.2 hX.1 0 (C := RX3) (T := TX3) (N := 6) rfl rfl 5 (by decide) inX3 m_136 rfl dX3_urgencyOf_25 ?_
      refine lv_aload_n hx hb dX3_urgencyOf_28 rfl (lv_at hl 1 rfl) ?_
      refine k_get S hX.2 hX.1 0 (C := RX3) (T := TX3) (N := 6) rfl rfl 3 (by decide) inX3 m_134 rfl dX3_urgencyOf_29 ?_
      refine k_getN S hX.2 hX.1 4 (C := RX2) (T := TX2) (N := 4) rfl rfl 1 (by decide) inX2 n_81 rfl dX3_urgencyOf_32 ?_
      refine lv_iload_n hx hb dX3_urgencyOf_35 rfl (lv_at hl 0 rfl) ?_
      refine k_ild S hX.2 hX.1 12 (i := k) rfl (by omega) (by decide) dX3_urgencyOf_36 ?_
      refine lv_isub hx hb dX3_urgencyOf_37 ?_
      refine lv_i2l (v := (((σ 16 0) - (σ 8 k))).toInt64) hx hb dX3_urgencyOf_38 rfl ?_
      refine lv_lstore_n (lv' := [(3, .long ((((σ 16 0) - (σ 8 k))).toInt64)), (2, .int (nI k)), (0, .ref (ad 0)), (1, .int pl)]) hx hb dX3_urgencyOf_39 rfl hl (by decide) rfl (fun ls hl => ?_)
      refine lv_aload_n hx hb dX3_urgencyOf_40 rfl (lv_at hl 2 rfl) ?_
      refine lv_iload_n hx hb dX3_urgencyOf_41 rfl (lv_at hl 3 rfl) ?_
      refine q_i (r_V S ⟨m_171, m_173, m_3, m_23, m_174⟩ ⟨rfl, by decide, by decide, by decide +kernel⟩ (c_worthOf l G ad σ nm ns pl hns hns4 hnm hnm2) ⟨rfl, rfl, Nat.le_of_ble_eq_true rfl, Nat.le_of_ble_eq_true rfl⟩ (pv_X hX 0 rfl rfl bl_PX (bX hX)) (n := 1) (As := [.int pl]) (rest := []) rfl hl.1 rfl (Nat.le_of_ble_eq_true rfl) ⟨Nat.le_of_ble_eq_true rfl, Nat.le_of_ble_eq_true rfl⟩ dX3_urgencyOf_42) (fun r5 (e5 : r5 = woF σ nm ns pl 5) => ?_)
      subst e5
      refine lv_i2l (v := ((woF σ nm ns pl 5)).toInt64) hx hb dX3_urgencyOf_45 rfl ?_
      refine lv_lconst (v := 1) hx hb dX3_urgencyOf_46 (by decide) ?_
      refine lv_ladd hx hb dX3_urgencyOf_47 ?_
      refine lv_lload_n hx hb dX3_urgencyOf_48 rfl (lv_at hl 0 rfl) ?_
      refine lv_lmul hx hb dX3_urgencyOf_49 ?_
      exact W.lret (v := ((((woF σ nm ns pl 5)).toInt64) + 1) * ((((σ 16 0) - (σ 8 k))).toInt64)) hx hb hr (fun t ht hW => ⟨_, rfl, (by simp [urV, hla, c11_4]), ht⟩) (fun q h => by cases h) dX3_urgencyOf_50
    · have bc11_4 := c11_4
      exact absurd c11_4 (nI_m1 (by omega))
