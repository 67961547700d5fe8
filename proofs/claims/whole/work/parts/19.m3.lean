theorem bft (b : Bool) : b = false ∨ b = true := by cases b; exact Or.inl rfl; exact Or.inr rfl
def coM (μ : kS) (k : Nat) (who q9 : Int32) : kS := su (su (su μ 21 (3 * k + ixN (μ 20 k)) who) 22 (3 * k + ixN (μ 20 k)) q9) 20 k (nI (ixN (μ 20 k) + 1))
theorem agM_lt {μ : kS} {k cn : Nat} (hcn : μ 20 k = nI cn) (h3 : cn ≤ 3) (hk : k < 200) (hq : ∀ k, k < 600 → μ 22 k ≠ -1) (h : agM μ k = -1) : cn < 3 := by
  rcases Nat.lt_or_ge cn 3 with h1 | h1
  · exact h1
  · have e : cn = 3 := by omega
    subst e
    exfalso
    have a1 := hq (3 * k) (by omega)
    have a2 := hq (3 * k + 1) (by omega)
    have a3 := hq (3 * k + 2) (by omega)
    have b1 : ¬ nI 3 < 2 := by decide
    have b2 : ¬ nI 3 = 2 := by decide
    unfold agM at h
    rw [hcn, if_neg b1, if_neg b2] at h
    split at h
    · exact a1 h
    · split at h
      · exact a1 h
      · split at h
        · exact a2 h
        · split at h
          · exact a2 h
          · split at h
            · exact a1 h
            · exact a3 h
set_option maxHeartbeats 4000000 in
set_option maxRecDepth 100000 in
theorem c4_gap (l : Launch) (G : kG) (ad : Nat → Nat) (σ : kS) (nm ns : Nat) (za0 zb0 : Int32) (hns : σ 18 0 = nI ns) (hns4 : ns ≤ 40) (hnm : σ 17 0 = nI nm) (hnm2 : nm ≤ 200)  (A : Nat → Prop) (hD : DD 16 A ad) : Met l yX4_gap [.code yX4_gap cX4_gap 4 (some .int)] ({ frames := 4, cells := 0, slots := 0, locals := 117 }) (va_Pc [.ref (ad 0), .int za0, .int zb0] (fun U => PM G ad σ U U.heap)) (oW A (fun r => r = vM (ckR za0 0 (σ 18 0 - 1) && ckR zb0 0 4, ckR za0 0 (σ 18 0 - 1) && ckR zb0 0 4 && grM σ (lnN za0 zb0), true) (gpM (su σ 23 0 0) nm ns (ixN za0) (ixN zb0))) (fun H9 => va_P G.1 vwCl (wM G ad (sM (ckR za0 0 (σ 18 0 - 1) && ckR zb0 0 4, ckR za0 0 (σ 18 0 - 1) && ckR zb0 0 4 && grM σ (lnN za0 zb0), true) σ (fun μ => μ))) H9)) 0 0 A := by
  refine k_of (by decide) (Nat.le_of_ble_eq_true rfl) (fun U h => h.2.2) ?_
  intro p e s m below meth c ls S hr hlocks hmn hB hl
  have hx := S.1
  have hb := S.2.1
  have hX : PM G ad σ s s.heap := hB
  have hS0 : va_S A s.heap s.heap [] := va_S.rf
  have hl : lv_has ls 4 [(0, .ref (ad 0)), (1, .int za0), (2, .int zb0)] := hl
  have J20 : ∀ ls, lv_has ls 4 [(0, .ref (ad 0)), (1, .int za0), (2, .int zb0)] → W p l e ({ frames := 4, cells := 0, slots := 0, locals := 117 } : Room) s m [.ref (ad 0), .int za0, .int zb0].toArray below meth c s.heap [] 0 0 (MQ below (oW A (fun r => r = vM (ckR za0 0 (σ 18 0 - 1) && ckR zb0 0 4, ckR za0 0 (σ 18 0 - 1) && ckR zb0 0 4 && grM σ (lnN za0 zb0), true) (gpM (su σ 23 0 0) nm ns (ixN za0) (ixN zb0))) (fun H9 => va_P G.1 vwCl (wM G ad (sM (ckR za0 0 (σ 18 0 - 1) && ckR zb0 0 4, ckR za0 0 (σ 18 0 - 1) && ckR zb0 0 4 && grM σ (lnN za0 zb0), true) σ (fun μ => μ))) H9)) [.ref (ad 0), .int za0, .int zb0].toArray s 0 0 A) (F0 m 20 ls [.int (bI (ckR za0 0 (σ 18 0 - 1) && ckR zb0 0 4))]) := by
    intro ls hl
    rcases bft (ckR za0 0 (σ 18 0 - 1) && ckR zb0 0 4) with hE | hE
    · refine k_eq (y := 0) (by rw [hE]; rfl) ?_
      refine lv_istore_n (lv' := [(3, .int 0), (0, .ref (ad 0)), (1, .int za0), (2, .int zb0)]) hx hb dX4_gap_20 rfl hl (by decide) rfl (fun ls hl => ?_)
      refine lv_aload_n hx hb dX4_gap_21 rfl (lv_at hl 1 rfl) ?_
      refine lv_iload_n hx hb dX4_gap_22 rfl (lv_at hl 0 rfl) ?_
      refine lv_iload_n hx hb dX4_gap_23 rfl (lv_at hl 0 rfl) ?_
      refine lv_if_eq (tgt := 40) hx hb dX4_gap_24 (by decide) (fun c24_1 => ?_) (fun c24_1 => ?_)
      · have bc24_1 := c24_1
        refine lv_iconst (v := 0) hx hb dX4_gap_40 (by decide) ?_
        refine lv_iconst (v := 1) hx hb dX4_gap_41 (by decide) ?_
        refine q_w (r_V S ⟨m_650, m_652, m_22, m_40, m_653⟩ ⟨rfl, by decide, by decide, by decide +kernel⟩ (c4_goes l G ad σ false false true A hD) ⟨rfl, rfl, Nat.le_of_ble_eq_true rfl, Nat.le_of_ble_eq_true rfl⟩ (pv_M hX bl_PM (bM hX)) (n := 3) (As := [.int (bI false), .int (bI false), .int (bI true)]) (rest := []) rfl hl.1 rfl (Nat.le_of_ble_eq_true rfl) ⟨Nat.le_of_ble_eq_true rfl, Nat.le_of_ble_eq_true rfl⟩ dX4_gap_42) hS0 (fun _ h => h) (fun r2 H2 L2 (e2 : r2 = bI (go3 (false, false, true))) h2 _ _ hS2 => ?_)
        subst e2
        have hX2 : PM G ad (su σ 23 0 (goV (false, false, true))) s H2 := ⟨h2, hX.2⟩
        refine lv_if_eq (tgt := 57) hx hb dX4_gap_45 (by decide) (fun c45_3 => ?_) (fun c45_3 => ?_)
        · have bc45_3 := bI_0 c45_3
          refine lv_iconst (v := 0) hx hb dX4_gap_57 (by decide) ?_
          exact W.iret (v := 0) hx hb hr (fun t ht hW => ⟨⟨_, rfl, (by rw [show (ckR za0 0 (σ 18 0 - 1) && ckR zb0 0 4, ckR za0 0 (σ 18 0 - 1) && ckR zb0 0 4 && grM σ (lnN za0 zb0), true) = (false, false, true) by simp [lnN, hE]]; rw [vM_f bc45_3])⟩, (by have e9 : sM (ckR za0 0 (σ 18 0 - 1) && ckR zb0 0 4, ckR za0 0 (σ 18 0 - 1) && ckR zb0 0 4 && grM σ (lnN za0 zb0), true) σ (fun μ => μ) = su σ 23 0 (goV (false, false, true)) := (by rw [show (ckR za0 0 (σ 18 0 - 1) && ckR zb0 0 4, ckR za0 0 (σ 18 0 - 1) && ckR zb0 0 4 && grM σ (lnN za0 zb0), true) = (false, false, true) by simp [lnN, hE]]; rw [sM_f bc45_3]); show va_P G.1 vwCl (wM G ad (sM (ckR za0 0 (σ 18 0 - 1) && ckR zb0 0 4, ckR za0 0 (σ 18 0 - 1) && ckR zb0 0 4 && grM σ (lnN za0 zb0), true) σ (fun μ => μ))) t.heap; rw [e9, ht]; exact hX2.1), hS2.F ht⟩) hS2.2.2 dX4_gap_58
        · have bc45_3 := bI_n c45_3
          exact absurd bc45_3 (by simp [go3])
      · exact absurd c24_1 (by decide)
    · refine k_eq (y := 1) (by rw [hE]; rfl) ?_
      obtain ⟨hE1, hE2⟩ := Bool.and_eq_true_iff.mp hE
      obtain ⟨sh, hsh, rfl⟩ := ckR_nI (n := ns) (by rw [← hns]; exact hE1) (by omega)
      have h31sh : sh < 2 ^ 31 := by omega
      obtain ⟨ar, har, rfl⟩ := ckR_lit (n := 4) hE2 (by decide)
      have h31ar : ar < 2 ^ 31 := by omega
      refine lv_istore_n (lv' := [(3, .int 1), (0, .ref (ad 0)), (1, .int (nI sh)), (2, .int (nI ar))]) hx hb dX4_gap_20 rfl hl (by decide) rfl (fun ls hl => ?_)
      refine lv_aload_n hx hb dX4_gap_21 rfl (lv_at hl 1 rfl) ?_
      refine lv_iload_n hx hb dX4_gap_22 rfl (lv_at hl 0 rfl) ?_
      refine lv_iload_n hx hb dX4_gap_23 rfl (lv_at hl 0 rfl) ?_
      refine lv_if_eq (tgt := 40) hx hb dX4_gap_24 (by decide) (fun c24_4 => ?_) (fun c24_4 => ?_)
      · exact absurd c24_4 (by decide)
      · have bc24_4 := c24_4
        refine lv_aload_n hx hb dX4_gap_27 rfl (lv_at hl 1 rfl) ?_
        refine lv_iload_n hx hb dX4_gap_28 rfl (lv_at hl 2 rfl) ?_
        refine lv_iload_n hx hb dX4_gap_29 rfl (lv_at hl 3 rfl) ?_
        refine q_i (r_V S ⟨m_706, m_708, m_27, m_40, m_709⟩ ⟨rfl, by decide, by decide, by decide +kernel⟩ (c4_agrees l G ad σ sh ar (by omega) (by omega)) ⟨rfl, rfl, Nat.le_of_ble_eq_true rfl, Nat.le_of_ble_eq_true rfl⟩ (pv_M hX bl_PM (bM hX)) (n := 2) (As := [.int (nI sh), .int (nI ar)]) (rest := [.int 1, .ref (ad 0)]) rfl hl.1 rfl (Nat.le_of_ble_eq_true rfl) ⟨Nat.le_of_ble_eq_true rfl, Nat.le_of_ble_eq_true rfl⟩ dX4_gap_30) (fun r5 (e5 : r5 = bI (grM σ (sh * 5 + ar))) => ?_)
        subst e5
        refine lv_if_eq (tgt := 40) hx hb dX4_gap_33 (by decide) (fun c33_6 => ?_) (fun c33_6 => ?_)
        · have bc33_6 := bI_0 c33_6
          refine lv_iconst (v := 0) hx hb dX4_gap_40 (by decide) ?_
          refine lv_iconst (v := 1) hx hb dX4_gap_41 (by decide) ?_
          refine q_w (r_V S ⟨m_650, m_652, m_22, m_40, m_653⟩ ⟨rfl, by decide, by decide, by decide +kernel⟩ (c4_goes l G ad σ true false true A hD) ⟨rfl, rfl, Nat.le_of_ble_eq_true rfl, Nat.le_of_ble_eq_true rfl⟩ (pv_M hX bl_PM (bM hX)) (n := 3) (As := [.int (bI true), .int (bI false), .int (bI true)]) (rest := []) rfl hl.1 rfl (Nat.le_of_ble_eq_true rfl) ⟨Nat.le_of_ble_eq_true rfl, Nat.le_of_ble_eq_true rfl⟩ dX4_gap_42) hS0 (fun _ h => h) (fun r7 H7 L7 (e7 : r7 = bI (go3 (true, false, true))) h7 _ _ hS7 => ?_)
          subst e7
          have hX7 : PM G ad (su σ 23 0 (goV (true, false, true))) s H7 := ⟨h7, hX.2⟩
          refine lv_if_eq (tgt := 57) hx hb dX4_gap_45 (by decide) (fun c45_8 => ?_) (fun c45_8 => ?_)
          · have bc45_8 := bI_0 c45_8
            refine lv_iconst (v := 0) hx hb dX4_gap_57 (by decide) ?_
            exact W.iret (v := 0) hx hb hr (fun t ht hW => ⟨⟨_, rfl, (by rw [show (ckR (nI sh) 0 (σ 18 0 - 1) && ckR (nI ar) 0 4, ckR (nI sh) 0 (σ 18 0 - 1) && ckR (nI ar) 0 4 && grM σ (lnN (nI sh) (nI ar)), true) = (true, false, true) by simp [lnN, ixN_nI h31sh, ixN_nI h31ar, hE, bc33_6]]; rw [vM_f bc45_8])⟩, (by have e9 : sM (ckR (nI sh) 0 (σ 18 0 - 1) && ckR (nI ar) 0 4, ckR (nI sh) 0 (σ 18 0 - 1) && ckR (nI ar) 0 4 && grM σ (lnN (nI sh) (nI ar)), true) σ (fun μ => μ) = su σ 23 0 (goV (true, false, true)) := (by rw [show (ckR (nI sh) 0 (σ 18 0 - 1) && ckR (nI ar) 0 4, ckR (nI sh) 0 (σ 18 0 - 1) && ckR (nI ar) 0 4 && grM σ (lnN (nI sh) (nI ar)), true) = (true, false, true) by simp [lnN, ixN_nI h31sh, ixN_nI h31ar, hE, bc33_6]]; rw [sM_f bc45_8]); show va_P G.1 vwCl (wM G ad (sM (ckR (nI sh) 0 (σ 18 0 - 1) && ckR (nI ar) 0 4, ckR (nI sh) 0 (σ 18 0 - 1) && ckR (nI ar) 0 4 && grM σ (lnN (nI sh) (nI ar)), true) σ (fun μ => μ))) t.heap; rw [e9, ht]; exact hX7.1), hS7.F ht⟩) hS7.2.2 dX4_gap_58
          · have bc45_8 := bI_n c45_8
            exact absurd bc45_8 (by simp [go3])
        · have bc33_6 := bI_n c33_6
          refine lv_iconst (v := 1) hx hb dX4_gap_36 (by decide) ?_
          refine lv_goto (tgt := 41) hx hb dX4_gap_37 (by decide) ?_
          refine lv_iconst (v := 1) hx hb dX4_gap_41 (by decide) ?_
          refine q_w (r_V S ⟨m_650, m_652, m_22, m_40, m_653⟩ ⟨rfl, by decide, by decide, by decide +kernel⟩ (c4_goes l G ad σ true true true A hD) ⟨rfl, rfl, Nat.le_of_ble_eq_true rfl, Nat.le_of_ble_eq_true rfl⟩ (pv_M hX bl_PM (bM hX)) (n := 3) (As := [.int (bI true), .int (bI true), .int (bI true)]) (rest := []) rfl hl.1 rfl (Nat.le_of_ble_eq_true rfl) ⟨Nat.le_of_ble_eq_true rfl, Nat.le_of_ble_eq_true rfl⟩ dX4_gap_42) hS0 (fun _ h => h) (fun r9 H9 L9 (e9 : r9 = bI (go3 (true, true, true))) h9 _ _ hS9 => ?_)
          subst e9
          have hX9 : PM G ad (su σ 23 0 (goV (true, true, true))) s H9 := ⟨h9, hX.2⟩
          refine lv_if_eq (tgt := 57) hx hb dX4_gap_45 (by decide) (fun c45_10 => ?_) (fun c45_10 => ?_)
          · have bc45_10 := bI_0 c45_10
            refine lv_iconst (v := 0) hx hb dX4_gap_57 (by decide) ?_
            exact W.iret (v := 0) hx hb hr (fun t ht hW => ⟨⟨_, rfl, (by rw [show (ckR (nI sh) 0 (σ 18 0 - 1) && ckR (nI ar) 0 4, ckR (nI sh) 0 (σ 18 0 - 1) && ckR (nI ar) 0 4 && grM σ (lnN (nI sh) (nI ar)), true) = (true, true, true) by simp [lnN, ixN_nI h31sh, ixN_nI h31ar, hE, bc33_6]]; rw [vM_f bc45_10])⟩, (by have e9 : sM (ckR (nI sh) 0 (σ 18 0 - 1) && ckR (nI ar) 0 4, ckR (nI sh) 0 (σ 18 0 - 1) && ckR (nI ar) 0 4 && grM σ (lnN (nI sh) (nI ar)), true) σ (fun μ => μ) = su σ 23 0 (goV (true, true, true)) := (by rw [show (ckR (nI sh) 0 (σ 18 0 - 1) && ckR (nI ar) 0 4, ckR (nI sh) 0 (σ 18 0 - 1) && ckR (nI ar) 0 4 && grM σ (lnN (nI sh) (nI ar)), true) = (true, true, true) by simp [lnN, ixN_nI h31sh, ixN_nI h31ar, hE, bc33_6]]; rw [sM_f bc45_10]); show va_P G.1 vwCl (wM G ad (sM (ckR (nI sh) 0 (σ 18 0 - 1) && ckR (nI ar) 0 4, ckR (nI sh) 0 (σ 18 0 - 1) && ckR (nI ar) 0 4 && grM σ (lnN (nI sh) (nI ar)), true) σ (fun μ => μ))) t.heap; rw [e9, ht]; exact hX9.1), hS9.F ht⟩) hS9.2.2 dX4_gap_58
          · have bc45_10 := bI_n c45_10
            have hX11 : PM G ad (su σ 23 0 0) s H9 := by
              have h8 := hX9
              rw [goV_0 bc45_10] at h8
              exact h8
            obtain ⟨q1, q2, q3⟩ := go3_t bc45_10
            refine lv_aload_n hx hb dX4_gap_48 rfl (lv_at hl 1 rfl) ?_
            refine lv_iload_n hx hb dX4_gap_49 rfl (lv_at hl 2 rfl) ?_
            refine lv_iload_n hx hb dX4_gap_50 rfl (lv_at hl 3 rfl) ?_
            refine q_i (r_V S ⟨m_710, m_712, m_28, m_40, m_713⟩ ⟨rfl, by decide, by decide, by decide +kernel⟩ (c4_gapOf l G ad (su σ 23 0 0) nm ns sh ar (by first | exact hns | (rw [← hns]; rfl)) hns4 (by first | exact hnm | (rw [← hnm]; rfl)) hnm2 (by omega) (by omega)) ⟨rfl, rfl, Nat.le_of_ble_eq_true rfl, Nat.le_of_ble_eq_true rfl⟩ (pv_M hX11 bl_PM (bM hX11)) (n := 2) (As := [.int (nI sh), .int (nI ar)]) (rest := []) rfl hl.1 rfl (Nat.le_of_ble_eq_true rfl) ⟨Nat.le_of_ble_eq_true rfl, Nat.le_of_ble_eq_true rfl⟩ dX4_gap_51) (fun r12 (e12 : r12 = gpM (su σ 23 0 0) nm ns sh ar) => ?_)
            subst e12
            refine lv_goto (tgt := 58) hx hb dX4_gap_54 (by decide) ?_
            exact W.iret (v := gpM (su σ 23 0 0) nm ns sh ar) hx hb hr (fun t ht hW => ⟨⟨_, rfl, (by rw [show (ckR (nI sh) 0 (σ 18 0 - 1) && ckR (nI ar) 0 4, ckR (nI sh) 0 (σ 18 0 - 1) && ckR (nI ar) 0 4 && grM σ (lnN (nI sh) (nI ar)), true) = (true, true, true) by simp [lnN, ixN_nI h31sh, ixN_nI h31ar, hE, bc33_6]]; rw [vM_t bc45_10]; try (first | rfl | simp [lnN, ixN_nI h31sh, ixN_nI h31ar, hE, bc33_6]))⟩, (by have e9 : sM (ckR (nI sh) 0 (σ 18 0 - 1) && ckR (nI ar) 0 4, ckR (nI sh) 0 (σ 18 0 - 1) && ckR (nI ar) 0 4 && grM σ (lnN (nI sh) (nI ar)), true) σ (fun μ => μ) = su σ 23 0 0 := (by rw [show (ckR (nI sh) 0 (σ 18 0 - 1) && ckR (nI ar) 0 4, ckR (nI sh) 0 (σ 18 0 - 1) && ckR (nI ar) 0 4 && grM σ (lnN (nI sh) (nI ar)), true) = (true, true, true) by simp [lnN, ixN_nI h31sh, ixN_nI h31ar, hE, bc33_6]]; rw [sM_t bc45_10]; try (first | rfl | simp [lnN, ixN_nI h31sh, ixN_nI h31ar, hE, bc33_6])); show va_P G.1 vwCl (wM G ad (sM (ckR (nI sh) 0 (σ 18 0 - 1) && ckR (nI ar) 0 4, ckR (nI sh) 0 (σ 18 0 - 1) && ckR (nI ar) 0 4 && grM σ (lnN (nI sh) (nI ar)), true) σ (fun μ => μ))) t.heap; rw [e9, ht]; exact hX11.1), hS9.F ht⟩) hS9.2.2 dX4_gap_58
  refine lv_aload_n hx hb dX4_gap_0 rfl (lv_at hl 0 rfl) ?_
  refine lv_iload_n hx hb dX4_gap_1 rfl (lv_at hl 1 rfl) ?_
  refine q_i (r_V S ⟨m_682, m_684, m_24, m_40, m_685⟩ ⟨rfl, by decide, by decide, by decide +kernel⟩ (c4_isSheet l G ad σ za0) ⟨rfl, rfl, Nat.le_of_ble_eq_true rfl, Nat.le_of_ble_eq_true rfl⟩ (pv_M hX bl_PM (bM hX)) (n := 1) (As := [.int za0]) (rest := []) rfl hl.1 rfl (Nat.le_of_ble_eq_true rfl) ⟨Nat.le_of_ble_eq_true rfl, Nat.le_of_ble_eq_true rfl⟩ dX4_gap_2) (fun r13 (e13 : r13 = bI (ckR za0 0 (σ 18 0 - 1))) => ?_)
  subst e13
  refine lv_if_eq (tgt := 19) hx hb dX4_gap_5 (by decide) (fun c5_14 => ?_) (fun c5_14 => ?_)
  · have bc5_14 := bI_0 c5_14
    refine lv_iconst (v := 0) hx hb dX4_gap_19 (by decide) ?_
    refine k_eq (y := bI (ckR za0 0 (σ 18 0 - 1) && ckR zb0 0 4)) (by simp [bI, bc5_14]) ?_
    exact J20 ls (lv_sub hl [0, 1, 2] rfl)
  · have bc5_14 := bI_n c5_14
    refine lv_iload_n hx hb dX4_gap_8 rfl (lv_at hl 2 rfl) ?_
    refine q_i (r_S S ⟨m_644, m_645, m_40, m_646⟩ ⟨rfl, by decide, by decide, by decide +kernel⟩ (c4_isArticle l zb0) ⟨rfl, rfl, Nat.le_of_ble_eq_true rfl, Nat.le_of_ble_eq_true rfl⟩ (ps bl_GL (bG hX.2.2)) (n := 1) (As := [.int zb0]) (rest := []) rfl hl.1 rfl (Nat.le_of_ble_eq_true rfl) ⟨Nat.le_of_ble_eq_true rfl, Nat.le_of_ble_eq_true rfl⟩ dX4_gap_9) (fun r15 (e15 : r15 = bI (ckR zb0 0 4)) => ?_)
    subst e15
    refine lv_if_eq (tgt := 19) hx hb dX4_gap_12 (by decide) (fun c12_16 => ?_) (fun c12_16 => ?_)
    · have bc12_16 := bI_0 c12_16
      refine lv_iconst (v := 0) hx hb dX4_gap_19 (by decide) ?_
      refine k_eq (y := bI (ckR za0 0 (σ 18 0 - 1) && ckR zb0 0 4)) (by simp [bI, bc5_14, bc12_16]) ?_
      exact J20 ls (lv_sub hl [0, 1, 2] rfl)
    · have bc12_16 := bI_n c12_16
      refine lv_iconst (v := 1) hx hb dX4_gap_15 (by decide) ?_
      refine lv_goto (tgt := 20) hx hb dX4_gap_16 (by decide) ?_
      refine k_eq (y := bI (ckR za0 0 (σ 18 0 - 1) && ckR zb0 0 4)) (by simp [bI, bc5_14, bc12_16]) ?_
      exact J20 ls (lv_sub hl [0, 1, 2] rfl)

set_option maxHeartbeats 4000000 in
set_option maxRecDepth 100000 in
theorem c4_count (l : Launch) (G : kG) (ad : Nat → Nat) (σ : kS) (nm ns : Nat) (za0 zb0 zc0 zd0 : Int32) (hns : σ 18 0 = nI ns) (hns4 : ns ≤ 40) (hnm : σ 17 0 = nI nm) (hnm2 : nm ≤ 200) (hct : ∀ k, k < 200 → ∃ c, c ≤ 3 ∧ σ 20 k = nI c) (hqn : ∀ k, k < 600 → σ 22 k ≠ -1) (A : Nat → Prop) (hD : DD 16 A ad) : Met l yX4_count [.code yX4_count cX4_count 8 (some .boolean)] ({ frames := 3, cells := 0, slots := 0, locals := 83 }) (va_Pc [.ref (ad 0), .int za0, .int zb0, .int zc0, .int zd0] (fun U => PM G ad σ U U.heap)) (oW A (fun r => r = vM (ckR za0 0 (σ 18 0 - 1) && ckR zb0 0 5 && ckR zc0 0 4, ckR zd0 0 100000, ckR za0 0 (σ 18 0 - 1) && ckR zb0 0 5 && ckR zc0 0 4 && (decide (σ 9 (ixN za0) = 0) && !hcM σ (lnN za0 zc0) zb0 (ixN (σ 20 (lnN za0 zc0))) && decide (agM σ (lnN za0 zc0) = -1))) (bI (grM (sM (ckR za0 0 (σ 18 0 - 1) && ckR zb0 0 5 && ckR zc0 0 4, ckR zd0 0 100000, ckR za0 0 (σ 18 0 - 1) && ckR zb0 0 5 && ckR zc0 0 4 && (decide (σ 9 (ixN za0) = 0) && !hcM σ (lnN za0 zc0) zb0 (ixN (σ 20 (lnN za0 zc0))) && decide (agM σ (lnN za0 zc0) = -1))) σ (fun μ => coM μ (lnN za0 zc0) zb0 zd0)) (lnN za0 zc0)))) (fun H9 => va_P G.1 vwCl (wM G ad (sM (ckR za0 0 (σ 18 0 - 1) && ckR zb0 0 5 && ckR zc0 0 4, ckR zd0 0 100000, ckR za0 0 (σ 18 0 - 1) && ckR zb0 0 5 && ckR zc0 0 4 && (decide (σ 9 (ixN za0) = 0) && !hcM σ (lnN za0 zc0) zb0 (ixN (σ 20 (lnN za0 zc0))) && decide (agM σ (lnN za0 zc0) = -1))) σ (fun μ => coM μ (lnN za0 zc0) zb0 zd0))) H9)) 0 0 A := by
  refine k_of (by decide) (Nat.le_of_ble_eq_true rfl) (fun U h => h.2.2) ?_
  intro p e s m below meth c ls S hr hlocks hmn hB hl
  have hx := S.1
  have hb := S.2.1
  have hX : PM G ad σ s s.heap := hB
  have hS0 : va_S A s.heap s.heap [] := va_S.rf
  have hl : lv_has ls 8 [(0, .ref (ad 0)), (1, .int za0), (2, .int zb0), (3, .int zc0), (4, .int zd0)] := hl
  have J29 : ∀ ls, lv_has ls 8 [(0, .ref (ad 0)), (1, .int za0), (2, .int zb0), (3, .int zc0), (4, .int zd0)] → W p l e ({ frames := 3, cells := 0, slots := 0, locals := 83 } : Room) s m [.ref (ad 0), .int za0, .int zb0, .int zc0, .int zd0].toArray below meth c s.heap [] 0 0 (MQ below (oW A (fun r => r = vM (ckR za0 0 (σ 18 0 - 1) && ckR zb0 0 5 && ckR zc0 0 4, ckR zd0 0 100000, ckR za0 0 (σ 18 0 - 1) && ckR zb0 0 5 && ckR zc0 0 4 && (decide (σ 9 (ixN za0) = 0) && !hcM σ (lnN za0 zc0) zb0 (ixN (σ 20 (lnN za0 zc0))) && decide (agM σ (lnN za0 zc0) = -1))) (bI (grM (sM (ckR za0 0 (σ 18 0 - 1) && ckR zb0 0 5 && ckR zc0 0 4, ckR zd0 0 100000, ckR za0 0 (σ 18 0 - 1) && ckR zb0 0 5 && ckR zc0 0 4 && (decide (σ 9 (ixN za0) = 0) && !hcM σ (lnN za0 zc0) zb0 (ixN (σ 20 (lnN za0 zc0))) && decide (agM σ (lnN za0 zc0) = -1))) σ (fun μ => coM μ (lnN za0 zc0) zb0 zd0)) (lnN za0 zc0)))) (fun H9 => va_P G.1 vwCl (wM G ad (sM (ckR za0 0 (σ 18 0 - 1) && ckR zb0 0 5 && ckR zc0 0 4, ckR zd0 0 100000, ckR za0 0 (σ 18 0 - 1) && ckR zb0 0 5 && ckR zc0 0 4 && (decide (σ 9 (ixN za0) = 0) && !hcM σ (lnN za0 zc0) zb0 (ixN (σ 20 (lnN za0 zc0))) && decide (agM σ (lnN za0 zc0) = -1))) σ (fun μ => coM μ (lnN za0 zc0) zb0 zd0))) H9)) [.ref (ad 0), .int za0, .int zb0, .int zc0, .int zd0].toArray s 0 0 A) (F0 m 29 ls [.int (bI (ckR za0 0 (σ 18 0 - 1) && ckR zb0 0 5 && ckR zc0 0 4))]) := by
    intro ls hl
    rcases bft (ckR za0 0 (σ 18 0 - 1) && ckR zb0 0 5 && ckR zc0 0 4) with hE | hE
    · refine k_eq (y := 0) (by rw [hE]; rfl) ?_
      refine lv_istore (lv' := [(5, .int 0), (0, .ref (ad 0)), (1, .int za0), (2, .int zb0), (3, .int zc0), (4, .int zd0)]) hx hb dX4_count_29 hl (by decide) rfl (fun ls hl => ?_)
      refine lv_iload hx hb dX4_count_31 (lv_at hl 0 rfl) ?_
      refine lv_if_eq (tgt := 44) hx hb dX4_count_33 (by decide) (fun c33_1 => ?_) (fun c33_1 => ?_)
      · have bc33_1 := c33_1
        refine lv_iconst (v := 0) hx hb dX4_count_44 (by decide) ?_
        refine lv_istore (lv' := [(6, .int 0), (5, .int 0), (0, .ref (ad 0)), (1, .int za0), (2, .int zb0), (3, .int zc0), (4, .int zd0)]) hx hb dX4_count_45 hl (by decide) rfl (fun ls hl => ?_)
        have J86 : ∀ ls, lv_has ls 8 [(6, .int 0), (5, .int 0), (0, .ref (ad 0)), (1, .int za0), (2, .int zb0), (3, .int zc0), (4, .int zd0)] → W p l e ({ frames := 3, cells := 0, slots := 0, locals := 83 } : Room) s m [.ref (ad 0), .int za0, .int zb0, .int zc0, .int zd0].toArray below meth c s.heap [] 0 0 (MQ below (oW A (fun r => r = vM (ckR za0 0 (σ 18 0 - 1) && ckR zb0 0 5 && ckR zc0 0 4, ckR zd0 0 100000, ckR za0 0 (σ 18 0 - 1) && ckR zb0 0 5 && ckR zc0 0 4 && (decide (σ 9 (ixN za0) = 0) && !hcM σ (lnN za0 zc0) zb0 (ixN (σ 20 (lnN za0 zc0))) && decide (agM σ (lnN za0 zc0) = -1))) (bI (grM (sM (ckR za0 0 (σ 18 0 - 1) && ckR zb0 0 5 && ckR zc0 0 4, ckR zd0 0 100000, ckR za0 0 (σ 18 0 - 1) && ckR zb0 0 5 && ckR zc0 0 4 && (decide (σ 9 (ixN za0) = 0) && !hcM σ (lnN za0 zc0) zb0 (ixN (σ 20 (lnN za0 zc0))) && decide (agM σ (lnN za0 zc0) = -1))) σ (fun μ => coM μ (lnN za0 zc0) zb0 zd0)) (lnN za0 zc0)))) (fun H9 => va_P G.1 vwCl (wM G ad (sM (ckR za0 0 (σ 18 0 - 1) && ckR zb0 0 5 && ckR zc0 0 4, ckR zd0 0 100000, ckR za0 0 (σ 18 0 - 1) && ckR zb0 0 5 && ckR zc0 0 4 && (decide (σ 9 (ixN za0) = 0) && !hcM σ (lnN za0 zc0) zb0 (ixN (σ 20 (lnN za0 zc0))) && decide (agM σ (lnN za0 zc0) = -1))) σ (fun μ => coM μ (lnN za0 zc0) zb0 zd0))) H9)) [.ref (ad 0), .int za0, .int zb0, .int zc0, .int zd0].toArray s 0 0 A) (F0 m 86 ls [.int 0]) := by
          intro ls hl
          refine lv_istore (lv' := [(7, .int 0), (6, .int 0), (5, .int 0), (0, .ref (ad 0)), (1, .int za0), (2, .int zb0), (3, .int zc0), (4, .int zd0)]) hx hb dX4_count_86 hl (by decide) rfl (fun ls hl => ?_)
          refine lv_aload_n hx hb dX4_count_88 rfl (lv_at hl 3 rfl) ?_
          refine lv_iload hx hb dX4_count_89 (lv_at hl 2 rfl) ?_
          refine lv_iload hx hb dX4_count_91 (lv_at hl 7 rfl) ?_
          refine lv_iconst (v := 0) hx hb dX4_count_93 (by decide) ?_
          refine lv_ldc (v := 100000) hx hb S.2.2.2.1 (S.2.2.2.2 _ m_697) dX4_count_94 ?_
          refine q_i (r_S S ⟨m_647, m_648, m_40, m_649⟩ ⟨rfl, by decide, by decide, by decide +kernel⟩ (c4_in l zd0 0 100000) ⟨rfl, rfl, Nat.le_of_ble_eq_true rfl, Nat.le_of_ble_eq_true rfl⟩ (ps bl_GL (bG hX.2.2)) (n := 3) (As := [.int zd0, .int 0, .int 100000]) (rest := [.int 0, .ref (ad 0)]) rfl hl.1 rfl (Nat.le_of_ble_eq_true rfl) ⟨Nat.le_of_ble_eq_true rfl, Nat.le_of_ble_eq_true rfl⟩ dX4_count_96) (fun r2 (e2 : r2 = bI (ckR zd0 0 100000)) => ?_)
          subst e2
          refine lv_iload hx hb dX4_count_99 (lv_at hl 0 rfl) ?_
          refine q_w (r_V S ⟨m_650, m_652, m_22, m_40, m_653⟩ ⟨rfl, by decide, by decide, by decide +kernel⟩ (c4_goes l G ad σ false (ckR zd0 0 100000) false A hD) ⟨rfl, rfl, Nat.le_of_ble_eq_true rfl, Nat.le_of_ble_eq_true rfl⟩ (pv_M hX bl_PM (bM hX)) (n := 3) (As := [.int (bI false), .int (bI (ckR zd0 0 100000)), .int (bI false)]) (rest := []) rfl hl.1 rfl (Nat.le_of_ble_eq_true rfl) ⟨Nat.le_of_ble_eq_true rfl, Nat.le_of_ble_eq_true rfl⟩ dX4_count_101) hS0 (fun _ h => h) (fun r3 H3 L3 (e3 : r3 = bI (go3 (false, (ckR zd0 0 100000), false))) h3 _ _ hS3 => ?_)
          subst e3
          have hX3 : PM G ad (su σ 23 0 (goV (false, (ckR zd0 0 100000), false))) s H3 := ⟨h3, hX.2⟩
          refine lv_if_ne (tgt := 109) hx hb dX4_count_104 (by decide) (fun c104_4 => ?_) (fun c104_4 => ?_)
          · have bc104_4 := bI_n c104_4
            exact absurd bc104_4 (by simp [go3])
          · have bc104_4 := bI_0 c104_4
            refine lv_iconst (v := 0) hx hb dX4_count_107 (by decide) ?_
            exact W.zret (v := 0) (ty := .boolean) hx hb hr (by first | rfl | exact bI_nar _) (fun t ht hW => ⟨⟨_, rfl, (by rw [show (ckR za0 0 (σ 18 0 - 1) && ckR zb0 0 5 && ckR zc0 0 4, ckR zd0 0 100000, ckR za0 0 (σ 18 0 - 1) && ckR zb0 0 5 && ckR zc0 0 4 && (decide (σ 9 (ixN za0) = 0) && !hcM σ (lnN za0 zc0) zb0 (ixN (σ 20 (lnN za0 zc0))) && decide (agM σ (lnN za0 zc0) = -1))) = (false, (ckR zd0 0 100000), false) by simp [lnN, coM, hE]]; rw [vM_f bc104_4])⟩, (by have e9 : sM (ckR za0 0 (σ 18 0 - 1) && ckR zb0 0 5 && ckR zc0 0 4, ckR zd0 0 100000, ckR za0 0 (σ 18 0 - 1) && ckR zb0 0 5 && ckR zc0 0 4 && (decide (σ 9 (ixN za0) = 0) && !hcM σ (lnN za0 zc0) zb0 (ixN (σ 20 (lnN za0 zc0))) && decide (agM σ (lnN za0 zc0) = -1))) σ (fun μ => coM μ (lnN za0 zc0) zb0 zd0) = su σ 23 0 (goV (false, (ckR zd0 0 100000), false)) := (by rw [show (ckR za0 0 (σ 18 0 - 1) && ckR zb0 0 5 && ckR zc0 0 4, ckR zd0 0 100000, ckR za0 0 (σ 18 0 - 1) && ckR zb0 0 5 && ckR zc0 0 4 && (decide (σ 9 (ixN za0) = 0) && !hcM σ (lnN za0 zc0) zb0 (ixN (σ 20 (lnN za0 zc0))) && decide (agM σ (lnN za0 zc0) = -1))) = (false, (ckR zd0 0 100000), false) by simp [lnN, coM, hE]]; rw [sM_f bc104_4]); show va_P G.1 vwCl (wM G ad (sM (ckR za0 0 (σ 18 0 - 1) && ckR zb0 0 5 && ckR zc0 0 4, ckR zd0 0 100000, ckR za0 0 (σ 18 0 - 1) && ckR zb0 0 5 && ckR zc0 0 4 && (decide (σ 9 (ixN za0) = 0) && !hcM σ (lnN za0 zc0) zb0 (ixN (σ 20 (lnN za0 zc0))) && decide (agM σ (lnN za0 zc0) = -1))) σ (fun μ => coM μ (lnN za0 zc0) zb0 zd0))) t.heap; rw [e9, ht]; exact hX3.1), hS3.F ht⟩) hS3.2.2 dX4_count_108
        refine lv_iload hx hb dX4_count_47 (lv_at hl 1 rfl) ?_
        refine lv_if_eq (tgt := 85) hx hb dX4_count_49 (by decide) (fun c49_5 => ?_) (fun c49_5 => ?_)
        · have bc49_5 := c49_5
          refine lv_iconst (v := 0) hx hb dX4_count_85 (by decide) ?_
          refine k_eq (y := 0) rfl ?_
          exact J86 ls (lv_sub hl [0, 1, 2, 3, 4, 5, 6] rfl)
        · exact absurd c49_5 (by decide)
      · exact absurd c33_1 (by decide)
    · refine k_eq (y := 1) (by rw [hE]; rfl) ?_
      obtain ⟨hEx, hE3⟩ := Bool.and_eq_true_iff.mp hE
      obtain ⟨hE1, hE2⟩ := Bool.and_eq_true_iff.mp hEx
      obtain ⟨sh, hsh, rfl⟩ := ckR_nI (n := ns) (by rw [← hns]; exact hE1) (by omega)
      have h31sh : sh < 2 ^ 31 := by omega
      obtain ⟨ar, har, rfl⟩ := ckR_lit (n := 4) hE3 (by decide)
      have h31ar : ar < 2 ^ 31 := by omega
      obtain ⟨cn, hcn3, hcn⟩ := hct (sh * 5 + ar) (by omega)
      have h31cn : cn < 2 ^ 31 := by omega
      have hcn0 : su σ 23 0 0 20 (sh * 5 + ar) = nI cn := hcn
      refine lv_istore (lv' := [(5, .int 1), (0, .ref (ad 0)), (1, .int (nI sh)), (2, .int zb0), (3, .int (nI ar)), (4, .int zd0)]) hx hb dX4_count_29 hl (by decide) rfl (fun ls hl => ?_)
      refine lv_iload hx hb dX4_count_31 (lv_at hl 0 rfl) ?_
      refine lv_if_eq (tgt := 44) hx hb dX4_count_33 (by decide) (fun c33_6 => ?_) (fun c33_6 => ?_)
      · exact absurd c33_6 (by decide)
      · have bc33_6 := c33_6
        refine lv_iload_n hx hb dX4_count_36 rfl (lv_at hl 2 rfl) ?_
        refine lv_iload_n hx hb dX4_count_37 rfl (lv_at hl 4 rfl) ?_
        refine q_i (r_S S ⟨m_686, m_687, m_40, m_688⟩ ⟨rfl, by decide, by decide, by decide +kernel⟩ (c4_at l sh ar) ⟨rfl, rfl, Nat.le_of_ble_eq_true rfl, Nat.le_of_ble_eq_true rfl⟩ (ps bl_GL (bG hX.2.2)) (n := 2) (As := [.int (nI sh), .int (nI ar)]) (rest := []) rfl hl.1 rfl (Nat.le_of_ble_eq_true rfl) ⟨Nat.le_of_ble_eq_true rfl, Nat.le_of_ble_eq_true rfl⟩ dX4_count_38) (fun r7 (e7 : r7 = nI (sh * 5 + ar)) => ?_)
        subst e7
        refine lv_goto (tgt := 45) hx hb dX4_count_41 (by decide) ?_
        refine lv_istore (lv' := [(6, .int (nI (sh * 5 + ar))), (5, .int 1), (0, .ref (ad 0)), (1, .int (nI sh)), (2, .int zb0), (3, .int (nI ar)), (4, .int zd0)]) hx hb dX4_count_45 hl (by decide) rfl (fun ls hl => ?_)
        have J86 : ∀ ls, lv_has ls 8 [(6, .int (nI (sh * 5 + ar))), (5, .int 1), (0, .ref (ad 0)), (1, .int (nI sh)), (2, .int zb0), (3, .int (nI ar)), (4, .int zd0)] → W p l e ({ frames := 3, cells := 0, slots := 0, locals := 83 } : Room) s m [.ref (ad 0), .int (nI sh), .int zb0, .int (nI ar), .int zd0].toArray below meth c s.heap [] 0 0 (MQ below (oW A (fun r => r = vM (ckR (nI sh) 0 (σ 18 0 - 1) && ckR zb0 0 5 && ckR (nI ar) 0 4, ckR zd0 0 100000, ckR (nI sh) 0 (σ 18 0 - 1) && ckR zb0 0 5 && ckR (nI ar) 0 4 && (decide (σ 9 (ixN (nI sh)) = 0) && !hcM σ (lnN (nI sh) (nI ar)) zb0 (ixN (σ 20 (lnN (nI sh) (nI ar)))) && decide (agM σ (lnN (nI sh) (nI ar)) = -1))) (bI (grM (sM (ckR (nI sh) 0 (σ 18 0 - 1) && ckR zb0 0 5 && ckR (nI ar) 0 4, ckR zd0 0 100000, ckR (nI sh) 0 (σ 18 0 - 1) && ckR zb0 0 5 && ckR (nI ar) 0 4 && (decide (σ 9 (ixN (nI sh)) = 0) && !hcM σ (lnN (nI sh) (nI ar)) zb0 (ixN (σ 20 (lnN (nI sh) (nI ar)))) && decide (agM σ (lnN (nI sh) (nI ar)) = -1))) σ (fun μ => coM μ (lnN (nI sh) (nI ar)) zb0 zd0)) (lnN (nI sh) (nI ar))))) (fun H9 => va_P G.1 vwCl (wM G ad (sM (ckR (nI sh) 0 (σ 18 0 - 1) && ckR zb0 0 5 && ckR (nI ar) 0 4, ckR zd0 0 100000, ckR (nI sh) 0 (σ 18 0 - 1) && ckR zb0 0 5 && ckR (nI ar) 0 4 && (decide (σ 9 (ixN (nI sh)) = 0) && !hcM σ (lnN (nI sh) (nI ar)) zb0 (ixN (σ 20 (lnN (nI sh) (nI ar)))) && decide (agM σ (lnN (nI sh) (nI ar)) = -1))) σ (fun μ => coM μ (lnN (nI sh) (nI ar)) zb0 zd0))) H9)) [.ref (ad 0), .int (nI sh), .int zb0, .int (nI ar), .int zd0].toArray s 0 0 A) (F0 m 86 ls [.int (bI (decide (σ 9 sh = 0) && !hcM σ (sh * 5 + ar) zb0 cn && decide (agM σ (sh * 5 + ar) = -1)))]) := by
          intro ls hl
          refine lv_istore (lv' := [(7, .int (bI (decide (σ 9 sh = 0) && !hcM σ (sh * 5 + ar) zb0 cn && decide (agM σ (sh * 5 + ar) = -1)))), (6, .int (nI (sh * 5 + ar))), (5, .int 1), (0, .ref (ad 0)), (1, .int (nI sh)), (2, .int zb0), (3, .int (nI ar)), (4, .int zd0)]) hx hb dX4_count_86 hl (by decide) rfl (fun ls hl => ?_)
          refine lv_aload_n hx hb dX4_count_88 rfl (lv_at hl 3 rfl) ?_
          refine lv_iload hx hb dX4_count_89 (lv_at hl 2 rfl) ?_
          refine lv_iload hx hb dX4_count_91 (lv_at hl 7 rfl) ?_
          refine lv_iconst (v := 0) hx hb dX4_count_93 (by decide) ?_
          refine lv_ldc (v := 100000) hx hb S.2.2.2.1 (S.2.2.2.2 _ m_697) dX4_count_94 ?_
          refine q_i (r_S S ⟨m_647, m_648, m_40, m_649⟩ ⟨rfl, by decide, by decide, by decide +kernel⟩ (c4_in l zd0 0 100000) ⟨rfl, rfl, Nat.le_of_ble_eq_true rfl, Nat.le_of_ble_eq_true rfl⟩ (ps bl_GL (bG hX.2.2)) (n := 3) (As := [.int zd0, .int 0, .int 100000]) (rest := [.int 1, .ref (ad 0)]) rfl hl.1 rfl (Nat.le_of_ble_eq_true rfl) ⟨Nat.le_of_ble_eq_true rfl, Nat.le_of_ble_eq_true rfl⟩ dX4_count_96) (fun r8 (e8 : r8 = bI (ckR zd0 0 100000)) => ?_)
          subst e8
          refine lv_iload hx hb dX4_count_99 (lv_at hl 0 rfl) ?_
          refine q_w (r_V S ⟨m_650, m_652, m_22, m_40, m_653⟩ ⟨rfl, by decide, by decide, by decide +kernel⟩ (c4_goes l G ad σ true (ckR zd0 0 100000) (decide (σ 9 sh = 0) && !hcM σ (sh * 5 + ar) zb0 cn && decide (agM σ (sh * 5 + ar) = -1)) A hD) ⟨rfl, rfl, Nat.le_of_ble_eq_true rfl, Nat.le_of_ble_eq_true rfl⟩ (pv_M hX bl_PM (bM hX)) (n := 3) (As := [.int (bI true), .int (bI (ckR zd0 0 100000)), .int (bI (decide (σ 9 sh = 0) && !hcM σ (sh * 5 + ar) zb0 cn && decide (agM σ (sh * 5 + ar) = -1)))]) (rest := []) rfl hl.1 rfl (Nat.le_of_ble_eq_true rfl) ⟨Nat.le_of_ble_eq_true rfl, Nat.le_of_ble_eq_true rfl⟩ dX4_count_101) hS0 (fun _ h => h) (fun r9 H9 L9 (e9 : r9 = bI (go3 (true, (ckR zd0 0 100000), (decide (σ 9 sh = 0) && !hcM σ (sh * 5 + ar) zb0 cn && decide (agM σ (sh * 5 + ar) = -1))))) h9 _ _ hS9 => ?_)
          subst e9
          have hX9 : PM G ad (su σ 23 0 (goV (true, (ckR zd0 0 100000), (decide (σ 9 sh = 0) && !hcM σ (sh * 5 + ar) zb0 cn && decide (agM σ (sh * 5 + ar) = -1))))) s H9 := ⟨h9, hX.2⟩
          refine lv_if_ne (tgt := 109) hx hb dX4_count_104 (by decide) (fun c104_10 => ?_) (fun c104_10 => ?_)
          · have bc104_10 := bI_n c104_10
            have hX11 : PM G ad (su σ 23 0 0) s H9 := by
              have h8 := hX9
              rw [goV_0 bc104_10] at h8
              exact h8
            obtain ⟨q1, q2, q3⟩ := go3_t bc104_10
            obtain ⟨q3x, q6⟩ := Bool.and_eq_true_iff.mp q3
            obtain ⟨q4, q5⟩ := Bool.and_eq_true_iff.mp q3x
            have hcn2 : cn < 3 := agM_lt hcn hcn3 (by omega) hqn (of_decide_eq_true q6)
            refine lv_aload_n hx hb dX4_count_109 rfl (lv_at hl 3 rfl) ?_
            refine k_get S hX11.2 hX11.1 0 (C := RX4) (T := TX4) (N := 20) rfl rfl 17 (by decide) inX4 m_592 rfl dX4_count_110 ?_
            refine lv_iconst (v := 3) hx hb dX4_count_113 (by decide) ?_
            refine lv_iload hx hb dX4_count_114 (lv_at hl 1 rfl) ?_
            refine lv_imul hx hb dX4_count_116 ?_
            refine k_eq (y := nI (3 * (sh * 5 + ar))) (pk_mul 3 (sh * 5 + ar)) ?_
            refine lv_aload_n hx hb dX4_count_117 rfl (lv_at hl 3 rfl) ?_
            refine k_get S hX11.2 hX11.1 0 (C := RX4) (T := TX4) (N := 20) rfl rfl 13 (by decide) inX4 m_588 rfl dX4_count_118 ?_
            refine lv_iload hx hb dX4_count_121 (lv_at hl 1 rfl) ?_
            refine k_ild S hX11.2 hX11.1 11 (i := (sh * 5 + ar)) rfl (by omega) (by decide) dX4_count_123 ?_
            refine k_eq (y := σ 20 (sh * 5 + ar)) (by rfl) ?_
            refine k_eq (y := nI cn) (hcn) ?_
            refine lv_iadd hx hb dX4_count_124 ?_
            refine k_eq (y := nI ((3 * (sh * 5 + ar)) + cn)) (nI_add (3 * (sh * 5 + ar)) cn) ?_
            refine lv_iload_n hx hb dX4_count_125 rfl (lv_at hl 5 rfl) ?_
            refine k_ist S hX11.2 hX11.1 (hD.w (wM_fst _ _ _)) hS9 14 (i := ((3 * (sh * 5 + ar)) + cn)) rfl (by omega) (by decide) dX4_count_126 (fun H12 L12 h12 hS12 => ?_)
            have hX12 : PM G ad (su (su σ 23 0 0) 21 ((3 * (sh * 5 + ar)) + cn) zb0) s H12 := ⟨h12, hX11.2⟩
            refine lv_aload_n hx hb dX4_count_127 rfl (lv_at hl 3 rfl) ?_
            refine k_get S hX12.2 hX12.1 0 (C := RX4) (T := TX4) (N := 20) rfl rfl 18 (by decide) inX4 m_593 rfl dX4_count_128 ?_
            refine lv_iconst (v := 3) hx hb dX4_count_131 (by decide) ?_
            refine lv_iload hx hb dX4_count_132 (lv_at hl 1 rfl) ?_
            refine lv_imul hx hb dX4_count_134 ?_
            refine k_eq (y := nI (3 * (sh * 5 + ar))) (pk_mul 3 (sh * 5 + ar)) ?_
            refine lv_aload_n hx hb dX4_count_135 rfl (lv_at hl 3 rfl) ?_
            refine k_get S hX12.2 hX12.1 0 (C := RX4) (T := TX4) (N := 20) rfl rfl 13 (by decide) inX4 m_588 rfl dX4_count_136 ?_
            refine lv_iload hx hb dX4_count_139 (lv_at hl 1 rfl) ?_
            refine k_ild S hX12.2 hX12.1 11 (i := (sh * 5 + ar)) rfl (by omega) (by decide) dX4_count_141 ?_
            refine k_eq (y := σ 20 (sh * 5 + ar)) (by rfl) ?_
            refine k_eq (y := nI cn) (hcn) ?_
            refine lv_iadd hx hb dX4_count_142 ?_
            refine k_eq (y := nI ((3 * (sh * 5 + ar)) + cn)) (nI_add (3 * (sh * 5 + ar)) cn) ?_
            refine lv_iload hx hb dX4_count_143 (lv_at hl 7 rfl) ?_
            refine k_ist S hX12.2 hX12.1 (hD.w (wM_fst _ _ _)) hS12 15 (i := ((3 * (sh * 5 + ar)) + cn)) rfl (by omega) (by decide) dX4_count_145 (fun H13 L13 h13 hS13 => ?_)
            have hX13 : PM G ad (su (su (su σ 23 0 0) 21 ((3 * (sh * 5 + ar)) + cn) zb0) 22 ((3 * (sh * 5 + ar)) + cn) zd0) s H13 := ⟨h13, hX12.2⟩
            refine lv_aload_n hx hb dX4_count_146 rfl (lv_at hl 3 rfl) ?_
            refine k_get S hX13.2 hX13.1 0 (C := RX4) (T := TX4) (N := 20) rfl rfl 13 (by decide) inX4 m_588 rfl dX4_count_147 ?_
            refine lv_iload hx hb dX4_count_150 (lv_at hl 1 rfl) ?_
            refine lv_dup2_11 hx hb dX4_count_152 rfl rfl ?_
            refine k_ild S hX13.2 hX13.1 11 (i := (sh * 5 + ar)) rfl (by omega) (by decide) dX4_count_153 ?_
            refine k_eq (y := σ 20 (sh * 5 + ar)) (by rfl) ?_
            refine k_eq (y := nI cn) (hcn) ?_
            refine lv_iconst (v := 1) hx hb dX4_count_154 (by decide) ?_
            refine lv_iadd hx hb dX4_count_155 ?_
            refine k_eq (y := nI (cn + 1)) (nI_add cn 1) ?_
            refine k_ist S hX13.2 hX13.1 (hD.w (wM_fst _ _ _)) hS13 11 (i := (sh * 5 + ar)) rfl (by omega) (by decide) dX4_count_156 (fun H14 L14 h14 hS14 => ?_)
            have hX14 : PM G ad (su (su (su (su σ 23 0 0) 21 ((3 * (sh * 5 + ar)) + cn) zb0) 22 ((3 * (sh * 5 + ar)) + cn) zd0) 20 (sh * 5 + ar) (nI (cn + 1))) s H14 := ⟨h14, hX13.2⟩
            refine lv_aload_n hx hb dX4_count_157 rfl (lv_at hl 3 rfl) ?_
            refine lv_iload hx hb dX4_count_158 (lv_at hl 1 rfl) ?_
            refine q_i (r_V S ⟨m_693, m_695, m_26, m_40, m_696⟩ ⟨rfl, by decide, by decide, by decide +kernel⟩ (c4_agree l G ad (su (su (su (su σ 23 0 0) 21 ((3 * (sh * 5 + ar)) + cn) zb0) 22 ((3 * (sh * 5 + ar)) + cn) zd0) 20 (sh * 5 + ar) (nI (cn + 1))) (sh * 5 + ar) (by omega)) ⟨rfl, rfl, Nat.le_of_ble_eq_true rfl, Nat.le_of_ble_eq_true rfl⟩ (pv_M hX14 bl_PM (bM hX14)) (n := 1) (As := [.int (nI (sh * 5 + ar))]) (rest := []) rfl hl.1 rfl (Nat.le_of_ble_eq_true rfl) ⟨Nat.le_of_ble_eq_true rfl, Nat.le_of_ble_eq_true rfl⟩ dX4_count_160) (fun r15 (e15 : r15 = agM (su (su (su (su σ 23 0 0) 21 ((3 * (sh * 5 + ar)) + cn) zb0) 22 ((3 * (sh * 5 + ar)) + cn) zd0) 20 (sh * 5 + ar) (nI (cn + 1))) (sh * 5 + ar)) => ?_)
            subst e15
            refine lv_iconst (v := (-1)) hx hb dX4_count_163 (by decide) ?_
            refine lv_icmp_eq (tgt := 171) hx hb dX4_count_164 (by decide) (fun c164_16 => ?_) (fun c164_16 => ?_)
            · have bc164_16 := c164_16
              refine lv_iconst (v := 0) hx hb dX4_count_171 (by decide) ?_
              exact W.zret (v := 0) (ty := .boolean) hx hb hr (by first | rfl | exact bI_nar _) (fun t ht hW => ⟨⟨_, rfl, (by have e9 : sM (ckR (nI sh) 0 (σ 18 0 - 1) && ckR zb0 0 5 && ckR (nI ar) 0 4, ckR zd0 0 100000, ckR (nI sh) 0 (σ 18 0 - 1) && ckR zb0 0 5 && ckR (nI ar) 0 4 && (decide (σ 9 (ixN (nI sh)) = 0) && !hcM σ (lnN (nI sh) (nI ar)) zb0 (ixN (σ 20 (lnN (nI sh) (nI ar)))) && decide (agM σ (lnN (nI sh) (nI ar)) = -1))) σ (fun μ => coM μ (lnN (nI sh) (nI ar)) zb0 zd0) = su (su (su (su σ 23 0 0) 21 ((3 * (sh * 5 + ar)) + cn) zb0) 22 ((3 * (sh * 5 + ar)) + cn) zd0) 20 (sh * 5 + ar) (nI (cn + 1)) := (by rw [show (ckR (nI sh) 0 (σ 18 0 - 1) && ckR zb0 0 5 && ckR (nI ar) 0 4, ckR zd0 0 100000, ckR (nI sh) 0 (σ 18 0 - 1) && ckR zb0 0 5 && ckR (nI ar) 0 4 && (decide (σ 9 (ixN (nI sh)) = 0) && !hcM σ (lnN (nI sh) (nI ar)) zb0 (ixN (σ 20 (lnN (nI sh) (nI ar)))) && decide (agM σ (lnN (nI sh) (nI ar)) = -1))) = (true, (ckR zd0 0 100000), (decide (σ 9 sh = 0) && !hcM σ (sh * 5 + ar) zb0 cn && decide (agM σ (sh * 5 + ar) = -1))) by simp [lnN, coM, ixN_nI h31sh, ixN_nI h31ar, hcn, hcn0, ixN_nI h31cn, hE, c164_16]]; rw [sM_t bc104_10]; try (first | rfl | simp [lnN, coM, ixN_nI h31sh, ixN_nI h31ar, hcn, hcn0, ixN_nI h31cn, hE, c164_16])); rw [e9]; rw [show (ckR (nI sh) 0 (σ 18 0 - 1) && ckR zb0 0 5 && ckR (nI ar) 0 4, ckR zd0 0 100000, ckR (nI sh) 0 (σ 18 0 - 1) && ckR zb0 0 5 && ckR (nI ar) 0 4 && (decide (σ 9 (ixN (nI sh)) = 0) && !hcM σ (lnN (nI sh) (nI ar)) zb0 (ixN (σ 20 (lnN (nI sh) (nI ar)))) && decide (agM σ (lnN (nI sh) (nI ar)) = -1))) = (true, (ckR zd0 0 100000), (decide (σ 9 sh = 0) && !hcM σ (sh * 5 + ar) zb0 cn && decide (agM σ (sh * 5 + ar) = -1))) by simp [lnN, coM, ixN_nI h31sh, ixN_nI h31ar, hcn, hcn0, ixN_nI h31cn, hE, c164_16]]; rw [vM_t bc104_10]; try (first | rfl | simp [grM, bI, lnN, coM, ixN_nI h31sh, ixN_nI h31ar, hcn, hcn0, ixN_nI h31cn, hE, c164_16]))⟩, (by have e9 : sM (ckR (nI sh) 0 (σ 18 0 - 1) && ckR zb0 0 5 && ckR (nI ar) 0 4, ckR zd0 0 100000, ckR (nI sh) 0 (σ 18 0 - 1) && ckR zb0 0 5 && ckR (nI ar) 0 4 && (decide (σ 9 (ixN (nI sh)) = 0) && !hcM σ (lnN (nI sh) (nI ar)) zb0 (ixN (σ 20 (lnN (nI sh) (nI ar)))) && decide (agM σ (lnN (nI sh) (nI ar)) = -1))) σ (fun μ => coM μ (lnN (nI sh) (nI ar)) zb0 zd0) = su (su (su (su σ 23 0 0) 21 ((3 * (sh * 5 + ar)) + cn) zb0) 22 ((3 * (sh * 5 + ar)) + cn) zd0) 20 (sh * 5 + ar) (nI (cn + 1)) := (by rw [show (ckR (nI sh) 0 (σ 18 0 - 1) && ckR zb0 0 5 && ckR (nI ar) 0 4, ckR zd0 0 100000, ckR (nI sh) 0 (σ 18 0 - 1) && ckR zb0 0 5 && ckR (nI ar) 0 4 && (decide (σ 9 (ixN (nI sh)) = 0) && !hcM σ (lnN (nI sh) (nI ar)) zb0 (ixN (σ 20 (lnN (nI sh) (nI ar)))) && decide (agM σ (lnN (nI sh) (nI ar)) = -1))) = (true, (ckR zd0 0 100000), (decide (σ 9 sh = 0) && !hcM σ (sh * 5 + ar) zb0 cn && decide (agM σ (sh * 5 + ar) = -1))) by simp [lnN, coM, ixN_nI h31sh, ixN_nI h31ar, hcn, hcn0, ixN_nI h31cn, hE, c164_16]]; rw [sM_t bc104_10]; try (first | rfl | simp [lnN, coM, ixN_nI h31sh, ixN_nI h31ar, hcn, hcn0, ixN_nI h31cn, hE, c164_16])); show va_P G.1 vwCl (wM G ad (sM (ckR (nI sh) 0 (σ 18 0 - 1) && ckR zb0 0 5 && ckR (nI ar) 0 4, ckR zd0 0 100000, ckR (nI sh) 0 (σ 18 0 - 1) && ckR zb0 0 5 && ckR (nI ar) 0 4 && (decide (σ 9 (ixN (nI sh)) = 0) && !hcM σ (lnN (nI sh) (nI ar)) zb0 (ixN (σ 20 (lnN (nI sh) (nI ar)))) && decide (agM σ (lnN (nI sh) (nI ar)) = -1))) σ (fun μ => coM μ (lnN (nI sh) (nI ar)) zb0 zd0))) t.heap; rw [e9, ht]; exact hX14.1), hS14.F ht⟩) hS14.2.2 dX4_count_172
            · have bc164_16 := c164_16
              refine lv_iconst (v := 1) hx hb dX4_count_167 (by decide) ?_
              refine lv_goto (tgt := 172) hx hb dX4_count_168 (by decide) ?_
              exact W.zret (v := 1) (ty := .boolean) hx hb hr (by first | rfl | exact bI_nar _) (fun t ht hW => ⟨⟨_, rfl, (by have e9 : sM (ckR (nI sh) 0 (σ 18 0 - 1) && ckR zb0 0 5 && ckR (nI ar) 0 4, ckR zd0 0 100000, ckR (nI sh) 0 (σ 18 0 - 1) && ckR zb0 0 5 && ckR (nI ar) 0 4 && (decide (σ 9 (ixN (nI sh)) = 0) && !hcM σ (lnN (nI sh) (nI ar)) zb0 (ixN (σ 20 (lnN (nI sh) (nI ar)))) && decide (agM σ (lnN (nI sh) (nI ar)) = -1))) σ (fun μ => coM μ (lnN (nI sh) (nI ar)) zb0 zd0) = su (su (su (su σ 23 0 0) 21 ((3 * (sh * 5 + ar)) + cn) zb0) 22 ((3 * (sh * 5 + ar)) + cn) zd0) 20 (sh * 5 + ar) (nI (cn + 1)) := (by rw [show (ckR (nI sh) 0 (σ 18 0 - 1) && ckR zb0 0 5 && ckR (nI ar) 0 4, ckR zd0 0 100000, ckR (nI sh) 0 (σ 18 0 - 1) && ckR zb0 0 5 && ckR (nI ar) 0 4 && (decide (σ 9 (ixN (nI sh)) = 0) && !hcM σ (lnN (nI sh) (nI ar)) zb0 (ixN (σ 20 (lnN (nI sh) (nI ar)))) && decide (agM σ (lnN (nI sh) (nI ar)) = -1))) = (true, (ckR zd0 0 100000), (decide (σ 9 sh = 0) && !hcM σ (sh * 5 + ar) zb0 cn && decide (agM σ (sh * 5 + ar) = -1))) by simp [lnN, coM, ixN_nI h31sh, ixN_nI h31ar, hcn, hcn0, ixN_nI h31cn, hE, c164_16]]; rw [sM_t bc104_10]; try (first | rfl | simp [lnN, coM, ixN_nI h31sh, ixN_nI h31ar, hcn, hcn0, ixN_nI h31cn, hE, c164_16])); rw [e9]; rw [show (ckR (nI sh) 0 (σ 18 0 - 1) && ckR zb0 0 5 && ckR (nI ar) 0 4, ckR zd0 0 100000, ckR (nI sh) 0 (σ 18 0 - 1) && ckR zb0 0 5 && ckR (nI ar) 0 4 && (decide (σ 9 (ixN (nI sh)) = 0) && !hcM σ (lnN (nI sh) (nI ar)) zb0 (ixN (σ 20 (lnN (nI sh) (nI ar)))) && decide (agM σ (lnN (nI sh) (nI ar)) = -1))) = (true, (ckR zd0 0 100000), (decide (σ 9 sh = 0) && !hcM σ (sh * 5 + ar) zb0 cn && decide (agM σ (sh * 5 + ar) = -1))) by simp [lnN, coM, ixN_nI h31sh, ixN_nI h31ar, hcn, hcn0, ixN_nI h31cn, hE, c164_16]]; rw [vM_t bc104_10]; try (first | rfl | simp [grM, bI, lnN, coM, ixN_nI h31sh, ixN_nI h31ar, hcn, hcn0, ixN_nI h31cn, hE, c164_16]))⟩, (by have e9 : sM (ckR (nI sh) 0 (σ 18 0 - 1) && ckR zb0 0 5 && ckR (nI ar) 0 4, ckR zd0 0 100000, ckR (nI sh) 0 (σ 18 0 - 1) && ckR zb0 0 5 && ckR (nI ar) 0 4 && (decide (σ 9 (ixN (nI sh)) = 0) && !hcM σ (lnN (nI sh) (nI ar)) zb0 (ixN (σ 20 (lnN (nI sh) (nI ar)))) && decide (agM σ (lnN (nI sh) (nI ar)) = -1))) σ (fun μ => coM μ (lnN (nI sh) (nI ar)) zb0 zd0) = su (su (su (su σ 23 0 0) 21 ((3 * (sh * 5 + ar)) + cn) zb0) 22 ((3 * (sh * 5 + ar)) + cn) zd0) 20 (sh * 5 + ar) (nI (cn + 1)) := (by rw [show (ckR (nI sh) 0 (σ 18 0 - 1) && ckR zb0 0 5 && ckR (nI ar) 0 4, ckR zd0 0 100000, ckR (nI sh) 0 (σ 18 0 - 1) && ckR zb0 0 5 && ckR (nI ar) 0 4 && (decide (σ 9 (ixN (nI sh)) = 0) && !hcM σ (lnN (nI sh) (nI ar)) zb0 (ixN (σ 20 (lnN (nI sh) (nI ar)))) && decide (agM σ (lnN (nI sh) (nI ar)) = -1))) = (true, (ckR zd0 0 100000), (decide (σ 9 sh = 0) && !hcM σ (sh * 5 + ar) zb0 cn && decide (agM σ (sh * 5 + ar) = -1))) by simp [lnN, coM, ixN_nI h31sh, ixN_nI h31ar, hcn, hcn0, ixN_nI h31cn, hE, c164_16]]; rw [sM_t bc104_10]; try (first | rfl | simp [lnN, coM, ixN_nI h31sh, ixN_nI h31ar, hcn, hcn0, ixN_nI h31cn, hE, c164_16])); show va_P G.1 vwCl (wM G ad (sM (ckR (nI sh) 0 (σ 18 0 - 1) && ckR zb0 0 5 && ckR (nI ar) 0 4, ckR zd0 0 100000, ckR (nI sh) 0 (σ 18 0 - 1) && ckR zb0 0 5 && ckR (nI ar) 0 4 && (decide (σ 9 (ixN (nI sh)) = 0) && !hcM σ (lnN (nI sh) (nI ar)) zb0 (ixN (σ 20 (lnN (nI sh) (nI ar)))) && decide (agM σ (lnN (nI sh) (nI ar)) = -1))) σ (fun μ => coM μ (lnN (nI sh) (nI ar)) zb0 zd0))) t.heap; rw [e9, ht]; exact hX14.1), hS14.F ht⟩) hS14.2.2 dX4_count_172
          · have bc104_10 := bI_0 c104_10
            refine lv_iconst (v := 0) hx hb dX4_count_107 (by decide) ?_
            exact W.zret (v := 0) (ty := .boolean) hx hb hr (by first | rfl | exact bI_nar _) (fun t ht hW => ⟨⟨_, rfl, (by rw [show (ckR (nI sh) 0 (σ 18 0 - 1) && ckR zb0 0 5 && ckR (nI ar) 0 4, ckR zd0 0 100000, ckR (nI sh) 0 (σ 18 0 - 1) && ckR zb0 0 5 && ckR (nI ar) 0 4 && (decide (σ 9 (ixN (nI sh)) = 0) && !hcM σ (lnN (nI sh) (nI ar)) zb0 (ixN (σ 20 (lnN (nI sh) (nI ar)))) && decide (agM σ (lnN (nI sh) (nI ar)) = -1))) = (true, (ckR zd0 0 100000), (decide (σ 9 sh = 0) && !hcM σ (sh * 5 + ar) zb0 cn && decide (agM σ (sh * 5 + ar) = -1))) by simp [lnN, coM, ixN_nI h31sh, ixN_nI h31ar, hcn, hcn0, ixN_nI h31cn, hE]]; rw [vM_f bc104_10])⟩, (by have e9 : sM (ckR (nI sh) 0 (σ 18 0 - 1) && ckR zb0 0 5 && ckR (nI ar) 0 4, ckR zd0 0 100000, ckR (nI sh) 0 (σ 18 0 - 1) && ckR zb0 0 5 && ckR (nI ar) 0 4 && (decide (σ 9 (ixN (nI sh)) = 0) && !hcM σ (lnN (nI sh) (nI ar)) zb0 (ixN (σ 20 (lnN (nI sh) (nI ar)))) && decide (agM σ (lnN (nI sh) (nI ar)) = -1))) σ (fun μ => coM μ (lnN (nI sh) (nI ar)) zb0 zd0) = su σ 23 0 (goV (true, (ckR zd0 0 100000), (decide (σ 9 sh = 0) && !hcM σ (sh * 5 + ar) zb0 cn && decide (agM σ (sh * 5 + ar) = -1)))) := (by rw [show (ckR (nI sh) 0 (σ 18 0 - 1) && ckR zb0 0 5 && ckR (nI ar) 0 4, ckR zd0 0 100000, ckR (nI sh) 0 (σ 18 0 - 1) && ckR zb0 0 5 && ckR (nI ar) 0 4 && (decide (σ 9 (ixN (nI sh)) = 0) && !hcM σ (lnN (nI sh) (nI ar)) zb0 (ixN (σ 20 (lnN (nI sh) (nI ar)))) && decide (agM σ (lnN (nI sh) (nI ar)) = -1))) = (true, (ckR zd0 0 100000), (decide (σ 9 sh = 0) && !hcM σ (sh * 5 + ar) zb0 cn && decide (agM σ (sh * 5 + ar) = -1))) by simp [lnN, coM, ixN_nI h31sh, ixN_nI h31ar, hcn, hcn0, ixN_nI h31cn, hE]]; rw [sM_f bc104_10]); show va_P G.1 vwCl (wM G ad (sM (ckR (nI sh) 0 (σ 18 0 - 1) && ckR zb0 0 5 && ckR (nI ar) 0 4, ckR zd0 0 100000, ckR (nI sh) 0 (σ 18 0 - 1) && ckR zb0 0 5 && ckR (nI ar) 0 4 && (decide (σ 9 (ixN (nI sh)) = 0) && !hcM σ (lnN (nI sh) (nI ar)) zb0 (ixN (σ 20 (lnN (nI sh) (nI ar)))) && decide (agM σ (lnN (nI sh) (nI ar)) = -1))) σ (fun μ => coM μ (lnN (nI sh) (nI ar)) zb0 zd0))) t.heap; rw [e9, ht]; exact hX9.1), hS9.F ht⟩) hS9.2.2 dX4_count_108
        refine lv_iload hx hb dX4_count_47 (lv_at hl 1 rfl) ?_
        refine lv_if_eq (tgt := 85) hx hb dX4_count_49 (by decide) (fun c49_17 => ?_) (fun c49_17 => ?_)
        · exact absurd c49_17 (by decide)
        · have bc49_17 := c49_17
          refine lv_aload_n hx hb dX4_count_52 rfl (lv_at hl 2 rfl) ?_
          refine k_get S hX.2 hX.1 0 (C := RX4) (T := TX4) (N := 20) rfl rfl 12 (by decide) inX4 m_587 rfl dX4_count_53 ?_
          refine lv_iload_n hx hb dX4_count_56 rfl (lv_at hl 3 rfl) ?_
          refine k_ild S hX.2 hX.1 10 (i := sh) rfl (by omega) (by decide) dX4_count_57 ?_
          refine lv_if_ne (tgt := 85) hx hb dX4_count_58 (by decide) (fun c58_18 => ?_) (fun c58_18 => ?_)
          · have bc58_18 := c58_18
            refine lv_iconst (v := 0) hx hb dX4_count_85 (by decide) ?_
            refine k_eq (y := bI (decide (σ 9 sh = 0) && !hcM σ (sh * 5 + ar) zb0 cn && decide (agM σ (sh * 5 + ar) = -1))) (by simp [bI, hE, c58_18]) ?_
            exact J86 ls (lv_sub hl [0, 1, 2, 3, 4, 5, 6] rfl)
          · have bc58_18 := c58_18
            refine lv_aload_n hx hb dX4_count_61 rfl (lv_at hl 2 rfl) ?_
            refine lv_iload hx hb dX4_count_62 (lv_at hl 0 rfl) ?_
            refine lv_iload_n hx hb dX4_count_64 rfl (lv_at hl 4 rfl) ?_
            refine q_i (r_V S ⟨m_689, m_691, m_25, m_40, m_692⟩ ⟨rfl, by decide, by decide, by decide +kernel⟩ (c4_hasCounted l G ad σ (sh * 5 + ar) cn zb0 (by omega) hcn hcn3) ⟨rfl, rfl, Nat.le_of_ble_eq_true rfl, Nat.le_of_ble_eq_true rfl⟩ (pv_M hX bl_PM (bM hX)) (n := 2) (As := [.int (nI (sh * 5 + ar)), .int zb0]) (rest := []) rfl hl.1 rfl (Nat.le_of_ble_eq_true rfl) ⟨Nat.le_of_ble_eq_true rfl, Nat.le_of_ble_eq_true rfl⟩ dX4_count_65) (fun r19 (e19 : r19 = bI (hcM σ (sh * 5 + ar) zb0 cn)) => ?_)
            subst e19
            refine lv_if_ne (tgt := 85) hx hb dX4_count_68 (by decide) (fun c68_20 => ?_) (fun c68_20 => ?_)
            · have bc68_20 := bI_n c68_20
              refine lv_iconst (v := 0) hx hb dX4_count_85 (by decide) ?_
              refine k_eq (y := bI (decide (σ 9 sh = 0) && !hcM σ (sh * 5 + ar) zb0 cn && decide (agM σ (sh * 5 + ar) = -1))) (by simp [bI, hE, c58_18, bc68_20]) ?_
              exact J86 ls (lv_sub hl [0, 1, 2, 3, 4, 5, 6] rfl)
            · have bc68_20 := bI_0 c68_20
              refine lv_aload_n hx hb dX4_count_71 rfl (lv_at hl 2 rfl) ?_
              refine lv_iload hx hb dX4_count_72 (lv_at hl 0 rfl) ?_
              refine q_i (r_V S ⟨m_693, m_695, m_26, m_40, m_696⟩ ⟨rfl, by decide, by decide, by decide +kernel⟩ (c4_agree l G ad σ (sh * 5 + ar) (by omega)) ⟨rfl, rfl, Nat.le_of_ble_eq_true rfl, Nat.le_of_ble_eq_true rfl⟩ (pv_M hX bl_PM (bM hX)) (n := 1) (As := [.int (nI (sh * 5 + ar))]) (rest := []) rfl hl.1 rfl (Nat.le_of_ble_eq_true rfl) ⟨Nat.le_of_ble_eq_true rfl, Nat.le_of_ble_eq_true rfl⟩ dX4_count_74) (fun r21 (e21 : r21 = agM σ (sh * 5 + ar)) => ?_)
              subst e21
              refine lv_iconst (v := (-1)) hx hb dX4_count_77 (by decide) ?_
              refine lv_icmp_ne (tgt := 85) hx hb dX4_count_78 (by decide) (fun c78_22 => ?_) (fun c78_22 => ?_)
              · have bc78_22 := c78_22
                refine lv_iconst (v := 0) hx hb dX4_count_85 (by decide) ?_
                refine k_eq (y := bI (decide (σ 9 sh = 0) && !hcM σ (sh * 5 + ar) zb0 cn && decide (agM σ (sh * 5 + ar) = -1))) (by simp [bI, hE, c58_18, bc68_20, c78_22]) ?_
                exact J86 ls (lv_sub hl [0, 1, 2, 3, 4, 5, 6] rfl)
              · have bc78_22 := c78_22
                refine lv_iconst (v := 1) hx hb dX4_count_81 (by decide) ?_
                refine lv_goto (tgt := 86) hx hb dX4_count_82 (by decide) ?_
                refine k_eq (y := bI (decide (σ 9 sh = 0) && !hcM σ (sh * 5 + ar) zb0 cn && decide (agM σ (sh * 5 + ar) = -1))) (by simp [bI, hE, c58_18, bc68_20, c78_22]) ?_
                exact J86 ls (lv_sub hl [0, 1, 2, 3, 4, 5, 6] rfl)
  refine lv_aload_n hx hb dX4_count_0 rfl (lv_at hl 0 rfl) ?_
  refine lv_iload_n hx hb dX4_count_1 rfl (lv_at hl 1 rfl) ?_
  refine q_i (r_V S ⟨m_682, m_684, m_24, m_40, m_685⟩ ⟨rfl, by decide, by decide, by decide +kernel⟩ (c4_isSheet l G ad σ za0) ⟨rfl, rfl, Nat.le_of_ble_eq_true rfl, Nat.le_of_ble_eq_true rfl⟩ (pv_M hX bl_PM (bM hX)) (n := 1) (As := [.int za0]) (rest := []) rfl hl.1 rfl (Nat.le_of_ble_eq_true rfl) ⟨Nat.le_of_ble_eq_true rfl, Nat.le_of_ble_eq_true rfl⟩ dX4_count_2) (fun r23 (e23 : r23 = bI (ckR za0 0 (σ 18 0 - 1))) => ?_)
  subst e23
  refine lv_if_eq (tgt := 28) hx hb dX4_count_5 (by decide) (fun c5_24 => ?_) (fun c5_24 => ?_)
  · have bc5_24 := bI_0 c5_24
    refine lv_iconst (v := 0) hx hb dX4_count_28 (by decide) ?_
    refine k_eq (y := bI (ckR za0 0 (σ 18 0 - 1) && ckR zb0 0 5 && ckR zc0 0 4)) (by simp [bI, bc5_24]) ?_
    exact J29 ls (lv_sub hl [0, 1, 2, 3, 4] rfl)
  · have bc5_24 := bI_n c5_24
    refine lv_iload_n hx hb dX4_count_8 rfl (lv_at hl 2 rfl) ?_
    refine lv_iconst (v := 0) hx hb dX4_count_9 (by decide) ?_
    refine lv_iconst (v := 5) hx hb dX4_count_10 (by decide) ?_
    refine q_i (r_S S ⟨m_647, m_648, m_40, m_649⟩ ⟨rfl, by decide, by decide, by decide +kernel⟩ (c4_in l zb0 0 5) ⟨rfl, rfl, Nat.le_of_ble_eq_true rfl, Nat.le_of_ble_eq_true rfl⟩ (ps bl_GL (bG hX.2.2)) (n := 3) (As := [.int zb0, .int 0, .int 5]) (rest := []) rfl hl.1 rfl (Nat.le_of_ble_eq_true rfl) ⟨Nat.le_of_ble_eq_true rfl, Nat.le_of_ble_eq_true rfl⟩ dX4_count_11) (fun r25 (e25 : r25 = bI (ckR zb0 0 5)) => ?_)
    subst e25
    refine lv_if_eq (tgt := 28) hx hb dX4_count_14 (by decide) (fun c14_26 => ?_) (fun c14_26 => ?_)
    · have bc14_26 := bI_0 c14_26
      refine lv_iconst (v := 0) hx hb dX4_count_28 (by decide) ?_
      refine k_eq (y := bI (ckR za0 0 (σ 18 0 - 1) && ckR zb0 0 5 && ckR zc0 0 4)) (by simp [bI, bc5_24, bc14_26]) ?_
      exact J29 ls (lv_sub hl [0, 1, 2, 3, 4] rfl)
    · have bc14_26 := bI_n c14_26
      refine lv_iload_n hx hb dX4_count_17 rfl (lv_at hl 3 rfl) ?_
      refine q_i (r_S S ⟨m_644, m_645, m_40, m_646⟩ ⟨rfl, by decide, by decide, by decide +kernel⟩ (c4_isArticle l zc0) ⟨rfl, rfl, Nat.le_of_ble_eq_true rfl, Nat.le_of_ble_eq_true rfl⟩ (ps bl_GL (bG hX.2.2)) (n := 1) (As := [.int zc0]) (rest := []) rfl hl.1 rfl (Nat.le_of_ble_eq_true rfl) ⟨Nat.le_of_ble_eq_true rfl, Nat.le_of_ble_eq_true rfl⟩ dX4_count_18) (fun r27 (e27 : r27 = bI (ckR zc0 0 4)) => ?_)
      subst e27
      refine lv_if_eq (tgt := 28) hx hb dX4_count_21 (by decide) (fun c21_28 => ?_) (fun c21_28 => ?_)
      · have bc21_28 := bI_0 c21_28
        refine lv_iconst (v := 0) hx hb dX4_count_28 (by decide) ?_
        refine k_eq (y := bI (ckR za0 0 (σ 18 0 - 1) && ckR zb0 0 5 && ckR zc0 0 4)) (by simp [bI, bc5_24, bc14_26, bc21_28]) ?_
        exact J29 ls (lv_sub hl [0, 1, 2, 3, 4] rfl)
      · have bc21_28 := bI_n c21_28
        refine lv_iconst (v := 1) hx hb dX4_count_24 (by decide) ?_
        refine lv_goto (tgt := 29) hx hb dX4_count_25 (by decide) ?_
        refine k_eq (y := bI (ckR za0 0 (σ 18 0 - 1) && ckR zb0 0 5 && ckR zc0 0 4)) (by simp [bI, bc5_24, bc14_26, bc21_28]) ?_
        exact J29 ls (lv_sub hl [0, 1, 2, 3, 4] rfl)

set_option maxHeartbeats 4000000 in
set_option maxRecDepth 100000 in
theorem c4_close (l : Launch) (G : kG) (ad : Nat → Nat) (σ : kS) (nm ns : Nat) (za0 : Int32) (hns : σ 18 0 = nI ns) (hns4 : ns ≤ 40) (hnm : σ 17 0 = nI nm) (hnm2 : nm ≤ 200)  (A : Nat → Prop) (hD : DD 16 A ad) : Met l yX4_close [.code yX4_close cX4_close 7 (some .int)] ({ frames := 3, cells := 0, slots := 0, locals := 83 }) (va_Pc [.ref (ad 0), .int za0] (fun U => PM G ad σ U U.heap)) (oW A (fun r => r = vM (ckR za0 0 (σ 18 0 - 1), ckR za0 0 (σ 18 0 - 1) && decide (σ 9 (ixN za0) = 0) && alM σ (ixN za0) 5, true) (clM σ (ixN za0) 5)) (fun H9 => va_P G.1 vwCl (wM G ad (sM (ckR za0 0 (σ 18 0 - 1), ckR za0 0 (σ 18 0 - 1) && decide (σ 9 (ixN za0) = 0) && alM σ (ixN za0) 5, true) σ (fun μ => su μ 9 (ixN za0) 1))) H9)) 0 0 A := by
  refine k_of (by decide) (Nat.le_of_ble_eq_true rfl) (fun U h => h.2.2) ?_
  intro p e s m below meth c ls S hr hlocks hmn hB hl
  have hx := S.1
  have hb := S.2.1
  have hX : PM G ad σ s s.heap := hB
  have hS0 : va_S A s.heap s.heap [] := va_S.rf
  have hl : lv_has ls 7 [(0, .ref (ad 0)), (1, .int za0)] := hl
  refine lv_aload_n hx hb dX4_close_0 rfl (lv_at hl 0 rfl) ?_
  refine lv_iload_n hx hb dX4_close_1 rfl (lv_at hl 1 rfl) ?_
  refine q_i (r_V S ⟨m_682, m_684, m_24, m_40, m_685⟩ ⟨rfl, by decide, by decide, by decide +kernel⟩ (c4_isSheet l G ad σ za0) ⟨rfl, rfl, Nat.le_of_ble_eq_true rfl, Nat.le_of_ble_eq_true rfl⟩ (pv_M hX bl_PM (bM hX)) (n := 1) (As := [.int za0]) (rest := []) rfl hl.1 rfl (Nat.le_of_ble_eq_true rfl) ⟨Nat.le_of_ble_eq_true rfl, Nat.le_of_ble_eq_true rfl⟩ dX4_close_2) (fun r1 (e1 : r1 = bI (ckR za0 0 (σ 18 0 - 1))) => ?_)
  subst e1
  rcases bft (ckR za0 0 (σ 18 0 - 1)) with hE | hE
  · refine k_eq (y := 0) (by rw [hE]; rfl) ?_
    refine lv_istore_n (lv' := [(2, .int 0), (0, .ref (ad 0)), (1, .int za0)]) hx hb dX4_close_5 rfl hl (by decide) rfl (fun ls hl => ?_)
    refine lv_iconst (v := 0) hx hb dX4_close_6 (by decide) ?_
    refine lv_istore_n (lv' := [(3, .int 0), (2, .int 0), (0, .ref (ad 0)), (1, .int za0)]) hx hb dX4_close_7 rfl hl (by decide) rfl (fun ls hl => ?_)
    refine lv_iconst (v := 1) hx hb dX4_close_8 (by decide) ?_
    refine lv_istore (lv' := [(4, .int 1), (3, .int 0), (2, .int 0), (0, .ref (ad 0)), (1, .int za0)]) hx hb dX4_close_9 hl (by decide) rfl (fun ls hl => ?_)
    refine lv_iconst (v := 0) hx hb dX4_close_11 (by decide) ?_
    refine lv_istore (lv' := [(5, .int 0), (4, .int 1), (3, .int 0), (2, .int 0), (0, .ref (ad 0)), (1, .int za0)]) hx hb dX4_close_12 hl (by decide) rfl (fun ls hl => ?_)
    refine lv_iload hx hb dX4_close_14 (lv_at hl 0 rfl) ?_
    refine lv_iconst (v := 5) hx hb dX4_close_16 (by decide) ?_
    refine lv_icmp_ge (tgt := 95) hx hb dX4_close_17 (by decide) (fun c17_2 => ?_) (fun c17_2 => ?_)
    · exact absurd c17_2 (by decide)
    · have bc17_2 := c17_2
      refine lv_iload_n hx hb dX4_close_20 rfl (lv_at hl 3 rfl) ?_
      refine lv_if_eq (tgt := 95) hx hb dX4_close_21 (by decide) (fun c21_3 => ?_) (fun c21_3 => ?_)
      · have bc21_3 := c21_3
        refine lv_aload_n hx hb dX4_close_95 rfl (lv_at hl 4 rfl) ?_
        refine lv_iload_n hx hb dX4_close_96 rfl (lv_at hl 3 rfl) ?_
        refine lv_iload_n hx hb dX4_close_97 rfl (lv_at hl 3 rfl) ?_
        refine lv_if_eq (tgt := 119) hx hb dX4_close_98 (by decide) (fun c98_4 => ?_) (fun c98_4 => ?_)
        · have bc98_4 := c98_4
          refine lv_iconst (v := 0) hx hb dX4_close_119 (by decide) ?_
          refine lv_iconst (v := 1) hx hb dX4_close_120 (by decide) ?_
          refine q_w (r_V S ⟨m_650, m_652, m_22, m_40, m_653⟩ ⟨rfl, by decide, by decide, by decide +kernel⟩ (c4_goes l G ad σ false false true A hD) ⟨rfl, rfl, Nat.le_of_ble_eq_true rfl, Nat.le_of_ble_eq_true rfl⟩ (pv_M hX bl_PM (bM hX)) (n := 3) (As := [.int (bI false), .int (bI false), .int (bI true)]) (rest := []) rfl hl.1 rfl (Nat.le_of_ble_eq_true rfl) ⟨Nat.le_of_ble_eq_true rfl, Nat.le_of_ble_eq_true rfl⟩ dX4_close_121) hS0 (fun _ h => h) (fun r5 H5 L5 (e5 : r5 = bI (go3 (false, false, true))) h5 _ _ hS5 => ?_)
          subst e5
          have hX5 : PM G ad (su σ 23 0 (goV (false, false, true))) s H5 := ⟨h5, hX.2⟩
          refine lv_if_ne (tgt := 129) hx hb dX4_close_124 (by decide) (fun c124_6 => ?_) (fun c124_6 => ?_)
          · have bc124_6 := bI_n c124_6
            exact absurd bc124_6 (by simp [go3])
          · have bc124_6 := bI_0 c124_6
            refine lv_iconst (v := 0) hx hb dX4_close_127 (by decide) ?_
            exact W.iret (v := 0) hx hb hr (fun t ht hW => ⟨⟨_, rfl, (by rw [show (ckR za0 0 (σ 18 0 - 1), ckR za0 0 (σ 18 0 - 1) && decide (σ 9 (ixN za0) = 0) && alM σ (ixN za0) 5, true) = (false, false, true) by simp [hE]]; rw [vM_f bc124_6])⟩, (by have e9 : sM (ckR za0 0 (σ 18 0 - 1), ckR za0 0 (σ 18 0 - 1) && decide (σ 9 (ixN za0) = 0) && alM σ (ixN za0) 5, true) σ (fun μ => su μ 9 (ixN za0) 1) = su σ 23 0 (goV (false, false, true)) := (by rw [show (ckR za0 0 (σ 18 0 - 1), ckR za0 0 (σ 18 0 - 1) && decide (σ 9 (ixN za0) = 0) && alM σ (ixN za0) 5, true) = (false, false, true) by simp [hE]]; rw [sM_f bc124_6]); show va_P G.1 vwCl (wM G ad (sM (ckR za0 0 (σ 18 0 - 1), ckR za0 0 (σ 18 0 - 1) && decide (σ 9 (ixN za0) = 0) && alM σ (ixN za0) 5, true) σ (fun μ => su μ 9 (ixN za0) 1))) t.heap; rw [e9, ht]; exact hX5.1), hS5.F ht⟩) hS5.2.2 dX4_close_128
        · exact absurd c98_4 (by decide)
      · exact absurd c21_3 (by decide)
  · refine k_eq (y := 1) (by rw [hE]; rfl) ?_
    obtain ⟨sh, hsh, rfl⟩ := ckR_nI (n := ns) (by rw [← hns]; exact hE) (by omega)
    have h31sh : sh < 2 ^ 31 := by omega
    refine lv_istore_n (lv' := [(2, .int 1), (0, .ref (ad 0)), (1, .int (nI sh))]) hx hb dX4_close_5 rfl hl (by decide) rfl (fun ls hl => ?_)
    refine lv_iconst (v := 0) hx hb dX4_close_6 (by decide) ?_
    refine lv_istore_n (lv' := [(3, .int 0), (2, .int 1), (0, .ref (ad 0)), (1, .int (nI sh))]) hx hb dX4_close_7 rfl hl (by decide) rfl (fun ls hl => ?_)
    refine lv_iconst (v := 1) hx hb dX4_close_8 (by decide) ?_
    refine lv_istore (lv' := [(4, .int 1), (3, .int 0), (2, .int 1), (0, .ref (ad 0)), (1, .int (nI sh))]) hx hb dX4_close_9 hl (by decide) rfl (fun ls hl => ?_)
    have L14 : ∀ (n i : Nat), i ≤ 5 → 5 + 1 ≤ i + n → ∀ ls, lv_has ls 7 [(0, .ref (ad 0)), (1, .int (nI sh)), (2, .int 1), (3, .int (clM σ sh i)), (4, .int (bI (alM σ sh i))), (5, .int (nI i))] → W p l e ({ frames := 3, cells := 0, slots := 0, locals := 83 } : Room) s m [.ref (ad 0), .int (nI sh)].toArray below meth c s.heap [] 0 0 (MQ below (oW A (fun r => r = vM (ckR (nI sh) 0 (σ 18 0 - 1), ckR (nI sh) 0 (σ 18 0 - 1) && decide (σ 9 (ixN (nI sh)) = 0) && alM σ (ixN (nI sh)) 5, true) (clM σ (ixN (nI sh)) 5)) (fun H9 => va_P G.1 vwCl (wM G ad (sM (ckR (nI sh) 0 (σ 18 0 - 1), ckR (nI sh) 0 (σ 18 0 - 1) && decide (σ 9 (ixN (nI sh)) = 0) && alM σ (ixN (nI sh)) 5, true) σ (fun μ => su μ 9 (ixN (nI sh)) 1))) H9)) [.ref (ad 0), .int (nI sh)].toArray s 0 0 A) (F0 m 14 ls []) := by
      intro n
      induction n with
      | zero =>
        intro i h1 h2
        omega
      | succ n ihn =>
        intro i hii hini ls hl
        refine lv_iload hx hb dX4_close_14 (lv_at hl 5 rfl) ?_
        refine lv_iconst (v := 5) hx hb dX4_close_16 (by decide) ?_
        refine lv_icmp_ge (tgt := 95) hx hb dX4_close_17 (by decide) (fun c17_7 => ?_) (fun c17_7 => ?_)
        · have bc17_7 := le_nlt c17_7
          have hgei : i = 5 := by
            have h9 := c17_7
            rw [show (5 : Int32) = nI 5 from rfl, nI_leI (by omega) (by omega)] at h9
            omega
          subst hgei
          refine lv_aload_n hx hb dX4_close_95 rfl (lv_at hl 0 rfl) ?_
          refine lv_iload_n hx hb dX4_close_96 rfl (lv_at hl 2 rfl) ?_
          have J120 : ∀ ls, lv_has ls 7 [(0, .ref (ad 0)), (1, .int (nI sh)), (2, .int 1), (3, .int (clM σ sh 5)), (4, .int (bI (alM σ sh 5))), (5, .int (nI 5))] → W p l e ({ frames := 3, cells := 0, slots := 0, locals := 83 } : Room) s m [.ref (ad 0), .int (nI sh)].toArray below meth c s.heap [] 0 0 (MQ below (oW A (fun r => r = vM (ckR (nI sh) 0 (σ 18 0 - 1), ckR (nI sh) 0 (σ 18 0 - 1) && decide (σ 9 (ixN (nI sh)) = 0) && alM σ (ixN (nI sh)) 5, true) (clM σ (ixN (nI sh)) 5)) (fun H9 => va_P G.1 vwCl (wM G ad (sM (ckR (nI sh) 0 (σ 18 0 - 1), ckR (nI sh) 0 (σ 18 0 - 1) && decide (σ 9 (ixN (nI sh)) = 0) && alM σ (ixN (nI sh)) 5, true) σ (fun μ => su μ 9 (ixN (nI sh)) 1))) H9)) [.ref (ad 0), .int (nI sh)].toArray s 0 0 A) (F0 m 120 ls [.int (bI (decide (σ 9 sh = 0) && alM σ sh 5)), .int 1, .ref (ad 0)]) := by
            intro ls hl
            refine lv_iconst (v := 1) hx hb dX4_close_120 (by decide) ?_
            refine q_w (r_V S ⟨m_650, m_652, m_22, m_40, m_653⟩ ⟨rfl, by decide, by decide, by decide +kernel⟩ (c4_goes l G ad σ true (decide (σ 9 sh = 0) && alM σ sh 5) true A hD) ⟨rfl, rfl, Nat.le_of_ble_eq_true rfl, Nat.le_of_ble_eq_true rfl⟩ (pv_M hX bl_PM (bM hX)) (n := 3) (As := [.int (bI true), .int (bI (decide (σ 9 sh = 0) && alM σ sh 5)), .int (bI true)]) (rest := []) rfl hl.1 rfl (Nat.le_of_ble_eq_true rfl) ⟨Nat.le_of_ble_eq_true rfl, Nat.le_of_ble_eq_true rfl⟩ dX4_close_121) hS0 (fun _ h => h) (fun r8 H8 L8 (e8 : r8 = bI (go3 (true, (decide (σ 9 sh = 0) && alM σ sh 5), true))) h8 _ _ hS8 => ?_)
            subst e8
            have hX8 : PM G ad (su σ 23 0 (goV (true, (decide (σ 9 sh = 0) && alM σ sh 5), true))) s H8 := ⟨h8, hX.2⟩
            refine lv_if_ne (tgt := 129) hx hb dX4_close_124 (by decide) (fun c124_9 => ?_) (fun c124_9 => ?_)
            · have bc124_9 := bI_n c124_9
              have hX10 : PM G ad (su σ 23 0 0) s H8 := by
                have h8 := hX8
                rw [goV_0 bc124_9] at h8
                exact h8
              obtain ⟨q1, q2, q3⟩ := go3_t bc124_9
              refine lv_aload_n hx hb dX4_close_129 rfl (lv_at hl 0 rfl) ?_
              refine k_get S hX10.2 hX10.1 0 (C := RX4) (T := TX4) (N := 20) rfl rfl 12 (by decide) inX4 m_587 rfl dX4_close_130 ?_
              refine lv_iload_n hx hb dX4_close_133 rfl (lv_at hl 1 rfl) ?_
              refine lv_iconst (v := 1) hx hb dX4_close_134 (by decide) ?_
              refine k_ist S hX10.2 hX10.1 (hD.w (wM_fst _ _ _)) hS8 10 (i := sh) rfl (by omega) (by decide) dX4_close_135 (fun H11 L11 h11 hS11 => ?_)
              have hX11 : PM G ad (su (su σ 23 0 0) 9 sh 1) s H11 := ⟨h11, hX10.2⟩
              refine lv_iload_n hx hb dX4_close_136 rfl (lv_at hl 3 rfl) ?_
              exact W.iret (v := clM σ sh 5) hx hb hr (fun t ht hW => ⟨⟨_, rfl, (by rw [show (ckR (nI sh) 0 (σ 18 0 - 1), ckR (nI sh) 0 (σ 18 0 - 1) && decide (σ 9 (ixN (nI sh)) = 0) && alM σ (ixN (nI sh)) 5, true) = (true, (decide (σ 9 sh = 0) && alM σ sh 5), true) by simp [ixN_nI h31sh, hE, c17_7, bc17_7]]; rw [vM_t bc124_9]; try (first | rfl | simp [ixN_nI h31sh, hE, c17_7, bc17_7]))⟩, (by have e9 : sM (ckR (nI sh) 0 (σ 18 0 - 1), ckR (nI sh) 0 (σ 18 0 - 1) && decide (σ 9 (ixN (nI sh)) = 0) && alM σ (ixN (nI sh)) 5, true) σ (fun μ => su μ 9 (ixN (nI sh)) 1) = su (su σ 23 0 0) 9 sh 1 := (by rw [show (ckR (nI sh) 0 (σ 18 0 - 1), ckR (nI sh) 0 (σ 18 0 - 1) && decide (σ 9 (ixN (nI sh)) = 0) && alM σ (ixN (nI sh)) 5, true) = (true, (decide (σ 9 sh = 0) && alM σ sh 5), true) by simp [ixN_nI h31sh, hE, c17_7, bc17_7]]; rw [sM_t bc124_9]; try (first | rfl | simp [ixN_nI h31sh, hE, c17_7, bc17_7])); show va_P G.1 vwCl (wM G ad (sM (ckR (nI sh) 0 (σ 18 0 - 1), ckR (nI sh) 0 (σ 18 0 - 1) && decide (σ 9 (ixN (nI sh)) = 0) && alM σ (ixN (nI sh)) 5, true) σ (fun μ => su μ 9 (ixN (nI sh)) 1))) t.heap; rw [e9, ht]; exact hX11.1), hS11.F ht⟩) hS11.2.2 dX4_close_137
            · have bc124_9 := bI_0 c124_9
              refine lv_iconst (v := 0) hx hb dX4_close_127 (by decide) ?_
              exact W.iret (v := 0) hx hb hr (fun t ht hW => ⟨⟨_, rfl, (by rw [show (ckR (nI sh) 0 (σ 18 0 - 1), ckR (nI sh) 0 (σ 18 0 - 1) && decide (σ 9 (ixN (nI sh)) = 0) && alM σ (ixN (nI sh)) 5, true) = (true, (decide (σ 9 sh = 0) && alM σ sh 5), true) by simp [ixN_nI h31sh, hE, c17_7, bc17_7]]; rw [vM_f bc124_9])⟩, (by have e9 : sM (ckR (nI sh) 0 (σ 18 0 - 1), ckR (nI sh) 0 (σ 18 0 - 1) && decide (σ 9 (ixN (nI sh)) = 0) && alM σ (ixN (nI sh)) 5, true) σ (fun μ => su μ 9 (ixN (nI sh)) 1) = su σ 23 0 (goV (true, (decide (σ 9 sh = 0) && alM σ sh 5), true)) := (by rw [show (ckR (nI sh) 0 (σ 18 0 - 1), ckR (nI sh) 0 (σ 18 0 - 1) && decide (σ 9 (ixN (nI sh)) = 0) && alM σ (ixN (nI sh)) 5, true) = (true, (decide (σ 9 sh = 0) && alM σ sh 5), true) by simp [ixN_nI h31sh, hE, c17_7, bc17_7]]; rw [sM_f bc124_9]); show va_P G.1 vwCl (wM G ad (sM (ckR (nI sh) 0 (σ 18 0 - 1), ckR (nI sh) 0 (σ 18 0 - 1) && decide (σ 9 (ixN (nI sh)) = 0) && alM σ (ixN (nI sh)) 5, true) σ (fun μ => su μ 9 (ixN (nI sh)) 1))) t.heap; rw [e9, ht]; exact hX8.1), hS8.F ht⟩) hS8.2.2 dX4_close_128
          refine lv_iload_n hx hb dX4_close_97 rfl (lv_at hl 2 rfl) ?_
          refine lv_if_eq (tgt := 119) hx hb dX4_close_98 (by decide) (fun c98_12 => ?_) (fun c98_12 => ?_)
          · exact absurd c98_12 (by decide)
          · have bc98_12 := c98_12
            refine lv_aload_n hx hb dX4_close_101 rfl (lv_at hl 0 rfl) ?_
            refine k_get S hX.2 hX.1 0 (C := RX4) (T := TX4) (N := 20) rfl rfl 12 (by decide) inX4 m_587 rfl dX4_close_102 ?_
            refine lv_iload_n hx hb dX4_close_105 rfl (lv_at hl 1 rfl) ?_
            refine k_ild S hX.2 hX.1 10 (i := sh) rfl (by omega) (by decide) dX4_close_106 ?_
            refine lv_if_ne (tgt := 119) hx hb dX4_close_107 (by decide) (fun c107_13 => ?_) (fun c107_13 => ?_)
            · have bc107_13 := c107_13
              refine lv_iconst (v := 0) hx hb dX4_close_119 (by decide) ?_
              refine k_eq (y := bI (decide (σ 9 sh = 0) && alM σ sh 5)) (by simp [bI, hE, c17_7, bc17_7, c107_13]) ?_
              exact J120 ls (lv_sub hl [0, 1, 2, 3, 4, 5] rfl)
            · have bc107_13 := c107_13
              refine lv_iload hx hb dX4_close_110 (lv_at hl 4 rfl) ?_
              refine lv_if_eq (tgt := 119) hx hb dX4_close_112 (by decide) (fun c112_14 => ?_) (fun c112_14 => ?_)
              · have bc112_14 := bI_0 c112_14
                refine lv_iconst (v := 0) hx hb dX4_close_119 (by decide) ?_
                refine k_eq (y := bI (decide (σ 9 sh = 0) && alM σ sh 5)) (by simp [bI, hE, c17_7, bc17_7, c107_13, bc112_14]) ?_
                exact J120 ls (lv_sub hl [0, 1, 2, 3, 4, 5] rfl)
              · have bc112_14 := bI_n c112_14
                refine lv_iconst (v := 1) hx hb dX4_close_115 (by decide) ?_
                refine lv_goto (tgt := 120) hx hb dX4_close_116 (by decide) ?_
                refine k_eq (y := bI (decide (σ 9 sh = 0) && alM σ sh 5)) (by simp [bI, hE, c17_7, bc17_7, c107_13, bc112_14]) ?_
                exact J120 ls (lv_sub hl [0, 1, 2, 3, 4, 5] rfl)
        · have bc17_7 := nle_lt c17_7
          have hlti : i < 5 := by
            have h9 := nle_lt c17_7
            rw [show (5 : Int32) = nI 5 from rfl, nI_ltI (by omega) (by omega)] at h9
            exact h9
          refine lv_iload_n hx hb dX4_close_20 rfl (lv_at hl 2 rfl) ?_
          refine lv_if_eq (tgt := 95) hx hb dX4_close_21 (by decide) (fun c21_15 => ?_) (fun c21_15 => ?_)
          · exact absurd c21_15 (by decide)
          · have bc21_15 := c21_15
            refine lv_aload_n hx hb dX4_close_24 rfl (lv_at hl 0 rfl) ?_
            refine lv_iload_n hx hb dX4_close_25 rfl (lv_at hl 1 rfl) ?_
            refine lv_iload hx hb dX4_close_26 (lv_at hl 5 rfl) ?_
            refine q_i (r_S S ⟨m_686, m_687, m_40, m_688⟩ ⟨rfl, by decide, by decide, by decide +kernel⟩ (c4_at l sh i) ⟨rfl, rfl, Nat.le_of_ble_eq_true rfl, Nat.le_of_ble_eq_true rfl⟩ (ps bl_GL (bG hX.2.2)) (n := 2) (As := [.int (nI sh), .int (nI i)]) (rest := [.ref (ad 0)]) rfl hl.1 rfl (Nat.le_of_ble_eq_true rfl) ⟨Nat.le_of_ble_eq_true rfl, Nat.le_of_ble_eq_true rfl⟩ dX4_close_28) (fun r16 (e16 : r16 = nI (sh * 5 + i)) => ?_)
            subst e16
            refine q_i (r_V S ⟨m_693, m_695, m_26, m_40, m_696⟩ ⟨rfl, by decide, by decide, by decide +kernel⟩ (c4_agree l G ad σ (sh * 5 + i) (by omega)) ⟨rfl, rfl, Nat.le_of_ble_eq_true rfl, Nat.le_of_ble_eq_true rfl⟩ (pv_M hX bl_PM (bM hX)) (n := 1) (As := [.int (nI (sh * 5 + i))]) (rest := []) rfl hl.1 rfl (Nat.le_of_ble_eq_true rfl) ⟨Nat.le_of_ble_eq_true rfl, Nat.le_of_ble_eq_true rfl⟩ dX4_close_31) (fun r17 (e17 : r17 = agM σ (sh * 5 + i)) => ?_)
            subst e17
            refine lv_iconst (v := (-1)) hx hb dX4_close_34 (by decide) ?_
            refine lv_icmp_eq (tgt := 42) hx hb dX4_close_35 (by decide) (fun c35_18 => ?_) (fun c35_18 => ?_)
            · have bc35_18 := c35_18
              refine lv_iconst (v := 0) hx hb dX4_close_42 (by decide) ?_
              refine lv_istore (lv' := [(6, .int 0), (0, .ref (ad 0)), (1, .int (nI sh)), (2, .int 1), (3, .int (clM σ sh i)), (4, .int (bI (alM σ sh i))), (5, .int (nI i))]) hx hb dX4_close_43 hl (by decide) rfl (fun ls hl => ?_)
              refine lv_iload_n hx hb dX4_close_45 rfl (lv_at hl 4 rfl) ?_
              refine lv_iload hx hb dX4_close_46 (lv_at hl 0 rfl) ?_
              refine lv_if_eq (tgt := 55) hx hb dX4_close_48 (by decide) (fun c48_19 => ?_) (fun c48_19 => ?_)
              · have bc48_19 := c48_19
                refine lv_iconst (v := 0) hx hb dX4_close_55 (by decide) ?_
                refine lv_iadd hx hb dX4_close_56 ?_
                refine lv_istore_n (lv' := [(3, .int ((clM σ sh i) + 0)), (6, .int 0), (0, .ref (ad 0)), (1, .int (nI sh)), (2, .int 1), (4, .int (bI (alM σ sh i))), (5, .int (nI i))]) hx hb dX4_close_57 rfl hl (by decide) rfl (fun ls hl => ?_)
                refine lv_iload hx hb dX4_close_58 (lv_at hl 5 rfl) ?_
                refine lv_if_eq (tgt := 86) hx hb dX4_close_60 (by decide) (fun c60_20 => ?_) (fun c60_20 => ?_)
                · have bc60_20 := bI_0 c60_20
                  refine lv_iconst (v := 0) hx hb dX4_close_86 (by decide) ?_
                  refine lv_istore (lv' := [(4, .int 0), (3, .int ((clM σ sh i) + 0)), (6, .int 0), (0, .ref (ad 0)), (1, .int (nI sh)), (2, .int 1), (5, .int (nI i))]) hx hb dX4_close_87 hl (by decide) rfl (fun ls hl => ?_)
                  refine lv_iinc (v := nI (i + 1)) (lv' := [(5, .int (nI (i + 1))), (4, .int 0), (3, .int ((clM σ sh i) + 0)), (6, .int 0), (0, .ref (ad 0)), (1, .int (nI sh)), (2, .int 1)]) hx hb dX4_close_89 hl (k := 6) rfl (nI_1 i) (by decide) rfl (fun ls hl => ?_)
                  refine lv_goto (tgt := 14) hx hb dX4_close_92 (by decide) ?_
                  have ev21 : (clM σ sh i) + 0 = clM σ sh (i + 1) := by simp [clM, alM, bI, hE, c17_7, bc17_7, c35_18, bc60_20]
                  have hl : lv_has ls 7 [(5, .int (nI (i + 1))), (4, .int 0), (3, .int (clM σ sh (i + 1))), (6, .int 0), (0, .ref (ad 0)), (1, .int (nI sh)), (2, .int 1)] := by rw [← ev21]; exact hl
                  have ev22 : 0 = bI (alM σ sh (i + 1)) := by simp [clM, alM, bI, hE, c17_7, bc17_7, c35_18, bc60_20]
                  have hl : lv_has ls 7 [(5, .int (nI (i + 1))), (4, .int (bI (alM σ sh (i + 1)))), (3, .int (clM σ sh (i + 1))), (6, .int 0), (0, .ref (ad 0)), (1, .int (nI sh)), (2, .int 1)] := by rw [← ev22]; exact hl
                  exact ihn (i + 1) hlti (by omega) ls (lv_sub hl [4, 5, 6, 2, 1, 0] rfl)
                · have bc60_20 := bI_n c60_20
                  refine lv_iload hx hb dX4_close_63 (lv_at hl 1 rfl) ?_
                  refine lv_if_ne (tgt := 82) hx hb dX4_close_65 (by decide) (fun c65_23 => ?_) (fun c65_23 => ?_)
                  · exact absurd c65_23 (by decide)
                  · have bc65_23 := c65_23
                    refine lv_aload_n hx hb dX4_close_68 rfl (lv_at hl 2 rfl) ?_
                    refine k_get S hX.2 hX.1 0 (C := RX4) (T := TX4) (N := 20) rfl rfl 13 (by decide) inX4 m_588 rfl dX4_close_69 ?_
                    refine lv_iload_n hx hb dX4_close_72 rfl (lv_at hl 3 rfl) ?_
                    refine lv_iload hx hb dX4_close_73 (lv_at hl 6 rfl) ?_
                    refine q_i (r_S S ⟨m_686, m_687, m_40, m_688⟩ ⟨rfl, by decide, by decide, by decide +kernel⟩ (c4_at l sh i) ⟨rfl, rfl, Nat.le_of_ble_eq_true rfl, Nat.le_of_ble_eq_true rfl⟩ (ps bl_GL (bG hX.2.2)) (n := 2) (As := [.int (nI sh), .int (nI i)]) (rest := [.ref (ad 11)]) rfl hl.1 rfl (Nat.le_of_ble_eq_true rfl) ⟨Nat.le_of_ble_eq_true rfl, Nat.le_of_ble_eq_true rfl⟩ dX4_close_75) (fun r24 (e24 : r24 = nI (sh * 5 + i)) => ?_)
                    subst e24
                    refine k_ild S hX.2 hX.1 11 (i := (sh * 5 + i)) rfl (by omega) (by decide) dX4_close_78 ?_
                    refine lv_if_ne (tgt := 86) hx hb dX4_close_79 (by decide) (fun c79_25 => ?_) (fun c79_25 => ?_)
                    · have bc79_25 := c79_25
                      refine lv_iconst (v := 0) hx hb dX4_close_86 (by decide) ?_
                      refine lv_istore (lv' := [(4, .int 0), (3, .int ((clM σ sh i) + 0)), (6, .int 0), (0, .ref (ad 0)), (1, .int (nI sh)), (2, .int 1), (5, .int (nI i))]) hx hb dX4_close_87 hl (by decide) rfl (fun ls hl => ?_)
                      refine lv_iinc (v := nI (i + 1)) (lv' := [(5, .int (nI (i + 1))), (4, .int 0), (3, .int ((clM σ sh i) + 0)), (6, .int 0), (0, .ref (ad 0)), (1, .int (nI sh)), (2, .int 1)]) hx hb dX4_close_89 hl (k := 6) rfl (nI_1 i) (by decide) rfl (fun ls hl => ?_)
                      refine lv_goto (tgt := 14) hx hb dX4_close_92 (by decide) ?_
                      have ev26 : (clM σ sh i) + 0 = clM σ sh (i + 1) := by simp [clM, alM, bI, hE, c17_7, bc17_7, c35_18, bc60_20, c79_25]
                      have hl : lv_has ls 7 [(5, .int (nI (i + 1))), (4, .int 0), (3, .int (clM σ sh (i + 1))), (6, .int 0), (0, .ref (ad 0)), (1, .int (nI sh)), (2, .int 1)] := by rw [← ev26]; exact hl
                      have ev27 : 0 = bI (alM σ sh (i + 1)) := by simp [clM, alM, bI, hE, c17_7, bc17_7, c35_18, bc60_20, c79_25]
                      have hl : lv_has ls 7 [(5, .int (nI (i + 1))), (4, .int (bI (alM σ sh (i + 1)))), (3, .int (clM σ sh (i + 1))), (6, .int 0), (0, .ref (ad 0)), (1, .int (nI sh)), (2, .int 1)] := by rw [← ev27]; exact hl
                      exact ihn (i + 1) hlti (by omega) ls (lv_sub hl [4, 5, 6, 2, 1, 0] rfl)
                    · have bc79_25 := c79_25
                      refine lv_iconst (v := 1) hx hb dX4_close_82 (by decide) ?_
                      refine lv_goto (tgt := 87) hx hb dX4_close_83 (by decide) ?_
                      refine lv_istore (lv' := [(4, .int 1), (3, .int ((clM σ sh i) + 0)), (6, .int 0), (0, .ref (ad 0)), (1, .int (nI sh)), (2, .int 1), (5, .int (nI i))]) hx hb dX4_close_87 hl (by decide) rfl (fun ls hl => ?_)
                      refine lv_iinc (v := nI (i + 1)) (lv' := [(5, .int (nI (i + 1))), (4, .int 1), (3, .int ((clM σ sh i) + 0)), (6, .int 0), (0, .ref (ad 0)), (1, .int (nI sh)), (2, .int 1)]) hx hb dX4_close_89 hl (k := 6) rfl (nI_1 i) (by decide) rfl (fun ls hl => ?_)
                      refine lv_goto (tgt := 14) hx hb dX4_close_92 (by decide) ?_
                      have ev28 : (clM σ sh i) + 0 = clM σ sh (i + 1) := by simp [clM, alM, bI, hE, c17_7, bc17_7, c35_18, bc60_20, c79_25]
                      have hl : lv_has ls 7 [(5, .int (nI (i + 1))), (4, .int 1), (3, .int (clM σ sh (i + 1))), (6, .int 0), (0, .ref (ad 0)), (1, .int (nI sh)), (2, .int 1)] := by rw [← ev28]; exact hl
                      have ev29 : 1 = bI (alM σ sh (i + 1)) := by simp [clM, alM, bI, hE, c17_7, bc17_7, c35_18, bc60_20, c79_25]
                      have hl : lv_has ls 7 [(5, .int (nI (i + 1))), (4, .int (bI (alM σ sh (i + 1)))), (3, .int (clM σ sh (i + 1))), (6, .int 0), (0, .ref (ad 0)), (1, .int (nI sh)), (2, .int 1)] := by rw [← ev29]; exact hl
                      exact ihn (i + 1) hlti (by omega) ls (lv_sub hl [4, 5, 6, 2, 1, 0] rfl)
              · exact absurd c48_19 (by decide)
            · have bc35_18 := c35_18
              refine lv_iconst (v := 1) hx hb dX4_close_38 (by decide) ?_
              refine lv_goto (tgt := 43) hx hb dX4_close_39 (by decide) ?_
              refine lv_istore (lv' := [(6, .int 1), (0, .ref (ad 0)), (1, .int (nI sh)), (2, .int 1), (3, .int (clM σ sh i)), (4, .int (bI (alM σ sh i))), (5, .int (nI i))]) hx hb dX4_close_43 hl (by decide) rfl (fun ls hl => ?_)
              refine lv_iload_n hx hb dX4_close_45 rfl (lv_at hl 4 rfl) ?_
              refine lv_iload hx hb dX4_close_46 (lv_at hl 0 rfl) ?_
              refine lv_if_eq (tgt := 55) hx hb dX4_close_48 (by decide) (fun c48_30 => ?_) (fun c48_30 => ?_)
              · exact absurd c48_30 (by decide)
              · have bc48_30 := c48_30
                refine lv_iconst (v := 1) hx hb dX4_close_51 (by decide) ?_
                refine lv_goto (tgt := 56) hx hb dX4_close_52 (by decide) ?_
                refine lv_iadd hx hb dX4_close_56 ?_
                refine lv_istore_n (lv' := [(3, .int ((clM σ sh i) + 1)), (6, .int 1), (0, .ref (ad 0)), (1, .int (nI sh)), (2, .int 1), (4, .int (bI (alM σ sh i))), (5, .int (nI i))]) hx hb dX4_close_57 rfl hl (by decide) rfl (fun ls hl => ?_)
                refine lv_iload hx hb dX4_close_58 (lv_at hl 5 rfl) ?_
                refine lv_if_eq (tgt := 86) hx hb dX4_close_60 (by decide) (fun c60_31 => ?_) (fun c60_31 => ?_)
                · have bc60_31 := bI_0 c60_31
                  refine lv_iconst (v := 0) hx hb dX4_close_86 (by decide) ?_
                  refine lv_istore (lv' := [(4, .int 0), (3, .int ((clM σ sh i) + 1)), (6, .int 1), (0, .ref (ad 0)), (1, .int (nI sh)), (2, .int 1), (5, .int (nI i))]) hx hb dX4_close_87 hl (by decide) rfl (fun ls hl => ?_)
                  refine lv_iinc (v := nI (i + 1)) (lv' := [(5, .int (nI (i + 1))), (4, .int 0), (3, .int ((clM σ sh i) + 1)), (6, .int 1), (0, .ref (ad 0)), (1, .int (nI sh)), (2, .int 1)]) hx hb dX4_close_89 hl (k := 6) rfl (nI_1 i) (by decide) rfl (fun ls hl => ?_)
                  refine lv_goto (tgt := 14) hx hb dX4_close_92 (by decide) ?_
                  have ev32 : (clM σ sh i) + 1 = clM σ sh (i + 1) := by simp [clM, alM, bI, hE, c17_7, bc17_7, c35_18, bc60_31]
                  have hl : lv_has ls 7 [(5, .int (nI (i + 1))), (4, .int 0), (3, .int (clM σ sh (i + 1))), (6, .int 1), (0, .ref (ad 0)), (1, .int (nI sh)), (2, .int 1)] := by rw [← ev32]; exact hl
                  have ev33 : 0 = bI (alM σ sh (i + 1)) := by simp [clM, alM, bI, hE, c17_7, bc17_7, c35_18, bc60_31]
                  have hl : lv_has ls 7 [(5, .int (nI (i + 1))), (4, .int (bI (alM σ sh (i + 1)))), (3, .int (clM σ sh (i + 1))), (6, .int 1), (0, .ref (ad 0)), (1, .int (nI sh)), (2, .int 1)] := by rw [← ev33]; exact hl
                  exact ihn (i + 1) hlti (by omega) ls (lv_sub hl [4, 5, 6, 2, 1, 0] rfl)
                · have bc60_31 := bI_n c60_31
                  refine lv_iload hx hb dX4_close_63 (lv_at hl 1 rfl) ?_
                  refine lv_if_ne (tgt := 82) hx hb dX4_close_65 (by decide) (fun c65_34 => ?_) (fun c65_34 => ?_)
                  · have bc65_34 := c65_34
                    refine lv_iconst (v := 1) hx hb dX4_close_82 (by decide) ?_
                    refine lv_goto (tgt := 87) hx hb dX4_close_83 (by decide) ?_
                    refine lv_istore (lv' := [(4, .int 1), (3, .int ((clM σ sh i) + 1)), (6, .int 1), (0, .ref (ad 0)), (1, .int (nI sh)), (2, .int 1), (5, .int (nI i))]) hx hb dX4_close_87 hl (by decide) rfl (fun ls hl => ?_)
                    refine lv_iinc (v := nI (i + 1)) (lv' := [(5, .int (nI (i + 1))), (4, .int 1), (3, .int ((clM σ sh i) + 1)), (6, .int 1), (0, .ref (ad 0)), (1, .int (nI sh)), (2, .int 1)]) hx hb dX4_close_89 hl (k := 6) rfl (nI_1 i) (by decide) rfl (fun ls hl => ?_)
                    refine lv_goto (tgt := 14) hx hb dX4_close_92 (by decide) ?_
                    have ev35 : (clM σ sh i) + 1 = clM σ sh (i + 1) := by simp [clM, alM, bI, hE, c17_7, bc17_7, c35_18, bc60_31]
                    have hl : lv_has ls 7 [(5, .int (nI (i + 1))), (4, .int 1), (3, .int (clM σ sh (i + 1))), (6, .int 1), (0, .ref (ad 0)), (1, .int (nI sh)), (2, .int 1)] := by rw [← ev35]; exact hl
                    have ev36 : 1 = bI (alM σ sh (i + 1)) := by simp [clM, alM, bI, hE, c17_7, bc17_7, c35_18, bc60_31]
                    have hl : lv_has ls 7 [(5, .int (nI (i + 1))), (4, .int (bI (alM σ sh (i + 1)))), (3, .int (clM σ sh (i + 1))), (6, .int 1), (0, .ref (ad 0)), (1, .int (nI sh)), (2, .int 1)] := by rw [← ev36]; exact hl
                    exact ihn (i + 1) hlti (by omega) ls (lv_sub hl [4, 5, 6, 2, 1, 0] rfl)
                  · exact absurd c65_34 (by decide)
    refine lv_iconst (v := 0) hx hb dX4_close_11 (by decide) ?_
    refine lv_istore (lv' := [(5, .int 0), (4, .int 1), (3, .int 0), (2, .int 1), (0, .ref (ad 0)), (1, .int (nI sh))]) hx hb dX4_close_12 hl (by decide) rfl (fun ls hl => ?_)
    exact L14 (5 + 1) 0 (Nat.zero_le _) (by omega) ls (lv_sub hl [4, 5, 3, 2, 1, 0] rfl)
