theorem z23 {σ : kS} {v : Int32} {r k : Nat} (h : r ≠ 23) : su σ 23 0 v r k = σ r k := by
  have e9 : r.beq 23 = false := by rw [Bool.eq_false_iff]; intro q; exact h (Nat.eq_of_beq_eq_true q)
  show (bif r.beq 23 then upd (σ 23) 0 v else σ r) k = σ r k
  rw [e9]; rfl
set_option maxHeartbeats 4000000 in
set_option maxRecDepth 100000 in
theorem c4_exact (l : Launch) (G : kG) (ad : Nat → Nat) (σ : kS) (nm ns : Nat) (za0 : Int32) (hns : σ 18 0 = nI ns) (hns4 : ns ≤ 40) (hnm : σ 17 0 = nI nm) (hnm2 : nm ≤ 200)  (A : Nat → Prop) (hD : DD 16 A ad) : Met l yX4_exact [.code yX4_exact cX4_exact 5 (some .int)] ({ frames := 2, cells := 0, slots := 0, locals := 63 }) (va_Pc [.ref (ad 0), .int za0] (fun U => PM G ad σ U U.heap)) (oW A (fun r => r = vM (ckR za0 0 2, true, true) (xvM (su σ 23 0 0) ns za0)) (fun H9 => va_P G.1 vwCl (wM G ad (sM (ckR za0 0 2, true, true) σ (fun μ => μ))) H9)) 0 0 A := by
  refine k_of (by decide) (Nat.le_of_ble_eq_true rfl) (fun U h => h.2.2) ?_
  intro p e s m below meth c ls S hr hlocks hmn hB hl
  have hx := S.1
  have hb := S.2.1
  have hX : PM G ad σ s s.heap := hB
  have hS0 : va_S A s.heap s.heap [] := va_S.rf
  have hl : lv_has ls 5 [(0, .ref (ad 0)), (1, .int za0)] := hl
  refine lv_aload_n hx hb dX4_exact_0 rfl (lv_at hl 0 rfl) ?_
  refine lv_iload_n hx hb dX4_exact_1 rfl (lv_at hl 1 rfl) ?_
  refine lv_iconst (v := 0) hx hb dX4_exact_2 (by decide) ?_
  refine lv_iconst (v := 2) hx hb dX4_exact_3 (by decide) ?_
  refine q_i (r_S S ⟨m_647, m_648, m_40, m_649⟩ ⟨rfl, by decide, by decide, by decide +kernel⟩ (c4_in l za0 0 2) ⟨rfl, rfl, Nat.le_of_ble_eq_true rfl, Nat.le_of_ble_eq_true rfl⟩ (ps bl_GL (bG hX.2.2)) (n := 3) (As := [.int za0, .int 0, .int 2]) (rest := [.ref (ad 0)]) rfl hl.1 rfl (Nat.le_of_ble_eq_true rfl) ⟨Nat.le_of_ble_eq_true rfl, Nat.le_of_ble_eq_true rfl⟩ dX4_exact_4) (fun r1 (e1 : r1 = bI (ckR za0 0 2)) => ?_)
  subst e1
  refine lv_iconst (v := 1) hx hb dX4_exact_7 (by decide) ?_
  refine lv_iconst (v := 1) hx hb dX4_exact_8 (by decide) ?_
  refine q_w (r_V S ⟨m_650, m_652, m_22, m_40, m_653⟩ ⟨rfl, by decide, by decide, by decide +kernel⟩ (c4_goes l G ad σ (ckR za0 0 2) true true A hD) ⟨rfl, rfl, Nat.le_of_ble_eq_true rfl, Nat.le_of_ble_eq_true rfl⟩ (pv_M hX bl_PM (bM hX)) (n := 3) (As := [.int (bI (ckR za0 0 2)), .int (bI true), .int (bI true)]) (rest := []) rfl hl.1 rfl (Nat.le_of_ble_eq_true rfl) ⟨Nat.le_of_ble_eq_true rfl, Nat.le_of_ble_eq_true rfl⟩ dX4_exact_9) hS0 (fun _ h => h) (fun r2 H2 L2 (e2 : r2 = bI (go3 ((ckR za0 0 2), true, true))) h2 _ _ hS2 => ?_)
  subst e2
  have hX2 : PM G ad (su σ 23 0 (goV ((ckR za0 0 2), true, true))) s H2 := ⟨h2, hX.2⟩
  refine lv_if_ne (tgt := 17) hx hb dX4_exact_12 (by decide) (fun c12_3 => ?_) (fun c12_3 => ?_)
  · have bc12_3 := bI_n c12_3
    have hX4 : PM G ad (su σ 23 0 0) s H2 := by
      have h8 := hX2
      rw [goV_0 bc12_3] at h8
      exact h8
    obtain ⟨q1, q2, q3⟩ := go3_t bc12_3
    have L24 : ∀ (n i : Nat), i ≤ (5 * ns) → (5 * ns) + 1 ≤ i + n → ∀ ls, lv_has ls 5 [(0, .ref (ad 0)), (1, .int za0), (2, .int ((exM (su σ 23 0 0) za0 i).1)), (3, .int ((exM (su σ 23 0 0) za0 i).2)), (4, .int (nI i))] → W p l e ({ frames := 2, cells := 0, slots := 0, locals := 63 } : Room) s m [.ref (ad 0), .int za0].toArray below meth c H2 L2 0 0 (MQ below (oW A (fun r => r = vM (ckR za0 0 2, true, true) (xvM (su σ 23 0 0) ns za0)) (fun H9 => va_P G.1 vwCl (wM G ad (sM (ckR za0 0 2, true, true) σ (fun μ => μ))) H9)) [.ref (ad 0), .int za0].toArray s 0 0 A) (F0 m 24 ls []) := by
      intro n
      induction n with
      | zero =>
        intro i h1 h2
        omega
      | succ n ihn =>
        intro i hii hini ls hl
        refine lv_iload hx hb dX4_exact_24 (lv_at hl 4 rfl) ?_
        refine lv_iconst (v := 5) hx hb dX4_exact_26 (by decide) ?_
        refine lv_aload_n hx hb dX4_exact_27 rfl (lv_at hl 0 rfl) ?_
        refine k_get S hX4.2 hX4.1 0 (C := RX4) (T := TX4) (N := 20) rfl rfl 9 (by decide) inX4 m_584 rfl dX4_exact_28 ?_
        refine k_eq (y := σ 18 0) (by rfl) ?_
        refine k_eq (y := nI ns) (hns) ?_
        refine lv_imul hx hb dX4_exact_31 ?_
        refine k_eq (y := nI (5 * ns)) (pk_mul 5 ns) ?_
        refine lv_icmp_ge (tgt := 87) hx hb dX4_exact_32 (by decide) (fun c32_5 => ?_) (fun c32_5 => ?_)
        · have bc32_5 := le_nlt c32_5
          have hgei : i = (5 * ns) := by
            have h9 := c32_5
            rw [nI_leI (by omega) (by omega)] at h9
            omega
          refine lv_iload_n hx hb dX4_exact_87 rfl (lv_at hl 2 rfl) ?_
          refine lv_if_ne (tgt := 95) hx hb dX4_exact_88 (by decide) (fun c88_6 => ?_) (fun c88_6 => ?_)
          · have bc88_6 := c88_6
            have hdz := c88_6
            refine lv_sipush (v := 1000) hx hb dX4_exact_95 (by decide) ?_
            refine lv_iload_n hx hb dX4_exact_98 rfl (lv_at hl 3 rfl) ?_
            refine lv_imul hx hb dX4_exact_99 ?_
            refine lv_iload_n hx hb dX4_exact_100 rfl (lv_at hl 2 rfl) ?_
            refine lv_idiv hx hb dX4_exact_101 hdz ?_
            exact W.iret (v := (1000 * ((exM (su σ 23 0 0) za0 i).2)) / ((exM (su σ 23 0 0) za0 i).1)) hx hb hr (fun t ht hW => ⟨⟨_, rfl, (by rw [vM_t bc12_3]; subst hgei; simp [xvM, c32_5, bc32_5, c88_6])⟩, (by have e9 : sM (ckR za0 0 2, true, true) σ (fun μ => μ) = su σ 23 0 0 := (by rw [sM_t bc12_3]; try (first | rfl | simp [xvM, c32_5, bc32_5, c88_6])); show va_P G.1 vwCl (wM G ad (sM (ckR za0 0 2, true, true) σ (fun μ => μ))) t.heap; rw [e9, ht]; exact hX4.1), hS2.F ht⟩) hS2.2.2 dX4_exact_102
          · have bc88_6 := c88_6
            refine lv_iconst (v := (-1)) hx hb dX4_exact_91 (by decide) ?_
            refine lv_goto (tgt := 102) hx hb dX4_exact_92 (by decide) ?_
            exact W.iret (v := (-1)) hx hb hr (fun t ht hW => ⟨⟨_, rfl, (by rw [vM_t bc12_3]; subst hgei; simp [xvM, c32_5, bc32_5, c88_6])⟩, (by have e9 : sM (ckR za0 0 2, true, true) σ (fun μ => μ) = su σ 23 0 0 := (by rw [sM_t bc12_3]; try (first | rfl | simp [xvM, c32_5, bc32_5, c88_6])); show va_P G.1 vwCl (wM G ad (sM (ckR za0 0 2, true, true) σ (fun μ => μ))) t.heap; rw [e9, ht]; exact hX4.1), hS2.F ht⟩) hS2.2.2 dX4_exact_102
        · have bc32_5 := nle_lt c32_5
          have hlti : i < (5 * ns) := by
            have h9 := nle_lt c32_5
            rw [nI_ltI (by omega) (by omega)] at h9
            exact h9
          refine lv_aload_n hx hb dX4_exact_35 rfl (lv_at hl 0 rfl) ?_
          refine k_get S hX4.2 hX4.1 0 (C := RX4) (T := TX4) (N := 20) rfl rfl 14 (by decide) inX4 m_589 rfl dX4_exact_36 ?_
          refine lv_iload hx hb dX4_exact_39 (lv_at hl 4 rfl) ?_
          refine k_ild S hX4.2 hX4.1 12 (i := i) rfl (by omega) (by decide) dX4_exact_41 ?_
          refine k_eq (y := σ 14 i) (by rfl) ?_
          refine lv_if_le (tgt := 81) hx hb dX4_exact_42 (by decide) (fun c42_7 => ?_) (fun c42_7 => ?_)
          · have bc42_7 := le_nlt c42_7
            refine lv_iinc (v := nI (i + 1)) (lv' := [(4, .int (nI (i + 1))), (0, .ref (ad 0)), (1, .int za0), (2, .int ((exM (su σ 23 0 0) za0 i).1)), (3, .int ((exM (su σ 23 0 0) za0 i).2))]) hx hb dX4_exact_81 hl (k := 4) rfl (nI_1 i) (by decide) rfl (fun ls hl => ?_)
            refine lv_goto (tgt := 24) hx hb dX4_exact_84 (by decide) ?_
            have ev8 : (exM (su σ 23 0 0) za0 i).1 = (exM (su σ 23 0 0) za0 (i + 1)).1 := by simp [exM, z23, bc12_3, c32_5, bc32_5, c42_7, bc42_7]
            have hl : lv_has ls 5 [(4, .int (nI (i + 1))), (0, .ref (ad 0)), (1, .int za0), (2, .int ((exM (su σ 23 0 0) za0 (i + 1)).1)), (3, .int ((exM (su σ 23 0 0) za0 i).2))] := by rw [← ev8]; exact hl
            have ev9 : (exM (su σ 23 0 0) za0 i).2 = (exM (su σ 23 0 0) za0 (i + 1)).2 := by simp [exM, z23, bc12_3, c32_5, bc32_5, c42_7, bc42_7]
            have hl : lv_has ls 5 [(4, .int (nI (i + 1))), (0, .ref (ad 0)), (1, .int za0), (2, .int ((exM (su σ 23 0 0) za0 (i + 1)).1)), (3, .int ((exM (su σ 23 0 0) za0 (i + 1)).2))] := by rw [← ev9]; exact hl
            exact ihn (i + 1) hlti (by omega) ls (lv_sub hl [1, 2, 3, 4, 0] rfl)
          · have bc42_7 := nle_lt c42_7
            refine lv_aload_n hx hb dX4_exact_45 rfl (lv_at hl 0 rfl) ?_
            refine k_get S hX4.2 hX4.1 0 (C := RX4) (T := TX4) (N := 20) rfl rfl 10 (by decide) inX4 m_585 rfl dX4_exact_46 ?_
            refine lv_iload hx hb dX4_exact_49 (lv_at hl 4 rfl) ?_
            refine lv_iconst (v := 5) hx hb dX4_exact_51 (by decide) ?_
            refine lv_idiv hx hb dX4_exact_52 (by decide) ?_
            refine k_eq (y := nI (i / 5)) (pk_div (by omega) (by decide) (by decide)) ?_
            refine k_ild S hX4.2 hX4.1 8 (i := (i / 5)) rfl (by omega) (by decide) dX4_exact_53 ?_
            refine k_eq (y := σ 7 (i / 5)) (by rfl) ?_
            refine lv_iconst (v := 4) hx hb dX4_exact_54 (by decide) ?_
            refine lv_idiv hx hb dX4_exact_55 (by decide) ?_
            refine lv_iload_n hx hb dX4_exact_56 rfl (lv_at hl 1 rfl) ?_
            refine lv_icmp_ne (tgt := 81) hx hb dX4_exact_57 (by decide) (fun c57_10 => ?_) (fun c57_10 => ?_)
            · have bc57_10 := c57_10
              refine lv_iinc (v := nI (i + 1)) (lv' := [(4, .int (nI (i + 1))), (0, .ref (ad 0)), (1, .int za0), (2, .int ((exM (su σ 23 0 0) za0 i).1)), (3, .int ((exM (su σ 23 0 0) za0 i).2))]) hx hb dX4_exact_81 hl (k := 4) rfl (nI_1 i) (by decide) rfl (fun ls hl => ?_)
              refine lv_goto (tgt := 24) hx hb dX4_exact_84 (by decide) ?_
              have ev11 : (exM (su σ 23 0 0) za0 i).1 = (exM (su σ 23 0 0) za0 (i + 1)).1 := by simp [exM, z23, bc12_3, c32_5, bc32_5, c42_7, bc42_7, c57_10]
              have hl : lv_has ls 5 [(4, .int (nI (i + 1))), (0, .ref (ad 0)), (1, .int za0), (2, .int ((exM (su σ 23 0 0) za0 (i + 1)).1)), (3, .int ((exM (su σ 23 0 0) za0 i).2))] := by rw [← ev11]; exact hl
              have ev12 : (exM (su σ 23 0 0) za0 i).2 = (exM (su σ 23 0 0) za0 (i + 1)).2 := by simp [exM, z23, bc12_3, c32_5, bc32_5, c42_7, bc42_7, c57_10]
              have hl : lv_has ls 5 [(4, .int (nI (i + 1))), (0, .ref (ad 0)), (1, .int za0), (2, .int ((exM (su σ 23 0 0) za0 (i + 1)).1)), (3, .int ((exM (su σ 23 0 0) za0 (i + 1)).2))] := by rw [← ev12]; exact hl
              exact ihn (i + 1) hlti (by omega) ls (lv_sub hl [1, 2, 3, 4, 0] rfl)
            · have bc57_10 := c57_10
              refine lv_iinc (v := (exM (su σ 23 0 0) za0 i).1 + 1) (lv' := [(2, .int ((exM (su σ 23 0 0) za0 i).1 + 1)), (0, .ref (ad 0)), (1, .int za0), (3, .int ((exM (su σ 23 0 0) za0 i).2)), (4, .int (nI i))]) hx hb dX4_exact_60 hl (k := 2) rfl rfl (by decide) rfl (fun ls hl => ?_)
              refine lv_iload_n hx hb dX4_exact_63 rfl (lv_at hl 3 rfl) ?_
              refine lv_aload_n hx hb dX4_exact_64 rfl (lv_at hl 1 rfl) ?_
              refine k_get S hX4.2 hX4.1 0 (C := RX4) (T := TX4) (N := 20) rfl rfl 15 (by decide) inX4 m_590 rfl dX4_exact_65 ?_
              refine lv_iload hx hb dX4_exact_68 (lv_at hl 4 rfl) ?_
              refine k_ild S hX4.2 hX4.1 13 (i := i) rfl (by omega) (by decide) dX4_exact_70 ?_
              refine k_eq (y := σ 15 i) (by rfl) ?_
              refine lv_if_ne (tgt := 78) hx hb dX4_exact_71 (by decide) (fun c71_13 => ?_) (fun c71_13 => ?_)
              · have bc71_13 := c71_13
                refine lv_iconst (v := 0) hx hb dX4_exact_78 (by decide) ?_
                refine lv_iadd hx hb dX4_exact_79 ?_
                refine lv_istore_n (lv' := [(3, .int (((exM (su σ 23 0 0) za0 i).2) + 0)), (2, .int ((exM (su σ 23 0 0) za0 i).1 + 1)), (0, .ref (ad 0)), (1, .int za0), (4, .int (nI i))]) hx hb dX4_exact_80 rfl hl (by decide) rfl (fun ls hl => ?_)
                refine lv_iinc (v := nI (i + 1)) (lv' := [(4, .int (nI (i + 1))), (3, .int (((exM (su σ 23 0 0) za0 i).2) + 0)), (2, .int ((exM (su σ 23 0 0) za0 i).1 + 1)), (0, .ref (ad 0)), (1, .int za0)]) hx hb dX4_exact_81 hl (k := 4) rfl (nI_1 i) (by decide) rfl (fun ls hl => ?_)
                refine lv_goto (tgt := 24) hx hb dX4_exact_84 (by decide) ?_
                have ev14 : (exM (su σ 23 0 0) za0 i).1 + 1 = (exM (su σ 23 0 0) za0 (i + 1)).1 := by simp [exM, z23, bc12_3, c32_5, bc32_5, c42_7, bc42_7, c57_10, c71_13]
                have hl : lv_has ls 5 [(4, .int (nI (i + 1))), (3, .int (((exM (su σ 23 0 0) za0 i).2) + 0)), (2, .int ((exM (su σ 23 0 0) za0 (i + 1)).1)), (0, .ref (ad 0)), (1, .int za0)] := by rw [← ev14]; exact hl
                have ev15 : ((exM (su σ 23 0 0) za0 i).2) + 0 = (exM (su σ 23 0 0) za0 (i + 1)).2 := by simp [exM, z23, bc12_3, c32_5, bc32_5, c42_7, bc42_7, c57_10, c71_13]
                have hl : lv_has ls 5 [(4, .int (nI (i + 1))), (3, .int ((exM (su σ 23 0 0) za0 (i + 1)).2)), (2, .int ((exM (su σ 23 0 0) za0 (i + 1)).1)), (0, .ref (ad 0)), (1, .int za0)] := by rw [← ev15]; exact hl
                exact ihn (i + 1) hlti (by omega) ls (lv_sub hl [3, 4, 2, 1, 0] rfl)
              · have bc71_13 := c71_13
                refine lv_iconst (v := 1) hx hb dX4_exact_74 (by decide) ?_
                refine lv_goto (tgt := 79) hx hb dX4_exact_75 (by decide) ?_
                refine lv_iadd hx hb dX4_exact_79 ?_
                refine lv_istore_n (lv' := [(3, .int (((exM (su σ 23 0 0) za0 i).2) + 1)), (2, .int ((exM (su σ 23 0 0) za0 i).1 + 1)), (0, .ref (ad 0)), (1, .int za0), (4, .int (nI i))]) hx hb dX4_exact_80 rfl hl (by decide) rfl (fun ls hl => ?_)
                refine lv_iinc (v := nI (i + 1)) (lv' := [(4, .int (nI (i + 1))), (3, .int (((exM (su σ 23 0 0) za0 i).2) + 1)), (2, .int ((exM (su σ 23 0 0) za0 i).1 + 1)), (0, .ref (ad 0)), (1, .int za0)]) hx hb dX4_exact_81 hl (k := 4) rfl (nI_1 i) (by decide) rfl (fun ls hl => ?_)
                refine lv_goto (tgt := 24) hx hb dX4_exact_84 (by decide) ?_
                have ev16 : (exM (su σ 23 0 0) za0 i).1 + 1 = (exM (su σ 23 0 0) za0 (i + 1)).1 := by simp [exM, z23, bc12_3, c32_5, bc32_5, c42_7, bc42_7, c57_10, c71_13]
                have hl : lv_has ls 5 [(4, .int (nI (i + 1))), (3, .int (((exM (su σ 23 0 0) za0 i).2) + 1)), (2, .int ((exM (su σ 23 0 0) za0 (i + 1)).1)), (0, .ref (ad 0)), (1, .int za0)] := by rw [← ev16]; exact hl
                have ev17 : ((exM (su σ 23 0 0) za0 i).2) + 1 = (exM (su σ 23 0 0) za0 (i + 1)).2 := by simp [exM, z23, bc12_3, c32_5, bc32_5, c42_7, bc42_7, c57_10, c71_13]
                have hl : lv_has ls 5 [(4, .int (nI (i + 1))), (3, .int ((exM (su σ 23 0 0) za0 (i + 1)).2)), (2, .int ((exM (su σ 23 0 0) za0 (i + 1)).1)), (0, .ref (ad 0)), (1, .int za0)] := by rw [← ev17]; exact hl
                exact ihn (i + 1) hlti (by omega) ls (lv_sub hl [3, 4, 2, 1, 0] rfl)
    refine lv_iconst (v := 0) hx hb dX4_exact_17 (by decide) ?_
    refine lv_istore_n (lv' := [(2, .int 0), (0, .ref (ad 0)), (1, .int za0)]) hx hb dX4_exact_18 rfl hl (by decide) rfl (fun ls hl => ?_)
    refine lv_iconst (v := 0) hx hb dX4_exact_19 (by decide) ?_
    refine lv_istore_n (lv' := [(3, .int 0), (2, .int 0), (0, .ref (ad 0)), (1, .int za0)]) hx hb dX4_exact_20 rfl hl (by decide) rfl (fun ls hl => ?_)
    refine lv_iconst (v := 0) hx hb dX4_exact_21 (by decide) ?_
    refine lv_istore (lv' := [(4, .int 0), (3, .int 0), (2, .int 0), (0, .ref (ad 0)), (1, .int za0)]) hx hb dX4_exact_22 hl (by decide) rfl (fun ls hl => ?_)
    exact L24 (5 * ns + 1) 0 (Nat.zero_le _) (by omega) ls (lv_sub hl [3, 4, 2, 1, 0] rfl)
  · have bc12_3 := bI_0 c12_3
    refine lv_iconst (v := 0) hx hb dX4_exact_15 (by decide) ?_
    exact W.iret (v := 0) hx hb hr (fun t ht hW => ⟨⟨_, rfl, (by rw [vM_f bc12_3])⟩, (by have e9 : sM (ckR za0 0 2, true, true) σ (fun μ => μ) = su σ 23 0 (goV ((ckR za0 0 2), true, true)) := (by rw [sM_f bc12_3]); show va_P G.1 vwCl (wM G ad (sM (ckR za0 0 2, true, true) σ (fun μ => μ))) t.heap; rw [e9, ht]; exact hX2.1), hS2.F ht⟩) hS2.2.2 dX4_exact_16

set_option maxHeartbeats 4000000 in
set_option maxRecDepth 100000 in
theorem c4_likely (l : Launch) (G : kG) (ad : Nat → Nat) (σ : kS) (nm ns : Nat) (za0 zb0 : Int32) (hns : σ 18 0 = nI ns) (hns4 : ns ≤ 40) (hnm : σ 17 0 = nI nm) (hnm2 : nm ≤ 200)  (A : Nat → Prop) (hD : DD 16 A ad) : Met l yX4_likely [.code yX4_likely cX4_likely 6 (some .int)] ({ frames := 5, cells := 0, slots := 0, locals := 141 }) (va_Pc [.ref (ad 0), .int za0, .int zb0] (fun U => PM G ad σ U U.heap)) (oW A (fun r => r = vM (ckR za0 0 (σ 18 0 - 1) && ckR zb0 0 4, true, true) (oI (fdn (fun k => lkB (su σ 23 0 0) nm ns (ixN za0) (ixN zb0) k) 0 ns))) (fun H9 => va_P G.1 vwCl (wM G ad (sM (ckR za0 0 (σ 18 0 - 1) && ckR zb0 0 4, true, true) σ (fun μ => μ))) H9)) 0 0 A := by
  refine k_of (by decide) (Nat.le_of_ble_eq_true rfl) (fun U h => h.2.2) ?_
  intro p e s m below meth c ls S hr hlocks hmn hB hl
  have hx := S.1
  have hb := S.2.1
  have hX : PM G ad σ s s.heap := hB
  have hS0 : va_S A s.heap s.heap [] := va_S.rf
  have hl : lv_has ls 6 [(0, .ref (ad 0)), (1, .int za0), (2, .int zb0)] := hl
  refine lv_aload_n hx hb dX4_likely_0 rfl (lv_at hl 0 rfl) ?_
  have J21 : ∀ ls, lv_has ls 6 [(0, .ref (ad 0)), (1, .int za0), (2, .int zb0)] → W p l e ({ frames := 5, cells := 0, slots := 0, locals := 141 } : Room) s m [.ref (ad 0), .int za0, .int zb0].toArray below meth c s.heap [] 0 0 (MQ below (oW A (fun r => r = vM (ckR za0 0 (σ 18 0 - 1) && ckR zb0 0 4, true, true) (oI (fdn (fun k => lkB (su σ 23 0 0) nm ns (ixN za0) (ixN zb0) k) 0 ns))) (fun H9 => va_P G.1 vwCl (wM G ad (sM (ckR za0 0 (σ 18 0 - 1) && ckR zb0 0 4, true, true) σ (fun μ => μ))) H9)) [.ref (ad 0), .int za0, .int zb0].toArray s 0 0 A) (F0 m 21 ls [.int (bI (ckR za0 0 (σ 18 0 - 1) && ckR zb0 0 4)), .ref (ad 0)]) := by
    intro ls hl
    refine lv_iconst (v := 1) hx hb dX4_likely_21 (by decide) ?_
    refine lv_iconst (v := 1) hx hb dX4_likely_22 (by decide) ?_
    refine q_w (r_V S ⟨m_650, m_652, m_22, m_40, m_653⟩ ⟨rfl, by decide, by decide, by decide +kernel⟩ (c4_goes l G ad σ (ckR za0 0 (σ 18 0 - 1) && ckR zb0 0 4) true true A hD) ⟨rfl, rfl, Nat.le_of_ble_eq_true rfl, Nat.le_of_ble_eq_true rfl⟩ (pv_M hX bl_PM (bM hX)) (n := 3) (As := [.int (bI (ckR za0 0 (σ 18 0 - 1) && ckR zb0 0 4)), .int (bI true), .int (bI true)]) (rest := []) rfl hl.1 rfl (Nat.le_of_ble_eq_true rfl) ⟨Nat.le_of_ble_eq_true rfl, Nat.le_of_ble_eq_true rfl⟩ dX4_likely_23) hS0 (fun _ h => h) (fun r1 H1 L1 (e1 : r1 = bI (go3 ((ckR za0 0 (σ 18 0 - 1) && ckR zb0 0 4), true, true))) h1 _ _ hS1 => ?_)
    subst e1
    have hX1 : PM G ad (su σ 23 0 (goV ((ckR za0 0 (σ 18 0 - 1) && ckR zb0 0 4), true, true))) s H1 := ⟨h1, hX.2⟩
    refine lv_if_ne (tgt := 31) hx hb dX4_likely_26 (by decide) (fun c26_2 => ?_) (fun c26_2 => ?_)
    · have bc26_2 := bI_n c26_2
      have hX3 : PM G ad (su σ 23 0 0) s H1 := by
        have h8 := hX1
        rw [goV_0 bc26_2] at h8
        exact h8
      obtain ⟨q1, q2, q3⟩ := go3_t bc26_2
      obtain ⟨qa, qb⟩ := Bool.and_eq_true_iff.mp q1
      obtain ⟨sh, hsh, rfl⟩ := ckR_nI (n := ns) (by rw [← hns]; exact qa) (by omega)
      have h31sh : sh < 2 ^ 31 := by omega
      obtain ⟨ar, har, rfl⟩ := ckR_lit (n := 4) qb (by decide)
      have h31ar : ar < 2 ^ 31 := by omega
      have L41 : ∀ (k : Nat), k ≤ ns → ∀ ls, lv_has ls 6 [(0, .ref (ad 0)), (1, .int (nI sh)), (2, .int (nI ar)), (3, .int (oI (fdn (fun k => lkB (su σ 23 0 0) nm ns sh ar k) k (ns - k)))), (4, .int (nI k - 1))] → W p l e ({ frames := 5, cells := 0, slots := 0, locals := 141 } : Room) s m [.ref (ad 0), .int (nI sh), .int (nI ar)].toArray below meth c H1 L1 0 0 (MQ below (oW A (fun r => r = vM (ckR (nI sh) 0 (σ 18 0 - 1) && ckR (nI ar) 0 4, true, true) (oI (fdn (fun k => lkB (su σ 23 0 0) nm ns (ixN (nI sh)) (ixN (nI ar)) k) 0 ns))) (fun H9 => va_P G.1 vwCl (wM G ad (sM (ckR (nI sh) 0 (σ 18 0 - 1) && ckR (nI ar) 0 4, true, true) σ (fun μ => μ))) H9)) [.ref (ad 0), .int (nI sh), .int (nI ar)].toArray s 0 0 A) (F0 m 41 ls []) := by
        intro k
        induction k with
        | zero =>
          intro hk ls hl
          refine lv_iload hx hb dX4_likely_41 (lv_at hl 4 rfl) ?_
          refine lv_if_lt (tgt := 101) hx hb dX4_likely_43 (by decide) (fun c43_4 => ?_) (fun c43_4 => ?_)
          · have bc43_4 := lt_nle c43_4
            refine lv_iload_n hx hb dX4_likely_101 rfl (lv_at hl 3 rfl) ?_
            exact W.iret (v := oI (fdn (fun k => lkB (su σ 23 0 0) nm ns sh ar k) 0 (ns - 0))) hx hb hr (fun t ht hW => ⟨⟨_, rfl, (by rw [vM_t bc26_2]; simp only [ixN_nI h31sh, ixN_nI h31ar]; rfl)⟩, (by have e9 : sM (ckR (nI sh) 0 (σ 18 0 - 1) && ckR (nI ar) 0 4, true, true) σ (fun μ => μ) = su σ 23 0 0 := (by rw [sM_t bc26_2]; try (first | rfl | simp [ixN_nI h31sh, ixN_nI h31ar, c43_4, bc43_4])); show va_P G.1 vwCl (wM G ad (sM (ckR (nI sh) 0 (σ 18 0 - 1) && ckR (nI ar) 0 4, true, true) σ (fun μ => μ))) t.heap; rw [e9, ht]; exact hX3.1), hS1.F ht⟩) hS1.2.2 dX4_likely_102
          · have bc43_4 := nlt_le c43_4
            exact absurd (by decide) c43_4
        | succ j ih =>
          intro hk ls hl
          rw [nI_pred] at hl
          have hd : ns - j = ns - (j + 1) + 1 := by omega
          refine lv_iload hx hb dX4_likely_41 (lv_at hl 4 rfl) ?_
          refine lv_if_lt (tgt := 101) hx hb dX4_likely_43 (by decide) (fun c43_5 => ?_) (fun c43_5 => ?_)
          · have bc43_5 := lt_nle c43_5
            exact absurd c43_5 (nI_pos (by omega))
          · have bc43_5 := nlt_le c43_5
            refine lv_aload_n hx hb dX4_likely_46 rfl (lv_at hl 0 rfl) ?_
            refine lv_iload_n hx hb dX4_likely_47 rfl (lv_at hl 1 rfl) ?_
            refine lv_iload_n hx hb dX4_likely_48 rfl (lv_at hl 2 rfl) ?_
            refine q_i (r_V S ⟨m_706, m_708, m_27, m_40, m_709⟩ ⟨rfl, by decide, by decide, by decide +kernel⟩ (c4_agrees l G ad (su σ 23 0 0) sh ar (by omega) (by omega)) ⟨rfl, rfl, Nat.le_of_ble_eq_true rfl, Nat.le_of_ble_eq_true rfl⟩ (pv_M hX3 bl_PM (bM hX3)) (n := 2) (As := [.int (nI sh), .int (nI ar)]) (rest := []) rfl hl.1 rfl (Nat.le_of_ble_eq_true rfl) ⟨Nat.le_of_ble_eq_true rfl, Nat.le_of_ble_eq_true rfl⟩ dX4_likely_49) (fun r6 (e6 : r6 = bI (grM (su σ 23 0 0) (sh * 5 + ar))) => ?_)
            subst e6
            refine lv_if_eq (tgt := 80) hx hb dX4_likely_52 (by decide) (fun c52_7 => ?_) (fun c52_7 => ?_)
            · have bc52_7 := bI_0 c52_7
              refine lv_iconst (v := 0) hx hb dX4_likely_80 (by decide) ?_
              refine lv_istore (lv' := [(5, .int 0), (0, .ref (ad 0)), (1, .int (nI sh)), (2, .int (nI ar)), (3, .int (oI (fdn (fun k => lkB (su σ 23 0 0) nm ns sh ar k) (j + 1) (ns - (j + 1))))), (4, .int (nI j))]) hx hb dX4_likely_81 hl (by decide) rfl (fun ls hl => ?_)
              refine lv_iload hx hb dX4_likely_83 (lv_at hl 0 rfl) ?_
              refine lv_if_eq (tgt := 93) hx hb dX4_likely_85 (by decide) (fun c85_8 => ?_) (fun c85_8 => ?_)
              · have bc85_8 := c85_8
                refine lv_iload_n hx hb dX4_likely_93 rfl (lv_at hl 4 rfl) ?_
                refine lv_istore_n (lv' := [(3, .int (oI (fdn (fun k => lkB (su σ 23 0 0) nm ns sh ar k) (j + 1) (ns - (j + 1))))), (5, .int 0), (0, .ref (ad 0)), (1, .int (nI sh)), (2, .int (nI ar)), (4, .int (nI j))]) hx hb dX4_likely_94 rfl hl (by decide) rfl (fun ls hl => ?_)
                refine lv_iinc (v := nI j - 1) (lv' := [(4, .int (nI j - 1)), (3, .int (oI (fdn (fun k => lkB (su σ 23 0 0) nm ns sh ar k) (j + 1) (ns - (j + 1))))), (5, .int 0), (0, .ref (ad 0)), (1, .int (nI sh)), (2, .int (nI ar))]) hx hb dX4_likely_95 hl (k := 5) rfl (m1_eq _) (by decide) rfl (fun ls hl => ?_)
                refine lv_goto (tgt := 41) hx hb dX4_likely_98 (by decide) ?_
                have ev9 : oI (fdn (fun k => lkB (su σ 23 0 0) nm ns sh ar k) (j + 1) (ns - (j + 1))) = oI (fdn (fun k => lkB (su σ 23 0 0) nm ns sh ar k) j (ns - j)) := by simp [hd, fdn, lkB, oI, bc26_2, c43_5, bc43_5, bc52_7]
                have hl : lv_has ls 6 [(4, .int (nI j - 1)), (3, .int (oI (fdn (fun k => lkB (su σ 23 0 0) nm ns sh ar k) j (ns - j)))), (5, .int 0), (0, .ref (ad 0)), (1, .int (nI sh)), (2, .int (nI ar))] := by rw [← ev9]; exact hl
                exact ih (by omega) ls (lv_sub hl [3, 4, 5, 1, 0] rfl)
              · exact absurd c85_8 (by decide)
            · have bc52_7 := bI_n c52_7
              refine lv_aload_n hx hb dX4_likely_55 rfl (lv_at hl 0 rfl) ?_
              refine lv_iload hx hb dX4_likely_56 (lv_at hl 4 rfl) ?_
              refine lv_iload_n hx hb dX4_likely_58 rfl (lv_at hl 2 rfl) ?_
              refine q_i (r_V S ⟨m_706, m_708, m_27, m_40, m_709⟩ ⟨rfl, by decide, by decide, by decide +kernel⟩ (c4_agrees l G ad (su σ 23 0 0) j ar (by omega) (by omega)) ⟨rfl, rfl, Nat.le_of_ble_eq_true rfl, Nat.le_of_ble_eq_true rfl⟩ (pv_M hX3 bl_PM (bM hX3)) (n := 2) (As := [.int (nI j), .int (nI ar)]) (rest := []) rfl hl.1 rfl (Nat.le_of_ble_eq_true rfl) ⟨Nat.le_of_ble_eq_true rfl, Nat.le_of_ble_eq_true rfl⟩ dX4_likely_59) (fun r10 (e10 : r10 = bI (grM (su σ 23 0 0) (j * 5 + ar))) => ?_)
              subst e10
              refine lv_if_eq (tgt := 80) hx hb dX4_likely_62 (by decide) (fun c62_11 => ?_) (fun c62_11 => ?_)
              · have bc62_11 := bI_0 c62_11
                refine lv_iconst (v := 0) hx hb dX4_likely_80 (by decide) ?_
                refine lv_istore (lv' := [(5, .int 0), (0, .ref (ad 0)), (1, .int (nI sh)), (2, .int (nI ar)), (3, .int (oI (fdn (fun k => lkB (su σ 23 0 0) nm ns sh ar k) (j + 1) (ns - (j + 1))))), (4, .int (nI j))]) hx hb dX4_likely_81 hl (by decide) rfl (fun ls hl => ?_)
                refine lv_iload hx hb dX4_likely_83 (lv_at hl 0 rfl) ?_
                refine lv_if_eq (tgt := 93) hx hb dX4_likely_85 (by decide) (fun c85_12 => ?_) (fun c85_12 => ?_)
                · have bc85_12 := c85_12
                  refine lv_iload_n hx hb dX4_likely_93 rfl (lv_at hl 4 rfl) ?_
                  refine lv_istore_n (lv' := [(3, .int (oI (fdn (fun k => lkB (su σ 23 0 0) nm ns sh ar k) (j + 1) (ns - (j + 1))))), (5, .int 0), (0, .ref (ad 0)), (1, .int (nI sh)), (2, .int (nI ar)), (4, .int (nI j))]) hx hb dX4_likely_94 rfl hl (by decide) rfl (fun ls hl => ?_)
                  refine lv_iinc (v := nI j - 1) (lv' := [(4, .int (nI j - 1)), (3, .int (oI (fdn (fun k => lkB (su σ 23 0 0) nm ns sh ar k) (j + 1) (ns - (j + 1))))), (5, .int 0), (0, .ref (ad 0)), (1, .int (nI sh)), (2, .int (nI ar))]) hx hb dX4_likely_95 hl (k := 5) rfl (m1_eq _) (by decide) rfl (fun ls hl => ?_)
                  refine lv_goto (tgt := 41) hx hb dX4_likely_98 (by decide) ?_
                  have ev13 : oI (fdn (fun k => lkB (su σ 23 0 0) nm ns sh ar k) (j + 1) (ns - (j + 1))) = oI (fdn (fun k => lkB (su σ 23 0 0) nm ns sh ar k) j (ns - j)) := by simp [hd, fdn, lkB, oI, bc26_2, c43_5, bc43_5, bc52_7, bc62_11]
                  have hl : lv_has ls 6 [(4, .int (nI j - 1)), (3, .int (oI (fdn (fun k => lkB (su σ 23 0 0) nm ns sh ar k) j (ns - j)))), (5, .int 0), (0, .ref (ad 0)), (1, .int (nI sh)), (2, .int (nI ar))] := by rw [← ev13]; exact hl
                  exact ih (by omega) ls (lv_sub hl [3, 4, 5, 1, 0] rfl)
                · exact absurd c85_12 (by decide)
              · have bc62_11 := bI_n c62_11
                refine lv_aload_n hx hb dX4_likely_65 rfl (lv_at hl 0 rfl) ?_
                refine lv_iload_n hx hb dX4_likely_66 rfl (lv_at hl 1 rfl) ?_
                refine lv_iload hx hb dX4_likely_67 (lv_at hl 4 rfl) ?_
                refine lv_iload_n hx hb dX4_likely_69 rfl (lv_at hl 2 rfl) ?_
                refine q_i (r_V S ⟨m_726, m_728, m_31, m_40, m_729⟩ ⟨rfl, by decide, by decide, by decide +kernel⟩ (c4_canSettle l G ad (su σ 23 0 0) nm ns sh j ar (by first | exact hns | (rw [← hns]; rfl)) hns4 (by first | exact hnm | (rw [← hnm]; rfl)) hnm2 (by omega) (by omega) (by omega)) ⟨rfl, rfl, Nat.le_of_ble_eq_true rfl, Nat.le_of_ble_eq_true rfl⟩ (pv_M hX3 bl_PM (bM hX3)) (n := 3) (As := [.int (nI sh), .int (nI j), .int (nI ar)]) (rest := []) rfl hl.1 rfl (Nat.le_of_ble_eq_true rfl) ⟨Nat.le_of_ble_eq_true rfl, Nat.le_of_ble_eq_true rfl⟩ dX4_likely_70) (fun r14 (e14 : r14 = bI (ctM (su σ 23 0 0) nm ns sh j ar)) => ?_)
                subst e14
                refine lv_if_eq (tgt := 80) hx hb dX4_likely_73 (by decide) (fun c73_15 => ?_) (fun c73_15 => ?_)
                · have bc73_15 := bI_0 c73_15
                  refine lv_iconst (v := 0) hx hb dX4_likely_80 (by decide) ?_
                  refine lv_istore (lv' := [(5, .int 0), (0, .ref (ad 0)), (1, .int (nI sh)), (2, .int (nI ar)), (3, .int (oI (fdn (fun k => lkB (su σ 23 0 0) nm ns sh ar k) (j + 1) (ns - (j + 1))))), (4, .int (nI j))]) hx hb dX4_likely_81 hl (by decide) rfl (fun ls hl => ?_)
                  refine lv_iload hx hb dX4_likely_83 (lv_at hl 0 rfl) ?_
                  refine lv_if_eq (tgt := 93) hx hb dX4_likely_85 (by decide) (fun c85_16 => ?_) (fun c85_16 => ?_)
                  · have bc85_16 := c85_16
                    refine lv_iload_n hx hb dX4_likely_93 rfl (lv_at hl 4 rfl) ?_
                    refine lv_istore_n (lv' := [(3, .int (oI (fdn (fun k => lkB (su σ 23 0 0) nm ns sh ar k) (j + 1) (ns - (j + 1))))), (5, .int 0), (0, .ref (ad 0)), (1, .int (nI sh)), (2, .int (nI ar)), (4, .int (nI j))]) hx hb dX4_likely_94 rfl hl (by decide) rfl (fun ls hl => ?_)
                    refine lv_iinc (v := nI j - 1) (lv' := [(4, .int (nI j - 1)), (3, .int (oI (fdn (fun k => lkB (su σ 23 0 0) nm ns sh ar k) (j + 1) (ns - (j + 1))))), (5, .int 0), (0, .ref (ad 0)), (1, .int (nI sh)), (2, .int (nI ar))]) hx hb dX4_likely_95 hl (k := 5) rfl (m1_eq _) (by decide) rfl (fun ls hl => ?_)
                    refine lv_goto (tgt := 41) hx hb dX4_likely_98 (by decide) ?_
                    have ev17 : oI (fdn (fun k => lkB (su σ 23 0 0) nm ns sh ar k) (j + 1) (ns - (j + 1))) = oI (fdn (fun k => lkB (su σ 23 0 0) nm ns sh ar k) j (ns - j)) := by simp [hd, fdn, lkB, oI, bc26_2, c43_5, bc43_5, bc52_7, bc62_11, bc73_15]
                    have hl : lv_has ls 6 [(4, .int (nI j - 1)), (3, .int (oI (fdn (fun k => lkB (su σ 23 0 0) nm ns sh ar k) j (ns - j)))), (5, .int 0), (0, .ref (ad 0)), (1, .int (nI sh)), (2, .int (nI ar))] := by rw [← ev17]; exact hl
                    exact ih (by omega) ls (lv_sub hl [3, 4, 5, 1, 0] rfl)
                  · exact absurd c85_16 (by decide)
                · have bc73_15 := bI_n c73_15
                  refine lv_iconst (v := 1) hx hb dX4_likely_76 (by decide) ?_
                  refine lv_goto (tgt := 81) hx hb dX4_likely_77 (by decide) ?_
                  refine lv_istore (lv' := [(5, .int 1), (0, .ref (ad 0)), (1, .int (nI sh)), (2, .int (nI ar)), (3, .int (oI (fdn (fun k => lkB (su σ 23 0 0) nm ns sh ar k) (j + 1) (ns - (j + 1))))), (4, .int (nI j))]) hx hb dX4_likely_81 hl (by decide) rfl (fun ls hl => ?_)
                  refine lv_iload hx hb dX4_likely_83 (lv_at hl 0 rfl) ?_
                  refine lv_if_eq (tgt := 93) hx hb dX4_likely_85 (by decide) (fun c85_18 => ?_) (fun c85_18 => ?_)
                  · exact absurd c85_18 (by decide)
                  · have bc85_18 := c85_18
                    refine lv_iload hx hb dX4_likely_88 (lv_at hl 5 rfl) ?_
                    refine lv_goto (tgt := 94) hx hb dX4_likely_90 (by decide) ?_
                    refine lv_istore_n (lv' := [(3, .int (nI j)), (5, .int 1), (0, .ref (ad 0)), (1, .int (nI sh)), (2, .int (nI ar)), (4, .int (nI j))]) hx hb dX4_likely_94 rfl hl (by decide) rfl (fun ls hl => ?_)
                    refine lv_iinc (v := nI j - 1) (lv' := [(4, .int (nI j - 1)), (3, .int (nI j)), (5, .int 1), (0, .ref (ad 0)), (1, .int (nI sh)), (2, .int (nI ar))]) hx hb dX4_likely_95 hl (k := 5) rfl (m1_eq _) (by decide) rfl (fun ls hl => ?_)
                    refine lv_goto (tgt := 41) hx hb dX4_likely_98 (by decide) ?_
                    have ev19 : nI j = oI (fdn (fun k => lkB (su σ 23 0 0) nm ns sh ar k) j (ns - j)) := by simp [hd, fdn, lkB, oI, bc26_2, c43_5, bc43_5, bc52_7, bc62_11, bc73_15]
                    have hl : lv_has ls 6 [(4, .int (nI j - 1)), (3, .int (oI (fdn (fun k => lkB (su σ 23 0 0) nm ns sh ar k) j (ns - j)))), (5, .int 1), (0, .ref (ad 0)), (1, .int (nI sh)), (2, .int (nI ar))] := by rw [← ev19]; exact hl
                    exact ih (by omega) ls (lv_sub hl [3, 4, 5, 1, 0] rfl)
      refine lv_iconst (v := (-1)) hx hb dX4_likely_31 (by decide) ?_
      refine lv_istore_n (lv' := [(3, .int (-1)), (0, .ref (ad 0)), (1, .int (nI sh)), (2, .int (nI ar))]) hx hb dX4_likely_32 rfl hl (by decide) rfl (fun ls hl => ?_)
      refine lv_aload_n hx hb dX4_likely_33 rfl (lv_at hl 1 rfl) ?_
      refine k_get S hX3.2 hX3.1 0 (C := RX4) (T := TX4) (N := 20) rfl rfl 9 (by decide) inX4 m_584 rfl dX4_likely_34 ?_
      refine k_eq (y := σ 18 0) (by rfl) ?_
      refine k_eq (y := nI ns) (hns) ?_
      refine lv_iconst (v := 1) hx hb dX4_likely_37 (by decide) ?_
      refine lv_isub hx hb dX4_likely_38 ?_
      refine lv_istore (lv' := [(4, .int ((nI ns) - 1)), (3, .int (-1)), (0, .ref (ad 0)), (1, .int (nI sh)), (2, .int (nI ar))]) hx hb dX4_likely_39 hl (by decide) rfl (fun ls hl => ?_)
      have hz : ns - ns = 0 := Nat.sub_self ns
      exact L41 ns (Nat.le_refl _) ls (by rw [hz]; exact lv_sub hl [2, 3, 4, 1, 0] rfl)
    · have bc26_2 := bI_0 c26_2
      refine lv_iconst (v := 0) hx hb dX4_likely_29 (by decide) ?_
      exact W.iret (v := 0) hx hb hr (fun t ht hW => ⟨⟨_, rfl, (by rw [vM_f bc26_2])⟩, (by have e9 : sM (ckR za0 0 (σ 18 0 - 1) && ckR zb0 0 4, true, true) σ (fun μ => μ) = su σ 23 0 (goV ((ckR za0 0 (σ 18 0 - 1) && ckR zb0 0 4), true, true)) := (by rw [sM_f bc26_2]); show va_P G.1 vwCl (wM G ad (sM (ckR za0 0 (σ 18 0 - 1) && ckR zb0 0 4, true, true) σ (fun μ => μ))) t.heap; rw [e9, ht]; exact hX1.1), hS1.F ht⟩) hS1.2.2 dX4_likely_30
  refine lv_aload_n hx hb dX4_likely_1 rfl (lv_at hl 0 rfl) ?_
  refine lv_iload_n hx hb dX4_likely_2 rfl (lv_at hl 1 rfl) ?_
  refine q_i (r_V S ⟨m_682, m_684, m_24, m_40, m_685⟩ ⟨rfl, by decide, by decide, by decide +kernel⟩ (c4_isSheet l G ad σ za0) ⟨rfl, rfl, Nat.le_of_ble_eq_true rfl, Nat.le_of_ble_eq_true rfl⟩ (pv_M hX bl_PM (bM hX)) (n := 1) (As := [.int za0]) (rest := [.ref (ad 0)]) rfl hl.1 rfl (Nat.le_of_ble_eq_true rfl) ⟨Nat.le_of_ble_eq_true rfl, Nat.le_of_ble_eq_true rfl⟩ dX4_likely_3) (fun r20 (e20 : r20 = bI (ckR za0 0 (σ 18 0 - 1))) => ?_)
  subst e20
  refine lv_if_eq (tgt := 20) hx hb dX4_likely_6 (by decide) (fun c6_21 => ?_) (fun c6_21 => ?_)
  · have bc6_21 := bI_0 c6_21
    refine lv_iconst (v := 0) hx hb dX4_likely_20 (by decide) ?_
    refine k_eq (y := bI (ckR za0 0 (σ 18 0 - 1) && ckR zb0 0 4)) (by simp [bI, bc6_21]) ?_
    exact J21 ls (lv_sub hl [0, 1, 2] rfl)
  · have bc6_21 := bI_n c6_21
    refine lv_iload_n hx hb dX4_likely_9 rfl (lv_at hl 2 rfl) ?_
    refine q_i (r_S S ⟨m_644, m_645, m_40, m_646⟩ ⟨rfl, by decide, by decide, by decide +kernel⟩ (c4_isArticle l zb0) ⟨rfl, rfl, Nat.le_of_ble_eq_true rfl, Nat.le_of_ble_eq_true rfl⟩ (ps bl_GL (bG hX.2.2)) (n := 1) (As := [.int zb0]) (rest := [.ref (ad 0)]) rfl hl.1 rfl (Nat.le_of_ble_eq_true rfl) ⟨Nat.le_of_ble_eq_true rfl, Nat.le_of_ble_eq_true rfl⟩ dX4_likely_10) (fun r22 (e22 : r22 = bI (ckR zb0 0 4)) => ?_)
    subst e22
    refine lv_if_eq (tgt := 20) hx hb dX4_likely_13 (by decide) (fun c13_23 => ?_) (fun c13_23 => ?_)
    · have bc13_23 := bI_0 c13_23
      refine lv_iconst (v := 0) hx hb dX4_likely_20 (by decide) ?_
      refine k_eq (y := bI (ckR za0 0 (σ 18 0 - 1) && ckR zb0 0 4)) (by simp [bI, bc6_21, bc13_23]) ?_
      exact J21 ls (lv_sub hl [0, 1, 2] rfl)
    · have bc13_23 := bI_n c13_23
      refine lv_iconst (v := 1) hx hb dX4_likely_16 (by decide) ?_
      refine lv_goto (tgt := 21) hx hb dX4_likely_17 (by decide) ?_
      refine k_eq (y := bI (ckR za0 0 (σ 18 0 - 1) && ckR zb0 0 4)) (by simp [bI, bc6_21, bc13_23]) ?_
      exact J21 ls (lv_sub hl [0, 1, 2] rfl)

set_option maxHeartbeats 4000000 in
set_option maxRecDepth 100000 in
theorem c4_suggested (l : Launch) (G : kG) (ad : Nat → Nat) (σ : kS) (nm ns : Nat) (hns : σ 18 0 = nI ns) (hns4 : ns ≤ 40) (hnm : σ 17 0 = nI nm) (hnm2 : nm ≤ 200) (A : Nat → Prop) (hD : DD 16 A ad) : Met l yX4_suggested [.code yX4_suggested cX4_suggested 9 (some .int)] ({ frames := 4, cells := 0, slots := 0, locals := 118 }) (va_Pc [.ref (ad 0)] (fun U => PM G ad σ U U.heap)) (oW A (fun r => r = (suM (su σ 23 0 0) nm ns 12).1) (fun H9 => va_P G.1 vwCl (wM G ad (su σ 23 0 0)) H9)) 0 0 A := by
  refine k_of (by decide) (Nat.le_of_ble_eq_true rfl) (fun U h => h.2.2) ?_
  intro p e s m below meth c ls S hr hlocks hmn hB hl
  have hx := S.1
  have hb := S.2.1
  have hX : PM G ad σ s s.heap := hB
  have hS0 : va_S A s.heap s.heap [] := va_S.rf
  have hl : lv_has ls 9 [(0, .ref (ad 0))] := hl
  refine lv_aload_n hx hb dX4_suggested_0 rfl (lv_at hl 0 rfl) ?_
  refine lv_iconst (v := 0) hx hb dX4_suggested_1 (by decide) ?_
  refine k_put S hX.2 hX.1 (hD.w (wM_fst _ _ _)) hS0 0 (C := RX4) (T := TX4) (N := 20) rfl rfl 19 (by decide) inX4 tyX4 tyX4_ok nmX4 rfl rfl m_594 (Nat.le_of_ble_eq_true rfl) dX4_suggested_2 (fun H1 L1 h1 hS1 => ?_)
  have hX1 : PM G ad (su σ 23 0 0) s H1 := ⟨h1, hX.2⟩
  have L14 : ∀ (n i : Nat), i ≤ 12 → 12 + 1 ≤ i + n → ∀ ls, lv_has ls 9 [(0, .ref (ad 0)), (1, .int ((suM (su σ 23 0 0) nm ns i).1)), (2, .long ((suM (su σ 23 0 0) nm ns i).2)), (4, .int (nI i))] → W p l e ({ frames := 4, cells := 0, slots := 0, locals := 118 } : Room) s m [.ref (ad 0)].toArray below meth c H1 L1 0 0 (MQ below (oW A (fun r => r = (suM (su σ 23 0 0) nm ns 12).1) (fun H9 => va_P G.1 vwCl (wM G ad (su σ 23 0 0)) H9)) [.ref (ad 0)].toArray s 0 0 A) (F0 m 14 ls []) := by
    intro n
    induction n with
    | zero =>
      intro i h1 h2
      omega
    | succ n ihn =>
      intro i hii hini ls hl
      refine lv_iload hx hb dX4_suggested_14 (lv_at hl 3 rfl) ?_
      refine lv_bipush (v := 12) hx hb dX4_suggested_16 (by decide) ?_
      refine lv_icmp_ge (tgt := 141) hx hb dX4_suggested_18 (by decide) (fun c18_2 => ?_) (fun c18_2 => ?_)
      · have bc18_2 := le_nlt c18_2
        have hgei : i = 12 := by
          have h9 := c18_2
          rw [show (12 : Int32) = nI 12 from rfl, nI_leI (by omega) (by omega)] at h9
          omega
        refine lv_iload_n hx hb dX4_suggested_141 rfl (lv_at hl 1 rfl) ?_
        exact W.iret (v := (suM (su σ 23 0 0) nm ns i).1) hx hb hr (fun t ht hW => ⟨⟨_, rfl, (by rw [hgei])⟩, (by have e9 : su σ 23 0 0 = su σ 23 0 0 := (by first | rfl | simp [c18_2, bc18_2]); show va_P G.1 vwCl (wM G ad (su σ 23 0 0)) t.heap; rw [e9, ht]; exact hX1.1), hS1.F ht⟩) hS1.2.2 dX4_suggested_142
      · have bc18_2 := nle_lt c18_2
        have hlti : i < 12 := by
          have h9 := nle_lt c18_2
          rw [show (12 : Int32) = nI 12 from rfl, nI_ltI (by omega) (by omega)] at h9
          exact h9
        have L27 : ∀ (n2 j : Nat), j ≤ ns → ns + 1 ≤ j + n2 → ∀ ls, lv_has ls 9 [(0, .ref (ad 0)), (1, .int ((suM (su σ 23 0 0) nm ns i).1)), (2, .long ((suM (su σ 23 0 0) nm ns i).2)), (4, .int (nI i)), (5, .int (ldM (su σ 23 0 0) (nI i) j)), (6, .int (nI j))] → W p l e ({ frames := 4, cells := 0, slots := 0, locals := 118 } : Room) s m [.ref (ad 0)].toArray below meth c H1 L1 0 0 (MQ below (oW A (fun r => r = (suM (su σ 23 0 0) nm ns 12).1) (fun H9 => va_P G.1 vwCl (wM G ad (su σ 23 0 0)) H9)) [.ref (ad 0)].toArray s 0 0 A) (F0 m 27 ls []) := by
          intro n2
          induction n2 with
          | zero =>
            intro j h1 h2
            omega
          | succ n2 ihn2 =>
            intro j hij hinj ls hl
            refine lv_iload hx hb dX4_suggested_27 (lv_at hl 5 rfl) ?_
            refine lv_aload_n hx hb dX4_suggested_29 rfl (lv_at hl 0 rfl) ?_
            refine k_get S hX1.2 hX1.1 0 (C := RX4) (T := TX4) (N := 20) rfl rfl 9 (by decide) inX4 m_584 rfl dX4_suggested_30 ?_
            refine k_eq (y := σ 18 0) (by rfl) ?_
            refine k_eq (y := nI ns) (hns) ?_
            refine lv_icmp_ge (tgt := 68) hx hb dX4_suggested_33 (by decide) (fun c33_3 => ?_) (fun c33_3 => ?_)
            · have bc33_3 := le_nlt c33_3
              have hgej : j = ns := by
                have h9 := c33_3
                rw [nI_leI (by omega) (by omega)] at h9
                omega
              rw [hgej] at hl
              refine lv_aload_n hx hb dX4_suggested_68 rfl (lv_at hl 0 rfl) ?_
              refine lv_iload hx hb dX4_suggested_69 (lv_at hl 3 rfl) ?_
              refine q_i (r_V S ⟨m_754, m_756, m_33, m_40, m_757⟩ ⟨rfl, by decide, by decide, by decide +kernel⟩ (c4_worthOf l G ad (su σ 23 0 0) nm ns (nI i) (by first | exact hns | (rw [← hns]; rfl)) hns4 (by first | exact hnm | (rw [← hnm]; rfl)) hnm2) ⟨rfl, rfl, Nat.le_of_ble_eq_true rfl, Nat.le_of_ble_eq_true rfl⟩ (pv_M hX1 bl_PM (bM hX1)) (n := 1) (As := [.int (nI i)]) (rest := []) rfl hl.1 rfl (Nat.le_of_ble_eq_true rfl) ⟨Nat.le_of_ble_eq_true rfl, Nat.le_of_ble_eq_true rfl⟩ dX4_suggested_71) (fun r4 (e4 : r4 = woM (su σ 23 0 0) nm ns (nI i) 5) => ?_)
              subst e4
              refine lv_i2l (v := ((woM (su σ 23 0 0) nm ns (nI i) 5)).toInt64) hx hb dX4_suggested_74 rfl ?_
              refine lv_lconst (v := 1) hx hb dX4_suggested_75 (by decide) ?_
              refine lv_ladd hx hb dX4_suggested_76 ?_
              refine lv_aload_n hx hb dX4_suggested_77 rfl (lv_at hl 0 rfl) ?_
              refine k_get S hX1.2 hX1.1 0 (C := RX4) (T := TX4) (N := 20) rfl rfl 0 (by decide) inX4 m_575 rfl dX4_suggested_78 ?_
              refine k_eq (y := σ 16 0) (by rfl) ?_
              refine lv_iload hx hb dX4_suggested_81 (lv_at hl 4 rfl) ?_
              refine lv_isub hx hb dX4_suggested_83 ?_
              refine lv_i2l (v := (((σ 16 0) - (ldM (su σ 23 0 0) (nI i) ns))).toInt64) hx hb dX4_suggested_84 rfl ?_
              refine lv_lmul hx hb dX4_suggested_85 ?_
              refine lv_lstore (lv' := [(6, .long (((((woM (su σ 23 0 0) nm ns (nI i) 5)).toInt64) + 1) * ((((σ 16 0) - (ldM (su σ 23 0 0) (nI i) ns))).toInt64))), (0, .ref (ad 0)), (1, .int ((suM (su σ 23 0 0) nm ns i).1)), (2, .long ((suM (su σ 23 0 0) nm ns i).2)), (4, .int (nI i)), (5, .int (ldM (su σ 23 0 0) (nI i) ns))]) hx hb dX4_suggested_86 hl (by decide) rfl (fun ls hl => ?_)
              have J109 : ∀ ls, lv_has ls 9 [(6, .long (((((woM (su σ 23 0 0) nm ns (nI i) 5)).toInt64) + 1) * ((((σ 16 0) - (ldM (su σ 23 0 0) (nI i) ns))).toInt64))), (0, .ref (ad 0)), (1, .int ((suM (su σ 23 0 0) nm ns i).1)), (2, .long ((suM (su σ 23 0 0) nm ns i).2)), (4, .int (nI i)), (5, .int (ldM (su σ 23 0 0) (nI i) ns))] → W p l e ({ frames := 4, cells := 0, slots := 0, locals := 118 } : Room) s m [.ref (ad 0)].toArray below meth c H1 L1 0 0 (MQ below (oW A (fun r => r = (suM (su σ 23 0 0) nm ns 12).1) (fun H9 => va_P G.1 vwCl (wM G ad (su σ 23 0 0)) H9)) [.ref (ad 0)].toArray s 0 0 A) (F0 m 109 ls [.int (bI (suB (su σ 23 0 0) nm ns i (suM (su σ 23 0 0) nm ns i).2))]) := by
                intro ls hl
                refine lv_istore (lv' := [(8, .int (bI (suB (su σ 23 0 0) nm ns i (suM (su σ 23 0 0) nm ns i).2))), (6, .long (((((woM (su σ 23 0 0) nm ns (nI i) 5)).toInt64) + 1) * ((((σ 16 0) - (ldM (su σ 23 0 0) (nI i) ns))).toInt64))), (0, .ref (ad 0)), (1, .int ((suM (su σ 23 0 0) nm ns i).1)), (2, .long ((suM (su σ 23 0 0) nm ns i).2)), (4, .int (nI i)), (5, .int (ldM (su σ 23 0 0) (nI i) ns))]) hx hb dX4_suggested_109 hl (by decide) rfl (fun ls hl => ?_)
                refine lv_iload hx hb dX4_suggested_111 (lv_at hl 0 rfl) ?_
                refine lv_if_eq (tgt := 121) hx hb dX4_suggested_113 (by decide) (fun c113_5 => ?_) (fun c113_5 => ?_)
                · have bc113_5 := bI_0 c113_5
                  refine lv_iload_n hx hb dX4_suggested_121 rfl (lv_at hl 3 rfl) ?_
                  refine lv_istore_n (lv' := [(1, .int ((suM (su σ 23 0 0) nm ns i).1)), (8, .int (bI (suB (su σ 23 0 0) nm ns i (suM (su σ 23 0 0) nm ns i).2))), (6, .long (((((woM (su σ 23 0 0) nm ns (nI i) 5)).toInt64) + 1) * ((((σ 16 0) - (ldM (su σ 23 0 0) (nI i) ns))).toInt64))), (0, .ref (ad 0)), (2, .long ((suM (su σ 23 0 0) nm ns i).2)), (4, .int (nI i)), (5, .int (ldM (su σ 23 0 0) (nI i) ns))]) hx hb dX4_suggested_122 rfl hl (by decide) rfl (fun ls hl => ?_)
                  refine lv_iload hx hb dX4_suggested_123 (lv_at hl 1 rfl) ?_
                  refine lv_if_eq (tgt := 133) hx hb dX4_suggested_125 (by decide) (fun c125_6 => ?_) (fun c125_6 => ?_)
                  · have bc125_6 := bI_0 c125_6
                    refine lv_lload_n hx hb dX4_suggested_133 rfl (lv_at hl 4 rfl) ?_
                    refine lv_lstore_n (lv' := [(2, .long ((suM (su σ 23 0 0) nm ns i).2)), (1, .int ((suM (su σ 23 0 0) nm ns i).1)), (8, .int (bI (suB (su σ 23 0 0) nm ns i (suM (su σ 23 0 0) nm ns i).2))), (6, .long (((((woM (su σ 23 0 0) nm ns (nI i) 5)).toInt64) + 1) * ((((σ 16 0) - (ldM (su σ 23 0 0) (nI i) ns))).toInt64))), (0, .ref (ad 0)), (4, .int (nI i)), (5, .int (ldM (su σ 23 0 0) (nI i) ns))]) hx hb dX4_suggested_134 rfl hl (by decide) rfl (fun ls hl => ?_)
                    refine lv_iinc (v := nI (i + 1)) (lv' := [(4, .int (nI (i + 1))), (2, .long ((suM (su σ 23 0 0) nm ns i).2)), (1, .int ((suM (su σ 23 0 0) nm ns i).1)), (8, .int (bI (suB (su σ 23 0 0) nm ns i (suM (su σ 23 0 0) nm ns i).2))), (6, .long (((((woM (su σ 23 0 0) nm ns (nI i) 5)).toInt64) + 1) * ((((σ 16 0) - (ldM (su σ 23 0 0) (nI i) ns))).toInt64))), (0, .ref (ad 0)), (5, .int (ldM (su σ 23 0 0) (nI i) ns))]) hx hb dX4_suggested_135 hl (k := 5) rfl (nI_1 i) (by decide) rfl (fun ls hl => ?_)
                    refine lv_goto (tgt := 14) hx hb dX4_suggested_138 (by decide) ?_
                    have ev7 : (suM (su σ 23 0 0) nm ns i).2 = (suM (su σ 23 0 0) nm ns (i + 1)).2 := by simp [suM, raM, z23, c18_2, bc18_2, c33_3, bc33_3, bc113_5, bc125_6]
                    have hl : lv_has ls 9 [(4, .int (nI (i + 1))), (2, .long ((suM (su σ 23 0 0) nm ns (i + 1)).2)), (1, .int ((suM (su σ 23 0 0) nm ns i).1)), (8, .int (bI (suB (su σ 23 0 0) nm ns i (suM (su σ 23 0 0) nm ns i).2))), (6, .long (((((woM (su σ 23 0 0) nm ns (nI i) 5)).toInt64) + 1) * ((((σ 16 0) - (ldM (su σ 23 0 0) (nI i) ns))).toInt64))), (0, .ref (ad 0)), (5, .int (ldM (su σ 23 0 0) (nI i) ns))] := by rw [← ev7]; exact hl
                    have ev8 : (suM (su σ 23 0 0) nm ns i).1 = (suM (su σ 23 0 0) nm ns (i + 1)).1 := by simp [suM, raM, z23, c18_2, bc18_2, c33_3, bc33_3, bc113_5, bc125_6]
                    have hl : lv_has ls 9 [(4, .int (nI (i + 1))), (2, .long ((suM (su σ 23 0 0) nm ns (i + 1)).2)), (1, .int ((suM (su σ 23 0 0) nm ns (i + 1)).1)), (8, .int (bI (suB (su σ 23 0 0) nm ns i (suM (su σ 23 0 0) nm ns i).2))), (6, .long (((((woM (su σ 23 0 0) nm ns (nI i) 5)).toInt64) + 1) * ((((σ 16 0) - (ldM (su σ 23 0 0) (nI i) ns))).toInt64))), (0, .ref (ad 0)), (5, .int (ldM (su σ 23 0 0) (nI i) ns))] := by rw [← ev8]; exact hl
                    exact ihn (i + 1) hlti (by omega) ls (lv_sub hl [5, 2, 1, 0] rfl)
                  · exact absurd (bc113_5.symm.trans (bI_n c125_6)) (by decide)
                · have bc113_5 := bI_n c113_5
                  refine lv_iload hx hb dX4_suggested_116 (lv_at hl 5 rfl) ?_
                  refine lv_goto (tgt := 122) hx hb dX4_suggested_118 (by decide) ?_
                  refine lv_istore_n (lv' := [(1, .int (nI i)), (8, .int (bI (suB (su σ 23 0 0) nm ns i (suM (su σ 23 0 0) nm ns i).2))), (6, .long (((((woM (su σ 23 0 0) nm ns (nI i) 5)).toInt64) + 1) * ((((σ 16 0) - (ldM (su σ 23 0 0) (nI i) ns))).toInt64))), (0, .ref (ad 0)), (2, .long ((suM (su σ 23 0 0) nm ns i).2)), (4, .int (nI i)), (5, .int (ldM (su σ 23 0 0) (nI i) ns))]) hx hb dX4_suggested_122 rfl hl (by decide) rfl (fun ls hl => ?_)
                  refine lv_iload hx hb dX4_suggested_123 (lv_at hl 1 rfl) ?_
                  refine lv_if_eq (tgt := 133) hx hb dX4_suggested_125 (by decide) (fun c125_9 => ?_) (fun c125_9 => ?_)
                  · exact absurd (bc113_5.symm.trans (bI_0 c125_9)) (by decide)
                  · have bc125_9 := bI_n c125_9
                    refine lv_lload hx hb dX4_suggested_128 (lv_at hl 2 rfl) ?_
                    refine lv_goto (tgt := 134) hx hb dX4_suggested_130 (by decide) ?_
                    refine lv_lstore_n (lv' := [(2, .long (((((woM (su σ 23 0 0) nm ns (nI i) 5)).toInt64) + 1) * ((((σ 16 0) - (ldM (su σ 23 0 0) (nI i) ns))).toInt64))), (1, .int (nI i)), (8, .int (bI (suB (su σ 23 0 0) nm ns i (suM (su σ 23 0 0) nm ns i).2))), (6, .long (((((woM (su σ 23 0 0) nm ns (nI i) 5)).toInt64) + 1) * ((((σ 16 0) - (ldM (su σ 23 0 0) (nI i) ns))).toInt64))), (0, .ref (ad 0)), (4, .int (nI i)), (5, .int (ldM (su σ 23 0 0) (nI i) ns))]) hx hb dX4_suggested_134 rfl hl (by decide) rfl (fun ls hl => ?_)
                    refine lv_iinc (v := nI (i + 1)) (lv' := [(4, .int (nI (i + 1))), (2, .long (((((woM (su σ 23 0 0) nm ns (nI i) 5)).toInt64) + 1) * ((((σ 16 0) - (ldM (su σ 23 0 0) (nI i) ns))).toInt64))), (1, .int (nI i)), (8, .int (bI (suB (su σ 23 0 0) nm ns i (suM (su σ 23 0 0) nm ns i).2))), (6, .long (((((woM (su σ 23 0 0) nm ns (nI i) 5)).toInt64) + 1) * ((((σ 16 0) - (ldM (su σ 23 0 0) (nI i) ns))).toInt64))), (0, .ref (ad 0)), (5, .int (ldM (su σ 23 0 0) (nI i) ns))]) hx hb dX4_suggested_135 hl (k := 5) rfl (nI_1 i) (by decide) rfl (fun ls hl => ?_)
                    refine lv_goto (tgt := 14) hx hb dX4_suggested_138 (by decide) ?_
                    have ev10 : ((((woM (su σ 23 0 0) nm ns (nI i) 5)).toInt64) + 1) * ((((σ 16 0) - (ldM (su σ 23 0 0) (nI i) ns))).toInt64) = (suM (su σ 23 0 0) nm ns (i + 1)).2 := by simp [suM, raM, z23, c18_2, bc18_2, c33_3, bc33_3, bc113_5, bc125_9]
                    have hl : lv_has ls 9 [(4, .int (nI (i + 1))), (2, .long ((suM (su σ 23 0 0) nm ns (i + 1)).2)), (1, .int (nI i)), (8, .int (bI (suB (su σ 23 0 0) nm ns i (suM (su σ 23 0 0) nm ns i).2))), (6, .long (((((woM (su σ 23 0 0) nm ns (nI i) 5)).toInt64) + 1) * ((((σ 16 0) - (ldM (su σ 23 0 0) (nI i) ns))).toInt64))), (0, .ref (ad 0)), (5, .int (ldM (su σ 23 0 0) (nI i) ns))] := by rw [← ev10]; exact hl
                    have ev11 : nI i = (suM (su σ 23 0 0) nm ns (i + 1)).1 := by simp [suM, raM, z23, c18_2, bc18_2, c33_3, bc33_3, bc113_5, bc125_9]
                    have hl : lv_has ls 9 [(4, .int (nI (i + 1))), (2, .long ((suM (su σ 23 0 0) nm ns (i + 1)).2)), (1, .int ((suM (su σ 23 0 0) nm ns (i + 1)).1)), (8, .int (bI (suB (su σ 23 0 0) nm ns i (suM (su σ 23 0 0) nm ns i).2))), (6, .long (((((woM (su σ 23 0 0) nm ns (nI i) 5)).toInt64) + 1) * ((((σ 16 0) - (ldM (su σ 23 0 0) (nI i) ns))).toInt64))), (0, .ref (ad 0)), (5, .int (ldM (su σ 23 0 0) (nI i) ns))] := by rw [← ev11]; exact hl
                    exact ihn (i + 1) hlti (by omega) ls (lv_sub hl [5, 2, 1, 0] rfl)
              refine lv_aload_n hx hb dX4_suggested_88 rfl (lv_at hl 1 rfl) ?_
              refine lv_iload hx hb dX4_suggested_89 (lv_at hl 4 rfl) ?_
              refine q_i (r_V S ⟨m_674, m_676, m_23, m_40, m_677⟩ ⟨rfl, by decide, by decide, by decide +kernel⟩ (c4_hasOpen l G ad (su σ 23 0 0) ns (nI i) (by first | exact hns | (rw [← hns]; rfl)) hns4) ⟨rfl, rfl, Nat.le_of_ble_eq_true rfl, Nat.le_of_ble_eq_true rfl⟩ (pv_M hX1 bl_PM (bM hX1)) (n := 1) (As := [.int (nI i)]) (rest := []) rfl hl.1 rfl (Nat.le_of_ble_eq_true rfl) ⟨Nat.le_of_ble_eq_true rfl, Nat.le_of_ble_eq_true rfl⟩ dX4_suggested_91) (fun r12 (e12 : r12 = bI (hoM (su σ 23 0 0) (nI i) ns)) => ?_)
              subst e12
              refine lv_if_ne (tgt := 108) hx hb dX4_suggested_94 (by decide) (fun c94_13 => ?_) (fun c94_13 => ?_)
              · have bc94_13 := bI_n c94_13
                refine lv_iconst (v := 0) hx hb dX4_suggested_108 (by decide) ?_
                refine k_eq (y := bI (suB (su σ 23 0 0) nm ns i (suM (su σ 23 0 0) nm ns i).2)) (by simp [bI, c18_2, bc18_2, c33_3, bc33_3, bc94_13, suB, raM, z23]) ?_
                exact J109 ls (lv_sub hl [0, 1, 2, 3, 4, 5] rfl)
              · have bc94_13 := bI_0 c94_13
                refine lv_lload hx hb dX4_suggested_97 (lv_at hl 0 rfl) ?_
                refine lv_lload_n hx hb dX4_suggested_99 rfl (lv_at hl 3 rfl) ?_
                refine W.lcmp hx hb dX4_suggested_100 ?_
                refine lv_if_le (tgt := 108) hx hb dX4_suggested_101 (by decide) (fun c101_14 => ?_) (fun c101_14 => ?_)
                · have bc101_14 := le_nlt c101_14
                  refine lv_iconst (v := 0) hx hb dX4_suggested_108 (by decide) ?_
                  refine k_eq (y := bI (suB (su σ 23 0 0) nm ns i (suM (su σ 23 0 0) nm ns i).2)) (by simp [bI, c18_2, bc18_2, c33_3, bc33_3, bc94_13, c101_14, bc101_14, suB, raM, z23]) ?_
                  exact J109 ls (lv_sub hl [0, 1, 2, 3, 4, 5] rfl)
                · have bc101_14 := nle_lt c101_14
                  refine lv_iconst (v := 1) hx hb dX4_suggested_104 (by decide) ?_
                  refine lv_goto (tgt := 109) hx hb dX4_suggested_105 (by decide) ?_
                  refine k_eq (y := bI (suB (su σ 23 0 0) nm ns i (suM (su σ 23 0 0) nm ns i).2)) (by simp [bI, c18_2, bc18_2, c33_3, bc33_3, bc94_13, c101_14, bc101_14, suB, raM, z23]) ?_
                  exact J109 ls (lv_sub hl [0, 1, 2, 3, 4, 5] rfl)
            · have bc33_3 := nle_lt c33_3
              have hltj : j < ns := by
                have h9 := nle_lt c33_3
                rw [nI_ltI (by omega) (by omega)] at h9
                exact h9
              refine lv_aload_n hx hb dX4_suggested_36 rfl (lv_at hl 0 rfl) ?_
              refine k_get S hX1.2 hX1.1 0 (C := RX4) (T := TX4) (N := 20) rfl rfl 10 (by decide) inX4 m_585 rfl dX4_suggested_37 ?_
              refine lv_iload hx hb dX4_suggested_40 (lv_at hl 5 rfl) ?_
              refine k_ild S hX1.2 hX1.1 8 (i := j) rfl (by omega) (by decide) dX4_suggested_42 ?_
              refine k_eq (y := σ 7 j) (by rfl) ?_
              refine lv_iload hx hb dX4_suggested_43 (lv_at hl 3 rfl) ?_
              refine lv_icmp_ne (tgt := 58) hx hb dX4_suggested_45 (by decide) (fun c45_15 => ?_) (fun c45_15 => ?_)
              · have bc45_15 := c45_15
                refine lv_iload hx hb dX4_suggested_58 (lv_at hl 4 rfl) ?_
                refine lv_istore (lv' := [(5, .int (ldM (su σ 23 0 0) (nI i) j)), (0, .ref (ad 0)), (1, .int ((suM (su σ 23 0 0) nm ns i).1)), (2, .long ((suM (su σ 23 0 0) nm ns i).2)), (4, .int (nI i)), (6, .int (nI j))]) hx hb dX4_suggested_60 hl (by decide) rfl (fun ls hl => ?_)
                refine lv_iinc (v := nI (j + 1)) (lv' := [(6, .int (nI (j + 1))), (5, .int (ldM (su σ 23 0 0) (nI i) j)), (0, .ref (ad 0)), (1, .int ((suM (su σ 23 0 0) nm ns i).1)), (2, .long ((suM (su σ 23 0 0) nm ns i).2)), (4, .int (nI i))]) hx hb dX4_suggested_62 hl (k := 5) rfl (nI_1 j) (by decide) rfl (fun ls hl => ?_)
                refine lv_goto (tgt := 27) hx hb dX4_suggested_65 (by decide) ?_
                have ev16 : ldM (su σ 23 0 0) (nI i) j = ldM (su σ 23 0 0) (nI i) (j + 1) := by simp [ldM, z23, c18_2, bc18_2, c33_3, bc33_3, c45_15]
                have hl : lv_has ls 9 [(6, .int (nI (j + 1))), (5, .int (ldM (su σ 23 0 0) (nI i) (j + 1))), (0, .ref (ad 0)), (1, .int ((suM (su σ 23 0 0) nm ns i).1)), (2, .long ((suM (su σ 23 0 0) nm ns i).2)), (4, .int (nI i))] := by rw [← ev16]; exact hl
                exact ihn2 (j + 1) hltj (by omega) ls (lv_sub hl [2, 3, 4, 5, 1, 0] rfl)
              · have bc45_15 := c45_15
                refine lv_aload_n hx hb dX4_suggested_48 rfl (lv_at hl 0 rfl) ?_
                refine k_get S hX1.2 hX1.1 0 (C := RX4) (T := TX4) (N := 20) rfl rfl 11 (by decide) inX4 m_586 rfl dX4_suggested_49 ?_
                refine lv_iload hx hb dX4_suggested_52 (lv_at hl 5 rfl) ?_
                refine k_ild S hX1.2 hX1.1 9 (i := j) rfl (by omega) (by decide) dX4_suggested_54 ?_
                refine k_eq (y := σ 8 j) (by rfl) ?_
                refine lv_goto (tgt := 60) hx hb dX4_suggested_55 (by decide) ?_
                refine lv_istore (lv' := [(5, .int (σ 8 j)), (0, .ref (ad 0)), (1, .int ((suM (su σ 23 0 0) nm ns i).1)), (2, .long ((suM (su σ 23 0 0) nm ns i).2)), (4, .int (nI i)), (6, .int (nI j))]) hx hb dX4_suggested_60 hl (by decide) rfl (fun ls hl => ?_)
                refine lv_iinc (v := nI (j + 1)) (lv' := [(6, .int (nI (j + 1))), (5, .int (σ 8 j)), (0, .ref (ad 0)), (1, .int ((suM (su σ 23 0 0) nm ns i).1)), (2, .long ((suM (su σ 23 0 0) nm ns i).2)), (4, .int (nI i))]) hx hb dX4_suggested_62 hl (k := 5) rfl (nI_1 j) (by decide) rfl (fun ls hl => ?_)
                refine lv_goto (tgt := 27) hx hb dX4_suggested_65 (by decide) ?_
                have ev17 : σ 8 j = ldM (su σ 23 0 0) (nI i) (j + 1) := by simp [ldM, z23, c18_2, bc18_2, c33_3, bc33_3, c45_15]
                have hl : lv_has ls 9 [(6, .int (nI (j + 1))), (5, .int (ldM (su σ 23 0 0) (nI i) (j + 1))), (0, .ref (ad 0)), (1, .int ((suM (su σ 23 0 0) nm ns i).1)), (2, .long ((suM (su σ 23 0 0) nm ns i).2)), (4, .int (nI i))] := by rw [← ev17]; exact hl
                exact ihn2 (j + 1) hltj (by omega) ls (lv_sub hl [2, 3, 4, 5, 1, 0] rfl)
        refine lv_iconst (v := (-1)) hx hb dX4_suggested_21 (by decide) ?_
        refine lv_istore (lv' := [(5, .int (-1)), (0, .ref (ad 0)), (1, .int ((suM (su σ 23 0 0) nm ns i).1)), (2, .long ((suM (su σ 23 0 0) nm ns i).2)), (4, .int (nI i))]) hx hb dX4_suggested_22 hl (by decide) rfl (fun ls hl => ?_)
        refine lv_iconst (v := 0) hx hb dX4_suggested_24 (by decide) ?_
        refine lv_istore (lv' := [(6, .int 0), (5, .int (-1)), (0, .ref (ad 0)), (1, .int ((suM (su σ 23 0 0) nm ns i).1)), (2, .long ((suM (su σ 23 0 0) nm ns i).2)), (4, .int (nI i))]) hx hb dX4_suggested_25 hl (by decide) rfl (fun ls hl => ?_)
        exact L27 (ns + 1) 0 (Nat.zero_le _) (by omega) ls (lv_sub hl [2, 3, 4, 5, 1, 0] rfl)
  refine lv_iconst (v := (-1)) hx hb dX4_suggested_5 (by decide) ?_
  refine lv_istore_n (lv' := [(1, .int (-1)), (0, .ref (ad 0))]) hx hb dX4_suggested_6 rfl hl (by decide) rfl (fun ls hl => ?_)
  refine lv_ldc2 (v := (-1)) hx hb S.2.2.2.1 (S.2.2.2.2 _ m_762) dX4_suggested_7 ?_
  refine lv_lstore_n (lv' := [(2, .long (-1)), (1, .int (-1)), (0, .ref (ad 0))]) hx hb dX4_suggested_10 rfl hl (by decide) rfl (fun ls hl => ?_)
  refine lv_iconst (v := 0) hx hb dX4_suggested_11 (by decide) ?_
  refine lv_istore (lv' := [(4, .int 0), (2, .long (-1)), (1, .int (-1)), (0, .ref (ad 0))]) hx hb dX4_suggested_12 hl (by decide) rfl (fun ls hl => ?_)
  exact L14 (12 + 1) 0 (Nat.zero_le _) (by omega) ls (lv_sub hl [3, 2, 1, 0] rfl)
