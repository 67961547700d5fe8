set_option maxHeartbeats 4000000 in
set_option maxRecDepth 100000 in
theorem c4_sign (l : Launch) (G : kG) (ad : Nat → Nat) (σ : kS) (nm ns : Nat) (za0 zb0 zc0 : Int32) (hns : σ 18 0 = nI ns) (hns4 : ns ≤ 40) (hnm : σ 17 0 = nI nm) (hnm2 : nm ≤ 200)  (A : Nat → Prop) (hD : DD 16 A ad) : Met l yX4_sign [.code yX4_sign cX4_sign 9 (some .int)] ({ frames := 4, cells := 0, slots := 0, locals := 117 }) (va_Pc [.ref (ad 0), .int za0, .int zb0, .int zc0] (fun U => PM G ad σ U U.heap)) (oW A (fun r => r = vM (ckR za0 0 (σ 18 0 - 1) && ckR zb0 0 4 && ckR zc0 0 5, ckR za0 0 (σ 18 0 - 1) && ckR zb0 0 4 && ckR zc0 0 5 && grM σ (lnN za0 zb0), ckR za0 0 (σ 18 0 - 1) && ckR zb0 0 4 && ckR zc0 0 5 && grM σ (lnN za0 zb0) && (decide (σ 9 (ixN za0) = 1) && decide (σ 14 (lnN za0 zb0) = 0) && decide (σ 0 (ixN zb0) * abM (gpM σ nm ns (ixN za0) (ixN zb0)) ≤ σ 1 (ixN zc0)))) (gpM σ nm ns (ixN za0) (ixN zb0))) (fun H9 => va_P G.1 vwCl (wM G ad (sM (ckR za0 0 (σ 18 0 - 1) && ckR zb0 0 4 && ckR zc0 0 5, ckR za0 0 (σ 18 0 - 1) && ckR zb0 0 4 && ckR zc0 0 5 && grM σ (lnN za0 zb0), ckR za0 0 (σ 18 0 - 1) && ckR zb0 0 4 && ckR zc0 0 5 && grM σ (lnN za0 zb0) && (decide (σ 9 (ixN za0) = 1) && decide (σ 14 (lnN za0 zb0) = 0) && decide (σ 0 (ixN zb0) * abM (gpM σ nm ns (ixN za0) (ixN zb0)) ≤ σ 1 (ixN zc0)))) σ (fun μ => sgM μ (lnN za0 zb0) (gpM σ nm ns (ixN za0) (ixN zb0))))) H9)) 0 0 A := by
  refine k_of (by decide) (Nat.le_of_ble_eq_true rfl) (fun U h => h.2.2) ?_
  intro p e s m below meth c ls S hr hlocks hmn hB hl
  have hx := S.1
  have hb := S.2.1
  have hX : PM G ad σ s s.heap := hB
  have hS0 : va_S A s.heap s.heap [] := va_S.rf
  have hl : lv_has ls 9 [(0, .ref (ad 0)), (1, .int za0), (2, .int zb0), (3, .int zc0)] := hl
  have J29 : ∀ ls, lv_has ls 9 [(0, .ref (ad 0)), (1, .int za0), (2, .int zb0), (3, .int zc0)] → W p l e ({ frames := 4, cells := 0, slots := 0, locals := 117 } : Room) s m [.ref (ad 0), .int za0, .int zb0, .int zc0].toArray below meth c s.heap [] 0 0 (MQ below (oW A (fun r => r = vM (ckR za0 0 (σ 18 0 - 1) && ckR zb0 0 4 && ckR zc0 0 5, ckR za0 0 (σ 18 0 - 1) && ckR zb0 0 4 && ckR zc0 0 5 && grM σ (lnN za0 zb0), ckR za0 0 (σ 18 0 - 1) && ckR zb0 0 4 && ckR zc0 0 5 && grM σ (lnN za0 zb0) && (decide (σ 9 (ixN za0) = 1) && decide (σ 14 (lnN za0 zb0) = 0) && decide (σ 0 (ixN zb0) * abM (gpM σ nm ns (ixN za0) (ixN zb0)) ≤ σ 1 (ixN zc0)))) (gpM σ nm ns (ixN za0) (ixN zb0))) (fun H9 => va_P G.1 vwCl (wM G ad (sM (ckR za0 0 (σ 18 0 - 1) && ckR zb0 0 4 && ckR zc0 0 5, ckR za0 0 (σ 18 0 - 1) && ckR zb0 0 4 && ckR zc0 0 5 && grM σ (lnN za0 zb0), ckR za0 0 (σ 18 0 - 1) && ckR zb0 0 4 && ckR zc0 0 5 && grM σ (lnN za0 zb0) && (decide (σ 9 (ixN za0) = 1) && decide (σ 14 (lnN za0 zb0) = 0) && decide (σ 0 (ixN zb0) * abM (gpM σ nm ns (ixN za0) (ixN zb0)) ≤ σ 1 (ixN zc0)))) σ (fun μ => sgM μ (lnN za0 zb0) (gpM σ nm ns (ixN za0) (ixN zb0))))) H9)) [.ref (ad 0), .int za0, .int zb0, .int zc0].toArray s 0 0 A) (F0 m 29 ls [.int (bI (ckR za0 0 (σ 18 0 - 1) && ckR zb0 0 4 && ckR zc0 0 5))]) := by
    intro ls hl
    rcases bft (ckR za0 0 (σ 18 0 - 1) && ckR zb0 0 4 && ckR zc0 0 5) with hE | hE
    · refine k_eq (y := 0) (by rw [hE]; rfl) ?_
      refine lv_istore (lv' := [(4, .int 0), (0, .ref (ad 0)), (1, .int za0), (2, .int zb0), (3, .int zc0)]) hx hb dX4_sign_29 hl (by decide) rfl (fun ls hl => ?_)
      have J50 : ∀ ls, lv_has ls 9 [(4, .int 0), (0, .ref (ad 0)), (1, .int za0), (2, .int zb0), (3, .int zc0)] → W p l e ({ frames := 4, cells := 0, slots := 0, locals := 117 } : Room) s m [.ref (ad 0), .int za0, .int zb0, .int zc0].toArray below meth c s.heap [] 0 0 (MQ below (oW A (fun r => r = vM (ckR za0 0 (σ 18 0 - 1) && ckR zb0 0 4 && ckR zc0 0 5, ckR za0 0 (σ 18 0 - 1) && ckR zb0 0 4 && ckR zc0 0 5 && grM σ (lnN za0 zb0), ckR za0 0 (σ 18 0 - 1) && ckR zb0 0 4 && ckR zc0 0 5 && grM σ (lnN za0 zb0) && (decide (σ 9 (ixN za0) = 1) && decide (σ 14 (lnN za0 zb0) = 0) && decide (σ 0 (ixN zb0) * abM (gpM σ nm ns (ixN za0) (ixN zb0)) ≤ σ 1 (ixN zc0)))) (gpM σ nm ns (ixN za0) (ixN zb0))) (fun H9 => va_P G.1 vwCl (wM G ad (sM (ckR za0 0 (σ 18 0 - 1) && ckR zb0 0 4 && ckR zc0 0 5, ckR za0 0 (σ 18 0 - 1) && ckR zb0 0 4 && ckR zc0 0 5 && grM σ (lnN za0 zb0), ckR za0 0 (σ 18 0 - 1) && ckR zb0 0 4 && ckR zc0 0 5 && grM σ (lnN za0 zb0) && (decide (σ 9 (ixN za0) = 1) && decide (σ 14 (lnN za0 zb0) = 0) && decide (σ 0 (ixN zb0) * abM (gpM σ nm ns (ixN za0) (ixN zb0)) ≤ σ 1 (ixN zc0)))) σ (fun μ => sgM μ (lnN za0 zb0) (gpM σ nm ns (ixN za0) (ixN zb0))))) H9)) [.ref (ad 0), .int za0, .int zb0, .int zc0].toArray s 0 0 A) (F0 m 50 ls [.int 0]) := by
        intro ls hl
        refine lv_istore (lv' := [(5, .int 0), (4, .int 0), (0, .ref (ad 0)), (1, .int za0), (2, .int zb0), (3, .int zc0)]) hx hb dX4_sign_50 hl (by decide) rfl (fun ls hl => ?_)
        refine lv_iload hx hb dX4_sign_52 (lv_at hl 0 rfl) ?_
        refine lv_if_eq (tgt := 66) hx hb dX4_sign_54 (by decide) (fun c54_1 => ?_) (fun c54_1 => ?_)
        · have bc54_1 := c54_1
          refine lv_iconst (v := 0) hx hb dX4_sign_66 (by decide) ?_
          refine lv_istore (lv' := [(6, .int 0), (5, .int 0), (4, .int 0), (0, .ref (ad 0)), (1, .int za0), (2, .int zb0), (3, .int zc0)]) hx hb dX4_sign_67 hl (by decide) rfl (fun ls hl => ?_)
          have J82 : ∀ ls, lv_has ls 9 [(6, .int 0), (5, .int 0), (4, .int 0), (0, .ref (ad 0)), (1, .int za0), (2, .int zb0), (3, .int zc0)] → W p l e ({ frames := 4, cells := 0, slots := 0, locals := 117 } : Room) s m [.ref (ad 0), .int za0, .int zb0, .int zc0].toArray below meth c s.heap [] 0 0 (MQ below (oW A (fun r => r = vM (ckR za0 0 (σ 18 0 - 1) && ckR zb0 0 4 && ckR zc0 0 5, ckR za0 0 (σ 18 0 - 1) && ckR zb0 0 4 && ckR zc0 0 5 && grM σ (lnN za0 zb0), ckR za0 0 (σ 18 0 - 1) && ckR zb0 0 4 && ckR zc0 0 5 && grM σ (lnN za0 zb0) && (decide (σ 9 (ixN za0) = 1) && decide (σ 14 (lnN za0 zb0) = 0) && decide (σ 0 (ixN zb0) * abM (gpM σ nm ns (ixN za0) (ixN zb0)) ≤ σ 1 (ixN zc0)))) (gpM σ nm ns (ixN za0) (ixN zb0))) (fun H9 => va_P G.1 vwCl (wM G ad (sM (ckR za0 0 (σ 18 0 - 1) && ckR zb0 0 4 && ckR zc0 0 5, ckR za0 0 (σ 18 0 - 1) && ckR zb0 0 4 && ckR zc0 0 5 && grM σ (lnN za0 zb0), ckR za0 0 (σ 18 0 - 1) && ckR zb0 0 4 && ckR zc0 0 5 && grM σ (lnN za0 zb0) && (decide (σ 9 (ixN za0) = 1) && decide (σ 14 (lnN za0 zb0) = 0) && decide (σ 0 (ixN zb0) * abM (gpM σ nm ns (ixN za0) (ixN zb0)) ≤ σ 1 (ixN zc0)))) σ (fun μ => sgM μ (lnN za0 zb0) (gpM σ nm ns (ixN za0) (ixN zb0))))) H9)) [.ref (ad 0), .int za0, .int zb0, .int zc0].toArray s 0 0 A) (F0 m 82 ls [.int 0]) := by
            intro ls hl
            refine lv_istore (lv' := [(7, .int 0), (6, .int 0), (5, .int 0), (4, .int 0), (0, .ref (ad 0)), (1, .int za0), (2, .int zb0), (3, .int zc0)]) hx hb dX4_sign_82 hl (by decide) rfl (fun ls hl => ?_)
            have J135 : ∀ ls, lv_has ls 9 [(7, .int 0), (6, .int 0), (5, .int 0), (4, .int 0), (0, .ref (ad 0)), (1, .int za0), (2, .int zb0), (3, .int zc0)] → W p l e ({ frames := 4, cells := 0, slots := 0, locals := 117 } : Room) s m [.ref (ad 0), .int za0, .int zb0, .int zc0].toArray below meth c s.heap [] 0 0 (MQ below (oW A (fun r => r = vM (ckR za0 0 (σ 18 0 - 1) && ckR zb0 0 4 && ckR zc0 0 5, ckR za0 0 (σ 18 0 - 1) && ckR zb0 0 4 && ckR zc0 0 5 && grM σ (lnN za0 zb0), ckR za0 0 (σ 18 0 - 1) && ckR zb0 0 4 && ckR zc0 0 5 && grM σ (lnN za0 zb0) && (decide (σ 9 (ixN za0) = 1) && decide (σ 14 (lnN za0 zb0) = 0) && decide (σ 0 (ixN zb0) * abM (gpM σ nm ns (ixN za0) (ixN zb0)) ≤ σ 1 (ixN zc0)))) (gpM σ nm ns (ixN za0) (ixN zb0))) (fun H9 => va_P G.1 vwCl (wM G ad (sM (ckR za0 0 (σ 18 0 - 1) && ckR zb0 0 4 && ckR zc0 0 5, ckR za0 0 (σ 18 0 - 1) && ckR zb0 0 4 && ckR zc0 0 5 && grM σ (lnN za0 zb0), ckR za0 0 (σ 18 0 - 1) && ckR zb0 0 4 && ckR zc0 0 5 && grM σ (lnN za0 zb0) && (decide (σ 9 (ixN za0) = 1) && decide (σ 14 (lnN za0 zb0) = 0) && decide (σ 0 (ixN zb0) * abM (gpM σ nm ns (ixN za0) (ixN zb0)) ≤ σ 1 (ixN zc0)))) σ (fun μ => sgM μ (lnN za0 zb0) (gpM σ nm ns (ixN za0) (ixN zb0))))) H9)) [.ref (ad 0), .int za0, .int zb0, .int zc0].toArray s 0 0 A) (F0 m 135 ls [.int 0]) := by
              intro ls hl
              refine lv_istore (lv' := [(8, .int 0), (7, .int 0), (6, .int 0), (5, .int 0), (4, .int 0), (0, .ref (ad 0)), (1, .int za0), (2, .int zb0), (3, .int zc0)]) hx hb dX4_sign_135 hl (by decide) rfl (fun ls hl => ?_)
              refine lv_aload_n hx hb dX4_sign_137 rfl (lv_at hl 5 rfl) ?_
              refine lv_iload hx hb dX4_sign_138 (lv_at hl 4 rfl) ?_
              refine lv_iload hx hb dX4_sign_140 (lv_at hl 3 rfl) ?_
              refine lv_iload hx hb dX4_sign_142 (lv_at hl 0 rfl) ?_
              refine q_w (r_V S ⟨m_650, m_652, m_22, m_40, m_653⟩ ⟨rfl, by decide, by decide, by decide +kernel⟩ (c4_goes l G ad σ false false false A hD) ⟨rfl, rfl, Nat.le_of_ble_eq_true rfl, Nat.le_of_ble_eq_true rfl⟩ (pv_M hX bl_PM (bM hX)) (n := 3) (As := [.int (bI false), .int (bI false), .int (bI false)]) (rest := []) rfl hl.1 rfl (Nat.le_of_ble_eq_true rfl) ⟨Nat.le_of_ble_eq_true rfl, Nat.le_of_ble_eq_true rfl⟩ dX4_sign_144) hS0 (fun _ h => h) (fun r2 H2 L2 (e2 : r2 = bI (go3 (false, false, false))) h2 _ _ hS2 => ?_)
              subst e2
              have hX2 : PM G ad (su σ 23 0 (goV (false, false, false))) s H2 := ⟨h2, hX.2⟩
              refine lv_if_ne (tgt := 152) hx hb dX4_sign_147 (by decide) (fun c147_3 => ?_) (fun c147_3 => ?_)
              · have bc147_3 := bI_n c147_3
                exact absurd bc147_3 (by simp [go3])
              · have bc147_3 := bI_0 c147_3
                refine lv_iconst (v := 0) hx hb dX4_sign_150 (by decide) ?_
                exact W.iret (v := 0) hx hb hr (fun t ht hW => ⟨⟨_, rfl, (by rw [show (ckR za0 0 (σ 18 0 - 1) && ckR zb0 0 4 && ckR zc0 0 5, ckR za0 0 (σ 18 0 - 1) && ckR zb0 0 4 && ckR zc0 0 5 && grM σ (lnN za0 zb0), ckR za0 0 (σ 18 0 - 1) && ckR zb0 0 4 && ckR zc0 0 5 && grM σ (lnN za0 zb0) && (decide (σ 9 (ixN za0) = 1) && decide (σ 14 (lnN za0 zb0) = 0) && decide (σ 0 (ixN zb0) * abM (gpM σ nm ns (ixN za0) (ixN zb0)) ≤ σ 1 (ixN zc0)))) = (false, false, false) by simp [lnN, hE]]; rw [vM_f bc147_3])⟩, (by have e9 : sM (ckR za0 0 (σ 18 0 - 1) && ckR zb0 0 4 && ckR zc0 0 5, ckR za0 0 (σ 18 0 - 1) && ckR zb0 0 4 && ckR zc0 0 5 && grM σ (lnN za0 zb0), ckR za0 0 (σ 18 0 - 1) && ckR zb0 0 4 && ckR zc0 0 5 && grM σ (lnN za0 zb0) && (decide (σ 9 (ixN za0) = 1) && decide (σ 14 (lnN za0 zb0) = 0) && decide (σ 0 (ixN zb0) * abM (gpM σ nm ns (ixN za0) (ixN zb0)) ≤ σ 1 (ixN zc0)))) σ (fun μ => sgM μ (lnN za0 zb0) (gpM σ nm ns (ixN za0) (ixN zb0))) = su σ 23 0 (goV (false, false, false)) := (by rw [show (ckR za0 0 (σ 18 0 - 1) && ckR zb0 0 4 && ckR zc0 0 5, ckR za0 0 (σ 18 0 - 1) && ckR zb0 0 4 && ckR zc0 0 5 && grM σ (lnN za0 zb0), ckR za0 0 (σ 18 0 - 1) && ckR zb0 0 4 && ckR zc0 0 5 && grM σ (lnN za0 zb0) && (decide (σ 9 (ixN za0) = 1) && decide (σ 14 (lnN za0 zb0) = 0) && decide (σ 0 (ixN zb0) * abM (gpM σ nm ns (ixN za0) (ixN zb0)) ≤ σ 1 (ixN zc0)))) = (false, false, false) by simp [lnN, hE]]; rw [sM_f bc147_3]); show va_P G.1 vwCl (wM G ad (sM (ckR za0 0 (σ 18 0 - 1) && ckR zb0 0 4 && ckR zc0 0 5, ckR za0 0 (σ 18 0 - 1) && ckR zb0 0 4 && ckR zc0 0 5 && grM σ (lnN za0 zb0), ckR za0 0 (σ 18 0 - 1) && ckR zb0 0 4 && ckR zc0 0 5 && grM σ (lnN za0 zb0) && (decide (σ 9 (ixN za0) = 1) && decide (σ 14 (lnN za0 zb0) = 0) && decide (σ 0 (ixN zb0) * abM (gpM σ nm ns (ixN za0) (ixN zb0)) ≤ σ 1 (ixN zc0)))) σ (fun μ => sgM μ (lnN za0 zb0) (gpM σ nm ns (ixN za0) (ixN zb0))))) t.heap; rw [e9, ht]; exact hX2.1), hS2.F ht⟩) hS2.2.2 dX4_sign_151
            refine lv_iload hx hb dX4_sign_84 (lv_at hl 2 rfl) ?_
            refine lv_if_eq (tgt := 134) hx hb dX4_sign_86 (by decide) (fun c86_4 => ?_) (fun c86_4 => ?_)
            · have bc86_4 := c86_4
              refine lv_iconst (v := 0) hx hb dX4_sign_134 (by decide) ?_
              refine k_eq (y := 0) rfl ?_
              exact J135 ls (lv_sub hl [0, 1, 2, 3, 4, 5, 6, 7] rfl)
            · exact absurd c86_4 (by decide)
          refine lv_iload hx hb dX4_sign_69 (lv_at hl 0 rfl) ?_
          refine lv_if_ge (tgt := 80) hx hb dX4_sign_71 (by decide) (fun c71_5 => ?_) (fun c71_5 => ?_)
          · have bc71_5 := c71_5
            refine lv_iload hx hb dX4_sign_80 (lv_at hl 0 rfl) ?_
            refine k_eq (y := 0) rfl ?_
            exact J82 ls (lv_sub hl [0, 1, 2, 3, 4, 5, 6] rfl)
          · exact absurd c71_5 (by decide)
        · exact absurd c54_1 (by decide)
      refine lv_iload hx hb dX4_sign_31 (lv_at hl 0 rfl) ?_
      refine lv_if_eq (tgt := 49) hx hb dX4_sign_33 (by decide) (fun c33_6 => ?_) (fun c33_6 => ?_)
      · have bc33_6 := c33_6
        refine lv_iconst (v := 0) hx hb dX4_sign_49 (by decide) ?_
        refine k_eq (y := 0) rfl ?_
        exact J50 ls (lv_sub hl [0, 1, 2, 3, 4] rfl)
      · exact absurd c33_6 (by decide)
    · refine k_eq (y := 1) (by rw [hE]; rfl) ?_
      obtain ⟨hEx, hE3⟩ := Bool.and_eq_true_iff.mp hE
      obtain ⟨hE1, hE2⟩ := Bool.and_eq_true_iff.mp hEx
      obtain ⟨sh, hsh, rfl⟩ := ckR_nI (n := ns) (by rw [← hns]; exact hE1) (by omega)
      have h31sh : sh < 2 ^ 31 := by omega
      obtain ⟨ar, har, rfl⟩ := ckR_lit (n := 4) hE2 (by decide)
      have h31ar : ar < 2 ^ 31 := by omega
      obtain ⟨pe, hpe, rfl⟩ := ckR_lit (n := 5) hE3 (by decide)
      have h31pe : pe < 2 ^ 31 := by omega
      refine lv_istore (lv' := [(4, .int 1), (0, .ref (ad 0)), (1, .int (nI sh)), (2, .int (nI ar)), (3, .int (nI pe))]) hx hb dX4_sign_29 hl (by decide) rfl (fun ls hl => ?_)
      have J50 : ∀ ls, lv_has ls 9 [(4, .int 1), (0, .ref (ad 0)), (1, .int (nI sh)), (2, .int (nI ar)), (3, .int (nI pe))] → W p l e ({ frames := 4, cells := 0, slots := 0, locals := 117 } : Room) s m [.ref (ad 0), .int (nI sh), .int (nI ar), .int (nI pe)].toArray below meth c s.heap [] 0 0 (MQ below (oW A (fun r => r = vM (ckR (nI sh) 0 (σ 18 0 - 1) && ckR (nI ar) 0 4 && ckR (nI pe) 0 5, ckR (nI sh) 0 (σ 18 0 - 1) && ckR (nI ar) 0 4 && ckR (nI pe) 0 5 && grM σ (lnN (nI sh) (nI ar)), ckR (nI sh) 0 (σ 18 0 - 1) && ckR (nI ar) 0 4 && ckR (nI pe) 0 5 && grM σ (lnN (nI sh) (nI ar)) && (decide (σ 9 (ixN (nI sh)) = 1) && decide (σ 14 (lnN (nI sh) (nI ar)) = 0) && decide (σ 0 (ixN (nI ar)) * abM (gpM σ nm ns (ixN (nI sh)) (ixN (nI ar))) ≤ σ 1 (ixN (nI pe))))) (gpM σ nm ns (ixN (nI sh)) (ixN (nI ar)))) (fun H9 => va_P G.1 vwCl (wM G ad (sM (ckR (nI sh) 0 (σ 18 0 - 1) && ckR (nI ar) 0 4 && ckR (nI pe) 0 5, ckR (nI sh) 0 (σ 18 0 - 1) && ckR (nI ar) 0 4 && ckR (nI pe) 0 5 && grM σ (lnN (nI sh) (nI ar)), ckR (nI sh) 0 (σ 18 0 - 1) && ckR (nI ar) 0 4 && ckR (nI pe) 0 5 && grM σ (lnN (nI sh) (nI ar)) && (decide (σ 9 (ixN (nI sh)) = 1) && decide (σ 14 (lnN (nI sh) (nI ar)) = 0) && decide (σ 0 (ixN (nI ar)) * abM (gpM σ nm ns (ixN (nI sh)) (ixN (nI ar))) ≤ σ 1 (ixN (nI pe))))) σ (fun μ => sgM μ (lnN (nI sh) (nI ar)) (gpM σ nm ns (ixN (nI sh)) (ixN (nI ar)))))) H9)) [.ref (ad 0), .int (nI sh), .int (nI ar), .int (nI pe)].toArray s 0 0 A) (F0 m 50 ls [.int (bI (grM σ (sh * 5 + ar)))]) := by
        intro ls hl
        rcases bft (grM σ (sh * 5 + ar)) with hC | hC
        · refine k_eq (y := 0) (by rw [hC]; rfl) ?_
          refine lv_istore (lv' := [(5, .int 0), (4, .int 1), (0, .ref (ad 0)), (1, .int (nI sh)), (2, .int (nI ar)), (3, .int (nI pe))]) hx hb dX4_sign_50 hl (by decide) rfl (fun ls hl => ?_)
          refine lv_iload hx hb dX4_sign_52 (lv_at hl 0 rfl) ?_
          refine lv_if_eq (tgt := 66) hx hb dX4_sign_54 (by decide) (fun c54_7 => ?_) (fun c54_7 => ?_)
          · have bc54_7 := c54_7
            refine lv_iconst (v := 0) hx hb dX4_sign_66 (by decide) ?_
            refine lv_istore (lv' := [(6, .int 0), (5, .int 0), (4, .int 1), (0, .ref (ad 0)), (1, .int (nI sh)), (2, .int (nI ar)), (3, .int (nI pe))]) hx hb dX4_sign_67 hl (by decide) rfl (fun ls hl => ?_)
            have J82 : ∀ ls, lv_has ls 9 [(6, .int 0), (5, .int 0), (4, .int 1), (0, .ref (ad 0)), (1, .int (nI sh)), (2, .int (nI ar)), (3, .int (nI pe))] → W p l e ({ frames := 4, cells := 0, slots := 0, locals := 117 } : Room) s m [.ref (ad 0), .int (nI sh), .int (nI ar), .int (nI pe)].toArray below meth c s.heap [] 0 0 (MQ below (oW A (fun r => r = vM (ckR (nI sh) 0 (σ 18 0 - 1) && ckR (nI ar) 0 4 && ckR (nI pe) 0 5, ckR (nI sh) 0 (σ 18 0 - 1) && ckR (nI ar) 0 4 && ckR (nI pe) 0 5 && grM σ (lnN (nI sh) (nI ar)), ckR (nI sh) 0 (σ 18 0 - 1) && ckR (nI ar) 0 4 && ckR (nI pe) 0 5 && grM σ (lnN (nI sh) (nI ar)) && (decide (σ 9 (ixN (nI sh)) = 1) && decide (σ 14 (lnN (nI sh) (nI ar)) = 0) && decide (σ 0 (ixN (nI ar)) * abM (gpM σ nm ns (ixN (nI sh)) (ixN (nI ar))) ≤ σ 1 (ixN (nI pe))))) (gpM σ nm ns (ixN (nI sh)) (ixN (nI ar)))) (fun H9 => va_P G.1 vwCl (wM G ad (sM (ckR (nI sh) 0 (σ 18 0 - 1) && ckR (nI ar) 0 4 && ckR (nI pe) 0 5, ckR (nI sh) 0 (σ 18 0 - 1) && ckR (nI ar) 0 4 && ckR (nI pe) 0 5 && grM σ (lnN (nI sh) (nI ar)), ckR (nI sh) 0 (σ 18 0 - 1) && ckR (nI ar) 0 4 && ckR (nI pe) 0 5 && grM σ (lnN (nI sh) (nI ar)) && (decide (σ 9 (ixN (nI sh)) = 1) && decide (σ 14 (lnN (nI sh) (nI ar)) = 0) && decide (σ 0 (ixN (nI ar)) * abM (gpM σ nm ns (ixN (nI sh)) (ixN (nI ar))) ≤ σ 1 (ixN (nI pe))))) σ (fun μ => sgM μ (lnN (nI sh) (nI ar)) (gpM σ nm ns (ixN (nI sh)) (ixN (nI ar)))))) H9)) [.ref (ad 0), .int (nI sh), .int (nI ar), .int (nI pe)].toArray s 0 0 A) (F0 m 82 ls [.int 0]) := by
              intro ls hl
              refine lv_istore (lv' := [(7, .int 0), (6, .int 0), (5, .int 0), (4, .int 1), (0, .ref (ad 0)), (1, .int (nI sh)), (2, .int (nI ar)), (3, .int (nI pe))]) hx hb dX4_sign_82 hl (by decide) rfl (fun ls hl => ?_)
              have J135 : ∀ ls, lv_has ls 9 [(7, .int 0), (6, .int 0), (5, .int 0), (4, .int 1), (0, .ref (ad 0)), (1, .int (nI sh)), (2, .int (nI ar)), (3, .int (nI pe))] → W p l e ({ frames := 4, cells := 0, slots := 0, locals := 117 } : Room) s m [.ref (ad 0), .int (nI sh), .int (nI ar), .int (nI pe)].toArray below meth c s.heap [] 0 0 (MQ below (oW A (fun r => r = vM (ckR (nI sh) 0 (σ 18 0 - 1) && ckR (nI ar) 0 4 && ckR (nI pe) 0 5, ckR (nI sh) 0 (σ 18 0 - 1) && ckR (nI ar) 0 4 && ckR (nI pe) 0 5 && grM σ (lnN (nI sh) (nI ar)), ckR (nI sh) 0 (σ 18 0 - 1) && ckR (nI ar) 0 4 && ckR (nI pe) 0 5 && grM σ (lnN (nI sh) (nI ar)) && (decide (σ 9 (ixN (nI sh)) = 1) && decide (σ 14 (lnN (nI sh) (nI ar)) = 0) && decide (σ 0 (ixN (nI ar)) * abM (gpM σ nm ns (ixN (nI sh)) (ixN (nI ar))) ≤ σ 1 (ixN (nI pe))))) (gpM σ nm ns (ixN (nI sh)) (ixN (nI ar)))) (fun H9 => va_P G.1 vwCl (wM G ad (sM (ckR (nI sh) 0 (σ 18 0 - 1) && ckR (nI ar) 0 4 && ckR (nI pe) 0 5, ckR (nI sh) 0 (σ 18 0 - 1) && ckR (nI ar) 0 4 && ckR (nI pe) 0 5 && grM σ (lnN (nI sh) (nI ar)), ckR (nI sh) 0 (σ 18 0 - 1) && ckR (nI ar) 0 4 && ckR (nI pe) 0 5 && grM σ (lnN (nI sh) (nI ar)) && (decide (σ 9 (ixN (nI sh)) = 1) && decide (σ 14 (lnN (nI sh) (nI ar)) = 0) && decide (σ 0 (ixN (nI ar)) * abM (gpM σ nm ns (ixN (nI sh)) (ixN (nI ar))) ≤ σ 1 (ixN (nI pe))))) σ (fun μ => sgM μ (lnN (nI sh) (nI ar)) (gpM σ nm ns (ixN (nI sh)) (ixN (nI ar)))))) H9)) [.ref (ad 0), .int (nI sh), .int (nI ar), .int (nI pe)].toArray s 0 0 A) (F0 m 135 ls [.int 0]) := by
                intro ls hl
                refine lv_istore (lv' := [(8, .int 0), (7, .int 0), (6, .int 0), (5, .int 0), (4, .int 1), (0, .ref (ad 0)), (1, .int (nI sh)), (2, .int (nI ar)), (3, .int (nI pe))]) hx hb dX4_sign_135 hl (by decide) rfl (fun ls hl => ?_)
                refine lv_aload_n hx hb dX4_sign_137 rfl (lv_at hl 5 rfl) ?_
                refine lv_iload hx hb dX4_sign_138 (lv_at hl 4 rfl) ?_
                refine lv_iload hx hb dX4_sign_140 (lv_at hl 3 rfl) ?_
                refine lv_iload hx hb dX4_sign_142 (lv_at hl 0 rfl) ?_
                refine q_w (r_V S ⟨m_650, m_652, m_22, m_40, m_653⟩ ⟨rfl, by decide, by decide, by decide +kernel⟩ (c4_goes l G ad σ true false false A hD) ⟨rfl, rfl, Nat.le_of_ble_eq_true rfl, Nat.le_of_ble_eq_true rfl⟩ (pv_M hX bl_PM (bM hX)) (n := 3) (As := [.int (bI true), .int (bI false), .int (bI false)]) (rest := []) rfl hl.1 rfl (Nat.le_of_ble_eq_true rfl) ⟨Nat.le_of_ble_eq_true rfl, Nat.le_of_ble_eq_true rfl⟩ dX4_sign_144) hS0 (fun _ h => h) (fun r8 H8 L8 (e8 : r8 = bI (go3 (true, false, false))) h8 _ _ hS8 => ?_)
                subst e8
                have hX8 : PM G ad (su σ 23 0 (goV (true, false, false))) s H8 := ⟨h8, hX.2⟩
                refine lv_if_ne (tgt := 152) hx hb dX4_sign_147 (by decide) (fun c147_9 => ?_) (fun c147_9 => ?_)
                · have bc147_9 := bI_n c147_9
                  exact absurd bc147_9 (by simp [go3])
                · have bc147_9 := bI_0 c147_9
                  refine lv_iconst (v := 0) hx hb dX4_sign_150 (by decide) ?_
                  exact W.iret (v := 0) hx hb hr (fun t ht hW => ⟨⟨_, rfl, (by rw [show (ckR (nI sh) 0 (σ 18 0 - 1) && ckR (nI ar) 0 4 && ckR (nI pe) 0 5, ckR (nI sh) 0 (σ 18 0 - 1) && ckR (nI ar) 0 4 && ckR (nI pe) 0 5 && grM σ (lnN (nI sh) (nI ar)), ckR (nI sh) 0 (σ 18 0 - 1) && ckR (nI ar) 0 4 && ckR (nI pe) 0 5 && grM σ (lnN (nI sh) (nI ar)) && (decide (σ 9 (ixN (nI sh)) = 1) && decide (σ 14 (lnN (nI sh) (nI ar)) = 0) && decide (σ 0 (ixN (nI ar)) * abM (gpM σ nm ns (ixN (nI sh)) (ixN (nI ar))) ≤ σ 1 (ixN (nI pe))))) = (true, false, false) by simp [lnN, ixN_nI h31sh, ixN_nI h31ar, ixN_nI h31pe, hE, hC]]; rw [vM_f bc147_9])⟩, (by have e9 : sM (ckR (nI sh) 0 (σ 18 0 - 1) && ckR (nI ar) 0 4 && ckR (nI pe) 0 5, ckR (nI sh) 0 (σ 18 0 - 1) && ckR (nI ar) 0 4 && ckR (nI pe) 0 5 && grM σ (lnN (nI sh) (nI ar)), ckR (nI sh) 0 (σ 18 0 - 1) && ckR (nI ar) 0 4 && ckR (nI pe) 0 5 && grM σ (lnN (nI sh) (nI ar)) && (decide (σ 9 (ixN (nI sh)) = 1) && decide (σ 14 (lnN (nI sh) (nI ar)) = 0) && decide (σ 0 (ixN (nI ar)) * abM (gpM σ nm ns (ixN (nI sh)) (ixN (nI ar))) ≤ σ 1 (ixN (nI pe))))) σ (fun μ => sgM μ (lnN (nI sh) (nI ar)) (gpM σ nm ns (ixN (nI sh)) (ixN (nI ar)))) = su σ 23 0 (goV (true, false, false)) := (by rw [show (ckR (nI sh) 0 (σ 18 0 - 1) && ckR (nI ar) 0 4 && ckR (nI pe) 0 5, ckR (nI sh) 0 (σ 18 0 - 1) && ckR (nI ar) 0 4 && ckR (nI pe) 0 5 && grM σ (lnN (nI sh) (nI ar)), ckR (nI sh) 0 (σ 18 0 - 1) && ckR (nI ar) 0 4 && ckR (nI pe) 0 5 && grM σ (lnN (nI sh) (nI ar)) && (decide (σ 9 (ixN (nI sh)) = 1) && decide (σ 14 (lnN (nI sh) (nI ar)) = 0) && decide (σ 0 (ixN (nI ar)) * abM (gpM σ nm ns (ixN (nI sh)) (ixN (nI ar))) ≤ σ 1 (ixN (nI pe))))) = (true, false, false) by simp [lnN, ixN_nI h31sh, ixN_nI h31ar, ixN_nI h31pe, hE, hC]]; rw [sM_f bc147_9]); show va_P G.1 vwCl (wM G ad (sM (ckR (nI sh) 0 (σ 18 0 - 1) && ckR (nI ar) 0 4 && ckR (nI pe) 0 5, ckR (nI sh) 0 (σ 18 0 - 1) && ckR (nI ar) 0 4 && ckR (nI pe) 0 5 && grM σ (lnN (nI sh) (nI ar)), ckR (nI sh) 0 (σ 18 0 - 1) && ckR (nI ar) 0 4 && ckR (nI pe) 0 5 && grM σ (lnN (nI sh) (nI ar)) && (decide (σ 9 (ixN (nI sh)) = 1) && decide (σ 14 (lnN (nI sh) (nI ar)) = 0) && decide (σ 0 (ixN (nI ar)) * abM (gpM σ nm ns (ixN (nI sh)) (ixN (nI ar))) ≤ σ 1 (ixN (nI pe))))) σ (fun μ => sgM μ (lnN (nI sh) (nI ar)) (gpM σ nm ns (ixN (nI sh)) (ixN (nI ar)))))) t.heap; rw [e9, ht]; exact hX8.1), hS8.F ht⟩) hS8.2.2 dX4_sign_151
              refine lv_iload hx hb dX4_sign_84 (lv_at hl 2 rfl) ?_
              refine lv_if_eq (tgt := 134) hx hb dX4_sign_86 (by decide) (fun c86_10 => ?_) (fun c86_10 => ?_)
              · have bc86_10 := c86_10
                refine lv_iconst (v := 0) hx hb dX4_sign_134 (by decide) ?_
                refine k_eq (y := 0) rfl ?_
                exact J135 ls (lv_sub hl [0, 1, 2, 3, 4, 5, 6, 7] rfl)
              · exact absurd c86_10 (by decide)
            refine lv_iload hx hb dX4_sign_69 (lv_at hl 0 rfl) ?_
            refine lv_if_ge (tgt := 80) hx hb dX4_sign_71 (by decide) (fun c71_11 => ?_) (fun c71_11 => ?_)
            · have bc71_11 := c71_11
              refine lv_iload hx hb dX4_sign_80 (lv_at hl 0 rfl) ?_
              refine k_eq (y := 0) rfl ?_
              exact J82 ls (lv_sub hl [0, 1, 2, 3, 4, 5, 6] rfl)
            · exact absurd c71_11 (by decide)
          · exact absurd c54_7 (by decide)
        · refine k_eq (y := 1) (by rw [hC]; rfl) ?_
          refine lv_istore (lv' := [(5, .int 1), (4, .int 1), (0, .ref (ad 0)), (1, .int (nI sh)), (2, .int (nI ar)), (3, .int (nI pe))]) hx hb dX4_sign_50 hl (by decide) rfl (fun ls hl => ?_)
          refine lv_iload hx hb dX4_sign_52 (lv_at hl 0 rfl) ?_
          refine lv_if_eq (tgt := 66) hx hb dX4_sign_54 (by decide) (fun c54_12 => ?_) (fun c54_12 => ?_)
          · exact absurd c54_12 (by decide)
          · have bc54_12 := c54_12
            refine lv_aload_n hx hb dX4_sign_57 rfl (lv_at hl 2 rfl) ?_
            refine lv_iload_n hx hb dX4_sign_58 rfl (lv_at hl 3 rfl) ?_
            refine lv_iload_n hx hb dX4_sign_59 rfl (lv_at hl 4 rfl) ?_
            refine q_i (r_V S ⟨m_710, m_712, m_28, m_40, m_713⟩ ⟨rfl, by decide, by decide, by decide +kernel⟩ (c4_gapOf l G ad σ nm ns sh ar hns hns4 hnm hnm2 (by omega) (by omega)) ⟨rfl, rfl, Nat.le_of_ble_eq_true rfl, Nat.le_of_ble_eq_true rfl⟩ (pv_M hX bl_PM (bM hX)) (n := 2) (As := [.int (nI sh), .int (nI ar)]) (rest := []) rfl hl.1 rfl (Nat.le_of_ble_eq_true rfl) ⟨Nat.le_of_ble_eq_true rfl, Nat.le_of_ble_eq_true rfl⟩ dX4_sign_60) (fun r13 (e13 : r13 = gpM σ nm ns sh ar) => ?_)
            subst e13
            refine lv_goto (tgt := 67) hx hb dX4_sign_63 (by decide) ?_
            refine lv_istore (lv' := [(6, .int (gpM σ nm ns sh ar)), (5, .int 1), (4, .int 1), (0, .ref (ad 0)), (1, .int (nI sh)), (2, .int (nI ar)), (3, .int (nI pe))]) hx hb dX4_sign_67 hl (by decide) rfl (fun ls hl => ?_)
            have J82 : ∀ ls, lv_has ls 9 [(6, .int (gpM σ nm ns sh ar)), (5, .int 1), (4, .int 1), (0, .ref (ad 0)), (1, .int (nI sh)), (2, .int (nI ar)), (3, .int (nI pe))] → W p l e ({ frames := 4, cells := 0, slots := 0, locals := 117 } : Room) s m [.ref (ad 0), .int (nI sh), .int (nI ar), .int (nI pe)].toArray below meth c s.heap [] 0 0 (MQ below (oW A (fun r => r = vM (ckR (nI sh) 0 (σ 18 0 - 1) && ckR (nI ar) 0 4 && ckR (nI pe) 0 5, ckR (nI sh) 0 (σ 18 0 - 1) && ckR (nI ar) 0 4 && ckR (nI pe) 0 5 && grM σ (lnN (nI sh) (nI ar)), ckR (nI sh) 0 (σ 18 0 - 1) && ckR (nI ar) 0 4 && ckR (nI pe) 0 5 && grM σ (lnN (nI sh) (nI ar)) && (decide (σ 9 (ixN (nI sh)) = 1) && decide (σ 14 (lnN (nI sh) (nI ar)) = 0) && decide (σ 0 (ixN (nI ar)) * abM (gpM σ nm ns (ixN (nI sh)) (ixN (nI ar))) ≤ σ 1 (ixN (nI pe))))) (gpM σ nm ns (ixN (nI sh)) (ixN (nI ar)))) (fun H9 => va_P G.1 vwCl (wM G ad (sM (ckR (nI sh) 0 (σ 18 0 - 1) && ckR (nI ar) 0 4 && ckR (nI pe) 0 5, ckR (nI sh) 0 (σ 18 0 - 1) && ckR (nI ar) 0 4 && ckR (nI pe) 0 5 && grM σ (lnN (nI sh) (nI ar)), ckR (nI sh) 0 (σ 18 0 - 1) && ckR (nI ar) 0 4 && ckR (nI pe) 0 5 && grM σ (lnN (nI sh) (nI ar)) && (decide (σ 9 (ixN (nI sh)) = 1) && decide (σ 14 (lnN (nI sh) (nI ar)) = 0) && decide (σ 0 (ixN (nI ar)) * abM (gpM σ nm ns (ixN (nI sh)) (ixN (nI ar))) ≤ σ 1 (ixN (nI pe))))) σ (fun μ => sgM μ (lnN (nI sh) (nI ar)) (gpM σ nm ns (ixN (nI sh)) (ixN (nI ar)))))) H9)) [.ref (ad 0), .int (nI sh), .int (nI ar), .int (nI pe)].toArray s 0 0 A) (F0 m 82 ls [.int (abM (gpM σ nm ns sh ar))]) := by
              intro ls hl
              refine lv_istore (lv' := [(7, .int (abM (gpM σ nm ns sh ar))), (6, .int (gpM σ nm ns sh ar)), (5, .int 1), (4, .int 1), (0, .ref (ad 0)), (1, .int (nI sh)), (2, .int (nI ar)), (3, .int (nI pe))]) hx hb dX4_sign_82 hl (by decide) rfl (fun ls hl => ?_)
              have J135 : ∀ ls, lv_has ls 9 [(7, .int (abM (gpM σ nm ns sh ar))), (6, .int (gpM σ nm ns sh ar)), (5, .int 1), (4, .int 1), (0, .ref (ad 0)), (1, .int (nI sh)), (2, .int (nI ar)), (3, .int (nI pe))] → W p l e ({ frames := 4, cells := 0, slots := 0, locals := 117 } : Room) s m [.ref (ad 0), .int (nI sh), .int (nI ar), .int (nI pe)].toArray below meth c s.heap [] 0 0 (MQ below (oW A (fun r => r = vM (ckR (nI sh) 0 (σ 18 0 - 1) && ckR (nI ar) 0 4 && ckR (nI pe) 0 5, ckR (nI sh) 0 (σ 18 0 - 1) && ckR (nI ar) 0 4 && ckR (nI pe) 0 5 && grM σ (lnN (nI sh) (nI ar)), ckR (nI sh) 0 (σ 18 0 - 1) && ckR (nI ar) 0 4 && ckR (nI pe) 0 5 && grM σ (lnN (nI sh) (nI ar)) && (decide (σ 9 (ixN (nI sh)) = 1) && decide (σ 14 (lnN (nI sh) (nI ar)) = 0) && decide (σ 0 (ixN (nI ar)) * abM (gpM σ nm ns (ixN (nI sh)) (ixN (nI ar))) ≤ σ 1 (ixN (nI pe))))) (gpM σ nm ns (ixN (nI sh)) (ixN (nI ar)))) (fun H9 => va_P G.1 vwCl (wM G ad (sM (ckR (nI sh) 0 (σ 18 0 - 1) && ckR (nI ar) 0 4 && ckR (nI pe) 0 5, ckR (nI sh) 0 (σ 18 0 - 1) && ckR (nI ar) 0 4 && ckR (nI pe) 0 5 && grM σ (lnN (nI sh) (nI ar)), ckR (nI sh) 0 (σ 18 0 - 1) && ckR (nI ar) 0 4 && ckR (nI pe) 0 5 && grM σ (lnN (nI sh) (nI ar)) && (decide (σ 9 (ixN (nI sh)) = 1) && decide (σ 14 (lnN (nI sh) (nI ar)) = 0) && decide (σ 0 (ixN (nI ar)) * abM (gpM σ nm ns (ixN (nI sh)) (ixN (nI ar))) ≤ σ 1 (ixN (nI pe))))) σ (fun μ => sgM μ (lnN (nI sh) (nI ar)) (gpM σ nm ns (ixN (nI sh)) (ixN (nI ar)))))) H9)) [.ref (ad 0), .int (nI sh), .int (nI ar), .int (nI pe)].toArray s 0 0 A) (F0 m 135 ls [.int (bI (decide (σ 9 sh = 1) && decide (σ 14 (sh * 5 + ar) = 0) && decide (σ 0 ar * abM (gpM σ nm ns sh ar) ≤ σ 1 pe)))]) := by
                intro ls hl
                refine lv_istore (lv' := [(8, .int (bI (decide (σ 9 sh = 1) && decide (σ 14 (sh * 5 + ar) = 0) && decide (σ 0 ar * abM (gpM σ nm ns sh ar) ≤ σ 1 pe)))), (7, .int (abM (gpM σ nm ns sh ar))), (6, .int (gpM σ nm ns sh ar)), (5, .int 1), (4, .int 1), (0, .ref (ad 0)), (1, .int (nI sh)), (2, .int (nI ar)), (3, .int (nI pe))]) hx hb dX4_sign_135 hl (by decide) rfl (fun ls hl => ?_)
                refine lv_aload_n hx hb dX4_sign_137 rfl (lv_at hl 5 rfl) ?_
                refine lv_iload hx hb dX4_sign_138 (lv_at hl 4 rfl) ?_
                refine lv_iload hx hb dX4_sign_140 (lv_at hl 3 rfl) ?_
                refine lv_iload hx hb dX4_sign_142 (lv_at hl 0 rfl) ?_
                refine q_w (r_V S ⟨m_650, m_652, m_22, m_40, m_653⟩ ⟨rfl, by decide, by decide, by decide +kernel⟩ (c4_goes l G ad σ true true (decide (σ 9 sh = 1) && decide (σ 14 (sh * 5 + ar) = 0) && decide (σ 0 ar * abM (gpM σ nm ns sh ar) ≤ σ 1 pe)) A hD) ⟨rfl, rfl, Nat.le_of_ble_eq_true rfl, Nat.le_of_ble_eq_true rfl⟩ (pv_M hX bl_PM (bM hX)) (n := 3) (As := [.int (bI true), .int (bI true), .int (bI (decide (σ 9 sh = 1) && decide (σ 14 (sh * 5 + ar) = 0) && decide (σ 0 ar * abM (gpM σ nm ns sh ar) ≤ σ 1 pe)))]) (rest := []) rfl hl.1 rfl (Nat.le_of_ble_eq_true rfl) ⟨Nat.le_of_ble_eq_true rfl, Nat.le_of_ble_eq_true rfl⟩ dX4_sign_144) hS0 (fun _ h => h) (fun r14 H14 L14 (e14 : r14 = bI (go3 (true, true, (decide (σ 9 sh = 1) && decide (σ 14 (sh * 5 + ar) = 0) && decide (σ 0 ar * abM (gpM σ nm ns sh ar) ≤ σ 1 pe))))) h14 _ _ hS14 => ?_)
                subst e14
                have hX14 : PM G ad (su σ 23 0 (goV (true, true, (decide (σ 9 sh = 1) && decide (σ 14 (sh * 5 + ar) = 0) && decide (σ 0 ar * abM (gpM σ nm ns sh ar) ≤ σ 1 pe))))) s H14 := ⟨h14, hX.2⟩
                refine lv_if_ne (tgt := 152) hx hb dX4_sign_147 (by decide) (fun c147_15 => ?_) (fun c147_15 => ?_)
                · have bc147_15 := bI_n c147_15
                  have hX16 : PM G ad (su σ 23 0 0) s H14 := by
                    have h8 := hX14
                    rw [goV_0 bc147_15] at h8
                    exact h8
                  obtain ⟨q1, q2, q3⟩ := go3_t bc147_15
                  refine lv_aload_n hx hb dX4_sign_152 rfl (lv_at hl 5 rfl) ?_
                  refine lv_iload_n hx hb dX4_sign_153 rfl (lv_at hl 6 rfl) ?_
                  refine lv_iload_n hx hb dX4_sign_154 rfl (lv_at hl 7 rfl) ?_
                  refine lv_iload hx hb dX4_sign_155 (lv_at hl 2 rfl) ?_
                  refine q_wv (r_V S ⟨m_718, m_720, m_30, m_40, m_721⟩ ⟨rfl, by decide, by decide, by decide +kernel⟩ (c4_signs l G ad (su σ 23 0 0) sh ar (gpM σ nm ns sh ar) (by omega) (by omega) A hD) ⟨rfl, rfl, Nat.le_of_ble_eq_true rfl, Nat.le_of_ble_eq_true rfl⟩ (pv_M hX16 bl_PM (bM hX16)) (n := 3) (As := [.int (nI sh), .int (nI ar), .int (gpM σ nm ns sh ar)]) (rest := []) rfl hl.1 rfl (Nat.le_of_ble_eq_true rfl) ⟨Nat.le_of_ble_eq_true rfl, Nat.le_of_ble_eq_true rfl⟩ dX4_sign_157) hS14 (fun _ h => h) (fun H17 L17 _ h17 _ _ hS17 => ?_)
                  have hX17 : PM G ad (sgM (su σ 23 0 0) (sh * 5 + ar) (gpM σ nm ns sh ar)) s H17 := ⟨h17, hX16.2⟩
                  refine lv_iload hx hb dX4_sign_160 (lv_at hl 2 rfl) ?_
                  exact W.iret (v := gpM σ nm ns sh ar) hx hb hr (fun t ht hW => ⟨⟨_, rfl, (by rw [show (ckR (nI sh) 0 (σ 18 0 - 1) && ckR (nI ar) 0 4 && ckR (nI pe) 0 5, ckR (nI sh) 0 (σ 18 0 - 1) && ckR (nI ar) 0 4 && ckR (nI pe) 0 5 && grM σ (lnN (nI sh) (nI ar)), ckR (nI sh) 0 (σ 18 0 - 1) && ckR (nI ar) 0 4 && ckR (nI pe) 0 5 && grM σ (lnN (nI sh) (nI ar)) && (decide (σ 9 (ixN (nI sh)) = 1) && decide (σ 14 (lnN (nI sh) (nI ar)) = 0) && decide (σ 0 (ixN (nI ar)) * abM (gpM σ nm ns (ixN (nI sh)) (ixN (nI ar))) ≤ σ 1 (ixN (nI pe))))) = (true, true, (decide (σ 9 sh = 1) && decide (σ 14 (sh * 5 + ar) = 0) && decide (σ 0 ar * abM (gpM σ nm ns sh ar) ≤ σ 1 pe))) by simp [lnN, ixN_nI h31sh, ixN_nI h31ar, ixN_nI h31pe, hE, hC]]; rw [vM_t bc147_15]; try (first | rfl | simp [lnN, ixN_nI h31sh, ixN_nI h31ar, ixN_nI h31pe, hE, hC]))⟩, (by have e9 : sM (ckR (nI sh) 0 (σ 18 0 - 1) && ckR (nI ar) 0 4 && ckR (nI pe) 0 5, ckR (nI sh) 0 (σ 18 0 - 1) && ckR (nI ar) 0 4 && ckR (nI pe) 0 5 && grM σ (lnN (nI sh) (nI ar)), ckR (nI sh) 0 (σ 18 0 - 1) && ckR (nI ar) 0 4 && ckR (nI pe) 0 5 && grM σ (lnN (nI sh) (nI ar)) && (decide (σ 9 (ixN (nI sh)) = 1) && decide (σ 14 (lnN (nI sh) (nI ar)) = 0) && decide (σ 0 (ixN (nI ar)) * abM (gpM σ nm ns (ixN (nI sh)) (ixN (nI ar))) ≤ σ 1 (ixN (nI pe))))) σ (fun μ => sgM μ (lnN (nI sh) (nI ar)) (gpM σ nm ns (ixN (nI sh)) (ixN (nI ar)))) = sgM (su σ 23 0 0) (sh * 5 + ar) (gpM σ nm ns sh ar) := (by rw [show (ckR (nI sh) 0 (σ 18 0 - 1) && ckR (nI ar) 0 4 && ckR (nI pe) 0 5, ckR (nI sh) 0 (σ 18 0 - 1) && ckR (nI ar) 0 4 && ckR (nI pe) 0 5 && grM σ (lnN (nI sh) (nI ar)), ckR (nI sh) 0 (σ 18 0 - 1) && ckR (nI ar) 0 4 && ckR (nI pe) 0 5 && grM σ (lnN (nI sh) (nI ar)) && (decide (σ 9 (ixN (nI sh)) = 1) && decide (σ 14 (lnN (nI sh) (nI ar)) = 0) && decide (σ 0 (ixN (nI ar)) * abM (gpM σ nm ns (ixN (nI sh)) (ixN (nI ar))) ≤ σ 1 (ixN (nI pe))))) = (true, true, (decide (σ 9 sh = 1) && decide (σ 14 (sh * 5 + ar) = 0) && decide (σ 0 ar * abM (gpM σ nm ns sh ar) ≤ σ 1 pe))) by simp [lnN, ixN_nI h31sh, ixN_nI h31ar, ixN_nI h31pe, hE, hC]]; rw [sM_t bc147_15]; try (first | rfl | simp [lnN, ixN_nI h31sh, ixN_nI h31ar, ixN_nI h31pe, hE, hC])); show va_P G.1 vwCl (wM G ad (sM (ckR (nI sh) 0 (σ 18 0 - 1) && ckR (nI ar) 0 4 && ckR (nI pe) 0 5, ckR (nI sh) 0 (σ 18 0 - 1) && ckR (nI ar) 0 4 && ckR (nI pe) 0 5 && grM σ (lnN (nI sh) (nI ar)), ckR (nI sh) 0 (σ 18 0 - 1) && ckR (nI ar) 0 4 && ckR (nI pe) 0 5 && grM σ (lnN (nI sh) (nI ar)) && (decide (σ 9 (ixN (nI sh)) = 1) && decide (σ 14 (lnN (nI sh) (nI ar)) = 0) && decide (σ 0 (ixN (nI ar)) * abM (gpM σ nm ns (ixN (nI sh)) (ixN (nI ar))) ≤ σ 1 (ixN (nI pe))))) σ (fun μ => sgM μ (lnN (nI sh) (nI ar)) (gpM σ nm ns (ixN (nI sh)) (ixN (nI ar)))))) t.heap; rw [e9, ht]; exact hX17.1), hS17.F ht⟩) hS17.2.2 dX4_sign_162
                · have bc147_15 := bI_0 c147_15
                  refine lv_iconst (v := 0) hx hb dX4_sign_150 (by decide) ?_
                  exact W.iret (v := 0) hx hb hr (fun t ht hW => ⟨⟨_, rfl, (by rw [show (ckR (nI sh) 0 (σ 18 0 - 1) && ckR (nI ar) 0 4 && ckR (nI pe) 0 5, ckR (nI sh) 0 (σ 18 0 - 1) && ckR (nI ar) 0 4 && ckR (nI pe) 0 5 && grM σ (lnN (nI sh) (nI ar)), ckR (nI sh) 0 (σ 18 0 - 1) && ckR (nI ar) 0 4 && ckR (nI pe) 0 5 && grM σ (lnN (nI sh) (nI ar)) && (decide (σ 9 (ixN (nI sh)) = 1) && decide (σ 14 (lnN (nI sh) (nI ar)) = 0) && decide (σ 0 (ixN (nI ar)) * abM (gpM σ nm ns (ixN (nI sh)) (ixN (nI ar))) ≤ σ 1 (ixN (nI pe))))) = (true, true, (decide (σ 9 sh = 1) && decide (σ 14 (sh * 5 + ar) = 0) && decide (σ 0 ar * abM (gpM σ nm ns sh ar) ≤ σ 1 pe))) by simp [lnN, ixN_nI h31sh, ixN_nI h31ar, ixN_nI h31pe, hE, hC]]; rw [vM_f bc147_15])⟩, (by have e9 : sM (ckR (nI sh) 0 (σ 18 0 - 1) && ckR (nI ar) 0 4 && ckR (nI pe) 0 5, ckR (nI sh) 0 (σ 18 0 - 1) && ckR (nI ar) 0 4 && ckR (nI pe) 0 5 && grM σ (lnN (nI sh) (nI ar)), ckR (nI sh) 0 (σ 18 0 - 1) && ckR (nI ar) 0 4 && ckR (nI pe) 0 5 && grM σ (lnN (nI sh) (nI ar)) && (decide (σ 9 (ixN (nI sh)) = 1) && decide (σ 14 (lnN (nI sh) (nI ar)) = 0) && decide (σ 0 (ixN (nI ar)) * abM (gpM σ nm ns (ixN (nI sh)) (ixN (nI ar))) ≤ σ 1 (ixN (nI pe))))) σ (fun μ => sgM μ (lnN (nI sh) (nI ar)) (gpM σ nm ns (ixN (nI sh)) (ixN (nI ar)))) = su σ 23 0 (goV (true, true, (decide (σ 9 sh = 1) && decide (σ 14 (sh * 5 + ar) = 0) && decide (σ 0 ar * abM (gpM σ nm ns sh ar) ≤ σ 1 pe)))) := (by rw [show (ckR (nI sh) 0 (σ 18 0 - 1) && ckR (nI ar) 0 4 && ckR (nI pe) 0 5, ckR (nI sh) 0 (σ 18 0 - 1) && ckR (nI ar) 0 4 && ckR (nI pe) 0 5 && grM σ (lnN (nI sh) (nI ar)), ckR (nI sh) 0 (σ 18 0 - 1) && ckR (nI ar) 0 4 && ckR (nI pe) 0 5 && grM σ (lnN (nI sh) (nI ar)) && (decide (σ 9 (ixN (nI sh)) = 1) && decide (σ 14 (lnN (nI sh) (nI ar)) = 0) && decide (σ 0 (ixN (nI ar)) * abM (gpM σ nm ns (ixN (nI sh)) (ixN (nI ar))) ≤ σ 1 (ixN (nI pe))))) = (true, true, (decide (σ 9 sh = 1) && decide (σ 14 (sh * 5 + ar) = 0) && decide (σ 0 ar * abM (gpM σ nm ns sh ar) ≤ σ 1 pe))) by simp [lnN, ixN_nI h31sh, ixN_nI h31ar, ixN_nI h31pe, hE, hC]]; rw [sM_f bc147_15]); show va_P G.1 vwCl (wM G ad (sM (ckR (nI sh) 0 (σ 18 0 - 1) && ckR (nI ar) 0 4 && ckR (nI pe) 0 5, ckR (nI sh) 0 (σ 18 0 - 1) && ckR (nI ar) 0 4 && ckR (nI pe) 0 5 && grM σ (lnN (nI sh) (nI ar)), ckR (nI sh) 0 (σ 18 0 - 1) && ckR (nI ar) 0 4 && ckR (nI pe) 0 5 && grM σ (lnN (nI sh) (nI ar)) && (decide (σ 9 (ixN (nI sh)) = 1) && decide (σ 14 (lnN (nI sh) (nI ar)) = 0) && decide (σ 0 (ixN (nI ar)) * abM (gpM σ nm ns (ixN (nI sh)) (ixN (nI ar))) ≤ σ 1 (ixN (nI pe))))) σ (fun μ => sgM μ (lnN (nI sh) (nI ar)) (gpM σ nm ns (ixN (nI sh)) (ixN (nI ar)))))) t.heap; rw [e9, ht]; exact hX14.1), hS14.F ht⟩) hS14.2.2 dX4_sign_151
              refine lv_iload hx hb dX4_sign_84 (lv_at hl 2 rfl) ?_
              refine lv_if_eq (tgt := 134) hx hb dX4_sign_86 (by decide) (fun c86_18 => ?_) (fun c86_18 => ?_)
              · exact absurd c86_18 (by decide)
              · have bc86_18 := c86_18
                refine lv_aload_n hx hb dX4_sign_89 rfl (lv_at hl 4 rfl) ?_
                refine k_get S hX.2 hX.1 0 (C := RX4) (T := TX4) (N := 20) rfl rfl 12 (by decide) inX4 m_587 rfl dX4_sign_90 ?_
                refine lv_iload_n hx hb dX4_sign_93 rfl (lv_at hl 5 rfl) ?_
                refine k_ild S hX.2 hX.1 10 (i := sh) rfl (by omega) (by decide) dX4_sign_94 ?_
                refine lv_iconst (v := 1) hx hb dX4_sign_95 (by decide) ?_
                refine lv_icmp_ne (tgt := 134) hx hb dX4_sign_96 (by decide) (fun c96_19 => ?_) (fun c96_19 => ?_)
                · have bc96_19 := c96_19
                  refine lv_iconst (v := 0) hx hb dX4_sign_134 (by decide) ?_
                  refine k_eq (y := bI (decide (σ 9 sh = 1) && decide (σ 14 (sh * 5 + ar) = 0) && decide (σ 0 ar * abM (gpM σ nm ns sh ar) ≤ σ 1 pe))) (by simp [bI, hE, hC, c96_19]) ?_
                  exact J135 ls (lv_sub hl [0, 1, 2, 3, 4, 5, 6, 7] rfl)
                · have bc96_19 := c96_19
                  refine lv_aload_n hx hb dX4_sign_99 rfl (lv_at hl 4 rfl) ?_
                  refine k_get S hX.2 hX.1 0 (C := RX4) (T := TX4) (N := 20) rfl rfl 14 (by decide) inX4 m_589 rfl dX4_sign_100 ?_
                  refine lv_iload_n hx hb dX4_sign_103 rfl (lv_at hl 5 rfl) ?_
                  refine lv_iload_n hx hb dX4_sign_104 rfl (lv_at hl 6 rfl) ?_
                  refine q_i (r_S S ⟨m_686, m_687, m_40, m_688⟩ ⟨rfl, by decide, by decide, by decide +kernel⟩ (c4_at l sh ar) ⟨rfl, rfl, Nat.le_of_ble_eq_true rfl, Nat.le_of_ble_eq_true rfl⟩ (ps bl_GL (bG hX.2.2)) (n := 2) (As := [.int (nI sh), .int (nI ar)]) (rest := [.ref (ad 12)]) rfl hl.1 rfl (Nat.le_of_ble_eq_true rfl) ⟨Nat.le_of_ble_eq_true rfl, Nat.le_of_ble_eq_true rfl⟩ dX4_sign_105) (fun r20 (e20 : r20 = nI (sh * 5 + ar)) => ?_)
                  subst e20
                  refine k_ild S hX.2 hX.1 12 (i := (sh * 5 + ar)) rfl (by omega) (by decide) dX4_sign_108 ?_
                  refine lv_if_ne (tgt := 134) hx hb dX4_sign_109 (by decide) (fun c109_21 => ?_) (fun c109_21 => ?_)
                  · have bc109_21 := c109_21
                    refine lv_iconst (v := 0) hx hb dX4_sign_134 (by decide) ?_
                    refine k_eq (y := bI (decide (σ 9 sh = 1) && decide (σ 14 (sh * 5 + ar) = 0) && decide (σ 0 ar * abM (gpM σ nm ns sh ar) ≤ σ 1 pe))) (by simp [bI, hE, hC, c96_19, c109_21]) ?_
                    exact J135 ls (lv_sub hl [0, 1, 2, 3, 4, 5, 6, 7] rfl)
                  · have bc109_21 := c109_21
                    refine lv_aload_n hx hb dX4_sign_112 rfl (lv_at hl 4 rfl) ?_
                    refine k_get S hX.2 hX.1 0 (C := RX4) (T := TX4) (N := 20) rfl rfl 2 (by decide) inX4 m_577 rfl dX4_sign_113 ?_
                    refine lv_iload_n hx hb dX4_sign_116 rfl (lv_at hl 7 rfl) ?_
                    refine k_ild S hX.2 hX.1 2 (i := pe) rfl (by omega) (by decide) dX4_sign_117 ?_
                    refine lv_aload_n hx hb dX4_sign_118 rfl (lv_at hl 4 rfl) ?_
                    refine k_get S hX.2 hX.1 0 (C := RX4) (T := TX4) (N := 20) rfl rfl 1 (by decide) inX4 m_576 rfl dX4_sign_119 ?_
                    refine lv_iload_n hx hb dX4_sign_122 rfl (lv_at hl 6 rfl) ?_
                    refine k_ild S hX.2 hX.1 1 (i := ar) rfl (by omega) (by decide) dX4_sign_123 ?_
                    refine lv_iload hx hb dX4_sign_124 (lv_at hl 0 rfl) ?_
                    refine lv_imul hx hb dX4_sign_126 ?_
                    refine lv_icmp_lt (tgt := 134) hx hb dX4_sign_127 (by decide) (fun c127_22 => ?_) (fun c127_22 => ?_)
                    · have bc127_22 := lt_nle c127_22
                      refine lv_iconst (v := 0) hx hb dX4_sign_134 (by decide) ?_
                      refine k_eq (y := bI (decide (σ 9 sh = 1) && decide (σ 14 (sh * 5 + ar) = 0) && decide (σ 0 ar * abM (gpM σ nm ns sh ar) ≤ σ 1 pe))) (by simp [bI, hE, hC, c96_19, c109_21, c127_22, bc127_22]) ?_
                      exact J135 ls (lv_sub hl [0, 1, 2, 3, 4, 5, 6, 7] rfl)
                    · have bc127_22 := nlt_le c127_22
                      refine lv_iconst (v := 1) hx hb dX4_sign_130 (by decide) ?_
                      refine lv_goto (tgt := 135) hx hb dX4_sign_131 (by decide) ?_
                      refine k_eq (y := bI (decide (σ 9 sh = 1) && decide (σ 14 (sh * 5 + ar) = 0) && decide (σ 0 ar * abM (gpM σ nm ns sh ar) ≤ σ 1 pe))) (by simp [bI, hE, hC, c96_19, c109_21, c127_22, bc127_22]) ?_
                      exact J135 ls (lv_sub hl [0, 1, 2, 3, 4, 5, 6, 7] rfl)
            refine lv_iload hx hb dX4_sign_69 (lv_at hl 0 rfl) ?_
            refine lv_if_ge (tgt := 80) hx hb dX4_sign_71 (by decide) (fun c71_23 => ?_) (fun c71_23 => ?_)
            · have bc71_23 := le_nlt c71_23
              refine lv_iload hx hb dX4_sign_80 (lv_at hl 0 rfl) ?_
              refine k_eq (y := abM (gpM σ nm ns sh ar)) (by simp [abM, hE, hC, c71_23, bc71_23]) ?_
              exact J82 ls (lv_sub hl [0, 1, 2, 3, 4, 5, 6] rfl)
            · have bc71_23 := nle_lt c71_23
              refine lv_iload hx hb dX4_sign_74 (lv_at hl 0 rfl) ?_
              refine lv_ineg hx hb dX4_sign_76 ?_
              refine lv_goto (tgt := 82) hx hb dX4_sign_77 (by decide) ?_
              refine k_eq (y := abM (gpM σ nm ns sh ar)) (by simp [abM, hE, hC, c71_23, bc71_23]) ?_
              exact J82 ls (lv_sub hl [0, 1, 2, 3, 4, 5, 6] rfl)
      refine lv_iload hx hb dX4_sign_31 (lv_at hl 0 rfl) ?_
      refine lv_if_eq (tgt := 49) hx hb dX4_sign_33 (by decide) (fun c33_24 => ?_) (fun c33_24 => ?_)
      · exact absurd c33_24 (by decide)
      · have bc33_24 := c33_24
        refine lv_aload_n hx hb dX4_sign_36 rfl (lv_at hl 1 rfl) ?_
        refine lv_iload_n hx hb dX4_sign_37 rfl (lv_at hl 2 rfl) ?_
        refine lv_iload_n hx hb dX4_sign_38 rfl (lv_at hl 3 rfl) ?_
        refine q_i (r_V S ⟨m_706, m_708, m_27, m_40, m_709⟩ ⟨rfl, by decide, by decide, by decide +kernel⟩ (c4_agrees l G ad σ sh ar (by omega) (by omega)) ⟨rfl, rfl, Nat.le_of_ble_eq_true rfl, Nat.le_of_ble_eq_true rfl⟩ (pv_M hX bl_PM (bM hX)) (n := 2) (As := [.int (nI sh), .int (nI ar)]) (rest := []) rfl hl.1 rfl (Nat.le_of_ble_eq_true rfl) ⟨Nat.le_of_ble_eq_true rfl, Nat.le_of_ble_eq_true rfl⟩ dX4_sign_39) (fun r25 (e25 : r25 = bI (grM σ (sh * 5 + ar))) => ?_)
        subst e25
        refine lv_if_eq (tgt := 49) hx hb dX4_sign_42 (by decide) (fun c42_26 => ?_) (fun c42_26 => ?_)
        · have bc42_26 := bI_0 c42_26
          refine lv_iconst (v := 0) hx hb dX4_sign_49 (by decide) ?_
          refine k_eq (y := bI (grM σ (sh * 5 + ar))) (by simp [bI, hE, bc42_26]) ?_
          exact J50 ls (lv_sub hl [0, 1, 2, 3, 4] rfl)
        · have bc42_26 := bI_n c42_26
          refine lv_iconst (v := 1) hx hb dX4_sign_45 (by decide) ?_
          refine lv_goto (tgt := 50) hx hb dX4_sign_46 (by decide) ?_
          refine k_eq (y := bI (grM σ (sh * 5 + ar))) (by simp [bI, hE, bc42_26]) ?_
          exact J50 ls (lv_sub hl [0, 1, 2, 3, 4] rfl)
  refine lv_aload_n hx hb dX4_sign_0 rfl (lv_at hl 0 rfl) ?_
  refine lv_iload_n hx hb dX4_sign_1 rfl (lv_at hl 1 rfl) ?_
  refine q_i (r_V S ⟨m_682, m_684, m_24, m_40, m_685⟩ ⟨rfl, by decide, by decide, by decide +kernel⟩ (c4_isSheet l G ad σ za0) ⟨rfl, rfl, Nat.le_of_ble_eq_true rfl, Nat.le_of_ble_eq_true rfl⟩ (pv_M hX bl_PM (bM hX)) (n := 1) (As := [.int za0]) (rest := []) rfl hl.1 rfl (Nat.le_of_ble_eq_true rfl) ⟨Nat.le_of_ble_eq_true rfl, Nat.le_of_ble_eq_true rfl⟩ dX4_sign_2) (fun r27 (e27 : r27 = bI (ckR za0 0 (σ 18 0 - 1))) => ?_)
  subst e27
  refine lv_if_eq (tgt := 28) hx hb dX4_sign_5 (by decide) (fun c5_28 => ?_) (fun c5_28 => ?_)
  · have bc5_28 := bI_0 c5_28
    refine lv_iconst (v := 0) hx hb dX4_sign_28 (by decide) ?_
    refine k_eq (y := bI (ckR za0 0 (σ 18 0 - 1) && ckR zb0 0 4 && ckR zc0 0 5)) (by simp [bI, bc5_28]) ?_
    exact J29 ls (lv_sub hl [0, 1, 2, 3] rfl)
  · have bc5_28 := bI_n c5_28
    refine lv_iload_n hx hb dX4_sign_8 rfl (lv_at hl 2 rfl) ?_
    refine q_i (r_S S ⟨m_644, m_645, m_40, m_646⟩ ⟨rfl, by decide, by decide, by decide +kernel⟩ (c4_isArticle l zb0) ⟨rfl, rfl, Nat.le_of_ble_eq_true rfl, Nat.le_of_ble_eq_true rfl⟩ (ps bl_GL (bG hX.2.2)) (n := 1) (As := [.int zb0]) (rest := []) rfl hl.1 rfl (Nat.le_of_ble_eq_true rfl) ⟨Nat.le_of_ble_eq_true rfl, Nat.le_of_ble_eq_true rfl⟩ dX4_sign_9) (fun r29 (e29 : r29 = bI (ckR zb0 0 4)) => ?_)
    subst e29
    refine lv_if_eq (tgt := 28) hx hb dX4_sign_12 (by decide) (fun c12_30 => ?_) (fun c12_30 => ?_)
    · have bc12_30 := bI_0 c12_30
      refine lv_iconst (v := 0) hx hb dX4_sign_28 (by decide) ?_
      refine k_eq (y := bI (ckR za0 0 (σ 18 0 - 1) && ckR zb0 0 4 && ckR zc0 0 5)) (by simp [bI, bc5_28, bc12_30]) ?_
      exact J29 ls (lv_sub hl [0, 1, 2, 3] rfl)
    · have bc12_30 := bI_n c12_30
      refine lv_iload_n hx hb dX4_sign_15 rfl (lv_at hl 3 rfl) ?_
      refine lv_iconst (v := 0) hx hb dX4_sign_16 (by decide) ?_
      refine lv_iconst (v := 5) hx hb dX4_sign_17 (by decide) ?_
      refine q_i (r_S S ⟨m_647, m_648, m_40, m_649⟩ ⟨rfl, by decide, by decide, by decide +kernel⟩ (c4_in l zc0 0 5) ⟨rfl, rfl, Nat.le_of_ble_eq_true rfl, Nat.le_of_ble_eq_true rfl⟩ (ps bl_GL (bG hX.2.2)) (n := 3) (As := [.int zc0, .int 0, .int 5]) (rest := []) rfl hl.1 rfl (Nat.le_of_ble_eq_true rfl) ⟨Nat.le_of_ble_eq_true rfl, Nat.le_of_ble_eq_true rfl⟩ dX4_sign_18) (fun r31 (e31 : r31 = bI (ckR zc0 0 5)) => ?_)
      subst e31
      refine lv_if_eq (tgt := 28) hx hb dX4_sign_21 (by decide) (fun c21_32 => ?_) (fun c21_32 => ?_)
      · have bc21_32 := bI_0 c21_32
        refine lv_iconst (v := 0) hx hb dX4_sign_28 (by decide) ?_
        refine k_eq (y := bI (ckR za0 0 (σ 18 0 - 1) && ckR zb0 0 4 && ckR zc0 0 5)) (by simp [bI, bc5_28, bc12_30, bc21_32]) ?_
        exact J29 ls (lv_sub hl [0, 1, 2, 3] rfl)
      · have bc21_32 := bI_n c21_32
        refine lv_iconst (v := 1) hx hb dX4_sign_24 (by decide) ?_
        refine lv_goto (tgt := 29) hx hb dX4_sign_25 (by decide) ?_
        refine k_eq (y := bI (ckR za0 0 (σ 18 0 - 1) && ckR zb0 0 4 && ckR zc0 0 5)) (by simp [bI, bc5_28, bc12_30, bc21_32]) ?_
        exact J29 ls (lv_sub hl [0, 1, 2, 3] rfl)

set_option maxHeartbeats 4000000 in
set_option maxRecDepth 100000 in
theorem c4_settle (l : Launch) (G : kG) (ad : Nat → Nat) (σ : kS) (nm ns : Nat) (za0 zb0 zc0 : Int32) (hns : σ 18 0 = nI ns) (hns4 : ns ≤ 40) (hnm : σ 17 0 = nI nm) (hnm2 : nm ≤ 200)  (A : Nat → Prop) (hD : DD 16 A ad) : Met l yX4_settle [.code yX4_settle cX4_settle 7 (some .int)] ({ frames := 5, cells := 0, slots := 0, locals := 141 }) (va_Pc [.ref (ad 0), .int za0, .int zb0, .int zc0] (fun U => PM G ad σ U U.heap)) (oW A (fun r => r = vM (ckR za0 0 (σ 18 0 - 1) && ckR zb0 0 (σ 18 0 - 1) && ckR zc0 0 4, ckR za0 0 (σ 18 0 - 1) && ckR zb0 0 (σ 18 0 - 1) && ckR zc0 0 4 && (grM σ (lnN za0 zc0) && grM σ (lnN zb0 zc0)), ckR za0 0 (σ 18 0 - 1) && ckR zb0 0 (σ 18 0 - 1) && ckR zc0 0 4 && (grM σ (lnN za0 zc0) && grM σ (lnN zb0 zc0)) && ctM σ nm ns (ixN za0) (ixN zb0) (ixN zc0)) (if gpM (su σ 23 0 0) nm ns (ixN za0) (ixN zc0) ≤ 0 then -(gpM (su σ 23 0 0) nm ns (ixN za0) (ixN zc0)) else gpM (su σ 23 0 0) nm ns (ixN za0) (ixN zc0))) (fun H9 => va_P G.1 vwCl (wM G ad (sM (ckR za0 0 (σ 18 0 - 1) && ckR zb0 0 (σ 18 0 - 1) && ckR zc0 0 4, ckR za0 0 (σ 18 0 - 1) && ckR zb0 0 (σ 18 0 - 1) && ckR zc0 0 4 && (grM σ (lnN za0 zc0) && grM σ (lnN zb0 zc0)), ckR za0 0 (σ 18 0 - 1) && ckR zb0 0 (σ 18 0 - 1) && ckR zc0 0 4 && (grM σ (lnN za0 zc0) && grM σ (lnN zb0 zc0)) && ctM σ nm ns (ixN za0) (ixN zb0) (ixN zc0)) σ (fun μ => sgM (sgM μ (lnN za0 zc0) (gpM μ nm ns (ixN za0) (ixN zc0))) (lnN zb0 zc0) (-(gpM μ nm ns (ixN za0) (ixN zc0)))))) H9)) 0 0 A := by
  refine k_of (by decide) (Nat.le_of_ble_eq_true rfl) (fun U h => h.2.2) ?_
  intro p e s m below meth c ls S hr hlocks hmn hB hl
  have hx := S.1
  have hb := S.2.1
  have hX : PM G ad σ s s.heap := hB
  have hS0 : va_S A s.heap s.heap [] := va_S.rf
  have hl : lv_has ls 7 [(0, .ref (ad 0)), (1, .int za0), (2, .int zb0), (3, .int zc0)] := hl
  have J28 : ∀ ls, lv_has ls 7 [(0, .ref (ad 0)), (1, .int za0), (2, .int zb0), (3, .int zc0)] → W p l e ({ frames := 5, cells := 0, slots := 0, locals := 141 } : Room) s m [.ref (ad 0), .int za0, .int zb0, .int zc0].toArray below meth c s.heap [] 0 0 (MQ below (oW A (fun r => r = vM (ckR za0 0 (σ 18 0 - 1) && ckR zb0 0 (σ 18 0 - 1) && ckR zc0 0 4, ckR za0 0 (σ 18 0 - 1) && ckR zb0 0 (σ 18 0 - 1) && ckR zc0 0 4 && (grM σ (lnN za0 zc0) && grM σ (lnN zb0 zc0)), ckR za0 0 (σ 18 0 - 1) && ckR zb0 0 (σ 18 0 - 1) && ckR zc0 0 4 && (grM σ (lnN za0 zc0) && grM σ (lnN zb0 zc0)) && ctM σ nm ns (ixN za0) (ixN zb0) (ixN zc0)) (if gpM (su σ 23 0 0) nm ns (ixN za0) (ixN zc0) ≤ 0 then -(gpM (su σ 23 0 0) nm ns (ixN za0) (ixN zc0)) else gpM (su σ 23 0 0) nm ns (ixN za0) (ixN zc0))) (fun H9 => va_P G.1 vwCl (wM G ad (sM (ckR za0 0 (σ 18 0 - 1) && ckR zb0 0 (σ 18 0 - 1) && ckR zc0 0 4, ckR za0 0 (σ 18 0 - 1) && ckR zb0 0 (σ 18 0 - 1) && ckR zc0 0 4 && (grM σ (lnN za0 zc0) && grM σ (lnN zb0 zc0)), ckR za0 0 (σ 18 0 - 1) && ckR zb0 0 (σ 18 0 - 1) && ckR zc0 0 4 && (grM σ (lnN za0 zc0) && grM σ (lnN zb0 zc0)) && ctM σ nm ns (ixN za0) (ixN zb0) (ixN zc0)) σ (fun μ => sgM (sgM μ (lnN za0 zc0) (gpM μ nm ns (ixN za0) (ixN zc0))) (lnN zb0 zc0) (-(gpM μ nm ns (ixN za0) (ixN zc0)))))) H9)) [.ref (ad 0), .int za0, .int zb0, .int zc0].toArray s 0 0 A) (F0 m 28 ls [.int (bI (ckR za0 0 (σ 18 0 - 1) && ckR zb0 0 (σ 18 0 - 1) && ckR zc0 0 4))]) := by
    intro ls hl
    rcases bft (ckR za0 0 (σ 18 0 - 1) && ckR zb0 0 (σ 18 0 - 1) && ckR zc0 0 4) with hE | hE
    · refine k_eq (y := 0) (by rw [hE]; rfl) ?_
      refine lv_istore (lv' := [(4, .int 0), (0, .ref (ad 0)), (1, .int za0), (2, .int zb0), (3, .int zc0)]) hx hb dX4_settle_28 hl (by decide) rfl (fun ls hl => ?_)
      have J58 : ∀ ls, lv_has ls 7 [(4, .int 0), (0, .ref (ad 0)), (1, .int za0), (2, .int zb0), (3, .int zc0)] → W p l e ({ frames := 5, cells := 0, slots := 0, locals := 141 } : Room) s m [.ref (ad 0), .int za0, .int zb0, .int zc0].toArray below meth c s.heap [] 0 0 (MQ below (oW A (fun r => r = vM (ckR za0 0 (σ 18 0 - 1) && ckR zb0 0 (σ 18 0 - 1) && ckR zc0 0 4, ckR za0 0 (σ 18 0 - 1) && ckR zb0 0 (σ 18 0 - 1) && ckR zc0 0 4 && (grM σ (lnN za0 zc0) && grM σ (lnN zb0 zc0)), ckR za0 0 (σ 18 0 - 1) && ckR zb0 0 (σ 18 0 - 1) && ckR zc0 0 4 && (grM σ (lnN za0 zc0) && grM σ (lnN zb0 zc0)) && ctM σ nm ns (ixN za0) (ixN zb0) (ixN zc0)) (if gpM (su σ 23 0 0) nm ns (ixN za0) (ixN zc0) ≤ 0 then -(gpM (su σ 23 0 0) nm ns (ixN za0) (ixN zc0)) else gpM (su σ 23 0 0) nm ns (ixN za0) (ixN zc0))) (fun H9 => va_P G.1 vwCl (wM G ad (sM (ckR za0 0 (σ 18 0 - 1) && ckR zb0 0 (σ 18 0 - 1) && ckR zc0 0 4, ckR za0 0 (σ 18 0 - 1) && ckR zb0 0 (σ 18 0 - 1) && ckR zc0 0 4 && (grM σ (lnN za0 zc0) && grM σ (lnN zb0 zc0)), ckR za0 0 (σ 18 0 - 1) && ckR zb0 0 (σ 18 0 - 1) && ckR zc0 0 4 && (grM σ (lnN za0 zc0) && grM σ (lnN zb0 zc0)) && ctM σ nm ns (ixN za0) (ixN zb0) (ixN zc0)) σ (fun μ => sgM (sgM μ (lnN za0 zc0) (gpM μ nm ns (ixN za0) (ixN zc0))) (lnN zb0 zc0) (-(gpM μ nm ns (ixN za0) (ixN zc0)))))) H9)) [.ref (ad 0), .int za0, .int zb0, .int zc0].toArray s 0 0 A) (F0 m 58 ls [.int 0]) := by
        intro ls hl
        refine lv_istore (lv' := [(5, .int 0), (4, .int 0), (0, .ref (ad 0)), (1, .int za0), (2, .int zb0), (3, .int zc0)]) hx hb dX4_settle_58 hl (by decide) rfl (fun ls hl => ?_)
        refine lv_aload_n hx hb dX4_settle_60 rfl (lv_at hl 2 rfl) ?_
        refine lv_iload hx hb dX4_settle_61 (lv_at hl 1 rfl) ?_
        refine lv_iload hx hb dX4_settle_63 (lv_at hl 0 rfl) ?_
        refine lv_iload hx hb dX4_settle_65 (lv_at hl 0 rfl) ?_
        refine lv_if_eq (tgt := 84) hx hb dX4_settle_67 (by decide) (fun c67_1 => ?_) (fun c67_1 => ?_)
        · have bc67_1 := c67_1
          refine lv_iconst (v := 0) hx hb dX4_settle_84 (by decide) ?_
          refine q_w (r_V S ⟨m_650, m_652, m_22, m_40, m_653⟩ ⟨rfl, by decide, by decide, by decide +kernel⟩ (c4_goes l G ad σ false false false A hD) ⟨rfl, rfl, Nat.le_of_ble_eq_true rfl, Nat.le_of_ble_eq_true rfl⟩ (pv_M hX bl_PM (bM hX)) (n := 3) (As := [.int (bI false), .int (bI false), .int (bI false)]) (rest := []) rfl hl.1 rfl (Nat.le_of_ble_eq_true rfl) ⟨Nat.le_of_ble_eq_true rfl, Nat.le_of_ble_eq_true rfl⟩ dX4_settle_85) hS0 (fun _ h => h) (fun r2 H2 L2 (e2 : r2 = bI (go3 (false, false, false))) h2 _ _ hS2 => ?_)
          subst e2
          have hX2 : PM G ad (su σ 23 0 (goV (false, false, false))) s H2 := ⟨h2, hX.2⟩
          refine lv_if_ne (tgt := 93) hx hb dX4_settle_88 (by decide) (fun c88_3 => ?_) (fun c88_3 => ?_)
          · have bc88_3 := bI_n c88_3
            exact absurd bc88_3 (by simp [go3])
          · have bc88_3 := bI_0 c88_3
            refine lv_iconst (v := 0) hx hb dX4_settle_91 (by decide) ?_
            exact W.iret (v := 0) hx hb hr (fun t ht hW => ⟨⟨_, rfl, (by rw [show (ckR za0 0 (σ 18 0 - 1) && ckR zb0 0 (σ 18 0 - 1) && ckR zc0 0 4, ckR za0 0 (σ 18 0 - 1) && ckR zb0 0 (σ 18 0 - 1) && ckR zc0 0 4 && (grM σ (lnN za0 zc0) && grM σ (lnN zb0 zc0)), ckR za0 0 (σ 18 0 - 1) && ckR zb0 0 (σ 18 0 - 1) && ckR zc0 0 4 && (grM σ (lnN za0 zc0) && grM σ (lnN zb0 zc0)) && ctM σ nm ns (ixN za0) (ixN zb0) (ixN zc0)) = (false, false, false) by simp [lnN, hE]]; rw [vM_f bc88_3])⟩, (by have e9 : sM (ckR za0 0 (σ 18 0 - 1) && ckR zb0 0 (σ 18 0 - 1) && ckR zc0 0 4, ckR za0 0 (σ 18 0 - 1) && ckR zb0 0 (σ 18 0 - 1) && ckR zc0 0 4 && (grM σ (lnN za0 zc0) && grM σ (lnN zb0 zc0)), ckR za0 0 (σ 18 0 - 1) && ckR zb0 0 (σ 18 0 - 1) && ckR zc0 0 4 && (grM σ (lnN za0 zc0) && grM σ (lnN zb0 zc0)) && ctM σ nm ns (ixN za0) (ixN zb0) (ixN zc0)) σ (fun μ => sgM (sgM μ (lnN za0 zc0) (gpM μ nm ns (ixN za0) (ixN zc0))) (lnN zb0 zc0) (-(gpM μ nm ns (ixN za0) (ixN zc0)))) = su σ 23 0 (goV (false, false, false)) := (by rw [show (ckR za0 0 (σ 18 0 - 1) && ckR zb0 0 (σ 18 0 - 1) && ckR zc0 0 4, ckR za0 0 (σ 18 0 - 1) && ckR zb0 0 (σ 18 0 - 1) && ckR zc0 0 4 && (grM σ (lnN za0 zc0) && grM σ (lnN zb0 zc0)), ckR za0 0 (σ 18 0 - 1) && ckR zb0 0 (σ 18 0 - 1) && ckR zc0 0 4 && (grM σ (lnN za0 zc0) && grM σ (lnN zb0 zc0)) && ctM σ nm ns (ixN za0) (ixN zb0) (ixN zc0)) = (false, false, false) by simp [lnN, hE]]; rw [sM_f bc88_3]); show va_P G.1 vwCl (wM G ad (sM (ckR za0 0 (σ 18 0 - 1) && ckR zb0 0 (σ 18 0 - 1) && ckR zc0 0 4, ckR za0 0 (σ 18 0 - 1) && ckR zb0 0 (σ 18 0 - 1) && ckR zc0 0 4 && (grM σ (lnN za0 zc0) && grM σ (lnN zb0 zc0)), ckR za0 0 (σ 18 0 - 1) && ckR zb0 0 (σ 18 0 - 1) && ckR zc0 0 4 && (grM σ (lnN za0 zc0) && grM σ (lnN zb0 zc0)) && ctM σ nm ns (ixN za0) (ixN zb0) (ixN zc0)) σ (fun μ => sgM (sgM μ (lnN za0 zc0) (gpM μ nm ns (ixN za0) (ixN zc0))) (lnN zb0 zc0) (-(gpM μ nm ns (ixN za0) (ixN zc0)))))) t.heap; rw [e9, ht]; exact hX2.1), hS2.F ht⟩) hS2.2.2 dX4_settle_92
        · exact absurd c67_1 (by decide)
      refine lv_iload hx hb dX4_settle_30 (lv_at hl 0 rfl) ?_
      refine lv_if_eq (tgt := 57) hx hb dX4_settle_32 (by decide) (fun c32_4 => ?_) (fun c32_4 => ?_)
      · have bc32_4 := c32_4
        refine lv_iconst (v := 0) hx hb dX4_settle_57 (by decide) ?_
        refine k_eq (y := 0) rfl ?_
        exact J58 ls (lv_sub hl [0, 1, 2, 3, 4] rfl)
      · exact absurd c32_4 (by decide)
    · refine k_eq (y := 1) (by rw [hE]; rfl) ?_
      obtain ⟨hEx, hE3⟩ := Bool.and_eq_true_iff.mp hE
      obtain ⟨hE1, hE2⟩ := Bool.and_eq_true_iff.mp hEx
      obtain ⟨sh, hsh, rfl⟩ := ckR_nI (n := ns) (by rw [← hns]; exact hE1) (by omega)
      have h31sh : sh < 2 ^ 31 := by omega
      obtain ⟨ot, hot, rfl⟩ := ckR_nI (n := ns) (by rw [← hns]; exact hE2) (by omega)
      have h31ot : ot < 2 ^ 31 := by omega
      obtain ⟨ar, har, rfl⟩ := ckR_lit (n := 4) hE3 (by decide)
      have h31ar : ar < 2 ^ 31 := by omega
      refine lv_istore (lv' := [(4, .int 1), (0, .ref (ad 0)), (1, .int (nI sh)), (2, .int (nI ot)), (3, .int (nI ar))]) hx hb dX4_settle_28 hl (by decide) rfl (fun ls hl => ?_)
      have J58 : ∀ ls, lv_has ls 7 [(4, .int 1), (0, .ref (ad 0)), (1, .int (nI sh)), (2, .int (nI ot)), (3, .int (nI ar))] → W p l e ({ frames := 5, cells := 0, slots := 0, locals := 141 } : Room) s m [.ref (ad 0), .int (nI sh), .int (nI ot), .int (nI ar)].toArray below meth c s.heap [] 0 0 (MQ below (oW A (fun r => r = vM (ckR (nI sh) 0 (σ 18 0 - 1) && ckR (nI ot) 0 (σ 18 0 - 1) && ckR (nI ar) 0 4, ckR (nI sh) 0 (σ 18 0 - 1) && ckR (nI ot) 0 (σ 18 0 - 1) && ckR (nI ar) 0 4 && (grM σ (lnN (nI sh) (nI ar)) && grM σ (lnN (nI ot) (nI ar))), ckR (nI sh) 0 (σ 18 0 - 1) && ckR (nI ot) 0 (σ 18 0 - 1) && ckR (nI ar) 0 4 && (grM σ (lnN (nI sh) (nI ar)) && grM σ (lnN (nI ot) (nI ar))) && ctM σ nm ns (ixN (nI sh)) (ixN (nI ot)) (ixN (nI ar))) (if gpM (su σ 23 0 0) nm ns (ixN (nI sh)) (ixN (nI ar)) ≤ 0 then -(gpM (su σ 23 0 0) nm ns (ixN (nI sh)) (ixN (nI ar))) else gpM (su σ 23 0 0) nm ns (ixN (nI sh)) (ixN (nI ar)))) (fun H9 => va_P G.1 vwCl (wM G ad (sM (ckR (nI sh) 0 (σ 18 0 - 1) && ckR (nI ot) 0 (σ 18 0 - 1) && ckR (nI ar) 0 4, ckR (nI sh) 0 (σ 18 0 - 1) && ckR (nI ot) 0 (σ 18 0 - 1) && ckR (nI ar) 0 4 && (grM σ (lnN (nI sh) (nI ar)) && grM σ (lnN (nI ot) (nI ar))), ckR (nI sh) 0 (σ 18 0 - 1) && ckR (nI ot) 0 (σ 18 0 - 1) && ckR (nI ar) 0 4 && (grM σ (lnN (nI sh) (nI ar)) && grM σ (lnN (nI ot) (nI ar))) && ctM σ nm ns (ixN (nI sh)) (ixN (nI ot)) (ixN (nI ar))) σ (fun μ => sgM (sgM μ (lnN (nI sh) (nI ar)) (gpM μ nm ns (ixN (nI sh)) (ixN (nI ar)))) (lnN (nI ot) (nI ar)) (-(gpM μ nm ns (ixN (nI sh)) (ixN (nI ar))))))) H9)) [.ref (ad 0), .int (nI sh), .int (nI ot), .int (nI ar)].toArray s 0 0 A) (F0 m 58 ls [.int (bI (grM σ (sh * 5 + ar) && grM σ (ot * 5 + ar)))]) := by
        intro ls hl
        rcases bft (grM σ (sh * 5 + ar) && grM σ (ot * 5 + ar)) with hC | hC
        · refine k_eq (y := 0) (by rw [hC]; rfl) ?_
          refine lv_istore (lv' := [(5, .int 0), (4, .int 1), (0, .ref (ad 0)), (1, .int (nI sh)), (2, .int (nI ot)), (3, .int (nI ar))]) hx hb dX4_settle_58 hl (by decide) rfl (fun ls hl => ?_)
          refine lv_aload_n hx hb dX4_settle_60 rfl (lv_at hl 2 rfl) ?_
          refine lv_iload hx hb dX4_settle_61 (lv_at hl 1 rfl) ?_
          refine lv_iload hx hb dX4_settle_63 (lv_at hl 0 rfl) ?_
          refine lv_iload hx hb dX4_settle_65 (lv_at hl 0 rfl) ?_
          refine lv_if_eq (tgt := 84) hx hb dX4_settle_67 (by decide) (fun c67_5 => ?_) (fun c67_5 => ?_)
          · have bc67_5 := c67_5
            refine lv_iconst (v := 0) hx hb dX4_settle_84 (by decide) ?_
            refine q_w (r_V S ⟨m_650, m_652, m_22, m_40, m_653⟩ ⟨rfl, by decide, by decide, by decide +kernel⟩ (c4_goes l G ad σ true false false A hD) ⟨rfl, rfl, Nat.le_of_ble_eq_true rfl, Nat.le_of_ble_eq_true rfl⟩ (pv_M hX bl_PM (bM hX)) (n := 3) (As := [.int (bI true), .int (bI false), .int (bI false)]) (rest := []) rfl hl.1 rfl (Nat.le_of_ble_eq_true rfl) ⟨Nat.le_of_ble_eq_true rfl, Nat.le_of_ble_eq_true rfl⟩ dX4_settle_85) hS0 (fun _ h => h) (fun r6 H6 L6 (e6 : r6 = bI (go3 (true, false, false))) h6 _ _ hS6 => ?_)
            subst e6
            have hX6 : PM G ad (su σ 23 0 (goV (true, false, false))) s H6 := ⟨h6, hX.2⟩
            refine lv_if_ne (tgt := 93) hx hb dX4_settle_88 (by decide) (fun c88_7 => ?_) (fun c88_7 => ?_)
            · have bc88_7 := bI_n c88_7
              exact absurd bc88_7 (by simp [go3])
            · have bc88_7 := bI_0 c88_7
              refine lv_iconst (v := 0) hx hb dX4_settle_91 (by decide) ?_
              exact W.iret (v := 0) hx hb hr (fun t ht hW => ⟨⟨_, rfl, (by rw [show (ckR (nI sh) 0 (σ 18 0 - 1) && ckR (nI ot) 0 (σ 18 0 - 1) && ckR (nI ar) 0 4, ckR (nI sh) 0 (σ 18 0 - 1) && ckR (nI ot) 0 (σ 18 0 - 1) && ckR (nI ar) 0 4 && (grM σ (lnN (nI sh) (nI ar)) && grM σ (lnN (nI ot) (nI ar))), ckR (nI sh) 0 (σ 18 0 - 1) && ckR (nI ot) 0 (σ 18 0 - 1) && ckR (nI ar) 0 4 && (grM σ (lnN (nI sh) (nI ar)) && grM σ (lnN (nI ot) (nI ar))) && ctM σ nm ns (ixN (nI sh)) (ixN (nI ot)) (ixN (nI ar))) = (true, false, false) by simp [lnN, ixN_nI h31sh, ixN_nI h31ot, ixN_nI h31ar, hE, hC]]; rw [vM_f bc88_7])⟩, (by have e9 : sM (ckR (nI sh) 0 (σ 18 0 - 1) && ckR (nI ot) 0 (σ 18 0 - 1) && ckR (nI ar) 0 4, ckR (nI sh) 0 (σ 18 0 - 1) && ckR (nI ot) 0 (σ 18 0 - 1) && ckR (nI ar) 0 4 && (grM σ (lnN (nI sh) (nI ar)) && grM σ (lnN (nI ot) (nI ar))), ckR (nI sh) 0 (σ 18 0 - 1) && ckR (nI ot) 0 (σ 18 0 - 1) && ckR (nI ar) 0 4 && (grM σ (lnN (nI sh) (nI ar)) && grM σ (lnN (nI ot) (nI ar))) && ctM σ nm ns (ixN (nI sh)) (ixN (nI ot)) (ixN (nI ar))) σ (fun μ => sgM (sgM μ (lnN (nI sh) (nI ar)) (gpM μ nm ns (ixN (nI sh)) (ixN (nI ar)))) (lnN (nI ot) (nI ar)) (-(gpM μ nm ns (ixN (nI sh)) (ixN (nI ar))))) = su σ 23 0 (goV (true, false, false)) := (by rw [show (ckR (nI sh) 0 (σ 18 0 - 1) && ckR (nI ot) 0 (σ 18 0 - 1) && ckR (nI ar) 0 4, ckR (nI sh) 0 (σ 18 0 - 1) && ckR (nI ot) 0 (σ 18 0 - 1) && ckR (nI ar) 0 4 && (grM σ (lnN (nI sh) (nI ar)) && grM σ (lnN (nI ot) (nI ar))), ckR (nI sh) 0 (σ 18 0 - 1) && ckR (nI ot) 0 (σ 18 0 - 1) && ckR (nI ar) 0 4 && (grM σ (lnN (nI sh) (nI ar)) && grM σ (lnN (nI ot) (nI ar))) && ctM σ nm ns (ixN (nI sh)) (ixN (nI ot)) (ixN (nI ar))) = (true, false, false) by simp [lnN, ixN_nI h31sh, ixN_nI h31ot, ixN_nI h31ar, hE, hC]]; rw [sM_f bc88_7]); show va_P G.1 vwCl (wM G ad (sM (ckR (nI sh) 0 (σ 18 0 - 1) && ckR (nI ot) 0 (σ 18 0 - 1) && ckR (nI ar) 0 4, ckR (nI sh) 0 (σ 18 0 - 1) && ckR (nI ot) 0 (σ 18 0 - 1) && ckR (nI ar) 0 4 && (grM σ (lnN (nI sh) (nI ar)) && grM σ (lnN (nI ot) (nI ar))), ckR (nI sh) 0 (σ 18 0 - 1) && ckR (nI ot) 0 (σ 18 0 - 1) && ckR (nI ar) 0 4 && (grM σ (lnN (nI sh) (nI ar)) && grM σ (lnN (nI ot) (nI ar))) && ctM σ nm ns (ixN (nI sh)) (ixN (nI ot)) (ixN (nI ar))) σ (fun μ => sgM (sgM μ (lnN (nI sh) (nI ar)) (gpM μ nm ns (ixN (nI sh)) (ixN (nI ar)))) (lnN (nI ot) (nI ar)) (-(gpM μ nm ns (ixN (nI sh)) (ixN (nI ar))))))) t.heap; rw [e9, ht]; exact hX6.1), hS6.F ht⟩) hS6.2.2 dX4_settle_92
          · exact absurd c67_5 (by decide)
        · refine k_eq (y := 1) (by rw [hC]; rfl) ?_
          refine lv_istore (lv' := [(5, .int 1), (4, .int 1), (0, .ref (ad 0)), (1, .int (nI sh)), (2, .int (nI ot)), (3, .int (nI ar))]) hx hb dX4_settle_58 hl (by decide) rfl (fun ls hl => ?_)
          refine lv_aload_n hx hb dX4_settle_60 rfl (lv_at hl 2 rfl) ?_
          refine lv_iload hx hb dX4_settle_61 (lv_at hl 1 rfl) ?_
          refine lv_iload hx hb dX4_settle_63 (lv_at hl 0 rfl) ?_
          refine lv_iload hx hb dX4_settle_65 (lv_at hl 0 rfl) ?_
          refine lv_if_eq (tgt := 84) hx hb dX4_settle_67 (by decide) (fun c67_8 => ?_) (fun c67_8 => ?_)
          · exact absurd c67_8 (by decide)
          · have bc67_8 := c67_8
            refine lv_aload_n hx hb dX4_settle_70 rfl (lv_at hl 2 rfl) ?_
            refine lv_iload_n hx hb dX4_settle_71 rfl (lv_at hl 3 rfl) ?_
            refine lv_iload_n hx hb dX4_settle_72 rfl (lv_at hl 4 rfl) ?_
            refine lv_iload_n hx hb dX4_settle_73 rfl (lv_at hl 5 rfl) ?_
            refine q_i (r_V S ⟨m_726, m_728, m_31, m_40, m_729⟩ ⟨rfl, by decide, by decide, by decide +kernel⟩ (c4_canSettle l G ad σ nm ns sh ot ar hns hns4 hnm hnm2 (by omega) (by omega) (by omega)) ⟨rfl, rfl, Nat.le_of_ble_eq_true rfl, Nat.le_of_ble_eq_true rfl⟩ (pv_M hX bl_PM (bM hX)) (n := 3) (As := [.int (nI sh), .int (nI ot), .int (nI ar)]) (rest := [.int 1, .int 1, .ref (ad 0)]) rfl hl.1 rfl (Nat.le_of_ble_eq_true rfl) ⟨Nat.le_of_ble_eq_true rfl, Nat.le_of_ble_eq_true rfl⟩ dX4_settle_74) (fun r9 (e9 : r9 = bI (ctM σ nm ns sh ot ar)) => ?_)
            subst e9
            refine lv_if_eq (tgt := 84) hx hb dX4_settle_77 (by decide) (fun c77_10 => ?_) (fun c77_10 => ?_)
            · have bc77_10 := bI_0 c77_10
              refine lv_iconst (v := 0) hx hb dX4_settle_84 (by decide) ?_
              refine q_w (r_V S ⟨m_650, m_652, m_22, m_40, m_653⟩ ⟨rfl, by decide, by decide, by decide +kernel⟩ (c4_goes l G ad σ true true false A hD) ⟨rfl, rfl, Nat.le_of_ble_eq_true rfl, Nat.le_of_ble_eq_true rfl⟩ (pv_M hX bl_PM (bM hX)) (n := 3) (As := [.int (bI true), .int (bI true), .int (bI false)]) (rest := []) rfl hl.1 rfl (Nat.le_of_ble_eq_true rfl) ⟨Nat.le_of_ble_eq_true rfl, Nat.le_of_ble_eq_true rfl⟩ dX4_settle_85) hS0 (fun _ h => h) (fun r11 H11 L11 (e11 : r11 = bI (go3 (true, true, false))) h11 _ _ hS11 => ?_)
              subst e11
              have hX11 : PM G ad (su σ 23 0 (goV (true, true, false))) s H11 := ⟨h11, hX.2⟩
              refine lv_if_ne (tgt := 93) hx hb dX4_settle_88 (by decide) (fun c88_12 => ?_) (fun c88_12 => ?_)
              · have bc88_12 := bI_n c88_12
                exact absurd bc88_12 (by simp [go3])
              · have bc88_12 := bI_0 c88_12
                refine lv_iconst (v := 0) hx hb dX4_settle_91 (by decide) ?_
                exact W.iret (v := 0) hx hb hr (fun t ht hW => ⟨⟨_, rfl, (by rw [show (ckR (nI sh) 0 (σ 18 0 - 1) && ckR (nI ot) 0 (σ 18 0 - 1) && ckR (nI ar) 0 4, ckR (nI sh) 0 (σ 18 0 - 1) && ckR (nI ot) 0 (σ 18 0 - 1) && ckR (nI ar) 0 4 && (grM σ (lnN (nI sh) (nI ar)) && grM σ (lnN (nI ot) (nI ar))), ckR (nI sh) 0 (σ 18 0 - 1) && ckR (nI ot) 0 (σ 18 0 - 1) && ckR (nI ar) 0 4 && (grM σ (lnN (nI sh) (nI ar)) && grM σ (lnN (nI ot) (nI ar))) && ctM σ nm ns (ixN (nI sh)) (ixN (nI ot)) (ixN (nI ar))) = (true, true, false) by simp [lnN, ixN_nI h31sh, ixN_nI h31ot, ixN_nI h31ar, hE, hC, bc77_10]]; rw [vM_f bc88_12])⟩, (by have e9 : sM (ckR (nI sh) 0 (σ 18 0 - 1) && ckR (nI ot) 0 (σ 18 0 - 1) && ckR (nI ar) 0 4, ckR (nI sh) 0 (σ 18 0 - 1) && ckR (nI ot) 0 (σ 18 0 - 1) && ckR (nI ar) 0 4 && (grM σ (lnN (nI sh) (nI ar)) && grM σ (lnN (nI ot) (nI ar))), ckR (nI sh) 0 (σ 18 0 - 1) && ckR (nI ot) 0 (σ 18 0 - 1) && ckR (nI ar) 0 4 && (grM σ (lnN (nI sh) (nI ar)) && grM σ (lnN (nI ot) (nI ar))) && ctM σ nm ns (ixN (nI sh)) (ixN (nI ot)) (ixN (nI ar))) σ (fun μ => sgM (sgM μ (lnN (nI sh) (nI ar)) (gpM μ nm ns (ixN (nI sh)) (ixN (nI ar)))) (lnN (nI ot) (nI ar)) (-(gpM μ nm ns (ixN (nI sh)) (ixN (nI ar))))) = su σ 23 0 (goV (true, true, false)) := (by rw [show (ckR (nI sh) 0 (σ 18 0 - 1) && ckR (nI ot) 0 (σ 18 0 - 1) && ckR (nI ar) 0 4, ckR (nI sh) 0 (σ 18 0 - 1) && ckR (nI ot) 0 (σ 18 0 - 1) && ckR (nI ar) 0 4 && (grM σ (lnN (nI sh) (nI ar)) && grM σ (lnN (nI ot) (nI ar))), ckR (nI sh) 0 (σ 18 0 - 1) && ckR (nI ot) 0 (σ 18 0 - 1) && ckR (nI ar) 0 4 && (grM σ (lnN (nI sh) (nI ar)) && grM σ (lnN (nI ot) (nI ar))) && ctM σ nm ns (ixN (nI sh)) (ixN (nI ot)) (ixN (nI ar))) = (true, true, false) by simp [lnN, ixN_nI h31sh, ixN_nI h31ot, ixN_nI h31ar, hE, hC, bc77_10]]; rw [sM_f bc88_12]); show va_P G.1 vwCl (wM G ad (sM (ckR (nI sh) 0 (σ 18 0 - 1) && ckR (nI ot) 0 (σ 18 0 - 1) && ckR (nI ar) 0 4, ckR (nI sh) 0 (σ 18 0 - 1) && ckR (nI ot) 0 (σ 18 0 - 1) && ckR (nI ar) 0 4 && (grM σ (lnN (nI sh) (nI ar)) && grM σ (lnN (nI ot) (nI ar))), ckR (nI sh) 0 (σ 18 0 - 1) && ckR (nI ot) 0 (σ 18 0 - 1) && ckR (nI ar) 0 4 && (grM σ (lnN (nI sh) (nI ar)) && grM σ (lnN (nI ot) (nI ar))) && ctM σ nm ns (ixN (nI sh)) (ixN (nI ot)) (ixN (nI ar))) σ (fun μ => sgM (sgM μ (lnN (nI sh) (nI ar)) (gpM μ nm ns (ixN (nI sh)) (ixN (nI ar)))) (lnN (nI ot) (nI ar)) (-(gpM μ nm ns (ixN (nI sh)) (ixN (nI ar))))))) t.heap; rw [e9, ht]; exact hX11.1), hS11.F ht⟩) hS11.2.2 dX4_settle_92
            · have bc77_10 := bI_n c77_10
              refine lv_iconst (v := 1) hx hb dX4_settle_80 (by decide) ?_
              refine lv_goto (tgt := 85) hx hb dX4_settle_81 (by decide) ?_
              refine q_w (r_V S ⟨m_650, m_652, m_22, m_40, m_653⟩ ⟨rfl, by decide, by decide, by decide +kernel⟩ (c4_goes l G ad σ true true true A hD) ⟨rfl, rfl, Nat.le_of_ble_eq_true rfl, Nat.le_of_ble_eq_true rfl⟩ (pv_M hX bl_PM (bM hX)) (n := 3) (As := [.int (bI true), .int (bI true), .int (bI true)]) (rest := []) rfl hl.1 rfl (Nat.le_of_ble_eq_true rfl) ⟨Nat.le_of_ble_eq_true rfl, Nat.le_of_ble_eq_true rfl⟩ dX4_settle_85) hS0 (fun _ h => h) (fun r13 H13 L13 (e13 : r13 = bI (go3 (true, true, true))) h13 _ _ hS13 => ?_)
              subst e13
              have hX13 : PM G ad (su σ 23 0 (goV (true, true, true))) s H13 := ⟨h13, hX.2⟩
              refine lv_if_ne (tgt := 93) hx hb dX4_settle_88 (by decide) (fun c88_14 => ?_) (fun c88_14 => ?_)
              · have bc88_14 := bI_n c88_14
                have hX15 : PM G ad (su σ 23 0 0) s H13 := by
                  have h8 := hX13
                  rw [goV_0 bc88_14] at h8
                  exact h8
                obtain ⟨q1, q2, q3⟩ := go3_t bc88_14
                refine lv_aload_n hx hb dX4_settle_93 rfl (lv_at hl 2 rfl) ?_
                refine lv_iload_n hx hb dX4_settle_94 rfl (lv_at hl 3 rfl) ?_
                refine lv_iload_n hx hb dX4_settle_95 rfl (lv_at hl 5 rfl) ?_
                refine q_i (r_V S ⟨m_710, m_712, m_28, m_40, m_713⟩ ⟨rfl, by decide, by decide, by decide +kernel⟩ (c4_gapOf l G ad (su σ 23 0 0) nm ns sh ar (by first | exact hns | (rw [← hns]; rfl)) hns4 (by first | exact hnm | (rw [← hnm]; rfl)) hnm2 (by omega) (by omega)) ⟨rfl, rfl, Nat.le_of_ble_eq_true rfl, Nat.le_of_ble_eq_true rfl⟩ (pv_M hX15 bl_PM (bM hX15)) (n := 2) (As := [.int (nI sh), .int (nI ar)]) (rest := []) rfl hl.1 rfl (Nat.le_of_ble_eq_true rfl) ⟨Nat.le_of_ble_eq_true rfl, Nat.le_of_ble_eq_true rfl⟩ dX4_settle_96) (fun r16 (e16 : r16 = gpM (su σ 23 0 0) nm ns sh ar) => ?_)
                subst e16
                refine lv_istore (lv' := [(6, .int (gpM (su σ 23 0 0) nm ns sh ar)), (5, .int 1), (4, .int 1), (0, .ref (ad 0)), (1, .int (nI sh)), (2, .int (nI ot)), (3, .int (nI ar))]) hx hb dX4_settle_99 hl (by decide) rfl (fun ls hl => ?_)
                refine lv_aload_n hx hb dX4_settle_101 rfl (lv_at hl 3 rfl) ?_
                refine lv_iload_n hx hb dX4_settle_102 rfl (lv_at hl 4 rfl) ?_
                refine lv_iload_n hx hb dX4_settle_103 rfl (lv_at hl 6 rfl) ?_
                refine lv_iload hx hb dX4_settle_104 (lv_at hl 0 rfl) ?_
                refine q_wv (r_V S ⟨m_718, m_720, m_30, m_40, m_721⟩ ⟨rfl, by decide, by decide, by decide +kernel⟩ (c4_signs l G ad (su σ 23 0 0) sh ar (gpM (su σ 23 0 0) nm ns sh ar) (by omega) (by omega) A hD) ⟨rfl, rfl, Nat.le_of_ble_eq_true rfl, Nat.le_of_ble_eq_true rfl⟩ (pv_M hX15 bl_PM (bM hX15)) (n := 3) (As := [.int (nI sh), .int (nI ar), .int (gpM (su σ 23 0 0) nm ns sh ar)]) (rest := []) rfl hl.1 rfl (Nat.le_of_ble_eq_true rfl) ⟨Nat.le_of_ble_eq_true rfl, Nat.le_of_ble_eq_true rfl⟩ dX4_settle_106) hS13 (fun _ h => h) (fun H17 L17 _ h17 _ _ hS17 => ?_)
                have hX17 : PM G ad (sgM (su σ 23 0 0) (sh * 5 + ar) (gpM (su σ 23 0 0) nm ns sh ar)) s H17 := ⟨h17, hX15.2⟩
                refine lv_aload_n hx hb dX4_settle_109 rfl (lv_at hl 3 rfl) ?_
                refine lv_iload_n hx hb dX4_settle_110 rfl (lv_at hl 5 rfl) ?_
                refine lv_iload_n hx hb dX4_settle_111 rfl (lv_at hl 6 rfl) ?_
                refine lv_iload hx hb dX4_settle_112 (lv_at hl 0 rfl) ?_
                refine lv_ineg hx hb dX4_settle_114 ?_
                refine q_wv (r_V S ⟨m_718, m_720, m_30, m_40, m_721⟩ ⟨rfl, by decide, by decide, by decide +kernel⟩ (c4_signs l G ad (sgM (su σ 23 0 0) (sh * 5 + ar) (gpM (su σ 23 0 0) nm ns sh ar)) ot ar (-(gpM (su σ 23 0 0) nm ns sh ar)) (by omega) (by omega) A hD) ⟨rfl, rfl, Nat.le_of_ble_eq_true rfl, Nat.le_of_ble_eq_true rfl⟩ (pv_M hX17 bl_PM (bM hX17)) (n := 3) (As := [.int (nI ot), .int (nI ar), .int (-(gpM (su σ 23 0 0) nm ns sh ar))]) (rest := []) rfl hl.1 rfl (Nat.le_of_ble_eq_true rfl) ⟨Nat.le_of_ble_eq_true rfl, Nat.le_of_ble_eq_true rfl⟩ dX4_settle_115) hS17 (fun _ h => h) (fun H18 L18 _ h18 _ _ hS18 => ?_)
                have hX18 : PM G ad (sgM (sgM (su σ 23 0 0) (sh * 5 + ar) (gpM (su σ 23 0 0) nm ns sh ar)) (ot * 5 + ar) (-(gpM (su σ 23 0 0) nm ns sh ar))) s H18 := ⟨h18, hX17.2⟩
                refine lv_iload hx hb dX4_settle_118 (lv_at hl 0 rfl) ?_
                refine lv_if_le (tgt := 128) hx hb dX4_settle_120 (by decide) (fun c120_19 => ?_) (fun c120_19 => ?_)
                · have bc120_19 := le_nlt c120_19
                  refine lv_iload hx hb dX4_settle_128 (lv_at hl 0 rfl) ?_
                  refine lv_ineg hx hb dX4_settle_130 ?_
                  exact W.iret (v := -(gpM (su σ 23 0 0) nm ns sh ar)) hx hb hr (fun t ht hW => ⟨⟨_, rfl, (by rw [show (ckR (nI sh) 0 (σ 18 0 - 1) && ckR (nI ot) 0 (σ 18 0 - 1) && ckR (nI ar) 0 4, ckR (nI sh) 0 (σ 18 0 - 1) && ckR (nI ot) 0 (σ 18 0 - 1) && ckR (nI ar) 0 4 && (grM σ (lnN (nI sh) (nI ar)) && grM σ (lnN (nI ot) (nI ar))), ckR (nI sh) 0 (σ 18 0 - 1) && ckR (nI ot) 0 (σ 18 0 - 1) && ckR (nI ar) 0 4 && (grM σ (lnN (nI sh) (nI ar)) && grM σ (lnN (nI ot) (nI ar))) && ctM σ nm ns (ixN (nI sh)) (ixN (nI ot)) (ixN (nI ar))) = (true, true, true) by simp [lnN, ixN_nI h31sh, ixN_nI h31ot, ixN_nI h31ar, hE, hC, bc77_10, c120_19, bc120_19]]; rw [vM_t bc88_14]; try (first | rfl | simp [lnN, ixN_nI h31sh, ixN_nI h31ot, ixN_nI h31ar, hE, hC, bc77_10, c120_19, bc120_19]))⟩, (by have e9 : sM (ckR (nI sh) 0 (σ 18 0 - 1) && ckR (nI ot) 0 (σ 18 0 - 1) && ckR (nI ar) 0 4, ckR (nI sh) 0 (σ 18 0 - 1) && ckR (nI ot) 0 (σ 18 0 - 1) && ckR (nI ar) 0 4 && (grM σ (lnN (nI sh) (nI ar)) && grM σ (lnN (nI ot) (nI ar))), ckR (nI sh) 0 (σ 18 0 - 1) && ckR (nI ot) 0 (σ 18 0 - 1) && ckR (nI ar) 0 4 && (grM σ (lnN (nI sh) (nI ar)) && grM σ (lnN (nI ot) (nI ar))) && ctM σ nm ns (ixN (nI sh)) (ixN (nI ot)) (ixN (nI ar))) σ (fun μ => sgM (sgM μ (lnN (nI sh) (nI ar)) (gpM μ nm ns (ixN (nI sh)) (ixN (nI ar)))) (lnN (nI ot) (nI ar)) (-(gpM μ nm ns (ixN (nI sh)) (ixN (nI ar))))) = sgM (sgM (su σ 23 0 0) (sh * 5 + ar) (gpM (su σ 23 0 0) nm ns sh ar)) (ot * 5 + ar) (-(gpM (su σ 23 0 0) nm ns sh ar)) := (by rw [show (ckR (nI sh) 0 (σ 18 0 - 1) && ckR (nI ot) 0 (σ 18 0 - 1) && ckR (nI ar) 0 4, ckR (nI sh) 0 (σ 18 0 - 1) && ckR (nI ot) 0 (σ 18 0 - 1) && ckR (nI ar) 0 4 && (grM σ (lnN (nI sh) (nI ar)) && grM σ (lnN (nI ot) (nI ar))), ckR (nI sh) 0 (σ 18 0 - 1) && ckR (nI ot) 0 (σ 18 0 - 1) && ckR (nI ar) 0 4 && (grM σ (lnN (nI sh) (nI ar)) && grM σ (lnN (nI ot) (nI ar))) && ctM σ nm ns (ixN (nI sh)) (ixN (nI ot)) (ixN (nI ar))) = (true, true, true) by simp [lnN, ixN_nI h31sh, ixN_nI h31ot, ixN_nI h31ar, hE, hC, bc77_10, c120_19, bc120_19]]; rw [sM_t bc88_14]; try (first | rfl | simp [lnN, ixN_nI h31sh, ixN_nI h31ot, ixN_nI h31ar, hE, hC, bc77_10, c120_19, bc120_19])); show va_P G.1 vwCl (wM G ad (sM (ckR (nI sh) 0 (σ 18 0 - 1) && ckR (nI ot) 0 (σ 18 0 - 1) && ckR (nI ar) 0 4, ckR (nI sh) 0 (σ 18 0 - 1) && ckR (nI ot) 0 (σ 18 0 - 1) && ckR (nI ar) 0 4 && (grM σ (lnN (nI sh) (nI ar)) && grM σ (lnN (nI ot) (nI ar))), ckR (nI sh) 0 (σ 18 0 - 1) && ckR (nI ot) 0 (σ 18 0 - 1) && ckR (nI ar) 0 4 && (grM σ (lnN (nI sh) (nI ar)) && grM σ (lnN (nI ot) (nI ar))) && ctM σ nm ns (ixN (nI sh)) (ixN (nI ot)) (ixN (nI ar))) σ (fun μ => sgM (sgM μ (lnN (nI sh) (nI ar)) (gpM μ nm ns (ixN (nI sh)) (ixN (nI ar)))) (lnN (nI ot) (nI ar)) (-(gpM μ nm ns (ixN (nI sh)) (ixN (nI ar))))))) t.heap; rw [e9, ht]; exact hX18.1), hS18.F ht⟩) hS18.2.2 dX4_settle_131
                · have bc120_19 := nle_lt c120_19
                  refine lv_iload hx hb dX4_settle_123 (lv_at hl 0 rfl) ?_
                  refine lv_goto (tgt := 131) hx hb dX4_settle_125 (by decide) ?_
                  exact W.iret (v := gpM (su σ 23 0 0) nm ns sh ar) hx hb hr (fun t ht hW => ⟨⟨_, rfl, (by rw [show (ckR (nI sh) 0 (σ 18 0 - 1) && ckR (nI ot) 0 (σ 18 0 - 1) && ckR (nI ar) 0 4, ckR (nI sh) 0 (σ 18 0 - 1) && ckR (nI ot) 0 (σ 18 0 - 1) && ckR (nI ar) 0 4 && (grM σ (lnN (nI sh) (nI ar)) && grM σ (lnN (nI ot) (nI ar))), ckR (nI sh) 0 (σ 18 0 - 1) && ckR (nI ot) 0 (σ 18 0 - 1) && ckR (nI ar) 0 4 && (grM σ (lnN (nI sh) (nI ar)) && grM σ (lnN (nI ot) (nI ar))) && ctM σ nm ns (ixN (nI sh)) (ixN (nI ot)) (ixN (nI ar))) = (true, true, true) by simp [lnN, ixN_nI h31sh, ixN_nI h31ot, ixN_nI h31ar, hE, hC, bc77_10, c120_19, bc120_19]]; rw [vM_t bc88_14]; try (first | rfl | simp [lnN, ixN_nI h31sh, ixN_nI h31ot, ixN_nI h31ar, hE, hC, bc77_10, c120_19, bc120_19]))⟩, (by have e9 : sM (ckR (nI sh) 0 (σ 18 0 - 1) && ckR (nI ot) 0 (σ 18 0 - 1) && ckR (nI ar) 0 4, ckR (nI sh) 0 (σ 18 0 - 1) && ckR (nI ot) 0 (σ 18 0 - 1) && ckR (nI ar) 0 4 && (grM σ (lnN (nI sh) (nI ar)) && grM σ (lnN (nI ot) (nI ar))), ckR (nI sh) 0 (σ 18 0 - 1) && ckR (nI ot) 0 (σ 18 0 - 1) && ckR (nI ar) 0 4 && (grM σ (lnN (nI sh) (nI ar)) && grM σ (lnN (nI ot) (nI ar))) && ctM σ nm ns (ixN (nI sh)) (ixN (nI ot)) (ixN (nI ar))) σ (fun μ => sgM (sgM μ (lnN (nI sh) (nI ar)) (gpM μ nm ns (ixN (nI sh)) (ixN (nI ar)))) (lnN (nI ot) (nI ar)) (-(gpM μ nm ns (ixN (nI sh)) (ixN (nI ar))))) = sgM (sgM (su σ 23 0 0) (sh * 5 + ar) (gpM (su σ 23 0 0) nm ns sh ar)) (ot * 5 + ar) (-(gpM (su σ 23 0 0) nm ns sh ar)) := (by rw [show (ckR (nI sh) 0 (σ 18 0 - 1) && ckR (nI ot) 0 (σ 18 0 - 1) && ckR (nI ar) 0 4, ckR (nI sh) 0 (σ 18 0 - 1) && ckR (nI ot) 0 (σ 18 0 - 1) && ckR (nI ar) 0 4 && (grM σ (lnN (nI sh) (nI ar)) && grM σ (lnN (nI ot) (nI ar))), ckR (nI sh) 0 (σ 18 0 - 1) && ckR (nI ot) 0 (σ 18 0 - 1) && ckR (nI ar) 0 4 && (grM σ (lnN (nI sh) (nI ar)) && grM σ (lnN (nI ot) (nI ar))) && ctM σ nm ns (ixN (nI sh)) (ixN (nI ot)) (ixN (nI ar))) = (true, true, true) by simp [lnN, ixN_nI h31sh, ixN_nI h31ot, ixN_nI h31ar, hE, hC, bc77_10, c120_19, bc120_19]]; rw [sM_t bc88_14]; try (first | rfl | simp [lnN, ixN_nI h31sh, ixN_nI h31ot, ixN_nI h31ar, hE, hC, bc77_10, c120_19, bc120_19])); show va_P G.1 vwCl (wM G ad (sM (ckR (nI sh) 0 (σ 18 0 - 1) && ckR (nI ot) 0 (σ 18 0 - 1) && ckR (nI ar) 0 4, ckR (nI sh) 0 (σ 18 0 - 1) && ckR (nI ot) 0 (σ 18 0 - 1) && ckR (nI ar) 0 4 && (grM σ (lnN (nI sh) (nI ar)) && grM σ (lnN (nI ot) (nI ar))), ckR (nI sh) 0 (σ 18 0 - 1) && ckR (nI ot) 0 (σ 18 0 - 1) && ckR (nI ar) 0 4 && (grM σ (lnN (nI sh) (nI ar)) && grM σ (lnN (nI ot) (nI ar))) && ctM σ nm ns (ixN (nI sh)) (ixN (nI ot)) (ixN (nI ar))) σ (fun μ => sgM (sgM μ (lnN (nI sh) (nI ar)) (gpM μ nm ns (ixN (nI sh)) (ixN (nI ar)))) (lnN (nI ot) (nI ar)) (-(gpM μ nm ns (ixN (nI sh)) (ixN (nI ar))))))) t.heap; rw [e9, ht]; exact hX18.1), hS18.F ht⟩) hS18.2.2 dX4_settle_131
              · have bc88_14 := bI_0 c88_14
                refine lv_iconst (v := 0) hx hb dX4_settle_91 (by decide) ?_
                exact W.iret (v := 0) hx hb hr (fun t ht hW => ⟨⟨_, rfl, (by rw [show (ckR (nI sh) 0 (σ 18 0 - 1) && ckR (nI ot) 0 (σ 18 0 - 1) && ckR (nI ar) 0 4, ckR (nI sh) 0 (σ 18 0 - 1) && ckR (nI ot) 0 (σ 18 0 - 1) && ckR (nI ar) 0 4 && (grM σ (lnN (nI sh) (nI ar)) && grM σ (lnN (nI ot) (nI ar))), ckR (nI sh) 0 (σ 18 0 - 1) && ckR (nI ot) 0 (σ 18 0 - 1) && ckR (nI ar) 0 4 && (grM σ (lnN (nI sh) (nI ar)) && grM σ (lnN (nI ot) (nI ar))) && ctM σ nm ns (ixN (nI sh)) (ixN (nI ot)) (ixN (nI ar))) = (true, true, true) by simp [lnN, ixN_nI h31sh, ixN_nI h31ot, ixN_nI h31ar, hE, hC, bc77_10]]; rw [vM_f bc88_14])⟩, (by have e9 : sM (ckR (nI sh) 0 (σ 18 0 - 1) && ckR (nI ot) 0 (σ 18 0 - 1) && ckR (nI ar) 0 4, ckR (nI sh) 0 (σ 18 0 - 1) && ckR (nI ot) 0 (σ 18 0 - 1) && ckR (nI ar) 0 4 && (grM σ (lnN (nI sh) (nI ar)) && grM σ (lnN (nI ot) (nI ar))), ckR (nI sh) 0 (σ 18 0 - 1) && ckR (nI ot) 0 (σ 18 0 - 1) && ckR (nI ar) 0 4 && (grM σ (lnN (nI sh) (nI ar)) && grM σ (lnN (nI ot) (nI ar))) && ctM σ nm ns (ixN (nI sh)) (ixN (nI ot)) (ixN (nI ar))) σ (fun μ => sgM (sgM μ (lnN (nI sh) (nI ar)) (gpM μ nm ns (ixN (nI sh)) (ixN (nI ar)))) (lnN (nI ot) (nI ar)) (-(gpM μ nm ns (ixN (nI sh)) (ixN (nI ar))))) = su σ 23 0 (goV (true, true, true)) := (by rw [show (ckR (nI sh) 0 (σ 18 0 - 1) && ckR (nI ot) 0 (σ 18 0 - 1) && ckR (nI ar) 0 4, ckR (nI sh) 0 (σ 18 0 - 1) && ckR (nI ot) 0 (σ 18 0 - 1) && ckR (nI ar) 0 4 && (grM σ (lnN (nI sh) (nI ar)) && grM σ (lnN (nI ot) (nI ar))), ckR (nI sh) 0 (σ 18 0 - 1) && ckR (nI ot) 0 (σ 18 0 - 1) && ckR (nI ar) 0 4 && (grM σ (lnN (nI sh) (nI ar)) && grM σ (lnN (nI ot) (nI ar))) && ctM σ nm ns (ixN (nI sh)) (ixN (nI ot)) (ixN (nI ar))) = (true, true, true) by simp [lnN, ixN_nI h31sh, ixN_nI h31ot, ixN_nI h31ar, hE, hC, bc77_10]]; rw [sM_f bc88_14]); show va_P G.1 vwCl (wM G ad (sM (ckR (nI sh) 0 (σ 18 0 - 1) && ckR (nI ot) 0 (σ 18 0 - 1) && ckR (nI ar) 0 4, ckR (nI sh) 0 (σ 18 0 - 1) && ckR (nI ot) 0 (σ 18 0 - 1) && ckR (nI ar) 0 4 && (grM σ (lnN (nI sh) (nI ar)) && grM σ (lnN (nI ot) (nI ar))), ckR (nI sh) 0 (σ 18 0 - 1) && ckR (nI ot) 0 (σ 18 0 - 1) && ckR (nI ar) 0 4 && (grM σ (lnN (nI sh) (nI ar)) && grM σ (lnN (nI ot) (nI ar))) && ctM σ nm ns (ixN (nI sh)) (ixN (nI ot)) (ixN (nI ar))) σ (fun μ => sgM (sgM μ (lnN (nI sh) (nI ar)) (gpM μ nm ns (ixN (nI sh)) (ixN (nI ar)))) (lnN (nI ot) (nI ar)) (-(gpM μ nm ns (ixN (nI sh)) (ixN (nI ar))))))) t.heap; rw [e9, ht]; exact hX13.1), hS13.F ht⟩) hS13.2.2 dX4_settle_92
      refine lv_iload hx hb dX4_settle_30 (lv_at hl 0 rfl) ?_
      refine lv_if_eq (tgt := 57) hx hb dX4_settle_32 (by decide) (fun c32_20 => ?_) (fun c32_20 => ?_)
      · exact absurd c32_20 (by decide)
      · have bc32_20 := c32_20
        refine lv_aload_n hx hb dX4_settle_35 rfl (lv_at hl 1 rfl) ?_
        refine lv_iload_n hx hb dX4_settle_36 rfl (lv_at hl 2 rfl) ?_
        refine lv_iload_n hx hb dX4_settle_37 rfl (lv_at hl 4 rfl) ?_
        refine q_i (r_V S ⟨m_706, m_708, m_27, m_40, m_709⟩ ⟨rfl, by decide, by decide, by decide +kernel⟩ (c4_agrees l G ad σ sh ar (by omega) (by omega)) ⟨rfl, rfl, Nat.le_of_ble_eq_true rfl, Nat.le_of_ble_eq_true rfl⟩ (pv_M hX bl_PM (bM hX)) (n := 2) (As := [.int (nI sh), .int (nI ar)]) (rest := []) rfl hl.1 rfl (Nat.le_of_ble_eq_true rfl) ⟨Nat.le_of_ble_eq_true rfl, Nat.le_of_ble_eq_true rfl⟩ dX4_settle_38) (fun r21 (e21 : r21 = bI (grM σ (sh * 5 + ar))) => ?_)
        subst e21
        refine lv_if_eq (tgt := 57) hx hb dX4_settle_41 (by decide) (fun c41_22 => ?_) (fun c41_22 => ?_)
        · have bc41_22 := bI_0 c41_22
          refine lv_iconst (v := 0) hx hb dX4_settle_57 (by decide) ?_
          refine k_eq (y := bI (grM σ (sh * 5 + ar) && grM σ (ot * 5 + ar))) (by simp [bI, hE, bc41_22]) ?_
          exact J58 ls (lv_sub hl [0, 1, 2, 3, 4] rfl)
        · have bc41_22 := bI_n c41_22
          refine lv_aload_n hx hb dX4_settle_44 rfl (lv_at hl 1 rfl) ?_
          refine lv_iload_n hx hb dX4_settle_45 rfl (lv_at hl 3 rfl) ?_
          refine lv_iload_n hx hb dX4_settle_46 rfl (lv_at hl 4 rfl) ?_
          refine q_i (r_V S ⟨m_706, m_708, m_27, m_40, m_709⟩ ⟨rfl, by decide, by decide, by decide +kernel⟩ (c4_agrees l G ad σ ot ar (by omega) (by omega)) ⟨rfl, rfl, Nat.le_of_ble_eq_true rfl, Nat.le_of_ble_eq_true rfl⟩ (pv_M hX bl_PM (bM hX)) (n := 2) (As := [.int (nI ot), .int (nI ar)]) (rest := []) rfl hl.1 rfl (Nat.le_of_ble_eq_true rfl) ⟨Nat.le_of_ble_eq_true rfl, Nat.le_of_ble_eq_true rfl⟩ dX4_settle_47) (fun r23 (e23 : r23 = bI (grM σ (ot * 5 + ar))) => ?_)
          subst e23
          refine lv_if_eq (tgt := 57) hx hb dX4_settle_50 (by decide) (fun c50_24 => ?_) (fun c50_24 => ?_)
          · have bc50_24 := bI_0 c50_24
            refine lv_iconst (v := 0) hx hb dX4_settle_57 (by decide) ?_
            refine k_eq (y := bI (grM σ (sh * 5 + ar) && grM σ (ot * 5 + ar))) (by simp [bI, hE, bc41_22, bc50_24]) ?_
            exact J58 ls (lv_sub hl [0, 1, 2, 3, 4] rfl)
          · have bc50_24 := bI_n c50_24
            refine lv_iconst (v := 1) hx hb dX4_settle_53 (by decide) ?_
            refine lv_goto (tgt := 58) hx hb dX4_settle_54 (by decide) ?_
            refine k_eq (y := bI (grM σ (sh * 5 + ar) && grM σ (ot * 5 + ar))) (by simp [bI, hE, bc41_22, bc50_24]) ?_
            exact J58 ls (lv_sub hl [0, 1, 2, 3, 4] rfl)
  refine lv_aload_n hx hb dX4_settle_0 rfl (lv_at hl 0 rfl) ?_
  refine lv_iload_n hx hb dX4_settle_1 rfl (lv_at hl 1 rfl) ?_
  refine q_i (r_V S ⟨m_682, m_684, m_24, m_40, m_685⟩ ⟨rfl, by decide, by decide, by decide +kernel⟩ (c4_isSheet l G ad σ za0) ⟨rfl, rfl, Nat.le_of_ble_eq_true rfl, Nat.le_of_ble_eq_true rfl⟩ (pv_M hX bl_PM (bM hX)) (n := 1) (As := [.int za0]) (rest := []) rfl hl.1 rfl (Nat.le_of_ble_eq_true rfl) ⟨Nat.le_of_ble_eq_true rfl, Nat.le_of_ble_eq_true rfl⟩ dX4_settle_2) (fun r25 (e25 : r25 = bI (ckR za0 0 (σ 18 0 - 1))) => ?_)
  subst e25
  refine lv_if_eq (tgt := 27) hx hb dX4_settle_5 (by decide) (fun c5_26 => ?_) (fun c5_26 => ?_)
  · have bc5_26 := bI_0 c5_26
    refine lv_iconst (v := 0) hx hb dX4_settle_27 (by decide) ?_
    refine k_eq (y := bI (ckR za0 0 (σ 18 0 - 1) && ckR zb0 0 (σ 18 0 - 1) && ckR zc0 0 4)) (by simp [bI, bc5_26]) ?_
    exact J28 ls (lv_sub hl [0, 1, 2, 3] rfl)
  · have bc5_26 := bI_n c5_26
    refine lv_aload_n hx hb dX4_settle_8 rfl (lv_at hl 0 rfl) ?_
    refine lv_iload_n hx hb dX4_settle_9 rfl (lv_at hl 2 rfl) ?_
    refine q_i (r_V S ⟨m_682, m_684, m_24, m_40, m_685⟩ ⟨rfl, by decide, by decide, by decide +kernel⟩ (c4_isSheet l G ad σ zb0) ⟨rfl, rfl, Nat.le_of_ble_eq_true rfl, Nat.le_of_ble_eq_true rfl⟩ (pv_M hX bl_PM (bM hX)) (n := 1) (As := [.int zb0]) (rest := []) rfl hl.1 rfl (Nat.le_of_ble_eq_true rfl) ⟨Nat.le_of_ble_eq_true rfl, Nat.le_of_ble_eq_true rfl⟩ dX4_settle_10) (fun r27 (e27 : r27 = bI (ckR zb0 0 (σ 18 0 - 1))) => ?_)
    subst e27
    refine lv_if_eq (tgt := 27) hx hb dX4_settle_13 (by decide) (fun c13_28 => ?_) (fun c13_28 => ?_)
    · have bc13_28 := bI_0 c13_28
      refine lv_iconst (v := 0) hx hb dX4_settle_27 (by decide) ?_
      refine k_eq (y := bI (ckR za0 0 (σ 18 0 - 1) && ckR zb0 0 (σ 18 0 - 1) && ckR zc0 0 4)) (by simp [bI, bc5_26, bc13_28]) ?_
      exact J28 ls (lv_sub hl [0, 1, 2, 3] rfl)
    · have bc13_28 := bI_n c13_28
      refine lv_iload_n hx hb dX4_settle_16 rfl (lv_at hl 3 rfl) ?_
      refine q_i (r_S S ⟨m_644, m_645, m_40, m_646⟩ ⟨rfl, by decide, by decide, by decide +kernel⟩ (c4_isArticle l zc0) ⟨rfl, rfl, Nat.le_of_ble_eq_true rfl, Nat.le_of_ble_eq_true rfl⟩ (ps bl_GL (bG hX.2.2)) (n := 1) (As := [.int zc0]) (rest := []) rfl hl.1 rfl (Nat.le_of_ble_eq_true rfl) ⟨Nat.le_of_ble_eq_true rfl, Nat.le_of_ble_eq_true rfl⟩ dX4_settle_17) (fun r29 (e29 : r29 = bI (ckR zc0 0 4)) => ?_)
      subst e29
      refine lv_if_eq (tgt := 27) hx hb dX4_settle_20 (by decide) (fun c20_30 => ?_) (fun c20_30 => ?_)
      · have bc20_30 := bI_0 c20_30
        refine lv_iconst (v := 0) hx hb dX4_settle_27 (by decide) ?_
        refine k_eq (y := bI (ckR za0 0 (σ 18 0 - 1) && ckR zb0 0 (σ 18 0 - 1) && ckR zc0 0 4)) (by simp [bI, bc5_26, bc13_28, bc20_30]) ?_
        exact J28 ls (lv_sub hl [0, 1, 2, 3] rfl)
      · have bc20_30 := bI_n c20_30
        refine lv_iconst (v := 1) hx hb dX4_settle_23 (by decide) ?_
        refine lv_goto (tgt := 28) hx hb dX4_settle_24 (by decide) ?_
        refine k_eq (y := bI (ckR za0 0 (σ 18 0 - 1) && ckR zb0 0 (σ 18 0 - 1) && ckR zc0 0 4)) (by simp [bI, bc5_26, bc13_28, bc20_30]) ?_
        exact J28 ls (lv_sub hl [0, 1, 2, 3] rfl)
