set_option maxHeartbeats 4000000 in
set_option maxRecDepth 100000 in
theorem kL_moves (l : Launch) (G : kG) (o t a : Nat → Nat) (σ α : kS) (nm ns n N S9 : Nat) (x y : Int32) (hst : l.stackTraces = false) (hJ : JQ o t a) (hI : Inv σ α nm ns n N S9) (hn : n ≤ 110) : Met l yL_moves [.code yL_moves cL_moves 18 (some .boolean)] ({ frames := 10, cells := 50, slots := 300, locals := 195 }) (va_Pc [.ref (o 0), .ref (t 0), .ref (a 4), .int x, .int y] (PQ G o t a σ σ α)) (oW (AQ o t a) (fun r => r = 1) (fun H9 => WI G o t a (n + 1) H9)) 50 300 (AQ o t a) := by
  refine k_of (by decide) (Nat.le_of_ble_eq_true rfl) (fun U h => h.2.1.2) ?_
  intro p e s m below meth c ls S hr hlocks hmn hB hl
  have hx := S.1
  have hb := S.2.1
  obtain ⟨hW, hK, hZ0⟩ := hB
  have hS : va_S (AQ o t a) s.heap s.heap [] := va_S.rf
  have hC := hI.1
  have hA := hI.2
  have hns := hC.hns
  have hns4 : ns ≤ 40 := by have := hC.ns12; omega
  have hnm := hC.hnm
  have hnm2 : nm ≤ 200 := by have := hC.nmn; omega
  have hN31 : N < 2 ^ 31 := by have := hC.Nn; omega
  have hns12 := hC.ns12
  have hN4 := hC.Nn
  have hnmn := hC.nmn
  have hl : lv_has ls 18 [(0, .ref (o 0)), (1, .ref (t 0)), (2, .ref (a 4)), (3, .int x), (4, .int y)] := hl
  refine lv_iload hx hb dL_moves_0 (lv_at hl 4 rfl) ?_
  refine lv_bipush (v := 13) hx hb dL_moves_2 (by decide) ?_
  refine q_i (r_S S ⟨m_487, m_488, m_22, m_489⟩ ⟨rfl, by decide, by decide, by decide +kernel⟩ (kL_low l y 13 (by first | decide | omega) (by first | decide | omega)) ⟨rfl, rfl, Nat.le_of_ble_eq_true rfl, Nat.le_of_ble_eq_true rfl⟩ (ps bl_GL (bG hK.2)) (n := 2) (As := [.int y, .int 13]) (rest := []) rfl hl.1 rfl (Nat.le_of_ble_eq_true rfl) ⟨Nat.le_of_ble_eq_true rfl, Nat.le_of_ble_eq_true rfl⟩ dL_moves_4) (fun rq1 ⟨jf, hjf, eq1⟩ => ?_)
  subst eq1
  refine lv_iconst (v := 1) hx hb dL_moves_7 (by decide) ?_
  refine lv_isub hx hb dL_moves_8 ?_
  obtain ⟨x1, hx1, ex1⟩ := pl_of hjf
  refine k_eq (y := x1) (ex1) ?_
  refine lv_istore (lv' := [(5, .int x1), (0, .ref (o 0)), (1, .ref (t 0)), (2, .ref (a 4)), (3, .int x), (4, .int y)]) hx hb dL_moves_9 hl (by decide) rfl (fun ls hl => ?_)
  refine lv_iload hx hb dL_moves_11 (lv_at hl 5 rfl) ?_
  refine lv_iconst (v := 4) hx hb dL_moves_13 (by decide) ?_
  refine lv_ishr hx hb dL_moves_14 ?_
  refine lv_bipush (v := 13) hx hb dL_moves_15 (by decide) ?_
  refine q_i (r_S S ⟨m_487, m_488, m_22, m_489⟩ ⟨rfl, by decide, by decide, by decide +kernel⟩ (kL_low l (y >>> (4 &&& 31)) 13 (by first | decide | omega) (by first | decide | omega)) ⟨rfl, rfl, Nat.le_of_ble_eq_true rfl, Nat.le_of_ble_eq_true rfl⟩ (ps bl_GL (bG hK.2)) (n := 2) (As := [.int (y >>> (4 &&& 31)), .int 13]) (rest := []) rfl hl.1 rfl (Nat.le_of_ble_eq_true rfl) ⟨Nat.le_of_ble_eq_true rfl, Nat.le_of_ble_eq_true rfl⟩ dL_moves_17) (fun rq2 ⟨jt, hjt, eq2⟩ => ?_)
  subst eq2
  refine lv_iconst (v := 1) hx hb dL_moves_20 (by decide) ?_
  refine lv_isub hx hb dL_moves_21 ?_
  obtain ⟨x2, hx2, ex2⟩ := pl_of hjt
  refine k_eq (y := x2) (ex2) ?_
  refine lv_istore (lv' := [(6, .int x2), (5, .int x1), (0, .ref (o 0)), (1, .ref (t 0)), (2, .ref (a 4)), (3, .int x), (4, .int y)]) hx hb dL_moves_22 hl (by decide) rfl (fun ls hl => ?_)
  refine lv_iload_n hx hb dL_moves_24 rfl (lv_at hl 5 rfl) ?_
  refine lv_iconst (v := 5) hx hb dL_moves_25 (by decide) ?_
  refine lv_ishr hx hb dL_moves_26 ?_
  refine lv_iconst (v := 5) hx hb dL_moves_27 (by decide) ?_
  refine q_i (r_S S ⟨m_487, m_488, m_22, m_489⟩ ⟨rfl, by decide, by decide, by decide +kernel⟩ (kL_low l (x >>> (5 &&& 31)) 5 (by first | decide | omega) (by first | decide | omega)) ⟨rfl, rfl, Nat.le_of_ble_eq_true rfl, Nat.le_of_ble_eq_true rfl⟩ (ps bl_GL (bG hK.2)) (n := 2) (As := [.int (x >>> (5 &&& 31)), .int 5]) (rest := []) rfl hl.1 rfl (Nat.le_of_ble_eq_true rfl) ⟨Nat.le_of_ble_eq_true rfl, Nat.le_of_ble_eq_true rfl⟩ dL_moves_28) (fun rq3 ⟨ar, har, eq3⟩ => ?_)
  subst eq3
  refine lv_istore (lv' := [(7, .int (nI ar)), (6, .int x2), (5, .int x1), (0, .ref (o 0)), (1, .ref (t 0)), (2, .ref (a 4)), (3, .int x), (4, .int y)]) hx hb dL_moves_31 hl (by decide) rfl (fun ls hl => ?_)
  have J64 : ∀ (q : Nat) (hq : 1 ≤ q ∧ q ≤ 1000) (H9 : Heap) (L9 : List Loc), WQ G o t a σ σ α H9 → va_S ((AQ o t a)) s.heap H9 L9 → ∀ ls, lv_has ls 18 [(7, .int (nI ar)), (6, .int x2), (5, .int x1), (0, .ref (o 0)), (1, .ref (t 0)), (2, .ref (a 4)), (3, .int x), (4, .int y), (8, .int (nI q))] → W p l e (({ frames := 10, cells := 50, slots := 300, locals := 195 }) : Room) s m [.ref (o 0), .ref (t 0), .ref (a 4), .int x, .int y].toArray below meth c H9 L9 (0) (0) (MQ below (oW (AQ o t a) (fun r => r = 1) (fun H9 => WI G o t a (n + 1) H9)) [.ref (o 0), .ref (t 0), .ref (a 4), .int x, .int y].toArray s 50 300 (AQ o t a)) (F0 m 64 ls []) := by
    intro q hq H9 L9 hW hS ls hl
    have J96 : ∀ (mi : Nat) (hmi : mi ≤ N) (H9 : Heap) (L9 : List Loc), WQ G o t a σ σ α H9 → va_S ((AQ o t a)) s.heap H9 L9 → ∀ ls, lv_has ls 18 [(7, .int (nI ar)), (6, .int x2), (5, .int x1), (0, .ref (o 0)), (1, .ref (t 0)), (2, .ref (a 4)), (3, .int x), (4, .int y), (8, .int (nI q)), (9, .int (nI mi))] → W p l e (({ frames := 10, cells := 50, slots := 300, locals := 195 }) : Room) s m [.ref (o 0), .ref (t 0), .ref (a 4), .int x, .int y].toArray below meth c H9 L9 (0) (0) (MQ below (oW (AQ o t a) (fun r => r = 1) (fun H9 => WI G o t a (n + 1) H9)) [.ref (o 0), .ref (t 0), .ref (a 4), .int x, .int y].toArray s 50 300 (AQ o t a)) (F0 m 96 ls []) := by
      intro mi hmi H9 L9 hW hS ls hl
      have J115 : ∀  (H9 : Heap) (L9 : List Loc), WQ G o t a σ σ α H9 → va_S ((AQ o t a)) s.heap H9 L9 → ∀ ls, lv_has ls 18 [(7, .int (nI ar)), (6, .int x2), (5, .int x1), (0, .ref (o 0)), (1, .ref (t 0)), (2, .ref (a 4)), (3, .int x), (4, .int y), (8, .int (nI q)), (9, .int (nI mi)), (10, .int (hd9 σ nm ns x1 ar))] → W p l e (({ frames := 10, cells := 50, slots := 300, locals := 195 }) : Room) s m [.ref (o 0), .ref (t 0), .ref (a 4), .int x, .int y].toArray below meth c H9 L9 (2) (12) (MQ below (oW (AQ o t a) (fun r => r = 1) (fun H9 => WI G o t a (n + 1) H9)) [.ref (o 0), .ref (t 0), .ref (a 4), .int x, .int y].toArray s 50 300 (AQ o t a)) (F0 m 115 ls []) := by
        intro  H9 L9 hW hS ls hl
        have J134 : ∀  (H9 : Heap) (L9 : List Loc), WQ G o t a σ σ α H9 → va_S ((AQ o t a)) s.heap H9 L9 → ∀ ls, lv_has ls 18 [(7, .int (nI ar)), (6, .int x2), (5, .int x1), (0, .ref (o 0)), (1, .ref (t 0)), (2, .ref (a 4)), (3, .int x), (4, .int y), (8, .int (nI q)), (9, .int (nI mi)), (10, .int (hd9 σ nm ns x1 ar)), (11, .int (hd9 σ nm ns x2 ar))] → W p l e (({ frames := 10, cells := 50, slots := 300, locals := 195 }) : Room) s m [.ref (o 0), .ref (t 0), .ref (a 4), .int x, .int y].toArray below meth c H9 L9 (4) (24) (MQ below (oW (AQ o t a) (fun r => r = 1) (fun H9 => WI G o t a (n + 1) H9)) [.ref (o 0), .ref (t 0), .ref (a 4), .int x, .int y].toArray s 50 300 (AQ o t a)) (F0 m 134 ls []) := by
          intro  H9 L9 hW hS ls hl
          refine lv_iload hx hb dL_moves_134 (lv_at hl 7 rfl) ?_
          refine lv_bipush (v := 18) hx hb dL_moves_136 (by decide) ?_
          refine lv_ishr hx hb dL_moves_138 ?_
          refine lv_bipush (v := 12) hx hb dL_moves_139 (by decide) ?_
          refine q_i (r_S S ⟨m_487, m_488, m_22, m_489⟩ ⟨rfl, by decide, by decide, by decide +kernel⟩ (kL_low l (y >>> (18 &&& 31)) 12 (by first | decide | omega) (by first | decide | omega)) ⟨rfl, rfl, Nat.le_of_ble_eq_true rfl, Nat.le_of_ble_eq_true rfl⟩ (ps bl_GL (bG hK.2)) (n := 2) (As := [.int (y >>> (18 &&& 31)), .int 12]) (rest := []) rfl hl.1 rfl (Nat.le_of_ble_eq_true rfl) ⟨Nat.le_of_ble_eq_true rfl, Nat.le_of_ble_eq_true rfl⟩ dL_moves_141) (fun rq4 ⟨ot, hot, eq4⟩ => ?_)
          subst eq4
          refine lv_istore (lv' := [(12, .int (nI ot)), (7, .int (nI ar)), (6, .int x2), (5, .int x1), (0, .ref (o 0)), (1, .ref (t 0)), (2, .ref (a 4)), (3, .int x), (4, .int y), (8, .int (nI q)), (9, .int (nI mi)), (10, .int (hd9 σ nm ns x1 ar)), (11, .int (hd9 σ nm ns x2 ar))]) hx hb dL_moves_144 hl (by decide) rfl (fun ls hl => ?_)
          refine lv_aload_n hx hb dL_moves_146 rfl (lv_at hl 4 rfl) ?_
          refine lv_iload hx hb dL_moves_147 (lv_at hl 0 rfl) ?_
          refine lv_iload hx hb dL_moves_149 (lv_at hl 1 rfl) ?_
          refine q_wx (rx_SX S ⟨m_306, m_307, m_22, m_308⟩ ⟨rfl, by decide, by decide, by decide +kernel⟩ (kL_book l G o σ nm ns (nI ot) (nI ar) hst hns hns4 hnm hnm2) ⟨rfl, rfl, Nat.le_of_ble_eq_true rfl, Nat.le_of_ble_eq_true rfl⟩ (ps bl_PXZ (bXZ (hW.xo hK) ((hZ0.at hS (fun _ h => h)).zs))) (n := 3) (As := [.ref (o 0), .int (nI ot), .int (nI ar)]) (rest := []) rfl hl.1 rfl (Nat.le_of_ble_eq_true rfl) ⟨Nat.le_of_ble_eq_true rfl, Nat.le_of_ble_eq_true rfl⟩ dL_moves_151) hS (fun _ h => h.elim) (fun rq5 Hq5 Lq5 eq5 gq5 fq5 hSq5 => ?_)
          subst eq5
          have hWq5 := hW.rd fq5
          refine k_eq (y := boV σ nm ns (nI ot) ar (σ 16 0)) (tV_book hot har) ?_
          refine lv_istore (lv' := [(13, .int (boV σ nm ns (nI ot) ar (σ 16 0))), (12, .int (nI ot)), (7, .int (nI ar)), (6, .int x2), (5, .int x1), (0, .ref (o 0)), (1, .ref (t 0)), (2, .ref (a 4)), (3, .int x), (4, .int y), (8, .int (nI q)), (9, .int (nI mi)), (10, .int (hd9 σ nm ns x1 ar)), (11, .int (hd9 σ nm ns x2 ar))]) hx hb dL_moves_154 hl (by decide) rfl (fun ls hl => ?_)
          refine lv_iload hx hb dL_moves_156 (lv_at hl 4 rfl) ?_
          refine lv_iload hx hb dL_moves_158 (lv_at hl 3 rfl) ?_
          refine lv_icmp_ne (tgt := 168) hx hb dL_moves_160 (by decide) (fun cft => ?_) (fun cft => ?_)
          · skip
            refine lv_aload_n hx hb dL_moves_168 rfl (lv_at hl 7 rfl) ?_
            refine lv_iconst (v := 1) hx hb dL_moves_169 (by decide) ?_
            refine k_ldQ S hK hWq5 4 (by decide) (i := 1) (show 1 < 3 by omega) dL_moves_170 ?_
            refine k_eq (y := nI nm) (hA.g1) ?_
            refine lv_sipush (v := 200) hx hb dL_moves_171 (by decide) ?_
            refine lv_icmp_ge (tgt := 183) hx hb dL_moves_174 (by decide) (fun c174_7 => absurd c174_7 (nI_ge (a := nm) (b := 200) (by omega) (by decide))) (fun c174_7 => ?_)
            refine lv_aload_n hx hb dL_moves_177 rfl (lv_at hl 7 rfl) ?_
            refine lv_iconst (v := 1) hx hb dL_moves_178 (by decide) ?_
            refine k_ldQ S hK hWq5 4 (by decide) (i := 1) (show 1 < 3 by omega) dL_moves_179 ?_
            refine k_eq (y := nI nm) (hA.g1) ?_
            refine lv_goto (tgt := 185) hx hb dL_moves_180 (by decide) ?_
            refine lv_istore (lv' := [(14, .int (nI nm)), (13, .int (boV σ nm ns (nI ot) ar (σ 16 0))), (12, .int (nI ot)), (7, .int (nI ar)), (6, .int x2), (5, .int x1), (0, .ref (o 0)), (1, .ref (t 0)), (2, .ref (a 4)), (3, .int x), (4, .int y), (8, .int (nI q)), (9, .int (nI mi)), (10, .int (hd9 σ nm ns x1 ar)), (11, .int (hd9 σ nm ns x2 ar))]) hx hb dL_moves_185 hl (by decide) rfl (fun ls hl => ?_)
            refine lv_aload_n hx hb dL_moves_187 rfl (lv_at hl 6 rfl) ?_
            refine lv_iload hx hb dL_moves_188 (lv_at hl 5 rfl) ?_
            refine lv_iload hx hb dL_moves_190 (lv_at hl 4 rfl) ?_
            refine lv_iload hx hb dL_moves_192 (lv_at hl 3 rfl) ?_
            refine lv_iload hx hb dL_moves_194 (lv_at hl 11 rfl) ?_
            refine lv_iload hx hb dL_moves_196 (lv_at hl 12 rfl) ?_
            obtain ⟨σ1, hσ1⟩ : ∃ z, z = mvS σ nm x1 x2 (nI ar) (nI q) (nI mi) := ⟨_, rfl⟩
            have hI1 : Inv σ1 (su α 4 1 (nI (nm + 1))) (nm + 1) ns (n + 1) N S9 := by rw [hσ1]; exact hI.mv _ _ _ _ hq.2
            have hnm21 : nm + 1 ≤ 200 := by omega
            refine q_wx (rx_SX S ⟨m_494, m_495, m_22, m_496⟩ ⟨rfl, by decide, by decide, by decide +kernel⟩ (kL_move l G o σ nm ns x1 x2 (nI ar) (nI q) (nI mi) hst hns hns4 hnm hnm2 (AO o) hJ.dO) ⟨rfl, rfl, Nat.le_of_ble_eq_true rfl, Nat.le_of_ble_eq_true rfl⟩ (ps bl_PXZ (bXZ (hWq5.xo hK) ((hZ0.at hSq5 (fun _ h => h)).zs))) (n := 6) (As := [.ref (o 0), .int x1, .int x2, .int (nI ar), .int (nI q), .int (nI mi)]) (rest := []) rfl hl.1 rfl (Nat.le_of_ble_eq_true rfl) ⟨Nat.le_of_ble_eq_true rfl, Nat.le_of_ble_eq_true rfl⟩ dL_moves_198) hSq5 (fun _ h => h.inO) (fun rq8 Hq8 Lq8 eq8 gq8 fq8 hSq8 => ?_)
            subst eq8
            rw [show (if eX_move σ x1 x2 (nI ar) (nI q) (nI mi) = 0 then (mvS σ nm x1 x2 (nI ar) (nI q) (nI mi)) else σ) = σ1 from (if_pos (eM_0 hx1 hx2 har cft hq hmi hC.now hN31 hnm (by omega))).trans hσ1.symm] at gq8
            have hWq8 := hWq5.wo hJ gq8 fq8
            refine k_eq (y := nI nm) (hcV_0 (eM_0 hx1 hx2 har cft hq hmi hC.now hN31 hnm (by omega))) ?_
            refine lv_iload hx hb dL_moves_201 (lv_at hl 0 rfl) ?_
            refine lv_icmp_ne (tgt := 229) hx hb dL_moves_203 (by decide) (fun c203_9 => absurd rfl c203_9) (fun c203_9 => ?_)
            refine lv_aload_n hx hb dL_moves_206 rfl (lv_at hl 7 rfl) ?_
            refine lv_iload hx hb dL_moves_207 (lv_at hl 5 rfl) ?_
            refine lv_iload hx hb dL_moves_209 (lv_at hl 4 rfl) ?_
            refine lv_iload hx hb dL_moves_211 (lv_at hl 3 rfl) ?_
            refine lv_iload hx hb dL_moves_213 (lv_at hl 11 rfl) ?_
            refine lv_iload hx hb dL_moves_215 (lv_at hl 12 rfl) ?_
            refine q_wx (rx_SX S ⟨m_494, m_495, m_22, m_496⟩ ⟨rfl, by decide, by decide, by decide +kernel⟩ (kL_move l G t σ nm ns x1 x2 (nI ar) (nI q) (nI mi) hst hns hns4 hnm hnm2 (AO t) hJ.dT) ⟨rfl, rfl, Nat.le_of_ble_eq_true rfl, Nat.le_of_ble_eq_true rfl⟩ (ps bl_PXZ (bXZ (hWq8.xt hK) ((hZ0.at hSq8 (fun _ h => h)).zs))) (n := 6) (As := [.ref (t 0), .int x1, .int x2, .int (nI ar), .int (nI q), .int (nI mi)]) (rest := []) rfl hl.1 rfl (Nat.le_of_ble_eq_true rfl) ⟨Nat.le_of_ble_eq_true rfl, Nat.le_of_ble_eq_true rfl⟩ dL_moves_217) hSq8 (fun _ h => h.inT) (fun rq10 Hq10 Lq10 eq10 gq10 fq10 hSq10 => ?_)
            subst eq10
            rw [show (if eX_move σ x1 x2 (nI ar) (nI q) (nI mi) = 0 then (mvS σ nm x1 x2 (nI ar) (nI q) (nI mi)) else σ) = σ1 from (if_pos (eM_0 hx1 hx2 har cft hq hmi hC.now hN31 hnm (by omega))).trans hσ1.symm] at gq10
            have hWq10 := hWq8.wt hJ gq10 fq10
            refine k_eq (y := nI nm) (hcV_0 (eM_0 hx1 hx2 har cft hq hmi hC.now hN31 hnm (by omega))) ?_
            refine lv_iload hx hb dL_moves_220 (lv_at hl 0 rfl) ?_
            refine lv_icmp_ne (tgt := 229) hx hb dL_moves_222 (by decide) (fun c222_11 => absurd rfl c222_11) (fun c222_11 => ?_)
            refine lv_iconst (v := 1) hx hb dL_moves_225 (by decide) ?_
            refine lv_goto (tgt := 230) hx hb dL_moves_226 (by decide) ?_
            refine lv_istore (lv' := [(15, .int 1), (14, .int (nI nm)), (13, .int (boV σ nm ns (nI ot) ar (σ 16 0))), (12, .int (nI ot)), (7, .int (nI ar)), (6, .int x2), (5, .int x1), (0, .ref (o 0)), (1, .ref (t 0)), (2, .ref (a 4)), (3, .int x), (4, .int y), (8, .int (nI q)), (9, .int (nI mi)), (10, .int (hd9 σ nm ns x1 ar)), (11, .int (hd9 σ nm ns x2 ar))]) hx hb dL_moves_230 hl (by decide) rfl (fun ls hl => ?_)
            refine lv_iload hx hb dL_moves_232 (lv_at hl 0 rfl) ?_
            refine lv_if_eq (tgt := 304) hx hb dL_moves_234 (by decide) (fun c234_12 => absurd c234_12 (by decide)) (fun c234_12 => ?_)
            refine lv_aload_n hx hb dL_moves_237 rfl (lv_at hl 7 rfl) ?_
            refine lv_bipush (v := 12) hx hb dL_moves_238 (by decide) ?_
            refine lv_iconst (v := 0) hx hb dL_moves_240 (by decide) ?_
            refine lv_iconst (v := 0) hx hb dL_moves_241 (by decide) ?_
            refine lv_iconst (v := 0) hx hb dL_moves_242 (by decide) ?_
            refine lv_iconst (v := 0) hx hb dL_moves_243 (by decide) ?_
            refine q_wx (rx_SX S ⟨m_494, m_495, m_22, m_496⟩ ⟨rfl, by decide, by decide, by decide +kernel⟩ (kL_move l G o σ1 (nm + 1) ns 12 0 0 0 0 hst hI1.1.hns hns4 hI1.1.hnm hnm21 (AO o) hJ.dO) ⟨rfl, rfl, Nat.le_of_ble_eq_true rfl, Nat.le_of_ble_eq_true rfl⟩ (ps bl_PXZ (bXZ (hWq10.xo hK) ((hZ0.at hSq10 (fun _ h => h)).zs))) (n := 6) (As := [.ref (o 0), .int 12, .int 0, .int 0, .int 0, .int 0]) (rest := []) rfl hl.1 rfl (Nat.le_of_ble_eq_true rfl) ⟨Nat.le_of_ble_eq_true rfl, Nat.le_of_ble_eq_true rfl⟩ dL_moves_244) hSq10 (fun _ h => h.inO) (fun rq13 Hq13 Lq13 eq13 gq13 fq13 hSq13 => ?_)
            subst eq13
            rw [show (if eX_move σ1 12 0 0 0 0 = 0 then (mvS σ1 (nm + 1) 12 0 0 0 0) else σ1) = σ1 from if_neg (ne0 (k := 0) (eM_a σ1))] at gq13
            have hWq13 := hWq10.wo hJ gq13 fq13
            refine k_eq (y := (-1000001)) (hcV_1 (eM_a σ1)) ?_
            refine lv_ldc (v := (-1000001)) hx hb S.2.2.2.1 (S.2.2.2.2 _ m_294) dL_moves_247 ?_
            refine lv_icmp_ne (tgt := 304) hx hb dL_moves_249 (by decide) (fun c249_14 => absurd (by decide) c249_14) (fun c249_14 => ?_)
            refine lv_aload_n hx hb dL_moves_252 rfl (lv_at hl 7 rfl) ?_
            refine lv_iconst (v := 0) hx hb dL_moves_253 (by decide) ?_
            refine lv_iconst (v := 1) hx hb dL_moves_254 (by decide) ?_
            refine lv_iconst (v := 5) hx hb dL_moves_255 (by decide) ?_
            refine lv_iconst (v := 1) hx hb dL_moves_256 (by decide) ?_
            refine lv_iconst (v := 0) hx hb dL_moves_257 (by decide) ?_
            refine q_wx (rx_SX S ⟨m_494, m_495, m_22, m_496⟩ ⟨rfl, by decide, by decide, by decide +kernel⟩ (kL_move l G o σ1 (nm + 1) ns 0 1 5 1 0 hst hI1.1.hns hns4 hI1.1.hnm hnm21 (AO o) hJ.dO) ⟨rfl, rfl, Nat.le_of_ble_eq_true rfl, Nat.le_of_ble_eq_true rfl⟩ (ps bl_PXZ (bXZ (hWq13.xo hK) ((hZ0.at hSq13 (fun _ h => h)).zs))) (n := 6) (As := [.ref (o 0), .int 0, .int 1, .int 5, .int 1, .int 0]) (rest := []) rfl hl.1 rfl (Nat.le_of_ble_eq_true rfl) ⟨Nat.le_of_ble_eq_true rfl, Nat.le_of_ble_eq_true rfl⟩ dL_moves_258) hSq13 (fun _ h => h.inO) (fun rq15 Hq15 Lq15 eq15 gq15 fq15 hSq15 => ?_)
            subst eq15
            rw [show (if eX_move σ1 0 1 5 1 0 = 0 then (mvS σ1 (nm + 1) 0 1 5 1 0) else σ1) = σ1 from if_neg (ne0 (k := 0) (eM_b σ1))] at gq15
            have hWq15 := hWq13.wo hJ gq15 fq15
            refine k_eq (y := (-1000001)) (hcV_1 (eM_b σ1)) ?_
            refine lv_ldc (v := (-1000001)) hx hb S.2.2.2.1 (S.2.2.2.2 _ m_294) dL_moves_261 ?_
            refine lv_icmp_ne (tgt := 304) hx hb dL_moves_263 (by decide) (fun c263_16 => absurd (by decide) c263_16) (fun c263_16 => ?_)
            refine lv_aload_n hx hb dL_moves_266 rfl (lv_at hl 7 rfl) ?_
            refine lv_iconst (v := 0) hx hb dL_moves_267 (by decide) ?_
            refine lv_iconst (v := 1) hx hb dL_moves_268 (by decide) ?_
            refine lv_iconst (v := 0) hx hb dL_moves_269 (by decide) ?_
            refine lv_sipush (v := 1001) hx hb dL_moves_270 (by decide) ?_
            refine lv_iconst (v := 0) hx hb dL_moves_273 (by decide) ?_
            refine q_wx (rx_SX S ⟨m_494, m_495, m_22, m_496⟩ ⟨rfl, by decide, by decide, by decide +kernel⟩ (kL_move l G o σ1 (nm + 1) ns 0 1 0 1001 0 hst hI1.1.hns hns4 hI1.1.hnm hnm21 (AO o) hJ.dO) ⟨rfl, rfl, Nat.le_of_ble_eq_true rfl, Nat.le_of_ble_eq_true rfl⟩ (ps bl_PXZ (bXZ (hWq15.xo hK) ((hZ0.at hSq15 (fun _ h => h)).zs))) (n := 6) (As := [.ref (o 0), .int 0, .int 1, .int 0, .int 1001, .int 0]) (rest := []) rfl hl.1 rfl (Nat.le_of_ble_eq_true rfl) ⟨Nat.le_of_ble_eq_true rfl, Nat.le_of_ble_eq_true rfl⟩ dL_moves_274) hSq15 (fun _ h => h.inO) (fun rq17 Hq17 Lq17 eq17 gq17 fq17 hSq17 => ?_)
            subst eq17
            rw [show (if eX_move σ1 0 1 0 1001 0 = 0 then (mvS σ1 (nm + 1) 0 1 0 1001 0) else σ1) = σ1 from if_neg (ne0 (k := 1) (eM_c σ1))] at gq17
            have hWq17 := hWq15.wo hJ gq17 fq17
            refine k_eq (y := (-1000002)) (hcV_2 (eM_c σ1)) ?_
            refine lv_ldc (v := (-1000002)) hx hb S.2.2.2.1 (S.2.2.2.2 _ m_394) dL_moves_277 ?_
            refine lv_icmp_ne (tgt := 304) hx hb dL_moves_279 (by decide) (fun c279_18 => absurd (by decide) c279_18) (fun c279_18 => ?_)
            refine lv_aload_n hx hb dL_moves_282 rfl (lv_at hl 7 rfl) ?_
            refine lv_iconst (v := 0) hx hb dL_moves_283 (by decide) ?_
            refine lv_iconst (v := 1) hx hb dL_moves_284 (by decide) ?_
            refine lv_iconst (v := 0) hx hb dL_moves_285 (by decide) ?_
            refine lv_iconst (v := 1) hx hb dL_moves_286 (by decide) ?_
            refine lv_aload_n hx hb dL_moves_287 rfl (lv_at hl 9 rfl) ?_
            refine lv_iconst (v := 0) hx hb dL_moves_288 (by decide) ?_
            refine k_ldQ S hK hWq17 4 (by decide) (i := 0) (show 0 < 3 by omega) dL_moves_289 ?_
            refine k_eq (y := nI N) (hA.g0) ?_
            refine lv_iconst (v := 1) hx hb dL_moves_290 (by decide) ?_
            refine lv_iadd hx hb dL_moves_291 ?_
            refine k_eq (y := nI (N + 1)) (nI_1 N) ?_
            refine q_wx (rx_SX S ⟨m_494, m_495, m_22, m_496⟩ ⟨rfl, by decide, by decide, by decide +kernel⟩ (kL_move l G o σ1 (nm + 1) ns 0 1 0 1 (nI (N + 1)) hst hI1.1.hns hns4 hI1.1.hnm hnm21 (AO o) hJ.dO) ⟨rfl, rfl, Nat.le_of_ble_eq_true rfl, Nat.le_of_ble_eq_true rfl⟩ (ps bl_PXZ (bXZ (hWq17.xo hK) ((hZ0.at hSq17 (fun _ h => h)).zs))) (n := 6) (As := [.ref (o 0), .int 0, .int 1, .int 0, .int 1, .int (nI (N + 1))]) (rest := []) rfl hl.1 rfl (Nat.le_of_ble_eq_true rfl) ⟨Nat.le_of_ble_eq_true rfl, Nat.le_of_ble_eq_true rfl⟩ dL_moves_292) hSq17 (fun _ h => h.inO) (fun rq19 Hq19 Lq19 eq19 gq19 fq19 hSq19 => ?_)
            subst eq19
            rw [show (if eX_move σ1 0 1 0 1 (nI (N + 1)) = 0 then (mvS σ1 (nm + 1) 0 1 0 1 (nI (N + 1))) else σ1) = σ1 from if_neg (ne0 (k := 1) (eM_d hI1.1.now (by omega)))] at gq19
            have hWq19 := hWq17.wo hJ gq19 fq19
            refine k_eq (y := (-1000002)) (hcV_2 (eM_d hI1.1.now (by omega))) ?_
            refine lv_ldc (v := (-1000002)) hx hb S.2.2.2.1 (S.2.2.2.2 _ m_394) dL_moves_295 ?_
            refine lv_icmp_ne (tgt := 304) hx hb dL_moves_297 (by decide) (fun c297_20 => absurd (by decide) c297_20) (fun c297_20 => ?_)
            refine lv_iconst (v := 1) hx hb dL_moves_300 (by decide) ?_
            refine lv_goto (tgt := 305) hx hb dL_moves_301 (by decide) ?_
            refine lv_istore (lv' := [(15, .int 1), (14, .int (nI nm)), (13, .int (boV σ nm ns (nI ot) ar (σ 16 0))), (12, .int (nI ot)), (7, .int (nI ar)), (6, .int x2), (5, .int x1), (0, .ref (o 0)), (1, .ref (t 0)), (2, .ref (a 4)), (3, .int x), (4, .int y), (8, .int (nI q)), (9, .int (nI mi)), (10, .int (hd9 σ nm ns x1 ar)), (11, .int (hd9 σ nm ns x2 ar))]) hx hb dL_moves_305 hl (by decide) rfl (fun ls hl => ?_)
            refine lv_iload hx hb dL_moves_307 (lv_at hl 1 rfl) ?_
            refine lv_if_ge (tgt := 315) hx hb dL_moves_309 (by decide) (fun c309_21 => ?_) (fun c309_21 => absurd (nI_pos' (by omega)) c309_21)
            refine lv_aload_n hx hb dL_moves_315 rfl (lv_at hl 9 rfl) ?_
            refine lv_iconst (v := 1) hx hb dL_moves_316 (by decide) ?_
            refine lv_dup2_11 hx hb dL_moves_317 rfl rfl ?_
            refine k_ldQ S hK hWq19 4 (by decide) (i := 1) (show 1 < 3 by omega) dL_moves_318 ?_
            refine k_eq (y := nI nm) (hA.g1) ?_
            refine lv_iconst (v := 1) hx hb dL_moves_319 (by decide) ?_
            refine lv_iadd hx hb dL_moves_320 ?_
            refine k_eq (y := nI (nm + 1)) (nI_1 nm) ?_
            refine k_stQ S hK hJ hWq19 hSq19 (fun _ h => h) 4 (by decide) (i := 1) (show 1 < 3 by omega) dL_moves_321 (fun Hq22 Lq22 hWq22 hSq22 => ?_)
            have J344 : ∀ (le : Int32) (hle : le = 0 ∨ le = nI q) (H9 : Heap) (L9 : List Loc), WQ G o t a σ1 σ1 (su α 4 1 (nI (nm + 1))) H9 → va_S ((AQ o t a)) s.heap H9 L9 → ∀ ls, lv_has ls 18 [(15, .int 1), (14, .int (nI nm)), (13, .int (boV σ nm ns (nI ot) ar (σ 16 0))), (12, .int (nI ot)), (7, .int (nI ar)), (6, .int x2), (5, .int x1), (0, .ref (o 0)), (1, .ref (t 0)), (2, .ref (a 4)), (3, .int x), (4, .int y), (8, .int (nI q)), (9, .int (nI mi)), (10, .int (hd9 σ nm ns x1 ar)), (11, .int (hd9 σ nm ns x2 ar)), (16, .int le)] → W p l e (({ frames := 10, cells := 50, slots := 300, locals := 195 }) : Room) s m [.ref (o 0), .ref (t 0), .ref (a 4), .int x, .int y].toArray below meth c H9 L9 (44) (264) (MQ below (oW (AQ o t a) (fun r => r = 1) (fun H9 => WI G o t a (n + 1) H9)) [.ref (o 0), .ref (t 0), .ref (a 4), .int x, .int y].toArray s 50 300 (AQ o t a)) (F0 m 344 ls []) := by
              intro le hle H9 L9 hW hS ls hl
              have J366 : ∀ (mo : Int32) (hmo : mo = 0 ∨ mo = nI q) (H9 : Heap) (L9 : List Loc), WQ G o t a σ1 σ1 (su α 4 1 (nI (nm + 1))) H9 → va_S ((AQ o t a)) s.heap H9 L9 → ∀ ls, lv_has ls 18 [(15, .int 1), (14, .int (nI nm)), (13, .int (boV σ nm ns (nI ot) ar (σ 16 0))), (12, .int (nI ot)), (7, .int (nI ar)), (6, .int x2), (5, .int x1), (0, .ref (o 0)), (1, .ref (t 0)), (2, .ref (a 4)), (3, .int x), (4, .int y), (8, .int (nI q)), (9, .int (nI mi)), (10, .int (hd9 σ nm ns x1 ar)), (11, .int (hd9 σ nm ns x2 ar)), (16, .int le), (17, .int mo)] → W p l e (({ frames := 10, cells := 50, slots := 300, locals := 195 }) : Room) s m [.ref (o 0), .ref (t 0), .ref (a 4), .int x, .int y].toArray below meth c H9 L9 (46) (276) (MQ below (oW (AQ o t a) (fun r => r = 1) (fun H9 => WI G o t a (n + 1) H9)) [.ref (o 0), .ref (t 0), .ref (a 4), .int x, .int y].toArray s 50 300 (AQ o t a)) (F0 m 366 ls []) := by
                intro mo hmo H9 L9 hW hS ls hl
                refine lv_iload hx hb dL_moves_366 (lv_at hl 0 rfl) ?_
                refine lv_if_eq (tgt := 426) hx hb dL_moves_368 (by decide) (fun c368_23 => absurd c368_23 (by decide)) (fun c368_23 => ?_)
                refine lv_iload hx hb dL_moves_371 (lv_at hl 16 rfl) ?_
                refine lv_if_eq (tgt := 383) hx hb dL_moves_373 (by decide) (fun cl0 => ?_) (fun cl0 => ?_)
                · skip
                  refine lv_iload hx hb dL_moves_383 (lv_at hl 17 rfl) ?_
                  refine lv_if_eq (tgt := 395) hx hb dL_moves_385 (by decide) (fun cm0 => ?_) (fun cm0 => ?_)
                  · skip
                    refine lv_iload hx hb dL_moves_395 (lv_at hl 3 rfl) ?_
                    refine lv_iload hx hb dL_moves_397 (lv_at hl 6 rfl) ?_
                    refine lv_icmp_eq (tgt := 422) hx hb dL_moves_399 (by decide) (fun co1 => ?_) (fun co1 => ?_)
                    · skip
                      refine lv_iconst (v := 1) hx hb dL_moves_422 (by decide) ?_
                      refine lv_goto (tgt := 427) hx hb dL_moves_423 (by decide) ?_
                      refine W.widen (k := 50) (n := 300) (by first | omega | exact Nat.le_of_ble_eq_true rfl) (by first | omega | exact Nat.le_of_ble_eq_true rfl) ?_
                      exact W.zret (v := 1) (ty := .boolean) hx hb hr (by first | rfl | exact bI_nar _) (fun t9 ht hWz => ⟨⟨_, rfl, rfl⟩, by rw [ht]; exact ⟨σ1, su α 4 1 (nI (nm + 1)), hI1.ri, hW⟩, hS.F ht⟩) hS.2.2 dL_moves_427
                    · skip
                      refine lv_iload hx hb dL_moves_402 (lv_at hl 3 rfl) ?_
                      refine lv_iload hx hb dL_moves_404 (lv_at hl 5 rfl) ?_
                      refine lv_icmp_eq (tgt := 422) hx hb dL_moves_406 (by decide) (fun co2 => ?_) (fun co2 => ?_)
                      · skip
                        refine lv_iconst (v := 1) hx hb dL_moves_422 (by decide) ?_
                        refine lv_goto (tgt := 427) hx hb dL_moves_423 (by decide) ?_
                        refine W.widen (k := 50) (n := 300) (by first | omega | exact Nat.le_of_ble_eq_true rfl) (by first | omega | exact Nat.le_of_ble_eq_true rfl) ?_
                        exact W.zret (v := 1) (ty := .boolean) hx hb hr (by first | rfl | exact bI_nar _) (fun t9 ht hWz => ⟨⟨_, rfl, rfl⟩, by rw [ht]; exact ⟨σ1, su α 4 1 (nI (nm + 1)), hI1.ri, hW⟩, hS.F ht⟩) hS.2.2 dL_moves_427
                      · skip
                        refine lv_aload_n hx hb dL_moves_409 rfl (lv_at hl 7 rfl) ?_
                        refine lv_iload hx hb dL_moves_410 (lv_at hl 3 rfl) ?_
                        refine lv_iload hx hb dL_moves_412 (lv_at hl 4 rfl) ?_
                        refine q_wx (rx_SX S ⟨m_306, m_307, m_22, m_308⟩ ⟨rfl, by decide, by decide, by decide +kernel⟩ (kL_book l G o σ1 (nm + 1) ns (nI ot) (nI ar) hst hI1.1.hns hns4 hI1.1.hnm hnm21) ⟨rfl, rfl, Nat.le_of_ble_eq_true rfl, Nat.le_of_ble_eq_true rfl⟩ (ps bl_PXZ (bXZ (hW.xo hK) ((hZ0.at hS (fun _ h => h)).zs))) (n := 3) (As := [.ref (o 0), .int (nI ot), .int (nI ar)]) (rest := []) rfl hl.1 rfl (Nat.le_of_ble_eq_true rfl) ⟨Nat.le_of_ble_eq_true rfl, Nat.le_of_ble_eq_true rfl⟩ dL_moves_414) hS (fun _ h => h.elim) (fun rq28 Hq28 Lq28 eq28 gq28 fq28 hSq28 => ?_)
                        subst eq28
                        have hWq28 := hW.rd fq28
                        refine k_eq (y := boV σ nm ns (nI ot) ar (σ 16 0)) ((tV_book hot har).trans (mv_O hσ1 har co1 co2)) ?_
                        refine lv_iload hx hb dL_moves_417 (lv_at hl 2 rfl) ?_
                        refine lv_icmp_ne (tgt := 426) hx hb dL_moves_419 (by decide) (fun c419_29 => absurd rfl c419_29) (fun c419_29 => ?_)
                        refine lv_iconst (v := 1) hx hb dL_moves_422 (by decide) ?_
                        refine lv_goto (tgt := 427) hx hb dL_moves_423 (by decide) ?_
                        refine W.widen (k := 50) (n := 300) (by first | omega | exact Nat.le_of_ble_eq_true rfl) (by first | omega | exact Nat.le_of_ble_eq_true rfl) ?_
                        exact W.zret (v := 1) (ty := .boolean) hx hb hr (by first | rfl | exact bI_nar _) (fun t9 ht hWz => ⟨⟨_, rfl, rfl⟩, by rw [ht]; exact ⟨σ1, su α 4 1 (nI (nm + 1)), hI1.ri, hWq28⟩, hSq28.F ht⟩) hSq28.2.2 dL_moves_427
                  · skip
                    refine lv_iload hx hb dL_moves_388 (lv_at hl 17 rfl) ?_
                    refine lv_iload hx hb dL_moves_390 (lv_at hl 12 rfl) ?_
                    refine lv_icmp_ne (tgt := 426) hx hb dL_moves_392 (by decide) (fun c392_30 => absurd (hmo.resolve_left cm0) c392_30) (fun c392_30 => ?_)
                    refine lv_iload hx hb dL_moves_395 (lv_at hl 3 rfl) ?_
                    refine lv_iload hx hb dL_moves_397 (lv_at hl 6 rfl) ?_
                    refine lv_icmp_eq (tgt := 422) hx hb dL_moves_399 (by decide) (fun co1 => ?_) (fun co1 => ?_)
                    · skip
                      refine lv_iconst (v := 1) hx hb dL_moves_422 (by decide) ?_
                      refine lv_goto (tgt := 427) hx hb dL_moves_423 (by decide) ?_
                      refine W.widen (k := 50) (n := 300) (by first | omega | exact Nat.le_of_ble_eq_true rfl) (by first | omega | exact Nat.le_of_ble_eq_true rfl) ?_
                      exact W.zret (v := 1) (ty := .boolean) hx hb hr (by first | rfl | exact bI_nar _) (fun t9 ht hWz => ⟨⟨_, rfl, rfl⟩, by rw [ht]; exact ⟨σ1, su α 4 1 (nI (nm + 1)), hI1.ri, hW⟩, hS.F ht⟩) hS.2.2 dL_moves_427
                    · skip
                      refine lv_iload hx hb dL_moves_402 (lv_at hl 3 rfl) ?_
                      refine lv_iload hx hb dL_moves_404 (lv_at hl 5 rfl) ?_
                      refine lv_icmp_eq (tgt := 422) hx hb dL_moves_406 (by decide) (fun co2 => ?_) (fun co2 => ?_)
                      · skip
                        refine lv_iconst (v := 1) hx hb dL_moves_422 (by decide) ?_
                        refine lv_goto (tgt := 427) hx hb dL_moves_423 (by decide) ?_
                        refine W.widen (k := 50) (n := 300) (by first | omega | exact Nat.le_of_ble_eq_true rfl) (by first | omega | exact Nat.le_of_ble_eq_true rfl) ?_
                        exact W.zret (v := 1) (ty := .boolean) hx hb hr (by first | rfl | exact bI_nar _) (fun t9 ht hWz => ⟨⟨_, rfl, rfl⟩, by rw [ht]; exact ⟨σ1, su α 4 1 (nI (nm + 1)), hI1.ri, hW⟩, hS.F ht⟩) hS.2.2 dL_moves_427
                      · skip
                        refine lv_aload_n hx hb dL_moves_409 rfl (lv_at hl 7 rfl) ?_
                        refine lv_iload hx hb dL_moves_410 (lv_at hl 3 rfl) ?_
                        refine lv_iload hx hb dL_moves_412 (lv_at hl 4 rfl) ?_
                        refine q_wx (rx_SX S ⟨m_306, m_307, m_22, m_308⟩ ⟨rfl, by decide, by decide, by decide +kernel⟩ (kL_book l G o σ1 (nm + 1) ns (nI ot) (nI ar) hst hI1.1.hns hns4 hI1.1.hnm hnm21) ⟨rfl, rfl, Nat.le_of_ble_eq_true rfl, Nat.le_of_ble_eq_true rfl⟩ (ps bl_PXZ (bXZ (hW.xo hK) ((hZ0.at hS (fun _ h => h)).zs))) (n := 3) (As := [.ref (o 0), .int (nI ot), .int (nI ar)]) (rest := []) rfl hl.1 rfl (Nat.le_of_ble_eq_true rfl) ⟨Nat.le_of_ble_eq_true rfl, Nat.le_of_ble_eq_true rfl⟩ dL_moves_414) hS (fun _ h => h.elim) (fun rq33 Hq33 Lq33 eq33 gq33 fq33 hSq33 => ?_)
                        subst eq33
                        have hWq33 := hW.rd fq33
                        refine k_eq (y := boV σ nm ns (nI ot) ar (σ 16 0)) ((tV_book hot har).trans (mv_O hσ1 har co1 co2)) ?_
                        refine lv_iload hx hb dL_moves_417 (lv_at hl 2 rfl) ?_
                        refine lv_icmp_ne (tgt := 426) hx hb dL_moves_419 (by decide) (fun c419_34 => absurd rfl c419_34) (fun c419_34 => ?_)
                        refine lv_iconst (v := 1) hx hb dL_moves_422 (by decide) ?_
                        refine lv_goto (tgt := 427) hx hb dL_moves_423 (by decide) ?_
                        refine W.widen (k := 50) (n := 300) (by first | omega | exact Nat.le_of_ble_eq_true rfl) (by first | omega | exact Nat.le_of_ble_eq_true rfl) ?_
                        exact W.zret (v := 1) (ty := .boolean) hx hb hr (by first | rfl | exact bI_nar _) (fun t9 ht hWz => ⟨⟨_, rfl, rfl⟩, by rw [ht]; exact ⟨σ1, su α 4 1 (nI (nm + 1)), hI1.ri, hWq33⟩, hSq33.F ht⟩) hSq33.2.2 dL_moves_427
                · skip
                  refine lv_iload hx hb dL_moves_376 (lv_at hl 16 rfl) ?_
                  refine lv_iload hx hb dL_moves_378 (lv_at hl 12 rfl) ?_
                  refine lv_icmp_ne (tgt := 426) hx hb dL_moves_380 (by decide) (fun c380_35 => absurd (hle.resolve_left cl0) c380_35) (fun c380_35 => ?_)
                  refine lv_iload hx hb dL_moves_383 (lv_at hl 17 rfl) ?_
                  refine lv_if_eq (tgt := 395) hx hb dL_moves_385 (by decide) (fun cm0 => ?_) (fun cm0 => ?_)
                  · skip
                    refine lv_iload hx hb dL_moves_395 (lv_at hl 3 rfl) ?_
                    refine lv_iload hx hb dL_moves_397 (lv_at hl 6 rfl) ?_
                    refine lv_icmp_eq (tgt := 422) hx hb dL_moves_399 (by decide) (fun co1 => ?_) (fun co1 => ?_)
                    · skip
                      refine lv_iconst (v := 1) hx hb dL_moves_422 (by decide) ?_
                      refine lv_goto (tgt := 427) hx hb dL_moves_423 (by decide) ?_
                      refine W.widen (k := 50) (n := 300) (by first | omega | exact Nat.le_of_ble_eq_true rfl) (by first | omega | exact Nat.le_of_ble_eq_true rfl) ?_
                      exact W.zret (v := 1) (ty := .boolean) hx hb hr (by first | rfl | exact bI_nar _) (fun t9 ht hWz => ⟨⟨_, rfl, rfl⟩, by rw [ht]; exact ⟨σ1, su α 4 1 (nI (nm + 1)), hI1.ri, hW⟩, hS.F ht⟩) hS.2.2 dL_moves_427
                    · skip
                      refine lv_iload hx hb dL_moves_402 (lv_at hl 3 rfl) ?_
                      refine lv_iload hx hb dL_moves_404 (lv_at hl 5 rfl) ?_
                      refine lv_icmp_eq (tgt := 422) hx hb dL_moves_406 (by decide) (fun co2 => ?_) (fun co2 => ?_)
                      · skip
                        refine lv_iconst (v := 1) hx hb dL_moves_422 (by decide) ?_
                        refine lv_goto (tgt := 427) hx hb dL_moves_423 (by decide) ?_
                        refine W.widen (k := 50) (n := 300) (by first | omega | exact Nat.le_of_ble_eq_true rfl) (by first | omega | exact Nat.le_of_ble_eq_true rfl) ?_
                        exact W.zret (v := 1) (ty := .boolean) hx hb hr (by first | rfl | exact bI_nar _) (fun t9 ht hWz => ⟨⟨_, rfl, rfl⟩, by rw [ht]; exact ⟨σ1, su α 4 1 (nI (nm + 1)), hI1.ri, hW⟩, hS.F ht⟩) hS.2.2 dL_moves_427
                      · skip
                        refine lv_aload_n hx hb dL_moves_409 rfl (lv_at hl 7 rfl) ?_
                        refine lv_iload hx hb dL_moves_410 (lv_at hl 3 rfl) ?_
                        refine lv_iload hx hb dL_moves_412 (lv_at hl 4 rfl) ?_
                        refine q_wx (rx_SX S ⟨m_306, m_307, m_22, m_308⟩ ⟨rfl, by decide, by decide, by decide +kernel⟩ (kL_book l G o σ1 (nm + 1) ns (nI ot) (nI ar) hst hI1.1.hns hns4 hI1.1.hnm hnm21) ⟨rfl, rfl, Nat.le_of_ble_eq_true rfl, Nat.le_of_ble_eq_true rfl⟩ (ps bl_PXZ (bXZ (hW.xo hK) ((hZ0.at hS (fun _ h => h)).zs))) (n := 3) (As := [.ref (o 0), .int (nI ot), .int (nI ar)]) (rest := []) rfl hl.1 rfl (Nat.le_of_ble_eq_true rfl) ⟨Nat.le_of_ble_eq_true rfl, Nat.le_of_ble_eq_true rfl⟩ dL_moves_414) hS (fun _ h => h.elim) (fun rq39 Hq39 Lq39 eq39 gq39 fq39 hSq39 => ?_)
                        subst eq39
                        have hWq39 := hW.rd fq39
                        refine k_eq (y := boV σ nm ns (nI ot) ar (σ 16 0)) ((tV_book hot har).trans (mv_O hσ1 har co1 co2)) ?_
                        refine lv_iload hx hb dL_moves_417 (lv_at hl 2 rfl) ?_
                        refine lv_icmp_ne (tgt := 426) hx hb dL_moves_419 (by decide) (fun c419_40 => absurd rfl c419_40) (fun c419_40 => ?_)
                        refine lv_iconst (v := 1) hx hb dL_moves_422 (by decide) ?_
                        refine lv_goto (tgt := 427) hx hb dL_moves_423 (by decide) ?_
                        refine W.widen (k := 50) (n := 300) (by first | omega | exact Nat.le_of_ble_eq_true rfl) (by first | omega | exact Nat.le_of_ble_eq_true rfl) ?_
                        exact W.zret (v := 1) (ty := .boolean) hx hb hr (by first | rfl | exact bI_nar _) (fun t9 ht hWz => ⟨⟨_, rfl, rfl⟩, by rw [ht]; exact ⟨σ1, su α 4 1 (nI (nm + 1)), hI1.ri, hWq39⟩, hSq39.F ht⟩) hSq39.2.2 dL_moves_427
                  · skip
                    refine lv_iload hx hb dL_moves_388 (lv_at hl 17 rfl) ?_
                    refine lv_iload hx hb dL_moves_390 (lv_at hl 12 rfl) ?_
                    refine lv_icmp_ne (tgt := 426) hx hb dL_moves_392 (by decide) (fun c392_41 => absurd (hmo.resolve_left cm0) c392_41) (fun c392_41 => ?_)
                    refine lv_iload hx hb dL_moves_395 (lv_at hl 3 rfl) ?_
                    refine lv_iload hx hb dL_moves_397 (lv_at hl 6 rfl) ?_
                    refine lv_icmp_eq (tgt := 422) hx hb dL_moves_399 (by decide) (fun co1 => ?_) (fun co1 => ?_)
                    · skip
                      refine lv_iconst (v := 1) hx hb dL_moves_422 (by decide) ?_
                      refine lv_goto (tgt := 427) hx hb dL_moves_423 (by decide) ?_
                      refine W.widen (k := 50) (n := 300) (by first | omega | exact Nat.le_of_ble_eq_true rfl) (by first | omega | exact Nat.le_of_ble_eq_true rfl) ?_
                      exact W.zret (v := 1) (ty := .boolean) hx hb hr (by first | rfl | exact bI_nar _) (fun t9 ht hWz => ⟨⟨_, rfl, rfl⟩, by rw [ht]; exact ⟨σ1, su α 4 1 (nI (nm + 1)), hI1.ri, hW⟩, hS.F ht⟩) hS.2.2 dL_moves_427
                    · skip
                      refine lv_iload hx hb dL_moves_402 (lv_at hl 3 rfl) ?_
                      refine lv_iload hx hb dL_moves_404 (lv_at hl 5 rfl) ?_
                      refine lv_icmp_eq (tgt := 422) hx hb dL_moves_406 (by decide) (fun co2 => ?_) (fun co2 => ?_)
                      · skip
                        refine lv_iconst (v := 1) hx hb dL_moves_422 (by decide) ?_
                        refine lv_goto (tgt := 427) hx hb dL_moves_423 (by decide) ?_
                        refine W.widen (k := 50) (n := 300) (by first | omega | exact Nat.le_of_ble_eq_true rfl) (by first | omega | exact Nat.le_of_ble_eq_true rfl) ?_
                        exact W.zret (v := 1) (ty := .boolean) hx hb hr (by first | rfl | exact bI_nar _) (fun t9 ht hWz => ⟨⟨_, rfl, rfl⟩, by rw [ht]; exact ⟨σ1, su α 4 1 (nI (nm + 1)), hI1.ri, hW⟩, hS.F ht⟩) hS.2.2 dL_moves_427
                      · skip
                        refine lv_aload_n hx hb dL_moves_409 rfl (lv_at hl 7 rfl) ?_
                        refine lv_iload hx hb dL_moves_410 (lv_at hl 3 rfl) ?_
                        refine lv_iload hx hb dL_moves_412 (lv_at hl 4 rfl) ?_
                        refine q_wx (rx_SX S ⟨m_306, m_307, m_22, m_308⟩ ⟨rfl, by decide, by decide, by decide +kernel⟩ (kL_book l G o σ1 (nm + 1) ns (nI ot) (nI ar) hst hI1.1.hns hns4 hI1.1.hnm hnm21) ⟨rfl, rfl, Nat.le_of_ble_eq_true rfl, Nat.le_of_ble_eq_true rfl⟩ (ps bl_PXZ (bXZ (hW.xo hK) ((hZ0.at hS (fun _ h => h)).zs))) (n := 3) (As := [.ref (o 0), .int (nI ot), .int (nI ar)]) (rest := []) rfl hl.1 rfl (Nat.le_of_ble_eq_true rfl) ⟨Nat.le_of_ble_eq_true rfl, Nat.le_of_ble_eq_true rfl⟩ dL_moves_414) hS (fun _ h => h.elim) (fun rq44 Hq44 Lq44 eq44 gq44 fq44 hSq44 => ?_)
                        subst eq44
                        have hWq44 := hW.rd fq44
                        refine k_eq (y := boV σ nm ns (nI ot) ar (σ 16 0)) ((tV_book hot har).trans (mv_O hσ1 har co1 co2)) ?_
                        refine lv_iload hx hb dL_moves_417 (lv_at hl 2 rfl) ?_
                        refine lv_icmp_ne (tgt := 426) hx hb dL_moves_419 (by decide) (fun c419_45 => absurd rfl c419_45) (fun c419_45 => ?_)
                        refine lv_iconst (v := 1) hx hb dL_moves_422 (by decide) ?_
                        refine lv_goto (tgt := 427) hx hb dL_moves_423 (by decide) ?_
                        refine W.widen (k := 50) (n := 300) (by first | omega | exact Nat.le_of_ble_eq_true rfl) (by first | omega | exact Nat.le_of_ble_eq_true rfl) ?_
                        exact W.zret (v := 1) (ty := .boolean) hx hb hr (by first | rfl | exact bI_nar _) (fun t9 ht hWz => ⟨⟨_, rfl, rfl⟩, by rw [ht]; exact ⟨σ1, su α 4 1 (nI (nm + 1)), hI1.ri, hWq44⟩, hSq44.F ht⟩) hSq44.2.2 dL_moves_427
              refine lv_iload hx hb dL_moves_344 (lv_at hl 5 rfl) ?_
              refine lv_if_ge (tgt := 353) hx hb dL_moves_346 (by decide) (fun cg => ?_) (fun cg => ?_)
              · skip
                refine lv_aload_n hx hb dL_moves_353 rfl (lv_at hl 7 rfl) ?_
                refine lv_iload hx hb dL_moves_354 (lv_at hl 5 rfl) ?_
                refine lv_iload hx hb dL_moves_356 (lv_at hl 4 rfl) ?_
                refine q_wx (rx_SX S ⟨m_306, m_307, m_22, m_308⟩ ⟨rfl, by decide, by decide, by decide +kernel⟩ (kL_book l G o σ1 (nm + 1) ns x2 (nI ar) hst hI1.1.hns hns4 hI1.1.hnm hnm21) ⟨rfl, rfl, Nat.le_of_ble_eq_true rfl, Nat.le_of_ble_eq_true rfl⟩ (ps bl_PXZ (bXZ (hW.xo hK) ((hZ0.at hS (fun _ h => h)).zs))) (n := 3) (As := [.ref (o 0), .int x2, .int (nI ar)]) (rest := []) rfl hl.1 rfl (Nat.le_of_ble_eq_true rfl) ⟨Nat.le_of_ble_eq_true rfl, Nat.le_of_ble_eq_true rfl⟩ dL_moves_358) hS (fun _ h => h.elim) (fun rq47 Hq47 Lq47 eq47 gq47 fq47 hSq47 => ?_)
                subst eq47
                have hWq47 := hW.rd fq47
                refine k_eq (y := boV σ1 (nm + 1) ns x2 ar (σ1 16 0)) (tV_bx hx2 cg har) ?_
                refine lv_iload hx hb dL_moves_361 (lv_at hl 15 rfl) ?_
                refine lv_isub hx hb dL_moves_363 ?_
                refine lv_istore (lv' := [(17, .int ((boV σ1 (nm + 1) ns x2 ar (σ1 16 0)) - (hd9 σ nm ns x2 ar))), (15, .int 1), (14, .int (nI nm)), (13, .int (boV σ nm ns (nI ot) ar (σ 16 0))), (12, .int (nI ot)), (7, .int (nI ar)), (6, .int x2), (5, .int x1), (0, .ref (o 0)), (1, .ref (t 0)), (2, .ref (a 4)), (3, .int x), (4, .int y), (8, .int (nI q)), (9, .int (nI mi)), (10, .int (hd9 σ nm ns x1 ar)), (11, .int (hd9 σ nm ns x2 ar)), (16, .int le)]) hx hb dL_moves_364 hl (by decide) rfl (fun ls hl => ?_)
                refine W.widen (k := 46) (n := 276) (by omega) (by omega) ?_
                exact J366 _ (mv_T hσ1 har cg) Hq47 Lq47 hWq47 hSq47 ls (lv_sub hl [1, 2, 3, 4, 5, 6, 7, 8, 9, 10, 11, 12, 13, 14, 15, 16, 17, 0] rfl)
              · skip
                refine lv_iconst (v := 0) hx hb dL_moves_349 (by decide) ?_
                refine lv_goto (tgt := 364) hx hb dL_moves_350 (by decide) ?_
                refine lv_istore (lv' := [(17, .int 0), (15, .int 1), (14, .int (nI nm)), (13, .int (boV σ nm ns (nI ot) ar (σ 16 0))), (12, .int (nI ot)), (7, .int (nI ar)), (6, .int x2), (5, .int x1), (0, .ref (o 0)), (1, .ref (t 0)), (2, .ref (a 4)), (3, .int x), (4, .int y), (8, .int (nI q)), (9, .int (nI mi)), (10, .int (hd9 σ nm ns x1 ar)), (11, .int (hd9 σ nm ns x2 ar)), (16, .int le)]) hx hb dL_moves_364 hl (by decide) rfl (fun ls hl => ?_)
                refine W.widen (k := 46) (n := 276) (by omega) (by omega) ?_
                exact J366 0 (Or.inl rfl) H9 L9 hW hS ls (lv_sub hl [1, 2, 3, 4, 5, 6, 7, 8, 9, 10, 11, 12, 13, 14, 15, 16, 17, 0] rfl)
            refine lv_iload hx hb dL_moves_322 (lv_at hl 6 rfl) ?_
            refine lv_if_ge (tgt := 331) hx hb dL_moves_324 (by decide) (fun cf => ?_) (fun cf => ?_)
            · skip
              refine lv_iload hx hb dL_moves_331 (lv_at hl 14 rfl) ?_
              refine lv_aload_n hx hb dL_moves_333 rfl (lv_at hl 7 rfl) ?_
              refine lv_iload hx hb dL_moves_334 (lv_at hl 6 rfl) ?_
              refine lv_iload hx hb dL_moves_336 (lv_at hl 4 rfl) ?_
              refine q_wx (rx_SX S ⟨m_306, m_307, m_22, m_308⟩ ⟨rfl, by decide, by decide, by decide +kernel⟩ (kL_book l G o σ1 (nm + 1) ns x1 (nI ar) hst hI1.1.hns hns4 hI1.1.hnm hnm21) ⟨rfl, rfl, Nat.le_of_ble_eq_true rfl, Nat.le_of_ble_eq_true rfl⟩ (ps bl_PXZ (bXZ (hWq22.xo hK) ((hZ0.at hSq22 (fun _ h => h)).zs))) (n := 3) (As := [.ref (o 0), .int x1, .int (nI ar)]) (rest := [.int (hd9 σ nm ns x1 ar)]) rfl hl.1 rfl (Nat.le_of_ble_eq_true rfl) ⟨Nat.le_of_ble_eq_true rfl, Nat.le_of_ble_eq_true rfl⟩ dL_moves_338) hSq22 (fun _ h => h.elim) (fun rq49 Hq49 Lq49 eq49 gq49 fq49 hSq49 => ?_)
              subst eq49
              have hWq49 := hWq22.rd fq49
              refine k_eq (y := boV σ1 (nm + 1) ns x1 ar (σ1 16 0)) (tV_bx hx1 cf har) ?_
              refine lv_isub hx hb dL_moves_341 ?_
              refine lv_istore (lv' := [(16, .int ((hd9 σ nm ns x1 ar) - (boV σ1 (nm + 1) ns x1 ar (σ1 16 0)))), (15, .int 1), (14, .int (nI nm)), (13, .int (boV σ nm ns (nI ot) ar (σ 16 0))), (12, .int (nI ot)), (7, .int (nI ar)), (6, .int x2), (5, .int x1), (0, .ref (o 0)), (1, .ref (t 0)), (2, .ref (a 4)), (3, .int x), (4, .int y), (8, .int (nI q)), (9, .int (nI mi)), (10, .int (hd9 σ nm ns x1 ar)), (11, .int (hd9 σ nm ns x2 ar))]) hx hb dL_moves_342 hl (by decide) rfl (fun ls hl => ?_)
              refine W.widen (k := 44) (n := 264) (by omega) (by omega) ?_
              exact J344 _ (mv_F hσ1 har cft cf) Hq49 Lq49 hWq49 hSq49 ls (lv_sub hl [1, 2, 3, 4, 5, 6, 7, 8, 9, 10, 11, 12, 13, 14, 15, 16, 0] rfl)
            · skip
              refine lv_iconst (v := 0) hx hb dL_moves_327 (by decide) ?_
              refine lv_goto (tgt := 342) hx hb dL_moves_328 (by decide) ?_
              refine lv_istore (lv' := [(16, .int 0), (15, .int 1), (14, .int (nI nm)), (13, .int (boV σ nm ns (nI ot) ar (σ 16 0))), (12, .int (nI ot)), (7, .int (nI ar)), (6, .int x2), (5, .int x1), (0, .ref (o 0)), (1, .ref (t 0)), (2, .ref (a 4)), (3, .int x), (4, .int y), (8, .int (nI q)), (9, .int (nI mi)), (10, .int (hd9 σ nm ns x1 ar)), (11, .int (hd9 σ nm ns x2 ar))]) hx hb dL_moves_342 hl (by decide) rfl (fun ls hl => ?_)
              refine W.widen (k := 44) (n := 264) (by omega) (by omega) ?_
              exact J344 0 (Or.inl rfl) Hq22 Lq22 hWq22 hSq22 ls (lv_sub hl [1, 2, 3, 4, 5, 6, 7, 8, 9, 10, 11, 12, 13, 14, 15, 16, 0] rfl)
          · skip
            refine lv_ldc (v := (-1000002)) hx hb S.2.2.2.1 (S.2.2.2.2 _ m_394) dL_moves_163 ?_
            refine lv_goto (tgt := 185) hx hb dL_moves_165 (by decide) ?_
            refine lv_istore (lv' := [(14, .int (-1000002)), (13, .int (boV σ nm ns (nI ot) ar (σ 16 0))), (12, .int (nI ot)), (7, .int (nI ar)), (6, .int x2), (5, .int x1), (0, .ref (o 0)), (1, .ref (t 0)), (2, .ref (a 4)), (3, .int x), (4, .int y), (8, .int (nI q)), (9, .int (nI mi)), (10, .int (hd9 σ nm ns x1 ar)), (11, .int (hd9 σ nm ns x2 ar))]) hx hb dL_moves_185 hl (by decide) rfl (fun ls hl => ?_)
            refine lv_aload_n hx hb dL_moves_187 rfl (lv_at hl 6 rfl) ?_
            refine lv_iload hx hb dL_moves_188 (lv_at hl 5 rfl) ?_
            refine lv_iload hx hb dL_moves_190 (lv_at hl 4 rfl) ?_
            refine lv_iload hx hb dL_moves_192 (lv_at hl 3 rfl) ?_
            refine lv_iload hx hb dL_moves_194 (lv_at hl 11 rfl) ?_
            refine lv_iload hx hb dL_moves_196 (lv_at hl 12 rfl) ?_
            refine q_wx (rx_SX S ⟨m_494, m_495, m_22, m_496⟩ ⟨rfl, by decide, by decide, by decide +kernel⟩ (kL_move l G o σ nm ns x1 x2 (nI ar) (nI q) (nI mi) hst hns hns4 hnm hnm2 (AO o) hJ.dO) ⟨rfl, rfl, Nat.le_of_ble_eq_true rfl, Nat.le_of_ble_eq_true rfl⟩ (ps bl_PXZ (bXZ (hWq5.xo hK) ((hZ0.at hSq5 (fun _ h => h)).zs))) (n := 6) (As := [.ref (o 0), .int x1, .int x2, .int (nI ar), .int (nI q), .int (nI mi)]) (rest := []) rfl hl.1 rfl (Nat.le_of_ble_eq_true rfl) ⟨Nat.le_of_ble_eq_true rfl, Nat.le_of_ble_eq_true rfl⟩ dL_moves_198) hSq5 (fun _ h => h.inO) (fun rq50 Hq50 Lq50 eq50 gq50 fq50 hSq50 => ?_)
            subst eq50
            rw [show (if eX_move σ x1 x2 (nI ar) (nI q) (nI mi) = 0 then (mvS σ nm x1 x2 (nI ar) (nI q) (nI mi)) else σ) = σ from if_neg (ne0 (k := 1) (eM_2 hx1 hx2 har cft))] at gq50
            have hWq50 := hWq5.wo hJ gq50 fq50
            refine k_eq (y := (-1000002)) (hcV_2 (eM_2 hx1 hx2 har cft)) ?_
            refine lv_iload hx hb dL_moves_201 (lv_at hl 0 rfl) ?_
            refine lv_icmp_ne (tgt := 229) hx hb dL_moves_203 (by decide) (fun c203_51 => absurd (by decide) c203_51) (fun c203_51 => ?_)
            refine lv_aload_n hx hb dL_moves_206 rfl (lv_at hl 7 rfl) ?_
            refine lv_iload hx hb dL_moves_207 (lv_at hl 5 rfl) ?_
            refine lv_iload hx hb dL_moves_209 (lv_at hl 4 rfl) ?_
            refine lv_iload hx hb dL_moves_211 (lv_at hl 3 rfl) ?_
            refine lv_iload hx hb dL_moves_213 (lv_at hl 11 rfl) ?_
            refine lv_iload hx hb dL_moves_215 (lv_at hl 12 rfl) ?_
            refine q_wx (rx_SX S ⟨m_494, m_495, m_22, m_496⟩ ⟨rfl, by decide, by decide, by decide +kernel⟩ (kL_move l G t σ nm ns x1 x2 (nI ar) (nI q) (nI mi) hst hns hns4 hnm hnm2 (AO t) hJ.dT) ⟨rfl, rfl, Nat.le_of_ble_eq_true rfl, Nat.le_of_ble_eq_true rfl⟩ (ps bl_PXZ (bXZ (hWq50.xt hK) ((hZ0.at hSq50 (fun _ h => h)).zs))) (n := 6) (As := [.ref (t 0), .int x1, .int x2, .int (nI ar), .int (nI q), .int (nI mi)]) (rest := []) rfl hl.1 rfl (Nat.le_of_ble_eq_true rfl) ⟨Nat.le_of_ble_eq_true rfl, Nat.le_of_ble_eq_true rfl⟩ dL_moves_217) hSq50 (fun _ h => h.inT) (fun rq52 Hq52 Lq52 eq52 gq52 fq52 hSq52 => ?_)
            subst eq52
            rw [show (if eX_move σ x1 x2 (nI ar) (nI q) (nI mi) = 0 then (mvS σ nm x1 x2 (nI ar) (nI q) (nI mi)) else σ) = σ from if_neg (ne0 (k := 1) (eM_2 hx1 hx2 har cft))] at gq52
            have hWq52 := hWq50.wt hJ gq52 fq52
            refine k_eq (y := (-1000002)) (hcV_2 (eM_2 hx1 hx2 har cft)) ?_
            refine lv_iload hx hb dL_moves_220 (lv_at hl 0 rfl) ?_
            refine lv_icmp_ne (tgt := 229) hx hb dL_moves_222 (by decide) (fun c222_53 => absurd (by decide) c222_53) (fun c222_53 => ?_)
            refine lv_iconst (v := 1) hx hb dL_moves_225 (by decide) ?_
            refine lv_goto (tgt := 230) hx hb dL_moves_226 (by decide) ?_
            refine lv_istore (lv' := [(15, .int 1), (14, .int (-1000002)), (13, .int (boV σ nm ns (nI ot) ar (σ 16 0))), (12, .int (nI ot)), (7, .int (nI ar)), (6, .int x2), (5, .int x1), (0, .ref (o 0)), (1, .ref (t 0)), (2, .ref (a 4)), (3, .int x), (4, .int y), (8, .int (nI q)), (9, .int (nI mi)), (10, .int (hd9 σ nm ns x1 ar)), (11, .int (hd9 σ nm ns x2 ar))]) hx hb dL_moves_230 hl (by decide) rfl (fun ls hl => ?_)
            refine lv_iload hx hb dL_moves_232 (lv_at hl 0 rfl) ?_
            refine lv_if_eq (tgt := 304) hx hb dL_moves_234 (by decide) (fun c234_54 => absurd c234_54 (by decide)) (fun c234_54 => ?_)
            refine lv_aload_n hx hb dL_moves_237 rfl (lv_at hl 7 rfl) ?_
            refine lv_bipush (v := 12) hx hb dL_moves_238 (by decide) ?_
            refine lv_iconst (v := 0) hx hb dL_moves_240 (by decide) ?_
            refine lv_iconst (v := 0) hx hb dL_moves_241 (by decide) ?_
            refine lv_iconst (v := 0) hx hb dL_moves_242 (by decide) ?_
            refine lv_iconst (v := 0) hx hb dL_moves_243 (by decide) ?_
            refine q_wx (rx_SX S ⟨m_494, m_495, m_22, m_496⟩ ⟨rfl, by decide, by decide, by decide +kernel⟩ (kL_move l G o σ nm ns 12 0 0 0 0 hst hns hns4 hnm hnm2 (AO o) hJ.dO) ⟨rfl, rfl, Nat.le_of_ble_eq_true rfl, Nat.le_of_ble_eq_true rfl⟩ (ps bl_PXZ (bXZ (hWq52.xo hK) ((hZ0.at hSq52 (fun _ h => h)).zs))) (n := 6) (As := [.ref (o 0), .int 12, .int 0, .int 0, .int 0, .int 0]) (rest := []) rfl hl.1 rfl (Nat.le_of_ble_eq_true rfl) ⟨Nat.le_of_ble_eq_true rfl, Nat.le_of_ble_eq_true rfl⟩ dL_moves_244) hSq52 (fun _ h => h.inO) (fun rq55 Hq55 Lq55 eq55 gq55 fq55 hSq55 => ?_)
            subst eq55
            rw [show (if eX_move σ 12 0 0 0 0 = 0 then (mvS σ nm 12 0 0 0 0) else σ) = σ from if_neg (ne0 (k := 0) (eM_a σ))] at gq55
            have hWq55 := hWq52.wo hJ gq55 fq55
            refine k_eq (y := (-1000001)) (hcV_1 (eM_a σ)) ?_
            refine lv_ldc (v := (-1000001)) hx hb S.2.2.2.1 (S.2.2.2.2 _ m_294) dL_moves_247 ?_
            refine lv_icmp_ne (tgt := 304) hx hb dL_moves_249 (by decide) (fun c249_56 => absurd (by decide) c249_56) (fun c249_56 => ?_)
            refine lv_aload_n hx hb dL_moves_252 rfl (lv_at hl 7 rfl) ?_
            refine lv_iconst (v := 0) hx hb dL_moves_253 (by decide) ?_
            refine lv_iconst (v := 1) hx hb dL_moves_254 (by decide) ?_
            refine lv_iconst (v := 5) hx hb dL_moves_255 (by decide) ?_
            refine lv_iconst (v := 1) hx hb dL_moves_256 (by decide) ?_
            refine lv_iconst (v := 0) hx hb dL_moves_257 (by decide) ?_
            refine q_wx (rx_SX S ⟨m_494, m_495, m_22, m_496⟩ ⟨rfl, by decide, by decide, by decide +kernel⟩ (kL_move l G o σ nm ns 0 1 5 1 0 hst hns hns4 hnm hnm2 (AO o) hJ.dO) ⟨rfl, rfl, Nat.le_of_ble_eq_true rfl, Nat.le_of_ble_eq_true rfl⟩ (ps bl_PXZ (bXZ (hWq55.xo hK) ((hZ0.at hSq55 (fun _ h => h)).zs))) (n := 6) (As := [.ref (o 0), .int 0, .int 1, .int 5, .int 1, .int 0]) (rest := []) rfl hl.1 rfl (Nat.le_of_ble_eq_true rfl) ⟨Nat.le_of_ble_eq_true rfl, Nat.le_of_ble_eq_true rfl⟩ dL_moves_258) hSq55 (fun _ h => h.inO) (fun rq57 Hq57 Lq57 eq57 gq57 fq57 hSq57 => ?_)
            subst eq57
            rw [show (if eX_move σ 0 1 5 1 0 = 0 then (mvS σ nm 0 1 5 1 0) else σ) = σ from if_neg (ne0 (k := 0) (eM_b σ))] at gq57
            have hWq57 := hWq55.wo hJ gq57 fq57
            refine k_eq (y := (-1000001)) (hcV_1 (eM_b σ)) ?_
            refine lv_ldc (v := (-1000001)) hx hb S.2.2.2.1 (S.2.2.2.2 _ m_294) dL_moves_261 ?_
            refine lv_icmp_ne (tgt := 304) hx hb dL_moves_263 (by decide) (fun c263_58 => absurd (by decide) c263_58) (fun c263_58 => ?_)
            refine lv_aload_n hx hb dL_moves_266 rfl (lv_at hl 7 rfl) ?_
            refine lv_iconst (v := 0) hx hb dL_moves_267 (by decide) ?_
            refine lv_iconst (v := 1) hx hb dL_moves_268 (by decide) ?_
            refine lv_iconst (v := 0) hx hb dL_moves_269 (by decide) ?_
            refine lv_sipush (v := 1001) hx hb dL_moves_270 (by decide) ?_
            refine lv_iconst (v := 0) hx hb dL_moves_273 (by decide) ?_
            refine q_wx (rx_SX S ⟨m_494, m_495, m_22, m_496⟩ ⟨rfl, by decide, by decide, by decide +kernel⟩ (kL_move l G o σ nm ns 0 1 0 1001 0 hst hns hns4 hnm hnm2 (AO o) hJ.dO) ⟨rfl, rfl, Nat.le_of_ble_eq_true rfl, Nat.le_of_ble_eq_true rfl⟩ (ps bl_PXZ (bXZ (hWq57.xo hK) ((hZ0.at hSq57 (fun _ h => h)).zs))) (n := 6) (As := [.ref (o 0), .int 0, .int 1, .int 0, .int 1001, .int 0]) (rest := []) rfl hl.1 rfl (Nat.le_of_ble_eq_true rfl) ⟨Nat.le_of_ble_eq_true rfl, Nat.le_of_ble_eq_true rfl⟩ dL_moves_274) hSq57 (fun _ h => h.inO) (fun rq59 Hq59 Lq59 eq59 gq59 fq59 hSq59 => ?_)
            subst eq59
            rw [show (if eX_move σ 0 1 0 1001 0 = 0 then (mvS σ nm 0 1 0 1001 0) else σ) = σ from if_neg (ne0 (k := 1) (eM_c σ))] at gq59
            have hWq59 := hWq57.wo hJ gq59 fq59
            refine k_eq (y := (-1000002)) (hcV_2 (eM_c σ)) ?_
            refine lv_ldc (v := (-1000002)) hx hb S.2.2.2.1 (S.2.2.2.2 _ m_394) dL_moves_277 ?_
            refine lv_icmp_ne (tgt := 304) hx hb dL_moves_279 (by decide) (fun c279_60 => absurd (by decide) c279_60) (fun c279_60 => ?_)
            refine lv_aload_n hx hb dL_moves_282 rfl (lv_at hl 7 rfl) ?_
            refine lv_iconst (v := 0) hx hb dL_moves_283 (by decide) ?_
            refine lv_iconst (v := 1) hx hb dL_moves_284 (by decide) ?_
            refine lv_iconst (v := 0) hx hb dL_moves_285 (by decide) ?_
            refine lv_iconst (v := 1) hx hb dL_moves_286 (by decide) ?_
            refine lv_aload_n hx hb dL_moves_287 rfl (lv_at hl 9 rfl) ?_
            refine lv_iconst (v := 0) hx hb dL_moves_288 (by decide) ?_
            refine k_ldQ S hK hWq59 4 (by decide) (i := 0) (show 0 < 3 by omega) dL_moves_289 ?_
            refine k_eq (y := nI N) (hA.g0) ?_
            refine lv_iconst (v := 1) hx hb dL_moves_290 (by decide) ?_
            refine lv_iadd hx hb dL_moves_291 ?_
            refine k_eq (y := nI (N + 1)) (nI_1 N) ?_
            refine q_wx (rx_SX S ⟨m_494, m_495, m_22, m_496⟩ ⟨rfl, by decide, by decide, by decide +kernel⟩ (kL_move l G o σ nm ns 0 1 0 1 (nI (N + 1)) hst hns hns4 hnm hnm2 (AO o) hJ.dO) ⟨rfl, rfl, Nat.le_of_ble_eq_true rfl, Nat.le_of_ble_eq_true rfl⟩ (ps bl_PXZ (bXZ (hWq59.xo hK) ((hZ0.at hSq59 (fun _ h => h)).zs))) (n := 6) (As := [.ref (o 0), .int 0, .int 1, .int 0, .int 1, .int (nI (N + 1))]) (rest := []) rfl hl.1 rfl (Nat.le_of_ble_eq_true rfl) ⟨Nat.le_of_ble_eq_true rfl, Nat.le_of_ble_eq_true rfl⟩ dL_moves_292) hSq59 (fun _ h => h.inO) (fun rq61 Hq61 Lq61 eq61 gq61 fq61 hSq61 => ?_)
            subst eq61
            rw [show (if eX_move σ 0 1 0 1 (nI (N + 1)) = 0 then (mvS σ nm 0 1 0 1 (nI (N + 1))) else σ) = σ from if_neg (ne0 (k := 1) (eM_d hC.now (by omega)))] at gq61
            have hWq61 := hWq59.wo hJ gq61 fq61
            refine k_eq (y := (-1000002)) (hcV_2 (eM_d hC.now (by omega))) ?_
            refine lv_ldc (v := (-1000002)) hx hb S.2.2.2.1 (S.2.2.2.2 _ m_394) dL_moves_295 ?_
            refine lv_icmp_ne (tgt := 304) hx hb dL_moves_297 (by decide) (fun c297_62 => absurd (by decide) c297_62) (fun c297_62 => ?_)
            refine lv_iconst (v := 1) hx hb dL_moves_300 (by decide) ?_
            refine lv_goto (tgt := 305) hx hb dL_moves_301 (by decide) ?_
            refine lv_istore (lv' := [(15, .int 1), (14, .int (-1000002)), (13, .int (boV σ nm ns (nI ot) ar (σ 16 0))), (12, .int (nI ot)), (7, .int (nI ar)), (6, .int x2), (5, .int x1), (0, .ref (o 0)), (1, .ref (t 0)), (2, .ref (a 4)), (3, .int x), (4, .int y), (8, .int (nI q)), (9, .int (nI mi)), (10, .int (hd9 σ nm ns x1 ar)), (11, .int (hd9 σ nm ns x2 ar))]) hx hb dL_moves_305 hl (by decide) rfl (fun ls hl => ?_)
            refine lv_iload hx hb dL_moves_307 (lv_at hl 1 rfl) ?_
            refine lv_if_ge (tgt := 315) hx hb dL_moves_309 (by decide) (fun c309_63 => absurd c309_63 (by decide)) (fun c309_63 => ?_)
            refine lv_iload hx hb dL_moves_312 (lv_at hl 0 rfl) ?_
            refine W.widen (k := 50) (n := 300) (by first | omega | exact Nat.le_of_ble_eq_true rfl) (by first | omega | exact Nat.le_of_ble_eq_true rfl) ?_
            exact W.zret (v := 1) (ty := .boolean) hx hb hr (by first | rfl | exact bI_nar _) (fun t9 ht hWz => ⟨⟨_, rfl, rfl⟩, by rw [ht]; exact ⟨σ, α, hI.up.ri, hWq61⟩, hSq61.F ht⟩) hSq61.2.2 dL_moves_314
        refine lv_iload hx hb dL_moves_115 (lv_at hl 1 rfl) ?_
        refine lv_if_ge (tgt := 124) hx hb dL_moves_117 (by decide) (fun cb => ?_) (fun cb => ?_)
        · skip
          refine lv_aload_n hx hb dL_moves_124 rfl (lv_at hl 3 rfl) ?_
          refine lv_iload hx hb dL_moves_125 (lv_at hl 1 rfl) ?_
          refine lv_iload hx hb dL_moves_127 (lv_at hl 0 rfl) ?_
          refine q_wx (rx_SX S ⟨m_306, m_307, m_22, m_308⟩ ⟨rfl, by decide, by decide, by decide +kernel⟩ (kL_book l G o σ nm ns x2 (nI ar) hst hns hns4 hnm hnm2) ⟨rfl, rfl, Nat.le_of_ble_eq_true rfl, Nat.le_of_ble_eq_true rfl⟩ (ps bl_PXZ (bXZ (hW.xo hK) ((hZ0.at hS (fun _ h => h)).zs))) (n := 3) (As := [.ref (o 0), .int x2, .int (nI ar)]) (rest := []) rfl hl.1 rfl (Nat.le_of_ble_eq_true rfl) ⟨Nat.le_of_ble_eq_true rfl, Nat.le_of_ble_eq_true rfl⟩ dL_moves_129) hS (fun _ h => h.elim) (fun rq65 Hq65 Lq65 eq65 gq65 fq65 hSq65 => ?_)
          subst eq65
          have hWq65 := hW.rd fq65
          refine k_eq (y := hd9 σ nm ns x2 ar) ((tV_bx hx2 cb har).trans (hd_p cb).symm) ?_
          refine lv_istore (lv' := [(11, .int (hd9 σ nm ns x2 ar)), (7, .int (nI ar)), (6, .int x2), (5, .int x1), (0, .ref (o 0)), (1, .ref (t 0)), (2, .ref (a 4)), (3, .int x), (4, .int y), (8, .int (nI q)), (9, .int (nI mi)), (10, .int (hd9 σ nm ns x1 ar))]) hx hb dL_moves_132 hl (by decide) rfl (fun ls hl => ?_)
          refine W.widen (k := 4) (n := 24) (by omega) (by omega) ?_
          exact J134  Hq65 Lq65 hWq65 hSq65 ls (lv_sub hl [1, 2, 3, 4, 5, 6, 7, 8, 9, 10, 11, 0] rfl)
        · skip
          refine lv_iconst (v := 0) hx hb dL_moves_120 (by decide) ?_
          refine k_eq (y := hd9 σ nm ns x2 ar) ((hd_n cb).symm) ?_
          refine lv_goto (tgt := 132) hx hb dL_moves_121 (by decide) ?_
          refine lv_istore (lv' := [(11, .int (hd9 σ nm ns x2 ar)), (7, .int (nI ar)), (6, .int x2), (5, .int x1), (0, .ref (o 0)), (1, .ref (t 0)), (2, .ref (a 4)), (3, .int x), (4, .int y), (8, .int (nI q)), (9, .int (nI mi)), (10, .int (hd9 σ nm ns x1 ar))]) hx hb dL_moves_132 hl (by decide) rfl (fun ls hl => ?_)
          refine W.widen (k := 4) (n := 24) (by omega) (by omega) ?_
          exact J134  H9 L9 hW hS ls (lv_sub hl [1, 2, 3, 4, 5, 6, 7, 8, 9, 10, 11, 0] rfl)
      refine lv_iload hx hb dL_moves_96 (lv_at hl 2 rfl) ?_
      refine lv_if_ge (tgt := 105) hx hb dL_moves_98 (by decide) (fun ca => ?_) (fun ca => ?_)
      · skip
        refine lv_aload_n hx hb dL_moves_105 rfl (lv_at hl 3 rfl) ?_
        refine lv_iload hx hb dL_moves_106 (lv_at hl 2 rfl) ?_
        refine lv_iload hx hb dL_moves_108 (lv_at hl 0 rfl) ?_
        refine q_wx (rx_SX S ⟨m_306, m_307, m_22, m_308⟩ ⟨rfl, by decide, by decide, by decide +kernel⟩ (kL_book l G o σ nm ns x1 (nI ar) hst hns hns4 hnm hnm2) ⟨rfl, rfl, Nat.le_of_ble_eq_true rfl, Nat.le_of_ble_eq_true rfl⟩ (ps bl_PXZ (bXZ (hW.xo hK) ((hZ0.at hS (fun _ h => h)).zs))) (n := 3) (As := [.ref (o 0), .int x1, .int (nI ar)]) (rest := []) rfl hl.1 rfl (Nat.le_of_ble_eq_true rfl) ⟨Nat.le_of_ble_eq_true rfl, Nat.le_of_ble_eq_true rfl⟩ dL_moves_110) hS (fun _ h => h.elim) (fun rq67 Hq67 Lq67 eq67 gq67 fq67 hSq67 => ?_)
        subst eq67
        have hWq67 := hW.rd fq67
        refine k_eq (y := hd9 σ nm ns x1 ar) ((tV_bx hx1 ca har).trans (hd_p ca).symm) ?_
        refine lv_istore (lv' := [(10, .int (hd9 σ nm ns x1 ar)), (7, .int (nI ar)), (6, .int x2), (5, .int x1), (0, .ref (o 0)), (1, .ref (t 0)), (2, .ref (a 4)), (3, .int x), (4, .int y), (8, .int (nI q)), (9, .int (nI mi))]) hx hb dL_moves_113 hl (by decide) rfl (fun ls hl => ?_)
        refine W.widen (k := 2) (n := 12) (by omega) (by omega) ?_
        exact J115  Hq67 Lq67 hWq67 hSq67 ls (lv_sub hl [1, 2, 3, 4, 5, 6, 7, 8, 9, 10, 0] rfl)
      · skip
        refine lv_iconst (v := 0) hx hb dL_moves_101 (by decide) ?_
        refine k_eq (y := hd9 σ nm ns x1 ar) ((hd_n ca).symm) ?_
        refine lv_goto (tgt := 113) hx hb dL_moves_102 (by decide) ?_
        refine lv_istore (lv' := [(10, .int (hd9 σ nm ns x1 ar)), (7, .int (nI ar)), (6, .int x2), (5, .int x1), (0, .ref (o 0)), (1, .ref (t 0)), (2, .ref (a 4)), (3, .int x), (4, .int y), (8, .int (nI q)), (9, .int (nI mi))]) hx hb dL_moves_113 hl (by decide) rfl (fun ls hl => ?_)
        refine W.widen (k := 2) (n := 12) (by omega) (by omega) ?_
        exact J115  H9 L9 hW hS ls (lv_sub hl [1, 2, 3, 4, 5, 6, 7, 8, 9, 10, 0] rfl)
    refine lv_iload_n hx hb dL_moves_64 rfl (lv_at hl 6 rfl) ?_
    refine lv_bipush (v := 10) hx hb dL_moves_65 (by decide) ?_
    refine lv_ishr hx hb dL_moves_67 ?_
    refine lv_iconst (v := 3) hx hb dL_moves_68 (by decide) ?_
    refine q_i (r_S S ⟨m_487, m_488, m_22, m_489⟩ ⟨rfl, by decide, by decide, by decide +kernel⟩ (kL_low l (x >>> (10 &&& 31)) 3 (by first | decide | omega) (by first | decide | omega)) ⟨rfl, rfl, Nat.le_of_ble_eq_true rfl, Nat.le_of_ble_eq_true rfl⟩ (ps bl_GL (bG hK.2)) (n := 2) (As := [.int (x >>> (10 &&& 31)), .int 3]) (rest := []) rfl hl.1 rfl (Nat.le_of_ble_eq_true rfl) ⟨Nat.le_of_ble_eq_true rfl, Nat.le_of_ble_eq_true rfl⟩ dL_moves_69) (fun rq68 ⟨jn, hjn, eq68⟩ => ?_)
    subst eq68
    refine lv_if_le (tgt := 81) hx hb dL_moves_72 (by decide) (fun cm => ?_) (fun cm => ?_)
    · skip
      refine lv_iload hx hb dL_moves_81 (lv_at hl 7 rfl) ?_
      refine lv_bipush (v := 13) hx hb dL_moves_83 (by decide) ?_
      refine lv_ishr hx hb dL_moves_85 ?_
      refine lv_aload_n hx hb dL_moves_86 rfl (lv_at hl 5 rfl) ?_
      refine lv_iconst (v := 0) hx hb dL_moves_87 (by decide) ?_
      refine k_ldQ S hK hW 4 (by decide) (i := 0) (show 0 < 3 by omega) dL_moves_88 ?_
      refine k_eq (y := nI N) (hA.g0) ?_
      refine lv_iconst (v := 1) hx hb dL_moves_89 (by decide) ?_
      refine lv_iadd hx hb dL_moves_90 ?_
      refine k_eq (y := nI (N + 1)) (nI_1 N) ?_
      refine q_i (r_S S ⟨m_487, m_488, m_22, m_489⟩ ⟨rfl, by decide, by decide, by decide +kernel⟩ (kL_low l (y >>> (13 &&& 31)) (N + 1) (by first | decide | omega) (by first | decide | omega)) ⟨rfl, rfl, Nat.le_of_ble_eq_true rfl, Nat.le_of_ble_eq_true rfl⟩ (ps bl_GL (bG hK.2)) (n := 2) (As := [.int (y >>> (13 &&& 31)), .int (nI (N + 1))]) (rest := []) rfl hl.1 rfl (Nat.le_of_ble_eq_true rfl) ⟨Nat.le_of_ble_eq_true rfl, Nat.le_of_ble_eq_true rfl⟩ dL_moves_91) (fun rq70 ⟨jw, hjw, eq70⟩ => ?_)
      subst eq70
      refine lv_istore (lv' := [(9, .int (nI jw)), (7, .int (nI ar)), (6, .int x2), (5, .int x1), (0, .ref (o 0)), (1, .ref (t 0)), (2, .ref (a 4)), (3, .int x), (4, .int y), (8, .int (nI q))]) hx hb dL_moves_94 hl (by decide) rfl (fun ls hl => ?_)
      refine W.widen (k := 0) (n := 0) (by omega) (by omega) ?_
      exact J96 jw (by omega) H9 L9 hW hS ls (lv_sub hl [1, 2, 3, 4, 5, 6, 7, 8, 9, 0] rfl)
    · skip
      refine lv_aload_n hx hb dL_moves_75 rfl (lv_at hl 5 rfl) ?_
      refine lv_iconst (v := 0) hx hb dL_moves_76 (by decide) ?_
      refine k_ldQ S hK hW 4 (by decide) (i := 0) (show 0 < 3 by omega) dL_moves_77 ?_
      refine k_eq (y := nI N) (hA.g0) ?_
      refine lv_goto (tgt := 94) hx hb dL_moves_78 (by decide) ?_
      refine lv_istore (lv' := [(9, .int (nI N)), (7, .int (nI ar)), (6, .int x2), (5, .int x1), (0, .ref (o 0)), (1, .ref (t 0)), (2, .ref (a 4)), (3, .int x), (4, .int y), (8, .int (nI q))]) hx hb dL_moves_94 hl (by decide) rfl (fun ls hl => ?_)
      refine W.widen (k := 0) (n := 0) (by omega) (by omega) ?_
      exact J96 N (Nat.le_refl N) H9 L9 hW hS ls (lv_sub hl [1, 2, 3, 4, 5, 6, 7, 8, 9, 0] rfl)
  refine lv_iconst (v := 1) hx hb dL_moves_33 (by decide) ?_
  refine lv_iload hx hb dL_moves_34 (lv_at hl 7 rfl) ?_
  refine lv_bipush (v := 8) hx hb dL_moves_36 (by decide) ?_
  refine lv_ishr hx hb dL_moves_38 ?_
  refine lv_iload_n hx hb dL_moves_39 rfl (lv_at hl 6 rfl) ?_
  refine lv_bipush (v := 8) hx hb dL_moves_40 (by decide) ?_
  refine lv_ishr hx hb dL_moves_42 ?_
  refine lv_iconst (v := 4) hx hb dL_moves_43 (by decide) ?_
  refine q_i (r_S S ⟨m_487, m_488, m_22, m_489⟩ ⟨rfl, by decide, by decide, by decide +kernel⟩ (kL_low l (x >>> (8 &&& 31)) 4 (by first | decide | omega) (by first | decide | omega)) ⟨rfl, rfl, Nat.le_of_ble_eq_true rfl, Nat.le_of_ble_eq_true rfl⟩ (ps bl_GL (bG hK.2)) (n := 2) (As := [.int (x >>> (8 &&& 31)), .int 4]) (rest := [.int (y >>> (8 &&& 31)), .int 1]) rfl hl.1 rfl (Nat.le_of_ble_eq_true rfl) ⟨Nat.le_of_ble_eq_true rfl, Nat.le_of_ble_eq_true rfl⟩ dL_moves_44) (fun rq71 ⟨jq, hjq, eq71⟩ => ?_)
  subst eq71
  refine lv_if_ne (tgt := 56) hx hb dL_moves_47 (by decide) (fun cq => ?_) (fun cq => ?_)
  · skip
    refine lv_bipush (v := 30) hx hb dL_moves_56 (by decide) ?_
    refine q_i (r_S S ⟨m_487, m_488, m_22, m_489⟩ ⟨rfl, by decide, by decide, by decide +kernel⟩ (kL_low l (y >>> (8 &&& 31)) 30 (by first | decide | omega) (by first | decide | omega)) ⟨rfl, rfl, Nat.le_of_ble_eq_true rfl, Nat.le_of_ble_eq_true rfl⟩ (ps bl_GL (bG hK.2)) (n := 2) (As := [.int (y >>> (8 &&& 31)), .int 30]) (rest := [.int 1]) rfl hl.1 rfl (Nat.le_of_ble_eq_true rfl) ⟨Nat.le_of_ble_eq_true rfl, Nat.le_of_ble_eq_true rfl⟩ dL_moves_58) (fun rq73 ⟨jm, hjm, eq73⟩ => ?_)
    subst eq73
    refine lv_iadd hx hb dL_moves_61 ?_
    refine k_eq (y := nI (1 + jm)) (nI_add 1 jm) ?_
    refine lv_istore (lv' := [(8, .int (nI (1 + jm))), (7, .int (nI ar)), (6, .int x2), (5, .int x1), (0, .ref (o 0)), (1, .ref (t 0)), (2, .ref (a 4)), (3, .int x), (4, .int y)]) hx hb dL_moves_62 hl (by decide) rfl (fun ls hl => ?_)
    refine W.widen (k := 0) (n := 0) (by omega) (by omega) ?_
    exact J64 (1 + jm) ⟨by omega, by omega⟩ s.heap _ hW hS ls (lv_sub hl [1, 2, 3, 4, 5, 6, 7, 8, 0] rfl)
  · skip
    refine lv_sipush (v := 1000) hx hb dL_moves_50 (by decide) ?_
    refine lv_goto (tgt := 58) hx hb dL_moves_53 (by decide) ?_
    refine q_i (r_S S ⟨m_487, m_488, m_22, m_489⟩ ⟨rfl, by decide, by decide, by decide +kernel⟩ (kL_low l (y >>> (8 &&& 31)) 1000 (by first | decide | omega) (by first | decide | omega)) ⟨rfl, rfl, Nat.le_of_ble_eq_true rfl, Nat.le_of_ble_eq_true rfl⟩ (ps bl_GL (bG hK.2)) (n := 2) (As := [.int (y >>> (8 &&& 31)), .int 1000]) (rest := [.int 1]) rfl hl.1 rfl (Nat.le_of_ble_eq_true rfl) ⟨Nat.le_of_ble_eq_true rfl, Nat.le_of_ble_eq_true rfl⟩ dL_moves_58) (fun rq74 ⟨jm, hjm, eq74⟩ => ?_)
    subst eq74
    refine lv_iadd hx hb dL_moves_61 ?_
    refine k_eq (y := nI (1 + jm)) (nI_add 1 jm) ?_
    refine lv_istore (lv' := [(8, .int (nI (1 + jm))), (7, .int (nI ar)), (6, .int x2), (5, .int x1), (0, .ref (o 0)), (1, .ref (t 0)), (2, .ref (a 4)), (3, .int x), (4, .int y)]) hx hb dL_moves_62 hl (by decide) rfl (fun ls hl => ?_)
    refine W.widen (k := 0) (n := 0) (by omega) (by omega) ?_
    exact J64 (1 + jm) ⟨by omega, by omega⟩ s.heap _ hW hS ls (lv_sub hl [1, 2, 3, 4, 5, 6, 7, 8, 0] rfl)
