set_option maxHeartbeats 4000000 in
set_option maxRecDepth 100000 in
theorem K_setPrice {p : Program} {l : Launch} {e : Env} {s : State} {m : MethodId} {below : List Frame} {meth : Method} {c : Code} {H : Heap} {locs : List Loc} {cells slots : Nat} {Q : State → Prop} {b L : Nat} {xs : Nat → Int32} {G : kG} {aX aM : Nat → Nat} {ao : Nat} (F : LFix p l s m meth c b L xs G aX aM ao) {n : Nat} (hn : 6 * n + 6 ≤ L) {σ μ : kS} (hR : RR σ μ n) (hI : LI G aX aM ao s σ μ H locs) (hc : cells + 6 ≤ room_1.cells) (hs : slots + 36 ≤ room_1.slots) (next : ∀ (σ9 μ9 : kS) (H9 : Heap) (L9 : List Loc), RR σ9 μ9 (n + 1) → LI G aX aM ao s σ9 μ9 H9 L9 → ∀ ls, lv_has ls 7 [(0, .ref b), (1, .ref (aX 0)), (2, .ref (aM 0)), (3, .ref ao), (4, .int (nI (6 * n)))] → W p l e room_1 s m #[Value.ref b] below meth c H9 L9 (cells + 6) (slots + 36) Q (F0 m 1590 ls [])) {ls : Array Slot} (hl : lv_has ls 7 [(0, .ref b), (1, .ref (aX 0)), (2, .ref (aM 0)), (3, .ref ao), (4, .int (nI (6 * n)))]) : W p l e room_1 s m #[Value.ref b] below meth c H locs cells slots Q (F0 m 152 ls []) := by
  obtain ⟨nm, ns, N, Sz, hr⟩ := hR
  obtain ⟨hPX, hPM, ⟨f, hPO⟩, hS⟩ := hI
  have S := F.S
  have hx := S.1
  have hb := S.2.1
  have hL := F.hL
  have hXX : PX G aX σ s H := ⟨hPX, F.hK⟩
  have hMM : PM G aM μ s H := ⟨hPM, F.hK⟩
  refine lv_aload_n hx hb dL_law_152 rfl (lv_at hl 1 rfl) ?_
  refine lv_aload_n hx hb dL_law_153 rfl (lv_at hl 0 rfl) ?_
  refine lv_iload hx hb dL_law_154 (lv_at hl 4 rfl) ?_
  refine lv_iconst (v := 1) hx hb dL_law_156 (by decide) ?_
  refine lv_iadd hx hb dL_law_157 ?_
  refine k_eq (y := nI (6 * n + 1)) (nI_add (6 * n) 1) ?_
  refine k_sld F hS (k := 6 * n + 1) (by omega) dL_law_158 ?_
  refine lv_aload_n hx hb dL_law_159 rfl (lv_at hl 0 rfl) ?_
  refine lv_iload hx hb dL_law_160 (lv_at hl 4 rfl) ?_
  refine lv_iconst (v := 2) hx hb dL_law_162 (by decide) ?_
  refine lv_iadd hx hb dL_law_163 ?_
  refine k_eq (y := nI (6 * n + 2)) (nI_add (6 * n) 2) ?_
  refine k_sld F hS (k := 6 * n + 2) (by omega) dL_law_164 ?_
  refine lv_aload_n hx hb dL_law_165 rfl (lv_at hl 3 rfl) ?_
  refine q_lh (rx_SX S ⟨m_222, m_223, m_34, m_224⟩ ⟨rfl, by decide, by decide, by decide +kernel⟩ (cL_setPrice_c l G aX σ nm ns (xs (6 * n + 1)) (xs (6 * n + 2)) F.hst ((hr.eq 18 0 (by decide)).trans hr.hns) hr.hns4 ((hr.eq 17 0 (by decide)).trans hr.hnm) hr.hnm2 ao f (AX aX) F.dX F.xo) ⟨rfl, rfl, Nat.le_of_ble_eq_true rfl, Nat.le_of_ble_eq_true rfl⟩ (ps bl_PL (fun U hU hW => by show PX G aX σ U U.heap ∧ ZS U U.heap ∧ va_P G.1 vwCl (wO G ao f) U.heap; rw [hU]; exact ⟨hXX.warm hW, (F.zs hS).warm hW, hPO⟩)) (n := 4) (As := [.ref (aX 0), .int (xs (6 * n + 1)), .int (xs (6 * n + 2)), .ref ao]) (rest := []) rfl hl.1 rfl (Nat.le_of_ble_eq_true rfl) ⟨Nat.le_trans (by omega) hc, Nat.le_trans (by omega) hs⟩ dL_law_166) hS (fun q hq => hq.elim (F.nX q) (fun h9 => by rw [h9]; exact F.nO)) (fun r f1 H1 L1 hO1 hd f9 hS1 => ?_)
  have hM1 : PM G aM μ s H1 := ⟨F.keepM hPM f9, F.hK⟩
  obtain ⟨op1, op2⟩ := op_setPrice hr (by omega) (xs (6 * n + 1)) (xs (6 * n + 2))
  refine lv_istore (lv' := [(5, .int r), (0, .ref b), (1, .ref (aX 0)), (2, .ref (aM 0)), (3, .ref ao), (4, .int (nI (6 * n)))]) hx hb dL_law_169 hl (by decide) rfl (fun ls hl => ?_)
  refine lv_aload_n hx hb dL_law_171 rfl (lv_at hl 3 rfl) ?_
  refine lv_aload_n hx hb dL_law_172 rfl (lv_at hl 1 rfl) ?_
  refine lv_iload hx hb dL_law_173 (lv_at hl 5 rfl) ?_
  refine lv_iconst (v := 1) hx hb dL_law_175 (by decide) ?_
  refine lv_iadd hx hb dL_law_176 ?_
  refine k_eq (y := nI (6 * n + 1)) (nI_add (6 * n) 1) ?_
  refine k_sld F hS1 (k := 6 * n + 1) (by omega) dL_law_177 ?_
  refine lv_aload_n hx hb dL_law_178 rfl (lv_at hl 1 rfl) ?_
  refine lv_iload hx hb dL_law_179 (lv_at hl 5 rfl) ?_
  refine lv_iconst (v := 2) hx hb dL_law_181 (by decide) ?_
  refine lv_iadd hx hb dL_law_182 ?_
  refine k_eq (y := nI (6 * n + 2)) (nI_add (6 * n) 2) ?_
  refine k_sld F hS1 (k := 6 * n + 2) (by omega) dL_law_183 ?_
  refine q_w (r_V S ⟨m_640, m_641, m_642, m_40, m_643⟩ ⟨rfl, by decide, by decide, by decide +kernel⟩ (c4_setPrice l G aM μ nm ns (xs (6 * n + 1)) (xs (6 * n + 2)) hr.hns hr.hns4 hr.hnm hr.hnm2 (AM aM) F.dM) ⟨rfl, rfl, Nat.le_of_ble_eq_true rfl, Nat.le_of_ble_eq_true rfl⟩ (pv_M hM1 bl_PM (bM hM1)) (n := 2) (As := [.int (xs (6 * n + 1)), .int (xs (6 * n + 2))]) (rest := []) rfl hl.1 rfl (Nat.le_of_ble_eq_true rfl) ⟨Nat.le_trans (by omega) hc, Nat.le_trans (by omega) hs⟩ dL_law_184) hS1 F.nM (fun b9 H2 L2 hb9 hM2 _ f10 hS2 => ?_)
  subst hb9
  have hO2 := F.keepO hO1 f10
  have hMM2 : PM G aM (sM (ckR (xs (6 * n + 1)) 0 4, ckR (xs (6 * n + 2)) 0 1000, true) μ (fun κ => su κ 0 (ixN (xs (6 * n + 1))) (xs (6 * n + 2)))) s H2 := ⟨hM2, F.hK⟩
  refine lv_istore (lv' := [(6, .int (vM (ckR (xs (6 * n + 1)) 0 4, ckR (xs (6 * n + 2)) 0 1000, true) (μ 0 (ixN (xs (6 * n + 1)))))), (5, .int r), (0, .ref b), (1, .ref (aX 0)), (2, .ref (aM 0)), (3, .ref ao), (4, .int (nI (6 * n)))]) hx hb dL_law_187 hl (by decide) rfl (fun ls hl => ?_)
  refine lv_aload_n hx hb dL_law_189 rfl (lv_at hl 4 rfl) ?_
  refine q_i (r_V S ⟨m_636, m_637, m_638, m_40, m_639⟩ ⟨rfl, by decide, by decide, by decide +kernel⟩ (c4_thrown l G aM (sM (ckR (xs (6 * n + 1)) 0 4, ckR (xs (6 * n + 2)) 0 1000, true) μ (fun κ => su κ 0 (ixN (xs (6 * n + 1))) (xs (6 * n + 2))))) ⟨rfl, rfl, Nat.le_of_ble_eq_true rfl, Nat.le_of_ble_eq_true rfl⟩ (pv_M hMM2 bl_PM (bM hMM2)) (n := 0) (As := []) (rest := []) rfl hl.1 rfl (Nat.le_of_ble_eq_true rfl) ⟨Nat.le_trans (by omega) hc, Nat.le_trans (by omega) hs⟩ dL_law_190) (fun t9 ht9 => ?_)
  subst ht9
  refine lv_iload hx hb dL_law_193 (lv_at hl 1 rfl) ?_
  rcases hd with ⟨hE, hr0, hf0, hX1⟩ | ⟨hE, hr0, hX1⟩
  · obtain ⟨g1, g2, g3⟩ := op1 hE
    subst hr0
    have hX2 := F.keepX hX1 f10
    refine lv_icmp_eq (tgt := 200) hx hb dL_law_195 (by decide) (fun c1 => ?_) (fun c1 => ?_)
    · refine lv_iload hx hb dL_law_200 (lv_at hl 1 rfl) ?_
      refine lv_if_ne (tgt := 217) hx hb dL_law_202 (by decide) (fun c2 => ?_) (fun c2 => ?_)
      · exact absurd rfl c2
      · refine lv_aload_n hx hb dL_law_205 rfl (lv_at hl 5 rfl) ?_
        refine lv_iconst (v := 0) hx hb dL_law_206 (by decide) ?_
        refine va_lald (D := G.1) hx hb F.hK.1 hO2 0 2 rfl rfl (vp_in_nI (n := 0) (N := 1) (by decide) (by decide)) dL_law_207 ?_
        refine lv_iload hx hb dL_law_208 (lv_at hl 0 rfl) ?_
        refine lv_i2l (v := (vM (ckR (xs (6 * n + 1)) 0 4, ckR (xs (6 * n + 2)) 0 1000, true) (μ 0 (ixN (xs (6 * n + 1)))) : Int32).toInt64) hx hb dL_law_210 rfl ?_
        refine W.lcmp hx hb dL_law_211 ?_
        refine k_eq (y := 0) (lcmp_ne (hf0.trans g2)) ?_
        refine lv_if_eq (tgt := 217) hx hb dL_law_212 (by decide) (fun c7 => ?_) (fun c7 => ?_)
        · skip
          refine lv_goto (tgt := 1590) hx hb dL_law_217 (by decide) ?_
          exact W.widen (k := cells + 6) (n := slots + 36) (by omega) (by omega) (next _ _ _ _ g3 ⟨hX2, hM2, ⟨_, hO2⟩, hS2⟩ ls (lv_sub hl [2, 3, 4, 5, 6] rfl))
        · exact absurd rfl c7
    · exact absurd g1 c1
  · obtain ⟨g1, g3⟩ := op2 hE
    subst hr0
    have hp : (if eX_setPrice (xs (6 * n + 1)) (xs (6 * n + 2)) = 1 then 1 else if eX_setPrice (xs (6 * n + 1)) (xs (6 * n + 2)) = 2 then 2 else 3 : Int32) ≠ 0 := by (repeat' split) <;> decide
    have hX2 := F.keepX hX1 f10
    refine lv_icmp_eq (tgt := 200) hx hb dL_law_195 (by decide) (fun c1 => ?_) (fun c1 => ?_)
    · refine lv_iload hx hb dL_law_200 (lv_at hl 1 rfl) ?_
      refine lv_if_ne (tgt := 217) hx hb dL_law_202 (by decide) (fun c2 => ?_) (fun c2 => ?_)
      · skip
        refine lv_goto (tgt := 1590) hx hb dL_law_217 (by decide) ?_
        exact W.widen (k := cells + 6) (n := slots + 36) (by omega) (by omega) (next _ _ _ _ g3 ⟨hX2, hM2, ⟨_, hO2⟩, hS2⟩ ls (lv_sub hl [2, 3, 4, 5, 6] rfl))
      · exact absurd c2 hp
    · exact absurd g1 c1

set_option maxHeartbeats 4000000 in
set_option maxRecDepth 100000 in
theorem K_setBound {p : Program} {l : Launch} {e : Env} {s : State} {m : MethodId} {below : List Frame} {meth : Method} {c : Code} {H : Heap} {locs : List Loc} {cells slots : Nat} {Q : State → Prop} {b L : Nat} {xs : Nat → Int32} {G : kG} {aX aM : Nat → Nat} {ao : Nat} (F : LFix p l s m meth c b L xs G aX aM ao) {n : Nat} (hn : 6 * n + 6 ≤ L) {σ μ : kS} (hR : RR σ μ n) (hI : LI G aX aM ao s σ μ H locs) (hc : cells + 6 ≤ room_1.cells) (hs : slots + 36 ≤ room_1.slots) (next : ∀ (σ9 μ9 : kS) (H9 : Heap) (L9 : List Loc), RR σ9 μ9 (n + 1) → LI G aX aM ao s σ9 μ9 H9 L9 → ∀ ls, lv_has ls 7 [(0, .ref b), (1, .ref (aX 0)), (2, .ref (aM 0)), (3, .ref ao), (4, .int (nI (6 * n)))] → W p l e room_1 s m #[Value.ref b] below meth c H9 L9 (cells + 6) (slots + 36) Q (F0 m 1590 ls [])) {ls : Array Slot} (hl : lv_has ls 7 [(0, .ref b), (1, .ref (aX 0)), (2, .ref (aM 0)), (3, .ref ao), (4, .int (nI (6 * n)))]) : W p l e room_1 s m #[Value.ref b] below meth c H locs cells slots Q (F0 m 220 ls []) := by
  obtain ⟨nm, ns, N, Sz, hr⟩ := hR
  obtain ⟨hPX, hPM, ⟨f, hPO⟩, hS⟩ := hI
  have S := F.S
  have hx := S.1
  have hb := S.2.1
  have hL := F.hL
  have hXX : PX G aX σ s H := ⟨hPX, F.hK⟩
  have hMM : PM G aM μ s H := ⟨hPM, F.hK⟩
  refine lv_aload_n hx hb dL_law_220 rfl (lv_at hl 1 rfl) ?_
  refine lv_aload_n hx hb dL_law_221 rfl (lv_at hl 0 rfl) ?_
  refine lv_iload hx hb dL_law_222 (lv_at hl 4 rfl) ?_
  refine lv_iconst (v := 1) hx hb dL_law_224 (by decide) ?_
  refine lv_iadd hx hb dL_law_225 ?_
  refine k_eq (y := nI (6 * n + 1)) (nI_add (6 * n) 1) ?_
  refine k_sld F hS (k := 6 * n + 1) (by omega) dL_law_226 ?_
  refine lv_aload_n hx hb dL_law_227 rfl (lv_at hl 0 rfl) ?_
  refine lv_iload hx hb dL_law_228 (lv_at hl 4 rfl) ?_
  refine lv_iconst (v := 2) hx hb dL_law_230 (by decide) ?_
  refine lv_iadd hx hb dL_law_231 ?_
  refine k_eq (y := nI (6 * n + 2)) (nI_add (6 * n) 2) ?_
  refine k_sld F hS (k := 6 * n + 2) (by omega) dL_law_232 ?_
  refine lv_aload_n hx hb dL_law_233 rfl (lv_at hl 3 rfl) ?_
  refine q_lh (rx_SX S ⟨m_322, m_323, m_34, m_324⟩ ⟨rfl, by decide, by decide, by decide +kernel⟩ (cL_setBound_c l G aX σ nm ns (xs (6 * n + 1)) (xs (6 * n + 2)) F.hst ((hr.eq 18 0 (by decide)).trans hr.hns) hr.hns4 ((hr.eq 17 0 (by decide)).trans hr.hnm) hr.hnm2 ao f (AX aX) F.dX F.xo) ⟨rfl, rfl, Nat.le_of_ble_eq_true rfl, Nat.le_of_ble_eq_true rfl⟩ (ps bl_PL (fun U hU hW => by show PX G aX σ U U.heap ∧ ZS U U.heap ∧ va_P G.1 vwCl (wO G ao f) U.heap; rw [hU]; exact ⟨hXX.warm hW, (F.zs hS).warm hW, hPO⟩)) (n := 4) (As := [.ref (aX 0), .int (xs (6 * n + 1)), .int (xs (6 * n + 2)), .ref ao]) (rest := []) rfl hl.1 rfl (Nat.le_of_ble_eq_true rfl) ⟨Nat.le_trans (by omega) hc, Nat.le_trans (by omega) hs⟩ dL_law_234) hS (fun q hq => hq.elim (F.nX q) (fun h9 => by rw [h9]; exact F.nO)) (fun r f1 H1 L1 hO1 hd f9 hS1 => ?_)
  have hM1 : PM G aM μ s H1 := ⟨F.keepM hPM f9, F.hK⟩
  obtain ⟨op1, op2⟩ := op_setBound hr (by omega) (xs (6 * n + 1)) (xs (6 * n + 2))
  refine lv_istore (lv' := [(5, .int r), (0, .ref b), (1, .ref (aX 0)), (2, .ref (aM 0)), (3, .ref ao), (4, .int (nI (6 * n)))]) hx hb dL_law_237 hl (by decide) rfl (fun ls hl => ?_)
  refine lv_aload_n hx hb dL_law_239 rfl (lv_at hl 3 rfl) ?_
  refine lv_aload_n hx hb dL_law_240 rfl (lv_at hl 1 rfl) ?_
  refine lv_iload hx hb dL_law_241 (lv_at hl 5 rfl) ?_
  refine lv_iconst (v := 1) hx hb dL_law_243 (by decide) ?_
  refine lv_iadd hx hb dL_law_244 ?_
  refine k_eq (y := nI (6 * n + 1)) (nI_add (6 * n) 1) ?_
  refine k_sld F hS1 (k := 6 * n + 1) (by omega) dL_law_245 ?_
  refine lv_aload_n hx hb dL_law_246 rfl (lv_at hl 1 rfl) ?_
  refine lv_iload hx hb dL_law_247 (lv_at hl 5 rfl) ?_
  refine lv_iconst (v := 2) hx hb dL_law_249 (by decide) ?_
  refine lv_iadd hx hb dL_law_250 ?_
  refine k_eq (y := nI (6 * n + 2)) (nI_add (6 * n) 2) ?_
  refine k_sld F hS1 (k := 6 * n + 2) (by omega) dL_law_251 ?_
  refine q_w (r_V S ⟨m_654, m_655, m_656, m_40, m_657⟩ ⟨rfl, by decide, by decide, by decide +kernel⟩ (c4_setBound l G aM μ nm ns (xs (6 * n + 1)) (xs (6 * n + 2)) hr.hns hr.hns4 hr.hnm hr.hnm2 (AM aM) F.dM) ⟨rfl, rfl, Nat.le_of_ble_eq_true rfl, Nat.le_of_ble_eq_true rfl⟩ (pv_M hM1 bl_PM (bM hM1)) (n := 2) (As := [.int (xs (6 * n + 1)), .int (xs (6 * n + 2))]) (rest := []) rfl hl.1 rfl (Nat.le_of_ble_eq_true rfl) ⟨Nat.le_trans (by omega) hc, Nat.le_trans (by omega) hs⟩ dL_law_252) hS1 F.nM (fun b9 H2 L2 hb9 hM2 _ f10 hS2 => ?_)
  subst hb9
  have hO2 := F.keepO hO1 f10
  have hMM2 : PM G aM (sM (ckR (xs (6 * n + 1)) 0 5, ckR (xs (6 * n + 2)) 0 1000000, true) μ (fun κ => su κ 1 (ixN (xs (6 * n + 1))) (xs (6 * n + 2)))) s H2 := ⟨hM2, F.hK⟩
  refine lv_istore (lv' := [(6, .int (vM (ckR (xs (6 * n + 1)) 0 5, ckR (xs (6 * n + 2)) 0 1000000, true) (μ 1 (ixN (xs (6 * n + 1)))))), (5, .int r), (0, .ref b), (1, .ref (aX 0)), (2, .ref (aM 0)), (3, .ref ao), (4, .int (nI (6 * n)))]) hx hb dL_law_255 hl (by decide) rfl (fun ls hl => ?_)
  refine lv_aload_n hx hb dL_law_257 rfl (lv_at hl 4 rfl) ?_
  refine q_i (r_V S ⟨m_636, m_637, m_638, m_40, m_639⟩ ⟨rfl, by decide, by decide, by decide +kernel⟩ (c4_thrown l G aM (sM (ckR (xs (6 * n + 1)) 0 5, ckR (xs (6 * n + 2)) 0 1000000, true) μ (fun κ => su κ 1 (ixN (xs (6 * n + 1))) (xs (6 * n + 2))))) ⟨rfl, rfl, Nat.le_of_ble_eq_true rfl, Nat.le_of_ble_eq_true rfl⟩ (pv_M hMM2 bl_PM (bM hMM2)) (n := 0) (As := []) (rest := []) rfl hl.1 rfl (Nat.le_of_ble_eq_true rfl) ⟨Nat.le_trans (by omega) hc, Nat.le_trans (by omega) hs⟩ dL_law_258) (fun t9 ht9 => ?_)
  subst ht9
  refine lv_iload hx hb dL_law_261 (lv_at hl 1 rfl) ?_
  rcases hd with ⟨hE, hr0, hf0, hX1⟩ | ⟨hE, hr0, hX1⟩
  · obtain ⟨g1, g2, g3⟩ := op1 hE
    subst hr0
    have hX2 := F.keepX hX1 f10
    refine lv_icmp_eq (tgt := 268) hx hb dL_law_263 (by decide) (fun c1 => ?_) (fun c1 => ?_)
    · refine lv_iload hx hb dL_law_268 (lv_at hl 1 rfl) ?_
      refine lv_if_ne (tgt := 285) hx hb dL_law_270 (by decide) (fun c2 => ?_) (fun c2 => ?_)
      · exact absurd rfl c2
      · refine lv_aload_n hx hb dL_law_273 rfl (lv_at hl 5 rfl) ?_
        refine lv_iconst (v := 0) hx hb dL_law_274 (by decide) ?_
        refine va_lald (D := G.1) hx hb F.hK.1 hO2 0 2 rfl rfl (vp_in_nI (n := 0) (N := 1) (by decide) (by decide)) dL_law_275 ?_
        refine lv_iload hx hb dL_law_276 (lv_at hl 0 rfl) ?_
        refine lv_i2l (v := (vM (ckR (xs (6 * n + 1)) 0 5, ckR (xs (6 * n + 2)) 0 1000000, true) (μ 1 (ixN (xs (6 * n + 1)))) : Int32).toInt64) hx hb dL_law_278 rfl ?_
        refine W.lcmp hx hb dL_law_279 ?_
        refine k_eq (y := 0) (lcmp_ne (hf0.trans g2)) ?_
        refine lv_if_eq (tgt := 285) hx hb dL_law_280 (by decide) (fun c7 => ?_) (fun c7 => ?_)
        · skip
          refine lv_goto (tgt := 1590) hx hb dL_law_285 (by decide) ?_
          exact W.widen (k := cells + 6) (n := slots + 36) (by omega) (by omega) (next _ _ _ _ g3 ⟨hX2, hM2, ⟨_, hO2⟩, hS2⟩ ls (lv_sub hl [2, 3, 4, 5, 6] rfl))
        · exact absurd rfl c7
    · exact absurd g1 c1
  · obtain ⟨g1, g3⟩ := op2 hE
    subst hr0
    have hp : (if eX_setBound (xs (6 * n + 1)) (xs (6 * n + 2)) = 1 then 1 else if eX_setBound (xs (6 * n + 1)) (xs (6 * n + 2)) = 2 then 2 else 3 : Int32) ≠ 0 := by (repeat' split) <;> decide
    have hX2 := F.keepX hX1 f10
    refine lv_icmp_eq (tgt := 268) hx hb dL_law_263 (by decide) (fun c1 => ?_) (fun c1 => ?_)
    · refine lv_iload hx hb dL_law_268 (lv_at hl 1 rfl) ?_
      refine lv_if_ne (tgt := 285) hx hb dL_law_270 (by decide) (fun c2 => ?_) (fun c2 => ?_)
      · skip
        refine lv_goto (tgt := 1590) hx hb dL_law_285 (by decide) ?_
        exact W.widen (k := cells + 6) (n := slots + 36) (by omega) (by omega) (next _ _ _ _ g3 ⟨hX2, hM2, ⟨_, hO2⟩, hS2⟩ ls (lv_sub hl [2, 3, 4, 5, 6] rfl))
      · exact absurd c2 hp
    · exact absurd g1 c1

set_option maxHeartbeats 4000000 in
set_option maxRecDepth 100000 in
theorem K_move {p : Program} {l : Launch} {e : Env} {s : State} {m : MethodId} {below : List Frame} {meth : Method} {c : Code} {H : Heap} {locs : List Loc} {cells slots : Nat} {Q : State → Prop} {b L : Nat} {xs : Nat → Int32} {G : kG} {aX aM : Nat → Nat} {ao : Nat} (F : LFix p l s m meth c b L xs G aX aM ao) {n : Nat} (hn : 6 * n + 6 ≤ L) {σ μ : kS} (hR : RR σ μ n) (hI : LI G aX aM ao s σ μ H locs) (hc : cells + 6 ≤ room_1.cells) (hs : slots + 36 ≤ room_1.slots) (next : ∀ (σ9 μ9 : kS) (H9 : Heap) (L9 : List Loc), RR σ9 μ9 (n + 1) → LI G aX aM ao s σ9 μ9 H9 L9 → ∀ ls, lv_has ls 7 [(0, .ref b), (1, .ref (aX 0)), (2, .ref (aM 0)), (3, .ref ao), (4, .int (nI (6 * n)))] → W p l e room_1 s m #[Value.ref b] below meth c H9 L9 (cells + 6) (slots + 36) Q (F0 m 1590 ls [])) {ls : Array Slot} (hl : lv_has ls 7 [(0, .ref b), (1, .ref (aX 0)), (2, .ref (aM 0)), (3, .ref ao), (4, .int (nI (6 * n)))]) : W p l e room_1 s m #[Value.ref b] below meth c H locs cells slots Q (F0 m 288 ls []) := by
  obtain ⟨nm, ns, N, Sz, hr⟩ := hR
  obtain ⟨hPX, hPM, ⟨f, hPO⟩, hS⟩ := hI
  have S := F.S
  have hx := S.1
  have hb := S.2.1
  have hL := F.hL
  have hXX : PX G aX σ s H := ⟨hPX, F.hK⟩
  have hMM : PM G aM μ s H := ⟨hPM, F.hK⟩
  refine lv_aload_n hx hb dL_law_288 rfl (lv_at hl 1 rfl) ?_
  refine lv_aload_n hx hb dL_law_289 rfl (lv_at hl 0 rfl) ?_
  refine lv_iload hx hb dL_law_290 (lv_at hl 4 rfl) ?_
  refine lv_iconst (v := 1) hx hb dL_law_292 (by decide) ?_
  refine lv_iadd hx hb dL_law_293 ?_
  refine k_eq (y := nI (6 * n + 1)) (nI_add (6 * n) 1) ?_
  refine k_sld F hS (k := 6 * n + 1) (by omega) dL_law_294 ?_
  refine lv_aload_n hx hb dL_law_295 rfl (lv_at hl 0 rfl) ?_
  refine lv_iload hx hb dL_law_296 (lv_at hl 4 rfl) ?_
  refine lv_iconst (v := 2) hx hb dL_law_298 (by decide) ?_
  refine lv_iadd hx hb dL_law_299 ?_
  refine k_eq (y := nI (6 * n + 2)) (nI_add (6 * n) 2) ?_
  refine k_sld F hS (k := 6 * n + 2) (by omega) dL_law_300 ?_
  refine lv_aload_n hx hb dL_law_301 rfl (lv_at hl 0 rfl) ?_
  refine lv_iload hx hb dL_law_302 (lv_at hl 4 rfl) ?_
  refine lv_iconst (v := 3) hx hb dL_law_304 (by decide) ?_
  refine lv_iadd hx hb dL_law_305 ?_
  refine k_eq (y := nI (6 * n + 3)) (nI_add (6 * n) 3) ?_
  refine k_sld F hS (k := 6 * n + 3) (by omega) dL_law_306 ?_
  refine lv_aload_n hx hb dL_law_307 rfl (lv_at hl 0 rfl) ?_
  refine lv_iload hx hb dL_law_308 (lv_at hl 4 rfl) ?_
  refine lv_iconst (v := 4) hx hb dL_law_310 (by decide) ?_
  refine lv_iadd hx hb dL_law_311 ?_
  refine k_eq (y := nI (6 * n + 4)) (nI_add (6 * n) 4) ?_
  refine k_sld F hS (k := 6 * n + 4) (by omega) dL_law_312 ?_
  refine lv_aload_n hx hb dL_law_313 rfl (lv_at hl 0 rfl) ?_
  refine lv_iload hx hb dL_law_314 (lv_at hl 4 rfl) ?_
  refine lv_iconst (v := 5) hx hb dL_law_316 (by decide) ?_
  refine lv_iadd hx hb dL_law_317 ?_
  refine k_eq (y := nI (6 * n + 5)) (nI_add (6 * n) 5) ?_
  refine k_sld F hS (k := 6 * n + 5) (by omega) dL_law_318 ?_
  refine lv_aload_n hx hb dL_law_319 rfl (lv_at hl 3 rfl) ?_
  refine q_lh (rx_SX S ⟨m_330, m_331, m_34, m_332⟩ ⟨rfl, by decide, by decide, by decide +kernel⟩ (cL_move_c l G aX σ nm ns (xs (6 * n + 1)) (xs (6 * n + 2)) (xs (6 * n + 3)) (xs (6 * n + 4)) (xs (6 * n + 5)) F.hst ((hr.eq 18 0 (by decide)).trans hr.hns) hr.hns4 ((hr.eq 17 0 (by decide)).trans hr.hnm) hr.hnm2 ao f (AX aX) F.dX F.xo) ⟨rfl, rfl, Nat.le_of_ble_eq_true rfl, Nat.le_of_ble_eq_true rfl⟩ (ps bl_PL (fun U hU hW => by show PX G aX σ U U.heap ∧ ZS U U.heap ∧ va_P G.1 vwCl (wO G ao f) U.heap; rw [hU]; exact ⟨hXX.warm hW, (F.zs hS).warm hW, hPO⟩)) (n := 7) (As := [.ref (aX 0), .int (xs (6 * n + 1)), .int (xs (6 * n + 2)), .int (xs (6 * n + 3)), .int (xs (6 * n + 4)), .int (xs (6 * n + 5)), .ref ao]) (rest := []) rfl hl.1 rfl (Nat.le_of_ble_eq_true rfl) ⟨Nat.le_trans (by omega) hc, Nat.le_trans (by omega) hs⟩ dL_law_320) hS (fun q hq => hq.elim (F.nX q) (fun h9 => by rw [h9]; exact F.nO)) (fun r f1 H1 L1 hO1 hd f9 hS1 => ?_)
  have hM1 : PM G aM μ s H1 := ⟨F.keepM hPM f9, F.hK⟩
  obtain ⟨op1, op2⟩ := op_move hr (by omega) (xs (6 * n + 1)) (xs (6 * n + 2)) (xs (6 * n + 3)) (xs (6 * n + 4)) (xs (6 * n + 5))
  refine lv_istore (lv' := [(5, .int r), (0, .ref b), (1, .ref (aX 0)), (2, .ref (aM 0)), (3, .ref ao), (4, .int (nI (6 * n)))]) hx hb dL_law_323 hl (by decide) rfl (fun ls hl => ?_)
  refine lv_aload_n hx hb dL_law_325 rfl (lv_at hl 3 rfl) ?_
  refine lv_aload_n hx hb dL_law_326 rfl (lv_at hl 1 rfl) ?_
  refine lv_iload hx hb dL_law_327 (lv_at hl 5 rfl) ?_
  refine lv_iconst (v := 1) hx hb dL_law_329 (by decide) ?_
  refine lv_iadd hx hb dL_law_330 ?_
  refine k_eq (y := nI (6 * n + 1)) (nI_add (6 * n) 1) ?_
  refine k_sld F hS1 (k := 6 * n + 1) (by omega) dL_law_331 ?_
  refine lv_aload_n hx hb dL_law_332 rfl (lv_at hl 1 rfl) ?_
  refine lv_iload hx hb dL_law_333 (lv_at hl 5 rfl) ?_
  refine lv_iconst (v := 2) hx hb dL_law_335 (by decide) ?_
  refine lv_iadd hx hb dL_law_336 ?_
  refine k_eq (y := nI (6 * n + 2)) (nI_add (6 * n) 2) ?_
  refine k_sld F hS1 (k := 6 * n + 2) (by omega) dL_law_337 ?_
  refine lv_aload_n hx hb dL_law_338 rfl (lv_at hl 1 rfl) ?_
  refine lv_iload hx hb dL_law_339 (lv_at hl 5 rfl) ?_
  refine lv_iconst (v := 3) hx hb dL_law_341 (by decide) ?_
  refine lv_iadd hx hb dL_law_342 ?_
  refine k_eq (y := nI (6 * n + 3)) (nI_add (6 * n) 3) ?_
  refine k_sld F hS1 (k := 6 * n + 3) (by omega) dL_law_343 ?_
  refine lv_aload_n hx hb dL_law_344 rfl (lv_at hl 1 rfl) ?_
  refine lv_iload hx hb dL_law_345 (lv_at hl 5 rfl) ?_
  refine lv_iconst (v := 4) hx hb dL_law_347 (by decide) ?_
  refine lv_iadd hx hb dL_law_348 ?_
  refine k_eq (y := nI (6 * n + 4)) (nI_add (6 * n) 4) ?_
  refine k_sld F hS1 (k := 6 * n + 4) (by omega) dL_law_349 ?_
  refine lv_aload_n hx hb dL_law_350 rfl (lv_at hl 1 rfl) ?_
  refine lv_iload hx hb dL_law_351 (lv_at hl 5 rfl) ?_
  refine lv_iconst (v := 5) hx hb dL_law_353 (by decide) ?_
  refine lv_iadd hx hb dL_law_354 ?_
  refine k_eq (y := nI (6 * n + 5)) (nI_add (6 * n) 5) ?_
  refine k_sld F hS1 (k := 6 * n + 5) (by omega) dL_law_355 ?_
  refine q_w (r_V S ⟨m_659, m_660, m_661, m_40, m_662⟩ ⟨rfl, by decide, by decide, by decide +kernel⟩ (c4_move l G aM μ nm ns (xs (6 * n + 1)) (xs (6 * n + 2)) (xs (6 * n + 3)) (xs (6 * n + 4)) (xs (6 * n + 5)) hr.hns hr.hns4 hr.hnm hr.hnm2 (AM aM) F.dM) ⟨rfl, rfl, Nat.le_of_ble_eq_true rfl, Nat.le_of_ble_eq_true rfl⟩ (pv_M hM1 bl_PM (bM hM1)) (n := 5) (As := [.int (xs (6 * n + 1)), .int (xs (6 * n + 2)), .int (xs (6 * n + 3)), .int (xs (6 * n + 4)), .int (xs (6 * n + 5))]) (rest := []) rfl hl.1 rfl (Nat.le_of_ble_eq_true rfl) ⟨Nat.le_trans (by omega) hc, Nat.le_trans (by omega) hs⟩ dL_law_356) hS1 F.nM (fun b9 H2 L2 hb9 hM2 _ f10 hS2 => ?_)
  subst hb9
  have hO2 := F.keepO hO1 f10
  have hMM2 : PM G aM (sM (ckR (xs (6 * n + 1)) (-1) 11 && ckR (xs (6 * n + 2)) (-1) 11 && ckR (xs (6 * n + 3)) 0 4, !decide ((xs (6 * n + 1)) = (xs (6 * n + 2))) && ckR (xs (6 * n + 4)) 1 1000 && ckR (xs (6 * n + 5)) 0 (μ 16 0), decide (μ 17 0 < 200)) μ (fun κ => mvM κ nm (xs (6 * n + 1)) (xs (6 * n + 2)) (xs (6 * n + 3)) (xs (6 * n + 4)) (xs (6 * n + 5)))) s H2 := ⟨hM2, F.hK⟩
  refine lv_istore (lv' := [(6, .int (vM (ckR (xs (6 * n + 1)) (-1) 11 && ckR (xs (6 * n + 2)) (-1) 11 && ckR (xs (6 * n + 3)) 0 4, !decide ((xs (6 * n + 1)) = (xs (6 * n + 2))) && ckR (xs (6 * n + 4)) 1 1000 && ckR (xs (6 * n + 5)) 0 (μ 16 0), decide (μ 17 0 < 200)) (nI nm))), (5, .int r), (0, .ref b), (1, .ref (aX 0)), (2, .ref (aM 0)), (3, .ref ao), (4, .int (nI (6 * n)))]) hx hb dL_law_359 hl (by decide) rfl (fun ls hl => ?_)
  refine lv_aload_n hx hb dL_law_361 rfl (lv_at hl 4 rfl) ?_
  refine q_i (r_V S ⟨m_636, m_637, m_638, m_40, m_639⟩ ⟨rfl, by decide, by decide, by decide +kernel⟩ (c4_thrown l G aM (sM (ckR (xs (6 * n + 1)) (-1) 11 && ckR (xs (6 * n + 2)) (-1) 11 && ckR (xs (6 * n + 3)) 0 4, !decide ((xs (6 * n + 1)) = (xs (6 * n + 2))) && ckR (xs (6 * n + 4)) 1 1000 && ckR (xs (6 * n + 5)) 0 (μ 16 0), decide (μ 17 0 < 200)) μ (fun κ => mvM κ nm (xs (6 * n + 1)) (xs (6 * n + 2)) (xs (6 * n + 3)) (xs (6 * n + 4)) (xs (6 * n + 5))))) ⟨rfl, rfl, Nat.le_of_ble_eq_true rfl, Nat.le_of_ble_eq_true rfl⟩ (pv_M hMM2 bl_PM (bM hMM2)) (n := 0) (As := []) (rest := []) rfl hl.1 rfl (Nat.le_of_ble_eq_true rfl) ⟨Nat.le_trans (by omega) hc, Nat.le_trans (by omega) hs⟩ dL_law_362) (fun t9 ht9 => ?_)
  subst ht9
  refine lv_iload hx hb dL_law_365 (lv_at hl 1 rfl) ?_
  rcases hd with ⟨hE, hr0, hf0, hX1⟩ | ⟨hE, hr0, hX1⟩
  · obtain ⟨g1, g2, g3⟩ := op1 hE
    subst hr0
    have hX2 := F.keepX hX1 f10
    refine lv_icmp_eq (tgt := 372) hx hb dL_law_367 (by decide) (fun c1 => ?_) (fun c1 => ?_)
    · refine lv_iload hx hb dL_law_372 (lv_at hl 1 rfl) ?_
      refine lv_if_ne (tgt := 389) hx hb dL_law_374 (by decide) (fun c2 => ?_) (fun c2 => ?_)
      · exact absurd rfl c2
      · refine lv_aload_n hx hb dL_law_377 rfl (lv_at hl 5 rfl) ?_
        refine lv_iconst (v := 0) hx hb dL_law_378 (by decide) ?_
        refine va_lald (D := G.1) hx hb F.hK.1 hO2 0 2 rfl rfl (vp_in_nI (n := 0) (N := 1) (by decide) (by decide)) dL_law_379 ?_
        refine lv_iload hx hb dL_law_380 (lv_at hl 0 rfl) ?_
        refine lv_i2l (v := (vM (ckR (xs (6 * n + 1)) (-1) 11 && ckR (xs (6 * n + 2)) (-1) 11 && ckR (xs (6 * n + 3)) 0 4, !decide ((xs (6 * n + 1)) = (xs (6 * n + 2))) && ckR (xs (6 * n + 4)) 1 1000 && ckR (xs (6 * n + 5)) 0 (μ 16 0), decide (μ 17 0 < 200)) (nI nm) : Int32).toInt64) hx hb dL_law_382 rfl ?_
        refine W.lcmp hx hb dL_law_383 ?_
        refine k_eq (y := 0) (lcmp_ne (hf0.trans g2)) ?_
        refine lv_if_eq (tgt := 389) hx hb dL_law_384 (by decide) (fun c7 => ?_) (fun c7 => ?_)
        · skip
          refine lv_goto (tgt := 1590) hx hb dL_law_389 (by decide) ?_
          exact W.widen (k := cells + 6) (n := slots + 36) (by omega) (by omega) (next _ _ _ _ g3 ⟨hX2, hM2, ⟨_, hO2⟩, hS2⟩ ls (lv_sub hl [2, 3, 4, 5, 6] rfl))
        · exact absurd rfl c7
    · exact absurd g1 c1
  · obtain ⟨g1, g3⟩ := op2 hE
    subst hr0
    have hp : (if eX_move σ (xs (6 * n + 1)) (xs (6 * n + 2)) (xs (6 * n + 3)) (xs (6 * n + 4)) (xs (6 * n + 5)) = 1 then 1 else if eX_move σ (xs (6 * n + 1)) (xs (6 * n + 2)) (xs (6 * n + 3)) (xs (6 * n + 4)) (xs (6 * n + 5)) = 2 then 2 else 3 : Int32) ≠ 0 := by (repeat' split) <;> decide
    have hX2 := F.keepX hX1 f10
    refine lv_icmp_eq (tgt := 372) hx hb dL_law_367 (by decide) (fun c1 => ?_) (fun c1 => ?_)
    · refine lv_iload hx hb dL_law_372 (lv_at hl 1 rfl) ?_
      refine lv_if_ne (tgt := 389) hx hb dL_law_374 (by decide) (fun c2 => ?_) (fun c2 => ?_)
      · skip
        refine lv_goto (tgt := 1590) hx hb dL_law_389 (by decide) ?_
        exact W.widen (k := cells + 6) (n := slots + 36) (by omega) (by omega) (next _ _ _ _ g3 ⟨hX2, hM2, ⟨_, hO2⟩, hS2⟩ ls (lv_sub hl [2, 3, 4, 5, 6] rfl))
      · exact absurd c2 hp
    · exact absurd g1 c1

set_option maxHeartbeats 4000000 in
set_option maxRecDepth 100000 in
theorem K_pass {p : Program} {l : Launch} {e : Env} {s : State} {m : MethodId} {below : List Frame} {meth : Method} {c : Code} {H : Heap} {locs : List Loc} {cells slots : Nat} {Q : State → Prop} {b L : Nat} {xs : Nat → Int32} {G : kG} {aX aM : Nat → Nat} {ao : Nat} (F : LFix p l s m meth c b L xs G aX aM ao) {n : Nat} (hn : 6 * n + 6 ≤ L) {σ μ : kS} (hR : RR σ μ n) (hI : LI G aX aM ao s σ μ H locs) (hc : cells + 6 ≤ room_1.cells) (hs : slots + 36 ≤ room_1.slots) (next : ∀ (σ9 μ9 : kS) (H9 : Heap) (L9 : List Loc), RR σ9 μ9 (n + 1) → LI G aX aM ao s σ9 μ9 H9 L9 → ∀ ls, lv_has ls 7 [(0, .ref b), (1, .ref (aX 0)), (2, .ref (aM 0)), (3, .ref ao), (4, .int (nI (6 * n)))] → W p l e room_1 s m #[Value.ref b] below meth c H9 L9 (cells + 6) (slots + 36) Q (F0 m 1590 ls [])) {ls : Array Slot} (hl : lv_has ls 7 [(0, .ref b), (1, .ref (aX 0)), (2, .ref (aM 0)), (3, .ref ao), (4, .int (nI (6 * n)))]) : W p l e room_1 s m #[Value.ref b] below meth c H locs cells slots Q (F0 m 392 ls []) := by
  obtain ⟨nm, ns, N, Sz, hr⟩ := hR
  obtain ⟨hPX, hPM, ⟨f, hPO⟩, hS⟩ := hI
  have S := F.S
  have hx := S.1
  have hb := S.2.1
  have hL := F.hL
  have hXX : PX G aX σ s H := ⟨hPX, F.hK⟩
  have hMM : PM G aM μ s H := ⟨hPM, F.hK⟩
  refine lv_aload_n hx hb dL_law_392 rfl (lv_at hl 1 rfl) ?_
  refine lv_aload_n hx hb dL_law_393 rfl (lv_at hl 0 rfl) ?_
  refine lv_iload hx hb dL_law_394 (lv_at hl 4 rfl) ?_
  refine lv_iconst (v := 1) hx hb dL_law_396 (by decide) ?_
  refine lv_iadd hx hb dL_law_397 ?_
  refine k_eq (y := nI (6 * n + 1)) (nI_add (6 * n) 1) ?_
  refine k_sld F hS (k := 6 * n + 1) (by omega) dL_law_398 ?_
  refine lv_aload_n hx hb dL_law_399 rfl (lv_at hl 3 rfl) ?_
  refine q_lh (rx_SX S ⟨m_362, m_363, m_34, m_364⟩ ⟨rfl, by decide, by decide, by decide +kernel⟩ (cL_pass_c l G aX σ nm ns (xs (6 * n + 1)) F.hst ((hr.eq 18 0 (by decide)).trans hr.hns) hr.hns4 ((hr.eq 17 0 (by decide)).trans hr.hnm) hr.hnm2 ao f (AX aX) F.dX F.xo) ⟨rfl, rfl, Nat.le_of_ble_eq_true rfl, Nat.le_of_ble_eq_true rfl⟩ (ps bl_PL (fun U hU hW => by show PX G aX σ U U.heap ∧ ZS U U.heap ∧ va_P G.1 vwCl (wO G ao f) U.heap; rw [hU]; exact ⟨hXX.warm hW, (F.zs hS).warm hW, hPO⟩)) (n := 3) (As := [.ref (aX 0), .int (xs (6 * n + 1)), .ref ao]) (rest := []) rfl hl.1 rfl (Nat.le_of_ble_eq_true rfl) ⟨Nat.le_trans (by omega) hc, Nat.le_trans (by omega) hs⟩ dL_law_400) hS (fun q hq => hq.elim (F.nX q) (fun h9 => by rw [h9]; exact F.nO)) (fun r f1 H1 L1 hO1 hd f9 hS1 => ?_)
  have hM1 : PM G aM μ s H1 := ⟨F.keepM hPM f9, F.hK⟩
  obtain ⟨op1, op2⟩ := op_pass hr (by omega) (xs (6 * n + 1))
  refine lv_istore (lv' := [(5, .int r), (0, .ref b), (1, .ref (aX 0)), (2, .ref (aM 0)), (3, .ref ao), (4, .int (nI (6 * n)))]) hx hb dL_law_403 hl (by decide) rfl (fun ls hl => ?_)
  refine lv_aload_n hx hb dL_law_405 rfl (lv_at hl 3 rfl) ?_
  refine lv_aload_n hx hb dL_law_406 rfl (lv_at hl 1 rfl) ?_
  refine lv_iload hx hb dL_law_407 (lv_at hl 5 rfl) ?_
  refine lv_iconst (v := 1) hx hb dL_law_409 (by decide) ?_
  refine lv_iadd hx hb dL_law_410 ?_
  refine k_eq (y := nI (6 * n + 1)) (nI_add (6 * n) 1) ?_
  refine k_sld F hS1 (k := 6 * n + 1) (by omega) dL_law_411 ?_
  refine q_w (r_V S ⟨m_663, m_664, m_665, m_40, m_666⟩ ⟨rfl, by decide, by decide, by decide +kernel⟩ (c4_pass l G aM μ nm ns (xs (6 * n + 1)) hr.hns hr.hns4 hr.hnm hr.hnm2 (AM aM) F.dM) ⟨rfl, rfl, Nat.le_of_ble_eq_true rfl, Nat.le_of_ble_eq_true rfl⟩ (pv_M hM1 bl_PM (bM hM1)) (n := 1) (As := [.int (xs (6 * n + 1))]) (rest := []) rfl hl.1 rfl (Nat.le_of_ble_eq_true rfl) ⟨Nat.le_trans (by omega) hc, Nat.le_trans (by omega) hs⟩ dL_law_412) hS1 F.nM (fun b9 H2 L2 hb9 hM2 _ f10 hS2 => ?_)
  subst hb9
  have hO2 := F.keepO hO1 f10
  have hMM2 : PM G aM (sM (ckR (xs (6 * n + 1)) 1 1000, true, true) μ (fun κ => su κ 16 0 (κ 16 0 + (xs (6 * n + 1))))) s H2 := ⟨hM2, F.hK⟩
  refine lv_istore (lv' := [(6, .int (vM (ckR (xs (6 * n + 1)) 1 1000, true, true) (μ 16 0 + (xs (6 * n + 1))))), (5, .int r), (0, .ref b), (1, .ref (aX 0)), (2, .ref (aM 0)), (3, .ref ao), (4, .int (nI (6 * n)))]) hx hb dL_law_415 hl (by decide) rfl (fun ls hl => ?_)
  refine lv_aload_n hx hb dL_law_417 rfl (lv_at hl 4 rfl) ?_
  refine q_i (r_V S ⟨m_636, m_637, m_638, m_40, m_639⟩ ⟨rfl, by decide, by decide, by decide +kernel⟩ (c4_thrown l G aM (sM (ckR (xs (6 * n + 1)) 1 1000, true, true) μ (fun κ => su κ 16 0 (κ 16 0 + (xs (6 * n + 1)))))) ⟨rfl, rfl, Nat.le_of_ble_eq_true rfl, Nat.le_of_ble_eq_true rfl⟩ (pv_M hMM2 bl_PM (bM hMM2)) (n := 0) (As := []) (rest := []) rfl hl.1 rfl (Nat.le_of_ble_eq_true rfl) ⟨Nat.le_trans (by omega) hc, Nat.le_trans (by omega) hs⟩ dL_law_418) (fun t9 ht9 => ?_)
  subst ht9
  refine lv_iload hx hb dL_law_421 (lv_at hl 1 rfl) ?_
  rcases hd with ⟨hE, hr0, hf0, hX1⟩ | ⟨hE, hr0, hX1⟩
  · obtain ⟨g1, g2, g3⟩ := op1 hE
    subst hr0
    have hX2 := F.keepX hX1 f10
    refine lv_icmp_eq (tgt := 428) hx hb dL_law_423 (by decide) (fun c1 => ?_) (fun c1 => ?_)
    · refine lv_iload hx hb dL_law_428 (lv_at hl 1 rfl) ?_
      refine lv_if_ne (tgt := 445) hx hb dL_law_430 (by decide) (fun c2 => ?_) (fun c2 => ?_)
      · exact absurd rfl c2
      · refine lv_aload_n hx hb dL_law_433 rfl (lv_at hl 5 rfl) ?_
        refine lv_iconst (v := 0) hx hb dL_law_434 (by decide) ?_
        refine va_lald (D := G.1) hx hb F.hK.1 hO2 0 2 rfl rfl (vp_in_nI (n := 0) (N := 1) (by decide) (by decide)) dL_law_435 ?_
        refine lv_iload hx hb dL_law_436 (lv_at hl 0 rfl) ?_
        refine lv_i2l (v := (vM (ckR (xs (6 * n + 1)) 1 1000, true, true) (μ 16 0 + (xs (6 * n + 1))) : Int32).toInt64) hx hb dL_law_438 rfl ?_
        refine W.lcmp hx hb dL_law_439 ?_
        refine k_eq (y := 0) (lcmp_ne (hf0.trans g2)) ?_
        refine lv_if_eq (tgt := 445) hx hb dL_law_440 (by decide) (fun c7 => ?_) (fun c7 => ?_)
        · skip
          refine lv_goto (tgt := 1590) hx hb dL_law_445 (by decide) ?_
          exact W.widen (k := cells + 6) (n := slots + 36) (by omega) (by omega) (next _ _ _ _ g3 ⟨hX2, hM2, ⟨_, hO2⟩, hS2⟩ ls (lv_sub hl [2, 3, 4, 5, 6] rfl))
        · exact absurd rfl c7
    · exact absurd g1 c1
  · obtain ⟨g1, g3⟩ := op2 hE
    subst hr0
    have hp : (if eX_pass (xs (6 * n + 1)) = 2 then 1 else 2 : Int32) ≠ 0 := by (repeat' split) <;> decide
    have hX2 := F.keepX hX1 f10
    refine lv_icmp_eq (tgt := 428) hx hb dL_law_423 (by decide) (fun c1 => ?_) (fun c1 => ?_)
    · refine lv_iload hx hb dL_law_428 (lv_at hl 1 rfl) ?_
      refine lv_if_ne (tgt := 445) hx hb dL_law_430 (by decide) (fun c2 => ?_) (fun c2 => ?_)
      · skip
        refine lv_goto (tgt := 1590) hx hb dL_law_445 (by decide) ?_
        exact W.widen (k := cells + 6) (n := slots + 36) (by omega) (by omega) (next _ _ _ _ g3 ⟨hX2, hM2, ⟨_, hO2⟩, hS2⟩ ls (lv_sub hl [2, 3, 4, 5, 6] rfl))
      · exact absurd c2 hp
    · exact absurd g1 c1

set_option maxHeartbeats 4000000 in
set_option maxRecDepth 100000 in
theorem K_open {p : Program} {l : Launch} {e : Env} {s : State} {m : MethodId} {below : List Frame} {meth : Method} {c : Code} {H : Heap} {locs : List Loc} {cells slots : Nat} {Q : State → Prop} {b L : Nat} {xs : Nat → Int32} {G : kG} {aX aM : Nat → Nat} {ao : Nat} (F : LFix p l s m meth c b L xs G aX aM ao) {n : Nat} (hn : 6 * n + 6 ≤ L) {σ μ : kS} (hR : RR σ μ n) (hI : LI G aX aM ao s σ μ H locs) (hc : cells + 6 ≤ room_1.cells) (hs : slots + 36 ≤ room_1.slots) (next : ∀ (σ9 μ9 : kS) (H9 : Heap) (L9 : List Loc), RR σ9 μ9 (n + 1) → LI G aX aM ao s σ9 μ9 H9 L9 → ∀ ls, lv_has ls 7 [(0, .ref b), (1, .ref (aX 0)), (2, .ref (aM 0)), (3, .ref ao), (4, .int (nI (6 * n)))] → W p l e room_1 s m #[Value.ref b] below meth c H9 L9 (cells + 6) (slots + 36) Q (F0 m 1590 ls [])) {ls : Array Slot} (hl : lv_has ls 7 [(0, .ref b), (1, .ref (aX 0)), (2, .ref (aM 0)), (3, .ref ao), (4, .int (nI (6 * n)))]) : W p l e room_1 s m #[Value.ref b] below meth c H locs cells slots Q (F0 m 448 ls []) := by
  obtain ⟨nm, ns, N, Sz, hr⟩ := hR
  obtain ⟨hPX, hPM, ⟨f, hPO⟩, hS⟩ := hI
  have S := F.S
  have hx := S.1
  have hb := S.2.1
  have hL := F.hL
  have hXX : PX G aX σ s H := ⟨hPX, F.hK⟩
  have hMM : PM G aM μ s H := ⟨hPM, F.hK⟩
  refine lv_aload_n hx hb dL_law_448 rfl (lv_at hl 1 rfl) ?_
  refine lv_aload_n hx hb dL_law_449 rfl (lv_at hl 0 rfl) ?_
  refine lv_iload hx hb dL_law_450 (lv_at hl 4 rfl) ?_
  refine lv_iconst (v := 1) hx hb dL_law_452 (by decide) ?_
  refine lv_iadd hx hb dL_law_453 ?_
  refine k_eq (y := nI (6 * n + 1)) (nI_add (6 * n) 1) ?_
  refine k_sld F hS (k := 6 * n + 1) (by omega) dL_law_454 ?_
  refine lv_aload_n hx hb dL_law_455 rfl (lv_at hl 3 rfl) ?_
  refine q_lh (rx_SX S ⟨m_369, m_370, m_34, m_371⟩ ⟨rfl, by decide, by decide, by decide +kernel⟩ (cL_open_c l G aX σ nm ns (xs (6 * n + 1)) F.hst ((hr.eq 18 0 (by decide)).trans hr.hns) hr.hns4 ((hr.eq 17 0 (by decide)).trans hr.hnm) hr.hnm2 ao f (AX aX) F.dX F.xo) ⟨rfl, rfl, Nat.le_of_ble_eq_true rfl, Nat.le_of_ble_eq_true rfl⟩ (ps bl_PL (fun U hU hW => by show PX G aX σ U U.heap ∧ ZS U U.heap ∧ va_P G.1 vwCl (wO G ao f) U.heap; rw [hU]; exact ⟨hXX.warm hW, (F.zs hS).warm hW, hPO⟩)) (n := 3) (As := [.ref (aX 0), .int (xs (6 * n + 1)), .ref ao]) (rest := []) rfl hl.1 rfl (Nat.le_of_ble_eq_true rfl) ⟨Nat.le_trans (by omega) hc, Nat.le_trans (by omega) hs⟩ dL_law_456) hS (fun q hq => hq.elim (F.nX q) (fun h9 => by rw [h9]; exact F.nO)) (fun r f1 H1 L1 hO1 hd f9 hS1 => ?_)
  have hM1 : PM G aM μ s H1 := ⟨F.keepM hPM f9, F.hK⟩
  obtain ⟨op1, op2⟩ := op_open hr (by omega) (xs (6 * n + 1))
  refine lv_istore (lv' := [(5, .int r), (0, .ref b), (1, .ref (aX 0)), (2, .ref (aM 0)), (3, .ref ao), (4, .int (nI (6 * n)))]) hx hb dL_law_459 hl (by decide) rfl (fun ls hl => ?_)
  refine lv_aload_n hx hb dL_law_461 rfl (lv_at hl 3 rfl) ?_
  refine lv_aload_n hx hb dL_law_462 rfl (lv_at hl 1 rfl) ?_
  refine lv_iload hx hb dL_law_463 (lv_at hl 5 rfl) ?_
  refine lv_iconst (v := 1) hx hb dL_law_465 (by decide) ?_
  refine lv_iadd hx hb dL_law_466 ?_
  refine k_eq (y := nI (6 * n + 1)) (nI_add (6 * n) 1) ?_
  refine k_sld F hS1 (k := 6 * n + 1) (by omega) dL_law_467 ?_
  refine q_w (r_V S ⟨m_667, m_668, m_669, m_40, m_670⟩ ⟨rfl, by decide, by decide, by decide +kernel⟩ (c4_open l G aM μ nm ns (xs (6 * n + 1)) hr.hns hr.hns4 hr.hnm hr.hnm2 (AM aM) F.dM) ⟨rfl, rfl, Nat.le_of_ble_eq_true rfl, Nat.le_of_ble_eq_true rfl⟩ (pv_M hM1 bl_PM (bM hM1)) (n := 1) (As := [.int (xs (6 * n + 1))]) (rest := []) rfl hl.1 rfl (Nat.le_of_ble_eq_true rfl) ⟨Nat.le_trans (by omega) hc, Nat.le_trans (by omega) hs⟩ dL_law_468) hS1 F.nM (fun b9 H2 L2 hb9 hM2 _ f10 hS2 => ?_)
  subst hb9
  have hO2 := F.keepO hO1 f10
  have hMM2 : PM G aM (sM (ckR (xs (6 * n + 1)) 0 11, !hoM μ (xs (6 * n + 1)) ns && decide (μ 18 0 < 40), true) μ (fun κ => opM κ ns (xs (6 * n + 1)))) s H2 := ⟨hM2, F.hK⟩
  refine lv_istore (lv' := [(6, .int (vM (ckR (xs (6 * n + 1)) 0 11, !hoM μ (xs (6 * n + 1)) ns && decide (μ 18 0 < 40), true) (nI ns))), (5, .int r), (0, .ref b), (1, .ref (aX 0)), (2, .ref (aM 0)), (3, .ref ao), (4, .int (nI (6 * n)))]) hx hb dL_law_471 hl (by decide) rfl (fun ls hl => ?_)
  refine lv_aload_n hx hb dL_law_473 rfl (lv_at hl 4 rfl) ?_
  refine q_i (r_V S ⟨m_636, m_637, m_638, m_40, m_639⟩ ⟨rfl, by decide, by decide, by decide +kernel⟩ (c4_thrown l G aM (sM (ckR (xs (6 * n + 1)) 0 11, !hoM μ (xs (6 * n + 1)) ns && decide (μ 18 0 < 40), true) μ (fun κ => opM κ ns (xs (6 * n + 1))))) ⟨rfl, rfl, Nat.le_of_ble_eq_true rfl, Nat.le_of_ble_eq_true rfl⟩ (pv_M hMM2 bl_PM (bM hMM2)) (n := 0) (As := []) (rest := []) rfl hl.1 rfl (Nat.le_of_ble_eq_true rfl) ⟨Nat.le_trans (by omega) hc, Nat.le_trans (by omega) hs⟩ dL_law_474) (fun t9 ht9 => ?_)
  subst ht9
  refine lv_iload hx hb dL_law_477 (lv_at hl 1 rfl) ?_
  rcases hd with ⟨hE, hr0, hf0, hX1⟩ | ⟨hE, hr0, hX1⟩
  · obtain ⟨g1, g2, g3⟩ := op1 hE
    subst hr0
    have hX2 := F.keepX hX1 f10
    refine lv_icmp_eq (tgt := 484) hx hb dL_law_479 (by decide) (fun c1 => ?_) (fun c1 => ?_)
    · refine lv_iload hx hb dL_law_484 (lv_at hl 1 rfl) ?_
      refine lv_if_ne (tgt := 501) hx hb dL_law_486 (by decide) (fun c2 => ?_) (fun c2 => ?_)
      · exact absurd rfl c2
      · refine lv_aload_n hx hb dL_law_489 rfl (lv_at hl 5 rfl) ?_
        refine lv_iconst (v := 0) hx hb dL_law_490 (by decide) ?_
        refine va_lald (D := G.1) hx hb F.hK.1 hO2 0 2 rfl rfl (vp_in_nI (n := 0) (N := 1) (by decide) (by decide)) dL_law_491 ?_
        refine lv_iload hx hb dL_law_492 (lv_at hl 0 rfl) ?_
        refine lv_i2l (v := (vM (ckR (xs (6 * n + 1)) 0 11, !hoM μ (xs (6 * n + 1)) ns && decide (μ 18 0 < 40), true) (nI ns) : Int32).toInt64) hx hb dL_law_494 rfl ?_
        refine W.lcmp hx hb dL_law_495 ?_
        refine k_eq (y := 0) (lcmp_ne (hf0.trans g2)) ?_
        refine lv_if_eq (tgt := 501) hx hb dL_law_496 (by decide) (fun c7 => ?_) (fun c7 => ?_)
        · skip
          refine lv_goto (tgt := 1590) hx hb dL_law_501 (by decide) ?_
          exact W.widen (k := cells + 6) (n := slots + 36) (by omega) (by omega) (next _ _ _ _ g3 ⟨hX2, hM2, ⟨_, hO2⟩, hS2⟩ ls (lv_sub hl [2, 3, 4, 5, 6] rfl))
        · exact absurd rfl c7
    · exact absurd g1 c1
  · obtain ⟨g1, g3⟩ := op2 hE
    subst hr0
    have hp : (if eX_open σ ns (xs (6 * n + 1)) = 1 then 1 else if eX_open σ ns (xs (6 * n + 1)) = 3 then 2 else 3 : Int32) ≠ 0 := by (repeat' split) <;> decide
    have hX2 := F.keepX hX1 f10
    refine lv_icmp_eq (tgt := 484) hx hb dL_law_479 (by decide) (fun c1 => ?_) (fun c1 => ?_)
    · refine lv_iload hx hb dL_law_484 (lv_at hl 1 rfl) ?_
      refine lv_if_ne (tgt := 501) hx hb dL_law_486 (by decide) (fun c2 => ?_) (fun c2 => ?_)
      · skip
        refine lv_goto (tgt := 1590) hx hb dL_law_501 (by decide) ?_
        exact W.widen (k := cells + 6) (n := slots + 36) (by omega) (by omega) (next _ _ _ _ g3 ⟨hX2, hM2, ⟨_, hO2⟩, hS2⟩ ls (lv_sub hl [2, 3, 4, 5, 6] rfl))
      · exact absurd c2 hp
    · exact absurd g1 c1

set_option maxHeartbeats 4000000 in
set_option maxRecDepth 100000 in
theorem K_count {p : Program} {l : Launch} {e : Env} {s : State} {m : MethodId} {below : List Frame} {meth : Method} {c : Code} {H : Heap} {locs : List Loc} {cells slots : Nat} {Q : State → Prop} {b L : Nat} {xs : Nat → Int32} {G : kG} {aX aM : Nat → Nat} {ao : Nat} (F : LFix p l s m meth c b L xs G aX aM ao) {n : Nat} (hn : 6 * n + 6 ≤ L) {σ μ : kS} (hR : RR σ μ n) (hI : LI G aX aM ao s σ μ H locs) (hc : cells + 6 ≤ room_1.cells) (hs : slots + 36 ≤ room_1.slots) (next : ∀ (σ9 μ9 : kS) (H9 : Heap) (L9 : List Loc), RR σ9 μ9 (n + 1) → LI G aX aM ao s σ9 μ9 H9 L9 → ∀ ls, lv_has ls 7 [(0, .ref b), (1, .ref (aX 0)), (2, .ref (aM 0)), (3, .ref ao), (4, .int (nI (6 * n)))] → W p l e room_1 s m #[Value.ref b] below meth c H9 L9 (cells + 6) (slots + 36) Q (F0 m 1590 ls [])) {ls : Array Slot} (hl : lv_has ls 7 [(0, .ref b), (1, .ref (aX 0)), (2, .ref (aM 0)), (3, .ref ao), (4, .int (nI (6 * n)))]) : W p l e room_1 s m #[Value.ref b] below meth c H locs cells slots Q (F0 m 504 ls []) := by
  obtain ⟨nm, ns, N, Sz, hr⟩ := hR
  obtain ⟨hPX, hPM, ⟨f, hPO⟩, hS⟩ := hI
  have S := F.S
  have hx := S.1
  have hb := S.2.1
  have hL := F.hL
  have hXX : PX G aX σ s H := ⟨hPX, F.hK⟩
  have hMM : PM G aM μ s H := ⟨hPM, F.hK⟩
  refine lv_aload_n hx hb dL_law_504 rfl (lv_at hl 1 rfl) ?_
  refine lv_aload_n hx hb dL_law_505 rfl (lv_at hl 0 rfl) ?_
  refine lv_iload hx hb dL_law_506 (lv_at hl 4 rfl) ?_
  refine lv_iconst (v := 1) hx hb dL_law_508 (by decide) ?_
  refine lv_iadd hx hb dL_law_509 ?_
  refine k_eq (y := nI (6 * n + 1)) (nI_add (6 * n) 1) ?_
  refine k_sld F hS (k := 6 * n + 1) (by omega) dL_law_510 ?_
  refine lv_aload_n hx hb dL_law_511 rfl (lv_at hl 0 rfl) ?_
  refine lv_iload hx hb dL_law_512 (lv_at hl 4 rfl) ?_
  refine lv_iconst (v := 2) hx hb dL_law_514 (by decide) ?_
  refine lv_iadd hx hb dL_law_515 ?_
  refine k_eq (y := nI (6 * n + 2)) (nI_add (6 * n) 2) ?_
  refine k_sld F hS (k := 6 * n + 2) (by omega) dL_law_516 ?_
  refine lv_aload_n hx hb dL_law_517 rfl (lv_at hl 0 rfl) ?_
  refine lv_iload hx hb dL_law_518 (lv_at hl 4 rfl) ?_
  refine lv_iconst (v := 3) hx hb dL_law_520 (by decide) ?_
  refine lv_iadd hx hb dL_law_521 ?_
  refine k_eq (y := nI (6 * n + 3)) (nI_add (6 * n) 3) ?_
  refine k_sld F hS (k := 6 * n + 3) (by omega) dL_law_522 ?_
  refine lv_aload_n hx hb dL_law_523 rfl (lv_at hl 0 rfl) ?_
  refine lv_iload hx hb dL_law_524 (lv_at hl 4 rfl) ?_
  refine lv_iconst (v := 4) hx hb dL_law_526 (by decide) ?_
  refine lv_iadd hx hb dL_law_527 ?_
  refine k_eq (y := nI (6 * n + 4)) (nI_add (6 * n) 4) ?_
  refine k_sld F hS (k := 6 * n + 4) (by omega) dL_law_528 ?_
  refine lv_aload_n hx hb dL_law_529 rfl (lv_at hl 3 rfl) ?_
  refine q_lh (rx_SX S ⟨m_382, m_383, m_34, m_384⟩ ⟨rfl, by decide, by decide, by decide +kernel⟩ (cL_count_c l G aX σ nm ns (xs (6 * n + 1)) (xs (6 * n + 2)) (xs (6 * n + 3)) (xs (6 * n + 4)) F.hst ((hr.eq 18 0 (by decide)).trans hr.hns) hr.hns4 ((hr.eq 17 0 (by decide)).trans hr.hnm) hr.hnm2 ao f (AX aX) F.dX F.xo) ⟨rfl, rfl, Nat.le_of_ble_eq_true rfl, Nat.le_of_ble_eq_true rfl⟩ (ps bl_PL (fun U hU hW => by show PX G aX σ U U.heap ∧ ZS U U.heap ∧ va_P G.1 vwCl (wO G ao f) U.heap; rw [hU]; exact ⟨hXX.warm hW, (F.zs hS).warm hW, hPO⟩)) (n := 6) (As := [.ref (aX 0), .int (xs (6 * n + 1)), .int (xs (6 * n + 2)), .int (xs (6 * n + 3)), .int (xs (6 * n + 4)), .ref ao]) (rest := []) rfl hl.1 rfl (Nat.le_of_ble_eq_true rfl) ⟨Nat.le_trans (by omega) hc, Nat.le_trans (by omega) hs⟩ dL_law_530) hS (fun q hq => hq.elim (F.nX q) (fun h9 => by rw [h9]; exact F.nO)) (fun r f1 H1 L1 hO1 hd f9 hS1 => ?_)
  have hM1 : PM G aM μ s H1 := ⟨F.keepM hPM f9, F.hK⟩
  obtain ⟨op1, op2⟩ := op_count hr (by omega) (xs (6 * n + 1)) (xs (6 * n + 2)) (xs (6 * n + 3)) (xs (6 * n + 4))
  refine lv_istore (lv' := [(5, .int r), (0, .ref b), (1, .ref (aX 0)), (2, .ref (aM 0)), (3, .ref ao), (4, .int (nI (6 * n)))]) hx hb dL_law_533 hl (by decide) rfl (fun ls hl => ?_)
  refine lv_aload_n hx hb dL_law_535 rfl (lv_at hl 3 rfl) ?_
  refine lv_aload_n hx hb dL_law_536 rfl (lv_at hl 1 rfl) ?_
  refine lv_iload hx hb dL_law_537 (lv_at hl 5 rfl) ?_
  refine lv_iconst (v := 1) hx hb dL_law_539 (by decide) ?_
  refine lv_iadd hx hb dL_law_540 ?_
  refine k_eq (y := nI (6 * n + 1)) (nI_add (6 * n) 1) ?_
  refine k_sld F hS1 (k := 6 * n + 1) (by omega) dL_law_541 ?_
  refine lv_aload_n hx hb dL_law_542 rfl (lv_at hl 1 rfl) ?_
  refine lv_iload hx hb dL_law_543 (lv_at hl 5 rfl) ?_
  refine lv_iconst (v := 2) hx hb dL_law_545 (by decide) ?_
  refine lv_iadd hx hb dL_law_546 ?_
  refine k_eq (y := nI (6 * n + 2)) (nI_add (6 * n) 2) ?_
  refine k_sld F hS1 (k := 6 * n + 2) (by omega) dL_law_547 ?_
  refine lv_aload_n hx hb dL_law_548 rfl (lv_at hl 1 rfl) ?_
  refine lv_iload hx hb dL_law_549 (lv_at hl 5 rfl) ?_
  refine lv_iconst (v := 3) hx hb dL_law_551 (by decide) ?_
  refine lv_iadd hx hb dL_law_552 ?_
  refine k_eq (y := nI (6 * n + 3)) (nI_add (6 * n) 3) ?_
  refine k_sld F hS1 (k := 6 * n + 3) (by omega) dL_law_553 ?_
  refine lv_aload_n hx hb dL_law_554 rfl (lv_at hl 1 rfl) ?_
  refine lv_iload hx hb dL_law_555 (lv_at hl 5 rfl) ?_
  refine lv_iconst (v := 4) hx hb dL_law_557 (by decide) ?_
  refine lv_iadd hx hb dL_law_558 ?_
  refine k_eq (y := nI (6 * n + 4)) (nI_add (6 * n) 4) ?_
  refine k_sld F hS1 (k := 6 * n + 4) (by omega) dL_law_559 ?_
  refine q_w (r_V S ⟨m_678, m_679, m_680, m_40, m_681⟩ ⟨rfl, by decide, by decide, by decide +kernel⟩ (c4_count l G aM μ nm ns (xs (6 * n + 1)) (xs (6 * n + 2)) (xs (6 * n + 3)) (xs (6 * n + 4)) hr.hns hr.hns4 hr.hnm hr.hnm2 (fun k hk => by obtain ⟨c9, _, h1, _, h2, _⟩ := hr.ln k hk; exact ⟨c9, h1, h2⟩) (fun k _ => by obtain ⟨z, h1, h2⟩ := hr.cq k; rw [h1]; exact nI_nm1 z (by omega)) (AM aM) F.dM) ⟨rfl, rfl, Nat.le_of_ble_eq_true rfl, Nat.le_of_ble_eq_true rfl⟩ (pv_M hM1 bl_PM (bM hM1)) (n := 4) (As := [.int (xs (6 * n + 1)), .int (xs (6 * n + 2)), .int (xs (6 * n + 3)), .int (xs (6 * n + 4))]) (rest := []) rfl hl.1 rfl (Nat.le_of_ble_eq_true rfl) ⟨Nat.le_trans (by omega) hc, Nat.le_trans (by omega) hs⟩ dL_law_560) hS1 F.nM (fun b9 H2 L2 hb9 hM2 _ f10 hS2 => ?_)
  subst hb9
  have hO2 := F.keepO hO1 f10
  have hMM2 : PM G aM (sM (ckR (xs (6 * n + 1)) 0 (μ 18 0 - 1) && ckR (xs (6 * n + 2)) 0 5 && ckR (xs (6 * n + 3)) 0 4, ckR (xs (6 * n + 4)) 0 100000, ckR (xs (6 * n + 1)) 0 (μ 18 0 - 1) && ckR (xs (6 * n + 2)) 0 5 && ckR (xs (6 * n + 3)) 0 4 && (decide (μ 9 (ixN (xs (6 * n + 1))) = 0) && !hcM μ (lnN (xs (6 * n + 1)) (xs (6 * n + 3))) (xs (6 * n + 2)) (ixN (μ 20 (lnN (xs (6 * n + 1)) (xs (6 * n + 3))))) && decide (agM μ (lnN (xs (6 * n + 1)) (xs (6 * n + 3))) = -1))) μ (fun κ => coM κ (lnN (xs (6 * n + 1)) (xs (6 * n + 3))) (xs (6 * n + 2)) (xs (6 * n + 4)))) s H2 := ⟨hM2, F.hK⟩
  refine lv_istore (lv' := [(6, .int (vM (ckR (xs (6 * n + 1)) 0 (μ 18 0 - 1) && ckR (xs (6 * n + 2)) 0 5 && ckR (xs (6 * n + 3)) 0 4, ckR (xs (6 * n + 4)) 0 100000, ckR (xs (6 * n + 1)) 0 (μ 18 0 - 1) && ckR (xs (6 * n + 2)) 0 5 && ckR (xs (6 * n + 3)) 0 4 && (decide (μ 9 (ixN (xs (6 * n + 1))) = 0) && !hcM μ (lnN (xs (6 * n + 1)) (xs (6 * n + 3))) (xs (6 * n + 2)) (ixN (μ 20 (lnN (xs (6 * n + 1)) (xs (6 * n + 3))))) && decide (agM μ (lnN (xs (6 * n + 1)) (xs (6 * n + 3))) = -1))) (bI (grM (sM (ckR (xs (6 * n + 1)) 0 (μ 18 0 - 1) && ckR (xs (6 * n + 2)) 0 5 && ckR (xs (6 * n + 3)) 0 4, ckR (xs (6 * n + 4)) 0 100000, ckR (xs (6 * n + 1)) 0 (μ 18 0 - 1) && ckR (xs (6 * n + 2)) 0 5 && ckR (xs (6 * n + 3)) 0 4 && (decide (μ 9 (ixN (xs (6 * n + 1))) = 0) && !hcM μ (lnN (xs (6 * n + 1)) (xs (6 * n + 3))) (xs (6 * n + 2)) (ixN (μ 20 (lnN (xs (6 * n + 1)) (xs (6 * n + 3))))) && decide (agM μ (lnN (xs (6 * n + 1)) (xs (6 * n + 3))) = -1))) μ (fun κ => coM κ (lnN (xs (6 * n + 1)) (xs (6 * n + 3))) (xs (6 * n + 2)) (xs (6 * n + 4)))) (lnN (xs (6 * n + 1)) (xs (6 * n + 3))))))), (5, .int r), (0, .ref b), (1, .ref (aX 0)), (2, .ref (aM 0)), (3, .ref ao), (4, .int (nI (6 * n)))]) hx hb dL_law_563 hl (by decide) rfl (fun ls hl => ?_)
  refine lv_aload_n hx hb dL_law_565 rfl (lv_at hl 4 rfl) ?_
  refine q_i (r_V S ⟨m_636, m_637, m_638, m_40, m_639⟩ ⟨rfl, by decide, by decide, by decide +kernel⟩ (c4_thrown l G aM (sM (ckR (xs (6 * n + 1)) 0 (μ 18 0 - 1) && ckR (xs (6 * n + 2)) 0 5 && ckR (xs (6 * n + 3)) 0 4, ckR (xs (6 * n + 4)) 0 100000, ckR (xs (6 * n + 1)) 0 (μ 18 0 - 1) && ckR (xs (6 * n + 2)) 0 5 && ckR (xs (6 * n + 3)) 0 4 && (decide (μ 9 (ixN (xs (6 * n + 1))) = 0) && !hcM μ (lnN (xs (6 * n + 1)) (xs (6 * n + 3))) (xs (6 * n + 2)) (ixN (μ 20 (lnN (xs (6 * n + 1)) (xs (6 * n + 3))))) && decide (agM μ (lnN (xs (6 * n + 1)) (xs (6 * n + 3))) = -1))) μ (fun κ => coM κ (lnN (xs (6 * n + 1)) (xs (6 * n + 3))) (xs (6 * n + 2)) (xs (6 * n + 4))))) ⟨rfl, rfl, Nat.le_of_ble_eq_true rfl, Nat.le_of_ble_eq_true rfl⟩ (pv_M hMM2 bl_PM (bM hMM2)) (n := 0) (As := []) (rest := []) rfl hl.1 rfl (Nat.le_of_ble_eq_true rfl) ⟨Nat.le_trans (by omega) hc, Nat.le_trans (by omega) hs⟩ dL_law_566) (fun t9 ht9 => ?_)
  subst ht9
  refine lv_iload hx hb dL_law_569 (lv_at hl 1 rfl) ?_
  rcases hd with ⟨hE, hr0, hf0, hX1⟩ | ⟨hE, hr0, hX1⟩
  · obtain ⟨g1, g2, g3⟩ := op1 hE
    subst hr0
    have hX2 := F.keepX hX1 f10
    refine lv_icmp_eq (tgt := 576) hx hb dL_law_571 (by decide) (fun c1 => ?_) (fun c1 => ?_)
    · refine lv_iload hx hb dL_law_576 (lv_at hl 1 rfl) ?_
      refine lv_if_ne (tgt := 600) hx hb dL_law_578 (by decide) (fun c2 => ?_) (fun c2 => ?_)
      · exact absurd rfl c2
      · refine lv_aload_n hx hb dL_law_581 rfl (lv_at hl 5 rfl) ?_
        refine lv_iconst (v := 0) hx hb dL_law_582 (by decide) ?_
        refine va_lald (D := G.1) hx hb F.hK.1 hO2 0 2 rfl rfl (vp_in_nI (n := 0) (N := 1) (by decide) (by decide)) dL_law_583 ?_
        refine lv_iload hx hb dL_law_584 (lv_at hl 0 rfl) ?_
        refine lv_if_eq (tgt := 593) hx hb dL_law_586 (by decide) (fun c5 => ?_) (fun c5 => ?_)
        · refine lv_lconst (v := 0) hx hb dL_law_593 (by decide) ?_
          refine W.lcmp hx hb dL_law_594 ?_
          refine k_eq (y := 0) (lcmp_ne (hf0.trans (g2.trans (if_pos c5)))) ?_
          refine lv_if_eq (tgt := 600) hx hb dL_law_595 (by decide) (fun c7 => ?_) (fun c7 => ?_)
          · skip
            refine lv_goto (tgt := 1590) hx hb dL_law_600 (by decide) ?_
            exact W.widen (k := cells + 6) (n := slots + 36) (by omega) (by omega) (next _ _ _ _ g3 ⟨hX2, hM2, ⟨_, hO2⟩, hS2⟩ ls (lv_sub hl [2, 3, 4, 5, 6] rfl))
          · exact absurd rfl c7
        · refine lv_lconst (v := 1) hx hb dL_law_589 (by decide) ?_
          refine lv_goto (tgt := 594) hx hb dL_law_590 (by decide) ?_
          refine W.lcmp hx hb dL_law_594 ?_
          refine k_eq (y := 0) (lcmp_ne (hf0.trans (g2.trans (if_neg c5)))) ?_
          refine lv_if_eq (tgt := 600) hx hb dL_law_595 (by decide) (fun c7 => ?_) (fun c7 => ?_)
          · skip
            refine lv_goto (tgt := 1590) hx hb dL_law_600 (by decide) ?_
            exact W.widen (k := cells + 6) (n := slots + 36) (by omega) (by omega) (next _ _ _ _ g3 ⟨hX2, hM2, ⟨_, hO2⟩, hS2⟩ ls (lv_sub hl [2, 3, 4, 5, 6] rfl))
          · exact absurd rfl c7
    · exact absurd g1 c1
  · obtain ⟨g1, g3⟩ := op2 hE
    subst hr0
    have hp : (if eX_count σ (xs (6 * n + 1)) (xs (6 * n + 2)) (xs (6 * n + 3)) (xs (6 * n + 4)) = 1 then 1 else if eX_count σ (xs (6 * n + 1)) (xs (6 * n + 2)) (xs (6 * n + 3)) (xs (6 * n + 4)) = 2 then 2 else 3 : Int32) ≠ 0 := by (repeat' split) <;> decide
    have hX2 := F.keepX hX1 f10
    refine lv_icmp_eq (tgt := 576) hx hb dL_law_571 (by decide) (fun c1 => ?_) (fun c1 => ?_)
    · refine lv_iload hx hb dL_law_576 (lv_at hl 1 rfl) ?_
      refine lv_if_ne (tgt := 600) hx hb dL_law_578 (by decide) (fun c2 => ?_) (fun c2 => ?_)
      · skip
        refine lv_goto (tgt := 1590) hx hb dL_law_600 (by decide) ?_
        exact W.widen (k := cells + 6) (n := slots + 36) (by omega) (by omega) (next _ _ _ _ g3 ⟨hX2, hM2, ⟨_, hO2⟩, hS2⟩ ls (lv_sub hl [2, 3, 4, 5, 6] rfl))
      · exact absurd c2 hp
    · exact absurd g1 c1

set_option maxHeartbeats 4000000 in
set_option maxRecDepth 100000 in
theorem K_close {p : Program} {l : Launch} {e : Env} {s : State} {m : MethodId} {below : List Frame} {meth : Method} {c : Code} {H : Heap} {locs : List Loc} {cells slots : Nat} {Q : State → Prop} {b L : Nat} {xs : Nat → Int32} {G : kG} {aX aM : Nat → Nat} {ao : Nat} (F : LFix p l s m meth c b L xs G aX aM ao) {n : Nat} (hn : 6 * n + 6 ≤ L) {σ μ : kS} (hR : RR σ μ n) (hI : LI G aX aM ao s σ μ H locs) (hc : cells + 6 ≤ room_1.cells) (hs : slots + 36 ≤ room_1.slots) (next : ∀ (σ9 μ9 : kS) (H9 : Heap) (L9 : List Loc), RR σ9 μ9 (n + 1) → LI G aX aM ao s σ9 μ9 H9 L9 → ∀ ls, lv_has ls 7 [(0, .ref b), (1, .ref (aX 0)), (2, .ref (aM 0)), (3, .ref ao), (4, .int (nI (6 * n)))] → W p l e room_1 s m #[Value.ref b] below meth c H9 L9 (cells + 6) (slots + 36) Q (F0 m 1590 ls [])) {ls : Array Slot} (hl : lv_has ls 7 [(0, .ref b), (1, .ref (aX 0)), (2, .ref (aM 0)), (3, .ref ao), (4, .int (nI (6 * n)))]) : W p l e room_1 s m #[Value.ref b] below meth c H locs cells slots Q (F0 m 603 ls []) := by
  obtain ⟨nm, ns, N, Sz, hr⟩ := hR
  obtain ⟨hPX, hPM, ⟨f, hPO⟩, hS⟩ := hI
  have S := F.S
  have hx := S.1
  have hb := S.2.1
  have hL := F.hL
  have hXX : PX G aX σ s H := ⟨hPX, F.hK⟩
  have hMM : PM G aM μ s H := ⟨hPM, F.hK⟩
  refine lv_aload_n hx hb dL_law_603 rfl (lv_at hl 1 rfl) ?_
  refine lv_aload_n hx hb dL_law_604 rfl (lv_at hl 0 rfl) ?_
  refine lv_iload hx hb dL_law_605 (lv_at hl 4 rfl) ?_
  refine lv_iconst (v := 1) hx hb dL_law_607 (by decide) ?_
  refine lv_iadd hx hb dL_law_608 ?_
  refine k_eq (y := nI (6 * n + 1)) (nI_add (6 * n) 1) ?_
  refine k_sld F hS (k := 6 * n + 1) (by omega) dL_law_609 ?_
  refine lv_aload_n hx hb dL_law_610 rfl (lv_at hl 3 rfl) ?_
  refine q_lh (rx_SX S ⟨m_422, m_423, m_34, m_424⟩ ⟨rfl, by decide, by decide, by decide +kernel⟩ (cL_close_c l G aX σ nm ns (xs (6 * n + 1)) F.hst ((hr.eq 18 0 (by decide)).trans hr.hns) hr.hns4 ((hr.eq 17 0 (by decide)).trans hr.hnm) hr.hnm2 ao f (AX aX) F.dX F.xo) ⟨rfl, rfl, Nat.le_of_ble_eq_true rfl, Nat.le_of_ble_eq_true rfl⟩ (ps bl_PL (fun U hU hW => by show PX G aX σ U U.heap ∧ ZS U U.heap ∧ va_P G.1 vwCl (wO G ao f) U.heap; rw [hU]; exact ⟨hXX.warm hW, (F.zs hS).warm hW, hPO⟩)) (n := 3) (As := [.ref (aX 0), .int (xs (6 * n + 1)), .ref ao]) (rest := []) rfl hl.1 rfl (Nat.le_of_ble_eq_true rfl) ⟨Nat.le_trans (by omega) hc, Nat.le_trans (by omega) hs⟩ dL_law_611) hS (fun q hq => hq.elim (F.nX q) (fun h9 => by rw [h9]; exact F.nO)) (fun r f1 H1 L1 hO1 hd f9 hS1 => ?_)
  have hM1 : PM G aM μ s H1 := ⟨F.keepM hPM f9, F.hK⟩
  obtain ⟨op1, op2⟩ := op_close hr (by omega) (xs (6 * n + 1))
  refine lv_istore (lv' := [(5, .int r), (0, .ref b), (1, .ref (aX 0)), (2, .ref (aM 0)), (3, .ref ao), (4, .int (nI (6 * n)))]) hx hb dL_law_614 hl (by decide) rfl (fun ls hl => ?_)
  refine lv_aload_n hx hb dL_law_616 rfl (lv_at hl 3 rfl) ?_
  refine lv_aload_n hx hb dL_law_617 rfl (lv_at hl 1 rfl) ?_
  refine lv_iload hx hb dL_law_618 (lv_at hl 5 rfl) ?_
  refine lv_iconst (v := 1) hx hb dL_law_620 (by decide) ?_
  refine lv_iadd hx hb dL_law_621 ?_
  refine k_eq (y := nI (6 * n + 1)) (nI_add (6 * n) 1) ?_
  refine k_sld F hS1 (k := 6 * n + 1) (by omega) dL_law_622 ?_
  refine q_w (r_V S ⟨m_698, m_699, m_700, m_40, m_701⟩ ⟨rfl, by decide, by decide, by decide +kernel⟩ (c4_close l G aM μ nm ns (xs (6 * n + 1)) hr.hns hr.hns4 hr.hnm hr.hnm2 (AM aM) F.dM) ⟨rfl, rfl, Nat.le_of_ble_eq_true rfl, Nat.le_of_ble_eq_true rfl⟩ (pv_M hM1 bl_PM (bM hM1)) (n := 1) (As := [.int (xs (6 * n + 1))]) (rest := []) rfl hl.1 rfl (Nat.le_of_ble_eq_true rfl) ⟨Nat.le_trans (by omega) hc, Nat.le_trans (by omega) hs⟩ dL_law_623) hS1 F.nM (fun b9 H2 L2 hb9 hM2 _ f10 hS2 => ?_)
  subst hb9
  have hO2 := F.keepO hO1 f10
  have hMM2 : PM G aM (sM (ckR (xs (6 * n + 1)) 0 (μ 18 0 - 1), ckR (xs (6 * n + 1)) 0 (μ 18 0 - 1) && decide (μ 9 (ixN (xs (6 * n + 1))) = 0) && alM μ (ixN (xs (6 * n + 1))) 5, true) μ (fun κ => su κ 9 (ixN (xs (6 * n + 1))) 1)) s H2 := ⟨hM2, F.hK⟩
  refine lv_istore (lv' := [(6, .int (vM (ckR (xs (6 * n + 1)) 0 (μ 18 0 - 1), ckR (xs (6 * n + 1)) 0 (μ 18 0 - 1) && decide (μ 9 (ixN (xs (6 * n + 1))) = 0) && alM μ (ixN (xs (6 * n + 1))) 5, true) (clM μ (ixN (xs (6 * n + 1))) 5))), (5, .int r), (0, .ref b), (1, .ref (aX 0)), (2, .ref (aM 0)), (3, .ref ao), (4, .int (nI (6 * n)))]) hx hb dL_law_626 hl (by decide) rfl (fun ls hl => ?_)
  refine lv_aload_n hx hb dL_law_628 rfl (lv_at hl 4 rfl) ?_
  refine q_i (r_V S ⟨m_636, m_637, m_638, m_40, m_639⟩ ⟨rfl, by decide, by decide, by decide +kernel⟩ (c4_thrown l G aM (sM (ckR (xs (6 * n + 1)) 0 (μ 18 0 - 1), ckR (xs (6 * n + 1)) 0 (μ 18 0 - 1) && decide (μ 9 (ixN (xs (6 * n + 1))) = 0) && alM μ (ixN (xs (6 * n + 1))) 5, true) μ (fun κ => su κ 9 (ixN (xs (6 * n + 1))) 1))) ⟨rfl, rfl, Nat.le_of_ble_eq_true rfl, Nat.le_of_ble_eq_true rfl⟩ (pv_M hMM2 bl_PM (bM hMM2)) (n := 0) (As := []) (rest := []) rfl hl.1 rfl (Nat.le_of_ble_eq_true rfl) ⟨Nat.le_trans (by omega) hc, Nat.le_trans (by omega) hs⟩ dL_law_629) (fun t9 ht9 => ?_)
  subst ht9
  refine lv_iload hx hb dL_law_632 (lv_at hl 1 rfl) ?_
  rcases hd with ⟨hE, hr0, hf0, hX1⟩ | ⟨hE, hr0, hX1⟩
  · obtain ⟨g1, g2, g3⟩ := op1 hE
    subst hr0
    have hX2 := F.keepX hX1 f10
    refine lv_icmp_eq (tgt := 639) hx hb dL_law_634 (by decide) (fun c1 => ?_) (fun c1 => ?_)
    · refine lv_iload hx hb dL_law_639 (lv_at hl 1 rfl) ?_
      refine lv_if_ne (tgt := 656) hx hb dL_law_641 (by decide) (fun c2 => ?_) (fun c2 => ?_)
      · exact absurd rfl c2
      · refine lv_aload_n hx hb dL_law_644 rfl (lv_at hl 5 rfl) ?_
        refine lv_iconst (v := 0) hx hb dL_law_645 (by decide) ?_
        refine va_lald (D := G.1) hx hb F.hK.1 hO2 0 2 rfl rfl (vp_in_nI (n := 0) (N := 1) (by decide) (by decide)) dL_law_646 ?_
        refine lv_iload hx hb dL_law_647 (lv_at hl 0 rfl) ?_
        refine lv_i2l (v := (vM (ckR (xs (6 * n + 1)) 0 (μ 18 0 - 1), ckR (xs (6 * n + 1)) 0 (μ 18 0 - 1) && decide (μ 9 (ixN (xs (6 * n + 1))) = 0) && alM μ (ixN (xs (6 * n + 1))) 5, true) (clM μ (ixN (xs (6 * n + 1))) 5) : Int32).toInt64) hx hb dL_law_649 rfl ?_
        refine W.lcmp hx hb dL_law_650 ?_
        refine k_eq (y := 0) (lcmp_ne (hf0.trans g2)) ?_
        refine lv_if_eq (tgt := 656) hx hb dL_law_651 (by decide) (fun c7 => ?_) (fun c7 => ?_)
        · skip
          refine lv_goto (tgt := 1590) hx hb dL_law_656 (by decide) ?_
          exact W.widen (k := cells + 6) (n := slots + 36) (by omega) (by omega) (next _ _ _ _ g3 ⟨hX2, hM2, ⟨_, hO2⟩, hS2⟩ ls (lv_sub hl [2, 3, 4, 5, 6] rfl))
        · exact absurd rfl c7
    · exact absurd g1 c1
  · obtain ⟨g1, g3⟩ := op2 hE
    subst hr0
    have hp : (if eX_close σ (xs (6 * n + 1)) = 1 then 1 else if eX_close σ (xs (6 * n + 1)) = 3 then 2 else 3 : Int32) ≠ 0 := by (repeat' split) <;> decide
    have hX2 := F.keepX hX1 f10
    refine lv_icmp_eq (tgt := 639) hx hb dL_law_634 (by decide) (fun c1 => ?_) (fun c1 => ?_)
    · refine lv_iload hx hb dL_law_639 (lv_at hl 1 rfl) ?_
      refine lv_if_ne (tgt := 656) hx hb dL_law_641 (by decide) (fun c2 => ?_) (fun c2 => ?_)
      · skip
        refine lv_goto (tgt := 1590) hx hb dL_law_656 (by decide) ?_
        exact W.widen (k := cells + 6) (n := slots + 36) (by omega) (by omega) (next _ _ _ _ g3 ⟨hX2, hM2, ⟨_, hO2⟩, hS2⟩ ls (lv_sub hl [2, 3, 4, 5, 6] rfl))
      · exact absurd c2 hp
    · exact absurd g1 c1

set_option maxHeartbeats 4000000 in
set_option maxRecDepth 100000 in
theorem K_sign {p : Program} {l : Launch} {e : Env} {s : State} {m : MethodId} {below : List Frame} {meth : Method} {c : Code} {H : Heap} {locs : List Loc} {cells slots : Nat} {Q : State → Prop} {b L : Nat} {xs : Nat → Int32} {G : kG} {aX aM : Nat → Nat} {ao : Nat} (F : LFix p l s m meth c b L xs G aX aM ao) {n : Nat} (hn : 6 * n + 6 ≤ L) {σ μ : kS} (hR : RR σ μ n) (hI : LI G aX aM ao s σ μ H locs) (hc : cells + 6 ≤ room_1.cells) (hs : slots + 36 ≤ room_1.slots) (next : ∀ (σ9 μ9 : kS) (H9 : Heap) (L9 : List Loc), RR σ9 μ9 (n + 1) → LI G aX aM ao s σ9 μ9 H9 L9 → ∀ ls, lv_has ls 7 [(0, .ref b), (1, .ref (aX 0)), (2, .ref (aM 0)), (3, .ref ao), (4, .int (nI (6 * n)))] → W p l e room_1 s m #[Value.ref b] below meth c H9 L9 (cells + 6) (slots + 36) Q (F0 m 1590 ls [])) {ls : Array Slot} (hl : lv_has ls 7 [(0, .ref b), (1, .ref (aX 0)), (2, .ref (aM 0)), (3, .ref ao), (4, .int (nI (6 * n)))]) : W p l e room_1 s m #[Value.ref b] below meth c H locs cells slots Q (F0 m 659 ls []) := by
  obtain ⟨nm, ns, N, Sz, hr⟩ := hR
  obtain ⟨hPX, hPM, ⟨f, hPO⟩, hS⟩ := hI
  have S := F.S
  have hx := S.1
  have hb := S.2.1
  have hL := F.hL
  have hXX : PX G aX σ s H := ⟨hPX, F.hK⟩
  have hMM : PM G aM μ s H := ⟨hPM, F.hK⟩
  refine lv_aload_n hx hb dL_law_659 rfl (lv_at hl 1 rfl) ?_
  refine lv_aload_n hx hb dL_law_660 rfl (lv_at hl 0 rfl) ?_
  refine lv_iload hx hb dL_law_661 (lv_at hl 4 rfl) ?_
  refine lv_iconst (v := 1) hx hb dL_law_663 (by decide) ?_
  refine lv_iadd hx hb dL_law_664 ?_
  refine k_eq (y := nI (6 * n + 1)) (nI_add (6 * n) 1) ?_
  refine k_sld F hS (k := 6 * n + 1) (by omega) dL_law_665 ?_
  refine lv_aload_n hx hb dL_law_666 rfl (lv_at hl 0 rfl) ?_
  refine lv_iload hx hb dL_law_667 (lv_at hl 4 rfl) ?_
  refine lv_iconst (v := 2) hx hb dL_law_669 (by decide) ?_
  refine lv_iadd hx hb dL_law_670 ?_
  refine k_eq (y := nI (6 * n + 2)) (nI_add (6 * n) 2) ?_
  refine k_sld F hS (k := 6 * n + 2) (by omega) dL_law_671 ?_
  refine lv_aload_n hx hb dL_law_672 rfl (lv_at hl 0 rfl) ?_
  refine lv_iload hx hb dL_law_673 (lv_at hl 4 rfl) ?_
  refine lv_iconst (v := 3) hx hb dL_law_675 (by decide) ?_
  refine lv_iadd hx hb dL_law_676 ?_
  refine k_eq (y := nI (6 * n + 3)) (nI_add (6 * n) 3) ?_
  refine k_sld F hS (k := 6 * n + 3) (by omega) dL_law_677 ?_
  refine lv_aload_n hx hb dL_law_678 rfl (lv_at hl 3 rfl) ?_
  refine q_lh (rx_SX S ⟨m_431, m_432, m_34, m_433⟩ ⟨rfl, by decide, by decide, by decide +kernel⟩ (cL_sign_c l G aX σ nm ns (xs (6 * n + 1)) (xs (6 * n + 2)) (xs (6 * n + 3)) F.hst ((hr.eq 18 0 (by decide)).trans hr.hns) hr.hns4 ((hr.eq 17 0 (by decide)).trans hr.hnm) hr.hnm2 ao f (AX aX) F.dX F.xo) ⟨rfl, rfl, Nat.le_of_ble_eq_true rfl, Nat.le_of_ble_eq_true rfl⟩ (ps bl_PL (fun U hU hW => by show PX G aX σ U U.heap ∧ ZS U U.heap ∧ va_P G.1 vwCl (wO G ao f) U.heap; rw [hU]; exact ⟨hXX.warm hW, (F.zs hS).warm hW, hPO⟩)) (n := 5) (As := [.ref (aX 0), .int (xs (6 * n + 1)), .int (xs (6 * n + 2)), .int (xs (6 * n + 3)), .ref ao]) (rest := []) rfl hl.1 rfl (Nat.le_of_ble_eq_true rfl) ⟨Nat.le_trans (by omega) hc, Nat.le_trans (by omega) hs⟩ dL_law_679) hS (fun q hq => hq.elim (F.nX q) (fun h9 => by rw [h9]; exact F.nO)) (fun r f1 H1 L1 hO1 hd f9 hS1 => ?_)
  have hM1 : PM G aM μ s H1 := ⟨F.keepM hPM f9, F.hK⟩
  obtain ⟨op1, op2⟩ := op_sign hr (by omega) (xs (6 * n + 1)) (xs (6 * n + 2)) (xs (6 * n + 3))
  refine lv_istore (lv' := [(5, .int r), (0, .ref b), (1, .ref (aX 0)), (2, .ref (aM 0)), (3, .ref ao), (4, .int (nI (6 * n)))]) hx hb dL_law_682 hl (by decide) rfl (fun ls hl => ?_)
  refine lv_aload_n hx hb dL_law_684 rfl (lv_at hl 3 rfl) ?_
  refine lv_aload_n hx hb dL_law_685 rfl (lv_at hl 1 rfl) ?_
  refine lv_iload hx hb dL_law_686 (lv_at hl 5 rfl) ?_
  refine lv_iconst (v := 1) hx hb dL_law_688 (by decide) ?_
  refine lv_iadd hx hb dL_law_689 ?_
  refine k_eq (y := nI (6 * n + 1)) (nI_add (6 * n) 1) ?_
  refine k_sld F hS1 (k := 6 * n + 1) (by omega) dL_law_690 ?_
  refine lv_aload_n hx hb dL_law_691 rfl (lv_at hl 1 rfl) ?_
  refine lv_iload hx hb dL_law_692 (lv_at hl 5 rfl) ?_
  refine lv_iconst (v := 2) hx hb dL_law_694 (by decide) ?_
  refine lv_iadd hx hb dL_law_695 ?_
  refine k_eq (y := nI (6 * n + 2)) (nI_add (6 * n) 2) ?_
  refine k_sld F hS1 (k := 6 * n + 2) (by omega) dL_law_696 ?_
  refine lv_aload_n hx hb dL_law_697 rfl (lv_at hl 1 rfl) ?_
  refine lv_iload hx hb dL_law_698 (lv_at hl 5 rfl) ?_
  refine lv_iconst (v := 3) hx hb dL_law_700 (by decide) ?_
  refine lv_iadd hx hb dL_law_701 ?_
  refine k_eq (y := nI (6 * n + 3)) (nI_add (6 * n) 3) ?_
  refine k_sld F hS1 (k := 6 * n + 3) (by omega) dL_law_702 ?_
  refine q_w (r_V S ⟨m_702, m_703, m_704, m_40, m_705⟩ ⟨rfl, by decide, by decide, by decide +kernel⟩ (c4_sign l G aM μ nm ns (xs (6 * n + 1)) (xs (6 * n + 2)) (xs (6 * n + 3)) hr.hns hr.hns4 hr.hnm hr.hnm2 (AM aM) F.dM) ⟨rfl, rfl, Nat.le_of_ble_eq_true rfl, Nat.le_of_ble_eq_true rfl⟩ (pv_M hM1 bl_PM (bM hM1)) (n := 3) (As := [.int (xs (6 * n + 1)), .int (xs (6 * n + 2)), .int (xs (6 * n + 3))]) (rest := []) rfl hl.1 rfl (Nat.le_of_ble_eq_true rfl) ⟨Nat.le_trans (by omega) hc, Nat.le_trans (by omega) hs⟩ dL_law_703) hS1 F.nM (fun b9 H2 L2 hb9 hM2 _ f10 hS2 => ?_)
  subst hb9
  have hO2 := F.keepO hO1 f10
  have hMM2 : PM G aM (sM (ckR (xs (6 * n + 1)) 0 (μ 18 0 - 1) && ckR (xs (6 * n + 2)) 0 4 && ckR (xs (6 * n + 3)) 0 5, ckR (xs (6 * n + 1)) 0 (μ 18 0 - 1) && ckR (xs (6 * n + 2)) 0 4 && ckR (xs (6 * n + 3)) 0 5 && grM μ (lnN (xs (6 * n + 1)) (xs (6 * n + 2))), ckR (xs (6 * n + 1)) 0 (μ 18 0 - 1) && ckR (xs (6 * n + 2)) 0 4 && ckR (xs (6 * n + 3)) 0 5 && grM μ (lnN (xs (6 * n + 1)) (xs (6 * n + 2))) && (decide (μ 9 (ixN (xs (6 * n + 1))) = 1) && decide (μ 14 (lnN (xs (6 * n + 1)) (xs (6 * n + 2))) = 0) && decide (μ 0 (ixN (xs (6 * n + 2))) * abM (gpM μ nm ns (ixN (xs (6 * n + 1))) (ixN (xs (6 * n + 2)))) ≤ μ 1 (ixN (xs (6 * n + 3)))))) μ (fun κ => sgM κ (lnN (xs (6 * n + 1)) (xs (6 * n + 2))) (gpM μ nm ns (ixN (xs (6 * n + 1))) (ixN (xs (6 * n + 2)))))) s H2 := ⟨hM2, F.hK⟩
  refine lv_istore (lv' := [(6, .int (vM (ckR (xs (6 * n + 1)) 0 (μ 18 0 - 1) && ckR (xs (6 * n + 2)) 0 4 && ckR (xs (6 * n + 3)) 0 5, ckR (xs (6 * n + 1)) 0 (μ 18 0 - 1) && ckR (xs (6 * n + 2)) 0 4 && ckR (xs (6 * n + 3)) 0 5 && grM μ (lnN (xs (6 * n + 1)) (xs (6 * n + 2))), ckR (xs (6 * n + 1)) 0 (μ 18 0 - 1) && ckR (xs (6 * n + 2)) 0 4 && ckR (xs (6 * n + 3)) 0 5 && grM μ (lnN (xs (6 * n + 1)) (xs (6 * n + 2))) && (decide (μ 9 (ixN (xs (6 * n + 1))) = 1) && decide (μ 14 (lnN (xs (6 * n + 1)) (xs (6 * n + 2))) = 0) && decide (μ 0 (ixN (xs (6 * n + 2))) * abM (gpM μ nm ns (ixN (xs (6 * n + 1))) (ixN (xs (6 * n + 2)))) ≤ μ 1 (ixN (xs (6 * n + 3)))))) (gpM μ nm ns (ixN (xs (6 * n + 1))) (ixN (xs (6 * n + 2)))))), (5, .int r), (0, .ref b), (1, .ref (aX 0)), (2, .ref (aM 0)), (3, .ref ao), (4, .int (nI (6 * n)))]) hx hb dL_law_706 hl (by decide) rfl (fun ls hl => ?_)
  refine lv_aload_n hx hb dL_law_708 rfl (lv_at hl 4 rfl) ?_
  refine q_i (r_V S ⟨m_636, m_637, m_638, m_40, m_639⟩ ⟨rfl, by decide, by decide, by decide +kernel⟩ (c4_thrown l G aM (sM (ckR (xs (6 * n + 1)) 0 (μ 18 0 - 1) && ckR (xs (6 * n + 2)) 0 4 && ckR (xs (6 * n + 3)) 0 5, ckR (xs (6 * n + 1)) 0 (μ 18 0 - 1) && ckR (xs (6 * n + 2)) 0 4 && ckR (xs (6 * n + 3)) 0 5 && grM μ (lnN (xs (6 * n + 1)) (xs (6 * n + 2))), ckR (xs (6 * n + 1)) 0 (μ 18 0 - 1) && ckR (xs (6 * n + 2)) 0 4 && ckR (xs (6 * n + 3)) 0 5 && grM μ (lnN (xs (6 * n + 1)) (xs (6 * n + 2))) && (decide (μ 9 (ixN (xs (6 * n + 1))) = 1) && decide (μ 14 (lnN (xs (6 * n + 1)) (xs (6 * n + 2))) = 0) && decide (μ 0 (ixN (xs (6 * n + 2))) * abM (gpM μ nm ns (ixN (xs (6 * n + 1))) (ixN (xs (6 * n + 2)))) ≤ μ 1 (ixN (xs (6 * n + 3)))))) μ (fun κ => sgM κ (lnN (xs (6 * n + 1)) (xs (6 * n + 2))) (gpM μ nm ns (ixN (xs (6 * n + 1))) (ixN (xs (6 * n + 2))))))) ⟨rfl, rfl, Nat.le_of_ble_eq_true rfl, Nat.le_of_ble_eq_true rfl⟩ (pv_M hMM2 bl_PM (bM hMM2)) (n := 0) (As := []) (rest := []) rfl hl.1 rfl (Nat.le_of_ble_eq_true rfl) ⟨Nat.le_trans (by omega) hc, Nat.le_trans (by omega) hs⟩ dL_law_709) (fun t9 ht9 => ?_)
  subst ht9
  refine lv_iload hx hb dL_law_712 (lv_at hl 1 rfl) ?_
  rcases hd with ⟨hE, hr0, hf0, hX1⟩ | ⟨hE, hr0, hX1⟩
  · obtain ⟨g1, g2, g3⟩ := op1 hE
    subst hr0
    have hX2 := F.keepX hX1 f10
    refine lv_icmp_eq (tgt := 719) hx hb dL_law_714 (by decide) (fun c1 => ?_) (fun c1 => ?_)
    · refine lv_iload hx hb dL_law_719 (lv_at hl 1 rfl) ?_
      refine lv_if_ne (tgt := 736) hx hb dL_law_721 (by decide) (fun c2 => ?_) (fun c2 => ?_)
      · exact absurd rfl c2
      · refine lv_aload_n hx hb dL_law_724 rfl (lv_at hl 5 rfl) ?_
        refine lv_iconst (v := 0) hx hb dL_law_725 (by decide) ?_
        refine va_lald (D := G.1) hx hb F.hK.1 hO2 0 2 rfl rfl (vp_in_nI (n := 0) (N := 1) (by decide) (by decide)) dL_law_726 ?_
        refine lv_iload hx hb dL_law_727 (lv_at hl 0 rfl) ?_
        refine lv_i2l (v := (vM (ckR (xs (6 * n + 1)) 0 (μ 18 0 - 1) && ckR (xs (6 * n + 2)) 0 4 && ckR (xs (6 * n + 3)) 0 5, ckR (xs (6 * n + 1)) 0 (μ 18 0 - 1) && ckR (xs (6 * n + 2)) 0 4 && ckR (xs (6 * n + 3)) 0 5 && grM μ (lnN (xs (6 * n + 1)) (xs (6 * n + 2))), ckR (xs (6 * n + 1)) 0 (μ 18 0 - 1) && ckR (xs (6 * n + 2)) 0 4 && ckR (xs (6 * n + 3)) 0 5 && grM μ (lnN (xs (6 * n + 1)) (xs (6 * n + 2))) && (decide (μ 9 (ixN (xs (6 * n + 1))) = 1) && decide (μ 14 (lnN (xs (6 * n + 1)) (xs (6 * n + 2))) = 0) && decide (μ 0 (ixN (xs (6 * n + 2))) * abM (gpM μ nm ns (ixN (xs (6 * n + 1))) (ixN (xs (6 * n + 2)))) ≤ μ 1 (ixN (xs (6 * n + 3)))))) (gpM μ nm ns (ixN (xs (6 * n + 1))) (ixN (xs (6 * n + 2)))) : Int32).toInt64) hx hb dL_law_729 rfl ?_
        refine W.lcmp hx hb dL_law_730 ?_
        refine k_eq (y := 0) (lcmp_ne (hf0.trans g2)) ?_
        refine lv_if_eq (tgt := 736) hx hb dL_law_731 (by decide) (fun c7 => ?_) (fun c7 => ?_)
        · skip
          refine lv_goto (tgt := 1590) hx hb dL_law_736 (by decide) ?_
          exact W.widen (k := cells + 6) (n := slots + 36) (by omega) (by omega) (next _ _ _ _ g3 ⟨hX2, hM2, ⟨_, hO2⟩, hS2⟩ ls (lv_sub hl [2, 3, 4, 5, 6] rfl))
        · exact absurd rfl c7
    · exact absurd g1 c1
  · obtain ⟨g1, g3⟩ := op2 hE
    subst hr0
    have hp : (if eX_sign σ nm ns (xs (6 * n + 1)) (xs (6 * n + 2)) (xs (6 * n + 3)) = 1 then 1 else if eX_sign σ nm ns (xs (6 * n + 1)) (xs (6 * n + 2)) (xs (6 * n + 3)) = 4 then 2 else 3 : Int32) ≠ 0 := by (repeat' split) <;> decide
    have hX2 := F.keepX hX1 f10
    refine lv_icmp_eq (tgt := 719) hx hb dL_law_714 (by decide) (fun c1 => ?_) (fun c1 => ?_)
    · refine lv_iload hx hb dL_law_719 (lv_at hl 1 rfl) ?_
      refine lv_if_ne (tgt := 736) hx hb dL_law_721 (by decide) (fun c2 => ?_) (fun c2 => ?_)
      · skip
        refine lv_goto (tgt := 1590) hx hb dL_law_736 (by decide) ?_
        exact W.widen (k := cells + 6) (n := slots + 36) (by omega) (by omega) (next _ _ _ _ g3 ⟨hX2, hM2, ⟨_, hO2⟩, hS2⟩ ls (lv_sub hl [2, 3, 4, 5, 6] rfl))
      · exact absurd c2 hp
    · exact absurd g1 c1

set_option maxHeartbeats 4000000 in
set_option maxRecDepth 100000 in
theorem K_settle {p : Program} {l : Launch} {e : Env} {s : State} {m : MethodId} {below : List Frame} {meth : Method} {c : Code} {H : Heap} {locs : List Loc} {cells slots : Nat} {Q : State → Prop} {b L : Nat} {xs : Nat → Int32} {G : kG} {aX aM : Nat → Nat} {ao : Nat} (F : LFix p l s m meth c b L xs G aX aM ao) {n : Nat} (hn : 6 * n + 6 ≤ L) {σ μ : kS} (hR : RR σ μ n) (hI : LI G aX aM ao s σ μ H locs) (hc : cells + 6 ≤ room_1.cells) (hs : slots + 36 ≤ room_1.slots) (next : ∀ (σ9 μ9 : kS) (H9 : Heap) (L9 : List Loc), RR σ9 μ9 (n + 1) → LI G aX aM ao s σ9 μ9 H9 L9 → ∀ ls, lv_has ls 7 [(0, .ref b), (1, .ref (aX 0)), (2, .ref (aM 0)), (3, .ref ao), (4, .int (nI (6 * n)))] → W p l e room_1 s m #[Value.ref b] below meth c H9 L9 (cells + 6) (slots + 36) Q (F0 m 1590 ls [])) {ls : Array Slot} (hl : lv_has ls 7 [(0, .ref b), (1, .ref (aX 0)), (2, .ref (aM 0)), (3, .ref ao), (4, .int (nI (6 * n)))]) : W p l e room_1 s m #[Value.ref b] below meth c H locs cells slots Q (F0 m 739 ls []) := by
  obtain ⟨nm, ns, N, Sz, hr⟩ := hR
  obtain ⟨hPX, hPM, ⟨f, hPO⟩, hS⟩ := hI
  have S := F.S
  have hx := S.1
  have hb := S.2.1
  have hL := F.hL
  have hXX : PX G aX σ s H := ⟨hPX, F.hK⟩
  have hMM : PM G aM μ s H := ⟨hPM, F.hK⟩
  refine lv_aload_n hx hb dL_law_739 rfl (lv_at hl 1 rfl) ?_
  refine lv_aload_n hx hb dL_law_740 rfl (lv_at hl 0 rfl) ?_
  refine lv_iload hx hb dL_law_741 (lv_at hl 4 rfl) ?_
  refine lv_iconst (v := 1) hx hb dL_law_743 (by decide) ?_
  refine lv_iadd hx hb dL_law_744 ?_
  refine k_eq (y := nI (6 * n + 1)) (nI_add (6 * n) 1) ?_
  refine k_sld F hS (k := 6 * n + 1) (by omega) dL_law_745 ?_
  refine lv_aload_n hx hb dL_law_746 rfl (lv_at hl 0 rfl) ?_
  refine lv_iload hx hb dL_law_747 (lv_at hl 4 rfl) ?_
  refine lv_iconst (v := 2) hx hb dL_law_749 (by decide) ?_
  refine lv_iadd hx hb dL_law_750 ?_
  refine k_eq (y := nI (6 * n + 2)) (nI_add (6 * n) 2) ?_
  refine k_sld F hS (k := 6 * n + 2) (by omega) dL_law_751 ?_
  refine lv_aload_n hx hb dL_law_752 rfl (lv_at hl 0 rfl) ?_
  refine lv_iload hx hb dL_law_753 (lv_at hl 4 rfl) ?_
  refine lv_iconst (v := 3) hx hb dL_law_755 (by decide) ?_
  refine lv_iadd hx hb dL_law_756 ?_
  refine k_eq (y := nI (6 * n + 3)) (nI_add (6 * n) 3) ?_
  refine k_sld F hS (k := 6 * n + 3) (by omega) dL_law_757 ?_
  refine lv_aload_n hx hb dL_law_758 rfl (lv_at hl 3 rfl) ?_
  refine q_lh (rx_SX S ⟨m_476, m_477, m_34, m_478⟩ ⟨rfl, by decide, by decide, by decide +kernel⟩ (cL_settle_c l G aX σ nm ns (xs (6 * n + 1)) (xs (6 * n + 2)) (xs (6 * n + 3)) F.hst ((hr.eq 18 0 (by decide)).trans hr.hns) hr.hns4 ((hr.eq 17 0 (by decide)).trans hr.hnm) hr.hnm2 ao f (AX aX) F.dX F.xo) ⟨rfl, rfl, Nat.le_of_ble_eq_true rfl, Nat.le_of_ble_eq_true rfl⟩ (ps bl_PL (fun U hU hW => by show PX G aX σ U U.heap ∧ ZS U U.heap ∧ va_P G.1 vwCl (wO G ao f) U.heap; rw [hU]; exact ⟨hXX.warm hW, (F.zs hS).warm hW, hPO⟩)) (n := 5) (As := [.ref (aX 0), .int (xs (6 * n + 1)), .int (xs (6 * n + 2)), .int (xs (6 * n + 3)), .ref ao]) (rest := []) rfl hl.1 rfl (Nat.le_of_ble_eq_true rfl) ⟨Nat.le_trans (by omega) hc, Nat.le_trans (by omega) hs⟩ dL_law_759) hS (fun q hq => hq.elim (F.nX q) (fun h9 => by rw [h9]; exact F.nO)) (fun r f1 H1 L1 hO1 hd f9 hS1 => ?_)
  have hM1 : PM G aM μ s H1 := ⟨F.keepM hPM f9, F.hK⟩
  obtain ⟨op1, op2⟩ := op_settle hr (by omega) (xs (6 * n + 1)) (xs (6 * n + 2)) (xs (6 * n + 3))
  refine lv_istore (lv' := [(5, .int r), (0, .ref b), (1, .ref (aX 0)), (2, .ref (aM 0)), (3, .ref ao), (4, .int (nI (6 * n)))]) hx hb dL_law_762 hl (by decide) rfl (fun ls hl => ?_)
  refine lv_aload_n hx hb dL_law_764 rfl (lv_at hl 3 rfl) ?_
  refine lv_aload_n hx hb dL_law_765 rfl (lv_at hl 1 rfl) ?_
  refine lv_iload hx hb dL_law_766 (lv_at hl 5 rfl) ?_
  refine lv_iconst (v := 1) hx hb dL_law_768 (by decide) ?_
  refine lv_iadd hx hb dL_law_769 ?_
  refine k_eq (y := nI (6 * n + 1)) (nI_add (6 * n) 1) ?_
  refine k_sld F hS1 (k := 6 * n + 1) (by omega) dL_law_770 ?_
  refine lv_aload_n hx hb dL_law_771 rfl (lv_at hl 1 rfl) ?_
  refine lv_iload hx hb dL_law_772 (lv_at hl 5 rfl) ?_
  refine lv_iconst (v := 2) hx hb dL_law_774 (by decide) ?_
  refine lv_iadd hx hb dL_law_775 ?_
  refine k_eq (y := nI (6 * n + 2)) (nI_add (6 * n) 2) ?_
  refine k_sld F hS1 (k := 6 * n + 2) (by omega) dL_law_776 ?_
  refine lv_aload_n hx hb dL_law_777 rfl (lv_at hl 1 rfl) ?_
  refine lv_iload hx hb dL_law_778 (lv_at hl 5 rfl) ?_
  refine lv_iconst (v := 3) hx hb dL_law_780 (by decide) ?_
  refine lv_iadd hx hb dL_law_781 ?_
  refine k_eq (y := nI (6 * n + 3)) (nI_add (6 * n) 3) ?_
  refine k_sld F hS1 (k := 6 * n + 3) (by omega) dL_law_782 ?_
  refine q_w (r_V S ⟨m_722, m_723, m_724, m_40, m_725⟩ ⟨rfl, by decide, by decide, by decide +kernel⟩ (c4_settle l G aM μ nm ns (xs (6 * n + 1)) (xs (6 * n + 2)) (xs (6 * n + 3)) hr.hns hr.hns4 hr.hnm hr.hnm2 (AM aM) F.dM) ⟨rfl, rfl, Nat.le_of_ble_eq_true rfl, Nat.le_of_ble_eq_true rfl⟩ (pv_M hM1 bl_PM (bM hM1)) (n := 3) (As := [.int (xs (6 * n + 1)), .int (xs (6 * n + 2)), .int (xs (6 * n + 3))]) (rest := []) rfl hl.1 rfl (Nat.le_of_ble_eq_true rfl) ⟨Nat.le_trans (by omega) hc, Nat.le_trans (by omega) hs⟩ dL_law_783) hS1 F.nM (fun b9 H2 L2 hb9 hM2 _ f10 hS2 => ?_)
  subst hb9
  have hO2 := F.keepO hO1 f10
  have hMM2 : PM G aM (sM (ckR (xs (6 * n + 1)) 0 (μ 18 0 - 1) && ckR (xs (6 * n + 2)) 0 (μ 18 0 - 1) && ckR (xs (6 * n + 3)) 0 4, ckR (xs (6 * n + 1)) 0 (μ 18 0 - 1) && ckR (xs (6 * n + 2)) 0 (μ 18 0 - 1) && ckR (xs (6 * n + 3)) 0 4 && (grM μ (lnN (xs (6 * n + 1)) (xs (6 * n + 3))) && grM μ (lnN (xs (6 * n + 2)) (xs (6 * n + 3)))), ckR (xs (6 * n + 1)) 0 (μ 18 0 - 1) && ckR (xs (6 * n + 2)) 0 (μ 18 0 - 1) && ckR (xs (6 * n + 3)) 0 4 && (grM μ (lnN (xs (6 * n + 1)) (xs (6 * n + 3))) && grM μ (lnN (xs (6 * n + 2)) (xs (6 * n + 3)))) && ctM μ nm ns (ixN (xs (6 * n + 1))) (ixN (xs (6 * n + 2))) (ixN (xs (6 * n + 3)))) μ (fun κ => sgM (sgM κ (lnN (xs (6 * n + 1)) (xs (6 * n + 3))) (gpM κ nm ns (ixN (xs (6 * n + 1))) (ixN (xs (6 * n + 3))))) (lnN (xs (6 * n + 2)) (xs (6 * n + 3))) (-(gpM κ nm ns (ixN (xs (6 * n + 1))) (ixN (xs (6 * n + 3))))))) s H2 := ⟨hM2, F.hK⟩
  refine lv_istore (lv' := [(6, .int (vM (ckR (xs (6 * n + 1)) 0 (μ 18 0 - 1) && ckR (xs (6 * n + 2)) 0 (μ 18 0 - 1) && ckR (xs (6 * n + 3)) 0 4, ckR (xs (6 * n + 1)) 0 (μ 18 0 - 1) && ckR (xs (6 * n + 2)) 0 (μ 18 0 - 1) && ckR (xs (6 * n + 3)) 0 4 && (grM μ (lnN (xs (6 * n + 1)) (xs (6 * n + 3))) && grM μ (lnN (xs (6 * n + 2)) (xs (6 * n + 3)))), ckR (xs (6 * n + 1)) 0 (μ 18 0 - 1) && ckR (xs (6 * n + 2)) 0 (μ 18 0 - 1) && ckR (xs (6 * n + 3)) 0 4 && (grM μ (lnN (xs (6 * n + 1)) (xs (6 * n + 3))) && grM μ (lnN (xs (6 * n + 2)) (xs (6 * n + 3)))) && ctM μ nm ns (ixN (xs (6 * n + 1))) (ixN (xs (6 * n + 2))) (ixN (xs (6 * n + 3)))) (if gpM (su μ 23 0 0) nm ns (ixN (xs (6 * n + 1))) (ixN (xs (6 * n + 3))) ≤ 0 then -(gpM (su μ 23 0 0) nm ns (ixN (xs (6 * n + 1))) (ixN (xs (6 * n + 3)))) else gpM (su μ 23 0 0) nm ns (ixN (xs (6 * n + 1))) (ixN (xs (6 * n + 3)))))), (5, .int r), (0, .ref b), (1, .ref (aX 0)), (2, .ref (aM 0)), (3, .ref ao), (4, .int (nI (6 * n)))]) hx hb dL_law_786 hl (by decide) rfl (fun ls hl => ?_)
  refine lv_aload_n hx hb dL_law_788 rfl (lv_at hl 4 rfl) ?_
  refine q_i (r_V S ⟨m_636, m_637, m_638, m_40, m_639⟩ ⟨rfl, by decide, by decide, by decide +kernel⟩ (c4_thrown l G aM (sM (ckR (xs (6 * n + 1)) 0 (μ 18 0 - 1) && ckR (xs (6 * n + 2)) 0 (μ 18 0 - 1) && ckR (xs (6 * n + 3)) 0 4, ckR (xs (6 * n + 1)) 0 (μ 18 0 - 1) && ckR (xs (6 * n + 2)) 0 (μ 18 0 - 1) && ckR (xs (6 * n + 3)) 0 4 && (grM μ (lnN (xs (6 * n + 1)) (xs (6 * n + 3))) && grM μ (lnN (xs (6 * n + 2)) (xs (6 * n + 3)))), ckR (xs (6 * n + 1)) 0 (μ 18 0 - 1) && ckR (xs (6 * n + 2)) 0 (μ 18 0 - 1) && ckR (xs (6 * n + 3)) 0 4 && (grM μ (lnN (xs (6 * n + 1)) (xs (6 * n + 3))) && grM μ (lnN (xs (6 * n + 2)) (xs (6 * n + 3)))) && ctM μ nm ns (ixN (xs (6 * n + 1))) (ixN (xs (6 * n + 2))) (ixN (xs (6 * n + 3)))) μ (fun κ => sgM (sgM κ (lnN (xs (6 * n + 1)) (xs (6 * n + 3))) (gpM κ nm ns (ixN (xs (6 * n + 1))) (ixN (xs (6 * n + 3))))) (lnN (xs (6 * n + 2)) (xs (6 * n + 3))) (-(gpM κ nm ns (ixN (xs (6 * n + 1))) (ixN (xs (6 * n + 3)))))))) ⟨rfl, rfl, Nat.le_of_ble_eq_true rfl, Nat.le_of_ble_eq_true rfl⟩ (pv_M hMM2 bl_PM (bM hMM2)) (n := 0) (As := []) (rest := []) rfl hl.1 rfl (Nat.le_of_ble_eq_true rfl) ⟨Nat.le_trans (by omega) hc, Nat.le_trans (by omega) hs⟩ dL_law_789) (fun t9 ht9 => ?_)
  subst ht9
  refine lv_iload hx hb dL_law_792 (lv_at hl 1 rfl) ?_
  rcases hd with ⟨hE, hr0, hf0, hX1⟩ | ⟨hE, hr0, hX1⟩
  · obtain ⟨g1, g2, g3⟩ := op1 hE
    subst hr0
    have hX2 := F.keepX hX1 f10
    refine lv_icmp_eq (tgt := 799) hx hb dL_law_794 (by decide) (fun c1 => ?_) (fun c1 => ?_)
    · refine lv_iload hx hb dL_law_799 (lv_at hl 1 rfl) ?_
      refine lv_if_ne (tgt := 816) hx hb dL_law_801 (by decide) (fun c2 => ?_) (fun c2 => ?_)
      · exact absurd rfl c2
      · refine lv_aload_n hx hb dL_law_804 rfl (lv_at hl 5 rfl) ?_
        refine lv_iconst (v := 0) hx hb dL_law_805 (by decide) ?_
        refine va_lald (D := G.1) hx hb F.hK.1 hO2 0 2 rfl rfl (vp_in_nI (n := 0) (N := 1) (by decide) (by decide)) dL_law_806 ?_
        refine lv_iload hx hb dL_law_807 (lv_at hl 0 rfl) ?_
        refine lv_i2l (v := (vM (ckR (xs (6 * n + 1)) 0 (μ 18 0 - 1) && ckR (xs (6 * n + 2)) 0 (μ 18 0 - 1) && ckR (xs (6 * n + 3)) 0 4, ckR (xs (6 * n + 1)) 0 (μ 18 0 - 1) && ckR (xs (6 * n + 2)) 0 (μ 18 0 - 1) && ckR (xs (6 * n + 3)) 0 4 && (grM μ (lnN (xs (6 * n + 1)) (xs (6 * n + 3))) && grM μ (lnN (xs (6 * n + 2)) (xs (6 * n + 3)))), ckR (xs (6 * n + 1)) 0 (μ 18 0 - 1) && ckR (xs (6 * n + 2)) 0 (μ 18 0 - 1) && ckR (xs (6 * n + 3)) 0 4 && (grM μ (lnN (xs (6 * n + 1)) (xs (6 * n + 3))) && grM μ (lnN (xs (6 * n + 2)) (xs (6 * n + 3)))) && ctM μ nm ns (ixN (xs (6 * n + 1))) (ixN (xs (6 * n + 2))) (ixN (xs (6 * n + 3)))) (if gpM (su μ 23 0 0) nm ns (ixN (xs (6 * n + 1))) (ixN (xs (6 * n + 3))) ≤ 0 then -(gpM (su μ 23 0 0) nm ns (ixN (xs (6 * n + 1))) (ixN (xs (6 * n + 3)))) else gpM (su μ 23 0 0) nm ns (ixN (xs (6 * n + 1))) (ixN (xs (6 * n + 3)))) : Int32).toInt64) hx hb dL_law_809 rfl ?_
        refine W.lcmp hx hb dL_law_810 ?_
        refine k_eq (y := 0) (lcmp_ne (hf0.trans g2)) ?_
        refine lv_if_eq (tgt := 816) hx hb dL_law_811 (by decide) (fun c7 => ?_) (fun c7 => ?_)
        · skip
          refine lv_goto (tgt := 1590) hx hb dL_law_816 (by decide) ?_
          exact W.widen (k := cells + 6) (n := slots + 36) (by omega) (by omega) (next _ _ _ _ g3 ⟨hX2, hM2, ⟨_, hO2⟩, hS2⟩ ls (lv_sub hl [2, 3, 4, 5, 6] rfl))
        · exact absurd rfl c7
    · exact absurd g1 c1
  · obtain ⟨g1, g3⟩ := op2 hE
    subst hr0
    have hp : (if eX_settle σ nm ns (xs (6 * n + 1)) (xs (6 * n + 2)) (xs (6 * n + 3)) = 1 then 1 else if eX_settle σ nm ns (xs (6 * n + 1)) (xs (6 * n + 2)) (xs (6 * n + 3)) = 4 then 2 else 3 : Int32) ≠ 0 := by (repeat' split) <;> decide
    have hX2 := F.keepX hX1 f10
    refine lv_icmp_eq (tgt := 799) hx hb dL_law_794 (by decide) (fun c1 => ?_) (fun c1 => ?_)
    · refine lv_iload hx hb dL_law_799 (lv_at hl 1 rfl) ?_
      refine lv_if_ne (tgt := 816) hx hb dL_law_801 (by decide) (fun c2 => ?_) (fun c2 => ?_)
      · skip
        refine lv_goto (tgt := 1590) hx hb dL_law_816 (by decide) ?_
        exact W.widen (k := cells + 6) (n := slots + 36) (by omega) (by omega) (next _ _ _ _ g3 ⟨hX2, hM2, ⟨_, hO2⟩, hS2⟩ ls (lv_sub hl [2, 3, 4, 5, 6] rfl))
      · exact absurd c2 hp
    · exact absurd g1 c1

set_option maxHeartbeats 4000000 in
set_option maxRecDepth 100000 in
theorem K_now {p : Program} {l : Launch} {e : Env} {s : State} {m : MethodId} {below : List Frame} {meth : Method} {c : Code} {H : Heap} {locs : List Loc} {cells slots : Nat} {Q : State → Prop} {b L : Nat} {xs : Nat → Int32} {G : kG} {aX aM : Nat → Nat} {ao : Nat} (F : LFix p l s m meth c b L xs G aX aM ao) {n : Nat} (hn : 6 * n + 6 ≤ L) {σ μ : kS} (hR : RR σ μ n) (hI : LI G aX aM ao s σ μ H locs) (hc : cells + 6 ≤ room_1.cells) (hs : slots + 36 ≤ room_1.slots) (next : ∀ (σ9 μ9 : kS) (H9 : Heap) (L9 : List Loc), RR σ9 μ9 (n + 1) → LI G aX aM ao s σ9 μ9 H9 L9 → ∀ ls, lv_has ls 7 [(0, .ref b), (1, .ref (aX 0)), (2, .ref (aM 0)), (3, .ref ao), (4, .int (nI (6 * n)))] → W p l e room_1 s m #[Value.ref b] below meth c H9 L9 (cells + 6) (slots + 36) Q (F0 m 1590 ls [])) {ls : Array Slot} (hl : lv_has ls 7 [(0, .ref b), (1, .ref (aX 0)), (2, .ref (aM 0)), (3, .ref ao), (4, .int (nI (6 * n)))]) : W p l e room_1 s m #[Value.ref b] below meth c H locs cells slots Q (F0 m 819 ls []) := by
  obtain ⟨nm, ns, N, Sz, hr⟩ := hR
  obtain ⟨hPX, hPM, ⟨f, hPO⟩, hS⟩ := hI
  have S := F.S
  have hx := S.1
  have hb := S.2.1
  have hL := F.hL
  have hXX : PX G aX σ s H := ⟨hPX, F.hK⟩
  have hMM : PM G aM μ s H := ⟨hPM, F.hK⟩
  refine lv_aload_n hx hb dL_law_819 rfl (lv_at hl 1 rfl) ?_
  refine q_i (r_V S ⟨m_163, m_164, m_165, m_35, m_166⟩ ⟨rfl, by decide, by decide, by decide +kernel⟩ (c_now l G aX σ) ⟨rfl, rfl, Nat.le_of_ble_eq_true rfl, Nat.le_of_ble_eq_true rfl⟩ (pv_X hXX 0 rfl rfl bl_PX (bX hXX)) (n := 0) (As := []) (rest := []) rfl hl.1 rfl (Nat.le_of_ble_eq_true rfl) ⟨Nat.le_trans (by omega) hc, Nat.le_trans (by omega) hs⟩ dL_law_820) (fun r9 hr9 => ?_)
  subst hr9
  refine lv_aload_n hx hb dL_law_823 rfl (lv_at hl 2 rfl) ?_
  refine q_w (r_V S ⟨m_730, m_731, m_732, m_40, m_733⟩ ⟨rfl, by decide, by decide, by decide +kernel⟩ (c4_now l G aM μ (AM aM) F.dM) ⟨rfl, rfl, Nat.le_of_ble_eq_true rfl, Nat.le_of_ble_eq_true rfl⟩ (pv_M hMM bl_PM (bM hMM)) (n := 0) (As := []) (rest := [.int (σ 16 0)]) rfl hl.1 rfl (Nat.le_of_ble_eq_true rfl) ⟨Nat.le_trans (by omega) hc, Nat.le_trans (by omega) hs⟩ dL_law_824) hS F.nM (fun b9 H2 L2 hb9 hM2 _ f10 hS2 => ?_)
  subst hb9
  obtain ⟨g1, g3⟩ := op_now hr (by omega)
  have hX2 := F.keepX hPX f10
  have hO2 := F.keepO hPO f10
  refine lv_icmp_eq (tgt := 1590) hx hb dL_law_827 (by decide) (fun c1 => ?_) (fun c1 => ?_)
  · skip
    exact W.widen (k := cells + 6) (n := slots + 36) (by omega) (by omega) (next _ _ _ _ g3 ⟨hX2, hM2, ⟨_, hO2⟩, hS2⟩ ls (lv_sub hl [0, 1, 2, 3, 4] rfl))
  · exact absurd g1 c1

set_option maxHeartbeats 4000000 in
set_option maxRecDepth 100000 in
theorem K_moves {p : Program} {l : Launch} {e : Env} {s : State} {m : MethodId} {below : List Frame} {meth : Method} {c : Code} {H : Heap} {locs : List Loc} {cells slots : Nat} {Q : State → Prop} {b L : Nat} {xs : Nat → Int32} {G : kG} {aX aM : Nat → Nat} {ao : Nat} (F : LFix p l s m meth c b L xs G aX aM ao) {n : Nat} (hn : 6 * n + 6 ≤ L) {σ μ : kS} (hR : RR σ μ n) (hI : LI G aX aM ao s σ μ H locs) (hc : cells + 6 ≤ room_1.cells) (hs : slots + 36 ≤ room_1.slots) (next : ∀ (σ9 μ9 : kS) (H9 : Heap) (L9 : List Loc), RR σ9 μ9 (n + 1) → LI G aX aM ao s σ9 μ9 H9 L9 → ∀ ls, lv_has ls 7 [(0, .ref b), (1, .ref (aX 0)), (2, .ref (aM 0)), (3, .ref ao), (4, .int (nI (6 * n)))] → W p l e room_1 s m #[Value.ref b] below meth c H9 L9 (cells + 6) (slots + 36) Q (F0 m 1590 ls [])) {ls : Array Slot} (hl : lv_has ls 7 [(0, .ref b), (1, .ref (aX 0)), (2, .ref (aM 0)), (3, .ref ao), (4, .int (nI (6 * n)))]) : W p l e room_1 s m #[Value.ref b] below meth c H locs cells slots Q (F0 m 832 ls []) := by
  obtain ⟨nm, ns, N, Sz, hr⟩ := hR
  obtain ⟨hPX, hPM, ⟨f, hPO⟩, hS⟩ := hI
  have S := F.S
  have hx := S.1
  have hb := S.2.1
  have hL := F.hL
  have hXX : PX G aX σ s H := ⟨hPX, F.hK⟩
  have hMM : PM G aM μ s H := ⟨hPM, F.hK⟩
  refine lv_aload_n hx hb dL_law_832 rfl (lv_at hl 1 rfl) ?_
  refine q_i (r_V S ⟨m_167, m_168, m_169, m_35, m_170⟩ ⟨rfl, by decide, by decide, by decide +kernel⟩ (c_moves l G aX σ) ⟨rfl, rfl, Nat.le_of_ble_eq_true rfl, Nat.le_of_ble_eq_true rfl⟩ (pv_X hXX 0 rfl rfl bl_PX (bX hXX)) (n := 0) (As := []) (rest := []) rfl hl.1 rfl (Nat.le_of_ble_eq_true rfl) ⟨Nat.le_trans (by omega) hc, Nat.le_trans (by omega) hs⟩ dL_law_833) (fun r9 hr9 => ?_)
  subst hr9
  refine lv_aload_n hx hb dL_law_836 rfl (lv_at hl 2 rfl) ?_
  refine q_w (r_V S ⟨m_738, m_739, m_740, m_40, m_741⟩ ⟨rfl, by decide, by decide, by decide +kernel⟩ (c4_moves l G aM μ (AM aM) F.dM) ⟨rfl, rfl, Nat.le_of_ble_eq_true rfl, Nat.le_of_ble_eq_true rfl⟩ (pv_M hMM bl_PM (bM hMM)) (n := 0) (As := []) (rest := [.int (σ 17 0)]) rfl hl.1 rfl (Nat.le_of_ble_eq_true rfl) ⟨Nat.le_trans (by omega) hc, Nat.le_trans (by omega) hs⟩ dL_law_837) hS F.nM (fun b9 H2 L2 hb9 hM2 _ f10 hS2 => ?_)
  subst hb9
  obtain ⟨g1, g3⟩ := op_moves hr (by omega)
  have hX2 := F.keepX hPX f10
  have hO2 := F.keepO hPO f10
  refine lv_icmp_eq (tgt := 1590) hx hb dL_law_840 (by decide) (fun c1 => ?_) (fun c1 => ?_)
  · skip
    exact W.widen (k := cells + 6) (n := slots + 36) (by omega) (by omega) (next _ _ _ _ g3 ⟨hX2, hM2, ⟨_, hO2⟩, hS2⟩ ls (lv_sub hl [0, 1, 2, 3, 4] rfl))
  · exact absurd g1 c1

set_option maxHeartbeats 4000000 in
set_option maxRecDepth 100000 in
theorem K_book {p : Program} {l : Launch} {e : Env} {s : State} {m : MethodId} {below : List Frame} {meth : Method} {c : Code} {H : Heap} {locs : List Loc} {cells slots : Nat} {Q : State → Prop} {b L : Nat} {xs : Nat → Int32} {G : kG} {aX aM : Nat → Nat} {ao : Nat} (F : LFix p l s m meth c b L xs G aX aM ao) {n : Nat} (hn : 6 * n + 6 ≤ L) {σ μ : kS} (hR : RR σ μ n) (hI : LI G aX aM ao s σ μ H locs) (hc : cells + 6 ≤ room_1.cells) (hs : slots + 36 ≤ room_1.slots) (next : ∀ (σ9 μ9 : kS) (H9 : Heap) (L9 : List Loc), RR σ9 μ9 (n + 1) → LI G aX aM ao s σ9 μ9 H9 L9 → ∀ ls, lv_has ls 7 [(0, .ref b), (1, .ref (aX 0)), (2, .ref (aM 0)), (3, .ref ao), (4, .int (nI (6 * n)))] → W p l e room_1 s m #[Value.ref b] below meth c H9 L9 (cells + 6) (slots + 36) Q (F0 m 1590 ls [])) {ls : Array Slot} (hl : lv_has ls 7 [(0, .ref b), (1, .ref (aX 0)), (2, .ref (aM 0)), (3, .ref ao), (4, .int (nI (6 * n)))]) : W p l e room_1 s m #[Value.ref b] below meth c H locs cells slots Q (F0 m 845 ls []) := by
  obtain ⟨nm, ns, N, Sz, hr⟩ := hR
  obtain ⟨hPX, hPM, ⟨f, hPO⟩, hS⟩ := hI
  have S := F.S
  have hx := S.1
  have hb := S.2.1
  have hL := F.hL
  have hXX : PX G aX σ s H := ⟨hPX, F.hK⟩
  have hMM : PM G aM μ s H := ⟨hPM, F.hK⟩
  refine lv_aload_n hx hb dL_law_845 rfl (lv_at hl 1 rfl) ?_
  refine lv_aload_n hx hb dL_law_846 rfl (lv_at hl 0 rfl) ?_
  refine lv_iload hx hb dL_law_847 (lv_at hl 4 rfl) ?_
  refine lv_iconst (v := 1) hx hb dL_law_849 (by decide) ?_
  refine lv_iadd hx hb dL_law_850 ?_
  refine k_eq (y := nI (6 * n + 1)) (nI_add (6 * n) 1) ?_
  refine k_sld F hS (k := 6 * n + 1) (by omega) dL_law_851 ?_
  refine lv_aload_n hx hb dL_law_852 rfl (lv_at hl 0 rfl) ?_
  refine lv_iload hx hb dL_law_853 (lv_at hl 4 rfl) ?_
  refine lv_iconst (v := 2) hx hb dL_law_855 (by decide) ?_
  refine lv_iadd hx hb dL_law_856 ?_
  refine k_eq (y := nI (6 * n + 2)) (nI_add (6 * n) 2) ?_
  refine k_sld F hS (k := 6 * n + 2) (by omega) dL_law_857 ?_
  refine lv_aload_n hx hb dL_law_858 rfl (lv_at hl 3 rfl) ?_
  refine q_lh (rx_SX S ⟨m_488, m_489, m_34, m_490⟩ ⟨rfl, by decide, by decide, by decide +kernel⟩ (cL_book_c l G aX σ nm ns (xs (6 * n + 1)) (xs (6 * n + 2)) F.hst ((hr.eq 18 0 (by decide)).trans hr.hns) hr.hns4 ((hr.eq 17 0 (by decide)).trans hr.hnm) hr.hnm2 ao f (AX aX) F.dX F.xo) ⟨rfl, rfl, Nat.le_of_ble_eq_true rfl, Nat.le_of_ble_eq_true rfl⟩ (ps bl_PL (fun U hU hW => by show PX G aX σ U U.heap ∧ ZS U U.heap ∧ va_P G.1 vwCl (wO G ao f) U.heap; rw [hU]; exact ⟨hXX.warm hW, (F.zs hS).warm hW, hPO⟩)) (n := 4) (As := [.ref (aX 0), .int (xs (6 * n + 1)), .int (xs (6 * n + 2)), .ref ao]) (rest := []) rfl hl.1 rfl (Nat.le_of_ble_eq_true rfl) ⟨Nat.le_trans (by omega) hc, Nat.le_trans (by omega) hs⟩ dL_law_859) hS (fun q hq => hq.elim (F.nX q) (fun h9 => by rw [h9]; exact F.nO)) (fun r f1 H1 L1 hO1 hd f9 hS1 => ?_)
  have hM1 : PM G aM μ s H1 := ⟨F.keepM hPM f9, F.hK⟩
  obtain ⟨op1, op2⟩ := op_book hr (by omega) (xs (6 * n + 1)) (xs (6 * n + 2))
  refine lv_istore (lv' := [(5, .int r), (0, .ref b), (1, .ref (aX 0)), (2, .ref (aM 0)), (3, .ref ao), (4, .int (nI (6 * n)))]) hx hb dL_law_862 hl (by decide) rfl (fun ls hl => ?_)
  refine lv_aload_n hx hb dL_law_864 rfl (lv_at hl 3 rfl) ?_
  refine lv_aload_n hx hb dL_law_865 rfl (lv_at hl 1 rfl) ?_
  refine lv_iload hx hb dL_law_866 (lv_at hl 5 rfl) ?_
  refine lv_iconst (v := 1) hx hb dL_law_868 (by decide) ?_
  refine lv_iadd hx hb dL_law_869 ?_
  refine k_eq (y := nI (6 * n + 1)) (nI_add (6 * n) 1) ?_
  refine k_sld F hS1 (k := 6 * n + 1) (by omega) dL_law_870 ?_
  refine lv_aload_n hx hb dL_law_871 rfl (lv_at hl 1 rfl) ?_
  refine lv_iload hx hb dL_law_872 (lv_at hl 5 rfl) ?_
  refine lv_iconst (v := 2) hx hb dL_law_874 (by decide) ?_
  refine lv_iadd hx hb dL_law_875 ?_
  refine k_eq (y := nI (6 * n + 2)) (nI_add (6 * n) 2) ?_
  refine k_sld F hS1 (k := 6 * n + 2) (by omega) dL_law_876 ?_
  refine q_w (r_V S ⟨m_742, m_743, m_744, m_40, m_745⟩ ⟨rfl, by decide, by decide, by decide +kernel⟩ (c4_book l G aM μ nm ns (xs (6 * n + 1)) (xs (6 * n + 2)) hr.hns hr.hns4 hr.hnm hr.hnm2 (AM aM) F.dM) ⟨rfl, rfl, Nat.le_of_ble_eq_true rfl, Nat.le_of_ble_eq_true rfl⟩ (pv_M hM1 bl_PM (bM hM1)) (n := 2) (As := [.int (xs (6 * n + 1)), .int (xs (6 * n + 2))]) (rest := []) rfl hl.1 rfl (Nat.le_of_ble_eq_true rfl) ⟨Nat.le_trans (by omega) hc, Nat.le_trans (by omega) hs⟩ dL_law_877) hS1 F.nM (fun b9 H2 L2 hb9 hM2 _ f10 hS2 => ?_)
  subst hb9
  have hO2 := F.keepO hO1 f10
  have hMM2 : PM G aM (sM (ckR (xs (6 * n + 1)) 0 11 && ckR (xs (6 * n + 2)) 0 4, true, true) μ (fun κ => κ)) s H2 := ⟨hM2, F.hK⟩
  refine lv_istore (lv' := [(6, .int (vM (ckR (xs (6 * n + 1)) 0 11 && ckR (xs (6 * n + 2)) 0 4, true, true) (boM (su μ 23 0 0) nm ns (xs (6 * n + 1)) (ixN (xs (6 * n + 2))) (μ 16 0)))), (5, .int r), (0, .ref b), (1, .ref (aX 0)), (2, .ref (aM 0)), (3, .ref ao), (4, .int (nI (6 * n)))]) hx hb dL_law_880 hl (by decide) rfl (fun ls hl => ?_)
  refine lv_aload_n hx hb dL_law_882 rfl (lv_at hl 4 rfl) ?_
  refine q_i (r_V S ⟨m_636, m_637, m_638, m_40, m_639⟩ ⟨rfl, by decide, by decide, by decide +kernel⟩ (c4_thrown l G aM (sM (ckR (xs (6 * n + 1)) 0 11 && ckR (xs (6 * n + 2)) 0 4, true, true) μ (fun κ => κ))) ⟨rfl, rfl, Nat.le_of_ble_eq_true rfl, Nat.le_of_ble_eq_true rfl⟩ (pv_M hMM2 bl_PM (bM hMM2)) (n := 0) (As := []) (rest := []) rfl hl.1 rfl (Nat.le_of_ble_eq_true rfl) ⟨Nat.le_trans (by omega) hc, Nat.le_trans (by omega) hs⟩ dL_law_883) (fun t9 ht9 => ?_)
  subst ht9
  refine lv_iload hx hb dL_law_886 (lv_at hl 1 rfl) ?_
  rcases hd with ⟨hE, hr0, hf0, hX1⟩ | ⟨hE, hr0, hX1⟩
  · obtain ⟨g1, g2, g3⟩ := op1 hE
    subst hr0
    have hX2 := F.keepX hX1 f10
    refine lv_icmp_eq (tgt := 893) hx hb dL_law_888 (by decide) (fun c1 => ?_) (fun c1 => ?_)
    · refine lv_iload hx hb dL_law_893 (lv_at hl 1 rfl) ?_
      refine lv_if_ne (tgt := 910) hx hb dL_law_895 (by decide) (fun c2 => ?_) (fun c2 => ?_)
      · exact absurd rfl c2
      · refine lv_aload_n hx hb dL_law_898 rfl (lv_at hl 5 rfl) ?_
        refine lv_iconst (v := 0) hx hb dL_law_899 (by decide) ?_
        refine va_lald (D := G.1) hx hb F.hK.1 hO2 0 2 rfl rfl (vp_in_nI (n := 0) (N := 1) (by decide) (by decide)) dL_law_900 ?_
        refine lv_iload hx hb dL_law_901 (lv_at hl 0 rfl) ?_
        refine lv_i2l (v := (vM (ckR (xs (6 * n + 1)) 0 11 && ckR (xs (6 * n + 2)) 0 4, true, true) (boM (su μ 23 0 0) nm ns (xs (6 * n + 1)) (ixN (xs (6 * n + 2))) (μ 16 0)) : Int32).toInt64) hx hb dL_law_903 rfl ?_
        refine W.lcmp hx hb dL_law_904 ?_
        refine k_eq (y := 0) (lcmp_ne (hf0.trans g2)) ?_
        refine lv_if_eq (tgt := 910) hx hb dL_law_905 (by decide) (fun c7 => ?_) (fun c7 => ?_)
        · skip
          refine lv_goto (tgt := 1590) hx hb dL_law_910 (by decide) ?_
          exact W.widen (k := cells + 6) (n := slots + 36) (by omega) (by omega) (next _ _ _ _ g3 ⟨hX2, hM2, ⟨_, hO2⟩, hS2⟩ ls (lv_sub hl [2, 3, 4, 5, 6] rfl))
        · exact absurd rfl c7
    · exact absurd g1 c1
  · obtain ⟨g1, g3⟩ := op2 hE
    subst hr0
    have hp : (if eX_two (xs (6 * n + 1)) 12 (xs (6 * n + 2)) 5 = 1 then 1 else 2 : Int32) ≠ 0 := by (repeat' split) <;> decide
    have hX2 := F.keepX hX1 f10
    refine lv_icmp_eq (tgt := 893) hx hb dL_law_888 (by decide) (fun c1 => ?_) (fun c1 => ?_)
    · refine lv_iload hx hb dL_law_893 (lv_at hl 1 rfl) ?_
      refine lv_if_ne (tgt := 910) hx hb dL_law_895 (by decide) (fun c2 => ?_) (fun c2 => ?_)
      · skip
        refine lv_goto (tgt := 1590) hx hb dL_law_910 (by decide) ?_
        exact W.widen (k := cells + 6) (n := slots + 36) (by omega) (by omega) (next _ _ _ _ g3 ⟨hX2, hM2, ⟨_, hO2⟩, hS2⟩ ls (lv_sub hl [2, 3, 4, 5, 6] rfl))
      · exact absurd c2 hp
    · exact absurd g1 c1

set_option maxHeartbeats 4000000 in
set_option maxRecDepth 100000 in
theorem K_bookAt {p : Program} {l : Launch} {e : Env} {s : State} {m : MethodId} {below : List Frame} {meth : Method} {c : Code} {H : Heap} {locs : List Loc} {cells slots : Nat} {Q : State → Prop} {b L : Nat} {xs : Nat → Int32} {G : kG} {aX aM : Nat → Nat} {ao : Nat} (F : LFix p l s m meth c b L xs G aX aM ao) {n : Nat} (hn : 6 * n + 6 ≤ L) {σ μ : kS} (hR : RR σ μ n) (hI : LI G aX aM ao s σ μ H locs) (hc : cells + 6 ≤ room_1.cells) (hs : slots + 36 ≤ room_1.slots) (next : ∀ (σ9 μ9 : kS) (H9 : Heap) (L9 : List Loc), RR σ9 μ9 (n + 1) → LI G aX aM ao s σ9 μ9 H9 L9 → ∀ ls, lv_has ls 7 [(0, .ref b), (1, .ref (aX 0)), (2, .ref (aM 0)), (3, .ref ao), (4, .int (nI (6 * n)))] → W p l e room_1 s m #[Value.ref b] below meth c H9 L9 (cells + 6) (slots + 36) Q (F0 m 1590 ls [])) {ls : Array Slot} (hl : lv_has ls 7 [(0, .ref b), (1, .ref (aX 0)), (2, .ref (aM 0)), (3, .ref ao), (4, .int (nI (6 * n)))]) : W p l e room_1 s m #[Value.ref b] below meth c H locs cells slots Q (F0 m 913 ls []) := by
  obtain ⟨nm, ns, N, Sz, hr⟩ := hR
  obtain ⟨hPX, hPM, ⟨f, hPO⟩, hS⟩ := hI
  have S := F.S
  have hx := S.1
  have hb := S.2.1
  have hL := F.hL
  have hXX : PX G aX σ s H := ⟨hPX, F.hK⟩
  have hMM : PM G aM μ s H := ⟨hPM, F.hK⟩
  refine lv_aload_n hx hb dL_law_913 rfl (lv_at hl 1 rfl) ?_
  refine lv_aload_n hx hb dL_law_914 rfl (lv_at hl 0 rfl) ?_
  refine lv_iload hx hb dL_law_915 (lv_at hl 4 rfl) ?_
  refine lv_iconst (v := 1) hx hb dL_law_917 (by decide) ?_
  refine lv_iadd hx hb dL_law_918 ?_
  refine k_eq (y := nI (6 * n + 1)) (nI_add (6 * n) 1) ?_
  refine k_sld F hS (k := 6 * n + 1) (by omega) dL_law_919 ?_
  refine lv_aload_n hx hb dL_law_920 rfl (lv_at hl 0 rfl) ?_
  refine lv_iload hx hb dL_law_921 (lv_at hl 4 rfl) ?_
  refine lv_iconst (v := 2) hx hb dL_law_923 (by decide) ?_
  refine lv_iadd hx hb dL_law_924 ?_
  refine k_eq (y := nI (6 * n + 2)) (nI_add (6 * n) 2) ?_
  refine k_sld F hS (k := 6 * n + 2) (by omega) dL_law_925 ?_
  refine lv_aload_n hx hb dL_law_926 rfl (lv_at hl 0 rfl) ?_
  refine lv_iload hx hb dL_law_927 (lv_at hl 4 rfl) ?_
  refine lv_iconst (v := 3) hx hb dL_law_929 (by decide) ?_
  refine lv_iadd hx hb dL_law_930 ?_
  refine k_eq (y := nI (6 * n + 3)) (nI_add (6 * n) 3) ?_
  refine k_sld F hS (k := 6 * n + 3) (by omega) dL_law_931 ?_
  refine lv_aload_n hx hb dL_law_932 rfl (lv_at hl 3 rfl) ?_
  refine q_lh (rx_SX S ⟨m_495, m_496, m_34, m_497⟩ ⟨rfl, by decide, by decide, by decide +kernel⟩ (cL_bookAt_c l G aX σ nm ns (xs (6 * n + 1)) (xs (6 * n + 2)) (xs (6 * n + 3)) F.hst ((hr.eq 18 0 (by decide)).trans hr.hns) hr.hns4 ((hr.eq 17 0 (by decide)).trans hr.hnm) hr.hnm2 ao f (AX aX) F.dX F.xo) ⟨rfl, rfl, Nat.le_of_ble_eq_true rfl, Nat.le_of_ble_eq_true rfl⟩ (ps bl_PL (fun U hU hW => by show PX G aX σ U U.heap ∧ ZS U U.heap ∧ va_P G.1 vwCl (wO G ao f) U.heap; rw [hU]; exact ⟨hXX.warm hW, (F.zs hS).warm hW, hPO⟩)) (n := 5) (As := [.ref (aX 0), .int (xs (6 * n + 1)), .int (xs (6 * n + 2)), .int (xs (6 * n + 3)), .ref ao]) (rest := []) rfl hl.1 rfl (Nat.le_of_ble_eq_true rfl) ⟨Nat.le_trans (by omega) hc, Nat.le_trans (by omega) hs⟩ dL_law_933) hS (fun q hq => hq.elim (F.nX q) (fun h9 => by rw [h9]; exact F.nO)) (fun r f1 H1 L1 hO1 hd f9 hS1 => ?_)
  have hM1 : PM G aM μ s H1 := ⟨F.keepM hPM f9, F.hK⟩
  obtain ⟨op1, op2⟩ := op_bookAt hr (by omega) (xs (6 * n + 1)) (xs (6 * n + 2)) (xs (6 * n + 3))
  refine lv_istore (lv' := [(5, .int r), (0, .ref b), (1, .ref (aX 0)), (2, .ref (aM 0)), (3, .ref ao), (4, .int (nI (6 * n)))]) hx hb dL_law_936 hl (by decide) rfl (fun ls hl => ?_)
  refine lv_aload_n hx hb dL_law_938 rfl (lv_at hl 3 rfl) ?_
  refine lv_aload_n hx hb dL_law_939 rfl (lv_at hl 1 rfl) ?_
  refine lv_iload hx hb dL_law_940 (lv_at hl 5 rfl) ?_
  refine lv_iconst (v := 1) hx hb dL_law_942 (by decide) ?_
  refine lv_iadd hx hb dL_law_943 ?_
  refine k_eq (y := nI (6 * n + 1)) (nI_add (6 * n) 1) ?_
  refine k_sld F hS1 (k := 6 * n + 1) (by omega) dL_law_944 ?_
  refine lv_aload_n hx hb dL_law_945 rfl (lv_at hl 1 rfl) ?_
  refine lv_iload hx hb dL_law_946 (lv_at hl 5 rfl) ?_
  refine lv_iconst (v := 2) hx hb dL_law_948 (by decide) ?_
  refine lv_iadd hx hb dL_law_949 ?_
  refine k_eq (y := nI (6 * n + 2)) (nI_add (6 * n) 2) ?_
  refine k_sld F hS1 (k := 6 * n + 2) (by omega) dL_law_950 ?_
  refine lv_aload_n hx hb dL_law_951 rfl (lv_at hl 1 rfl) ?_
  refine lv_iload hx hb dL_law_952 (lv_at hl 5 rfl) ?_
  refine lv_iconst (v := 3) hx hb dL_law_954 (by decide) ?_
  refine lv_iadd hx hb dL_law_955 ?_
  refine k_eq (y := nI (6 * n + 3)) (nI_add (6 * n) 3) ?_
  refine k_sld F hS1 (k := 6 * n + 3) (by omega) dL_law_956 ?_
  refine q_w (r_V S ⟨m_746, m_747, m_748, m_40, m_749⟩ ⟨rfl, by decide, by decide, by decide +kernel⟩ (c4_bookAt l G aM μ nm ns (xs (6 * n + 1)) (xs (6 * n + 2)) (xs (6 * n + 3)) hr.hns hr.hns4 hr.hnm hr.hnm2 (AM aM) F.dM) ⟨rfl, rfl, Nat.le_of_ble_eq_true rfl, Nat.le_of_ble_eq_true rfl⟩ (pv_M hM1 bl_PM (bM hM1)) (n := 3) (As := [.int (xs (6 * n + 1)), .int (xs (6 * n + 2)), .int (xs (6 * n + 3))]) (rest := []) rfl hl.1 rfl (Nat.le_of_ble_eq_true rfl) ⟨Nat.le_trans (by omega) hc, Nat.le_trans (by omega) hs⟩ dL_law_957) hS1 F.nM (fun b9 H2 L2 hb9 hM2 _ f10 hS2 => ?_)
  subst hb9
  have hO2 := F.keepO hO1 f10
  have hMM2 : PM G aM (sM (ckR (xs (6 * n + 1)) 0 11 && ckR (xs (6 * n + 2)) 0 4, ckR (xs (6 * n + 3)) 0 (μ 16 0), true) μ (fun κ => κ)) s H2 := ⟨hM2, F.hK⟩
  refine lv_istore (lv' := [(6, .int (vM (ckR (xs (6 * n + 1)) 0 11 && ckR (xs (6 * n + 2)) 0 4, ckR (xs (6 * n + 3)) 0 (μ 16 0), true) (boM (su μ 23 0 0) nm ns (xs (6 * n + 1)) (ixN (xs (6 * n + 2))) (xs (6 * n + 3))))), (5, .int r), (0, .ref b), (1, .ref (aX 0)), (2, .ref (aM 0)), (3, .ref ao), (4, .int (nI (6 * n)))]) hx hb dL_law_960 hl (by decide) rfl (fun ls hl => ?_)
  refine lv_aload_n hx hb dL_law_962 rfl (lv_at hl 4 rfl) ?_
  refine q_i (r_V S ⟨m_636, m_637, m_638, m_40, m_639⟩ ⟨rfl, by decide, by decide, by decide +kernel⟩ (c4_thrown l G aM (sM (ckR (xs (6 * n + 1)) 0 11 && ckR (xs (6 * n + 2)) 0 4, ckR (xs (6 * n + 3)) 0 (μ 16 0), true) μ (fun κ => κ))) ⟨rfl, rfl, Nat.le_of_ble_eq_true rfl, Nat.le_of_ble_eq_true rfl⟩ (pv_M hMM2 bl_PM (bM hMM2)) (n := 0) (As := []) (rest := []) rfl hl.1 rfl (Nat.le_of_ble_eq_true rfl) ⟨Nat.le_trans (by omega) hc, Nat.le_trans (by omega) hs⟩ dL_law_963) (fun t9 ht9 => ?_)
  subst ht9
  refine lv_iload hx hb dL_law_966 (lv_at hl 1 rfl) ?_
  rcases hd with ⟨hE, hr0, hf0, hX1⟩ | ⟨hE, hr0, hX1⟩
  · obtain ⟨g1, g2, g3⟩ := op1 hE
    subst hr0
    have hX2 := F.keepX hX1 f10
    refine lv_icmp_eq (tgt := 973) hx hb dL_law_968 (by decide) (fun c1 => ?_) (fun c1 => ?_)
    · refine lv_iload hx hb dL_law_973 (lv_at hl 1 rfl) ?_
      refine lv_if_ne (tgt := 990) hx hb dL_law_975 (by decide) (fun c2 => ?_) (fun c2 => ?_)
      · exact absurd rfl c2
      · refine lv_aload_n hx hb dL_law_978 rfl (lv_at hl 5 rfl) ?_
        refine lv_iconst (v := 0) hx hb dL_law_979 (by decide) ?_
        refine va_lald (D := G.1) hx hb F.hK.1 hO2 0 2 rfl rfl (vp_in_nI (n := 0) (N := 1) (by decide) (by decide)) dL_law_980 ?_
        refine lv_iload hx hb dL_law_981 (lv_at hl 0 rfl) ?_
        refine lv_i2l (v := (vM (ckR (xs (6 * n + 1)) 0 11 && ckR (xs (6 * n + 2)) 0 4, ckR (xs (6 * n + 3)) 0 (μ 16 0), true) (boM (su μ 23 0 0) nm ns (xs (6 * n + 1)) (ixN (xs (6 * n + 2))) (xs (6 * n + 3))) : Int32).toInt64) hx hb dL_law_983 rfl ?_
        refine W.lcmp hx hb dL_law_984 ?_
        refine k_eq (y := 0) (lcmp_ne (hf0.trans g2)) ?_
        refine lv_if_eq (tgt := 990) hx hb dL_law_985 (by decide) (fun c7 => ?_) (fun c7 => ?_)
        · skip
          refine lv_goto (tgt := 1590) hx hb dL_law_990 (by decide) ?_
          exact W.widen (k := cells + 6) (n := slots + 36) (by omega) (by omega) (next _ _ _ _ g3 ⟨hX2, hM2, ⟨_, hO2⟩, hS2⟩ ls (lv_sub hl [2, 3, 4, 5, 6] rfl))
        · exact absurd rfl c7
    · exact absurd g1 c1
  · obtain ⟨g1, g3⟩ := op2 hE
    subst hr0
    have hp : (if eX_bookAt σ (xs (6 * n + 1)) (xs (6 * n + 2)) (xs (6 * n + 3)) = 1 then 1 else if eX_bookAt σ (xs (6 * n + 1)) (xs (6 * n + 2)) (xs (6 * n + 3)) = 2 then 2 else 3 : Int32) ≠ 0 := by (repeat' split) <;> decide
    have hX2 := F.keepX hX1 f10
    refine lv_icmp_eq (tgt := 973) hx hb dL_law_968 (by decide) (fun c1 => ?_) (fun c1 => ?_)
    · refine lv_iload hx hb dL_law_973 (lv_at hl 1 rfl) ?_
      refine lv_if_ne (tgt := 990) hx hb dL_law_975 (by decide) (fun c2 => ?_) (fun c2 => ?_)
      · skip
        refine lv_goto (tgt := 1590) hx hb dL_law_990 (by decide) ?_
        exact W.widen (k := cells + 6) (n := slots + 36) (by omega) (by omega) (next _ _ _ _ g3 ⟨hX2, hM2, ⟨_, hO2⟩, hS2⟩ ls (lv_sub hl [2, 3, 4, 5, 6] rfl))
      · exact absurd c2 hp
    · exact absurd g1 c1

set_option maxHeartbeats 4000000 in
set_option maxRecDepth 100000 in
theorem K_worth {p : Program} {l : Launch} {e : Env} {s : State} {m : MethodId} {below : List Frame} {meth : Method} {c : Code} {H : Heap} {locs : List Loc} {cells slots : Nat} {Q : State → Prop} {b L : Nat} {xs : Nat → Int32} {G : kG} {aX aM : Nat → Nat} {ao : Nat} (F : LFix p l s m meth c b L xs G aX aM ao) {n : Nat} (hn : 6 * n + 6 ≤ L) {σ μ : kS} (hR : RR σ μ n) (hI : LI G aX aM ao s σ μ H locs) (hc : cells + 6 ≤ room_1.cells) (hs : slots + 36 ≤ room_1.slots) (next : ∀ (σ9 μ9 : kS) (H9 : Heap) (L9 : List Loc), RR σ9 μ9 (n + 1) → LI G aX aM ao s σ9 μ9 H9 L9 → ∀ ls, lv_has ls 7 [(0, .ref b), (1, .ref (aX 0)), (2, .ref (aM 0)), (3, .ref ao), (4, .int (nI (6 * n)))] → W p l e room_1 s m #[Value.ref b] below meth c H9 L9 (cells + 6) (slots + 36) Q (F0 m 1590 ls [])) {ls : Array Slot} (hl : lv_has ls 7 [(0, .ref b), (1, .ref (aX 0)), (2, .ref (aM 0)), (3, .ref ao), (4, .int (nI (6 * n)))]) : W p l e room_1 s m #[Value.ref b] below meth c H locs cells slots Q (F0 m 993 ls []) := by
  obtain ⟨nm, ns, N, Sz, hr⟩ := hR
  obtain ⟨hPX, hPM, ⟨f, hPO⟩, hS⟩ := hI
  have S := F.S
  have hx := S.1
  have hb := S.2.1
  have hL := F.hL
  have hXX : PX G aX σ s H := ⟨hPX, F.hK⟩
  have hMM : PM G aM μ s H := ⟨hPM, F.hK⟩
  refine lv_aload_n hx hb dL_law_993 rfl (lv_at hl 1 rfl) ?_
  refine lv_aload_n hx hb dL_law_994 rfl (lv_at hl 0 rfl) ?_
  refine lv_iload hx hb dL_law_995 (lv_at hl 4 rfl) ?_
  refine lv_iconst (v := 1) hx hb dL_law_997 (by decide) ?_
  refine lv_iadd hx hb dL_law_998 ?_
  refine k_eq (y := nI (6 * n + 1)) (nI_add (6 * n) 1) ?_
  refine k_sld F hS (k := 6 * n + 1) (by omega) dL_law_999 ?_
  refine lv_aload_n hx hb dL_law_1000 rfl (lv_at hl 3 rfl) ?_
  refine q_lh (rx_SX S ⟨m_502, m_503, m_34, m_504⟩ ⟨rfl, by decide, by decide, by decide +kernel⟩ (cL_worth_c l G aX σ nm ns (xs (6 * n + 1)) F.hst ((hr.eq 18 0 (by decide)).trans hr.hns) hr.hns4 ((hr.eq 17 0 (by decide)).trans hr.hnm) hr.hnm2 ao f (AX aX) F.dX F.xo) ⟨rfl, rfl, Nat.le_of_ble_eq_true rfl, Nat.le_of_ble_eq_true rfl⟩ (ps bl_PL (fun U hU hW => by show PX G aX σ U U.heap ∧ ZS U U.heap ∧ va_P G.1 vwCl (wO G ao f) U.heap; rw [hU]; exact ⟨hXX.warm hW, (F.zs hS).warm hW, hPO⟩)) (n := 3) (As := [.ref (aX 0), .int (xs (6 * n + 1)), .ref ao]) (rest := []) rfl hl.1 rfl (Nat.le_of_ble_eq_true rfl) ⟨Nat.le_trans (by omega) hc, Nat.le_trans (by omega) hs⟩ dL_law_1001) hS (fun q hq => hq.elim (F.nX q) (fun h9 => by rw [h9]; exact F.nO)) (fun r f1 H1 L1 hO1 hd f9 hS1 => ?_)
  have hM1 : PM G aM μ s H1 := ⟨F.keepM hPM f9, F.hK⟩
  obtain ⟨op1, op2⟩ := op_worth hr (by omega) (xs (6 * n + 1))
  refine lv_istore (lv' := [(5, .int r), (0, .ref b), (1, .ref (aX 0)), (2, .ref (aM 0)), (3, .ref ao), (4, .int (nI (6 * n)))]) hx hb dL_law_1004 hl (by decide) rfl (fun ls hl => ?_)
  refine lv_aload_n hx hb dL_law_1006 rfl (lv_at hl 3 rfl) ?_
  refine lv_aload_n hx hb dL_law_1007 rfl (lv_at hl 1 rfl) ?_
  refine lv_iload hx hb dL_law_1008 (lv_at hl 5 rfl) ?_
  refine lv_iconst (v := 1) hx hb dL_law_1010 (by decide) ?_
  refine lv_iadd hx hb dL_law_1011 ?_
  refine k_eq (y := nI (6 * n + 1)) (nI_add (6 * n) 1) ?_
  refine k_sld F hS1 (k := 6 * n + 1) (by omega) dL_law_1012 ?_
  refine q_w (r_V S ⟨m_750, m_751, m_752, m_40, m_753⟩ ⟨rfl, by decide, by decide, by decide +kernel⟩ (c4_worth l G aM μ nm ns (xs (6 * n + 1)) hr.hns hr.hns4 hr.hnm hr.hnm2 (AM aM) F.dM) ⟨rfl, rfl, Nat.le_of_ble_eq_true rfl, Nat.le_of_ble_eq_true rfl⟩ (pv_M hM1 bl_PM (bM hM1)) (n := 1) (As := [.int (xs (6 * n + 1))]) (rest := []) rfl hl.1 rfl (Nat.le_of_ble_eq_true rfl) ⟨Nat.le_trans (by omega) hc, Nat.le_trans (by omega) hs⟩ dL_law_1013) hS1 F.nM (fun b9 H2 L2 hb9 hM2 _ f10 hS2 => ?_)
  subst hb9
  have hO2 := F.keepO hO1 f10
  have hMM2 : PM G aM (sM (ckR (xs (6 * n + 1)) 0 11, true, true) μ (fun κ => κ)) s H2 := ⟨hM2, F.hK⟩
  refine lv_istore (lv' := [(6, .int (vM (ckR (xs (6 * n + 1)) 0 11, true, true) (woM (su μ 23 0 0) nm ns (xs (6 * n + 1)) 5))), (5, .int r), (0, .ref b), (1, .ref (aX 0)), (2, .ref (aM 0)), (3, .ref ao), (4, .int (nI (6 * n)))]) hx hb dL_law_1016 hl (by decide) rfl (fun ls hl => ?_)
  refine lv_aload_n hx hb dL_law_1018 rfl (lv_at hl 4 rfl) ?_
  refine q_i (r_V S ⟨m_636, m_637, m_638, m_40, m_639⟩ ⟨rfl, by decide, by decide, by decide +kernel⟩ (c4_thrown l G aM (sM (ckR (xs (6 * n + 1)) 0 11, true, true) μ (fun κ => κ))) ⟨rfl, rfl, Nat.le_of_ble_eq_true rfl, Nat.le_of_ble_eq_true rfl⟩ (pv_M hMM2 bl_PM (bM hMM2)) (n := 0) (As := []) (rest := []) rfl hl.1 rfl (Nat.le_of_ble_eq_true rfl) ⟨Nat.le_trans (by omega) hc, Nat.le_trans (by omega) hs⟩ dL_law_1019) (fun t9 ht9 => ?_)
  subst ht9
  refine lv_iload hx hb dL_law_1022 (lv_at hl 1 rfl) ?_
  rcases hd with ⟨hE, hr0, hf0, hX1⟩ | ⟨hE, hr0, hX1⟩
  · obtain ⟨g1, g2, g3⟩ := op1 hE
    subst hr0
    have hX2 := F.keepX hX1 f10
    refine lv_icmp_eq (tgt := 1029) hx hb dL_law_1024 (by decide) (fun c1 => ?_) (fun c1 => ?_)
    · refine lv_iload hx hb dL_law_1029 (lv_at hl 1 rfl) ?_
      refine lv_if_ne (tgt := 1046) hx hb dL_law_1031 (by decide) (fun c2 => ?_) (fun c2 => ?_)
      · exact absurd rfl c2
      · refine lv_aload_n hx hb dL_law_1034 rfl (lv_at hl 5 rfl) ?_
        refine lv_iconst (v := 0) hx hb dL_law_1035 (by decide) ?_
        refine va_lald (D := G.1) hx hb F.hK.1 hO2 0 2 rfl rfl (vp_in_nI (n := 0) (N := 1) (by decide) (by decide)) dL_law_1036 ?_
        refine lv_iload hx hb dL_law_1037 (lv_at hl 0 rfl) ?_
        refine lv_i2l (v := (vM (ckR (xs (6 * n + 1)) 0 11, true, true) (woM (su μ 23 0 0) nm ns (xs (6 * n + 1)) 5) : Int32).toInt64) hx hb dL_law_1039 rfl ?_
        refine W.lcmp hx hb dL_law_1040 ?_
        refine k_eq (y := 0) (lcmp_ne (hf0.trans g2)) ?_
        refine lv_if_eq (tgt := 1046) hx hb dL_law_1041 (by decide) (fun c7 => ?_) (fun c7 => ?_)
        · skip
          refine lv_goto (tgt := 1590) hx hb dL_law_1046 (by decide) ?_
          exact W.widen (k := cells + 6) (n := slots + 36) (by omega) (by omega) (next _ _ _ _ g3 ⟨hX2, hM2, ⟨_, hO2⟩, hS2⟩ ls (lv_sub hl [2, 3, 4, 5, 6] rfl))
        · exact absurd rfl c7
    · exact absurd g1 c1
  · obtain ⟨g1, g3⟩ := op2 hE
    subst hr0
    have hp : (if eX_one (xs (6 * n + 1)) 12 = 1 then 1 else 2 : Int32) ≠ 0 := by (repeat' split) <;> decide
    have hX2 := F.keepX hX1 f10
    refine lv_icmp_eq (tgt := 1029) hx hb dL_law_1024 (by decide) (fun c1 => ?_) (fun c1 => ?_)
    · refine lv_iload hx hb dL_law_1029 (lv_at hl 1 rfl) ?_
      refine lv_if_ne (tgt := 1046) hx hb dL_law_1031 (by decide) (fun c2 => ?_) (fun c2 => ?_)
      · skip
        refine lv_goto (tgt := 1590) hx hb dL_law_1046 (by decide) ?_
        exact W.widen (k := cells + 6) (n := slots + 36) (by omega) (by omega) (next _ _ _ _ g3 ⟨hX2, hM2, ⟨_, hO2⟩, hS2⟩ ls (lv_sub hl [2, 3, 4, 5, 6] rfl))
      · exact absurd c2 hp
    · exact absurd g1 c1

set_option maxHeartbeats 4000000 in
set_option maxRecDepth 100000 in
theorem K_suggested {p : Program} {l : Launch} {e : Env} {s : State} {m : MethodId} {below : List Frame} {meth : Method} {c : Code} {H : Heap} {locs : List Loc} {cells slots : Nat} {Q : State → Prop} {b L : Nat} {xs : Nat → Int32} {G : kG} {aX aM : Nat → Nat} {ao : Nat} (F : LFix p l s m meth c b L xs G aX aM ao) {n : Nat} (hn : 6 * n + 6 ≤ L) {σ μ : kS} (hR : RR σ μ n) (hI : LI G aX aM ao s σ μ H locs) (hc : cells + 6 ≤ room_1.cells) (hs : slots + 36 ≤ room_1.slots) (next : ∀ (σ9 μ9 : kS) (H9 : Heap) (L9 : List Loc), RR σ9 μ9 (n + 1) → LI G aX aM ao s σ9 μ9 H9 L9 → ∀ ls, lv_has ls 7 [(0, .ref b), (1, .ref (aX 0)), (2, .ref (aM 0)), (3, .ref ao), (4, .int (nI (6 * n)))] → W p l e room_1 s m #[Value.ref b] below meth c H9 L9 (cells + 6) (slots + 36) Q (F0 m 1590 ls [])) {ls : Array Slot} (hl : lv_has ls 7 [(0, .ref b), (1, .ref (aX 0)), (2, .ref (aM 0)), (3, .ref ao), (4, .int (nI (6 * n)))]) : W p l e room_1 s m #[Value.ref b] below meth c H locs cells slots Q (F0 m 1049 ls []) := by
  obtain ⟨nm, ns, N, Sz, hr⟩ := hR
  obtain ⟨hPX, hPM, ⟨f, hPO⟩, hS⟩ := hI
  have S := F.S
  have hx := S.1
  have hb := S.2.1
  have hL := F.hL
  have hXX : PX G aX σ s H := ⟨hPX, F.hK⟩
  have hMM : PM G aM μ s H := ⟨hPM, F.hK⟩
  refine lv_aload_n hx hb dL_law_1049 rfl (lv_at hl 1 rfl) ?_
  refine q_i (r_V S ⟨m_171, m_172, m_173, m_35, m_174⟩ ⟨rfl, by decide, by decide, by decide +kernel⟩ (c_suggested l G aX σ nm ns ((hr.eq 18 0 (by decide)).trans hr.hns) hr.hns4 ((hr.eq 17 0 (by decide)).trans hr.hnm) hr.hnm2) ⟨rfl, rfl, Nat.le_of_ble_eq_true rfl, Nat.le_of_ble_eq_true rfl⟩ (pv_X hXX 0 rfl rfl bl_PX (bX hXX)) (n := 0) (As := []) (rest := []) rfl hl.1 rfl (Nat.le_of_ble_eq_true rfl) ⟨Nat.le_trans (by omega) hc, Nat.le_trans (by omega) hs⟩ dL_law_1050) (fun r9 hr9 => ?_)
  subst hr9
  refine lv_aload_n hx hb dL_law_1053 rfl (lv_at hl 2 rfl) ?_
  refine q_w (r_V S ⟨m_758, m_759, m_760, m_40, m_761⟩ ⟨rfl, by decide, by decide, by decide +kernel⟩ (c4_suggested l G aM μ nm ns hr.hns hr.hns4 hr.hnm hr.hnm2 (AM aM) F.dM) ⟨rfl, rfl, Nat.le_of_ble_eq_true rfl, Nat.le_of_ble_eq_true rfl⟩ (pv_M hMM bl_PM (bM hMM)) (n := 0) (As := []) (rest := [.int ((suF σ nm ns 12).1)]) rfl hl.1 rfl (Nat.le_of_ble_eq_true rfl) ⟨Nat.le_trans (by omega) hc, Nat.le_trans (by omega) hs⟩ dL_law_1054) hS F.nM (fun b9 H2 L2 hb9 hM2 _ f10 hS2 => ?_)
  subst hb9
  obtain ⟨g1, g3⟩ := op_suggested hr (by omega)
  have hX2 := F.keepX hPX f10
  have hO2 := F.keepO hPO f10
  refine lv_icmp_eq (tgt := 1590) hx hb dL_law_1057 (by decide) (fun c1 => ?_) (fun c1 => ?_)
  · skip
    exact W.widen (k := cells + 6) (n := slots + 36) (by omega) (by omega) (next _ _ _ _ g3 ⟨hX2, hM2, ⟨_, hO2⟩, hS2⟩ ls (lv_sub hl [0, 1, 2, 3, 4] rfl))
  · exact absurd g1 c1

set_option maxHeartbeats 4000000 in
set_option maxRecDepth 100000 in
theorem K_sheets {p : Program} {l : Launch} {e : Env} {s : State} {m : MethodId} {below : List Frame} {meth : Method} {c : Code} {H : Heap} {locs : List Loc} {cells slots : Nat} {Q : State → Prop} {b L : Nat} {xs : Nat → Int32} {G : kG} {aX aM : Nat → Nat} {ao : Nat} (F : LFix p l s m meth c b L xs G aX aM ao) {n : Nat} (hn : 6 * n + 6 ≤ L) {σ μ : kS} (hR : RR σ μ n) (hI : LI G aX aM ao s σ μ H locs) (hc : cells + 6 ≤ room_1.cells) (hs : slots + 36 ≤ room_1.slots) (next : ∀ (σ9 μ9 : kS) (H9 : Heap) (L9 : List Loc), RR σ9 μ9 (n + 1) → LI G aX aM ao s σ9 μ9 H9 L9 → ∀ ls, lv_has ls 7 [(0, .ref b), (1, .ref (aX 0)), (2, .ref (aM 0)), (3, .ref ao), (4, .int (nI (6 * n)))] → W p l e room_1 s m #[Value.ref b] below meth c H9 L9 (cells + 6) (slots + 36) Q (F0 m 1590 ls [])) {ls : Array Slot} (hl : lv_has ls 7 [(0, .ref b), (1, .ref (aX 0)), (2, .ref (aM 0)), (3, .ref ao), (4, .int (nI (6 * n)))]) : W p l e room_1 s m #[Value.ref b] below meth c H locs cells slots Q (F0 m 1062 ls []) := by
  obtain ⟨nm, ns, N, Sz, hr⟩ := hR
  obtain ⟨hPX, hPM, ⟨f, hPO⟩, hS⟩ := hI
  have S := F.S
  have hx := S.1
  have hb := S.2.1
  have hL := F.hL
  have hXX : PX G aX σ s H := ⟨hPX, F.hK⟩
  have hMM : PM G aM μ s H := ⟨hPM, F.hK⟩
  refine lv_aload_n hx hb dL_law_1062 rfl (lv_at hl 1 rfl) ?_
  refine q_i (r_V S ⟨m_218, m_219, m_220, m_35, m_221⟩ ⟨rfl, by decide, by decide, by decide +kernel⟩ (c_sheets l G aX σ) ⟨rfl, rfl, Nat.le_of_ble_eq_true rfl, Nat.le_of_ble_eq_true rfl⟩ (pv_X hXX 0 rfl rfl bl_PX (bX hXX)) (n := 0) (As := []) (rest := []) rfl hl.1 rfl (Nat.le_of_ble_eq_true rfl) ⟨Nat.le_trans (by omega) hc, Nat.le_trans (by omega) hs⟩ dL_law_1063) (fun r9 hr9 => ?_)
  subst hr9
  refine lv_aload_n hx hb dL_law_1066 rfl (lv_at hl 2 rfl) ?_
  refine q_w (r_V S ⟨m_763, m_764, m_765, m_40, m_766⟩ ⟨rfl, by decide, by decide, by decide +kernel⟩ (c4_sheets l G aM μ (AM aM) F.dM) ⟨rfl, rfl, Nat.le_of_ble_eq_true rfl, Nat.le_of_ble_eq_true rfl⟩ (pv_M hMM bl_PM (bM hMM)) (n := 0) (As := []) (rest := [.int (σ 18 0)]) rfl hl.1 rfl (Nat.le_of_ble_eq_true rfl) ⟨Nat.le_trans (by omega) hc, Nat.le_trans (by omega) hs⟩ dL_law_1067) hS F.nM (fun b9 H2 L2 hb9 hM2 _ f10 hS2 => ?_)
  subst hb9
  obtain ⟨g1, g3⟩ := op_sheets hr (by omega)
  have hX2 := F.keepX hPX f10
  have hO2 := F.keepO hPO f10
  refine lv_icmp_eq (tgt := 1590) hx hb dL_law_1070 (by decide) (fun c1 => ?_) (fun c1 => ?_)
  · skip
    exact W.widen (k := cells + 6) (n := slots + 36) (by omega) (by omega) (next _ _ _ _ g3 ⟨hX2, hM2, ⟨_, hO2⟩, hS2⟩ ls (lv_sub hl [0, 1, 2, 3, 4] rfl))
  · exact absurd g1 c1

set_option maxHeartbeats 4000000 in
set_option maxRecDepth 100000 in
theorem K_stateOf {p : Program} {l : Launch} {e : Env} {s : State} {m : MethodId} {below : List Frame} {meth : Method} {c : Code} {H : Heap} {locs : List Loc} {cells slots : Nat} {Q : State → Prop} {b L : Nat} {xs : Nat → Int32} {G : kG} {aX aM : Nat → Nat} {ao : Nat} (F : LFix p l s m meth c b L xs G aX aM ao) {n : Nat} (hn : 6 * n + 6 ≤ L) {σ μ : kS} (hR : RR σ μ n) (hI : LI G aX aM ao s σ μ H locs) (hc : cells + 6 ≤ room_1.cells) (hs : slots + 36 ≤ room_1.slots) (next : ∀ (σ9 μ9 : kS) (H9 : Heap) (L9 : List Loc), RR σ9 μ9 (n + 1) → LI G aX aM ao s σ9 μ9 H9 L9 → ∀ ls, lv_has ls 7 [(0, .ref b), (1, .ref (aX 0)), (2, .ref (aM 0)), (3, .ref ao), (4, .int (nI (6 * n)))] → W p l e room_1 s m #[Value.ref b] below meth c H9 L9 (cells + 6) (slots + 36) Q (F0 m 1590 ls [])) {ls : Array Slot} (hl : lv_has ls 7 [(0, .ref b), (1, .ref (aX 0)), (2, .ref (aM 0)), (3, .ref ao), (4, .int (nI (6 * n)))]) : W p l e room_1 s m #[Value.ref b] below meth c H locs cells slots Q (F0 m 1075 ls []) := by
  obtain ⟨nm, ns, N, Sz, hr⟩ := hR
  obtain ⟨hPX, hPM, ⟨f, hPO⟩, hS⟩ := hI
  have S := F.S
  have hx := S.1
  have hb := S.2.1
  have hL := F.hL
  have hXX : PX G aX σ s H := ⟨hPX, F.hK⟩
  have hMM : PM G aM μ s H := ⟨hPM, F.hK⟩
  refine lv_aload_n hx hb dL_law_1075 rfl (lv_at hl 1 rfl) ?_
  refine lv_aload_n hx hb dL_law_1076 rfl (lv_at hl 0 rfl) ?_
  refine lv_iload hx hb dL_law_1077 (lv_at hl 4 rfl) ?_
  refine lv_iconst (v := 1) hx hb dL_law_1079 (by decide) ?_
  refine lv_iadd hx hb dL_law_1080 ?_
  refine k_eq (y := nI (6 * n + 1)) (nI_add (6 * n) 1) ?_
  refine k_sld F hS (k := 6 * n + 1) (by omega) dL_law_1081 ?_
  refine lv_aload_n hx hb dL_law_1082 rfl (lv_at hl 3 rfl) ?_
  refine q_lh (rx_SX S ⟨m_509, m_510, m_34, m_511⟩ ⟨rfl, by decide, by decide, by decide +kernel⟩ (cL_stateOf_c l G aX σ nm ns (xs (6 * n + 1)) F.hst ((hr.eq 18 0 (by decide)).trans hr.hns) hr.hns4 ((hr.eq 17 0 (by decide)).trans hr.hnm) hr.hnm2 ao f (AX aX) F.dX F.xo) ⟨rfl, rfl, Nat.le_of_ble_eq_true rfl, Nat.le_of_ble_eq_true rfl⟩ (ps bl_PL (fun U hU hW => by show PX G aX σ U U.heap ∧ ZS U U.heap ∧ va_P G.1 vwCl (wO G ao f) U.heap; rw [hU]; exact ⟨hXX.warm hW, (F.zs hS).warm hW, hPO⟩)) (n := 3) (As := [.ref (aX 0), .int (xs (6 * n + 1)), .ref ao]) (rest := []) rfl hl.1 rfl (Nat.le_of_ble_eq_true rfl) ⟨Nat.le_trans (by omega) hc, Nat.le_trans (by omega) hs⟩ dL_law_1083) hS (fun q hq => hq.elim (F.nX q) (fun h9 => by rw [h9]; exact F.nO)) (fun r f1 H1 L1 hO1 hd f9 hS1 => ?_)
  have hM1 : PM G aM μ s H1 := ⟨F.keepM hPM f9, F.hK⟩
  obtain ⟨op1, op2⟩ := op_stateOf hr (by omega) (xs (6 * n + 1))
  refine lv_istore (lv' := [(5, .int r), (0, .ref b), (1, .ref (aX 0)), (2, .ref (aM 0)), (3, .ref ao), (4, .int (nI (6 * n)))]) hx hb dL_law_1086 hl (by decide) rfl (fun ls hl => ?_)
  refine lv_aload_n hx hb dL_law_1088 rfl (lv_at hl 3 rfl) ?_
  refine lv_aload_n hx hb dL_law_1089 rfl (lv_at hl 1 rfl) ?_
  refine lv_iload hx hb dL_law_1090 (lv_at hl 5 rfl) ?_
  refine lv_iconst (v := 1) hx hb dL_law_1092 (by decide) ?_
  refine lv_iadd hx hb dL_law_1093 ?_
  refine k_eq (y := nI (6 * n + 1)) (nI_add (6 * n) 1) ?_
  refine k_sld F hS1 (k := 6 * n + 1) (by omega) dL_law_1094 ?_
  refine q_w (r_V S ⟨m_767, m_768, m_769, m_40, m_770⟩ ⟨rfl, by decide, by decide, by decide +kernel⟩ (c4_stateOf l G aM μ nm ns (xs (6 * n + 1)) hr.hns hr.hns4 hr.hnm hr.hnm2 (AM aM) F.dM) ⟨rfl, rfl, Nat.le_of_ble_eq_true rfl, Nat.le_of_ble_eq_true rfl⟩ (pv_M hM1 bl_PM (bM hM1)) (n := 1) (As := [.int (xs (6 * n + 1))]) (rest := []) rfl hl.1 rfl (Nat.le_of_ble_eq_true rfl) ⟨Nat.le_trans (by omega) hc, Nat.le_trans (by omega) hs⟩ dL_law_1095) hS1 F.nM (fun b9 H2 L2 hb9 hM2 _ f10 hS2 => ?_)
  subst hb9
  have hO2 := F.keepO hO1 f10
  have hMM2 : PM G aM (sM (ckR (xs (6 * n + 1)) 0 (μ 18 0 - 1), true, true) μ (fun κ => κ)) s H2 := ⟨hM2, F.hK⟩
  refine lv_istore (lv' := [(6, .int (vM (ckR (xs (6 * n + 1)) 0 (μ 18 0 - 1), true, true) (μ 9 (ixN (xs (6 * n + 1)))))), (5, .int r), (0, .ref b), (1, .ref (aX 0)), (2, .ref (aM 0)), (3, .ref ao), (4, .int (nI (6 * n)))]) hx hb dL_law_1098 hl (by decide) rfl (fun ls hl => ?_)
  refine lv_aload_n hx hb dL_law_1100 rfl (lv_at hl 4 rfl) ?_
  refine q_i (r_V S ⟨m_636, m_637, m_638, m_40, m_639⟩ ⟨rfl, by decide, by decide, by decide +kernel⟩ (c4_thrown l G aM (sM (ckR (xs (6 * n + 1)) 0 (μ 18 0 - 1), true, true) μ (fun κ => κ))) ⟨rfl, rfl, Nat.le_of_ble_eq_true rfl, Nat.le_of_ble_eq_true rfl⟩ (pv_M hMM2 bl_PM (bM hMM2)) (n := 0) (As := []) (rest := []) rfl hl.1 rfl (Nat.le_of_ble_eq_true rfl) ⟨Nat.le_trans (by omega) hc, Nat.le_trans (by omega) hs⟩ dL_law_1101) (fun t9 ht9 => ?_)
  subst ht9
  refine lv_iload hx hb dL_law_1104 (lv_at hl 1 rfl) ?_
  rcases hd with ⟨hE, hr0, hf0, hX1⟩ | ⟨hE, hr0, hX1⟩
  · obtain ⟨g1, g2, g3⟩ := op1 hE
    subst hr0
    have hX2 := F.keepX hX1 f10
    refine lv_icmp_eq (tgt := 1111) hx hb dL_law_1106 (by decide) (fun c1 => ?_) (fun c1 => ?_)
    · refine lv_iload hx hb dL_law_1111 (lv_at hl 1 rfl) ?_
      refine lv_if_ne (tgt := 1128) hx hb dL_law_1113 (by decide) (fun c2 => ?_) (fun c2 => ?_)
      · exact absurd rfl c2
      · refine lv_aload_n hx hb dL_law_1116 rfl (lv_at hl 5 rfl) ?_
        refine lv_iconst (v := 0) hx hb dL_law_1117 (by decide) ?_
        refine va_lald (D := G.1) hx hb F.hK.1 hO2 0 2 rfl rfl (vp_in_nI (n := 0) (N := 1) (by decide) (by decide)) dL_law_1118 ?_
        refine lv_iload hx hb dL_law_1119 (lv_at hl 0 rfl) ?_
        refine lv_i2l (v := (vM (ckR (xs (6 * n + 1)) 0 (μ 18 0 - 1), true, true) (μ 9 (ixN (xs (6 * n + 1)))) : Int32).toInt64) hx hb dL_law_1121 rfl ?_
        refine W.lcmp hx hb dL_law_1122 ?_
        refine k_eq (y := 0) (lcmp_ne (hf0.trans g2)) ?_
        refine lv_if_eq (tgt := 1128) hx hb dL_law_1123 (by decide) (fun c7 => ?_) (fun c7 => ?_)
        · skip
          refine lv_goto (tgt := 1590) hx hb dL_law_1128 (by decide) ?_
          exact W.widen (k := cells + 6) (n := slots + 36) (by omega) (by omega) (next _ _ _ _ g3 ⟨hX2, hM2, ⟨_, hO2⟩, hS2⟩ ls (lv_sub hl [2, 3, 4, 5, 6] rfl))
        · exact absurd rfl c7
    · exact absurd g1 c1
  · obtain ⟨g1, g3⟩ := op2 hE
    subst hr0
    have hp : (if eX_one (xs (6 * n + 1)) (σ 18 0) = 1 then 1 else 2 : Int32) ≠ 0 := by (repeat' split) <;> decide
    have hX2 := F.keepX hX1 f10
    refine lv_icmp_eq (tgt := 1111) hx hb dL_law_1106 (by decide) (fun c1 => ?_) (fun c1 => ?_)
    · refine lv_iload hx hb dL_law_1111 (lv_at hl 1 rfl) ?_
      refine lv_if_ne (tgt := 1128) hx hb dL_law_1113 (by decide) (fun c2 => ?_) (fun c2 => ?_)
      · skip
        refine lv_goto (tgt := 1590) hx hb dL_law_1128 (by decide) ?_
        exact W.widen (k := cells + 6) (n := slots + 36) (by omega) (by omega) (next _ _ _ _ g3 ⟨hX2, hM2, ⟨_, hO2⟩, hS2⟩ ls (lv_sub hl [2, 3, 4, 5, 6] rfl))
      · exact absurd c2 hp
    · exact absurd g1 c1

set_option maxHeartbeats 4000000 in
set_option maxRecDepth 100000 in
theorem K_cutOf {p : Program} {l : Launch} {e : Env} {s : State} {m : MethodId} {below : List Frame} {meth : Method} {c : Code} {H : Heap} {locs : List Loc} {cells slots : Nat} {Q : State → Prop} {b L : Nat} {xs : Nat → Int32} {G : kG} {aX aM : Nat → Nat} {ao : Nat} (F : LFix p l s m meth c b L xs G aX aM ao) {n : Nat} (hn : 6 * n + 6 ≤ L) {σ μ : kS} (hR : RR σ μ n) (hI : LI G aX aM ao s σ μ H locs) (hc : cells + 6 ≤ room_1.cells) (hs : slots + 36 ≤ room_1.slots) (next : ∀ (σ9 μ9 : kS) (H9 : Heap) (L9 : List Loc), RR σ9 μ9 (n + 1) → LI G aX aM ao s σ9 μ9 H9 L9 → ∀ ls, lv_has ls 7 [(0, .ref b), (1, .ref (aX 0)), (2, .ref (aM 0)), (3, .ref ao), (4, .int (nI (6 * n)))] → W p l e room_1 s m #[Value.ref b] below meth c H9 L9 (cells + 6) (slots + 36) Q (F0 m 1590 ls [])) {ls : Array Slot} (hl : lv_has ls 7 [(0, .ref b), (1, .ref (aX 0)), (2, .ref (aM 0)), (3, .ref ao), (4, .int (nI (6 * n)))]) : W p l e room_1 s m #[Value.ref b] below meth c H locs cells slots Q (F0 m 1131 ls []) := by
  obtain ⟨nm, ns, N, Sz, hr⟩ := hR
  obtain ⟨hPX, hPM, ⟨f, hPO⟩, hS⟩ := hI
  have S := F.S
  have hx := S.1
  have hb := S.2.1
  have hL := F.hL
  have hXX : PX G aX σ s H := ⟨hPX, F.hK⟩
  have hMM : PM G aM μ s H := ⟨hPM, F.hK⟩
  refine lv_aload_n hx hb dL_law_1131 rfl (lv_at hl 1 rfl) ?_
  refine lv_aload_n hx hb dL_law_1132 rfl (lv_at hl 0 rfl) ?_
  refine lv_iload hx hb dL_law_1133 (lv_at hl 4 rfl) ?_
  refine lv_iconst (v := 1) hx hb dL_law_1135 (by decide) ?_
  refine lv_iadd hx hb dL_law_1136 ?_
  refine k_eq (y := nI (6 * n + 1)) (nI_add (6 * n) 1) ?_
  refine k_sld F hS (k := 6 * n + 1) (by omega) dL_law_1137 ?_
  refine lv_aload_n hx hb dL_law_1138 rfl (lv_at hl 3 rfl) ?_
  refine q_lh (rx_SX S ⟨m_516, m_517, m_34, m_518⟩ ⟨rfl, by decide, by decide, by decide +kernel⟩ (cL_cutOf_c l G aX σ nm ns (xs (6 * n + 1)) F.hst ((hr.eq 18 0 (by decide)).trans hr.hns) hr.hns4 ((hr.eq 17 0 (by decide)).trans hr.hnm) hr.hnm2 ao f (AX aX) F.dX F.xo) ⟨rfl, rfl, Nat.le_of_ble_eq_true rfl, Nat.le_of_ble_eq_true rfl⟩ (ps bl_PL (fun U hU hW => by show PX G aX σ U U.heap ∧ ZS U U.heap ∧ va_P G.1 vwCl (wO G ao f) U.heap; rw [hU]; exact ⟨hXX.warm hW, (F.zs hS).warm hW, hPO⟩)) (n := 3) (As := [.ref (aX 0), .int (xs (6 * n + 1)), .ref ao]) (rest := []) rfl hl.1 rfl (Nat.le_of_ble_eq_true rfl) ⟨Nat.le_trans (by omega) hc, Nat.le_trans (by omega) hs⟩ dL_law_1139) hS (fun q hq => hq.elim (F.nX q) (fun h9 => by rw [h9]; exact F.nO)) (fun r f1 H1 L1 hO1 hd f9 hS1 => ?_)
  have hM1 : PM G aM μ s H1 := ⟨F.keepM hPM f9, F.hK⟩
  obtain ⟨op1, op2⟩ := op_cutOf hr (by omega) (xs (6 * n + 1))
  refine lv_istore (lv' := [(5, .int r), (0, .ref b), (1, .ref (aX 0)), (2, .ref (aM 0)), (3, .ref ao), (4, .int (nI (6 * n)))]) hx hb dL_law_1142 hl (by decide) rfl (fun ls hl => ?_)
  refine lv_aload_n hx hb dL_law_1144 rfl (lv_at hl 3 rfl) ?_
  refine lv_aload_n hx hb dL_law_1145 rfl (lv_at hl 1 rfl) ?_
  refine lv_iload hx hb dL_law_1146 (lv_at hl 5 rfl) ?_
  refine lv_iconst (v := 1) hx hb dL_law_1148 (by decide) ?_
  refine lv_iadd hx hb dL_law_1149 ?_
  refine k_eq (y := nI (6 * n + 1)) (nI_add (6 * n) 1) ?_
  refine k_sld F hS1 (k := 6 * n + 1) (by omega) dL_law_1150 ?_
  refine q_w (r_V S ⟨m_771, m_772, m_773, m_40, m_774⟩ ⟨rfl, by decide, by decide, by decide +kernel⟩ (c4_cutOf l G aM μ nm ns (xs (6 * n + 1)) hr.hns hr.hns4 hr.hnm hr.hnm2 (AM aM) F.dM) ⟨rfl, rfl, Nat.le_of_ble_eq_true rfl, Nat.le_of_ble_eq_true rfl⟩ (pv_M hM1 bl_PM (bM hM1)) (n := 1) (As := [.int (xs (6 * n + 1))]) (rest := []) rfl hl.1 rfl (Nat.le_of_ble_eq_true rfl) ⟨Nat.le_trans (by omega) hc, Nat.le_trans (by omega) hs⟩ dL_law_1151) hS1 F.nM (fun b9 H2 L2 hb9 hM2 _ f10 hS2 => ?_)
  subst hb9
  have hO2 := F.keepO hO1 f10
  have hMM2 : PM G aM (sM (ckR (xs (6 * n + 1)) 0 (μ 18 0 - 1), true, true) μ (fun κ => κ)) s H2 := ⟨hM2, F.hK⟩
  refine lv_istore (lv' := [(6, .int (vM (ckR (xs (6 * n + 1)) 0 (μ 18 0 - 1), true, true) (μ 8 (ixN (xs (6 * n + 1)))))), (5, .int r), (0, .ref b), (1, .ref (aX 0)), (2, .ref (aM 0)), (3, .ref ao), (4, .int (nI (6 * n)))]) hx hb dL_law_1154 hl (by decide) rfl (fun ls hl => ?_)
  refine lv_aload_n hx hb dL_law_1156 rfl (lv_at hl 4 rfl) ?_
  refine q_i (r_V S ⟨m_636, m_637, m_638, m_40, m_639⟩ ⟨rfl, by decide, by decide, by decide +kernel⟩ (c4_thrown l G aM (sM (ckR (xs (6 * n + 1)) 0 (μ 18 0 - 1), true, true) μ (fun κ => κ))) ⟨rfl, rfl, Nat.le_of_ble_eq_true rfl, Nat.le_of_ble_eq_true rfl⟩ (pv_M hMM2 bl_PM (bM hMM2)) (n := 0) (As := []) (rest := []) rfl hl.1 rfl (Nat.le_of_ble_eq_true rfl) ⟨Nat.le_trans (by omega) hc, Nat.le_trans (by omega) hs⟩ dL_law_1157) (fun t9 ht9 => ?_)
  subst ht9
  refine lv_iload hx hb dL_law_1160 (lv_at hl 1 rfl) ?_
  rcases hd with ⟨hE, hr0, hf0, hX1⟩ | ⟨hE, hr0, hX1⟩
  · obtain ⟨g1, g2, g3⟩ := op1 hE
    subst hr0
    have hX2 := F.keepX hX1 f10
    refine lv_icmp_eq (tgt := 1167) hx hb dL_law_1162 (by decide) (fun c1 => ?_) (fun c1 => ?_)
    · refine lv_iload hx hb dL_law_1167 (lv_at hl 1 rfl) ?_
      refine lv_if_ne (tgt := 1184) hx hb dL_law_1169 (by decide) (fun c2 => ?_) (fun c2 => ?_)
      · exact absurd rfl c2
      · refine lv_aload_n hx hb dL_law_1172 rfl (lv_at hl 5 rfl) ?_
        refine lv_iconst (v := 0) hx hb dL_law_1173 (by decide) ?_
        refine va_lald (D := G.1) hx hb F.hK.1 hO2 0 2 rfl rfl (vp_in_nI (n := 0) (N := 1) (by decide) (by decide)) dL_law_1174 ?_
        refine lv_iload hx hb dL_law_1175 (lv_at hl 0 rfl) ?_
        refine lv_i2l (v := (vM (ckR (xs (6 * n + 1)) 0 (μ 18 0 - 1), true, true) (μ 8 (ixN (xs (6 * n + 1)))) : Int32).toInt64) hx hb dL_law_1177 rfl ?_
        refine W.lcmp hx hb dL_law_1178 ?_
        refine k_eq (y := 0) (lcmp_ne (hf0.trans g2)) ?_
        refine lv_if_eq (tgt := 1184) hx hb dL_law_1179 (by decide) (fun c7 => ?_) (fun c7 => ?_)
        · skip
          refine lv_goto (tgt := 1590) hx hb dL_law_1184 (by decide) ?_
          exact W.widen (k := cells + 6) (n := slots + 36) (by omega) (by omega) (next _ _ _ _ g3 ⟨hX2, hM2, ⟨_, hO2⟩, hS2⟩ ls (lv_sub hl [2, 3, 4, 5, 6] rfl))
        · exact absurd rfl c7
    · exact absurd g1 c1
  · obtain ⟨g1, g3⟩ := op2 hE
    subst hr0
    have hp : (if eX_one (xs (6 * n + 1)) (σ 18 0) = 1 then 1 else 2 : Int32) ≠ 0 := by (repeat' split) <;> decide
    have hX2 := F.keepX hX1 f10
    refine lv_icmp_eq (tgt := 1167) hx hb dL_law_1162 (by decide) (fun c1 => ?_) (fun c1 => ?_)
    · refine lv_iload hx hb dL_law_1167 (lv_at hl 1 rfl) ?_
      refine lv_if_ne (tgt := 1184) hx hb dL_law_1169 (by decide) (fun c2 => ?_) (fun c2 => ?_)
      · skip
        refine lv_goto (tgt := 1590) hx hb dL_law_1184 (by decide) ?_
        exact W.widen (k := cells + 6) (n := slots + 36) (by omega) (by omega) (next _ _ _ _ g3 ⟨hX2, hM2, ⟨_, hO2⟩, hS2⟩ ls (lv_sub hl [2, 3, 4, 5, 6] rfl))
      · exact absurd c2 hp
    · exact absurd g1 c1

set_option maxHeartbeats 4000000 in
set_option maxRecDepth 100000 in
theorem K_counts {p : Program} {l : Launch} {e : Env} {s : State} {m : MethodId} {below : List Frame} {meth : Method} {c : Code} {H : Heap} {locs : List Loc} {cells slots : Nat} {Q : State → Prop} {b L : Nat} {xs : Nat → Int32} {G : kG} {aX aM : Nat → Nat} {ao : Nat} (F : LFix p l s m meth c b L xs G aX aM ao) {n : Nat} (hn : 6 * n + 6 ≤ L) {σ μ : kS} (hR : RR σ μ n) (hI : LI G aX aM ao s σ μ H locs) (hc : cells + 6 ≤ room_1.cells) (hs : slots + 36 ≤ room_1.slots) (next : ∀ (σ9 μ9 : kS) (H9 : Heap) (L9 : List Loc), RR σ9 μ9 (n + 1) → LI G aX aM ao s σ9 μ9 H9 L9 → ∀ ls, lv_has ls 7 [(0, .ref b), (1, .ref (aX 0)), (2, .ref (aM 0)), (3, .ref ao), (4, .int (nI (6 * n)))] → W p l e room_1 s m #[Value.ref b] below meth c H9 L9 (cells + 6) (slots + 36) Q (F0 m 1590 ls [])) {ls : Array Slot} (hl : lv_has ls 7 [(0, .ref b), (1, .ref (aX 0)), (2, .ref (aM 0)), (3, .ref ao), (4, .int (nI (6 * n)))]) : W p l e room_1 s m #[Value.ref b] below meth c H locs cells slots Q (F0 m 1187 ls []) := by
  obtain ⟨nm, ns, N, Sz, hr⟩ := hR
  obtain ⟨hPX, hPM, ⟨f, hPO⟩, hS⟩ := hI
  have S := F.S
  have hx := S.1
  have hb := S.2.1
  have hL := F.hL
  have hXX : PX G aX σ s H := ⟨hPX, F.hK⟩
  have hMM : PM G aM μ s H := ⟨hPM, F.hK⟩
  refine lv_aload_n hx hb dL_law_1187 rfl (lv_at hl 1 rfl) ?_
  refine lv_aload_n hx hb dL_law_1188 rfl (lv_at hl 0 rfl) ?_
  refine lv_iload hx hb dL_law_1189 (lv_at hl 4 rfl) ?_
  refine lv_iconst (v := 1) hx hb dL_law_1191 (by decide) ?_
  refine lv_iadd hx hb dL_law_1192 ?_
  refine k_eq (y := nI (6 * n + 1)) (nI_add (6 * n) 1) ?_
  refine k_sld F hS (k := 6 * n + 1) (by omega) dL_law_1193 ?_
  refine lv_aload_n hx hb dL_law_1194 rfl (lv_at hl 0 rfl) ?_
  refine lv_iload hx hb dL_law_1195 (lv_at hl 4 rfl) ?_
  refine lv_iconst (v := 2) hx hb dL_law_1197 (by decide) ?_
  refine lv_iadd hx hb dL_law_1198 ?_
  refine k_eq (y := nI (6 * n + 2)) (nI_add (6 * n) 2) ?_
  refine k_sld F hS (k := 6 * n + 2) (by omega) dL_law_1199 ?_
  refine lv_aload_n hx hb dL_law_1200 rfl (lv_at hl 3 rfl) ?_
  refine q_lh (rx_SX S ⟨m_523, m_524, m_34, m_525⟩ ⟨rfl, by decide, by decide, by decide +kernel⟩ (cL_counts_c l G aX σ nm ns (xs (6 * n + 1)) (xs (6 * n + 2)) F.hst ((hr.eq 18 0 (by decide)).trans hr.hns) hr.hns4 ((hr.eq 17 0 (by decide)).trans hr.hnm) hr.hnm2 ao f (AX aX) F.dX F.xo) ⟨rfl, rfl, Nat.le_of_ble_eq_true rfl, Nat.le_of_ble_eq_true rfl⟩ (ps bl_PL (fun U hU hW => by show PX G aX σ U U.heap ∧ ZS U U.heap ∧ va_P G.1 vwCl (wO G ao f) U.heap; rw [hU]; exact ⟨hXX.warm hW, (F.zs hS).warm hW, hPO⟩)) (n := 4) (As := [.ref (aX 0), .int (xs (6 * n + 1)), .int (xs (6 * n + 2)), .ref ao]) (rest := []) rfl hl.1 rfl (Nat.le_of_ble_eq_true rfl) ⟨Nat.le_trans (by omega) hc, Nat.le_trans (by omega) hs⟩ dL_law_1201) hS (fun q hq => hq.elim (F.nX q) (fun h9 => by rw [h9]; exact F.nO)) (fun r f1 H1 L1 hO1 hd f9 hS1 => ?_)
  have hM1 : PM G aM μ s H1 := ⟨F.keepM hPM f9, F.hK⟩
  obtain ⟨op1, op2⟩ := op_counts hr (by omega) (xs (6 * n + 1)) (xs (6 * n + 2))
  refine lv_istore (lv' := [(5, .int r), (0, .ref b), (1, .ref (aX 0)), (2, .ref (aM 0)), (3, .ref ao), (4, .int (nI (6 * n)))]) hx hb dL_law_1204 hl (by decide) rfl (fun ls hl => ?_)
  refine lv_aload_n hx hb dL_law_1206 rfl (lv_at hl 3 rfl) ?_
  refine lv_aload_n hx hb dL_law_1207 rfl (lv_at hl 1 rfl) ?_
  refine lv_iload hx hb dL_law_1208 (lv_at hl 5 rfl) ?_
  refine lv_iconst (v := 1) hx hb dL_law_1210 (by decide) ?_
  refine lv_iadd hx hb dL_law_1211 ?_
  refine k_eq (y := nI (6 * n + 1)) (nI_add (6 * n) 1) ?_
  refine k_sld F hS1 (k := 6 * n + 1) (by omega) dL_law_1212 ?_
  refine lv_aload_n hx hb dL_law_1213 rfl (lv_at hl 1 rfl) ?_
  refine lv_iload hx hb dL_law_1214 (lv_at hl 5 rfl) ?_
  refine lv_iconst (v := 2) hx hb dL_law_1216 (by decide) ?_
  refine lv_iadd hx hb dL_law_1217 ?_
  refine k_eq (y := nI (6 * n + 2)) (nI_add (6 * n) 2) ?_
  refine k_sld F hS1 (k := 6 * n + 2) (by omega) dL_law_1218 ?_
  refine q_w (r_V S ⟨m_775, m_776, m_777, m_40, m_778⟩ ⟨rfl, by decide, by decide, by decide +kernel⟩ (c4_counts l G aM μ nm ns (xs (6 * n + 1)) (xs (6 * n + 2)) hr.hns hr.hns4 hr.hnm hr.hnm2 (AM aM) F.dM) ⟨rfl, rfl, Nat.le_of_ble_eq_true rfl, Nat.le_of_ble_eq_true rfl⟩ (pv_M hM1 bl_PM (bM hM1)) (n := 2) (As := [.int (xs (6 * n + 1)), .int (xs (6 * n + 2))]) (rest := []) rfl hl.1 rfl (Nat.le_of_ble_eq_true rfl) ⟨Nat.le_trans (by omega) hc, Nat.le_trans (by omega) hs⟩ dL_law_1219) hS1 F.nM (fun b9 H2 L2 hb9 hM2 _ f10 hS2 => ?_)
  subst hb9
  have hO2 := F.keepO hO1 f10
  have hMM2 : PM G aM (sM (ckR (xs (6 * n + 1)) 0 (μ 18 0 - 1) && ckR (xs (6 * n + 2)) 0 4, true, true) μ (fun κ => κ)) s H2 := ⟨hM2, F.hK⟩
  refine lv_istore (lv' := [(6, .int (vM (ckR (xs (6 * n + 1)) 0 (μ 18 0 - 1) && ckR (xs (6 * n + 2)) 0 4, true, true) (μ 20 (lnN (xs (6 * n + 1)) (xs (6 * n + 2)))))), (5, .int r), (0, .ref b), (1, .ref (aX 0)), (2, .ref (aM 0)), (3, .ref ao), (4, .int (nI (6 * n)))]) hx hb dL_law_1222 hl (by decide) rfl (fun ls hl => ?_)
  refine lv_aload_n hx hb dL_law_1224 rfl (lv_at hl 4 rfl) ?_
  refine q_i (r_V S ⟨m_636, m_637, m_638, m_40, m_639⟩ ⟨rfl, by decide, by decide, by decide +kernel⟩ (c4_thrown l G aM (sM (ckR (xs (6 * n + 1)) 0 (μ 18 0 - 1) && ckR (xs (6 * n + 2)) 0 4, true, true) μ (fun κ => κ))) ⟨rfl, rfl, Nat.le_of_ble_eq_true rfl, Nat.le_of_ble_eq_true rfl⟩ (pv_M hMM2 bl_PM (bM hMM2)) (n := 0) (As := []) (rest := []) rfl hl.1 rfl (Nat.le_of_ble_eq_true rfl) ⟨Nat.le_trans (by omega) hc, Nat.le_trans (by omega) hs⟩ dL_law_1225) (fun t9 ht9 => ?_)
  subst ht9
  refine lv_iload hx hb dL_law_1228 (lv_at hl 1 rfl) ?_
  rcases hd with ⟨hE, hr0, hf0, hX1⟩ | ⟨hE, hr0, hX1⟩
  · obtain ⟨g1, g2, g3⟩ := op1 hE
    subst hr0
    have hX2 := F.keepX hX1 f10
    refine lv_icmp_eq (tgt := 1235) hx hb dL_law_1230 (by decide) (fun c1 => ?_) (fun c1 => ?_)
    · refine lv_iload hx hb dL_law_1235 (lv_at hl 1 rfl) ?_
      refine lv_if_ne (tgt := 1252) hx hb dL_law_1237 (by decide) (fun c2 => ?_) (fun c2 => ?_)
      · exact absurd rfl c2
      · refine lv_aload_n hx hb dL_law_1240 rfl (lv_at hl 5 rfl) ?_
        refine lv_iconst (v := 0) hx hb dL_law_1241 (by decide) ?_
        refine va_lald (D := G.1) hx hb F.hK.1 hO2 0 2 rfl rfl (vp_in_nI (n := 0) (N := 1) (by decide) (by decide)) dL_law_1242 ?_
        refine lv_iload hx hb dL_law_1243 (lv_at hl 0 rfl) ?_
        refine lv_i2l (v := (vM (ckR (xs (6 * n + 1)) 0 (μ 18 0 - 1) && ckR (xs (6 * n + 2)) 0 4, true, true) (μ 20 (lnN (xs (6 * n + 1)) (xs (6 * n + 2)))) : Int32).toInt64) hx hb dL_law_1245 rfl ?_
        refine W.lcmp hx hb dL_law_1246 ?_
        refine k_eq (y := 0) (lcmp_ne (hf0.trans g2)) ?_
        refine lv_if_eq (tgt := 1252) hx hb dL_law_1247 (by decide) (fun c7 => ?_) (fun c7 => ?_)
        · skip
          refine lv_goto (tgt := 1590) hx hb dL_law_1252 (by decide) ?_
          exact W.widen (k := cells + 6) (n := slots + 36) (by omega) (by omega) (next _ _ _ _ g3 ⟨hX2, hM2, ⟨_, hO2⟩, hS2⟩ ls (lv_sub hl [2, 3, 4, 5, 6] rfl))
        · exact absurd rfl c7
    · exact absurd g1 c1
  · obtain ⟨g1, g3⟩ := op2 hE
    subst hr0
    have hp : (if eX_two (xs (6 * n + 1)) (σ 18 0) (xs (6 * n + 2)) 5 = 1 then 1 else 2 : Int32) ≠ 0 := by (repeat' split) <;> decide
    have hX2 := F.keepX hX1 f10
    refine lv_icmp_eq (tgt := 1235) hx hb dL_law_1230 (by decide) (fun c1 => ?_) (fun c1 => ?_)
    · refine lv_iload hx hb dL_law_1235 (lv_at hl 1 rfl) ?_
      refine lv_if_ne (tgt := 1252) hx hb dL_law_1237 (by decide) (fun c2 => ?_) (fun c2 => ?_)
      · skip
        refine lv_goto (tgt := 1590) hx hb dL_law_1252 (by decide) ?_
        exact W.widen (k := cells + 6) (n := slots + 36) (by omega) (by omega) (next _ _ _ _ g3 ⟨hX2, hM2, ⟨_, hO2⟩, hS2⟩ ls (lv_sub hl [2, 3, 4, 5, 6] rfl))
      · exact absurd c2 hp
    · exact absurd g1 c1

set_option maxHeartbeats 4000000 in
set_option maxRecDepth 100000 in
theorem K_agreed {p : Program} {l : Launch} {e : Env} {s : State} {m : MethodId} {below : List Frame} {meth : Method} {c : Code} {H : Heap} {locs : List Loc} {cells slots : Nat} {Q : State → Prop} {b L : Nat} {xs : Nat → Int32} {G : kG} {aX aM : Nat → Nat} {ao : Nat} (F : LFix p l s m meth c b L xs G aX aM ao) {n : Nat} (hn : 6 * n + 6 ≤ L) {σ μ : kS} (hR : RR σ μ n) (hI : LI G aX aM ao s σ μ H locs) (hc : cells + 6 ≤ room_1.cells) (hs : slots + 36 ≤ room_1.slots) (next : ∀ (σ9 μ9 : kS) (H9 : Heap) (L9 : List Loc), RR σ9 μ9 (n + 1) → LI G aX aM ao s σ9 μ9 H9 L9 → ∀ ls, lv_has ls 7 [(0, .ref b), (1, .ref (aX 0)), (2, .ref (aM 0)), (3, .ref ao), (4, .int (nI (6 * n)))] → W p l e room_1 s m #[Value.ref b] below meth c H9 L9 (cells + 6) (slots + 36) Q (F0 m 1590 ls [])) {ls : Array Slot} (hl : lv_has ls 7 [(0, .ref b), (1, .ref (aX 0)), (2, .ref (aM 0)), (3, .ref ao), (4, .int (nI (6 * n)))]) : W p l e room_1 s m #[Value.ref b] below meth c H locs cells slots Q (F0 m 1255 ls []) := by
  obtain ⟨nm, ns, N, Sz, hr⟩ := hR
  obtain ⟨hPX, hPM, ⟨f, hPO⟩, hS⟩ := hI
  have S := F.S
  have hx := S.1
  have hb := S.2.1
  have hL := F.hL
  have hXX : PX G aX σ s H := ⟨hPX, F.hK⟩
  have hMM : PM G aM μ s H := ⟨hPM, F.hK⟩
  refine lv_aload_n hx hb dL_law_1255 rfl (lv_at hl 1 rfl) ?_
  refine lv_aload_n hx hb dL_law_1256 rfl (lv_at hl 0 rfl) ?_
  refine lv_iload hx hb dL_law_1257 (lv_at hl 4 rfl) ?_
  refine lv_iconst (v := 1) hx hb dL_law_1259 (by decide) ?_
  refine lv_iadd hx hb dL_law_1260 ?_
  refine k_eq (y := nI (6 * n + 1)) (nI_add (6 * n) 1) ?_
  refine k_sld F hS (k := 6 * n + 1) (by omega) dL_law_1261 ?_
  refine lv_aload_n hx hb dL_law_1262 rfl (lv_at hl 0 rfl) ?_
  refine lv_iload hx hb dL_law_1263 (lv_at hl 4 rfl) ?_
  refine lv_iconst (v := 2) hx hb dL_law_1265 (by decide) ?_
  refine lv_iadd hx hb dL_law_1266 ?_
  refine k_eq (y := nI (6 * n + 2)) (nI_add (6 * n) 2) ?_
  refine k_sld F hS (k := 6 * n + 2) (by omega) dL_law_1267 ?_
  refine lv_aload_n hx hb dL_law_1268 rfl (lv_at hl 3 rfl) ?_
  refine q_lh (rx_SX S ⟨m_534, m_535, m_34, m_536⟩ ⟨rfl, by decide, by decide, by decide +kernel⟩ (cL_agreed_c l G aX σ nm ns (xs (6 * n + 1)) (xs (6 * n + 2)) F.hst ((hr.eq 18 0 (by decide)).trans hr.hns) hr.hns4 ((hr.eq 17 0 (by decide)).trans hr.hnm) hr.hnm2 ao f (AX aX) F.dX F.xo) ⟨rfl, rfl, Nat.le_of_ble_eq_true rfl, Nat.le_of_ble_eq_true rfl⟩ (ps bl_PL (fun U hU hW => by show PX G aX σ U U.heap ∧ ZS U U.heap ∧ va_P G.1 vwCl (wO G ao f) U.heap; rw [hU]; exact ⟨hXX.warm hW, (F.zs hS).warm hW, hPO⟩)) (n := 4) (As := [.ref (aX 0), .int (xs (6 * n + 1)), .int (xs (6 * n + 2)), .ref ao]) (rest := []) rfl hl.1 rfl (Nat.le_of_ble_eq_true rfl) ⟨Nat.le_trans (by omega) hc, Nat.le_trans (by omega) hs⟩ dL_law_1269) hS (fun q hq => hq.elim (F.nX q) (fun h9 => by rw [h9]; exact F.nO)) (fun r f1 H1 L1 hO1 hd f9 hS1 => ?_)
  have hM1 : PM G aM μ s H1 := ⟨F.keepM hPM f9, F.hK⟩
  obtain ⟨op1, op2⟩ := op_agreed hr (by omega) (xs (6 * n + 1)) (xs (6 * n + 2))
  refine lv_istore (lv' := [(5, .int r), (0, .ref b), (1, .ref (aX 0)), (2, .ref (aM 0)), (3, .ref ao), (4, .int (nI (6 * n)))]) hx hb dL_law_1272 hl (by decide) rfl (fun ls hl => ?_)
  refine lv_aload_n hx hb dL_law_1274 rfl (lv_at hl 3 rfl) ?_
  refine lv_aload_n hx hb dL_law_1275 rfl (lv_at hl 1 rfl) ?_
  refine lv_iload hx hb dL_law_1276 (lv_at hl 5 rfl) ?_
  refine lv_iconst (v := 1) hx hb dL_law_1278 (by decide) ?_
  refine lv_iadd hx hb dL_law_1279 ?_
  refine k_eq (y := nI (6 * n + 1)) (nI_add (6 * n) 1) ?_
  refine k_sld F hS1 (k := 6 * n + 1) (by omega) dL_law_1280 ?_
  refine lv_aload_n hx hb dL_law_1281 rfl (lv_at hl 1 rfl) ?_
  refine lv_iload hx hb dL_law_1282 (lv_at hl 5 rfl) ?_
  refine lv_iconst (v := 2) hx hb dL_law_1284 (by decide) ?_
  refine lv_iadd hx hb dL_law_1285 ?_
  refine k_eq (y := nI (6 * n + 2)) (nI_add (6 * n) 2) ?_
  refine k_sld F hS1 (k := 6 * n + 2) (by omega) dL_law_1286 ?_
  refine q_w (r_V S ⟨m_779, m_780, m_781, m_40, m_782⟩ ⟨rfl, by decide, by decide, by decide +kernel⟩ (c4_agreed l G aM μ nm ns (xs (6 * n + 1)) (xs (6 * n + 2)) hr.hns hr.hns4 hr.hnm hr.hnm2 (AM aM) F.dM) ⟨rfl, rfl, Nat.le_of_ble_eq_true rfl, Nat.le_of_ble_eq_true rfl⟩ (pv_M hM1 bl_PM (bM hM1)) (n := 2) (As := [.int (xs (6 * n + 1)), .int (xs (6 * n + 2))]) (rest := []) rfl hl.1 rfl (Nat.le_of_ble_eq_true rfl) ⟨Nat.le_trans (by omega) hc, Nat.le_trans (by omega) hs⟩ dL_law_1287) hS1 F.nM (fun b9 H2 L2 hb9 hM2 _ f10 hS2 => ?_)
  subst hb9
  have hO2 := F.keepO hO1 f10
  have hMM2 : PM G aM (sM (ckR (xs (6 * n + 1)) 0 (μ 18 0 - 1) && ckR (xs (6 * n + 2)) 0 4, true, true) μ (fun κ => κ)) s H2 := ⟨hM2, F.hK⟩
  refine lv_istore (lv' := [(6, .int (vM (ckR (xs (6 * n + 1)) 0 (μ 18 0 - 1) && ckR (xs (6 * n + 2)) 0 4, true, true) (agM (su μ 23 0 0) (lnN (xs (6 * n + 1)) (xs (6 * n + 2)))))), (5, .int r), (0, .ref b), (1, .ref (aX 0)), (2, .ref (aM 0)), (3, .ref ao), (4, .int (nI (6 * n)))]) hx hb dL_law_1290 hl (by decide) rfl (fun ls hl => ?_)
  refine lv_aload_n hx hb dL_law_1292 rfl (lv_at hl 4 rfl) ?_
  refine q_i (r_V S ⟨m_636, m_637, m_638, m_40, m_639⟩ ⟨rfl, by decide, by decide, by decide +kernel⟩ (c4_thrown l G aM (sM (ckR (xs (6 * n + 1)) 0 (μ 18 0 - 1) && ckR (xs (6 * n + 2)) 0 4, true, true) μ (fun κ => κ))) ⟨rfl, rfl, Nat.le_of_ble_eq_true rfl, Nat.le_of_ble_eq_true rfl⟩ (pv_M hMM2 bl_PM (bM hMM2)) (n := 0) (As := []) (rest := []) rfl hl.1 rfl (Nat.le_of_ble_eq_true rfl) ⟨Nat.le_trans (by omega) hc, Nat.le_trans (by omega) hs⟩ dL_law_1293) (fun t9 ht9 => ?_)
  subst ht9
  refine lv_iload hx hb dL_law_1296 (lv_at hl 1 rfl) ?_
  rcases hd with ⟨hE, hr0, hf0, hX1⟩ | ⟨hE, hr0, hX1⟩
  · obtain ⟨g1, g2, g3⟩ := op1 hE
    subst hr0
    have hX2 := F.keepX hX1 f10
    refine lv_icmp_eq (tgt := 1303) hx hb dL_law_1298 (by decide) (fun c1 => ?_) (fun c1 => ?_)
    · refine lv_iload hx hb dL_law_1303 (lv_at hl 1 rfl) ?_
      refine lv_if_ne (tgt := 1320) hx hb dL_law_1305 (by decide) (fun c2 => ?_) (fun c2 => ?_)
      · exact absurd rfl c2
      · refine lv_aload_n hx hb dL_law_1308 rfl (lv_at hl 5 rfl) ?_
        refine lv_iconst (v := 0) hx hb dL_law_1309 (by decide) ?_
        refine va_lald (D := G.1) hx hb F.hK.1 hO2 0 2 rfl rfl (vp_in_nI (n := 0) (N := 1) (by decide) (by decide)) dL_law_1310 ?_
        refine lv_iload hx hb dL_law_1311 (lv_at hl 0 rfl) ?_
        refine lv_i2l (v := (vM (ckR (xs (6 * n + 1)) 0 (μ 18 0 - 1) && ckR (xs (6 * n + 2)) 0 4, true, true) (agM (su μ 23 0 0) (lnN (xs (6 * n + 1)) (xs (6 * n + 2)))) : Int32).toInt64) hx hb dL_law_1313 rfl ?_
        refine W.lcmp hx hb dL_law_1314 ?_
        refine k_eq (y := 0) (lcmp_ne (hf0.trans g2)) ?_
        refine lv_if_eq (tgt := 1320) hx hb dL_law_1315 (by decide) (fun c7 => ?_) (fun c7 => ?_)
        · skip
          refine lv_goto (tgt := 1590) hx hb dL_law_1320 (by decide) ?_
          exact W.widen (k := cells + 6) (n := slots + 36) (by omega) (by omega) (next _ _ _ _ g3 ⟨hX2, hM2, ⟨_, hO2⟩, hS2⟩ ls (lv_sub hl [2, 3, 4, 5, 6] rfl))
        · exact absurd rfl c7
    · exact absurd g1 c1
  · obtain ⟨g1, g3⟩ := op2 hE
    subst hr0
    have hp : (if eX_two (xs (6 * n + 1)) (σ 18 0) (xs (6 * n + 2)) 5 = 1 then 1 else 2 : Int32) ≠ 0 := by (repeat' split) <;> decide
    have hX2 := F.keepX hX1 f10
    refine lv_icmp_eq (tgt := 1303) hx hb dL_law_1298 (by decide) (fun c1 => ?_) (fun c1 => ?_)
    · refine lv_iload hx hb dL_law_1303 (lv_at hl 1 rfl) ?_
      refine lv_if_ne (tgt := 1320) hx hb dL_law_1305 (by decide) (fun c2 => ?_) (fun c2 => ?_)
      · skip
        refine lv_goto (tgt := 1590) hx hb dL_law_1320 (by decide) ?_
        exact W.widen (k := cells + 6) (n := slots + 36) (by omega) (by omega) (next _ _ _ _ g3 ⟨hX2, hM2, ⟨_, hO2⟩, hS2⟩ ls (lv_sub hl [2, 3, 4, 5, 6] rfl))
      · exact absurd c2 hp
    · exact absurd g1 c1

set_option maxHeartbeats 4000000 in
set_option maxRecDepth 100000 in
theorem K_gap {p : Program} {l : Launch} {e : Env} {s : State} {m : MethodId} {below : List Frame} {meth : Method} {c : Code} {H : Heap} {locs : List Loc} {cells slots : Nat} {Q : State → Prop} {b L : Nat} {xs : Nat → Int32} {G : kG} {aX aM : Nat → Nat} {ao : Nat} (F : LFix p l s m meth c b L xs G aX aM ao) {n : Nat} (hn : 6 * n + 6 ≤ L) {σ μ : kS} (hR : RR σ μ n) (hI : LI G aX aM ao s σ μ H locs) (hc : cells + 6 ≤ room_1.cells) (hs : slots + 36 ≤ room_1.slots) (next : ∀ (σ9 μ9 : kS) (H9 : Heap) (L9 : List Loc), RR σ9 μ9 (n + 1) → LI G aX aM ao s σ9 μ9 H9 L9 → ∀ ls, lv_has ls 7 [(0, .ref b), (1, .ref (aX 0)), (2, .ref (aM 0)), (3, .ref ao), (4, .int (nI (6 * n)))] → W p l e room_1 s m #[Value.ref b] below meth c H9 L9 (cells + 6) (slots + 36) Q (F0 m 1590 ls [])) {ls : Array Slot} (hl : lv_has ls 7 [(0, .ref b), (1, .ref (aX 0)), (2, .ref (aM 0)), (3, .ref ao), (4, .int (nI (6 * n)))]) : W p l e room_1 s m #[Value.ref b] below meth c H locs cells slots Q (F0 m 1323 ls []) := by
  obtain ⟨nm, ns, N, Sz, hr⟩ := hR
  obtain ⟨hPX, hPM, ⟨f, hPO⟩, hS⟩ := hI
  have S := F.S
  have hx := S.1
  have hb := S.2.1
  have hL := F.hL
  have hXX : PX G aX σ s H := ⟨hPX, F.hK⟩
  have hMM : PM G aM μ s H := ⟨hPM, F.hK⟩
  refine lv_aload_n hx hb dL_law_1323 rfl (lv_at hl 1 rfl) ?_
  refine lv_aload_n hx hb dL_law_1324 rfl (lv_at hl 0 rfl) ?_
  refine lv_iload hx hb dL_law_1325 (lv_at hl 4 rfl) ?_
  refine lv_iconst (v := 1) hx hb dL_law_1327 (by decide) ?_
  refine lv_iadd hx hb dL_law_1328 ?_
  refine k_eq (y := nI (6 * n + 1)) (nI_add (6 * n) 1) ?_
  refine k_sld F hS (k := 6 * n + 1) (by omega) dL_law_1329 ?_
  refine lv_aload_n hx hb dL_law_1330 rfl (lv_at hl 0 rfl) ?_
  refine lv_iload hx hb dL_law_1331 (lv_at hl 4 rfl) ?_
  refine lv_iconst (v := 2) hx hb dL_law_1333 (by decide) ?_
  refine lv_iadd hx hb dL_law_1334 ?_
  refine k_eq (y := nI (6 * n + 2)) (nI_add (6 * n) 2) ?_
  refine k_sld F hS (k := 6 * n + 2) (by omega) dL_law_1335 ?_
  refine lv_aload_n hx hb dL_law_1336 rfl (lv_at hl 3 rfl) ?_
  refine q_lh (rx_SX S ⟨m_541, m_542, m_34, m_543⟩ ⟨rfl, by decide, by decide, by decide +kernel⟩ (cL_gap_c l G aX σ nm ns (xs (6 * n + 1)) (xs (6 * n + 2)) F.hst ((hr.eq 18 0 (by decide)).trans hr.hns) hr.hns4 ((hr.eq 17 0 (by decide)).trans hr.hnm) hr.hnm2 ao f (AX aX) F.dX F.xo) ⟨rfl, rfl, Nat.le_of_ble_eq_true rfl, Nat.le_of_ble_eq_true rfl⟩ (ps bl_PL (fun U hU hW => by show PX G aX σ U U.heap ∧ ZS U U.heap ∧ va_P G.1 vwCl (wO G ao f) U.heap; rw [hU]; exact ⟨hXX.warm hW, (F.zs hS).warm hW, hPO⟩)) (n := 4) (As := [.ref (aX 0), .int (xs (6 * n + 1)), .int (xs (6 * n + 2)), .ref ao]) (rest := []) rfl hl.1 rfl (Nat.le_of_ble_eq_true rfl) ⟨Nat.le_trans (by omega) hc, Nat.le_trans (by omega) hs⟩ dL_law_1337) hS (fun q hq => hq.elim (F.nX q) (fun h9 => by rw [h9]; exact F.nO)) (fun r f1 H1 L1 hO1 hd f9 hS1 => ?_)
  have hM1 : PM G aM μ s H1 := ⟨F.keepM hPM f9, F.hK⟩
  obtain ⟨op1, op2⟩ := op_gap hr (by omega) (xs (6 * n + 1)) (xs (6 * n + 2))
  refine lv_istore (lv' := [(5, .int r), (0, .ref b), (1, .ref (aX 0)), (2, .ref (aM 0)), (3, .ref ao), (4, .int (nI (6 * n)))]) hx hb dL_law_1340 hl (by decide) rfl (fun ls hl => ?_)
  refine lv_aload_n hx hb dL_law_1342 rfl (lv_at hl 3 rfl) ?_
  refine lv_aload_n hx hb dL_law_1343 rfl (lv_at hl 1 rfl) ?_
  refine lv_iload hx hb dL_law_1344 (lv_at hl 5 rfl) ?_
  refine lv_iconst (v := 1) hx hb dL_law_1346 (by decide) ?_
  refine lv_iadd hx hb dL_law_1347 ?_
  refine k_eq (y := nI (6 * n + 1)) (nI_add (6 * n) 1) ?_
  refine k_sld F hS1 (k := 6 * n + 1) (by omega) dL_law_1348 ?_
  refine lv_aload_n hx hb dL_law_1349 rfl (lv_at hl 1 rfl) ?_
  refine lv_iload hx hb dL_law_1350 (lv_at hl 5 rfl) ?_
  refine lv_iconst (v := 2) hx hb dL_law_1352 (by decide) ?_
  refine lv_iadd hx hb dL_law_1353 ?_
  refine k_eq (y := nI (6 * n + 2)) (nI_add (6 * n) 2) ?_
  refine k_sld F hS1 (k := 6 * n + 2) (by omega) dL_law_1354 ?_
  refine q_w (r_V S ⟨m_783, m_784, m_785, m_40, m_786⟩ ⟨rfl, by decide, by decide, by decide +kernel⟩ (c4_gap l G aM μ nm ns (xs (6 * n + 1)) (xs (6 * n + 2)) hr.hns hr.hns4 hr.hnm hr.hnm2 (AM aM) F.dM) ⟨rfl, rfl, Nat.le_of_ble_eq_true rfl, Nat.le_of_ble_eq_true rfl⟩ (pv_M hM1 bl_PM (bM hM1)) (n := 2) (As := [.int (xs (6 * n + 1)), .int (xs (6 * n + 2))]) (rest := []) rfl hl.1 rfl (Nat.le_of_ble_eq_true rfl) ⟨Nat.le_trans (by omega) hc, Nat.le_trans (by omega) hs⟩ dL_law_1355) hS1 F.nM (fun b9 H2 L2 hb9 hM2 _ f10 hS2 => ?_)
  subst hb9
  have hO2 := F.keepO hO1 f10
  have hMM2 : PM G aM (sM (ckR (xs (6 * n + 1)) 0 (μ 18 0 - 1) && ckR (xs (6 * n + 2)) 0 4, ckR (xs (6 * n + 1)) 0 (μ 18 0 - 1) && ckR (xs (6 * n + 2)) 0 4 && grM μ (lnN (xs (6 * n + 1)) (xs (6 * n + 2))), true) μ (fun κ => κ)) s H2 := ⟨hM2, F.hK⟩
  refine lv_istore (lv' := [(6, .int (vM (ckR (xs (6 * n + 1)) 0 (μ 18 0 - 1) && ckR (xs (6 * n + 2)) 0 4, ckR (xs (6 * n + 1)) 0 (μ 18 0 - 1) && ckR (xs (6 * n + 2)) 0 4 && grM μ (lnN (xs (6 * n + 1)) (xs (6 * n + 2))), true) (gpM (su μ 23 0 0) nm ns (ixN (xs (6 * n + 1))) (ixN (xs (6 * n + 2)))))), (5, .int r), (0, .ref b), (1, .ref (aX 0)), (2, .ref (aM 0)), (3, .ref ao), (4, .int (nI (6 * n)))]) hx hb dL_law_1358 hl (by decide) rfl (fun ls hl => ?_)
  refine lv_aload_n hx hb dL_law_1360 rfl (lv_at hl 4 rfl) ?_
  refine q_i (r_V S ⟨m_636, m_637, m_638, m_40, m_639⟩ ⟨rfl, by decide, by decide, by decide +kernel⟩ (c4_thrown l G aM (sM (ckR (xs (6 * n + 1)) 0 (μ 18 0 - 1) && ckR (xs (6 * n + 2)) 0 4, ckR (xs (6 * n + 1)) 0 (μ 18 0 - 1) && ckR (xs (6 * n + 2)) 0 4 && grM μ (lnN (xs (6 * n + 1)) (xs (6 * n + 2))), true) μ (fun κ => κ))) ⟨rfl, rfl, Nat.le_of_ble_eq_true rfl, Nat.le_of_ble_eq_true rfl⟩ (pv_M hMM2 bl_PM (bM hMM2)) (n := 0) (As := []) (rest := []) rfl hl.1 rfl (Nat.le_of_ble_eq_true rfl) ⟨Nat.le_trans (by omega) hc, Nat.le_trans (by omega) hs⟩ dL_law_1361) (fun t9 ht9 => ?_)
  subst ht9
  refine lv_iload hx hb dL_law_1364 (lv_at hl 1 rfl) ?_
  rcases hd with ⟨hE, hr0, hf0, hX1⟩ | ⟨hE, hr0, hX1⟩
  · obtain ⟨g1, g2, g3⟩ := op1 hE
    subst hr0
    have hX2 := F.keepX hX1 f10
    refine lv_icmp_eq (tgt := 1371) hx hb dL_law_1366 (by decide) (fun c1 => ?_) (fun c1 => ?_)
    · refine lv_iload hx hb dL_law_1371 (lv_at hl 1 rfl) ?_
      refine lv_if_ne (tgt := 1388) hx hb dL_law_1373 (by decide) (fun c2 => ?_) (fun c2 => ?_)
      · exact absurd rfl c2
      · refine lv_aload_n hx hb dL_law_1376 rfl (lv_at hl 5 rfl) ?_
        refine lv_iconst (v := 0) hx hb dL_law_1377 (by decide) ?_
        refine va_lald (D := G.1) hx hb F.hK.1 hO2 0 2 rfl rfl (vp_in_nI (n := 0) (N := 1) (by decide) (by decide)) dL_law_1378 ?_
        refine lv_iload hx hb dL_law_1379 (lv_at hl 0 rfl) ?_
        refine lv_i2l (v := (vM (ckR (xs (6 * n + 1)) 0 (μ 18 0 - 1) && ckR (xs (6 * n + 2)) 0 4, ckR (xs (6 * n + 1)) 0 (μ 18 0 - 1) && ckR (xs (6 * n + 2)) 0 4 && grM μ (lnN (xs (6 * n + 1)) (xs (6 * n + 2))), true) (gpM (su μ 23 0 0) nm ns (ixN (xs (6 * n + 1))) (ixN (xs (6 * n + 2)))) : Int32).toInt64) hx hb dL_law_1381 rfl ?_
        refine W.lcmp hx hb dL_law_1382 ?_
        refine k_eq (y := 0) (lcmp_ne (hf0.trans g2)) ?_
        refine lv_if_eq (tgt := 1388) hx hb dL_law_1383 (by decide) (fun c7 => ?_) (fun c7 => ?_)
        · skip
          refine lv_goto (tgt := 1590) hx hb dL_law_1388 (by decide) ?_
          exact W.widen (k := cells + 6) (n := slots + 36) (by omega) (by omega) (next _ _ _ _ g3 ⟨hX2, hM2, ⟨_, hO2⟩, hS2⟩ ls (lv_sub hl [2, 3, 4, 5, 6] rfl))
        · exact absurd rfl c7
    · exact absurd g1 c1
  · obtain ⟨g1, g3⟩ := op2 hE
    subst hr0
    have hp : (if eX_gap σ (xs (6 * n + 1)) (xs (6 * n + 2)) = 1 then 1 else if eX_gap σ (xs (6 * n + 1)) (xs (6 * n + 2)) = 4 then 2 else 3 : Int32) ≠ 0 := by (repeat' split) <;> decide
    have hX2 := F.keepX hX1 f10
    refine lv_icmp_eq (tgt := 1371) hx hb dL_law_1366 (by decide) (fun c1 => ?_) (fun c1 => ?_)
    · refine lv_iload hx hb dL_law_1371 (lv_at hl 1 rfl) ?_
      refine lv_if_ne (tgt := 1388) hx hb dL_law_1373 (by decide) (fun c2 => ?_) (fun c2 => ?_)
      · skip
        refine lv_goto (tgt := 1590) hx hb dL_law_1388 (by decide) ?_
        exact W.widen (k := cells + 6) (n := slots + 36) (by omega) (by omega) (next _ _ _ _ g3 ⟨hX2, hM2, ⟨_, hO2⟩, hS2⟩ ls (lv_sub hl [2, 3, 4, 5, 6] rfl))
      · exact absurd c2 hp
    · exact absurd g1 c1

set_option maxHeartbeats 4000000 in
set_option maxRecDepth 100000 in
theorem K_isSigned {p : Program} {l : Launch} {e : Env} {s : State} {m : MethodId} {below : List Frame} {meth : Method} {c : Code} {H : Heap} {locs : List Loc} {cells slots : Nat} {Q : State → Prop} {b L : Nat} {xs : Nat → Int32} {G : kG} {aX aM : Nat → Nat} {ao : Nat} (F : LFix p l s m meth c b L xs G aX aM ao) {n : Nat} (hn : 6 * n + 6 ≤ L) {σ μ : kS} (hR : RR σ μ n) (hI : LI G aX aM ao s σ μ H locs) (hc : cells + 6 ≤ room_1.cells) (hs : slots + 36 ≤ room_1.slots) (next : ∀ (σ9 μ9 : kS) (H9 : Heap) (L9 : List Loc), RR σ9 μ9 (n + 1) → LI G aX aM ao s σ9 μ9 H9 L9 → ∀ ls, lv_has ls 7 [(0, .ref b), (1, .ref (aX 0)), (2, .ref (aM 0)), (3, .ref ao), (4, .int (nI (6 * n)))] → W p l e room_1 s m #[Value.ref b] below meth c H9 L9 (cells + 6) (slots + 36) Q (F0 m 1590 ls [])) {ls : Array Slot} (hl : lv_has ls 7 [(0, .ref b), (1, .ref (aX 0)), (2, .ref (aM 0)), (3, .ref ao), (4, .int (nI (6 * n)))]) : W p l e room_1 s m #[Value.ref b] below meth c H locs cells slots Q (F0 m 1391 ls []) := by
  obtain ⟨nm, ns, N, Sz, hr⟩ := hR
  obtain ⟨hPX, hPM, ⟨f, hPO⟩, hS⟩ := hI
  have S := F.S
  have hx := S.1
  have hb := S.2.1
  have hL := F.hL
  have hXX : PX G aX σ s H := ⟨hPX, F.hK⟩
  have hMM : PM G aM μ s H := ⟨hPM, F.hK⟩
  refine lv_aload_n hx hb dL_law_1391 rfl (lv_at hl 1 rfl) ?_
  refine lv_aload_n hx hb dL_law_1392 rfl (lv_at hl 0 rfl) ?_
  refine lv_iload hx hb dL_law_1393 (lv_at hl 4 rfl) ?_
  refine lv_iconst (v := 1) hx hb dL_law_1395 (by decide) ?_
  refine lv_iadd hx hb dL_law_1396 ?_
  refine k_eq (y := nI (6 * n + 1)) (nI_add (6 * n) 1) ?_
  refine k_sld F hS (k := 6 * n + 1) (by omega) dL_law_1397 ?_
  refine lv_aload_n hx hb dL_law_1398 rfl (lv_at hl 0 rfl) ?_
  refine lv_iload hx hb dL_law_1399 (lv_at hl 4 rfl) ?_
  refine lv_iconst (v := 2) hx hb dL_law_1401 (by decide) ?_
  refine lv_iadd hx hb dL_law_1402 ?_
  refine k_eq (y := nI (6 * n + 2)) (nI_add (6 * n) 2) ?_
  refine k_sld F hS (k := 6 * n + 2) (by omega) dL_law_1403 ?_
  refine lv_aload_n hx hb dL_law_1404 rfl (lv_at hl 3 rfl) ?_
  refine q_lh (rx_SX S ⟨m_548, m_549, m_34, m_550⟩ ⟨rfl, by decide, by decide, by decide +kernel⟩ (cL_isSigned_c l G aX σ nm ns (xs (6 * n + 1)) (xs (6 * n + 2)) F.hst ((hr.eq 18 0 (by decide)).trans hr.hns) hr.hns4 ((hr.eq 17 0 (by decide)).trans hr.hnm) hr.hnm2 ao f (AX aX) F.dX F.xo) ⟨rfl, rfl, Nat.le_of_ble_eq_true rfl, Nat.le_of_ble_eq_true rfl⟩ (ps bl_PL (fun U hU hW => by show PX G aX σ U U.heap ∧ ZS U U.heap ∧ va_P G.1 vwCl (wO G ao f) U.heap; rw [hU]; exact ⟨hXX.warm hW, (F.zs hS).warm hW, hPO⟩)) (n := 4) (As := [.ref (aX 0), .int (xs (6 * n + 1)), .int (xs (6 * n + 2)), .ref ao]) (rest := []) rfl hl.1 rfl (Nat.le_of_ble_eq_true rfl) ⟨Nat.le_trans (by omega) hc, Nat.le_trans (by omega) hs⟩ dL_law_1405) hS (fun q hq => hq.elim (F.nX q) (fun h9 => by rw [h9]; exact F.nO)) (fun r f1 H1 L1 hO1 hd f9 hS1 => ?_)
  have hM1 : PM G aM μ s H1 := ⟨F.keepM hPM f9, F.hK⟩
  obtain ⟨op1, op2⟩ := op_isSigned hr (by omega) (xs (6 * n + 1)) (xs (6 * n + 2))
  refine lv_istore (lv' := [(5, .int r), (0, .ref b), (1, .ref (aX 0)), (2, .ref (aM 0)), (3, .ref ao), (4, .int (nI (6 * n)))]) hx hb dL_law_1408 hl (by decide) rfl (fun ls hl => ?_)
  refine lv_aload_n hx hb dL_law_1410 rfl (lv_at hl 3 rfl) ?_
  refine lv_aload_n hx hb dL_law_1411 rfl (lv_at hl 1 rfl) ?_
  refine lv_iload hx hb dL_law_1412 (lv_at hl 5 rfl) ?_
  refine lv_iconst (v := 1) hx hb dL_law_1414 (by decide) ?_
  refine lv_iadd hx hb dL_law_1415 ?_
  refine k_eq (y := nI (6 * n + 1)) (nI_add (6 * n) 1) ?_
  refine k_sld F hS1 (k := 6 * n + 1) (by omega) dL_law_1416 ?_
  refine lv_aload_n hx hb dL_law_1417 rfl (lv_at hl 1 rfl) ?_
  refine lv_iload hx hb dL_law_1418 (lv_at hl 5 rfl) ?_
  refine lv_iconst (v := 2) hx hb dL_law_1420 (by decide) ?_
  refine lv_iadd hx hb dL_law_1421 ?_
  refine k_eq (y := nI (6 * n + 2)) (nI_add (6 * n) 2) ?_
  refine k_sld F hS1 (k := 6 * n + 2) (by omega) dL_law_1422 ?_
  refine q_w (r_V S ⟨m_787, m_788, m_789, m_40, m_790⟩ ⟨rfl, by decide, by decide, by decide +kernel⟩ (c4_isSigned l G aM μ nm ns (xs (6 * n + 1)) (xs (6 * n + 2)) hr.hns hr.hns4 hr.hnm hr.hnm2 (AM aM) F.dM) ⟨rfl, rfl, Nat.le_of_ble_eq_true rfl, Nat.le_of_ble_eq_true rfl⟩ (pv_M hM1 bl_PM (bM hM1)) (n := 2) (As := [.int (xs (6 * n + 1)), .int (xs (6 * n + 2))]) (rest := []) rfl hl.1 rfl (Nat.le_of_ble_eq_true rfl) ⟨Nat.le_trans (by omega) hc, Nat.le_trans (by omega) hs⟩ dL_law_1423) hS1 F.nM (fun b9 H2 L2 hb9 hM2 _ f10 hS2 => ?_)
  subst hb9
  have hO2 := F.keepO hO1 f10
  have hMM2 : PM G aM (sM (ckR (xs (6 * n + 1)) 0 (μ 18 0 - 1) && ckR (xs (6 * n + 2)) 0 4, true, true) μ (fun κ => κ)) s H2 := ⟨hM2, F.hK⟩
  refine lv_istore (lv' := [(6, .int (vM (ckR (xs (6 * n + 1)) 0 (μ 18 0 - 1) && ckR (xs (6 * n + 2)) 0 4, true, true) (if μ 14 (lnN (xs (6 * n + 1)) (xs (6 * n + 2))) ≤ 0 then 0 else 1))), (5, .int r), (0, .ref b), (1, .ref (aX 0)), (2, .ref (aM 0)), (3, .ref ao), (4, .int (nI (6 * n)))]) hx hb dL_law_1426 hl (by decide) rfl (fun ls hl => ?_)
  refine lv_aload_n hx hb dL_law_1428 rfl (lv_at hl 4 rfl) ?_
  refine q_i (r_V S ⟨m_636, m_637, m_638, m_40, m_639⟩ ⟨rfl, by decide, by decide, by decide +kernel⟩ (c4_thrown l G aM (sM (ckR (xs (6 * n + 1)) 0 (μ 18 0 - 1) && ckR (xs (6 * n + 2)) 0 4, true, true) μ (fun κ => κ))) ⟨rfl, rfl, Nat.le_of_ble_eq_true rfl, Nat.le_of_ble_eq_true rfl⟩ (pv_M hMM2 bl_PM (bM hMM2)) (n := 0) (As := []) (rest := []) rfl hl.1 rfl (Nat.le_of_ble_eq_true rfl) ⟨Nat.le_trans (by omega) hc, Nat.le_trans (by omega) hs⟩ dL_law_1429) (fun t9 ht9 => ?_)
  subst ht9
  refine lv_iload hx hb dL_law_1432 (lv_at hl 1 rfl) ?_
  rcases hd with ⟨hE, hr0, hf0, hX1⟩ | ⟨hE, hr0, hX1⟩
  · obtain ⟨g1, g2, g3⟩ := op1 hE
    subst hr0
    have hX2 := F.keepX hX1 f10
    refine lv_icmp_eq (tgt := 1439) hx hb dL_law_1434 (by decide) (fun c1 => ?_) (fun c1 => ?_)
    · refine lv_iload hx hb dL_law_1439 (lv_at hl 1 rfl) ?_
      refine lv_if_ne (tgt := 1463) hx hb dL_law_1441 (by decide) (fun c2 => ?_) (fun c2 => ?_)
      · exact absurd rfl c2
      · refine lv_aload_n hx hb dL_law_1444 rfl (lv_at hl 5 rfl) ?_
        refine lv_iconst (v := 0) hx hb dL_law_1445 (by decide) ?_
        refine va_lald (D := G.1) hx hb F.hK.1 hO2 0 2 rfl rfl (vp_in_nI (n := 0) (N := 1) (by decide) (by decide)) dL_law_1446 ?_
        refine lv_iload hx hb dL_law_1447 (lv_at hl 0 rfl) ?_
        refine lv_if_eq (tgt := 1456) hx hb dL_law_1449 (by decide) (fun c5 => ?_) (fun c5 => ?_)
        · refine lv_lconst (v := 0) hx hb dL_law_1456 (by decide) ?_
          refine W.lcmp hx hb dL_law_1457 ?_
          refine k_eq (y := 0) (lcmp_ne (hf0.trans (g2.trans (if_pos c5)))) ?_
          refine lv_if_eq (tgt := 1463) hx hb dL_law_1458 (by decide) (fun c7 => ?_) (fun c7 => ?_)
          · skip
            refine lv_goto (tgt := 1590) hx hb dL_law_1463 (by decide) ?_
            exact W.widen (k := cells + 6) (n := slots + 36) (by omega) (by omega) (next _ _ _ _ g3 ⟨hX2, hM2, ⟨_, hO2⟩, hS2⟩ ls (lv_sub hl [2, 3, 4, 5, 6] rfl))
          · exact absurd rfl c7
        · refine lv_lconst (v := 1) hx hb dL_law_1452 (by decide) ?_
          refine lv_goto (tgt := 1457) hx hb dL_law_1453 (by decide) ?_
          refine W.lcmp hx hb dL_law_1457 ?_
          refine k_eq (y := 0) (lcmp_ne (hf0.trans (g2.trans (if_neg c5)))) ?_
          refine lv_if_eq (tgt := 1463) hx hb dL_law_1458 (by decide) (fun c7 => ?_) (fun c7 => ?_)
          · skip
            refine lv_goto (tgt := 1590) hx hb dL_law_1463 (by decide) ?_
            exact W.widen (k := cells + 6) (n := slots + 36) (by omega) (by omega) (next _ _ _ _ g3 ⟨hX2, hM2, ⟨_, hO2⟩, hS2⟩ ls (lv_sub hl [2, 3, 4, 5, 6] rfl))
          · exact absurd rfl c7
    · exact absurd g1 c1
  · obtain ⟨g1, g3⟩ := op2 hE
    subst hr0
    have hp : (if eX_two (xs (6 * n + 1)) (σ 18 0) (xs (6 * n + 2)) 5 = 1 then 1 else 2 : Int32) ≠ 0 := by (repeat' split) <;> decide
    have hX2 := F.keepX hX1 f10
    refine lv_icmp_eq (tgt := 1439) hx hb dL_law_1434 (by decide) (fun c1 => ?_) (fun c1 => ?_)
    · refine lv_iload hx hb dL_law_1439 (lv_at hl 1 rfl) ?_
      refine lv_if_ne (tgt := 1463) hx hb dL_law_1441 (by decide) (fun c2 => ?_) (fun c2 => ?_)
      · skip
        refine lv_goto (tgt := 1590) hx hb dL_law_1463 (by decide) ?_
        exact W.widen (k := cells + 6) (n := slots + 36) (by omega) (by omega) (next _ _ _ _ g3 ⟨hX2, hM2, ⟨_, hO2⟩, hS2⟩ ls (lv_sub hl [2, 3, 4, 5, 6] rfl))
      · exact absurd c2 hp
    · exact absurd g1 c1

set_option maxHeartbeats 4000000 in
set_option maxRecDepth 100000 in
theorem K_likely {p : Program} {l : Launch} {e : Env} {s : State} {m : MethodId} {below : List Frame} {meth : Method} {c : Code} {H : Heap} {locs : List Loc} {cells slots : Nat} {Q : State → Prop} {b L : Nat} {xs : Nat → Int32} {G : kG} {aX aM : Nat → Nat} {ao : Nat} (F : LFix p l s m meth c b L xs G aX aM ao) {n : Nat} (hn : 6 * n + 6 ≤ L) {σ μ : kS} (hR : RR σ μ n) (hI : LI G aX aM ao s σ μ H locs) (hc : cells + 6 ≤ room_1.cells) (hs : slots + 36 ≤ room_1.slots) (next : ∀ (σ9 μ9 : kS) (H9 : Heap) (L9 : List Loc), RR σ9 μ9 (n + 1) → LI G aX aM ao s σ9 μ9 H9 L9 → ∀ ls, lv_has ls 7 [(0, .ref b), (1, .ref (aX 0)), (2, .ref (aM 0)), (3, .ref ao), (4, .int (nI (6 * n)))] → W p l e room_1 s m #[Value.ref b] below meth c H9 L9 (cells + 6) (slots + 36) Q (F0 m 1590 ls [])) {ls : Array Slot} (hl : lv_has ls 7 [(0, .ref b), (1, .ref (aX 0)), (2, .ref (aM 0)), (3, .ref ao), (4, .int (nI (6 * n)))]) : W p l e room_1 s m #[Value.ref b] below meth c H locs cells slots Q (F0 m 1466 ls []) := by
  obtain ⟨nm, ns, N, Sz, hr⟩ := hR
  obtain ⟨hPX, hPM, ⟨f, hPO⟩, hS⟩ := hI
  have S := F.S
  have hx := S.1
  have hb := S.2.1
  have hL := F.hL
  have hXX : PX G aX σ s H := ⟨hPX, F.hK⟩
  have hMM : PM G aM μ s H := ⟨hPM, F.hK⟩
  refine lv_aload_n hx hb dL_law_1466 rfl (lv_at hl 1 rfl) ?_
  refine lv_aload_n hx hb dL_law_1467 rfl (lv_at hl 0 rfl) ?_
  refine lv_iload hx hb dL_law_1468 (lv_at hl 4 rfl) ?_
  refine lv_iconst (v := 1) hx hb dL_law_1470 (by decide) ?_
  refine lv_iadd hx hb dL_law_1471 ?_
  refine k_eq (y := nI (6 * n + 1)) (nI_add (6 * n) 1) ?_
  refine k_sld F hS (k := 6 * n + 1) (by omega) dL_law_1472 ?_
  refine lv_aload_n hx hb dL_law_1473 rfl (lv_at hl 0 rfl) ?_
  refine lv_iload hx hb dL_law_1474 (lv_at hl 4 rfl) ?_
  refine lv_iconst (v := 2) hx hb dL_law_1476 (by decide) ?_
  refine lv_iadd hx hb dL_law_1477 ?_
  refine k_eq (y := nI (6 * n + 2)) (nI_add (6 * n) 2) ?_
  refine k_sld F hS (k := 6 * n + 2) (by omega) dL_law_1478 ?_
  refine lv_aload_n hx hb dL_law_1479 rfl (lv_at hl 3 rfl) ?_
  refine q_lh (rx_SX S ⟨m_555, m_556, m_34, m_557⟩ ⟨rfl, by decide, by decide, by decide +kernel⟩ (cL_likely_c l G aX σ nm ns (xs (6 * n + 1)) (xs (6 * n + 2)) F.hst ((hr.eq 18 0 (by decide)).trans hr.hns) hr.hns4 ((hr.eq 17 0 (by decide)).trans hr.hnm) hr.hnm2 ao f (AX aX) F.dX F.xo) ⟨rfl, rfl, Nat.le_of_ble_eq_true rfl, Nat.le_of_ble_eq_true rfl⟩ (ps bl_PL (fun U hU hW => by show PX G aX σ U U.heap ∧ ZS U U.heap ∧ va_P G.1 vwCl (wO G ao f) U.heap; rw [hU]; exact ⟨hXX.warm hW, (F.zs hS).warm hW, hPO⟩)) (n := 4) (As := [.ref (aX 0), .int (xs (6 * n + 1)), .int (xs (6 * n + 2)), .ref ao]) (rest := []) rfl hl.1 rfl (Nat.le_of_ble_eq_true rfl) ⟨Nat.le_trans (by omega) hc, Nat.le_trans (by omega) hs⟩ dL_law_1480) hS (fun q hq => hq.elim (F.nX q) (fun h9 => by rw [h9]; exact F.nO)) (fun r f1 H1 L1 hO1 hd f9 hS1 => ?_)
  have hM1 : PM G aM μ s H1 := ⟨F.keepM hPM f9, F.hK⟩
  obtain ⟨op1, op2⟩ := op_likely hr (by omega) (xs (6 * n + 1)) (xs (6 * n + 2))
  refine lv_istore (lv' := [(5, .int r), (0, .ref b), (1, .ref (aX 0)), (2, .ref (aM 0)), (3, .ref ao), (4, .int (nI (6 * n)))]) hx hb dL_law_1483 hl (by decide) rfl (fun ls hl => ?_)
  refine lv_aload_n hx hb dL_law_1485 rfl (lv_at hl 3 rfl) ?_
  refine lv_aload_n hx hb dL_law_1486 rfl (lv_at hl 1 rfl) ?_
  refine lv_iload hx hb dL_law_1487 (lv_at hl 5 rfl) ?_
  refine lv_iconst (v := 1) hx hb dL_law_1489 (by decide) ?_
  refine lv_iadd hx hb dL_law_1490 ?_
  refine k_eq (y := nI (6 * n + 1)) (nI_add (6 * n) 1) ?_
  refine k_sld F hS1 (k := 6 * n + 1) (by omega) dL_law_1491 ?_
  refine lv_aload_n hx hb dL_law_1492 rfl (lv_at hl 1 rfl) ?_
  refine lv_iload hx hb dL_law_1493 (lv_at hl 5 rfl) ?_
  refine lv_iconst (v := 2) hx hb dL_law_1495 (by decide) ?_
  refine lv_iadd hx hb dL_law_1496 ?_
  refine k_eq (y := nI (6 * n + 2)) (nI_add (6 * n) 2) ?_
  refine k_sld F hS1 (k := 6 * n + 2) (by omega) dL_law_1497 ?_
  refine q_w (r_V S ⟨m_791, m_792, m_793, m_40, m_794⟩ ⟨rfl, by decide, by decide, by decide +kernel⟩ (c4_likely l G aM μ nm ns (xs (6 * n + 1)) (xs (6 * n + 2)) hr.hns hr.hns4 hr.hnm hr.hnm2 (AM aM) F.dM) ⟨rfl, rfl, Nat.le_of_ble_eq_true rfl, Nat.le_of_ble_eq_true rfl⟩ (pv_M hM1 bl_PM (bM hM1)) (n := 2) (As := [.int (xs (6 * n + 1)), .int (xs (6 * n + 2))]) (rest := []) rfl hl.1 rfl (Nat.le_of_ble_eq_true rfl) ⟨Nat.le_trans (by omega) hc, Nat.le_trans (by omega) hs⟩ dL_law_1498) hS1 F.nM (fun b9 H2 L2 hb9 hM2 _ f10 hS2 => ?_)
  subst hb9
  have hO2 := F.keepO hO1 f10
  have hMM2 : PM G aM (sM (ckR (xs (6 * n + 1)) 0 (μ 18 0 - 1) && ckR (xs (6 * n + 2)) 0 4, true, true) μ (fun κ => κ)) s H2 := ⟨hM2, F.hK⟩
  refine lv_istore (lv' := [(6, .int (vM (ckR (xs (6 * n + 1)) 0 (μ 18 0 - 1) && ckR (xs (6 * n + 2)) 0 4, true, true) (oI (fdn (fun k => lkB (su μ 23 0 0) nm ns (ixN (xs (6 * n + 1))) (ixN (xs (6 * n + 2))) k) 0 ns)))), (5, .int r), (0, .ref b), (1, .ref (aX 0)), (2, .ref (aM 0)), (3, .ref ao), (4, .int (nI (6 * n)))]) hx hb dL_law_1501 hl (by decide) rfl (fun ls hl => ?_)
  refine lv_aload_n hx hb dL_law_1503 rfl (lv_at hl 4 rfl) ?_
  refine q_i (r_V S ⟨m_636, m_637, m_638, m_40, m_639⟩ ⟨rfl, by decide, by decide, by decide +kernel⟩ (c4_thrown l G aM (sM (ckR (xs (6 * n + 1)) 0 (μ 18 0 - 1) && ckR (xs (6 * n + 2)) 0 4, true, true) μ (fun κ => κ))) ⟨rfl, rfl, Nat.le_of_ble_eq_true rfl, Nat.le_of_ble_eq_true rfl⟩ (pv_M hMM2 bl_PM (bM hMM2)) (n := 0) (As := []) (rest := []) rfl hl.1 rfl (Nat.le_of_ble_eq_true rfl) ⟨Nat.le_trans (by omega) hc, Nat.le_trans (by omega) hs⟩ dL_law_1504) (fun t9 ht9 => ?_)
  subst ht9
  refine lv_iload hx hb dL_law_1507 (lv_at hl 1 rfl) ?_
  rcases hd with ⟨hE, hr0, hf0, hX1⟩ | ⟨hE, hr0, hX1⟩
  · obtain ⟨g1, g2, g3⟩ := op1 hE
    subst hr0
    have hX2 := F.keepX hX1 f10
    refine lv_icmp_eq (tgt := 1514) hx hb dL_law_1509 (by decide) (fun c1 => ?_) (fun c1 => ?_)
    · refine lv_iload hx hb dL_law_1514 (lv_at hl 1 rfl) ?_
      refine lv_if_ne (tgt := 1531) hx hb dL_law_1516 (by decide) (fun c2 => ?_) (fun c2 => ?_)
      · exact absurd rfl c2
      · refine lv_aload_n hx hb dL_law_1519 rfl (lv_at hl 5 rfl) ?_
        refine lv_iconst (v := 0) hx hb dL_law_1520 (by decide) ?_
        refine va_lald (D := G.1) hx hb F.hK.1 hO2 0 2 rfl rfl (vp_in_nI (n := 0) (N := 1) (by decide) (by decide)) dL_law_1521 ?_
        refine lv_iload hx hb dL_law_1522 (lv_at hl 0 rfl) ?_
        refine lv_i2l (v := (vM (ckR (xs (6 * n + 1)) 0 (μ 18 0 - 1) && ckR (xs (6 * n + 2)) 0 4, true, true) (oI (fdn (fun k => lkB (su μ 23 0 0) nm ns (ixN (xs (6 * n + 1))) (ixN (xs (6 * n + 2))) k) 0 ns)) : Int32).toInt64) hx hb dL_law_1524 rfl ?_
        refine W.lcmp hx hb dL_law_1525 ?_
        refine k_eq (y := 0) (lcmp_ne (hf0.trans g2)) ?_
        refine lv_if_eq (tgt := 1531) hx hb dL_law_1526 (by decide) (fun c7 => ?_) (fun c7 => ?_)
        · skip
          refine lv_goto (tgt := 1590) hx hb dL_law_1531 (by decide) ?_
          exact W.widen (k := cells + 6) (n := slots + 36) (by omega) (by omega) (next _ _ _ _ g3 ⟨hX2, hM2, ⟨_, hO2⟩, hS2⟩ ls (lv_sub hl [2, 3, 4, 5, 6] rfl))
        · exact absurd rfl c7
    · exact absurd g1 c1
  · obtain ⟨g1, g3⟩ := op2 hE
    subst hr0
    have hp : (if eX_two (xs (6 * n + 1)) (σ 18 0) (xs (6 * n + 2)) 5 = 1 then 1 else 2 : Int32) ≠ 0 := by (repeat' split) <;> decide
    have hX2 := F.keepX hX1 f10
    refine lv_icmp_eq (tgt := 1514) hx hb dL_law_1509 (by decide) (fun c1 => ?_) (fun c1 => ?_)
    · refine lv_iload hx hb dL_law_1514 (lv_at hl 1 rfl) ?_
      refine lv_if_ne (tgt := 1531) hx hb dL_law_1516 (by decide) (fun c2 => ?_) (fun c2 => ?_)
      · skip
        refine lv_goto (tgt := 1590) hx hb dL_law_1531 (by decide) ?_
        exact W.widen (k := cells + 6) (n := slots + 36) (by omega) (by omega) (next _ _ _ _ g3 ⟨hX2, hM2, ⟨_, hO2⟩, hS2⟩ ls (lv_sub hl [2, 3, 4, 5, 6] rfl))
      · exact absurd c2 hp
    · exact absurd g1 c1

set_option maxHeartbeats 4000000 in
set_option maxRecDepth 100000 in
theorem K_exact {p : Program} {l : Launch} {e : Env} {s : State} {m : MethodId} {below : List Frame} {meth : Method} {c : Code} {H : Heap} {locs : List Loc} {cells slots : Nat} {Q : State → Prop} {b L : Nat} {xs : Nat → Int32} {G : kG} {aX aM : Nat → Nat} {ao : Nat} (F : LFix p l s m meth c b L xs G aX aM ao) {n : Nat} (hn : 6 * n + 6 ≤ L) {σ μ : kS} (hR : RR σ μ n) (hI : LI G aX aM ao s σ μ H locs) (hc : cells + 6 ≤ room_1.cells) (hs : slots + 36 ≤ room_1.slots) (next : ∀ (σ9 μ9 : kS) (H9 : Heap) (L9 : List Loc), RR σ9 μ9 (n + 1) → LI G aX aM ao s σ9 μ9 H9 L9 → ∀ ls, lv_has ls 7 [(0, .ref b), (1, .ref (aX 0)), (2, .ref (aM 0)), (3, .ref ao), (4, .int (nI (6 * n)))] → W p l e room_1 s m #[Value.ref b] below meth c H9 L9 (cells + 6) (slots + 36) Q (F0 m 1590 ls [])) {ls : Array Slot} (hl : lv_has ls 7 [(0, .ref b), (1, .ref (aX 0)), (2, .ref (aM 0)), (3, .ref ao), (4, .int (nI (6 * n)))]) : W p l e room_1 s m #[Value.ref b] below meth c H locs cells slots Q (F0 m 1534 ls []) := by
  obtain ⟨nm, ns, N, Sz, hr⟩ := hR
  obtain ⟨hPX, hPM, ⟨f, hPO⟩, hS⟩ := hI
  have S := F.S
  have hx := S.1
  have hb := S.2.1
  have hL := F.hL
  have hXX : PX G aX σ s H := ⟨hPX, F.hK⟩
  have hMM : PM G aM μ s H := ⟨hPM, F.hK⟩
  refine lv_aload_n hx hb dL_law_1534 rfl (lv_at hl 1 rfl) ?_
  refine lv_aload_n hx hb dL_law_1535 rfl (lv_at hl 0 rfl) ?_
  refine lv_iload hx hb dL_law_1536 (lv_at hl 4 rfl) ?_
  refine lv_iconst (v := 1) hx hb dL_law_1538 (by decide) ?_
  refine lv_iadd hx hb dL_law_1539 ?_
  refine k_eq (y := nI (6 * n + 1)) (nI_add (6 * n) 1) ?_
  refine k_sld F hS (k := 6 * n + 1) (by omega) dL_law_1540 ?_
  refine lv_aload_n hx hb dL_law_1541 rfl (lv_at hl 3 rfl) ?_
  refine q_lh (rx_SX S ⟨m_562, m_563, m_34, m_564⟩ ⟨rfl, by decide, by decide, by decide +kernel⟩ (cL_exact_c l G aX σ nm ns (xs (6 * n + 1)) F.hst ((hr.eq 18 0 (by decide)).trans hr.hns) hr.hns4 ((hr.eq 17 0 (by decide)).trans hr.hnm) hr.hnm2 ao f (AX aX) F.dX F.xo) ⟨rfl, rfl, Nat.le_of_ble_eq_true rfl, Nat.le_of_ble_eq_true rfl⟩ (ps bl_PL (fun U hU hW => by show PX G aX σ U U.heap ∧ ZS U U.heap ∧ va_P G.1 vwCl (wO G ao f) U.heap; rw [hU]; exact ⟨hXX.warm hW, (F.zs hS).warm hW, hPO⟩)) (n := 3) (As := [.ref (aX 0), .int (xs (6 * n + 1)), .ref ao]) (rest := []) rfl hl.1 rfl (Nat.le_of_ble_eq_true rfl) ⟨Nat.le_trans (by omega) hc, Nat.le_trans (by omega) hs⟩ dL_law_1542) hS (fun q hq => hq.elim (F.nX q) (fun h9 => by rw [h9]; exact F.nO)) (fun r f1 H1 L1 hO1 hd f9 hS1 => ?_)
  have hM1 : PM G aM μ s H1 := ⟨F.keepM hPM f9, F.hK⟩
  obtain ⟨op1, op2⟩ := op_exact hr (by omega) (xs (6 * n + 1))
  refine lv_istore (lv' := [(5, .int r), (0, .ref b), (1, .ref (aX 0)), (2, .ref (aM 0)), (3, .ref ao), (4, .int (nI (6 * n)))]) hx hb dL_law_1545 hl (by decide) rfl (fun ls hl => ?_)
  refine lv_aload_n hx hb dL_law_1547 rfl (lv_at hl 3 rfl) ?_
  refine lv_aload_n hx hb dL_law_1548 rfl (lv_at hl 1 rfl) ?_
  refine lv_iload hx hb dL_law_1549 (lv_at hl 5 rfl) ?_
  refine lv_iconst (v := 1) hx hb dL_law_1551 (by decide) ?_
  refine lv_iadd hx hb dL_law_1552 ?_
  refine k_eq (y := nI (6 * n + 1)) (nI_add (6 * n) 1) ?_
  refine k_sld F hS1 (k := 6 * n + 1) (by omega) dL_law_1553 ?_
  refine q_w (r_V S ⟨m_795, m_796, m_797, m_40, m_798⟩ ⟨rfl, by decide, by decide, by decide +kernel⟩ (c4_exact l G aM μ nm ns (xs (6 * n + 1)) hr.hns hr.hns4 hr.hnm hr.hnm2 (AM aM) F.dM) ⟨rfl, rfl, Nat.le_of_ble_eq_true rfl, Nat.le_of_ble_eq_true rfl⟩ (pv_M hM1 bl_PM (bM hM1)) (n := 1) (As := [.int (xs (6 * n + 1))]) (rest := []) rfl hl.1 rfl (Nat.le_of_ble_eq_true rfl) ⟨Nat.le_trans (by omega) hc, Nat.le_trans (by omega) hs⟩ dL_law_1554) hS1 F.nM (fun b9 H2 L2 hb9 hM2 _ f10 hS2 => ?_)
  subst hb9
  have hO2 := F.keepO hO1 f10
  have hMM2 : PM G aM (sM (ckR (xs (6 * n + 1)) 0 2, true, true) μ (fun κ => κ)) s H2 := ⟨hM2, F.hK⟩
  refine lv_istore (lv' := [(6, .int (vM (ckR (xs (6 * n + 1)) 0 2, true, true) (xvM (su μ 23 0 0) ns (xs (6 * n + 1))))), (5, .int r), (0, .ref b), (1, .ref (aX 0)), (2, .ref (aM 0)), (3, .ref ao), (4, .int (nI (6 * n)))]) hx hb dL_law_1557 hl (by decide) rfl (fun ls hl => ?_)
  refine lv_aload_n hx hb dL_law_1559 rfl (lv_at hl 4 rfl) ?_
  refine q_i (r_V S ⟨m_636, m_637, m_638, m_40, m_639⟩ ⟨rfl, by decide, by decide, by decide +kernel⟩ (c4_thrown l G aM (sM (ckR (xs (6 * n + 1)) 0 2, true, true) μ (fun κ => κ))) ⟨rfl, rfl, Nat.le_of_ble_eq_true rfl, Nat.le_of_ble_eq_true rfl⟩ (pv_M hMM2 bl_PM (bM hMM2)) (n := 0) (As := []) (rest := []) rfl hl.1 rfl (Nat.le_of_ble_eq_true rfl) ⟨Nat.le_trans (by omega) hc, Nat.le_trans (by omega) hs⟩ dL_law_1560) (fun t9 ht9 => ?_)
  subst ht9
  refine lv_iload hx hb dL_law_1563 (lv_at hl 1 rfl) ?_
  rcases hd with ⟨hE, hr0, hf0, hX1⟩ | ⟨hE, hr0, hX1⟩
  · obtain ⟨g1, g2, g3⟩ := op1 hE
    subst hr0
    have hX2 := F.keepX hX1 f10
    refine lv_icmp_eq (tgt := 1570) hx hb dL_law_1565 (by decide) (fun c1 => ?_) (fun c1 => ?_)
    · refine lv_iload hx hb dL_law_1570 (lv_at hl 1 rfl) ?_
      refine lv_if_ne (tgt := 1587) hx hb dL_law_1572 (by decide) (fun c2 => ?_) (fun c2 => ?_)
      · exact absurd rfl c2
      · refine lv_aload_n hx hb dL_law_1575 rfl (lv_at hl 5 rfl) ?_
        refine lv_iconst (v := 0) hx hb dL_law_1576 (by decide) ?_
        refine va_lald (D := G.1) hx hb F.hK.1 hO2 0 2 rfl rfl (vp_in_nI (n := 0) (N := 1) (by decide) (by decide)) dL_law_1577 ?_
        refine lv_iload hx hb dL_law_1578 (lv_at hl 0 rfl) ?_
        refine lv_i2l (v := (vM (ckR (xs (6 * n + 1)) 0 2, true, true) (xvM (su μ 23 0 0) ns (xs (6 * n + 1))) : Int32).toInt64) hx hb dL_law_1580 rfl ?_
        refine W.lcmp hx hb dL_law_1581 ?_
        refine k_eq (y := 0) (lcmp_ne (hf0.trans g2)) ?_
        refine lv_if_eq (tgt := 1587) hx hb dL_law_1582 (by decide) (fun c7 => ?_) (fun c7 => ?_)
        · skip
          refine lv_goto (tgt := 1590) hx hb dL_law_1587 (by decide) ?_
          exact W.widen (k := cells + 6) (n := slots + 36) (by omega) (by omega) (next _ _ _ _ g3 ⟨hX2, hM2, ⟨_, hO2⟩, hS2⟩ ls (lv_sub hl [2, 3, 4, 5, 6] rfl))
        · exact absurd rfl c7
    · exact absurd g1 c1
  · obtain ⟨g1, g3⟩ := op2 hE
    subst hr0
    have hp : (if eX_one (xs (6 * n + 1)) 3 = 1 then 1 else 2 : Int32) ≠ 0 := by (repeat' split) <;> decide
    have hX2 := F.keepX hX1 f10
    refine lv_icmp_eq (tgt := 1570) hx hb dL_law_1565 (by decide) (fun c1 => ?_) (fun c1 => ?_)
    · refine lv_iload hx hb dL_law_1570 (lv_at hl 1 rfl) ?_
      refine lv_if_ne (tgt := 1587) hx hb dL_law_1572 (by decide) (fun c2 => ?_) (fun c2 => ?_)
      · skip
        refine lv_goto (tgt := 1590) hx hb dL_law_1587 (by decide) ?_
        exact W.widen (k := cells + 6) (n := slots + 36) (by omega) (by omega) (next _ _ _ _ g3 ⟨hX2, hM2, ⟨_, hO2⟩, hS2⟩ ls (lv_sub hl [2, 3, 4, 5, 6] rfl))
      · exact absurd c2 hp
    · exact absurd g1 c1
