set_option maxHeartbeats 4000000 in
set_option maxRecDepth 100000 in
theorem K_setPrice {p : Program} {l : Launch} {e : Env} {s : State} {m : MethodId} {below : List Frame} {meth : Method} {c : Code} {H : Heap} {locs : List Loc} {cells slots : Nat} {Q : State → Prop} {b L : Nat} {xs : Nat → Int32} {G : kG} {aX aM : Nat → Nat} {ao : Nat} (F : LFix p l s m meth c b L xs G aX aM ao) {n : Nat} (hn : 6 * n + 6 ≤ L) {σ μ : kS} (hR : RR σ μ n) (hI : LI G aX aM ao s σ μ H locs) (hc : cells + 6 ≤ room_1.cells) (hs : slots + 36 ≤ room_1.slots) (next : ∀ (σ9 μ9 : kS) (H9 : Heap) (L9 : List Loc), RR σ9 μ9 (n + 1) → LI G aX aM ao s σ9 μ9 H9 L9 → ∀ ls, lv_has ls 7 [(0, .ref b), (1, .ref (aX 0)), (2, .ref (aM 0)), (3, .ref ao), (4, .int (nI (6 * n)))] → W p l e room_1 s m #[Value.ref b] below meth c H9 L9 (cells + 6) (slots + 36) Q (F0 m 1590 ls [])) {ls : Array Slot} (hl : lv_has ls 7 [(0, .ref b), (1, .ref (aX 0)), (2, .ref (aM 0)), (3, .ref ao), (4, .int (nI (6 * n)))]) : W p l e room_1 s m #[Value.ref b] below meth c H locs cells slots Q (F0 m 152 ls []) := by
  obtain ⟨nm, ns, N, Sz, hr⟩ := hR
  obtain ⟨hPX, hPM, ⟨f, hPO⟩, hS⟩ := hI
  have S := F.S
  have hx := S.1
  have hb := S.2.1
  have hL := F.hL
  have hXX : PX G aX σ s H := ⟨hPX, F.hK⟩
  have hMM : PM G aM μ s H := ⟨hPM, F.hK⟩
  refine lv_aload_n hx hb dL_law_152 rfl (lv_at hl 1 rfl) ?_
  refine lv_aload_n hx hb dL_law_153 rfl (lv_at hl 0 rfl) ?_
  refine lv_iload hx hb dL_law_154 (lv_at hl 4 rfl) ?_
  refine lv_iconst (v := 1) hx hb dL_law_156 (by decide) ?_
  refine lv_iadd hx hb dL_law_157 ?_
  refine k_eq (y := nI (6 * n + 1)) (nI_add (6 * n) 1) ?_
  refine k_sld F hS (k := 6 * n + 1) (by omega) dL_law_158 ?_
  refine lv_aload_n hx hb dL_law_159 rfl (lv_at hl 0 rfl) ?_
  refine lv_iload hx hb dL_law_160 (lv_at hl 4 rfl) ?_
  refine lv_iconst (v := 2) hx hb dL_law_162 (by decide) ?_
  refine lv_iadd hx hb dL_law_163 ?_
  refine k_eq (y := nI (6 * n + 2)) (nI_add (6 * n) 2) ?_
  refine k_sld F hS (k := 6 * n + 2) (by omega) dL_law_164 ?_
  refine lv_aload_n hx hb dL_law_165 rfl (lv_at hl 3 rfl) ?_
  refine q_lh (rx_SX S ⟨m_222, m_223, m_34, m_224⟩ ⟨rfl, by decide, by decide, by decide +kernel⟩ (cL_setPrice_c l G aX σ nm ns (xs (6 * n + 1)) (xs (6 * n + 2)) F.hst ((hr.eq 18 0 (by decide)).trans hr.hns) hr.hns4 ((hr.eq 17 0 (by decide)).trans hr.hnm) hr.hnm2 ao f (AX aX) F.dX F.xo) ⟨rfl, rfl, Nat.le_of_ble_eq_true rfl, Nat.le_of_ble_eq_true rfl⟩ (ps bl_PL (fun U hU hW => by show PX G aX σ U U.heap ∧ ZS U U.heap ∧ va_P G.1 vwCl (wO G ao f) U.heap; rw [hU]; exact ⟨hXX.warm hW, (F.zs hS).warm hW, hPO⟩)) (n := 4) (As := [.ref (aX 0), .int (xs (6 * n + 1)), .int (xs (6 * n + 2)), .ref ao]) (rest := []) rfl hl.1 rfl (Nat.le_of_ble_eq_true rfl) ⟨Nat.le_trans (by omega) hc, Nat.le_trans (by omega) hs⟩ dL_law_166) hS (fun q hq => hq.elim (F.nX q) (fun h9 => by rw [h9]; exact F.nO)) (fun r f1 H1 L1 hO1 hd f9 hS1 => ?_)
  have hM1 : PM G aM μ s H1 := ⟨F.keepM hPM f9, F.hK⟩
  obtain ⟨op1, op2⟩ := op_setPrice hr (xs (6 * n + 1)) (xs (6 * n + 2))
  refine lv_istore (lv' := [(5, .int r), (0, .ref b), (1, .ref (aX 0)), (2, .ref (aM 0)), (3, .ref ao), (4, .int (nI (6 * n)))]) hx hb dL_law_169 hl (by decide) rfl (fun ls hl => ?_)
  refine lv_aload_n hx hb dL_law_171 rfl (lv_at hl 3 rfl) ?_
  refine lv_aload_n hx hb dL_law_172 rfl (lv_at hl 1 rfl) ?_
  refine lv_iload hx hb dL_law_173 (lv_at hl 5 rfl) ?_
  refine lv_iconst (v := 1) hx hb dL_law_175 (by decide) ?_
  refine lv_iadd hx hb dL_law_176 ?_
  refine k_eq (y := nI (6 * n + 1)) (nI_add (6 * n) 1) ?_
  refine k_sld F hS1 (k := 6 * n + 1) (by omega) dL_law_177 ?_
  refine lv_aload_n hx hb dL_law_178 rfl (lv_at hl 1 rfl) ?_
  refine lv_iload hx hb dL_law_179 (lv_at hl 5 rfl) ?_
  refine lv_iconst (v := 2) hx hb dL_law_181 (by decide) ?_
  refine lv_iadd hx hb dL_law_182 ?_
  refine k_eq (y := nI (6 * n + 2)) (nI_add (6 * n) 2) ?_
  refine k_sld F hS1 (k := 6 * n + 2) (by omega) dL_law_183 ?_
  refine q_w (r_V S ⟨m_640, m_641, m_642, m_40, m_643⟩ ⟨rfl, by decide, by decide, by decide +kernel⟩ (c4_setPrice l G aM μ nm ns (xs (6 * n + 1)) (xs (6 * n + 2)) hr.hns hr.hns4 hr.hnm hr.hnm2 (AM aM) F.dM) ⟨rfl, rfl, Nat.le_of_ble_eq_true rfl, Nat.le_of_ble_eq_true rfl⟩ (pv_M hM1 bl_PM (bM hM1)) (n := 2) (As := [.int (xs (6 * n + 1)), .int (xs (6 * n + 2))]) (rest := []) rfl hl.1 rfl (Nat.le_of_ble_eq_true rfl) ⟨Nat.le_trans (by omega) hc, Nat.le_trans (by omega) hs⟩ dL_law_184) hS1 F.nM (fun b9 H2 L2 hb9 hM2 _ f10 hS2 => ?_)
  subst hb9
  have hO2 := F.keepO hO1 f10
  have hMM2 : PM G aM (sM (ckR (xs (6 * n + 1)) 0 4, ckR (xs (6 * n + 2)) 0 1000, true) μ (fun κ => su κ 0 (ixN (xs (6 * n + 1))) (xs (6 * n + 2)))) s H2 := ⟨hM2, F.hK⟩
  refine lv_istore (lv' := [(6, .int (vM (ckR (xs (6 * n + 1)) 0 4, ckR (xs (6 * n + 2)) 0 1000, true) (μ 0 (ixN (xs (6 * n + 1)))))), (5, .int r), (0, .ref b), (1, .ref (aX 0)), (2, .ref (aM 0)), (3, .ref ao), (4, .int (nI (6 * n)))]) hx hb dL_law_187 hl (by decide) rfl (fun ls hl => ?_)
  refine lv_aload_n hx hb dL_law_189 rfl (lv_at hl 4 rfl) ?_
  refine q_i (r_V S ⟨m_636, m_637, m_638, m_40, m_639⟩ ⟨rfl, by decide, by decide, by decide +kernel⟩ (c4_thrown l G aM (sM (ckR (xs (6 * n + 1)) 0 4, ckR (xs (6 * n + 2)) 0 1000, true) μ (fun κ => su κ 0 (ixN (xs (6 * n + 1))) (xs (6 * n + 2))))) ⟨rfl, rfl, Nat.le_of_ble_eq_true rfl, Nat.le_of_ble_eq_true rfl⟩ (pv_M hMM2 bl_PM (bM hMM2)) (n := 0) (As := []) (rest := []) rfl hl.1 rfl (Nat.le_of_ble_eq_true rfl) ⟨Nat.le_trans (by omega) hc, Nat.le_trans (by omega) hs⟩ dL_law_190) (fun t9 ht9 => ?_)
  subst ht9
  refine lv_iload hx hb dL_law_193 (lv_at hl 1 rfl) ?_
  rcases hd with ⟨hE, hr0, hf0, hX1⟩ | ⟨hE, hr0, hX1⟩
  · obtain ⟨g1, g2, g3⟩ := op1 hE
    subst hr0
    have hX2 := F.keepX hX1 f10
    refine lv_icmp_eq (tgt := 200) hx hb dL_law_195 (by decide) (fun c1 => ?_) (fun c1 => ?_)
    · refine lv_iload hx hb dL_law_200 (lv_at hl 1 rfl) ?_
      refine lv_if_ne (tgt := 217) hx hb dL_law_202 (by decide) (fun c2 => ?_) (fun c2 => ?_)
      · exact absurd rfl c2
      · refine lv_aload_n hx hb dL_law_205 rfl (lv_at hl 5 rfl) ?_
        refine lv_iconst (v := 0) hx hb dL_law_206 (by decide) ?_
        refine va_lald (D := G.1) hx hb F.hK.1 hO2 0 2 rfl rfl (vp_in_nI (n := 0) (N := 1) (by decide) (by decide)) dL_law_207 ?_
        refine lv_iload hx hb dL_law_208 (lv_at hl 0 rfl) ?_
        refine lv_i2l (v := (vM (ckR (xs (6 * n + 1)) 0 4, ckR (xs (6 * n + 2)) 0 1000, true) (μ 0 (ixN (xs (6 * n + 1)))) : Int32).toInt64) hx hb dL_law_210 rfl ?_
        refine W.lcmp hx hb dL_law_211 ?_
        refine k_eq (y := 0) (lcmp_ne (hf0.trans g2)) ?_
        refine lv_if_eq (tgt := 217) hx hb dL_law_212 (by decide) (fun c7 => ?_) (fun c7 => ?_)
        · skip
          refine lv_goto (tgt := 1590) hx hb dL_law_217 (by decide) ?_
          exact W.widen (k := cells + 6) (n := slots + 36) (by omega) (by omega) (next _ _ _ _ g3 ⟨hX2, hM2, ⟨_, hO2⟩, hS2⟩ ls (lv_sub hl [2, 3, 4, 5, 6] rfl))
        · exact absurd rfl c7
    · exact absurd g1 c1
  · obtain ⟨g1, g3⟩ := op2 hE
    subst hr0
    have hp : (if eX_setPrice (xs (6 * n + 1)) (xs (6 * n + 2)) = 1 then 1 else if eX_setPrice (xs (6 * n + 1)) (xs (6 * n + 2)) = 2 then 2 else 3 : Int32) ≠ 0 := by (repeat' split) <;> decide
    have hX2 := F.keepX hX1 f10
    refine lv_icmp_eq (tgt := 200) hx hb dL_law_195 (by decide) (fun c1 => ?_) (fun c1 => ?_)
    · refine lv_iload hx hb dL_law_200 (lv_at hl 1 rfl) ?_
      refine lv_if_ne (tgt := 217) hx hb dL_law_202 (by decide) (fun c2 => ?_) (fun c2 => ?_)
      · skip
        refine lv_goto (tgt := 1590) hx hb dL_law_217 (by decide) ?_
        exact W.widen (k := cells + 6) (n := slots + 36) (by omega) (by omega) (next _ _ _ _ g3 ⟨hX2, hM2, ⟨_, hO2⟩, hS2⟩ ls (lv_sub hl [2, 3, 4, 5, 6] rfl))
      · exact absurd c2 hp
    · exact absurd g1 c1

set_option maxHeartbeats 4000000 in
set_option maxRecDepth 100000 in
theorem K_count {p : Program} {l : Launch} {e : Env} {s : State} {m : MethodId} {below : List Frame} {meth : Method} {c : Code} {H : Heap} {locs : List Loc} {cells slots : Nat} {Q : State → Prop} {b L : Nat} {xs : Nat → Int32} {G : kG} {aX aM : Nat → Nat} {ao : Nat} (F : LFix p l s m meth c b L xs G aX aM ao) {n : Nat} (hn : 6 * n + 6 ≤ L) {σ μ : kS} (hR : RR σ μ n) (hI : LI G aX aM ao s σ μ H locs) (hc : cells + 6 ≤ room_1.cells) (hs : slots + 36 ≤ room_1.slots) (next : ∀ (σ9 μ9 : kS) (H9 : Heap) (L9 : List Loc), RR σ9 μ9 (n + 1) → LI G aX aM ao s σ9 μ9 H9 L9 → ∀ ls, lv_has ls 7 [(0, .ref b), (1, .ref (aX 0)), (2, .ref (aM 0)), (3, .ref ao), (4, .int (nI (6 * n)))] → W p l e room_1 s m #[Value.ref b] below meth c H9 L9 (cells + 6) (slots + 36) Q (F0 m 1590 ls [])) {ls : Array Slot} (hl : lv_has ls 7 [(0, .ref b), (1, .ref (aX 0)), (2, .ref (aM 0)), (3, .ref ao), (4, .int (nI (6 * n)))]) : W p l e room_1 s m #[Value.ref b] below meth c H locs cells slots Q (F0 m 504 ls []) := by
  obtain ⟨nm, ns, N, Sz, hr⟩ := hR
  obtain ⟨hPX, hPM, ⟨f, hPO⟩, hS⟩ := hI
  have S := F.S
  have hx := S.1
  have hb := S.2.1
  have hL := F.hL
  have hXX : PX G aX σ s H := ⟨hPX, F.hK⟩
  have hMM : PM G aM μ s H := ⟨hPM, F.hK⟩
  refine lv_aload_n hx hb dL_law_504 rfl (lv_at hl 1 rfl) ?_
  refine lv_aload_n hx hb dL_law_505 rfl (lv_at hl 0 rfl) ?_
  refine lv_iload hx hb dL_law_506 (lv_at hl 4 rfl) ?_
  refine lv_iconst (v := 1) hx hb dL_law_508 (by decide) ?_
  refine lv_iadd hx hb dL_law_509 ?_
  refine k_eq (y := nI (6 * n + 1)) (nI_add (6 * n) 1) ?_
  refine k_sld F hS (k := 6 * n + 1) (by omega) dL_law_510 ?_
  refine lv_aload_n hx hb dL_law_511 rfl (lv_at hl 0 rfl) ?_
  refine lv_iload hx hb dL_law_512 (lv_at hl 4 rfl) ?_
  refine lv_iconst (v := 2) hx hb dL_law_514 (by decide) ?_
  refine lv_iadd hx hb dL_law_515 ?_
  refine k_eq (y := nI (6 * n + 2)) (nI_add (6 * n) 2) ?_
  refine k_sld F hS (k := 6 * n + 2) (by omega) dL_law_516 ?_
  refine lv_aload_n hx hb dL_law_517 rfl (lv_at hl 0 rfl) ?_
  refine lv_iload hx hb dL_law_518 (lv_at hl 4 rfl) ?_
  refine lv_iconst (v := 3) hx hb dL_law_520 (by decide) ?_
  refine lv_iadd hx hb dL_law_521 ?_
  refine k_eq (y := nI (6 * n + 3)) (nI_add (6 * n) 3) ?_
  refine k_sld F hS (k := 6 * n + 3) (by omega) dL_law_522 ?_
  refine lv_aload_n hx hb dL_law_523 rfl (lv_at hl 0 rfl) ?_
  refine lv_iload hx hb dL_law_524 (lv_at hl 4 rfl) ?_
  refine lv_iconst (v := 4) hx hb dL_law_526 (by decide) ?_
  refine lv_iadd hx hb dL_law_527 ?_
  refine k_eq (y := nI (6 * n + 4)) (nI_add (6 * n) 4) ?_
  refine k_sld F hS (k := 6 * n + 4) (by omega) dL_law_528 ?_
  refine lv_aload_n hx hb dL_law_529 rfl (lv_at hl 3 rfl) ?_
  refine q_lh (rx_SX S ⟨m_382, m_383, m_34, m_384⟩ ⟨rfl, by decide, by decide, by decide +kernel⟩ (cL_count_c l G aX σ nm ns (xs (6 * n + 1)) (xs (6 * n + 2)) (xs (6 * n + 3)) (xs (6 * n + 4)) F.hst ((hr.eq 18 0 (by decide)).trans hr.hns) hr.hns4 ((hr.eq 17 0 (by decide)).trans hr.hnm) hr.hnm2 ao f (AX aX) F.dX F.xo) ⟨rfl, rfl, Nat.le_of_ble_eq_true rfl, Nat.le_of_ble_eq_true rfl⟩ (ps bl_PL (fun U hU hW => by show PX G aX σ U U.heap ∧ ZS U U.heap ∧ va_P G.1 vwCl (wO G ao f) U.heap; rw [hU]; exact ⟨hXX.warm hW, (F.zs hS).warm hW, hPO⟩)) (n := 6) (As := [.ref (aX 0), .int (xs (6 * n + 1)), .int (xs (6 * n + 2)), .int (xs (6 * n + 3)), .int (xs (6 * n + 4)), .ref ao]) (rest := []) rfl hl.1 rfl (Nat.le_of_ble_eq_true rfl) ⟨Nat.le_trans (by omega) hc, Nat.le_trans (by omega) hs⟩ dL_law_530) hS (fun q hq => hq.elim (F.nX q) (fun h9 => by rw [h9]; exact F.nO)) (fun r f1 H1 L1 hO1 hd f9 hS1 => ?_)
  have hM1 : PM G aM μ s H1 := ⟨F.keepM hPM f9, F.hK⟩
  obtain ⟨op1, op2⟩ := op_count hr (xs (6 * n + 1)) (xs (6 * n + 2)) (xs (6 * n + 3)) (xs (6 * n + 4))
  refine lv_istore (lv' := [(5, .int r), (0, .ref b), (1, .ref (aX 0)), (2, .ref (aM 0)), (3, .ref ao), (4, .int (nI (6 * n)))]) hx hb dL_law_533 hl (by decide) rfl (fun ls hl => ?_)
  refine lv_aload_n hx hb dL_law_535 rfl (lv_at hl 3 rfl) ?_
  refine lv_aload_n hx hb dL_law_536 rfl (lv_at hl 1 rfl) ?_
  refine lv_iload hx hb dL_law_537 (lv_at hl 5 rfl) ?_
  refine lv_iconst (v := 1) hx hb dL_law_539 (by decide) ?_
  refine lv_iadd hx hb dL_law_540 ?_
  refine k_eq (y := nI (6 * n + 1)) (nI_add (6 * n) 1) ?_
  refine k_sld F hS1 (k := 6 * n + 1) (by omega) dL_law_541 ?_
  refine lv_aload_n hx hb dL_law_542 rfl (lv_at hl 1 rfl) ?_
  refine lv_iload hx hb dL_law_543 (lv_at hl 5 rfl) ?_
  refine lv_iconst (v := 2) hx hb dL_law_545 (by decide) ?_
  refine lv_iadd hx hb dL_law_546 ?_
  refine k_eq (y := nI (6 * n + 2)) (nI_add (6 * n) 2) ?_
  refine k_sld F hS1 (k := 6 * n + 2) (by omega) dL_law_547 ?_
  refine lv_aload_n hx hb dL_law_548 rfl (lv_at hl 1 rfl) ?_
  refine lv_iload hx hb dL_law_549 (lv_at hl 5 rfl) ?_
  refine lv_iconst (v := 3) hx hb dL_law_551 (by decide) ?_
  refine lv_iadd hx hb dL_law_552 ?_
  refine k_eq (y := nI (6 * n + 3)) (nI_add (6 * n) 3) ?_
  refine k_sld F hS1 (k := 6 * n + 3) (by omega) dL_law_553 ?_
  refine lv_aload_n hx hb dL_law_554 rfl (lv_at hl 1 rfl) ?_
  refine lv_iload hx hb dL_law_555 (lv_at hl 5 rfl) ?_
  refine lv_iconst (v := 4) hx hb dL_law_557 (by decide) ?_
  refine lv_iadd hx hb dL_law_558 ?_
  refine k_eq (y := nI (6 * n + 4)) (nI_add (6 * n) 4) ?_
  refine k_sld F hS1 (k := 6 * n + 4) (by omega) dL_law_559 ?_
  refine q_w (r_V S ⟨m_678, m_679, m_680, m_40, m_681⟩ ⟨rfl, by decide, by decide, by decide +kernel⟩ (c4_count l G aM μ nm ns (xs (6 * n + 1)) (xs (6 * n + 2)) (xs (6 * n + 3)) (xs (6 * n + 4)) hr.hns hr.hns4 hr.hnm hr.hnm2 (fun k hk => by obtain ⟨c9, _, h1, _, h2, _⟩ := hr.ln k hk; exact ⟨c9, h1, h2⟩) (fun k _ => by obtain ⟨z, h1, h2⟩ := hr.cq k; rw [h1]; exact nI_nm1 z (by omega)) (AM aM) F.dM) ⟨rfl, rfl, Nat.le_of_ble_eq_true rfl, Nat.le_of_ble_eq_true rfl⟩ (pv_M hM1 bl_PM (bM hM1)) (n := 4) (As := [.int (xs (6 * n + 1)), .int (xs (6 * n + 2)), .int (xs (6 * n + 3)), .int (xs (6 * n + 4))]) (rest := []) rfl hl.1 rfl (Nat.le_of_ble_eq_true rfl) ⟨Nat.le_trans (by omega) hc, Nat.le_trans (by omega) hs⟩ dL_law_560) hS1 F.nM (fun b9 H2 L2 hb9 hM2 _ f10 hS2 => ?_)
  subst hb9
  have hO2 := F.keepO hO1 f10
  have hMM2 : PM G aM (sM (ckR (xs (6 * n + 1)) 0 (μ 18 0 - 1) && ckR (xs (6 * n + 2)) 0 5 && ckR (xs (6 * n + 3)) 0 4, ckR (xs (6 * n + 4)) 0 100000, ckR (xs (6 * n + 1)) 0 (μ 18 0 - 1) && ckR (xs (6 * n + 2)) 0 5 && ckR (xs (6 * n + 3)) 0 4 && (decide (μ 9 (ixN (xs (6 * n + 1))) = 0) && !hcM μ (lnN (xs (6 * n + 1)) (xs (6 * n + 3))) (xs (6 * n + 2)) (ixN (μ 20 (lnN (xs (6 * n + 1)) (xs (6 * n + 3))))) && decide (agM μ (lnN (xs (6 * n + 1)) (xs (6 * n + 3))) = -1))) μ (fun κ => coM κ (lnN (xs (6 * n + 1)) (xs (6 * n + 3))) (xs (6 * n + 2)) (xs (6 * n + 4)))) s H2 := ⟨hM2, F.hK⟩
  refine lv_istore (lv' := [(6, .int (vM (ckR (xs (6 * n + 1)) 0 (μ 18 0 - 1) && ckR (xs (6 * n + 2)) 0 5 && ckR (xs (6 * n + 3)) 0 4, ckR (xs (6 * n + 4)) 0 100000, ckR (xs (6 * n + 1)) 0 (μ 18 0 - 1) && ckR (xs (6 * n + 2)) 0 5 && ckR (xs (6 * n + 3)) 0 4 && (decide (μ 9 (ixN (xs (6 * n + 1))) = 0) && !hcM μ (lnN (xs (6 * n + 1)) (xs (6 * n + 3))) (xs (6 * n + 2)) (ixN (μ 20 (lnN (xs (6 * n + 1)) (xs (6 * n + 3))))) && decide (agM μ (lnN (xs (6 * n + 1)) (xs (6 * n + 3))) = -1))) (bI (grM (sM (ckR (xs (6 * n + 1)) 0 (μ 18 0 - 1) && ckR (xs (6 * n + 2)) 0 5 && ckR (xs (6 * n + 3)) 0 4, ckR (xs (6 * n + 4)) 0 100000, ckR (xs (6 * n + 1)) 0 (μ 18 0 - 1) && ckR (xs (6 * n + 2)) 0 5 && ckR (xs (6 * n + 3)) 0 4 && (decide (μ 9 (ixN (xs (6 * n + 1))) = 0) && !hcM μ (lnN (xs (6 * n + 1)) (xs (6 * n + 3))) (xs (6 * n + 2)) (ixN (μ 20 (lnN (xs (6 * n + 1)) (xs (6 * n + 3))))) && decide (agM μ (lnN (xs (6 * n + 1)) (xs (6 * n + 3))) = -1))) μ (fun κ => coM κ (lnN (xs (6 * n + 1)) (xs (6 * n + 3))) (xs (6 * n + 2)) (xs (6 * n + 4)))) (lnN (xs (6 * n + 1)) (xs (6 * n + 3))))))), (5, .int r), (0, .ref b), (1, .ref (aX 0)), (2, .ref (aM 0)), (3, .ref ao), (4, .int (nI (6 * n)))]) hx hb dL_law_563 hl (by decide) rfl (fun ls hl => ?_)
  refine lv_aload_n hx hb dL_law_565 rfl (lv_at hl 4 rfl) ?_
  refine q_i (r_V S ⟨m_636, m_637, m_638, m_40, m_639⟩ ⟨rfl, by decide, by decide, by decide +kernel⟩ (c4_thrown l G aM (sM (ckR (xs (6 * n + 1)) 0 (μ 18 0 - 1) && ckR (xs (6 * n + 2)) 0 5 && ckR (xs (6 * n + 3)) 0 4, ckR (xs (6 * n + 4)) 0 100000, ckR (xs (6 * n + 1)) 0 (μ 18 0 - 1) && ckR (xs (6 * n + 2)) 0 5 && ckR (xs (6 * n + 3)) 0 4 && (decide (μ 9 (ixN (xs (6 * n + 1))) = 0) && !hcM μ (lnN (xs (6 * n + 1)) (xs (6 * n + 3))) (xs (6 * n + 2)) (ixN (μ 20 (lnN (xs (6 * n + 1)) (xs (6 * n + 3))))) && decide (agM μ (lnN (xs (6 * n + 1)) (xs (6 * n + 3))) = -1))) μ (fun κ => coM κ (lnN (xs (6 * n + 1)) (xs (6 * n + 3))) (xs (6 * n + 2)) (xs (6 * n + 4))))) ⟨rfl, rfl, Nat.le_of_ble_eq_true rfl, Nat.le_of_ble_eq_true rfl⟩ (pv_M hMM2 bl_PM (bM hMM2)) (n := 0) (As := []) (rest := []) rfl hl.1 rfl (Nat.le_of_ble_eq_true rfl) ⟨Nat.le_trans (by omega) hc, Nat.le_trans (by omega) hs⟩ dL_law_566) (fun t9 ht9 => ?_)
  subst ht9
  refine lv_iload hx hb dL_law_569 (lv_at hl 1 rfl) ?_
  rcases hd with ⟨hE, hr0, hf0, hX1⟩ | ⟨hE, hr0, hX1⟩
  · obtain ⟨g1, g2, g3⟩ := op1 hE
    subst hr0
    have hX2 := F.keepX hX1 f10
    refine lv_icmp_eq (tgt := 576) hx hb dL_law_571 (by decide) (fun c1 => ?_) (fun c1 => ?_)
    · refine lv_iload hx hb dL_law_576 (lv_at hl 1 rfl) ?_
      refine lv_if_ne (tgt := 600) hx hb dL_law_578 (by decide) (fun c2 => ?_) (fun c2 => ?_)
      · exact absurd rfl c2
      · refine lv_aload_n hx hb dL_law_581 rfl (lv_at hl 5 rfl) ?_
        refine lv_iconst (v := 0) hx hb dL_law_582 (by decide) ?_
        refine va_lald (D := G.1) hx hb F.hK.1 hO2 0 2 rfl rfl (vp_in_nI (n := 0) (N := 1) (by decide) (by decide)) dL_law_583 ?_
        refine lv_iload hx hb dL_law_584 (lv_at hl 0 rfl) ?_
        refine lv_if_eq (tgt := 593) hx hb dL_law_586 (by decide) (fun c5 => ?_) (fun c5 => ?_)
        · refine lv_lconst (v := 0) hx hb dL_law_593 (by decide) ?_
          refine W.lcmp hx hb dL_law_594 ?_
          refine k_eq (y := 0) (lcmp_ne (hf0.trans (g2.trans (if_pos c5)))) ?_
          refine lv_if_eq (tgt := 600) hx hb dL_law_595 (by decide) (fun c7 => ?_) (fun c7 => ?_)
          · skip
            refine lv_goto (tgt := 1590) hx hb dL_law_600 (by decide) ?_
            exact W.widen (k := cells + 6) (n := slots + 36) (by omega) (by omega) (next _ _ _ _ g3 ⟨hX2, hM2, ⟨_, hO2⟩, hS2⟩ ls (lv_sub hl [2, 3, 4, 5, 6] rfl))
          · exact absurd rfl c7
        · refine lv_lconst (v := 1) hx hb dL_law_589 (by decide) ?_
          refine lv_goto (tgt := 594) hx hb dL_law_590 (by decide) ?_
          refine W.lcmp hx hb dL_law_594 ?_
          refine k_eq (y := 0) (lcmp_ne (hf0.trans (g2.trans (if_neg c5)))) ?_
          refine lv_if_eq (tgt := 600) hx hb dL_law_595 (by decide) (fun c7 => ?_) (fun c7 => ?_)
          · skip
            refine lv_goto (tgt := 1590) hx hb dL_law_600 (by decide) ?_
            exact W.widen (k := cells + 6) (n := slots + 36) (by omega) (by omega) (next _ _ _ _ g3 ⟨hX2, hM2, ⟨_, hO2⟩, hS2⟩ ls (lv_sub hl [2, 3, 4, 5, 6] rfl))
          · exact absurd rfl c7
    · exact absurd g1 c1
  · obtain ⟨g1, g3⟩ := op2 hE
    subst hr0
    have hp : (if eX_count σ (xs (6 * n + 1)) (xs (6 * n + 2)) (xs (6 * n + 3)) (xs (6 * n + 4)) = 1 then 1 else if eX_count σ (xs (6 * n + 1)) (xs (6 * n + 2)) (xs (6 * n + 3)) (xs (6 * n + 4)) = 2 then 2 else 3 : Int32) ≠ 0 := by (repeat' split) <;> decide
    have hX2 := F.keepX hX1 f10
    refine lv_icmp_eq (tgt := 576) hx hb dL_law_571 (by decide) (fun c1 => ?_) (fun c1 => ?_)
    · refine lv_iload hx hb dL_law_576 (lv_at hl 1 rfl) ?_
      refine lv_if_ne (tgt := 600) hx hb dL_law_578 (by decide) (fun c2 => ?_) (fun c2 => ?_)
      · skip
        refine lv_goto (tgt := 1590) hx hb dL_law_600 (by decide) ?_
        exact W.widen (k := cells + 6) (n := slots + 36) (by omega) (by omega) (next _ _ _ _ g3 ⟨hX2, hM2, ⟨_, hO2⟩, hS2⟩ ls (lv_sub hl [2, 3, 4, 5, 6] rfl))
      · exact absurd c2 hp
    · exact absurd g1 c1

set_option maxHeartbeats 4000000 in
set_option maxRecDepth 100000 in
theorem K_now {p : Program} {l : Launch} {e : Env} {s : State} {m : MethodId} {below : List Frame} {meth : Method} {c : Code} {H : Heap} {locs : List Loc} {cells slots : Nat} {Q : State → Prop} {b L : Nat} {xs : Nat → Int32} {G : kG} {aX aM : Nat → Nat} {ao : Nat} (F : LFix p l s m meth c b L xs G aX aM ao) {n : Nat} (hn : 6 * n + 6 ≤ L) {σ μ : kS} (hR : RR σ μ n) (hI : LI G aX aM ao s σ μ H locs) (hc : cells + 6 ≤ room_1.cells) (hs : slots + 36 ≤ room_1.slots) (next : ∀ (σ9 μ9 : kS) (H9 : Heap) (L9 : List Loc), RR σ9 μ9 (n + 1) → LI G aX aM ao s σ9 μ9 H9 L9 → ∀ ls, lv_has ls 7 [(0, .ref b), (1, .ref (aX 0)), (2, .ref (aM 0)), (3, .ref ao), (4, .int (nI (6 * n)))] → W p l e room_1 s m #[Value.ref b] below meth c H9 L9 (cells + 6) (slots + 36) Q (F0 m 1590 ls [])) {ls : Array Slot} (hl : lv_has ls 7 [(0, .ref b), (1, .ref (aX 0)), (2, .ref (aM 0)), (3, .ref ao), (4, .int (nI (6 * n)))]) : W p l e room_1 s m #[Value.ref b] below meth c H locs cells slots Q (F0 m 819 ls []) := by
  obtain ⟨nm, ns, N, Sz, hr⟩ := hR
  obtain ⟨hPX, hPM, ⟨f, hPO⟩, hS⟩ := hI
  have S := F.S
  have hx := S.1
  have hb := S.2.1
  have hL := F.hL
  have hXX : PX G aX σ s H := ⟨hPX, F.hK⟩
  have hMM : PM G aM μ s H := ⟨hPM, F.hK⟩
  refine lv_aload_n hx hb dL_law_819 rfl (lv_at hl 1 rfl) ?_
  refine q_i (r_V S ⟨m_163, m_164, m_165, m_35, m_166⟩ ⟨rfl, by decide, by decide, by decide +kernel⟩ (c_now l G aX σ) ⟨rfl, rfl, Nat.le_of_ble_eq_true rfl, Nat.le_of_ble_eq_true rfl⟩ (pv_X hXX 0 rfl rfl bl_PX (bX hXX)) (n := 0) (As := []) (rest := []) rfl hl.1 rfl (Nat.le_of_ble_eq_true rfl) ⟨Nat.le_trans (by omega) hc, Nat.le_trans (by omega) hs⟩ dL_law_820) (fun r9 hr9 => ?_)
  subst hr9
  refine lv_aload_n hx hb dL_law_823 rfl (lv_at hl 2 rfl) ?_
  refine q_w (r_V S ⟨m_730, m_731, m_732, m_40, m_733⟩ ⟨rfl, by decide, by decide, by decide +kernel⟩ (c4_now l G aM μ (AM aM) F.dM) ⟨rfl, rfl, Nat.le_of_ble_eq_true rfl, Nat.le_of_ble_eq_true rfl⟩ (pv_M hMM bl_PM (bM hMM)) (n := 0) (As := []) (rest := [.int (σ 16 0)]) rfl hl.1 rfl (Nat.le_of_ble_eq_true rfl) ⟨Nat.le_trans (by omega) hc, Nat.le_trans (by omega) hs⟩ dL_law_824) hS F.nM (fun b9 H2 L2 hb9 hM2 _ f10 hS2 => ?_)
  subst hb9
  obtain ⟨g1, g3⟩ := op_now hr
  have hX2 := F.keepX hPX f10
  have hO2 := F.keepO hPO f10
  refine lv_icmp_eq (tgt := 1590) hx hb dL_law_827 (by decide) (fun c1 => ?_) (fun c1 => ?_)
  · refine lv_goto (tgt := 1590) hx hb dL_law_1590 (by decide) ?_
    exact W.widen (k := cells + 6) (n := slots + 36) (by omega) (by omega) (next _ _ _ _ g3 ⟨hX2, hM2, ⟨_, hO2⟩, hS2⟩ ls (lv_sub hl [0, 1, 2, 3, 4] rfl))
  · exact absurd g1 c1

set_option maxHeartbeats 4000000 in
set_option maxRecDepth 100000 in
theorem K_suggested {p : Program} {l : Launch} {e : Env} {s : State} {m : MethodId} {below : List Frame} {meth : Method} {c : Code} {H : Heap} {locs : List Loc} {cells slots : Nat} {Q : State → Prop} {b L : Nat} {xs : Nat → Int32} {G : kG} {aX aM : Nat → Nat} {ao : Nat} (F : LFix p l s m meth c b L xs G aX aM ao) {n : Nat} (hn : 6 * n + 6 ≤ L) {σ μ : kS} (hR : RR σ μ n) (hI : LI G aX aM ao s σ μ H locs) (hc : cells + 6 ≤ room_1.cells) (hs : slots + 36 ≤ room_1.slots) (next : ∀ (σ9 μ9 : kS) (H9 : Heap) (L9 : List Loc), RR σ9 μ9 (n + 1) → LI G aX aM ao s σ9 μ9 H9 L9 → ∀ ls, lv_has ls 7 [(0, .ref b), (1, .ref (aX 0)), (2, .ref (aM 0)), (3, .ref ao), (4, .int (nI (6 * n)))] → W p l e room_1 s m #[Value.ref b] below meth c H9 L9 (cells + 6) (slots + 36) Q (F0 m 1590 ls [])) {ls : Array Slot} (hl : lv_has ls 7 [(0, .ref b), (1, .ref (aX 0)), (2, .ref (aM 0)), (3, .ref ao), (4, .int (nI (6 * n)))]) : W p l e room_1 s m #[Value.ref b] below meth c H locs cells slots Q (F0 m 1049 ls []) := by
  obtain ⟨nm, ns, N, Sz, hr⟩ := hR
  obtain ⟨hPX, hPM, ⟨f, hPO⟩, hS⟩ := hI
  have S := F.S
  have hx := S.1
  have hb := S.2.1
  have hL := F.hL
  have hXX : PX G aX σ s H := ⟨hPX, F.hK⟩
  have hMM : PM G aM μ s H := ⟨hPM, F.hK⟩
  refine lv_aload_n hx hb dL_law_1049 rfl (lv_at hl 1 rfl) ?_
  refine q_i (r_V S ⟨m_171, m_172, m_173, m_35, m_174⟩ ⟨rfl, by decide, by decide, by decide +kernel⟩ (c_suggested l G aX σ nm ns ((hr.eq 18 0 (by decide)).trans hr.hns) hr.hns4 ((hr.eq 17 0 (by decide)).trans hr.hnm) hr.hnm2) ⟨rfl, rfl, Nat.le_of_ble_eq_true rfl, Nat.le_of_ble_eq_true rfl⟩ (pv_X hXX 0 rfl rfl bl_PX (bX hXX)) (n := 0) (As := []) (rest := []) rfl hl.1 rfl (Nat.le_of_ble_eq_true rfl) ⟨Nat.le_trans (by omega) hc, Nat.le_trans (by omega) hs⟩ dL_law_1050) (fun r9 hr9 => ?_)
  subst hr9
  refine lv_aload_n hx hb dL_law_1053 rfl (lv_at hl 2 rfl) ?_
  refine q_w (r_V S ⟨m_758, m_759, m_760, m_40, m_761⟩ ⟨rfl, by decide, by decide, by decide +kernel⟩ (c4_suggested l G aM μ nm ns hr.hns hr.hns4 hr.hnm hr.hnm2 (AM aM) F.dM) ⟨rfl, rfl, Nat.le_of_ble_eq_true rfl, Nat.le_of_ble_eq_true rfl⟩ (pv_M hMM bl_PM (bM hMM)) (n := 0) (As := []) (rest := [.int ((suF σ nm ns 12).1)]) rfl hl.1 rfl (Nat.le_of_ble_eq_true rfl) ⟨Nat.le_trans (by omega) hc, Nat.le_trans (by omega) hs⟩ dL_law_1054) hS F.nM (fun b9 H2 L2 hb9 hM2 _ f10 hS2 => ?_)
  subst hb9
  obtain ⟨g1, g3⟩ := op_suggested hr
  have hX2 := F.keepX hPX f10
  have hO2 := F.keepO hPO f10
  refine lv_icmp_eq (tgt := 1590) hx hb dL_law_1057 (by decide) (fun c1 => ?_) (fun c1 => ?_)
  · refine lv_goto (tgt := 1590) hx hb dL_law_1590 (by decide) ?_
    exact W.widen (k := cells + 6) (n := slots + 36) (by omega) (by omega) (next _ _ _ _ g3 ⟨hX2, hM2, ⟨_, hO2⟩, hS2⟩ ls (lv_sub hl [0, 1, 2, 3, 4] rfl))
  · exact absurd g1 c1
